/-! equations of the instructions (made by gen21.py) -/
theorem zb_X0_init : zby 0 = cX0_init := rfl
theorem zo_X0_init : zoc 0 = 0 := rfl
theorem zr_X0_init : zrt 0 = none := rfl
theorem zh_X0_init : zhh 0 = [] := rfl
theorem zl_0_11 : zCL.lookup (0, 11) = some (3, 9) := by decide +kernel
theorem zn_9 : znp 9 = 0 := rfl
theorem zf_0_12 : zFL.lookup (0, 12) = some (1, 1) := by decide +kernel
theorem zf_0_18 : zFL.lookup (0, 18) = some (1, 2) := by decide +kernel
theorem zf_0_22 : zFL.lookup (0, 22) = some (1, 0) := by decide +kernel
theorem zb_X0_openAgain : zby 1 = cX0_openAgain := rfl
theorem zo_X0_openAgain : zoc 1 = 0 := rfl
theorem zr_X0_openAgain : zrt 1 = none := rfl
theorem zh_X0_openAgain : zhh 1 = [] := rfl
theorem zl_0_25 : zCL.lookup (0, 25) = some (0, 11) := by decide +kernel
theorem zn_11 : znp 11 = 0 := rfl
theorem zf_0_28 : zFL.lookup (0, 28) = some (1, 3) := by decide +kernel
theorem zb_X1_init : zby 2 = cX1_init := rfl
theorem zo_X1_init : zoc 2 = 1 := rfl
theorem zr_X1_init : zrt 2 = none := rfl
theorem zh_X1_init : zhh 2 = [] := rfl
theorem zf_1_9 : zFL.lookup (1, 9) = some (2, 2) := by decide +kernel
theorem zf_1_15 : zFL.lookup (1, 15) = some (2, 3) := by decide +kernel
theorem zl_1_20 : zCL.lookup (1, 20) = some (2, 112) := by decide +kernel
theorem zn_112 : znp 112 = 0 := rfl
theorem zf_1_21 : zFL.lookup (1, 21) = some (2, 4) := by decide +kernel
theorem zl_1_27 : zCL.lookup (1, 27) = some (3, 9) := by decide +kernel
theorem zf_1_28 : zFL.lookup (1, 28) = some (2, 5) := by decide +kernel
theorem zf_1_32 : zFL.lookup (1, 32) = some (2, 0) := by decide +kernel
theorem zf_1_36 : zFL.lookup (1, 36) = some (2, 1) := by decide +kernel
theorem zb_X1_nestOn : zby 3 = cX1_nestOn := rfl
theorem zo_X1_nestOn : zoc 3 = 1 := rfl
theorem zr_X1_nestOn : zrt 3 = none := rfl
theorem zh_X1_nestOn : zhh 3 = [] := rfl
theorem zf_1_39 : zFL.lookup (1, 39) = some (5, 1) := by decide +kernel
theorem zf_1_44 : zFL.lookup (1, 44) = some (1, 1) := by decide +kernel
theorem zl_1_49 : zCL.lookup (1, 49) = some (0, 18) := by decide +kernel
theorem zn_18 : znp 18 = 0 := rfl
theorem zl_1_53 : zCL.lookup (1, 53) = some (0, 19) := by decide +kernel
theorem zn_19 : znp 19 = 0 := rfl
theorem zl_1_56 : zCL.lookup (1, 56) = some (0, 41) := by decide +kernel
theorem zn_41 : znp 41 = 2 := rfl
theorem zl_1_60 : zCL.lookup (1, 60) = some (0, 45) := by decide +kernel
theorem zn_45 : znp 45 = 2 := rfl
theorem zl_1_64 : zCL.lookup (1, 64) = some (0, 120) := by decide +kernel
theorem zn_120 : znp 120 = 0 := rfl
theorem zl_1_67 : zCL.lookup (1, 67) = some (0, 119) := by decide +kernel
theorem zn_119 : znp 119 = 1 := rfl
theorem zf_1_71 : zFL.lookup (1, 71) = some (1, 3) := by decide +kernel
theorem zb_X1_takeOff : zby 4 = cX1_takeOff := rfl
theorem zo_X1_takeOff : zoc 4 = 1 := rfl
theorem zr_X1_takeOff : zrt 4 = none := rfl
theorem zh_X1_takeOff : zhh 4 = [] := rfl
theorem zl_1_72 : zCL.lookup (1, 72) = some (0, 115) := by decide +kernel
theorem zn_115 : znp 115 = 0 := rfl
theorem zl_1_75 : zCL.lookup (1, 75) = some (0, 117) := by decide +kernel
theorem zn_117 : znp 117 = 1 := rfl
theorem zl_1_81 : zCL.lookup (1, 81) = some (0, 32) := by decide +kernel
theorem zn_32 : znp 32 = 0 := rfl
theorem zb_X1_sheetsUsed : zby 5 = cX1_sheetsUsed := rfl
theorem zo_X1_sheetsUsed : zoc 5 = 1 := rfl
theorem zr_X1_sheetsUsed : zrt 5 = some (.int) := rfl
theorem zh_X1_sheetsUsed : zhh 5 = [] := rfl
theorem zf_1_84 : zFL.lookup (1, 84) = some (4, 1) := by decide +kernel
theorem zb_X1_keepStrokes : zby 6 = cX1_keepStrokes := rfl
theorem zo_X1_keepStrokes : zoc 6 = 1 := rfl
theorem zr_X1_keepStrokes : zrt 6 = none := rfl
theorem zh_X1_keepStrokes : zhh 6 = [] := rfl
theorem zl_1_87 : zCL.lookup (1, 87) = some (0, 12) := by decide +kernel
theorem zn_12 : znp 12 = 1 := rfl
theorem zb_X1_minutesFor : zby 7 = cX1_minutesFor := rfl
theorem zo_X1_minutesFor : zoc 7 = 1 := rfl
theorem zr_X1_minutesFor : zrt 7 = some (.int) := rfl
theorem zh_X1_minutesFor : zhh 7 = [] := rfl
theorem zl_1_92 : zCL.lookup (1, 92) = some (0, 8) := by decide +kernel
theorem zn_8 : znp 8 = 2 := rfl
theorem zb_X1_touchesEarlier : zby 8 = cX1_touchesEarlier := rfl
theorem zo_X1_touchesEarlier : zoc 8 = 1 := rfl
theorem zr_X1_touchesEarlier : zrt 8 = some (.boolean) := rfl
theorem zh_X1_touchesEarlier : zhh 8 = [] := rfl
theorem zl_1_96 : zCL.lookup (1, 96) = some (0, 31) := by decide +kernel
theorem zn_31 : znp 31 = 1 := rfl
theorem zb_X2_init : zby 9 = cX2_init := rfl
theorem zo_X2_init : zoc 9 = 2 := rfl
theorem zr_X2_init : zrt 9 = none := rfl
theorem zh_X2_init : zhh 9 = [] := rfl
theorem zf_2_9 : zFL.lookup (2, 9) = some (3, 0) := by decide +kernel
theorem zb_X2_add : zby 10 = cX2_add := rfl
theorem zo_X2_add : zoc 10 = 2 := rfl
theorem zr_X2_add : zrt 10 = none := rfl
theorem zh_X2_add : zhh 10 = [] := rfl
theorem zf_2_15 : zFL.lookup (2, 15) = some (3, 1) := by decide +kernel
theorem zb_X2_clear : zby 11 = cX2_clear := rfl
theorem zo_X2_clear : zoc 11 = 2 := rfl
theorem zr_X2_clear : zrt 11 = none := rfl
theorem zh_X2_clear : zhh 11 = [] := rfl
theorem zb_X2_copy : zby 12 = cX2_copy := rfl
theorem zo_X2_copy : zoc 12 = 2 := rfl
theorem zr_X2_copy : zrt 12 = none := rfl
theorem zh_X2_copy : zhh 12 = [] := rfl
theorem zb_X2_dropDoubled : zby 13 = cX2_dropDoubled := rfl
theorem zo_X2_dropDoubled : zoc 13 = 2 := rfl
theorem zr_X2_dropDoubled : zrt 13 = none := rfl
theorem zh_X2_dropDoubled : zhh 13 = [] := rfl
theorem zl_2_25 : zCL.lookup (2, 25) = some (1, 21) := by decide +kernel
theorem zn_21 : znp 21 = 1 := rfl
theorem zl_2_29 : zCL.lookup (2, 29) = some (1, 22) := by decide +kernel
theorem zn_22 : znp 22 = 1 := rfl
theorem zl_2_32 : zCL.lookup (2, 32) = some (0, 14) := by decide +kernel
theorem zn_14 : znp 14 = 2 := rfl
theorem zl_2_36 : zCL.lookup (2, 36) = some (0, 10) := by decide +kernel
theorem zn_10 : znp 10 = 2 := rfl
theorem zb_X2_has : zby 14 = cX2_has := rfl
theorem zo_X2_has : zoc 14 = 2 := rfl
theorem zr_X2_has : zrt 14 = some (.boolean) := rfl
theorem zh_X2_has : zhh 14 = [] := rfl
theorem zb_X2_firstWrongPoint : zby 15 = cX2_firstWrongPoint := rfl
theorem zo_X2_firstWrongPoint : zoc 15 = 2 := rfl
theorem zr_X2_firstWrongPoint : zrt 15 = some (.int) := rfl
theorem zh_X2_firstWrongPoint : zhh 15 = [] := rfl
theorem zl_2_40 : zCL.lookup (2, 40) = some (0, 16) := by decide +kernel
theorem zn_16 : znp 16 = 1 := rfl
theorem zb_X2_wrongOrNoPoint : zby 16 = cX2_wrongOrNoPoint := rfl
theorem zo_X2_wrongOrNoPoint : zoc 16 = 2 := rfl
theorem zr_X2_wrongOrNoPoint : zrt 16 = some (.int) := rfl
theorem zh_X2_wrongOrNoPoint : zhh 16 = [] := rfl
theorem zl_2_49 : zCL.lookup (2, 49) = some (0, 17) := by decide +kernel
theorem zn_17 : znp 17 = 1 := rfl
theorem zb_X2_strokesAt : zby 17 = cX2_strokesAt := rfl
theorem zo_X2_strokesAt : zoc 17 = 2 := rfl
theorem zr_X2_strokesAt : zrt 17 = some (.int) := rfl
theorem zh_X2_strokesAt : zhh 17 = [] := rfl
theorem zb_X2_wide : zby 18 = cX2_wide := rfl
theorem zo_X2_wide : zoc 18 = 2 := rfl
theorem zr_X2_wide : zrt 18 = some (.int) := rfl
theorem zh_X2_wide : zhh 18 = [] := rfl
theorem zl_2_52 : zCL.lookup (2, 52) = some (1, 23) := by decide +kernel
theorem zn_23 : znp 23 = 1 := rfl
theorem zb_X2_high : zby 19 = cX2_high := rfl
theorem zo_X2_high : zoc 19 = 2 := rfl
theorem zr_X2_high : zrt 19 = some (.int) := rfl
theorem zh_X2_high : zhh 19 = [] := rfl
theorem zl_2_58 : zCL.lookup (2, 58) = some (1, 24) := by decide +kernel
theorem zn_24 : znp 24 = 1 := rfl
theorem zb_X2_sumOfStrokes : zby 20 = cX2_sumOfStrokes := rfl
theorem zo_X2_sumOfStrokes : zoc 20 = 2 := rfl
theorem zr_X2_sumOfStrokes : zrt 20 = some (.float) := rfl
theorem zh_X2_sumOfStrokes : zhh 20 = [] := rfl
theorem zl_2_61 : zCL.lookup (2, 61) = some (1, 25) := by decide +kernel
theorem zn_25 : znp 25 = 2 := rfl
theorem zb_X2_fromOf : zby 21 = cX2_fromOf := rfl
theorem zo_X2_fromOf : zoc 21 = 2 := rfl
theorem zr_X2_fromOf : zrt 21 = some (.int) := rfl
theorem zh_X2_fromOf : zhh 21 = [] := rfl
theorem zb_X2_toOf : zby 22 = cX2_toOf := rfl
theorem zo_X2_toOf : zoc 22 = 2 := rfl
theorem zr_X2_toOf : zrt 22 = some (.int) := rfl
theorem zh_X2_toOf : zhh 22 = [] := rfl
theorem zb_X2_xOf : zby 23 = cX2_xOf := rfl
theorem zo_X2_xOf : zoc 23 = 2 := rfl
theorem zr_X2_xOf : zrt 23 = some (.int) := rfl
theorem zh_X2_xOf : zhh 23 = [] := rfl
theorem zb_X2_yOf : zby 24 = cX2_yOf := rfl
theorem zo_X2_yOf : zoc 24 = 2 := rfl
theorem zr_X2_yOf : zrt 24 = some (.int) := rfl
theorem zh_X2_yOf : zhh 24 = [] := rfl
theorem zb_X2_distance : zby 25 = cX2_distance := rfl
theorem zo_X2_distance : zoc 25 = 2 := rfl
theorem zr_X2_distance : zrt 25 = some (.float) := rfl
theorem zh_X2_distance : zhh 25 = [] := rfl
theorem zl_2_65 : zCL.lookup (2, 65) = some (1, 26) := by decide +kernel
theorem zn_26 : znp 26 = 1 := rfl
theorem zb_X2_root : zby 26 = cX2_root := rfl
theorem zo_X2_root : zoc 26 = 2 := rfl
theorem zr_X2_root : zrt 26 = some (.double) := rfl
theorem zh_X2_root : zhh 26 = [] := rfl
theorem zb_X3_init : zby 27 = cX3_init := rfl
theorem zo_X3_init : zoc 27 = 3 := rfl
theorem zr_X3_init : zrt 27 = none := rfl
theorem zh_X3_init : zhh 27 = [] := rfl
theorem zf_3_7 : zFL.lookup (3, 7) = some (4, 0) := by decide +kernel
theorem zb_X3_begin : zby 28 = cX3_begin := rfl
theorem zo_X3_begin : zoc 28 = 3 := rfl
theorem zr_X3_begin : zrt 28 = none := rfl
theorem zh_X3_begin : zhh 28 = [] := rfl
theorem zf_3_13 : zFL.lookup (3, 13) = some (4, 7) := by decide +kernel
theorem zf_3_17 : zFL.lookup (3, 17) = some (4, 1) := by decide +kernel
theorem zf_3_20 : zFL.lookup (3, 20) = some (4, 2) := by decide +kernel
theorem zf_3_23 : zFL.lookup (3, 23) = some (4, 3) := by decide +kernel
theorem zf_3_26 : zFL.lookup (3, 26) = some (4, 4) := by decide +kernel
theorem zf_3_29 : zFL.lookup (3, 29) = some (4, 5) := by decide +kernel
theorem zf_3_32 : zFL.lookup (3, 32) = some (4, 6) := by decide +kernel
theorem zl_3_35 : zCL.lookup (3, 35) = some (0, 37) := by decide +kernel
theorem zn_37 : znp 37 = 0 := rfl
theorem zb_X3_holds : zby 29 = cX3_holds := rfl
theorem zo_X3_holds : zoc 29 = 3 := rfl
theorem zr_X3_holds : zrt 29 = some (.boolean) := rfl
theorem zh_X3_holds : zhh 29 = [] := rfl
theorem zb_X3_area : zby 30 = cX3_area := rfl
theorem zo_X3_area : zoc 30 = 3 := rfl
theorem zr_X3_area : zrt 30 = some (.int) := rfl
theorem zh_X3_area : zhh 30 = [] := rfl
theorem zb_X3_touches : zby 31 = cX3_touches := rfl
theorem zo_X3_touches : zoc 31 = 3 := rfl
theorem zr_X3_touches : zrt 31 = some (.boolean) := rfl
theorem zh_X3_touches : zhh 31 = [] := rfl
theorem zb_X3_release : zby 32 = cX3_release := rfl
theorem zo_X3_release : zoc 32 = 3 := rfl
theorem zr_X3_release : zrt 32 = none := rfl
theorem zh_X3_release : zhh 32 = [] := rfl
theorem zl_3_38 : zCL.lookup (3, 38) = some (0, 33) := by decide +kernel
theorem zn_33 : znp 33 = 0 := rfl
theorem zl_3_42 : zCL.lookup (3, 42) = some (0, 35) := by decide +kernel
theorem zn_35 : znp 35 = 0 := rfl
theorem zb_X3_hasAllFree : zby 33 = cX3_hasAllFree := rfl
theorem zo_X3_hasAllFree : zoc 33 = 3 := rfl
theorem zr_X3_hasAllFree : zrt 33 = some (.boolean) := rfl
theorem zh_X3_hasAllFree : zhh 33 = [] := rfl
theorem zf_3_45 : zFL.lookup (3, 45) = some (4, 8) := by decide +kernel
theorem zl_3_48 : zCL.lookup (3, 48) = some (1, 34) := by decide +kernel
theorem zn_34 : znp 34 = 1 := rfl
theorem zf_3_52 : zFL.lookup (3, 52) = some (4, 9) := by decide +kernel
theorem zf_3_55 : zFL.lookup (3, 55) = some (4, 10) := by decide +kernel
theorem zb_X3_isFreeOrNone : zby 34 = cX3_isFreeOrNone := rfl
theorem zo_X3_isFreeOrNone : zoc 34 = 3 := rfl
theorem zr_X3_isFreeOrNone : zrt 34 = some (.boolean) := rfl
theorem zh_X3_isFreeOrNone : zhh 34 = [] := rfl
theorem zb_X3_endPieces : zby 35 = cX3_endPieces := rfl
theorem zo_X3_endPieces : zoc 35 = 3 := rfl
theorem zr_X3_endPieces : zrt 35 = none := rfl
theorem zh_X3_endPieces : zhh 35 = [] := rfl
theorem zl_3_58 : zCL.lookup (3, 58) = some (1, 36) := by decide +kernel
theorem zn_36 : znp 36 = 1 := rfl
theorem zb_X3_end : zby 36 = cX3_end := rfl
theorem zo_X3_end : zoc 36 = 3 := rfl
theorem zr_X3_end : zrt 36 = none := rfl
theorem zh_X3_end : zhh 36 = [] := rfl
theorem zb_X3_joinPieces : zby 37 = cX3_joinPieces := rfl
theorem zo_X3_joinPieces : zoc 37 = 3 := rfl
theorem zr_X3_joinPieces : zrt 37 = none := rfl
theorem zh_X3_joinPieces : zhh 37 = [] := rfl
theorem zb_Jxa1e45_init_da8c8 : zby 110 = cJxa1e45_init_da8c8 := rfl
theorem zo_Jxa1e45_init_da8c8 : zoc 110 = 8 := rfl
theorem zr_Jxa1e45_init_da8c8 : zrt 110 = none := rfl
theorem zh_Jxa1e45_init_da8c8 : zhh 110 = [] := rfl
theorem zb_Jxc12de_init_da8c8 : zby 111 = cJxc12de_init_da8c8 := rfl
theorem zo_Jxc12de_init_da8c8 : zoc 111 = 9 := rfl
theorem zr_Jxc12de_init_da8c8 : zrt 111 = none := rfl
theorem zh_Jxc12de_init_da8c8 : zhh 111 = [] := rfl
theorem zl_9_1 : zCL.lookup (9, 1) = some (2, 110) := by decide +kernel
theorem zn_110 : znp 110 = 0 := rfl
theorem zf_9_7 : zFL.lookup (9, 7) = some (0, 0) := by decide +kernel
theorem zb_Jx4a65c_init_da8c8 : zby 112 = cJx4a65c_init_da8c8 := rfl
theorem zo_Jx4a65c_init_da8c8 : zoc 112 = 10 := rfl
theorem zr_Jx4a65c_init_da8c8 : zrt 112 = none := rfl
theorem zh_Jx4a65c_init_da8c8 : zhh 112 = [] := rfl
theorem zl_10_1 : zCL.lookup (10, 1) = some (2, 111) := by decide +kernel
theorem zn_111 : znp 111 = 0 := rfl
theorem zf_10_9 : zFL.lookup (10, 9) = some (0, 1) := by decide +kernel
theorem zb_Jx4a65c_grow_92f84 : zby 113 = cJx4a65c_grow_92f84 := rfl
theorem zo_Jx4a65c_grow_92f84 : zoc 113 = 10 := rfl
theorem zr_Jx4a65c_grow_92f84 : zrt 113 = some (.array (.object "java/lang/Object")) := rfl
theorem zh_Jx4a65c_grow_92f84 : zhh 113 = [] := rfl
theorem zl_10_73 : zCL.lookup (10, 73) = some (1, 124) := by decide +kernel
theorem zn_124 : znp 124 = 3 := rfl
theorem zl_10_66 : zCL.lookup (10, 66) = some (1, 121) := by decide +kernel
theorem zn_121 : znp 121 = 2 := rfl
theorem zb_Jx4a65c_grow_d5877 : zby 114 = cJx4a65c_grow_d5877 := rfl
theorem zo_Jx4a65c_grow_d5877 : zoc 114 = 10 := rfl
theorem zr_Jx4a65c_grow_d5877 : zrt 114 = some (.array (.object "java/lang/Object")) := rfl
theorem zh_Jx4a65c_grow_d5877 : zhh 114 = [] := rfl
theorem zf_10_48 : zFL.lookup (10, 48) = some (0, 2) := by decide +kernel
theorem zl_10_69 : zCL.lookup (10, 69) = some (0, 113) := by decide +kernel
theorem zn_113 : znp 113 = 1 := rfl
theorem zb_Jx4a65c_size_8abf5 : zby 115 = cJx4a65c_size_8abf5 := rfl
theorem zo_Jx4a65c_size_8abf5 : zoc 115 = 10 := rfl
theorem zr_Jx4a65c_size_8abf5 : zrt 115 = some (.int) := rfl
theorem zh_Jx4a65c_size_8abf5 : zhh 115 = [] := rfl
theorem zb_Jx4a65c_elementData_915e3 : zby 116 = cJx4a65c_elementData_915e3 := rfl
theorem zo_Jx4a65c_elementData_915e3 : zoc 116 = 10 := rfl
theorem zr_Jx4a65c_elementData_915e3 : zrt 116 = some (.object "java/lang/Object") := rfl
theorem zh_Jx4a65c_elementData_915e3 : zhh 116 = [] := rfl
theorem zb_Jx4a65c_get_915e3 : zby 117 = cJx4a65c_get_915e3 := rfl
theorem zo_Jx4a65c_get_915e3 : zoc 117 = 10 := rfl
theorem zr_Jx4a65c_get_915e3 : zrt 117 = some (.object "java/lang/Object") := rfl
theorem zh_Jx4a65c_get_915e3 : zhh 117 = [] := rfl
theorem zl_10_118 : zCL.lookup (10, 118) = some (1, 123) := by decide +kernel
theorem zn_123 : znp 123 = 2 := rfl
theorem zl_10_123 : zCL.lookup (10, 123) = some (0, 116) := by decide +kernel
theorem zn_116 : znp 116 = 1 := rfl
theorem zb_Jx4a65c_add_72be8 : zby 118 = cJx4a65c_add_72be8 := rfl
theorem zo_Jx4a65c_add_72be8 : zoc 118 = 10 := rfl
theorem zr_Jx4a65c_add_72be8 : zrt 118 = none := rfl
theorem zh_Jx4a65c_add_72be8 : zhh 118 = [] := rfl
theorem zl_10_129 : zCL.lookup (10, 129) = some (0, 114) := by decide +kernel
theorem zn_114 : znp 114 = 0 := rfl
theorem zb_Jx4a65c_add_9ea2d : zby 119 = cJx4a65c_add_9ea2d := rfl
theorem zo_Jx4a65c_add_9ea2d : zoc 119 = 10 := rfl
theorem zr_Jx4a65c_add_9ea2d : zrt 119 = some (.boolean) := rfl
theorem zh_Jx4a65c_add_9ea2d : zhh 119 = [] := rfl
theorem zf_10_63 : zFL.lookup (10, 63) = some (0, 0) := by decide +kernel
theorem zl_10_131 : zCL.lookup (10, 131) = some (0, 118) := by decide +kernel
theorem zn_118 : znp 118 = 3 := rfl
theorem zb_Jx4a65c_clear_da8c8 : zby 120 = cJx4a65c_clear_da8c8 := rfl
theorem zo_Jx4a65c_clear_da8c8 : zoc 120 = 10 := rfl
theorem zr_Jx4a65c_clear_da8c8 : zrt 120 = none := rfl
theorem zh_Jx4a65c_clear_da8c8 : zhh 120 = [] := rfl
theorem zb_J7_copyOf_1904c : zby 121 = cJ7_copyOf_1904c := rfl
theorem zo_J7_copyOf_1904c : zoc 121 = 11 := rfl
theorem zr_J7_copyOf_1904c : zrt 121 = some (.array (.object "java/lang/Object")) := rfl
theorem zh_J7_copyOf_1904c : zhh 121 = [] := rfl
theorem zl_11_300 : zCL.lookup (11, 300) = some (1, 122) := by decide +kernel
theorem zn_122 : znp 122 = 3 := rfl
theorem zb_J7_copyOf_6403c : zby 122 = cJ7_copyOf_6403c := rfl
theorem zo_J7_copyOf_6403c : zoc 122 = 11 := rfl
theorem zr_J7_copyOf_6403c : zrt 122 = some (.array (.object "java/lang/Object")) := rfl
theorem zh_J7_copyOf_6403c : zhh 122 = [] := rfl
theorem zb_J15_checkIndex_7cf53 : zby 123 = cJ15_checkIndex_7cf53 := rfl
theorem zo_J15_checkIndex_7cf53 : zoc 123 = 12 := rfl
theorem zr_J15_checkIndex_7cf53 : zrt 123 = some (.int) := rfl
theorem zh_J15_checkIndex_7cf53 : zhh 123 = [] := rfl
theorem zl_12_105 : zCL.lookup (12, 105) = some (1, 125) := by decide +kernel
theorem zn_125 : znp 125 = 3 := rfl
theorem zb_J8_newLength_cabcc : zby 124 = cJ8_newLength_cabcc := rfl
theorem zo_J8_newLength_cabcc : zoc 124 = 13 := rfl
theorem zr_J8_newLength_cabcc : zrt 124 = some (.int) := rfl
theorem zh_J8_newLength_cabcc : zhh 124 = [] := rfl
theorem zb_J3_checkIndex_8e157 : zby 125 = cJ3_checkIndex_8e157 := rfl
theorem zo_J3_checkIndex_8e157 : zoc 125 = 14 := rfl
theorem zr_J3_checkIndex_8e157 : zrt 125 = some (.int) := rfl
theorem zh_J3_checkIndex_8e157 : zhh 125 = [] := rfl
section ZEQ0
variable {X : ZX} {d a b : Nat} {l0 l1 l2 l3 l4 l5 l6 l7 l8 l9 l10 l11 v v1 v2 v3 v4 v5 v6 v7 : Value} {S : List Value} {st : ZS} {P : ZO → ZS → Prop} {x y x3 x4 x5 x6 x7 : Int32} {u u2 : UInt32} {w w2 : UInt64} {q1 q2 : Int64}
theorem E_X0_init_0 : AW X d 0 0 [.ref a, l1] S st P = AW X d 0 1 [.ref a, l1] (.ref a :: S) st P := zAW_st (zd_of zb_X0_init dX0_init_0) rfl rfl
theorem E_X0_init_0n : AW X d 0 0 [.null, l1] S st P = AW X d 0 1 [.null, l1] (.null :: S) st P := zAW_st (zd_of zb_X0_init dX0_init_0) rfl rfl
theorem E_X0_init_1 : AW X d 0 1 [l0, l1] (.ref a :: S) st P = zif (S.length ≤ 4) (AW X d 0 4 [l0, l1] S st P) := zq_obj (zd_of zb_X0_init dX0_init_1) zo_X0_init (by decide) (by decide +kernel)
theorem E_X0_init_4 : AW X d 0 4 [.ref a, l1] S st P = AW X d 0 5 [.ref a, l1] (.ref a :: S) st P := zAW_st (zd_of zb_X0_init dX0_init_4) rfl rfl
theorem E_X0_init_4n : AW X d 0 4 [.null, l1] S st P = AW X d 0 5 [.null, l1] (.null :: S) st P := zAW_st (zd_of zb_X0_init dX0_init_4) rfl rfl
theorem E_X0_init_5 : AW X d 0 5 [l0, l1] S st P = AW X d 0 8 [l0, l1] (.ref st.2.length :: S) (znew st 3) P := zq_new (zd_of zb_X0_init dX0_init_5) zo_X0_init (by decide +kernel)
theorem E_X0_init_8 : AW X d 0 8 [l0, l1] (.ref a :: S) st P = AW X d 0 9 [l0, l1] (.ref a :: .ref a :: S) st P := zq_dup (zd_of zb_X0_init dX0_init_8) rfl
theorem E_X0_init_8n : AW X d 0 8 [l0, l1] (.null :: S) st P = AW X d 0 9 [l0, l1] (.null :: .null :: S) st P := zq_dup (zd_of zb_X0_init dX0_init_8) rfl
theorem E_X0_init_8i : AW X d 0 8 [l0, l1] (.int x :: S) st P = AW X d 0 9 [l0, l1] (.int x :: .int x :: S) st P := zq_dup (zd_of zb_X0_init dX0_init_8) rfl
theorem E_X0_init_8f : AW X d 0 8 [l0, l1] (.float u :: S) st P = AW X d 0 9 [l0, l1] (.float u :: .float u :: S) st P := zq_dup (zd_of zb_X0_init dX0_init_8) rfl
theorem E_X0_init_9 : AW X d 0 9 [l0, l1] (.ref a :: S) st P = zif (S.length ≤ 4) (AC X d 9 [.ref a] st (zaft X d 0 9 [l0, l1] S P)) := zq_callI (B := []) (zd_of zb_X0_init dX0_init_9) zo_X0_init zl_0_11 (by decide) (by decide) zn_9 rfl rfl
theorem E_X0_init_12 : AW X d 0 12 [l0, l1] (.ref b :: .ref a :: S) st P = zwith (zget st a 1 1) fun _ => AW X d 0 15 [l0, l1] S (zput st a 1 (.ref b)) P := zq_putfield (zd_of zb_X0_init dX0_init_12) zo_X0_init zf_0_12 rfl (Or.inr (by decide +kernel))
theorem E_X0_init_12n : AW X d 0 12 [l0, l1] (.null :: .ref a :: S) st P = zwith (zget st a 1 1) fun _ => AW X d 0 15 [l0, l1] S (zput st a 1 (.null)) P := zq_putfield (zd_of zb_X0_init dX0_init_12) zo_X0_init zf_0_12 rfl (Or.inr (by decide +kernel))
theorem E_X0_init_15 : AW X d 0 15 [.ref a, l1] S st P = AW X d 0 16 [.ref a, l1] (.ref a :: S) st P := zAW_st (zd_of zb_X0_init dX0_init_15) rfl rfl
theorem E_X0_init_15n : AW X d 0 15 [.null, l1] S st P = AW X d 0 16 [.null, l1] (.null :: S) st P := zAW_st (zd_of zb_X0_init dX0_init_15) rfl rfl
theorem E_X0_init_16 : AW X d 0 16 [l0, l1] S st P = AW X d 0 17 [l0, l1] (.int 0 :: S) st P := zq_iconst (zd_of zb_X0_init dX0_init_16) (by decide)
theorem E_X0_init_17 : AW X d 0 17 [l0, l1] (.int x :: .ref a :: S) st P = zwith (zget st a 1 2) fun _ => AW X d 0 20 [l0, l1] S (zput st a 2 (.int x)) P := zq_putfield (zd_of zb_X0_init dX0_init_17) zo_X0_init zf_0_18 rfl (Or.inl (by decide +kernel))
theorem E_X0_init_20 : AW X d 0 20 [.ref a, l1] S st P = AW X d 0 21 [.ref a, l1] (.ref a :: S) st P := zAW_st (zd_of zb_X0_init dX0_init_20) rfl rfl
theorem E_X0_init_20n : AW X d 0 20 [.null, l1] S st P = AW X d 0 21 [.null, l1] (.null :: S) st P := zAW_st (zd_of zb_X0_init dX0_init_20) rfl rfl
theorem E_X0_init_21 : AW X d 0 21 [l0, .int x] S st P = AW X d 0 22 [l0, .int x] (.int x :: S) st P := zAW_st (zd_of zb_X0_init dX0_init_21) rfl rfl
theorem E_X0_init_22 : AW X d 0 22 [l0, l1] (.int x :: .ref a :: S) st P = zwith (zget st a 1 0) fun _ => AW X d 0 25 [l0, l1] S (zput st a 0 (.int x)) P := zq_putfield (zd_of zb_X0_init dX0_init_22) zo_X0_init zf_0_22 rfl (Or.inr (by decide +kernel))
theorem E_X0_init_25 : AW X d 0 25 [l0, l1] [] st P = P (.inl none) st := zAW_ret (w := (.inl none, st)) (zd_of zb_X0_init dX0_init_25) rfl rfl (by simp only [zfin, zr_X0_init])
theorem A_X0_init : AC X (d + 1) 0 [.ref a, .int x] st P = AW X d 0 0 [.ref a, .int x] [] st P := AC_eq ⟨⟨(show 2 ≤ zml 0 by decide +kernel), by decide +kernel⟩, by simp [zc1_int, zc1_ref, zc1_float]⟩
theorem E_X0_openAgain_0 : AW X d 1 0 [.ref a] S st P = AW X d 1 1 [.ref a] (.ref a :: S) st P := zAW_st (zd_of zb_X0_openAgain dX0_openAgain_0) rfl rfl
theorem E_X0_openAgain_0n : AW X d 1 0 [.null] S st P = AW X d 1 1 [.null] (.null :: S) st P := zAW_st (zd_of zb_X0_openAgain dX0_openAgain_0) rfl rfl
theorem E_X0_openAgain_1 : AW X d 1 1 [l0] (.ref a :: S) st P = zwith (zget st a 1 1) fun v => AW X d 1 4 [l0] (v :: S) st P := zq_getfield (zd_of zb_X0_openAgain dX0_openAgain_1) zo_X0_openAgain zf_0_12
theorem E_X0_openAgain_4 : AW X d 1 4 [l0] (.ref a :: S) st P = zif (zis st a 3 = true) (zif (S.length ≤ 4) (AC X d 11 [.ref a] st (zaft X d 1 4 [l0] S P))) := zq_callV (B := []) (zd_of zb_X0_openAgain dX0_openAgain_4) zo_X0_openAgain (by decide) zl_0_25 zn_11 rfl rfl rfl
theorem E_X0_openAgain_7 : AW X d 1 7 [.ref a] S st P = AW X d 1 8 [.ref a] (.ref a :: S) st P := zAW_st (zd_of zb_X0_openAgain dX0_openAgain_7) rfl rfl
theorem E_X0_openAgain_7n : AW X d 1 7 [.null] S st P = AW X d 1 8 [.null] (.null :: S) st P := zAW_st (zd_of zb_X0_openAgain dX0_openAgain_7) rfl rfl
theorem E_X0_openAgain_8 : AW X d 1 8 [l0] S st P = AW X d 1 9 [l0] (.int 0 :: S) st P := zq_iconst (zd_of zb_X0_openAgain dX0_openAgain_8) (by decide)
theorem E_X0_openAgain_9 : AW X d 1 9 [l0] (.int x :: .ref a :: S) st P = zwith (zget st a 1 2) fun _ => AW X d 1 12 [l0] S (zput st a 2 (.int x)) P := zq_putfield (zd_of zb_X0_openAgain dX0_openAgain_9) zo_X0_openAgain zf_0_18 rfl (Or.inl (by decide +kernel))
theorem E_X0_openAgain_12 : AW X d 1 12 [.ref a] S st P = AW X d 1 13 [.ref a] (.ref a :: S) st P := zAW_st (zd_of zb_X0_openAgain dX0_openAgain_12) rfl rfl
theorem E_X0_openAgain_12n : AW X d 1 12 [.null] S st P = AW X d 1 13 [.null] (.null :: S) st P := zAW_st (zd_of zb_X0_openAgain dX0_openAgain_12) rfl rfl
theorem E_X0_openAgain_13 : AW X d 1 13 [l0] (.ref a :: S) st P = AW X d 1 14 [l0] (.ref a :: .ref a :: S) st P := zq_dup (zd_of zb_X0_openAgain dX0_openAgain_13) rfl
theorem E_X0_openAgain_13n : AW X d 1 13 [l0] (.null :: S) st P = AW X d 1 14 [l0] (.null :: .null :: S) st P := zq_dup (zd_of zb_X0_openAgain dX0_openAgain_13) rfl
theorem E_X0_openAgain_13i : AW X d 1 13 [l0] (.int x :: S) st P = AW X d 1 14 [l0] (.int x :: .int x :: S) st P := zq_dup (zd_of zb_X0_openAgain dX0_openAgain_13) rfl
theorem E_X0_openAgain_13f : AW X d 1 13 [l0] (.float u :: S) st P = AW X d 1 14 [l0] (.float u :: .float u :: S) st P := zq_dup (zd_of zb_X0_openAgain dX0_openAgain_13) rfl
theorem E_X0_openAgain_14 : AW X d 1 14 [l0] (.ref a :: S) st P = zwith (zget st a 1 3) fun v => AW X d 1 17 [l0] (v :: S) st P := zq_getfield (zd_of zb_X0_openAgain dX0_openAgain_14) zo_X0_openAgain zf_0_28
theorem E_X0_openAgain_17 : AW X d 1 17 [l0] S st P = AW X d 1 18 [l0] (.int 1 :: S) st P := zq_iconst (zd_of zb_X0_openAgain dX0_openAgain_17) (by decide)
theorem E_X0_openAgain_18 : AW X d 1 18 [l0] (.int y :: .int x :: S) st P = AW X d 1 19 [l0] (.int (x + y) :: S) st P := zAW_st (zd_of zb_X0_openAgain dX0_openAgain_18) rfl rfl
theorem E_X0_openAgain_19 : AW X d 1 19 [l0] (.int x :: .ref a :: S) st P = zwith (zget st a 1 3) fun _ => AW X d 1 22 [l0] S (zput st a 3 (.int x)) P := zq_putfield (zd_of zb_X0_openAgain dX0_openAgain_19) zo_X0_openAgain zf_0_28 rfl (Or.inl (by decide +kernel))
theorem E_X0_openAgain_22 : AW X d 1 22 [l0] [] st P = P (.inl none) st := zAW_ret (w := (.inl none, st)) (zd_of zb_X0_openAgain dX0_openAgain_22) rfl rfl (by simp only [zfin, zr_X0_openAgain])
theorem A_X0_openAgain : AC X (d + 1) 1 [.ref a] st P = AW X d 1 0 [.ref a] [] st P := AC_eq ⟨⟨(show 1 ≤ zml 1 by decide +kernel), by decide +kernel⟩, by simp [zc1_int, zc1_ref, zc1_float]⟩
theorem E_X1_init_0 : AW X d 2 0 [.ref a, l1, l2] S st P = AW X d 2 1 [.ref a, l1, l2] (.ref a :: S) st P := zAW_st (zd_of zb_X1_init dX1_init_0) rfl rfl
theorem E_X1_init_0n : AW X d 2 0 [.null, l1, l2] S st P = AW X d 2 1 [.null, l1, l2] (.null :: S) st P := zAW_st (zd_of zb_X1_init dX1_init_0) rfl rfl
theorem E_X1_init_1 : AW X d 2 1 [l0, l1, l2] (.ref a :: S) st P = zif (S.length ≤ 4) (AW X d 2 4 [l0, l1, l2] S st P) := zq_obj (zd_of zb_X1_init dX1_init_1) zo_X1_init (by decide) (by decide +kernel)
theorem E_X1_init_4 : AW X d 2 4 [.ref a, l1, l2] S st P = AW X d 2 5 [.ref a, l1, l2] (.ref a :: S) st P := zAW_st (zd_of zb_X1_init dX1_init_4) rfl rfl
theorem E_X1_init_4n : AW X d 2 4 [.null, l1, l2] S st P = AW X d 2 5 [.null, l1, l2] (.null :: S) st P := zAW_st (zd_of zb_X1_init dX1_init_4) rfl rfl
theorem E_X1_init_5 : AW X d 2 5 [l0, l1, l2] S st P = AW X d 2 6 [l0, l1, l2] (.int 0 :: S) st P := zq_iconst (zd_of zb_X1_init dX1_init_5) (by decide)
theorem E_X1_init_6 : AW X d 2 6 [l0, l1, l2] (.int x :: .ref a :: S) st P = zwith (zget st a 2 2) fun _ => AW X d 2 9 [l0, l1, l2] S (zput st a 2 (.int x)) P := zq_putfield (zd_of zb_X1_init dX1_init_6) zo_X1_init zf_1_9 rfl (Or.inl (by decide +kernel))
theorem E_X1_init_9 : AW X d 2 9 [.ref a, l1, l2] S st P = AW X d 2 10 [.ref a, l1, l2] (.ref a :: S) st P := zAW_st (zd_of zb_X1_init dX1_init_9) rfl rfl
theorem E_X1_init_9n : AW X d 2 9 [.null, l1, l2] S st P = AW X d 2 10 [.null, l1, l2] (.null :: S) st P := zAW_st (zd_of zb_X1_init dX1_init_9) rfl rfl
theorem E_X1_init_10 : AW X d 2 10 [l0, l1, l2] S st P = AW X d 2 11 [l0, l1, l2] (.int (-1) :: S) st P := zq_iconst (zd_of zb_X1_init dX1_init_10) (by decide)
theorem E_X1_init_11 : AW X d 2 11 [l0, l1, l2] (.int x :: .ref a :: S) st P = zwith (zget st a 2 3) fun _ => AW X d 2 14 [l0, l1, l2] S (zput st a 3 (.int x)) P := zq_putfield (zd_of zb_X1_init dX1_init_11) zo_X1_init zf_1_15 rfl (Or.inl (by decide +kernel))
theorem E_X1_init_14 : AW X d 2 14 [.ref a, l1, l2] S st P = AW X d 2 15 [.ref a, l1, l2] (.ref a :: S) st P := zAW_st (zd_of zb_X1_init dX1_init_14) rfl rfl
theorem E_X1_init_14n : AW X d 2 14 [.null, l1, l2] S st P = AW X d 2 15 [.null, l1, l2] (.null :: S) st P := zAW_st (zd_of zb_X1_init dX1_init_14) rfl rfl
theorem E_X1_init_15 : AW X d 2 15 [l0, l1, l2] S st P = AW X d 2 18 [l0, l1, l2] (.ref st.2.length :: S) (znew st 0) P := zq_new (zd_of zb_X1_init dX1_init_15) zo_X1_init (by decide +kernel)
theorem E_X1_init_18 : AW X d 2 18 [l0, l1, l2] (.ref a :: S) st P = AW X d 2 19 [l0, l1, l2] (.ref a :: .ref a :: S) st P := zq_dup (zd_of zb_X1_init dX1_init_18) rfl
theorem E_X1_init_18n : AW X d 2 18 [l0, l1, l2] (.null :: S) st P = AW X d 2 19 [l0, l1, l2] (.null :: .null :: S) st P := zq_dup (zd_of zb_X1_init dX1_init_18) rfl
theorem E_X1_init_18i : AW X d 2 18 [l0, l1, l2] (.int x :: S) st P = AW X d 2 19 [l0, l1, l2] (.int x :: .int x :: S) st P := zq_dup (zd_of zb_X1_init dX1_init_18) rfl
theorem E_X1_init_18f : AW X d 2 18 [l0, l1, l2] (.float u :: S) st P = AW X d 2 19 [l0, l1, l2] (.float u :: .float u :: S) st P := zq_dup (zd_of zb_X1_init dX1_init_18) rfl
theorem E_X1_init_19 : AW X d 2 19 [l0, l1, l2] (.ref a :: S) st P = zif (S.length ≤ 4) (AC X d 112 [.ref a] st (zaft X d 2 19 [l0, l1, l2] S P)) := zq_callI (B := []) (zd_of zb_X1_init dX1_init_19) zo_X1_init zl_1_20 (by decide) (by decide) zn_112 rfl rfl
theorem E_X1_init_22 : AW X d 2 22 [l0, l1, l2] (.ref b :: .ref a :: S) st P = zwith (zget st a 2 4) fun _ => AW X d 2 25 [l0, l1, l2] S (zput st a 4 (.ref b)) P := zq_putfield (zd_of zb_X1_init dX1_init_22) zo_X1_init zf_1_21 rfl (Or.inr (by decide +kernel))
theorem E_X1_init_22n : AW X d 2 22 [l0, l1, l2] (.null :: .ref a :: S) st P = zwith (zget st a 2 4) fun _ => AW X d 2 25 [l0, l1, l2] S (zput st a 4 (.null)) P := zq_putfield (zd_of zb_X1_init dX1_init_22) zo_X1_init zf_1_21 rfl (Or.inr (by decide +kernel))
theorem E_X1_init_25 : AW X d 2 25 [.ref a, l1, l2] S st P = AW X d 2 26 [.ref a, l1, l2] (.ref a :: S) st P := zAW_st (zd_of zb_X1_init dX1_init_25) rfl rfl
theorem E_X1_init_25n : AW X d 2 25 [.null, l1, l2] S st P = AW X d 2 26 [.null, l1, l2] (.null :: S) st P := zAW_st (zd_of zb_X1_init dX1_init_25) rfl rfl
theorem E_X1_init_26 : AW X d 2 26 [l0, l1, l2] S st P = AW X d 2 29 [l0, l1, l2] (.ref st.2.length :: S) (znew st 3) P := zq_new (zd_of zb_X1_init dX1_init_26) zo_X1_init (by decide +kernel)
theorem E_X1_init_29 : AW X d 2 29 [l0, l1, l2] (.ref a :: S) st P = AW X d 2 30 [l0, l1, l2] (.ref a :: .ref a :: S) st P := zq_dup (zd_of zb_X1_init dX1_init_29) rfl
theorem E_X1_init_29n : AW X d 2 29 [l0, l1, l2] (.null :: S) st P = AW X d 2 30 [l0, l1, l2] (.null :: .null :: S) st P := zq_dup (zd_of zb_X1_init dX1_init_29) rfl
theorem E_X1_init_29i : AW X d 2 29 [l0, l1, l2] (.int x :: S) st P = AW X d 2 30 [l0, l1, l2] (.int x :: .int x :: S) st P := zq_dup (zd_of zb_X1_init dX1_init_29) rfl
theorem E_X1_init_29f : AW X d 2 29 [l0, l1, l2] (.float u :: S) st P = AW X d 2 30 [l0, l1, l2] (.float u :: .float u :: S) st P := zq_dup (zd_of zb_X1_init dX1_init_29) rfl
theorem E_X1_init_30 : AW X d 2 30 [l0, l1, l2] (.ref a :: S) st P = zif (S.length ≤ 4) (AC X d 9 [.ref a] st (zaft X d 2 30 [l0, l1, l2] S P)) := zq_callI (B := []) (zd_of zb_X1_init dX1_init_30) zo_X1_init zl_1_27 (by decide) (by decide) zn_9 rfl rfl
theorem E_X1_init_33 : AW X d 2 33 [l0, l1, l2] (.ref b :: .ref a :: S) st P = zwith (zget st a 2 5) fun _ => AW X d 2 36 [l0, l1, l2] S (zput st a 5 (.ref b)) P := zq_putfield (zd_of zb_X1_init dX1_init_33) zo_X1_init zf_1_28 rfl (Or.inr (by decide +kernel))
theorem E_X1_init_33n : AW X d 2 33 [l0, l1, l2] (.null :: .ref a :: S) st P = zwith (zget st a 2 5) fun _ => AW X d 2 36 [l0, l1, l2] S (zput st a 5 (.null)) P := zq_putfield (zd_of zb_X1_init dX1_init_33) zo_X1_init zf_1_28 rfl (Or.inr (by decide +kernel))
theorem E_X1_init_36 : AW X d 2 36 [.ref a, l1, l2] S st P = AW X d 2 37 [.ref a, l1, l2] (.ref a :: S) st P := zAW_st (zd_of zb_X1_init dX1_init_36) rfl rfl
theorem E_X1_init_36n : AW X d 2 36 [.null, l1, l2] S st P = AW X d 2 37 [.null, l1, l2] (.null :: S) st P := zAW_st (zd_of zb_X1_init dX1_init_36) rfl rfl
theorem E_X1_init_37 : AW X d 2 37 [l0, .ref a, l2] S st P = AW X d 2 38 [l0, .ref a, l2] (.ref a :: S) st P := zAW_st (zd_of zb_X1_init dX1_init_37) rfl rfl
theorem E_X1_init_37n : AW X d 2 37 [l0, .null, l2] S st P = AW X d 2 38 [l0, .null, l2] (.null :: S) st P := zAW_st (zd_of zb_X1_init dX1_init_37) rfl rfl
theorem E_X1_init_38 : AW X d 2 38 [l0, l1, l2] (.ref b :: .ref a :: S) st P = zwith (zget st a 2 0) fun _ => AW X d 2 41 [l0, l1, l2] S (zput st a 0 (.ref b)) P := zq_putfield (zd_of zb_X1_init dX1_init_38) zo_X1_init zf_1_32 rfl (Or.inr (by decide +kernel))
theorem E_X1_init_38n : AW X d 2 38 [l0, l1, l2] (.null :: .ref a :: S) st P = zwith (zget st a 2 0) fun _ => AW X d 2 41 [l0, l1, l2] S (zput st a 0 (.null)) P := zq_putfield (zd_of zb_X1_init dX1_init_38) zo_X1_init zf_1_32 rfl (Or.inr (by decide +kernel))
theorem E_X1_init_41 : AW X d 2 41 [.ref a, l1, l2] S st P = AW X d 2 42 [.ref a, l1, l2] (.ref a :: S) st P := zAW_st (zd_of zb_X1_init dX1_init_41) rfl rfl
theorem E_X1_init_41n : AW X d 2 41 [.null, l1, l2] S st P = AW X d 2 42 [.null, l1, l2] (.null :: S) st P := zAW_st (zd_of zb_X1_init dX1_init_41) rfl rfl
theorem E_X1_init_42 : AW X d 2 42 [l0, l1, .int x] S st P = AW X d 2 43 [l0, l1, .int x] (.int x :: S) st P := zAW_st (zd_of zb_X1_init dX1_init_42) rfl rfl
theorem E_X1_init_43 : AW X d 2 43 [l0, l1, l2] (.int x :: .ref a :: S) st P = zwith (zget st a 2 1) fun _ => AW X d 2 46 [l0, l1, l2] S (zput st a 1 (.int x)) P := zq_putfield (zd_of zb_X1_init dX1_init_43) zo_X1_init zf_1_36 rfl (Or.inr (by decide +kernel))
theorem E_X1_init_46 : AW X d 2 46 [l0, l1, l2] [] st P = P (.inl none) st := zAW_ret (w := (.inl none, st)) (zd_of zb_X1_init dX1_init_46) rfl rfl (by simp only [zfin, zr_X1_init])
theorem A_X1_init (h1 : zc1 v1 = true) : AC X (d + 1) 2 [.ref a, v1, .int x] st P = AW X d 2 0 [.ref a, v1, .int x] [] st P := AC_eq ⟨⟨(show 3 ≤ zml 2 by decide +kernel), by decide +kernel⟩, by simp [zc1_int, zc1_ref, zc1_float, h1]⟩
theorem E_X1_nestOn_0 : AW X d 3 0 [l0, .ref a, l2, l3, l4, l5, l6] S st P = AW X d 3 1 [l0, .ref a, l2, l3, l4, l5, l6] (.ref a :: S) st P := zAW_st (zd_of zb_X1_nestOn dX1_nestOn_0) rfl rfl
theorem E_X1_nestOn_0n : AW X d 3 0 [l0, .null, l2, l3, l4, l5, l6] S st P = AW X d 3 1 [l0, .null, l2, l3, l4, l5, l6] (.null :: S) st P := zAW_st (zd_of zb_X1_nestOn dX1_nestOn_0) rfl rfl
theorem E_X1_nestOn_1 : AW X d 3 1 [l0, l1, l2, l3, l4, l5, l6] (.ref a :: S) st P = zwith (zget st a 5 1) fun v => AW X d 3 4 [l0, l1, l2, l3, l4, l5, l6] (v :: S) st P := zq_getfield (zd_of zb_X1_nestOn dX1_nestOn_1) zo_X1_nestOn zf_1_39
theorem E_X1_nestOn_4 : AW X d 3 4 [l0, l1, l2, l3, l4, l5, l6] (.int x :: S) st P = AW X d 3 5 [l0, l1, .int x, l3, l4, l5, l6] S st P := zAW_st (zd_of zb_X1_nestOn dX1_nestOn_4) rfl rfl
theorem E_X1_nestOn_5 : AW X d 3 5 [.ref a, l1, l2, l3, l4, l5, l6] S st P = AW X d 3 6 [.ref a, l1, l2, l3, l4, l5, l6] (.ref a :: S) st P := zAW_st (zd_of zb_X1_nestOn dX1_nestOn_5) rfl rfl
theorem E_X1_nestOn_5n : AW X d 3 5 [.null, l1, l2, l3, l4, l5, l6] S st P = AW X d 3 6 [.null, l1, l2, l3, l4, l5, l6] (.null :: S) st P := zAW_st (zd_of zb_X1_nestOn dX1_nestOn_5) rfl rfl
theorem E_X1_nestOn_6 : AW X d 3 6 [l0, l1, l2, l3, l4, l5, l6] (.ref a :: S) st P = zwith (zget st a 2 0) fun v => AW X d 3 9 [l0, l1, l2, l3, l4, l5, l6] (v :: S) st P := zq_getfield (zd_of zb_X1_nestOn dX1_nestOn_6) zo_X1_nestOn zf_1_32
theorem E_X1_nestOn_9 : AW X d 3 9 [l0, l1, l2, l3, l4, l5, l6] (.ref a :: S) st P = zwith (zget st a 1 1) fun v => AW X d 3 12 [l0, l1, l2, l3, l4, l5, l6] (v :: S) st P := zq_getfield (zd_of zb_X1_nestOn dX1_nestOn_9) zo_X1_nestOn zf_1_44
theorem E_X1_nestOn_12 : AW X d 3 12 [l0, l1, l2, l3, l4, l5, l6] (.ref a :: S) st P = zif (zis st a 3 = true) (zif (S.length ≤ 4) (AC X d 18 [.ref a] st (zaft X d 3 12 [l0, l1, l2, l3, l4, l5, l6] S P))) := zq_callV (B := []) (zd_of zb_X1_nestOn dX1_nestOn_12) zo_X1_nestOn (by decide) zl_1_49 zn_18 rfl rfl rfl
theorem E_X1_nestOn_15 : AW X d 3 15 [l0, l1, l2, l3, l4, l5, l6] S st P = AW X d 3 16 [l0, l1, l2, l3, l4, l5, l6] (.int 1 :: S) st P := zq_iconst (zd_of zb_X1_nestOn dX1_nestOn_15) (by decide)
theorem E_X1_nestOn_16 : AW X d 3 16 [l0, l1, l2, l3, l4, l5, l6] (.int y :: .int x :: S) st P = AW X d 3 17 [l0, l1, l2, l3, l4, l5, l6] (.int (x + y) :: S) st P := zAW_st (zd_of zb_X1_nestOn dX1_nestOn_16) rfl rfl
theorem E_X1_nestOn_17 : AW X d 3 17 [l0, l1, l2, l3, l4, l5, l6] (.int x :: S) st P = AW X d 3 18 [l0, l1, l2, .int x, l4, l5, l6] S st P := zAW_st (zd_of zb_X1_nestOn dX1_nestOn_17) rfl rfl
theorem E_X1_nestOn_18 : AW X d 3 18 [.ref a, l1, l2, l3, l4, l5, l6] S st P = AW X d 3 19 [.ref a, l1, l2, l3, l4, l5, l6] (.ref a :: S) st P := zAW_st (zd_of zb_X1_nestOn dX1_nestOn_18) rfl rfl
theorem E_X1_nestOn_18n : AW X d 3 18 [.null, l1, l2, l3, l4, l5, l6] S st P = AW X d 3 19 [.null, l1, l2, l3, l4, l5, l6] (.null :: S) st P := zAW_st (zd_of zb_X1_nestOn dX1_nestOn_18) rfl rfl
theorem E_X1_nestOn_19 : AW X d 3 19 [l0, l1, l2, l3, l4, l5, l6] (.ref a :: S) st P = zwith (zget st a 2 0) fun v => AW X d 3 22 [l0, l1, l2, l3, l4, l5, l6] (v :: S) st P := zq_getfield (zd_of zb_X1_nestOn dX1_nestOn_19) zo_X1_nestOn zf_1_32
theorem E_X1_nestOn_22 : AW X d 3 22 [l0, l1, l2, l3, l4, l5, l6] (.ref a :: S) st P = zwith (zget st a 1 1) fun v => AW X d 3 25 [l0, l1, l2, l3, l4, l5, l6] (v :: S) st P := zq_getfield (zd_of zb_X1_nestOn dX1_nestOn_22) zo_X1_nestOn zf_1_44
theorem E_X1_nestOn_25 : AW X d 3 25 [l0, l1, l2, l3, l4, l5, l6] (.ref a :: S) st P = zif (zis st a 3 = true) (zif (S.length ≤ 4) (AC X d 19 [.ref a] st (zaft X d 3 25 [l0, l1, l2, l3, l4, l5, l6] S P))) := zq_callV (B := []) (zd_of zb_X1_nestOn dX1_nestOn_25) zo_X1_nestOn (by decide) zl_1_53 zn_19 rfl rfl rfl
theorem E_X1_nestOn_28 : AW X d 3 28 [l0, l1, l2, l3, l4, l5, l6] S st P = AW X d 3 29 [l0, l1, l2, l3, l4, l5, l6] (.int 1 :: S) st P := zq_iconst (zd_of zb_X1_nestOn dX1_nestOn_28) (by decide)
theorem E_X1_nestOn_29 : AW X d 3 29 [l0, l1, l2, l3, l4, l5, l6] (.int y :: .int x :: S) st P = AW X d 3 30 [l0, l1, l2, l3, l4, l5, l6] (.int (x + y) :: S) st P := zAW_st (zd_of zb_X1_nestOn dX1_nestOn_29) rfl rfl
theorem E_X1_nestOn_30 : AW X d 3 30 [l0, l1, l2, l3, l4, l5, l6] (.int x :: S) st P = AW X d 3 32 [l0, l1, l2, l3, .int x, l5, l6] S st P := zAW_st (zd_of zb_X1_nestOn dX1_nestOn_30) rfl rfl
theorem E_X1_nestOn_32 : AW X d 3 32 [l0, l1, l2, l3, l4, l5, l6] S st P = AW X d 3 33 [l0, l1, l2, l3, l4, l5, l6] (.int 0 :: S) st P := zq_iconst (zd_of zb_X1_nestOn dX1_nestOn_32) (by decide)
theorem E_X1_nestOn_33 : AW X d 3 33 [l0, l1, l2, l3, l4, l5, l6] (.int x :: S) st P = AW X d 3 35 [l0, l1, l2, l3, l4, .int x, l6] S st P := zAW_st (zd_of zb_X1_nestOn dX1_nestOn_33) rfl rfl
theorem E_X1_nestOn_35 : AW X d 3 35 [l0, l1, l2, l3, l4, .int x, l6] S st P = AW X d 3 37 [l0, l1, l2, l3, l4, .int x, l6] (.int x :: S) st P := zAW_st (zd_of zb_X1_nestOn dX1_nestOn_35) rfl rfl
theorem E_X1_nestOn_37 : AW X d 3 37 [.ref a, l1, l2, l3, l4, l5, l6] S st P = AW X d 3 38 [.ref a, l1, l2, l3, l4, l5, l6] (.ref a :: S) st P := zAW_st (zd_of zb_X1_nestOn dX1_nestOn_37) rfl rfl
theorem E_X1_nestOn_37n : AW X d 3 37 [.null, l1, l2, l3, l4, l5, l6] S st P = AW X d 3 38 [.null, l1, l2, l3, l4, l5, l6] (.null :: S) st P := zAW_st (zd_of zb_X1_nestOn dX1_nestOn_37) rfl rfl
theorem E_X1_nestOn_38 : AW X d 3 38 [l0, l1, l2, l3, l4, l5, l6] (.ref a :: S) st P = zwith (zget st a 2 1) fun v => AW X d 3 41 [l0, l1, l2, l3, l4, l5, l6] (v :: S) st P := zq_getfield (zd_of zb_X1_nestOn dX1_nestOn_38) zo_X1_nestOn zf_1_36
theorem E_X1_nestOn_41 : AW X d 3 41 [l0, l1, l2, l3, l4, l5, l6] (.int y :: .int x :: S) st P = if y ≤ x then AW X d 3 91 [l0, l1, l2, l3, l4, l5, l6] S st P else AW X d 3 44 [l0, l1, l2, l3, l4, l5, l6] S st P := zq_icmp (c := y ≤ x) (zd_of zb_X1_nestOn dX1_nestOn_41) (by decide) rfl
theorem E_X1_nestOn_44 : AW X d 3 44 [l0, .ref a, l2, l3, l4, l5, l6] S st P = AW X d 3 45 [l0, .ref a, l2, l3, l4, l5, l6] (.ref a :: S) st P := zAW_st (zd_of zb_X1_nestOn dX1_nestOn_44) rfl rfl
theorem E_X1_nestOn_44n : AW X d 3 44 [l0, .null, l2, l3, l4, l5, l6] S st P = AW X d 3 45 [l0, .null, l2, l3, l4, l5, l6] (.null :: S) st P := zAW_st (zd_of zb_X1_nestOn dX1_nestOn_44) rfl rfl
theorem E_X1_nestOn_45 : AW X d 3 45 [l0, l1, l2, .int x, l4, l5, l6] S st P = AW X d 3 46 [l0, l1, l2, .int x, l4, l5, l6] (.int x :: S) st P := zAW_st (zd_of zb_X1_nestOn dX1_nestOn_45) rfl rfl
theorem E_X1_nestOn_46 : AW X d 3 46 [l0, l1, l2, l3, .int x, l5, l6] S st P = AW X d 3 48 [l0, l1, l2, l3, .int x, l5, l6] (.int x :: S) st P := zAW_st (zd_of zb_X1_nestOn dX1_nestOn_46) rfl rfl
theorem E_X1_nestOn_48 : AW X d 3 48 [l0, l1, l2, l3, l4, l5, l6] (.int y :: .int x :: .ref a :: S) st P = zif (zis st a 5 = true) (zif (S.length ≤ 4) (AC X d 41 [.ref a, .int x, .int y] st (zaft X d 3 48 [l0, l1, l2, l3, l4, l5, l6] S P))) := zq_callV (B := [.int x, .int y]) (zd_of zb_X1_nestOn dX1_nestOn_48) zo_X1_nestOn (by decide) zl_1_56 zn_41 rfl rfl rfl
theorem E_X1_nestOn_51 : AW X d 3 51 [l0, l1, l2, l3, l4, l5, l6] (.ref a :: S) st P = AW X d 3 53 [l0, l1, l2, l3, l4, l5, .ref a] S st P := zAW_st (zd_of zb_X1_nestOn dX1_nestOn_51) rfl rfl
theorem E_X1_nestOn_51n : AW X d 3 51 [l0, l1, l2, l3, l4, l5, l6] (.null :: S) st P = AW X d 3 53 [l0, l1, l2, l3, l4, l5, .null] S st P := zAW_st (zd_of zb_X1_nestOn dX1_nestOn_51) rfl rfl
theorem E_X1_nestOn_53 : AW X d 3 53 [l0, l1, l2, l3, l4, l5, .ref a] S st P = AW X d 3 55 [l0, l1, l2, l3, l4, l5, .ref a] (.ref a :: S) st P := zAW_st (zd_of zb_X1_nestOn dX1_nestOn_53) rfl rfl
theorem E_X1_nestOn_53n : AW X d 3 53 [l0, l1, l2, l3, l4, l5, .null] S st P = AW X d 3 55 [l0, l1, l2, l3, l4, l5, .null] (.null :: S) st P := zAW_st (zd_of zb_X1_nestOn dX1_nestOn_53) rfl rfl
theorem E_X1_nestOn_55 : AW X d 3 55 [l0, l1, l2, l3, l4, l5, l6] (.ref a :: S) st P = AW X d 3 75 [l0, l1, l2, l3, l4, l5, l6] S st P := zq_nonnull1 (t := 75) (zd_of zb_X1_nestOn dX1_nestOn_55) (by decide)
theorem E_X1_nestOn_55n : AW X d 3 55 [l0, l1, l2, l3, l4, l5, l6] (.null :: S) st P = AW X d 3 58 [l0, l1, l2, l3, l4, l5, l6] S st P := zq_nonnull2 (t := 75) (zd_of zb_X1_nestOn dX1_nestOn_55) (by decide)
theorem E_X1_nestOn_58 : AW X d 3 58 [l0, .ref a, l2, l3, l4, l5, l6] S st P = AW X d 3 59 [l0, .ref a, l2, l3, l4, l5, l6] (.ref a :: S) st P := zAW_st (zd_of zb_X1_nestOn dX1_nestOn_58) rfl rfl
theorem E_X1_nestOn_58n : AW X d 3 58 [l0, .null, l2, l3, l4, l5, l6] S st P = AW X d 3 59 [l0, .null, l2, l3, l4, l5, l6] (.null :: S) st P := zAW_st (zd_of zb_X1_nestOn dX1_nestOn_58) rfl rfl
theorem E_X1_nestOn_59 : AW X d 3 59 [.ref a, l1, l2, l3, l4, l5, l6] S st P = AW X d 3 60 [.ref a, l1, l2, l3, l4, l5, l6] (.ref a :: S) st P := zAW_st (zd_of zb_X1_nestOn dX1_nestOn_59) rfl rfl
theorem E_X1_nestOn_59n : AW X d 3 59 [.null, l1, l2, l3, l4, l5, l6] S st P = AW X d 3 60 [.null, l1, l2, l3, l4, l5, l6] (.null :: S) st P := zAW_st (zd_of zb_X1_nestOn dX1_nestOn_59) rfl rfl
theorem E_X1_nestOn_60 : AW X d 3 60 [l0, l1, l2, l3, l4, l5, l6] (.ref a :: S) st P = zwith (zget st a 2 4) fun v => AW X d 3 63 [l0, l1, l2, l3, l4, l5, l6] (v :: S) st P := zq_getfield (zd_of zb_X1_nestOn dX1_nestOn_60) zo_X1_nestOn zf_1_21
theorem E_X1_nestOn_63 : AW X d 3 63 [l0, l1, .int x, l3, l4, l5, l6] S st P = AW X d 3 64 [l0, l1, .int x, l3, l4, l5, l6] (.int x :: S) st P := zAW_st (zd_of zb_X1_nestOn dX1_nestOn_63) rfl rfl
theorem E_X1_nestOn_64 : AW X d 3 64 [l0, l1, l2, l3, l4, l5, l6] (.int x :: v1 :: .ref a :: S) st P = zif (zis st a 5 = true) (zif (S.length ≤ 4) (AC X d 45 [.ref a, v1, .int x] st (zaft X d 3 64 [l0, l1, l2, l3, l4, l5, l6] S P))) := zq_callV (B := [v1, .int x]) (zd_of zb_X1_nestOn dX1_nestOn_64) zo_X1_nestOn (by decide) zl_1_60 zn_45 rfl rfl rfl
theorem E_X1_nestOn_67 : AW X d 3 67 [.ref a, l1, l2, l3, l4, l5, l6] S st P = AW X d 3 68 [.ref a, l1, l2, l3, l4, l5, l6] (.ref a :: S) st P := zAW_st (zd_of zb_X1_nestOn dX1_nestOn_67) rfl rfl
theorem E_X1_nestOn_67n : AW X d 3 67 [.null, l1, l2, l3, l4, l5, l6] S st P = AW X d 3 68 [.null, l1, l2, l3, l4, l5, l6] (.null :: S) st P := zAW_st (zd_of zb_X1_nestOn dX1_nestOn_67) rfl rfl
theorem E_X1_nestOn_68 : AW X d 3 68 [l0, l1, l2, l3, l4, l5, l6] (.ref a :: S) st P = zwith (zget st a 2 4) fun v => AW X d 3 71 [l0, l1, l2, l3, l4, l5, l6] (v :: S) st P := zq_getfield (zd_of zb_X1_nestOn dX1_nestOn_68) zo_X1_nestOn zf_1_21
theorem E_X1_nestOn_71 : AW X d 3 71 [l0, l1, l2, l3, l4, l5, l6] (.ref a :: S) st P = zif (zis st a 0 = true) (zif (S.length ≤ 4) (AC X d 120 [.ref a] st (zaft X d 3 71 [l0, l1, l2, l3, l4, l5, l6] S P))) := zq_callV (B := []) (zd_of zb_X1_nestOn dX1_nestOn_71) zo_X1_nestOn (by decide) zl_1_64 zn_120 rfl rfl rfl
theorem E_X1_nestOn_74 : AW X d 3 74 [l0, l1, l2, l3, l4, l5, l6] [] st P = P (.inl none) st := zAW_ret (w := (.inl none, st)) (zd_of zb_X1_nestOn dX1_nestOn_74) rfl rfl (by simp only [zfin, zr_X1_nestOn])
theorem E_X1_nestOn_75 : AW X d 3 75 [.ref a, l1, l2, l3, l4, l5, l6] S st P = AW X d 3 76 [.ref a, l1, l2, l3, l4, l5, l6] (.ref a :: S) st P := zAW_st (zd_of zb_X1_nestOn dX1_nestOn_75) rfl rfl
theorem E_X1_nestOn_75n : AW X d 3 75 [.null, l1, l2, l3, l4, l5, l6] S st P = AW X d 3 76 [.null, l1, l2, l3, l4, l5, l6] (.null :: S) st P := zAW_st (zd_of zb_X1_nestOn dX1_nestOn_75) rfl rfl
theorem E_X1_nestOn_76 : AW X d 3 76 [l0, l1, l2, l3, l4, l5, l6] (.ref a :: S) st P = zwith (zget st a 2 4) fun v => AW X d 3 79 [l0, l1, l2, l3, l4, l5, l6] (v :: S) st P := zq_getfield (zd_of zb_X1_nestOn dX1_nestOn_76) zo_X1_nestOn zf_1_21
theorem E_X1_nestOn_79 : AW X d 3 79 [l0, l1, l2, l3, l4, l5, .ref a] S st P = AW X d 3 81 [l0, l1, l2, l3, l4, l5, .ref a] (.ref a :: S) st P := zAW_st (zd_of zb_X1_nestOn dX1_nestOn_79) rfl rfl
theorem E_X1_nestOn_79n : AW X d 3 79 [l0, l1, l2, l3, l4, l5, .null] S st P = AW X d 3 81 [l0, l1, l2, l3, l4, l5, .null] (.null :: S) st P := zAW_st (zd_of zb_X1_nestOn dX1_nestOn_79) rfl rfl
theorem E_X1_nestOn_81 : AW X d 3 81 [l0, l1, l2, l3, l4, l5, l6] (v1 :: .ref a :: S) st P = zif (zis st a 0 = true) (zif (S.length ≤ 4) (AC X d 119 [.ref a, v1] st (zaft X d 3 81 [l0, l1, l2, l3, l4, l5, l6] S P))) := zq_callV (B := [v1]) (zd_of zb_X1_nestOn dX1_nestOn_81) zo_X1_nestOn (by decide) zl_1_67 zn_119 rfl rfl rfl
theorem E_X1_nestOn_84 : AW X d 3 84 [l0, l1, l2, l3, l4, l5, l6] (.ref a :: S) st P = AW X d 3 85 [l0, l1, l2, l3, l4, l5, l6] S st P := zq_pop (zd_of zb_X1_nestOn dX1_nestOn_84) rfl
theorem E_X1_nestOn_84n : AW X d 3 84 [l0, l1, l2, l3, l4, l5, l6] (.null :: S) st P = AW X d 3 85 [l0, l1, l2, l3, l4, l5, l6] S st P := zq_pop (zd_of zb_X1_nestOn dX1_nestOn_84) rfl
theorem E_X1_nestOn_84i : AW X d 3 84 [l0, l1, l2, l3, l4, l5, l6] (.int x :: S) st P = AW X d 3 85 [l0, l1, l2, l3, l4, l5, l6] S st P := zq_pop (zd_of zb_X1_nestOn dX1_nestOn_84) rfl
theorem E_X1_nestOn_84f : AW X d 3 84 [l0, l1, l2, l3, l4, l5, l6] (.float u :: S) st P = AW X d 3 85 [l0, l1, l2, l3, l4, l5, l6] S st P := zq_pop (zd_of zb_X1_nestOn dX1_nestOn_84) rfl
theorem E_X1_nestOn_85 : AW X d 3 85 [l0, l1, l2, l3, l4, .int x, l6] S st P = AW X d 3 88 [l0, l1, l2, l3, l4, .int (x + 1), l6] S st P := zq_iinc (zd_of zb_X1_nestOn dX1_nestOn_85) rfl (by decide)
theorem E_X1_nestOn_88 : AW X d 3 88 [l0, l1, l2, l3, l4, l5, l6] S st P = AW X d 3 35 [l0, l1, l2, l3, l4, l5, l6] S st P := zq_goto (zd_of zb_X1_nestOn dX1_nestOn_88) (by decide)
theorem E_X1_nestOn_91 : AW X d 3 91 [.ref a, l1, l2, l3, l4, l5, l6] S st P = AW X d 3 92 [.ref a, l1, l2, l3, l4, l5, l6] (.ref a :: S) st P := zAW_st (zd_of zb_X1_nestOn dX1_nestOn_91) rfl rfl
theorem E_X1_nestOn_91n : AW X d 3 91 [.null, l1, l2, l3, l4, l5, l6] S st P = AW X d 3 92 [.null, l1, l2, l3, l4, l5, l6] (.null :: S) st P := zAW_st (zd_of zb_X1_nestOn dX1_nestOn_91) rfl rfl
theorem E_X1_nestOn_92 : AW X d 3 92 [l0, l1, l2, l3, l4, l5, l6] S st P = AW X d 3 93 [l0, l1, l2, l3, l4, l5, l6] (.int 1 :: S) st P := zq_iconst (zd_of zb_X1_nestOn dX1_nestOn_92) (by decide)
theorem E_X1_nestOn_93 : AW X d 3 93 [l0, l1, l2, l3, l4, l5, l6] (.int x :: .ref a :: S) st P = zwith (zget st a 2 2) fun _ => AW X d 3 96 [l0, l1, l2, l3, l4, l5, l6] S (zput st a 2 (.int x)) P := zq_putfield (zd_of zb_X1_nestOn dX1_nestOn_93) zo_X1_nestOn zf_1_9 rfl (Or.inl (by decide +kernel))
theorem E_X1_nestOn_96 : AW X d 3 96 [.ref a, l1, l2, l3, l4, l5, l6] S st P = AW X d 3 97 [.ref a, l1, l2, l3, l4, l5, l6] (.ref a :: S) st P := zAW_st (zd_of zb_X1_nestOn dX1_nestOn_96) rfl rfl
theorem E_X1_nestOn_96n : AW X d 3 96 [.null, l1, l2, l3, l4, l5, l6] S st P = AW X d 3 97 [.null, l1, l2, l3, l4, l5, l6] (.null :: S) st P := zAW_st (zd_of zb_X1_nestOn dX1_nestOn_96) rfl rfl
theorem E_X1_nestOn_97 : AW X d 3 97 [.ref a, l1, l2, l3, l4, l5, l6] S st P = AW X d 3 98 [.ref a, l1, l2, l3, l4, l5, l6] (.ref a :: S) st P := zAW_st (zd_of zb_X1_nestOn dX1_nestOn_97) rfl rfl
theorem E_X1_nestOn_97n : AW X d 3 97 [.null, l1, l2, l3, l4, l5, l6] S st P = AW X d 3 98 [.null, l1, l2, l3, l4, l5, l6] (.null :: S) st P := zAW_st (zd_of zb_X1_nestOn dX1_nestOn_97) rfl rfl
theorem E_X1_nestOn_98 : AW X d 3 98 [l0, l1, l2, l3, l4, l5, l6] (.ref a :: S) st P = zwith (zget st a 2 0) fun v => AW X d 3 101 [l0, l1, l2, l3, l4, l5, l6] (v :: S) st P := zq_getfield (zd_of zb_X1_nestOn dX1_nestOn_98) zo_X1_nestOn zf_1_32
theorem E_X1_nestOn_101 : AW X d 3 101 [l0, l1, l2, l3, l4, l5, l6] (.ref a :: S) st P = zwith (zget st a 1 3) fun v => AW X d 3 104 [l0, l1, l2, l3, l4, l5, l6] (v :: S) st P := zq_getfield (zd_of zb_X1_nestOn dX1_nestOn_101) zo_X1_nestOn zf_1_71
theorem E_X1_nestOn_104 : AW X d 3 104 [l0, l1, l2, l3, l4, l5, l6] (.int x :: .ref a :: S) st P = zwith (zget st a 2 3) fun _ => AW X d 3 107 [l0, l1, l2, l3, l4, l5, l6] S (zput st a 3 (.int x)) P := zq_putfield (zd_of zb_X1_nestOn dX1_nestOn_104) zo_X1_nestOn zf_1_15 rfl (Or.inl (by decide +kernel))
theorem E_X1_nestOn_107 : AW X d 3 107 [l0, l1, l2, l3, l4, l5, l6] [] st P = P (.inl none) st := zAW_ret (w := (.inl none, st)) (zd_of zb_X1_nestOn dX1_nestOn_107) rfl rfl (by simp only [zfin, zr_X1_nestOn])
theorem A_X1_nestOn (h1 : zc1 v1 = true) : AC X (d + 1) 3 [.ref a, v1] st P = AW X d 3 0 [.ref a, v1, .retAddr 0, .retAddr 0, .retAddr 0, .retAddr 0, .retAddr 0] [] st P := AC_eq ⟨⟨(show 2 ≤ zml 3 by decide +kernel), by decide +kernel⟩, by simp [zc1_int, zc1_ref, zc1_float, h1]⟩
theorem E_X1_takeOff_0 : AW X d 4 0 [l0, l1] S st P = AW X d 4 1 [l0, l1] (.int 0 :: S) st P := zq_iconst (zd_of zb_X1_takeOff dX1_takeOff_0) (by decide)
theorem E_X1_takeOff_1 : AW X d 4 1 [l0, l1] (.int x :: S) st P = AW X d 4 2 [l0, .int x] S st P := zAW_st (zd_of zb_X1_takeOff dX1_takeOff_1) rfl rfl
theorem E_X1_takeOff_2 : AW X d 4 2 [l0, .int x] S st P = AW X d 4 3 [l0, .int x] (.int x :: S) st P := zAW_st (zd_of zb_X1_takeOff dX1_takeOff_2) rfl rfl
theorem E_X1_takeOff_3 : AW X d 4 3 [.ref a, l1] S st P = AW X d 4 4 [.ref a, l1] (.ref a :: S) st P := zAW_st (zd_of zb_X1_takeOff dX1_takeOff_3) rfl rfl
theorem E_X1_takeOff_3n : AW X d 4 3 [.null, l1] S st P = AW X d 4 4 [.null, l1] (.null :: S) st P := zAW_st (zd_of zb_X1_takeOff dX1_takeOff_3) rfl rfl
theorem E_X1_takeOff_4 : AW X d 4 4 [l0, l1] (.ref a :: S) st P = zwith (zget st a 2 4) fun v => AW X d 4 7 [l0, l1] (v :: S) st P := zq_getfield (zd_of zb_X1_takeOff dX1_takeOff_4) zo_X1_takeOff zf_1_21
theorem E_X1_takeOff_7 : AW X d 4 7 [l0, l1] (.ref a :: S) st P = zif (zis st a 0 = true) (zif (S.length ≤ 4) (AC X d 115 [.ref a] st (zaft X d 4 7 [l0, l1] S P))) := zq_callV (B := []) (zd_of zb_X1_takeOff dX1_takeOff_7) zo_X1_takeOff (by decide) zl_1_72 zn_115 rfl rfl rfl
theorem E_X1_takeOff_10 : AW X d 4 10 [l0, l1] (.int y :: .int x :: S) st P = if y ≤ x then AW X d 4 33 [l0, l1] S st P else AW X d 4 13 [l0, l1] S st P := zq_icmp (c := y ≤ x) (zd_of zb_X1_takeOff dX1_takeOff_10) (by decide) rfl
theorem E_X1_takeOff_13 : AW X d 4 13 [.ref a, l1] S st P = AW X d 4 14 [.ref a, l1] (.ref a :: S) st P := zAW_st (zd_of zb_X1_takeOff dX1_takeOff_13) rfl rfl
theorem E_X1_takeOff_13n : AW X d 4 13 [.null, l1] S st P = AW X d 4 14 [.null, l1] (.null :: S) st P := zAW_st (zd_of zb_X1_takeOff dX1_takeOff_13) rfl rfl
theorem E_X1_takeOff_14 : AW X d 4 14 [l0, l1] (.ref a :: S) st P = zwith (zget st a 2 4) fun v => AW X d 4 17 [l0, l1] (v :: S) st P := zq_getfield (zd_of zb_X1_takeOff dX1_takeOff_14) zo_X1_takeOff zf_1_21
theorem E_X1_takeOff_17 : AW X d 4 17 [l0, .int x] S st P = AW X d 4 18 [l0, .int x] (.int x :: S) st P := zAW_st (zd_of zb_X1_takeOff dX1_takeOff_17) rfl rfl
theorem E_X1_takeOff_18 : AW X d 4 18 [l0, l1] (.int x :: .ref a :: S) st P = zif (zis st a 0 = true) (zif (S.length ≤ 4) (AC X d 117 [.ref a, .int x] st (zaft X d 4 18 [l0, l1] S P))) := zq_callV (B := [.int x]) (zd_of zb_X1_takeOff dX1_takeOff_18) zo_X1_takeOff (by decide) zl_1_75 zn_117 rfl rfl rfl
theorem E_X1_takeOff_21 : AW X d 4 21 [l0, l1] (.ref a :: S) st P = zif (zis st a 4 = true) (AW X d 4 24 [l0, l1] (.ref a :: S) st P) := zq_cast (zd_of zb_X1_takeOff dX1_takeOff_21) zo_X1_takeOff (by decide +kernel)
theorem E_X1_takeOff_21n : AW X d 4 21 [l0, l1] (.null :: S) st P = AW X d 4 24 [l0, l1] (.null :: S) st P := zAW_st (zd_of zb_X1_takeOff dX1_takeOff_21) rfl rfl
theorem E_X1_takeOff_24 : AW X d 4 24 [l0, l1] (.ref a :: S) st P = zif (zis st a 4 = true) (zif (S.length ≤ 4) (AC X d 32 [.ref a] st (zaft X d 4 24 [l0, l1] S P))) := zq_callV (B := []) (zd_of zb_X1_takeOff dX1_takeOff_24) zo_X1_takeOff (by decide) zl_1_81 zn_32 rfl rfl rfl
theorem E_X1_takeOff_27 : AW X d 4 27 [l0, .int x] S st P = AW X d 4 30 [l0, .int (x + 1)] S st P := zq_iinc (zd_of zb_X1_takeOff dX1_takeOff_27) rfl (by decide)
theorem E_X1_takeOff_30 : AW X d 4 30 [l0, l1] S st P = AW X d 4 2 [l0, l1] S st P := zq_goto (zd_of zb_X1_takeOff dX1_takeOff_30) (by decide)
theorem E_X1_takeOff_33 : AW X d 4 33 [.ref a, l1] S st P = AW X d 4 34 [.ref a, l1] (.ref a :: S) st P := zAW_st (zd_of zb_X1_takeOff dX1_takeOff_33) rfl rfl
theorem E_X1_takeOff_33n : AW X d 4 33 [.null, l1] S st P = AW X d 4 34 [.null, l1] (.null :: S) st P := zAW_st (zd_of zb_X1_takeOff dX1_takeOff_33) rfl rfl
theorem E_X1_takeOff_34 : AW X d 4 34 [l0, l1] (.ref a :: S) st P = zwith (zget st a 2 4) fun v => AW X d 4 37 [l0, l1] (v :: S) st P := zq_getfield (zd_of zb_X1_takeOff dX1_takeOff_34) zo_X1_takeOff zf_1_21
theorem E_X1_takeOff_37 : AW X d 4 37 [l0, l1] (.ref a :: S) st P = zif (zis st a 0 = true) (zif (S.length ≤ 4) (AC X d 120 [.ref a] st (zaft X d 4 37 [l0, l1] S P))) := zq_callV (B := []) (zd_of zb_X1_takeOff dX1_takeOff_37) zo_X1_takeOff (by decide) zl_1_64 zn_120 rfl rfl rfl
theorem E_X1_takeOff_40 : AW X d 4 40 [.ref a, l1] S st P = AW X d 4 41 [.ref a, l1] (.ref a :: S) st P := zAW_st (zd_of zb_X1_takeOff dX1_takeOff_40) rfl rfl
theorem E_X1_takeOff_40n : AW X d 4 40 [.null, l1] S st P = AW X d 4 41 [.null, l1] (.null :: S) st P := zAW_st (zd_of zb_X1_takeOff dX1_takeOff_40) rfl rfl
theorem E_X1_takeOff_41 : AW X d 4 41 [l0, l1] S st P = AW X d 4 42 [l0, l1] (.int 0 :: S) st P := zq_iconst (zd_of zb_X1_takeOff dX1_takeOff_41) (by decide)
theorem E_X1_takeOff_42 : AW X d 4 42 [l0, l1] (.int x :: .ref a :: S) st P = zwith (zget st a 2 2) fun _ => AW X d 4 45 [l0, l1] S (zput st a 2 (.int x)) P := zq_putfield (zd_of zb_X1_takeOff dX1_takeOff_42) zo_X1_takeOff zf_1_9 rfl (Or.inl (by decide +kernel))
theorem E_X1_takeOff_45 : AW X d 4 45 [.ref a, l1] S st P = AW X d 4 46 [.ref a, l1] (.ref a :: S) st P := zAW_st (zd_of zb_X1_takeOff dX1_takeOff_45) rfl rfl
theorem E_X1_takeOff_45n : AW X d 4 45 [.null, l1] S st P = AW X d 4 46 [.null, l1] (.null :: S) st P := zAW_st (zd_of zb_X1_takeOff dX1_takeOff_45) rfl rfl
theorem E_X1_takeOff_46 : AW X d 4 46 [l0, l1] S st P = AW X d 4 47 [l0, l1] (.int (-1) :: S) st P := zq_iconst (zd_of zb_X1_takeOff dX1_takeOff_46) (by decide)
theorem E_X1_takeOff_47 : AW X d 4 47 [l0, l1] (.int x :: .ref a :: S) st P = zwith (zget st a 2 3) fun _ => AW X d 4 50 [l0, l1] S (zput st a 3 (.int x)) P := zq_putfield (zd_of zb_X1_takeOff dX1_takeOff_47) zo_X1_takeOff zf_1_15 rfl (Or.inl (by decide +kernel))
theorem E_X1_takeOff_50 : AW X d 4 50 [l0, l1] [] st P = P (.inl none) st := zAW_ret (w := (.inl none, st)) (zd_of zb_X1_takeOff dX1_takeOff_50) rfl rfl (by simp only [zfin, zr_X1_takeOff])
theorem A_X1_takeOff : AC X (d + 1) 4 [.ref a] st P = AW X d 4 0 [.ref a, .retAddr 0] [] st P := AC_eq ⟨⟨(show 1 ≤ zml 4 by decide +kernel), by decide +kernel⟩, by simp [zc1_int, zc1_ref, zc1_float]⟩
theorem E_X1_sheetsUsed_0 : AW X d 5 0 [l0, l1, l2] S st P = AW X d 5 1 [l0, l1, l2] (.int 0 :: S) st P := zq_iconst (zd_of zb_X1_sheetsUsed dX1_sheetsUsed_0) (by decide)
theorem E_X1_sheetsUsed_1 : AW X d 5 1 [l0, l1, l2] (.int x :: S) st P = AW X d 5 2 [l0, .int x, l2] S st P := zAW_st (zd_of zb_X1_sheetsUsed dX1_sheetsUsed_1) rfl rfl
theorem E_X1_sheetsUsed_2 : AW X d 5 2 [l0, l1, l2] S st P = AW X d 5 3 [l0, l1, l2] (.int 0 :: S) st P := zq_iconst (zd_of zb_X1_sheetsUsed dX1_sheetsUsed_2) (by decide)
theorem E_X1_sheetsUsed_3 : AW X d 5 3 [l0, l1, l2] (.int x :: S) st P = AW X d 5 4 [l0, l1, .int x] S st P := zAW_st (zd_of zb_X1_sheetsUsed dX1_sheetsUsed_3) rfl rfl
theorem E_X1_sheetsUsed_4 : AW X d 5 4 [l0, l1, .int x] S st P = AW X d 5 5 [l0, l1, .int x] (.int x :: S) st P := zAW_st (zd_of zb_X1_sheetsUsed dX1_sheetsUsed_4) rfl rfl
theorem E_X1_sheetsUsed_5 : AW X d 5 5 [.ref a, l1, l2] S st P = AW X d 5 6 [.ref a, l1, l2] (.ref a :: S) st P := zAW_st (zd_of zb_X1_sheetsUsed dX1_sheetsUsed_5) rfl rfl
theorem E_X1_sheetsUsed_5n : AW X d 5 5 [.null, l1, l2] S st P = AW X d 5 6 [.null, l1, l2] (.null :: S) st P := zAW_st (zd_of zb_X1_sheetsUsed dX1_sheetsUsed_5) rfl rfl
theorem E_X1_sheetsUsed_6 : AW X d 5 6 [l0, l1, l2] (.ref a :: S) st P = zwith (zget st a 2 4) fun v => AW X d 5 9 [l0, l1, l2] (v :: S) st P := zq_getfield (zd_of zb_X1_sheetsUsed dX1_sheetsUsed_6) zo_X1_sheetsUsed zf_1_21
theorem E_X1_sheetsUsed_9 : AW X d 5 9 [l0, l1, l2] (.ref a :: S) st P = zif (zis st a 0 = true) (zif (S.length ≤ 4) (AC X d 115 [.ref a] st (zaft X d 5 9 [l0, l1, l2] S P))) := zq_callV (B := []) (zd_of zb_X1_sheetsUsed dX1_sheetsUsed_9) zo_X1_sheetsUsed (by decide) zl_1_72 zn_115 rfl rfl rfl
theorem E_X1_sheetsUsed_12 : AW X d 5 12 [l0, l1, l2] (.int y :: .int x :: S) st P = if y ≤ x then AW X d 5 40 [l0, l1, l2] S st P else AW X d 5 15 [l0, l1, l2] S st P := zq_icmp (c := y ≤ x) (zd_of zb_X1_sheetsUsed dX1_sheetsUsed_12) (by decide) rfl
theorem E_X1_sheetsUsed_15 : AW X d 5 15 [l0, .int x, l2] S st P = AW X d 5 16 [l0, .int x, l2] (.int x :: S) st P := zAW_st (zd_of zb_X1_sheetsUsed dX1_sheetsUsed_15) rfl rfl
theorem E_X1_sheetsUsed_16 : AW X d 5 16 [l0, l1, l2] S st P = AW X d 5 17 [l0, l1, l2] (.int 1 :: S) st P := zq_iconst (zd_of zb_X1_sheetsUsed dX1_sheetsUsed_16) (by decide)
theorem E_X1_sheetsUsed_17 : AW X d 5 17 [.ref a, l1, l2] S st P = AW X d 5 18 [.ref a, l1, l2] (.ref a :: S) st P := zAW_st (zd_of zb_X1_sheetsUsed dX1_sheetsUsed_17) rfl rfl
theorem E_X1_sheetsUsed_17n : AW X d 5 17 [.null, l1, l2] S st P = AW X d 5 18 [.null, l1, l2] (.null :: S) st P := zAW_st (zd_of zb_X1_sheetsUsed dX1_sheetsUsed_17) rfl rfl
theorem E_X1_sheetsUsed_18 : AW X d 5 18 [l0, l1, l2] (.ref a :: S) st P = zwith (zget st a 2 4) fun v => AW X d 5 21 [l0, l1, l2] (v :: S) st P := zq_getfield (zd_of zb_X1_sheetsUsed dX1_sheetsUsed_18) zo_X1_sheetsUsed zf_1_21
theorem E_X1_sheetsUsed_21 : AW X d 5 21 [l0, l1, .int x] S st P = AW X d 5 22 [l0, l1, .int x] (.int x :: S) st P := zAW_st (zd_of zb_X1_sheetsUsed dX1_sheetsUsed_21) rfl rfl
theorem E_X1_sheetsUsed_22 : AW X d 5 22 [l0, l1, l2] (.int x :: .ref a :: S) st P = zif (zis st a 0 = true) (zif (S.length ≤ 4) (AC X d 117 [.ref a, .int x] st (zaft X d 5 22 [l0, l1, l2] S P))) := zq_callV (B := [.int x]) (zd_of zb_X1_sheetsUsed dX1_sheetsUsed_22) zo_X1_sheetsUsed (by decide) zl_1_75 zn_117 rfl rfl rfl
theorem E_X1_sheetsUsed_25 : AW X d 5 25 [l0, l1, l2] (.ref a :: S) st P = zif (zis st a 4 = true) (AW X d 5 28 [l0, l1, l2] (.ref a :: S) st P) := zq_cast (zd_of zb_X1_sheetsUsed dX1_sheetsUsed_25) zo_X1_sheetsUsed (by decide +kernel)
theorem E_X1_sheetsUsed_25n : AW X d 5 25 [l0, l1, l2] (.null :: S) st P = AW X d 5 28 [l0, l1, l2] (.null :: S) st P := zAW_st (zd_of zb_X1_sheetsUsed dX1_sheetsUsed_25) rfl rfl
theorem E_X1_sheetsUsed_28 : AW X d 5 28 [l0, l1, l2] (.ref a :: S) st P = zwith (zget st a 4 1) fun v => AW X d 5 31 [l0, l1, l2] (v :: S) st P := zq_getfield (zd_of zb_X1_sheetsUsed dX1_sheetsUsed_28) zo_X1_sheetsUsed zf_1_84
theorem E_X1_sheetsUsed_31 : AW X d 5 31 [l0, l1, l2] (.int y :: .int x :: S) st P = AW X d 5 32 [l0, l1, l2] (.int (x <<< (y &&& 31)) :: S) st P := zAW_st (zd_of zb_X1_sheetsUsed dX1_sheetsUsed_31) rfl rfl
theorem E_X1_sheetsUsed_32 : AW X d 5 32 [l0, l1, l2] (.int y :: .int x :: S) st P = AW X d 5 33 [l0, l1, l2] (.int (x ||| y) :: S) st P := zAW_st (zd_of zb_X1_sheetsUsed dX1_sheetsUsed_32) rfl rfl
theorem E_X1_sheetsUsed_33 : AW X d 5 33 [l0, l1, l2] (.int x :: S) st P = AW X d 5 34 [l0, .int x, l2] S st P := zAW_st (zd_of zb_X1_sheetsUsed dX1_sheetsUsed_33) rfl rfl
theorem E_X1_sheetsUsed_34 : AW X d 5 34 [l0, l1, .int x] S st P = AW X d 5 37 [l0, l1, .int (x + 1)] S st P := zq_iinc (zd_of zb_X1_sheetsUsed dX1_sheetsUsed_34) rfl (by decide)
theorem E_X1_sheetsUsed_37 : AW X d 5 37 [l0, l1, l2] S st P = AW X d 5 4 [l0, l1, l2] S st P := zq_goto (zd_of zb_X1_sheetsUsed dX1_sheetsUsed_37) (by decide)
theorem E_X1_sheetsUsed_40 : AW X d 5 40 [l0, .int x, l2] S st P = AW X d 5 41 [l0, .int x, l2] (.int x :: S) st P := zAW_st (zd_of zb_X1_sheetsUsed dX1_sheetsUsed_40) rfl rfl
theorem E_X1_sheetsUsed_41 : AW X d 5 41 [l0, l1, l2] ([.int x]) st P = P (.inl (some (.int x))) st := zAW_ret (w := (.inl (some (.int x)), st)) (zd_of zb_X1_sheetsUsed dX1_sheetsUsed_41) rfl rfl (by simp only [zfin, zr_X1_sheetsUsed])
theorem A_X1_sheetsUsed : AC X (d + 1) 5 [.ref a] st P = AW X d 5 0 [.ref a, .retAddr 0, .retAddr 0] [] st P := AC_eq ⟨⟨(show 1 ≤ zml 5 by decide +kernel), by decide +kernel⟩, by simp [zc1_int, zc1_ref, zc1_float]⟩
theorem E_X1_keepStrokes_0 : AW X d 6 0 [.ref a] S st P = AW X d 6 1 [.ref a] (.ref a :: S) st P := zAW_st (zd_of zb_X1_keepStrokes dX1_keepStrokes_0) rfl rfl
theorem E_X1_keepStrokes_0n : AW X d 6 0 [.null] S st P = AW X d 6 1 [.null] (.null :: S) st P := zAW_st (zd_of zb_X1_keepStrokes dX1_keepStrokes_0) rfl rfl
theorem E_X1_keepStrokes_1 : AW X d 6 1 [l0] (.ref a :: S) st P = zwith (zget st a 2 5) fun v => AW X d 6 4 [l0] (v :: S) st P := zq_getfield (zd_of zb_X1_keepStrokes dX1_keepStrokes_1) zo_X1_keepStrokes zf_1_28
theorem E_X1_keepStrokes_4 : AW X d 6 4 [.ref a] S st P = AW X d 6 5 [.ref a] (.ref a :: S) st P := zAW_st (zd_of zb_X1_keepStrokes dX1_keepStrokes_4) rfl rfl
theorem E_X1_keepStrokes_4n : AW X d 6 4 [.null] S st P = AW X d 6 5 [.null] (.null :: S) st P := zAW_st (zd_of zb_X1_keepStrokes dX1_keepStrokes_4) rfl rfl
theorem E_X1_keepStrokes_5 : AW X d 6 5 [l0] (.ref a :: S) st P = zwith (zget st a 2 0) fun v => AW X d 6 8 [l0] (v :: S) st P := zq_getfield (zd_of zb_X1_keepStrokes dX1_keepStrokes_5) zo_X1_keepStrokes zf_1_32
theorem E_X1_keepStrokes_8 : AW X d 6 8 [l0] (.ref a :: S) st P = zwith (zget st a 1 1) fun v => AW X d 6 11 [l0] (v :: S) st P := zq_getfield (zd_of zb_X1_keepStrokes dX1_keepStrokes_8) zo_X1_keepStrokes zf_1_44
theorem E_X1_keepStrokes_11 : AW X d 6 11 [l0] (v1 :: .ref a :: S) st P = zif (zis st a 3 = true) (zif (S.length ≤ 4) (AC X d 12 [.ref a, v1] st (zaft X d 6 11 [l0] S P))) := zq_callV (B := [v1]) (zd_of zb_X1_keepStrokes dX1_keepStrokes_11) zo_X1_keepStrokes (by decide) zl_1_87 zn_12 rfl rfl rfl
theorem E_X1_keepStrokes_14 : AW X d 6 14 [l0] [] st P = P (.inl none) st := zAW_ret (w := (.inl none, st)) (zd_of zb_X1_keepStrokes dX1_keepStrokes_14) rfl rfl (by simp only [zfin, zr_X1_keepStrokes])
theorem A_X1_keepStrokes : AC X (d + 1) 6 [.ref a] st P = AW X d 6 0 [.ref a] [] st P := AC_eq ⟨⟨(show 1 ≤ zml 6 by decide +kernel), by decide +kernel⟩, by simp [zc1_int, zc1_ref, zc1_float]⟩
theorem E_X1_minutesFor_0 : AW X d 7 0 [.ref a, l1, l2, l3] S st P = AW X d 7 1 [.ref a, l1, l2, l3] (.ref a :: S) st P := zAW_st (zd_of zb_X1_minutesFor dX1_minutesFor_0) rfl rfl
theorem E_X1_minutesFor_0n : AW X d 7 0 [.null, l1, l2, l3] S st P = AW X d 7 1 [.null, l1, l2, l3] (.null :: S) st P := zAW_st (zd_of zb_X1_minutesFor dX1_minutesFor_0) rfl rfl
theorem E_X1_minutesFor_1 : AW X d 7 1 [l0, l1, l2, l3] (.ref a :: S) st P = zwith (zget st a 2 1) fun v => AW X d 7 4 [l0, l1, l2, l3] (v :: S) st P := zq_getfield (zd_of zb_X1_minutesFor dX1_minutesFor_1) zo_X1_minutesFor zf_1_36
theorem E_X1_minutesFor_4 : AW X d 7 4 [l0, .float u, l2, l3] S st P = AW X d 7 5 [l0, .float u, l2, l3] (.float u :: S) st P := zAW_st (zd_of zb_X1_minutesFor dX1_minutesFor_4) rfl rfl
theorem E_X1_minutesFor_5 : AW X d 7 5 [l0, l1, l2, l3] S st P = AW X d 7 7 [l0, l1, l2, l3] (.float 1092616192 :: S) st P := zq_ldc (zd_of zb_X1_minutesFor dX1_minutesFor_5) zo_X1_minutesFor (by decide) (by decide +kernel) rfl
theorem E_X1_minutesFor_7 : AW X d 7 7 [l0, l1, l2, l3] (.float u2 :: .float u :: S) st P = zif (zn32 (FP.fdiv u u2) = true) (AW X d 7 8 [l0, l1, l2, l3] (.float (FP.fdiv u u2) :: S) st P) := zq_fdiv (zd_of zb_X1_minutesFor dX1_minutesFor_7)
theorem E_X1_minutesFor_8 : AW X d 7 8 [l0, l1, l2, l3] (.float u :: S) st P = AW X d 7 9 [l0, l1, l2, l3] (.int (FP.f2i u) :: S) st P := zAW_st (zd_of zb_X1_minutesFor dX1_minutesFor_8) rfl rfl
theorem E_X1_minutesFor_9 : AW X d 7 9 [l0, l1, l2, l3] S st P = AW X d 7 10 [l0, l1, l2, l3] (.int 1 :: S) st P := zq_iconst (zd_of zb_X1_minutesFor dX1_minutesFor_9) (by decide)
theorem E_X1_minutesFor_10 : AW X d 7 10 [l0, l1, l2, l3] (.int y :: .int x :: S) st P = AW X d 7 11 [l0, l1, l2, l3] (.int (x + y) :: S) st P := zAW_st (zd_of zb_X1_minutesFor dX1_minutesFor_10) rfl rfl
theorem E_X1_minutesFor_11 : AW X d 7 11 [l0, l1, l2, l3] (.int y :: .int x :: S) st P = AW X d 7 12 [l0, l1, l2, l3] (.int (x * y) :: S) st P := zAW_st (zd_of zb_X1_minutesFor dX1_minutesFor_11) rfl rfl
theorem E_X1_minutesFor_12 : AW X d 7 12 [l0, l1, l2, l3] (.int x :: S) st P = AW X d 7 13 [l0, l1, .int x, l3] S st P := zAW_st (zd_of zb_X1_minutesFor dX1_minutesFor_12) rfl rfl
theorem E_X1_minutesFor_13 : AW X d 7 13 [l0, l1, l2, l3] S st P = AW X d 7 14 [l0, l1, l2, l3] (.int 0 :: S) st P := zq_iconst (zd_of zb_X1_minutesFor dX1_minutesFor_13) (by decide)
theorem E_X1_minutesFor_14 : AW X d 7 14 [l0, l1, l2, l3] (.int x :: S) st P = AW X d 7 15 [l0, l1, l2, .int x] S st P := zAW_st (zd_of zb_X1_minutesFor dX1_minutesFor_14) rfl rfl
theorem E_X1_minutesFor_15 : AW X d 7 15 [l0, l1, l2, .int x] S st P = AW X d 7 16 [l0, l1, l2, .int x] (.int x :: S) st P := zAW_st (zd_of zb_X1_minutesFor dX1_minutesFor_15) rfl rfl
theorem E_X1_minutesFor_16 : AW X d 7 16 [.ref a, l1, l2, l3] S st P = AW X d 7 17 [.ref a, l1, l2, l3] (.ref a :: S) st P := zAW_st (zd_of zb_X1_minutesFor dX1_minutesFor_16) rfl rfl
theorem E_X1_minutesFor_16n : AW X d 7 16 [.null, l1, l2, l3] S st P = AW X d 7 17 [.null, l1, l2, l3] (.null :: S) st P := zAW_st (zd_of zb_X1_minutesFor dX1_minutesFor_16) rfl rfl
theorem E_X1_minutesFor_17 : AW X d 7 17 [l0, l1, l2, l3] (.ref a :: S) st P = zwith (zget st a 2 4) fun v => AW X d 7 20 [l0, l1, l2, l3] (v :: S) st P := zq_getfield (zd_of zb_X1_minutesFor dX1_minutesFor_17) zo_X1_minutesFor zf_1_21
theorem E_X1_minutesFor_20 : AW X d 7 20 [l0, l1, l2, l3] (.ref a :: S) st P = zif (zis st a 0 = true) (zif (S.length ≤ 4) (AC X d 115 [.ref a] st (zaft X d 7 20 [l0, l1, l2, l3] S P))) := zq_callV (B := []) (zd_of zb_X1_minutesFor dX1_minutesFor_20) zo_X1_minutesFor (by decide) zl_1_72 zn_115 rfl rfl rfl
theorem E_X1_minutesFor_23 : AW X d 7 23 [l0, l1, l2, l3] (.int y :: .int x :: S) st P = if y ≤ x then AW X d 7 54 [l0, l1, l2, l3] S st P else AW X d 7 26 [l0, l1, l2, l3] S st P := zq_icmp (c := y ≤ x) (zd_of zb_X1_minutesFor dX1_minutesFor_23) (by decide) rfl
theorem E_X1_minutesFor_26 : AW X d 7 26 [.ref a, l1, l2, l3] S st P = AW X d 7 27 [.ref a, l1, l2, l3] (.ref a :: S) st P := zAW_st (zd_of zb_X1_minutesFor dX1_minutesFor_26) rfl rfl
theorem E_X1_minutesFor_26n : AW X d 7 26 [.null, l1, l2, l3] S st P = AW X d 7 27 [.null, l1, l2, l3] (.null :: S) st P := zAW_st (zd_of zb_X1_minutesFor dX1_minutesFor_26) rfl rfl
theorem E_X1_minutesFor_27 : AW X d 7 27 [.ref a, l1, l2, l3] S st P = AW X d 7 28 [.ref a, l1, l2, l3] (.ref a :: S) st P := zAW_st (zd_of zb_X1_minutesFor dX1_minutesFor_27) rfl rfl
theorem E_X1_minutesFor_27n : AW X d 7 27 [.null, l1, l2, l3] S st P = AW X d 7 28 [.null, l1, l2, l3] (.null :: S) st P := zAW_st (zd_of zb_X1_minutesFor dX1_minutesFor_27) rfl rfl
theorem E_X1_minutesFor_28 : AW X d 7 28 [l0, l1, l2, l3] (.ref a :: S) st P = zwith (zget st a 2 4) fun v => AW X d 7 31 [l0, l1, l2, l3] (v :: S) st P := zq_getfield (zd_of zb_X1_minutesFor dX1_minutesFor_28) zo_X1_minutesFor zf_1_21
theorem E_X1_minutesFor_31 : AW X d 7 31 [l0, l1, l2, .int x] S st P = AW X d 7 32 [l0, l1, l2, .int x] (.int x :: S) st P := zAW_st (zd_of zb_X1_minutesFor dX1_minutesFor_31) rfl rfl
theorem E_X1_minutesFor_32 : AW X d 7 32 [l0, l1, l2, l3] (.int x :: .ref a :: S) st P = zif (zis st a 0 = true) (zif (S.length ≤ 4) (AC X d 117 [.ref a, .int x] st (zaft X d 7 32 [l0, l1, l2, l3] S P))) := zq_callV (B := [.int x]) (zd_of zb_X1_minutesFor dX1_minutesFor_32) zo_X1_minutesFor (by decide) zl_1_75 zn_117 rfl rfl rfl
theorem E_X1_minutesFor_35 : AW X d 7 35 [l0, l1, l2, l3] (.ref a :: S) st P = zif (zis st a 4 = true) (AW X d 7 38 [l0, l1, l2, l3] (.ref a :: S) st P) := zq_cast (zd_of zb_X1_minutesFor dX1_minutesFor_35) zo_X1_minutesFor (by decide +kernel)
theorem E_X1_minutesFor_35n : AW X d 7 35 [l0, l1, l2, l3] (.null :: S) st P = AW X d 7 38 [l0, l1, l2, l3] (.null :: S) st P := zAW_st (zd_of zb_X1_minutesFor dX1_minutesFor_35) rfl rfl
theorem E_X1_minutesFor_38 : AW X d 7 38 [l0, l1, l2, .int x] S st P = AW X d 7 39 [l0, l1, l2, .int x] (.int x :: S) st P := zAW_st (zd_of zb_X1_minutesFor dX1_minutesFor_38) rfl rfl
theorem E_X1_minutesFor_39 : AW X d 7 39 [l0, l1, l2, l3] (.int x :: v1 :: .ref a :: S) st P = zif (zis st a 2 = true) (zif (S.length ≤ 4) (AC X d 8 [.ref a, v1, .int x] st (zaft X d 7 39 [l0, l1, l2, l3] S P))) := zq_callV (B := [v1, .int x]) (zd_of zb_X1_minutesFor dX1_minutesFor_39) zo_X1_minutesFor (by decide) zl_1_92 zn_8 rfl rfl rfl
theorem E_X1_minutesFor_42 : AW X d 7 42 [l0, l1, l2, l3] (.int x :: S) st P = if x = 0 then AW X d 7 48 [l0, l1, l2, l3] S st P else AW X d 7 45 [l0, l1, l2, l3] S st P := zq_if (c := x = 0) (zd_of zb_X1_minutesFor dX1_minutesFor_42) (by decide) rfl
theorem E_X1_minutesFor_45 : AW X d 7 45 [l0, l1, .int x, l3] S st P = AW X d 7 48 [l0, l1, .int (x + 3), l3] S st P := zq_iinc (zd_of zb_X1_minutesFor dX1_minutesFor_45) rfl (by decide)
theorem E_X1_minutesFor_48 : AW X d 7 48 [l0, l1, l2, .int x] S st P = AW X d 7 51 [l0, l1, l2, .int (x + 1)] S st P := zq_iinc (zd_of zb_X1_minutesFor dX1_minutesFor_48) rfl (by decide)
theorem E_X1_minutesFor_51 : AW X d 7 51 [l0, l1, l2, l3] S st P = AW X d 7 15 [l0, l1, l2, l3] S st P := zq_goto (zd_of zb_X1_minutesFor dX1_minutesFor_51) (by decide)
theorem E_X1_minutesFor_54 : AW X d 7 54 [l0, l1, .int x, l3] S st P = AW X d 7 55 [l0, l1, .int x, l3] (.int x :: S) st P := zAW_st (zd_of zb_X1_minutesFor dX1_minutesFor_54) rfl rfl
theorem E_X1_minutesFor_55 : AW X d 7 55 [l0, l1, l2, l3] ([.int x]) st P = P (.inl (some (.int x))) st := zAW_ret (w := (.inl (some (.int x)), st)) (zd_of zb_X1_minutesFor dX1_minutesFor_55) rfl rfl (by simp only [zfin, zr_X1_minutesFor])
theorem A_X1_minutesFor : AC X (d + 1) 7 [.ref a, .float u] st P = AW X d 7 0 [.ref a, .float u, .retAddr 0, .retAddr 0] [] st P := AC_eq ⟨⟨(show 2 ≤ zml 7 by decide +kernel), by decide +kernel⟩, by simp [zc1_int, zc1_ref, zc1_float]⟩
theorem E_X1_touchesEarlier_0 : AW X d 8 0 [l0, l1, l2, l3] S st P = AW X d 8 1 [l0, l1, l2, l3] (.int 0 :: S) st P := zq_iconst (zd_of zb_X1_touchesEarlier dX1_touchesEarlier_0) (by decide)
theorem E_X1_touchesEarlier_1 : AW X d 8 1 [l0, l1, l2, l3] (.int x :: S) st P = AW X d 8 2 [l0, l1, l2, .int x] S st P := zAW_st (zd_of zb_X1_touchesEarlier dX1_touchesEarlier_1) rfl rfl
theorem E_X1_touchesEarlier_2 : AW X d 8 2 [l0, l1, l2, .int x] S st P = AW X d 8 3 [l0, l1, l2, .int x] (.int x :: S) st P := zAW_st (zd_of zb_X1_touchesEarlier dX1_touchesEarlier_2) rfl rfl
theorem E_X1_touchesEarlier_3 : AW X d 8 3 [l0, l1, .int x, l3] S st P = AW X d 8 4 [l0, l1, .int x, l3] (.int x :: S) st P := zAW_st (zd_of zb_X1_touchesEarlier dX1_touchesEarlier_3) rfl rfl
theorem E_X1_touchesEarlier_4 : AW X d 8 4 [l0, l1, l2, l3] (.int y :: .int x :: S) st P = if y ≤ x then AW X d 8 44 [l0, l1, l2, l3] S st P else AW X d 8 7 [l0, l1, l2, l3] S st P := zq_icmp (c := y ≤ x) (zd_of zb_X1_touchesEarlier dX1_touchesEarlier_4) (by decide) rfl
theorem E_X1_touchesEarlier_7 : AW X d 8 7 [l0, l1, l2, .int x] S st P = AW X d 8 8 [l0, l1, l2, .int x] (.int x :: S) st P := zAW_st (zd_of zb_X1_touchesEarlier dX1_touchesEarlier_7) rfl rfl
theorem E_X1_touchesEarlier_8 : AW X d 8 8 [.ref a, l1, l2, l3] S st P = AW X d 8 9 [.ref a, l1, l2, l3] (.ref a :: S) st P := zAW_st (zd_of zb_X1_touchesEarlier dX1_touchesEarlier_8) rfl rfl
theorem E_X1_touchesEarlier_8n : AW X d 8 8 [.null, l1, l2, l3] S st P = AW X d 8 9 [.null, l1, l2, l3] (.null :: S) st P := zAW_st (zd_of zb_X1_touchesEarlier dX1_touchesEarlier_8) rfl rfl
theorem E_X1_touchesEarlier_9 : AW X d 8 9 [l0, l1, l2, l3] (.ref a :: S) st P = zwith (zget st a 2 4) fun v => AW X d 8 12 [l0, l1, l2, l3] (v :: S) st P := zq_getfield (zd_of zb_X1_touchesEarlier dX1_touchesEarlier_9) zo_X1_touchesEarlier zf_1_21
theorem E_X1_touchesEarlier_12 : AW X d 8 12 [l0, l1, l2, l3] (.ref a :: S) st P = zif (zis st a 0 = true) (zif (S.length ≤ 4) (AC X d 115 [.ref a] st (zaft X d 8 12 [l0, l1, l2, l3] S P))) := zq_callV (B := []) (zd_of zb_X1_touchesEarlier dX1_touchesEarlier_12) zo_X1_touchesEarlier (by decide) zl_1_72 zn_115 rfl rfl rfl
theorem E_X1_touchesEarlier_15 : AW X d 8 15 [l0, l1, l2, l3] (.int y :: .int x :: S) st P = if y ≤ x then AW X d 8 44 [l0, l1, l2, l3] S st P else AW X d 8 18 [l0, l1, l2, l3] S st P := zq_icmp (c := y ≤ x) (zd_of zb_X1_touchesEarlier dX1_touchesEarlier_15) (by decide) rfl
theorem E_X1_touchesEarlier_18 : AW X d 8 18 [l0, .ref a, l2, l3] S st P = AW X d 8 19 [l0, .ref a, l2, l3] (.ref a :: S) st P := zAW_st (zd_of zb_X1_touchesEarlier dX1_touchesEarlier_18) rfl rfl
theorem E_X1_touchesEarlier_18n : AW X d 8 18 [l0, .null, l2, l3] S st P = AW X d 8 19 [l0, .null, l2, l3] (.null :: S) st P := zAW_st (zd_of zb_X1_touchesEarlier dX1_touchesEarlier_18) rfl rfl
theorem E_X1_touchesEarlier_19 : AW X d 8 19 [.ref a, l1, l2, l3] S st P = AW X d 8 20 [.ref a, l1, l2, l3] (.ref a :: S) st P := zAW_st (zd_of zb_X1_touchesEarlier dX1_touchesEarlier_19) rfl rfl
theorem E_X1_touchesEarlier_19n : AW X d 8 19 [.null, l1, l2, l3] S st P = AW X d 8 20 [.null, l1, l2, l3] (.null :: S) st P := zAW_st (zd_of zb_X1_touchesEarlier dX1_touchesEarlier_19) rfl rfl
theorem E_X1_touchesEarlier_20 : AW X d 8 20 [l0, l1, l2, l3] (.ref a :: S) st P = zwith (zget st a 2 4) fun v => AW X d 8 23 [l0, l1, l2, l3] (v :: S) st P := zq_getfield (zd_of zb_X1_touchesEarlier dX1_touchesEarlier_20) zo_X1_touchesEarlier zf_1_21
theorem E_X1_touchesEarlier_23 : AW X d 8 23 [l0, l1, l2, .int x] S st P = AW X d 8 24 [l0, l1, l2, .int x] (.int x :: S) st P := zAW_st (zd_of zb_X1_touchesEarlier dX1_touchesEarlier_23) rfl rfl
theorem E_X1_touchesEarlier_24 : AW X d 8 24 [l0, l1, l2, l3] (.int x :: .ref a :: S) st P = zif (zis st a 0 = true) (zif (S.length ≤ 4) (AC X d 117 [.ref a, .int x] st (zaft X d 8 24 [l0, l1, l2, l3] S P))) := zq_callV (B := [.int x]) (zd_of zb_X1_touchesEarlier dX1_touchesEarlier_24) zo_X1_touchesEarlier (by decide) zl_1_75 zn_117 rfl rfl rfl
theorem E_X1_touchesEarlier_27 : AW X d 8 27 [l0, l1, l2, l3] (.ref a :: S) st P = zif (zis st a 4 = true) (AW X d 8 30 [l0, l1, l2, l3] (.ref a :: S) st P) := zq_cast (zd_of zb_X1_touchesEarlier dX1_touchesEarlier_27) zo_X1_touchesEarlier (by decide +kernel)
theorem E_X1_touchesEarlier_27n : AW X d 8 27 [l0, l1, l2, l3] (.null :: S) st P = AW X d 8 30 [l0, l1, l2, l3] (.null :: S) st P := zAW_st (zd_of zb_X1_touchesEarlier dX1_touchesEarlier_27) rfl rfl
theorem E_X1_touchesEarlier_30 : AW X d 8 30 [l0, l1, l2, l3] (v1 :: .ref a :: S) st P = zif (zis st a 4 = true) (zif (S.length ≤ 4) (AC X d 31 [.ref a, v1] st (zaft X d 8 30 [l0, l1, l2, l3] S P))) := zq_callV (B := [v1]) (zd_of zb_X1_touchesEarlier dX1_touchesEarlier_30) zo_X1_touchesEarlier (by decide) zl_1_96 zn_31 rfl rfl rfl
theorem E_X1_touchesEarlier_33 : AW X d 8 33 [l0, l1, l2, l3] (.int x :: S) st P = if x = 0 then AW X d 8 38 [l0, l1, l2, l3] S st P else AW X d 8 36 [l0, l1, l2, l3] S st P := zq_if (c := x = 0) (zd_of zb_X1_touchesEarlier dX1_touchesEarlier_33) (by decide) rfl
theorem E_X1_touchesEarlier_36 : AW X d 8 36 [l0, l1, l2, l3] S st P = AW X d 8 37 [l0, l1, l2, l3] (.int 1 :: S) st P := zq_iconst (zd_of zb_X1_touchesEarlier dX1_touchesEarlier_36) (by decide)
theorem E_X1_touchesEarlier_37 : AW X d 8 37 [l0, l1, l2, l3] ([.int x]) st P = zif (x &&& 1 = x) (P (.inl (some (.int x))) st) := by
  by_cases h : x &&& 1 = x
  · rw [zif_of h]; exact zAW_ret (w := (.inl (some (.int x)), st)) (zd_of zb_X1_touchesEarlier dX1_touchesEarlier_37) rfl rfl (by simp only [zfin, zr_X1_touchesEarlier]; rw [if_pos h])
  · rw [zAW_stuck (zd_of zb_X1_touchesEarlier dX1_touchesEarlier_37) rfl (by simp only [zfin, zr_X1_touchesEarlier]; rw [if_neg h]) rfl]; exact propext ⟨fun z => z.elim, fun z => h z.1⟩
theorem E_X1_touchesEarlier_38 : AW X d 8 38 [l0, l1, l2, .int x] S st P = AW X d 8 41 [l0, l1, l2, .int (x + 1)] S st P := zq_iinc (zd_of zb_X1_touchesEarlier dX1_touchesEarlier_38) rfl (by decide)
theorem E_X1_touchesEarlier_41 : AW X d 8 41 [l0, l1, l2, l3] S st P = AW X d 8 2 [l0, l1, l2, l3] S st P := zq_goto (zd_of zb_X1_touchesEarlier dX1_touchesEarlier_41) (by decide)
theorem E_X1_touchesEarlier_44 : AW X d 8 44 [l0, l1, l2, l3] S st P = AW X d 8 45 [l0, l1, l2, l3] (.int 0 :: S) st P := zq_iconst (zd_of zb_X1_touchesEarlier dX1_touchesEarlier_44) (by decide)
theorem E_X1_touchesEarlier_45 : AW X d 8 45 [l0, l1, l2, l3] ([.int x]) st P = zif (x &&& 1 = x) (P (.inl (some (.int x))) st) := by
  by_cases h : x &&& 1 = x
  · rw [zif_of h]; exact zAW_ret (w := (.inl (some (.int x)), st)) (zd_of zb_X1_touchesEarlier dX1_touchesEarlier_45) rfl rfl (by simp only [zfin, zr_X1_touchesEarlier]; rw [if_pos h])
  · rw [zAW_stuck (zd_of zb_X1_touchesEarlier dX1_touchesEarlier_45) rfl (by simp only [zfin, zr_X1_touchesEarlier]; rw [if_neg h]) rfl]; exact propext ⟨fun z => z.elim, fun z => h z.1⟩
theorem A_X1_touchesEarlier (h1 : zc1 v1 = true) : AC X (d + 1) 8 [.ref a, v1, .int x] st P = AW X d 8 0 [.ref a, v1, .int x, .retAddr 0] [] st P := AC_eq ⟨⟨(show 3 ≤ zml 8 by decide +kernel), by decide +kernel⟩, by simp [zc1_int, zc1_ref, zc1_float, h1]⟩
theorem E_X2_init_0 : AW X d 9 0 [.ref a] S st P = AW X d 9 1 [.ref a] (.ref a :: S) st P := zAW_st (zd_of zb_X2_init dX2_init_0) rfl rfl
theorem E_X2_init_0n : AW X d 9 0 [.null] S st P = AW X d 9 1 [.null] (.null :: S) st P := zAW_st (zd_of zb_X2_init dX2_init_0) rfl rfl
theorem E_X2_init_1 : AW X d 9 1 [l0] (.ref a :: S) st P = zif (S.length ≤ 4) (AW X d 9 4 [l0] S st P) := zq_obj (zd_of zb_X2_init dX2_init_1) zo_X2_init (by decide) (by decide +kernel)
theorem E_X2_init_4 : AW X d 9 4 [.ref a] S st P = AW X d 9 5 [.ref a] (.ref a :: S) st P := zAW_st (zd_of zb_X2_init dX2_init_4) rfl rfl
theorem E_X2_init_4n : AW X d 9 4 [.null] S st P = AW X d 9 5 [.null] (.null :: S) st P := zAW_st (zd_of zb_X2_init dX2_init_4) rfl rfl
theorem E_X2_init_5 : AW X d 9 5 [l0] S st P = AW X d 9 7 [l0] (.int 24 :: S) st P := zq_bipush (zd_of zb_X2_init dX2_init_5) (by decide)
theorem E_X2_init_7 : AW X d 9 7 [l0] (.int 24 :: S) st P = AW X d 9 9 [l0] (.ref st.2.length :: S) (znwa st 24 (.inl fun _ => 0)) P := zq_newI (zd_of zb_X2_init dX2_init_7) (by decide) (by decide)
theorem E_X2_init_9 : AW X d 9 9 [l0] (.ref b :: .ref a :: S) st P = zwith (zget st a 3 0) fun _ => AW X d 9 12 [l0] S (zput st a 0 (.ref b)) P := zq_putfield (zd_of zb_X2_init dX2_init_9) zo_X2_init zf_2_9 rfl (Or.inr (by decide +kernel))
theorem E_X2_init_9n : AW X d 9 9 [l0] (.null :: .ref a :: S) st P = zwith (zget st a 3 0) fun _ => AW X d 9 12 [l0] S (zput st a 0 (.null)) P := zq_putfield (zd_of zb_X2_init dX2_init_9) zo_X2_init zf_2_9 rfl (Or.inr (by decide +kernel))
theorem E_X2_init_12 : AW X d 9 12 [l0] [] st P = P (.inl none) st := zAW_ret (w := (.inl none, st)) (zd_of zb_X2_init dX2_init_12) rfl rfl (by simp only [zfin, zr_X2_init])
theorem A_X2_init : AC X (d + 1) 9 [.ref a] st P = AW X d 9 0 [.ref a] [] st P := AC_eq ⟨⟨(show 1 ≤ zml 9 by decide +kernel), by decide +kernel⟩, by simp [zc1_int, zc1_ref, zc1_float]⟩
theorem E_X2_add_0 : AW X d 10 0 [.ref a, l1, l2] S st P = AW X d 10 1 [.ref a, l1, l2] (.ref a :: S) st P := zAW_st (zd_of zb_X2_add dX2_add_0) rfl rfl
theorem E_X2_add_0n : AW X d 10 0 [.null, l1, l2] S st P = AW X d 10 1 [.null, l1, l2] (.null :: S) st P := zAW_st (zd_of zb_X2_add dX2_add_0) rfl rfl
theorem E_X2_add_1 : AW X d 10 1 [l0, l1, l2] (.ref a :: S) st P = zwith (zget st a 3 1) fun v => AW X d 10 4 [l0, l1, l2] (v :: S) st P := zq_getfield (zd_of zb_X2_add dX2_add_1) zo_X2_add zf_2_15
theorem E_X2_add_4 : AW X d 10 4 [l0, l1, l2] (.int x :: S) st P = if x < 0 then AW X d 10 45 [l0, l1, l2] S st P else AW X d 10 7 [l0, l1, l2] S st P := zq_if (c := x < 0) (zd_of zb_X2_add dX2_add_4) (by decide) rfl
theorem E_X2_add_7 : AW X d 10 7 [.ref a, l1, l2] S st P = AW X d 10 8 [.ref a, l1, l2] (.ref a :: S) st P := zAW_st (zd_of zb_X2_add dX2_add_7) rfl rfl
theorem E_X2_add_7n : AW X d 10 7 [.null, l1, l2] S st P = AW X d 10 8 [.null, l1, l2] (.null :: S) st P := zAW_st (zd_of zb_X2_add dX2_add_7) rfl rfl
theorem E_X2_add_8 : AW X d 10 8 [l0, l1, l2] (.ref a :: S) st P = zwith (zget st a 3 1) fun v => AW X d 10 11 [l0, l1, l2] (v :: S) st P := zq_getfield (zd_of zb_X2_add dX2_add_8) zo_X2_add zf_2_15
theorem E_X2_add_11 : AW X d 10 11 [.ref a, l1, l2] S st P = AW X d 10 12 [.ref a, l1, l2] (.ref a :: S) st P := zAW_st (zd_of zb_X2_add dX2_add_11) rfl rfl
theorem E_X2_add_11n : AW X d 10 11 [.null, l1, l2] S st P = AW X d 10 12 [.null, l1, l2] (.null :: S) st P := zAW_st (zd_of zb_X2_add dX2_add_11) rfl rfl
theorem E_X2_add_12 : AW X d 10 12 [l0, l1, l2] (.ref a :: S) st P = zwith (zget st a 3 0) fun v => AW X d 10 15 [l0, l1, l2] (v :: S) st P := zq_getfield (zd_of zb_X2_add dX2_add_12) zo_X2_add zf_2_9
theorem E_X2_add_15 : AW X d 10 15 [l0, l1, l2] (.ref a :: S) st P = zwith (zlen X st a) fun n => AW X d 10 16 [l0, l1, l2] (.int (Int32.ofNat n) :: S) st P := zq_alen (zd_of zb_X2_add dX2_add_15)
theorem E_X2_add_16 : AW X d 10 16 [l0, l1, l2] (.int y :: .int x :: S) st P = if y ≤ x then AW X d 10 45 [l0, l1, l2] S st P else AW X d 10 19 [l0, l1, l2] S st P := zq_icmp (c := y ≤ x) (zd_of zb_X2_add dX2_add_16) (by decide) rfl
theorem E_X2_add_19 : AW X d 10 19 [.ref a, l1, l2] S st P = AW X d 10 20 [.ref a, l1, l2] (.ref a :: S) st P := zAW_st (zd_of zb_X2_add dX2_add_19) rfl rfl
theorem E_X2_add_19n : AW X d 10 19 [.null, l1, l2] S st P = AW X d 10 20 [.null, l1, l2] (.null :: S) st P := zAW_st (zd_of zb_X2_add dX2_add_19) rfl rfl
theorem E_X2_add_20 : AW X d 10 20 [l0, l1, l2] (.ref a :: S) st P = zwith (zget st a 3 0) fun v => AW X d 10 23 [l0, l1, l2] (v :: S) st P := zq_getfield (zd_of zb_X2_add dX2_add_20) zo_X2_add zf_2_9
theorem E_X2_add_23 : AW X d 10 23 [.ref a, l1, l2] S st P = AW X d 10 24 [.ref a, l1, l2] (.ref a :: S) st P := zAW_st (zd_of zb_X2_add dX2_add_23) rfl rfl
theorem E_X2_add_23n : AW X d 10 23 [.null, l1, l2] S st P = AW X d 10 24 [.null, l1, l2] (.null :: S) st P := zAW_st (zd_of zb_X2_add dX2_add_23) rfl rfl
theorem E_X2_add_24 : AW X d 10 24 [l0, l1, l2] (.ref a :: S) st P = zwith (zget st a 3 1) fun v => AW X d 10 27 [l0, l1, l2] (v :: S) st P := zq_getfield (zd_of zb_X2_add dX2_add_24) zo_X2_add zf_2_15
theorem E_X2_add_27 : AW X d 10 27 [l0, l1, l2] S st P = AW X d 10 30 [l0, l1, l2] (.int 1024 :: S) st P := zq_sipush (zd_of zb_X2_add dX2_add_27) (by decide)
theorem E_X2_add_30 : AW X d 10 30 [l0, .int x, l2] S st P = AW X d 10 31 [l0, .int x, l2] (.int x :: S) st P := zAW_st (zd_of zb_X2_add dX2_add_30) rfl rfl
theorem E_X2_add_31 : AW X d 10 31 [l0, l1, l2] (.int y :: .int x :: S) st P = AW X d 10 32 [l0, l1, l2] (.int (x * y) :: S) st P := zAW_st (zd_of zb_X2_add dX2_add_31) rfl rfl
theorem E_X2_add_32 : AW X d 10 32 [l0, l1, .int x] S st P = AW X d 10 33 [l0, l1, .int x] (.int x :: S) st P := zAW_st (zd_of zb_X2_add dX2_add_32) rfl rfl
theorem E_X2_add_33 : AW X d 10 33 [l0, l1, l2] (.int y :: .int x :: S) st P = AW X d 10 34 [l0, l1, l2] (.int (x + y) :: S) st P := zAW_st (zd_of zb_X2_add dX2_add_33) rfl rfl
theorem E_X2_add_34 : AW X d 10 34 [l0, l1, l2] (.int y :: .int x :: .ref a :: S) st P = zwith (zaI st a) fun q => zwith (zix x q.1) fun j => AW X d 10 35 [l0, l1, l2] S (zsta st a (q.1, .inl (upd q.2 j y))) P := zq_iastore (zd_of zb_X2_add dX2_add_34)
theorem E_X2_add_35 : AW X d 10 35 [.ref a, l1, l2] S st P = AW X d 10 36 [.ref a, l1, l2] (.ref a :: S) st P := zAW_st (zd_of zb_X2_add dX2_add_35) rfl rfl
theorem E_X2_add_35n : AW X d 10 35 [.null, l1, l2] S st P = AW X d 10 36 [.null, l1, l2] (.null :: S) st P := zAW_st (zd_of zb_X2_add dX2_add_35) rfl rfl
theorem E_X2_add_36 : AW X d 10 36 [l0, l1, l2] (.ref a :: S) st P = AW X d 10 37 [l0, l1, l2] (.ref a :: .ref a :: S) st P := zq_dup (zd_of zb_X2_add dX2_add_36) rfl
theorem E_X2_add_36n : AW X d 10 36 [l0, l1, l2] (.null :: S) st P = AW X d 10 37 [l0, l1, l2] (.null :: .null :: S) st P := zq_dup (zd_of zb_X2_add dX2_add_36) rfl
theorem E_X2_add_36i : AW X d 10 36 [l0, l1, l2] (.int x :: S) st P = AW X d 10 37 [l0, l1, l2] (.int x :: .int x :: S) st P := zq_dup (zd_of zb_X2_add dX2_add_36) rfl
theorem E_X2_add_36f : AW X d 10 36 [l0, l1, l2] (.float u :: S) st P = AW X d 10 37 [l0, l1, l2] (.float u :: .float u :: S) st P := zq_dup (zd_of zb_X2_add dX2_add_36) rfl
theorem E_X2_add_37 : AW X d 10 37 [l0, l1, l2] (.ref a :: S) st P = zwith (zget st a 3 1) fun v => AW X d 10 40 [l0, l1, l2] (v :: S) st P := zq_getfield (zd_of zb_X2_add dX2_add_37) zo_X2_add zf_2_15
theorem E_X2_add_40 : AW X d 10 40 [l0, l1, l2] S st P = AW X d 10 41 [l0, l1, l2] (.int 1 :: S) st P := zq_iconst (zd_of zb_X2_add dX2_add_40) (by decide)
theorem E_X2_add_41 : AW X d 10 41 [l0, l1, l2] (.int y :: .int x :: S) st P = AW X d 10 42 [l0, l1, l2] (.int (x + y) :: S) st P := zAW_st (zd_of zb_X2_add dX2_add_41) rfl rfl
theorem E_X2_add_42 : AW X d 10 42 [l0, l1, l2] (.int x :: .ref a :: S) st P = zwith (zget st a 3 1) fun _ => AW X d 10 45 [l0, l1, l2] S (zput st a 1 (.int x)) P := zq_putfield (zd_of zb_X2_add dX2_add_42) zo_X2_add zf_2_15 rfl (Or.inl (by decide +kernel))
theorem E_X2_add_45 : AW X d 10 45 [l0, l1, l2] [] st P = P (.inl none) st := zAW_ret (w := (.inl none, st)) (zd_of zb_X2_add dX2_add_45) rfl rfl (by simp only [zfin, zr_X2_add])
theorem A_X2_add : AC X (d + 1) 10 [.ref a, .int x, .int y] st P = AW X d 10 0 [.ref a, .int x, .int y] [] st P := AC_eq ⟨⟨(show 3 ≤ zml 10 by decide +kernel), by decide +kernel⟩, by simp [zc1_int, zc1_ref, zc1_float]⟩
theorem E_X2_clear_0 : AW X d 11 0 [.ref a] S st P = AW X d 11 1 [.ref a] (.ref a :: S) st P := zAW_st (zd_of zb_X2_clear dX2_clear_0) rfl rfl
theorem E_X2_clear_0n : AW X d 11 0 [.null] S st P = AW X d 11 1 [.null] (.null :: S) st P := zAW_st (zd_of zb_X2_clear dX2_clear_0) rfl rfl
theorem E_X2_clear_1 : AW X d 11 1 [l0] S st P = AW X d 11 2 [l0] (.int 0 :: S) st P := zq_iconst (zd_of zb_X2_clear dX2_clear_1) (by decide)
theorem E_X2_clear_2 : AW X d 11 2 [l0] (.int x :: .ref a :: S) st P = zwith (zget st a 3 1) fun _ => AW X d 11 5 [l0] S (zput st a 1 (.int x)) P := zq_putfield (zd_of zb_X2_clear dX2_clear_2) zo_X2_clear zf_2_15 rfl (Or.inl (by decide +kernel))
theorem E_X2_clear_5 : AW X d 11 5 [l0] [] st P = P (.inl none) st := zAW_ret (w := (.inl none, st)) (zd_of zb_X2_clear dX2_clear_5) rfl rfl (by simp only [zfin, zr_X2_clear])
theorem A_X2_clear : AC X (d + 1) 11 [.ref a] st P = AW X d 11 0 [.ref a] [] st P := AC_eq ⟨⟨(show 1 ≤ zml 11 by decide +kernel), by decide +kernel⟩, by simp [zc1_int, zc1_ref, zc1_float]⟩
theorem E_X2_copy_0 : AW X d 12 0 [l0, .ref a] S st P = AW X d 12 1 [l0, .ref a] (.ref a :: S) st P := zAW_st (zd_of zb_X2_copy dX2_copy_0) rfl rfl
theorem E_X2_copy_0n : AW X d 12 0 [l0, .null] S st P = AW X d 12 1 [l0, .null] (.null :: S) st P := zAW_st (zd_of zb_X2_copy dX2_copy_0) rfl rfl
theorem E_X2_copy_1 : AW X d 12 1 [l0, l1] (.ref a :: S) st P = zwith (zget st a 3 0) fun v => AW X d 12 4 [l0, l1] (v :: S) st P := zq_getfield (zd_of zb_X2_copy dX2_copy_1) zo_X2_copy zf_2_9
theorem E_X2_copy_4 : AW X d 12 4 [l0, l1] S st P = AW X d 12 5 [l0, l1] (.int 0 :: S) st P := zq_iconst (zd_of zb_X2_copy dX2_copy_4) (by decide)
theorem E_X2_copy_5 : AW X d 12 5 [.ref a, l1] S st P = AW X d 12 6 [.ref a, l1] (.ref a :: S) st P := zAW_st (zd_of zb_X2_copy dX2_copy_5) rfl rfl
theorem E_X2_copy_5n : AW X d 12 5 [.null, l1] S st P = AW X d 12 6 [.null, l1] (.null :: S) st P := zAW_st (zd_of zb_X2_copy dX2_copy_5) rfl rfl
theorem E_X2_copy_6 : AW X d 12 6 [l0, l1] (.ref a :: S) st P = zwith (zget st a 3 0) fun v => AW X d 12 9 [l0, l1] (v :: S) st P := zq_getfield (zd_of zb_X2_copy dX2_copy_6) zo_X2_copy zf_2_9
theorem E_X2_copy_9 : AW X d 12 9 [l0, l1] S st P = AW X d 12 10 [l0, l1] (.int 0 :: S) st P := zq_iconst (zd_of zb_X2_copy dX2_copy_9) (by decide)
theorem E_X2_copy_10 : AW X d 12 10 [l0, l1] S st P = AW X d 12 12 [l0, l1] (.int 24 :: S) st P := zq_bipush (zd_of zb_X2_copy dX2_copy_10) (by decide)
theorem E_X2_copy_15 : AW X d 12 15 [.ref a, l1] S st P = AW X d 12 16 [.ref a, l1] (.ref a :: S) st P := zAW_st (zd_of zb_X2_copy dX2_copy_15) rfl rfl
theorem E_X2_copy_15n : AW X d 12 15 [.null, l1] S st P = AW X d 12 16 [.null, l1] (.null :: S) st P := zAW_st (zd_of zb_X2_copy dX2_copy_15) rfl rfl
theorem E_X2_copy_16 : AW X d 12 16 [l0, .ref a] S st P = AW X d 12 17 [l0, .ref a] (.ref a :: S) st P := zAW_st (zd_of zb_X2_copy dX2_copy_16) rfl rfl
theorem E_X2_copy_16n : AW X d 12 16 [l0, .null] S st P = AW X d 12 17 [l0, .null] (.null :: S) st P := zAW_st (zd_of zb_X2_copy dX2_copy_16) rfl rfl
theorem E_X2_copy_17 : AW X d 12 17 [l0, l1] (.ref a :: S) st P = zwith (zget st a 3 1) fun v => AW X d 12 20 [l0, l1] (v :: S) st P := zq_getfield (zd_of zb_X2_copy dX2_copy_17) zo_X2_copy zf_2_15
theorem E_X2_copy_20 : AW X d 12 20 [l0, l1] (.int x :: .ref a :: S) st P = zwith (zget st a 3 1) fun _ => AW X d 12 23 [l0, l1] S (zput st a 1 (.int x)) P := zq_putfield (zd_of zb_X2_copy dX2_copy_20) zo_X2_copy zf_2_15 rfl (Or.inl (by decide +kernel))
theorem E_X2_copy_23 : AW X d 12 23 [l0, l1] [] st P = P (.inl none) st := zAW_ret (w := (.inl none, st)) (zd_of zb_X2_copy dX2_copy_23) rfl rfl (by simp only [zfin, zr_X2_copy])
theorem A_X2_copy (h1 : zc1 v1 = true) : AC X (d + 1) 12 [.ref a, v1] st P = AW X d 12 0 [.ref a, v1] [] st P := AC_eq ⟨⟨(show 2 ≤ zml 12 by decide +kernel), by decide +kernel⟩, by simp [zc1_int, zc1_ref, zc1_float, h1]⟩
theorem E_X2_dropDoubled_0 : AW X d 13 0 [.ref a, l1, l2, l3, l4] S st P = AW X d 13 1 [.ref a, l1, l2, l3, l4] (.ref a :: S) st P := zAW_st (zd_of zb_X2_dropDoubled dX2_dropDoubled_0) rfl rfl
theorem E_X2_dropDoubled_0n : AW X d 13 0 [.null, l1, l2, l3, l4] S st P = AW X d 13 1 [.null, l1, l2, l3, l4] (.null :: S) st P := zAW_st (zd_of zb_X2_dropDoubled dX2_dropDoubled_0) rfl rfl
theorem E_X2_dropDoubled_1 : AW X d 13 1 [l0, l1, l2, l3, l4] (.ref a :: S) st P = zwith (zget st a 3 1) fun v => AW X d 13 4 [l0, l1, l2, l3, l4] (v :: S) st P := zq_getfield (zd_of zb_X2_dropDoubled dX2_dropDoubled_1) zo_X2_dropDoubled zf_2_15
theorem E_X2_dropDoubled_4 : AW X d 13 4 [l0, l1, l2, l3, l4] (.int x :: S) st P = AW X d 13 5 [l0, .int x, l2, l3, l4] S st P := zAW_st (zd_of zb_X2_dropDoubled dX2_dropDoubled_4) rfl rfl
theorem E_X2_dropDoubled_5 : AW X d 13 5 [.ref a, l1, l2, l3, l4] S st P = AW X d 13 6 [.ref a, l1, l2, l3, l4] (.ref a :: S) st P := zAW_st (zd_of zb_X2_dropDoubled dX2_dropDoubled_5) rfl rfl
theorem E_X2_dropDoubled_5n : AW X d 13 5 [.null, l1, l2, l3, l4] S st P = AW X d 13 6 [.null, l1, l2, l3, l4] (.null :: S) st P := zAW_st (zd_of zb_X2_dropDoubled dX2_dropDoubled_5) rfl rfl
theorem E_X2_dropDoubled_6 : AW X d 13 6 [l0, l1, l2, l3, l4] S st P = AW X d 13 7 [l0, l1, l2, l3, l4] (.int 0 :: S) st P := zq_iconst (zd_of zb_X2_dropDoubled dX2_dropDoubled_6) (by decide)
theorem E_X2_dropDoubled_7 : AW X d 13 7 [l0, l1, l2, l3, l4] (.int x :: .ref a :: S) st P = zwith (zget st a 3 1) fun _ => AW X d 13 10 [l0, l1, l2, l3, l4] S (zput st a 1 (.int x)) P := zq_putfield (zd_of zb_X2_dropDoubled dX2_dropDoubled_7) zo_X2_dropDoubled zf_2_15 rfl (Or.inl (by decide +kernel))
theorem E_X2_dropDoubled_10 : AW X d 13 10 [l0, l1, l2, l3, l4] S st P = AW X d 13 11 [l0, l1, l2, l3, l4] (.int 0 :: S) st P := zq_iconst (zd_of zb_X2_dropDoubled dX2_dropDoubled_10) (by decide)
theorem E_X2_dropDoubled_11 : AW X d 13 11 [l0, l1, l2, l3, l4] (.int x :: S) st P = AW X d 13 12 [l0, l1, .int x, l3, l4] S st P := zAW_st (zd_of zb_X2_dropDoubled dX2_dropDoubled_11) rfl rfl
theorem E_X2_dropDoubled_12 : AW X d 13 12 [l0, l1, .int x, l3, l4] S st P = AW X d 13 13 [l0, l1, .int x, l3, l4] (.int x :: S) st P := zAW_st (zd_of zb_X2_dropDoubled dX2_dropDoubled_12) rfl rfl
theorem E_X2_dropDoubled_13 : AW X d 13 13 [l0, .int x, l2, l3, l4] S st P = AW X d 13 14 [l0, .int x, l2, l3, l4] (.int x :: S) st P := zAW_st (zd_of zb_X2_dropDoubled dX2_dropDoubled_13) rfl rfl
theorem E_X2_dropDoubled_14 : AW X d 13 14 [l0, l1, l2, l3, l4] (.int y :: .int x :: S) st P = if y ≤ x then AW X d 13 70 [l0, l1, l2, l3, l4] S st P else AW X d 13 17 [l0, l1, l2, l3, l4] S st P := zq_icmp (c := y ≤ x) (zd_of zb_X2_dropDoubled dX2_dropDoubled_14) (by decide) rfl
theorem E_X2_dropDoubled_17 : AW X d 13 17 [l0, l1, .int x, l3, l4] S st P = AW X d 13 18 [l0, l1, .int x, l3, l4] (.int x :: S) st P := zAW_st (zd_of zb_X2_dropDoubled dX2_dropDoubled_17) rfl rfl
theorem E_X2_dropDoubled_18 : AW X d 13 18 [.ref a, l1, l2, l3, l4] S st P = AW X d 13 19 [.ref a, l1, l2, l3, l4] (.ref a :: S) st P := zAW_st (zd_of zb_X2_dropDoubled dX2_dropDoubled_18) rfl rfl
theorem E_X2_dropDoubled_18n : AW X d 13 18 [.null, l1, l2, l3, l4] S st P = AW X d 13 19 [.null, l1, l2, l3, l4] (.null :: S) st P := zAW_st (zd_of zb_X2_dropDoubled dX2_dropDoubled_18) rfl rfl
theorem E_X2_dropDoubled_19 : AW X d 13 19 [l0, l1, l2, l3, l4] (.ref a :: S) st P = zwith (zget st a 3 0) fun v => AW X d 13 22 [l0, l1, l2, l3, l4] (v :: S) st P := zq_getfield (zd_of zb_X2_dropDoubled dX2_dropDoubled_19) zo_X2_dropDoubled zf_2_9
theorem E_X2_dropDoubled_22 : AW X d 13 22 [l0, l1, l2, l3, l4] (.ref a :: S) st P = zwith (zlen X st a) fun n => AW X d 13 23 [l0, l1, l2, l3, l4] (.int (Int32.ofNat n) :: S) st P := zq_alen (zd_of zb_X2_dropDoubled dX2_dropDoubled_22)
theorem E_X2_dropDoubled_23 : AW X d 13 23 [l0, l1, l2, l3, l4] (.int y :: .int x :: S) st P = if y ≤ x then AW X d 13 70 [l0, l1, l2, l3, l4] S st P else AW X d 13 26 [l0, l1, l2, l3, l4] S st P := zq_icmp (c := y ≤ x) (zd_of zb_X2_dropDoubled dX2_dropDoubled_23) (by decide) rfl
theorem E_X2_dropDoubled_26 : AW X d 13 26 [.ref a, l1, l2, l3, l4] S st P = AW X d 13 27 [.ref a, l1, l2, l3, l4] (.ref a :: S) st P := zAW_st (zd_of zb_X2_dropDoubled dX2_dropDoubled_26) rfl rfl
theorem E_X2_dropDoubled_26n : AW X d 13 26 [.null, l1, l2, l3, l4] S st P = AW X d 13 27 [.null, l1, l2, l3, l4] (.null :: S) st P := zAW_st (zd_of zb_X2_dropDoubled dX2_dropDoubled_26) rfl rfl
theorem E_X2_dropDoubled_27 : AW X d 13 27 [l0, l1, l2, l3, l4] (.ref a :: S) st P = zwith (zget st a 3 0) fun v => AW X d 13 30 [l0, l1, l2, l3, l4] (v :: S) st P := zq_getfield (zd_of zb_X2_dropDoubled dX2_dropDoubled_27) zo_X2_dropDoubled zf_2_9
theorem E_X2_dropDoubled_30 : AW X d 13 30 [l0, l1, .int x, l3, l4] S st P = AW X d 13 31 [l0, l1, .int x, l3, l4] (.int x :: S) st P := zAW_st (zd_of zb_X2_dropDoubled dX2_dropDoubled_30) rfl rfl
theorem E_X2_dropDoubled_31 : AW X d 13 31 [l0, l1, l2, l3, l4] (.int x :: .ref a :: S) st P = zwith (zai X st a) fun q => zwith (zix x q.1) fun j => AW X d 13 32 [l0, l1, l2, l3, l4] (.int (q.2 j) :: S) st P := zq_iaload (zd_of zb_X2_dropDoubled dX2_dropDoubled_31)
theorem E_X2_dropDoubled_32 : AW X d 13 32 [l0, l1, l2, l3, l4] (.int x :: S) st P = zif (S.length ≤ 4) (AC X d 21 [.int x] st (zaft X d 13 32 [l0, l1, l2, l3, l4] S P)) := zq_callS (B := [.int x]) (S2 := S) (zd_of zb_X2_dropDoubled dX2_dropDoubled_32) zo_X2_dropDoubled (by decide) (by decide) (by decide) zl_2_25 zn_21 (by simp only [List.length_cons]; omega) rfl rfl
theorem E_X2_dropDoubled_35 : AW X d 13 35 [l0, l1, l2, l3, l4] (.int x :: S) st P = AW X d 13 36 [l0, l1, l2, .int x, l4] S st P := zAW_st (zd_of zb_X2_dropDoubled dX2_dropDoubled_35) rfl rfl
theorem E_X2_dropDoubled_36 : AW X d 13 36 [.ref a, l1, l2, l3, l4] S st P = AW X d 13 37 [.ref a, l1, l2, l3, l4] (.ref a :: S) st P := zAW_st (zd_of zb_X2_dropDoubled dX2_dropDoubled_36) rfl rfl
theorem E_X2_dropDoubled_36n : AW X d 13 36 [.null, l1, l2, l3, l4] S st P = AW X d 13 37 [.null, l1, l2, l3, l4] (.null :: S) st P := zAW_st (zd_of zb_X2_dropDoubled dX2_dropDoubled_36) rfl rfl
theorem E_X2_dropDoubled_37 : AW X d 13 37 [l0, l1, l2, l3, l4] (.ref a :: S) st P = zwith (zget st a 3 0) fun v => AW X d 13 40 [l0, l1, l2, l3, l4] (v :: S) st P := zq_getfield (zd_of zb_X2_dropDoubled dX2_dropDoubled_37) zo_X2_dropDoubled zf_2_9
theorem E_X2_dropDoubled_40 : AW X d 13 40 [l0, l1, .int x, l3, l4] S st P = AW X d 13 41 [l0, l1, .int x, l3, l4] (.int x :: S) st P := zAW_st (zd_of zb_X2_dropDoubled dX2_dropDoubled_40) rfl rfl
theorem E_X2_dropDoubled_41 : AW X d 13 41 [l0, l1, l2, l3, l4] (.int x :: .ref a :: S) st P = zwith (zai X st a) fun q => zwith (zix x q.1) fun j => AW X d 13 42 [l0, l1, l2, l3, l4] (.int (q.2 j) :: S) st P := zq_iaload (zd_of zb_X2_dropDoubled dX2_dropDoubled_41)
theorem E_X2_dropDoubled_42 : AW X d 13 42 [l0, l1, l2, l3, l4] (.int x :: S) st P = zif (S.length ≤ 4) (AC X d 22 [.int x] st (zaft X d 13 42 [l0, l1, l2, l3, l4] S P)) := zq_callS (B := [.int x]) (S2 := S) (zd_of zb_X2_dropDoubled dX2_dropDoubled_42) zo_X2_dropDoubled (by decide) (by decide) (by decide) zl_2_29 zn_22 (by simp only [List.length_cons]; omega) rfl rfl
theorem E_X2_dropDoubled_45 : AW X d 13 45 [l0, l1, l2, l3, l4] (.int x :: S) st P = AW X d 13 47 [l0, l1, l2, l3, .int x] S st P := zAW_st (zd_of zb_X2_dropDoubled dX2_dropDoubled_45) rfl rfl
theorem E_X2_dropDoubled_47 : AW X d 13 47 [.ref a, l1, l2, l3, l4] S st P = AW X d 13 48 [.ref a, l1, l2, l3, l4] (.ref a :: S) st P := zAW_st (zd_of zb_X2_dropDoubled dX2_dropDoubled_47) rfl rfl
theorem E_X2_dropDoubled_47n : AW X d 13 47 [.null, l1, l2, l3, l4] S st P = AW X d 13 48 [.null, l1, l2, l3, l4] (.null :: S) st P := zAW_st (zd_of zb_X2_dropDoubled dX2_dropDoubled_47) rfl rfl
theorem E_X2_dropDoubled_48 : AW X d 13 48 [l0, l1, l2, .int x, l4] S st P = AW X d 13 49 [l0, l1, l2, .int x, l4] (.int x :: S) st P := zAW_st (zd_of zb_X2_dropDoubled dX2_dropDoubled_48) rfl rfl
theorem E_X2_dropDoubled_49 : AW X d 13 49 [l0, l1, l2, l3, .int x] S st P = AW X d 13 51 [l0, l1, l2, l3, .int x] (.int x :: S) st P := zAW_st (zd_of zb_X2_dropDoubled dX2_dropDoubled_49) rfl rfl
theorem E_X2_dropDoubled_51 : AW X d 13 51 [l0, l1, l2, l3, l4] (.int y :: .int x :: .ref a :: S) st P = zif (zis st a 3 = true) (zif (S.length ≤ 4) (AC X d 14 [.ref a, .int x, .int y] st (zaft X d 13 51 [l0, l1, l2, l3, l4] S P))) := zq_callV (B := [.int x, .int y]) (zd_of zb_X2_dropDoubled dX2_dropDoubled_51) zo_X2_dropDoubled (by decide) zl_2_32 zn_14 rfl rfl rfl
theorem E_X2_dropDoubled_54 : AW X d 13 54 [l0, l1, l2, l3, l4] (.int x :: S) st P = if ¬ x = 0 then AW X d 13 64 [l0, l1, l2, l3, l4] S st P else AW X d 13 57 [l0, l1, l2, l3, l4] S st P := zq_if (c := ¬ x = 0) (zd_of zb_X2_dropDoubled dX2_dropDoubled_54) (by decide) rfl
theorem E_X2_dropDoubled_57 : AW X d 13 57 [.ref a, l1, l2, l3, l4] S st P = AW X d 13 58 [.ref a, l1, l2, l3, l4] (.ref a :: S) st P := zAW_st (zd_of zb_X2_dropDoubled dX2_dropDoubled_57) rfl rfl
theorem E_X2_dropDoubled_57n : AW X d 13 57 [.null, l1, l2, l3, l4] S st P = AW X d 13 58 [.null, l1, l2, l3, l4] (.null :: S) st P := zAW_st (zd_of zb_X2_dropDoubled dX2_dropDoubled_57) rfl rfl
theorem E_X2_dropDoubled_58 : AW X d 13 58 [l0, l1, l2, .int x, l4] S st P = AW X d 13 59 [l0, l1, l2, .int x, l4] (.int x :: S) st P := zAW_st (zd_of zb_X2_dropDoubled dX2_dropDoubled_58) rfl rfl
theorem E_X2_dropDoubled_59 : AW X d 13 59 [l0, l1, l2, l3, .int x] S st P = AW X d 13 61 [l0, l1, l2, l3, .int x] (.int x :: S) st P := zAW_st (zd_of zb_X2_dropDoubled dX2_dropDoubled_59) rfl rfl
theorem E_X2_dropDoubled_61 : AW X d 13 61 [l0, l1, l2, l3, l4] (.int y :: .int x :: .ref a :: S) st P = zif (zis st a 3 = true) (zif (S.length ≤ 4) (AC X d 10 [.ref a, .int x, .int y] st (zaft X d 13 61 [l0, l1, l2, l3, l4] S P))) := zq_callV (B := [.int x, .int y]) (zd_of zb_X2_dropDoubled dX2_dropDoubled_61) zo_X2_dropDoubled (by decide) zl_2_36 zn_10 rfl rfl rfl
theorem E_X2_dropDoubled_64 : AW X d 13 64 [l0, l1, .int x, l3, l4] S st P = AW X d 13 67 [l0, l1, .int (x + 1), l3, l4] S st P := zq_iinc (zd_of zb_X2_dropDoubled dX2_dropDoubled_64) rfl (by decide)
theorem E_X2_dropDoubled_67 : AW X d 13 67 [l0, l1, l2, l3, l4] S st P = AW X d 13 12 [l0, l1, l2, l3, l4] S st P := zq_goto (zd_of zb_X2_dropDoubled dX2_dropDoubled_67) (by decide)
theorem E_X2_dropDoubled_70 : AW X d 13 70 [l0, l1, l2, l3, l4] [] st P = P (.inl none) st := zAW_ret (w := (.inl none, st)) (zd_of zb_X2_dropDoubled dX2_dropDoubled_70) rfl rfl (by simp only [zfin, zr_X2_dropDoubled])
theorem A_X2_dropDoubled : AC X (d + 1) 13 [.ref a] st P = AW X d 13 0 [.ref a, .retAddr 0, .retAddr 0, .retAddr 0, .retAddr 0] [] st P := AC_eq ⟨⟨(show 1 ≤ zml 13 by decide +kernel), by decide +kernel⟩, by simp [zc1_int, zc1_ref, zc1_float]⟩
theorem E_X2_has_0 : AW X d 14 0 [l0, l1, l2, l3, l4, l5] S st P = AW X d 14 1 [l0, l1, l2, l3, l4, l5] (.int 0 :: S) st P := zq_iconst (zd_of zb_X2_has dX2_has_0) (by decide)
theorem E_X2_has_1 : AW X d 14 1 [l0, l1, l2, l3, l4, l5] (.int x :: S) st P = AW X d 14 2 [l0, l1, l2, .int x, l4, l5] S st P := zAW_st (zd_of zb_X2_has dX2_has_1) rfl rfl
theorem E_X2_has_2 : AW X d 14 2 [l0, l1, l2, .int x, l4, l5] S st P = AW X d 14 3 [l0, l1, l2, .int x, l4, l5] (.int x :: S) st P := zAW_st (zd_of zb_X2_has dX2_has_2) rfl rfl
theorem E_X2_has_3 : AW X d 14 3 [.ref a, l1, l2, l3, l4, l5] S st P = AW X d 14 4 [.ref a, l1, l2, l3, l4, l5] (.ref a :: S) st P := zAW_st (zd_of zb_X2_has dX2_has_3) rfl rfl
theorem E_X2_has_3n : AW X d 14 3 [.null, l1, l2, l3, l4, l5] S st P = AW X d 14 4 [.null, l1, l2, l3, l4, l5] (.null :: S) st P := zAW_st (zd_of zb_X2_has dX2_has_3) rfl rfl
theorem E_X2_has_4 : AW X d 14 4 [l0, l1, l2, l3, l4, l5] (.ref a :: S) st P = zwith (zget st a 3 1) fun v => AW X d 14 7 [l0, l1, l2, l3, l4, l5] (v :: S) st P := zq_getfield (zd_of zb_X2_has dX2_has_4) zo_X2_has zf_2_15
theorem E_X2_has_7 : AW X d 14 7 [l0, l1, l2, l3, l4, l5] (.int y :: .int x :: S) st P = if y ≤ x then AW X d 14 73 [l0, l1, l2, l3, l4, l5] S st P else AW X d 14 10 [l0, l1, l2, l3, l4, l5] S st P := zq_icmp (c := y ≤ x) (zd_of zb_X2_has dX2_has_7) (by decide) rfl
theorem E_X2_has_10 : AW X d 14 10 [l0, l1, l2, .int x, l4, l5] S st P = AW X d 14 11 [l0, l1, l2, .int x, l4, l5] (.int x :: S) st P := zAW_st (zd_of zb_X2_has dX2_has_10) rfl rfl
theorem E_X2_has_11 : AW X d 14 11 [.ref a, l1, l2, l3, l4, l5] S st P = AW X d 14 12 [.ref a, l1, l2, l3, l4, l5] (.ref a :: S) st P := zAW_st (zd_of zb_X2_has dX2_has_11) rfl rfl
theorem E_X2_has_11n : AW X d 14 11 [.null, l1, l2, l3, l4, l5] S st P = AW X d 14 12 [.null, l1, l2, l3, l4, l5] (.null :: S) st P := zAW_st (zd_of zb_X2_has dX2_has_11) rfl rfl
theorem E_X2_has_12 : AW X d 14 12 [l0, l1, l2, l3, l4, l5] (.ref a :: S) st P = zwith (zget st a 3 0) fun v => AW X d 14 15 [l0, l1, l2, l3, l4, l5] (v :: S) st P := zq_getfield (zd_of zb_X2_has dX2_has_12) zo_X2_has zf_2_9
theorem E_X2_has_15 : AW X d 14 15 [l0, l1, l2, l3, l4, l5] (.ref a :: S) st P = zwith (zlen X st a) fun n => AW X d 14 16 [l0, l1, l2, l3, l4, l5] (.int (Int32.ofNat n) :: S) st P := zq_alen (zd_of zb_X2_has dX2_has_15)
theorem E_X2_has_16 : AW X d 14 16 [l0, l1, l2, l3, l4, l5] (.int y :: .int x :: S) st P = if y ≤ x then AW X d 14 73 [l0, l1, l2, l3, l4, l5] S st P else AW X d 14 19 [l0, l1, l2, l3, l4, l5] S st P := zq_icmp (c := y ≤ x) (zd_of zb_X2_has dX2_has_16) (by decide) rfl
theorem E_X2_has_19 : AW X d 14 19 [.ref a, l1, l2, l3, l4, l5] S st P = AW X d 14 20 [.ref a, l1, l2, l3, l4, l5] (.ref a :: S) st P := zAW_st (zd_of zb_X2_has dX2_has_19) rfl rfl
theorem E_X2_has_19n : AW X d 14 19 [.null, l1, l2, l3, l4, l5] S st P = AW X d 14 20 [.null, l1, l2, l3, l4, l5] (.null :: S) st P := zAW_st (zd_of zb_X2_has dX2_has_19) rfl rfl
theorem E_X2_has_20 : AW X d 14 20 [l0, l1, l2, l3, l4, l5] (.ref a :: S) st P = zwith (zget st a 3 0) fun v => AW X d 14 23 [l0, l1, l2, l3, l4, l5] (v :: S) st P := zq_getfield (zd_of zb_X2_has dX2_has_20) zo_X2_has zf_2_9
theorem E_X2_has_23 : AW X d 14 23 [l0, l1, l2, .int x, l4, l5] S st P = AW X d 14 24 [l0, l1, l2, .int x, l4, l5] (.int x :: S) st P := zAW_st (zd_of zb_X2_has dX2_has_23) rfl rfl
theorem E_X2_has_24 : AW X d 14 24 [l0, l1, l2, l3, l4, l5] (.int x :: .ref a :: S) st P = zwith (zai X st a) fun q => zwith (zix x q.1) fun j => AW X d 14 25 [l0, l1, l2, l3, l4, l5] (.int (q.2 j) :: S) st P := zq_iaload (zd_of zb_X2_has dX2_has_24)
theorem E_X2_has_25 : AW X d 14 25 [l0, l1, l2, l3, l4, l5] (.int x :: S) st P = zif (S.length ≤ 4) (AC X d 21 [.int x] st (zaft X d 14 25 [l0, l1, l2, l3, l4, l5] S P)) := zq_callS (B := [.int x]) (S2 := S) (zd_of zb_X2_has dX2_has_25) zo_X2_has (by decide) (by decide) (by decide) zl_2_25 zn_21 (by simp only [List.length_cons]; omega) rfl rfl
theorem E_X2_has_28 : AW X d 14 28 [l0, l1, l2, l3, l4, l5] (.int x :: S) st P = AW X d 14 30 [l0, l1, l2, l3, .int x, l5] S st P := zAW_st (zd_of zb_X2_has dX2_has_28) rfl rfl
theorem E_X2_has_30 : AW X d 14 30 [.ref a, l1, l2, l3, l4, l5] S st P = AW X d 14 31 [.ref a, l1, l2, l3, l4, l5] (.ref a :: S) st P := zAW_st (zd_of zb_X2_has dX2_has_30) rfl rfl
theorem E_X2_has_30n : AW X d 14 30 [.null, l1, l2, l3, l4, l5] S st P = AW X d 14 31 [.null, l1, l2, l3, l4, l5] (.null :: S) st P := zAW_st (zd_of zb_X2_has dX2_has_30) rfl rfl
theorem E_X2_has_31 : AW X d 14 31 [l0, l1, l2, l3, l4, l5] (.ref a :: S) st P = zwith (zget st a 3 0) fun v => AW X d 14 34 [l0, l1, l2, l3, l4, l5] (v :: S) st P := zq_getfield (zd_of zb_X2_has dX2_has_31) zo_X2_has zf_2_9
theorem E_X2_has_34 : AW X d 14 34 [l0, l1, l2, .int x, l4, l5] S st P = AW X d 14 35 [l0, l1, l2, .int x, l4, l5] (.int x :: S) st P := zAW_st (zd_of zb_X2_has dX2_has_34) rfl rfl
theorem E_X2_has_35 : AW X d 14 35 [l0, l1, l2, l3, l4, l5] (.int x :: .ref a :: S) st P = zwith (zai X st a) fun q => zwith (zix x q.1) fun j => AW X d 14 36 [l0, l1, l2, l3, l4, l5] (.int (q.2 j) :: S) st P := zq_iaload (zd_of zb_X2_has dX2_has_35)
theorem E_X2_has_36 : AW X d 14 36 [l0, l1, l2, l3, l4, l5] (.int x :: S) st P = zif (S.length ≤ 4) (AC X d 22 [.int x] st (zaft X d 14 36 [l0, l1, l2, l3, l4, l5] S P)) := zq_callS (B := [.int x]) (S2 := S) (zd_of zb_X2_has dX2_has_36) zo_X2_has (by decide) (by decide) (by decide) zl_2_29 zn_22 (by simp only [List.length_cons]; omega) rfl rfl
theorem E_X2_has_39 : AW X d 14 39 [l0, l1, l2, l3, l4, l5] (.int x :: S) st P = AW X d 14 41 [l0, l1, l2, l3, l4, .int x] S st P := zAW_st (zd_of zb_X2_has dX2_has_39) rfl rfl
theorem E_X2_has_41 : AW X d 14 41 [l0, l1, l2, l3, .int x, l5] S st P = AW X d 14 43 [l0, l1, l2, l3, .int x, l5] (.int x :: S) st P := zAW_st (zd_of zb_X2_has dX2_has_41) rfl rfl
theorem E_X2_has_43 : AW X d 14 43 [l0, .int x, l2, l3, l4, l5] S st P = AW X d 14 44 [l0, .int x, l2, l3, l4, l5] (.int x :: S) st P := zAW_st (zd_of zb_X2_has dX2_has_43) rfl rfl
theorem E_X2_has_44 : AW X d 14 44 [l0, l1, l2, l3, l4, l5] (.int y :: .int x :: S) st P = if ¬ x = y then AW X d 14 53 [l0, l1, l2, l3, l4, l5] S st P else AW X d 14 47 [l0, l1, l2, l3, l4, l5] S st P := zq_icmp (c := ¬ x = y) (zd_of zb_X2_has dX2_has_44) (by decide) rfl
theorem E_X2_has_47 : AW X d 14 47 [l0, l1, l2, l3, l4, .int x] S st P = AW X d 14 49 [l0, l1, l2, l3, l4, .int x] (.int x :: S) st P := zAW_st (zd_of zb_X2_has dX2_has_47) rfl rfl
theorem E_X2_has_49 : AW X d 14 49 [l0, l1, .int x, l3, l4, l5] S st P = AW X d 14 50 [l0, l1, .int x, l3, l4, l5] (.int x :: S) st P := zAW_st (zd_of zb_X2_has dX2_has_49) rfl rfl
theorem E_X2_has_50 : AW X d 14 50 [l0, l1, l2, l3, l4, l5] (.int y :: .int x :: S) st P = if x = y then AW X d 14 65 [l0, l1, l2, l3, l4, l5] S st P else AW X d 14 53 [l0, l1, l2, l3, l4, l5] S st P := zq_icmp (c := x = y) (zd_of zb_X2_has dX2_has_50) (by decide) rfl
theorem E_X2_has_53 : AW X d 14 53 [l0, l1, l2, l3, .int x, l5] S st P = AW X d 14 55 [l0, l1, l2, l3, .int x, l5] (.int x :: S) st P := zAW_st (zd_of zb_X2_has dX2_has_53) rfl rfl
theorem E_X2_has_55 : AW X d 14 55 [l0, l1, .int x, l3, l4, l5] S st P = AW X d 14 56 [l0, l1, .int x, l3, l4, l5] (.int x :: S) st P := zAW_st (zd_of zb_X2_has dX2_has_55) rfl rfl
theorem E_X2_has_56 : AW X d 14 56 [l0, l1, l2, l3, l4, l5] (.int y :: .int x :: S) st P = if ¬ x = y then AW X d 14 67 [l0, l1, l2, l3, l4, l5] S st P else AW X d 14 59 [l0, l1, l2, l3, l4, l5] S st P := zq_icmp (c := ¬ x = y) (zd_of zb_X2_has dX2_has_56) (by decide) rfl
theorem E_X2_has_59 : AW X d 14 59 [l0, l1, l2, l3, l4, .int x] S st P = AW X d 14 61 [l0, l1, l2, l3, l4, .int x] (.int x :: S) st P := zAW_st (zd_of zb_X2_has dX2_has_59) rfl rfl
theorem E_X2_has_61 : AW X d 14 61 [l0, .int x, l2, l3, l4, l5] S st P = AW X d 14 62 [l0, .int x, l2, l3, l4, l5] (.int x :: S) st P := zAW_st (zd_of zb_X2_has dX2_has_61) rfl rfl
theorem E_X2_has_62 : AW X d 14 62 [l0, l1, l2, l3, l4, l5] (.int y :: .int x :: S) st P = if ¬ x = y then AW X d 14 67 [l0, l1, l2, l3, l4, l5] S st P else AW X d 14 65 [l0, l1, l2, l3, l4, l5] S st P := zq_icmp (c := ¬ x = y) (zd_of zb_X2_has dX2_has_62) (by decide) rfl
theorem E_X2_has_65 : AW X d 14 65 [l0, l1, l2, l3, l4, l5] S st P = AW X d 14 66 [l0, l1, l2, l3, l4, l5] (.int 1 :: S) st P := zq_iconst (zd_of zb_X2_has dX2_has_65) (by decide)
theorem E_X2_has_66 : AW X d 14 66 [l0, l1, l2, l3, l4, l5] ([.int x]) st P = zif (x &&& 1 = x) (P (.inl (some (.int x))) st) := by
  by_cases h : x &&& 1 = x
  · rw [zif_of h]; exact zAW_ret (w := (.inl (some (.int x)), st)) (zd_of zb_X2_has dX2_has_66) rfl rfl (by simp only [zfin, zr_X2_has]; rw [if_pos h])
  · rw [zAW_stuck (zd_of zb_X2_has dX2_has_66) rfl (by simp only [zfin, zr_X2_has]; rw [if_neg h]) rfl]; exact propext ⟨fun z => z.elim, fun z => h z.1⟩
theorem E_X2_has_67 : AW X d 14 67 [l0, l1, l2, .int x, l4, l5] S st P = AW X d 14 70 [l0, l1, l2, .int (x + 1), l4, l5] S st P := zq_iinc (zd_of zb_X2_has dX2_has_67) rfl (by decide)
theorem E_X2_has_70 : AW X d 14 70 [l0, l1, l2, l3, l4, l5] S st P = AW X d 14 2 [l0, l1, l2, l3, l4, l5] S st P := zq_goto (zd_of zb_X2_has dX2_has_70) (by decide)
theorem E_X2_has_73 : AW X d 14 73 [l0, l1, l2, l3, l4, l5] S st P = AW X d 14 74 [l0, l1, l2, l3, l4, l5] (.int 0 :: S) st P := zq_iconst (zd_of zb_X2_has dX2_has_73) (by decide)
theorem E_X2_has_74 : AW X d 14 74 [l0, l1, l2, l3, l4, l5] ([.int x]) st P = zif (x &&& 1 = x) (P (.inl (some (.int x))) st) := by
  by_cases h : x &&& 1 = x
  · rw [zif_of h]; exact zAW_ret (w := (.inl (some (.int x)), st)) (zd_of zb_X2_has dX2_has_74) rfl rfl (by simp only [zfin, zr_X2_has]; rw [if_pos h])
  · rw [zAW_stuck (zd_of zb_X2_has dX2_has_74) rfl (by simp only [zfin, zr_X2_has]; rw [if_neg h]) rfl]; exact propext ⟨fun z => z.elim, fun z => h z.1⟩
theorem A_X2_has : AC X (d + 1) 14 [.ref a, .int x, .int y] st P = AW X d 14 0 [.ref a, .int x, .int y, .retAddr 0, .retAddr 0, .retAddr 0] [] st P := AC_eq ⟨⟨(show 3 ≤ zml 14 by decide +kernel), by decide +kernel⟩, by simp [zc1_int, zc1_ref, zc1_float]⟩
theorem E_X2_firstWrongPoint_0 : AW X d 15 0 [.ref a, l1, l2] S st P = AW X d 15 1 [.ref a, l1, l2] (.ref a :: S) st P := zAW_st (zd_of zb_X2_firstWrongPoint dX2_firstWrongPoint_0) rfl rfl
theorem E_X2_firstWrongPoint_0n : AW X d 15 0 [.null, l1, l2] S st P = AW X d 15 1 [.null, l1, l2] (.null :: S) st P := zAW_st (zd_of zb_X2_firstWrongPoint dX2_firstWrongPoint_0) rfl rfl
theorem E_X2_firstWrongPoint_1 : AW X d 15 1 [l0, l1, l2] (.ref a :: S) st P = zwith (zget st a 3 1) fun v => AW X d 15 4 [l0, l1, l2] (v :: S) st P := zq_getfield (zd_of zb_X2_firstWrongPoint dX2_firstWrongPoint_1) zo_X2_firstWrongPoint zf_2_15
theorem E_X2_firstWrongPoint_4 : AW X d 15 4 [l0, l1, l2] (.int x :: S) st P = if ¬ x = 0 then AW X d 15 11 [l0, l1, l2] S st P else AW X d 15 7 [l0, l1, l2] S st P := zq_if (c := ¬ x = 0) (zd_of zb_X2_firstWrongPoint dX2_firstWrongPoint_4) (by decide) rfl
theorem E_X2_firstWrongPoint_7 : AW X d 15 7 [l0, l1, l2] S st P = AW X d 15 10 [l0, l1, l2] (.int 1024 :: S) st P := zq_sipush (zd_of zb_X2_firstWrongPoint dX2_firstWrongPoint_7) (by decide)
theorem E_X2_firstWrongPoint_10 : AW X d 15 10 [l0, l1, l2] ([.int x]) st P = P (.inl (some (.int x))) st := zAW_ret (w := (.inl (some (.int x)), st)) (zd_of zb_X2_firstWrongPoint dX2_firstWrongPoint_10) rfl rfl (by simp only [zfin, zr_X2_firstWrongPoint])
theorem E_X2_firstWrongPoint_11 : AW X d 15 11 [l0, l1, l2] S st P = AW X d 15 14 [l0, l1, l2] (.int 1024 :: S) st P := zq_sipush (zd_of zb_X2_firstWrongPoint dX2_firstWrongPoint_11) (by decide)
theorem E_X2_firstWrongPoint_14 : AW X d 15 14 [l0, l1, l2] (.int x :: S) st P = AW X d 15 15 [l0, .int x, l2] S st P := zAW_st (zd_of zb_X2_firstWrongPoint dX2_firstWrongPoint_14) rfl rfl
theorem E_X2_firstWrongPoint_15 : AW X d 15 15 [l0, l1, l2] S st P = AW X d 15 16 [l0, l1, l2] (.int 0 :: S) st P := zq_iconst (zd_of zb_X2_firstWrongPoint dX2_firstWrongPoint_15) (by decide)
theorem E_X2_firstWrongPoint_16 : AW X d 15 16 [l0, l1, l2] (.int x :: S) st P = AW X d 15 17 [l0, l1, .int x] S st P := zAW_st (zd_of zb_X2_firstWrongPoint dX2_firstWrongPoint_16) rfl rfl
theorem E_X2_firstWrongPoint_17 : AW X d 15 17 [l0, l1, .int x] S st P = AW X d 15 18 [l0, l1, .int x] (.int x :: S) st P := zAW_st (zd_of zb_X2_firstWrongPoint dX2_firstWrongPoint_17) rfl rfl
theorem E_X2_firstWrongPoint_18 : AW X d 15 18 [.ref a, l1, l2] S st P = AW X d 15 19 [.ref a, l1, l2] (.ref a :: S) st P := zAW_st (zd_of zb_X2_firstWrongPoint dX2_firstWrongPoint_18) rfl rfl
theorem E_X2_firstWrongPoint_18n : AW X d 15 18 [.null, l1, l2] S st P = AW X d 15 19 [.null, l1, l2] (.null :: S) st P := zAW_st (zd_of zb_X2_firstWrongPoint dX2_firstWrongPoint_18) rfl rfl
theorem E_X2_firstWrongPoint_19 : AW X d 15 19 [l0, l1, l2] (.ref a :: S) st P = zwith (zget st a 3 1) fun v => AW X d 15 22 [l0, l1, l2] (v :: S) st P := zq_getfield (zd_of zb_X2_firstWrongPoint dX2_firstWrongPoint_19) zo_X2_firstWrongPoint zf_2_15
theorem E_X2_firstWrongPoint_22 : AW X d 15 22 [l0, l1, l2] (.int y :: .int x :: S) st P = if y ≤ x then AW X d 15 76 [l0, l1, l2] S st P else AW X d 15 25 [l0, l1, l2] S st P := zq_icmp (c := y ≤ x) (zd_of zb_X2_firstWrongPoint dX2_firstWrongPoint_22) (by decide) rfl
theorem E_X2_firstWrongPoint_25 : AW X d 15 25 [l0, l1, .int x] S st P = AW X d 15 26 [l0, l1, .int x] (.int x :: S) st P := zAW_st (zd_of zb_X2_firstWrongPoint dX2_firstWrongPoint_25) rfl rfl
theorem E_X2_firstWrongPoint_26 : AW X d 15 26 [.ref a, l1, l2] S st P = AW X d 15 27 [.ref a, l1, l2] (.ref a :: S) st P := zAW_st (zd_of zb_X2_firstWrongPoint dX2_firstWrongPoint_26) rfl rfl
theorem E_X2_firstWrongPoint_26n : AW X d 15 26 [.null, l1, l2] S st P = AW X d 15 27 [.null, l1, l2] (.null :: S) st P := zAW_st (zd_of zb_X2_firstWrongPoint dX2_firstWrongPoint_26) rfl rfl
theorem E_X2_firstWrongPoint_27 : AW X d 15 27 [l0, l1, l2] (.ref a :: S) st P = zwith (zget st a 3 0) fun v => AW X d 15 30 [l0, l1, l2] (v :: S) st P := zq_getfield (zd_of zb_X2_firstWrongPoint dX2_firstWrongPoint_27) zo_X2_firstWrongPoint zf_2_9
theorem E_X2_firstWrongPoint_30 : AW X d 15 30 [l0, l1, l2] (.ref a :: S) st P = zwith (zlen X st a) fun n => AW X d 15 31 [l0, l1, l2] (.int (Int32.ofNat n) :: S) st P := zq_alen (zd_of zb_X2_firstWrongPoint dX2_firstWrongPoint_30)
theorem E_X2_firstWrongPoint_31 : AW X d 15 31 [l0, l1, l2] (.int y :: .int x :: S) st P = if y ≤ x then AW X d 15 76 [l0, l1, l2] S st P else AW X d 15 34 [l0, l1, l2] S st P := zq_icmp (c := y ≤ x) (zd_of zb_X2_firstWrongPoint dX2_firstWrongPoint_31) (by decide) rfl
theorem E_X2_firstWrongPoint_34 : AW X d 15 34 [l0, .int x, l2] S st P = AW X d 15 35 [l0, .int x, l2] (.int x :: S) st P := zAW_st (zd_of zb_X2_firstWrongPoint dX2_firstWrongPoint_34) rfl rfl
theorem E_X2_firstWrongPoint_35 : AW X d 15 35 [.ref a, l1, l2] S st P = AW X d 15 36 [.ref a, l1, l2] (.ref a :: S) st P := zAW_st (zd_of zb_X2_firstWrongPoint dX2_firstWrongPoint_35) rfl rfl
theorem E_X2_firstWrongPoint_35n : AW X d 15 35 [.null, l1, l2] S st P = AW X d 15 36 [.null, l1, l2] (.null :: S) st P := zAW_st (zd_of zb_X2_firstWrongPoint dX2_firstWrongPoint_35) rfl rfl
theorem E_X2_firstWrongPoint_36 : AW X d 15 36 [.ref a, l1, l2] S st P = AW X d 15 37 [.ref a, l1, l2] (.ref a :: S) st P := zAW_st (zd_of zb_X2_firstWrongPoint dX2_firstWrongPoint_36) rfl rfl
theorem E_X2_firstWrongPoint_36n : AW X d 15 36 [.null, l1, l2] S st P = AW X d 15 37 [.null, l1, l2] (.null :: S) st P := zAW_st (zd_of zb_X2_firstWrongPoint dX2_firstWrongPoint_36) rfl rfl
theorem E_X2_firstWrongPoint_37 : AW X d 15 37 [l0, l1, l2] (.ref a :: S) st P = zwith (zget st a 3 0) fun v => AW X d 15 40 [l0, l1, l2] (v :: S) st P := zq_getfield (zd_of zb_X2_firstWrongPoint dX2_firstWrongPoint_37) zo_X2_firstWrongPoint zf_2_9
theorem E_X2_firstWrongPoint_40 : AW X d 15 40 [l0, l1, .int x] S st P = AW X d 15 41 [l0, l1, .int x] (.int x :: S) st P := zAW_st (zd_of zb_X2_firstWrongPoint dX2_firstWrongPoint_40) rfl rfl
theorem E_X2_firstWrongPoint_41 : AW X d 15 41 [l0, l1, l2] (.int x :: .ref a :: S) st P = zwith (zai X st a) fun q => zwith (zix x q.1) fun j => AW X d 15 42 [l0, l1, l2] (.int (q.2 j) :: S) st P := zq_iaload (zd_of zb_X2_firstWrongPoint dX2_firstWrongPoint_41)
theorem E_X2_firstWrongPoint_42 : AW X d 15 42 [l0, l1, l2] (.int x :: S) st P = zif (S.length ≤ 4) (AC X d 21 [.int x] st (zaft X d 15 42 [l0, l1, l2] S P)) := zq_callS (B := [.int x]) (S2 := S) (zd_of zb_X2_firstWrongPoint dX2_firstWrongPoint_42) zo_X2_firstWrongPoint (by decide) (by decide) (by decide) zl_2_25 zn_21 (by simp only [List.length_cons]; omega) rfl rfl
theorem E_X2_firstWrongPoint_45 : AW X d 15 45 [l0, l1, l2] (.int x :: .ref a :: S) st P = zif (zis st a 3 = true) (zif (S.length ≤ 4) (AC X d 16 [.ref a, .int x] st (zaft X d 15 45 [l0, l1, l2] S P))) := zq_callV (B := [.int x]) (zd_of zb_X2_firstWrongPoint dX2_firstWrongPoint_45) zo_X2_firstWrongPoint (by decide) zl_2_40 zn_16 rfl rfl rfl
theorem E_X2_firstWrongPoint_48 : AW X d 15 48 [l0, l1, l2] (.int y :: .int x :: S) st P = zif (S.length ≤ 4) (AW X d 15 51 [l0, l1, l2] (.int (if y < x then y else x) :: S) st P) := zq_min (zd_of zb_X2_firstWrongPoint dX2_firstWrongPoint_48) zo_X2_firstWrongPoint (by decide) (by decide) (by decide) (by decide +kernel)
theorem E_X2_firstWrongPoint_51 : AW X d 15 51 [l0, l1, l2] (.int x :: S) st P = AW X d 15 52 [l0, .int x, l2] S st P := zAW_st (zd_of zb_X2_firstWrongPoint dX2_firstWrongPoint_51) rfl rfl
theorem E_X2_firstWrongPoint_52 : AW X d 15 52 [l0, .int x, l2] S st P = AW X d 15 53 [l0, .int x, l2] (.int x :: S) st P := zAW_st (zd_of zb_X2_firstWrongPoint dX2_firstWrongPoint_52) rfl rfl
theorem E_X2_firstWrongPoint_53 : AW X d 15 53 [.ref a, l1, l2] S st P = AW X d 15 54 [.ref a, l1, l2] (.ref a :: S) st P := zAW_st (zd_of zb_X2_firstWrongPoint dX2_firstWrongPoint_53) rfl rfl
theorem E_X2_firstWrongPoint_53n : AW X d 15 53 [.null, l1, l2] S st P = AW X d 15 54 [.null, l1, l2] (.null :: S) st P := zAW_st (zd_of zb_X2_firstWrongPoint dX2_firstWrongPoint_53) rfl rfl
theorem E_X2_firstWrongPoint_54 : AW X d 15 54 [.ref a, l1, l2] S st P = AW X d 15 55 [.ref a, l1, l2] (.ref a :: S) st P := zAW_st (zd_of zb_X2_firstWrongPoint dX2_firstWrongPoint_54) rfl rfl
theorem E_X2_firstWrongPoint_54n : AW X d 15 54 [.null, l1, l2] S st P = AW X d 15 55 [.null, l1, l2] (.null :: S) st P := zAW_st (zd_of zb_X2_firstWrongPoint dX2_firstWrongPoint_54) rfl rfl
theorem E_X2_firstWrongPoint_55 : AW X d 15 55 [l0, l1, l2] (.ref a :: S) st P = zwith (zget st a 3 0) fun v => AW X d 15 58 [l0, l1, l2] (v :: S) st P := zq_getfield (zd_of zb_X2_firstWrongPoint dX2_firstWrongPoint_55) zo_X2_firstWrongPoint zf_2_9
theorem E_X2_firstWrongPoint_58 : AW X d 15 58 [l0, l1, .int x] S st P = AW X d 15 59 [l0, l1, .int x] (.int x :: S) st P := zAW_st (zd_of zb_X2_firstWrongPoint dX2_firstWrongPoint_58) rfl rfl
theorem E_X2_firstWrongPoint_59 : AW X d 15 59 [l0, l1, l2] (.int x :: .ref a :: S) st P = zwith (zai X st a) fun q => zwith (zix x q.1) fun j => AW X d 15 60 [l0, l1, l2] (.int (q.2 j) :: S) st P := zq_iaload (zd_of zb_X2_firstWrongPoint dX2_firstWrongPoint_59)
theorem E_X2_firstWrongPoint_60 : AW X d 15 60 [l0, l1, l2] (.int x :: S) st P = zif (S.length ≤ 4) (AC X d 22 [.int x] st (zaft X d 15 60 [l0, l1, l2] S P)) := zq_callS (B := [.int x]) (S2 := S) (zd_of zb_X2_firstWrongPoint dX2_firstWrongPoint_60) zo_X2_firstWrongPoint (by decide) (by decide) (by decide) zl_2_29 zn_22 (by simp only [List.length_cons]; omega) rfl rfl
theorem E_X2_firstWrongPoint_63 : AW X d 15 63 [l0, l1, l2] (.int x :: .ref a :: S) st P = zif (zis st a 3 = true) (zif (S.length ≤ 4) (AC X d 16 [.ref a, .int x] st (zaft X d 15 63 [l0, l1, l2] S P))) := zq_callV (B := [.int x]) (zd_of zb_X2_firstWrongPoint dX2_firstWrongPoint_63) zo_X2_firstWrongPoint (by decide) zl_2_40 zn_16 rfl rfl rfl
theorem E_X2_firstWrongPoint_66 : AW X d 15 66 [l0, l1, l2] (.int y :: .int x :: S) st P = zif (S.length ≤ 4) (AW X d 15 69 [l0, l1, l2] (.int (if y < x then y else x) :: S) st P) := zq_min (zd_of zb_X2_firstWrongPoint dX2_firstWrongPoint_66) zo_X2_firstWrongPoint (by decide) (by decide) (by decide) (by decide +kernel)
theorem E_X2_firstWrongPoint_69 : AW X d 15 69 [l0, l1, l2] (.int x :: S) st P = AW X d 15 70 [l0, .int x, l2] S st P := zAW_st (zd_of zb_X2_firstWrongPoint dX2_firstWrongPoint_69) rfl rfl
theorem E_X2_firstWrongPoint_70 : AW X d 15 70 [l0, l1, .int x] S st P = AW X d 15 73 [l0, l1, .int (x + 1)] S st P := zq_iinc (zd_of zb_X2_firstWrongPoint dX2_firstWrongPoint_70) rfl (by decide)
theorem E_X2_firstWrongPoint_73 : AW X d 15 73 [l0, l1, l2] S st P = AW X d 15 17 [l0, l1, l2] S st P := zq_goto (zd_of zb_X2_firstWrongPoint dX2_firstWrongPoint_73) (by decide)
theorem E_X2_firstWrongPoint_76 : AW X d 15 76 [l0, .int x, l2] S st P = AW X d 15 77 [l0, .int x, l2] (.int x :: S) st P := zAW_st (zd_of zb_X2_firstWrongPoint dX2_firstWrongPoint_76) rfl rfl
theorem E_X2_firstWrongPoint_77 : AW X d 15 77 [l0, l1, l2] S st P = AW X d 15 80 [l0, l1, l2] (.int 1024 :: S) st P := zq_sipush (zd_of zb_X2_firstWrongPoint dX2_firstWrongPoint_77) (by decide)
theorem E_X2_firstWrongPoint_80 : AW X d 15 80 [l0, l1, l2] (.int y :: .int x :: S) st P = if ¬ x = y then AW X d 15 87 [l0, l1, l2] S st P else AW X d 15 83 [l0, l1, l2] S st P := zq_icmp (c := ¬ x = y) (zd_of zb_X2_firstWrongPoint dX2_firstWrongPoint_80) (by decide) rfl
theorem E_X2_firstWrongPoint_83 : AW X d 15 83 [l0, l1, l2] S st P = AW X d 15 84 [l0, l1, l2] (.int (-1) :: S) st P := zq_iconst (zd_of zb_X2_firstWrongPoint dX2_firstWrongPoint_83) (by decide)
theorem E_X2_firstWrongPoint_84 : AW X d 15 84 [l0, l1, l2] S st P = AW X d 15 88 [l0, l1, l2] S st P := zq_goto (zd_of zb_X2_firstWrongPoint dX2_firstWrongPoint_84) (by decide)
theorem E_X2_firstWrongPoint_87 : AW X d 15 87 [l0, .int x, l2] S st P = AW X d 15 88 [l0, .int x, l2] (.int x :: S) st P := zAW_st (zd_of zb_X2_firstWrongPoint dX2_firstWrongPoint_87) rfl rfl
theorem E_X2_firstWrongPoint_88 : AW X d 15 88 [l0, l1, l2] ([.int x]) st P = P (.inl (some (.int x))) st := zAW_ret (w := (.inl (some (.int x)), st)) (zd_of zb_X2_firstWrongPoint dX2_firstWrongPoint_88) rfl rfl (by simp only [zfin, zr_X2_firstWrongPoint])
theorem A_X2_firstWrongPoint : AC X (d + 1) 15 [.ref a] st P = AW X d 15 0 [.ref a, .retAddr 0, .retAddr 0] [] st P := AC_eq ⟨⟨(show 1 ≤ zml 15 by decide +kernel), by decide +kernel⟩, by simp [zc1_int, zc1_ref, zc1_float]⟩
theorem E_X2_wrongOrNoPoint_0 : AW X d 16 0 [.ref a, l1] S st P = AW X d 16 1 [.ref a, l1] (.ref a :: S) st P := zAW_st (zd_of zb_X2_wrongOrNoPoint dX2_wrongOrNoPoint_0) rfl rfl
theorem E_X2_wrongOrNoPoint_0n : AW X d 16 0 [.null, l1] S st P = AW X d 16 1 [.null, l1] (.null :: S) st P := zAW_st (zd_of zb_X2_wrongOrNoPoint dX2_wrongOrNoPoint_0) rfl rfl
theorem E_X2_wrongOrNoPoint_1 : AW X d 16 1 [l0, .int x] S st P = AW X d 16 2 [l0, .int x] (.int x :: S) st P := zAW_st (zd_of zb_X2_wrongOrNoPoint dX2_wrongOrNoPoint_1) rfl rfl
theorem E_X2_wrongOrNoPoint_2 : AW X d 16 2 [l0, l1] (.int x :: .ref a :: S) st P = zif (zis st a 3 = true) (zif (S.length ≤ 4) (AC X d 17 [.ref a, .int x] st (zaft X d 16 2 [l0, l1] S P))) := zq_callV (B := [.int x]) (zd_of zb_X2_wrongOrNoPoint dX2_wrongOrNoPoint_2) zo_X2_wrongOrNoPoint (by decide) zl_2_49 zn_17 rfl rfl rfl
theorem E_X2_wrongOrNoPoint_5 : AW X d 16 5 [l0, l1] S st P = AW X d 16 6 [l0, l1] (.int 2 :: S) st P := zq_iconst (zd_of zb_X2_wrongOrNoPoint dX2_wrongOrNoPoint_5) (by decide)
theorem E_X2_wrongOrNoPoint_6 : AW X d 16 6 [l0, l1] (.int y :: .int x :: S) st P = if ¬ x = y then AW X d 16 15 [l0, l1] S st P else AW X d 16 9 [l0, l1] S st P := zq_icmp (c := ¬ x = y) (zd_of zb_X2_wrongOrNoPoint dX2_wrongOrNoPoint_6) (by decide) rfl
theorem E_X2_wrongOrNoPoint_9 : AW X d 16 9 [l0, l1] S st P = AW X d 16 12 [l0, l1] (.int 1024 :: S) st P := zq_sipush (zd_of zb_X2_wrongOrNoPoint dX2_wrongOrNoPoint_9) (by decide)
theorem E_X2_wrongOrNoPoint_12 : AW X d 16 12 [l0, l1] S st P = AW X d 16 16 [l0, l1] S st P := zq_goto (zd_of zb_X2_wrongOrNoPoint dX2_wrongOrNoPoint_12) (by decide)
theorem E_X2_wrongOrNoPoint_15 : AW X d 16 15 [l0, .int x] S st P = AW X d 16 16 [l0, .int x] (.int x :: S) st P := zAW_st (zd_of zb_X2_wrongOrNoPoint dX2_wrongOrNoPoint_15) rfl rfl
theorem E_X2_wrongOrNoPoint_16 : AW X d 16 16 [l0, l1] ([.int x]) st P = P (.inl (some (.int x))) st := zAW_ret (w := (.inl (some (.int x)), st)) (zd_of zb_X2_wrongOrNoPoint dX2_wrongOrNoPoint_16) rfl rfl (by simp only [zfin, zr_X2_wrongOrNoPoint])
theorem A_X2_wrongOrNoPoint : AC X (d + 1) 16 [.ref a, .int x] st P = AW X d 16 0 [.ref a, .int x] [] st P := AC_eq ⟨⟨(show 2 ≤ zml 16 by decide +kernel), by decide +kernel⟩, by simp [zc1_int, zc1_ref, zc1_float]⟩
theorem E_X2_strokesAt_0 : AW X d 17 0 [l0, l1, l2, l3] S st P = AW X d 17 1 [l0, l1, l2, l3] (.int 0 :: S) st P := zq_iconst (zd_of zb_X2_strokesAt dX2_strokesAt_0) (by decide)
theorem E_X2_strokesAt_1 : AW X d 17 1 [l0, l1, l2, l3] (.int x :: S) st P = AW X d 17 2 [l0, l1, .int x, l3] S st P := zAW_st (zd_of zb_X2_strokesAt dX2_strokesAt_1) rfl rfl
theorem E_X2_strokesAt_2 : AW X d 17 2 [l0, l1, l2, l3] S st P = AW X d 17 3 [l0, l1, l2, l3] (.int 0 :: S) st P := zq_iconst (zd_of zb_X2_strokesAt dX2_strokesAt_2) (by decide)
theorem E_X2_strokesAt_3 : AW X d 17 3 [l0, l1, l2, l3] (.int x :: S) st P = AW X d 17 4 [l0, l1, l2, .int x] S st P := zAW_st (zd_of zb_X2_strokesAt dX2_strokesAt_3) rfl rfl
theorem E_X2_strokesAt_4 : AW X d 17 4 [l0, l1, l2, .int x] S st P = AW X d 17 5 [l0, l1, l2, .int x] (.int x :: S) st P := zAW_st (zd_of zb_X2_strokesAt dX2_strokesAt_4) rfl rfl
theorem E_X2_strokesAt_5 : AW X d 17 5 [.ref a, l1, l2, l3] S st P = AW X d 17 6 [.ref a, l1, l2, l3] (.ref a :: S) st P := zAW_st (zd_of zb_X2_strokesAt dX2_strokesAt_5) rfl rfl
theorem E_X2_strokesAt_5n : AW X d 17 5 [.null, l1, l2, l3] S st P = AW X d 17 6 [.null, l1, l2, l3] (.null :: S) st P := zAW_st (zd_of zb_X2_strokesAt dX2_strokesAt_5) rfl rfl
theorem E_X2_strokesAt_6 : AW X d 17 6 [l0, l1, l2, l3] (.ref a :: S) st P = zwith (zget st a 3 1) fun v => AW X d 17 9 [l0, l1, l2, l3] (v :: S) st P := zq_getfield (zd_of zb_X2_strokesAt dX2_strokesAt_6) zo_X2_strokesAt zf_2_15
theorem E_X2_strokesAt_9 : AW X d 17 9 [l0, l1, l2, l3] (.int y :: .int x :: S) st P = if y ≤ x then AW X d 17 56 [l0, l1, l2, l3] S st P else AW X d 17 12 [l0, l1, l2, l3] S st P := zq_icmp (c := y ≤ x) (zd_of zb_X2_strokesAt dX2_strokesAt_9) (by decide) rfl
theorem E_X2_strokesAt_12 : AW X d 17 12 [l0, l1, l2, .int x] S st P = AW X d 17 13 [l0, l1, l2, .int x] (.int x :: S) st P := zAW_st (zd_of zb_X2_strokesAt dX2_strokesAt_12) rfl rfl
theorem E_X2_strokesAt_13 : AW X d 17 13 [.ref a, l1, l2, l3] S st P = AW X d 17 14 [.ref a, l1, l2, l3] (.ref a :: S) st P := zAW_st (zd_of zb_X2_strokesAt dX2_strokesAt_13) rfl rfl
theorem E_X2_strokesAt_13n : AW X d 17 13 [.null, l1, l2, l3] S st P = AW X d 17 14 [.null, l1, l2, l3] (.null :: S) st P := zAW_st (zd_of zb_X2_strokesAt dX2_strokesAt_13) rfl rfl
theorem E_X2_strokesAt_14 : AW X d 17 14 [l0, l1, l2, l3] (.ref a :: S) st P = zwith (zget st a 3 0) fun v => AW X d 17 17 [l0, l1, l2, l3] (v :: S) st P := zq_getfield (zd_of zb_X2_strokesAt dX2_strokesAt_14) zo_X2_strokesAt zf_2_9
theorem E_X2_strokesAt_17 : AW X d 17 17 [l0, l1, l2, l3] (.ref a :: S) st P = zwith (zlen X st a) fun n => AW X d 17 18 [l0, l1, l2, l3] (.int (Int32.ofNat n) :: S) st P := zq_alen (zd_of zb_X2_strokesAt dX2_strokesAt_17)
theorem E_X2_strokesAt_18 : AW X d 17 18 [l0, l1, l2, l3] (.int y :: .int x :: S) st P = if y ≤ x then AW X d 17 56 [l0, l1, l2, l3] S st P else AW X d 17 21 [l0, l1, l2, l3] S st P := zq_icmp (c := y ≤ x) (zd_of zb_X2_strokesAt dX2_strokesAt_18) (by decide) rfl
theorem E_X2_strokesAt_21 : AW X d 17 21 [.ref a, l1, l2, l3] S st P = AW X d 17 22 [.ref a, l1, l2, l3] (.ref a :: S) st P := zAW_st (zd_of zb_X2_strokesAt dX2_strokesAt_21) rfl rfl
theorem E_X2_strokesAt_21n : AW X d 17 21 [.null, l1, l2, l3] S st P = AW X d 17 22 [.null, l1, l2, l3] (.null :: S) st P := zAW_st (zd_of zb_X2_strokesAt dX2_strokesAt_21) rfl rfl
theorem E_X2_strokesAt_22 : AW X d 17 22 [l0, l1, l2, l3] (.ref a :: S) st P = zwith (zget st a 3 0) fun v => AW X d 17 25 [l0, l1, l2, l3] (v :: S) st P := zq_getfield (zd_of zb_X2_strokesAt dX2_strokesAt_22) zo_X2_strokesAt zf_2_9
theorem E_X2_strokesAt_25 : AW X d 17 25 [l0, l1, l2, .int x] S st P = AW X d 17 26 [l0, l1, l2, .int x] (.int x :: S) st P := zAW_st (zd_of zb_X2_strokesAt dX2_strokesAt_25) rfl rfl
theorem E_X2_strokesAt_26 : AW X d 17 26 [l0, l1, l2, l3] (.int x :: .ref a :: S) st P = zwith (zai X st a) fun q => zwith (zix x q.1) fun j => AW X d 17 27 [l0, l1, l2, l3] (.int (q.2 j) :: S) st P := zq_iaload (zd_of zb_X2_strokesAt dX2_strokesAt_26)
theorem E_X2_strokesAt_27 : AW X d 17 27 [l0, l1, l2, l3] (.int x :: S) st P = zif (S.length ≤ 4) (AC X d 21 [.int x] st (zaft X d 17 27 [l0, l1, l2, l3] S P)) := zq_callS (B := [.int x]) (S2 := S) (zd_of zb_X2_strokesAt dX2_strokesAt_27) zo_X2_strokesAt (by decide) (by decide) (by decide) zl_2_25 zn_21 (by simp only [List.length_cons]; omega) rfl rfl
theorem E_X2_strokesAt_30 : AW X d 17 30 [l0, .int x, l2, l3] S st P = AW X d 17 31 [l0, .int x, l2, l3] (.int x :: S) st P := zAW_st (zd_of zb_X2_strokesAt dX2_strokesAt_30) rfl rfl
theorem E_X2_strokesAt_31 : AW X d 17 31 [l0, l1, l2, l3] (.int y :: .int x :: S) st P = if x = y then AW X d 17 47 [l0, l1, l2, l3] S st P else AW X d 17 34 [l0, l1, l2, l3] S st P := zq_icmp (c := x = y) (zd_of zb_X2_strokesAt dX2_strokesAt_31) (by decide) rfl
theorem E_X2_strokesAt_34 : AW X d 17 34 [.ref a, l1, l2, l3] S st P = AW X d 17 35 [.ref a, l1, l2, l3] (.ref a :: S) st P := zAW_st (zd_of zb_X2_strokesAt dX2_strokesAt_34) rfl rfl
theorem E_X2_strokesAt_34n : AW X d 17 34 [.null, l1, l2, l3] S st P = AW X d 17 35 [.null, l1, l2, l3] (.null :: S) st P := zAW_st (zd_of zb_X2_strokesAt dX2_strokesAt_34) rfl rfl
theorem E_X2_strokesAt_35 : AW X d 17 35 [l0, l1, l2, l3] (.ref a :: S) st P = zwith (zget st a 3 0) fun v => AW X d 17 38 [l0, l1, l2, l3] (v :: S) st P := zq_getfield (zd_of zb_X2_strokesAt dX2_strokesAt_35) zo_X2_strokesAt zf_2_9
theorem E_X2_strokesAt_38 : AW X d 17 38 [l0, l1, l2, .int x] S st P = AW X d 17 39 [l0, l1, l2, .int x] (.int x :: S) st P := zAW_st (zd_of zb_X2_strokesAt dX2_strokesAt_38) rfl rfl
theorem E_X2_strokesAt_39 : AW X d 17 39 [l0, l1, l2, l3] (.int x :: .ref a :: S) st P = zwith (zai X st a) fun q => zwith (zix x q.1) fun j => AW X d 17 40 [l0, l1, l2, l3] (.int (q.2 j) :: S) st P := zq_iaload (zd_of zb_X2_strokesAt dX2_strokesAt_39)
theorem E_X2_strokesAt_40 : AW X d 17 40 [l0, l1, l2, l3] (.int x :: S) st P = zif (S.length ≤ 4) (AC X d 22 [.int x] st (zaft X d 17 40 [l0, l1, l2, l3] S P)) := zq_callS (B := [.int x]) (S2 := S) (zd_of zb_X2_strokesAt dX2_strokesAt_40) zo_X2_strokesAt (by decide) (by decide) (by decide) zl_2_29 zn_22 (by simp only [List.length_cons]; omega) rfl rfl
theorem E_X2_strokesAt_43 : AW X d 17 43 [l0, .int x, l2, l3] S st P = AW X d 17 44 [l0, .int x, l2, l3] (.int x :: S) st P := zAW_st (zd_of zb_X2_strokesAt dX2_strokesAt_43) rfl rfl
theorem E_X2_strokesAt_44 : AW X d 17 44 [l0, l1, l2, l3] (.int y :: .int x :: S) st P = if ¬ x = y then AW X d 17 50 [l0, l1, l2, l3] S st P else AW X d 17 47 [l0, l1, l2, l3] S st P := zq_icmp (c := ¬ x = y) (zd_of zb_X2_strokesAt dX2_strokesAt_44) (by decide) rfl
theorem E_X2_strokesAt_47 : AW X d 17 47 [l0, l1, .int x, l3] S st P = AW X d 17 50 [l0, l1, .int (x + 1), l3] S st P := zq_iinc (zd_of zb_X2_strokesAt dX2_strokesAt_47) rfl (by decide)
theorem E_X2_strokesAt_50 : AW X d 17 50 [l0, l1, l2, .int x] S st P = AW X d 17 53 [l0, l1, l2, .int (x + 1)] S st P := zq_iinc (zd_of zb_X2_strokesAt dX2_strokesAt_50) rfl (by decide)
theorem E_X2_strokesAt_53 : AW X d 17 53 [l0, l1, l2, l3] S st P = AW X d 17 4 [l0, l1, l2, l3] S st P := zq_goto (zd_of zb_X2_strokesAt dX2_strokesAt_53) (by decide)
theorem E_X2_strokesAt_56 : AW X d 17 56 [l0, l1, .int x, l3] S st P = AW X d 17 57 [l0, l1, .int x, l3] (.int x :: S) st P := zAW_st (zd_of zb_X2_strokesAt dX2_strokesAt_56) rfl rfl
theorem E_X2_strokesAt_57 : AW X d 17 57 [l0, l1, l2, l3] ([.int x]) st P = P (.inl (some (.int x))) st := zAW_ret (w := (.inl (some (.int x)), st)) (zd_of zb_X2_strokesAt dX2_strokesAt_57) rfl rfl (by simp only [zfin, zr_X2_strokesAt])
theorem A_X2_strokesAt : AC X (d + 1) 17 [.ref a, .int x] st P = AW X d 17 0 [.ref a, .int x, .retAddr 0, .retAddr 0] [] st P := AC_eq ⟨⟨(show 2 ≤ zml 17 by decide +kernel), by decide +kernel⟩, by simp [zc1_int, zc1_ref, zc1_float]⟩
theorem E_X2_wide_0 : AW X d 18 0 [l0, l1, l2, l3, l4, l5] S st P = AW X d 18 2 [l0, l1, l2, l3, l4, l5] (.int 32 :: S) st P := zq_bipush (zd_of zb_X2_wide dX2_wide_0) (by decide)
theorem E_X2_wide_2 : AW X d 18 2 [l0, l1, l2, l3, l4, l5] (.int x :: S) st P = AW X d 18 3 [l0, .int x, l2, l3, l4, l5] S st P := zAW_st (zd_of zb_X2_wide dX2_wide_2) rfl rfl
theorem E_X2_wide_3 : AW X d 18 3 [l0, l1, l2, l3, l4, l5] S st P = AW X d 18 4 [l0, l1, l2, l3, l4, l5] (.int (-1) :: S) st P := zq_iconst (zd_of zb_X2_wide dX2_wide_3) (by decide)
theorem E_X2_wide_4 : AW X d 18 4 [l0, l1, l2, l3, l4, l5] (.int x :: S) st P = AW X d 18 5 [l0, l1, .int x, l3, l4, l5] S st P := zAW_st (zd_of zb_X2_wide dX2_wide_4) rfl rfl
theorem E_X2_wide_5 : AW X d 18 5 [l0, l1, l2, l3, l4, l5] S st P = AW X d 18 6 [l0, l1, l2, l3, l4, l5] (.int 0 :: S) st P := zq_iconst (zd_of zb_X2_wide dX2_wide_5) (by decide)
theorem E_X2_wide_6 : AW X d 18 6 [l0, l1, l2, l3, l4, l5] (.int x :: S) st P = AW X d 18 7 [l0, l1, l2, .int x, l4, l5] S st P := zAW_st (zd_of zb_X2_wide dX2_wide_6) rfl rfl
theorem E_X2_wide_7 : AW X d 18 7 [l0, l1, l2, .int x, l4, l5] S st P = AW X d 18 8 [l0, l1, l2, .int x, l4, l5] (.int x :: S) st P := zAW_st (zd_of zb_X2_wide dX2_wide_7) rfl rfl
theorem E_X2_wide_8 : AW X d 18 8 [.ref a, l1, l2, l3, l4, l5] S st P = AW X d 18 9 [.ref a, l1, l2, l3, l4, l5] (.ref a :: S) st P := zAW_st (zd_of zb_X2_wide dX2_wide_8) rfl rfl
theorem E_X2_wide_8n : AW X d 18 8 [.null, l1, l2, l3, l4, l5] S st P = AW X d 18 9 [.null, l1, l2, l3, l4, l5] (.null :: S) st P := zAW_st (zd_of zb_X2_wide dX2_wide_8) rfl rfl
theorem E_X2_wide_9 : AW X d 18 9 [l0, l1, l2, l3, l4, l5] (.ref a :: S) st P = zwith (zget st a 3 1) fun v => AW X d 18 12 [l0, l1, l2, l3, l4, l5] (v :: S) st P := zq_getfield (zd_of zb_X2_wide dX2_wide_9) zo_X2_wide zf_2_15
theorem E_X2_wide_12 : AW X d 18 12 [l0, l1, l2, l3, l4, l5] (.int y :: .int x :: S) st P = if y ≤ x then AW X d 18 82 [l0, l1, l2, l3, l4, l5] S st P else AW X d 18 15 [l0, l1, l2, l3, l4, l5] S st P := zq_icmp (c := y ≤ x) (zd_of zb_X2_wide dX2_wide_12) (by decide) rfl
theorem E_X2_wide_15 : AW X d 18 15 [l0, l1, l2, .int x, l4, l5] S st P = AW X d 18 16 [l0, l1, l2, .int x, l4, l5] (.int x :: S) st P := zAW_st (zd_of zb_X2_wide dX2_wide_15) rfl rfl
theorem E_X2_wide_16 : AW X d 18 16 [.ref a, l1, l2, l3, l4, l5] S st P = AW X d 18 17 [.ref a, l1, l2, l3, l4, l5] (.ref a :: S) st P := zAW_st (zd_of zb_X2_wide dX2_wide_16) rfl rfl
theorem E_X2_wide_16n : AW X d 18 16 [.null, l1, l2, l3, l4, l5] S st P = AW X d 18 17 [.null, l1, l2, l3, l4, l5] (.null :: S) st P := zAW_st (zd_of zb_X2_wide dX2_wide_16) rfl rfl
theorem E_X2_wide_17 : AW X d 18 17 [l0, l1, l2, l3, l4, l5] (.ref a :: S) st P = zwith (zget st a 3 0) fun v => AW X d 18 20 [l0, l1, l2, l3, l4, l5] (v :: S) st P := zq_getfield (zd_of zb_X2_wide dX2_wide_17) zo_X2_wide zf_2_9
theorem E_X2_wide_20 : AW X d 18 20 [l0, l1, l2, l3, l4, l5] (.ref a :: S) st P = zwith (zlen X st a) fun n => AW X d 18 21 [l0, l1, l2, l3, l4, l5] (.int (Int32.ofNat n) :: S) st P := zq_alen (zd_of zb_X2_wide dX2_wide_20)
theorem E_X2_wide_21 : AW X d 18 21 [l0, l1, l2, l3, l4, l5] (.int y :: .int x :: S) st P = if y ≤ x then AW X d 18 82 [l0, l1, l2, l3, l4, l5] S st P else AW X d 18 24 [l0, l1, l2, l3, l4, l5] S st P := zq_icmp (c := y ≤ x) (zd_of zb_X2_wide dX2_wide_21) (by decide) rfl
theorem E_X2_wide_24 : AW X d 18 24 [.ref a, l1, l2, l3, l4, l5] S st P = AW X d 18 25 [.ref a, l1, l2, l3, l4, l5] (.ref a :: S) st P := zAW_st (zd_of zb_X2_wide dX2_wide_24) rfl rfl
theorem E_X2_wide_24n : AW X d 18 24 [.null, l1, l2, l3, l4, l5] S st P = AW X d 18 25 [.null, l1, l2, l3, l4, l5] (.null :: S) st P := zAW_st (zd_of zb_X2_wide dX2_wide_24) rfl rfl
theorem E_X2_wide_25 : AW X d 18 25 [l0, l1, l2, l3, l4, l5] (.ref a :: S) st P = zwith (zget st a 3 0) fun v => AW X d 18 28 [l0, l1, l2, l3, l4, l5] (v :: S) st P := zq_getfield (zd_of zb_X2_wide dX2_wide_25) zo_X2_wide zf_2_9
theorem E_X2_wide_28 : AW X d 18 28 [l0, l1, l2, .int x, l4, l5] S st P = AW X d 18 29 [l0, l1, l2, .int x, l4, l5] (.int x :: S) st P := zAW_st (zd_of zb_X2_wide dX2_wide_28) rfl rfl
theorem E_X2_wide_29 : AW X d 18 29 [l0, l1, l2, l3, l4, l5] (.int x :: .ref a :: S) st P = zwith (zai X st a) fun q => zwith (zix x q.1) fun j => AW X d 18 30 [l0, l1, l2, l3, l4, l5] (.int (q.2 j) :: S) st P := zq_iaload (zd_of zb_X2_wide dX2_wide_29)
theorem E_X2_wide_30 : AW X d 18 30 [l0, l1, l2, l3, l4, l5] (.int x :: S) st P = zif (S.length ≤ 4) (AC X d 21 [.int x] st (zaft X d 18 30 [l0, l1, l2, l3, l4, l5] S P)) := zq_callS (B := [.int x]) (S2 := S) (zd_of zb_X2_wide dX2_wide_30) zo_X2_wide (by decide) (by decide) (by decide) zl_2_25 zn_21 (by simp only [List.length_cons]; omega) rfl rfl
theorem E_X2_wide_33 : AW X d 18 33 [l0, l1, l2, l3, l4, l5] (.int x :: S) st P = zif (S.length ≤ 4) (AC X d 23 [.int x] st (zaft X d 18 33 [l0, l1, l2, l3, l4, l5] S P)) := zq_callS (B := [.int x]) (S2 := S) (zd_of zb_X2_wide dX2_wide_33) zo_X2_wide (by decide) (by decide) (by decide) zl_2_52 zn_23 (by simp only [List.length_cons]; omega) rfl rfl
theorem E_X2_wide_36 : AW X d 18 36 [l0, l1, l2, l3, l4, l5] (.int x :: S) st P = AW X d 18 38 [l0, l1, l2, l3, .int x, l5] S st P := zAW_st (zd_of zb_X2_wide dX2_wide_36) rfl rfl
theorem E_X2_wide_38 : AW X d 18 38 [.ref a, l1, l2, l3, l4, l5] S st P = AW X d 18 39 [.ref a, l1, l2, l3, l4, l5] (.ref a :: S) st P := zAW_st (zd_of zb_X2_wide dX2_wide_38) rfl rfl
theorem E_X2_wide_38n : AW X d 18 38 [.null, l1, l2, l3, l4, l5] S st P = AW X d 18 39 [.null, l1, l2, l3, l4, l5] (.null :: S) st P := zAW_st (zd_of zb_X2_wide dX2_wide_38) rfl rfl
theorem E_X2_wide_39 : AW X d 18 39 [l0, l1, l2, l3, l4, l5] (.ref a :: S) st P = zwith (zget st a 3 0) fun v => AW X d 18 42 [l0, l1, l2, l3, l4, l5] (v :: S) st P := zq_getfield (zd_of zb_X2_wide dX2_wide_39) zo_X2_wide zf_2_9
theorem E_X2_wide_42 : AW X d 18 42 [l0, l1, l2, .int x, l4, l5] S st P = AW X d 18 43 [l0, l1, l2, .int x, l4, l5] (.int x :: S) st P := zAW_st (zd_of zb_X2_wide dX2_wide_42) rfl rfl
theorem E_X2_wide_43 : AW X d 18 43 [l0, l1, l2, l3, l4, l5] (.int x :: .ref a :: S) st P = zwith (zai X st a) fun q => zwith (zix x q.1) fun j => AW X d 18 44 [l0, l1, l2, l3, l4, l5] (.int (q.2 j) :: S) st P := zq_iaload (zd_of zb_X2_wide dX2_wide_43)
theorem E_X2_wide_44 : AW X d 18 44 [l0, l1, l2, l3, l4, l5] (.int x :: S) st P = zif (S.length ≤ 4) (AC X d 22 [.int x] st (zaft X d 18 44 [l0, l1, l2, l3, l4, l5] S P)) := zq_callS (B := [.int x]) (S2 := S) (zd_of zb_X2_wide dX2_wide_44) zo_X2_wide (by decide) (by decide) (by decide) zl_2_29 zn_22 (by simp only [List.length_cons]; omega) rfl rfl
theorem E_X2_wide_47 : AW X d 18 47 [l0, l1, l2, l3, l4, l5] (.int x :: S) st P = zif (S.length ≤ 4) (AC X d 23 [.int x] st (zaft X d 18 47 [l0, l1, l2, l3, l4, l5] S P)) := zq_callS (B := [.int x]) (S2 := S) (zd_of zb_X2_wide dX2_wide_47) zo_X2_wide (by decide) (by decide) (by decide) zl_2_52 zn_23 (by simp only [List.length_cons]; omega) rfl rfl
theorem E_X2_wide_50 : AW X d 18 50 [l0, l1, l2, l3, l4, l5] (.int x :: S) st P = AW X d 18 52 [l0, l1, l2, l3, l4, .int x] S st P := zAW_st (zd_of zb_X2_wide dX2_wide_50) rfl rfl
theorem E_X2_wide_52 : AW X d 18 52 [l0, .int x, l2, l3, l4, l5] S st P = AW X d 18 53 [l0, .int x, l2, l3, l4, l5] (.int x :: S) st P := zAW_st (zd_of zb_X2_wide dX2_wide_52) rfl rfl
theorem E_X2_wide_53 : AW X d 18 53 [l0, l1, l2, l3, .int x, l5] S st P = AW X d 18 55 [l0, l1, l2, l3, .int x, l5] (.int x :: S) st P := zAW_st (zd_of zb_X2_wide dX2_wide_53) rfl rfl
theorem E_X2_wide_55 : AW X d 18 55 [l0, l1, l2, l3, l4, .int x] S st P = AW X d 18 57 [l0, l1, l2, l3, l4, .int x] (.int x :: S) st P := zAW_st (zd_of zb_X2_wide dX2_wide_55) rfl rfl
theorem E_X2_wide_57 : AW X d 18 57 [l0, l1, l2, l3, l4, l5] (.int y :: .int x :: S) st P = zif (S.length ≤ 4) (AW X d 18 60 [l0, l1, l2, l3, l4, l5] (.int (if y < x then y else x) :: S) st P) := zq_min (zd_of zb_X2_wide dX2_wide_57) zo_X2_wide (by decide) (by decide) (by decide) (by decide +kernel)
theorem E_X2_wide_60 : AW X d 18 60 [l0, l1, l2, l3, l4, l5] (.int y :: .int x :: S) st P = zif (S.length ≤ 4) (AW X d 18 63 [l0, l1, l2, l3, l4, l5] (.int (if y < x then y else x) :: S) st P) := zq_min (zd_of zb_X2_wide dX2_wide_60) zo_X2_wide (by decide) (by decide) (by decide) (by decide +kernel)
theorem E_X2_wide_63 : AW X d 18 63 [l0, l1, l2, l3, l4, l5] (.int x :: S) st P = AW X d 18 64 [l0, .int x, l2, l3, l4, l5] S st P := zAW_st (zd_of zb_X2_wide dX2_wide_63) rfl rfl
theorem E_X2_wide_64 : AW X d 18 64 [l0, l1, .int x, l3, l4, l5] S st P = AW X d 18 65 [l0, l1, .int x, l3, l4, l5] (.int x :: S) st P := zAW_st (zd_of zb_X2_wide dX2_wide_64) rfl rfl
theorem E_X2_wide_65 : AW X d 18 65 [l0, l1, l2, l3, .int x, l5] S st P = AW X d 18 67 [l0, l1, l2, l3, .int x, l5] (.int x :: S) st P := zAW_st (zd_of zb_X2_wide dX2_wide_65) rfl rfl
theorem E_X2_wide_67 : AW X d 18 67 [l0, l1, l2, l3, l4, .int x] S st P = AW X d 18 69 [l0, l1, l2, l3, l4, .int x] (.int x :: S) st P := zAW_st (zd_of zb_X2_wide dX2_wide_67) rfl rfl
theorem E_X2_wide_69 : AW X d 18 69 [l0, l1, l2, l3, l4, l5] (.int y :: .int x :: S) st P = zif (S.length ≤ 4) (AW X d 18 72 [l0, l1, l2, l3, l4, l5] (.int (if x < y then y else x) :: S) st P) := zq_max (zd_of zb_X2_wide dX2_wide_69) zo_X2_wide (by decide) (by decide) (by decide) (by decide +kernel)
theorem E_X2_wide_72 : AW X d 18 72 [l0, l1, l2, l3, l4, l5] (.int y :: .int x :: S) st P = zif (S.length ≤ 4) (AW X d 18 75 [l0, l1, l2, l3, l4, l5] (.int (if x < y then y else x) :: S) st P) := zq_max (zd_of zb_X2_wide dX2_wide_72) zo_X2_wide (by decide) (by decide) (by decide) (by decide +kernel)
theorem E_X2_wide_75 : AW X d 18 75 [l0, l1, l2, l3, l4, l5] (.int x :: S) st P = AW X d 18 76 [l0, l1, .int x, l3, l4, l5] S st P := zAW_st (zd_of zb_X2_wide dX2_wide_75) rfl rfl
theorem E_X2_wide_76 : AW X d 18 76 [l0, l1, l2, .int x, l4, l5] S st P = AW X d 18 79 [l0, l1, l2, .int (x + 1), l4, l5] S st P := zq_iinc (zd_of zb_X2_wide dX2_wide_76) rfl (by decide)
theorem E_X2_wide_79 : AW X d 18 79 [l0, l1, l2, l3, l4, l5] S st P = AW X d 18 7 [l0, l1, l2, l3, l4, l5] S st P := zq_goto (zd_of zb_X2_wide dX2_wide_79) (by decide)
theorem E_X2_wide_82 : AW X d 18 82 [.ref a, l1, l2, l3, l4, l5] S st P = AW X d 18 83 [.ref a, l1, l2, l3, l4, l5] (.ref a :: S) st P := zAW_st (zd_of zb_X2_wide dX2_wide_82) rfl rfl
theorem E_X2_wide_82n : AW X d 18 82 [.null, l1, l2, l3, l4, l5] S st P = AW X d 18 83 [.null, l1, l2, l3, l4, l5] (.null :: S) st P := zAW_st (zd_of zb_X2_wide dX2_wide_82) rfl rfl
theorem E_X2_wide_83 : AW X d 18 83 [l0, l1, l2, l3, l4, l5] (.ref a :: S) st P = zwith (zget st a 3 1) fun v => AW X d 18 86 [l0, l1, l2, l3, l4, l5] (v :: S) st P := zq_getfield (zd_of zb_X2_wide dX2_wide_83) zo_X2_wide zf_2_15
theorem E_X2_wide_86 : AW X d 18 86 [l0, l1, l2, l3, l4, l5] (.int x :: S) st P = if ¬ x = 0 then AW X d 18 93 [l0, l1, l2, l3, l4, l5] S st P else AW X d 18 89 [l0, l1, l2, l3, l4, l5] S st P := zq_if (c := ¬ x = 0) (zd_of zb_X2_wide dX2_wide_86) (by decide) rfl
theorem E_X2_wide_89 : AW X d 18 89 [l0, l1, l2, l3, l4, l5] S st P = AW X d 18 90 [l0, l1, l2, l3, l4, l5] (.int 0 :: S) st P := zq_iconst (zd_of zb_X2_wide dX2_wide_89) (by decide)
theorem E_X2_wide_90 : AW X d 18 90 [l0, l1, l2, l3, l4, l5] S st P = AW X d 18 98 [l0, l1, l2, l3, l4, l5] S st P := zq_goto (zd_of zb_X2_wide dX2_wide_90) (by decide)
theorem E_X2_wide_93 : AW X d 18 93 [l0, l1, .int x, l3, l4, l5] S st P = AW X d 18 94 [l0, l1, .int x, l3, l4, l5] (.int x :: S) st P := zAW_st (zd_of zb_X2_wide dX2_wide_93) rfl rfl
theorem E_X2_wide_94 : AW X d 18 94 [l0, .int x, l2, l3, l4, l5] S st P = AW X d 18 95 [l0, .int x, l2, l3, l4, l5] (.int x :: S) st P := zAW_st (zd_of zb_X2_wide dX2_wide_94) rfl rfl
theorem E_X2_wide_95 : AW X d 18 95 [l0, l1, l2, l3, l4, l5] (.int y :: .int x :: S) st P = AW X d 18 96 [l0, l1, l2, l3, l4, l5] (.int (x - y) :: S) st P := zAW_st (zd_of zb_X2_wide dX2_wide_95) rfl rfl
theorem E_X2_wide_96 : AW X d 18 96 [l0, l1, l2, l3, l4, l5] S st P = AW X d 18 97 [l0, l1, l2, l3, l4, l5] (.int 1 :: S) st P := zq_iconst (zd_of zb_X2_wide dX2_wide_96) (by decide)
theorem E_X2_wide_97 : AW X d 18 97 [l0, l1, l2, l3, l4, l5] (.int y :: .int x :: S) st P = AW X d 18 98 [l0, l1, l2, l3, l4, l5] (.int (x + y) :: S) st P := zAW_st (zd_of zb_X2_wide dX2_wide_97) rfl rfl
theorem E_X2_wide_98 : AW X d 18 98 [l0, l1, l2, l3, l4, l5] ([.int x]) st P = P (.inl (some (.int x))) st := zAW_ret (w := (.inl (some (.int x)), st)) (zd_of zb_X2_wide dX2_wide_98) rfl rfl (by simp only [zfin, zr_X2_wide])
theorem A_X2_wide : AC X (d + 1) 18 [.ref a] st P = AW X d 18 0 [.ref a, .retAddr 0, .retAddr 0, .retAddr 0, .retAddr 0, .retAddr 0] [] st P := AC_eq ⟨⟨(show 1 ≤ zml 18 by decide +kernel), by decide +kernel⟩, by simp [zc1_int, zc1_ref, zc1_float]⟩
theorem E_X2_high_0 : AW X d 19 0 [l0, l1, l2, l3, l4, l5] S st P = AW X d 19 2 [l0, l1, l2, l3, l4, l5] (.int 32 :: S) st P := zq_bipush (zd_of zb_X2_high dX2_high_0) (by decide)
theorem E_X2_high_2 : AW X d 19 2 [l0, l1, l2, l3, l4, l5] (.int x :: S) st P = AW X d 19 3 [l0, .int x, l2, l3, l4, l5] S st P := zAW_st (zd_of zb_X2_high dX2_high_2) rfl rfl
theorem E_X2_high_3 : AW X d 19 3 [l0, l1, l2, l3, l4, l5] S st P = AW X d 19 4 [l0, l1, l2, l3, l4, l5] (.int (-1) :: S) st P := zq_iconst (zd_of zb_X2_high dX2_high_3) (by decide)
theorem E_X2_high_4 : AW X d 19 4 [l0, l1, l2, l3, l4, l5] (.int x :: S) st P = AW X d 19 5 [l0, l1, .int x, l3, l4, l5] S st P := zAW_st (zd_of zb_X2_high dX2_high_4) rfl rfl
theorem E_X2_high_5 : AW X d 19 5 [l0, l1, l2, l3, l4, l5] S st P = AW X d 19 6 [l0, l1, l2, l3, l4, l5] (.int 0 :: S) st P := zq_iconst (zd_of zb_X2_high dX2_high_5) (by decide)
theorem E_X2_high_6 : AW X d 19 6 [l0, l1, l2, l3, l4, l5] (.int x :: S) st P = AW X d 19 7 [l0, l1, l2, .int x, l4, l5] S st P := zAW_st (zd_of zb_X2_high dX2_high_6) rfl rfl
theorem E_X2_high_7 : AW X d 19 7 [l0, l1, l2, .int x, l4, l5] S st P = AW X d 19 8 [l0, l1, l2, .int x, l4, l5] (.int x :: S) st P := zAW_st (zd_of zb_X2_high dX2_high_7) rfl rfl
theorem E_X2_high_8 : AW X d 19 8 [.ref a, l1, l2, l3, l4, l5] S st P = AW X d 19 9 [.ref a, l1, l2, l3, l4, l5] (.ref a :: S) st P := zAW_st (zd_of zb_X2_high dX2_high_8) rfl rfl
theorem E_X2_high_8n : AW X d 19 8 [.null, l1, l2, l3, l4, l5] S st P = AW X d 19 9 [.null, l1, l2, l3, l4, l5] (.null :: S) st P := zAW_st (zd_of zb_X2_high dX2_high_8) rfl rfl
theorem E_X2_high_9 : AW X d 19 9 [l0, l1, l2, l3, l4, l5] (.ref a :: S) st P = zwith (zget st a 3 1) fun v => AW X d 19 12 [l0, l1, l2, l3, l4, l5] (v :: S) st P := zq_getfield (zd_of zb_X2_high dX2_high_9) zo_X2_high zf_2_15
theorem E_X2_high_12 : AW X d 19 12 [l0, l1, l2, l3, l4, l5] (.int y :: .int x :: S) st P = if y ≤ x then AW X d 19 82 [l0, l1, l2, l3, l4, l5] S st P else AW X d 19 15 [l0, l1, l2, l3, l4, l5] S st P := zq_icmp (c := y ≤ x) (zd_of zb_X2_high dX2_high_12) (by decide) rfl
theorem E_X2_high_15 : AW X d 19 15 [l0, l1, l2, .int x, l4, l5] S st P = AW X d 19 16 [l0, l1, l2, .int x, l4, l5] (.int x :: S) st P := zAW_st (zd_of zb_X2_high dX2_high_15) rfl rfl
theorem E_X2_high_16 : AW X d 19 16 [.ref a, l1, l2, l3, l4, l5] S st P = AW X d 19 17 [.ref a, l1, l2, l3, l4, l5] (.ref a :: S) st P := zAW_st (zd_of zb_X2_high dX2_high_16) rfl rfl
theorem E_X2_high_16n : AW X d 19 16 [.null, l1, l2, l3, l4, l5] S st P = AW X d 19 17 [.null, l1, l2, l3, l4, l5] (.null :: S) st P := zAW_st (zd_of zb_X2_high dX2_high_16) rfl rfl
theorem E_X2_high_17 : AW X d 19 17 [l0, l1, l2, l3, l4, l5] (.ref a :: S) st P = zwith (zget st a 3 0) fun v => AW X d 19 20 [l0, l1, l2, l3, l4, l5] (v :: S) st P := zq_getfield (zd_of zb_X2_high dX2_high_17) zo_X2_high zf_2_9
theorem E_X2_high_20 : AW X d 19 20 [l0, l1, l2, l3, l4, l5] (.ref a :: S) st P = zwith (zlen X st a) fun n => AW X d 19 21 [l0, l1, l2, l3, l4, l5] (.int (Int32.ofNat n) :: S) st P := zq_alen (zd_of zb_X2_high dX2_high_20)
theorem E_X2_high_21 : AW X d 19 21 [l0, l1, l2, l3, l4, l5] (.int y :: .int x :: S) st P = if y ≤ x then AW X d 19 82 [l0, l1, l2, l3, l4, l5] S st P else AW X d 19 24 [l0, l1, l2, l3, l4, l5] S st P := zq_icmp (c := y ≤ x) (zd_of zb_X2_high dX2_high_21) (by decide) rfl
theorem E_X2_high_24 : AW X d 19 24 [.ref a, l1, l2, l3, l4, l5] S st P = AW X d 19 25 [.ref a, l1, l2, l3, l4, l5] (.ref a :: S) st P := zAW_st (zd_of zb_X2_high dX2_high_24) rfl rfl
theorem E_X2_high_24n : AW X d 19 24 [.null, l1, l2, l3, l4, l5] S st P = AW X d 19 25 [.null, l1, l2, l3, l4, l5] (.null :: S) st P := zAW_st (zd_of zb_X2_high dX2_high_24) rfl rfl
theorem E_X2_high_25 : AW X d 19 25 [l0, l1, l2, l3, l4, l5] (.ref a :: S) st P = zwith (zget st a 3 0) fun v => AW X d 19 28 [l0, l1, l2, l3, l4, l5] (v :: S) st P := zq_getfield (zd_of zb_X2_high dX2_high_25) zo_X2_high zf_2_9
theorem E_X2_high_28 : AW X d 19 28 [l0, l1, l2, .int x, l4, l5] S st P = AW X d 19 29 [l0, l1, l2, .int x, l4, l5] (.int x :: S) st P := zAW_st (zd_of zb_X2_high dX2_high_28) rfl rfl
theorem E_X2_high_29 : AW X d 19 29 [l0, l1, l2, l3, l4, l5] (.int x :: .ref a :: S) st P = zwith (zai X st a) fun q => zwith (zix x q.1) fun j => AW X d 19 30 [l0, l1, l2, l3, l4, l5] (.int (q.2 j) :: S) st P := zq_iaload (zd_of zb_X2_high dX2_high_29)
theorem E_X2_high_30 : AW X d 19 30 [l0, l1, l2, l3, l4, l5] (.int x :: S) st P = zif (S.length ≤ 4) (AC X d 21 [.int x] st (zaft X d 19 30 [l0, l1, l2, l3, l4, l5] S P)) := zq_callS (B := [.int x]) (S2 := S) (zd_of zb_X2_high dX2_high_30) zo_X2_high (by decide) (by decide) (by decide) zl_2_25 zn_21 (by simp only [List.length_cons]; omega) rfl rfl
theorem E_X2_high_33 : AW X d 19 33 [l0, l1, l2, l3, l4, l5] (.int x :: S) st P = zif (S.length ≤ 4) (AC X d 24 [.int x] st (zaft X d 19 33 [l0, l1, l2, l3, l4, l5] S P)) := zq_callS (B := [.int x]) (S2 := S) (zd_of zb_X2_high dX2_high_33) zo_X2_high (by decide) (by decide) (by decide) zl_2_58 zn_24 (by simp only [List.length_cons]; omega) rfl rfl
theorem E_X2_high_36 : AW X d 19 36 [l0, l1, l2, l3, l4, l5] (.int x :: S) st P = AW X d 19 38 [l0, l1, l2, l3, .int x, l5] S st P := zAW_st (zd_of zb_X2_high dX2_high_36) rfl rfl
theorem E_X2_high_38 : AW X d 19 38 [.ref a, l1, l2, l3, l4, l5] S st P = AW X d 19 39 [.ref a, l1, l2, l3, l4, l5] (.ref a :: S) st P := zAW_st (zd_of zb_X2_high dX2_high_38) rfl rfl
theorem E_X2_high_38n : AW X d 19 38 [.null, l1, l2, l3, l4, l5] S st P = AW X d 19 39 [.null, l1, l2, l3, l4, l5] (.null :: S) st P := zAW_st (zd_of zb_X2_high dX2_high_38) rfl rfl
theorem E_X2_high_39 : AW X d 19 39 [l0, l1, l2, l3, l4, l5] (.ref a :: S) st P = zwith (zget st a 3 0) fun v => AW X d 19 42 [l0, l1, l2, l3, l4, l5] (v :: S) st P := zq_getfield (zd_of zb_X2_high dX2_high_39) zo_X2_high zf_2_9
theorem E_X2_high_42 : AW X d 19 42 [l0, l1, l2, .int x, l4, l5] S st P = AW X d 19 43 [l0, l1, l2, .int x, l4, l5] (.int x :: S) st P := zAW_st (zd_of zb_X2_high dX2_high_42) rfl rfl
theorem E_X2_high_43 : AW X d 19 43 [l0, l1, l2, l3, l4, l5] (.int x :: .ref a :: S) st P = zwith (zai X st a) fun q => zwith (zix x q.1) fun j => AW X d 19 44 [l0, l1, l2, l3, l4, l5] (.int (q.2 j) :: S) st P := zq_iaload (zd_of zb_X2_high dX2_high_43)
theorem E_X2_high_44 : AW X d 19 44 [l0, l1, l2, l3, l4, l5] (.int x :: S) st P = zif (S.length ≤ 4) (AC X d 22 [.int x] st (zaft X d 19 44 [l0, l1, l2, l3, l4, l5] S P)) := zq_callS (B := [.int x]) (S2 := S) (zd_of zb_X2_high dX2_high_44) zo_X2_high (by decide) (by decide) (by decide) zl_2_29 zn_22 (by simp only [List.length_cons]; omega) rfl rfl
theorem E_X2_high_47 : AW X d 19 47 [l0, l1, l2, l3, l4, l5] (.int x :: S) st P = zif (S.length ≤ 4) (AC X d 24 [.int x] st (zaft X d 19 47 [l0, l1, l2, l3, l4, l5] S P)) := zq_callS (B := [.int x]) (S2 := S) (zd_of zb_X2_high dX2_high_47) zo_X2_high (by decide) (by decide) (by decide) zl_2_58 zn_24 (by simp only [List.length_cons]; omega) rfl rfl
theorem E_X2_high_50 : AW X d 19 50 [l0, l1, l2, l3, l4, l5] (.int x :: S) st P = AW X d 19 52 [l0, l1, l2, l3, l4, .int x] S st P := zAW_st (zd_of zb_X2_high dX2_high_50) rfl rfl
theorem E_X2_high_52 : AW X d 19 52 [l0, .int x, l2, l3, l4, l5] S st P = AW X d 19 53 [l0, .int x, l2, l3, l4, l5] (.int x :: S) st P := zAW_st (zd_of zb_X2_high dX2_high_52) rfl rfl
theorem E_X2_high_53 : AW X d 19 53 [l0, l1, l2, l3, .int x, l5] S st P = AW X d 19 55 [l0, l1, l2, l3, .int x, l5] (.int x :: S) st P := zAW_st (zd_of zb_X2_high dX2_high_53) rfl rfl
theorem E_X2_high_55 : AW X d 19 55 [l0, l1, l2, l3, l4, .int x] S st P = AW X d 19 57 [l0, l1, l2, l3, l4, .int x] (.int x :: S) st P := zAW_st (zd_of zb_X2_high dX2_high_55) rfl rfl
theorem E_X2_high_57 : AW X d 19 57 [l0, l1, l2, l3, l4, l5] (.int y :: .int x :: S) st P = zif (S.length ≤ 4) (AW X d 19 60 [l0, l1, l2, l3, l4, l5] (.int (if y < x then y else x) :: S) st P) := zq_min (zd_of zb_X2_high dX2_high_57) zo_X2_high (by decide) (by decide) (by decide) (by decide +kernel)
theorem E_X2_high_60 : AW X d 19 60 [l0, l1, l2, l3, l4, l5] (.int y :: .int x :: S) st P = zif (S.length ≤ 4) (AW X d 19 63 [l0, l1, l2, l3, l4, l5] (.int (if y < x then y else x) :: S) st P) := zq_min (zd_of zb_X2_high dX2_high_60) zo_X2_high (by decide) (by decide) (by decide) (by decide +kernel)
theorem E_X2_high_63 : AW X d 19 63 [l0, l1, l2, l3, l4, l5] (.int x :: S) st P = AW X d 19 64 [l0, .int x, l2, l3, l4, l5] S st P := zAW_st (zd_of zb_X2_high dX2_high_63) rfl rfl
theorem E_X2_high_64 : AW X d 19 64 [l0, l1, .int x, l3, l4, l5] S st P = AW X d 19 65 [l0, l1, .int x, l3, l4, l5] (.int x :: S) st P := zAW_st (zd_of zb_X2_high dX2_high_64) rfl rfl
theorem E_X2_high_65 : AW X d 19 65 [l0, l1, l2, l3, .int x, l5] S st P = AW X d 19 67 [l0, l1, l2, l3, .int x, l5] (.int x :: S) st P := zAW_st (zd_of zb_X2_high dX2_high_65) rfl rfl
theorem E_X2_high_67 : AW X d 19 67 [l0, l1, l2, l3, l4, .int x] S st P = AW X d 19 69 [l0, l1, l2, l3, l4, .int x] (.int x :: S) st P := zAW_st (zd_of zb_X2_high dX2_high_67) rfl rfl
theorem E_X2_high_69 : AW X d 19 69 [l0, l1, l2, l3, l4, l5] (.int y :: .int x :: S) st P = zif (S.length ≤ 4) (AW X d 19 72 [l0, l1, l2, l3, l4, l5] (.int (if x < y then y else x) :: S) st P) := zq_max (zd_of zb_X2_high dX2_high_69) zo_X2_high (by decide) (by decide) (by decide) (by decide +kernel)
theorem E_X2_high_72 : AW X d 19 72 [l0, l1, l2, l3, l4, l5] (.int y :: .int x :: S) st P = zif (S.length ≤ 4) (AW X d 19 75 [l0, l1, l2, l3, l4, l5] (.int (if x < y then y else x) :: S) st P) := zq_max (zd_of zb_X2_high dX2_high_72) zo_X2_high (by decide) (by decide) (by decide) (by decide +kernel)
theorem E_X2_high_75 : AW X d 19 75 [l0, l1, l2, l3, l4, l5] (.int x :: S) st P = AW X d 19 76 [l0, l1, .int x, l3, l4, l5] S st P := zAW_st (zd_of zb_X2_high dX2_high_75) rfl rfl
theorem E_X2_high_76 : AW X d 19 76 [l0, l1, l2, .int x, l4, l5] S st P = AW X d 19 79 [l0, l1, l2, .int (x + 1), l4, l5] S st P := zq_iinc (zd_of zb_X2_high dX2_high_76) rfl (by decide)
theorem E_X2_high_79 : AW X d 19 79 [l0, l1, l2, l3, l4, l5] S st P = AW X d 19 7 [l0, l1, l2, l3, l4, l5] S st P := zq_goto (zd_of zb_X2_high dX2_high_79) (by decide)
theorem E_X2_high_82 : AW X d 19 82 [.ref a, l1, l2, l3, l4, l5] S st P = AW X d 19 83 [.ref a, l1, l2, l3, l4, l5] (.ref a :: S) st P := zAW_st (zd_of zb_X2_high dX2_high_82) rfl rfl
theorem E_X2_high_82n : AW X d 19 82 [.null, l1, l2, l3, l4, l5] S st P = AW X d 19 83 [.null, l1, l2, l3, l4, l5] (.null :: S) st P := zAW_st (zd_of zb_X2_high dX2_high_82) rfl rfl
theorem E_X2_high_83 : AW X d 19 83 [l0, l1, l2, l3, l4, l5] (.ref a :: S) st P = zwith (zget st a 3 1) fun v => AW X d 19 86 [l0, l1, l2, l3, l4, l5] (v :: S) st P := zq_getfield (zd_of zb_X2_high dX2_high_83) zo_X2_high zf_2_15
theorem E_X2_high_86 : AW X d 19 86 [l0, l1, l2, l3, l4, l5] (.int x :: S) st P = if ¬ x = 0 then AW X d 19 93 [l0, l1, l2, l3, l4, l5] S st P else AW X d 19 89 [l0, l1, l2, l3, l4, l5] S st P := zq_if (c := ¬ x = 0) (zd_of zb_X2_high dX2_high_86) (by decide) rfl
theorem E_X2_high_89 : AW X d 19 89 [l0, l1, l2, l3, l4, l5] S st P = AW X d 19 90 [l0, l1, l2, l3, l4, l5] (.int 0 :: S) st P := zq_iconst (zd_of zb_X2_high dX2_high_89) (by decide)
theorem E_X2_high_90 : AW X d 19 90 [l0, l1, l2, l3, l4, l5] S st P = AW X d 19 98 [l0, l1, l2, l3, l4, l5] S st P := zq_goto (zd_of zb_X2_high dX2_high_90) (by decide)
theorem E_X2_high_93 : AW X d 19 93 [l0, l1, .int x, l3, l4, l5] S st P = AW X d 19 94 [l0, l1, .int x, l3, l4, l5] (.int x :: S) st P := zAW_st (zd_of zb_X2_high dX2_high_93) rfl rfl
theorem E_X2_high_94 : AW X d 19 94 [l0, .int x, l2, l3, l4, l5] S st P = AW X d 19 95 [l0, .int x, l2, l3, l4, l5] (.int x :: S) st P := zAW_st (zd_of zb_X2_high dX2_high_94) rfl rfl
theorem E_X2_high_95 : AW X d 19 95 [l0, l1, l2, l3, l4, l5] (.int y :: .int x :: S) st P = AW X d 19 96 [l0, l1, l2, l3, l4, l5] (.int (x - y) :: S) st P := zAW_st (zd_of zb_X2_high dX2_high_95) rfl rfl
theorem E_X2_high_96 : AW X d 19 96 [l0, l1, l2, l3, l4, l5] S st P = AW X d 19 97 [l0, l1, l2, l3, l4, l5] (.int 1 :: S) st P := zq_iconst (zd_of zb_X2_high dX2_high_96) (by decide)
theorem E_X2_high_97 : AW X d 19 97 [l0, l1, l2, l3, l4, l5] (.int y :: .int x :: S) st P = AW X d 19 98 [l0, l1, l2, l3, l4, l5] (.int (x + y) :: S) st P := zAW_st (zd_of zb_X2_high dX2_high_97) rfl rfl
theorem E_X2_high_98 : AW X d 19 98 [l0, l1, l2, l3, l4, l5] ([.int x]) st P = P (.inl (some (.int x))) st := zAW_ret (w := (.inl (some (.int x)), st)) (zd_of zb_X2_high dX2_high_98) rfl rfl (by simp only [zfin, zr_X2_high])
theorem A_X2_high : AC X (d + 1) 19 [.ref a] st P = AW X d 19 0 [.ref a, .retAddr 0, .retAddr 0, .retAddr 0, .retAddr 0, .retAddr 0] [] st P := AC_eq ⟨⟨(show 1 ≤ zml 19 by decide +kernel), by decide +kernel⟩, by simp [zc1_int, zc1_ref, zc1_float]⟩
theorem E_X2_sumOfStrokes_0 : AW X d 20 0 [l0, l1, l2] S st P = AW X d 20 1 [l0, l1, l2] (.float FP.fconst0 :: S) st P := zq_fconst (zd_of zb_X2_sumOfStrokes dX2_sumOfStrokes_0)
theorem E_X2_sumOfStrokes_1 : AW X d 20 1 [l0, l1, l2] (.float u :: S) st P = AW X d 20 2 [l0, .float u, l2] S st P := zAW_st (zd_of zb_X2_sumOfStrokes dX2_sumOfStrokes_1) rfl rfl
theorem E_X2_sumOfStrokes_2 : AW X d 20 2 [l0, l1, l2] S st P = AW X d 20 3 [l0, l1, l2] (.int 0 :: S) st P := zq_iconst (zd_of zb_X2_sumOfStrokes dX2_sumOfStrokes_2) (by decide)
theorem E_X2_sumOfStrokes_3 : AW X d 20 3 [l0, l1, l2] (.int x :: S) st P = AW X d 20 4 [l0, l1, .int x] S st P := zAW_st (zd_of zb_X2_sumOfStrokes dX2_sumOfStrokes_3) rfl rfl
theorem E_X2_sumOfStrokes_4 : AW X d 20 4 [l0, l1, .int x] S st P = AW X d 20 5 [l0, l1, .int x] (.int x :: S) st P := zAW_st (zd_of zb_X2_sumOfStrokes dX2_sumOfStrokes_4) rfl rfl
theorem E_X2_sumOfStrokes_5 : AW X d 20 5 [.ref a, l1, l2] S st P = AW X d 20 6 [.ref a, l1, l2] (.ref a :: S) st P := zAW_st (zd_of zb_X2_sumOfStrokes dX2_sumOfStrokes_5) rfl rfl
theorem E_X2_sumOfStrokes_5n : AW X d 20 5 [.null, l1, l2] S st P = AW X d 20 6 [.null, l1, l2] (.null :: S) st P := zAW_st (zd_of zb_X2_sumOfStrokes dX2_sumOfStrokes_5) rfl rfl
theorem E_X2_sumOfStrokes_6 : AW X d 20 6 [l0, l1, l2] (.ref a :: S) st P = zwith (zget st a 3 1) fun v => AW X d 20 9 [l0, l1, l2] (v :: S) st P := zq_getfield (zd_of zb_X2_sumOfStrokes dX2_sumOfStrokes_6) zo_X2_sumOfStrokes zf_2_15
theorem E_X2_sumOfStrokes_9 : AW X d 20 9 [l0, l1, l2] (.int y :: .int x :: S) st P = if y ≤ x then AW X d 20 51 [l0, l1, l2] S st P else AW X d 20 12 [l0, l1, l2] S st P := zq_icmp (c := y ≤ x) (zd_of zb_X2_sumOfStrokes dX2_sumOfStrokes_9) (by decide) rfl
theorem E_X2_sumOfStrokes_12 : AW X d 20 12 [l0, l1, .int x] S st P = AW X d 20 13 [l0, l1, .int x] (.int x :: S) st P := zAW_st (zd_of zb_X2_sumOfStrokes dX2_sumOfStrokes_12) rfl rfl
theorem E_X2_sumOfStrokes_13 : AW X d 20 13 [.ref a, l1, l2] S st P = AW X d 20 14 [.ref a, l1, l2] (.ref a :: S) st P := zAW_st (zd_of zb_X2_sumOfStrokes dX2_sumOfStrokes_13) rfl rfl
theorem E_X2_sumOfStrokes_13n : AW X d 20 13 [.null, l1, l2] S st P = AW X d 20 14 [.null, l1, l2] (.null :: S) st P := zAW_st (zd_of zb_X2_sumOfStrokes dX2_sumOfStrokes_13) rfl rfl
theorem E_X2_sumOfStrokes_14 : AW X d 20 14 [l0, l1, l2] (.ref a :: S) st P = zwith (zget st a 3 0) fun v => AW X d 20 17 [l0, l1, l2] (v :: S) st P := zq_getfield (zd_of zb_X2_sumOfStrokes dX2_sumOfStrokes_14) zo_X2_sumOfStrokes zf_2_9
theorem E_X2_sumOfStrokes_17 : AW X d 20 17 [l0, l1, l2] (.ref a :: S) st P = zwith (zlen X st a) fun n => AW X d 20 18 [l0, l1, l2] (.int (Int32.ofNat n) :: S) st P := zq_alen (zd_of zb_X2_sumOfStrokes dX2_sumOfStrokes_17)
theorem E_X2_sumOfStrokes_18 : AW X d 20 18 [l0, l1, l2] (.int y :: .int x :: S) st P = if y ≤ x then AW X d 20 51 [l0, l1, l2] S st P else AW X d 20 21 [l0, l1, l2] S st P := zq_icmp (c := y ≤ x) (zd_of zb_X2_sumOfStrokes dX2_sumOfStrokes_18) (by decide) rfl
theorem E_X2_sumOfStrokes_21 : AW X d 20 21 [l0, .float u, l2] S st P = AW X d 20 22 [l0, .float u, l2] (.float u :: S) st P := zAW_st (zd_of zb_X2_sumOfStrokes dX2_sumOfStrokes_21) rfl rfl
theorem E_X2_sumOfStrokes_22 : AW X d 20 22 [.ref a, l1, l2] S st P = AW X d 20 23 [.ref a, l1, l2] (.ref a :: S) st P := zAW_st (zd_of zb_X2_sumOfStrokes dX2_sumOfStrokes_22) rfl rfl
theorem E_X2_sumOfStrokes_22n : AW X d 20 22 [.null, l1, l2] S st P = AW X d 20 23 [.null, l1, l2] (.null :: S) st P := zAW_st (zd_of zb_X2_sumOfStrokes dX2_sumOfStrokes_22) rfl rfl
theorem E_X2_sumOfStrokes_23 : AW X d 20 23 [l0, l1, l2] (.ref a :: S) st P = zwith (zget st a 3 0) fun v => AW X d 20 26 [l0, l1, l2] (v :: S) st P := zq_getfield (zd_of zb_X2_sumOfStrokes dX2_sumOfStrokes_23) zo_X2_sumOfStrokes zf_2_9
theorem E_X2_sumOfStrokes_26 : AW X d 20 26 [l0, l1, .int x] S st P = AW X d 20 27 [l0, l1, .int x] (.int x :: S) st P := zAW_st (zd_of zb_X2_sumOfStrokes dX2_sumOfStrokes_26) rfl rfl
theorem E_X2_sumOfStrokes_27 : AW X d 20 27 [l0, l1, l2] (.int x :: .ref a :: S) st P = zwith (zai X st a) fun q => zwith (zix x q.1) fun j => AW X d 20 28 [l0, l1, l2] (.int (q.2 j) :: S) st P := zq_iaload (zd_of zb_X2_sumOfStrokes dX2_sumOfStrokes_27)
theorem E_X2_sumOfStrokes_28 : AW X d 20 28 [l0, l1, l2] (.int x :: S) st P = zif (S.length ≤ 4) (AC X d 21 [.int x] st (zaft X d 20 28 [l0, l1, l2] S P)) := zq_callS (B := [.int x]) (S2 := S) (zd_of zb_X2_sumOfStrokes dX2_sumOfStrokes_28) zo_X2_sumOfStrokes (by decide) (by decide) (by decide) zl_2_25 zn_21 (by simp only [List.length_cons]; omega) rfl rfl
theorem E_X2_sumOfStrokes_31 : AW X d 20 31 [.ref a, l1, l2] S st P = AW X d 20 32 [.ref a, l1, l2] (.ref a :: S) st P := zAW_st (zd_of zb_X2_sumOfStrokes dX2_sumOfStrokes_31) rfl rfl
theorem E_X2_sumOfStrokes_31n : AW X d 20 31 [.null, l1, l2] S st P = AW X d 20 32 [.null, l1, l2] (.null :: S) st P := zAW_st (zd_of zb_X2_sumOfStrokes dX2_sumOfStrokes_31) rfl rfl
theorem E_X2_sumOfStrokes_32 : AW X d 20 32 [l0, l1, l2] (.ref a :: S) st P = zwith (zget st a 3 0) fun v => AW X d 20 35 [l0, l1, l2] (v :: S) st P := zq_getfield (zd_of zb_X2_sumOfStrokes dX2_sumOfStrokes_32) zo_X2_sumOfStrokes zf_2_9
theorem E_X2_sumOfStrokes_35 : AW X d 20 35 [l0, l1, .int x] S st P = AW X d 20 36 [l0, l1, .int x] (.int x :: S) st P := zAW_st (zd_of zb_X2_sumOfStrokes dX2_sumOfStrokes_35) rfl rfl
theorem E_X2_sumOfStrokes_36 : AW X d 20 36 [l0, l1, l2] (.int x :: .ref a :: S) st P = zwith (zai X st a) fun q => zwith (zix x q.1) fun j => AW X d 20 37 [l0, l1, l2] (.int (q.2 j) :: S) st P := zq_iaload (zd_of zb_X2_sumOfStrokes dX2_sumOfStrokes_36)
theorem E_X2_sumOfStrokes_37 : AW X d 20 37 [l0, l1, l2] (.int x :: S) st P = zif (S.length ≤ 4) (AC X d 22 [.int x] st (zaft X d 20 37 [l0, l1, l2] S P)) := zq_callS (B := [.int x]) (S2 := S) (zd_of zb_X2_sumOfStrokes dX2_sumOfStrokes_37) zo_X2_sumOfStrokes (by decide) (by decide) (by decide) zl_2_29 zn_22 (by simp only [List.length_cons]; omega) rfl rfl
theorem E_X2_sumOfStrokes_40 : AW X d 20 40 [l0, l1, l2] (.int y :: .int x :: S) st P = zif (S.length ≤ 4) (AC X d 25 [.int x, .int y] st (zaft X d 20 40 [l0, l1, l2] S P)) := zq_callS (B := [.int x, .int y]) (S2 := S) (zd_of zb_X2_sumOfStrokes dX2_sumOfStrokes_40) zo_X2_sumOfStrokes (by decide) (by decide) (by decide) zl_2_61 zn_25 (by simp only [List.length_cons]; omega) rfl rfl
theorem E_X2_sumOfStrokes_43 : AW X d 20 43 [l0, l1, l2] (.float u2 :: .float u :: S) st P = zif (zn32 (FP.fadd u u2) = true) (AW X d 20 44 [l0, l1, l2] (.float (FP.fadd u u2) :: S) st P) := zq_fadd (zd_of zb_X2_sumOfStrokes dX2_sumOfStrokes_43)
theorem E_X2_sumOfStrokes_44 : AW X d 20 44 [l0, l1, l2] (.float u :: S) st P = AW X d 20 45 [l0, .float u, l2] S st P := zAW_st (zd_of zb_X2_sumOfStrokes dX2_sumOfStrokes_44) rfl rfl
theorem E_X2_sumOfStrokes_45 : AW X d 20 45 [l0, l1, .int x] S st P = AW X d 20 48 [l0, l1, .int (x + 1)] S st P := zq_iinc (zd_of zb_X2_sumOfStrokes dX2_sumOfStrokes_45) rfl (by decide)
theorem E_X2_sumOfStrokes_48 : AW X d 20 48 [l0, l1, l2] S st P = AW X d 20 4 [l0, l1, l2] S st P := zq_goto (zd_of zb_X2_sumOfStrokes dX2_sumOfStrokes_48) (by decide)
theorem E_X2_sumOfStrokes_51 : AW X d 20 51 [l0, .float u, l2] S st P = AW X d 20 52 [l0, .float u, l2] (.float u :: S) st P := zAW_st (zd_of zb_X2_sumOfStrokes dX2_sumOfStrokes_51) rfl rfl
theorem E_X2_sumOfStrokes_52 : AW X d 20 52 [l0, l1, l2] ([.float u]) st P = P (.inl (some (.float u))) st := zAW_ret (w := (.inl (some (.float u)), st)) (zd_of zb_X2_sumOfStrokes dX2_sumOfStrokes_52) rfl rfl (by simp only [zfin, zr_X2_sumOfStrokes])
theorem A_X2_sumOfStrokes : AC X (d + 1) 20 [.ref a] st P = AW X d 20 0 [.ref a, .retAddr 0, .retAddr 0] [] st P := AC_eq ⟨⟨(show 1 ≤ zml 20 by decide +kernel), by decide +kernel⟩, by simp [zc1_int, zc1_ref, zc1_float]⟩
theorem E_X2_fromOf_0 : AW X d 21 0 [.int x] S st P = AW X d 21 1 [.int x] (.int x :: S) st P := zAW_st (zd_of zb_X2_fromOf dX2_fromOf_0) rfl rfl
theorem E_X2_fromOf_1 : AW X d 21 1 [l0] S st P = AW X d 21 4 [l0] (.int 1024 :: S) st P := zq_sipush (zd_of zb_X2_fromOf dX2_fromOf_1) (by decide)
theorem E_X2_fromOf_4 : AW X d 21 4 [l0] (.int y :: .int x :: S) st P = zif (¬ y = 0) (AW X d 21 5 [l0] (.int (x / y) :: S) st P) := zq_idiv (zd_of zb_X2_fromOf dX2_fromOf_4)
theorem E_X2_fromOf_5 : AW X d 21 5 [l0] ([.int x]) st P = P (.inl (some (.int x))) st := zAW_ret (w := (.inl (some (.int x)), st)) (zd_of zb_X2_fromOf dX2_fromOf_5) rfl rfl (by simp only [zfin, zr_X2_fromOf])
theorem A_X2_fromOf : AC X (d + 1) 21 [.int x] st P = AW X d 21 0 [.int x] [] st P := AC_eq ⟨⟨(show 1 ≤ zml 21 by decide +kernel), by decide +kernel⟩, by simp [zc1_int, zc1_ref, zc1_float]⟩
theorem E_X2_toOf_0 : AW X d 22 0 [.int x] S st P = AW X d 22 1 [.int x] (.int x :: S) st P := zAW_st (zd_of zb_X2_toOf dX2_toOf_0) rfl rfl
theorem E_X2_toOf_1 : AW X d 22 1 [l0] S st P = AW X d 22 4 [l0] (.int 1024 :: S) st P := zq_sipush (zd_of zb_X2_toOf dX2_toOf_1) (by decide)
theorem E_X2_toOf_4 : AW X d 22 4 [l0] (.int y :: .int x :: S) st P = zif (¬ y = 0) (AW X d 22 5 [l0] (.int (x - x / y * y) :: S) st P) := zq_irem (zd_of zb_X2_toOf dX2_toOf_4)
theorem E_X2_toOf_5 : AW X d 22 5 [l0] ([.int x]) st P = P (.inl (some (.int x))) st := zAW_ret (w := (.inl (some (.int x)), st)) (zd_of zb_X2_toOf dX2_toOf_5) rfl rfl (by simp only [zfin, zr_X2_toOf])
theorem A_X2_toOf : AC X (d + 1) 22 [.int x] st P = AW X d 22 0 [.int x] [] st P := AC_eq ⟨⟨(show 1 ≤ zml 22 by decide +kernel), by decide +kernel⟩, by simp [zc1_int, zc1_ref, zc1_float]⟩
theorem E_X2_xOf_0 : AW X d 23 0 [.int x] S st P = AW X d 23 1 [.int x] (.int x :: S) st P := zAW_st (zd_of zb_X2_xOf dX2_xOf_0) rfl rfl
theorem E_X2_xOf_1 : AW X d 23 1 [l0] S st P = AW X d 23 3 [l0] (.int 32 :: S) st P := zq_bipush (zd_of zb_X2_xOf dX2_xOf_1) (by decide)
theorem E_X2_xOf_3 : AW X d 23 3 [l0] (.int y :: .int x :: S) st P = zif (¬ y = 0) (AW X d 23 4 [l0] (.int (x - x / y * y) :: S) st P) := zq_irem (zd_of zb_X2_xOf dX2_xOf_3)
theorem E_X2_xOf_4 : AW X d 23 4 [l0] ([.int x]) st P = P (.inl (some (.int x))) st := zAW_ret (w := (.inl (some (.int x)), st)) (zd_of zb_X2_xOf dX2_xOf_4) rfl rfl (by simp only [zfin, zr_X2_xOf])
theorem A_X2_xOf : AC X (d + 1) 23 [.int x] st P = AW X d 23 0 [.int x] [] st P := AC_eq ⟨⟨(show 1 ≤ zml 23 by decide +kernel), by decide +kernel⟩, by simp [zc1_int, zc1_ref, zc1_float]⟩
theorem E_X2_yOf_0 : AW X d 24 0 [.int x] S st P = AW X d 24 1 [.int x] (.int x :: S) st P := zAW_st (zd_of zb_X2_yOf dX2_yOf_0) rfl rfl
theorem E_X2_yOf_1 : AW X d 24 1 [l0] S st P = AW X d 24 3 [l0] (.int 32 :: S) st P := zq_bipush (zd_of zb_X2_yOf dX2_yOf_1) (by decide)
theorem E_X2_yOf_3 : AW X d 24 3 [l0] (.int y :: .int x :: S) st P = zif (¬ y = 0) (AW X d 24 4 [l0] (.int (x / y) :: S) st P) := zq_idiv (zd_of zb_X2_yOf dX2_yOf_3)
theorem E_X2_yOf_4 : AW X d 24 4 [l0] ([.int x]) st P = P (.inl (some (.int x))) st := zAW_ret (w := (.inl (some (.int x)), st)) (zd_of zb_X2_yOf dX2_yOf_4) rfl rfl (by simp only [zfin, zr_X2_yOf])
theorem A_X2_yOf : AC X (d + 1) 24 [.int x] st P = AW X d 24 0 [.int x] [] st P := AC_eq ⟨⟨(show 1 ≤ zml 24 by decide +kernel), by decide +kernel⟩, by simp [zc1_int, zc1_ref, zc1_float]⟩
theorem E_X2_distance_0 : AW X d 25 0 [.int x, l1, l2, l3] S st P = AW X d 25 1 [.int x, l1, l2, l3] (.int x :: S) st P := zAW_st (zd_of zb_X2_distance dX2_distance_0) rfl rfl
theorem E_X2_distance_1 : AW X d 25 1 [l0, l1, l2, l3] (.int x :: S) st P = zif (S.length ≤ 4) (AC X d 23 [.int x] st (zaft X d 25 1 [l0, l1, l2, l3] S P)) := zq_callS (B := [.int x]) (S2 := S) (zd_of zb_X2_distance dX2_distance_1) zo_X2_distance (by decide) (by decide) (by decide) zl_2_52 zn_23 (by simp only [List.length_cons]; omega) rfl rfl
theorem E_X2_distance_4 : AW X d 25 4 [l0, .int x, l2, l3] S st P = AW X d 25 5 [l0, .int x, l2, l3] (.int x :: S) st P := zAW_st (zd_of zb_X2_distance dX2_distance_4) rfl rfl
theorem E_X2_distance_5 : AW X d 25 5 [l0, l1, l2, l3] (.int x :: S) st P = zif (S.length ≤ 4) (AC X d 23 [.int x] st (zaft X d 25 5 [l0, l1, l2, l3] S P)) := zq_callS (B := [.int x]) (S2 := S) (zd_of zb_X2_distance dX2_distance_5) zo_X2_distance (by decide) (by decide) (by decide) zl_2_52 zn_23 (by simp only [List.length_cons]; omega) rfl rfl
theorem E_X2_distance_8 : AW X d 25 8 [l0, l1, l2, l3] (.int y :: .int x :: S) st P = AW X d 25 9 [l0, l1, l2, l3] (.int (x - y) :: S) st P := zAW_st (zd_of zb_X2_distance dX2_distance_8) rfl rfl
theorem E_X2_distance_9 : AW X d 25 9 [l0, l1, l2, l3] (.int x :: S) st P = AW X d 25 10 [l0, l1, .int x, l3] S st P := zAW_st (zd_of zb_X2_distance dX2_distance_9) rfl rfl
theorem E_X2_distance_10 : AW X d 25 10 [.int x, l1, l2, l3] S st P = AW X d 25 11 [.int x, l1, l2, l3] (.int x :: S) st P := zAW_st (zd_of zb_X2_distance dX2_distance_10) rfl rfl
theorem E_X2_distance_11 : AW X d 25 11 [l0, l1, l2, l3] (.int x :: S) st P = zif (S.length ≤ 4) (AC X d 24 [.int x] st (zaft X d 25 11 [l0, l1, l2, l3] S P)) := zq_callS (B := [.int x]) (S2 := S) (zd_of zb_X2_distance dX2_distance_11) zo_X2_distance (by decide) (by decide) (by decide) zl_2_58 zn_24 (by simp only [List.length_cons]; omega) rfl rfl
theorem E_X2_distance_14 : AW X d 25 14 [l0, .int x, l2, l3] S st P = AW X d 25 15 [l0, .int x, l2, l3] (.int x :: S) st P := zAW_st (zd_of zb_X2_distance dX2_distance_14) rfl rfl
theorem E_X2_distance_15 : AW X d 25 15 [l0, l1, l2, l3] (.int x :: S) st P = zif (S.length ≤ 4) (AC X d 24 [.int x] st (zaft X d 25 15 [l0, l1, l2, l3] S P)) := zq_callS (B := [.int x]) (S2 := S) (zd_of zb_X2_distance dX2_distance_15) zo_X2_distance (by decide) (by decide) (by decide) zl_2_58 zn_24 (by simp only [List.length_cons]; omega) rfl rfl
theorem E_X2_distance_18 : AW X d 25 18 [l0, l1, l2, l3] (.int y :: .int x :: S) st P = AW X d 25 19 [l0, l1, l2, l3] (.int (x - y) :: S) st P := zAW_st (zd_of zb_X2_distance dX2_distance_18) rfl rfl
theorem E_X2_distance_19 : AW X d 25 19 [l0, l1, l2, l3] (.int x :: S) st P = AW X d 25 20 [l0, l1, l2, .int x] S st P := zAW_st (zd_of zb_X2_distance dX2_distance_19) rfl rfl
theorem E_X2_distance_20 : AW X d 25 20 [l0, l1, .int x, l3] S st P = AW X d 25 21 [l0, l1, .int x, l3] (.int x :: S) st P := zAW_st (zd_of zb_X2_distance dX2_distance_20) rfl rfl
theorem E_X2_distance_21 : AW X d 25 21 [l0, l1, .int x, l3] S st P = AW X d 25 22 [l0, l1, .int x, l3] (.int x :: S) st P := zAW_st (zd_of zb_X2_distance dX2_distance_21) rfl rfl
theorem E_X2_distance_22 : AW X d 25 22 [l0, l1, l2, l3] (.int y :: .int x :: S) st P = AW X d 25 23 [l0, l1, l2, l3] (.int (x * y) :: S) st P := zAW_st (zd_of zb_X2_distance dX2_distance_22) rfl rfl
theorem E_X2_distance_23 : AW X d 25 23 [l0, l1, l2, .int x] S st P = AW X d 25 24 [l0, l1, l2, .int x] (.int x :: S) st P := zAW_st (zd_of zb_X2_distance dX2_distance_23) rfl rfl
theorem E_X2_distance_24 : AW X d 25 24 [l0, l1, l2, .int x] S st P = AW X d 25 25 [l0, l1, l2, .int x] (.int x :: S) st P := zAW_st (zd_of zb_X2_distance dX2_distance_24) rfl rfl
theorem E_X2_distance_25 : AW X d 25 25 [l0, l1, l2, l3] (.int y :: .int x :: S) st P = AW X d 25 26 [l0, l1, l2, l3] (.int (x * y) :: S) st P := zAW_st (zd_of zb_X2_distance dX2_distance_25) rfl rfl
theorem E_X2_distance_26 : AW X d 25 26 [l0, l1, l2, l3] (.int y :: .int x :: S) st P = AW X d 25 27 [l0, l1, l2, l3] (.int (x + y) :: S) st P := zAW_st (zd_of zb_X2_distance dX2_distance_26) rfl rfl
theorem E_X2_distance_27 : AW X d 25 27 [l0, l1, l2, l3] (.int x :: S) st P = zif (S.length ≤ 4) (AC X d 26 [.int x] st (zaft X d 25 27 [l0, l1, l2, l3] S P)) := zq_callS (B := [.int x]) (S2 := S) (zd_of zb_X2_distance dX2_distance_27) zo_X2_distance (by decide) (by decide) (by decide) zl_2_65 zn_26 (by simp only [List.length_cons]; omega) rfl rfl
theorem E_X2_distance_30 : AW X d 25 30 [l0, l1, l2, l3] (.double w :: S) st P = zif (zn32 (FP.d2f w) = true) (AW X d 25 31 [l0, l1, l2, l3] (.float (FP.d2f w) :: S) st P) := zq_d2f (zd_of zb_X2_distance dX2_distance_30)
theorem E_X2_distance_31 : AW X d 25 31 [l0, l1, l2, l3] ([.float u]) st P = P (.inl (some (.float u))) st := zAW_ret (w := (.inl (some (.float u)), st)) (zd_of zb_X2_distance dX2_distance_31) rfl rfl (by simp only [zfin, zr_X2_distance])
theorem A_X2_distance : AC X (d + 1) 25 [.int x, .int y] st P = AW X d 25 0 [.int x, .int y, .retAddr 0, .retAddr 0] [] st P := AC_eq ⟨⟨(show 2 ≤ zml 25 by decide +kernel), by decide +kernel⟩, by simp [zc1_int, zc1_ref, zc1_float]⟩
theorem E_X2_root_0 : AW X d 26 0 [.int x, l1, l2, l3] S st P = AW X d 26 1 [.int x, l1, l2, l3] (.int x :: S) st P := zAW_st (zd_of zb_X2_root dX2_root_0) rfl rfl
theorem E_X2_root_1 : AW X d 26 1 [l0, l1, l2, l3] (.int x :: S) st P = if 0 < x then AW X d 26 6 [l0, l1, l2, l3] S st P else AW X d 26 4 [l0, l1, l2, l3] S st P := zq_if (c := 0 < x) (zd_of zb_X2_root dX2_root_1) (by decide) rfl
theorem E_X2_root_4 : AW X d 26 4 [l0, l1, l2, l3] S st P = AW X d 26 5 [l0, l1, l2, l3] (.double FP.dconst0 :: S) st P := zq_dconst (zd_of zb_X2_root dX2_root_4)
theorem E_X2_root_5 : AW X d 26 5 [l0, l1, l2, l3] ([.double w]) st P = P (.inl (some (.double w))) st := zAW_ret (w := (.inl (some (.double w)), st)) (zd_of zb_X2_root dX2_root_5) rfl rfl (by simp only [zfin, zr_X2_root])
theorem E_X2_root_6 : AW X d 26 6 [.int x, l1, l2, l3] S st P = AW X d 26 7 [.int x, l1, l2, l3] (.int x :: S) st P := zAW_st (zd_of zb_X2_root dX2_root_6) rfl rfl
theorem E_X2_root_7 : AW X d 26 7 [l0, l1, l2, l3] (.int x :: S) st P = AW X d 26 8 [l0, l1, l2, l3] (.double (FP.i2d x) :: S) st P := zAW_st (zd_of zb_X2_root dX2_root_7) rfl rfl
theorem E_X2_root_8 : AW X d 26 8 [l0, l1, l2, l3] (.double w :: S) st P = AW X d 26 9 [l0, .double w, .retAddr 1, l3] S st P := zAW_st (zd_of zb_X2_root dX2_root_8) rfl rfl
theorem E_X2_root_9 : AW X d 26 9 [l0, l1, l2, l3] S st P = AW X d 26 10 [l0, l1, l2, l3] (.int 0 :: S) st P := zq_iconst (zd_of zb_X2_root dX2_root_9) (by decide)
theorem E_X2_root_10 : AW X d 26 10 [l0, l1, l2, l3] (.int x :: S) st P = AW X d 26 11 [l0, l1, l2, .int x] S st P := zAW_st (zd_of zb_X2_root dX2_root_10) rfl rfl
theorem E_X2_root_11 : AW X d 26 11 [l0, l1, l2, .int x] S st P = AW X d 26 12 [l0, l1, l2, .int x] (.int x :: S) st P := zAW_st (zd_of zb_X2_root dX2_root_11) rfl rfl
theorem E_X2_root_12 : AW X d 26 12 [l0, l1, l2, l3] S st P = AW X d 26 14 [l0, l1, l2, l3] (.int 16 :: S) st P := zq_bipush (zd_of zb_X2_root dX2_root_12) (by decide)
theorem E_X2_root_14 : AW X d 26 14 [l0, l1, l2, l3] (.int y :: .int x :: S) st P = if y ≤ x then AW X d 26 40 [l0, l1, l2, l3] S st P else AW X d 26 17 [l0, l1, l2, l3] S st P := zq_icmp (c := y ≤ x) (zd_of zb_X2_root dX2_root_14) (by decide) rfl
theorem E_X2_root_17 : AW X d 26 17 [l0, .double w, .retAddr 1, l3] S st P = AW X d 26 18 [l0, .double w, .retAddr 1, l3] (.double w :: S) st P := zAW_st (zd_of zb_X2_root dX2_root_17) rfl rfl
theorem E_X2_root_18 : AW X d 26 18 [l0, l1, l2, l3] S st P = AW X d 26 19 [l0, l1, l2, l3] (.double FP.dconst0 :: S) st P := zq_dconst (zd_of zb_X2_root dX2_root_18)
theorem E_X2_root_19 : AW X d 26 19 [l0, l1, l2, l3] (.double w2 :: .double w :: S) st P = AW X d 26 20 [l0, l1, l2, l3] (.int (Op.cmpValue (FP.dcmp w w2) .l) :: S) st P := zAW_st (zd_of zb_X2_root dX2_root_19) rfl rfl
theorem E_X2_root_20 : AW X d 26 20 [l0, l1, l2, l3] (.int x :: S) st P = if x ≤ 0 then AW X d 26 40 [l0, l1, l2, l3] S st P else AW X d 26 23 [l0, l1, l2, l3] S st P := zq_if (c := x ≤ 0) (zd_of zb_X2_root dX2_root_20) (by decide) rfl
theorem E_X2_root_23 : AW X d 26 23 [l0, .double w, .retAddr 1, l3] S st P = AW X d 26 24 [l0, .double w, .retAddr 1, l3] (.double w :: S) st P := zAW_st (zd_of zb_X2_root dX2_root_23) rfl rfl
theorem E_X2_root_24 : AW X d 26 24 [.int x, l1, l2, l3] S st P = AW X d 26 25 [.int x, l1, l2, l3] (.int x :: S) st P := zAW_st (zd_of zb_X2_root dX2_root_24) rfl rfl
theorem E_X2_root_25 : AW X d 26 25 [l0, l1, l2, l3] (.int x :: S) st P = AW X d 26 26 [l0, l1, l2, l3] (.double (FP.i2d x) :: S) st P := zAW_st (zd_of zb_X2_root dX2_root_25) rfl rfl
theorem E_X2_root_26 : AW X d 26 26 [l0, .double w, .retAddr 1, l3] S st P = AW X d 26 27 [l0, .double w, .retAddr 1, l3] (.double w :: S) st P := zAW_st (zd_of zb_X2_root dX2_root_26) rfl rfl
theorem E_X2_root_27 : AW X d 26 27 [l0, l1, l2, l3] (.double w2 :: .double w :: S) st P = zif (zn64 (FP.ddiv w w2) = true) (AW X d 26 28 [l0, l1, l2, l3] (.double (FP.ddiv w w2) :: S) st P) := zq_ddiv (zd_of zb_X2_root dX2_root_27)
theorem E_X2_root_28 : AW X d 26 28 [l0, l1, l2, l3] (.double w2 :: .double w :: S) st P = zif (zn64 (FP.dadd w w2) = true) (AW X d 26 29 [l0, l1, l2, l3] (.double (FP.dadd w w2) :: S) st P) := zq_dadd (zd_of zb_X2_root dX2_root_28)
theorem E_X2_root_29 : AW X d 26 29 [l0, l1, l2, l3] S st P = AW X d 26 32 [l0, l1, l2, l3] (.double 4611686018427387904 :: S) st P := zq_ldc2 (zd_of zb_X2_root dX2_root_29) zo_X2_root (by decide +kernel) rfl
theorem E_X2_root_32 : AW X d 26 32 [l0, l1, l2, l3] (.double w2 :: .double w :: S) st P = zif (zn64 (FP.ddiv w w2) = true) (AW X d 26 33 [l0, l1, l2, l3] (.double (FP.ddiv w w2) :: S) st P) := zq_ddiv (zd_of zb_X2_root dX2_root_32)
theorem E_X2_root_33 : AW X d 26 33 [l0, l1, l2, l3] (.double w :: S) st P = AW X d 26 34 [l0, .double w, .retAddr 1, l3] S st P := zAW_st (zd_of zb_X2_root dX2_root_33) rfl rfl
theorem E_X2_root_34 : AW X d 26 34 [l0, l1, l2, .int x] S st P = AW X d 26 37 [l0, l1, l2, .int (x + 1)] S st P := zq_iinc (zd_of zb_X2_root dX2_root_34) rfl (by decide)
theorem E_X2_root_37 : AW X d 26 37 [l0, l1, l2, l3] S st P = AW X d 26 11 [l0, l1, l2, l3] S st P := zq_goto (zd_of zb_X2_root dX2_root_37) (by decide)
theorem E_X2_root_40 : AW X d 26 40 [l0, .double w, .retAddr 1, l3] S st P = AW X d 26 41 [l0, .double w, .retAddr 1, l3] (.double w :: S) st P := zAW_st (zd_of zb_X2_root dX2_root_40) rfl rfl
theorem E_X2_root_41 : AW X d 26 41 [l0, l1, l2, l3] ([.double w]) st P = P (.inl (some (.double w))) st := zAW_ret (w := (.inl (some (.double w)), st)) (zd_of zb_X2_root dX2_root_41) rfl rfl (by simp only [zfin, zr_X2_root])
theorem A_X2_root : AC X (d + 1) 26 [.int x] st P = AW X d 26 0 [.int x, .retAddr 0, .retAddr 0, .retAddr 0] [] st P := AC_eq ⟨⟨(show 1 ≤ zml 26 by decide +kernel), by decide +kernel⟩, by simp [zc1_int, zc1_ref, zc1_float]⟩
theorem E_X3_init_0 : AW X d 27 0 [.ref a, l1] S st P = AW X d 27 1 [.ref a, l1] (.ref a :: S) st P := zAW_st (zd_of zb_X3_init dX3_init_0) rfl rfl
theorem E_X3_init_0n : AW X d 27 0 [.null, l1] S st P = AW X d 27 1 [.null, l1] (.null :: S) st P := zAW_st (zd_of zb_X3_init dX3_init_0) rfl rfl
theorem E_X3_init_1 : AW X d 27 1 [l0, l1] (.ref a :: S) st P = zif (S.length ≤ 4) (AW X d 27 4 [l0, l1] S st P) := zq_obj (zd_of zb_X3_init dX3_init_1) zo_X3_init (by decide) (by decide +kernel)
theorem E_X3_init_4 : AW X d 27 4 [.ref a, l1] S st P = AW X d 27 5 [.ref a, l1] (.ref a :: S) st P := zAW_st (zd_of zb_X3_init dX3_init_4) rfl rfl
theorem E_X3_init_4n : AW X d 27 4 [.null, l1] S st P = AW X d 27 5 [.null, l1] (.null :: S) st P := zAW_st (zd_of zb_X3_init dX3_init_4) rfl rfl
theorem E_X3_init_5 : AW X d 27 5 [l0, .int x] S st P = AW X d 27 6 [l0, .int x] (.int x :: S) st P := zAW_st (zd_of zb_X3_init dX3_init_5) rfl rfl
theorem E_X3_init_6 : AW X d 27 6 [l0, l1] (.int x :: .ref a :: S) st P = zwith (zget st a 4 0) fun _ => AW X d 27 9 [l0, l1] S (zput st a 0 (.int x)) P := zq_putfield (zd_of zb_X3_init dX3_init_6) zo_X3_init zf_3_7 rfl (Or.inr (by decide +kernel))
theorem E_X3_init_9 : AW X d 27 9 [l0, l1] [] st P = P (.inl none) st := zAW_ret (w := (.inl none, st)) (zd_of zb_X3_init dX3_init_9) rfl rfl (by simp only [zfin, zr_X3_init])
theorem A_X3_init : AC X (d + 1) 27 [.ref a, .int x] st P = AW X d 27 0 [.ref a, .int x] [] st P := AC_eq ⟨⟨(show 2 ≤ zml 27 by decide +kernel), by decide +kernel⟩, by simp [zc1_int, zc1_ref, zc1_float]⟩
theorem E_X3_begin_0 : AW X d 28 0 [.ref a, l1, l2, l3, l4, l5, l6] S st P = AW X d 28 1 [.ref a, l1, l2, l3, l4, l5, l6] (.ref a :: S) st P := zAW_st (zd_of zb_X3_begin dX3_begin_0) rfl rfl
theorem E_X3_begin_0n : AW X d 28 0 [.null, l1, l2, l3, l4, l5, l6] S st P = AW X d 28 1 [.null, l1, l2, l3, l4, l5, l6] (.null :: S) st P := zAW_st (zd_of zb_X3_begin dX3_begin_0) rfl rfl
theorem E_X3_begin_1 : AW X d 28 1 [l0, .ref a, l2, l3, l4, l5, l6] S st P = AW X d 28 2 [l0, .ref a, l2, l3, l4, l5, l6] (.ref a :: S) st P := zAW_st (zd_of zb_X3_begin dX3_begin_1) rfl rfl
theorem E_X3_begin_1n : AW X d 28 1 [l0, .null, l2, l3, l4, l5, l6] S st P = AW X d 28 2 [l0, .null, l2, l3, l4, l5, l6] (.null :: S) st P := zAW_st (zd_of zb_X3_begin dX3_begin_1) rfl rfl
theorem E_X3_begin_2 : AW X d 28 2 [l0, l1, l2, l3, l4, l5, l6] (.ref b :: .ref a :: S) st P = zwith (zget st a 4 7) fun _ => AW X d 28 5 [l0, l1, l2, l3, l4, l5, l6] S (zput st a 7 (.ref b)) P := zq_putfield (zd_of zb_X3_begin dX3_begin_2) zo_X3_begin zf_3_13 rfl (Or.inl (by decide +kernel))
theorem E_X3_begin_2n : AW X d 28 2 [l0, l1, l2, l3, l4, l5, l6] (.null :: .ref a :: S) st P = zwith (zget st a 4 7) fun _ => AW X d 28 5 [l0, l1, l2, l3, l4, l5, l6] S (zput st a 7 (.null)) P := zq_putfield (zd_of zb_X3_begin dX3_begin_2) zo_X3_begin zf_3_13 rfl (Or.inl (by decide +kernel))
theorem E_X3_begin_5 : AW X d 28 5 [.ref a, l1, l2, l3, l4, l5, l6] S st P = AW X d 28 6 [.ref a, l1, l2, l3, l4, l5, l6] (.ref a :: S) st P := zAW_st (zd_of zb_X3_begin dX3_begin_5) rfl rfl
theorem E_X3_begin_5n : AW X d 28 5 [.null, l1, l2, l3, l4, l5, l6] S st P = AW X d 28 6 [.null, l1, l2, l3, l4, l5, l6] (.null :: S) st P := zAW_st (zd_of zb_X3_begin dX3_begin_5) rfl rfl
theorem E_X3_begin_6 : AW X d 28 6 [l0, l1, .int x, l3, l4, l5, l6] S st P = AW X d 28 7 [l0, l1, .int x, l3, l4, l5, l6] (.int x :: S) st P := zAW_st (zd_of zb_X3_begin dX3_begin_6) rfl rfl
theorem E_X3_begin_7 : AW X d 28 7 [l0, l1, l2, l3, l4, l5, l6] (.int x :: .ref a :: S) st P = zwith (zget st a 4 1) fun _ => AW X d 28 10 [l0, l1, l2, l3, l4, l5, l6] S (zput st a 1 (.int x)) P := zq_putfield (zd_of zb_X3_begin dX3_begin_7) zo_X3_begin zf_3_17 rfl (Or.inl (by decide +kernel))
theorem E_X3_begin_10 : AW X d 28 10 [.ref a, l1, l2, l3, l4, l5, l6] S st P = AW X d 28 11 [.ref a, l1, l2, l3, l4, l5, l6] (.ref a :: S) st P := zAW_st (zd_of zb_X3_begin dX3_begin_10) rfl rfl
theorem E_X3_begin_10n : AW X d 28 10 [.null, l1, l2, l3, l4, l5, l6] S st P = AW X d 28 11 [.null, l1, l2, l3, l4, l5, l6] (.null :: S) st P := zAW_st (zd_of zb_X3_begin dX3_begin_10) rfl rfl
theorem E_X3_begin_11 : AW X d 28 11 [l0, l1, l2, .int x, l4, l5, l6] S st P = AW X d 28 12 [l0, l1, l2, .int x, l4, l5, l6] (.int x :: S) st P := zAW_st (zd_of zb_X3_begin dX3_begin_11) rfl rfl
theorem E_X3_begin_12 : AW X d 28 12 [l0, l1, l2, l3, l4, l5, l6] (.int x :: .ref a :: S) st P = zwith (zget st a 4 2) fun _ => AW X d 28 15 [l0, l1, l2, l3, l4, l5, l6] S (zput st a 2 (.int x)) P := zq_putfield (zd_of zb_X3_begin dX3_begin_12) zo_X3_begin zf_3_20 rfl (Or.inl (by decide +kernel))
theorem E_X3_begin_15 : AW X d 28 15 [.ref a, l1, l2, l3, l4, l5, l6] S st P = AW X d 28 16 [.ref a, l1, l2, l3, l4, l5, l6] (.ref a :: S) st P := zAW_st (zd_of zb_X3_begin dX3_begin_15) rfl rfl
theorem E_X3_begin_15n : AW X d 28 15 [.null, l1, l2, l3, l4, l5, l6] S st P = AW X d 28 16 [.null, l1, l2, l3, l4, l5, l6] (.null :: S) st P := zAW_st (zd_of zb_X3_begin dX3_begin_15) rfl rfl
theorem E_X3_begin_16 : AW X d 28 16 [l0, l1, l2, l3, .int x, l5, l6] S st P = AW X d 28 18 [l0, l1, l2, l3, .int x, l5, l6] (.int x :: S) st P := zAW_st (zd_of zb_X3_begin dX3_begin_16) rfl rfl
theorem E_X3_begin_18 : AW X d 28 18 [l0, l1, l2, l3, l4, l5, l6] (.int x :: .ref a :: S) st P = zwith (zget st a 4 3) fun _ => AW X d 28 21 [l0, l1, l2, l3, l4, l5, l6] S (zput st a 3 (.int x)) P := zq_putfield (zd_of zb_X3_begin dX3_begin_18) zo_X3_begin zf_3_23 rfl (Or.inl (by decide +kernel))
theorem E_X3_begin_21 : AW X d 28 21 [.ref a, l1, l2, l3, l4, l5, l6] S st P = AW X d 28 22 [.ref a, l1, l2, l3, l4, l5, l6] (.ref a :: S) st P := zAW_st (zd_of zb_X3_begin dX3_begin_21) rfl rfl
theorem E_X3_begin_21n : AW X d 28 21 [.null, l1, l2, l3, l4, l5, l6] S st P = AW X d 28 22 [.null, l1, l2, l3, l4, l5, l6] (.null :: S) st P := zAW_st (zd_of zb_X3_begin dX3_begin_21) rfl rfl
theorem E_X3_begin_22 : AW X d 28 22 [l0, l1, l2, l3, l4, .int x, l6] S st P = AW X d 28 24 [l0, l1, l2, l3, l4, .int x, l6] (.int x :: S) st P := zAW_st (zd_of zb_X3_begin dX3_begin_22) rfl rfl
theorem E_X3_begin_24 : AW X d 28 24 [l0, l1, l2, l3, l4, l5, l6] (.int x :: .ref a :: S) st P = zwith (zget st a 4 4) fun _ => AW X d 28 27 [l0, l1, l2, l3, l4, l5, l6] S (zput st a 4 (.int x)) P := zq_putfield (zd_of zb_X3_begin dX3_begin_24) zo_X3_begin zf_3_26 rfl (Or.inl (by decide +kernel))
theorem E_X3_begin_27 : AW X d 28 27 [.ref a, l1, l2, l3, l4, l5, l6] S st P = AW X d 28 28 [.ref a, l1, l2, l3, l4, l5, l6] (.ref a :: S) st P := zAW_st (zd_of zb_X3_begin dX3_begin_27) rfl rfl
theorem E_X3_begin_27n : AW X d 28 27 [.null, l1, l2, l3, l4, l5, l6] S st P = AW X d 28 28 [.null, l1, l2, l3, l4, l5, l6] (.null :: S) st P := zAW_st (zd_of zb_X3_begin dX3_begin_27) rfl rfl
theorem E_X3_begin_28 : AW X d 28 28 [l0, l1, l2, l3, l4, l5, .int x] S st P = AW X d 28 30 [l0, l1, l2, l3, l4, l5, .int x] (.int x :: S) st P := zAW_st (zd_of zb_X3_begin dX3_begin_28) rfl rfl
theorem E_X3_begin_30 : AW X d 28 30 [l0, l1, l2, l3, l4, l5, l6] (.int x :: .ref a :: S) st P = zwith (zget st a 4 5) fun _ => AW X d 28 33 [l0, l1, l2, l3, l4, l5, l6] S (zput st a 5 (.int x)) P := zq_putfield (zd_of zb_X3_begin dX3_begin_30) zo_X3_begin zf_3_29 rfl (Or.inl (by decide +kernel))
theorem E_X3_begin_33 : AW X d 28 33 [.ref a, l1, l2, l3, l4, l5, l6] S st P = AW X d 28 34 [.ref a, l1, l2, l3, l4, l5, l6] (.ref a :: S) st P := zAW_st (zd_of zb_X3_begin dX3_begin_33) rfl rfl
theorem E_X3_begin_33n : AW X d 28 33 [.null, l1, l2, l3, l4, l5, l6] S st P = AW X d 28 34 [.null, l1, l2, l3, l4, l5, l6] (.null :: S) st P := zAW_st (zd_of zb_X3_begin dX3_begin_33) rfl rfl
theorem E_X3_begin_34 : AW X d 28 34 [l0, l1, l2, l3, l4, l5, l6] S st P = AW X d 28 35 [l0, l1, l2, l3, l4, l5, l6] (.int 0 :: S) st P := zq_iconst (zd_of zb_X3_begin dX3_begin_34) (by decide)
theorem E_X3_begin_35 : AW X d 28 35 [l0, l1, l2, l3, l4, l5, l6] (.int x :: .ref a :: S) st P = zwith (zget st a 4 6) fun _ => AW X d 28 38 [l0, l1, l2, l3, l4, l5, l6] S (zput st a 6 (.int x)) P := zq_putfield (zd_of zb_X3_begin dX3_begin_35) zo_X3_begin zf_3_32 rfl (Or.inl (by decide +kernel))
theorem E_X3_begin_38 : AW X d 28 38 [.ref a, l1, l2, l3, l4, l5, l6] S st P = AW X d 28 39 [.ref a, l1, l2, l3, l4, l5, l6] (.ref a :: S) st P := zAW_st (zd_of zb_X3_begin dX3_begin_38) rfl rfl
theorem E_X3_begin_38n : AW X d 28 38 [.null, l1, l2, l3, l4, l5, l6] S st P = AW X d 28 39 [.null, l1, l2, l3, l4, l5, l6] (.null :: S) st P := zAW_st (zd_of zb_X3_begin dX3_begin_38) rfl rfl
theorem E_X3_begin_39 : AW X d 28 39 [l0, l1, l2, l3, l4, l5, l6] (.ref a :: S) st P = zif (zis st a 4 = true) (zif (S.length ≤ 4) (AC X d 37 [.ref a] st (zaft X d 28 39 [l0, l1, l2, l3, l4, l5, l6] S P))) := zq_callV (B := []) (zd_of zb_X3_begin dX3_begin_39) zo_X3_begin (by decide) zl_3_35 zn_37 rfl rfl rfl
theorem E_X3_begin_42 : AW X d 28 42 [l0, l1, l2, l3, l4, l5, l6] [] st P = P (.inl none) st := zAW_ret (w := (.inl none, st)) (zd_of zb_X3_begin dX3_begin_42) rfl rfl (by simp only [zfin, zr_X3_begin])
theorem A_X3_begin (h1 : zc1 v1 = true) : AC X (d + 1) 28 [.ref a, v1, .int x, .int y, .int x3, .int x4, .int x5] st P = AW X d 28 0 [.ref a, v1, .int x, .int y, .int x3, .int x4, .int x5] [] st P := AC_eq ⟨⟨(show 7 ≤ zml 28 by decide +kernel), by decide +kernel⟩, by simp [zc1_int, zc1_ref, zc1_float, h1]⟩
theorem E_X3_holds_0 : AW X d 29 0 [.ref a, l1, l2] S st P = AW X d 29 1 [.ref a, l1, l2] (.ref a :: S) st P := zAW_st (zd_of zb_X3_holds dX3_holds_0) rfl rfl
theorem E_X3_holds_0n : AW X d 29 0 [.null, l1, l2] S st P = AW X d 29 1 [.null, l1, l2] (.null :: S) st P := zAW_st (zd_of zb_X3_holds dX3_holds_0) rfl rfl
theorem E_X3_holds_1 : AW X d 29 1 [l0, l1, l2] (.ref a :: S) st P = zwith (zget st a 4 6) fun v => AW X d 29 4 [l0, l1, l2] (v :: S) st P := zq_getfield (zd_of zb_X3_holds dX3_holds_1) zo_X3_holds zf_3_32
theorem E_X3_holds_4 : AW X d 29 4 [l0, l1, l2] (.int x :: S) st P = if ¬ x = 0 then AW X d 29 27 [l0, l1, l2] S st P else AW X d 29 7 [l0, l1, l2] S st P := zq_if (c := ¬ x = 0) (zd_of zb_X3_holds dX3_holds_4) (by decide) rfl
theorem E_X3_holds_7 : AW X d 29 7 [.ref a, l1, l2] S st P = AW X d 29 8 [.ref a, l1, l2] (.ref a :: S) st P := zAW_st (zd_of zb_X3_holds dX3_holds_7) rfl rfl
theorem E_X3_holds_7n : AW X d 29 7 [.null, l1, l2] S st P = AW X d 29 8 [.null, l1, l2] (.null :: S) st P := zAW_st (zd_of zb_X3_holds dX3_holds_7) rfl rfl
theorem E_X3_holds_8 : AW X d 29 8 [l0, l1, l2] (.ref a :: S) st P = zwith (zget st a 4 4) fun v => AW X d 29 11 [l0, l1, l2] (v :: S) st P := zq_getfield (zd_of zb_X3_holds dX3_holds_8) zo_X3_holds zf_3_26
theorem E_X3_holds_11 : AW X d 29 11 [l0, .int x, l2] S st P = AW X d 29 12 [l0, .int x, l2] (.int x :: S) st P := zAW_st (zd_of zb_X3_holds dX3_holds_11) rfl rfl
theorem E_X3_holds_12 : AW X d 29 12 [l0, l1, l2] (.int y :: .int x :: S) st P = if x < y then AW X d 29 27 [l0, l1, l2] S st P else AW X d 29 15 [l0, l1, l2] S st P := zq_icmp (c := x < y) (zd_of zb_X3_holds dX3_holds_12) (by decide) rfl
theorem E_X3_holds_15 : AW X d 29 15 [.ref a, l1, l2] S st P = AW X d 29 16 [.ref a, l1, l2] (.ref a :: S) st P := zAW_st (zd_of zb_X3_holds dX3_holds_15) rfl rfl
theorem E_X3_holds_15n : AW X d 29 15 [.null, l1, l2] S st P = AW X d 29 16 [.null, l1, l2] (.null :: S) st P := zAW_st (zd_of zb_X3_holds dX3_holds_15) rfl rfl
theorem E_X3_holds_16 : AW X d 29 16 [l0, l1, l2] (.ref a :: S) st P = zwith (zget st a 4 5) fun v => AW X d 29 19 [l0, l1, l2] (v :: S) st P := zq_getfield (zd_of zb_X3_holds dX3_holds_16) zo_X3_holds zf_3_29
theorem E_X3_holds_19 : AW X d 29 19 [l0, l1, .int x] S st P = AW X d 29 20 [l0, l1, .int x] (.int x :: S) st P := zAW_st (zd_of zb_X3_holds dX3_holds_19) rfl rfl
theorem E_X3_holds_20 : AW X d 29 20 [l0, l1, l2] (.int y :: .int x :: S) st P = if x < y then AW X d 29 27 [l0, l1, l2] S st P else AW X d 29 23 [l0, l1, l2] S st P := zq_icmp (c := x < y) (zd_of zb_X3_holds dX3_holds_20) (by decide) rfl
theorem E_X3_holds_23 : AW X d 29 23 [l0, l1, l2] S st P = AW X d 29 24 [l0, l1, l2] (.int 1 :: S) st P := zq_iconst (zd_of zb_X3_holds dX3_holds_23) (by decide)
theorem E_X3_holds_24 : AW X d 29 24 [l0, l1, l2] S st P = AW X d 29 28 [l0, l1, l2] S st P := zq_goto (zd_of zb_X3_holds dX3_holds_24) (by decide)
theorem E_X3_holds_27 : AW X d 29 27 [l0, l1, l2] S st P = AW X d 29 28 [l0, l1, l2] (.int 0 :: S) st P := zq_iconst (zd_of zb_X3_holds dX3_holds_27) (by decide)
theorem E_X3_holds_28 : AW X d 29 28 [l0, l1, l2] ([.int x]) st P = zif (x &&& 1 = x) (P (.inl (some (.int x))) st) := by
  by_cases h : x &&& 1 = x
  · rw [zif_of h]; exact zAW_ret (w := (.inl (some (.int x)), st)) (zd_of zb_X3_holds dX3_holds_28) rfl rfl (by simp only [zfin, zr_X3_holds]; rw [if_pos h])
  · rw [zAW_stuck (zd_of zb_X3_holds dX3_holds_28) rfl (by simp only [zfin, zr_X3_holds]; rw [if_neg h]) rfl]; exact propext ⟨fun z => z.elim, fun z => h z.1⟩
theorem A_X3_holds : AC X (d + 1) 29 [.ref a, .int x, .int y] st P = AW X d 29 0 [.ref a, .int x, .int y] [] st P := AC_eq ⟨⟨(show 3 ≤ zml 29 by decide +kernel), by decide +kernel⟩, by simp [zc1_int, zc1_ref, zc1_float]⟩
theorem E_X3_area_0 : AW X d 30 0 [.ref a] S st P = AW X d 30 1 [.ref a] (.ref a :: S) st P := zAW_st (zd_of zb_X3_area dX3_area_0) rfl rfl
theorem E_X3_area_0n : AW X d 30 0 [.null] S st P = AW X d 30 1 [.null] (.null :: S) st P := zAW_st (zd_of zb_X3_area dX3_area_0) rfl rfl
theorem E_X3_area_1 : AW X d 30 1 [l0] (.ref a :: S) st P = zwith (zget st a 4 4) fun v => AW X d 30 4 [l0] (v :: S) st P := zq_getfield (zd_of zb_X3_area dX3_area_1) zo_X3_area zf_3_26
theorem E_X3_area_4 : AW X d 30 4 [.ref a] S st P = AW X d 30 5 [.ref a] (.ref a :: S) st P := zAW_st (zd_of zb_X3_area dX3_area_4) rfl rfl
theorem E_X3_area_4n : AW X d 30 4 [.null] S st P = AW X d 30 5 [.null] (.null :: S) st P := zAW_st (zd_of zb_X3_area dX3_area_4) rfl rfl
theorem E_X3_area_5 : AW X d 30 5 [l0] (.ref a :: S) st P = zwith (zget st a 4 5) fun v => AW X d 30 8 [l0] (v :: S) st P := zq_getfield (zd_of zb_X3_area dX3_area_5) zo_X3_area zf_3_29
theorem E_X3_area_8 : AW X d 30 8 [l0] (.int y :: .int x :: S) st P = AW X d 30 9 [l0] (.int (x * y) :: S) st P := zAW_st (zd_of zb_X3_area dX3_area_8) rfl rfl
theorem E_X3_area_9 : AW X d 30 9 [l0] ([.int x]) st P = P (.inl (some (.int x))) st := zAW_ret (w := (.inl (some (.int x)), st)) (zd_of zb_X3_area dX3_area_9) rfl rfl (by simp only [zfin, zr_X3_area])
theorem A_X3_area : AC X (d + 1) 30 [.ref a] st P = AW X d 30 0 [.ref a] [] st P := AC_eq ⟨⟨(show 1 ≤ zml 30 by decide +kernel), by decide +kernel⟩, by simp [zc1_int, zc1_ref, zc1_float]⟩
theorem E_X3_touches_0 : AW X d 31 0 [.ref a, l1] S st P = AW X d 31 1 [.ref a, l1] (.ref a :: S) st P := zAW_st (zd_of zb_X3_touches dX3_touches_0) rfl rfl
theorem E_X3_touches_0n : AW X d 31 0 [.null, l1] S st P = AW X d 31 1 [.null, l1] (.null :: S) st P := zAW_st (zd_of zb_X3_touches dX3_touches_0) rfl rfl
theorem E_X3_touches_1 : AW X d 31 1 [l0, l1] (.ref a :: S) st P = zwith (zget st a 4 1) fun v => AW X d 31 4 [l0, l1] (v :: S) st P := zq_getfield (zd_of zb_X3_touches dX3_touches_1) zo_X3_touches zf_3_17
theorem E_X3_touches_4 : AW X d 31 4 [l0, .ref a] S st P = AW X d 31 5 [l0, .ref a] (.ref a :: S) st P := zAW_st (zd_of zb_X3_touches dX3_touches_4) rfl rfl
theorem E_X3_touches_4n : AW X d 31 4 [l0, .null] S st P = AW X d 31 5 [l0, .null] (.null :: S) st P := zAW_st (zd_of zb_X3_touches dX3_touches_4) rfl rfl
theorem E_X3_touches_5 : AW X d 31 5 [l0, l1] (.ref a :: S) st P = zwith (zget st a 4 1) fun v => AW X d 31 8 [l0, l1] (v :: S) st P := zq_getfield (zd_of zb_X3_touches dX3_touches_5) zo_X3_touches zf_3_17
theorem E_X3_touches_8 : AW X d 31 8 [l0, l1] (.int y :: .int x :: S) st P = if ¬ x = y then AW X d 31 79 [l0, l1] S st P else AW X d 31 11 [l0, l1] S st P := zq_icmp (c := ¬ x = y) (zd_of zb_X3_touches dX3_touches_8) (by decide) rfl
theorem E_X3_touches_11 : AW X d 31 11 [.ref a, l1] S st P = AW X d 31 12 [.ref a, l1] (.ref a :: S) st P := zAW_st (zd_of zb_X3_touches dX3_touches_11) rfl rfl
theorem E_X3_touches_11n : AW X d 31 11 [.null, l1] S st P = AW X d 31 12 [.null, l1] (.null :: S) st P := zAW_st (zd_of zb_X3_touches dX3_touches_11) rfl rfl
theorem E_X3_touches_12 : AW X d 31 12 [l0, l1] (.ref a :: S) st P = zwith (zget st a 4 2) fun v => AW X d 31 15 [l0, l1] (v :: S) st P := zq_getfield (zd_of zb_X3_touches dX3_touches_12) zo_X3_touches zf_3_20
theorem E_X3_touches_15 : AW X d 31 15 [l0, .ref a] S st P = AW X d 31 16 [l0, .ref a] (.ref a :: S) st P := zAW_st (zd_of zb_X3_touches dX3_touches_15) rfl rfl
theorem E_X3_touches_15n : AW X d 31 15 [l0, .null] S st P = AW X d 31 16 [l0, .null] (.null :: S) st P := zAW_st (zd_of zb_X3_touches dX3_touches_15) rfl rfl
theorem E_X3_touches_16 : AW X d 31 16 [l0, l1] (.ref a :: S) st P = zwith (zget st a 4 2) fun v => AW X d 31 19 [l0, l1] (v :: S) st P := zq_getfield (zd_of zb_X3_touches dX3_touches_16) zo_X3_touches zf_3_20
theorem E_X3_touches_19 : AW X d 31 19 [l0, .ref a] S st P = AW X d 31 20 [l0, .ref a] (.ref a :: S) st P := zAW_st (zd_of zb_X3_touches dX3_touches_19) rfl rfl
theorem E_X3_touches_19n : AW X d 31 19 [l0, .null] S st P = AW X d 31 20 [l0, .null] (.null :: S) st P := zAW_st (zd_of zb_X3_touches dX3_touches_19) rfl rfl
theorem E_X3_touches_20 : AW X d 31 20 [l0, l1] (.ref a :: S) st P = zwith (zget st a 4 4) fun v => AW X d 31 23 [l0, l1] (v :: S) st P := zq_getfield (zd_of zb_X3_touches dX3_touches_20) zo_X3_touches zf_3_26
theorem E_X3_touches_23 : AW X d 31 23 [l0, l1] (.int y :: .int x :: S) st P = AW X d 31 24 [l0, l1] (.int (x + y) :: S) st P := zAW_st (zd_of zb_X3_touches dX3_touches_23) rfl rfl
theorem E_X3_touches_24 : AW X d 31 24 [l0, l1] (.int y :: .int x :: S) st P = if y < x then AW X d 31 79 [l0, l1] S st P else AW X d 31 27 [l0, l1] S st P := zq_icmp (c := y < x) (zd_of zb_X3_touches dX3_touches_24) (by decide) rfl
theorem E_X3_touches_27 : AW X d 31 27 [l0, .ref a] S st P = AW X d 31 28 [l0, .ref a] (.ref a :: S) st P := zAW_st (zd_of zb_X3_touches dX3_touches_27) rfl rfl
theorem E_X3_touches_27n : AW X d 31 27 [l0, .null] S st P = AW X d 31 28 [l0, .null] (.null :: S) st P := zAW_st (zd_of zb_X3_touches dX3_touches_27) rfl rfl
theorem E_X3_touches_28 : AW X d 31 28 [l0, l1] (.ref a :: S) st P = zwith (zget st a 4 2) fun v => AW X d 31 31 [l0, l1] (v :: S) st P := zq_getfield (zd_of zb_X3_touches dX3_touches_28) zo_X3_touches zf_3_20
theorem E_X3_touches_31 : AW X d 31 31 [.ref a, l1] S st P = AW X d 31 32 [.ref a, l1] (.ref a :: S) st P := zAW_st (zd_of zb_X3_touches dX3_touches_31) rfl rfl
theorem E_X3_touches_31n : AW X d 31 31 [.null, l1] S st P = AW X d 31 32 [.null, l1] (.null :: S) st P := zAW_st (zd_of zb_X3_touches dX3_touches_31) rfl rfl
theorem E_X3_touches_32 : AW X d 31 32 [l0, l1] (.ref a :: S) st P = zwith (zget st a 4 2) fun v => AW X d 31 35 [l0, l1] (v :: S) st P := zq_getfield (zd_of zb_X3_touches dX3_touches_32) zo_X3_touches zf_3_20
theorem E_X3_touches_35 : AW X d 31 35 [.ref a, l1] S st P = AW X d 31 36 [.ref a, l1] (.ref a :: S) st P := zAW_st (zd_of zb_X3_touches dX3_touches_35) rfl rfl
theorem E_X3_touches_35n : AW X d 31 35 [.null, l1] S st P = AW X d 31 36 [.null, l1] (.null :: S) st P := zAW_st (zd_of zb_X3_touches dX3_touches_35) rfl rfl
theorem E_X3_touches_36 : AW X d 31 36 [l0, l1] (.ref a :: S) st P = zwith (zget st a 4 4) fun v => AW X d 31 39 [l0, l1] (v :: S) st P := zq_getfield (zd_of zb_X3_touches dX3_touches_36) zo_X3_touches zf_3_26
theorem E_X3_touches_39 : AW X d 31 39 [l0, l1] (.int y :: .int x :: S) st P = AW X d 31 40 [l0, l1] (.int (x + y) :: S) st P := zAW_st (zd_of zb_X3_touches dX3_touches_39) rfl rfl
theorem E_X3_touches_40 : AW X d 31 40 [l0, l1] (.int y :: .int x :: S) st P = if y < x then AW X d 31 79 [l0, l1] S st P else AW X d 31 43 [l0, l1] S st P := zq_icmp (c := y < x) (zd_of zb_X3_touches dX3_touches_40) (by decide) rfl
theorem E_X3_touches_43 : AW X d 31 43 [.ref a, l1] S st P = AW X d 31 44 [.ref a, l1] (.ref a :: S) st P := zAW_st (zd_of zb_X3_touches dX3_touches_43) rfl rfl
theorem E_X3_touches_43n : AW X d 31 43 [.null, l1] S st P = AW X d 31 44 [.null, l1] (.null :: S) st P := zAW_st (zd_of zb_X3_touches dX3_touches_43) rfl rfl
theorem E_X3_touches_44 : AW X d 31 44 [l0, l1] (.ref a :: S) st P = zwith (zget st a 4 3) fun v => AW X d 31 47 [l0, l1] (v :: S) st P := zq_getfield (zd_of zb_X3_touches dX3_touches_44) zo_X3_touches zf_3_23
theorem E_X3_touches_47 : AW X d 31 47 [l0, .ref a] S st P = AW X d 31 48 [l0, .ref a] (.ref a :: S) st P := zAW_st (zd_of zb_X3_touches dX3_touches_47) rfl rfl
theorem E_X3_touches_47n : AW X d 31 47 [l0, .null] S st P = AW X d 31 48 [l0, .null] (.null :: S) st P := zAW_st (zd_of zb_X3_touches dX3_touches_47) rfl rfl
theorem E_X3_touches_48 : AW X d 31 48 [l0, l1] (.ref a :: S) st P = zwith (zget st a 4 3) fun v => AW X d 31 51 [l0, l1] (v :: S) st P := zq_getfield (zd_of zb_X3_touches dX3_touches_48) zo_X3_touches zf_3_23
theorem E_X3_touches_51 : AW X d 31 51 [l0, .ref a] S st P = AW X d 31 52 [l0, .ref a] (.ref a :: S) st P := zAW_st (zd_of zb_X3_touches dX3_touches_51) rfl rfl
theorem E_X3_touches_51n : AW X d 31 51 [l0, .null] S st P = AW X d 31 52 [l0, .null] (.null :: S) st P := zAW_st (zd_of zb_X3_touches dX3_touches_51) rfl rfl
theorem E_X3_touches_52 : AW X d 31 52 [l0, l1] (.ref a :: S) st P = zwith (zget st a 4 5) fun v => AW X d 31 55 [l0, l1] (v :: S) st P := zq_getfield (zd_of zb_X3_touches dX3_touches_52) zo_X3_touches zf_3_29
theorem E_X3_touches_55 : AW X d 31 55 [l0, l1] (.int y :: .int x :: S) st P = AW X d 31 56 [l0, l1] (.int (x + y) :: S) st P := zAW_st (zd_of zb_X3_touches dX3_touches_55) rfl rfl
theorem E_X3_touches_56 : AW X d 31 56 [l0, l1] (.int y :: .int x :: S) st P = if y < x then AW X d 31 79 [l0, l1] S st P else AW X d 31 59 [l0, l1] S st P := zq_icmp (c := y < x) (zd_of zb_X3_touches dX3_touches_56) (by decide) rfl
theorem E_X3_touches_59 : AW X d 31 59 [l0, .ref a] S st P = AW X d 31 60 [l0, .ref a] (.ref a :: S) st P := zAW_st (zd_of zb_X3_touches dX3_touches_59) rfl rfl
theorem E_X3_touches_59n : AW X d 31 59 [l0, .null] S st P = AW X d 31 60 [l0, .null] (.null :: S) st P := zAW_st (zd_of zb_X3_touches dX3_touches_59) rfl rfl
theorem E_X3_touches_60 : AW X d 31 60 [l0, l1] (.ref a :: S) st P = zwith (zget st a 4 3) fun v => AW X d 31 63 [l0, l1] (v :: S) st P := zq_getfield (zd_of zb_X3_touches dX3_touches_60) zo_X3_touches zf_3_23
theorem E_X3_touches_63 : AW X d 31 63 [.ref a, l1] S st P = AW X d 31 64 [.ref a, l1] (.ref a :: S) st P := zAW_st (zd_of zb_X3_touches dX3_touches_63) rfl rfl
theorem E_X3_touches_63n : AW X d 31 63 [.null, l1] S st P = AW X d 31 64 [.null, l1] (.null :: S) st P := zAW_st (zd_of zb_X3_touches dX3_touches_63) rfl rfl
theorem E_X3_touches_64 : AW X d 31 64 [l0, l1] (.ref a :: S) st P = zwith (zget st a 4 3) fun v => AW X d 31 67 [l0, l1] (v :: S) st P := zq_getfield (zd_of zb_X3_touches dX3_touches_64) zo_X3_touches zf_3_23
theorem E_X3_touches_67 : AW X d 31 67 [.ref a, l1] S st P = AW X d 31 68 [.ref a, l1] (.ref a :: S) st P := zAW_st (zd_of zb_X3_touches dX3_touches_67) rfl rfl
theorem E_X3_touches_67n : AW X d 31 67 [.null, l1] S st P = AW X d 31 68 [.null, l1] (.null :: S) st P := zAW_st (zd_of zb_X3_touches dX3_touches_67) rfl rfl
theorem E_X3_touches_68 : AW X d 31 68 [l0, l1] (.ref a :: S) st P = zwith (zget st a 4 5) fun v => AW X d 31 71 [l0, l1] (v :: S) st P := zq_getfield (zd_of zb_X3_touches dX3_touches_68) zo_X3_touches zf_3_29
theorem E_X3_touches_71 : AW X d 31 71 [l0, l1] (.int y :: .int x :: S) st P = AW X d 31 72 [l0, l1] (.int (x + y) :: S) st P := zAW_st (zd_of zb_X3_touches dX3_touches_71) rfl rfl
theorem E_X3_touches_72 : AW X d 31 72 [l0, l1] (.int y :: .int x :: S) st P = if y < x then AW X d 31 79 [l0, l1] S st P else AW X d 31 75 [l0, l1] S st P := zq_icmp (c := y < x) (zd_of zb_X3_touches dX3_touches_72) (by decide) rfl
theorem E_X3_touches_75 : AW X d 31 75 [l0, l1] S st P = AW X d 31 76 [l0, l1] (.int 1 :: S) st P := zq_iconst (zd_of zb_X3_touches dX3_touches_75) (by decide)
theorem E_X3_touches_76 : AW X d 31 76 [l0, l1] S st P = AW X d 31 80 [l0, l1] S st P := zq_goto (zd_of zb_X3_touches dX3_touches_76) (by decide)
theorem E_X3_touches_79 : AW X d 31 79 [l0, l1] S st P = AW X d 31 80 [l0, l1] (.int 0 :: S) st P := zq_iconst (zd_of zb_X3_touches dX3_touches_79) (by decide)
theorem E_X3_touches_80 : AW X d 31 80 [l0, l1] ([.int x]) st P = zif (x &&& 1 = x) (P (.inl (some (.int x))) st) := by
  by_cases h : x &&& 1 = x
  · rw [zif_of h]; exact zAW_ret (w := (.inl (some (.int x)), st)) (zd_of zb_X3_touches dX3_touches_80) rfl rfl (by simp only [zfin, zr_X3_touches]; rw [if_pos h])
  · rw [zAW_stuck (zd_of zb_X3_touches dX3_touches_80) rfl (by simp only [zfin, zr_X3_touches]; rw [if_neg h]) rfl]; exact propext ⟨fun z => z.elim, fun z => h z.1⟩
theorem A_X3_touches (h1 : zc1 v1 = true) : AC X (d + 1) 31 [.ref a, v1] st P = AW X d 31 0 [.ref a, v1] [] st P := AC_eq ⟨⟨(show 2 ≤ zml 31 by decide +kernel), by decide +kernel⟩, by simp [zc1_int, zc1_ref, zc1_float, h1]⟩
theorem E_X3_release_0 : AW X d 32 0 [.ref a, l1] S st P = AW X d 32 1 [.ref a, l1] (.ref a :: S) st P := zAW_st (zd_of zb_X3_release dX3_release_0) rfl rfl
theorem E_X3_release_0n : AW X d 32 0 [.null, l1] S st P = AW X d 32 1 [.null, l1] (.null :: S) st P := zAW_st (zd_of zb_X3_release dX3_release_0) rfl rfl
theorem E_X3_release_1 : AW X d 32 1 [l0, l1] S st P = AW X d 32 2 [l0, l1] (.int 0 :: S) st P := zq_iconst (zd_of zb_X3_release dX3_release_1) (by decide)
theorem E_X3_release_2 : AW X d 32 2 [l0, l1] (.int x :: .ref a :: S) st P = zwith (zget st a 4 6) fun _ => AW X d 32 5 [l0, l1] S (zput st a 6 (.int x)) P := zq_putfield (zd_of zb_X3_release dX3_release_2) zo_X3_release zf_3_32 rfl (Or.inl (by decide +kernel))
theorem E_X3_release_5 : AW X d 32 5 [.ref a, l1] S st P = AW X d 32 6 [.ref a, l1] (.ref a :: S) st P := zAW_st (zd_of zb_X3_release dX3_release_5) rfl rfl
theorem E_X3_release_5n : AW X d 32 5 [.null, l1] S st P = AW X d 32 6 [.null, l1] (.null :: S) st P := zAW_st (zd_of zb_X3_release dX3_release_5) rfl rfl
theorem E_X3_release_6 : AW X d 32 6 [l0, l1] (.ref a :: S) st P = zwith (zget st a 4 7) fun v => AW X d 32 9 [l0, l1] (v :: S) st P := zq_getfield (zd_of zb_X3_release dX3_release_6) zo_X3_release zf_3_13
theorem E_X3_release_9 : AW X d 32 9 [l0, l1] (.ref a :: S) st P = AW X d 32 10 [l0, .ref a] S st P := zAW_st (zd_of zb_X3_release dX3_release_9) rfl rfl
theorem E_X3_release_9n : AW X d 32 9 [l0, l1] (.null :: S) st P = AW X d 32 10 [l0, .null] S st P := zAW_st (zd_of zb_X3_release dX3_release_9) rfl rfl
theorem E_X3_release_10 : AW X d 32 10 [l0, .ref a] S st P = AW X d 32 11 [l0, .ref a] (.ref a :: S) st P := zAW_st (zd_of zb_X3_release dX3_release_10) rfl rfl
theorem E_X3_release_10n : AW X d 32 10 [l0, .null] S st P = AW X d 32 11 [l0, .null] (.null :: S) st P := zAW_st (zd_of zb_X3_release dX3_release_10) rfl rfl
theorem E_X3_release_11 : AW X d 32 11 [l0, l1] (.ref a :: S) st P = AW X d 32 14 [l0, l1] S st P := zq_null1 (t := 38) (zd_of zb_X3_release dX3_release_11) (by decide)
theorem E_X3_release_11n : AW X d 32 11 [l0, l1] (.null :: S) st P = AW X d 32 38 [l0, l1] S st P := zq_null2 (t := 38) (zd_of zb_X3_release dX3_release_11) (by decide)
theorem E_X3_release_14 : AW X d 32 14 [l0, .ref a] S st P = AW X d 32 15 [l0, .ref a] (.ref a :: S) st P := zAW_st (zd_of zb_X3_release dX3_release_14) rfl rfl
theorem E_X3_release_14n : AW X d 32 14 [l0, .null] S st P = AW X d 32 15 [l0, .null] (.null :: S) st P := zAW_st (zd_of zb_X3_release dX3_release_14) rfl rfl
theorem E_X3_release_15 : AW X d 32 15 [l0, l1] (.ref a :: S) st P = zif (zis st a 4 = true) (zif (S.length ≤ 4) (AC X d 33 [.ref a] st (zaft X d 32 15 [l0, l1] S P))) := zq_callV (B := []) (zd_of zb_X3_release dX3_release_15) zo_X3_release (by decide) zl_3_38 zn_33 rfl rfl rfl
theorem E_X3_release_18 : AW X d 32 18 [l0, l1] (.int x :: S) st P = if x = 0 then AW X d 32 38 [l0, l1] S st P else AW X d 32 21 [l0, l1] S st P := zq_if (c := x = 0) (zd_of zb_X3_release dX3_release_18) (by decide) rfl
theorem E_X3_release_21 : AW X d 32 21 [l0, .ref a] S st P = AW X d 32 22 [l0, .ref a] (.ref a :: S) st P := zAW_st (zd_of zb_X3_release dX3_release_21) rfl rfl
theorem E_X3_release_21n : AW X d 32 21 [l0, .null] S st P = AW X d 32 22 [l0, .null] (.null :: S) st P := zAW_st (zd_of zb_X3_release dX3_release_21) rfl rfl
theorem E_X3_release_22 : AW X d 32 22 [l0, l1] (.ref a :: S) st P = zif (zis st a 4 = true) (zif (S.length ≤ 4) (AC X d 35 [.ref a] st (zaft X d 32 22 [l0, l1] S P))) := zq_callV (B := []) (zd_of zb_X3_release dX3_release_22) zo_X3_release (by decide) zl_3_42 zn_35 rfl rfl rfl
theorem E_X3_release_25 : AW X d 32 25 [l0, .ref a] S st P = AW X d 32 26 [l0, .ref a] (.ref a :: S) st P := zAW_st (zd_of zb_X3_release dX3_release_25) rfl rfl
theorem E_X3_release_25n : AW X d 32 25 [l0, .null] S st P = AW X d 32 26 [l0, .null] (.null :: S) st P := zAW_st (zd_of zb_X3_release dX3_release_25) rfl rfl
theorem E_X3_release_26 : AW X d 32 26 [l0, l1] S st P = AW X d 32 27 [l0, l1] (.int 0 :: S) st P := zq_iconst (zd_of zb_X3_release dX3_release_26) (by decide)
theorem E_X3_release_27 : AW X d 32 27 [l0, l1] (.int x :: .ref a :: S) st P = zwith (zget st a 4 6) fun _ => AW X d 32 30 [l0, l1] S (zput st a 6 (.int x)) P := zq_putfield (zd_of zb_X3_release dX3_release_27) zo_X3_release zf_3_32 rfl (Or.inl (by decide +kernel))
theorem E_X3_release_30 : AW X d 32 30 [l0, .ref a] S st P = AW X d 32 31 [l0, .ref a] (.ref a :: S) st P := zAW_st (zd_of zb_X3_release dX3_release_30) rfl rfl
theorem E_X3_release_30n : AW X d 32 30 [l0, .null] S st P = AW X d 32 31 [l0, .null] (.null :: S) st P := zAW_st (zd_of zb_X3_release dX3_release_30) rfl rfl
theorem E_X3_release_31 : AW X d 32 31 [l0, l1] (.ref a :: S) st P = zwith (zget st a 4 7) fun v => AW X d 32 34 [l0, l1] (v :: S) st P := zq_getfield (zd_of zb_X3_release dX3_release_31) zo_X3_release zf_3_13
theorem E_X3_release_34 : AW X d 32 34 [l0, l1] (.ref a :: S) st P = AW X d 32 35 [l0, .ref a] S st P := zAW_st (zd_of zb_X3_release dX3_release_34) rfl rfl
theorem E_X3_release_34n : AW X d 32 34 [l0, l1] (.null :: S) st P = AW X d 32 35 [l0, .null] S st P := zAW_st (zd_of zb_X3_release dX3_release_34) rfl rfl
theorem E_X3_release_35 : AW X d 32 35 [l0, l1] S st P = AW X d 32 10 [l0, l1] S st P := zq_goto (zd_of zb_X3_release dX3_release_35) (by decide)
theorem E_X3_release_38 : AW X d 32 38 [l0, l1] [] st P = P (.inl none) st := zAW_ret (w := (.inl none, st)) (zd_of zb_X3_release dX3_release_38) rfl rfl (by simp only [zfin, zr_X3_release])
theorem A_X3_release : AC X (d + 1) 32 [.ref a] st P = AW X d 32 0 [.ref a, .retAddr 0] [] st P := AC_eq ⟨⟨(show 1 ≤ zml 32 by decide +kernel), by decide +kernel⟩, by simp [zc1_int, zc1_ref, zc1_float]⟩
theorem E_X3_hasAllFree_0 : AW X d 33 0 [.ref a] S st P = AW X d 33 1 [.ref a] (.ref a :: S) st P := zAW_st (zd_of zb_X3_hasAllFree dX3_hasAllFree_0) rfl rfl
theorem E_X3_hasAllFree_0n : AW X d 33 0 [.null] S st P = AW X d 33 1 [.null] (.null :: S) st P := zAW_st (zd_of zb_X3_hasAllFree dX3_hasAllFree_0) rfl rfl
theorem E_X3_hasAllFree_1 : AW X d 33 1 [l0] (.ref a :: S) st P = zwith (zget st a 4 8) fun v => AW X d 33 4 [l0] (v :: S) st P := zq_getfield (zd_of zb_X3_hasAllFree dX3_hasAllFree_1) zo_X3_hasAllFree zf_3_45
theorem E_X3_hasAllFree_4 : AW X d 33 4 [l0] (v1 :: S) st P = zif (S.length ≤ 4) (AC X d 34 [v1] st (zaft X d 33 4 [l0] S P)) := zq_callS (B := [v1]) (S2 := S) (zd_of zb_X3_hasAllFree dX3_hasAllFree_4) zo_X3_hasAllFree (by decide) (by decide) (by decide) zl_3_48 zn_34 (by simp only [List.length_cons]; omega) rfl rfl
theorem E_X3_hasAllFree_7 : AW X d 33 7 [l0] (.int x :: S) st P = if x = 0 then AW X d 33 34 [l0] S st P else AW X d 33 10 [l0] S st P := zq_if (c := x = 0) (zd_of zb_X3_hasAllFree dX3_hasAllFree_7) (by decide) rfl
theorem E_X3_hasAllFree_10 : AW X d 33 10 [.ref a] S st P = AW X d 33 11 [.ref a] (.ref a :: S) st P := zAW_st (zd_of zb_X3_hasAllFree dX3_hasAllFree_10) rfl rfl
theorem E_X3_hasAllFree_10n : AW X d 33 10 [.null] S st P = AW X d 33 11 [.null] (.null :: S) st P := zAW_st (zd_of zb_X3_hasAllFree dX3_hasAllFree_10) rfl rfl
theorem E_X3_hasAllFree_11 : AW X d 33 11 [l0] (.ref a :: S) st P = zwith (zget st a 4 9) fun v => AW X d 33 14 [l0] (v :: S) st P := zq_getfield (zd_of zb_X3_hasAllFree dX3_hasAllFree_11) zo_X3_hasAllFree zf_3_52
theorem E_X3_hasAllFree_14 : AW X d 33 14 [l0] (v1 :: S) st P = zif (S.length ≤ 4) (AC X d 34 [v1] st (zaft X d 33 14 [l0] S P)) := zq_callS (B := [v1]) (S2 := S) (zd_of zb_X3_hasAllFree dX3_hasAllFree_14) zo_X3_hasAllFree (by decide) (by decide) (by decide) zl_3_48 zn_34 (by simp only [List.length_cons]; omega) rfl rfl
theorem E_X3_hasAllFree_17 : AW X d 33 17 [l0] (.int x :: S) st P = if x = 0 then AW X d 33 34 [l0] S st P else AW X d 33 20 [l0] S st P := zq_if (c := x = 0) (zd_of zb_X3_hasAllFree dX3_hasAllFree_17) (by decide) rfl
theorem E_X3_hasAllFree_20 : AW X d 33 20 [.ref a] S st P = AW X d 33 21 [.ref a] (.ref a :: S) st P := zAW_st (zd_of zb_X3_hasAllFree dX3_hasAllFree_20) rfl rfl
theorem E_X3_hasAllFree_20n : AW X d 33 20 [.null] S st P = AW X d 33 21 [.null] (.null :: S) st P := zAW_st (zd_of zb_X3_hasAllFree dX3_hasAllFree_20) rfl rfl
theorem E_X3_hasAllFree_21 : AW X d 33 21 [l0] (.ref a :: S) st P = zwith (zget st a 4 10) fun v => AW X d 33 24 [l0] (v :: S) st P := zq_getfield (zd_of zb_X3_hasAllFree dX3_hasAllFree_21) zo_X3_hasAllFree zf_3_55
theorem E_X3_hasAllFree_24 : AW X d 33 24 [l0] (v1 :: S) st P = zif (S.length ≤ 4) (AC X d 34 [v1] st (zaft X d 33 24 [l0] S P)) := zq_callS (B := [v1]) (S2 := S) (zd_of zb_X3_hasAllFree dX3_hasAllFree_24) zo_X3_hasAllFree (by decide) (by decide) (by decide) zl_3_48 zn_34 (by simp only [List.length_cons]; omega) rfl rfl
theorem E_X3_hasAllFree_27 : AW X d 33 27 [l0] (.int x :: S) st P = if x = 0 then AW X d 33 34 [l0] S st P else AW X d 33 30 [l0] S st P := zq_if (c := x = 0) (zd_of zb_X3_hasAllFree dX3_hasAllFree_27) (by decide) rfl
theorem E_X3_hasAllFree_30 : AW X d 33 30 [l0] S st P = AW X d 33 31 [l0] (.int 1 :: S) st P := zq_iconst (zd_of zb_X3_hasAllFree dX3_hasAllFree_30) (by decide)
theorem E_X3_hasAllFree_31 : AW X d 33 31 [l0] S st P = AW X d 33 35 [l0] S st P := zq_goto (zd_of zb_X3_hasAllFree dX3_hasAllFree_31) (by decide)
theorem E_X3_hasAllFree_34 : AW X d 33 34 [l0] S st P = AW X d 33 35 [l0] (.int 0 :: S) st P := zq_iconst (zd_of zb_X3_hasAllFree dX3_hasAllFree_34) (by decide)
theorem E_X3_hasAllFree_35 : AW X d 33 35 [l0] ([.int x]) st P = zif (x &&& 1 = x) (P (.inl (some (.int x))) st) := by
  by_cases h : x &&& 1 = x
  · rw [zif_of h]; exact zAW_ret (w := (.inl (some (.int x)), st)) (zd_of zb_X3_hasAllFree dX3_hasAllFree_35) rfl rfl (by simp only [zfin, zr_X3_hasAllFree]; rw [if_pos h])
  · rw [zAW_stuck (zd_of zb_X3_hasAllFree dX3_hasAllFree_35) rfl (by simp only [zfin, zr_X3_hasAllFree]; rw [if_neg h]) rfl]; exact propext ⟨fun z => z.elim, fun z => h z.1⟩
theorem A_X3_hasAllFree : AC X (d + 1) 33 [.ref a] st P = AW X d 33 0 [.ref a] [] st P := AC_eq ⟨⟨(show 1 ≤ zml 33 by decide +kernel), by decide +kernel⟩, by simp [zc1_int, zc1_ref, zc1_float]⟩
theorem E_X3_isFreeOrNone_0 : AW X d 34 0 [.ref a] S st P = AW X d 34 1 [.ref a] (.ref a :: S) st P := zAW_st (zd_of zb_X3_isFreeOrNone dX3_isFreeOrNone_0) rfl rfl
theorem E_X3_isFreeOrNone_0n : AW X d 34 0 [.null] S st P = AW X d 34 1 [.null] (.null :: S) st P := zAW_st (zd_of zb_X3_isFreeOrNone dX3_isFreeOrNone_0) rfl rfl
theorem E_X3_isFreeOrNone_1 : AW X d 34 1 [l0] (.ref a :: S) st P = AW X d 34 4 [l0] S st P := zq_null1 (t := 11) (zd_of zb_X3_isFreeOrNone dX3_isFreeOrNone_1) (by decide)
theorem E_X3_isFreeOrNone_1n : AW X d 34 1 [l0] (.null :: S) st P = AW X d 34 11 [l0] S st P := zq_null2 (t := 11) (zd_of zb_X3_isFreeOrNone dX3_isFreeOrNone_1) (by decide)
theorem E_X3_isFreeOrNone_4 : AW X d 34 4 [.ref a] S st P = AW X d 34 5 [.ref a] (.ref a :: S) st P := zAW_st (zd_of zb_X3_isFreeOrNone dX3_isFreeOrNone_4) rfl rfl
theorem E_X3_isFreeOrNone_4n : AW X d 34 4 [.null] S st P = AW X d 34 5 [.null] (.null :: S) st P := zAW_st (zd_of zb_X3_isFreeOrNone dX3_isFreeOrNone_4) rfl rfl
theorem E_X3_isFreeOrNone_5 : AW X d 34 5 [l0] (.ref a :: S) st P = zwith (zget st a 4 6) fun v => AW X d 34 8 [l0] (v :: S) st P := zq_getfield (zd_of zb_X3_isFreeOrNone dX3_isFreeOrNone_5) zo_X3_isFreeOrNone zf_3_32
theorem E_X3_isFreeOrNone_8 : AW X d 34 8 [l0] (.int x :: S) st P = if ¬ x = 0 then AW X d 34 15 [l0] S st P else AW X d 34 11 [l0] S st P := zq_if (c := ¬ x = 0) (zd_of zb_X3_isFreeOrNone dX3_isFreeOrNone_8) (by decide) rfl
theorem E_X3_isFreeOrNone_11 : AW X d 34 11 [l0] S st P = AW X d 34 12 [l0] (.int 1 :: S) st P := zq_iconst (zd_of zb_X3_isFreeOrNone dX3_isFreeOrNone_11) (by decide)
theorem E_X3_isFreeOrNone_12 : AW X d 34 12 [l0] S st P = AW X d 34 16 [l0] S st P := zq_goto (zd_of zb_X3_isFreeOrNone dX3_isFreeOrNone_12) (by decide)
theorem E_X3_isFreeOrNone_15 : AW X d 34 15 [l0] S st P = AW X d 34 16 [l0] (.int 0 :: S) st P := zq_iconst (zd_of zb_X3_isFreeOrNone dX3_isFreeOrNone_15) (by decide)
theorem E_X3_isFreeOrNone_16 : AW X d 34 16 [l0] ([.int x]) st P = zif (x &&& 1 = x) (P (.inl (some (.int x))) st) := by
  by_cases h : x &&& 1 = x
  · rw [zif_of h]; exact zAW_ret (w := (.inl (some (.int x)), st)) (zd_of zb_X3_isFreeOrNone dX3_isFreeOrNone_16) rfl rfl (by simp only [zfin, zr_X3_isFreeOrNone]; rw [if_pos h])
  · rw [zAW_stuck (zd_of zb_X3_isFreeOrNone dX3_isFreeOrNone_16) rfl (by simp only [zfin, zr_X3_isFreeOrNone]; rw [if_neg h]) rfl]; exact propext ⟨fun z => z.elim, fun z => h z.1⟩
theorem A_X3_isFreeOrNone (h1 : zc1 v1 = true) : AC X (d + 1) 34 [v1] st P = AW X d 34 0 [v1] [] st P := AC_eq ⟨⟨(show 1 ≤ zml 34 by decide +kernel), by decide +kernel⟩, by simp [zc1_int, zc1_ref, zc1_float, h1]⟩
theorem E_X3_endPieces_0 : AW X d 35 0 [.ref a] S st P = AW X d 35 1 [.ref a] (.ref a :: S) st P := zAW_st (zd_of zb_X3_endPieces dX3_endPieces_0) rfl rfl
theorem E_X3_endPieces_0n : AW X d 35 0 [.null] S st P = AW X d 35 1 [.null] (.null :: S) st P := zAW_st (zd_of zb_X3_endPieces dX3_endPieces_0) rfl rfl
theorem E_X3_endPieces_1 : AW X d 35 1 [l0] (.ref a :: S) st P = zwith (zget st a 4 8) fun v => AW X d 35 4 [l0] (v :: S) st P := zq_getfield (zd_of zb_X3_endPieces dX3_endPieces_1) zo_X3_endPieces zf_3_45
theorem E_X3_endPieces_4 : AW X d 35 4 [l0] (v1 :: S) st P = zif (S.length ≤ 4) (AC X d 36 [v1] st (zaft X d 35 4 [l0] S P)) := zq_callS (B := [v1]) (S2 := S) (zd_of zb_X3_endPieces dX3_endPieces_4) zo_X3_endPieces (by decide) (by decide) (by decide) zl_3_58 zn_36 (by simp only [List.length_cons]; omega) rfl rfl
theorem E_X3_endPieces_7 : AW X d 35 7 [.ref a] S st P = AW X d 35 8 [.ref a] (.ref a :: S) st P := zAW_st (zd_of zb_X3_endPieces dX3_endPieces_7) rfl rfl
theorem E_X3_endPieces_7n : AW X d 35 7 [.null] S st P = AW X d 35 8 [.null] (.null :: S) st P := zAW_st (zd_of zb_X3_endPieces dX3_endPieces_7) rfl rfl
theorem E_X3_endPieces_8 : AW X d 35 8 [l0] (.ref a :: S) st P = zwith (zget st a 4 9) fun v => AW X d 35 11 [l0] (v :: S) st P := zq_getfield (zd_of zb_X3_endPieces dX3_endPieces_8) zo_X3_endPieces zf_3_52
theorem E_X3_endPieces_11 : AW X d 35 11 [l0] (v1 :: S) st P = zif (S.length ≤ 4) (AC X d 36 [v1] st (zaft X d 35 11 [l0] S P)) := zq_callS (B := [v1]) (S2 := S) (zd_of zb_X3_endPieces dX3_endPieces_11) zo_X3_endPieces (by decide) (by decide) (by decide) zl_3_58 zn_36 (by simp only [List.length_cons]; omega) rfl rfl
theorem E_X3_endPieces_14 : AW X d 35 14 [.ref a] S st P = AW X d 35 15 [.ref a] (.ref a :: S) st P := zAW_st (zd_of zb_X3_endPieces dX3_endPieces_14) rfl rfl
theorem E_X3_endPieces_14n : AW X d 35 14 [.null] S st P = AW X d 35 15 [.null] (.null :: S) st P := zAW_st (zd_of zb_X3_endPieces dX3_endPieces_14) rfl rfl
theorem E_X3_endPieces_15 : AW X d 35 15 [l0] (.ref a :: S) st P = zwith (zget st a 4 10) fun v => AW X d 35 18 [l0] (v :: S) st P := zq_getfield (zd_of zb_X3_endPieces dX3_endPieces_15) zo_X3_endPieces zf_3_55
theorem E_X3_endPieces_18 : AW X d 35 18 [l0] (v1 :: S) st P = zif (S.length ≤ 4) (AC X d 36 [v1] st (zaft X d 35 18 [l0] S P)) := zq_callS (B := [v1]) (S2 := S) (zd_of zb_X3_endPieces dX3_endPieces_18) zo_X3_endPieces (by decide) (by decide) (by decide) zl_3_58 zn_36 (by simp only [List.length_cons]; omega) rfl rfl
theorem E_X3_endPieces_21 : AW X d 35 21 [.ref a] S st P = AW X d 35 22 [.ref a] (.ref a :: S) st P := zAW_st (zd_of zb_X3_endPieces dX3_endPieces_21) rfl rfl
theorem E_X3_endPieces_21n : AW X d 35 21 [.null] S st P = AW X d 35 22 [.null] (.null :: S) st P := zAW_st (zd_of zb_X3_endPieces dX3_endPieces_21) rfl rfl
theorem E_X3_endPieces_22 : AW X d 35 22 [l0] (.ref a :: S) st P = zif (zis st a 4 = true) (zif (S.length ≤ 4) (AC X d 37 [.ref a] st (zaft X d 35 22 [l0] S P))) := zq_callV (B := []) (zd_of zb_X3_endPieces dX3_endPieces_22) zo_X3_endPieces (by decide) zl_3_35 zn_37 rfl rfl rfl
theorem E_X3_endPieces_25 : AW X d 35 25 [l0] [] st P = P (.inl none) st := zAW_ret (w := (.inl none, st)) (zd_of zb_X3_endPieces dX3_endPieces_25) rfl rfl (by simp only [zfin, zr_X3_endPieces])
theorem A_X3_endPieces : AC X (d + 1) 35 [.ref a] st P = AW X d 35 0 [.ref a] [] st P := AC_eq ⟨⟨(show 1 ≤ zml 35 by decide +kernel), by decide +kernel⟩, by simp [zc1_int, zc1_ref, zc1_float]⟩
theorem E_X3_end_0 : AW X d 36 0 [.ref a] S st P = AW X d 36 1 [.ref a] (.ref a :: S) st P := zAW_st (zd_of zb_X3_end dX3_end_0) rfl rfl
theorem E_X3_end_0n : AW X d 36 0 [.null] S st P = AW X d 36 1 [.null] (.null :: S) st P := zAW_st (zd_of zb_X3_end dX3_end_0) rfl rfl
theorem E_X3_end_1 : AW X d 36 1 [l0] (.ref a :: S) st P = AW X d 36 4 [l0] S st P := zq_null1 (t := 9) (zd_of zb_X3_end dX3_end_1) (by decide)
theorem E_X3_end_1n : AW X d 36 1 [l0] (.null :: S) st P = AW X d 36 9 [l0] S st P := zq_null2 (t := 9) (zd_of zb_X3_end dX3_end_1) (by decide)
theorem E_X3_end_4 : AW X d 36 4 [.ref a] S st P = AW X d 36 5 [.ref a] (.ref a :: S) st P := zAW_st (zd_of zb_X3_end dX3_end_4) rfl rfl
theorem E_X3_end_4n : AW X d 36 4 [.null] S st P = AW X d 36 5 [.null] (.null :: S) st P := zAW_st (zd_of zb_X3_end dX3_end_4) rfl rfl
theorem E_X3_end_5 : AW X d 36 5 [l0] S st P = AW X d 36 6 [l0] (.int 3 :: S) st P := zq_iconst (zd_of zb_X3_end dX3_end_5) (by decide)
theorem E_X3_end_6 : AW X d 36 6 [l0] (.int x :: .ref a :: S) st P = zwith (zget st a 4 6) fun _ => AW X d 36 9 [l0] S (zput st a 6 (.int x)) P := zq_putfield (zd_of zb_X3_end dX3_end_6) zo_X3_end zf_3_32 rfl (Or.inl (by decide +kernel))
theorem E_X3_end_9 : AW X d 36 9 [l0] [] st P = P (.inl none) st := zAW_ret (w := (.inl none, st)) (zd_of zb_X3_end dX3_end_9) rfl rfl (by simp only [zfin, zr_X3_end])
theorem A_X3_end (h1 : zc1 v1 = true) : AC X (d + 1) 36 [v1] st P = AW X d 36 0 [v1] [] st P := AC_eq ⟨⟨(show 1 ≤ zml 36 by decide +kernel), by decide +kernel⟩, by simp [zc1_int, zc1_ref, zc1_float, h1]⟩
theorem E_X3_joinPieces_0 : AW X d 37 0 [.ref a] S st P = AW X d 37 1 [.ref a] (.ref a :: S) st P := zAW_st (zd_of zb_X3_joinPieces dX3_joinPieces_0) rfl rfl
theorem E_X3_joinPieces_0n : AW X d 37 0 [.null] S st P = AW X d 37 1 [.null] (.null :: S) st P := zAW_st (zd_of zb_X3_joinPieces dX3_joinPieces_0) rfl rfl
theorem E_X3_joinPieces_1 : AW X d 37 1 [l0] S st P = AW X d 37 2 [l0] (.null :: S) st P := zAW_st (zd_of zb_X3_joinPieces dX3_joinPieces_1) rfl rfl
theorem E_X3_joinPieces_2 : AW X d 37 2 [l0] (.ref b :: .ref a :: S) st P = zwith (zget st a 4 8) fun _ => AW X d 37 5 [l0] S (zput st a 8 (.ref b)) P := zq_putfield (zd_of zb_X3_joinPieces dX3_joinPieces_2) zo_X3_joinPieces zf_3_45 rfl (Or.inl (by decide +kernel))
theorem E_X3_joinPieces_2n : AW X d 37 2 [l0] (.null :: .ref a :: S) st P = zwith (zget st a 4 8) fun _ => AW X d 37 5 [l0] S (zput st a 8 (.null)) P := zq_putfield (zd_of zb_X3_joinPieces dX3_joinPieces_2) zo_X3_joinPieces zf_3_45 rfl (Or.inl (by decide +kernel))
theorem E_X3_joinPieces_5 : AW X d 37 5 [.ref a] S st P = AW X d 37 6 [.ref a] (.ref a :: S) st P := zAW_st (zd_of zb_X3_joinPieces dX3_joinPieces_5) rfl rfl
theorem E_X3_joinPieces_5n : AW X d 37 5 [.null] S st P = AW X d 37 6 [.null] (.null :: S) st P := zAW_st (zd_of zb_X3_joinPieces dX3_joinPieces_5) rfl rfl
theorem E_X3_joinPieces_6 : AW X d 37 6 [l0] S st P = AW X d 37 7 [l0] (.null :: S) st P := zAW_st (zd_of zb_X3_joinPieces dX3_joinPieces_6) rfl rfl
theorem E_X3_joinPieces_7 : AW X d 37 7 [l0] (.ref b :: .ref a :: S) st P = zwith (zget st a 4 9) fun _ => AW X d 37 10 [l0] S (zput st a 9 (.ref b)) P := zq_putfield (zd_of zb_X3_joinPieces dX3_joinPieces_7) zo_X3_joinPieces zf_3_52 rfl (Or.inl (by decide +kernel))
theorem E_X3_joinPieces_7n : AW X d 37 7 [l0] (.null :: .ref a :: S) st P = zwith (zget st a 4 9) fun _ => AW X d 37 10 [l0] S (zput st a 9 (.null)) P := zq_putfield (zd_of zb_X3_joinPieces dX3_joinPieces_7) zo_X3_joinPieces zf_3_52 rfl (Or.inl (by decide +kernel))
theorem E_X3_joinPieces_10 : AW X d 37 10 [.ref a] S st P = AW X d 37 11 [.ref a] (.ref a :: S) st P := zAW_st (zd_of zb_X3_joinPieces dX3_joinPieces_10) rfl rfl
theorem E_X3_joinPieces_10n : AW X d 37 10 [.null] S st P = AW X d 37 11 [.null] (.null :: S) st P := zAW_st (zd_of zb_X3_joinPieces dX3_joinPieces_10) rfl rfl
theorem E_X3_joinPieces_11 : AW X d 37 11 [l0] S st P = AW X d 37 12 [l0] (.null :: S) st P := zAW_st (zd_of zb_X3_joinPieces dX3_joinPieces_11) rfl rfl
theorem E_X3_joinPieces_12 : AW X d 37 12 [l0] (.ref b :: .ref a :: S) st P = zwith (zget st a 4 10) fun _ => AW X d 37 15 [l0] S (zput st a 10 (.ref b)) P := zq_putfield (zd_of zb_X3_joinPieces dX3_joinPieces_12) zo_X3_joinPieces zf_3_55 rfl (Or.inl (by decide +kernel))
theorem E_X3_joinPieces_12n : AW X d 37 12 [l0] (.null :: .ref a :: S) st P = zwith (zget st a 4 10) fun _ => AW X d 37 15 [l0] S (zput st a 10 (.null)) P := zq_putfield (zd_of zb_X3_joinPieces dX3_joinPieces_12) zo_X3_joinPieces zf_3_55 rfl (Or.inl (by decide +kernel))
theorem E_X3_joinPieces_15 : AW X d 37 15 [l0] [] st P = P (.inl none) st := zAW_ret (w := (.inl none, st)) (zd_of zb_X3_joinPieces dX3_joinPieces_15) rfl rfl (by simp only [zfin, zr_X3_joinPieces])
theorem A_X3_joinPieces : AC X (d + 1) 37 [.ref a] st P = AW X d 37 0 [.ref a] [] st P := AC_eq ⟨⟨(show 1 ≤ zml 37 by decide +kernel), by decide +kernel⟩, by simp [zc1_int, zc1_ref, zc1_float]⟩
theorem E_Jxa1e45_init_da8c8_0 : AW X d 110 0 [.ref a] S st P = AW X d 110 1 [.ref a] (.ref a :: S) st P := zAW_st (zd_of zb_Jxa1e45_init_da8c8 dJxa1e45_init_da8c8_0) rfl rfl
theorem E_Jxa1e45_init_da8c8_0n : AW X d 110 0 [.null] S st P = AW X d 110 1 [.null] (.null :: S) st P := zAW_st (zd_of zb_Jxa1e45_init_da8c8 dJxa1e45_init_da8c8_0) rfl rfl
theorem E_Jxa1e45_init_da8c8_1 : AW X d 110 1 [l0] (.ref a :: S) st P = zif (S.length ≤ 4) (AW X d 110 4 [l0] S st P) := zq_obj (zd_of zb_Jxa1e45_init_da8c8 dJxa1e45_init_da8c8_1) zo_Jxa1e45_init_da8c8 (by decide) (by decide +kernel)
theorem E_Jxa1e45_init_da8c8_4 : AW X d 110 4 [l0] [] st P = P (.inl none) st := zAW_ret (w := (.inl none, st)) (zd_of zb_Jxa1e45_init_da8c8 dJxa1e45_init_da8c8_4) rfl rfl (by simp only [zfin, zr_Jxa1e45_init_da8c8])
theorem A_Jxa1e45_init_da8c8 : AC X (d + 1) 110 [.ref a] st P = AW X d 110 0 [.ref a] [] st P := AC_eq ⟨⟨(show 1 ≤ zml 110 by decide +kernel), by decide +kernel⟩, by simp [zc1_int, zc1_ref, zc1_float]⟩
theorem E_Jxc12de_init_da8c8_0 : AW X d 111 0 [.ref a] S st P = AW X d 111 1 [.ref a] (.ref a :: S) st P := zAW_st (zd_of zb_Jxc12de_init_da8c8 dJxc12de_init_da8c8_0) rfl rfl
theorem E_Jxc12de_init_da8c8_0n : AW X d 111 0 [.null] S st P = AW X d 111 1 [.null] (.null :: S) st P := zAW_st (zd_of zb_Jxc12de_init_da8c8 dJxc12de_init_da8c8_0) rfl rfl
theorem E_Jxc12de_init_da8c8_1 : AW X d 111 1 [l0] (.ref a :: S) st P = zif (S.length ≤ 4) (AC X d 110 [.ref a] st (zaft X d 111 1 [l0] S P)) := zq_callI (B := []) (zd_of zb_Jxc12de_init_da8c8 dJxc12de_init_da8c8_1) zo_Jxc12de_init_da8c8 zl_9_1 (by decide) (by decide) zn_110 rfl rfl
theorem E_Jxc12de_init_da8c8_4 : AW X d 111 4 [.ref a] S st P = AW X d 111 5 [.ref a] (.ref a :: S) st P := zAW_st (zd_of zb_Jxc12de_init_da8c8 dJxc12de_init_da8c8_4) rfl rfl
theorem E_Jxc12de_init_da8c8_4n : AW X d 111 4 [.null] S st P = AW X d 111 5 [.null] (.null :: S) st P := zAW_st (zd_of zb_Jxc12de_init_da8c8 dJxc12de_init_da8c8_4) rfl rfl
theorem E_Jxc12de_init_da8c8_5 : AW X d 111 5 [l0] S st P = AW X d 111 6 [l0] (.int 0 :: S) st P := zq_iconst (zd_of zb_Jxc12de_init_da8c8 dJxc12de_init_da8c8_5) (by decide)
theorem E_Jxc12de_init_da8c8_6 : AW X d 111 6 [l0] (.int x :: .ref a :: S) st P = zwith (zget st a 0 0) fun _ => AW X d 111 9 [l0] S (zput st a 0 (.int x)) P := zq_putfield (zd_of zb_Jxc12de_init_da8c8 dJxc12de_init_da8c8_6) zo_Jxc12de_init_da8c8 zf_9_7 rfl (Or.inl (by decide +kernel))
theorem E_Jxc12de_init_da8c8_9 : AW X d 111 9 [l0] [] st P = P (.inl none) st := zAW_ret (w := (.inl none, st)) (zd_of zb_Jxc12de_init_da8c8 dJxc12de_init_da8c8_9) rfl rfl (by simp only [zfin, zr_Jxc12de_init_da8c8])
theorem A_Jxc12de_init_da8c8 : AC X (d + 1) 111 [.ref a] st P = AW X d 111 0 [.ref a] [] st P := AC_eq ⟨⟨(show 1 ≤ zml 111 by decide +kernel), by decide +kernel⟩, by simp [zc1_int, zc1_ref, zc1_float]⟩
theorem E_Jx4a65c_init_da8c8_0 : AW X d 112 0 [.ref a] S st P = AW X d 112 1 [.ref a] (.ref a :: S) st P := zAW_st (zd_of zb_Jx4a65c_init_da8c8 dJx4a65c_init_da8c8_0) rfl rfl
theorem E_Jx4a65c_init_da8c8_0n : AW X d 112 0 [.null] S st P = AW X d 112 1 [.null] (.null :: S) st P := zAW_st (zd_of zb_Jx4a65c_init_da8c8 dJx4a65c_init_da8c8_0) rfl rfl
theorem E_Jx4a65c_init_da8c8_1 : AW X d 112 1 [l0] (.ref a :: S) st P = zif (S.length ≤ 4) (AC X d 111 [.ref a] st (zaft X d 112 1 [l0] S P)) := zq_callI (B := []) (zd_of zb_Jx4a65c_init_da8c8 dJx4a65c_init_da8c8_1) zo_Jx4a65c_init_da8c8 zl_10_1 (by decide) (by decide) zn_111 rfl rfl
theorem E_Jx4a65c_init_da8c8_4 : AW X d 112 4 [.ref a] S st P = AW X d 112 5 [.ref a] (.ref a :: S) st P := zAW_st (zd_of zb_Jx4a65c_init_da8c8 dJx4a65c_init_da8c8_4) rfl rfl
theorem E_Jx4a65c_init_da8c8_4n : AW X d 112 4 [.null] S st P = AW X d 112 5 [.null] (.null :: S) st P := zAW_st (zd_of zb_Jx4a65c_init_da8c8 dJx4a65c_init_da8c8_4) rfl rfl
theorem E_Jx4a65c_init_da8c8_5 : AW X d 112 5 [l0] S st P = AW X d 112 8 [l0] (.ref 0 :: S) st P := zq_getstatic (zd_of zb_Jx4a65c_init_da8c8 dJx4a65c_init_da8c8_5) zo_Jx4a65c_init_da8c8
theorem E_Jx4a65c_init_da8c8_8 : AW X d 112 8 [l0] (.ref b :: .ref a :: S) st P = zwith (zget st a 0 1) fun _ => AW X d 112 11 [l0] S (zput st a 1 (.ref b)) P := zq_putfield (zd_of zb_Jx4a65c_init_da8c8 dJx4a65c_init_da8c8_8) zo_Jx4a65c_init_da8c8 zf_10_9 rfl (Or.inl (by decide +kernel))
theorem E_Jx4a65c_init_da8c8_8n : AW X d 112 8 [l0] (.null :: .ref a :: S) st P = zwith (zget st a 0 1) fun _ => AW X d 112 11 [l0] S (zput st a 1 (.null)) P := zq_putfield (zd_of zb_Jx4a65c_init_da8c8 dJx4a65c_init_da8c8_8) zo_Jx4a65c_init_da8c8 zf_10_9 rfl (Or.inl (by decide +kernel))
theorem E_Jx4a65c_init_da8c8_11 : AW X d 112 11 [l0] [] st P = P (.inl none) st := zAW_ret (w := (.inl none, st)) (zd_of zb_Jx4a65c_init_da8c8 dJx4a65c_init_da8c8_11) rfl rfl (by simp only [zfin, zr_Jx4a65c_init_da8c8])
theorem A_Jx4a65c_init_da8c8 : AC X (d + 1) 112 [.ref a] st P = AW X d 112 0 [.ref a] [] st P := AC_eq ⟨⟨(show 1 ≤ zml 112 by decide +kernel), by decide +kernel⟩, by simp [zc1_int, zc1_ref, zc1_float]⟩
theorem E_Jx4a65c_grow_92f84_0 : AW X d 113 0 [.ref a, l1, l2, l3] S st P = AW X d 113 1 [.ref a, l1, l2, l3] (.ref a :: S) st P := zAW_st (zd_of zb_Jx4a65c_grow_92f84 dJx4a65c_grow_92f84_0) rfl rfl
theorem E_Jx4a65c_grow_92f84_0n : AW X d 113 0 [.null, l1, l2, l3] S st P = AW X d 113 1 [.null, l1, l2, l3] (.null :: S) st P := zAW_st (zd_of zb_Jx4a65c_grow_92f84 dJx4a65c_grow_92f84_0) rfl rfl
theorem E_Jx4a65c_grow_92f84_1 : AW X d 113 1 [l0, l1, l2, l3] (.ref a :: S) st P = zwith (zget st a 0 1) fun v => AW X d 113 4 [l0, l1, l2, l3] (v :: S) st P := zq_getfield (zd_of zb_Jx4a65c_grow_92f84 dJx4a65c_grow_92f84_1) zo_Jx4a65c_grow_92f84 zf_10_9
theorem E_Jx4a65c_grow_92f84_4 : AW X d 113 4 [l0, l1, l2, l3] (.ref a :: S) st P = zwith (zlen X st a) fun n => AW X d 113 5 [l0, l1, l2, l3] (.int (Int32.ofNat n) :: S) st P := zq_alen (zd_of zb_Jx4a65c_grow_92f84 dJx4a65c_grow_92f84_4)
theorem E_Jx4a65c_grow_92f84_5 : AW X d 113 5 [l0, l1, l2, l3] (.int x :: S) st P = AW X d 113 6 [l0, l1, .int x, l3] S st P := zAW_st (zd_of zb_Jx4a65c_grow_92f84 dJx4a65c_grow_92f84_5) rfl rfl
theorem E_Jx4a65c_grow_92f84_6 : AW X d 113 6 [l0, l1, .int x, l3] S st P = AW X d 113 7 [l0, l1, .int x, l3] (.int x :: S) st P := zAW_st (zd_of zb_Jx4a65c_grow_92f84 dJx4a65c_grow_92f84_6) rfl rfl
theorem E_Jx4a65c_grow_92f84_7 : AW X d 113 7 [l0, l1, l2, l3] (.int x :: S) st P = if 0 < x then AW X d 113 20 [l0, l1, l2, l3] S st P else AW X d 113 10 [l0, l1, l2, l3] S st P := zq_if (c := 0 < x) (zd_of zb_Jx4a65c_grow_92f84 dJx4a65c_grow_92f84_7) (by decide) rfl
theorem E_Jx4a65c_grow_92f84_10 : AW X d 113 10 [.ref a, l1, l2, l3] S st P = AW X d 113 11 [.ref a, l1, l2, l3] (.ref a :: S) st P := zAW_st (zd_of zb_Jx4a65c_grow_92f84 dJx4a65c_grow_92f84_10) rfl rfl
theorem E_Jx4a65c_grow_92f84_10n : AW X d 113 10 [.null, l1, l2, l3] S st P = AW X d 113 11 [.null, l1, l2, l3] (.null :: S) st P := zAW_st (zd_of zb_Jx4a65c_grow_92f84 dJx4a65c_grow_92f84_10) rfl rfl
theorem E_Jx4a65c_grow_92f84_11 : AW X d 113 11 [l0, l1, l2, l3] (.ref a :: S) st P = zwith (zget st a 0 1) fun v => AW X d 113 14 [l0, l1, l2, l3] (v :: S) st P := zq_getfield (zd_of zb_Jx4a65c_grow_92f84 dJx4a65c_grow_92f84_11) zo_Jx4a65c_grow_92f84 zf_10_9
theorem E_Jx4a65c_grow_92f84_14 : AW X d 113 14 [l0, l1, l2, l3] S st P = AW X d 113 17 [l0, l1, l2, l3] (.ref 0 :: S) st P := zq_getstatic (zd_of zb_Jx4a65c_grow_92f84 dJx4a65c_grow_92f84_14) zo_Jx4a65c_grow_92f84
theorem E_Jx4a65c_grow_92f84_17 : AW X d 113 17 [l0, l1, l2, l3] (.ref b :: .ref a :: S) st P = zif (a = b ∨ (a ≠ 1 ∧ a ≠ 2 ∧ b ≠ 1 ∧ b ≠ 2)) (if a = b then AW X d 113 45 [l0, l1, l2, l3] S st P else AW X d 113 20 [l0, l1, l2, l3] S st P) := zq_acmp_eq (zd_of zb_Jx4a65c_grow_92f84 dJx4a65c_grow_92f84_17) (by decide)
theorem E_Jx4a65c_grow_92f84_20 : AW X d 113 20 [l0, l1, .int x, l3] S st P = AW X d 113 21 [l0, l1, .int x, l3] (.int x :: S) st P := zAW_st (zd_of zb_Jx4a65c_grow_92f84 dJx4a65c_grow_92f84_20) rfl rfl
theorem E_Jx4a65c_grow_92f84_21 : AW X d 113 21 [l0, .int x, l2, l3] S st P = AW X d 113 22 [l0, .int x, l2, l3] (.int x :: S) st P := zAW_st (zd_of zb_Jx4a65c_grow_92f84 dJx4a65c_grow_92f84_21) rfl rfl
theorem E_Jx4a65c_grow_92f84_22 : AW X d 113 22 [l0, l1, .int x, l3] S st P = AW X d 113 23 [l0, l1, .int x, l3] (.int x :: S) st P := zAW_st (zd_of zb_Jx4a65c_grow_92f84 dJx4a65c_grow_92f84_22) rfl rfl
theorem E_Jx4a65c_grow_92f84_23 : AW X d 113 23 [l0, l1, l2, l3] (.int y :: .int x :: S) st P = AW X d 113 24 [l0, l1, l2, l3] (.int (x - y) :: S) st P := zAW_st (zd_of zb_Jx4a65c_grow_92f84 dJx4a65c_grow_92f84_23) rfl rfl
theorem E_Jx4a65c_grow_92f84_24 : AW X d 113 24 [l0, l1, .int x, l3] S st P = AW X d 113 25 [l0, l1, .int x, l3] (.int x :: S) st P := zAW_st (zd_of zb_Jx4a65c_grow_92f84 dJx4a65c_grow_92f84_24) rfl rfl
theorem E_Jx4a65c_grow_92f84_25 : AW X d 113 25 [l0, l1, l2, l3] S st P = AW X d 113 26 [l0, l1, l2, l3] (.int 1 :: S) st P := zq_iconst (zd_of zb_Jx4a65c_grow_92f84 dJx4a65c_grow_92f84_25) (by decide)
theorem E_Jx4a65c_grow_92f84_26 : AW X d 113 26 [l0, l1, l2, l3] (.int y :: .int x :: S) st P = AW X d 113 27 [l0, l1, l2, l3] (.int (x >>> (y &&& 31)) :: S) st P := zAW_st (zd_of zb_Jx4a65c_grow_92f84 dJx4a65c_grow_92f84_26) rfl rfl
theorem E_Jx4a65c_grow_92f84_27 : AW X d 113 27 [l0, l1, l2, l3] (.int x3 :: .int y :: .int x :: S) st P = zif (S.length ≤ 4) (AC X d 124 [.int x, .int y, .int x3] st (zaft X d 113 27 [l0, l1, l2, l3] S P)) := zq_callS (B := [.int x, .int y, .int x3]) (S2 := S) (zd_of zb_Jx4a65c_grow_92f84 dJx4a65c_grow_92f84_27) zo_Jx4a65c_grow_92f84 (by decide) (by decide) (by decide) zl_10_73 zn_124 (by simp only [List.length_cons]; omega) rfl rfl
theorem E_Jx4a65c_grow_92f84_30 : AW X d 113 30 [l0, l1, l2, l3] (.int x :: S) st P = AW X d 113 31 [l0, l1, l2, .int x] S st P := zAW_st (zd_of zb_Jx4a65c_grow_92f84 dJx4a65c_grow_92f84_30) rfl rfl
theorem E_Jx4a65c_grow_92f84_31 : AW X d 113 31 [.ref a, l1, l2, l3] S st P = AW X d 113 32 [.ref a, l1, l2, l3] (.ref a :: S) st P := zAW_st (zd_of zb_Jx4a65c_grow_92f84 dJx4a65c_grow_92f84_31) rfl rfl
theorem E_Jx4a65c_grow_92f84_31n : AW X d 113 31 [.null, l1, l2, l3] S st P = AW X d 113 32 [.null, l1, l2, l3] (.null :: S) st P := zAW_st (zd_of zb_Jx4a65c_grow_92f84 dJx4a65c_grow_92f84_31) rfl rfl
theorem E_Jx4a65c_grow_92f84_32 : AW X d 113 32 [.ref a, l1, l2, l3] S st P = AW X d 113 33 [.ref a, l1, l2, l3] (.ref a :: S) st P := zAW_st (zd_of zb_Jx4a65c_grow_92f84 dJx4a65c_grow_92f84_32) rfl rfl
theorem E_Jx4a65c_grow_92f84_32n : AW X d 113 32 [.null, l1, l2, l3] S st P = AW X d 113 33 [.null, l1, l2, l3] (.null :: S) st P := zAW_st (zd_of zb_Jx4a65c_grow_92f84 dJx4a65c_grow_92f84_32) rfl rfl
theorem E_Jx4a65c_grow_92f84_33 : AW X d 113 33 [l0, l1, l2, l3] (.ref a :: S) st P = zwith (zget st a 0 1) fun v => AW X d 113 36 [l0, l1, l2, l3] (v :: S) st P := zq_getfield (zd_of zb_Jx4a65c_grow_92f84 dJx4a65c_grow_92f84_33) zo_Jx4a65c_grow_92f84 zf_10_9
theorem E_Jx4a65c_grow_92f84_36 : AW X d 113 36 [l0, l1, l2, .int x] S st P = AW X d 113 37 [l0, l1, l2, .int x] (.int x :: S) st P := zAW_st (zd_of zb_Jx4a65c_grow_92f84 dJx4a65c_grow_92f84_36) rfl rfl
theorem E_Jx4a65c_grow_92f84_37 : AW X d 113 37 [l0, l1, l2, l3] (.int x :: v1 :: S) st P = zif (S.length ≤ 4) (AC X d 121 [v1, .int x] st (zaft X d 113 37 [l0, l1, l2, l3] S P)) := zq_callS (B := [v1, .int x]) (S2 := S) (zd_of zb_Jx4a65c_grow_92f84 dJx4a65c_grow_92f84_37) zo_Jx4a65c_grow_92f84 (by decide) (by decide) (by decide) zl_10_66 zn_121 (by simp only [List.length_cons]; omega) rfl rfl
theorem E_Jx4a65c_grow_92f84_40 : AW X d 113 40 [l0, l1, l2, l3] (.ref b :: .ref a :: S) st P = AW X d 113 41 [l0, l1, l2, l3] (.ref b :: .ref a :: .ref b :: S) st P := zq_dup_x1 (zd_of zb_Jx4a65c_grow_92f84 dJx4a65c_grow_92f84_40) rfl rfl
theorem E_Jx4a65c_grow_92f84_40i : AW X d 113 40 [l0, l1, l2, l3] (.int x :: .ref a :: S) st P = AW X d 113 41 [l0, l1, l2, l3] (.int x :: .ref a :: .int x :: S) st P := zq_dup_x1 (zd_of zb_Jx4a65c_grow_92f84 dJx4a65c_grow_92f84_40) rfl rfl
theorem E_Jx4a65c_grow_92f84_40j : AW X d 113 40 [l0, l1, l2, l3] (.int x :: .int y :: S) st P = AW X d 113 41 [l0, l1, l2, l3] (.int x :: .int y :: .int x :: S) st P := zq_dup_x1 (zd_of zb_Jx4a65c_grow_92f84 dJx4a65c_grow_92f84_40) rfl rfl
theorem E_Jx4a65c_grow_92f84_41 : AW X d 113 41 [l0, l1, l2, l3] (.ref b :: .ref a :: S) st P = zwith (zget st a 0 1) fun _ => AW X d 113 44 [l0, l1, l2, l3] S (zput st a 1 (.ref b)) P := zq_putfield (zd_of zb_Jx4a65c_grow_92f84 dJx4a65c_grow_92f84_41) zo_Jx4a65c_grow_92f84 zf_10_9 rfl (Or.inl (by decide +kernel))
theorem E_Jx4a65c_grow_92f84_41n : AW X d 113 41 [l0, l1, l2, l3] (.null :: .ref a :: S) st P = zwith (zget st a 0 1) fun _ => AW X d 113 44 [l0, l1, l2, l3] S (zput st a 1 (.null)) P := zq_putfield (zd_of zb_Jx4a65c_grow_92f84 dJx4a65c_grow_92f84_41) zo_Jx4a65c_grow_92f84 zf_10_9 rfl (Or.inl (by decide +kernel))
theorem E_Jx4a65c_grow_92f84_44 : AW X d 113 44 [l0, l1, l2, l3] ([.ref a]) st P = P (.inl (some (.ref a))) st := zAW_ret (w := (.inl (some (.ref a)), st)) (zd_of zb_Jx4a65c_grow_92f84 dJx4a65c_grow_92f84_44) rfl rfl (by simp only [zfin, zr_Jx4a65c_grow_92f84])
theorem E_Jx4a65c_grow_92f84_44n : AW X d 113 44 [l0, l1, l2, l3] [.null] st P = P (.inl (some .null)) st := zAW_ret (w := (.inl (some .null), st)) (zd_of zb_Jx4a65c_grow_92f84 dJx4a65c_grow_92f84_44) rfl rfl (by simp only [zfin, zr_Jx4a65c_grow_92f84])
theorem E_Jx4a65c_grow_92f84_45 : AW X d 113 45 [.ref a, l1, l2, l3] S st P = AW X d 113 46 [.ref a, l1, l2, l3] (.ref a :: S) st P := zAW_st (zd_of zb_Jx4a65c_grow_92f84 dJx4a65c_grow_92f84_45) rfl rfl
theorem E_Jx4a65c_grow_92f84_45n : AW X d 113 45 [.null, l1, l2, l3] S st P = AW X d 113 46 [.null, l1, l2, l3] (.null :: S) st P := zAW_st (zd_of zb_Jx4a65c_grow_92f84 dJx4a65c_grow_92f84_45) rfl rfl
theorem E_Jx4a65c_grow_92f84_46 : AW X d 113 46 [l0, l1, l2, l3] S st P = AW X d 113 48 [l0, l1, l2, l3] (.int 10 :: S) st P := zq_bipush (zd_of zb_Jx4a65c_grow_92f84 dJx4a65c_grow_92f84_46) (by decide)
theorem E_Jx4a65c_grow_92f84_48 : AW X d 113 48 [l0, .int x, l2, l3] S st P = AW X d 113 49 [l0, .int x, l2, l3] (.int x :: S) st P := zAW_st (zd_of zb_Jx4a65c_grow_92f84 dJx4a65c_grow_92f84_48) rfl rfl
theorem E_Jx4a65c_grow_92f84_49 : AW X d 113 49 [l0, l1, l2, l3] (.int y :: .int x :: S) st P = zif (S.length ≤ 4) (AW X d 113 52 [l0, l1, l2, l3] (.int (if x < y then y else x) :: S) st P) := zq_max (zd_of zb_Jx4a65c_grow_92f84 dJx4a65c_grow_92f84_49) zo_Jx4a65c_grow_92f84 (by decide) (by decide) (by decide) (by decide +kernel)
theorem E_Jx4a65c_grow_92f84_52 : AW X d 113 52 [l0, l1, l2, l3] (.int x :: S) st P = zif (¬ (x < 0 ∨ 1000000 < x.toNatClampNeg)) (AW X d 113 55 [l0, l1, l2, l3] (.ref st.2.length :: S) (znwa st x.toNatClampNeg (.inr (.inr (.inr (.inr fun _ => none))))) P) := zq_anew (zd_of zb_Jx4a65c_grow_92f84 dJx4a65c_grow_92f84_52) (by decide +kernel)
theorem E_Jx4a65c_grow_92f84_55 : AW X d 113 55 [l0, l1, l2, l3] (.ref b :: .ref a :: S) st P = AW X d 113 56 [l0, l1, l2, l3] (.ref b :: .ref a :: .ref b :: S) st P := zq_dup_x1 (zd_of zb_Jx4a65c_grow_92f84 dJx4a65c_grow_92f84_55) rfl rfl
theorem E_Jx4a65c_grow_92f84_55i : AW X d 113 55 [l0, l1, l2, l3] (.int x :: .ref a :: S) st P = AW X d 113 56 [l0, l1, l2, l3] (.int x :: .ref a :: .int x :: S) st P := zq_dup_x1 (zd_of zb_Jx4a65c_grow_92f84 dJx4a65c_grow_92f84_55) rfl rfl
theorem E_Jx4a65c_grow_92f84_55j : AW X d 113 55 [l0, l1, l2, l3] (.int x :: .int y :: S) st P = AW X d 113 56 [l0, l1, l2, l3] (.int x :: .int y :: .int x :: S) st P := zq_dup_x1 (zd_of zb_Jx4a65c_grow_92f84 dJx4a65c_grow_92f84_55) rfl rfl
theorem E_Jx4a65c_grow_92f84_56 : AW X d 113 56 [l0, l1, l2, l3] (.ref b :: .ref a :: S) st P = zwith (zget st a 0 1) fun _ => AW X d 113 59 [l0, l1, l2, l3] S (zput st a 1 (.ref b)) P := zq_putfield (zd_of zb_Jx4a65c_grow_92f84 dJx4a65c_grow_92f84_56) zo_Jx4a65c_grow_92f84 zf_10_9 rfl (Or.inl (by decide +kernel))
theorem E_Jx4a65c_grow_92f84_56n : AW X d 113 56 [l0, l1, l2, l3] (.null :: .ref a :: S) st P = zwith (zget st a 0 1) fun _ => AW X d 113 59 [l0, l1, l2, l3] S (zput st a 1 (.null)) P := zq_putfield (zd_of zb_Jx4a65c_grow_92f84 dJx4a65c_grow_92f84_56) zo_Jx4a65c_grow_92f84 zf_10_9 rfl (Or.inl (by decide +kernel))
theorem E_Jx4a65c_grow_92f84_59 : AW X d 113 59 [l0, l1, l2, l3] ([.ref a]) st P = P (.inl (some (.ref a))) st := zAW_ret (w := (.inl (some (.ref a)), st)) (zd_of zb_Jx4a65c_grow_92f84 dJx4a65c_grow_92f84_59) rfl rfl (by simp only [zfin, zr_Jx4a65c_grow_92f84])
theorem E_Jx4a65c_grow_92f84_59n : AW X d 113 59 [l0, l1, l2, l3] [.null] st P = P (.inl (some .null)) st := zAW_ret (w := (.inl (some .null), st)) (zd_of zb_Jx4a65c_grow_92f84 dJx4a65c_grow_92f84_59) rfl rfl (by simp only [zfin, zr_Jx4a65c_grow_92f84])
theorem A_Jx4a65c_grow_92f84 : AC X (d + 1) 113 [.ref a, .int x] st P = AW X d 113 0 [.ref a, .int x, .retAddr 0, .retAddr 0] [] st P := AC_eq ⟨⟨(show 2 ≤ zml 113 by decide +kernel), by decide +kernel⟩, by simp [zc1_int, zc1_ref, zc1_float]⟩
theorem E_Jx4a65c_grow_d5877_0 : AW X d 114 0 [.ref a] S st P = AW X d 114 1 [.ref a] (.ref a :: S) st P := zAW_st (zd_of zb_Jx4a65c_grow_d5877 dJx4a65c_grow_d5877_0) rfl rfl
theorem E_Jx4a65c_grow_d5877_0n : AW X d 114 0 [.null] S st P = AW X d 114 1 [.null] (.null :: S) st P := zAW_st (zd_of zb_Jx4a65c_grow_d5877 dJx4a65c_grow_d5877_0) rfl rfl
theorem E_Jx4a65c_grow_d5877_1 : AW X d 114 1 [.ref a] S st P = AW X d 114 2 [.ref a] (.ref a :: S) st P := zAW_st (zd_of zb_Jx4a65c_grow_d5877 dJx4a65c_grow_d5877_1) rfl rfl
theorem E_Jx4a65c_grow_d5877_1n : AW X d 114 1 [.null] S st P = AW X d 114 2 [.null] (.null :: S) st P := zAW_st (zd_of zb_Jx4a65c_grow_d5877 dJx4a65c_grow_d5877_1) rfl rfl
theorem E_Jx4a65c_grow_d5877_2 : AW X d 114 2 [l0] (.ref a :: S) st P = zwith (zget st a 0 2) fun v => AW X d 114 5 [l0] (v :: S) st P := zq_getfield (zd_of zb_Jx4a65c_grow_d5877 dJx4a65c_grow_d5877_2) zo_Jx4a65c_grow_d5877 zf_10_48
theorem E_Jx4a65c_grow_d5877_5 : AW X d 114 5 [l0] S st P = AW X d 114 6 [l0] (.int 1 :: S) st P := zq_iconst (zd_of zb_Jx4a65c_grow_d5877 dJx4a65c_grow_d5877_5) (by decide)
theorem E_Jx4a65c_grow_d5877_6 : AW X d 114 6 [l0] (.int y :: .int x :: S) st P = AW X d 114 7 [l0] (.int (x + y) :: S) st P := zAW_st (zd_of zb_Jx4a65c_grow_d5877 dJx4a65c_grow_d5877_6) rfl rfl
theorem E_Jx4a65c_grow_d5877_7 : AW X d 114 7 [l0] (.int x :: .ref a :: S) st P = zif (zis st a 0 = true) (zif (S.length ≤ 4) (AC X d 113 [.ref a, .int x] st (zaft X d 114 7 [l0] S P))) := zq_callV (B := [.int x]) (zd_of zb_Jx4a65c_grow_d5877 dJx4a65c_grow_d5877_7) zo_Jx4a65c_grow_d5877 (by decide) zl_10_69 zn_113 rfl rfl rfl
theorem E_Jx4a65c_grow_d5877_10 : AW X d 114 10 [l0] ([.ref a]) st P = P (.inl (some (.ref a))) st := zAW_ret (w := (.inl (some (.ref a)), st)) (zd_of zb_Jx4a65c_grow_d5877 dJx4a65c_grow_d5877_10) rfl rfl (by simp only [zfin, zr_Jx4a65c_grow_d5877])
theorem E_Jx4a65c_grow_d5877_10n : AW X d 114 10 [l0] [.null] st P = P (.inl (some .null)) st := zAW_ret (w := (.inl (some .null), st)) (zd_of zb_Jx4a65c_grow_d5877 dJx4a65c_grow_d5877_10) rfl rfl (by simp only [zfin, zr_Jx4a65c_grow_d5877])
theorem A_Jx4a65c_grow_d5877 : AC X (d + 1) 114 [.ref a] st P = AW X d 114 0 [.ref a] [] st P := AC_eq ⟨⟨(show 1 ≤ zml 114 by decide +kernel), by decide +kernel⟩, by simp [zc1_int, zc1_ref, zc1_float]⟩
theorem E_Jx4a65c_size_8abf5_0 : AW X d 115 0 [.ref a] S st P = AW X d 115 1 [.ref a] (.ref a :: S) st P := zAW_st (zd_of zb_Jx4a65c_size_8abf5 dJx4a65c_size_8abf5_0) rfl rfl
theorem E_Jx4a65c_size_8abf5_0n : AW X d 115 0 [.null] S st P = AW X d 115 1 [.null] (.null :: S) st P := zAW_st (zd_of zb_Jx4a65c_size_8abf5 dJx4a65c_size_8abf5_0) rfl rfl
theorem E_Jx4a65c_size_8abf5_1 : AW X d 115 1 [l0] (.ref a :: S) st P = zwith (zget st a 0 2) fun v => AW X d 115 4 [l0] (v :: S) st P := zq_getfield (zd_of zb_Jx4a65c_size_8abf5 dJx4a65c_size_8abf5_1) zo_Jx4a65c_size_8abf5 zf_10_48
theorem E_Jx4a65c_size_8abf5_4 : AW X d 115 4 [l0] ([.int x]) st P = P (.inl (some (.int x))) st := zAW_ret (w := (.inl (some (.int x)), st)) (zd_of zb_Jx4a65c_size_8abf5 dJx4a65c_size_8abf5_4) rfl rfl (by simp only [zfin, zr_Jx4a65c_size_8abf5])
theorem A_Jx4a65c_size_8abf5 : AC X (d + 1) 115 [.ref a] st P = AW X d 115 0 [.ref a] [] st P := AC_eq ⟨⟨(show 1 ≤ zml 115 by decide +kernel), by decide +kernel⟩, by simp [zc1_int, zc1_ref, zc1_float]⟩
theorem E_Jx4a65c_elementData_915e3_0 : AW X d 116 0 [.ref a, l1] S st P = AW X d 116 1 [.ref a, l1] (.ref a :: S) st P := zAW_st (zd_of zb_Jx4a65c_elementData_915e3 dJx4a65c_elementData_915e3_0) rfl rfl
theorem E_Jx4a65c_elementData_915e3_0n : AW X d 116 0 [.null, l1] S st P = AW X d 116 1 [.null, l1] (.null :: S) st P := zAW_st (zd_of zb_Jx4a65c_elementData_915e3 dJx4a65c_elementData_915e3_0) rfl rfl
theorem E_Jx4a65c_elementData_915e3_1 : AW X d 116 1 [l0, l1] (.ref a :: S) st P = zwith (zget st a 0 1) fun v => AW X d 116 4 [l0, l1] (v :: S) st P := zq_getfield (zd_of zb_Jx4a65c_elementData_915e3 dJx4a65c_elementData_915e3_1) zo_Jx4a65c_elementData_915e3 zf_10_9
theorem E_Jx4a65c_elementData_915e3_4 : AW X d 116 4 [l0, .int x] S st P = AW X d 116 5 [l0, .int x] (.int x :: S) st P := zAW_st (zd_of zb_Jx4a65c_elementData_915e3 dJx4a65c_elementData_915e3_4) rfl rfl
theorem E_Jx4a65c_elementData_915e3_5 : AW X d 116 5 [l0, l1] (.int x :: .ref a :: S) st P = zwith (zaR st a) fun q => zwith (zix x q.1) fun j => AW X d 116 6 [l0, l1] (va_rf (q.2 j) :: S) st P := zq_aaload (zd_of zb_Jx4a65c_elementData_915e3 dJx4a65c_elementData_915e3_5)
theorem E_Jx4a65c_elementData_915e3_6 : AW X d 116 6 [l0, l1] ([.ref a]) st P = P (.inl (some (.ref a))) st := zAW_ret (w := (.inl (some (.ref a)), st)) (zd_of zb_Jx4a65c_elementData_915e3 dJx4a65c_elementData_915e3_6) rfl rfl (by simp only [zfin, zr_Jx4a65c_elementData_915e3])
theorem E_Jx4a65c_elementData_915e3_6n : AW X d 116 6 [l0, l1] [.null] st P = P (.inl (some .null)) st := zAW_ret (w := (.inl (some .null), st)) (zd_of zb_Jx4a65c_elementData_915e3 dJx4a65c_elementData_915e3_6) rfl rfl (by simp only [zfin, zr_Jx4a65c_elementData_915e3])
theorem A_Jx4a65c_elementData_915e3 : AC X (d + 1) 116 [.ref a, .int x] st P = AW X d 116 0 [.ref a, .int x] [] st P := AC_eq ⟨⟨(show 2 ≤ zml 116 by decide +kernel), by decide +kernel⟩, by simp [zc1_int, zc1_ref, zc1_float]⟩
theorem E_Jx4a65c_get_915e3_0 : AW X d 117 0 [l0, .int x] S st P = AW X d 117 1 [l0, .int x] (.int x :: S) st P := zAW_st (zd_of zb_Jx4a65c_get_915e3 dJx4a65c_get_915e3_0) rfl rfl
theorem E_Jx4a65c_get_915e3_1 : AW X d 117 1 [.ref a, l1] S st P = AW X d 117 2 [.ref a, l1] (.ref a :: S) st P := zAW_st (zd_of zb_Jx4a65c_get_915e3 dJx4a65c_get_915e3_1) rfl rfl
theorem E_Jx4a65c_get_915e3_1n : AW X d 117 1 [.null, l1] S st P = AW X d 117 2 [.null, l1] (.null :: S) st P := zAW_st (zd_of zb_Jx4a65c_get_915e3 dJx4a65c_get_915e3_1) rfl rfl
theorem E_Jx4a65c_get_915e3_2 : AW X d 117 2 [l0, l1] (.ref a :: S) st P = zwith (zget st a 0 2) fun v => AW X d 117 5 [l0, l1] (v :: S) st P := zq_getfield (zd_of zb_Jx4a65c_get_915e3 dJx4a65c_get_915e3_2) zo_Jx4a65c_get_915e3 zf_10_48
theorem E_Jx4a65c_get_915e3_5 : AW X d 117 5 [l0, l1] (.int y :: .int x :: S) st P = zif (S.length ≤ 4) (AC X d 123 [.int x, .int y] st (zaft X d 117 5 [l0, l1] S P)) := zq_callS (B := [.int x, .int y]) (S2 := S) (zd_of zb_Jx4a65c_get_915e3 dJx4a65c_get_915e3_5) zo_Jx4a65c_get_915e3 (by decide) (by decide) (by decide) zl_10_118 zn_123 (by simp only [List.length_cons]; omega) rfl rfl
theorem E_Jx4a65c_get_915e3_8 : AW X d 117 8 [l0, l1] (.ref a :: S) st P = AW X d 117 9 [l0, l1] S st P := zq_pop (zd_of zb_Jx4a65c_get_915e3 dJx4a65c_get_915e3_8) rfl
theorem E_Jx4a65c_get_915e3_8n : AW X d 117 8 [l0, l1] (.null :: S) st P = AW X d 117 9 [l0, l1] S st P := zq_pop (zd_of zb_Jx4a65c_get_915e3 dJx4a65c_get_915e3_8) rfl
theorem E_Jx4a65c_get_915e3_8i : AW X d 117 8 [l0, l1] (.int x :: S) st P = AW X d 117 9 [l0, l1] S st P := zq_pop (zd_of zb_Jx4a65c_get_915e3 dJx4a65c_get_915e3_8) rfl
theorem E_Jx4a65c_get_915e3_8f : AW X d 117 8 [l0, l1] (.float u :: S) st P = AW X d 117 9 [l0, l1] S st P := zq_pop (zd_of zb_Jx4a65c_get_915e3 dJx4a65c_get_915e3_8) rfl
theorem E_Jx4a65c_get_915e3_9 : AW X d 117 9 [.ref a, l1] S st P = AW X d 117 10 [.ref a, l1] (.ref a :: S) st P := zAW_st (zd_of zb_Jx4a65c_get_915e3 dJx4a65c_get_915e3_9) rfl rfl
theorem E_Jx4a65c_get_915e3_9n : AW X d 117 9 [.null, l1] S st P = AW X d 117 10 [.null, l1] (.null :: S) st P := zAW_st (zd_of zb_Jx4a65c_get_915e3 dJx4a65c_get_915e3_9) rfl rfl
theorem E_Jx4a65c_get_915e3_10 : AW X d 117 10 [l0, .int x] S st P = AW X d 117 11 [l0, .int x] (.int x :: S) st P := zAW_st (zd_of zb_Jx4a65c_get_915e3 dJx4a65c_get_915e3_10) rfl rfl
theorem E_Jx4a65c_get_915e3_11 : AW X d 117 11 [l0, l1] (.int x :: .ref a :: S) st P = zif (zis st a 0 = true) (zif (S.length ≤ 4) (AC X d 116 [.ref a, .int x] st (zaft X d 117 11 [l0, l1] S P))) := zq_callV (B := [.int x]) (zd_of zb_Jx4a65c_get_915e3 dJx4a65c_get_915e3_11) zo_Jx4a65c_get_915e3 (by decide) zl_10_123 zn_116 rfl rfl rfl
theorem E_Jx4a65c_get_915e3_14 : AW X d 117 14 [l0, l1] ([.ref a]) st P = P (.inl (some (.ref a))) st := zAW_ret (w := (.inl (some (.ref a)), st)) (zd_of zb_Jx4a65c_get_915e3 dJx4a65c_get_915e3_14) rfl rfl (by simp only [zfin, zr_Jx4a65c_get_915e3])
theorem E_Jx4a65c_get_915e3_14n : AW X d 117 14 [l0, l1] [.null] st P = P (.inl (some .null)) st := zAW_ret (w := (.inl (some .null), st)) (zd_of zb_Jx4a65c_get_915e3 dJx4a65c_get_915e3_14) rfl rfl (by simp only [zfin, zr_Jx4a65c_get_915e3])
theorem A_Jx4a65c_get_915e3 : AC X (d + 1) 117 [.ref a, .int x] st P = AW X d 117 0 [.ref a, .int x] [] st P := AC_eq ⟨⟨(show 2 ≤ zml 117 by decide +kernel), by decide +kernel⟩, by simp [zc1_int, zc1_ref, zc1_float]⟩
theorem E_Jx4a65c_add_72be8_0 : AW X d 118 0 [l0, l1, l2, .int x] S st P = AW X d 118 1 [l0, l1, l2, .int x] (.int x :: S) st P := zAW_st (zd_of zb_Jx4a65c_add_72be8 dJx4a65c_add_72be8_0) rfl rfl
theorem E_Jx4a65c_add_72be8_1 : AW X d 118 1 [l0, l1, .ref a, l3] S st P = AW X d 118 2 [l0, l1, .ref a, l3] (.ref a :: S) st P := zAW_st (zd_of zb_Jx4a65c_add_72be8 dJx4a65c_add_72be8_1) rfl rfl
theorem E_Jx4a65c_add_72be8_1n : AW X d 118 1 [l0, l1, .null, l3] S st P = AW X d 118 2 [l0, l1, .null, l3] (.null :: S) st P := zAW_st (zd_of zb_Jx4a65c_add_72be8 dJx4a65c_add_72be8_1) rfl rfl
theorem E_Jx4a65c_add_72be8_2 : AW X d 118 2 [l0, l1, l2, l3] (.ref a :: S) st P = zwith (zlen X st a) fun n => AW X d 118 3 [l0, l1, l2, l3] (.int (Int32.ofNat n) :: S) st P := zq_alen (zd_of zb_Jx4a65c_add_72be8 dJx4a65c_add_72be8_2)
theorem E_Jx4a65c_add_72be8_3 : AW X d 118 3 [l0, l1, l2, l3] (.int y :: .int x :: S) st P = if ¬ x = y then AW X d 118 11 [l0, l1, l2, l3] S st P else AW X d 118 6 [l0, l1, l2, l3] S st P := zq_icmp (c := ¬ x = y) (zd_of zb_Jx4a65c_add_72be8 dJx4a65c_add_72be8_3) (by decide) rfl
theorem E_Jx4a65c_add_72be8_6 : AW X d 118 6 [.ref a, l1, l2, l3] S st P = AW X d 118 7 [.ref a, l1, l2, l3] (.ref a :: S) st P := zAW_st (zd_of zb_Jx4a65c_add_72be8 dJx4a65c_add_72be8_6) rfl rfl
theorem E_Jx4a65c_add_72be8_6n : AW X d 118 6 [.null, l1, l2, l3] S st P = AW X d 118 7 [.null, l1, l2, l3] (.null :: S) st P := zAW_st (zd_of zb_Jx4a65c_add_72be8 dJx4a65c_add_72be8_6) rfl rfl
theorem E_Jx4a65c_add_72be8_7 : AW X d 118 7 [l0, l1, l2, l3] (.ref a :: S) st P = zif (zis st a 0 = true) (zif (S.length ≤ 4) (AC X d 114 [.ref a] st (zaft X d 118 7 [l0, l1, l2, l3] S P))) := zq_callV (B := []) (zd_of zb_Jx4a65c_add_72be8 dJx4a65c_add_72be8_7) zo_Jx4a65c_add_72be8 (by decide) zl_10_129 zn_114 rfl rfl rfl
theorem E_Jx4a65c_add_72be8_10 : AW X d 118 10 [l0, l1, l2, l3] (.ref a :: S) st P = AW X d 118 11 [l0, l1, .ref a, l3] S st P := zAW_st (zd_of zb_Jx4a65c_add_72be8 dJx4a65c_add_72be8_10) rfl rfl
theorem E_Jx4a65c_add_72be8_10n : AW X d 118 10 [l0, l1, l2, l3] (.null :: S) st P = AW X d 118 11 [l0, l1, .null, l3] S st P := zAW_st (zd_of zb_Jx4a65c_add_72be8 dJx4a65c_add_72be8_10) rfl rfl
theorem E_Jx4a65c_add_72be8_11 : AW X d 118 11 [l0, l1, .ref a, l3] S st P = AW X d 118 12 [l0, l1, .ref a, l3] (.ref a :: S) st P := zAW_st (zd_of zb_Jx4a65c_add_72be8 dJx4a65c_add_72be8_11) rfl rfl
theorem E_Jx4a65c_add_72be8_11n : AW X d 118 11 [l0, l1, .null, l3] S st P = AW X d 118 12 [l0, l1, .null, l3] (.null :: S) st P := zAW_st (zd_of zb_Jx4a65c_add_72be8 dJx4a65c_add_72be8_11) rfl rfl
theorem E_Jx4a65c_add_72be8_12 : AW X d 118 12 [l0, l1, l2, .int x] S st P = AW X d 118 13 [l0, l1, l2, .int x] (.int x :: S) st P := zAW_st (zd_of zb_Jx4a65c_add_72be8 dJx4a65c_add_72be8_12) rfl rfl
theorem E_Jx4a65c_add_72be8_13 : AW X d 118 13 [l0, .ref a, l2, l3] S st P = AW X d 118 14 [l0, .ref a, l2, l3] (.ref a :: S) st P := zAW_st (zd_of zb_Jx4a65c_add_72be8 dJx4a65c_add_72be8_13) rfl rfl
theorem E_Jx4a65c_add_72be8_13n : AW X d 118 13 [l0, .null, l2, l3] S st P = AW X d 118 14 [l0, .null, l2, l3] (.null :: S) st P := zAW_st (zd_of zb_Jx4a65c_add_72be8 dJx4a65c_add_72be8_13) rfl rfl
theorem E_Jx4a65c_add_72be8_14 (h1 : zob st b = true) : AW X d 118 14 [l0, l1, l2, l3] (.ref b :: .int x :: .ref a :: S) st P = zwith (zaR st a) fun q => zwith (zix x q.1) fun j => AW X d 118 15 [l0, l1, l2, l3] S (zsta st a (q.1, .inr (.inr (.inr (.inr (va_up q.2 j (some b))))))) P := zq_aastore (zd_of zb_Jx4a65c_add_72be8 dJx4a65c_add_72be8_14) h1
theorem E_Jx4a65c_add_72be8_14n : AW X d 118 14 [l0, l1, l2, l3] (.null :: .int x :: .ref a :: S) st P = zwith (zaR st a) fun q => zwith (zix x q.1) fun j => AW X d 118 15 [l0, l1, l2, l3] S (zsta st a (q.1, .inr (.inr (.inr (.inr (va_up q.2 j none)))))) P := zq_aastoreN (zd_of zb_Jx4a65c_add_72be8 dJx4a65c_add_72be8_14)
theorem E_Jx4a65c_add_72be8_15 : AW X d 118 15 [.ref a, l1, l2, l3] S st P = AW X d 118 16 [.ref a, l1, l2, l3] (.ref a :: S) st P := zAW_st (zd_of zb_Jx4a65c_add_72be8 dJx4a65c_add_72be8_15) rfl rfl
theorem E_Jx4a65c_add_72be8_15n : AW X d 118 15 [.null, l1, l2, l3] S st P = AW X d 118 16 [.null, l1, l2, l3] (.null :: S) st P := zAW_st (zd_of zb_Jx4a65c_add_72be8 dJx4a65c_add_72be8_15) rfl rfl
theorem E_Jx4a65c_add_72be8_16 : AW X d 118 16 [l0, l1, l2, .int x] S st P = AW X d 118 17 [l0, l1, l2, .int x] (.int x :: S) st P := zAW_st (zd_of zb_Jx4a65c_add_72be8 dJx4a65c_add_72be8_16) rfl rfl
theorem E_Jx4a65c_add_72be8_17 : AW X d 118 17 [l0, l1, l2, l3] S st P = AW X d 118 18 [l0, l1, l2, l3] (.int 1 :: S) st P := zq_iconst (zd_of zb_Jx4a65c_add_72be8 dJx4a65c_add_72be8_17) (by decide)
theorem E_Jx4a65c_add_72be8_18 : AW X d 118 18 [l0, l1, l2, l3] (.int y :: .int x :: S) st P = AW X d 118 19 [l0, l1, l2, l3] (.int (x + y) :: S) st P := zAW_st (zd_of zb_Jx4a65c_add_72be8 dJx4a65c_add_72be8_18) rfl rfl
theorem E_Jx4a65c_add_72be8_19 : AW X d 118 19 [l0, l1, l2, l3] (.int x :: .ref a :: S) st P = zwith (zget st a 0 2) fun _ => AW X d 118 22 [l0, l1, l2, l3] S (zput st a 2 (.int x)) P := zq_putfield (zd_of zb_Jx4a65c_add_72be8 dJx4a65c_add_72be8_19) zo_Jx4a65c_add_72be8 zf_10_48 rfl (Or.inl (by decide +kernel))
theorem E_Jx4a65c_add_72be8_22 : AW X d 118 22 [l0, l1, l2, l3] [] st P = P (.inl none) st := zAW_ret (w := (.inl none, st)) (zd_of zb_Jx4a65c_add_72be8 dJx4a65c_add_72be8_22) rfl rfl (by simp only [zfin, zr_Jx4a65c_add_72be8])
theorem A_Jx4a65c_add_72be8 (h1 : zc1 v1 = true) (h2 : zc1 v2 = true) : AC X (d + 1) 118 [.ref a, v1, v2, .int x] st P = AW X d 118 0 [.ref a, v1, v2, .int x] [] st P := AC_eq ⟨⟨(show 4 ≤ zml 118 by decide +kernel), by decide +kernel⟩, by simp [zc1_int, zc1_ref, zc1_float, h1, h2]⟩
theorem E_Jx4a65c_add_9ea2d_0 : AW X d 119 0 [.ref a, l1] S st P = AW X d 119 1 [.ref a, l1] (.ref a :: S) st P := zAW_st (zd_of zb_Jx4a65c_add_9ea2d dJx4a65c_add_9ea2d_0) rfl rfl
theorem E_Jx4a65c_add_9ea2d_0n : AW X d 119 0 [.null, l1] S st P = AW X d 119 1 [.null, l1] (.null :: S) st P := zAW_st (zd_of zb_Jx4a65c_add_9ea2d dJx4a65c_add_9ea2d_0) rfl rfl
theorem E_Jx4a65c_add_9ea2d_1 : AW X d 119 1 [l0, l1] (.ref a :: S) st P = AW X d 119 2 [l0, l1] (.ref a :: .ref a :: S) st P := zq_dup (zd_of zb_Jx4a65c_add_9ea2d dJx4a65c_add_9ea2d_1) rfl
theorem E_Jx4a65c_add_9ea2d_1n : AW X d 119 1 [l0, l1] (.null :: S) st P = AW X d 119 2 [l0, l1] (.null :: .null :: S) st P := zq_dup (zd_of zb_Jx4a65c_add_9ea2d dJx4a65c_add_9ea2d_1) rfl
theorem E_Jx4a65c_add_9ea2d_1i : AW X d 119 1 [l0, l1] (.int x :: S) st P = AW X d 119 2 [l0, l1] (.int x :: .int x :: S) st P := zq_dup (zd_of zb_Jx4a65c_add_9ea2d dJx4a65c_add_9ea2d_1) rfl
theorem E_Jx4a65c_add_9ea2d_1f : AW X d 119 1 [l0, l1] (.float u :: S) st P = AW X d 119 2 [l0, l1] (.float u :: .float u :: S) st P := zq_dup (zd_of zb_Jx4a65c_add_9ea2d dJx4a65c_add_9ea2d_1) rfl
theorem E_Jx4a65c_add_9ea2d_2 : AW X d 119 2 [l0, l1] (.ref a :: S) st P = zwith (zget st a 0 0) fun v => AW X d 119 5 [l0, l1] (v :: S) st P := zq_getfield (zd_of zb_Jx4a65c_add_9ea2d dJx4a65c_add_9ea2d_2) zo_Jx4a65c_add_9ea2d zf_10_63
theorem E_Jx4a65c_add_9ea2d_5 : AW X d 119 5 [l0, l1] S st P = AW X d 119 6 [l0, l1] (.int 1 :: S) st P := zq_iconst (zd_of zb_Jx4a65c_add_9ea2d dJx4a65c_add_9ea2d_5) (by decide)
theorem E_Jx4a65c_add_9ea2d_6 : AW X d 119 6 [l0, l1] (.int y :: .int x :: S) st P = AW X d 119 7 [l0, l1] (.int (x + y) :: S) st P := zAW_st (zd_of zb_Jx4a65c_add_9ea2d dJx4a65c_add_9ea2d_6) rfl rfl
theorem E_Jx4a65c_add_9ea2d_7 : AW X d 119 7 [l0, l1] (.int x :: .ref a :: S) st P = zwith (zget st a 0 0) fun _ => AW X d 119 10 [l0, l1] S (zput st a 0 (.int x)) P := zq_putfield (zd_of zb_Jx4a65c_add_9ea2d dJx4a65c_add_9ea2d_7) zo_Jx4a65c_add_9ea2d zf_10_63 rfl (Or.inl (by decide +kernel))
theorem E_Jx4a65c_add_9ea2d_10 : AW X d 119 10 [.ref a, l1] S st P = AW X d 119 11 [.ref a, l1] (.ref a :: S) st P := zAW_st (zd_of zb_Jx4a65c_add_9ea2d dJx4a65c_add_9ea2d_10) rfl rfl
theorem E_Jx4a65c_add_9ea2d_10n : AW X d 119 10 [.null, l1] S st P = AW X d 119 11 [.null, l1] (.null :: S) st P := zAW_st (zd_of zb_Jx4a65c_add_9ea2d dJx4a65c_add_9ea2d_10) rfl rfl
theorem E_Jx4a65c_add_9ea2d_11 : AW X d 119 11 [l0, .ref a] S st P = AW X d 119 12 [l0, .ref a] (.ref a :: S) st P := zAW_st (zd_of zb_Jx4a65c_add_9ea2d dJx4a65c_add_9ea2d_11) rfl rfl
theorem E_Jx4a65c_add_9ea2d_11n : AW X d 119 11 [l0, .null] S st P = AW X d 119 12 [l0, .null] (.null :: S) st P := zAW_st (zd_of zb_Jx4a65c_add_9ea2d dJx4a65c_add_9ea2d_11) rfl rfl
theorem E_Jx4a65c_add_9ea2d_12 : AW X d 119 12 [.ref a, l1] S st P = AW X d 119 13 [.ref a, l1] (.ref a :: S) st P := zAW_st (zd_of zb_Jx4a65c_add_9ea2d dJx4a65c_add_9ea2d_12) rfl rfl
theorem E_Jx4a65c_add_9ea2d_12n : AW X d 119 12 [.null, l1] S st P = AW X d 119 13 [.null, l1] (.null :: S) st P := zAW_st (zd_of zb_Jx4a65c_add_9ea2d dJx4a65c_add_9ea2d_12) rfl rfl
theorem E_Jx4a65c_add_9ea2d_13 : AW X d 119 13 [l0, l1] (.ref a :: S) st P = zwith (zget st a 0 1) fun v => AW X d 119 16 [l0, l1] (v :: S) st P := zq_getfield (zd_of zb_Jx4a65c_add_9ea2d dJx4a65c_add_9ea2d_13) zo_Jx4a65c_add_9ea2d zf_10_9
theorem E_Jx4a65c_add_9ea2d_16 : AW X d 119 16 [.ref a, l1] S st P = AW X d 119 17 [.ref a, l1] (.ref a :: S) st P := zAW_st (zd_of zb_Jx4a65c_add_9ea2d dJx4a65c_add_9ea2d_16) rfl rfl
theorem E_Jx4a65c_add_9ea2d_16n : AW X d 119 16 [.null, l1] S st P = AW X d 119 17 [.null, l1] (.null :: S) st P := zAW_st (zd_of zb_Jx4a65c_add_9ea2d dJx4a65c_add_9ea2d_16) rfl rfl
theorem E_Jx4a65c_add_9ea2d_17 : AW X d 119 17 [l0, l1] (.ref a :: S) st P = zwith (zget st a 0 2) fun v => AW X d 119 20 [l0, l1] (v :: S) st P := zq_getfield (zd_of zb_Jx4a65c_add_9ea2d dJx4a65c_add_9ea2d_17) zo_Jx4a65c_add_9ea2d zf_10_48
theorem E_Jx4a65c_add_9ea2d_20 : AW X d 119 20 [l0, l1] (.int x :: v2 :: v1 :: .ref a :: S) st P = zif (zis st a 0 = true) (zif (S.length ≤ 4) (AC X d 118 [.ref a, v1, v2, .int x] st (zaft X d 119 20 [l0, l1] S P))) := zq_callV (B := [v1, v2, .int x]) (zd_of zb_Jx4a65c_add_9ea2d dJx4a65c_add_9ea2d_20) zo_Jx4a65c_add_9ea2d (by decide) zl_10_131 zn_118 rfl rfl rfl
theorem E_Jx4a65c_add_9ea2d_23 : AW X d 119 23 [l0, l1] S st P = AW X d 119 24 [l0, l1] (.int 1 :: S) st P := zq_iconst (zd_of zb_Jx4a65c_add_9ea2d dJx4a65c_add_9ea2d_23) (by decide)
theorem E_Jx4a65c_add_9ea2d_24 : AW X d 119 24 [l0, l1] ([.int x]) st P = zif (x &&& 1 = x) (P (.inl (some (.int x))) st) := by
  by_cases h : x &&& 1 = x
  · rw [zif_of h]; exact zAW_ret (w := (.inl (some (.int x)), st)) (zd_of zb_Jx4a65c_add_9ea2d dJx4a65c_add_9ea2d_24) rfl rfl (by simp only [zfin, zr_Jx4a65c_add_9ea2d]; rw [if_pos h])
  · rw [zAW_stuck (zd_of zb_Jx4a65c_add_9ea2d dJx4a65c_add_9ea2d_24) rfl (by simp only [zfin, zr_Jx4a65c_add_9ea2d]; rw [if_neg h]) rfl]; exact propext ⟨fun z => z.elim, fun z => h z.1⟩
theorem A_Jx4a65c_add_9ea2d (h1 : zc1 v1 = true) : AC X (d + 1) 119 [.ref a, v1] st P = AW X d 119 0 [.ref a, v1] [] st P := AC_eq ⟨⟨(show 2 ≤ zml 119 by decide +kernel), by decide +kernel⟩, by simp [zc1_int, zc1_ref, zc1_float, h1]⟩
theorem E_Jx4a65c_clear_da8c8_0 : AW X d 120 0 [.ref a, l1, l2, l3] S st P = AW X d 120 1 [.ref a, l1, l2, l3] (.ref a :: S) st P := zAW_st (zd_of zb_Jx4a65c_clear_da8c8 dJx4a65c_clear_da8c8_0) rfl rfl
theorem E_Jx4a65c_clear_da8c8_0n : AW X d 120 0 [.null, l1, l2, l3] S st P = AW X d 120 1 [.null, l1, l2, l3] (.null :: S) st P := zAW_st (zd_of zb_Jx4a65c_clear_da8c8 dJx4a65c_clear_da8c8_0) rfl rfl
theorem E_Jx4a65c_clear_da8c8_1 : AW X d 120 1 [l0, l1, l2, l3] (.ref a :: S) st P = AW X d 120 2 [l0, l1, l2, l3] (.ref a :: .ref a :: S) st P := zq_dup (zd_of zb_Jx4a65c_clear_da8c8 dJx4a65c_clear_da8c8_1) rfl
theorem E_Jx4a65c_clear_da8c8_1n : AW X d 120 1 [l0, l1, l2, l3] (.null :: S) st P = AW X d 120 2 [l0, l1, l2, l3] (.null :: .null :: S) st P := zq_dup (zd_of zb_Jx4a65c_clear_da8c8 dJx4a65c_clear_da8c8_1) rfl
theorem E_Jx4a65c_clear_da8c8_1i : AW X d 120 1 [l0, l1, l2, l3] (.int x :: S) st P = AW X d 120 2 [l0, l1, l2, l3] (.int x :: .int x :: S) st P := zq_dup (zd_of zb_Jx4a65c_clear_da8c8 dJx4a65c_clear_da8c8_1) rfl
theorem E_Jx4a65c_clear_da8c8_1f : AW X d 120 1 [l0, l1, l2, l3] (.float u :: S) st P = AW X d 120 2 [l0, l1, l2, l3] (.float u :: .float u :: S) st P := zq_dup (zd_of zb_Jx4a65c_clear_da8c8 dJx4a65c_clear_da8c8_1) rfl
theorem E_Jx4a65c_clear_da8c8_2 : AW X d 120 2 [l0, l1, l2, l3] (.ref a :: S) st P = zwith (zget st a 0 0) fun v => AW X d 120 5 [l0, l1, l2, l3] (v :: S) st P := zq_getfield (zd_of zb_Jx4a65c_clear_da8c8 dJx4a65c_clear_da8c8_2) zo_Jx4a65c_clear_da8c8 zf_10_63
theorem E_Jx4a65c_clear_da8c8_5 : AW X d 120 5 [l0, l1, l2, l3] S st P = AW X d 120 6 [l0, l1, l2, l3] (.int 1 :: S) st P := zq_iconst (zd_of zb_Jx4a65c_clear_da8c8 dJx4a65c_clear_da8c8_5) (by decide)
theorem E_Jx4a65c_clear_da8c8_6 : AW X d 120 6 [l0, l1, l2, l3] (.int y :: .int x :: S) st P = AW X d 120 7 [l0, l1, l2, l3] (.int (x + y) :: S) st P := zAW_st (zd_of zb_Jx4a65c_clear_da8c8 dJx4a65c_clear_da8c8_6) rfl rfl
theorem E_Jx4a65c_clear_da8c8_7 : AW X d 120 7 [l0, l1, l2, l3] (.int x :: .ref a :: S) st P = zwith (zget st a 0 0) fun _ => AW X d 120 10 [l0, l1, l2, l3] S (zput st a 0 (.int x)) P := zq_putfield (zd_of zb_Jx4a65c_clear_da8c8 dJx4a65c_clear_da8c8_7) zo_Jx4a65c_clear_da8c8 zf_10_63 rfl (Or.inl (by decide +kernel))
theorem E_Jx4a65c_clear_da8c8_10 : AW X d 120 10 [.ref a, l1, l2, l3] S st P = AW X d 120 11 [.ref a, l1, l2, l3] (.ref a :: S) st P := zAW_st (zd_of zb_Jx4a65c_clear_da8c8 dJx4a65c_clear_da8c8_10) rfl rfl
theorem E_Jx4a65c_clear_da8c8_10n : AW X d 120 10 [.null, l1, l2, l3] S st P = AW X d 120 11 [.null, l1, l2, l3] (.null :: S) st P := zAW_st (zd_of zb_Jx4a65c_clear_da8c8 dJx4a65c_clear_da8c8_10) rfl rfl
theorem E_Jx4a65c_clear_da8c8_11 : AW X d 120 11 [l0, l1, l2, l3] (.ref a :: S) st P = zwith (zget st a 0 1) fun v => AW X d 120 14 [l0, l1, l2, l3] (v :: S) st P := zq_getfield (zd_of zb_Jx4a65c_clear_da8c8 dJx4a65c_clear_da8c8_11) zo_Jx4a65c_clear_da8c8 zf_10_9
theorem E_Jx4a65c_clear_da8c8_14 : AW X d 120 14 [l0, l1, l2, l3] (.ref a :: S) st P = AW X d 120 15 [l0, .ref a, l2, l3] S st P := zAW_st (zd_of zb_Jx4a65c_clear_da8c8 dJx4a65c_clear_da8c8_14) rfl rfl
theorem E_Jx4a65c_clear_da8c8_14n : AW X d 120 14 [l0, l1, l2, l3] (.null :: S) st P = AW X d 120 15 [l0, .null, l2, l3] S st P := zAW_st (zd_of zb_Jx4a65c_clear_da8c8 dJx4a65c_clear_da8c8_14) rfl rfl
theorem E_Jx4a65c_clear_da8c8_15 : AW X d 120 15 [.ref a, l1, l2, l3] S st P = AW X d 120 16 [.ref a, l1, l2, l3] (.ref a :: S) st P := zAW_st (zd_of zb_Jx4a65c_clear_da8c8 dJx4a65c_clear_da8c8_15) rfl rfl
theorem E_Jx4a65c_clear_da8c8_15n : AW X d 120 15 [.null, l1, l2, l3] S st P = AW X d 120 16 [.null, l1, l2, l3] (.null :: S) st P := zAW_st (zd_of zb_Jx4a65c_clear_da8c8 dJx4a65c_clear_da8c8_15) rfl rfl
theorem E_Jx4a65c_clear_da8c8_16 : AW X d 120 16 [l0, l1, l2, l3] (.ref a :: S) st P = zwith (zget st a 0 2) fun v => AW X d 120 19 [l0, l1, l2, l3] (v :: S) st P := zq_getfield (zd_of zb_Jx4a65c_clear_da8c8 dJx4a65c_clear_da8c8_16) zo_Jx4a65c_clear_da8c8 zf_10_48
theorem E_Jx4a65c_clear_da8c8_19 : AW X d 120 19 [l0, l1, l2, l3] (.int x :: S) st P = AW X d 120 20 [l0, l1, .int x, l3] S st P := zAW_st (zd_of zb_Jx4a65c_clear_da8c8 dJx4a65c_clear_da8c8_19) rfl rfl
theorem E_Jx4a65c_clear_da8c8_20 : AW X d 120 20 [.ref a, l1, l2, l3] S st P = AW X d 120 21 [.ref a, l1, l2, l3] (.ref a :: S) st P := zAW_st (zd_of zb_Jx4a65c_clear_da8c8 dJx4a65c_clear_da8c8_20) rfl rfl
theorem E_Jx4a65c_clear_da8c8_20n : AW X d 120 20 [.null, l1, l2, l3] S st P = AW X d 120 21 [.null, l1, l2, l3] (.null :: S) st P := zAW_st (zd_of zb_Jx4a65c_clear_da8c8 dJx4a65c_clear_da8c8_20) rfl rfl
theorem E_Jx4a65c_clear_da8c8_21 : AW X d 120 21 [l0, l1, l2, l3] S st P = AW X d 120 22 [l0, l1, l2, l3] (.int 0 :: S) st P := zq_iconst (zd_of zb_Jx4a65c_clear_da8c8 dJx4a65c_clear_da8c8_21) (by decide)
theorem E_Jx4a65c_clear_da8c8_22 : AW X d 120 22 [l0, l1, l2, l3] (.ref b :: .ref a :: S) st P = AW X d 120 23 [l0, l1, l2, l3] (.ref b :: .ref a :: .ref b :: S) st P := zq_dup_x1 (zd_of zb_Jx4a65c_clear_da8c8 dJx4a65c_clear_da8c8_22) rfl rfl
theorem E_Jx4a65c_clear_da8c8_22i : AW X d 120 22 [l0, l1, l2, l3] (.int x :: .ref a :: S) st P = AW X d 120 23 [l0, l1, l2, l3] (.int x :: .ref a :: .int x :: S) st P := zq_dup_x1 (zd_of zb_Jx4a65c_clear_da8c8 dJx4a65c_clear_da8c8_22) rfl rfl
theorem E_Jx4a65c_clear_da8c8_22j : AW X d 120 22 [l0, l1, l2, l3] (.int x :: .int y :: S) st P = AW X d 120 23 [l0, l1, l2, l3] (.int x :: .int y :: .int x :: S) st P := zq_dup_x1 (zd_of zb_Jx4a65c_clear_da8c8 dJx4a65c_clear_da8c8_22) rfl rfl
theorem E_Jx4a65c_clear_da8c8_23 : AW X d 120 23 [l0, l1, l2, l3] (.int x :: .ref a :: S) st P = zwith (zget st a 0 2) fun _ => AW X d 120 26 [l0, l1, l2, l3] S (zput st a 2 (.int x)) P := zq_putfield (zd_of zb_Jx4a65c_clear_da8c8 dJx4a65c_clear_da8c8_23) zo_Jx4a65c_clear_da8c8 zf_10_48 rfl (Or.inl (by decide +kernel))
theorem E_Jx4a65c_clear_da8c8_26 : AW X d 120 26 [l0, l1, l2, l3] (.int x :: S) st P = AW X d 120 27 [l0, l1, l2, .int x] S st P := zAW_st (zd_of zb_Jx4a65c_clear_da8c8 dJx4a65c_clear_da8c8_26) rfl rfl
theorem E_Jx4a65c_clear_da8c8_27 : AW X d 120 27 [l0, l1, l2, .int x] S st P = AW X d 120 28 [l0, l1, l2, .int x] (.int x :: S) st P := zAW_st (zd_of zb_Jx4a65c_clear_da8c8 dJx4a65c_clear_da8c8_27) rfl rfl
theorem E_Jx4a65c_clear_da8c8_28 : AW X d 120 28 [l0, l1, .int x, l3] S st P = AW X d 120 29 [l0, l1, .int x, l3] (.int x :: S) st P := zAW_st (zd_of zb_Jx4a65c_clear_da8c8 dJx4a65c_clear_da8c8_28) rfl rfl
theorem E_Jx4a65c_clear_da8c8_29 : AW X d 120 29 [l0, l1, l2, l3] (.int y :: .int x :: S) st P = if y ≤ x then AW X d 120 42 [l0, l1, l2, l3] S st P else AW X d 120 32 [l0, l1, l2, l3] S st P := zq_icmp (c := y ≤ x) (zd_of zb_Jx4a65c_clear_da8c8 dJx4a65c_clear_da8c8_29) (by decide) rfl
theorem E_Jx4a65c_clear_da8c8_32 : AW X d 120 32 [l0, .ref a, l2, l3] S st P = AW X d 120 33 [l0, .ref a, l2, l3] (.ref a :: S) st P := zAW_st (zd_of zb_Jx4a65c_clear_da8c8 dJx4a65c_clear_da8c8_32) rfl rfl
theorem E_Jx4a65c_clear_da8c8_32n : AW X d 120 32 [l0, .null, l2, l3] S st P = AW X d 120 33 [l0, .null, l2, l3] (.null :: S) st P := zAW_st (zd_of zb_Jx4a65c_clear_da8c8 dJx4a65c_clear_da8c8_32) rfl rfl
theorem E_Jx4a65c_clear_da8c8_33 : AW X d 120 33 [l0, l1, l2, .int x] S st P = AW X d 120 34 [l0, l1, l2, .int x] (.int x :: S) st P := zAW_st (zd_of zb_Jx4a65c_clear_da8c8 dJx4a65c_clear_da8c8_33) rfl rfl
theorem E_Jx4a65c_clear_da8c8_34 : AW X d 120 34 [l0, l1, l2, l3] S st P = AW X d 120 35 [l0, l1, l2, l3] (.null :: S) st P := zAW_st (zd_of zb_Jx4a65c_clear_da8c8 dJx4a65c_clear_da8c8_34) rfl rfl
theorem E_Jx4a65c_clear_da8c8_35 (h1 : zob st b = true) : AW X d 120 35 [l0, l1, l2, l3] (.ref b :: .int x :: .ref a :: S) st P = zwith (zaR st a) fun q => zwith (zix x q.1) fun j => AW X d 120 36 [l0, l1, l2, l3] S (zsta st a (q.1, .inr (.inr (.inr (.inr (va_up q.2 j (some b))))))) P := zq_aastore (zd_of zb_Jx4a65c_clear_da8c8 dJx4a65c_clear_da8c8_35) h1
theorem E_Jx4a65c_clear_da8c8_35n : AW X d 120 35 [l0, l1, l2, l3] (.null :: .int x :: .ref a :: S) st P = zwith (zaR st a) fun q => zwith (zix x q.1) fun j => AW X d 120 36 [l0, l1, l2, l3] S (zsta st a (q.1, .inr (.inr (.inr (.inr (va_up q.2 j none)))))) P := zq_aastoreN (zd_of zb_Jx4a65c_clear_da8c8 dJx4a65c_clear_da8c8_35)
theorem E_Jx4a65c_clear_da8c8_36 : AW X d 120 36 [l0, l1, l2, .int x] S st P = AW X d 120 39 [l0, l1, l2, .int (x + 1)] S st P := zq_iinc (zd_of zb_Jx4a65c_clear_da8c8 dJx4a65c_clear_da8c8_36) rfl (by decide)
theorem E_Jx4a65c_clear_da8c8_39 : AW X d 120 39 [l0, l1, l2, l3] S st P = AW X d 120 27 [l0, l1, l2, l3] S st P := zq_goto (zd_of zb_Jx4a65c_clear_da8c8 dJx4a65c_clear_da8c8_39) (by decide)
theorem E_Jx4a65c_clear_da8c8_42 : AW X d 120 42 [l0, l1, l2, l3] [] st P = P (.inl none) st := zAW_ret (w := (.inl none, st)) (zd_of zb_Jx4a65c_clear_da8c8 dJx4a65c_clear_da8c8_42) rfl rfl (by simp only [zfin, zr_Jx4a65c_clear_da8c8])
theorem A_Jx4a65c_clear_da8c8 : AC X (d + 1) 120 [.ref a] st P = AW X d 120 0 [.ref a, .retAddr 0, .retAddr 0, .retAddr 0] [] st P := AC_eq ⟨⟨(show 1 ≤ zml 120 by decide +kernel), by decide +kernel⟩, by simp [zc1_int, zc1_ref, zc1_float]⟩
theorem E_J7_copyOf_1904c_0 : AW X d 121 0 [.ref a, l1] S st P = AW X d 121 1 [.ref a, l1] (.ref a :: S) st P := zAW_st (zd_of zb_J7_copyOf_1904c dJ7_copyOf_1904c_0) rfl rfl
theorem E_J7_copyOf_1904c_0n : AW X d 121 0 [.null, l1] S st P = AW X d 121 1 [.null, l1] (.null :: S) st P := zAW_st (zd_of zb_J7_copyOf_1904c dJ7_copyOf_1904c_0) rfl rfl
theorem E_J7_copyOf_1904c_1 : AW X d 121 1 [l0, .int x] S st P = AW X d 121 2 [l0, .int x] (.int x :: S) st P := zAW_st (zd_of zb_J7_copyOf_1904c dJ7_copyOf_1904c_1) rfl rfl
theorem E_J7_copyOf_1904c_2 : AW X d 121 2 [.ref a, l1] S st P = AW X d 121 3 [.ref a, l1] (.ref a :: S) st P := zAW_st (zd_of zb_J7_copyOf_1904c dJ7_copyOf_1904c_2) rfl rfl
theorem E_J7_copyOf_1904c_2n : AW X d 121 2 [.null, l1] S st P = AW X d 121 3 [.null, l1] (.null :: S) st P := zAW_st (zd_of zb_J7_copyOf_1904c dJ7_copyOf_1904c_2) rfl rfl
theorem E_J7_copyOf_1904c_6 : AW X d 121 6 [l0, l1] (v2 :: .int x :: v1 :: S) st P = zif (S.length ≤ 4) (AC X d 122 [v1, .int x, v2] st (zaft X d 121 6 [l0, l1] S P)) := zq_callS (B := [v1, .int x, v2]) (S2 := S) (zd_of zb_J7_copyOf_1904c dJ7_copyOf_1904c_6) zo_J7_copyOf_1904c (by decide) (by decide) (by decide) zl_11_300 zn_122 (by simp only [List.length_cons]; omega) rfl rfl
theorem E_J7_copyOf_1904c_9 : AW X d 121 9 [l0, l1] ([.ref a]) st P = P (.inl (some (.ref a))) st := zAW_ret (w := (.inl (some (.ref a)), st)) (zd_of zb_J7_copyOf_1904c dJ7_copyOf_1904c_9) rfl rfl (by simp only [zfin, zr_J7_copyOf_1904c])
theorem E_J7_copyOf_1904c_9n : AW X d 121 9 [l0, l1] [.null] st P = P (.inl (some .null)) st := zAW_ret (w := (.inl (some .null), st)) (zd_of zb_J7_copyOf_1904c dJ7_copyOf_1904c_9) rfl rfl (by simp only [zfin, zr_J7_copyOf_1904c])
theorem A_J7_copyOf_1904c (h1 : zc1 v1 = true) : AC X (d + 1) 121 [v1, .int x] st P = AW X d 121 0 [v1, .int x] [] st P := AC_eq ⟨⟨(show 2 ≤ zml 121 by decide +kernel), by decide +kernel⟩, by simp [zc1_int, zc1_ref, zc1_float, h1]⟩
theorem E_J7_copyOf_6403c_0 : AW X d 122 0 [l0, l1, .ref a, l3] S st P = AW X d 122 1 [l0, l1, .ref a, l3] (.ref a :: S) st P := zAW_st (zd_of zb_J7_copyOf_6403c dJ7_copyOf_6403c_0) rfl rfl
theorem E_J7_copyOf_6403c_0n : AW X d 122 0 [l0, l1, .null, l3] S st P = AW X d 122 1 [l0, l1, .null, l3] (.null :: S) st P := zAW_st (zd_of zb_J7_copyOf_6403c dJ7_copyOf_6403c_0) rfl rfl
theorem E_J7_copyOf_6403c_1 : AW X d 122 1 [l0, l1, l2, l3] S st P = AW X d 122 3 [l0, l1, l2, l3] (.ref 2 :: S) st P := zq_ldcM (zd_of zb_J7_copyOf_6403c dJ7_copyOf_6403c_1) zo_J7_copyOf_6403c
theorem E_J7_copyOf_6403c_3 : AW X d 122 3 [l0, l1, l2, l3] (.ref b :: .ref a :: S) st P = zif (a = b ∨ (a ≠ 1 ∧ a ≠ 2 ∧ b ≠ 1 ∧ b ≠ 2)) (if a = b then AW X d 122 6 [l0, l1, l2, l3] S st P else AW X d 122 13 [l0, l1, l2, l3] S st P) := zq_acmp_ne (zd_of zb_J7_copyOf_6403c dJ7_copyOf_6403c_3) (by decide)
theorem E_J7_copyOf_6403c_6 : AW X d 122 6 [l0, .int x, l2, l3] S st P = AW X d 122 7 [l0, .int x, l2, l3] (.int x :: S) st P := zAW_st (zd_of zb_J7_copyOf_6403c dJ7_copyOf_6403c_6) rfl rfl
theorem E_J7_copyOf_6403c_7 : AW X d 122 7 [l0, l1, l2, l3] (.int x :: S) st P = zif (¬ (x < 0 ∨ 1000000 < x.toNatClampNeg)) (AW X d 122 10 [l0, l1, l2, l3] (.ref st.2.length :: S) (znwa st x.toNatClampNeg (.inr (.inr (.inr (.inr fun _ => none))))) P) := zq_anew (zd_of zb_J7_copyOf_6403c dJ7_copyOf_6403c_7) (by decide +kernel)
theorem E_J7_copyOf_6403c_10 : AW X d 122 10 [l0, l1, l2, l3] S st P = AW X d 122 24 [l0, l1, l2, l3] S st P := zq_goto (zd_of zb_J7_copyOf_6403c dJ7_copyOf_6403c_10) (by decide)
theorem E_J7_copyOf_6403c_13 : AW X d 122 13 [l0, l1, .ref a, l3] S st P = AW X d 122 14 [l0, l1, .ref a, l3] (.ref a :: S) st P := zAW_st (zd_of zb_J7_copyOf_6403c dJ7_copyOf_6403c_13) rfl rfl
theorem E_J7_copyOf_6403c_13n : AW X d 122 13 [l0, l1, .null, l3] S st P = AW X d 122 14 [l0, l1, .null, l3] (.null :: S) st P := zAW_st (zd_of zb_J7_copyOf_6403c dJ7_copyOf_6403c_13) rfl rfl
theorem E_J7_copyOf_6403c_17 : AW X d 122 17 [l0, .int x, l2, l3] S st P = AW X d 122 18 [l0, .int x, l2, l3] (.int x :: S) st P := zAW_st (zd_of zb_J7_copyOf_6403c dJ7_copyOf_6403c_17) rfl rfl
theorem E_J7_copyOf_6403c_24 : AW X d 122 24 [l0, l1, l2, l3] (.ref a :: S) st P = AW X d 122 25 [l0, l1, l2, .ref a] S st P := zAW_st (zd_of zb_J7_copyOf_6403c dJ7_copyOf_6403c_24) rfl rfl
theorem E_J7_copyOf_6403c_24n : AW X d 122 24 [l0, l1, l2, l3] (.null :: S) st P = AW X d 122 25 [l0, l1, l2, .null] S st P := zAW_st (zd_of zb_J7_copyOf_6403c dJ7_copyOf_6403c_24) rfl rfl
theorem E_J7_copyOf_6403c_25 : AW X d 122 25 [.ref a, l1, l2, l3] S st P = AW X d 122 26 [.ref a, l1, l2, l3] (.ref a :: S) st P := zAW_st (zd_of zb_J7_copyOf_6403c dJ7_copyOf_6403c_25) rfl rfl
theorem E_J7_copyOf_6403c_25n : AW X d 122 25 [.null, l1, l2, l3] S st P = AW X d 122 26 [.null, l1, l2, l3] (.null :: S) st P := zAW_st (zd_of zb_J7_copyOf_6403c dJ7_copyOf_6403c_25) rfl rfl
theorem E_J7_copyOf_6403c_26 : AW X d 122 26 [l0, l1, l2, l3] S st P = AW X d 122 27 [l0, l1, l2, l3] (.int 0 :: S) st P := zq_iconst (zd_of zb_J7_copyOf_6403c dJ7_copyOf_6403c_26) (by decide)
theorem E_J7_copyOf_6403c_27 : AW X d 122 27 [l0, l1, l2, .ref a] S st P = AW X d 122 28 [l0, l1, l2, .ref a] (.ref a :: S) st P := zAW_st (zd_of zb_J7_copyOf_6403c dJ7_copyOf_6403c_27) rfl rfl
theorem E_J7_copyOf_6403c_27n : AW X d 122 27 [l0, l1, l2, .null] S st P = AW X d 122 28 [l0, l1, l2, .null] (.null :: S) st P := zAW_st (zd_of zb_J7_copyOf_6403c dJ7_copyOf_6403c_27) rfl rfl
theorem E_J7_copyOf_6403c_28 : AW X d 122 28 [l0, l1, l2, l3] S st P = AW X d 122 29 [l0, l1, l2, l3] (.int 0 :: S) st P := zq_iconst (zd_of zb_J7_copyOf_6403c dJ7_copyOf_6403c_28) (by decide)
theorem E_J7_copyOf_6403c_29 : AW X d 122 29 [.ref a, l1, l2, l3] S st P = AW X d 122 30 [.ref a, l1, l2, l3] (.ref a :: S) st P := zAW_st (zd_of zb_J7_copyOf_6403c dJ7_copyOf_6403c_29) rfl rfl
theorem E_J7_copyOf_6403c_29n : AW X d 122 29 [.null, l1, l2, l3] S st P = AW X d 122 30 [.null, l1, l2, l3] (.null :: S) st P := zAW_st (zd_of zb_J7_copyOf_6403c dJ7_copyOf_6403c_29) rfl rfl
theorem E_J7_copyOf_6403c_30 : AW X d 122 30 [l0, l1, l2, l3] (.ref a :: S) st P = zwith (zlen X st a) fun n => AW X d 122 31 [l0, l1, l2, l3] (.int (Int32.ofNat n) :: S) st P := zq_alen (zd_of zb_J7_copyOf_6403c dJ7_copyOf_6403c_30)
theorem E_J7_copyOf_6403c_31 : AW X d 122 31 [l0, .int x, l2, l3] S st P = AW X d 122 32 [l0, .int x, l2, l3] (.int x :: S) st P := zAW_st (zd_of zb_J7_copyOf_6403c dJ7_copyOf_6403c_31) rfl rfl
theorem E_J7_copyOf_6403c_32 : AW X d 122 32 [l0, l1, l2, l3] (.int y :: .int x :: S) st P = zif (S.length ≤ 4) (AW X d 122 35 [l0, l1, l2, l3] (.int (if y < x then y else x) :: S) st P) := zq_min (zd_of zb_J7_copyOf_6403c dJ7_copyOf_6403c_32) zo_J7_copyOf_6403c (by decide) (by decide) (by decide) (by decide +kernel)
theorem E_J7_copyOf_6403c_38 : AW X d 122 38 [l0, l1, l2, .ref a] S st P = AW X d 122 39 [l0, l1, l2, .ref a] (.ref a :: S) st P := zAW_st (zd_of zb_J7_copyOf_6403c dJ7_copyOf_6403c_38) rfl rfl
theorem E_J7_copyOf_6403c_38n : AW X d 122 38 [l0, l1, l2, .null] S st P = AW X d 122 39 [l0, l1, l2, .null] (.null :: S) st P := zAW_st (zd_of zb_J7_copyOf_6403c dJ7_copyOf_6403c_38) rfl rfl
theorem E_J7_copyOf_6403c_39 : AW X d 122 39 [l0, l1, l2, l3] ([.ref a]) st P = P (.inl (some (.ref a))) st := zAW_ret (w := (.inl (some (.ref a)), st)) (zd_of zb_J7_copyOf_6403c dJ7_copyOf_6403c_39) rfl rfl (by simp only [zfin, zr_J7_copyOf_6403c])
theorem E_J7_copyOf_6403c_39n : AW X d 122 39 [l0, l1, l2, l3] [.null] st P = P (.inl (some .null)) st := zAW_ret (w := (.inl (some .null), st)) (zd_of zb_J7_copyOf_6403c dJ7_copyOf_6403c_39) rfl rfl (by simp only [zfin, zr_J7_copyOf_6403c])
theorem A_J7_copyOf_6403c (h1 : zc1 v1 = true) (h2 : zc1 v2 = true) : AC X (d + 1) 122 [v1, .int x, v2] st P = AW X d 122 0 [v1, .int x, v2, .retAddr 0] [] st P := AC_eq ⟨⟨(show 3 ≤ zml 122 by decide +kernel), by decide +kernel⟩, by simp [zc1_int, zc1_ref, zc1_float, h1, h2]⟩
theorem E_J15_checkIndex_7cf53_0 : AW X d 123 0 [.int x, l1] S st P = AW X d 123 1 [.int x, l1] (.int x :: S) st P := zAW_st (zd_of zb_J15_checkIndex_7cf53 dJ15_checkIndex_7cf53_0) rfl rfl
theorem E_J15_checkIndex_7cf53_1 : AW X d 123 1 [l0, .int x] S st P = AW X d 123 2 [l0, .int x] (.int x :: S) st P := zAW_st (zd_of zb_J15_checkIndex_7cf53 dJ15_checkIndex_7cf53_1) rfl rfl
theorem E_J15_checkIndex_7cf53_2 : AW X d 123 2 [l0, l1] S st P = AW X d 123 3 [l0, l1] (.null :: S) st P := zAW_st (zd_of zb_J15_checkIndex_7cf53 dJ15_checkIndex_7cf53_2) rfl rfl
theorem E_J15_checkIndex_7cf53_3 : AW X d 123 3 [l0, l1] (v1 :: .int y :: .int x :: S) st P = zif (S.length ≤ 4) (AC X d 125 [.int x, .int y, v1] st (zaft X d 123 3 [l0, l1] S P)) := zq_callS (B := [.int x, .int y, v1]) (S2 := S) (zd_of zb_J15_checkIndex_7cf53 dJ15_checkIndex_7cf53_3) zo_J15_checkIndex_7cf53 (by decide) (by decide) (by decide) zl_12_105 zn_125 (by simp only [List.length_cons]; omega) rfl rfl
theorem E_J15_checkIndex_7cf53_6 : AW X d 123 6 [l0, l1] ([.int x]) st P = P (.inl (some (.int x))) st := zAW_ret (w := (.inl (some (.int x)), st)) (zd_of zb_J15_checkIndex_7cf53 dJ15_checkIndex_7cf53_6) rfl rfl (by simp only [zfin, zr_J15_checkIndex_7cf53])
theorem A_J15_checkIndex_7cf53 : AC X (d + 1) 123 [.int x, .int y] st P = AW X d 123 0 [.int x, .int y] [] st P := AC_eq ⟨⟨(show 2 ≤ zml 123 by decide +kernel), by decide +kernel⟩, by simp [zc1_int, zc1_ref, zc1_float]⟩
theorem E_J8_newLength_cabcc_0 : AW X d 124 0 [.int x, l1, l2, l3] S st P = AW X d 124 1 [.int x, l1, l2, l3] (.int x :: S) st P := zAW_st (zd_of zb_J8_newLength_cabcc dJ8_newLength_cabcc_0) rfl rfl
theorem E_J8_newLength_cabcc_1 : AW X d 124 1 [l0, .int x, l2, l3] S st P = AW X d 124 2 [l0, .int x, l2, l3] (.int x :: S) st P := zAW_st (zd_of zb_J8_newLength_cabcc dJ8_newLength_cabcc_1) rfl rfl
theorem E_J8_newLength_cabcc_2 : AW X d 124 2 [l0, l1, .int x, l3] S st P = AW X d 124 3 [l0, l1, .int x, l3] (.int x :: S) st P := zAW_st (zd_of zb_J8_newLength_cabcc dJ8_newLength_cabcc_2) rfl rfl
theorem E_J8_newLength_cabcc_3 : AW X d 124 3 [l0, l1, l2, l3] (.int y :: .int x :: S) st P = zif (S.length ≤ 4) (AW X d 124 6 [l0, l1, l2, l3] (.int (if x < y then y else x) :: S) st P) := zq_max (zd_of zb_J8_newLength_cabcc dJ8_newLength_cabcc_3) zo_J8_newLength_cabcc (by decide) (by decide) (by decide) (by decide +kernel)
theorem E_J8_newLength_cabcc_6 : AW X d 124 6 [l0, l1, l2, l3] (.int y :: .int x :: S) st P = AW X d 124 7 [l0, l1, l2, l3] (.int (x + y) :: S) st P := zAW_st (zd_of zb_J8_newLength_cabcc dJ8_newLength_cabcc_6) rfl rfl
theorem E_J8_newLength_cabcc_7 : AW X d 124 7 [l0, l1, l2, l3] (.int x :: S) st P = AW X d 124 8 [l0, l1, l2, .int x] S st P := zAW_st (zd_of zb_J8_newLength_cabcc dJ8_newLength_cabcc_7) rfl rfl
theorem E_J8_newLength_cabcc_8 : AW X d 124 8 [l0, l1, l2, l3] S st P = AW X d 124 9 [l0, l1, l2, l3] (.int 0 :: S) st P := zq_iconst (zd_of zb_J8_newLength_cabcc dJ8_newLength_cabcc_8) (by decide)
theorem E_J8_newLength_cabcc_9 : AW X d 124 9 [l0, l1, l2, .int x] S st P = AW X d 124 10 [l0, l1, l2, .int x] (.int x :: S) st P := zAW_st (zd_of zb_J8_newLength_cabcc dJ8_newLength_cabcc_9) rfl rfl
theorem E_J8_newLength_cabcc_10 : AW X d 124 10 [l0, l1, l2, l3] (.int y :: .int x :: S) st P = if y ≤ x then AW X d 124 21 [l0, l1, l2, l3] S st P else AW X d 124 13 [l0, l1, l2, l3] S st P := zq_icmp (c := y ≤ x) (zd_of zb_J8_newLength_cabcc dJ8_newLength_cabcc_10) (by decide) rfl
theorem E_J8_newLength_cabcc_13 : AW X d 124 13 [l0, l1, l2, .int x] S st P = AW X d 124 14 [l0, l1, l2, .int x] (.int x :: S) st P := zAW_st (zd_of zb_J8_newLength_cabcc dJ8_newLength_cabcc_13) rfl rfl
theorem E_J8_newLength_cabcc_14 : AW X d 124 14 [l0, l1, l2, l3] S st P = AW X d 124 16 [l0, l1, l2, l3] (.int 2147483639 :: S) st P := zq_ldc (zd_of zb_J8_newLength_cabcc dJ8_newLength_cabcc_14) zo_J8_newLength_cabcc (by decide) (by decide +kernel) rfl
theorem E_J8_newLength_cabcc_16 : AW X d 124 16 [l0, l1, l2, l3] (.int y :: .int x :: S) st P = if y < x then AW X d 124 21 [l0, l1, l2, l3] S st P else AW X d 124 19 [l0, l1, l2, l3] S st P := zq_icmp (c := y < x) (zd_of zb_J8_newLength_cabcc dJ8_newLength_cabcc_16) (by decide) rfl
theorem E_J8_newLength_cabcc_19 : AW X d 124 19 [l0, l1, l2, .int x] S st P = AW X d 124 20 [l0, l1, l2, .int x] (.int x :: S) st P := zAW_st (zd_of zb_J8_newLength_cabcc dJ8_newLength_cabcc_19) rfl rfl
theorem E_J8_newLength_cabcc_20 : AW X d 124 20 [l0, l1, l2, l3] ([.int x]) st P = P (.inl (some (.int x))) st := zAW_ret (w := (.inl (some (.int x)), st)) (zd_of zb_J8_newLength_cabcc dJ8_newLength_cabcc_20) rfl rfl (by simp only [zfin, zr_J8_newLength_cabcc])
theorem E_J8_newLength_cabcc_21 : AW X d 124 21 [.int x, l1, l2, l3] S st P = AW X d 124 22 [.int x, l1, l2, l3] (.int x :: S) st P := zAW_st (zd_of zb_J8_newLength_cabcc dJ8_newLength_cabcc_21) rfl rfl
theorem E_J8_newLength_cabcc_22 : AW X d 124 22 [l0, .int x, l2, l3] S st P = AW X d 124 23 [l0, .int x, l2, l3] (.int x :: S) st P := zAW_st (zd_of zb_J8_newLength_cabcc dJ8_newLength_cabcc_22) rfl rfl
theorem E_J8_newLength_cabcc_26 : AW X d 124 26 [l0, l1, l2, l3] ([.int x]) st P = P (.inl (some (.int x))) st := zAW_ret (w := (.inl (some (.int x)), st)) (zd_of zb_J8_newLength_cabcc dJ8_newLength_cabcc_26) rfl rfl (by simp only [zfin, zr_J8_newLength_cabcc])
theorem A_J8_newLength_cabcc : AC X (d + 1) 124 [.int x, .int y, .int x3] st P = AW X d 124 0 [.int x, .int y, .int x3, .retAddr 0] [] st P := AC_eq ⟨⟨(show 3 ≤ zml 124 by decide +kernel), by decide +kernel⟩, by simp [zc1_int, zc1_ref, zc1_float]⟩
theorem E_J3_checkIndex_8e157_0 : AW X d 125 0 [.int x, l1, l2] S st P = AW X d 125 1 [.int x, l1, l2] (.int x :: S) st P := zAW_st (zd_of zb_J3_checkIndex_8e157 dJ3_checkIndex_8e157_0) rfl rfl
theorem E_J3_checkIndex_8e157_1 : AW X d 125 1 [l0, l1, l2] (.int x :: S) st P = if x < 0 then AW X d 125 9 [l0, l1, l2] S st P else AW X d 125 4 [l0, l1, l2] S st P := zq_if (c := x < 0) (zd_of zb_J3_checkIndex_8e157 dJ3_checkIndex_8e157_1) (by decide) rfl
theorem E_J3_checkIndex_8e157_4 : AW X d 125 4 [.int x, l1, l2] S st P = AW X d 125 5 [.int x, l1, l2] (.int x :: S) st P := zAW_st (zd_of zb_J3_checkIndex_8e157 dJ3_checkIndex_8e157_4) rfl rfl
theorem E_J3_checkIndex_8e157_5 : AW X d 125 5 [l0, .int x, l2] S st P = AW X d 125 6 [l0, .int x, l2] (.int x :: S) st P := zAW_st (zd_of zb_J3_checkIndex_8e157 dJ3_checkIndex_8e157_5) rfl rfl
theorem E_J3_checkIndex_8e157_6 : AW X d 125 6 [l0, l1, l2] (.int y :: .int x :: S) st P = if x < y then AW X d 125 16 [l0, l1, l2] S st P else AW X d 125 9 [l0, l1, l2] S st P := zq_icmp (c := x < y) (zd_of zb_J3_checkIndex_8e157 dJ3_checkIndex_8e157_6) (by decide) rfl
theorem E_J3_checkIndex_8e157_9 : AW X d 125 9 [l0, l1, .ref a] S st P = AW X d 125 10 [l0, l1, .ref a] (.ref a :: S) st P := zAW_st (zd_of zb_J3_checkIndex_8e157 dJ3_checkIndex_8e157_9) rfl rfl
theorem E_J3_checkIndex_8e157_9n : AW X d 125 9 [l0, l1, .null] S st P = AW X d 125 10 [l0, l1, .null] (.null :: S) st P := zAW_st (zd_of zb_J3_checkIndex_8e157 dJ3_checkIndex_8e157_9) rfl rfl
theorem E_J3_checkIndex_8e157_10 : AW X d 125 10 [.int x, l1, l2] S st P = AW X d 125 11 [.int x, l1, l2] (.int x :: S) st P := zAW_st (zd_of zb_J3_checkIndex_8e157 dJ3_checkIndex_8e157_10) rfl rfl
theorem E_J3_checkIndex_8e157_11 : AW X d 125 11 [l0, .int x, l2] S st P = AW X d 125 12 [l0, .int x, l2] (.int x :: S) st P := zAW_st (zd_of zb_J3_checkIndex_8e157 dJ3_checkIndex_8e157_11) rfl rfl
theorem E_J3_checkIndex_8e157_16 : AW X d 125 16 [.int x, l1, l2] S st P = AW X d 125 17 [.int x, l1, l2] (.int x :: S) st P := zAW_st (zd_of zb_J3_checkIndex_8e157 dJ3_checkIndex_8e157_16) rfl rfl
theorem E_J3_checkIndex_8e157_17 : AW X d 125 17 [l0, l1, l2] ([.int x]) st P = P (.inl (some (.int x))) st := zAW_ret (w := (.inl (some (.int x)), st)) (zd_of zb_J3_checkIndex_8e157 dJ3_checkIndex_8e157_17) rfl rfl (by simp only [zfin, zr_J3_checkIndex_8e157])
theorem A_J3_checkIndex_8e157 (h1 : zc1 v1 = true) : AC X (d + 1) 125 [.int x, .int y, v1] st P = AW X d 125 0 [.int x, .int y, v1] [] st P := AC_eq ⟨⟨(show 3 ≤ zml 125 by decide +kernel), by decide +kernel⟩, by simp [zc1_int, zc1_ref, zc1_float, h1]⟩
end ZEQ0
