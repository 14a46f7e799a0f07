/-! equations of the instructions (made by gen21.py) -/
theorem zb_X6_init : zby 72 = cX6_init := rfl
theorem zo_X6_init : zoc 72 = 6 := rfl
theorem zr_X6_init : zrt 72 = none := rfl
theorem zh_X6_init : zhh 72 = [] := rfl
theorem zf_6_7 : zFL.lookup (6, 7) = some (7, 0) := by decide +kernel
theorem zf_6_13 : zFL.lookup (6, 13) = some (7, 1) := by decide +kernel
theorem zf_6_16 : zFL.lookup (6, 16) = some (7, 2) := by decide +kernel
theorem zf_6_19 : zFL.lookup (6, 19) = some (7, 3) := by decide +kernel
theorem zf_6_22 : zFL.lookup (6, 22) = some (7, 4) := by decide +kernel
theorem zf_6_25 : zFL.lookup (6, 25) = some (7, 6) := by decide +kernel
theorem zf_6_28 : zFL.lookup (6, 28) = some (7, 7) := by decide +kernel
theorem zf_6_31 : zFL.lookup (6, 31) = some (7, 8) := by decide +kernel
theorem zf_6_34 : zFL.lookup (6, 34) = some (7, 9) := by decide +kernel
theorem zf_6_37 : zFL.lookup (6, 37) = some (7, 10) := by decide +kernel
theorem zf_6_40 : zFL.lookup (6, 40) = some (7, 11) := by decide +kernel
theorem zf_6_43 : zFL.lookup (6, 43) = some (7, 12) := by decide +kernel
theorem zf_6_46 : zFL.lookup (6, 46) = some (7, 13) := by decide +kernel
theorem zf_6_49 : zFL.lookup (6, 49) = some (7, 16) := by decide +kernel
theorem zf_6_52 : zFL.lookup (6, 52) = some (7, 17) := by decide +kernel
theorem zf_6_55 : zFL.lookup (6, 55) = some (7, 18) := by decide +kernel
theorem zf_6_58 : zFL.lookup (6, 58) = some (7, 19) := by decide +kernel
theorem zf_6_61 : zFL.lookup (6, 61) = some (7, 20) := by decide +kernel
theorem zf_6_64 : zFL.lookup (6, 64) = some (7, 22) := by decide +kernel
theorem zb_X6_thrown : zby 73 = cX6_thrown := rfl
theorem zo_X6_thrown : zoc 73 = 6 := rfl
theorem zr_X6_thrown : zrt 73 = some (.int) := rfl
theorem zh_X6_thrown : zhh 73 = [] := rfl
theorem zf_6_67 : zFL.lookup (6, 67) = some (7, 25) := by decide +kernel
theorem zb_X6_holds : zby 74 = cX6_holds := rfl
theorem zo_X6_holds : zoc 74 = 6 := rfl
theorem zr_X6_holds : zrt 74 = some (.boolean) := rfl
theorem zh_X6_holds : zhh 74 = [] := rfl
theorem zb_X6_in : zby 75 = cX6_in := rfl
theorem zo_X6_in : zoc 75 = 6 := rfl
theorem zr_X6_in : zrt 75 = some (.boolean) := rfl
theorem zh_X6_in : zhh 75 = [] := rfl
theorem zb_X6_isDrawing : zby 76 = cX6_isDrawing := rfl
theorem zo_X6_isDrawing : zoc 76 = 6 := rfl
theorem zr_X6_isDrawing : zrt 76 = some (.boolean) := rfl
theorem zh_X6_isDrawing : zhh 76 = [] := rfl
theorem zf_6_71 : zFL.lookup (6, 71) = some (7, 5) := by decide +kernel
theorem zl_6_74 : zCL.lookup (6, 74) = some (0, 75) := by decide +kernel
theorem zn_75 : znp 75 = 3 := rfl
theorem zb_X6_drawing : zby 77 = cX6_drawing := rfl
theorem zo_X6_drawing : zoc 77 = 6 := rfl
theorem zr_X6_drawing : zrt 77 = some (.int) := rfl
theorem zh_X6_drawing : zhh 77 = [] := rfl
theorem zl_6_78 : zCL.lookup (6, 78) = some (0, 74) := by decide +kernel
theorem zn_74 : znp 74 = 1 := rfl
theorem zb_X6_stroke : zby 78 = cX6_stroke := rfl
theorem zo_X6_stroke : zoc 78 = 6 := rfl
theorem zr_X6_stroke : zrt 78 = some (.int) := rfl
theorem zh_X6_stroke : zhh 78 = [] := rfl
theorem zl_6_82 : zCL.lookup (6, 82) = some (0, 76) := by decide +kernel
theorem zn_76 : znp 76 = 1 := rfl
theorem zb_X6_isDoubled : zby 79 = cX6_isDoubled := rfl
theorem zo_X6_isDoubled : zoc 79 = 6 := rfl
theorem zr_X6_isDoubled : zrt 79 = some (.boolean) := rfl
theorem zh_X6_isDoubled : zhh 79 = [] := rfl
theorem zb_X6_mends : zby 80 = cX6_mends := rfl
theorem zo_X6_mends : zoc 80 = 6 := rfl
theorem zr_X6_mends : zrt 80 = none := rfl
theorem zh_X6_mends : zhh 80 = [] := rfl
theorem zl_6_85 : zCL.lookup (6, 85) = some (0, 79) := by decide +kernel
theorem zn_79 : znp 79 = 2 := rfl
theorem zb_X6_fault : zby 81 = cX6_fault := rfl
theorem zo_X6_fault : zoc 81 = 6 := rfl
theorem zr_X6_fault : zrt 81 = some (.int) := rfl
theorem zh_X6_fault : zhh 81 = [] := rfl
theorem zb_X6_finish : zby 82 = cX6_finish := rfl
theorem zo_X6_finish : zoc 82 = 6 := rfl
theorem zr_X6_finish : zrt 82 = some (.int) := rfl
theorem zh_X6_finish : zhh 82 = [] := rfl
theorem zl_6_89 : zCL.lookup (6, 89) = some (0, 80) := by decide +kernel
theorem zn_80 : znp 80 = 1 := rfl
theorem zl_6_93 : zCL.lookup (6, 93) = some (0, 81) := by decide +kernel
theorem zn_81 : znp 81 = 1 := rfl
theorem zl_6_97 : zCL.lookup (6, 97) = some (0, 97) := by decide +kernel
theorem zn_97 : znp 97 = 0 := rfl
theorem zb_X6_size : zby 83 = cX6_size := rfl
theorem zo_X6_size : zoc 83 = 6 := rfl
theorem zr_X6_size : zrt 83 = some (.int) := rfl
theorem zh_X6_size : zhh 83 = [] := rfl
theorem zb_X6_ofDrawing : zby 84 = cX6_ofDrawing := rfl
theorem zo_X6_ofDrawing : zoc 84 = 6 := rfl
theorem zr_X6_ofDrawing : zrt 84 = some (.int) := rfl
theorem zh_X6_ofDrawing : zhh 84 = [] := rfl
theorem zl_6_100 : zCL.lookup (6, 100) = some (0, 83) := by decide +kernel
theorem zn_83 : znp 83 = 2 := rfl
theorem zb_X6_root : zby 85 = cX6_root := rfl
theorem zo_X6_root : zoc 85 = 6 := rfl
theorem zr_X6_root : zrt 85 = some (.double) := rfl
theorem zh_X6_root : zhh 85 = [] := rfl
theorem zb_X6_lengthOf : zby 86 = cX6_lengthOf := rfl
theorem zo_X6_lengthOf : zoc 86 = 6 := rfl
theorem zr_X6_lengthOf : zrt 86 = some (.float) := rfl
theorem zh_X6_lengthOf : zhh 86 = [] := rfl
theorem zl_6_106 : zCL.lookup (6, 106) = some (0, 85) := by decide +kernel
theorem zn_85 : znp 85 = 1 := rfl
theorem zb_X6_length : zby 87 = cX6_length := rfl
theorem zo_X6_length : zoc 87 = 6 := rfl
theorem zr_X6_length : zrt 87 = some (.float) := rfl
theorem zh_X6_length : zhh 87 = [] := rfl
theorem zl_6_111 : zCL.lookup (6, 111) = some (0, 86) := by decide +kernel
theorem zn_86 : znp 86 = 1 := rfl
theorem zb_X6_adds : zby 88 = cX6_adds := rfl
theorem zo_X6_adds : zoc 88 = 6 := rfl
theorem zr_X6_adds : zrt 88 = some (.int) := rfl
theorem zh_X6_adds : zhh 88 = [] := rfl
theorem zf_6_115 : zFL.lookup (6, 115) = some (7, 14) := by decide +kernel
theorem zb_X6_sheet : zby 89 = cX6_sheet := rfl
theorem zo_X6_sheet : zoc 89 = 6 := rfl
theorem zr_X6_sheet : zrt 89 = some (.int) := rfl
theorem zh_X6_sheet : zhh 89 = [] := rfl
theorem zf_6_118 : zFL.lookup (6, 118) = some (7, 15) := by decide +kernel
theorem zl_6_121 : zCL.lookup (6, 121) = some (0, 88) := by decide +kernel
theorem zn_88 : znp 88 = 7 := rfl
theorem zb_X6_bestFor : zby 90 = cX6_bestFor := rfl
theorem zo_X6_bestFor : zoc 90 = 6 := rfl
theorem zr_X6_bestFor : zrt 90 = some (.int) := rfl
theorem zh_X6_bestFor : zhh 90 = [] := rfl
theorem zb_X6_lays : zby 91 = cX6_lays := rfl
theorem zo_X6_lays : zoc 91 = 6 := rfl
theorem zr_X6_lays : zrt 91 = some (.int) := rfl
theorem zh_X6_lays : zhh 91 = [] := rfl
theorem zl_6_125 : zCL.lookup (6, 125) = some (0, 90) := by decide +kernel
theorem zn_90 : znp 90 = 2 := rfl
theorem zb_X6_allFree : zby 92 = cX6_allFree := rfl
theorem zo_X6_allFree : zoc 92 = 6 := rfl
theorem zr_X6_allFree : zrt 92 = some (.boolean) := rfl
theorem zh_X6_allFree : zhh 92 = [] := rfl
theorem zb_X6_frees : zby 93 = cX6_frees := rfl
theorem zo_X6_frees : zoc 93 = 6 := rfl
theorem zr_X6_frees : zrt 93 = none := rfl
theorem zh_X6_frees : zhh 93 = [] := rfl
theorem zl_6_129 : zCL.lookup (6, 129) = some (0, 92) := by decide +kernel
theorem zn_92 : znp 92 = 1 := rfl
theorem zb_X6_isJob : zby 94 = cX6_isJob := rfl
theorem zo_X6_isJob : zoc 94 = 6 := rfl
theorem zr_X6_isJob : zrt 94 = some (.boolean) := rfl
theorem zh_X6_isJob : zhh 94 = [] := rfl
theorem zf_6_132 : zFL.lookup (6, 132) = some (7, 21) := by decide +kernel
theorem zb_X6_takesOff : zby 95 = cX6_takesOff := rfl
theorem zo_X6_takesOff : zoc 95 = 6 := rfl
theorem zr_X6_takesOff : zrt 95 = none := rfl
theorem zh_X6_takesOff : zhh 95 = [] := rfl
theorem zl_6_135 : zCL.lookup (6, 135) = some (0, 93) := by decide +kernel
theorem zn_93 : znp 93 = 1 := rfl
theorem zb_X6_nests : zby 96 = cX6_nests := rfl
theorem zo_X6_nests : zoc 96 = 6 := rfl
theorem zr_X6_nests : zrt 96 = none := rfl
theorem zh_X6_nests : zhh 96 = [] := rfl
theorem zl_6_138 : zCL.lookup (6, 138) = some (0, 91) := by decide +kernel
theorem zn_91 : znp 91 = 2 := rfl
theorem zl_6_141 : zCL.lookup (6, 141) = some (0, 95) := by decide +kernel
theorem zn_95 : znp 95 = 2 := rfl
theorem zb_X6_tries : zby 97 = cX6_tries := rfl
theorem zo_X6_tries : zoc 97 = 6 := rfl
theorem zr_X6_tries : zrt 97 = none := rfl
theorem zh_X6_tries : zhh 97 = [] := rfl
theorem zl_6_145 : zCL.lookup (6, 145) = some (0, 96) := by decide +kernel
theorem zn_96 : znp 96 = 1 := rfl
theorem zb_X6_job : zby 98 = cX6_job := rfl
theorem zo_X6_job : zoc 98 = 6 := rfl
theorem zr_X6_job : zrt 98 = some (.int) := rfl
theorem zh_X6_job : zhh 98 = [] := rfl
theorem zb_X6_cancel : zby 99 = cX6_cancel := rfl
theorem zo_X6_cancel : zoc 99 = 6 := rfl
theorem zr_X6_cancel : zrt 99 = some (.int) := rfl
theorem zh_X6_cancel : zhh 99 = [] := rfl
theorem zl_6_148 : zCL.lookup (6, 148) = some (0, 94) := by decide +kernel
theorem zn_94 : znp 94 = 1 := rfl
theorem zb_X6_shares : zby 100 = cX6_shares := rfl
theorem zo_X6_shares : zoc 100 = 6 := rfl
theorem zr_X6_shares : zrt 100 = some (.boolean) := rfl
theorem zh_X6_shares : zhh 100 = [] := rfl
theorem zb_X6_redraw : zby 101 = cX6_redraw := rfl
theorem zo_X6_redraw : zoc 101 = 6 := rfl
theorem zr_X6_redraw : zrt 101 = some (.int) := rfl
theorem zh_X6_redraw : zhh 101 = [] := rfl
theorem zl_6_151 : zCL.lookup (6, 151) = some (0, 100) := by decide +kernel
theorem zn_100 : znp 100 = 2 := rfl
theorem zb_X6_touches : zby 102 = cX6_touches := rfl
theorem zo_X6_touches : zoc 102 = 6 := rfl
theorem zr_X6_touches : zrt 102 = some (.boolean) := rfl
theorem zh_X6_touches : zhh 102 = [] := rfl
theorem zb_X6_cut : zby 103 = cX6_cut := rfl
theorem zo_X6_cut : zoc 103 = 6 := rfl
theorem zr_X6_cut : zrt 103 = some (.int) := rfl
theorem zh_X6_cut : zhh 103 = [] := rfl
theorem zl_6_154 : zCL.lookup (6, 154) = some (0, 102) := by decide +kernel
theorem zn_102 : znp 102 = 2 := rfl
theorem zf_6_158 : zFL.lookup (6, 158) = some (7, 24) := by decide +kernel
theorem zf_6_162 : zFL.lookup (6, 162) = some (7, 23) := by decide +kernel
theorem zb_X6_ofJob : zby 104 = cX6_ofJob := rfl
theorem zo_X6_ofJob : zoc 104 = 6 := rfl
theorem zr_X6_ofJob : zrt 104 = some (.int) := rfl
theorem zh_X6_ofJob : zhh 104 = [] := rfl
theorem zb_X6_where : zby 105 = cX6_where := rfl
theorem zo_X6_where : zoc 105 = 6 := rfl
theorem zr_X6_where : zrt 105 = some (.int) := rfl
theorem zh_X6_where : zhh 105 = [] := rfl
theorem zb_X6_free : zby 106 = cX6_free := rfl
theorem zo_X6_free : zoc 106 = 6 := rfl
theorem zr_X6_free : zrt 106 = some (.int) := rfl
theorem zh_X6_free : zhh 106 = [] := rfl
theorem zb_X6_minutes : zby 107 = cX6_minutes := rfl
theorem zo_X6_minutes : zoc 107 = 6 := rfl
theorem zr_X6_minutes : zrt 107 = some (.int) := rfl
theorem zh_X6_minutes : zhh 107 = [] := rfl
theorem zb_X6_cutLength : zby 108 = cX6_cutLength := rfl
theorem zo_X6_cutLength : zoc 108 = 6 := rfl
theorem zr_X6_cutLength : zrt 108 = some (.float) := rfl
theorem zh_X6_cutLength : zhh 108 = [] := rfl
theorem zb_X6_cutAnew : zby 109 = cX6_cutAnew := rfl
theorem zo_X6_cutAnew : zoc 109 = 6 := rfl
theorem zr_X6_cutAnew : zrt 109 = some (.float) := rfl
theorem zh_X6_cutAnew : zhh 109 = [] := rfl
section ZEQ2
variable {X : ZX} {d a b : Nat} {l0 l1 l2 l3 l4 l5 l6 l7 l8 l9 l10 l11 v v1 v2 v3 v4 v5 v6 v7 : Value} {S : List Value} {st : ZS} {P : ZO → ZS → Prop} {x y x3 x4 x5 x6 x7 : Int32} {u u2 : UInt32} {w w2 : UInt64} {q1 q2 : Int64}
theorem E_X6_init_0 : AW X d 72 0 [.ref a] S st P = AW X d 72 1 [.ref a] (.ref a :: S) st P := zAW_st (zd_of zb_X6_init dX6_init_0) rfl rfl
theorem E_X6_init_0n : AW X d 72 0 [.null] S st P = AW X d 72 1 [.null] (.null :: S) st P := zAW_st (zd_of zb_X6_init dX6_init_0) rfl rfl
theorem E_X6_init_1 : AW X d 72 1 [l0] (.ref a :: S) st P = zif (S.length ≤ 4) (AW X d 72 4 [l0] S st P) := zq_obj (zd_of zb_X6_init dX6_init_1) zo_X6_init (by decide) (by decide +kernel)
theorem E_X6_init_4 : AW X d 72 4 [.ref a] S st P = AW X d 72 5 [.ref a] (.ref a :: S) st P := zAW_st (zd_of zb_X6_init dX6_init_4) rfl rfl
theorem E_X6_init_4n : AW X d 72 4 [.null] S st P = AW X d 72 5 [.null] (.null :: S) st P := zAW_st (zd_of zb_X6_init dX6_init_4) rfl rfl
theorem E_X6_init_5 : AW X d 72 5 [l0] S st P = AW X d 72 7 [l0] (.int 12 :: S) st P := zq_bipush (zd_of zb_X6_init dX6_init_5) (by decide)
theorem E_X6_init_7 : AW X d 72 7 [l0] (.int 12 :: S) st P = AW X d 72 9 [l0] (.ref st.2.length :: S) (znwa st 12 (.inl fun _ => 0)) P := zq_newI (zd_of zb_X6_init dX6_init_7) (by decide) (by decide)
theorem E_X6_init_9 : AW X d 72 9 [l0] (.ref b :: .ref a :: S) st P = zwith (zget st a 7 0) fun _ => AW X d 72 12 [l0] S (zput st a 0 (.ref b)) P := zq_putfield (zd_of zb_X6_init dX6_init_9) zo_X6_init zf_6_7 rfl (Or.inr (by decide +kernel))
theorem E_X6_init_9n : AW X d 72 9 [l0] (.null :: .ref a :: S) st P = zwith (zget st a 7 0) fun _ => AW X d 72 12 [l0] S (zput st a 0 (.null)) P := zq_putfield (zd_of zb_X6_init dX6_init_9) zo_X6_init zf_6_7 rfl (Or.inr (by decide +kernel))
theorem E_X6_init_12 : AW X d 72 12 [.ref a] S st P = AW X d 72 13 [.ref a] (.ref a :: S) st P := zAW_st (zd_of zb_X6_init dX6_init_12) rfl rfl
theorem E_X6_init_12n : AW X d 72 12 [.null] S st P = AW X d 72 13 [.null] (.null :: S) st P := zAW_st (zd_of zb_X6_init dX6_init_12) rfl rfl
theorem E_X6_init_13 : AW X d 72 13 [l0] S st P = AW X d 72 15 [l0] (.int 12 :: S) st P := zq_bipush (zd_of zb_X6_init dX6_init_13) (by decide)
theorem E_X6_init_15 : AW X d 72 15 [l0] (.int 12 :: S) st P = AW X d 72 17 [l0] (.ref st.2.length :: S) (znwa st 12 (.inl fun _ => 0)) P := zq_newI (zd_of zb_X6_init dX6_init_15) (by decide) (by decide)
theorem E_X6_init_17 : AW X d 72 17 [l0] (.ref b :: .ref a :: S) st P = zwith (zget st a 7 1) fun _ => AW X d 72 20 [l0] S (zput st a 1 (.ref b)) P := zq_putfield (zd_of zb_X6_init dX6_init_17) zo_X6_init zf_6_13 rfl (Or.inr (by decide +kernel))
theorem E_X6_init_17n : AW X d 72 17 [l0] (.null :: .ref a :: S) st P = zwith (zget st a 7 1) fun _ => AW X d 72 20 [l0] S (zput st a 1 (.null)) P := zq_putfield (zd_of zb_X6_init dX6_init_17) zo_X6_init zf_6_13 rfl (Or.inr (by decide +kernel))
theorem E_X6_init_20 : AW X d 72 20 [.ref a] S st P = AW X d 72 21 [.ref a] (.ref a :: S) st P := zAW_st (zd_of zb_X6_init dX6_init_20) rfl rfl
theorem E_X6_init_20n : AW X d 72 20 [.null] S st P = AW X d 72 21 [.null] (.null :: S) st P := zAW_st (zd_of zb_X6_init dX6_init_20) rfl rfl
theorem E_X6_init_21 : AW X d 72 21 [l0] S st P = AW X d 72 23 [l0] (.int 12 :: S) st P := zq_bipush (zd_of zb_X6_init dX6_init_21) (by decide)
theorem E_X6_init_23 : AW X d 72 23 [l0] (.int 12 :: S) st P = AW X d 72 25 [l0] (.ref st.2.length :: S) (znwa st 12 (.inl fun _ => 0)) P := zq_newI (zd_of zb_X6_init dX6_init_23) (by decide) (by decide)
theorem E_X6_init_25 : AW X d 72 25 [l0] (.ref b :: .ref a :: S) st P = zwith (zget st a 7 2) fun _ => AW X d 72 28 [l0] S (zput st a 2 (.ref b)) P := zq_putfield (zd_of zb_X6_init dX6_init_25) zo_X6_init zf_6_16 rfl (Or.inr (by decide +kernel))
theorem E_X6_init_25n : AW X d 72 25 [l0] (.null :: .ref a :: S) st P = zwith (zget st a 7 2) fun _ => AW X d 72 28 [l0] S (zput st a 2 (.null)) P := zq_putfield (zd_of zb_X6_init dX6_init_25) zo_X6_init zf_6_16 rfl (Or.inr (by decide +kernel))
theorem E_X6_init_28 : AW X d 72 28 [.ref a] S st P = AW X d 72 29 [.ref a] (.ref a :: S) st P := zAW_st (zd_of zb_X6_init dX6_init_28) rfl rfl
theorem E_X6_init_28n : AW X d 72 28 [.null] S st P = AW X d 72 29 [.null] (.null :: S) st P := zAW_st (zd_of zb_X6_init dX6_init_28) rfl rfl
theorem E_X6_init_29 : AW X d 72 29 [l0] S st P = AW X d 72 32 [l0] (.int 288 :: S) st P := zq_sipush (zd_of zb_X6_init dX6_init_29) (by decide)
theorem E_X6_init_32 : AW X d 72 32 [l0] (.int 288 :: S) st P = AW X d 72 34 [l0] (.ref st.2.length :: S) (znwa st 288 (.inl fun _ => 0)) P := zq_newI (zd_of zb_X6_init dX6_init_32) (by decide) (by decide)
theorem E_X6_init_34 : AW X d 72 34 [l0] (.ref b :: .ref a :: S) st P = zwith (zget st a 7 3) fun _ => AW X d 72 37 [l0] S (zput st a 3 (.ref b)) P := zq_putfield (zd_of zb_X6_init dX6_init_34) zo_X6_init zf_6_19 rfl (Or.inr (by decide +kernel))
theorem E_X6_init_34n : AW X d 72 34 [l0] (.null :: .ref a :: S) st P = zwith (zget st a 7 3) fun _ => AW X d 72 37 [l0] S (zput st a 3 (.null)) P := zq_putfield (zd_of zb_X6_init dX6_init_34) zo_X6_init zf_6_19 rfl (Or.inr (by decide +kernel))
theorem E_X6_init_37 : AW X d 72 37 [.ref a] S st P = AW X d 72 38 [.ref a] (.ref a :: S) st P := zAW_st (zd_of zb_X6_init dX6_init_37) rfl rfl
theorem E_X6_init_37n : AW X d 72 37 [.null] S st P = AW X d 72 38 [.null] (.null :: S) st P := zAW_st (zd_of zb_X6_init dX6_init_37) rfl rfl
theorem E_X6_init_38 : AW X d 72 38 [l0] S st P = AW X d 72 41 [l0] (.int 288 :: S) st P := zq_sipush (zd_of zb_X6_init dX6_init_38) (by decide)
theorem E_X6_init_41 : AW X d 72 41 [l0] (.int 288 :: S) st P = AW X d 72 43 [l0] (.ref st.2.length :: S) (znwa st 288 (.inl fun _ => 0)) P := zq_newI (zd_of zb_X6_init dX6_init_41) (by decide) (by decide)
theorem E_X6_init_43 : AW X d 72 43 [l0] (.ref b :: .ref a :: S) st P = zwith (zget st a 7 4) fun _ => AW X d 72 46 [l0] S (zput st a 4 (.ref b)) P := zq_putfield (zd_of zb_X6_init dX6_init_43) zo_X6_init zf_6_22 rfl (Or.inr (by decide +kernel))
theorem E_X6_init_43n : AW X d 72 43 [l0] (.null :: .ref a :: S) st P = zwith (zget st a 7 4) fun _ => AW X d 72 46 [l0] S (zput st a 4 (.null)) P := zq_putfield (zd_of zb_X6_init dX6_init_43) zo_X6_init zf_6_22 rfl (Or.inr (by decide +kernel))
theorem E_X6_init_46 : AW X d 72 46 [.ref a] S st P = AW X d 72 47 [.ref a] (.ref a :: S) st P := zAW_st (zd_of zb_X6_init dX6_init_46) rfl rfl
theorem E_X6_init_46n : AW X d 72 46 [.null] S st P = AW X d 72 47 [.null] (.null :: S) st P := zAW_st (zd_of zb_X6_init dX6_init_46) rfl rfl
theorem E_X6_init_47 : AW X d 72 47 [l0] S st P = AW X d 72 50 [l0] (.int 1024 :: S) st P := zq_sipush (zd_of zb_X6_init dX6_init_47) (by decide)
theorem E_X6_init_50 : AW X d 72 50 [l0] (.int 1024 :: S) st P = AW X d 72 52 [l0] (.ref st.2.length :: S) (znwa st 1024 (.inl fun _ => 0)) P := zq_newI (zd_of zb_X6_init dX6_init_50) (by decide) (by decide)
theorem E_X6_init_52 : AW X d 72 52 [l0] (.ref b :: .ref a :: S) st P = zwith (zget st a 7 6) fun _ => AW X d 72 55 [l0] S (zput st a 6 (.ref b)) P := zq_putfield (zd_of zb_X6_init dX6_init_52) zo_X6_init zf_6_25 rfl (Or.inr (by decide +kernel))
theorem E_X6_init_52n : AW X d 72 52 [l0] (.null :: .ref a :: S) st P = zwith (zget st a 7 6) fun _ => AW X d 72 55 [l0] S (zput st a 6 (.null)) P := zq_putfield (zd_of zb_X6_init dX6_init_52) zo_X6_init zf_6_25 rfl (Or.inr (by decide +kernel))
theorem E_X6_init_55 : AW X d 72 55 [.ref a] S st P = AW X d 72 56 [.ref a] (.ref a :: S) st P := zAW_st (zd_of zb_X6_init dX6_init_55) rfl rfl
theorem E_X6_init_55n : AW X d 72 55 [.null] S st P = AW X d 72 56 [.null] (.null :: S) st P := zAW_st (zd_of zb_X6_init dX6_init_55) rfl rfl
theorem E_X6_init_56 : AW X d 72 56 [l0] S st P = AW X d 72 59 [l0] (.int 400 :: S) st P := zq_sipush (zd_of zb_X6_init dX6_init_56) (by decide)
theorem E_X6_init_59 : AW X d 72 59 [l0] (.int 400 :: S) st P = AW X d 72 61 [l0] (.ref st.2.length :: S) (znwa st 400 (.inl fun _ => 0)) P := zq_newI (zd_of zb_X6_init dX6_init_59) (by decide) (by decide)
theorem E_X6_init_61 : AW X d 72 61 [l0] (.ref b :: .ref a :: S) st P = zwith (zget st a 7 7) fun _ => AW X d 72 64 [l0] S (zput st a 7 (.ref b)) P := zq_putfield (zd_of zb_X6_init dX6_init_61) zo_X6_init zf_6_28 rfl (Or.inr (by decide +kernel))
theorem E_X6_init_61n : AW X d 72 61 [l0] (.null :: .ref a :: S) st P = zwith (zget st a 7 7) fun _ => AW X d 72 64 [l0] S (zput st a 7 (.null)) P := zq_putfield (zd_of zb_X6_init dX6_init_61) zo_X6_init zf_6_28 rfl (Or.inr (by decide +kernel))
theorem E_X6_init_64 : AW X d 72 64 [.ref a] S st P = AW X d 72 65 [.ref a] (.ref a :: S) st P := zAW_st (zd_of zb_X6_init dX6_init_64) rfl rfl
theorem E_X6_init_64n : AW X d 72 64 [.null] S st P = AW X d 72 65 [.null] (.null :: S) st P := zAW_st (zd_of zb_X6_init dX6_init_64) rfl rfl
theorem E_X6_init_65 : AW X d 72 65 [l0] S st P = AW X d 72 68 [l0] (.int 400 :: S) st P := zq_sipush (zd_of zb_X6_init dX6_init_65) (by decide)
theorem E_X6_init_68 : AW X d 72 68 [l0] (.int 400 :: S) st P = AW X d 72 70 [l0] (.ref st.2.length :: S) (znwa st 400 (.inl fun _ => 0)) P := zq_newI (zd_of zb_X6_init dX6_init_68) (by decide) (by decide)
theorem E_X6_init_70 : AW X d 72 70 [l0] (.ref b :: .ref a :: S) st P = zwith (zget st a 7 8) fun _ => AW X d 72 73 [l0] S (zput st a 8 (.ref b)) P := zq_putfield (zd_of zb_X6_init dX6_init_70) zo_X6_init zf_6_31 rfl (Or.inr (by decide +kernel))
theorem E_X6_init_70n : AW X d 72 70 [l0] (.null :: .ref a :: S) st P = zwith (zget st a 7 8) fun _ => AW X d 72 73 [l0] S (zput st a 8 (.null)) P := zq_putfield (zd_of zb_X6_init dX6_init_70) zo_X6_init zf_6_31 rfl (Or.inr (by decide +kernel))
theorem E_X6_init_73 : AW X d 72 73 [.ref a] S st P = AW X d 72 74 [.ref a] (.ref a :: S) st P := zAW_st (zd_of zb_X6_init dX6_init_73) rfl rfl
theorem E_X6_init_73n : AW X d 72 73 [.null] S st P = AW X d 72 74 [.null] (.null :: S) st P := zAW_st (zd_of zb_X6_init dX6_init_73) rfl rfl
theorem E_X6_init_74 : AW X d 72 74 [l0] S st P = AW X d 72 77 [l0] (.int 400 :: S) st P := zq_sipush (zd_of zb_X6_init dX6_init_74) (by decide)
theorem E_X6_init_77 : AW X d 72 77 [l0] (.int 400 :: S) st P = AW X d 72 79 [l0] (.ref st.2.length :: S) (znwa st 400 (.inl fun _ => 0)) P := zq_newI (zd_of zb_X6_init dX6_init_77) (by decide) (by decide)
theorem E_X6_init_79 : AW X d 72 79 [l0] (.ref b :: .ref a :: S) st P = zwith (zget st a 7 9) fun _ => AW X d 72 82 [l0] S (zput st a 9 (.ref b)) P := zq_putfield (zd_of zb_X6_init dX6_init_79) zo_X6_init zf_6_34 rfl (Or.inr (by decide +kernel))
theorem E_X6_init_79n : AW X d 72 79 [l0] (.null :: .ref a :: S) st P = zwith (zget st a 7 9) fun _ => AW X d 72 82 [l0] S (zput st a 9 (.null)) P := zq_putfield (zd_of zb_X6_init dX6_init_79) zo_X6_init zf_6_34 rfl (Or.inr (by decide +kernel))
theorem E_X6_init_82 : AW X d 72 82 [.ref a] S st P = AW X d 72 83 [.ref a] (.ref a :: S) st P := zAW_st (zd_of zb_X6_init dX6_init_82) rfl rfl
theorem E_X6_init_82n : AW X d 72 82 [.null] S st P = AW X d 72 83 [.null] (.null :: S) st P := zAW_st (zd_of zb_X6_init dX6_init_82) rfl rfl
theorem E_X6_init_83 : AW X d 72 83 [l0] S st P = AW X d 72 86 [l0] (.int 400 :: S) st P := zq_sipush (zd_of zb_X6_init dX6_init_83) (by decide)
theorem E_X6_init_86 : AW X d 72 86 [l0] (.int 400 :: S) st P = AW X d 72 88 [l0] (.ref st.2.length :: S) (znwa st 400 (.inl fun _ => 0)) P := zq_newI (zd_of zb_X6_init dX6_init_86) (by decide) (by decide)
theorem E_X6_init_88 : AW X d 72 88 [l0] (.ref b :: .ref a :: S) st P = zwith (zget st a 7 10) fun _ => AW X d 72 91 [l0] S (zput st a 10 (.ref b)) P := zq_putfield (zd_of zb_X6_init dX6_init_88) zo_X6_init zf_6_37 rfl (Or.inr (by decide +kernel))
theorem E_X6_init_88n : AW X d 72 88 [l0] (.null :: .ref a :: S) st P = zwith (zget st a 7 10) fun _ => AW X d 72 91 [l0] S (zput st a 10 (.null)) P := zq_putfield (zd_of zb_X6_init dX6_init_88) zo_X6_init zf_6_37 rfl (Or.inr (by decide +kernel))
theorem E_X6_init_91 : AW X d 72 91 [.ref a] S st P = AW X d 72 92 [.ref a] (.ref a :: S) st P := zAW_st (zd_of zb_X6_init dX6_init_91) rfl rfl
theorem E_X6_init_91n : AW X d 72 91 [.null] S st P = AW X d 72 92 [.null] (.null :: S) st P := zAW_st (zd_of zb_X6_init dX6_init_91) rfl rfl
theorem E_X6_init_92 : AW X d 72 92 [l0] S st P = AW X d 72 95 [l0] (.int 400 :: S) st P := zq_sipush (zd_of zb_X6_init dX6_init_92) (by decide)
theorem E_X6_init_95 : AW X d 72 95 [l0] (.int 400 :: S) st P = AW X d 72 97 [l0] (.ref st.2.length :: S) (znwa st 400 (.inl fun _ => 0)) P := zq_newI (zd_of zb_X6_init dX6_init_95) (by decide) (by decide)
theorem E_X6_init_97 : AW X d 72 97 [l0] (.ref b :: .ref a :: S) st P = zwith (zget st a 7 11) fun _ => AW X d 72 100 [l0] S (zput st a 11 (.ref b)) P := zq_putfield (zd_of zb_X6_init dX6_init_97) zo_X6_init zf_6_40 rfl (Or.inr (by decide +kernel))
theorem E_X6_init_97n : AW X d 72 97 [l0] (.null :: .ref a :: S) st P = zwith (zget st a 7 11) fun _ => AW X d 72 100 [l0] S (zput st a 11 (.null)) P := zq_putfield (zd_of zb_X6_init dX6_init_97) zo_X6_init zf_6_40 rfl (Or.inr (by decide +kernel))
theorem E_X6_init_100 : AW X d 72 100 [.ref a] S st P = AW X d 72 101 [.ref a] (.ref a :: S) st P := zAW_st (zd_of zb_X6_init dX6_init_100) rfl rfl
theorem E_X6_init_100n : AW X d 72 100 [.null] S st P = AW X d 72 101 [.null] (.null :: S) st P := zAW_st (zd_of zb_X6_init dX6_init_100) rfl rfl
theorem E_X6_init_101 : AW X d 72 101 [l0] S st P = AW X d 72 104 [l0] (.int 400 :: S) st P := zq_sipush (zd_of zb_X6_init dX6_init_101) (by decide)
theorem E_X6_init_104 : AW X d 72 104 [l0] (.int 400 :: S) st P = AW X d 72 106 [l0] (.ref st.2.length :: S) (znwa st 400 (.inl fun _ => 0)) P := zq_newI (zd_of zb_X6_init dX6_init_104) (by decide) (by decide)
theorem E_X6_init_106 : AW X d 72 106 [l0] (.ref b :: .ref a :: S) st P = zwith (zget st a 7 12) fun _ => AW X d 72 109 [l0] S (zput st a 12 (.ref b)) P := zq_putfield (zd_of zb_X6_init dX6_init_106) zo_X6_init zf_6_43 rfl (Or.inr (by decide +kernel))
theorem E_X6_init_106n : AW X d 72 106 [l0] (.null :: .ref a :: S) st P = zwith (zget st a 7 12) fun _ => AW X d 72 109 [l0] S (zput st a 12 (.null)) P := zq_putfield (zd_of zb_X6_init dX6_init_106) zo_X6_init zf_6_43 rfl (Or.inr (by decide +kernel))
theorem E_X6_init_109 : AW X d 72 109 [.ref a] S st P = AW X d 72 110 [.ref a] (.ref a :: S) st P := zAW_st (zd_of zb_X6_init dX6_init_109) rfl rfl
theorem E_X6_init_109n : AW X d 72 109 [.null] S st P = AW X d 72 110 [.null] (.null :: S) st P := zAW_st (zd_of zb_X6_init dX6_init_109) rfl rfl
theorem E_X6_init_110 : AW X d 72 110 [l0] S st P = AW X d 72 113 [l0] (.int 400 :: S) st P := zq_sipush (zd_of zb_X6_init dX6_init_110) (by decide)
theorem E_X6_init_113 : AW X d 72 113 [l0] (.int 400 :: S) st P = AW X d 72 115 [l0] (.ref st.2.length :: S) (znwa st 400 (.inl fun _ => 0)) P := zq_newI (zd_of zb_X6_init dX6_init_113) (by decide) (by decide)
theorem E_X6_init_115 : AW X d 72 115 [l0] (.ref b :: .ref a :: S) st P = zwith (zget st a 7 13) fun _ => AW X d 72 118 [l0] S (zput st a 13 (.ref b)) P := zq_putfield (zd_of zb_X6_init dX6_init_115) zo_X6_init zf_6_46 rfl (Or.inr (by decide +kernel))
theorem E_X6_init_115n : AW X d 72 115 [l0] (.null :: .ref a :: S) st P = zwith (zget st a 7 13) fun _ => AW X d 72 118 [l0] S (zput st a 13 (.null)) P := zq_putfield (zd_of zb_X6_init dX6_init_115) zo_X6_init zf_6_46 rfl (Or.inr (by decide +kernel))
theorem E_X6_init_118 : AW X d 72 118 [.ref a] S st P = AW X d 72 119 [.ref a] (.ref a :: S) st P := zAW_st (zd_of zb_X6_init dX6_init_118) rfl rfl
theorem E_X6_init_118n : AW X d 72 118 [.null] S st P = AW X d 72 119 [.null] (.null :: S) st P := zAW_st (zd_of zb_X6_init dX6_init_118) rfl rfl
theorem E_X6_init_119 : AW X d 72 119 [l0] S st P = AW X d 72 121 [l0] (.int 30 :: S) st P := zq_bipush (zd_of zb_X6_init dX6_init_119) (by decide)
theorem E_X6_init_121 : AW X d 72 121 [l0] (.int 30 :: S) st P = AW X d 72 123 [l0] (.ref st.2.length :: S) (znwa st 30 (.inl fun _ => 0)) P := zq_newI (zd_of zb_X6_init dX6_init_121) (by decide) (by decide)
theorem E_X6_init_123 : AW X d 72 123 [l0] (.ref b :: .ref a :: S) st P = zwith (zget st a 7 16) fun _ => AW X d 72 126 [l0] S (zput st a 16 (.ref b)) P := zq_putfield (zd_of zb_X6_init dX6_init_123) zo_X6_init zf_6_49 rfl (Or.inr (by decide +kernel))
theorem E_X6_init_123n : AW X d 72 123 [l0] (.null :: .ref a :: S) st P = zwith (zget st a 7 16) fun _ => AW X d 72 126 [l0] S (zput st a 16 (.null)) P := zq_putfield (zd_of zb_X6_init dX6_init_123) zo_X6_init zf_6_49 rfl (Or.inr (by decide +kernel))
theorem E_X6_init_126 : AW X d 72 126 [.ref a] S st P = AW X d 72 127 [.ref a] (.ref a :: S) st P := zAW_st (zd_of zb_X6_init dX6_init_126) rfl rfl
theorem E_X6_init_126n : AW X d 72 126 [.null] S st P = AW X d 72 127 [.null] (.null :: S) st P := zAW_st (zd_of zb_X6_init dX6_init_126) rfl rfl
theorem E_X6_init_127 : AW X d 72 127 [l0] S st P = AW X d 72 129 [l0] (.int 30 :: S) st P := zq_bipush (zd_of zb_X6_init dX6_init_127) (by decide)
theorem E_X6_init_129 : AW X d 72 129 [l0] (.int 30 :: S) st P = AW X d 72 131 [l0] (.ref st.2.length :: S) (znwa st 30 (.inl fun _ => 0)) P := zq_newI (zd_of zb_X6_init dX6_init_129) (by decide) (by decide)
theorem E_X6_init_131 : AW X d 72 131 [l0] (.ref b :: .ref a :: S) st P = zwith (zget st a 7 17) fun _ => AW X d 72 134 [l0] S (zput st a 17 (.ref b)) P := zq_putfield (zd_of zb_X6_init dX6_init_131) zo_X6_init zf_6_52 rfl (Or.inr (by decide +kernel))
theorem E_X6_init_131n : AW X d 72 131 [l0] (.null :: .ref a :: S) st P = zwith (zget st a 7 17) fun _ => AW X d 72 134 [l0] S (zput st a 17 (.null)) P := zq_putfield (zd_of zb_X6_init dX6_init_131) zo_X6_init zf_6_52 rfl (Or.inr (by decide +kernel))
theorem E_X6_init_134 : AW X d 72 134 [.ref a] S st P = AW X d 72 135 [.ref a] (.ref a :: S) st P := zAW_st (zd_of zb_X6_init dX6_init_134) rfl rfl
theorem E_X6_init_134n : AW X d 72 134 [.null] S st P = AW X d 72 135 [.null] (.null :: S) st P := zAW_st (zd_of zb_X6_init dX6_init_134) rfl rfl
theorem E_X6_init_135 : AW X d 72 135 [l0] S st P = AW X d 72 137 [l0] (.int 30 :: S) st P := zq_bipush (zd_of zb_X6_init dX6_init_135) (by decide)
theorem E_X6_init_137 : AW X d 72 137 [l0] (.int 30 :: S) st P = AW X d 72 139 [l0] (.ref st.2.length :: S) (znwa st 30 (.inl fun _ => 0)) P := zq_newI (zd_of zb_X6_init dX6_init_137) (by decide) (by decide)
theorem E_X6_init_139 : AW X d 72 139 [l0] (.ref b :: .ref a :: S) st P = zwith (zget st a 7 18) fun _ => AW X d 72 142 [l0] S (zput st a 18 (.ref b)) P := zq_putfield (zd_of zb_X6_init dX6_init_139) zo_X6_init zf_6_55 rfl (Or.inr (by decide +kernel))
theorem E_X6_init_139n : AW X d 72 139 [l0] (.null :: .ref a :: S) st P = zwith (zget st a 7 18) fun _ => AW X d 72 142 [l0] S (zput st a 18 (.null)) P := zq_putfield (zd_of zb_X6_init dX6_init_139) zo_X6_init zf_6_55 rfl (Or.inr (by decide +kernel))
theorem E_X6_init_142 : AW X d 72 142 [.ref a] S st P = AW X d 72 143 [.ref a] (.ref a :: S) st P := zAW_st (zd_of zb_X6_init dX6_init_142) rfl rfl
theorem E_X6_init_142n : AW X d 72 142 [.null] S st P = AW X d 72 143 [.null] (.null :: S) st P := zAW_st (zd_of zb_X6_init dX6_init_142) rfl rfl
theorem E_X6_init_143 : AW X d 72 143 [l0] S st P = AW X d 72 145 [l0] (.int 30 :: S) st P := zq_bipush (zd_of zb_X6_init dX6_init_143) (by decide)
theorem E_X6_init_145 : AW X d 72 145 [l0] (.int 30 :: S) st P = AW X d 72 147 [l0] (.ref st.2.length :: S) (znwa st 30 (.inl fun _ => 0)) P := zq_newI (zd_of zb_X6_init dX6_init_145) (by decide) (by decide)
theorem E_X6_init_147 : AW X d 72 147 [l0] (.ref b :: .ref a :: S) st P = zwith (zget st a 7 19) fun _ => AW X d 72 150 [l0] S (zput st a 19 (.ref b)) P := zq_putfield (zd_of zb_X6_init dX6_init_147) zo_X6_init zf_6_58 rfl (Or.inr (by decide +kernel))
theorem E_X6_init_147n : AW X d 72 147 [l0] (.null :: .ref a :: S) st P = zwith (zget st a 7 19) fun _ => AW X d 72 150 [l0] S (zput st a 19 (.null)) P := zq_putfield (zd_of zb_X6_init dX6_init_147) zo_X6_init zf_6_58 rfl (Or.inr (by decide +kernel))
theorem E_X6_init_150 : AW X d 72 150 [.ref a] S st P = AW X d 72 151 [.ref a] (.ref a :: S) st P := zAW_st (zd_of zb_X6_init dX6_init_150) rfl rfl
theorem E_X6_init_150n : AW X d 72 150 [.null] S st P = AW X d 72 151 [.null] (.null :: S) st P := zAW_st (zd_of zb_X6_init dX6_init_150) rfl rfl
theorem E_X6_init_151 : AW X d 72 151 [l0] S st P = AW X d 72 154 [l0] (.int 180 :: S) st P := zq_sipush (zd_of zb_X6_init dX6_init_151) (by decide)
theorem E_X6_init_154 : AW X d 72 154 [l0] (.int 180 :: S) st P = AW X d 72 156 [l0] (.ref st.2.length :: S) (znwa st 180 (.inl fun _ => 0)) P := zq_newI (zd_of zb_X6_init dX6_init_154) (by decide) (by decide)
theorem E_X6_init_156 : AW X d 72 156 [l0] (.ref b :: .ref a :: S) st P = zwith (zget st a 7 20) fun _ => AW X d 72 159 [l0] S (zput st a 20 (.ref b)) P := zq_putfield (zd_of zb_X6_init dX6_init_156) zo_X6_init zf_6_61 rfl (Or.inr (by decide +kernel))
theorem E_X6_init_156n : AW X d 72 156 [l0] (.null :: .ref a :: S) st P = zwith (zget st a 7 20) fun _ => AW X d 72 159 [l0] S (zput st a 20 (.null)) P := zq_putfield (zd_of zb_X6_init dX6_init_156) zo_X6_init zf_6_61 rfl (Or.inr (by decide +kernel))
theorem E_X6_init_159 : AW X d 72 159 [.ref a] S st P = AW X d 72 160 [.ref a] (.ref a :: S) st P := zAW_st (zd_of zb_X6_init dX6_init_159) rfl rfl
theorem E_X6_init_159n : AW X d 72 159 [.null] S st P = AW X d 72 160 [.null] (.null :: S) st P := zAW_st (zd_of zb_X6_init dX6_init_159) rfl rfl
theorem E_X6_init_160 : AW X d 72 160 [l0] S st P = AW X d 72 162 [l0] (.int 30 :: S) st P := zq_bipush (zd_of zb_X6_init dX6_init_160) (by decide)
theorem E_X6_init_162 : AW X d 72 162 [l0] (.int 30 :: S) st P = AW X d 72 164 [l0] (.ref st.2.length :: S) (znwa st 30 (.inl fun _ => 0)) P := zq_newI (zd_of zb_X6_init dX6_init_162) (by decide) (by decide)
theorem E_X6_init_164 : AW X d 72 164 [l0] (.ref b :: .ref a :: S) st P = zwith (zget st a 7 22) fun _ => AW X d 72 167 [l0] S (zput st a 22 (.ref b)) P := zq_putfield (zd_of zb_X6_init dX6_init_164) zo_X6_init zf_6_64 rfl (Or.inr (by decide +kernel))
theorem E_X6_init_164n : AW X d 72 164 [l0] (.null :: .ref a :: S) st P = zwith (zget st a 7 22) fun _ => AW X d 72 167 [l0] S (zput st a 22 (.null)) P := zq_putfield (zd_of zb_X6_init dX6_init_164) zo_X6_init zf_6_64 rfl (Or.inr (by decide +kernel))
theorem E_X6_init_167 : AW X d 72 167 [l0] [] st P = P (.inl none) st := zAW_ret (w := (.inl none, st)) (zd_of zb_X6_init dX6_init_167) rfl rfl (by simp only [zfin, zr_X6_init])
theorem A_X6_init : AC X (d + 1) 72 [.ref a] st P = AW X d 72 0 [.ref a] [] st P := AC_eq ⟨⟨(show 1 ≤ zml 72 by decide +kernel), by decide +kernel⟩, by simp [zc1_int, zc1_ref, zc1_float]⟩
theorem E_X6_thrown_0 : AW X d 73 0 [.ref a] S st P = AW X d 73 1 [.ref a] (.ref a :: S) st P := zAW_st (zd_of zb_X6_thrown dX6_thrown_0) rfl rfl
theorem E_X6_thrown_0n : AW X d 73 0 [.null] S st P = AW X d 73 1 [.null] (.null :: S) st P := zAW_st (zd_of zb_X6_thrown dX6_thrown_0) rfl rfl
theorem E_X6_thrown_1 : AW X d 73 1 [l0] (.ref a :: S) st P = zwith (zget st a 7 25) fun v => AW X d 73 4 [l0] (v :: S) st P := zq_getfield (zd_of zb_X6_thrown dX6_thrown_1) zo_X6_thrown zf_6_67
theorem E_X6_thrown_4 : AW X d 73 4 [l0] ([.int x]) st P = P (.inl (some (.int x))) st := zAW_ret (w := (.inl (some (.int x)), st)) (zd_of zb_X6_thrown dX6_thrown_4) rfl rfl (by simp only [zfin, zr_X6_thrown])
theorem A_X6_thrown : AC X (d + 1) 73 [.ref a] st P = AW X d 73 0 [.ref a] [] st P := AC_eq ⟨⟨(show 1 ≤ zml 73 by decide +kernel), by decide +kernel⟩, by simp [zc1_int, zc1_ref, zc1_float]⟩
theorem E_X6_holds_0 : AW X d 74 0 [.ref a, l1] S st P = AW X d 74 1 [.ref a, l1] (.ref a :: S) st P := zAW_st (zd_of zb_X6_holds dX6_holds_0) rfl rfl
theorem E_X6_holds_0n : AW X d 74 0 [.null, l1] S st P = AW X d 74 1 [.null, l1] (.null :: S) st P := zAW_st (zd_of zb_X6_holds dX6_holds_0) rfl rfl
theorem E_X6_holds_1 : AW X d 74 1 [l0, .int x] S st P = AW X d 74 2 [l0, .int x] (.int x :: S) st P := zAW_st (zd_of zb_X6_holds dX6_holds_1) rfl rfl
theorem E_X6_holds_2 : AW X d 74 2 [l0, l1] (.int x :: .ref a :: S) st P = zwith (zget st a 7 25) fun _ => AW X d 74 5 [l0, l1] S (zput st a 25 (.int x)) P := zq_putfield (zd_of zb_X6_holds dX6_holds_2) zo_X6_holds zf_6_67 rfl (Or.inl (by decide +kernel))
theorem E_X6_holds_5 : AW X d 74 5 [l0, .int x] S st P = AW X d 74 6 [l0, .int x] (.int x :: S) st P := zAW_st (zd_of zb_X6_holds dX6_holds_5) rfl rfl
theorem E_X6_holds_6 : AW X d 74 6 [l0, l1] (.int x :: S) st P = if x ≤ 0 then AW X d 74 13 [l0, l1] S st P else AW X d 74 9 [l0, l1] S st P := zq_if (c := x ≤ 0) (zd_of zb_X6_holds dX6_holds_6) (by decide) rfl
theorem E_X6_holds_9 : AW X d 74 9 [l0, l1] S st P = AW X d 74 10 [l0, l1] (.int 1 :: S) st P := zq_iconst (zd_of zb_X6_holds dX6_holds_9) (by decide)
theorem E_X6_holds_10 : AW X d 74 10 [l0, l1] S st P = AW X d 74 14 [l0, l1] S st P := zq_goto (zd_of zb_X6_holds dX6_holds_10) (by decide)
theorem E_X6_holds_13 : AW X d 74 13 [l0, l1] S st P = AW X d 74 14 [l0, l1] (.int 0 :: S) st P := zq_iconst (zd_of zb_X6_holds dX6_holds_13) (by decide)
theorem E_X6_holds_14 : AW X d 74 14 [l0, l1] ([.int x]) st P = zif (x &&& 1 = x) (P (.inl (some (.int x))) st) := by
  by_cases h : x &&& 1 = x
  · rw [zif_of h]; exact zAW_ret (w := (.inl (some (.int x)), st)) (zd_of zb_X6_holds dX6_holds_14) rfl rfl (by simp only [zfin, zr_X6_holds]; rw [if_pos h])
  · rw [zAW_stuck (zd_of zb_X6_holds dX6_holds_14) rfl (by simp only [zfin, zr_X6_holds]; rw [if_neg h]) rfl]; exact propext ⟨fun z => z.elim, fun z => h z.1⟩
theorem A_X6_holds : AC X (d + 1) 74 [.ref a, .int x] st P = AW X d 74 0 [.ref a, .int x] [] st P := AC_eq ⟨⟨(show 2 ≤ zml 74 by decide +kernel), by decide +kernel⟩, by simp [zc1_int, zc1_ref, zc1_float]⟩
theorem E_X6_in_0 : AW X d 75 0 [l0, .int x, l2, l3] S st P = AW X d 75 1 [l0, .int x, l2, l3] (.int x :: S) st P := zAW_st (zd_of zb_X6_in dX6_in_0) rfl rfl
theorem E_X6_in_1 : AW X d 75 1 [l0, l1, .int x, l3] S st P = AW X d 75 2 [l0, l1, .int x, l3] (.int x :: S) st P := zAW_st (zd_of zb_X6_in dX6_in_1) rfl rfl
theorem E_X6_in_2 : AW X d 75 2 [l0, l1, l2, l3] (.int y :: .int x :: S) st P = if x < y then AW X d 75 14 [l0, l1, l2, l3] S st P else AW X d 75 5 [l0, l1, l2, l3] S st P := zq_icmp (c := x < y) (zd_of zb_X6_in dX6_in_2) (by decide) rfl
theorem E_X6_in_5 : AW X d 75 5 [l0, .int x, l2, l3] S st P = AW X d 75 6 [l0, .int x, l2, l3] (.int x :: S) st P := zAW_st (zd_of zb_X6_in dX6_in_5) rfl rfl
theorem E_X6_in_6 : AW X d 75 6 [l0, l1, l2, .int x] S st P = AW X d 75 7 [l0, l1, l2, .int x] (.int x :: S) st P := zAW_st (zd_of zb_X6_in dX6_in_6) rfl rfl
theorem E_X6_in_7 : AW X d 75 7 [l0, l1, l2, l3] (.int y :: .int x :: S) st P = if y < x then AW X d 75 14 [l0, l1, l2, l3] S st P else AW X d 75 10 [l0, l1, l2, l3] S st P := zq_icmp (c := y < x) (zd_of zb_X6_in dX6_in_7) (by decide) rfl
theorem E_X6_in_10 : AW X d 75 10 [l0, l1, l2, l3] S st P = AW X d 75 11 [l0, l1, l2, l3] (.int 1 :: S) st P := zq_iconst (zd_of zb_X6_in dX6_in_10) (by decide)
theorem E_X6_in_11 : AW X d 75 11 [l0, l1, l2, l3] S st P = AW X d 75 15 [l0, l1, l2, l3] S st P := zq_goto (zd_of zb_X6_in dX6_in_11) (by decide)
theorem E_X6_in_14 : AW X d 75 14 [l0, l1, l2, l3] S st P = AW X d 75 15 [l0, l1, l2, l3] (.int 0 :: S) st P := zq_iconst (zd_of zb_X6_in dX6_in_14) (by decide)
theorem E_X6_in_15 : AW X d 75 15 [l0, l1, l2, l3] ([.int x]) st P = zif (x &&& 1 = x) (P (.inl (some (.int x))) st) := by
  by_cases h : x &&& 1 = x
  · rw [zif_of h]; exact zAW_ret (w := (.inl (some (.int x)), st)) (zd_of zb_X6_in dX6_in_15) rfl rfl (by simp only [zfin, zr_X6_in]; rw [if_pos h])
  · rw [zAW_stuck (zd_of zb_X6_in dX6_in_15) rfl (by simp only [zfin, zr_X6_in]; rw [if_neg h]) rfl]; exact propext ⟨fun z => z.elim, fun z => h z.1⟩
theorem A_X6_in : AC X (d + 1) 75 [.ref a, .int x, .int y, .int x3] st P = AW X d 75 0 [.ref a, .int x, .int y, .int x3] [] st P := AC_eq ⟨⟨(show 4 ≤ zml 75 by decide +kernel), by decide +kernel⟩, by simp [zc1_int, zc1_ref, zc1_float]⟩
theorem E_X6_isDrawing_0 : AW X d 76 0 [.ref a, l1] S st P = AW X d 76 1 [.ref a, l1] (.ref a :: S) st P := zAW_st (zd_of zb_X6_isDrawing dX6_isDrawing_0) rfl rfl
theorem E_X6_isDrawing_0n : AW X d 76 0 [.null, l1] S st P = AW X d 76 1 [.null, l1] (.null :: S) st P := zAW_st (zd_of zb_X6_isDrawing dX6_isDrawing_0) rfl rfl
theorem E_X6_isDrawing_1 : AW X d 76 1 [l0, .int x] S st P = AW X d 76 2 [l0, .int x] (.int x :: S) st P := zAW_st (zd_of zb_X6_isDrawing dX6_isDrawing_1) rfl rfl
theorem E_X6_isDrawing_2 : AW X d 76 2 [l0, l1] S st P = AW X d 76 3 [l0, l1] (.int 0 :: S) st P := zq_iconst (zd_of zb_X6_isDrawing dX6_isDrawing_2) (by decide)
theorem E_X6_isDrawing_3 : AW X d 76 3 [.ref a, l1] S st P = AW X d 76 4 [.ref a, l1] (.ref a :: S) st P := zAW_st (zd_of zb_X6_isDrawing dX6_isDrawing_3) rfl rfl
theorem E_X6_isDrawing_3n : AW X d 76 3 [.null, l1] S st P = AW X d 76 4 [.null, l1] (.null :: S) st P := zAW_st (zd_of zb_X6_isDrawing dX6_isDrawing_3) rfl rfl
theorem E_X6_isDrawing_4 : AW X d 76 4 [l0, l1] (.ref a :: S) st P = zwith (zget st a 7 5) fun v => AW X d 76 7 [l0, l1] (v :: S) st P := zq_getfield (zd_of zb_X6_isDrawing dX6_isDrawing_4) zo_X6_isDrawing zf_6_71
theorem E_X6_isDrawing_7 : AW X d 76 7 [l0, l1] S st P = AW X d 76 8 [l0, l1] (.int 1 :: S) st P := zq_iconst (zd_of zb_X6_isDrawing dX6_isDrawing_7) (by decide)
theorem E_X6_isDrawing_8 : AW X d 76 8 [l0, l1] (.int y :: .int x :: S) st P = AW X d 76 9 [l0, l1] (.int (x - y) :: S) st P := zAW_st (zd_of zb_X6_isDrawing dX6_isDrawing_8) rfl rfl
theorem E_X6_isDrawing_9 : AW X d 76 9 [l0, l1] (.int x3 :: .int y :: .int x :: .ref a :: S) st P = zif (zis st a 7 = true) (zif (S.length ≤ 4) (AC X d 75 [.ref a, .int x, .int y, .int x3] st (zaft X d 76 9 [l0, l1] S P))) := zq_callV (B := [.int x, .int y, .int x3]) (zd_of zb_X6_isDrawing dX6_isDrawing_9) zo_X6_isDrawing (by decide) zl_6_74 zn_75 rfl rfl rfl
theorem E_X6_isDrawing_12 : AW X d 76 12 [l0, l1] ([.int x]) st P = zif (x &&& 1 = x) (P (.inl (some (.int x))) st) := by
  by_cases h : x &&& 1 = x
  · rw [zif_of h]; exact zAW_ret (w := (.inl (some (.int x)), st)) (zd_of zb_X6_isDrawing dX6_isDrawing_12) rfl rfl (by simp only [zfin, zr_X6_isDrawing]; rw [if_pos h])
  · rw [zAW_stuck (zd_of zb_X6_isDrawing dX6_isDrawing_12) rfl (by simp only [zfin, zr_X6_isDrawing]; rw [if_neg h]) rfl]; exact propext ⟨fun z => z.elim, fun z => h z.1⟩
theorem A_X6_isDrawing : AC X (d + 1) 76 [.ref a, .int x] st P = AW X d 76 0 [.ref a, .int x] [] st P := AC_eq ⟨⟨(show 2 ≤ zml 76 by decide +kernel), by decide +kernel⟩, by simp [zc1_int, zc1_ref, zc1_float]⟩
theorem E_X6_drawing_0 : AW X d 77 0 [.ref a] S st P = AW X d 77 1 [.ref a] (.ref a :: S) st P := zAW_st (zd_of zb_X6_drawing dX6_drawing_0) rfl rfl
theorem E_X6_drawing_0n : AW X d 77 0 [.null] S st P = AW X d 77 1 [.null] (.null :: S) st P := zAW_st (zd_of zb_X6_drawing dX6_drawing_0) rfl rfl
theorem E_X6_drawing_1 : AW X d 77 1 [.ref a] S st P = AW X d 77 2 [.ref a] (.ref a :: S) st P := zAW_st (zd_of zb_X6_drawing dX6_drawing_1) rfl rfl
theorem E_X6_drawing_1n : AW X d 77 1 [.null] S st P = AW X d 77 2 [.null] (.null :: S) st P := zAW_st (zd_of zb_X6_drawing dX6_drawing_1) rfl rfl
theorem E_X6_drawing_2 : AW X d 77 2 [l0] (.ref a :: S) st P = zwith (zget st a 7 5) fun v => AW X d 77 5 [l0] (v :: S) st P := zq_getfield (zd_of zb_X6_drawing dX6_drawing_2) zo_X6_drawing zf_6_71
theorem E_X6_drawing_5 : AW X d 77 5 [l0] S st P = AW X d 77 7 [l0] (.int 12 :: S) st P := zq_bipush (zd_of zb_X6_drawing dX6_drawing_5) (by decide)
theorem E_X6_drawing_7 : AW X d 77 7 [l0] (.int y :: .int x :: S) st P = if ¬ x = y then AW X d 77 14 [l0] S st P else AW X d 77 10 [l0] S st P := zq_icmp (c := ¬ x = y) (zd_of zb_X6_drawing dX6_drawing_7) (by decide) rfl
theorem E_X6_drawing_10 : AW X d 77 10 [l0] S st P = AW X d 77 11 [l0] (.int 1 :: S) st P := zq_iconst (zd_of zb_X6_drawing dX6_drawing_10) (by decide)
theorem E_X6_drawing_11 : AW X d 77 11 [l0] S st P = AW X d 77 15 [l0] S st P := zq_goto (zd_of zb_X6_drawing dX6_drawing_11) (by decide)
theorem E_X6_drawing_14 : AW X d 77 14 [l0] S st P = AW X d 77 15 [l0] (.int 0 :: S) st P := zq_iconst (zd_of zb_X6_drawing dX6_drawing_14) (by decide)
theorem E_X6_drawing_15 : AW X d 77 15 [l0] (.int x :: .ref a :: S) st P = zif (zis st a 7 = true) (zif (S.length ≤ 4) (AC X d 74 [.ref a, .int x] st (zaft X d 77 15 [l0] S P))) := zq_callV (B := [.int x]) (zd_of zb_X6_drawing dX6_drawing_15) zo_X6_drawing (by decide) zl_6_78 zn_74 rfl rfl rfl
theorem E_X6_drawing_18 : AW X d 77 18 [l0] (.int x :: S) st P = if x = 0 then AW X d 77 23 [l0] S st P else AW X d 77 21 [l0] S st P := zq_if (c := x = 0) (zd_of zb_X6_drawing dX6_drawing_18) (by decide) rfl
theorem E_X6_drawing_21 : AW X d 77 21 [l0] S st P = AW X d 77 22 [l0] (.int (-1) :: S) st P := zq_iconst (zd_of zb_X6_drawing dX6_drawing_21) (by decide)
theorem E_X6_drawing_22 : AW X d 77 22 [l0] ([.int x]) st P = P (.inl (some (.int x))) st := zAW_ret (w := (.inl (some (.int x)), st)) (zd_of zb_X6_drawing dX6_drawing_22) rfl rfl (by simp only [zfin, zr_X6_drawing])
theorem E_X6_drawing_23 : AW X d 77 23 [.ref a] S st P = AW X d 77 24 [.ref a] (.ref a :: S) st P := zAW_st (zd_of zb_X6_drawing dX6_drawing_23) rfl rfl
theorem E_X6_drawing_23n : AW X d 77 23 [.null] S st P = AW X d 77 24 [.null] (.null :: S) st P := zAW_st (zd_of zb_X6_drawing dX6_drawing_23) rfl rfl
theorem E_X6_drawing_24 : AW X d 77 24 [l0] (.ref a :: S) st P = AW X d 77 25 [l0] (.ref a :: .ref a :: S) st P := zq_dup (zd_of zb_X6_drawing dX6_drawing_24) rfl
theorem E_X6_drawing_24n : AW X d 77 24 [l0] (.null :: S) st P = AW X d 77 25 [l0] (.null :: .null :: S) st P := zq_dup (zd_of zb_X6_drawing dX6_drawing_24) rfl
theorem E_X6_drawing_24i : AW X d 77 24 [l0] (.int x :: S) st P = AW X d 77 25 [l0] (.int x :: .int x :: S) st P := zq_dup (zd_of zb_X6_drawing dX6_drawing_24) rfl
theorem E_X6_drawing_24f : AW X d 77 24 [l0] (.float u :: S) st P = AW X d 77 25 [l0] (.float u :: .float u :: S) st P := zq_dup (zd_of zb_X6_drawing dX6_drawing_24) rfl
theorem E_X6_drawing_25 : AW X d 77 25 [l0] (.ref a :: S) st P = zwith (zget st a 7 5) fun v => AW X d 77 28 [l0] (v :: S) st P := zq_getfield (zd_of zb_X6_drawing dX6_drawing_25) zo_X6_drawing zf_6_71
theorem E_X6_drawing_28 : AW X d 77 28 [l0] S st P = AW X d 77 29 [l0] (.int 1 :: S) st P := zq_iconst (zd_of zb_X6_drawing dX6_drawing_28) (by decide)
theorem E_X6_drawing_29 : AW X d 77 29 [l0] (.int y :: .int x :: S) st P = AW X d 77 30 [l0] (.int (x + y) :: S) st P := zAW_st (zd_of zb_X6_drawing dX6_drawing_29) rfl rfl
theorem E_X6_drawing_30 : AW X d 77 30 [l0] (.int x :: .ref a :: S) st P = zwith (zget st a 7 5) fun _ => AW X d 77 33 [l0] S (zput st a 5 (.int x)) P := zq_putfield (zd_of zb_X6_drawing dX6_drawing_30) zo_X6_drawing zf_6_71 rfl (Or.inl (by decide +kernel))
theorem E_X6_drawing_33 : AW X d 77 33 [.ref a] S st P = AW X d 77 34 [.ref a] (.ref a :: S) st P := zAW_st (zd_of zb_X6_drawing dX6_drawing_33) rfl rfl
theorem E_X6_drawing_33n : AW X d 77 33 [.null] S st P = AW X d 77 34 [.null] (.null :: S) st P := zAW_st (zd_of zb_X6_drawing dX6_drawing_33) rfl rfl
theorem E_X6_drawing_34 : AW X d 77 34 [l0] (.ref a :: S) st P = zwith (zget st a 7 5) fun v => AW X d 77 37 [l0] (v :: S) st P := zq_getfield (zd_of zb_X6_drawing dX6_drawing_34) zo_X6_drawing zf_6_71
theorem E_X6_drawing_37 : AW X d 77 37 [l0] S st P = AW X d 77 38 [l0] (.int 1 :: S) st P := zq_iconst (zd_of zb_X6_drawing dX6_drawing_37) (by decide)
theorem E_X6_drawing_38 : AW X d 77 38 [l0] (.int y :: .int x :: S) st P = AW X d 77 39 [l0] (.int (x - y) :: S) st P := zAW_st (zd_of zb_X6_drawing dX6_drawing_38) rfl rfl
theorem E_X6_drawing_39 : AW X d 77 39 [l0] ([.int x]) st P = P (.inl (some (.int x))) st := zAW_ret (w := (.inl (some (.int x)), st)) (zd_of zb_X6_drawing dX6_drawing_39) rfl rfl (by simp only [zfin, zr_X6_drawing])
theorem A_X6_drawing : AC X (d + 1) 77 [.ref a] st P = AW X d 77 0 [.ref a] [] st P := AC_eq ⟨⟨(show 1 ≤ zml 77 by decide +kernel), by decide +kernel⟩, by simp [zc1_int, zc1_ref, zc1_float]⟩
theorem E_X6_stroke_0 : AW X d 78 0 [.ref a, l1, l2, l3, l4] S st P = AW X d 78 1 [.ref a, l1, l2, l3, l4] (.ref a :: S) st P := zAW_st (zd_of zb_X6_stroke dX6_stroke_0) rfl rfl
theorem E_X6_stroke_0n : AW X d 78 0 [.null, l1, l2, l3, l4] S st P = AW X d 78 1 [.null, l1, l2, l3, l4] (.null :: S) st P := zAW_st (zd_of zb_X6_stroke dX6_stroke_0) rfl rfl
theorem E_X6_stroke_1 : AW X d 78 1 [l0, .int x, l2, l3, l4] S st P = AW X d 78 2 [l0, .int x, l2, l3, l4] (.int x :: S) st P := zAW_st (zd_of zb_X6_stroke dX6_stroke_1) rfl rfl
theorem E_X6_stroke_2 : AW X d 78 2 [l0, l1, l2, l3, l4] (.int x :: .ref a :: S) st P = zif (zis st a 7 = true) (zif (S.length ≤ 4) (AC X d 76 [.ref a, .int x] st (zaft X d 78 2 [l0, l1, l2, l3, l4] S P))) := zq_callV (B := [.int x]) (zd_of zb_X6_stroke dX6_stroke_2) zo_X6_stroke (by decide) zl_6_82 zn_76 rfl rfl rfl
theorem E_X6_stroke_5 : AW X d 78 5 [l0, l1, l2, l3, l4] (.int x :: S) st P = if x = 0 then AW X d 78 36 [l0, l1, l2, l3, l4] S st P else AW X d 78 8 [l0, l1, l2, l3, l4] S st P := zq_if (c := x = 0) (zd_of zb_X6_stroke dX6_stroke_5) (by decide) rfl
theorem E_X6_stroke_8 : AW X d 78 8 [.ref a, l1, l2, l3, l4] S st P = AW X d 78 9 [.ref a, l1, l2, l3, l4] (.ref a :: S) st P := zAW_st (zd_of zb_X6_stroke dX6_stroke_8) rfl rfl
theorem E_X6_stroke_8n : AW X d 78 8 [.null, l1, l2, l3, l4] S st P = AW X d 78 9 [.null, l1, l2, l3, l4] (.null :: S) st P := zAW_st (zd_of zb_X6_stroke dX6_stroke_8) rfl rfl
theorem E_X6_stroke_9 : AW X d 78 9 [l0, l1, .int x, l3, l4] S st P = AW X d 78 10 [l0, l1, .int x, l3, l4] (.int x :: S) st P := zAW_st (zd_of zb_X6_stroke dX6_stroke_9) rfl rfl
theorem E_X6_stroke_10 : AW X d 78 10 [l0, l1, l2, l3, l4] S st P = AW X d 78 11 [l0, l1, l2, l3, l4] (.int 0 :: S) st P := zq_iconst (zd_of zb_X6_stroke dX6_stroke_10) (by decide)
theorem E_X6_stroke_11 : AW X d 78 11 [l0, l1, l2, l3, l4] S st P = AW X d 78 14 [l0, l1, l2, l3, l4] (.int 1023 :: S) st P := zq_sipush (zd_of zb_X6_stroke dX6_stroke_11) (by decide)
theorem E_X6_stroke_14 : AW X d 78 14 [l0, l1, l2, l3, l4] (.int x3 :: .int y :: .int x :: .ref a :: S) st P = zif (zis st a 7 = true) (zif (S.length ≤ 4) (AC X d 75 [.ref a, .int x, .int y, .int x3] st (zaft X d 78 14 [l0, l1, l2, l3, l4] S P))) := zq_callV (B := [.int x, .int y, .int x3]) (zd_of zb_X6_stroke dX6_stroke_14) zo_X6_stroke (by decide) zl_6_74 zn_75 rfl rfl rfl
theorem E_X6_stroke_17 : AW X d 78 17 [l0, l1, l2, l3, l4] (.int x :: S) st P = if x = 0 then AW X d 78 36 [l0, l1, l2, l3, l4] S st P else AW X d 78 20 [l0, l1, l2, l3, l4] S st P := zq_if (c := x = 0) (zd_of zb_X6_stroke dX6_stroke_17) (by decide) rfl
theorem E_X6_stroke_20 : AW X d 78 20 [.ref a, l1, l2, l3, l4] S st P = AW X d 78 21 [.ref a, l1, l2, l3, l4] (.ref a :: S) st P := zAW_st (zd_of zb_X6_stroke dX6_stroke_20) rfl rfl
theorem E_X6_stroke_20n : AW X d 78 20 [.null, l1, l2, l3, l4] S st P = AW X d 78 21 [.null, l1, l2, l3, l4] (.null :: S) st P := zAW_st (zd_of zb_X6_stroke dX6_stroke_20) rfl rfl
theorem E_X6_stroke_21 : AW X d 78 21 [l0, l1, l2, .int x, l4] S st P = AW X d 78 22 [l0, l1, l2, .int x, l4] (.int x :: S) st P := zAW_st (zd_of zb_X6_stroke dX6_stroke_21) rfl rfl
theorem E_X6_stroke_22 : AW X d 78 22 [l0, l1, l2, l3, l4] S st P = AW X d 78 23 [l0, l1, l2, l3, l4] (.int 0 :: S) st P := zq_iconst (zd_of zb_X6_stroke dX6_stroke_22) (by decide)
theorem E_X6_stroke_23 : AW X d 78 23 [l0, l1, l2, l3, l4] S st P = AW X d 78 26 [l0, l1, l2, l3, l4] (.int 1023 :: S) st P := zq_sipush (zd_of zb_X6_stroke dX6_stroke_23) (by decide)
theorem E_X6_stroke_26 : AW X d 78 26 [l0, l1, l2, l3, l4] (.int x3 :: .int y :: .int x :: .ref a :: S) st P = zif (zis st a 7 = true) (zif (S.length ≤ 4) (AC X d 75 [.ref a, .int x, .int y, .int x3] st (zaft X d 78 26 [l0, l1, l2, l3, l4] S P))) := zq_callV (B := [.int x, .int y, .int x3]) (zd_of zb_X6_stroke dX6_stroke_26) zo_X6_stroke (by decide) zl_6_74 zn_75 rfl rfl rfl
theorem E_X6_stroke_29 : AW X d 78 29 [l0, l1, l2, l3, l4] (.int x :: S) st P = if x = 0 then AW X d 78 36 [l0, l1, l2, l3, l4] S st P else AW X d 78 32 [l0, l1, l2, l3, l4] S st P := zq_if (c := x = 0) (zd_of zb_X6_stroke dX6_stroke_29) (by decide) rfl
theorem E_X6_stroke_32 : AW X d 78 32 [l0, l1, l2, l3, l4] S st P = AW X d 78 33 [l0, l1, l2, l3, l4] (.int 1 :: S) st P := zq_iconst (zd_of zb_X6_stroke dX6_stroke_32) (by decide)
theorem E_X6_stroke_33 : AW X d 78 33 [l0, l1, l2, l3, l4] S st P = AW X d 78 37 [l0, l1, l2, l3, l4] S st P := zq_goto (zd_of zb_X6_stroke dX6_stroke_33) (by decide)
theorem E_X6_stroke_36 : AW X d 78 36 [l0, l1, l2, l3, l4] S st P = AW X d 78 37 [l0, l1, l2, l3, l4] (.int 0 :: S) st P := zq_iconst (zd_of zb_X6_stroke dX6_stroke_36) (by decide)
theorem E_X6_stroke_37 : AW X d 78 37 [l0, l1, l2, l3, l4] (.int x :: S) st P = AW X d 78 39 [l0, l1, l2, l3, .int x] S st P := zAW_st (zd_of zb_X6_stroke dX6_stroke_37) rfl rfl
theorem E_X6_stroke_39 : AW X d 78 39 [.ref a, l1, l2, l3, l4] S st P = AW X d 78 40 [.ref a, l1, l2, l3, l4] (.ref a :: S) st P := zAW_st (zd_of zb_X6_stroke dX6_stroke_39) rfl rfl
theorem E_X6_stroke_39n : AW X d 78 39 [.null, l1, l2, l3, l4] S st P = AW X d 78 40 [.null, l1, l2, l3, l4] (.null :: S) st P := zAW_st (zd_of zb_X6_stroke dX6_stroke_39) rfl rfl
theorem E_X6_stroke_40 : AW X d 78 40 [l0, l1, l2, l3, .int x] S st P = AW X d 78 42 [l0, l1, l2, l3, .int x] (.int x :: S) st P := zAW_st (zd_of zb_X6_stroke dX6_stroke_40) rfl rfl
theorem E_X6_stroke_42 : AW X d 78 42 [l0, l1, l2, l3, l4] (.int x :: S) st P = if ¬ x = 0 then AW X d 78 49 [l0, l1, l2, l3, l4] S st P else AW X d 78 45 [l0, l1, l2, l3, l4] S st P := zq_if (c := ¬ x = 0) (zd_of zb_X6_stroke dX6_stroke_42) (by decide) rfl
theorem E_X6_stroke_45 : AW X d 78 45 [l0, l1, l2, l3, l4] S st P = AW X d 78 46 [l0, l1, l2, l3, l4] (.int 1 :: S) st P := zq_iconst (zd_of zb_X6_stroke dX6_stroke_45) (by decide)
theorem E_X6_stroke_46 : AW X d 78 46 [l0, l1, l2, l3, l4] S st P = AW X d 78 84 [l0, l1, l2, l3, l4] S st P := zq_goto (zd_of zb_X6_stroke dX6_stroke_46) (by decide)
theorem E_X6_stroke_49 : AW X d 78 49 [l0, l1, .int x, l3, l4] S st P = AW X d 78 50 [l0, l1, .int x, l3, l4] (.int x :: S) st P := zAW_st (zd_of zb_X6_stroke dX6_stroke_49) rfl rfl
theorem E_X6_stroke_50 : AW X d 78 50 [l0, l1, l2, .int x, l4] S st P = AW X d 78 51 [l0, l1, l2, .int x, l4] (.int x :: S) st P := zAW_st (zd_of zb_X6_stroke dX6_stroke_50) rfl rfl
theorem E_X6_stroke_51 : AW X d 78 51 [l0, l1, l2, l3, l4] (.int y :: .int x :: S) st P = if ¬ x = y then AW X d 78 58 [l0, l1, l2, l3, l4] S st P else AW X d 78 54 [l0, l1, l2, l3, l4] S st P := zq_icmp (c := ¬ x = y) (zd_of zb_X6_stroke dX6_stroke_51) (by decide) rfl
theorem E_X6_stroke_54 : AW X d 78 54 [l0, l1, l2, l3, l4] S st P = AW X d 78 55 [l0, l1, l2, l3, l4] (.int 2 :: S) st P := zq_iconst (zd_of zb_X6_stroke dX6_stroke_54) (by decide)
theorem E_X6_stroke_55 : AW X d 78 55 [l0, l1, l2, l3, l4] S st P = AW X d 78 84 [l0, l1, l2, l3, l4] S st P := zq_goto (zd_of zb_X6_stroke dX6_stroke_55) (by decide)
theorem E_X6_stroke_58 : AW X d 78 58 [.ref a, l1, l2, l3, l4] S st P = AW X d 78 59 [.ref a, l1, l2, l3, l4] (.ref a :: S) st P := zAW_st (zd_of zb_X6_stroke dX6_stroke_58) rfl rfl
theorem E_X6_stroke_58n : AW X d 78 58 [.null, l1, l2, l3, l4] S st P = AW X d 78 59 [.null, l1, l2, l3, l4] (.null :: S) st P := zAW_st (zd_of zb_X6_stroke dX6_stroke_58) rfl rfl
theorem E_X6_stroke_59 : AW X d 78 59 [l0, l1, l2, l3, l4] (.ref a :: S) st P = zwith (zget st a 7 0) fun v => AW X d 78 62 [l0, l1, l2, l3, l4] (v :: S) st P := zq_getfield (zd_of zb_X6_stroke dX6_stroke_59) zo_X6_stroke zf_6_7
theorem E_X6_stroke_62 : AW X d 78 62 [l0, .int x, l2, l3, l4] S st P = AW X d 78 63 [l0, .int x, l2, l3, l4] (.int x :: S) st P := zAW_st (zd_of zb_X6_stroke dX6_stroke_62) rfl rfl
theorem E_X6_stroke_63 : AW X d 78 63 [l0, l1, l2, l3, l4] (.int x :: .ref a :: S) st P = zwith (zai X st a) fun q => zwith (zix x q.1) fun j => AW X d 78 64 [l0, l1, l2, l3, l4] (.int (q.2 j) :: S) st P := zq_iaload (zd_of zb_X6_stroke dX6_stroke_63)
theorem E_X6_stroke_64 : AW X d 78 64 [l0, l1, l2, l3, l4] S st P = AW X d 78 65 [l0, l1, l2, l3, l4] (.int 1 :: S) st P := zq_iconst (zd_of zb_X6_stroke dX6_stroke_64) (by decide)
theorem E_X6_stroke_65 : AW X d 78 65 [l0, l1, l2, l3, l4] (.int y :: .int x :: S) st P = if x = y then AW X d 78 79 [l0, l1, l2, l3, l4] S st P else AW X d 78 68 [l0, l1, l2, l3, l4] S st P := zq_icmp (c := x = y) (zd_of zb_X6_stroke dX6_stroke_65) (by decide) rfl
theorem E_X6_stroke_68 : AW X d 78 68 [.ref a, l1, l2, l3, l4] S st P = AW X d 78 69 [.ref a, l1, l2, l3, l4] (.ref a :: S) st P := zAW_st (zd_of zb_X6_stroke dX6_stroke_68) rfl rfl
theorem E_X6_stroke_68n : AW X d 78 68 [.null, l1, l2, l3, l4] S st P = AW X d 78 69 [.null, l1, l2, l3, l4] (.null :: S) st P := zAW_st (zd_of zb_X6_stroke dX6_stroke_68) rfl rfl
theorem E_X6_stroke_69 : AW X d 78 69 [l0, l1, l2, l3, l4] (.ref a :: S) st P = zwith (zget st a 7 1) fun v => AW X d 78 72 [l0, l1, l2, l3, l4] (v :: S) st P := zq_getfield (zd_of zb_X6_stroke dX6_stroke_69) zo_X6_stroke zf_6_13
theorem E_X6_stroke_72 : AW X d 78 72 [l0, .int x, l2, l3, l4] S st P = AW X d 78 73 [l0, .int x, l2, l3, l4] (.int x :: S) st P := zAW_st (zd_of zb_X6_stroke dX6_stroke_72) rfl rfl
theorem E_X6_stroke_73 : AW X d 78 73 [l0, l1, l2, l3, l4] (.int x :: .ref a :: S) st P = zwith (zai X st a) fun q => zwith (zix x q.1) fun j => AW X d 78 74 [l0, l1, l2, l3, l4] (.int (q.2 j) :: S) st P := zq_iaload (zd_of zb_X6_stroke dX6_stroke_73)
theorem E_X6_stroke_74 : AW X d 78 74 [l0, l1, l2, l3, l4] S st P = AW X d 78 76 [l0, l1, l2, l3, l4] (.int 24 :: S) st P := zq_bipush (zd_of zb_X6_stroke dX6_stroke_74) (by decide)
theorem E_X6_stroke_76 : AW X d 78 76 [l0, l1, l2, l3, l4] (.int y :: .int x :: S) st P = if ¬ x = y then AW X d 78 83 [l0, l1, l2, l3, l4] S st P else AW X d 78 79 [l0, l1, l2, l3, l4] S st P := zq_icmp (c := ¬ x = y) (zd_of zb_X6_stroke dX6_stroke_76) (by decide) rfl
theorem E_X6_stroke_79 : AW X d 78 79 [l0, l1, l2, l3, l4] S st P = AW X d 78 80 [l0, l1, l2, l3, l4] (.int 3 :: S) st P := zq_iconst (zd_of zb_X6_stroke dX6_stroke_79) (by decide)
theorem E_X6_stroke_80 : AW X d 78 80 [l0, l1, l2, l3, l4] S st P = AW X d 78 84 [l0, l1, l2, l3, l4] S st P := zq_goto (zd_of zb_X6_stroke dX6_stroke_80) (by decide)
theorem E_X6_stroke_83 : AW X d 78 83 [l0, l1, l2, l3, l4] S st P = AW X d 78 84 [l0, l1, l2, l3, l4] (.int 0 :: S) st P := zq_iconst (zd_of zb_X6_stroke dX6_stroke_83) (by decide)
theorem E_X6_stroke_84 : AW X d 78 84 [l0, l1, l2, l3, l4] (.int x :: .ref a :: S) st P = zif (zis st a 7 = true) (zif (S.length ≤ 4) (AC X d 74 [.ref a, .int x] st (zaft X d 78 84 [l0, l1, l2, l3, l4] S P))) := zq_callV (B := [.int x]) (zd_of zb_X6_stroke dX6_stroke_84) zo_X6_stroke (by decide) zl_6_78 zn_74 rfl rfl rfl
theorem E_X6_stroke_87 : AW X d 78 87 [l0, l1, l2, l3, l4] (.int x :: S) st P = if x = 0 then AW X d 78 92 [l0, l1, l2, l3, l4] S st P else AW X d 78 90 [l0, l1, l2, l3, l4] S st P := zq_if (c := x = 0) (zd_of zb_X6_stroke dX6_stroke_87) (by decide) rfl
theorem E_X6_stroke_90 : AW X d 78 90 [l0, l1, l2, l3, l4] S st P = AW X d 78 91 [l0, l1, l2, l3, l4] (.int (-1) :: S) st P := zq_iconst (zd_of zb_X6_stroke dX6_stroke_90) (by decide)
theorem E_X6_stroke_91 : AW X d 78 91 [l0, l1, l2, l3, l4] ([.int x]) st P = P (.inl (some (.int x))) st := zAW_ret (w := (.inl (some (.int x)), st)) (zd_of zb_X6_stroke dX6_stroke_91) rfl rfl (by simp only [zfin, zr_X6_stroke])
theorem E_X6_stroke_92 : AW X d 78 92 [.ref a, l1, l2, l3, l4] S st P = AW X d 78 93 [.ref a, l1, l2, l3, l4] (.ref a :: S) st P := zAW_st (zd_of zb_X6_stroke dX6_stroke_92) rfl rfl
theorem E_X6_stroke_92n : AW X d 78 92 [.null, l1, l2, l3, l4] S st P = AW X d 78 93 [.null, l1, l2, l3, l4] (.null :: S) st P := zAW_st (zd_of zb_X6_stroke dX6_stroke_92) rfl rfl
theorem E_X6_stroke_93 : AW X d 78 93 [l0, l1, l2, l3, l4] (.ref a :: S) st P = zwith (zget st a 7 3) fun v => AW X d 78 96 [l0, l1, l2, l3, l4] (v :: S) st P := zq_getfield (zd_of zb_X6_stroke dX6_stroke_93) zo_X6_stroke zf_6_19
theorem E_X6_stroke_96 : AW X d 78 96 [l0, l1, l2, l3, l4] S st P = AW X d 78 98 [l0, l1, l2, l3, l4] (.int 24 :: S) st P := zq_bipush (zd_of zb_X6_stroke dX6_stroke_96) (by decide)
theorem E_X6_stroke_98 : AW X d 78 98 [l0, .int x, l2, l3, l4] S st P = AW X d 78 99 [l0, .int x, l2, l3, l4] (.int x :: S) st P := zAW_st (zd_of zb_X6_stroke dX6_stroke_98) rfl rfl
theorem E_X6_stroke_99 : AW X d 78 99 [l0, l1, l2, l3, l4] (.int y :: .int x :: S) st P = AW X d 78 100 [l0, l1, l2, l3, l4] (.int (x * y) :: S) st P := zAW_st (zd_of zb_X6_stroke dX6_stroke_99) rfl rfl
theorem E_X6_stroke_100 : AW X d 78 100 [.ref a, l1, l2, l3, l4] S st P = AW X d 78 101 [.ref a, l1, l2, l3, l4] (.ref a :: S) st P := zAW_st (zd_of zb_X6_stroke dX6_stroke_100) rfl rfl
theorem E_X6_stroke_100n : AW X d 78 100 [.null, l1, l2, l3, l4] S st P = AW X d 78 101 [.null, l1, l2, l3, l4] (.null :: S) st P := zAW_st (zd_of zb_X6_stroke dX6_stroke_100) rfl rfl
theorem E_X6_stroke_101 : AW X d 78 101 [l0, l1, l2, l3, l4] (.ref a :: S) st P = zwith (zget st a 7 1) fun v => AW X d 78 104 [l0, l1, l2, l3, l4] (v :: S) st P := zq_getfield (zd_of zb_X6_stroke dX6_stroke_101) zo_X6_stroke zf_6_13
theorem E_X6_stroke_104 : AW X d 78 104 [l0, .int x, l2, l3, l4] S st P = AW X d 78 105 [l0, .int x, l2, l3, l4] (.int x :: S) st P := zAW_st (zd_of zb_X6_stroke dX6_stroke_104) rfl rfl
theorem E_X6_stroke_105 : AW X d 78 105 [l0, l1, l2, l3, l4] (.int x :: .ref a :: S) st P = zwith (zai X st a) fun q => zwith (zix x q.1) fun j => AW X d 78 106 [l0, l1, l2, l3, l4] (.int (q.2 j) :: S) st P := zq_iaload (zd_of zb_X6_stroke dX6_stroke_105)
theorem E_X6_stroke_106 : AW X d 78 106 [l0, l1, l2, l3, l4] (.int y :: .int x :: S) st P = AW X d 78 107 [l0, l1, l2, l3, l4] (.int (x + y) :: S) st P := zAW_st (zd_of zb_X6_stroke dX6_stroke_106) rfl rfl
theorem E_X6_stroke_107 : AW X d 78 107 [l0, l1, .int x, l3, l4] S st P = AW X d 78 108 [l0, l1, .int x, l3, l4] (.int x :: S) st P := zAW_st (zd_of zb_X6_stroke dX6_stroke_107) rfl rfl
theorem E_X6_stroke_108 : AW X d 78 108 [l0, l1, l2, l3, l4] (.int y :: .int x :: .ref a :: S) st P = zwith (zaI st a) fun q => zwith (zix x q.1) fun j => AW X d 78 109 [l0, l1, l2, l3, l4] S (zsta st a (q.1, .inl (upd q.2 j y))) P := zq_iastore (zd_of zb_X6_stroke dX6_stroke_108)
theorem E_X6_stroke_109 : AW X d 78 109 [.ref a, l1, l2, l3, l4] S st P = AW X d 78 110 [.ref a, l1, l2, l3, l4] (.ref a :: S) st P := zAW_st (zd_of zb_X6_stroke dX6_stroke_109) rfl rfl
theorem E_X6_stroke_109n : AW X d 78 109 [.null, l1, l2, l3, l4] S st P = AW X d 78 110 [.null, l1, l2, l3, l4] (.null :: S) st P := zAW_st (zd_of zb_X6_stroke dX6_stroke_109) rfl rfl
theorem E_X6_stroke_110 : AW X d 78 110 [l0, l1, l2, l3, l4] (.ref a :: S) st P = zwith (zget st a 7 4) fun v => AW X d 78 113 [l0, l1, l2, l3, l4] (v :: S) st P := zq_getfield (zd_of zb_X6_stroke dX6_stroke_110) zo_X6_stroke zf_6_22
theorem E_X6_stroke_113 : AW X d 78 113 [l0, l1, l2, l3, l4] S st P = AW X d 78 115 [l0, l1, l2, l3, l4] (.int 24 :: S) st P := zq_bipush (zd_of zb_X6_stroke dX6_stroke_113) (by decide)
theorem E_X6_stroke_115 : AW X d 78 115 [l0, .int x, l2, l3, l4] S st P = AW X d 78 116 [l0, .int x, l2, l3, l4] (.int x :: S) st P := zAW_st (zd_of zb_X6_stroke dX6_stroke_115) rfl rfl
theorem E_X6_stroke_116 : AW X d 78 116 [l0, l1, l2, l3, l4] (.int y :: .int x :: S) st P = AW X d 78 117 [l0, l1, l2, l3, l4] (.int (x * y) :: S) st P := zAW_st (zd_of zb_X6_stroke dX6_stroke_116) rfl rfl
theorem E_X6_stroke_117 : AW X d 78 117 [.ref a, l1, l2, l3, l4] S st P = AW X d 78 118 [.ref a, l1, l2, l3, l4] (.ref a :: S) st P := zAW_st (zd_of zb_X6_stroke dX6_stroke_117) rfl rfl
theorem E_X6_stroke_117n : AW X d 78 117 [.null, l1, l2, l3, l4] S st P = AW X d 78 118 [.null, l1, l2, l3, l4] (.null :: S) st P := zAW_st (zd_of zb_X6_stroke dX6_stroke_117) rfl rfl
theorem E_X6_stroke_118 : AW X d 78 118 [l0, l1, l2, l3, l4] (.ref a :: S) st P = zwith (zget st a 7 1) fun v => AW X d 78 121 [l0, l1, l2, l3, l4] (v :: S) st P := zq_getfield (zd_of zb_X6_stroke dX6_stroke_118) zo_X6_stroke zf_6_13
theorem E_X6_stroke_121 : AW X d 78 121 [l0, .int x, l2, l3, l4] S st P = AW X d 78 122 [l0, .int x, l2, l3, l4] (.int x :: S) st P := zAW_st (zd_of zb_X6_stroke dX6_stroke_121) rfl rfl
theorem E_X6_stroke_122 : AW X d 78 122 [l0, l1, l2, l3, l4] (.int x :: .ref a :: S) st P = zwith (zai X st a) fun q => zwith (zix x q.1) fun j => AW X d 78 123 [l0, l1, l2, l3, l4] (.int (q.2 j) :: S) st P := zq_iaload (zd_of zb_X6_stroke dX6_stroke_122)
theorem E_X6_stroke_123 : AW X d 78 123 [l0, l1, l2, l3, l4] (.int y :: .int x :: S) st P = AW X d 78 124 [l0, l1, l2, l3, l4] (.int (x + y) :: S) st P := zAW_st (zd_of zb_X6_stroke dX6_stroke_123) rfl rfl
theorem E_X6_stroke_124 : AW X d 78 124 [l0, l1, l2, .int x, l4] S st P = AW X d 78 125 [l0, l1, l2, .int x, l4] (.int x :: S) st P := zAW_st (zd_of zb_X6_stroke dX6_stroke_124) rfl rfl
theorem E_X6_stroke_125 : AW X d 78 125 [l0, l1, l2, l3, l4] (.int y :: .int x :: .ref a :: S) st P = zwith (zaI st a) fun q => zwith (zix x q.1) fun j => AW X d 78 126 [l0, l1, l2, l3, l4] S (zsta st a (q.1, .inl (upd q.2 j y))) P := zq_iastore (zd_of zb_X6_stroke dX6_stroke_125)
theorem E_X6_stroke_126 : AW X d 78 126 [.ref a, l1, l2, l3, l4] S st P = AW X d 78 127 [.ref a, l1, l2, l3, l4] (.ref a :: S) st P := zAW_st (zd_of zb_X6_stroke dX6_stroke_126) rfl rfl
theorem E_X6_stroke_126n : AW X d 78 126 [.null, l1, l2, l3, l4] S st P = AW X d 78 127 [.null, l1, l2, l3, l4] (.null :: S) st P := zAW_st (zd_of zb_X6_stroke dX6_stroke_126) rfl rfl
theorem E_X6_stroke_127 : AW X d 78 127 [l0, l1, l2, l3, l4] (.ref a :: S) st P = zwith (zget st a 7 1) fun v => AW X d 78 130 [l0, l1, l2, l3, l4] (v :: S) st P := zq_getfield (zd_of zb_X6_stroke dX6_stroke_127) zo_X6_stroke zf_6_13
theorem E_X6_stroke_130 : AW X d 78 130 [l0, .int x, l2, l3, l4] S st P = AW X d 78 131 [l0, .int x, l2, l3, l4] (.int x :: S) st P := zAW_st (zd_of zb_X6_stroke dX6_stroke_130) rfl rfl
theorem E_X6_stroke_131 : AW X d 78 131 [l0, l1, l2, l3, l4] (.ref b :: .ref a :: S) st P = AW X d 78 132 [l0, l1, l2, l3, l4] (.ref b :: .ref a :: .ref b :: .ref a :: S) st P := zq_dup2 (zd_of zb_X6_stroke dX6_stroke_131) rfl rfl
theorem E_X6_stroke_131i : AW X d 78 131 [l0, l1, l2, l3, l4] (.int x :: .ref a :: S) st P = AW X d 78 132 [l0, l1, l2, l3, l4] (.int x :: .ref a :: .int x :: .ref a :: S) st P := zq_dup2 (zd_of zb_X6_stroke dX6_stroke_131) rfl rfl
theorem E_X6_stroke_131j : AW X d 78 131 [l0, l1, l2, l3, l4] (.int x :: .int y :: S) st P = AW X d 78 132 [l0, l1, l2, l3, l4] (.int x :: .int y :: .int x :: .int y :: S) st P := zq_dup2 (zd_of zb_X6_stroke dX6_stroke_131) rfl rfl
theorem E_X6_stroke_132 : AW X d 78 132 [l0, l1, l2, l3, l4] (.int x :: .ref a :: S) st P = zwith (zai X st a) fun q => zwith (zix x q.1) fun j => AW X d 78 133 [l0, l1, l2, l3, l4] (.int (q.2 j) :: S) st P := zq_iaload (zd_of zb_X6_stroke dX6_stroke_132)
theorem E_X6_stroke_133 : AW X d 78 133 [l0, l1, l2, l3, l4] S st P = AW X d 78 134 [l0, l1, l2, l3, l4] (.int 1 :: S) st P := zq_iconst (zd_of zb_X6_stroke dX6_stroke_133) (by decide)
theorem E_X6_stroke_134 : AW X d 78 134 [l0, l1, l2, l3, l4] (.int y :: .int x :: S) st P = AW X d 78 135 [l0, l1, l2, l3, l4] (.int (x + y) :: S) st P := zAW_st (zd_of zb_X6_stroke dX6_stroke_134) rfl rfl
theorem E_X6_stroke_135 : AW X d 78 135 [l0, l1, l2, l3, l4] (.int y :: .int x :: .ref a :: S) st P = zwith (zaI st a) fun q => zwith (zix x q.1) fun j => AW X d 78 136 [l0, l1, l2, l3, l4] S (zsta st a (q.1, .inl (upd q.2 j y))) P := zq_iastore (zd_of zb_X6_stroke dX6_stroke_135)
theorem E_X6_stroke_136 : AW X d 78 136 [.ref a, l1, l2, l3, l4] S st P = AW X d 78 137 [.ref a, l1, l2, l3, l4] (.ref a :: S) st P := zAW_st (zd_of zb_X6_stroke dX6_stroke_136) rfl rfl
theorem E_X6_stroke_136n : AW X d 78 136 [.null, l1, l2, l3, l4] S st P = AW X d 78 137 [.null, l1, l2, l3, l4] (.null :: S) st P := zAW_st (zd_of zb_X6_stroke dX6_stroke_136) rfl rfl
theorem E_X6_stroke_137 : AW X d 78 137 [l0, l1, l2, l3, l4] (.ref a :: S) st P = zwith (zget st a 7 1) fun v => AW X d 78 140 [l0, l1, l2, l3, l4] (v :: S) st P := zq_getfield (zd_of zb_X6_stroke dX6_stroke_137) zo_X6_stroke zf_6_13
theorem E_X6_stroke_140 : AW X d 78 140 [l0, .int x, l2, l3, l4] S st P = AW X d 78 141 [l0, .int x, l2, l3, l4] (.int x :: S) st P := zAW_st (zd_of zb_X6_stroke dX6_stroke_140) rfl rfl
theorem E_X6_stroke_141 : AW X d 78 141 [l0, l1, l2, l3, l4] (.int x :: .ref a :: S) st P = zwith (zai X st a) fun q => zwith (zix x q.1) fun j => AW X d 78 142 [l0, l1, l2, l3, l4] (.int (q.2 j) :: S) st P := zq_iaload (zd_of zb_X6_stroke dX6_stroke_141)
theorem E_X6_stroke_142 : AW X d 78 142 [l0, l1, l2, l3, l4] ([.int x]) st P = P (.inl (some (.int x))) st := zAW_ret (w := (.inl (some (.int x)), st)) (zd_of zb_X6_stroke dX6_stroke_142) rfl rfl (by simp only [zfin, zr_X6_stroke])
theorem A_X6_stroke : AC X (d + 1) 78 [.ref a, .int x, .int y, .int x3] st P = AW X d 78 0 [.ref a, .int x, .int y, .int x3, .retAddr 0] [] st P := AC_eq ⟨⟨(show 4 ≤ zml 78 by decide +kernel), by decide +kernel⟩, by simp [zc1_int, zc1_ref, zc1_float]⟩
theorem E_X6_isDoubled_0 : AW X d 79 0 [l0, l1, l2, l3, l4, l5, l6] S st P = AW X d 79 1 [l0, l1, l2, l3, l4, l5, l6] (.int 0 :: S) st P := zq_iconst (zd_of zb_X6_isDoubled dX6_isDoubled_0) (by decide)
theorem E_X6_isDoubled_1 : AW X d 79 1 [l0, l1, l2, l3, l4, l5, l6] (.int x :: S) st P = AW X d 79 2 [l0, l1, l2, .int x, l4, l5, l6] S st P := zAW_st (zd_of zb_X6_isDoubled dX6_isDoubled_1) rfl rfl
theorem E_X6_isDoubled_2 : AW X d 79 2 [.ref a, l1, l2, l3, l4, l5, l6] S st P = AW X d 79 3 [.ref a, l1, l2, l3, l4, l5, l6] (.ref a :: S) st P := zAW_st (zd_of zb_X6_isDoubled dX6_isDoubled_2) rfl rfl
theorem E_X6_isDoubled_2n : AW X d 79 2 [.null, l1, l2, l3, l4, l5, l6] S st P = AW X d 79 3 [.null, l1, l2, l3, l4, l5, l6] (.null :: S) st P := zAW_st (zd_of zb_X6_isDoubled dX6_isDoubled_2) rfl rfl
theorem E_X6_isDoubled_3 : AW X d 79 3 [l0, l1, l2, l3, l4, l5, l6] (.ref a :: S) st P = zwith (zget st a 7 3) fun v => AW X d 79 6 [l0, l1, l2, l3, l4, l5, l6] (v :: S) st P := zq_getfield (zd_of zb_X6_isDoubled dX6_isDoubled_3) zo_X6_isDoubled zf_6_19
theorem E_X6_isDoubled_6 : AW X d 79 6 [l0, l1, l2, l3, l4, l5, l6] S st P = AW X d 79 8 [l0, l1, l2, l3, l4, l5, l6] (.int 24 :: S) st P := zq_bipush (zd_of zb_X6_isDoubled dX6_isDoubled_6) (by decide)
theorem E_X6_isDoubled_8 : AW X d 79 8 [l0, .int x, l2, l3, l4, l5, l6] S st P = AW X d 79 9 [l0, .int x, l2, l3, l4, l5, l6] (.int x :: S) st P := zAW_st (zd_of zb_X6_isDoubled dX6_isDoubled_8) rfl rfl
theorem E_X6_isDoubled_9 : AW X d 79 9 [l0, l1, l2, l3, l4, l5, l6] (.int y :: .int x :: S) st P = AW X d 79 10 [l0, l1, l2, l3, l4, l5, l6] (.int (x * y) :: S) st P := zAW_st (zd_of zb_X6_isDoubled dX6_isDoubled_9) rfl rfl
theorem E_X6_isDoubled_10 : AW X d 79 10 [l0, l1, .int x, l3, l4, l5, l6] S st P = AW X d 79 11 [l0, l1, .int x, l3, l4, l5, l6] (.int x :: S) st P := zAW_st (zd_of zb_X6_isDoubled dX6_isDoubled_10) rfl rfl
theorem E_X6_isDoubled_11 : AW X d 79 11 [l0, l1, l2, l3, l4, l5, l6] (.int y :: .int x :: S) st P = AW X d 79 12 [l0, l1, l2, l3, l4, l5, l6] (.int (x + y) :: S) st P := zAW_st (zd_of zb_X6_isDoubled dX6_isDoubled_11) rfl rfl
theorem E_X6_isDoubled_12 : AW X d 79 12 [l0, l1, l2, l3, l4, l5, l6] (.int x :: .ref a :: S) st P = zwith (zai X st a) fun q => zwith (zix x q.1) fun j => AW X d 79 13 [l0, l1, l2, l3, l4, l5, l6] (.int (q.2 j) :: S) st P := zq_iaload (zd_of zb_X6_isDoubled dX6_isDoubled_12)
theorem E_X6_isDoubled_13 : AW X d 79 13 [l0, l1, l2, l3, l4, l5, l6] (.int x :: S) st P = AW X d 79 15 [l0, l1, l2, l3, .int x, l5, l6] S st P := zAW_st (zd_of zb_X6_isDoubled dX6_isDoubled_13) rfl rfl
theorem E_X6_isDoubled_15 : AW X d 79 15 [.ref a, l1, l2, l3, l4, l5, l6] S st P = AW X d 79 16 [.ref a, l1, l2, l3, l4, l5, l6] (.ref a :: S) st P := zAW_st (zd_of zb_X6_isDoubled dX6_isDoubled_15) rfl rfl
theorem E_X6_isDoubled_15n : AW X d 79 15 [.null, l1, l2, l3, l4, l5, l6] S st P = AW X d 79 16 [.null, l1, l2, l3, l4, l5, l6] (.null :: S) st P := zAW_st (zd_of zb_X6_isDoubled dX6_isDoubled_15) rfl rfl
theorem E_X6_isDoubled_16 : AW X d 79 16 [l0, l1, l2, l3, l4, l5, l6] (.ref a :: S) st P = zwith (zget st a 7 4) fun v => AW X d 79 19 [l0, l1, l2, l3, l4, l5, l6] (v :: S) st P := zq_getfield (zd_of zb_X6_isDoubled dX6_isDoubled_16) zo_X6_isDoubled zf_6_22
theorem E_X6_isDoubled_19 : AW X d 79 19 [l0, l1, l2, l3, l4, l5, l6] S st P = AW X d 79 21 [l0, l1, l2, l3, l4, l5, l6] (.int 24 :: S) st P := zq_bipush (zd_of zb_X6_isDoubled dX6_isDoubled_19) (by decide)
theorem E_X6_isDoubled_21 : AW X d 79 21 [l0, .int x, l2, l3, l4, l5, l6] S st P = AW X d 79 22 [l0, .int x, l2, l3, l4, l5, l6] (.int x :: S) st P := zAW_st (zd_of zb_X6_isDoubled dX6_isDoubled_21) rfl rfl
theorem E_X6_isDoubled_22 : AW X d 79 22 [l0, l1, l2, l3, l4, l5, l6] (.int y :: .int x :: S) st P = AW X d 79 23 [l0, l1, l2, l3, l4, l5, l6] (.int (x * y) :: S) st P := zAW_st (zd_of zb_X6_isDoubled dX6_isDoubled_22) rfl rfl
theorem E_X6_isDoubled_23 : AW X d 79 23 [l0, l1, .int x, l3, l4, l5, l6] S st P = AW X d 79 24 [l0, l1, .int x, l3, l4, l5, l6] (.int x :: S) st P := zAW_st (zd_of zb_X6_isDoubled dX6_isDoubled_23) rfl rfl
theorem E_X6_isDoubled_24 : AW X d 79 24 [l0, l1, l2, l3, l4, l5, l6] (.int y :: .int x :: S) st P = AW X d 79 25 [l0, l1, l2, l3, l4, l5, l6] (.int (x + y) :: S) st P := zAW_st (zd_of zb_X6_isDoubled dX6_isDoubled_24) rfl rfl
theorem E_X6_isDoubled_25 : AW X d 79 25 [l0, l1, l2, l3, l4, l5, l6] (.int x :: .ref a :: S) st P = zwith (zai X st a) fun q => zwith (zix x q.1) fun j => AW X d 79 26 [l0, l1, l2, l3, l4, l5, l6] (.int (q.2 j) :: S) st P := zq_iaload (zd_of zb_X6_isDoubled dX6_isDoubled_25)
theorem E_X6_isDoubled_26 : AW X d 79 26 [l0, l1, l2, l3, l4, l5, l6] (.int x :: S) st P = AW X d 79 28 [l0, l1, l2, l3, l4, .int x, l6] S st P := zAW_st (zd_of zb_X6_isDoubled dX6_isDoubled_26) rfl rfl
theorem E_X6_isDoubled_28 : AW X d 79 28 [l0, l1, l2, l3, l4, l5, l6] S st P = AW X d 79 30 [l0, l1, l2, l3, l4, l5, l6] (.int 24 :: S) st P := zq_bipush (zd_of zb_X6_isDoubled dX6_isDoubled_28) (by decide)
theorem E_X6_isDoubled_30 : AW X d 79 30 [l0, .int x, l2, l3, l4, l5, l6] S st P = AW X d 79 31 [l0, .int x, l2, l3, l4, l5, l6] (.int x :: S) st P := zAW_st (zd_of zb_X6_isDoubled dX6_isDoubled_30) rfl rfl
theorem E_X6_isDoubled_31 : AW X d 79 31 [l0, l1, l2, l3, l4, l5, l6] (.int y :: .int x :: S) st P = AW X d 79 32 [l0, l1, l2, l3, l4, l5, l6] (.int (x * y) :: S) st P := zAW_st (zd_of zb_X6_isDoubled dX6_isDoubled_31) rfl rfl
theorem E_X6_isDoubled_32 : AW X d 79 32 [l0, l1, l2, l3, l4, l5, l6] (.int x :: S) st P = AW X d 79 34 [l0, l1, l2, l3, l4, l5, .int x] S st P := zAW_st (zd_of zb_X6_isDoubled dX6_isDoubled_32) rfl rfl
theorem E_X6_isDoubled_34 : AW X d 79 34 [l0, l1, l2, l3, l4, l5, .int x] S st P = AW X d 79 36 [l0, l1, l2, l3, l4, l5, .int x] (.int x :: S) st P := zAW_st (zd_of zb_X6_isDoubled dX6_isDoubled_34) rfl rfl
theorem E_X6_isDoubled_36 : AW X d 79 36 [l0, l1, l2, l3, l4, l5, l6] S st P = AW X d 79 38 [l0, l1, l2, l3, l4, l5, l6] (.int 24 :: S) st P := zq_bipush (zd_of zb_X6_isDoubled dX6_isDoubled_36) (by decide)
theorem E_X6_isDoubled_38 : AW X d 79 38 [l0, .int x, l2, l3, l4, l5, l6] S st P = AW X d 79 39 [l0, .int x, l2, l3, l4, l5, l6] (.int x :: S) st P := zAW_st (zd_of zb_X6_isDoubled dX6_isDoubled_38) rfl rfl
theorem E_X6_isDoubled_39 : AW X d 79 39 [l0, l1, l2, l3, l4, l5, l6] (.int y :: .int x :: S) st P = AW X d 79 40 [l0, l1, l2, l3, l4, l5, l6] (.int (x * y) :: S) st P := zAW_st (zd_of zb_X6_isDoubled dX6_isDoubled_39) rfl rfl
theorem E_X6_isDoubled_40 : AW X d 79 40 [l0, l1, .int x, l3, l4, l5, l6] S st P = AW X d 79 41 [l0, l1, .int x, l3, l4, l5, l6] (.int x :: S) st P := zAW_st (zd_of zb_X6_isDoubled dX6_isDoubled_40) rfl rfl
theorem E_X6_isDoubled_41 : AW X d 79 41 [l0, l1, l2, l3, l4, l5, l6] (.int y :: .int x :: S) st P = AW X d 79 42 [l0, l1, l2, l3, l4, l5, l6] (.int (x + y) :: S) st P := zAW_st (zd_of zb_X6_isDoubled dX6_isDoubled_41) rfl rfl
theorem E_X6_isDoubled_42 : AW X d 79 42 [l0, l1, l2, l3, l4, l5, l6] (.int y :: .int x :: S) st P = if y ≤ x then AW X d 79 107 [l0, l1, l2, l3, l4, l5, l6] S st P else AW X d 79 45 [l0, l1, l2, l3, l4, l5, l6] S st P := zq_icmp (c := y ≤ x) (zd_of zb_X6_isDoubled dX6_isDoubled_42) (by decide) rfl
theorem E_X6_isDoubled_45 : AW X d 79 45 [l0, l1, l2, .int x, l4, l5, l6] S st P = AW X d 79 46 [l0, l1, l2, .int x, l4, l5, l6] (.int x :: S) st P := zAW_st (zd_of zb_X6_isDoubled dX6_isDoubled_45) rfl rfl
theorem E_X6_isDoubled_46 : AW X d 79 46 [.ref a, l1, l2, l3, l4, l5, l6] S st P = AW X d 79 47 [.ref a, l1, l2, l3, l4, l5, l6] (.ref a :: S) st P := zAW_st (zd_of zb_X6_isDoubled dX6_isDoubled_46) rfl rfl
theorem E_X6_isDoubled_46n : AW X d 79 46 [.null, l1, l2, l3, l4, l5, l6] S st P = AW X d 79 47 [.null, l1, l2, l3, l4, l5, l6] (.null :: S) st P := zAW_st (zd_of zb_X6_isDoubled dX6_isDoubled_46) rfl rfl
theorem E_X6_isDoubled_47 : AW X d 79 47 [l0, l1, l2, l3, l4, l5, l6] (.ref a :: S) st P = zwith (zget st a 7 3) fun v => AW X d 79 50 [l0, l1, l2, l3, l4, l5, l6] (v :: S) st P := zq_getfield (zd_of zb_X6_isDoubled dX6_isDoubled_47) zo_X6_isDoubled zf_6_19
theorem E_X6_isDoubled_50 : AW X d 79 50 [l0, l1, l2, l3, l4, l5, .int x] S st P = AW X d 79 52 [l0, l1, l2, l3, l4, l5, .int x] (.int x :: S) st P := zAW_st (zd_of zb_X6_isDoubled dX6_isDoubled_50) rfl rfl
theorem E_X6_isDoubled_52 : AW X d 79 52 [l0, l1, l2, l3, l4, l5, l6] (.int x :: .ref a :: S) st P = zwith (zai X st a) fun q => zwith (zix x q.1) fun j => AW X d 79 53 [l0, l1, l2, l3, l4, l5, l6] (.int (q.2 j) :: S) st P := zq_iaload (zd_of zb_X6_isDoubled dX6_isDoubled_52)
theorem E_X6_isDoubled_53 : AW X d 79 53 [l0, l1, l2, l3, .int x, l5, l6] S st P = AW X d 79 55 [l0, l1, l2, l3, .int x, l5, l6] (.int x :: S) st P := zAW_st (zd_of zb_X6_isDoubled dX6_isDoubled_53) rfl rfl
theorem E_X6_isDoubled_55 : AW X d 79 55 [l0, l1, l2, l3, l4, l5, l6] (.int y :: .int x :: S) st P = if ¬ x = y then AW X d 79 70 [l0, l1, l2, l3, l4, l5, l6] S st P else AW X d 79 58 [l0, l1, l2, l3, l4, l5, l6] S st P := zq_icmp (c := ¬ x = y) (zd_of zb_X6_isDoubled dX6_isDoubled_55) (by decide) rfl
theorem E_X6_isDoubled_58 : AW X d 79 58 [.ref a, l1, l2, l3, l4, l5, l6] S st P = AW X d 79 59 [.ref a, l1, l2, l3, l4, l5, l6] (.ref a :: S) st P := zAW_st (zd_of zb_X6_isDoubled dX6_isDoubled_58) rfl rfl
theorem E_X6_isDoubled_58n : AW X d 79 58 [.null, l1, l2, l3, l4, l5, l6] S st P = AW X d 79 59 [.null, l1, l2, l3, l4, l5, l6] (.null :: S) st P := zAW_st (zd_of zb_X6_isDoubled dX6_isDoubled_58) rfl rfl
theorem E_X6_isDoubled_59 : AW X d 79 59 [l0, l1, l2, l3, l4, l5, l6] (.ref a :: S) st P = zwith (zget st a 7 4) fun v => AW X d 79 62 [l0, l1, l2, l3, l4, l5, l6] (v :: S) st P := zq_getfield (zd_of zb_X6_isDoubled dX6_isDoubled_59) zo_X6_isDoubled zf_6_22
theorem E_X6_isDoubled_62 : AW X d 79 62 [l0, l1, l2, l3, l4, l5, .int x] S st P = AW X d 79 64 [l0, l1, l2, l3, l4, l5, .int x] (.int x :: S) st P := zAW_st (zd_of zb_X6_isDoubled dX6_isDoubled_62) rfl rfl
theorem E_X6_isDoubled_64 : AW X d 79 64 [l0, l1, l2, l3, l4, l5, l6] (.int x :: .ref a :: S) st P = zwith (zai X st a) fun q => zwith (zix x q.1) fun j => AW X d 79 65 [l0, l1, l2, l3, l4, l5, l6] (.int (q.2 j) :: S) st P := zq_iaload (zd_of zb_X6_isDoubled dX6_isDoubled_64)
theorem E_X6_isDoubled_65 : AW X d 79 65 [l0, l1, l2, l3, l4, .int x, l6] S st P = AW X d 79 67 [l0, l1, l2, l3, l4, .int x, l6] (.int x :: S) st P := zAW_st (zd_of zb_X6_isDoubled dX6_isDoubled_65) rfl rfl
theorem E_X6_isDoubled_67 : AW X d 79 67 [l0, l1, l2, l3, l4, l5, l6] (.int y :: .int x :: S) st P = if x = y then AW X d 79 94 [l0, l1, l2, l3, l4, l5, l6] S st P else AW X d 79 70 [l0, l1, l2, l3, l4, l5, l6] S st P := zq_icmp (c := x = y) (zd_of zb_X6_isDoubled dX6_isDoubled_67) (by decide) rfl
theorem E_X6_isDoubled_70 : AW X d 79 70 [.ref a, l1, l2, l3, l4, l5, l6] S st P = AW X d 79 71 [.ref a, l1, l2, l3, l4, l5, l6] (.ref a :: S) st P := zAW_st (zd_of zb_X6_isDoubled dX6_isDoubled_70) rfl rfl
theorem E_X6_isDoubled_70n : AW X d 79 70 [.null, l1, l2, l3, l4, l5, l6] S st P = AW X d 79 71 [.null, l1, l2, l3, l4, l5, l6] (.null :: S) st P := zAW_st (zd_of zb_X6_isDoubled dX6_isDoubled_70) rfl rfl
theorem E_X6_isDoubled_71 : AW X d 79 71 [l0, l1, l2, l3, l4, l5, l6] (.ref a :: S) st P = zwith (zget st a 7 3) fun v => AW X d 79 74 [l0, l1, l2, l3, l4, l5, l6] (v :: S) st P := zq_getfield (zd_of zb_X6_isDoubled dX6_isDoubled_71) zo_X6_isDoubled zf_6_19
theorem E_X6_isDoubled_74 : AW X d 79 74 [l0, l1, l2, l3, l4, l5, .int x] S st P = AW X d 79 76 [l0, l1, l2, l3, l4, l5, .int x] (.int x :: S) st P := zAW_st (zd_of zb_X6_isDoubled dX6_isDoubled_74) rfl rfl
theorem E_X6_isDoubled_76 : AW X d 79 76 [l0, l1, l2, l3, l4, l5, l6] (.int x :: .ref a :: S) st P = zwith (zai X st a) fun q => zwith (zix x q.1) fun j => AW X d 79 77 [l0, l1, l2, l3, l4, l5, l6] (.int (q.2 j) :: S) st P := zq_iaload (zd_of zb_X6_isDoubled dX6_isDoubled_76)
theorem E_X6_isDoubled_77 : AW X d 79 77 [l0, l1, l2, l3, l4, .int x, l6] S st P = AW X d 79 79 [l0, l1, l2, l3, l4, .int x, l6] (.int x :: S) st P := zAW_st (zd_of zb_X6_isDoubled dX6_isDoubled_77) rfl rfl
theorem E_X6_isDoubled_79 : AW X d 79 79 [l0, l1, l2, l3, l4, l5, l6] (.int y :: .int x :: S) st P = if ¬ x = y then AW X d 79 98 [l0, l1, l2, l3, l4, l5, l6] S st P else AW X d 79 82 [l0, l1, l2, l3, l4, l5, l6] S st P := zq_icmp (c := ¬ x = y) (zd_of zb_X6_isDoubled dX6_isDoubled_79) (by decide) rfl
theorem E_X6_isDoubled_82 : AW X d 79 82 [.ref a, l1, l2, l3, l4, l5, l6] S st P = AW X d 79 83 [.ref a, l1, l2, l3, l4, l5, l6] (.ref a :: S) st P := zAW_st (zd_of zb_X6_isDoubled dX6_isDoubled_82) rfl rfl
theorem E_X6_isDoubled_82n : AW X d 79 82 [.null, l1, l2, l3, l4, l5, l6] S st P = AW X d 79 83 [.null, l1, l2, l3, l4, l5, l6] (.null :: S) st P := zAW_st (zd_of zb_X6_isDoubled dX6_isDoubled_82) rfl rfl
theorem E_X6_isDoubled_83 : AW X d 79 83 [l0, l1, l2, l3, l4, l5, l6] (.ref a :: S) st P = zwith (zget st a 7 4) fun v => AW X d 79 86 [l0, l1, l2, l3, l4, l5, l6] (v :: S) st P := zq_getfield (zd_of zb_X6_isDoubled dX6_isDoubled_83) zo_X6_isDoubled zf_6_22
theorem E_X6_isDoubled_86 : AW X d 79 86 [l0, l1, l2, l3, l4, l5, .int x] S st P = AW X d 79 88 [l0, l1, l2, l3, l4, l5, .int x] (.int x :: S) st P := zAW_st (zd_of zb_X6_isDoubled dX6_isDoubled_86) rfl rfl
theorem E_X6_isDoubled_88 : AW X d 79 88 [l0, l1, l2, l3, l4, l5, l6] (.int x :: .ref a :: S) st P = zwith (zai X st a) fun q => zwith (zix x q.1) fun j => AW X d 79 89 [l0, l1, l2, l3, l4, l5, l6] (.int (q.2 j) :: S) st P := zq_iaload (zd_of zb_X6_isDoubled dX6_isDoubled_88)
theorem E_X6_isDoubled_89 : AW X d 79 89 [l0, l1, l2, l3, .int x, l5, l6] S st P = AW X d 79 91 [l0, l1, l2, l3, .int x, l5, l6] (.int x :: S) st P := zAW_st (zd_of zb_X6_isDoubled dX6_isDoubled_89) rfl rfl
theorem E_X6_isDoubled_91 : AW X d 79 91 [l0, l1, l2, l3, l4, l5, l6] (.int y :: .int x :: S) st P = if ¬ x = y then AW X d 79 98 [l0, l1, l2, l3, l4, l5, l6] S st P else AW X d 79 94 [l0, l1, l2, l3, l4, l5, l6] S st P := zq_icmp (c := ¬ x = y) (zd_of zb_X6_isDoubled dX6_isDoubled_91) (by decide) rfl
theorem E_X6_isDoubled_94 : AW X d 79 94 [l0, l1, l2, l3, l4, l5, l6] S st P = AW X d 79 95 [l0, l1, l2, l3, l4, l5, l6] (.int 1 :: S) st P := zq_iconst (zd_of zb_X6_isDoubled dX6_isDoubled_94) (by decide)
theorem E_X6_isDoubled_95 : AW X d 79 95 [l0, l1, l2, l3, l4, l5, l6] S st P = AW X d 79 99 [l0, l1, l2, l3, l4, l5, l6] S st P := zq_goto (zd_of zb_X6_isDoubled dX6_isDoubled_95) (by decide)
theorem E_X6_isDoubled_98 : AW X d 79 98 [l0, l1, l2, l3, l4, l5, l6] S st P = AW X d 79 99 [l0, l1, l2, l3, l4, l5, l6] (.int 0 :: S) st P := zq_iconst (zd_of zb_X6_isDoubled dX6_isDoubled_98) (by decide)
theorem E_X6_isDoubled_99 : AW X d 79 99 [l0, l1, l2, l3, l4, l5, l6] (.int y :: .int x :: S) st P = AW X d 79 100 [l0, l1, l2, l3, l4, l5, l6] (.int (x ||| y) :: S) st P := zAW_st (zd_of zb_X6_isDoubled dX6_isDoubled_99) rfl rfl
theorem E_X6_isDoubled_100 : AW X d 79 100 [l0, l1, l2, l3, l4, l5, l6] (.int x :: S) st P = AW X d 79 101 [l0, l1, l2, .int x, l4, l5, l6] S st P := zAW_st (zd_of zb_X6_isDoubled dX6_isDoubled_100) rfl rfl
theorem E_X6_isDoubled_101 : AW X d 79 101 [l0, l1, l2, l3, l4, l5, .int x] S st P = AW X d 79 104 [l0, l1, l2, l3, l4, l5, .int (x + 1)] S st P := zq_iinc (zd_of zb_X6_isDoubled dX6_isDoubled_101) rfl (by decide)
theorem E_X6_isDoubled_104 : AW X d 79 104 [l0, l1, l2, l3, l4, l5, l6] S st P = AW X d 79 34 [l0, l1, l2, l3, l4, l5, l6] S st P := zq_goto (zd_of zb_X6_isDoubled dX6_isDoubled_104) (by decide)
theorem E_X6_isDoubled_107 : AW X d 79 107 [l0, l1, l2, .int x, l4, l5, l6] S st P = AW X d 79 108 [l0, l1, l2, .int x, l4, l5, l6] (.int x :: S) st P := zAW_st (zd_of zb_X6_isDoubled dX6_isDoubled_107) rfl rfl
theorem E_X6_isDoubled_108 : AW X d 79 108 [l0, l1, l2, l3, l4, l5, l6] ([.int x]) st P = zif (x &&& 1 = x) (P (.inl (some (.int x))) st) := by
  by_cases h : x &&& 1 = x
  · rw [zif_of h]; exact zAW_ret (w := (.inl (some (.int x)), st)) (zd_of zb_X6_isDoubled dX6_isDoubled_108) rfl rfl (by simp only [zfin, zr_X6_isDoubled]; rw [if_pos h])
  · rw [zAW_stuck (zd_of zb_X6_isDoubled dX6_isDoubled_108) rfl (by simp only [zfin, zr_X6_isDoubled]; rw [if_neg h]) rfl]; exact propext ⟨fun z => z.elim, fun z => h z.1⟩
theorem A_X6_isDoubled : AC X (d + 1) 79 [.ref a, .int x, .int y] st P = AW X d 79 0 [.ref a, .int x, .int y, .retAddr 0, .retAddr 0, .retAddr 0, .retAddr 0] [] st P := AC_eq ⟨⟨(show 3 ≤ zml 79 by decide +kernel), by decide +kernel⟩, by simp [zc1_int, zc1_ref, zc1_float]⟩
theorem E_X6_mends_0 : AW X d 80 0 [l0, l1, l2, l3] S st P = AW X d 80 1 [l0, l1, l2, l3] (.int 0 :: S) st P := zq_iconst (zd_of zb_X6_mends dX6_mends_0) (by decide)
theorem E_X6_mends_1 : AW X d 80 1 [l0, l1, l2, l3] (.int x :: S) st P = AW X d 80 2 [l0, l1, .int x, l3] S st P := zAW_st (zd_of zb_X6_mends dX6_mends_1) rfl rfl
theorem E_X6_mends_2 : AW X d 80 2 [l0, l1, .int x, l3] S st P = AW X d 80 3 [l0, l1, .int x, l3] (.int x :: S) st P := zAW_st (zd_of zb_X6_mends dX6_mends_2) rfl rfl
theorem E_X6_mends_3 : AW X d 80 3 [.ref a, l1, l2, l3] S st P = AW X d 80 4 [.ref a, l1, l2, l3] (.ref a :: S) st P := zAW_st (zd_of zb_X6_mends dX6_mends_3) rfl rfl
theorem E_X6_mends_3n : AW X d 80 3 [.null, l1, l2, l3] S st P = AW X d 80 4 [.null, l1, l2, l3] (.null :: S) st P := zAW_st (zd_of zb_X6_mends dX6_mends_3) rfl rfl
theorem E_X6_mends_4 : AW X d 80 4 [l0, l1, l2, l3] (.ref a :: S) st P = zwith (zget st a 7 1) fun v => AW X d 80 7 [l0, l1, l2, l3] (v :: S) st P := zq_getfield (zd_of zb_X6_mends dX6_mends_4) zo_X6_mends zf_6_13
theorem E_X6_mends_7 : AW X d 80 7 [l0, .int x, l2, l3] S st P = AW X d 80 8 [l0, .int x, l2, l3] (.int x :: S) st P := zAW_st (zd_of zb_X6_mends dX6_mends_7) rfl rfl
theorem E_X6_mends_8 : AW X d 80 8 [l0, l1, l2, l3] (.int x :: .ref a :: S) st P = zwith (zai X st a) fun q => zwith (zix x q.1) fun j => AW X d 80 9 [l0, l1, l2, l3] (.int (q.2 j) :: S) st P := zq_iaload (zd_of zb_X6_mends dX6_mends_8)
theorem E_X6_mends_9 : AW X d 80 9 [l0, l1, l2, l3] (.int y :: .int x :: S) st P = if y ≤ x then AW X d 80 96 [l0, l1, l2, l3] S st P else AW X d 80 12 [l0, l1, l2, l3] S st P := zq_icmp (c := y ≤ x) (zd_of zb_X6_mends dX6_mends_9) (by decide) rfl
theorem E_X6_mends_12 : AW X d 80 12 [.ref a, l1, l2, l3] S st P = AW X d 80 13 [.ref a, l1, l2, l3] (.ref a :: S) st P := zAW_st (zd_of zb_X6_mends dX6_mends_12) rfl rfl
theorem E_X6_mends_12n : AW X d 80 12 [.null, l1, l2, l3] S st P = AW X d 80 13 [.null, l1, l2, l3] (.null :: S) st P := zAW_st (zd_of zb_X6_mends dX6_mends_12) rfl rfl
theorem E_X6_mends_13 : AW X d 80 13 [l0, .int x, l2, l3] S st P = AW X d 80 14 [l0, .int x, l2, l3] (.int x :: S) st P := zAW_st (zd_of zb_X6_mends dX6_mends_13) rfl rfl
theorem E_X6_mends_14 : AW X d 80 14 [l0, l1, .int x, l3] S st P = AW X d 80 15 [l0, l1, .int x, l3] (.int x :: S) st P := zAW_st (zd_of zb_X6_mends dX6_mends_14) rfl rfl
theorem E_X6_mends_15 : AW X d 80 15 [l0, l1, l2, l3] (.int y :: .int x :: .ref a :: S) st P = zif (zis st a 7 = true) (zif (S.length ≤ 4) (AC X d 79 [.ref a, .int x, .int y] st (zaft X d 80 15 [l0, l1, l2, l3] S P))) := zq_callV (B := [.int x, .int y]) (zd_of zb_X6_mends dX6_mends_15) zo_X6_mends (by decide) zl_6_85 zn_79 rfl rfl rfl
theorem E_X6_mends_18 : AW X d 80 18 [l0, l1, l2, l3] (.int x :: S) st P = if x = 0 then AW X d 80 90 [l0, l1, l2, l3] S st P else AW X d 80 21 [l0, l1, l2, l3] S st P := zq_if (c := x = 0) (zd_of zb_X6_mends dX6_mends_18) (by decide) rfl
theorem E_X6_mends_21 : AW X d 80 21 [.ref a, l1, l2, l3] S st P = AW X d 80 22 [.ref a, l1, l2, l3] (.ref a :: S) st P := zAW_st (zd_of zb_X6_mends dX6_mends_21) rfl rfl
theorem E_X6_mends_21n : AW X d 80 21 [.null, l1, l2, l3] S st P = AW X d 80 22 [.null, l1, l2, l3] (.null :: S) st P := zAW_st (zd_of zb_X6_mends dX6_mends_21) rfl rfl
theorem E_X6_mends_22 : AW X d 80 22 [l0, l1, l2, l3] (.ref a :: S) st P = zwith (zget st a 7 1) fun v => AW X d 80 25 [l0, l1, l2, l3] (v :: S) st P := zq_getfield (zd_of zb_X6_mends dX6_mends_22) zo_X6_mends zf_6_13
theorem E_X6_mends_25 : AW X d 80 25 [l0, .int x, l2, l3] S st P = AW X d 80 26 [l0, .int x, l2, l3] (.int x :: S) st P := zAW_st (zd_of zb_X6_mends dX6_mends_25) rfl rfl
theorem E_X6_mends_26 : AW X d 80 26 [l0, l1, l2, l3] (.ref b :: .ref a :: S) st P = AW X d 80 27 [l0, l1, l2, l3] (.ref b :: .ref a :: .ref b :: .ref a :: S) st P := zq_dup2 (zd_of zb_X6_mends dX6_mends_26) rfl rfl
theorem E_X6_mends_26i : AW X d 80 26 [l0, l1, l2, l3] (.int x :: .ref a :: S) st P = AW X d 80 27 [l0, l1, l2, l3] (.int x :: .ref a :: .int x :: .ref a :: S) st P := zq_dup2 (zd_of zb_X6_mends dX6_mends_26) rfl rfl
theorem E_X6_mends_26j : AW X d 80 26 [l0, l1, l2, l3] (.int x :: .int y :: S) st P = AW X d 80 27 [l0, l1, l2, l3] (.int x :: .int y :: .int x :: .int y :: S) st P := zq_dup2 (zd_of zb_X6_mends dX6_mends_26) rfl rfl
theorem E_X6_mends_27 : AW X d 80 27 [l0, l1, l2, l3] (.int x :: .ref a :: S) st P = zwith (zai X st a) fun q => zwith (zix x q.1) fun j => AW X d 80 28 [l0, l1, l2, l3] (.int (q.2 j) :: S) st P := zq_iaload (zd_of zb_X6_mends dX6_mends_27)
theorem E_X6_mends_28 : AW X d 80 28 [l0, l1, l2, l3] S st P = AW X d 80 29 [l0, l1, l2, l3] (.int 1 :: S) st P := zq_iconst (zd_of zb_X6_mends dX6_mends_28) (by decide)
theorem E_X6_mends_29 : AW X d 80 29 [l0, l1, l2, l3] (.int y :: .int x :: S) st P = AW X d 80 30 [l0, l1, l2, l3] (.int (x - y) :: S) st P := zAW_st (zd_of zb_X6_mends dX6_mends_29) rfl rfl
theorem E_X6_mends_30 : AW X d 80 30 [l0, l1, l2, l3] (.int y :: .int x :: .ref a :: S) st P = zwith (zaI st a) fun q => zwith (zix x q.1) fun j => AW X d 80 31 [l0, l1, l2, l3] S (zsta st a (q.1, .inl (upd q.2 j y))) P := zq_iastore (zd_of zb_X6_mends dX6_mends_30)
theorem E_X6_mends_31 : AW X d 80 31 [l0, l1, l2, l3] S st P = AW X d 80 33 [l0, l1, l2, l3] (.int 24 :: S) st P := zq_bipush (zd_of zb_X6_mends dX6_mends_31) (by decide)
theorem E_X6_mends_33 : AW X d 80 33 [l0, .int x, l2, l3] S st P = AW X d 80 34 [l0, .int x, l2, l3] (.int x :: S) st P := zAW_st (zd_of zb_X6_mends dX6_mends_33) rfl rfl
theorem E_X6_mends_34 : AW X d 80 34 [l0, l1, l2, l3] (.int y :: .int x :: S) st P = AW X d 80 35 [l0, l1, l2, l3] (.int (x * y) :: S) st P := zAW_st (zd_of zb_X6_mends dX6_mends_34) rfl rfl
theorem E_X6_mends_35 : AW X d 80 35 [l0, l1, .int x, l3] S st P = AW X d 80 36 [l0, l1, .int x, l3] (.int x :: S) st P := zAW_st (zd_of zb_X6_mends dX6_mends_35) rfl rfl
theorem E_X6_mends_36 : AW X d 80 36 [l0, l1, l2, l3] (.int y :: .int x :: S) st P = AW X d 80 37 [l0, l1, l2, l3] (.int (x + y) :: S) st P := zAW_st (zd_of zb_X6_mends dX6_mends_36) rfl rfl
theorem E_X6_mends_37 : AW X d 80 37 [l0, l1, l2, l3] (.int x :: S) st P = AW X d 80 38 [l0, l1, l2, .int x] S st P := zAW_st (zd_of zb_X6_mends dX6_mends_37) rfl rfl
theorem E_X6_mends_38 : AW X d 80 38 [l0, l1, l2, .int x] S st P = AW X d 80 39 [l0, l1, l2, .int x] (.int x :: S) st P := zAW_st (zd_of zb_X6_mends dX6_mends_38) rfl rfl
theorem E_X6_mends_39 : AW X d 80 39 [l0, l1, l2, l3] S st P = AW X d 80 41 [l0, l1, l2, l3] (.int 24 :: S) st P := zq_bipush (zd_of zb_X6_mends dX6_mends_39) (by decide)
theorem E_X6_mends_41 : AW X d 80 41 [l0, .int x, l2, l3] S st P = AW X d 80 42 [l0, .int x, l2, l3] (.int x :: S) st P := zAW_st (zd_of zb_X6_mends dX6_mends_41) rfl rfl
theorem E_X6_mends_42 : AW X d 80 42 [l0, l1, l2, l3] (.int y :: .int x :: S) st P = AW X d 80 43 [l0, l1, l2, l3] (.int (x * y) :: S) st P := zAW_st (zd_of zb_X6_mends dX6_mends_42) rfl rfl
theorem E_X6_mends_43 : AW X d 80 43 [.ref a, l1, l2, l3] S st P = AW X d 80 44 [.ref a, l1, l2, l3] (.ref a :: S) st P := zAW_st (zd_of zb_X6_mends dX6_mends_43) rfl rfl
theorem E_X6_mends_43n : AW X d 80 43 [.null, l1, l2, l3] S st P = AW X d 80 44 [.null, l1, l2, l3] (.null :: S) st P := zAW_st (zd_of zb_X6_mends dX6_mends_43) rfl rfl
theorem E_X6_mends_44 : AW X d 80 44 [l0, l1, l2, l3] (.ref a :: S) st P = zwith (zget st a 7 1) fun v => AW X d 80 47 [l0, l1, l2, l3] (v :: S) st P := zq_getfield (zd_of zb_X6_mends dX6_mends_44) zo_X6_mends zf_6_13
theorem E_X6_mends_47 : AW X d 80 47 [l0, .int x, l2, l3] S st P = AW X d 80 48 [l0, .int x, l2, l3] (.int x :: S) st P := zAW_st (zd_of zb_X6_mends dX6_mends_47) rfl rfl
theorem E_X6_mends_48 : AW X d 80 48 [l0, l1, l2, l3] (.int x :: .ref a :: S) st P = zwith (zai X st a) fun q => zwith (zix x q.1) fun j => AW X d 80 49 [l0, l1, l2, l3] (.int (q.2 j) :: S) st P := zq_iaload (zd_of zb_X6_mends dX6_mends_48)
theorem E_X6_mends_49 : AW X d 80 49 [l0, l1, l2, l3] (.int y :: .int x :: S) st P = AW X d 80 50 [l0, l1, l2, l3] (.int (x + y) :: S) st P := zAW_st (zd_of zb_X6_mends dX6_mends_49) rfl rfl
theorem E_X6_mends_50 : AW X d 80 50 [l0, l1, l2, l3] (.int y :: .int x :: S) st P = if y ≤ x then AW X d 80 87 [l0, l1, l2, l3] S st P else AW X d 80 53 [l0, l1, l2, l3] S st P := zq_icmp (c := y ≤ x) (zd_of zb_X6_mends dX6_mends_50) (by decide) rfl
theorem E_X6_mends_53 : AW X d 80 53 [.ref a, l1, l2, l3] S st P = AW X d 80 54 [.ref a, l1, l2, l3] (.ref a :: S) st P := zAW_st (zd_of zb_X6_mends dX6_mends_53) rfl rfl
theorem E_X6_mends_53n : AW X d 80 53 [.null, l1, l2, l3] S st P = AW X d 80 54 [.null, l1, l2, l3] (.null :: S) st P := zAW_st (zd_of zb_X6_mends dX6_mends_53) rfl rfl
theorem E_X6_mends_54 : AW X d 80 54 [l0, l1, l2, l3] (.ref a :: S) st P = zwith (zget st a 7 3) fun v => AW X d 80 57 [l0, l1, l2, l3] (v :: S) st P := zq_getfield (zd_of zb_X6_mends dX6_mends_54) zo_X6_mends zf_6_19
theorem E_X6_mends_57 : AW X d 80 57 [l0, l1, l2, .int x] S st P = AW X d 80 58 [l0, l1, l2, .int x] (.int x :: S) st P := zAW_st (zd_of zb_X6_mends dX6_mends_57) rfl rfl
theorem E_X6_mends_58 : AW X d 80 58 [.ref a, l1, l2, l3] S st P = AW X d 80 59 [.ref a, l1, l2, l3] (.ref a :: S) st P := zAW_st (zd_of zb_X6_mends dX6_mends_58) rfl rfl
theorem E_X6_mends_58n : AW X d 80 58 [.null, l1, l2, l3] S st P = AW X d 80 59 [.null, l1, l2, l3] (.null :: S) st P := zAW_st (zd_of zb_X6_mends dX6_mends_58) rfl rfl
theorem E_X6_mends_59 : AW X d 80 59 [l0, l1, l2, l3] (.ref a :: S) st P = zwith (zget st a 7 3) fun v => AW X d 80 62 [l0, l1, l2, l3] (v :: S) st P := zq_getfield (zd_of zb_X6_mends dX6_mends_59) zo_X6_mends zf_6_19
theorem E_X6_mends_62 : AW X d 80 62 [l0, l1, l2, .int x] S st P = AW X d 80 63 [l0, l1, l2, .int x] (.int x :: S) st P := zAW_st (zd_of zb_X6_mends dX6_mends_62) rfl rfl
theorem E_X6_mends_63 : AW X d 80 63 [l0, l1, l2, l3] S st P = AW X d 80 64 [l0, l1, l2, l3] (.int 1 :: S) st P := zq_iconst (zd_of zb_X6_mends dX6_mends_63) (by decide)
theorem E_X6_mends_64 : AW X d 80 64 [l0, l1, l2, l3] (.int y :: .int x :: S) st P = AW X d 80 65 [l0, l1, l2, l3] (.int (x + y) :: S) st P := zAW_st (zd_of zb_X6_mends dX6_mends_64) rfl rfl
theorem E_X6_mends_65 : AW X d 80 65 [l0, l1, l2, l3] (.int x :: .ref a :: S) st P = zwith (zai X st a) fun q => zwith (zix x q.1) fun j => AW X d 80 66 [l0, l1, l2, l3] (.int (q.2 j) :: S) st P := zq_iaload (zd_of zb_X6_mends dX6_mends_65)
theorem E_X6_mends_66 : AW X d 80 66 [l0, l1, l2, l3] (.int y :: .int x :: .ref a :: S) st P = zwith (zaI st a) fun q => zwith (zix x q.1) fun j => AW X d 80 67 [l0, l1, l2, l3] S (zsta st a (q.1, .inl (upd q.2 j y))) P := zq_iastore (zd_of zb_X6_mends dX6_mends_66)
theorem E_X6_mends_67 : AW X d 80 67 [.ref a, l1, l2, l3] S st P = AW X d 80 68 [.ref a, l1, l2, l3] (.ref a :: S) st P := zAW_st (zd_of zb_X6_mends dX6_mends_67) rfl rfl
theorem E_X6_mends_67n : AW X d 80 67 [.null, l1, l2, l3] S st P = AW X d 80 68 [.null, l1, l2, l3] (.null :: S) st P := zAW_st (zd_of zb_X6_mends dX6_mends_67) rfl rfl
theorem E_X6_mends_68 : AW X d 80 68 [l0, l1, l2, l3] (.ref a :: S) st P = zwith (zget st a 7 4) fun v => AW X d 80 71 [l0, l1, l2, l3] (v :: S) st P := zq_getfield (zd_of zb_X6_mends dX6_mends_68) zo_X6_mends zf_6_22
theorem E_X6_mends_71 : AW X d 80 71 [l0, l1, l2, .int x] S st P = AW X d 80 72 [l0, l1, l2, .int x] (.int x :: S) st P := zAW_st (zd_of zb_X6_mends dX6_mends_71) rfl rfl
theorem E_X6_mends_72 : AW X d 80 72 [.ref a, l1, l2, l3] S st P = AW X d 80 73 [.ref a, l1, l2, l3] (.ref a :: S) st P := zAW_st (zd_of zb_X6_mends dX6_mends_72) rfl rfl
theorem E_X6_mends_72n : AW X d 80 72 [.null, l1, l2, l3] S st P = AW X d 80 73 [.null, l1, l2, l3] (.null :: S) st P := zAW_st (zd_of zb_X6_mends dX6_mends_72) rfl rfl
theorem E_X6_mends_73 : AW X d 80 73 [l0, l1, l2, l3] (.ref a :: S) st P = zwith (zget st a 7 4) fun v => AW X d 80 76 [l0, l1, l2, l3] (v :: S) st P := zq_getfield (zd_of zb_X6_mends dX6_mends_73) zo_X6_mends zf_6_22
theorem E_X6_mends_76 : AW X d 80 76 [l0, l1, l2, .int x] S st P = AW X d 80 77 [l0, l1, l2, .int x] (.int x :: S) st P := zAW_st (zd_of zb_X6_mends dX6_mends_76) rfl rfl
theorem E_X6_mends_77 : AW X d 80 77 [l0, l1, l2, l3] S st P = AW X d 80 78 [l0, l1, l2, l3] (.int 1 :: S) st P := zq_iconst (zd_of zb_X6_mends dX6_mends_77) (by decide)
theorem E_X6_mends_78 : AW X d 80 78 [l0, l1, l2, l3] (.int y :: .int x :: S) st P = AW X d 80 79 [l0, l1, l2, l3] (.int (x + y) :: S) st P := zAW_st (zd_of zb_X6_mends dX6_mends_78) rfl rfl
theorem E_X6_mends_79 : AW X d 80 79 [l0, l1, l2, l3] (.int x :: .ref a :: S) st P = zwith (zai X st a) fun q => zwith (zix x q.1) fun j => AW X d 80 80 [l0, l1, l2, l3] (.int (q.2 j) :: S) st P := zq_iaload (zd_of zb_X6_mends dX6_mends_79)
theorem E_X6_mends_80 : AW X d 80 80 [l0, l1, l2, l3] (.int y :: .int x :: .ref a :: S) st P = zwith (zaI st a) fun q => zwith (zix x q.1) fun j => AW X d 80 81 [l0, l1, l2, l3] S (zsta st a (q.1, .inl (upd q.2 j y))) P := zq_iastore (zd_of zb_X6_mends dX6_mends_80)
theorem E_X6_mends_81 : AW X d 80 81 [l0, l1, l2, .int x] S st P = AW X d 80 84 [l0, l1, l2, .int (x + 1)] S st P := zq_iinc (zd_of zb_X6_mends dX6_mends_81) rfl (by decide)
theorem E_X6_mends_84 : AW X d 80 84 [l0, l1, l2, l3] S st P = AW X d 80 38 [l0, l1, l2, l3] S st P := zq_goto (zd_of zb_X6_mends dX6_mends_84) (by decide)
theorem E_X6_mends_87 : AW X d 80 87 [l0, l1, l2, l3] S st P = AW X d 80 2 [l0, l1, l2, l3] S st P := zq_goto (zd_of zb_X6_mends dX6_mends_87) (by decide)
theorem E_X6_mends_90 : AW X d 80 90 [l0, l1, .int x, l3] S st P = AW X d 80 93 [l0, l1, .int (x + 1), l3] S st P := zq_iinc (zd_of zb_X6_mends dX6_mends_90) rfl (by decide)
theorem E_X6_mends_93 : AW X d 80 93 [l0, l1, l2, l3] S st P = AW X d 80 2 [l0, l1, l2, l3] S st P := zq_goto (zd_of zb_X6_mends dX6_mends_93) (by decide)
theorem E_X6_mends_96 : AW X d 80 96 [l0, l1, l2, l3] [] st P = P (.inl none) st := zAW_ret (w := (.inl none, st)) (zd_of zb_X6_mends dX6_mends_96) rfl rfl (by simp only [zfin, zr_X6_mends])
theorem A_X6_mends : AC X (d + 1) 80 [.ref a, .int x] st P = AW X d 80 0 [.ref a, .int x, .retAddr 0, .retAddr 0] [] st P := AC_eq ⟨⟨(show 2 ≤ zml 80 by decide +kernel), by decide +kernel⟩, by simp [zc1_int, zc1_ref, zc1_float]⟩
theorem E_X6_fault_0 : AW X d 81 0 [l0, l1, l2] S st P = AW X d 81 1 [l0, l1, l2] (.int 0 :: S) st P := zq_iconst (zd_of zb_X6_fault dX6_fault_0) (by decide)
theorem E_X6_fault_1 : AW X d 81 1 [l0, l1, l2] (.int x :: S) st P = AW X d 81 2 [l0, l1, .int x] S st P := zAW_st (zd_of zb_X6_fault dX6_fault_1) rfl rfl
theorem E_X6_fault_2 : AW X d 81 2 [l0, l1, .int x] S st P = AW X d 81 3 [l0, l1, .int x] (.int x :: S) st P := zAW_st (zd_of zb_X6_fault dX6_fault_2) rfl rfl
theorem E_X6_fault_3 : AW X d 81 3 [l0, l1, l2] S st P = AW X d 81 6 [l0, l1, l2] (.int 1024 :: S) st P := zq_sipush (zd_of zb_X6_fault dX6_fault_3) (by decide)
theorem E_X6_fault_6 : AW X d 81 6 [l0, l1, l2] (.int y :: .int x :: S) st P = if y ≤ x then AW X d 81 22 [l0, l1, l2] S st P else AW X d 81 9 [l0, l1, l2] S st P := zq_icmp (c := y ≤ x) (zd_of zb_X6_fault dX6_fault_6) (by decide) rfl
theorem E_X6_fault_9 : AW X d 81 9 [.ref a, l1, l2] S st P = AW X d 81 10 [.ref a, l1, l2] (.ref a :: S) st P := zAW_st (zd_of zb_X6_fault dX6_fault_9) rfl rfl
theorem E_X6_fault_9n : AW X d 81 9 [.null, l1, l2] S st P = AW X d 81 10 [.null, l1, l2] (.null :: S) st P := zAW_st (zd_of zb_X6_fault dX6_fault_9) rfl rfl
theorem E_X6_fault_10 : AW X d 81 10 [l0, l1, l2] (.ref a :: S) st P = zwith (zget st a 7 6) fun v => AW X d 81 13 [l0, l1, l2] (v :: S) st P := zq_getfield (zd_of zb_X6_fault dX6_fault_10) zo_X6_fault zf_6_25
theorem E_X6_fault_13 : AW X d 81 13 [l0, l1, .int x] S st P = AW X d 81 14 [l0, l1, .int x] (.int x :: S) st P := zAW_st (zd_of zb_X6_fault dX6_fault_13) rfl rfl
theorem E_X6_fault_14 : AW X d 81 14 [l0, l1, l2] S st P = AW X d 81 15 [l0, l1, l2] (.int 0 :: S) st P := zq_iconst (zd_of zb_X6_fault dX6_fault_14) (by decide)
theorem E_X6_fault_15 : AW X d 81 15 [l0, l1, l2] (.int y :: .int x :: .ref a :: S) st P = zwith (zaI st a) fun q => zwith (zix x q.1) fun j => AW X d 81 16 [l0, l1, l2] S (zsta st a (q.1, .inl (upd q.2 j y))) P := zq_iastore (zd_of zb_X6_fault dX6_fault_15)
theorem E_X6_fault_16 : AW X d 81 16 [l0, l1, .int x] S st P = AW X d 81 19 [l0, l1, .int (x + 1)] S st P := zq_iinc (zd_of zb_X6_fault dX6_fault_16) rfl (by decide)
theorem E_X6_fault_19 : AW X d 81 19 [l0, l1, l2] S st P = AW X d 81 2 [l0, l1, l2] S st P := zq_goto (zd_of zb_X6_fault dX6_fault_19) (by decide)
theorem E_X6_fault_22 : AW X d 81 22 [l0, l1, l2] S st P = AW X d 81 24 [l0, l1, l2] (.int 24 :: S) st P := zq_bipush (zd_of zb_X6_fault dX6_fault_22) (by decide)
theorem E_X6_fault_24 : AW X d 81 24 [l0, .int x, l2] S st P = AW X d 81 25 [l0, .int x, l2] (.int x :: S) st P := zAW_st (zd_of zb_X6_fault dX6_fault_24) rfl rfl
theorem E_X6_fault_25 : AW X d 81 25 [l0, l1, l2] (.int y :: .int x :: S) st P = AW X d 81 26 [l0, l1, l2] (.int (x * y) :: S) st P := zAW_st (zd_of zb_X6_fault dX6_fault_25) rfl rfl
theorem E_X6_fault_26 : AW X d 81 26 [l0, l1, l2] (.int x :: S) st P = AW X d 81 27 [l0, l1, .int x] S st P := zAW_st (zd_of zb_X6_fault dX6_fault_26) rfl rfl
theorem E_X6_fault_27 : AW X d 81 27 [l0, l1, .int x] S st P = AW X d 81 28 [l0, l1, .int x] (.int x :: S) st P := zAW_st (zd_of zb_X6_fault dX6_fault_27) rfl rfl
theorem E_X6_fault_28 : AW X d 81 28 [l0, l1, l2] S st P = AW X d 81 30 [l0, l1, l2] (.int 24 :: S) st P := zq_bipush (zd_of zb_X6_fault dX6_fault_28) (by decide)
theorem E_X6_fault_30 : AW X d 81 30 [l0, .int x, l2] S st P = AW X d 81 31 [l0, .int x, l2] (.int x :: S) st P := zAW_st (zd_of zb_X6_fault dX6_fault_30) rfl rfl
theorem E_X6_fault_31 : AW X d 81 31 [l0, l1, l2] (.int y :: .int x :: S) st P = AW X d 81 32 [l0, l1, l2] (.int (x * y) :: S) st P := zAW_st (zd_of zb_X6_fault dX6_fault_31) rfl rfl
theorem E_X6_fault_32 : AW X d 81 32 [.ref a, l1, l2] S st P = AW X d 81 33 [.ref a, l1, l2] (.ref a :: S) st P := zAW_st (zd_of zb_X6_fault dX6_fault_32) rfl rfl
theorem E_X6_fault_32n : AW X d 81 32 [.null, l1, l2] S st P = AW X d 81 33 [.null, l1, l2] (.null :: S) st P := zAW_st (zd_of zb_X6_fault dX6_fault_32) rfl rfl
theorem E_X6_fault_33 : AW X d 81 33 [l0, l1, l2] (.ref a :: S) st P = zwith (zget st a 7 1) fun v => AW X d 81 36 [l0, l1, l2] (v :: S) st P := zq_getfield (zd_of zb_X6_fault dX6_fault_33) zo_X6_fault zf_6_13
theorem E_X6_fault_36 : AW X d 81 36 [l0, .int x, l2] S st P = AW X d 81 37 [l0, .int x, l2] (.int x :: S) st P := zAW_st (zd_of zb_X6_fault dX6_fault_36) rfl rfl
theorem E_X6_fault_37 : AW X d 81 37 [l0, l1, l2] (.int x :: .ref a :: S) st P = zwith (zai X st a) fun q => zwith (zix x q.1) fun j => AW X d 81 38 [l0, l1, l2] (.int (q.2 j) :: S) st P := zq_iaload (zd_of zb_X6_fault dX6_fault_37)
theorem E_X6_fault_38 : AW X d 81 38 [l0, l1, l2] (.int y :: .int x :: S) st P = AW X d 81 39 [l0, l1, l2] (.int (x + y) :: S) st P := zAW_st (zd_of zb_X6_fault dX6_fault_38) rfl rfl
theorem E_X6_fault_39 : AW X d 81 39 [l0, l1, l2] (.int y :: .int x :: S) st P = if y ≤ x then AW X d 81 78 [l0, l1, l2] S st P else AW X d 81 42 [l0, l1, l2] S st P := zq_icmp (c := y ≤ x) (zd_of zb_X6_fault dX6_fault_39) (by decide) rfl
theorem E_X6_fault_42 : AW X d 81 42 [.ref a, l1, l2] S st P = AW X d 81 43 [.ref a, l1, l2] (.ref a :: S) st P := zAW_st (zd_of zb_X6_fault dX6_fault_42) rfl rfl
theorem E_X6_fault_42n : AW X d 81 42 [.null, l1, l2] S st P = AW X d 81 43 [.null, l1, l2] (.null :: S) st P := zAW_st (zd_of zb_X6_fault dX6_fault_42) rfl rfl
theorem E_X6_fault_43 : AW X d 81 43 [l0, l1, l2] (.ref a :: S) st P = zwith (zget st a 7 6) fun v => AW X d 81 46 [l0, l1, l2] (v :: S) st P := zq_getfield (zd_of zb_X6_fault dX6_fault_43) zo_X6_fault zf_6_25
theorem E_X6_fault_46 : AW X d 81 46 [.ref a, l1, l2] S st P = AW X d 81 47 [.ref a, l1, l2] (.ref a :: S) st P := zAW_st (zd_of zb_X6_fault dX6_fault_46) rfl rfl
theorem E_X6_fault_46n : AW X d 81 46 [.null, l1, l2] S st P = AW X d 81 47 [.null, l1, l2] (.null :: S) st P := zAW_st (zd_of zb_X6_fault dX6_fault_46) rfl rfl
theorem E_X6_fault_47 : AW X d 81 47 [l0, l1, l2] (.ref a :: S) st P = zwith (zget st a 7 3) fun v => AW X d 81 50 [l0, l1, l2] (v :: S) st P := zq_getfield (zd_of zb_X6_fault dX6_fault_47) zo_X6_fault zf_6_19
theorem E_X6_fault_50 : AW X d 81 50 [l0, l1, .int x] S st P = AW X d 81 51 [l0, l1, .int x] (.int x :: S) st P := zAW_st (zd_of zb_X6_fault dX6_fault_50) rfl rfl
theorem E_X6_fault_51 : AW X d 81 51 [l0, l1, l2] (.int x :: .ref a :: S) st P = zwith (zai X st a) fun q => zwith (zix x q.1) fun j => AW X d 81 52 [l0, l1, l2] (.int (q.2 j) :: S) st P := zq_iaload (zd_of zb_X6_fault dX6_fault_51)
theorem E_X6_fault_52 : AW X d 81 52 [l0, l1, l2] (.ref b :: .ref a :: S) st P = AW X d 81 53 [l0, l1, l2] (.ref b :: .ref a :: .ref b :: .ref a :: S) st P := zq_dup2 (zd_of zb_X6_fault dX6_fault_52) rfl rfl
theorem E_X6_fault_52i : AW X d 81 52 [l0, l1, l2] (.int x :: .ref a :: S) st P = AW X d 81 53 [l0, l1, l2] (.int x :: .ref a :: .int x :: .ref a :: S) st P := zq_dup2 (zd_of zb_X6_fault dX6_fault_52) rfl rfl
theorem E_X6_fault_52j : AW X d 81 52 [l0, l1, l2] (.int x :: .int y :: S) st P = AW X d 81 53 [l0, l1, l2] (.int x :: .int y :: .int x :: .int y :: S) st P := zq_dup2 (zd_of zb_X6_fault dX6_fault_52) rfl rfl
theorem E_X6_fault_53 : AW X d 81 53 [l0, l1, l2] (.int x :: .ref a :: S) st P = zwith (zai X st a) fun q => zwith (zix x q.1) fun j => AW X d 81 54 [l0, l1, l2] (.int (q.2 j) :: S) st P := zq_iaload (zd_of zb_X6_fault dX6_fault_53)
theorem E_X6_fault_54 : AW X d 81 54 [l0, l1, l2] S st P = AW X d 81 55 [l0, l1, l2] (.int 1 :: S) st P := zq_iconst (zd_of zb_X6_fault dX6_fault_54) (by decide)
theorem E_X6_fault_55 : AW X d 81 55 [l0, l1, l2] (.int y :: .int x :: S) st P = AW X d 81 56 [l0, l1, l2] (.int (x + y) :: S) st P := zAW_st (zd_of zb_X6_fault dX6_fault_55) rfl rfl
theorem E_X6_fault_56 : AW X d 81 56 [l0, l1, l2] (.int y :: .int x :: .ref a :: S) st P = zwith (zaI st a) fun q => zwith (zix x q.1) fun j => AW X d 81 57 [l0, l1, l2] S (zsta st a (q.1, .inl (upd q.2 j y))) P := zq_iastore (zd_of zb_X6_fault dX6_fault_56)
theorem E_X6_fault_57 : AW X d 81 57 [.ref a, l1, l2] S st P = AW X d 81 58 [.ref a, l1, l2] (.ref a :: S) st P := zAW_st (zd_of zb_X6_fault dX6_fault_57) rfl rfl
theorem E_X6_fault_57n : AW X d 81 57 [.null, l1, l2] S st P = AW X d 81 58 [.null, l1, l2] (.null :: S) st P := zAW_st (zd_of zb_X6_fault dX6_fault_57) rfl rfl
theorem E_X6_fault_58 : AW X d 81 58 [l0, l1, l2] (.ref a :: S) st P = zwith (zget st a 7 6) fun v => AW X d 81 61 [l0, l1, l2] (v :: S) st P := zq_getfield (zd_of zb_X6_fault dX6_fault_58) zo_X6_fault zf_6_25
theorem E_X6_fault_61 : AW X d 81 61 [.ref a, l1, l2] S st P = AW X d 81 62 [.ref a, l1, l2] (.ref a :: S) st P := zAW_st (zd_of zb_X6_fault dX6_fault_61) rfl rfl
theorem E_X6_fault_61n : AW X d 81 61 [.null, l1, l2] S st P = AW X d 81 62 [.null, l1, l2] (.null :: S) st P := zAW_st (zd_of zb_X6_fault dX6_fault_61) rfl rfl
theorem E_X6_fault_62 : AW X d 81 62 [l0, l1, l2] (.ref a :: S) st P = zwith (zget st a 7 4) fun v => AW X d 81 65 [l0, l1, l2] (v :: S) st P := zq_getfield (zd_of zb_X6_fault dX6_fault_62) zo_X6_fault zf_6_22
theorem E_X6_fault_65 : AW X d 81 65 [l0, l1, .int x] S st P = AW X d 81 66 [l0, l1, .int x] (.int x :: S) st P := zAW_st (zd_of zb_X6_fault dX6_fault_65) rfl rfl
theorem E_X6_fault_66 : AW X d 81 66 [l0, l1, l2] (.int x :: .ref a :: S) st P = zwith (zai X st a) fun q => zwith (zix x q.1) fun j => AW X d 81 67 [l0, l1, l2] (.int (q.2 j) :: S) st P := zq_iaload (zd_of zb_X6_fault dX6_fault_66)
theorem E_X6_fault_67 : AW X d 81 67 [l0, l1, l2] (.ref b :: .ref a :: S) st P = AW X d 81 68 [l0, l1, l2] (.ref b :: .ref a :: .ref b :: .ref a :: S) st P := zq_dup2 (zd_of zb_X6_fault dX6_fault_67) rfl rfl
theorem E_X6_fault_67i : AW X d 81 67 [l0, l1, l2] (.int x :: .ref a :: S) st P = AW X d 81 68 [l0, l1, l2] (.int x :: .ref a :: .int x :: .ref a :: S) st P := zq_dup2 (zd_of zb_X6_fault dX6_fault_67) rfl rfl
theorem E_X6_fault_67j : AW X d 81 67 [l0, l1, l2] (.int x :: .int y :: S) st P = AW X d 81 68 [l0, l1, l2] (.int x :: .int y :: .int x :: .int y :: S) st P := zq_dup2 (zd_of zb_X6_fault dX6_fault_67) rfl rfl
theorem E_X6_fault_68 : AW X d 81 68 [l0, l1, l2] (.int x :: .ref a :: S) st P = zwith (zai X st a) fun q => zwith (zix x q.1) fun j => AW X d 81 69 [l0, l1, l2] (.int (q.2 j) :: S) st P := zq_iaload (zd_of zb_X6_fault dX6_fault_68)
theorem E_X6_fault_69 : AW X d 81 69 [l0, l1, l2] S st P = AW X d 81 70 [l0, l1, l2] (.int 1 :: S) st P := zq_iconst (zd_of zb_X6_fault dX6_fault_69) (by decide)
theorem E_X6_fault_70 : AW X d 81 70 [l0, l1, l2] (.int y :: .int x :: S) st P = AW X d 81 71 [l0, l1, l2] (.int (x + y) :: S) st P := zAW_st (zd_of zb_X6_fault dX6_fault_70) rfl rfl
theorem E_X6_fault_71 : AW X d 81 71 [l0, l1, l2] (.int y :: .int x :: .ref a :: S) st P = zwith (zaI st a) fun q => zwith (zix x q.1) fun j => AW X d 81 72 [l0, l1, l2] S (zsta st a (q.1, .inl (upd q.2 j y))) P := zq_iastore (zd_of zb_X6_fault dX6_fault_71)
theorem E_X6_fault_72 : AW X d 81 72 [l0, l1, .int x] S st P = AW X d 81 75 [l0, l1, .int (x + 1)] S st P := zq_iinc (zd_of zb_X6_fault dX6_fault_72) rfl (by decide)
theorem E_X6_fault_75 : AW X d 81 75 [l0, l1, l2] S st P = AW X d 81 27 [l0, l1, l2] S st P := zq_goto (zd_of zb_X6_fault dX6_fault_75) (by decide)
theorem E_X6_fault_78 : AW X d 81 78 [l0, l1, l2] S st P = AW X d 81 79 [l0, l1, l2] (.int 0 :: S) st P := zq_iconst (zd_of zb_X6_fault dX6_fault_78) (by decide)
theorem E_X6_fault_79 : AW X d 81 79 [l0, l1, l2] (.int x :: S) st P = AW X d 81 80 [l0, l1, .int x] S st P := zAW_st (zd_of zb_X6_fault dX6_fault_79) rfl rfl
theorem E_X6_fault_80 : AW X d 81 80 [l0, l1, .int x] S st P = AW X d 81 81 [l0, l1, .int x] (.int x :: S) st P := zAW_st (zd_of zb_X6_fault dX6_fault_80) rfl rfl
theorem E_X6_fault_81 : AW X d 81 81 [l0, l1, l2] S st P = AW X d 81 84 [l0, l1, l2] (.int 1024 :: S) st P := zq_sipush (zd_of zb_X6_fault dX6_fault_81) (by decide)
theorem E_X6_fault_84 : AW X d 81 84 [l0, l1, l2] (.int y :: .int x :: S) st P = if y ≤ x then AW X d 81 114 [l0, l1, l2] S st P else AW X d 81 87 [l0, l1, l2] S st P := zq_icmp (c := y ≤ x) (zd_of zb_X6_fault dX6_fault_84) (by decide) rfl
theorem E_X6_fault_87 : AW X d 81 87 [.ref a, l1, l2] S st P = AW X d 81 88 [.ref a, l1, l2] (.ref a :: S) st P := zAW_st (zd_of zb_X6_fault dX6_fault_87) rfl rfl
theorem E_X6_fault_87n : AW X d 81 87 [.null, l1, l2] S st P = AW X d 81 88 [.null, l1, l2] (.null :: S) st P := zAW_st (zd_of zb_X6_fault dX6_fault_87) rfl rfl
theorem E_X6_fault_88 : AW X d 81 88 [l0, l1, l2] (.ref a :: S) st P = zwith (zget st a 7 6) fun v => AW X d 81 91 [l0, l1, l2] (v :: S) st P := zq_getfield (zd_of zb_X6_fault dX6_fault_88) zo_X6_fault zf_6_25
theorem E_X6_fault_91 : AW X d 81 91 [l0, l1, .int x] S st P = AW X d 81 92 [l0, l1, .int x] (.int x :: S) st P := zAW_st (zd_of zb_X6_fault dX6_fault_91) rfl rfl
theorem E_X6_fault_92 : AW X d 81 92 [l0, l1, l2] (.int x :: .ref a :: S) st P = zwith (zai X st a) fun q => zwith (zix x q.1) fun j => AW X d 81 93 [l0, l1, l2] (.int (q.2 j) :: S) st P := zq_iaload (zd_of zb_X6_fault dX6_fault_92)
theorem E_X6_fault_93 : AW X d 81 93 [l0, l1, l2] (.int x :: S) st P = if x = 0 then AW X d 81 108 [l0, l1, l2] S st P else AW X d 81 96 [l0, l1, l2] S st P := zq_if (c := x = 0) (zd_of zb_X6_fault dX6_fault_93) (by decide) rfl
theorem E_X6_fault_96 : AW X d 81 96 [.ref a, l1, l2] S st P = AW X d 81 97 [.ref a, l1, l2] (.ref a :: S) st P := zAW_st (zd_of zb_X6_fault dX6_fault_96) rfl rfl
theorem E_X6_fault_96n : AW X d 81 96 [.null, l1, l2] S st P = AW X d 81 97 [.null, l1, l2] (.null :: S) st P := zAW_st (zd_of zb_X6_fault dX6_fault_96) rfl rfl
theorem E_X6_fault_97 : AW X d 81 97 [l0, l1, l2] (.ref a :: S) st P = zwith (zget st a 7 6) fun v => AW X d 81 100 [l0, l1, l2] (v :: S) st P := zq_getfield (zd_of zb_X6_fault dX6_fault_97) zo_X6_fault zf_6_25
theorem E_X6_fault_100 : AW X d 81 100 [l0, l1, .int x] S st P = AW X d 81 101 [l0, l1, .int x] (.int x :: S) st P := zAW_st (zd_of zb_X6_fault dX6_fault_100) rfl rfl
theorem E_X6_fault_101 : AW X d 81 101 [l0, l1, l2] (.int x :: .ref a :: S) st P = zwith (zai X st a) fun q => zwith (zix x q.1) fun j => AW X d 81 102 [l0, l1, l2] (.int (q.2 j) :: S) st P := zq_iaload (zd_of zb_X6_fault dX6_fault_101)
theorem E_X6_fault_102 : AW X d 81 102 [l0, l1, l2] S st P = AW X d 81 103 [l0, l1, l2] (.int 2 :: S) st P := zq_iconst (zd_of zb_X6_fault dX6_fault_102) (by decide)
theorem E_X6_fault_103 : AW X d 81 103 [l0, l1, l2] (.int y :: .int x :: S) st P = if x = y then AW X d 81 108 [l0, l1, l2] S st P else AW X d 81 106 [l0, l1, l2] S st P := zq_icmp (c := x = y) (zd_of zb_X6_fault dX6_fault_103) (by decide) rfl
theorem E_X6_fault_106 : AW X d 81 106 [l0, l1, .int x] S st P = AW X d 81 107 [l0, l1, .int x] (.int x :: S) st P := zAW_st (zd_of zb_X6_fault dX6_fault_106) rfl rfl
theorem E_X6_fault_107 : AW X d 81 107 [l0, l1, l2] ([.int x]) st P = P (.inl (some (.int x))) st := zAW_ret (w := (.inl (some (.int x)), st)) (zd_of zb_X6_fault dX6_fault_107) rfl rfl (by simp only [zfin, zr_X6_fault])
theorem E_X6_fault_108 : AW X d 81 108 [l0, l1, .int x] S st P = AW X d 81 111 [l0, l1, .int (x + 1)] S st P := zq_iinc (zd_of zb_X6_fault dX6_fault_108) rfl (by decide)
theorem E_X6_fault_111 : AW X d 81 111 [l0, l1, l2] S st P = AW X d 81 80 [l0, l1, l2] S st P := zq_goto (zd_of zb_X6_fault dX6_fault_111) (by decide)
theorem E_X6_fault_114 : AW X d 81 114 [.ref a, l1, l2] S st P = AW X d 81 115 [.ref a, l1, l2] (.ref a :: S) st P := zAW_st (zd_of zb_X6_fault dX6_fault_114) rfl rfl
theorem E_X6_fault_114n : AW X d 81 114 [.null, l1, l2] S st P = AW X d 81 115 [.null, l1, l2] (.null :: S) st P := zAW_st (zd_of zb_X6_fault dX6_fault_114) rfl rfl
theorem E_X6_fault_115 : AW X d 81 115 [l0, l1, l2] (.ref a :: S) st P = zwith (zget st a 7 1) fun v => AW X d 81 118 [l0, l1, l2] (v :: S) st P := zq_getfield (zd_of zb_X6_fault dX6_fault_115) zo_X6_fault zf_6_13
theorem E_X6_fault_118 : AW X d 81 118 [l0, .int x, l2] S st P = AW X d 81 119 [l0, .int x, l2] (.int x :: S) st P := zAW_st (zd_of zb_X6_fault dX6_fault_118) rfl rfl
theorem E_X6_fault_119 : AW X d 81 119 [l0, l1, l2] (.int x :: .ref a :: S) st P = zwith (zai X st a) fun q => zwith (zix x q.1) fun j => AW X d 81 120 [l0, l1, l2] (.int (q.2 j) :: S) st P := zq_iaload (zd_of zb_X6_fault dX6_fault_119)
theorem E_X6_fault_120 : AW X d 81 120 [l0, l1, l2] (.int x :: S) st P = if ¬ x = 0 then AW X d 81 129 [l0, l1, l2] S st P else AW X d 81 123 [l0, l1, l2] S st P := zq_if (c := ¬ x = 0) (zd_of zb_X6_fault dX6_fault_120) (by decide) rfl
theorem E_X6_fault_123 : AW X d 81 123 [l0, l1, l2] S st P = AW X d 81 126 [l0, l1, l2] (.int 1024 :: S) st P := zq_sipush (zd_of zb_X6_fault dX6_fault_123) (by decide)
theorem E_X6_fault_126 : AW X d 81 126 [l0, l1, l2] S st P = AW X d 81 130 [l0, l1, l2] S st P := zq_goto (zd_of zb_X6_fault dX6_fault_126) (by decide)
theorem E_X6_fault_129 : AW X d 81 129 [l0, l1, l2] S st P = AW X d 81 130 [l0, l1, l2] (.int (-1) :: S) st P := zq_iconst (zd_of zb_X6_fault dX6_fault_129) (by decide)
theorem E_X6_fault_130 : AW X d 81 130 [l0, l1, l2] ([.int x]) st P = P (.inl (some (.int x))) st := zAW_ret (w := (.inl (some (.int x)), st)) (zd_of zb_X6_fault dX6_fault_130) rfl rfl (by simp only [zfin, zr_X6_fault])
theorem A_X6_fault : AC X (d + 1) 81 [.ref a, .int x] st P = AW X d 81 0 [.ref a, .int x, .retAddr 0] [] st P := AC_eq ⟨⟨(show 2 ≤ zml 81 by decide +kernel), by decide +kernel⟩, by simp [zc1_int, zc1_ref, zc1_float]⟩
theorem E_X6_finish_0 : AW X d 82 0 [.ref a, l1, l2] S st P = AW X d 82 1 [.ref a, l1, l2] (.ref a :: S) st P := zAW_st (zd_of zb_X6_finish dX6_finish_0) rfl rfl
theorem E_X6_finish_0n : AW X d 82 0 [.null, l1, l2] S st P = AW X d 82 1 [.null, l1, l2] (.null :: S) st P := zAW_st (zd_of zb_X6_finish dX6_finish_0) rfl rfl
theorem E_X6_finish_1 : AW X d 82 1 [.ref a, l1, l2] S st P = AW X d 82 2 [.ref a, l1, l2] (.ref a :: S) st P := zAW_st (zd_of zb_X6_finish dX6_finish_1) rfl rfl
theorem E_X6_finish_1n : AW X d 82 1 [.null, l1, l2] S st P = AW X d 82 2 [.null, l1, l2] (.null :: S) st P := zAW_st (zd_of zb_X6_finish dX6_finish_1) rfl rfl
theorem E_X6_finish_2 : AW X d 82 2 [l0, .int x, l2] S st P = AW X d 82 3 [l0, .int x, l2] (.int x :: S) st P := zAW_st (zd_of zb_X6_finish dX6_finish_2) rfl rfl
theorem E_X6_finish_3 : AW X d 82 3 [l0, l1, l2] (.int x :: .ref a :: S) st P = zif (zis st a 7 = true) (zif (S.length ≤ 4) (AC X d 76 [.ref a, .int x] st (zaft X d 82 3 [l0, l1, l2] S P))) := zq_callV (B := [.int x]) (zd_of zb_X6_finish dX6_finish_3) zo_X6_finish (by decide) zl_6_82 zn_76 rfl rfl rfl
theorem E_X6_finish_6 : AW X d 82 6 [l0, l1, l2] (.int x :: S) st P = if ¬ x = 0 then AW X d 82 13 [l0, l1, l2] S st P else AW X d 82 9 [l0, l1, l2] S st P := zq_if (c := ¬ x = 0) (zd_of zb_X6_finish dX6_finish_6) (by decide) rfl
theorem E_X6_finish_9 : AW X d 82 9 [l0, l1, l2] S st P = AW X d 82 10 [l0, l1, l2] (.int 1 :: S) st P := zq_iconst (zd_of zb_X6_finish dX6_finish_9) (by decide)
theorem E_X6_finish_10 : AW X d 82 10 [l0, l1, l2] S st P = AW X d 82 28 [l0, l1, l2] S st P := zq_goto (zd_of zb_X6_finish dX6_finish_10) (by decide)
theorem E_X6_finish_13 : AW X d 82 13 [.ref a, l1, l2] S st P = AW X d 82 14 [.ref a, l1, l2] (.ref a :: S) st P := zAW_st (zd_of zb_X6_finish dX6_finish_13) rfl rfl
theorem E_X6_finish_13n : AW X d 82 13 [.null, l1, l2] S st P = AW X d 82 14 [.null, l1, l2] (.null :: S) st P := zAW_st (zd_of zb_X6_finish dX6_finish_13) rfl rfl
theorem E_X6_finish_14 : AW X d 82 14 [l0, l1, l2] (.ref a :: S) st P = zwith (zget st a 7 0) fun v => AW X d 82 17 [l0, l1, l2] (v :: S) st P := zq_getfield (zd_of zb_X6_finish dX6_finish_14) zo_X6_finish zf_6_7
theorem E_X6_finish_17 : AW X d 82 17 [l0, .int x, l2] S st P = AW X d 82 18 [l0, .int x, l2] (.int x :: S) st P := zAW_st (zd_of zb_X6_finish dX6_finish_17) rfl rfl
theorem E_X6_finish_18 : AW X d 82 18 [l0, l1, l2] (.int x :: .ref a :: S) st P = zwith (zai X st a) fun q => zwith (zix x q.1) fun j => AW X d 82 19 [l0, l1, l2] (.int (q.2 j) :: S) st P := zq_iaload (zd_of zb_X6_finish dX6_finish_18)
theorem E_X6_finish_19 : AW X d 82 19 [l0, l1, l2] S st P = AW X d 82 20 [l0, l1, l2] (.int 1 :: S) st P := zq_iconst (zd_of zb_X6_finish dX6_finish_19) (by decide)
theorem E_X6_finish_20 : AW X d 82 20 [l0, l1, l2] (.int y :: .int x :: S) st P = if ¬ x = y then AW X d 82 27 [l0, l1, l2] S st P else AW X d 82 23 [l0, l1, l2] S st P := zq_icmp (c := ¬ x = y) (zd_of zb_X6_finish dX6_finish_20) (by decide) rfl
theorem E_X6_finish_23 : AW X d 82 23 [l0, l1, l2] S st P = AW X d 82 24 [l0, l1, l2] (.int 2 :: S) st P := zq_iconst (zd_of zb_X6_finish dX6_finish_23) (by decide)
theorem E_X6_finish_24 : AW X d 82 24 [l0, l1, l2] S st P = AW X d 82 28 [l0, l1, l2] S st P := zq_goto (zd_of zb_X6_finish dX6_finish_24) (by decide)
theorem E_X6_finish_27 : AW X d 82 27 [l0, l1, l2] S st P = AW X d 82 28 [l0, l1, l2] (.int 0 :: S) st P := zq_iconst (zd_of zb_X6_finish dX6_finish_27) (by decide)
theorem E_X6_finish_28 : AW X d 82 28 [l0, l1, l2] (.int x :: .ref a :: S) st P = zif (zis st a 7 = true) (zif (S.length ≤ 4) (AC X d 74 [.ref a, .int x] st (zaft X d 82 28 [l0, l1, l2] S P))) := zq_callV (B := [.int x]) (zd_of zb_X6_finish dX6_finish_28) zo_X6_finish (by decide) zl_6_78 zn_74 rfl rfl rfl
theorem E_X6_finish_31 : AW X d 82 31 [l0, l1, l2] (.int x :: S) st P = if x = 0 then AW X d 82 36 [l0, l1, l2] S st P else AW X d 82 34 [l0, l1, l2] S st P := zq_if (c := x = 0) (zd_of zb_X6_finish dX6_finish_31) (by decide) rfl
theorem E_X6_finish_34 : AW X d 82 34 [l0, l1, l2] S st P = AW X d 82 35 [l0, l1, l2] (.int (-1) :: S) st P := zq_iconst (zd_of zb_X6_finish dX6_finish_34) (by decide)
theorem E_X6_finish_35 : AW X d 82 35 [l0, l1, l2] ([.int x]) st P = P (.inl (some (.int x))) st := zAW_ret (w := (.inl (some (.int x)), st)) (zd_of zb_X6_finish dX6_finish_35) rfl rfl (by simp only [zfin, zr_X6_finish])
theorem E_X6_finish_36 : AW X d 82 36 [.ref a, l1, l2] S st P = AW X d 82 37 [.ref a, l1, l2] (.ref a :: S) st P := zAW_st (zd_of zb_X6_finish dX6_finish_36) rfl rfl
theorem E_X6_finish_36n : AW X d 82 36 [.null, l1, l2] S st P = AW X d 82 37 [.null, l1, l2] (.null :: S) st P := zAW_st (zd_of zb_X6_finish dX6_finish_36) rfl rfl
theorem E_X6_finish_37 : AW X d 82 37 [l0, .int x, l2] S st P = AW X d 82 38 [l0, .int x, l2] (.int x :: S) st P := zAW_st (zd_of zb_X6_finish dX6_finish_37) rfl rfl
theorem E_X6_finish_38 : AW X d 82 38 [l0, l1, l2] (.int x :: .ref a :: S) st P = zif (zis st a 7 = true) (zif (S.length ≤ 4) (AC X d 80 [.ref a, .int x] st (zaft X d 82 38 [l0, l1, l2] S P))) := zq_callV (B := [.int x]) (zd_of zb_X6_finish dX6_finish_38) zo_X6_finish (by decide) zl_6_89 zn_80 rfl rfl rfl
theorem E_X6_finish_41 : AW X d 82 41 [.ref a, l1, l2] S st P = AW X d 82 42 [.ref a, l1, l2] (.ref a :: S) st P := zAW_st (zd_of zb_X6_finish dX6_finish_41) rfl rfl
theorem E_X6_finish_41n : AW X d 82 41 [.null, l1, l2] S st P = AW X d 82 42 [.null, l1, l2] (.null :: S) st P := zAW_st (zd_of zb_X6_finish dX6_finish_41) rfl rfl
theorem E_X6_finish_42 : AW X d 82 42 [l0, .int x, l2] S st P = AW X d 82 43 [l0, .int x, l2] (.int x :: S) st P := zAW_st (zd_of zb_X6_finish dX6_finish_42) rfl rfl
theorem E_X6_finish_43 : AW X d 82 43 [l0, l1, l2] (.int x :: .ref a :: S) st P = zif (zis st a 7 = true) (zif (S.length ≤ 4) (AC X d 81 [.ref a, .int x] st (zaft X d 82 43 [l0, l1, l2] S P))) := zq_callV (B := [.int x]) (zd_of zb_X6_finish dX6_finish_43) zo_X6_finish (by decide) zl_6_93 zn_81 rfl rfl rfl
theorem E_X6_finish_46 : AW X d 82 46 [l0, l1, l2] (.int x :: S) st P = AW X d 82 47 [l0, l1, .int x] S st P := zAW_st (zd_of zb_X6_finish dX6_finish_46) rfl rfl
theorem E_X6_finish_47 : AW X d 82 47 [l0, l1, .int x] S st P = AW X d 82 48 [l0, l1, .int x] (.int x :: S) st P := zAW_st (zd_of zb_X6_finish dX6_finish_47) rfl rfl
theorem E_X6_finish_48 : AW X d 82 48 [l0, l1, l2] (.int x :: S) st P = if 0 ≤ x then AW X d 82 62 [l0, l1, l2] S st P else AW X d 82 51 [l0, l1, l2] S st P := zq_if (c := 0 ≤ x) (zd_of zb_X6_finish dX6_finish_48) (by decide) rfl
theorem E_X6_finish_51 : AW X d 82 51 [.ref a, l1, l2] S st P = AW X d 82 52 [.ref a, l1, l2] (.ref a :: S) st P := zAW_st (zd_of zb_X6_finish dX6_finish_51) rfl rfl
theorem E_X6_finish_51n : AW X d 82 51 [.null, l1, l2] S st P = AW X d 82 52 [.null, l1, l2] (.null :: S) st P := zAW_st (zd_of zb_X6_finish dX6_finish_51) rfl rfl
theorem E_X6_finish_52 : AW X d 82 52 [l0, l1, l2] (.ref a :: S) st P = zwith (zget st a 7 0) fun v => AW X d 82 55 [l0, l1, l2] (v :: S) st P := zq_getfield (zd_of zb_X6_finish dX6_finish_52) zo_X6_finish zf_6_7
theorem E_X6_finish_55 : AW X d 82 55 [l0, .int x, l2] S st P = AW X d 82 56 [l0, .int x, l2] (.int x :: S) st P := zAW_st (zd_of zb_X6_finish dX6_finish_55) rfl rfl
theorem E_X6_finish_56 : AW X d 82 56 [l0, l1, l2] S st P = AW X d 82 57 [l0, l1, l2] (.int 1 :: S) st P := zq_iconst (zd_of zb_X6_finish dX6_finish_56) (by decide)
theorem E_X6_finish_57 : AW X d 82 57 [l0, l1, l2] (.int y :: .int x :: .ref a :: S) st P = zwith (zaI st a) fun q => zwith (zix x q.1) fun j => AW X d 82 58 [l0, l1, l2] S (zsta st a (q.1, .inl (upd q.2 j y))) P := zq_iastore (zd_of zb_X6_finish dX6_finish_57)
theorem E_X6_finish_58 : AW X d 82 58 [.ref a, l1, l2] S st P = AW X d 82 59 [.ref a, l1, l2] (.ref a :: S) st P := zAW_st (zd_of zb_X6_finish dX6_finish_58) rfl rfl
theorem E_X6_finish_58n : AW X d 82 58 [.null, l1, l2] S st P = AW X d 82 59 [.null, l1, l2] (.null :: S) st P := zAW_st (zd_of zb_X6_finish dX6_finish_58) rfl rfl
theorem E_X6_finish_59 : AW X d 82 59 [l0, l1, l2] (.ref a :: S) st P = zif (zis st a 7 = true) (zif (S.length ≤ 4) (AC X d 97 [.ref a] st (zaft X d 82 59 [l0, l1, l2] S P))) := zq_callV (B := []) (zd_of zb_X6_finish dX6_finish_59) zo_X6_finish (by decide) zl_6_97 zn_97 rfl rfl rfl
theorem E_X6_finish_62 : AW X d 82 62 [l0, l1, .int x] S st P = AW X d 82 63 [l0, l1, .int x] (.int x :: S) st P := zAW_st (zd_of zb_X6_finish dX6_finish_62) rfl rfl
theorem E_X6_finish_63 : AW X d 82 63 [l0, l1, l2] ([.int x]) st P = P (.inl (some (.int x))) st := zAW_ret (w := (.inl (some (.int x)), st)) (zd_of zb_X6_finish dX6_finish_63) rfl rfl (by simp only [zfin, zr_X6_finish])
theorem A_X6_finish : AC X (d + 1) 82 [.ref a, .int x] st P = AW X d 82 0 [.ref a, .int x, .retAddr 0] [] st P := AC_eq ⟨⟨(show 2 ≤ zml 82 by decide +kernel), by decide +kernel⟩, by simp [zc1_int, zc1_ref, zc1_float]⟩
theorem E_X6_size_0 : AW X d 83 0 [l0, l1, l2, l3, l4, l5, l6, l7] S st P = AW X d 83 2 [l0, l1, l2, l3, l4, l5, l6, l7] (.int 32 :: S) st P := zq_bipush (zd_of zb_X6_size dX6_size_0) (by decide)
theorem E_X6_size_2 : AW X d 83 2 [l0, l1, l2, l3, l4, l5, l6, l7] (.int x :: S) st P = AW X d 83 3 [l0, l1, l2, .int x, l4, l5, l6, l7] S st P := zAW_st (zd_of zb_X6_size dX6_size_2) rfl rfl
theorem E_X6_size_3 : AW X d 83 3 [l0, l1, l2, l3, l4, l5, l6, l7] S st P = AW X d 83 4 [l0, l1, l2, l3, l4, l5, l6, l7] (.int (-1) :: S) st P := zq_iconst (zd_of zb_X6_size dX6_size_3) (by decide)
theorem E_X6_size_4 : AW X d 83 4 [l0, l1, l2, l3, l4, l5, l6, l7] (.int x :: S) st P = AW X d 83 6 [l0, l1, l2, l3, .int x, l5, l6, l7] S st P := zAW_st (zd_of zb_X6_size dX6_size_4) rfl rfl
theorem E_X6_size_6 : AW X d 83 6 [l0, l1, l2, l3, l4, l5, l6, l7] S st P = AW X d 83 8 [l0, l1, l2, l3, l4, l5, l6, l7] (.int 24 :: S) st P := zq_bipush (zd_of zb_X6_size dX6_size_6) (by decide)
theorem E_X6_size_8 : AW X d 83 8 [l0, .int x, l2, l3, l4, l5, l6, l7] S st P = AW X d 83 9 [l0, .int x, l2, l3, l4, l5, l6, l7] (.int x :: S) st P := zAW_st (zd_of zb_X6_size dX6_size_8) rfl rfl
theorem E_X6_size_9 : AW X d 83 9 [l0, l1, l2, l3, l4, l5, l6, l7] (.int y :: .int x :: S) st P = AW X d 83 10 [l0, l1, l2, l3, l4, l5, l6, l7] (.int (x * y) :: S) st P := zAW_st (zd_of zb_X6_size dX6_size_9) rfl rfl
theorem E_X6_size_10 : AW X d 83 10 [l0, l1, l2, l3, l4, l5, l6, l7] (.int x :: S) st P = AW X d 83 12 [l0, l1, l2, l3, l4, .int x, l6, l7] S st P := zAW_st (zd_of zb_X6_size dX6_size_10) rfl rfl
theorem E_X6_size_12 : AW X d 83 12 [l0, l1, l2, l3, l4, .int x, l6, l7] S st P = AW X d 83 14 [l0, l1, l2, l3, l4, .int x, l6, l7] (.int x :: S) st P := zAW_st (zd_of zb_X6_size dX6_size_12) rfl rfl
theorem E_X6_size_14 : AW X d 83 14 [l0, l1, l2, l3, l4, l5, l6, l7] S st P = AW X d 83 16 [l0, l1, l2, l3, l4, l5, l6, l7] (.int 24 :: S) st P := zq_bipush (zd_of zb_X6_size dX6_size_14) (by decide)
theorem E_X6_size_16 : AW X d 83 16 [l0, .int x, l2, l3, l4, l5, l6, l7] S st P = AW X d 83 17 [l0, .int x, l2, l3, l4, l5, l6, l7] (.int x :: S) st P := zAW_st (zd_of zb_X6_size dX6_size_16) rfl rfl
theorem E_X6_size_17 : AW X d 83 17 [l0, l1, l2, l3, l4, l5, l6, l7] (.int y :: .int x :: S) st P = AW X d 83 18 [l0, l1, l2, l3, l4, l5, l6, l7] (.int (x * y) :: S) st P := zAW_st (zd_of zb_X6_size dX6_size_17) rfl rfl
theorem E_X6_size_18 : AW X d 83 18 [.ref a, l1, l2, l3, l4, l5, l6, l7] S st P = AW X d 83 19 [.ref a, l1, l2, l3, l4, l5, l6, l7] (.ref a :: S) st P := zAW_st (zd_of zb_X6_size dX6_size_18) rfl rfl
theorem E_X6_size_18n : AW X d 83 18 [.null, l1, l2, l3, l4, l5, l6, l7] S st P = AW X d 83 19 [.null, l1, l2, l3, l4, l5, l6, l7] (.null :: S) st P := zAW_st (zd_of zb_X6_size dX6_size_18) rfl rfl
theorem E_X6_size_19 : AW X d 83 19 [l0, l1, l2, l3, l4, l5, l6, l7] (.ref a :: S) st P = zwith (zget st a 7 1) fun v => AW X d 83 22 [l0, l1, l2, l3, l4, l5, l6, l7] (v :: S) st P := zq_getfield (zd_of zb_X6_size dX6_size_19) zo_X6_size zf_6_13
theorem E_X6_size_22 : AW X d 83 22 [l0, .int x, l2, l3, l4, l5, l6, l7] S st P = AW X d 83 23 [l0, .int x, l2, l3, l4, l5, l6, l7] (.int x :: S) st P := zAW_st (zd_of zb_X6_size dX6_size_22) rfl rfl
theorem E_X6_size_23 : AW X d 83 23 [l0, l1, l2, l3, l4, l5, l6, l7] (.int x :: .ref a :: S) st P = zwith (zai X st a) fun q => zwith (zix x q.1) fun j => AW X d 83 24 [l0, l1, l2, l3, l4, l5, l6, l7] (.int (q.2 j) :: S) st P := zq_iaload (zd_of zb_X6_size dX6_size_23)
theorem E_X6_size_24 : AW X d 83 24 [l0, l1, l2, l3, l4, l5, l6, l7] (.int y :: .int x :: S) st P = AW X d 83 25 [l0, l1, l2, l3, l4, l5, l6, l7] (.int (x + y) :: S) st P := zAW_st (zd_of zb_X6_size dX6_size_24) rfl rfl
theorem E_X6_size_25 : AW X d 83 25 [l0, l1, l2, l3, l4, l5, l6, l7] (.int y :: .int x :: S) st P = if y ≤ x then AW X d 83 150 [l0, l1, l2, l3, l4, l5, l6, l7] S st P else AW X d 83 28 [l0, l1, l2, l3, l4, l5, l6, l7] S st P := zq_icmp (c := y ≤ x) (zd_of zb_X6_size dX6_size_25) (by decide) rfl
theorem E_X6_size_28 : AW X d 83 28 [l0, l1, .int x, l3, l4, l5, l6, l7] S st P = AW X d 83 29 [l0, l1, .int x, l3, l4, l5, l6, l7] (.int x :: S) st P := zAW_st (zd_of zb_X6_size dX6_size_28) rfl rfl
theorem E_X6_size_29 : AW X d 83 29 [l0, l1, l2, l3, l4, l5, l6, l7] (.int x :: S) st P = if x = 0 then AW X d 83 45 [l0, l1, l2, l3, l4, l5, l6, l7] S st P else AW X d 83 32 [l0, l1, l2, l3, l4, l5, l6, l7] S st P := zq_if (c := x = 0) (zd_of zb_X6_size dX6_size_29) (by decide) rfl
theorem E_X6_size_32 : AW X d 83 32 [.ref a, l1, l2, l3, l4, l5, l6, l7] S st P = AW X d 83 33 [.ref a, l1, l2, l3, l4, l5, l6, l7] (.ref a :: S) st P := zAW_st (zd_of zb_X6_size dX6_size_32) rfl rfl
theorem E_X6_size_32n : AW X d 83 32 [.null, l1, l2, l3, l4, l5, l6, l7] S st P = AW X d 83 33 [.null, l1, l2, l3, l4, l5, l6, l7] (.null :: S) st P := zAW_st (zd_of zb_X6_size dX6_size_32) rfl rfl
theorem E_X6_size_33 : AW X d 83 33 [l0, l1, l2, l3, l4, l5, l6, l7] (.ref a :: S) st P = zwith (zget st a 7 3) fun v => AW X d 83 36 [l0, l1, l2, l3, l4, l5, l6, l7] (v :: S) st P := zq_getfield (zd_of zb_X6_size dX6_size_33) zo_X6_size zf_6_19
theorem E_X6_size_36 : AW X d 83 36 [l0, l1, l2, l3, l4, .int x, l6, l7] S st P = AW X d 83 38 [l0, l1, l2, l3, l4, .int x, l6, l7] (.int x :: S) st P := zAW_st (zd_of zb_X6_size dX6_size_36) rfl rfl
theorem E_X6_size_38 : AW X d 83 38 [l0, l1, l2, l3, l4, l5, l6, l7] (.int x :: .ref a :: S) st P = zwith (zai X st a) fun q => zwith (zix x q.1) fun j => AW X d 83 39 [l0, l1, l2, l3, l4, l5, l6, l7] (.int (q.2 j) :: S) st P := zq_iaload (zd_of zb_X6_size dX6_size_38)
theorem E_X6_size_39 : AW X d 83 39 [l0, l1, l2, l3, l4, l5, l6, l7] S st P = AW X d 83 41 [l0, l1, l2, l3, l4, l5, l6, l7] (.int 32 :: S) st P := zq_bipush (zd_of zb_X6_size dX6_size_39) (by decide)
theorem E_X6_size_41 : AW X d 83 41 [l0, l1, l2, l3, l4, l5, l6, l7] (.int y :: .int x :: S) st P = zif (¬ y = 0) (AW X d 83 42 [l0, l1, l2, l3, l4, l5, l6, l7] (.int (x - x / y * y) :: S) st P) := zq_irem (zd_of zb_X6_size dX6_size_41)
theorem E_X6_size_42 : AW X d 83 42 [l0, l1, l2, l3, l4, l5, l6, l7] S st P = AW X d 83 55 [l0, l1, l2, l3, l4, l5, l6, l7] S st P := zq_goto (zd_of zb_X6_size dX6_size_42) (by decide)
theorem E_X6_size_45 : AW X d 83 45 [.ref a, l1, l2, l3, l4, l5, l6, l7] S st P = AW X d 83 46 [.ref a, l1, l2, l3, l4, l5, l6, l7] (.ref a :: S) st P := zAW_st (zd_of zb_X6_size dX6_size_45) rfl rfl
theorem E_X6_size_45n : AW X d 83 45 [.null, l1, l2, l3, l4, l5, l6, l7] S st P = AW X d 83 46 [.null, l1, l2, l3, l4, l5, l6, l7] (.null :: S) st P := zAW_st (zd_of zb_X6_size dX6_size_45) rfl rfl
theorem E_X6_size_46 : AW X d 83 46 [l0, l1, l2, l3, l4, l5, l6, l7] (.ref a :: S) st P = zwith (zget st a 7 3) fun v => AW X d 83 49 [l0, l1, l2, l3, l4, l5, l6, l7] (v :: S) st P := zq_getfield (zd_of zb_X6_size dX6_size_46) zo_X6_size zf_6_19
theorem E_X6_size_49 : AW X d 83 49 [l0, l1, l2, l3, l4, .int x, l6, l7] S st P = AW X d 83 51 [l0, l1, l2, l3, l4, .int x, l6, l7] (.int x :: S) st P := zAW_st (zd_of zb_X6_size dX6_size_49) rfl rfl
theorem E_X6_size_51 : AW X d 83 51 [l0, l1, l2, l3, l4, l5, l6, l7] (.int x :: .ref a :: S) st P = zwith (zai X st a) fun q => zwith (zix x q.1) fun j => AW X d 83 52 [l0, l1, l2, l3, l4, l5, l6, l7] (.int (q.2 j) :: S) st P := zq_iaload (zd_of zb_X6_size dX6_size_51)
theorem E_X6_size_52 : AW X d 83 52 [l0, l1, l2, l3, l4, l5, l6, l7] S st P = AW X d 83 54 [l0, l1, l2, l3, l4, l5, l6, l7] (.int 32 :: S) st P := zq_bipush (zd_of zb_X6_size dX6_size_52) (by decide)
theorem E_X6_size_54 : AW X d 83 54 [l0, l1, l2, l3, l4, l5, l6, l7] (.int y :: .int x :: S) st P = zif (¬ y = 0) (AW X d 83 55 [l0, l1, l2, l3, l4, l5, l6, l7] (.int (x / y) :: S) st P) := zq_idiv (zd_of zb_X6_size dX6_size_54)
theorem E_X6_size_55 : AW X d 83 55 [l0, l1, l2, l3, l4, l5, l6, l7] (.int x :: S) st P = AW X d 83 57 [l0, l1, l2, l3, l4, l5, .int x, l7] S st P := zAW_st (zd_of zb_X6_size dX6_size_55) rfl rfl
theorem E_X6_size_57 : AW X d 83 57 [l0, l1, .int x, l3, l4, l5, l6, l7] S st P = AW X d 83 58 [l0, l1, .int x, l3, l4, l5, l6, l7] (.int x :: S) st P := zAW_st (zd_of zb_X6_size dX6_size_57) rfl rfl
theorem E_X6_size_58 : AW X d 83 58 [l0, l1, l2, l3, l4, l5, l6, l7] (.int x :: S) st P = if x = 0 then AW X d 83 74 [l0, l1, l2, l3, l4, l5, l6, l7] S st P else AW X d 83 61 [l0, l1, l2, l3, l4, l5, l6, l7] S st P := zq_if (c := x = 0) (zd_of zb_X6_size dX6_size_58) (by decide) rfl
theorem E_X6_size_61 : AW X d 83 61 [.ref a, l1, l2, l3, l4, l5, l6, l7] S st P = AW X d 83 62 [.ref a, l1, l2, l3, l4, l5, l6, l7] (.ref a :: S) st P := zAW_st (zd_of zb_X6_size dX6_size_61) rfl rfl
theorem E_X6_size_61n : AW X d 83 61 [.null, l1, l2, l3, l4, l5, l6, l7] S st P = AW X d 83 62 [.null, l1, l2, l3, l4, l5, l6, l7] (.null :: S) st P := zAW_st (zd_of zb_X6_size dX6_size_61) rfl rfl
theorem E_X6_size_62 : AW X d 83 62 [l0, l1, l2, l3, l4, l5, l6, l7] (.ref a :: S) st P = zwith (zget st a 7 4) fun v => AW X d 83 65 [l0, l1, l2, l3, l4, l5, l6, l7] (v :: S) st P := zq_getfield (zd_of zb_X6_size dX6_size_62) zo_X6_size zf_6_22
theorem E_X6_size_65 : AW X d 83 65 [l0, l1, l2, l3, l4, .int x, l6, l7] S st P = AW X d 83 67 [l0, l1, l2, l3, l4, .int x, l6, l7] (.int x :: S) st P := zAW_st (zd_of zb_X6_size dX6_size_65) rfl rfl
theorem E_X6_size_67 : AW X d 83 67 [l0, l1, l2, l3, l4, l5, l6, l7] (.int x :: .ref a :: S) st P = zwith (zai X st a) fun q => zwith (zix x q.1) fun j => AW X d 83 68 [l0, l1, l2, l3, l4, l5, l6, l7] (.int (q.2 j) :: S) st P := zq_iaload (zd_of zb_X6_size dX6_size_67)
theorem E_X6_size_68 : AW X d 83 68 [l0, l1, l2, l3, l4, l5, l6, l7] S st P = AW X d 83 70 [l0, l1, l2, l3, l4, l5, l6, l7] (.int 32 :: S) st P := zq_bipush (zd_of zb_X6_size dX6_size_68) (by decide)
theorem E_X6_size_70 : AW X d 83 70 [l0, l1, l2, l3, l4, l5, l6, l7] (.int y :: .int x :: S) st P = zif (¬ y = 0) (AW X d 83 71 [l0, l1, l2, l3, l4, l5, l6, l7] (.int (x - x / y * y) :: S) st P) := zq_irem (zd_of zb_X6_size dX6_size_70)
theorem E_X6_size_71 : AW X d 83 71 [l0, l1, l2, l3, l4, l5, l6, l7] S st P = AW X d 83 84 [l0, l1, l2, l3, l4, l5, l6, l7] S st P := zq_goto (zd_of zb_X6_size dX6_size_71) (by decide)
theorem E_X6_size_74 : AW X d 83 74 [.ref a, l1, l2, l3, l4, l5, l6, l7] S st P = AW X d 83 75 [.ref a, l1, l2, l3, l4, l5, l6, l7] (.ref a :: S) st P := zAW_st (zd_of zb_X6_size dX6_size_74) rfl rfl
theorem E_X6_size_74n : AW X d 83 74 [.null, l1, l2, l3, l4, l5, l6, l7] S st P = AW X d 83 75 [.null, l1, l2, l3, l4, l5, l6, l7] (.null :: S) st P := zAW_st (zd_of zb_X6_size dX6_size_74) rfl rfl
theorem E_X6_size_75 : AW X d 83 75 [l0, l1, l2, l3, l4, l5, l6, l7] (.ref a :: S) st P = zwith (zget st a 7 4) fun v => AW X d 83 78 [l0, l1, l2, l3, l4, l5, l6, l7] (v :: S) st P := zq_getfield (zd_of zb_X6_size dX6_size_75) zo_X6_size zf_6_22
theorem E_X6_size_78 : AW X d 83 78 [l0, l1, l2, l3, l4, .int x, l6, l7] S st P = AW X d 83 80 [l0, l1, l2, l3, l4, .int x, l6, l7] (.int x :: S) st P := zAW_st (zd_of zb_X6_size dX6_size_78) rfl rfl
theorem E_X6_size_80 : AW X d 83 80 [l0, l1, l2, l3, l4, l5, l6, l7] (.int x :: .ref a :: S) st P = zwith (zai X st a) fun q => zwith (zix x q.1) fun j => AW X d 83 81 [l0, l1, l2, l3, l4, l5, l6, l7] (.int (q.2 j) :: S) st P := zq_iaload (zd_of zb_X6_size dX6_size_80)
theorem E_X6_size_81 : AW X d 83 81 [l0, l1, l2, l3, l4, l5, l6, l7] S st P = AW X d 83 83 [l0, l1, l2, l3, l4, l5, l6, l7] (.int 32 :: S) st P := zq_bipush (zd_of zb_X6_size dX6_size_81) (by decide)
theorem E_X6_size_83 : AW X d 83 83 [l0, l1, l2, l3, l4, l5, l6, l7] (.int y :: .int x :: S) st P = zif (¬ y = 0) (AW X d 83 84 [l0, l1, l2, l3, l4, l5, l6, l7] (.int (x / y) :: S) st P) := zq_idiv (zd_of zb_X6_size dX6_size_83)
theorem E_X6_size_84 : AW X d 83 84 [l0, l1, l2, l3, l4, l5, l6, l7] (.int x :: S) st P = AW X d 83 86 [l0, l1, l2, l3, l4, l5, l6, .int x] S st P := zAW_st (zd_of zb_X6_size dX6_size_84) rfl rfl
theorem E_X6_size_86 : AW X d 83 86 [l0, l1, l2, l3, l4, l5, .int x, l7] S st P = AW X d 83 88 [l0, l1, l2, l3, l4, l5, .int x, l7] (.int x :: S) st P := zAW_st (zd_of zb_X6_size dX6_size_86) rfl rfl
theorem E_X6_size_88 : AW X d 83 88 [l0, l1, l2, .int x, l4, l5, l6, l7] S st P = AW X d 83 89 [l0, l1, l2, .int x, l4, l5, l6, l7] (.int x :: S) st P := zAW_st (zd_of zb_X6_size dX6_size_88) rfl rfl
theorem E_X6_size_89 : AW X d 83 89 [l0, l1, l2, l3, l4, l5, l6, l7] (.int y :: .int x :: S) st P = if y ≤ x then AW X d 83 97 [l0, l1, l2, l3, l4, l5, l6, l7] S st P else AW X d 83 92 [l0, l1, l2, l3, l4, l5, l6, l7] S st P := zq_icmp (c := y ≤ x) (zd_of zb_X6_size dX6_size_89) (by decide) rfl
theorem E_X6_size_92 : AW X d 83 92 [l0, l1, l2, l3, l4, l5, .int x, l7] S st P = AW X d 83 94 [l0, l1, l2, l3, l4, l5, .int x, l7] (.int x :: S) st P := zAW_st (zd_of zb_X6_size dX6_size_92) rfl rfl
theorem E_X6_size_94 : AW X d 83 94 [l0, l1, l2, l3, l4, l5, l6, l7] S st P = AW X d 83 98 [l0, l1, l2, l3, l4, l5, l6, l7] S st P := zq_goto (zd_of zb_X6_size dX6_size_94) (by decide)
theorem E_X6_size_97 : AW X d 83 97 [l0, l1, l2, .int x, l4, l5, l6, l7] S st P = AW X d 83 98 [l0, l1, l2, .int x, l4, l5, l6, l7] (.int x :: S) st P := zAW_st (zd_of zb_X6_size dX6_size_97) rfl rfl
theorem E_X6_size_98 : AW X d 83 98 [l0, l1, l2, l3, l4, l5, l6, l7] (.int x :: S) st P = AW X d 83 99 [l0, l1, l2, .int x, l4, l5, l6, l7] S st P := zAW_st (zd_of zb_X6_size dX6_size_98) rfl rfl
theorem E_X6_size_99 : AW X d 83 99 [l0, l1, l2, l3, l4, l5, l6, .int x] S st P = AW X d 83 101 [l0, l1, l2, l3, l4, l5, l6, .int x] (.int x :: S) st P := zAW_st (zd_of zb_X6_size dX6_size_99) rfl rfl
theorem E_X6_size_101 : AW X d 83 101 [l0, l1, l2, .int x, l4, l5, l6, l7] S st P = AW X d 83 102 [l0, l1, l2, .int x, l4, l5, l6, l7] (.int x :: S) st P := zAW_st (zd_of zb_X6_size dX6_size_101) rfl rfl
theorem E_X6_size_102 : AW X d 83 102 [l0, l1, l2, l3, l4, l5, l6, l7] (.int y :: .int x :: S) st P = if y ≤ x then AW X d 83 110 [l0, l1, l2, l3, l4, l5, l6, l7] S st P else AW X d 83 105 [l0, l1, l2, l3, l4, l5, l6, l7] S st P := zq_icmp (c := y ≤ x) (zd_of zb_X6_size dX6_size_102) (by decide) rfl
theorem E_X6_size_105 : AW X d 83 105 [l0, l1, l2, l3, l4, l5, l6, .int x] S st P = AW X d 83 107 [l0, l1, l2, l3, l4, l5, l6, .int x] (.int x :: S) st P := zAW_st (zd_of zb_X6_size dX6_size_105) rfl rfl
theorem E_X6_size_107 : AW X d 83 107 [l0, l1, l2, l3, l4, l5, l6, l7] S st P = AW X d 83 111 [l0, l1, l2, l3, l4, l5, l6, l7] S st P := zq_goto (zd_of zb_X6_size dX6_size_107) (by decide)
theorem E_X6_size_110 : AW X d 83 110 [l0, l1, l2, .int x, l4, l5, l6, l7] S st P = AW X d 83 111 [l0, l1, l2, .int x, l4, l5, l6, l7] (.int x :: S) st P := zAW_st (zd_of zb_X6_size dX6_size_110) rfl rfl
theorem E_X6_size_111 : AW X d 83 111 [l0, l1, l2, l3, l4, l5, l6, l7] (.int x :: S) st P = AW X d 83 112 [l0, l1, l2, .int x, l4, l5, l6, l7] S st P := zAW_st (zd_of zb_X6_size dX6_size_111) rfl rfl
theorem E_X6_size_112 : AW X d 83 112 [l0, l1, l2, l3, l4, l5, .int x, l7] S st P = AW X d 83 114 [l0, l1, l2, l3, l4, l5, .int x, l7] (.int x :: S) st P := zAW_st (zd_of zb_X6_size dX6_size_112) rfl rfl
theorem E_X6_size_114 : AW X d 83 114 [l0, l1, l2, l3, .int x, l5, l6, l7] S st P = AW X d 83 116 [l0, l1, l2, l3, .int x, l5, l6, l7] (.int x :: S) st P := zAW_st (zd_of zb_X6_size dX6_size_114) rfl rfl
theorem E_X6_size_116 : AW X d 83 116 [l0, l1, l2, l3, l4, l5, l6, l7] (.int y :: .int x :: S) st P = if x ≤ y then AW X d 83 124 [l0, l1, l2, l3, l4, l5, l6, l7] S st P else AW X d 83 119 [l0, l1, l2, l3, l4, l5, l6, l7] S st P := zq_icmp (c := x ≤ y) (zd_of zb_X6_size dX6_size_116) (by decide) rfl
theorem E_X6_size_119 : AW X d 83 119 [l0, l1, l2, l3, l4, l5, .int x, l7] S st P = AW X d 83 121 [l0, l1, l2, l3, l4, l5, .int x, l7] (.int x :: S) st P := zAW_st (zd_of zb_X6_size dX6_size_119) rfl rfl
theorem E_X6_size_121 : AW X d 83 121 [l0, l1, l2, l3, l4, l5, l6, l7] S st P = AW X d 83 126 [l0, l1, l2, l3, l4, l5, l6, l7] S st P := zq_goto (zd_of zb_X6_size dX6_size_121) (by decide)
theorem E_X6_size_124 : AW X d 83 124 [l0, l1, l2, l3, .int x, l5, l6, l7] S st P = AW X d 83 126 [l0, l1, l2, l3, .int x, l5, l6, l7] (.int x :: S) st P := zAW_st (zd_of zb_X6_size dX6_size_124) rfl rfl
theorem E_X6_size_126 : AW X d 83 126 [l0, l1, l2, l3, l4, l5, l6, l7] (.int x :: S) st P = AW X d 83 128 [l0, l1, l2, l3, .int x, l5, l6, l7] S st P := zAW_st (zd_of zb_X6_size dX6_size_126) rfl rfl
theorem E_X6_size_128 : AW X d 83 128 [l0, l1, l2, l3, l4, l5, l6, .int x] S st P = AW X d 83 130 [l0, l1, l2, l3, l4, l5, l6, .int x] (.int x :: S) st P := zAW_st (zd_of zb_X6_size dX6_size_128) rfl rfl
theorem E_X6_size_130 : AW X d 83 130 [l0, l1, l2, l3, .int x, l5, l6, l7] S st P = AW X d 83 132 [l0, l1, l2, l3, .int x, l5, l6, l7] (.int x :: S) st P := zAW_st (zd_of zb_X6_size dX6_size_130) rfl rfl
theorem E_X6_size_132 : AW X d 83 132 [l0, l1, l2, l3, l4, l5, l6, l7] (.int y :: .int x :: S) st P = if x ≤ y then AW X d 83 140 [l0, l1, l2, l3, l4, l5, l6, l7] S st P else AW X d 83 135 [l0, l1, l2, l3, l4, l5, l6, l7] S st P := zq_icmp (c := x ≤ y) (zd_of zb_X6_size dX6_size_132) (by decide) rfl
theorem E_X6_size_135 : AW X d 83 135 [l0, l1, l2, l3, l4, l5, l6, .int x] S st P = AW X d 83 137 [l0, l1, l2, l3, l4, l5, l6, .int x] (.int x :: S) st P := zAW_st (zd_of zb_X6_size dX6_size_135) rfl rfl
theorem E_X6_size_137 : AW X d 83 137 [l0, l1, l2, l3, l4, l5, l6, l7] S st P = AW X d 83 142 [l0, l1, l2, l3, l4, l5, l6, l7] S st P := zq_goto (zd_of zb_X6_size dX6_size_137) (by decide)
theorem E_X6_size_140 : AW X d 83 140 [l0, l1, l2, l3, .int x, l5, l6, l7] S st P = AW X d 83 142 [l0, l1, l2, l3, .int x, l5, l6, l7] (.int x :: S) st P := zAW_st (zd_of zb_X6_size dX6_size_140) rfl rfl
theorem E_X6_size_142 : AW X d 83 142 [l0, l1, l2, l3, l4, l5, l6, l7] (.int x :: S) st P = AW X d 83 144 [l0, l1, l2, l3, .int x, l5, l6, l7] S st P := zAW_st (zd_of zb_X6_size dX6_size_142) rfl rfl
theorem E_X6_size_144 : AW X d 83 144 [l0, l1, l2, l3, l4, .int x, l6, l7] S st P = AW X d 83 147 [l0, l1, l2, l3, l4, .int (x + 1), l6, l7] S st P := zq_iinc (zd_of zb_X6_size dX6_size_144) rfl (by decide)
theorem E_X6_size_147 : AW X d 83 147 [l0, l1, l2, l3, l4, l5, l6, l7] S st P = AW X d 83 12 [l0, l1, l2, l3, l4, l5, l6, l7] S st P := zq_goto (zd_of zb_X6_size dX6_size_147) (by decide)
theorem E_X6_size_150 : AW X d 83 150 [l0, l1, l2, l3, .int x, l5, l6, l7] S st P = AW X d 83 152 [l0, l1, l2, l3, .int x, l5, l6, l7] (.int x :: S) st P := zAW_st (zd_of zb_X6_size dX6_size_150) rfl rfl
theorem E_X6_size_152 : AW X d 83 152 [l0, l1, l2, l3, l4, l5, l6, l7] (.int x :: S) st P = if 0 ≤ x then AW X d 83 159 [l0, l1, l2, l3, l4, l5, l6, l7] S st P else AW X d 83 155 [l0, l1, l2, l3, l4, l5, l6, l7] S st P := zq_if (c := 0 ≤ x) (zd_of zb_X6_size dX6_size_152) (by decide) rfl
theorem E_X6_size_155 : AW X d 83 155 [l0, l1, l2, l3, l4, l5, l6, l7] S st P = AW X d 83 156 [l0, l1, l2, l3, l4, l5, l6, l7] (.int 0 :: S) st P := zq_iconst (zd_of zb_X6_size dX6_size_155) (by decide)
theorem E_X6_size_156 : AW X d 83 156 [l0, l1, l2, l3, l4, l5, l6, l7] S st P = AW X d 83 165 [l0, l1, l2, l3, l4, l5, l6, l7] S st P := zq_goto (zd_of zb_X6_size dX6_size_156) (by decide)
theorem E_X6_size_159 : AW X d 83 159 [l0, l1, l2, l3, .int x, l5, l6, l7] S st P = AW X d 83 161 [l0, l1, l2, l3, .int x, l5, l6, l7] (.int x :: S) st P := zAW_st (zd_of zb_X6_size dX6_size_159) rfl rfl
theorem E_X6_size_161 : AW X d 83 161 [l0, l1, l2, .int x, l4, l5, l6, l7] S st P = AW X d 83 162 [l0, l1, l2, .int x, l4, l5, l6, l7] (.int x :: S) st P := zAW_st (zd_of zb_X6_size dX6_size_161) rfl rfl
theorem E_X6_size_162 : AW X d 83 162 [l0, l1, l2, l3, l4, l5, l6, l7] (.int y :: .int x :: S) st P = AW X d 83 163 [l0, l1, l2, l3, l4, l5, l6, l7] (.int (x - y) :: S) st P := zAW_st (zd_of zb_X6_size dX6_size_162) rfl rfl
theorem E_X6_size_163 : AW X d 83 163 [l0, l1, l2, l3, l4, l5, l6, l7] S st P = AW X d 83 164 [l0, l1, l2, l3, l4, l5, l6, l7] (.int 1 :: S) st P := zq_iconst (zd_of zb_X6_size dX6_size_163) (by decide)
theorem E_X6_size_164 : AW X d 83 164 [l0, l1, l2, l3, l4, l5, l6, l7] (.int y :: .int x :: S) st P = AW X d 83 165 [l0, l1, l2, l3, l4, l5, l6, l7] (.int (x + y) :: S) st P := zAW_st (zd_of zb_X6_size dX6_size_164) rfl rfl
theorem E_X6_size_165 : AW X d 83 165 [l0, l1, l2, l3, l4, l5, l6, l7] ([.int x]) st P = P (.inl (some (.int x))) st := zAW_ret (w := (.inl (some (.int x)), st)) (zd_of zb_X6_size dX6_size_165) rfl rfl (by simp only [zfin, zr_X6_size])
theorem A_X6_size : AC X (d + 1) 83 [.ref a, .int x, .int y] st P = AW X d 83 0 [.ref a, .int x, .int y, .retAddr 0, .retAddr 0, .retAddr 0, .retAddr 0, .retAddr 0] [] st P := AC_eq ⟨⟨(show 3 ≤ zml 83 by decide +kernel), by decide +kernel⟩, by simp [zc1_int, zc1_ref, zc1_float]⟩
theorem E_X6_ofDrawing_0 : AW X d 84 0 [.ref a, l1, l2] S st P = AW X d 84 1 [.ref a, l1, l2] (.ref a :: S) st P := zAW_st (zd_of zb_X6_ofDrawing dX6_ofDrawing_0) rfl rfl
theorem E_X6_ofDrawing_0n : AW X d 84 0 [.null, l1, l2] S st P = AW X d 84 1 [.null, l1, l2] (.null :: S) st P := zAW_st (zd_of zb_X6_ofDrawing dX6_ofDrawing_0) rfl rfl
theorem E_X6_ofDrawing_1 : AW X d 84 1 [.ref a, l1, l2] S st P = AW X d 84 2 [.ref a, l1, l2] (.ref a :: S) st P := zAW_st (zd_of zb_X6_ofDrawing dX6_ofDrawing_1) rfl rfl
theorem E_X6_ofDrawing_1n : AW X d 84 1 [.null, l1, l2] S st P = AW X d 84 2 [.null, l1, l2] (.null :: S) st P := zAW_st (zd_of zb_X6_ofDrawing dX6_ofDrawing_1) rfl rfl
theorem E_X6_ofDrawing_2 : AW X d 84 2 [l0, .int x, l2] S st P = AW X d 84 3 [l0, .int x, l2] (.int x :: S) st P := zAW_st (zd_of zb_X6_ofDrawing dX6_ofDrawing_2) rfl rfl
theorem E_X6_ofDrawing_3 : AW X d 84 3 [l0, l1, l2] (.int x :: .ref a :: S) st P = zif (zis st a 7 = true) (zif (S.length ≤ 4) (AC X d 76 [.ref a, .int x] st (zaft X d 84 3 [l0, l1, l2] S P))) := zq_callV (B := [.int x]) (zd_of zb_X6_ofDrawing dX6_ofDrawing_3) zo_X6_ofDrawing (by decide) zl_6_82 zn_76 rfl rfl rfl
theorem E_X6_ofDrawing_6 : AW X d 84 6 [l0, l1, l2] (.int x :: S) st P = if ¬ x = 0 then AW X d 84 13 [l0, l1, l2] S st P else AW X d 84 9 [l0, l1, l2] S st P := zq_if (c := ¬ x = 0) (zd_of zb_X6_ofDrawing dX6_ofDrawing_6) (by decide) rfl
theorem E_X6_ofDrawing_9 : AW X d 84 9 [l0, l1, l2] S st P = AW X d 84 10 [l0, l1, l2] (.int 1 :: S) st P := zq_iconst (zd_of zb_X6_ofDrawing dX6_ofDrawing_9) (by decide)
theorem E_X6_ofDrawing_10 : AW X d 84 10 [l0, l1, l2] S st P = AW X d 84 28 [l0, l1, l2] S st P := zq_goto (zd_of zb_X6_ofDrawing dX6_ofDrawing_10) (by decide)
theorem E_X6_ofDrawing_13 : AW X d 84 13 [.ref a, l1, l2] S st P = AW X d 84 14 [.ref a, l1, l2] (.ref a :: S) st P := zAW_st (zd_of zb_X6_ofDrawing dX6_ofDrawing_13) rfl rfl
theorem E_X6_ofDrawing_13n : AW X d 84 13 [.null, l1, l2] S st P = AW X d 84 14 [.null, l1, l2] (.null :: S) st P := zAW_st (zd_of zb_X6_ofDrawing dX6_ofDrawing_13) rfl rfl
theorem E_X6_ofDrawing_14 : AW X d 84 14 [l0, l1, .int x] S st P = AW X d 84 15 [l0, l1, .int x] (.int x :: S) st P := zAW_st (zd_of zb_X6_ofDrawing dX6_ofDrawing_14) rfl rfl
theorem E_X6_ofDrawing_15 : AW X d 84 15 [l0, l1, l2] S st P = AW X d 84 16 [l0, l1, l2] (.int 0 :: S) st P := zq_iconst (zd_of zb_X6_ofDrawing dX6_ofDrawing_15) (by decide)
theorem E_X6_ofDrawing_16 : AW X d 84 16 [l0, l1, l2] S st P = AW X d 84 17 [l0, l1, l2] (.int 4 :: S) st P := zq_iconst (zd_of zb_X6_ofDrawing dX6_ofDrawing_16) (by decide)
theorem E_X6_ofDrawing_17 : AW X d 84 17 [l0, l1, l2] (.int x3 :: .int y :: .int x :: .ref a :: S) st P = zif (zis st a 7 = true) (zif (S.length ≤ 4) (AC X d 75 [.ref a, .int x, .int y, .int x3] st (zaft X d 84 17 [l0, l1, l2] S P))) := zq_callV (B := [.int x, .int y, .int x3]) (zd_of zb_X6_ofDrawing dX6_ofDrawing_17) zo_X6_ofDrawing (by decide) zl_6_74 zn_75 rfl rfl rfl
theorem E_X6_ofDrawing_20 : AW X d 84 20 [l0, l1, l2] (.int x :: S) st P = if x = 0 then AW X d 84 27 [l0, l1, l2] S st P else AW X d 84 23 [l0, l1, l2] S st P := zq_if (c := x = 0) (zd_of zb_X6_ofDrawing dX6_ofDrawing_20) (by decide) rfl
theorem E_X6_ofDrawing_23 : AW X d 84 23 [l0, l1, l2] S st P = AW X d 84 24 [l0, l1, l2] (.int 0 :: S) st P := zq_iconst (zd_of zb_X6_ofDrawing dX6_ofDrawing_23) (by decide)
theorem E_X6_ofDrawing_24 : AW X d 84 24 [l0, l1, l2] S st P = AW X d 84 28 [l0, l1, l2] S st P := zq_goto (zd_of zb_X6_ofDrawing dX6_ofDrawing_24) (by decide)
theorem E_X6_ofDrawing_27 : AW X d 84 27 [l0, l1, l2] S st P = AW X d 84 28 [l0, l1, l2] (.int 2 :: S) st P := zq_iconst (zd_of zb_X6_ofDrawing dX6_ofDrawing_27) (by decide)
theorem E_X6_ofDrawing_28 : AW X d 84 28 [l0, l1, l2] (.int x :: .ref a :: S) st P = zif (zis st a 7 = true) (zif (S.length ≤ 4) (AC X d 74 [.ref a, .int x] st (zaft X d 84 28 [l0, l1, l2] S P))) := zq_callV (B := [.int x]) (zd_of zb_X6_ofDrawing dX6_ofDrawing_28) zo_X6_ofDrawing (by decide) zl_6_78 zn_74 rfl rfl rfl
theorem E_X6_ofDrawing_31 : AW X d 84 31 [l0, l1, l2] (.int x :: S) st P = if x = 0 then AW X d 84 36 [l0, l1, l2] S st P else AW X d 84 34 [l0, l1, l2] S st P := zq_if (c := x = 0) (zd_of zb_X6_ofDrawing dX6_ofDrawing_31) (by decide) rfl
theorem E_X6_ofDrawing_34 : AW X d 84 34 [l0, l1, l2] S st P = AW X d 84 35 [l0, l1, l2] (.int (-1) :: S) st P := zq_iconst (zd_of zb_X6_ofDrawing dX6_ofDrawing_34) (by decide)
theorem E_X6_ofDrawing_35 : AW X d 84 35 [l0, l1, l2] ([.int x]) st P = P (.inl (some (.int x))) st := zAW_ret (w := (.inl (some (.int x)), st)) (zd_of zb_X6_ofDrawing dX6_ofDrawing_35) rfl rfl (by simp only [zfin, zr_X6_ofDrawing])
theorem E_X6_ofDrawing_36 : AW X d 84 36 [l0, l1, .int x] S st P = AW X d 84 37 [l0, l1, .int x] (.int x :: S) st P := zAW_st (zd_of zb_X6_ofDrawing dX6_ofDrawing_36) rfl rfl
theorem E_X6_ofDrawing_37_0 : AW X d 84 37 [l0, l1, l2] (.int 0 :: S) st P = AW X d 84 68 [l0, l1, l2] S st P := zq_tabIn (zd_of zb_X6_ofDrawing dX6_ofDrawing_37) (by decide) rfl (by decide)
theorem E_X6_ofDrawing_37_1 : AW X d 84 37 [l0, l1, l2] (.int 1 :: S) st P = AW X d 84 75 [l0, l1, l2] S st P := zq_tabIn (zd_of zb_X6_ofDrawing dX6_ofDrawing_37) (by decide) rfl (by decide)
theorem E_X6_ofDrawing_37_2 : AW X d 84 37 [l0, l1, l2] (.int 2 :: S) st P = AW X d 84 82 [l0, l1, l2] S st P := zq_tabIn (zd_of zb_X6_ofDrawing dX6_ofDrawing_37) (by decide) rfl (by decide)
theorem E_X6_ofDrawing_37_3 : AW X d 84 37 [l0, l1, l2] (.int 3 :: S) st P = AW X d 84 89 [l0, l1, l2] S st P := zq_tabIn (zd_of zb_X6_ofDrawing dX6_ofDrawing_37) (by decide) rfl (by decide)
theorem E_X6_ofDrawing_37_o (h1 : x.toInt < 0 ∨ 3 < x.toInt) : AW X d 84 37 [l0, l1, l2] (.int x :: S) st P = AW X d 84 96 [l0, l1, l2] S st P := zq_tabOut (zd_of zb_X6_ofDrawing dX6_ofDrawing_37) (by decide) h1
theorem E_X6_ofDrawing_68 : AW X d 84 68 [.ref a, l1, l2] S st P = AW X d 84 69 [.ref a, l1, l2] (.ref a :: S) st P := zAW_st (zd_of zb_X6_ofDrawing dX6_ofDrawing_68) rfl rfl
theorem E_X6_ofDrawing_68n : AW X d 84 68 [.null, l1, l2] S st P = AW X d 84 69 [.null, l1, l2] (.null :: S) st P := zAW_st (zd_of zb_X6_ofDrawing dX6_ofDrawing_68) rfl rfl
theorem E_X6_ofDrawing_69 : AW X d 84 69 [l0, l1, l2] (.ref a :: S) st P = zwith (zget st a 7 0) fun v => AW X d 84 72 [l0, l1, l2] (v :: S) st P := zq_getfield (zd_of zb_X6_ofDrawing dX6_ofDrawing_69) zo_X6_ofDrawing zf_6_7
theorem E_X6_ofDrawing_72 : AW X d 84 72 [l0, .int x, l2] S st P = AW X d 84 73 [l0, .int x, l2] (.int x :: S) st P := zAW_st (zd_of zb_X6_ofDrawing dX6_ofDrawing_72) rfl rfl
theorem E_X6_ofDrawing_73 : AW X d 84 73 [l0, l1, l2] (.int x :: .ref a :: S) st P = zwith (zai X st a) fun q => zwith (zix x q.1) fun j => AW X d 84 74 [l0, l1, l2] (.int (q.2 j) :: S) st P := zq_iaload (zd_of zb_X6_ofDrawing dX6_ofDrawing_73)
theorem E_X6_ofDrawing_74 : AW X d 84 74 [l0, l1, l2] ([.int x]) st P = P (.inl (some (.int x))) st := zAW_ret (w := (.inl (some (.int x)), st)) (zd_of zb_X6_ofDrawing dX6_ofDrawing_74) rfl rfl (by simp only [zfin, zr_X6_ofDrawing])
theorem E_X6_ofDrawing_75 : AW X d 84 75 [.ref a, l1, l2] S st P = AW X d 84 76 [.ref a, l1, l2] (.ref a :: S) st P := zAW_st (zd_of zb_X6_ofDrawing dX6_ofDrawing_75) rfl rfl
theorem E_X6_ofDrawing_75n : AW X d 84 75 [.null, l1, l2] S st P = AW X d 84 76 [.null, l1, l2] (.null :: S) st P := zAW_st (zd_of zb_X6_ofDrawing dX6_ofDrawing_75) rfl rfl
theorem E_X6_ofDrawing_76 : AW X d 84 76 [l0, l1, l2] (.ref a :: S) st P = zwith (zget st a 7 1) fun v => AW X d 84 79 [l0, l1, l2] (v :: S) st P := zq_getfield (zd_of zb_X6_ofDrawing dX6_ofDrawing_76) zo_X6_ofDrawing zf_6_13
theorem E_X6_ofDrawing_79 : AW X d 84 79 [l0, .int x, l2] S st P = AW X d 84 80 [l0, .int x, l2] (.int x :: S) st P := zAW_st (zd_of zb_X6_ofDrawing dX6_ofDrawing_79) rfl rfl
theorem E_X6_ofDrawing_80 : AW X d 84 80 [l0, l1, l2] (.int x :: .ref a :: S) st P = zwith (zai X st a) fun q => zwith (zix x q.1) fun j => AW X d 84 81 [l0, l1, l2] (.int (q.2 j) :: S) st P := zq_iaload (zd_of zb_X6_ofDrawing dX6_ofDrawing_80)
theorem E_X6_ofDrawing_81 : AW X d 84 81 [l0, l1, l2] ([.int x]) st P = P (.inl (some (.int x))) st := zAW_ret (w := (.inl (some (.int x)), st)) (zd_of zb_X6_ofDrawing dX6_ofDrawing_81) rfl rfl (by simp only [zfin, zr_X6_ofDrawing])
theorem E_X6_ofDrawing_82 : AW X d 84 82 [.ref a, l1, l2] S st P = AW X d 84 83 [.ref a, l1, l2] (.ref a :: S) st P := zAW_st (zd_of zb_X6_ofDrawing dX6_ofDrawing_82) rfl rfl
theorem E_X6_ofDrawing_82n : AW X d 84 82 [.null, l1, l2] S st P = AW X d 84 83 [.null, l1, l2] (.null :: S) st P := zAW_st (zd_of zb_X6_ofDrawing dX6_ofDrawing_82) rfl rfl
theorem E_X6_ofDrawing_83 : AW X d 84 83 [l0, .int x, l2] S st P = AW X d 84 84 [l0, .int x, l2] (.int x :: S) st P := zAW_st (zd_of zb_X6_ofDrawing dX6_ofDrawing_83) rfl rfl
theorem E_X6_ofDrawing_84 : AW X d 84 84 [l0, l1, l2] S st P = AW X d 84 85 [l0, l1, l2] (.int 1 :: S) st P := zq_iconst (zd_of zb_X6_ofDrawing dX6_ofDrawing_84) (by decide)
theorem E_X6_ofDrawing_85 : AW X d 84 85 [l0, l1, l2] (.int y :: .int x :: .ref a :: S) st P = zif (zis st a 7 = true) (zif (S.length ≤ 4) (AC X d 83 [.ref a, .int x, .int y] st (zaft X d 84 85 [l0, l1, l2] S P))) := zq_callV (B := [.int x, .int y]) (zd_of zb_X6_ofDrawing dX6_ofDrawing_85) zo_X6_ofDrawing (by decide) zl_6_100 zn_83 rfl rfl rfl
theorem E_X6_ofDrawing_88 : AW X d 84 88 [l0, l1, l2] ([.int x]) st P = P (.inl (some (.int x))) st := zAW_ret (w := (.inl (some (.int x)), st)) (zd_of zb_X6_ofDrawing dX6_ofDrawing_88) rfl rfl (by simp only [zfin, zr_X6_ofDrawing])
theorem E_X6_ofDrawing_89 : AW X d 84 89 [.ref a, l1, l2] S st P = AW X d 84 90 [.ref a, l1, l2] (.ref a :: S) st P := zAW_st (zd_of zb_X6_ofDrawing dX6_ofDrawing_89) rfl rfl
theorem E_X6_ofDrawing_89n : AW X d 84 89 [.null, l1, l2] S st P = AW X d 84 90 [.null, l1, l2] (.null :: S) st P := zAW_st (zd_of zb_X6_ofDrawing dX6_ofDrawing_89) rfl rfl
theorem E_X6_ofDrawing_90 : AW X d 84 90 [l0, .int x, l2] S st P = AW X d 84 91 [l0, .int x, l2] (.int x :: S) st P := zAW_st (zd_of zb_X6_ofDrawing dX6_ofDrawing_90) rfl rfl
theorem E_X6_ofDrawing_91 : AW X d 84 91 [l0, l1, l2] S st P = AW X d 84 92 [l0, l1, l2] (.int 0 :: S) st P := zq_iconst (zd_of zb_X6_ofDrawing dX6_ofDrawing_91) (by decide)
theorem E_X6_ofDrawing_92 : AW X d 84 92 [l0, l1, l2] (.int y :: .int x :: .ref a :: S) st P = zif (zis st a 7 = true) (zif (S.length ≤ 4) (AC X d 83 [.ref a, .int x, .int y] st (zaft X d 84 92 [l0, l1, l2] S P))) := zq_callV (B := [.int x, .int y]) (zd_of zb_X6_ofDrawing dX6_ofDrawing_92) zo_X6_ofDrawing (by decide) zl_6_100 zn_83 rfl rfl rfl
theorem E_X6_ofDrawing_95 : AW X d 84 95 [l0, l1, l2] ([.int x]) st P = P (.inl (some (.int x))) st := zAW_ret (w := (.inl (some (.int x)), st)) (zd_of zb_X6_ofDrawing dX6_ofDrawing_95) rfl rfl (by simp only [zfin, zr_X6_ofDrawing])
theorem E_X6_ofDrawing_96 : AW X d 84 96 [.ref a, l1, l2] S st P = AW X d 84 97 [.ref a, l1, l2] (.ref a :: S) st P := zAW_st (zd_of zb_X6_ofDrawing dX6_ofDrawing_96) rfl rfl
theorem E_X6_ofDrawing_96n : AW X d 84 96 [.null, l1, l2] S st P = AW X d 84 97 [.null, l1, l2] (.null :: S) st P := zAW_st (zd_of zb_X6_ofDrawing dX6_ofDrawing_96) rfl rfl
theorem E_X6_ofDrawing_97 : AW X d 84 97 [l0, l1, l2] (.ref a :: S) st P = zwith (zget st a 7 2) fun v => AW X d 84 100 [l0, l1, l2] (v :: S) st P := zq_getfield (zd_of zb_X6_ofDrawing dX6_ofDrawing_97) zo_X6_ofDrawing zf_6_16
theorem E_X6_ofDrawing_100 : AW X d 84 100 [l0, .int x, l2] S st P = AW X d 84 101 [l0, .int x, l2] (.int x :: S) st P := zAW_st (zd_of zb_X6_ofDrawing dX6_ofDrawing_100) rfl rfl
theorem E_X6_ofDrawing_101 : AW X d 84 101 [l0, l1, l2] (.int x :: .ref a :: S) st P = zwith (zai X st a) fun q => zwith (zix x q.1) fun j => AW X d 84 102 [l0, l1, l2] (.int (q.2 j) :: S) st P := zq_iaload (zd_of zb_X6_ofDrawing dX6_ofDrawing_101)
theorem E_X6_ofDrawing_102 : AW X d 84 102 [l0, l1, l2] ([.int x]) st P = P (.inl (some (.int x))) st := zAW_ret (w := (.inl (some (.int x)), st)) (zd_of zb_X6_ofDrawing dX6_ofDrawing_102) rfl rfl (by simp only [zfin, zr_X6_ofDrawing])
theorem A_X6_ofDrawing : AC X (d + 1) 84 [.ref a, .int x, .int y] st P = AW X d 84 0 [.ref a, .int x, .int y] [] st P := AC_eq ⟨⟨(show 3 ≤ zml 84 by decide +kernel), by decide +kernel⟩, by simp [zc1_int, zc1_ref, zc1_float]⟩
theorem E_X6_root_0 : AW X d 85 0 [l0, .int x, l2, l3, l4] S st P = AW X d 85 1 [l0, .int x, l2, l3, l4] (.int x :: S) st P := zAW_st (zd_of zb_X6_root dX6_root_0) rfl rfl
theorem E_X6_root_1 : AW X d 85 1 [l0, l1, l2, l3, l4] (.int x :: S) st P = AW X d 85 2 [l0, l1, l2, l3, l4] (.double (FP.i2d x) :: S) st P := zAW_st (zd_of zb_X6_root dX6_root_1) rfl rfl
theorem E_X6_root_2 : AW X d 85 2 [l0, l1, l2, l3, l4] (.double w :: S) st P = AW X d 85 3 [l0, l1, .double w, .retAddr 1, l4] S st P := zAW_st (zd_of zb_X6_root dX6_root_2) rfl rfl
theorem E_X6_root_3 : AW X d 85 3 [l0, l1, l2, l3, l4] S st P = AW X d 85 4 [l0, l1, l2, l3, l4] (.int 0 :: S) st P := zq_iconst (zd_of zb_X6_root dX6_root_3) (by decide)
theorem E_X6_root_4 : AW X d 85 4 [l0, l1, l2, l3, l4] (.int x :: S) st P = AW X d 85 6 [l0, l1, l2, l3, .int x] S st P := zAW_st (zd_of zb_X6_root dX6_root_4) rfl rfl
theorem E_X6_root_6 : AW X d 85 6 [l0, l1, l2, l3, .int x] S st P = AW X d 85 8 [l0, l1, l2, l3, .int x] (.int x :: S) st P := zAW_st (zd_of zb_X6_root dX6_root_6) rfl rfl
theorem E_X6_root_8 : AW X d 85 8 [l0, l1, l2, l3, l4] S st P = AW X d 85 10 [l0, l1, l2, l3, l4] (.int 24 :: S) st P := zq_bipush (zd_of zb_X6_root dX6_root_8) (by decide)
theorem E_X6_root_10 : AW X d 85 10 [l0, l1, l2, l3, l4] (.int y :: .int x :: S) st P = if y ≤ x then AW X d 85 30 [l0, l1, l2, l3, l4] S st P else AW X d 85 13 [l0, l1, l2, l3, l4] S st P := zq_icmp (c := y ≤ x) (zd_of zb_X6_root dX6_root_10) (by decide) rfl
theorem E_X6_root_13 : AW X d 85 13 [l0, l1, .double w, .retAddr 1, l4] S st P = AW X d 85 14 [l0, l1, .double w, .retAddr 1, l4] (.double w :: S) st P := zAW_st (zd_of zb_X6_root dX6_root_13) rfl rfl
theorem E_X6_root_14 : AW X d 85 14 [l0, .int x, l2, l3, l4] S st P = AW X d 85 15 [l0, .int x, l2, l3, l4] (.int x :: S) st P := zAW_st (zd_of zb_X6_root dX6_root_14) rfl rfl
theorem E_X6_root_15 : AW X d 85 15 [l0, l1, l2, l3, l4] (.int x :: S) st P = AW X d 85 16 [l0, l1, l2, l3, l4] (.double (FP.i2d x) :: S) st P := zAW_st (zd_of zb_X6_root dX6_root_15) rfl rfl
theorem E_X6_root_16 : AW X d 85 16 [l0, l1, .double w, .retAddr 1, l4] S st P = AW X d 85 17 [l0, l1, .double w, .retAddr 1, l4] (.double w :: S) st P := zAW_st (zd_of zb_X6_root dX6_root_16) rfl rfl
theorem E_X6_root_17 : AW X d 85 17 [l0, l1, l2, l3, l4] (.double w2 :: .double w :: S) st P = zif (zn64 (FP.ddiv w w2) = true) (AW X d 85 18 [l0, l1, l2, l3, l4] (.double (FP.ddiv w w2) :: S) st P) := zq_ddiv (zd_of zb_X6_root dX6_root_17)
theorem E_X6_root_18 : AW X d 85 18 [l0, l1, l2, l3, l4] (.double w2 :: .double w :: S) st P = zif (zn64 (FP.dadd w w2) = true) (AW X d 85 19 [l0, l1, l2, l3, l4] (.double (FP.dadd w w2) :: S) st P) := zq_dadd (zd_of zb_X6_root dX6_root_18)
theorem E_X6_root_19 : AW X d 85 19 [l0, l1, l2, l3, l4] S st P = AW X d 85 22 [l0, l1, l2, l3, l4] (.double 4611686018427387904 :: S) st P := zq_ldc2 (zd_of zb_X6_root dX6_root_19) zo_X6_root (by decide +kernel) rfl
theorem E_X6_root_22 : AW X d 85 22 [l0, l1, l2, l3, l4] (.double w2 :: .double w :: S) st P = zif (zn64 (FP.ddiv w w2) = true) (AW X d 85 23 [l0, l1, l2, l3, l4] (.double (FP.ddiv w w2) :: S) st P) := zq_ddiv (zd_of zb_X6_root dX6_root_22)
theorem E_X6_root_23 : AW X d 85 23 [l0, l1, l2, l3, l4] (.double w :: S) st P = AW X d 85 24 [l0, l1, .double w, .retAddr 1, l4] S st P := zAW_st (zd_of zb_X6_root dX6_root_23) rfl rfl
theorem E_X6_root_24 : AW X d 85 24 [l0, l1, l2, l3, .int x] S st P = AW X d 85 27 [l0, l1, l2, l3, .int (x + 1)] S st P := zq_iinc (zd_of zb_X6_root dX6_root_24) rfl (by decide)
theorem E_X6_root_27 : AW X d 85 27 [l0, l1, l2, l3, l4] S st P = AW X d 85 6 [l0, l1, l2, l3, l4] S st P := zq_goto (zd_of zb_X6_root dX6_root_27) (by decide)
theorem E_X6_root_30 : AW X d 85 30 [l0, l1, .double w, .retAddr 1, l4] S st P = AW X d 85 31 [l0, l1, .double w, .retAddr 1, l4] (.double w :: S) st P := zAW_st (zd_of zb_X6_root dX6_root_30) rfl rfl
theorem E_X6_root_31 : AW X d 85 31 [l0, l1, l2, l3, l4] ([.double w]) st P = P (.inl (some (.double w))) st := zAW_ret (w := (.inl (some (.double w)), st)) (zd_of zb_X6_root dX6_root_31) rfl rfl (by simp only [zfin, zr_X6_root])
theorem A_X6_root : AC X (d + 1) 85 [.ref a, .int x] st P = AW X d 85 0 [.ref a, .int x, .retAddr 0, .retAddr 0, .retAddr 0] [] st P := AC_eq ⟨⟨(show 2 ≤ zml 85 by decide +kernel), by decide +kernel⟩, by simp [zc1_int, zc1_ref, zc1_float]⟩
theorem E_X6_lengthOf_0 : AW X d 86 0 [l0, l1, l2, l3, l4, l5] S st P = AW X d 86 1 [l0, l1, l2, l3, l4, l5] (.float FP.fconst0 :: S) st P := zq_fconst (zd_of zb_X6_lengthOf dX6_lengthOf_0)
theorem E_X6_lengthOf_1 : AW X d 86 1 [l0, l1, l2, l3, l4, l5] (.float u :: S) st P = AW X d 86 2 [l0, l1, .float u, l3, l4, l5] S st P := zAW_st (zd_of zb_X6_lengthOf dX6_lengthOf_1) rfl rfl
theorem E_X6_lengthOf_2 : AW X d 86 2 [l0, l1, l2, l3, l4, l5] S st P = AW X d 86 4 [l0, l1, l2, l3, l4, l5] (.int 24 :: S) st P := zq_bipush (zd_of zb_X6_lengthOf dX6_lengthOf_2) (by decide)
theorem E_X6_lengthOf_4 : AW X d 86 4 [l0, .int x, l2, l3, l4, l5] S st P = AW X d 86 5 [l0, .int x, l2, l3, l4, l5] (.int x :: S) st P := zAW_st (zd_of zb_X6_lengthOf dX6_lengthOf_4) rfl rfl
theorem E_X6_lengthOf_5 : AW X d 86 5 [l0, l1, l2, l3, l4, l5] (.int y :: .int x :: S) st P = AW X d 86 6 [l0, l1, l2, l3, l4, l5] (.int (x * y) :: S) st P := zAW_st (zd_of zb_X6_lengthOf dX6_lengthOf_5) rfl rfl
theorem E_X6_lengthOf_6 : AW X d 86 6 [l0, l1, l2, l3, l4, l5] (.int x :: S) st P = AW X d 86 7 [l0, l1, l2, .int x, l4, l5] S st P := zAW_st (zd_of zb_X6_lengthOf dX6_lengthOf_6) rfl rfl
theorem E_X6_lengthOf_7 : AW X d 86 7 [l0, l1, l2, .int x, l4, l5] S st P = AW X d 86 8 [l0, l1, l2, .int x, l4, l5] (.int x :: S) st P := zAW_st (zd_of zb_X6_lengthOf dX6_lengthOf_7) rfl rfl
theorem E_X6_lengthOf_8 : AW X d 86 8 [l0, l1, l2, l3, l4, l5] S st P = AW X d 86 10 [l0, l1, l2, l3, l4, l5] (.int 24 :: S) st P := zq_bipush (zd_of zb_X6_lengthOf dX6_lengthOf_8) (by decide)
theorem E_X6_lengthOf_10 : AW X d 86 10 [l0, .int x, l2, l3, l4, l5] S st P = AW X d 86 11 [l0, .int x, l2, l3, l4, l5] (.int x :: S) st P := zAW_st (zd_of zb_X6_lengthOf dX6_lengthOf_10) rfl rfl
theorem E_X6_lengthOf_11 : AW X d 86 11 [l0, l1, l2, l3, l4, l5] (.int y :: .int x :: S) st P = AW X d 86 12 [l0, l1, l2, l3, l4, l5] (.int (x * y) :: S) st P := zAW_st (zd_of zb_X6_lengthOf dX6_lengthOf_11) rfl rfl
theorem E_X6_lengthOf_12 : AW X d 86 12 [.ref a, l1, l2, l3, l4, l5] S st P = AW X d 86 13 [.ref a, l1, l2, l3, l4, l5] (.ref a :: S) st P := zAW_st (zd_of zb_X6_lengthOf dX6_lengthOf_12) rfl rfl
theorem E_X6_lengthOf_12n : AW X d 86 12 [.null, l1, l2, l3, l4, l5] S st P = AW X d 86 13 [.null, l1, l2, l3, l4, l5] (.null :: S) st P := zAW_st (zd_of zb_X6_lengthOf dX6_lengthOf_12) rfl rfl
theorem E_X6_lengthOf_13 : AW X d 86 13 [l0, l1, l2, l3, l4, l5] (.ref a :: S) st P = zwith (zget st a 7 1) fun v => AW X d 86 16 [l0, l1, l2, l3, l4, l5] (v :: S) st P := zq_getfield (zd_of zb_X6_lengthOf dX6_lengthOf_13) zo_X6_lengthOf zf_6_13
theorem E_X6_lengthOf_16 : AW X d 86 16 [l0, .int x, l2, l3, l4, l5] S st P = AW X d 86 17 [l0, .int x, l2, l3, l4, l5] (.int x :: S) st P := zAW_st (zd_of zb_X6_lengthOf dX6_lengthOf_16) rfl rfl
theorem E_X6_lengthOf_17 : AW X d 86 17 [l0, l1, l2, l3, l4, l5] (.int x :: .ref a :: S) st P = zwith (zai X st a) fun q => zwith (zix x q.1) fun j => AW X d 86 18 [l0, l1, l2, l3, l4, l5] (.int (q.2 j) :: S) st P := zq_iaload (zd_of zb_X6_lengthOf dX6_lengthOf_17)
theorem E_X6_lengthOf_18 : AW X d 86 18 [l0, l1, l2, l3, l4, l5] (.int y :: .int x :: S) st P = AW X d 86 19 [l0, l1, l2, l3, l4, l5] (.int (x + y) :: S) st P := zAW_st (zd_of zb_X6_lengthOf dX6_lengthOf_18) rfl rfl
theorem E_X6_lengthOf_19 : AW X d 86 19 [l0, l1, l2, l3, l4, l5] (.int y :: .int x :: S) st P = if y ≤ x then AW X d 86 89 [l0, l1, l2, l3, l4, l5] S st P else AW X d 86 22 [l0, l1, l2, l3, l4, l5] S st P := zq_icmp (c := y ≤ x) (zd_of zb_X6_lengthOf dX6_lengthOf_19) (by decide) rfl
theorem E_X6_lengthOf_22 : AW X d 86 22 [.ref a, l1, l2, l3, l4, l5] S st P = AW X d 86 23 [.ref a, l1, l2, l3, l4, l5] (.ref a :: S) st P := zAW_st (zd_of zb_X6_lengthOf dX6_lengthOf_22) rfl rfl
theorem E_X6_lengthOf_22n : AW X d 86 22 [.null, l1, l2, l3, l4, l5] S st P = AW X d 86 23 [.null, l1, l2, l3, l4, l5] (.null :: S) st P := zAW_st (zd_of zb_X6_lengthOf dX6_lengthOf_22) rfl rfl
theorem E_X6_lengthOf_23 : AW X d 86 23 [l0, l1, l2, l3, l4, l5] (.ref a :: S) st P = zwith (zget st a 7 3) fun v => AW X d 86 26 [l0, l1, l2, l3, l4, l5] (v :: S) st P := zq_getfield (zd_of zb_X6_lengthOf dX6_lengthOf_23) zo_X6_lengthOf zf_6_19
theorem E_X6_lengthOf_26 : AW X d 86 26 [l0, l1, l2, .int x, l4, l5] S st P = AW X d 86 27 [l0, l1, l2, .int x, l4, l5] (.int x :: S) st P := zAW_st (zd_of zb_X6_lengthOf dX6_lengthOf_26) rfl rfl
theorem E_X6_lengthOf_27 : AW X d 86 27 [l0, l1, l2, l3, l4, l5] (.int x :: .ref a :: S) st P = zwith (zai X st a) fun q => zwith (zix x q.1) fun j => AW X d 86 28 [l0, l1, l2, l3, l4, l5] (.int (q.2 j) :: S) st P := zq_iaload (zd_of zb_X6_lengthOf dX6_lengthOf_27)
theorem E_X6_lengthOf_28 : AW X d 86 28 [l0, l1, l2, l3, l4, l5] S st P = AW X d 86 30 [l0, l1, l2, l3, l4, l5] (.int 32 :: S) st P := zq_bipush (zd_of zb_X6_lengthOf dX6_lengthOf_28) (by decide)
theorem E_X6_lengthOf_30 : AW X d 86 30 [l0, l1, l2, l3, l4, l5] (.int y :: .int x :: S) st P = zif (¬ y = 0) (AW X d 86 31 [l0, l1, l2, l3, l4, l5] (.int (x - x / y * y) :: S) st P) := zq_irem (zd_of zb_X6_lengthOf dX6_lengthOf_30)
theorem E_X6_lengthOf_31 : AW X d 86 31 [.ref a, l1, l2, l3, l4, l5] S st P = AW X d 86 32 [.ref a, l1, l2, l3, l4, l5] (.ref a :: S) st P := zAW_st (zd_of zb_X6_lengthOf dX6_lengthOf_31) rfl rfl
theorem E_X6_lengthOf_31n : AW X d 86 31 [.null, l1, l2, l3, l4, l5] S st P = AW X d 86 32 [.null, l1, l2, l3, l4, l5] (.null :: S) st P := zAW_st (zd_of zb_X6_lengthOf dX6_lengthOf_31) rfl rfl
theorem E_X6_lengthOf_32 : AW X d 86 32 [l0, l1, l2, l3, l4, l5] (.ref a :: S) st P = zwith (zget st a 7 4) fun v => AW X d 86 35 [l0, l1, l2, l3, l4, l5] (v :: S) st P := zq_getfield (zd_of zb_X6_lengthOf dX6_lengthOf_32) zo_X6_lengthOf zf_6_22
theorem E_X6_lengthOf_35 : AW X d 86 35 [l0, l1, l2, .int x, l4, l5] S st P = AW X d 86 36 [l0, l1, l2, .int x, l4, l5] (.int x :: S) st P := zAW_st (zd_of zb_X6_lengthOf dX6_lengthOf_35) rfl rfl
theorem E_X6_lengthOf_36 : AW X d 86 36 [l0, l1, l2, l3, l4, l5] (.int x :: .ref a :: S) st P = zwith (zai X st a) fun q => zwith (zix x q.1) fun j => AW X d 86 37 [l0, l1, l2, l3, l4, l5] (.int (q.2 j) :: S) st P := zq_iaload (zd_of zb_X6_lengthOf dX6_lengthOf_36)
theorem E_X6_lengthOf_37 : AW X d 86 37 [l0, l1, l2, l3, l4, l5] S st P = AW X d 86 39 [l0, l1, l2, l3, l4, l5] (.int 32 :: S) st P := zq_bipush (zd_of zb_X6_lengthOf dX6_lengthOf_37) (by decide)
theorem E_X6_lengthOf_39 : AW X d 86 39 [l0, l1, l2, l3, l4, l5] (.int y :: .int x :: S) st P = zif (¬ y = 0) (AW X d 86 40 [l0, l1, l2, l3, l4, l5] (.int (x - x / y * y) :: S) st P) := zq_irem (zd_of zb_X6_lengthOf dX6_lengthOf_39)
theorem E_X6_lengthOf_40 : AW X d 86 40 [l0, l1, l2, l3, l4, l5] (.int y :: .int x :: S) st P = AW X d 86 41 [l0, l1, l2, l3, l4, l5] (.int (x - y) :: S) st P := zAW_st (zd_of zb_X6_lengthOf dX6_lengthOf_40) rfl rfl
theorem E_X6_lengthOf_41 : AW X d 86 41 [l0, l1, l2, l3, l4, l5] (.int x :: S) st P = AW X d 86 43 [l0, l1, l2, l3, .int x, l5] S st P := zAW_st (zd_of zb_X6_lengthOf dX6_lengthOf_41) rfl rfl
theorem E_X6_lengthOf_43 : AW X d 86 43 [.ref a, l1, l2, l3, l4, l5] S st P = AW X d 86 44 [.ref a, l1, l2, l3, l4, l5] (.ref a :: S) st P := zAW_st (zd_of zb_X6_lengthOf dX6_lengthOf_43) rfl rfl
theorem E_X6_lengthOf_43n : AW X d 86 43 [.null, l1, l2, l3, l4, l5] S st P = AW X d 86 44 [.null, l1, l2, l3, l4, l5] (.null :: S) st P := zAW_st (zd_of zb_X6_lengthOf dX6_lengthOf_43) rfl rfl
theorem E_X6_lengthOf_44 : AW X d 86 44 [l0, l1, l2, l3, l4, l5] (.ref a :: S) st P = zwith (zget st a 7 3) fun v => AW X d 86 47 [l0, l1, l2, l3, l4, l5] (v :: S) st P := zq_getfield (zd_of zb_X6_lengthOf dX6_lengthOf_44) zo_X6_lengthOf zf_6_19
theorem E_X6_lengthOf_47 : AW X d 86 47 [l0, l1, l2, .int x, l4, l5] S st P = AW X d 86 48 [l0, l1, l2, .int x, l4, l5] (.int x :: S) st P := zAW_st (zd_of zb_X6_lengthOf dX6_lengthOf_47) rfl rfl
theorem E_X6_lengthOf_48 : AW X d 86 48 [l0, l1, l2, l3, l4, l5] (.int x :: .ref a :: S) st P = zwith (zai X st a) fun q => zwith (zix x q.1) fun j => AW X d 86 49 [l0, l1, l2, l3, l4, l5] (.int (q.2 j) :: S) st P := zq_iaload (zd_of zb_X6_lengthOf dX6_lengthOf_48)
theorem E_X6_lengthOf_49 : AW X d 86 49 [l0, l1, l2, l3, l4, l5] S st P = AW X d 86 51 [l0, l1, l2, l3, l4, l5] (.int 32 :: S) st P := zq_bipush (zd_of zb_X6_lengthOf dX6_lengthOf_49) (by decide)
theorem E_X6_lengthOf_51 : AW X d 86 51 [l0, l1, l2, l3, l4, l5] (.int y :: .int x :: S) st P = zif (¬ y = 0) (AW X d 86 52 [l0, l1, l2, l3, l4, l5] (.int (x / y) :: S) st P) := zq_idiv (zd_of zb_X6_lengthOf dX6_lengthOf_51)
theorem E_X6_lengthOf_52 : AW X d 86 52 [.ref a, l1, l2, l3, l4, l5] S st P = AW X d 86 53 [.ref a, l1, l2, l3, l4, l5] (.ref a :: S) st P := zAW_st (zd_of zb_X6_lengthOf dX6_lengthOf_52) rfl rfl
theorem E_X6_lengthOf_52n : AW X d 86 52 [.null, l1, l2, l3, l4, l5] S st P = AW X d 86 53 [.null, l1, l2, l3, l4, l5] (.null :: S) st P := zAW_st (zd_of zb_X6_lengthOf dX6_lengthOf_52) rfl rfl
theorem E_X6_lengthOf_53 : AW X d 86 53 [l0, l1, l2, l3, l4, l5] (.ref a :: S) st P = zwith (zget st a 7 4) fun v => AW X d 86 56 [l0, l1, l2, l3, l4, l5] (v :: S) st P := zq_getfield (zd_of zb_X6_lengthOf dX6_lengthOf_53) zo_X6_lengthOf zf_6_22
theorem E_X6_lengthOf_56 : AW X d 86 56 [l0, l1, l2, .int x, l4, l5] S st P = AW X d 86 57 [l0, l1, l2, .int x, l4, l5] (.int x :: S) st P := zAW_st (zd_of zb_X6_lengthOf dX6_lengthOf_56) rfl rfl
theorem E_X6_lengthOf_57 : AW X d 86 57 [l0, l1, l2, l3, l4, l5] (.int x :: .ref a :: S) st P = zwith (zai X st a) fun q => zwith (zix x q.1) fun j => AW X d 86 58 [l0, l1, l2, l3, l4, l5] (.int (q.2 j) :: S) st P := zq_iaload (zd_of zb_X6_lengthOf dX6_lengthOf_57)
theorem E_X6_lengthOf_58 : AW X d 86 58 [l0, l1, l2, l3, l4, l5] S st P = AW X d 86 60 [l0, l1, l2, l3, l4, l5] (.int 32 :: S) st P := zq_bipush (zd_of zb_X6_lengthOf dX6_lengthOf_58) (by decide)
theorem E_X6_lengthOf_60 : AW X d 86 60 [l0, l1, l2, l3, l4, l5] (.int y :: .int x :: S) st P = zif (¬ y = 0) (AW X d 86 61 [l0, l1, l2, l3, l4, l5] (.int (x / y) :: S) st P) := zq_idiv (zd_of zb_X6_lengthOf dX6_lengthOf_60)
theorem E_X6_lengthOf_61 : AW X d 86 61 [l0, l1, l2, l3, l4, l5] (.int y :: .int x :: S) st P = AW X d 86 62 [l0, l1, l2, l3, l4, l5] (.int (x - y) :: S) st P := zAW_st (zd_of zb_X6_lengthOf dX6_lengthOf_61) rfl rfl
theorem E_X6_lengthOf_62 : AW X d 86 62 [l0, l1, l2, l3, l4, l5] (.int x :: S) st P = AW X d 86 64 [l0, l1, l2, l3, l4, .int x] S st P := zAW_st (zd_of zb_X6_lengthOf dX6_lengthOf_62) rfl rfl
theorem E_X6_lengthOf_64 : AW X d 86 64 [l0, l1, .float u, l3, l4, l5] S st P = AW X d 86 65 [l0, l1, .float u, l3, l4, l5] (.float u :: S) st P := zAW_st (zd_of zb_X6_lengthOf dX6_lengthOf_64) rfl rfl
theorem E_X6_lengthOf_65 : AW X d 86 65 [.ref a, l1, l2, l3, l4, l5] S st P = AW X d 86 66 [.ref a, l1, l2, l3, l4, l5] (.ref a :: S) st P := zAW_st (zd_of zb_X6_lengthOf dX6_lengthOf_65) rfl rfl
theorem E_X6_lengthOf_65n : AW X d 86 65 [.null, l1, l2, l3, l4, l5] S st P = AW X d 86 66 [.null, l1, l2, l3, l4, l5] (.null :: S) st P := zAW_st (zd_of zb_X6_lengthOf dX6_lengthOf_65) rfl rfl
theorem E_X6_lengthOf_66 : AW X d 86 66 [l0, l1, l2, l3, .int x, l5] S st P = AW X d 86 68 [l0, l1, l2, l3, .int x, l5] (.int x :: S) st P := zAW_st (zd_of zb_X6_lengthOf dX6_lengthOf_66) rfl rfl
theorem E_X6_lengthOf_68 : AW X d 86 68 [l0, l1, l2, l3, .int x, l5] S st P = AW X d 86 70 [l0, l1, l2, l3, .int x, l5] (.int x :: S) st P := zAW_st (zd_of zb_X6_lengthOf dX6_lengthOf_68) rfl rfl
theorem E_X6_lengthOf_70 : AW X d 86 70 [l0, l1, l2, l3, l4, l5] (.int y :: .int x :: S) st P = AW X d 86 71 [l0, l1, l2, l3, l4, l5] (.int (x * y) :: S) st P := zAW_st (zd_of zb_X6_lengthOf dX6_lengthOf_70) rfl rfl
theorem E_X6_lengthOf_71 : AW X d 86 71 [l0, l1, l2, l3, l4, .int x] S st P = AW X d 86 73 [l0, l1, l2, l3, l4, .int x] (.int x :: S) st P := zAW_st (zd_of zb_X6_lengthOf dX6_lengthOf_71) rfl rfl
theorem E_X6_lengthOf_73 : AW X d 86 73 [l0, l1, l2, l3, l4, .int x] S st P = AW X d 86 75 [l0, l1, l2, l3, l4, .int x] (.int x :: S) st P := zAW_st (zd_of zb_X6_lengthOf dX6_lengthOf_73) rfl rfl
theorem E_X6_lengthOf_75 : AW X d 86 75 [l0, l1, l2, l3, l4, l5] (.int y :: .int x :: S) st P = AW X d 86 76 [l0, l1, l2, l3, l4, l5] (.int (x * y) :: S) st P := zAW_st (zd_of zb_X6_lengthOf dX6_lengthOf_75) rfl rfl
theorem E_X6_lengthOf_76 : AW X d 86 76 [l0, l1, l2, l3, l4, l5] (.int y :: .int x :: S) st P = AW X d 86 77 [l0, l1, l2, l3, l4, l5] (.int (x + y) :: S) st P := zAW_st (zd_of zb_X6_lengthOf dX6_lengthOf_76) rfl rfl
theorem E_X6_lengthOf_77 : AW X d 86 77 [l0, l1, l2, l3, l4, l5] (.int x :: .ref a :: S) st P = zif (zis st a 7 = true) (zif (S.length ≤ 4) (AC X d 85 [.ref a, .int x] st (zaft X d 86 77 [l0, l1, l2, l3, l4, l5] S P))) := zq_callV (B := [.int x]) (zd_of zb_X6_lengthOf dX6_lengthOf_77) zo_X6_lengthOf (by decide) zl_6_106 zn_85 rfl rfl rfl
theorem E_X6_lengthOf_80 : AW X d 86 80 [l0, l1, l2, l3, l4, l5] (.double w :: S) st P = zif (zn32 (FP.d2f w) = true) (AW X d 86 81 [l0, l1, l2, l3, l4, l5] (.float (FP.d2f w) :: S) st P) := zq_d2f (zd_of zb_X6_lengthOf dX6_lengthOf_80)
theorem E_X6_lengthOf_81 : AW X d 86 81 [l0, l1, l2, l3, l4, l5] (.float u2 :: .float u :: S) st P = zif (zn32 (FP.fadd u u2) = true) (AW X d 86 82 [l0, l1, l2, l3, l4, l5] (.float (FP.fadd u u2) :: S) st P) := zq_fadd (zd_of zb_X6_lengthOf dX6_lengthOf_81)
theorem E_X6_lengthOf_82 : AW X d 86 82 [l0, l1, l2, l3, l4, l5] (.float u :: S) st P = AW X d 86 83 [l0, l1, .float u, l3, l4, l5] S st P := zAW_st (zd_of zb_X6_lengthOf dX6_lengthOf_82) rfl rfl
theorem E_X6_lengthOf_83 : AW X d 86 83 [l0, l1, l2, .int x, l4, l5] S st P = AW X d 86 86 [l0, l1, l2, .int (x + 1), l4, l5] S st P := zq_iinc (zd_of zb_X6_lengthOf dX6_lengthOf_83) rfl (by decide)
theorem E_X6_lengthOf_86 : AW X d 86 86 [l0, l1, l2, l3, l4, l5] S st P = AW X d 86 7 [l0, l1, l2, l3, l4, l5] S st P := zq_goto (zd_of zb_X6_lengthOf dX6_lengthOf_86) (by decide)
theorem E_X6_lengthOf_89 : AW X d 86 89 [l0, l1, .float u, l3, l4, l5] S st P = AW X d 86 90 [l0, l1, .float u, l3, l4, l5] (.float u :: S) st P := zAW_st (zd_of zb_X6_lengthOf dX6_lengthOf_89) rfl rfl
theorem E_X6_lengthOf_90 : AW X d 86 90 [l0, l1, l2, l3, l4, l5] ([.float u]) st P = P (.inl (some (.float u))) st := zAW_ret (w := (.inl (some (.float u)), st)) (zd_of zb_X6_lengthOf dX6_lengthOf_90) rfl rfl (by simp only [zfin, zr_X6_lengthOf])
theorem A_X6_lengthOf : AC X (d + 1) 86 [.ref a, .int x] st P = AW X d 86 0 [.ref a, .int x, .retAddr 0, .retAddr 0, .retAddr 0, .retAddr 0] [] st P := AC_eq ⟨⟨(show 2 ≤ zml 86 by decide +kernel), by decide +kernel⟩, by simp [zc1_int, zc1_ref, zc1_float]⟩
theorem E_X6_length_0 : AW X d 87 0 [.ref a, l1] S st P = AW X d 87 1 [.ref a, l1] (.ref a :: S) st P := zAW_st (zd_of zb_X6_length dX6_length_0) rfl rfl
theorem E_X6_length_0n : AW X d 87 0 [.null, l1] S st P = AW X d 87 1 [.null, l1] (.null :: S) st P := zAW_st (zd_of zb_X6_length dX6_length_0) rfl rfl
theorem E_X6_length_1 : AW X d 87 1 [.ref a, l1] S st P = AW X d 87 2 [.ref a, l1] (.ref a :: S) st P := zAW_st (zd_of zb_X6_length dX6_length_1) rfl rfl
theorem E_X6_length_1n : AW X d 87 1 [.null, l1] S st P = AW X d 87 2 [.null, l1] (.null :: S) st P := zAW_st (zd_of zb_X6_length dX6_length_1) rfl rfl
theorem E_X6_length_2 : AW X d 87 2 [l0, .int x] S st P = AW X d 87 3 [l0, .int x] (.int x :: S) st P := zAW_st (zd_of zb_X6_length dX6_length_2) rfl rfl
theorem E_X6_length_3 : AW X d 87 3 [l0, l1] (.int x :: .ref a :: S) st P = zif (zis st a 7 = true) (zif (S.length ≤ 4) (AC X d 76 [.ref a, .int x] st (zaft X d 87 3 [l0, l1] S P))) := zq_callV (B := [.int x]) (zd_of zb_X6_length dX6_length_3) zo_X6_length (by decide) zl_6_82 zn_76 rfl rfl rfl
theorem E_X6_length_6 : AW X d 87 6 [l0, l1] (.int x :: S) st P = if x = 0 then AW X d 87 13 [l0, l1] S st P else AW X d 87 9 [l0, l1] S st P := zq_if (c := x = 0) (zd_of zb_X6_length dX6_length_6) (by decide) rfl
theorem E_X6_length_9 : AW X d 87 9 [l0, l1] S st P = AW X d 87 10 [l0, l1] (.int 0 :: S) st P := zq_iconst (zd_of zb_X6_length dX6_length_9) (by decide)
theorem E_X6_length_10 : AW X d 87 10 [l0, l1] S st P = AW X d 87 14 [l0, l1] S st P := zq_goto (zd_of zb_X6_length dX6_length_10) (by decide)
theorem E_X6_length_13 : AW X d 87 13 [l0, l1] S st P = AW X d 87 14 [l0, l1] (.int 1 :: S) st P := zq_iconst (zd_of zb_X6_length dX6_length_13) (by decide)
theorem E_X6_length_14 : AW X d 87 14 [l0, l1] (.int x :: .ref a :: S) st P = zif (zis st a 7 = true) (zif (S.length ≤ 4) (AC X d 74 [.ref a, .int x] st (zaft X d 87 14 [l0, l1] S P))) := zq_callV (B := [.int x]) (zd_of zb_X6_length dX6_length_14) zo_X6_length (by decide) zl_6_78 zn_74 rfl rfl rfl
theorem E_X6_length_17 : AW X d 87 17 [l0, l1] (.int x :: S) st P = if x = 0 then AW X d 87 25 [l0, l1] S st P else AW X d 87 20 [l0, l1] S st P := zq_if (c := x = 0) (zd_of zb_X6_length dX6_length_17) (by decide) rfl
theorem E_X6_length_20 : AW X d 87 20 [l0, l1] S st P = AW X d 87 22 [l0, l1] (.float 3212836864 :: S) st P := zq_ldc (zd_of zb_X6_length dX6_length_20) zo_X6_length (by decide) (by decide +kernel) rfl
theorem E_X6_length_22 : AW X d 87 22 [l0, l1] S st P = AW X d 87 30 [l0, l1] S st P := zq_goto (zd_of zb_X6_length dX6_length_22) (by decide)
theorem E_X6_length_25 : AW X d 87 25 [.ref a, l1] S st P = AW X d 87 26 [.ref a, l1] (.ref a :: S) st P := zAW_st (zd_of zb_X6_length dX6_length_25) rfl rfl
theorem E_X6_length_25n : AW X d 87 25 [.null, l1] S st P = AW X d 87 26 [.null, l1] (.null :: S) st P := zAW_st (zd_of zb_X6_length dX6_length_25) rfl rfl
theorem E_X6_length_26 : AW X d 87 26 [l0, .int x] S st P = AW X d 87 27 [l0, .int x] (.int x :: S) st P := zAW_st (zd_of zb_X6_length dX6_length_26) rfl rfl
theorem E_X6_length_27 : AW X d 87 27 [l0, l1] (.int x :: .ref a :: S) st P = zif (zis st a 7 = true) (zif (S.length ≤ 4) (AC X d 86 [.ref a, .int x] st (zaft X d 87 27 [l0, l1] S P))) := zq_callV (B := [.int x]) (zd_of zb_X6_length dX6_length_27) zo_X6_length (by decide) zl_6_111 zn_86 rfl rfl rfl
theorem E_X6_length_30 : AW X d 87 30 [l0, l1] ([.float u]) st P = P (.inl (some (.float u))) st := zAW_ret (w := (.inl (some (.float u)), st)) (zd_of zb_X6_length dX6_length_30) rfl rfl (by simp only [zfin, zr_X6_length])
theorem A_X6_length : AC X (d + 1) 87 [.ref a, .int x] st P = AW X d 87 0 [.ref a, .int x] [] st P := AC_eq ⟨⟨(show 2 ≤ zml 87 by decide +kernel), by decide +kernel⟩, by simp [zc1_int, zc1_ref, zc1_float]⟩
theorem E_X6_adds_0 : AW X d 88 0 [.ref a, l1, l2, l3, l4, l5, l6, l7] S st P = AW X d 88 1 [.ref a, l1, l2, l3, l4, l5, l6, l7] (.ref a :: S) st P := zAW_st (zd_of zb_X6_adds dX6_adds_0) rfl rfl
theorem E_X6_adds_0n : AW X d 88 0 [.null, l1, l2, l3, l4, l5, l6, l7] S st P = AW X d 88 1 [.null, l1, l2, l3, l4, l5, l6, l7] (.null :: S) st P := zAW_st (zd_of zb_X6_adds dX6_adds_0) rfl rfl
theorem E_X6_adds_1 : AW X d 88 1 [l0, l1, l2, l3, l4, l5, l6, l7] (.ref a :: S) st P = zwith (zget st a 7 7) fun v => AW X d 88 4 [l0, l1, l2, l3, l4, l5, l6, l7] (v :: S) st P := zq_getfield (zd_of zb_X6_adds dX6_adds_1) zo_X6_adds zf_6_28
theorem E_X6_adds_4 : AW X d 88 4 [.ref a, l1, l2, l3, l4, l5, l6, l7] S st P = AW X d 88 5 [.ref a, l1, l2, l3, l4, l5, l6, l7] (.ref a :: S) st P := zAW_st (zd_of zb_X6_adds dX6_adds_4) rfl rfl
theorem E_X6_adds_4n : AW X d 88 4 [.null, l1, l2, l3, l4, l5, l6, l7] S st P = AW X d 88 5 [.null, l1, l2, l3, l4, l5, l6, l7] (.null :: S) st P := zAW_st (zd_of zb_X6_adds dX6_adds_4) rfl rfl
theorem E_X6_adds_5 : AW X d 88 5 [l0, l1, l2, l3, l4, l5, l6, l7] (.ref a :: S) st P = zwith (zget st a 7 14) fun v => AW X d 88 8 [l0, l1, l2, l3, l4, l5, l6, l7] (v :: S) st P := zq_getfield (zd_of zb_X6_adds dX6_adds_5) zo_X6_adds zf_6_115
theorem E_X6_adds_8 : AW X d 88 8 [l0, .int x, l2, l3, l4, l5, l6, l7] S st P = AW X d 88 9 [l0, .int x, l2, l3, l4, l5, l6, l7] (.int x :: S) st P := zAW_st (zd_of zb_X6_adds dX6_adds_8) rfl rfl
theorem E_X6_adds_9 : AW X d 88 9 [l0, l1, l2, l3, l4, l5, l6, l7] (.int y :: .int x :: .ref a :: S) st P = zwith (zaI st a) fun q => zwith (zix x q.1) fun j => AW X d 88 10 [l0, l1, l2, l3, l4, l5, l6, l7] S (zsta st a (q.1, .inl (upd q.2 j y))) P := zq_iastore (zd_of zb_X6_adds dX6_adds_9)
theorem E_X6_adds_10 : AW X d 88 10 [.ref a, l1, l2, l3, l4, l5, l6, l7] S st P = AW X d 88 11 [.ref a, l1, l2, l3, l4, l5, l6, l7] (.ref a :: S) st P := zAW_st (zd_of zb_X6_adds dX6_adds_10) rfl rfl
theorem E_X6_adds_10n : AW X d 88 10 [.null, l1, l2, l3, l4, l5, l6, l7] S st P = AW X d 88 11 [.null, l1, l2, l3, l4, l5, l6, l7] (.null :: S) st P := zAW_st (zd_of zb_X6_adds dX6_adds_10) rfl rfl
theorem E_X6_adds_11 : AW X d 88 11 [l0, l1, l2, l3, l4, l5, l6, l7] (.ref a :: S) st P = zwith (zget st a 7 8) fun v => AW X d 88 14 [l0, l1, l2, l3, l4, l5, l6, l7] (v :: S) st P := zq_getfield (zd_of zb_X6_adds dX6_adds_11) zo_X6_adds zf_6_31
theorem E_X6_adds_14 : AW X d 88 14 [.ref a, l1, l2, l3, l4, l5, l6, l7] S st P = AW X d 88 15 [.ref a, l1, l2, l3, l4, l5, l6, l7] (.ref a :: S) st P := zAW_st (zd_of zb_X6_adds dX6_adds_14) rfl rfl
theorem E_X6_adds_14n : AW X d 88 14 [.null, l1, l2, l3, l4, l5, l6, l7] S st P = AW X d 88 15 [.null, l1, l2, l3, l4, l5, l6, l7] (.null :: S) st P := zAW_st (zd_of zb_X6_adds dX6_adds_14) rfl rfl
theorem E_X6_adds_15 : AW X d 88 15 [l0, l1, l2, l3, l4, l5, l6, l7] (.ref a :: S) st P = zwith (zget st a 7 14) fun v => AW X d 88 18 [l0, l1, l2, l3, l4, l5, l6, l7] (v :: S) st P := zq_getfield (zd_of zb_X6_adds dX6_adds_15) zo_X6_adds zf_6_115
theorem E_X6_adds_18 : AW X d 88 18 [l0, l1, .int x, l3, l4, l5, l6, l7] S st P = AW X d 88 19 [l0, l1, .int x, l3, l4, l5, l6, l7] (.int x :: S) st P := zAW_st (zd_of zb_X6_adds dX6_adds_18) rfl rfl
theorem E_X6_adds_19 : AW X d 88 19 [l0, l1, l2, l3, l4, l5, l6, l7] (.int y :: .int x :: .ref a :: S) st P = zwith (zaI st a) fun q => zwith (zix x q.1) fun j => AW X d 88 20 [l0, l1, l2, l3, l4, l5, l6, l7] S (zsta st a (q.1, .inl (upd q.2 j y))) P := zq_iastore (zd_of zb_X6_adds dX6_adds_19)
theorem E_X6_adds_20 : AW X d 88 20 [.ref a, l1, l2, l3, l4, l5, l6, l7] S st P = AW X d 88 21 [.ref a, l1, l2, l3, l4, l5, l6, l7] (.ref a :: S) st P := zAW_st (zd_of zb_X6_adds dX6_adds_20) rfl rfl
theorem E_X6_adds_20n : AW X d 88 20 [.null, l1, l2, l3, l4, l5, l6, l7] S st P = AW X d 88 21 [.null, l1, l2, l3, l4, l5, l6, l7] (.null :: S) st P := zAW_st (zd_of zb_X6_adds dX6_adds_20) rfl rfl
theorem E_X6_adds_21 : AW X d 88 21 [l0, l1, l2, l3, l4, l5, l6, l7] (.ref a :: S) st P = zwith (zget st a 7 9) fun v => AW X d 88 24 [l0, l1, l2, l3, l4, l5, l6, l7] (v :: S) st P := zq_getfield (zd_of zb_X6_adds dX6_adds_21) zo_X6_adds zf_6_34
theorem E_X6_adds_24 : AW X d 88 24 [.ref a, l1, l2, l3, l4, l5, l6, l7] S st P = AW X d 88 25 [.ref a, l1, l2, l3, l4, l5, l6, l7] (.ref a :: S) st P := zAW_st (zd_of zb_X6_adds dX6_adds_24) rfl rfl
theorem E_X6_adds_24n : AW X d 88 24 [.null, l1, l2, l3, l4, l5, l6, l7] S st P = AW X d 88 25 [.null, l1, l2, l3, l4, l5, l6, l7] (.null :: S) st P := zAW_st (zd_of zb_X6_adds dX6_adds_24) rfl rfl
theorem E_X6_adds_25 : AW X d 88 25 [l0, l1, l2, l3, l4, l5, l6, l7] (.ref a :: S) st P = zwith (zget st a 7 14) fun v => AW X d 88 28 [l0, l1, l2, l3, l4, l5, l6, l7] (v :: S) st P := zq_getfield (zd_of zb_X6_adds dX6_adds_25) zo_X6_adds zf_6_115
theorem E_X6_adds_28 : AW X d 88 28 [l0, l1, l2, .int x, l4, l5, l6, l7] S st P = AW X d 88 29 [l0, l1, l2, .int x, l4, l5, l6, l7] (.int x :: S) st P := zAW_st (zd_of zb_X6_adds dX6_adds_28) rfl rfl
theorem E_X6_adds_29 : AW X d 88 29 [l0, l1, l2, l3, l4, l5, l6, l7] (.int y :: .int x :: .ref a :: S) st P = zwith (zaI st a) fun q => zwith (zix x q.1) fun j => AW X d 88 30 [l0, l1, l2, l3, l4, l5, l6, l7] S (zsta st a (q.1, .inl (upd q.2 j y))) P := zq_iastore (zd_of zb_X6_adds dX6_adds_29)
theorem E_X6_adds_30 : AW X d 88 30 [.ref a, l1, l2, l3, l4, l5, l6, l7] S st P = AW X d 88 31 [.ref a, l1, l2, l3, l4, l5, l6, l7] (.ref a :: S) st P := zAW_st (zd_of zb_X6_adds dX6_adds_30) rfl rfl
theorem E_X6_adds_30n : AW X d 88 30 [.null, l1, l2, l3, l4, l5, l6, l7] S st P = AW X d 88 31 [.null, l1, l2, l3, l4, l5, l6, l7] (.null :: S) st P := zAW_st (zd_of zb_X6_adds dX6_adds_30) rfl rfl
theorem E_X6_adds_31 : AW X d 88 31 [l0, l1, l2, l3, l4, l5, l6, l7] (.ref a :: S) st P = zwith (zget st a 7 10) fun v => AW X d 88 34 [l0, l1, l2, l3, l4, l5, l6, l7] (v :: S) st P := zq_getfield (zd_of zb_X6_adds dX6_adds_31) zo_X6_adds zf_6_37
theorem E_X6_adds_34 : AW X d 88 34 [.ref a, l1, l2, l3, l4, l5, l6, l7] S st P = AW X d 88 35 [.ref a, l1, l2, l3, l4, l5, l6, l7] (.ref a :: S) st P := zAW_st (zd_of zb_X6_adds dX6_adds_34) rfl rfl
theorem E_X6_adds_34n : AW X d 88 34 [.null, l1, l2, l3, l4, l5, l6, l7] S st P = AW X d 88 35 [.null, l1, l2, l3, l4, l5, l6, l7] (.null :: S) st P := zAW_st (zd_of zb_X6_adds dX6_adds_34) rfl rfl
theorem E_X6_adds_35 : AW X d 88 35 [l0, l1, l2, l3, l4, l5, l6, l7] (.ref a :: S) st P = zwith (zget st a 7 14) fun v => AW X d 88 38 [l0, l1, l2, l3, l4, l5, l6, l7] (v :: S) st P := zq_getfield (zd_of zb_X6_adds dX6_adds_35) zo_X6_adds zf_6_115
theorem E_X6_adds_38 : AW X d 88 38 [l0, l1, l2, l3, .int x, l5, l6, l7] S st P = AW X d 88 40 [l0, l1, l2, l3, .int x, l5, l6, l7] (.int x :: S) st P := zAW_st (zd_of zb_X6_adds dX6_adds_38) rfl rfl
theorem E_X6_adds_40 : AW X d 88 40 [l0, l1, l2, l3, l4, l5, l6, l7] (.int y :: .int x :: .ref a :: S) st P = zwith (zaI st a) fun q => zwith (zix x q.1) fun j => AW X d 88 41 [l0, l1, l2, l3, l4, l5, l6, l7] S (zsta st a (q.1, .inl (upd q.2 j y))) P := zq_iastore (zd_of zb_X6_adds dX6_adds_40)
theorem E_X6_adds_41 : AW X d 88 41 [.ref a, l1, l2, l3, l4, l5, l6, l7] S st P = AW X d 88 42 [.ref a, l1, l2, l3, l4, l5, l6, l7] (.ref a :: S) st P := zAW_st (zd_of zb_X6_adds dX6_adds_41) rfl rfl
theorem E_X6_adds_41n : AW X d 88 41 [.null, l1, l2, l3, l4, l5, l6, l7] S st P = AW X d 88 42 [.null, l1, l2, l3, l4, l5, l6, l7] (.null :: S) st P := zAW_st (zd_of zb_X6_adds dX6_adds_41) rfl rfl
theorem E_X6_adds_42 : AW X d 88 42 [l0, l1, l2, l3, l4, l5, l6, l7] (.ref a :: S) st P = zwith (zget st a 7 11) fun v => AW X d 88 45 [l0, l1, l2, l3, l4, l5, l6, l7] (v :: S) st P := zq_getfield (zd_of zb_X6_adds dX6_adds_42) zo_X6_adds zf_6_40
theorem E_X6_adds_45 : AW X d 88 45 [.ref a, l1, l2, l3, l4, l5, l6, l7] S st P = AW X d 88 46 [.ref a, l1, l2, l3, l4, l5, l6, l7] (.ref a :: S) st P := zAW_st (zd_of zb_X6_adds dX6_adds_45) rfl rfl
theorem E_X6_adds_45n : AW X d 88 45 [.null, l1, l2, l3, l4, l5, l6, l7] S st P = AW X d 88 46 [.null, l1, l2, l3, l4, l5, l6, l7] (.null :: S) st P := zAW_st (zd_of zb_X6_adds dX6_adds_45) rfl rfl
theorem E_X6_adds_46 : AW X d 88 46 [l0, l1, l2, l3, l4, l5, l6, l7] (.ref a :: S) st P = zwith (zget st a 7 14) fun v => AW X d 88 49 [l0, l1, l2, l3, l4, l5, l6, l7] (v :: S) st P := zq_getfield (zd_of zb_X6_adds dX6_adds_46) zo_X6_adds zf_6_115
theorem E_X6_adds_49 : AW X d 88 49 [l0, l1, l2, l3, l4, .int x, l6, l7] S st P = AW X d 88 51 [l0, l1, l2, l3, l4, .int x, l6, l7] (.int x :: S) st P := zAW_st (zd_of zb_X6_adds dX6_adds_49) rfl rfl
theorem E_X6_adds_51 : AW X d 88 51 [l0, l1, l2, l3, l4, l5, l6, l7] (.int y :: .int x :: .ref a :: S) st P = zwith (zaI st a) fun q => zwith (zix x q.1) fun j => AW X d 88 52 [l0, l1, l2, l3, l4, l5, l6, l7] S (zsta st a (q.1, .inl (upd q.2 j y))) P := zq_iastore (zd_of zb_X6_adds dX6_adds_51)
theorem E_X6_adds_52 : AW X d 88 52 [.ref a, l1, l2, l3, l4, l5, l6, l7] S st P = AW X d 88 53 [.ref a, l1, l2, l3, l4, l5, l6, l7] (.ref a :: S) st P := zAW_st (zd_of zb_X6_adds dX6_adds_52) rfl rfl
theorem E_X6_adds_52n : AW X d 88 52 [.null, l1, l2, l3, l4, l5, l6, l7] S st P = AW X d 88 53 [.null, l1, l2, l3, l4, l5, l6, l7] (.null :: S) st P := zAW_st (zd_of zb_X6_adds dX6_adds_52) rfl rfl
theorem E_X6_adds_53 : AW X d 88 53 [l0, l1, l2, l3, l4, l5, l6, l7] (.ref a :: S) st P = zwith (zget st a 7 12) fun v => AW X d 88 56 [l0, l1, l2, l3, l4, l5, l6, l7] (v :: S) st P := zq_getfield (zd_of zb_X6_adds dX6_adds_53) zo_X6_adds zf_6_43
theorem E_X6_adds_56 : AW X d 88 56 [.ref a, l1, l2, l3, l4, l5, l6, l7] S st P = AW X d 88 57 [.ref a, l1, l2, l3, l4, l5, l6, l7] (.ref a :: S) st P := zAW_st (zd_of zb_X6_adds dX6_adds_56) rfl rfl
theorem E_X6_adds_56n : AW X d 88 56 [.null, l1, l2, l3, l4, l5, l6, l7] S st P = AW X d 88 57 [.null, l1, l2, l3, l4, l5, l6, l7] (.null :: S) st P := zAW_st (zd_of zb_X6_adds dX6_adds_56) rfl rfl
theorem E_X6_adds_57 : AW X d 88 57 [l0, l1, l2, l3, l4, l5, l6, l7] (.ref a :: S) st P = zwith (zget st a 7 14) fun v => AW X d 88 60 [l0, l1, l2, l3, l4, l5, l6, l7] (v :: S) st P := zq_getfield (zd_of zb_X6_adds dX6_adds_57) zo_X6_adds zf_6_115
theorem E_X6_adds_60 : AW X d 88 60 [l0, l1, l2, l3, l4, l5, .int x, l7] S st P = AW X d 88 62 [l0, l1, l2, l3, l4, l5, .int x, l7] (.int x :: S) st P := zAW_st (zd_of zb_X6_adds dX6_adds_60) rfl rfl
theorem E_X6_adds_62 : AW X d 88 62 [l0, l1, l2, l3, l4, l5, l6, l7] (.int y :: .int x :: .ref a :: S) st P = zwith (zaI st a) fun q => zwith (zix x q.1) fun j => AW X d 88 63 [l0, l1, l2, l3, l4, l5, l6, l7] S (zsta st a (q.1, .inl (upd q.2 j y))) P := zq_iastore (zd_of zb_X6_adds dX6_adds_62)
theorem E_X6_adds_63 : AW X d 88 63 [.ref a, l1, l2, l3, l4, l5, l6, l7] S st P = AW X d 88 64 [.ref a, l1, l2, l3, l4, l5, l6, l7] (.ref a :: S) st P := zAW_st (zd_of zb_X6_adds dX6_adds_63) rfl rfl
theorem E_X6_adds_63n : AW X d 88 63 [.null, l1, l2, l3, l4, l5, l6, l7] S st P = AW X d 88 64 [.null, l1, l2, l3, l4, l5, l6, l7] (.null :: S) st P := zAW_st (zd_of zb_X6_adds dX6_adds_63) rfl rfl
theorem E_X6_adds_64 : AW X d 88 64 [l0, l1, l2, l3, l4, l5, l6, l7] (.ref a :: S) st P = zwith (zget st a 7 13) fun v => AW X d 88 67 [l0, l1, l2, l3, l4, l5, l6, l7] (v :: S) st P := zq_getfield (zd_of zb_X6_adds dX6_adds_64) zo_X6_adds zf_6_46
theorem E_X6_adds_67 : AW X d 88 67 [.ref a, l1, l2, l3, l4, l5, l6, l7] S st P = AW X d 88 68 [.ref a, l1, l2, l3, l4, l5, l6, l7] (.ref a :: S) st P := zAW_st (zd_of zb_X6_adds dX6_adds_67) rfl rfl
theorem E_X6_adds_67n : AW X d 88 67 [.null, l1, l2, l3, l4, l5, l6, l7] S st P = AW X d 88 68 [.null, l1, l2, l3, l4, l5, l6, l7] (.null :: S) st P := zAW_st (zd_of zb_X6_adds dX6_adds_67) rfl rfl
theorem E_X6_adds_68 : AW X d 88 68 [l0, l1, l2, l3, l4, l5, l6, l7] (.ref a :: S) st P = zwith (zget st a 7 14) fun v => AW X d 88 71 [l0, l1, l2, l3, l4, l5, l6, l7] (v :: S) st P := zq_getfield (zd_of zb_X6_adds dX6_adds_68) zo_X6_adds zf_6_115
theorem E_X6_adds_71 : AW X d 88 71 [l0, l1, l2, l3, l4, l5, l6, .int x] S st P = AW X d 88 73 [l0, l1, l2, l3, l4, l5, l6, .int x] (.int x :: S) st P := zAW_st (zd_of zb_X6_adds dX6_adds_71) rfl rfl
theorem E_X6_adds_73 : AW X d 88 73 [l0, l1, l2, l3, l4, l5, l6, l7] (.int y :: .int x :: .ref a :: S) st P = zwith (zaI st a) fun q => zwith (zix x q.1) fun j => AW X d 88 74 [l0, l1, l2, l3, l4, l5, l6, l7] S (zsta st a (q.1, .inl (upd q.2 j y))) P := zq_iastore (zd_of zb_X6_adds dX6_adds_73)
theorem E_X6_adds_74 : AW X d 88 74 [.ref a, l1, l2, l3, l4, l5, l6, l7] S st P = AW X d 88 75 [.ref a, l1, l2, l3, l4, l5, l6, l7] (.ref a :: S) st P := zAW_st (zd_of zb_X6_adds dX6_adds_74) rfl rfl
theorem E_X6_adds_74n : AW X d 88 74 [.null, l1, l2, l3, l4, l5, l6, l7] S st P = AW X d 88 75 [.null, l1, l2, l3, l4, l5, l6, l7] (.null :: S) st P := zAW_st (zd_of zb_X6_adds dX6_adds_74) rfl rfl
theorem E_X6_adds_75 : AW X d 88 75 [l0, l1, l2, l3, l4, l5, l6, l7] (.ref a :: S) st P = AW X d 88 76 [l0, l1, l2, l3, l4, l5, l6, l7] (.ref a :: .ref a :: S) st P := zq_dup (zd_of zb_X6_adds dX6_adds_75) rfl
theorem E_X6_adds_75n : AW X d 88 75 [l0, l1, l2, l3, l4, l5, l6, l7] (.null :: S) st P = AW X d 88 76 [l0, l1, l2, l3, l4, l5, l6, l7] (.null :: .null :: S) st P := zq_dup (zd_of zb_X6_adds dX6_adds_75) rfl
theorem E_X6_adds_75i : AW X d 88 75 [l0, l1, l2, l3, l4, l5, l6, l7] (.int x :: S) st P = AW X d 88 76 [l0, l1, l2, l3, l4, l5, l6, l7] (.int x :: .int x :: S) st P := zq_dup (zd_of zb_X6_adds dX6_adds_75) rfl
theorem E_X6_adds_75f : AW X d 88 75 [l0, l1, l2, l3, l4, l5, l6, l7] (.float u :: S) st P = AW X d 88 76 [l0, l1, l2, l3, l4, l5, l6, l7] (.float u :: .float u :: S) st P := zq_dup (zd_of zb_X6_adds dX6_adds_75) rfl
theorem E_X6_adds_76 : AW X d 88 76 [l0, l1, l2, l3, l4, l5, l6, l7] (.ref a :: S) st P = zwith (zget st a 7 14) fun v => AW X d 88 79 [l0, l1, l2, l3, l4, l5, l6, l7] (v :: S) st P := zq_getfield (zd_of zb_X6_adds dX6_adds_76) zo_X6_adds zf_6_115
theorem E_X6_adds_79 : AW X d 88 79 [l0, l1, l2, l3, l4, l5, l6, l7] S st P = AW X d 88 80 [l0, l1, l2, l3, l4, l5, l6, l7] (.int 1 :: S) st P := zq_iconst (zd_of zb_X6_adds dX6_adds_79) (by decide)
theorem E_X6_adds_80 : AW X d 88 80 [l0, l1, l2, l3, l4, l5, l6, l7] (.int y :: .int x :: S) st P = AW X d 88 81 [l0, l1, l2, l3, l4, l5, l6, l7] (.int (x + y) :: S) st P := zAW_st (zd_of zb_X6_adds dX6_adds_80) rfl rfl
theorem E_X6_adds_81 : AW X d 88 81 [l0, l1, l2, l3, l4, l5, l6, l7] (.int x :: .ref a :: S) st P = zwith (zget st a 7 14) fun _ => AW X d 88 84 [l0, l1, l2, l3, l4, l5, l6, l7] S (zput st a 14 (.int x)) P := zq_putfield (zd_of zb_X6_adds dX6_adds_81) zo_X6_adds zf_6_115 rfl (Or.inl (by decide +kernel))
theorem E_X6_adds_84 : AW X d 88 84 [.ref a, l1, l2, l3, l4, l5, l6, l7] S st P = AW X d 88 85 [.ref a, l1, l2, l3, l4, l5, l6, l7] (.ref a :: S) st P := zAW_st (zd_of zb_X6_adds dX6_adds_84) rfl rfl
theorem E_X6_adds_84n : AW X d 88 84 [.null, l1, l2, l3, l4, l5, l6, l7] S st P = AW X d 88 85 [.null, l1, l2, l3, l4, l5, l6, l7] (.null :: S) st P := zAW_st (zd_of zb_X6_adds dX6_adds_84) rfl rfl
theorem E_X6_adds_85 : AW X d 88 85 [l0, l1, l2, l3, l4, l5, l6, l7] (.ref a :: S) st P = zwith (zget st a 7 14) fun v => AW X d 88 88 [l0, l1, l2, l3, l4, l5, l6, l7] (v :: S) st P := zq_getfield (zd_of zb_X6_adds dX6_adds_85) zo_X6_adds zf_6_115
theorem E_X6_adds_88 : AW X d 88 88 [l0, l1, l2, l3, l4, l5, l6, l7] S st P = AW X d 88 89 [l0, l1, l2, l3, l4, l5, l6, l7] (.int 1 :: S) st P := zq_iconst (zd_of zb_X6_adds dX6_adds_88) (by decide)
theorem E_X6_adds_89 : AW X d 88 89 [l0, l1, l2, l3, l4, l5, l6, l7] (.int y :: .int x :: S) st P = AW X d 88 90 [l0, l1, l2, l3, l4, l5, l6, l7] (.int (x - y) :: S) st P := zAW_st (zd_of zb_X6_adds dX6_adds_89) rfl rfl
theorem E_X6_adds_90 : AW X d 88 90 [l0, l1, l2, l3, l4, l5, l6, l7] ([.int x]) st P = P (.inl (some (.int x))) st := zAW_ret (w := (.inl (some (.int x)), st)) (zd_of zb_X6_adds dX6_adds_90) rfl rfl (by simp only [zfin, zr_X6_adds])
theorem A_X6_adds : AC X (d + 1) 88 [.ref a, .int x, .int y, .int x3, .int x4, .int x5, .int x6, .int x7] st P = AW X d 88 0 [.ref a, .int x, .int y, .int x3, .int x4, .int x5, .int x6, .int x7] [] st P := AC_eq ⟨⟨(show 8 ≤ zml 88 by decide +kernel), by decide +kernel⟩, by simp [zc1_int, zc1_ref, zc1_float]⟩
theorem E_X6_sheet_0 : AW X d 89 0 [.ref a, l1, l2, l3, l4] S st P = AW X d 89 1 [.ref a, l1, l2, l3, l4] (.ref a :: S) st P := zAW_st (zd_of zb_X6_sheet dX6_sheet_0) rfl rfl
theorem E_X6_sheet_0n : AW X d 89 0 [.null, l1, l2, l3, l4] S st P = AW X d 89 1 [.null, l1, l2, l3, l4] (.null :: S) st P := zAW_st (zd_of zb_X6_sheet dX6_sheet_0) rfl rfl
theorem E_X6_sheet_1 : AW X d 89 1 [l0, .int x, l2, l3, l4] S st P = AW X d 89 2 [l0, .int x, l2, l3, l4] (.int x :: S) st P := zAW_st (zd_of zb_X6_sheet dX6_sheet_1) rfl rfl
theorem E_X6_sheet_2 : AW X d 89 2 [l0, l1, l2, l3, l4] S st P = AW X d 89 3 [l0, l1, l2, l3, l4] (.int 1 :: S) st P := zq_iconst (zd_of zb_X6_sheet dX6_sheet_2) (by decide)
theorem E_X6_sheet_3 : AW X d 89 3 [l0, l1, l2, l3, l4] S st P = AW X d 89 5 [l0, l1, l2, l3, l4] (.int 64 :: S) st P := zq_bipush (zd_of zb_X6_sheet dX6_sheet_3) (by decide)
theorem E_X6_sheet_5 : AW X d 89 5 [l0, l1, l2, l3, l4] (.int x3 :: .int y :: .int x :: .ref a :: S) st P = zif (zis st a 7 = true) (zif (S.length ≤ 4) (AC X d 75 [.ref a, .int x, .int y, .int x3] st (zaft X d 89 5 [l0, l1, l2, l3, l4] S P))) := zq_callV (B := [.int x, .int y, .int x3]) (zd_of zb_X6_sheet dX6_sheet_5) zo_X6_sheet (by decide) zl_6_74 zn_75 rfl rfl rfl
theorem E_X6_sheet_8 : AW X d 89 8 [l0, l1, l2, l3, l4] (.int x :: S) st P = if x = 0 then AW X d 89 26 [l0, l1, l2, l3, l4] S st P else AW X d 89 11 [l0, l1, l2, l3, l4] S st P := zq_if (c := x = 0) (zd_of zb_X6_sheet dX6_sheet_8) (by decide) rfl
theorem E_X6_sheet_11 : AW X d 89 11 [.ref a, l1, l2, l3, l4] S st P = AW X d 89 12 [.ref a, l1, l2, l3, l4] (.ref a :: S) st P := zAW_st (zd_of zb_X6_sheet dX6_sheet_11) rfl rfl
theorem E_X6_sheet_11n : AW X d 89 11 [.null, l1, l2, l3, l4] S st P = AW X d 89 12 [.null, l1, l2, l3, l4] (.null :: S) st P := zAW_st (zd_of zb_X6_sheet dX6_sheet_11) rfl rfl
theorem E_X6_sheet_12 : AW X d 89 12 [l0, l1, .int x, l3, l4] S st P = AW X d 89 13 [l0, l1, .int x, l3, l4] (.int x :: S) st P := zAW_st (zd_of zb_X6_sheet dX6_sheet_12) rfl rfl
theorem E_X6_sheet_13 : AW X d 89 13 [l0, l1, l2, l3, l4] S st P = AW X d 89 14 [l0, l1, l2, l3, l4] (.int 1 :: S) st P := zq_iconst (zd_of zb_X6_sheet dX6_sheet_13) (by decide)
theorem E_X6_sheet_14 : AW X d 89 14 [l0, l1, l2, l3, l4] S st P = AW X d 89 16 [l0, l1, l2, l3, l4] (.int 64 :: S) st P := zq_bipush (zd_of zb_X6_sheet dX6_sheet_14) (by decide)
theorem E_X6_sheet_16 : AW X d 89 16 [l0, l1, l2, l3, l4] (.int x3 :: .int y :: .int x :: .ref a :: S) st P = zif (zis st a 7 = true) (zif (S.length ≤ 4) (AC X d 75 [.ref a, .int x, .int y, .int x3] st (zaft X d 89 16 [l0, l1, l2, l3, l4] S P))) := zq_callV (B := [.int x, .int y, .int x3]) (zd_of zb_X6_sheet dX6_sheet_16) zo_X6_sheet (by decide) zl_6_74 zn_75 rfl rfl rfl
theorem E_X6_sheet_19 : AW X d 89 19 [l0, l1, l2, l3, l4] (.int x :: S) st P = if x = 0 then AW X d 89 26 [l0, l1, l2, l3, l4] S st P else AW X d 89 22 [l0, l1, l2, l3, l4] S st P := zq_if (c := x = 0) (zd_of zb_X6_sheet dX6_sheet_19) (by decide) rfl
theorem E_X6_sheet_22 : AW X d 89 22 [l0, l1, l2, l3, l4] S st P = AW X d 89 23 [l0, l1, l2, l3, l4] (.int 1 :: S) st P := zq_iconst (zd_of zb_X6_sheet dX6_sheet_22) (by decide)
theorem E_X6_sheet_23 : AW X d 89 23 [l0, l1, l2, l3, l4] S st P = AW X d 89 27 [l0, l1, l2, l3, l4] S st P := zq_goto (zd_of zb_X6_sheet dX6_sheet_23) (by decide)
theorem E_X6_sheet_26 : AW X d 89 26 [l0, l1, l2, l3, l4] S st P = AW X d 89 27 [l0, l1, l2, l3, l4] (.int 0 :: S) st P := zq_iconst (zd_of zb_X6_sheet dX6_sheet_26) (by decide)
theorem E_X6_sheet_27 : AW X d 89 27 [l0, l1, l2, l3, l4] (.int x :: S) st P = AW X d 89 28 [l0, l1, l2, .int x, l4] S st P := zAW_st (zd_of zb_X6_sheet dX6_sheet_27) rfl rfl
theorem E_X6_sheet_28 : AW X d 89 28 [.ref a, l1, l2, l3, l4] S st P = AW X d 89 29 [.ref a, l1, l2, l3, l4] (.ref a :: S) st P := zAW_st (zd_of zb_X6_sheet dX6_sheet_28) rfl rfl
theorem E_X6_sheet_28n : AW X d 89 28 [.null, l1, l2, l3, l4] S st P = AW X d 89 29 [.null, l1, l2, l3, l4] (.null :: S) st P := zAW_st (zd_of zb_X6_sheet dX6_sheet_28) rfl rfl
theorem E_X6_sheet_29 : AW X d 89 29 [l0, l1, l2, .int x, l4] S st P = AW X d 89 30 [l0, l1, l2, .int x, l4] (.int x :: S) st P := zAW_st (zd_of zb_X6_sheet dX6_sheet_29) rfl rfl
theorem E_X6_sheet_30 : AW X d 89 30 [l0, l1, l2, l3, l4] (.int x :: S) st P = if ¬ x = 0 then AW X d 89 37 [l0, l1, l2, l3, l4] S st P else AW X d 89 33 [l0, l1, l2, l3, l4] S st P := zq_if (c := ¬ x = 0) (zd_of zb_X6_sheet dX6_sheet_30) (by decide) rfl
theorem E_X6_sheet_33 : AW X d 89 33 [l0, l1, l2, l3, l4] S st P = AW X d 89 34 [l0, l1, l2, l3, l4] (.int 1 :: S) st P := zq_iconst (zd_of zb_X6_sheet dX6_sheet_33) (by decide)
theorem E_X6_sheet_34 : AW X d 89 34 [l0, l1, l2, l3, l4] S st P = AW X d 89 61 [l0, l1, l2, l3, l4] S st P := zq_goto (zd_of zb_X6_sheet dX6_sheet_34) (by decide)
theorem E_X6_sheet_37 : AW X d 89 37 [.ref a, l1, l2, l3, l4] S st P = AW X d 89 38 [.ref a, l1, l2, l3, l4] (.ref a :: S) st P := zAW_st (zd_of zb_X6_sheet dX6_sheet_37) rfl rfl
theorem E_X6_sheet_37n : AW X d 89 37 [.null, l1, l2, l3, l4] S st P = AW X d 89 38 [.null, l1, l2, l3, l4] (.null :: S) st P := zAW_st (zd_of zb_X6_sheet dX6_sheet_37) rfl rfl
theorem E_X6_sheet_38 : AW X d 89 38 [l0, l1, l2, l3, l4] (.ref a :: S) st P = zwith (zget st a 7 15) fun v => AW X d 89 41 [l0, l1, l2, l3, l4] (v :: S) st P := zq_getfield (zd_of zb_X6_sheet dX6_sheet_38) zo_X6_sheet zf_6_118
theorem E_X6_sheet_41 : AW X d 89 41 [l0, l1, l2, l3, l4] S st P = AW X d 89 43 [l0, l1, l2, l3, l4] (.int 8 :: S) st P := zq_bipush (zd_of zb_X6_sheet dX6_sheet_41) (by decide)
theorem E_X6_sheet_43 : AW X d 89 43 [l0, l1, l2, l3, l4] (.int y :: .int x :: S) st P = if x = y then AW X d 89 56 [l0, l1, l2, l3, l4] S st P else AW X d 89 46 [l0, l1, l2, l3, l4] S st P := zq_icmp (c := x = y) (zd_of zb_X6_sheet dX6_sheet_43) (by decide) rfl
theorem E_X6_sheet_46 : AW X d 89 46 [.ref a, l1, l2, l3, l4] S st P = AW X d 89 47 [.ref a, l1, l2, l3, l4] (.ref a :: S) st P := zAW_st (zd_of zb_X6_sheet dX6_sheet_46) rfl rfl
theorem E_X6_sheet_46n : AW X d 89 46 [.null, l1, l2, l3, l4] S st P = AW X d 89 47 [.null, l1, l2, l3, l4] (.null :: S) st P := zAW_st (zd_of zb_X6_sheet dX6_sheet_46) rfl rfl
theorem E_X6_sheet_47 : AW X d 89 47 [l0, l1, l2, l3, l4] (.ref a :: S) st P = zwith (zget st a 7 14) fun v => AW X d 89 50 [l0, l1, l2, l3, l4] (v :: S) st P := zq_getfield (zd_of zb_X6_sheet dX6_sheet_47) zo_X6_sheet zf_6_115
theorem E_X6_sheet_50 : AW X d 89 50 [l0, l1, l2, l3, l4] S st P = AW X d 89 53 [l0, l1, l2, l3, l4] (.int 400 :: S) st P := zq_sipush (zd_of zb_X6_sheet dX6_sheet_50) (by decide)
theorem E_X6_sheet_53 : AW X d 89 53 [l0, l1, l2, l3, l4] (.int y :: .int x :: S) st P = if ¬ x = y then AW X d 89 60 [l0, l1, l2, l3, l4] S st P else AW X d 89 56 [l0, l1, l2, l3, l4] S st P := zq_icmp (c := ¬ x = y) (zd_of zb_X6_sheet dX6_sheet_53) (by decide) rfl
theorem E_X6_sheet_56 : AW X d 89 56 [l0, l1, l2, l3, l4] S st P = AW X d 89 57 [l0, l1, l2, l3, l4] (.int 2 :: S) st P := zq_iconst (zd_of zb_X6_sheet dX6_sheet_56) (by decide)
theorem E_X6_sheet_57 : AW X d 89 57 [l0, l1, l2, l3, l4] S st P = AW X d 89 61 [l0, l1, l2, l3, l4] S st P := zq_goto (zd_of zb_X6_sheet dX6_sheet_57) (by decide)
theorem E_X6_sheet_60 : AW X d 89 60 [l0, l1, l2, l3, l4] S st P = AW X d 89 61 [l0, l1, l2, l3, l4] (.int 0 :: S) st P := zq_iconst (zd_of zb_X6_sheet dX6_sheet_60) (by decide)
theorem E_X6_sheet_61 : AW X d 89 61 [l0, l1, l2, l3, l4] (.int x :: .ref a :: S) st P = zif (zis st a 7 = true) (zif (S.length ≤ 4) (AC X d 74 [.ref a, .int x] st (zaft X d 89 61 [l0, l1, l2, l3, l4] S P))) := zq_callV (B := [.int x]) (zd_of zb_X6_sheet dX6_sheet_61) zo_X6_sheet (by decide) zl_6_78 zn_74 rfl rfl rfl
theorem E_X6_sheet_64 : AW X d 89 64 [l0, l1, l2, l3, l4] (.int x :: S) st P = if x = 0 then AW X d 89 69 [l0, l1, l2, l3, l4] S st P else AW X d 89 67 [l0, l1, l2, l3, l4] S st P := zq_if (c := x = 0) (zd_of zb_X6_sheet dX6_sheet_64) (by decide) rfl
theorem E_X6_sheet_67 : AW X d 89 67 [l0, l1, l2, l3, l4] S st P = AW X d 89 68 [l0, l1, l2, l3, l4] (.int (-1) :: S) st P := zq_iconst (zd_of zb_X6_sheet dX6_sheet_67) (by decide)
theorem E_X6_sheet_68 : AW X d 89 68 [l0, l1, l2, l3, l4] ([.int x]) st P = P (.inl (some (.int x))) st := zAW_ret (w := (.inl (some (.int x)), st)) (zd_of zb_X6_sheet dX6_sheet_68) rfl rfl (by simp only [zfin, zr_X6_sheet])
theorem E_X6_sheet_69 : AW X d 89 69 [.ref a, l1, l2, l3, l4] S st P = AW X d 89 70 [.ref a, l1, l2, l3, l4] (.ref a :: S) st P := zAW_st (zd_of zb_X6_sheet dX6_sheet_69) rfl rfl
theorem E_X6_sheet_69n : AW X d 89 69 [.null, l1, l2, l3, l4] S st P = AW X d 89 70 [.null, l1, l2, l3, l4] (.null :: S) st P := zAW_st (zd_of zb_X6_sheet dX6_sheet_69) rfl rfl
theorem E_X6_sheet_70 : AW X d 89 70 [.ref a, l1, l2, l3, l4] S st P = AW X d 89 71 [.ref a, l1, l2, l3, l4] (.ref a :: S) st P := zAW_st (zd_of zb_X6_sheet dX6_sheet_70) rfl rfl
theorem E_X6_sheet_70n : AW X d 89 70 [.null, l1, l2, l3, l4] S st P = AW X d 89 71 [.null, l1, l2, l3, l4] (.null :: S) st P := zAW_st (zd_of zb_X6_sheet dX6_sheet_70) rfl rfl
theorem E_X6_sheet_71 : AW X d 89 71 [l0, l1, l2, l3, l4] (.ref a :: S) st P = zwith (zget st a 7 15) fun v => AW X d 89 74 [l0, l1, l2, l3, l4] (v :: S) st P := zq_getfield (zd_of zb_X6_sheet dX6_sheet_71) zo_X6_sheet zf_6_118
theorem E_X6_sheet_74 : AW X d 89 74 [l0, l1, l2, l3, l4] S st P = AW X d 89 75 [l0, l1, l2, l3, l4] (.int 0 :: S) st P := zq_iconst (zd_of zb_X6_sheet dX6_sheet_74) (by decide)
theorem E_X6_sheet_75 : AW X d 89 75 [l0, l1, l2, l3, l4] S st P = AW X d 89 76 [l0, l1, l2, l3, l4] (.int 0 :: S) st P := zq_iconst (zd_of zb_X6_sheet dX6_sheet_75) (by decide)
theorem E_X6_sheet_76 : AW X d 89 76 [l0, .int x, l2, l3, l4] S st P = AW X d 89 77 [l0, .int x, l2, l3, l4] (.int x :: S) st P := zAW_st (zd_of zb_X6_sheet dX6_sheet_76) rfl rfl
theorem E_X6_sheet_77 : AW X d 89 77 [l0, l1, .int x, l3, l4] S st P = AW X d 89 78 [l0, l1, .int x, l3, l4] (.int x :: S) st P := zAW_st (zd_of zb_X6_sheet dX6_sheet_77) rfl rfl
theorem E_X6_sheet_78 : AW X d 89 78 [l0, l1, l2, l3, l4] S st P = AW X d 89 79 [l0, l1, l2, l3, l4] (.int 0 :: S) st P := zq_iconst (zd_of zb_X6_sheet dX6_sheet_78) (by decide)
theorem E_X6_sheet_79 : AW X d 89 79 [l0, l1, l2, l3, l4] S st P = AW X d 89 80 [l0, l1, l2, l3, l4] (.int (-1) :: S) st P := zq_iconst (zd_of zb_X6_sheet dX6_sheet_79) (by decide)
theorem E_X6_sheet_80 : AW X d 89 80 [l0, l1, l2, l3, l4] (.int x7 :: .int x6 :: .int x5 :: .int x4 :: .int x3 :: .int y :: .int x :: .ref a :: S) st P = zif (zis st a 7 = true) (zif (S.length ≤ 4) (AC X d 88 [.ref a, .int x, .int y, .int x3, .int x4, .int x5, .int x6, .int x7] st (zaft X d 89 80 [l0, l1, l2, l3, l4] S P))) := zq_callV (B := [.int x, .int y, .int x3, .int x4, .int x5, .int x6, .int x7]) (zd_of zb_X6_sheet dX6_sheet_80) zo_X6_sheet (by decide) zl_6_121 zn_88 rfl rfl rfl
theorem E_X6_sheet_83 : AW X d 89 83 [l0, l1, l2, l3, l4] (.int x :: S) st P = AW X d 89 85 [l0, l1, l2, l3, .int x] S st P := zAW_st (zd_of zb_X6_sheet dX6_sheet_83) rfl rfl
theorem E_X6_sheet_85 : AW X d 89 85 [.ref a, l1, l2, l3, l4] S st P = AW X d 89 86 [.ref a, l1, l2, l3, l4] (.ref a :: S) st P := zAW_st (zd_of zb_X6_sheet dX6_sheet_85) rfl rfl
theorem E_X6_sheet_85n : AW X d 89 85 [.null, l1, l2, l3, l4] S st P = AW X d 89 86 [.null, l1, l2, l3, l4] (.null :: S) st P := zAW_st (zd_of zb_X6_sheet dX6_sheet_85) rfl rfl
theorem E_X6_sheet_86 : AW X d 89 86 [l0, l1, l2, l3, l4] (.ref a :: S) st P = AW X d 89 87 [l0, l1, l2, l3, l4] (.ref a :: .ref a :: S) st P := zq_dup (zd_of zb_X6_sheet dX6_sheet_86) rfl
theorem E_X6_sheet_86n : AW X d 89 86 [l0, l1, l2, l3, l4] (.null :: S) st P = AW X d 89 87 [l0, l1, l2, l3, l4] (.null :: .null :: S) st P := zq_dup (zd_of zb_X6_sheet dX6_sheet_86) rfl
theorem E_X6_sheet_86i : AW X d 89 86 [l0, l1, l2, l3, l4] (.int x :: S) st P = AW X d 89 87 [l0, l1, l2, l3, l4] (.int x :: .int x :: S) st P := zq_dup (zd_of zb_X6_sheet dX6_sheet_86) rfl
theorem E_X6_sheet_86f : AW X d 89 86 [l0, l1, l2, l3, l4] (.float u :: S) st P = AW X d 89 87 [l0, l1, l2, l3, l4] (.float u :: .float u :: S) st P := zq_dup (zd_of zb_X6_sheet dX6_sheet_86) rfl
theorem E_X6_sheet_87 : AW X d 89 87 [l0, l1, l2, l3, l4] (.ref a :: S) st P = zwith (zget st a 7 15) fun v => AW X d 89 90 [l0, l1, l2, l3, l4] (v :: S) st P := zq_getfield (zd_of zb_X6_sheet dX6_sheet_87) zo_X6_sheet zf_6_118
theorem E_X6_sheet_90 : AW X d 89 90 [l0, l1, l2, l3, l4] S st P = AW X d 89 91 [l0, l1, l2, l3, l4] (.int 1 :: S) st P := zq_iconst (zd_of zb_X6_sheet dX6_sheet_90) (by decide)
theorem E_X6_sheet_91 : AW X d 89 91 [l0, l1, l2, l3, l4] (.int y :: .int x :: S) st P = AW X d 89 92 [l0, l1, l2, l3, l4] (.int (x + y) :: S) st P := zAW_st (zd_of zb_X6_sheet dX6_sheet_91) rfl rfl
theorem E_X6_sheet_92 : AW X d 89 92 [l0, l1, l2, l3, l4] (.int x :: .ref a :: S) st P = zwith (zget st a 7 15) fun _ => AW X d 89 95 [l0, l1, l2, l3, l4] S (zput st a 15 (.int x)) P := zq_putfield (zd_of zb_X6_sheet dX6_sheet_92) zo_X6_sheet zf_6_118 rfl (Or.inl (by decide +kernel))
theorem E_X6_sheet_95 : AW X d 89 95 [.ref a, l1, l2, l3, l4] S st P = AW X d 89 96 [.ref a, l1, l2, l3, l4] (.ref a :: S) st P := zAW_st (zd_of zb_X6_sheet dX6_sheet_95) rfl rfl
theorem E_X6_sheet_95n : AW X d 89 95 [.null, l1, l2, l3, l4] S st P = AW X d 89 96 [.null, l1, l2, l3, l4] (.null :: S) st P := zAW_st (zd_of zb_X6_sheet dX6_sheet_95) rfl rfl
theorem E_X6_sheet_96 : AW X d 89 96 [l0, l1, l2, l3, l4] (.ref a :: S) st P = zif (zis st a 7 = true) (zif (S.length ≤ 4) (AC X d 97 [.ref a] st (zaft X d 89 96 [l0, l1, l2, l3, l4] S P))) := zq_callV (B := []) (zd_of zb_X6_sheet dX6_sheet_96) zo_X6_sheet (by decide) zl_6_97 zn_97 rfl rfl rfl
theorem E_X6_sheet_99 : AW X d 89 99 [.ref a, l1, l2, l3, l4] S st P = AW X d 89 100 [.ref a, l1, l2, l3, l4] (.ref a :: S) st P := zAW_st (zd_of zb_X6_sheet dX6_sheet_99) rfl rfl
theorem E_X6_sheet_99n : AW X d 89 99 [.null, l1, l2, l3, l4] S st P = AW X d 89 100 [.null, l1, l2, l3, l4] (.null :: S) st P := zAW_st (zd_of zb_X6_sheet dX6_sheet_99) rfl rfl
theorem E_X6_sheet_100 : AW X d 89 100 [l0, l1, l2, l3, l4] (.ref a :: S) st P = zwith (zget st a 7 15) fun v => AW X d 89 103 [l0, l1, l2, l3, l4] (v :: S) st P := zq_getfield (zd_of zb_X6_sheet dX6_sheet_100) zo_X6_sheet zf_6_118
theorem E_X6_sheet_103 : AW X d 89 103 [l0, l1, l2, l3, l4] S st P = AW X d 89 104 [l0, l1, l2, l3, l4] (.int 1 :: S) st P := zq_iconst (zd_of zb_X6_sheet dX6_sheet_103) (by decide)
theorem E_X6_sheet_104 : AW X d 89 104 [l0, l1, l2, l3, l4] (.int y :: .int x :: S) st P = AW X d 89 105 [l0, l1, l2, l3, l4] (.int (x - y) :: S) st P := zAW_st (zd_of zb_X6_sheet dX6_sheet_104) rfl rfl
theorem E_X6_sheet_105 : AW X d 89 105 [l0, l1, l2, l3, l4] ([.int x]) st P = P (.inl (some (.int x))) st := zAW_ret (w := (.inl (some (.int x)), st)) (zd_of zb_X6_sheet dX6_sheet_105) rfl rfl (by simp only [zfin, zr_X6_sheet])
theorem A_X6_sheet : AC X (d + 1) 89 [.ref a, .int x, .int y] st P = AW X d 89 0 [.ref a, .int x, .int y, .retAddr 0, .retAddr 0] [] st P := AC_eq ⟨⟨(show 3 ≤ zml 89 by decide +kernel), by decide +kernel⟩, by simp [zc1_int, zc1_ref, zc1_float]⟩
theorem E_X6_bestFor_0 : AW X d 90 0 [l0, l1, l2, l3, l4, l5] S st P = AW X d 90 1 [l0, l1, l2, l3, l4, l5] (.int (-1) :: S) st P := zq_iconst (zd_of zb_X6_bestFor dX6_bestFor_0) (by decide)
theorem E_X6_bestFor_1 : AW X d 90 1 [l0, l1, l2, l3, l4, l5] (.int x :: S) st P = AW X d 90 2 [l0, l1, l2, .int x, l4, l5] S st P := zAW_st (zd_of zb_X6_bestFor dX6_bestFor_1) rfl rfl
theorem E_X6_bestFor_2 : AW X d 90 2 [l0, l1, l2, l3, l4, l5] S st P = AW X d 90 3 [l0, l1, l2, l3, l4, l5] (.int 0 :: S) st P := zq_iconst (zd_of zb_X6_bestFor dX6_bestFor_2) (by decide)
theorem E_X6_bestFor_3 : AW X d 90 3 [l0, l1, l2, l3, l4, l5] (.int x :: S) st P = AW X d 90 5 [l0, l1, l2, l3, .int x, l5] S st P := zAW_st (zd_of zb_X6_bestFor dX6_bestFor_3) rfl rfl
theorem E_X6_bestFor_5 : AW X d 90 5 [l0, l1, l2, l3, .int x, l5] S st P = AW X d 90 7 [l0, l1, l2, l3, .int x, l5] (.int x :: S) st P := zAW_st (zd_of zb_X6_bestFor dX6_bestFor_5) rfl rfl
theorem E_X6_bestFor_7 : AW X d 90 7 [.ref a, l1, l2, l3, l4, l5] S st P = AW X d 90 8 [.ref a, l1, l2, l3, l4, l5] (.ref a :: S) st P := zAW_st (zd_of zb_X6_bestFor dX6_bestFor_7) rfl rfl
theorem E_X6_bestFor_7n : AW X d 90 7 [.null, l1, l2, l3, l4, l5] S st P = AW X d 90 8 [.null, l1, l2, l3, l4, l5] (.null :: S) st P := zAW_st (zd_of zb_X6_bestFor dX6_bestFor_7) rfl rfl
theorem E_X6_bestFor_8 : AW X d 90 8 [l0, l1, l2, l3, l4, l5] (.ref a :: S) st P = zwith (zget st a 7 14) fun v => AW X d 90 11 [l0, l1, l2, l3, l4, l5] (v :: S) st P := zq_getfield (zd_of zb_X6_bestFor dX6_bestFor_8) zo_X6_bestFor zf_6_115
theorem E_X6_bestFor_11 : AW X d 90 11 [l0, l1, l2, l3, l4, l5] (.int y :: .int x :: S) st P = if y ≤ x then AW X d 90 106 [l0, l1, l2, l3, l4, l5] S st P else AW X d 90 14 [l0, l1, l2, l3, l4, l5] S st P := zq_icmp (c := y ≤ x) (zd_of zb_X6_bestFor dX6_bestFor_11) (by decide) rfl
theorem E_X6_bestFor_14 : AW X d 90 14 [.ref a, l1, l2, l3, l4, l5] S st P = AW X d 90 15 [.ref a, l1, l2, l3, l4, l5] (.ref a :: S) st P := zAW_st (zd_of zb_X6_bestFor dX6_bestFor_14) rfl rfl
theorem E_X6_bestFor_14n : AW X d 90 14 [.null, l1, l2, l3, l4, l5] S st P = AW X d 90 15 [.null, l1, l2, l3, l4, l5] (.null :: S) st P := zAW_st (zd_of zb_X6_bestFor dX6_bestFor_14) rfl rfl
theorem E_X6_bestFor_15 : AW X d 90 15 [l0, l1, l2, l3, l4, l5] (.ref a :: S) st P = zwith (zget st a 7 12) fun v => AW X d 90 18 [l0, l1, l2, l3, l4, l5] (v :: S) st P := zq_getfield (zd_of zb_X6_bestFor dX6_bestFor_15) zo_X6_bestFor zf_6_43
theorem E_X6_bestFor_18 : AW X d 90 18 [l0, l1, l2, l3, .int x, l5] S st P = AW X d 90 20 [l0, l1, l2, l3, .int x, l5] (.int x :: S) st P := zAW_st (zd_of zb_X6_bestFor dX6_bestFor_18) rfl rfl
theorem E_X6_bestFor_20 : AW X d 90 20 [l0, l1, l2, l3, l4, l5] (.int x :: .ref a :: S) st P = zwith (zai X st a) fun q => zwith (zix x q.1) fun j => AW X d 90 21 [l0, l1, l2, l3, l4, l5] (.int (q.2 j) :: S) st P := zq_iaload (zd_of zb_X6_bestFor dX6_bestFor_20)
theorem E_X6_bestFor_21 : AW X d 90 21 [l0, l1, l2, l3, l4, l5] (.int x :: S) st P = if ¬ x = 0 then AW X d 90 50 [l0, l1, l2, l3, l4, l5] S st P else AW X d 90 24 [l0, l1, l2, l3, l4, l5] S st P := zq_if (c := ¬ x = 0) (zd_of zb_X6_bestFor dX6_bestFor_21) (by decide) rfl
theorem E_X6_bestFor_24 : AW X d 90 24 [.ref a, l1, l2, l3, l4, l5] S st P = AW X d 90 25 [.ref a, l1, l2, l3, l4, l5] (.ref a :: S) st P := zAW_st (zd_of zb_X6_bestFor dX6_bestFor_24) rfl rfl
theorem E_X6_bestFor_24n : AW X d 90 24 [.null, l1, l2, l3, l4, l5] S st P = AW X d 90 25 [.null, l1, l2, l3, l4, l5] (.null :: S) st P := zAW_st (zd_of zb_X6_bestFor dX6_bestFor_24) rfl rfl
theorem E_X6_bestFor_25 : AW X d 90 25 [l0, l1, l2, l3, l4, l5] (.ref a :: S) st P = zwith (zget st a 7 10) fun v => AW X d 90 28 [l0, l1, l2, l3, l4, l5] (v :: S) st P := zq_getfield (zd_of zb_X6_bestFor dX6_bestFor_25) zo_X6_bestFor zf_6_37
theorem E_X6_bestFor_28 : AW X d 90 28 [l0, l1, l2, l3, .int x, l5] S st P = AW X d 90 30 [l0, l1, l2, l3, .int x, l5] (.int x :: S) st P := zAW_st (zd_of zb_X6_bestFor dX6_bestFor_28) rfl rfl
theorem E_X6_bestFor_30 : AW X d 90 30 [l0, l1, l2, l3, l4, l5] (.int x :: .ref a :: S) st P = zwith (zai X st a) fun q => zwith (zix x q.1) fun j => AW X d 90 31 [l0, l1, l2, l3, l4, l5] (.int (q.2 j) :: S) st P := zq_iaload (zd_of zb_X6_bestFor dX6_bestFor_30)
theorem E_X6_bestFor_31 : AW X d 90 31 [l0, .int x, l2, l3, l4, l5] S st P = AW X d 90 32 [l0, .int x, l2, l3, l4, l5] (.int x :: S) st P := zAW_st (zd_of zb_X6_bestFor dX6_bestFor_31) rfl rfl
theorem E_X6_bestFor_32 : AW X d 90 32 [l0, l1, l2, l3, l4, l5] (.int y :: .int x :: S) st P = if x < y then AW X d 90 50 [l0, l1, l2, l3, l4, l5] S st P else AW X d 90 35 [l0, l1, l2, l3, l4, l5] S st P := zq_icmp (c := x < y) (zd_of zb_X6_bestFor dX6_bestFor_32) (by decide) rfl
theorem E_X6_bestFor_35 : AW X d 90 35 [.ref a, l1, l2, l3, l4, l5] S st P = AW X d 90 36 [.ref a, l1, l2, l3, l4, l5] (.ref a :: S) st P := zAW_st (zd_of zb_X6_bestFor dX6_bestFor_35) rfl rfl
theorem E_X6_bestFor_35n : AW X d 90 35 [.null, l1, l2, l3, l4, l5] S st P = AW X d 90 36 [.null, l1, l2, l3, l4, l5] (.null :: S) st P := zAW_st (zd_of zb_X6_bestFor dX6_bestFor_35) rfl rfl
theorem E_X6_bestFor_36 : AW X d 90 36 [l0, l1, l2, l3, l4, l5] (.ref a :: S) st P = zwith (zget st a 7 11) fun v => AW X d 90 39 [l0, l1, l2, l3, l4, l5] (v :: S) st P := zq_getfield (zd_of zb_X6_bestFor dX6_bestFor_36) zo_X6_bestFor zf_6_40
theorem E_X6_bestFor_39 : AW X d 90 39 [l0, l1, l2, l3, .int x, l5] S st P = AW X d 90 41 [l0, l1, l2, l3, .int x, l5] (.int x :: S) st P := zAW_st (zd_of zb_X6_bestFor dX6_bestFor_39) rfl rfl
theorem E_X6_bestFor_41 : AW X d 90 41 [l0, l1, l2, l3, l4, l5] (.int x :: .ref a :: S) st P = zwith (zai X st a) fun q => zwith (zix x q.1) fun j => AW X d 90 42 [l0, l1, l2, l3, l4, l5] (.int (q.2 j) :: S) st P := zq_iaload (zd_of zb_X6_bestFor dX6_bestFor_41)
theorem E_X6_bestFor_42 : AW X d 90 42 [l0, l1, .int x, l3, l4, l5] S st P = AW X d 90 43 [l0, l1, .int x, l3, l4, l5] (.int x :: S) st P := zAW_st (zd_of zb_X6_bestFor dX6_bestFor_42) rfl rfl
theorem E_X6_bestFor_43 : AW X d 90 43 [l0, l1, l2, l3, l4, l5] (.int y :: .int x :: S) st P = if x < y then AW X d 90 50 [l0, l1, l2, l3, l4, l5] S st P else AW X d 90 46 [l0, l1, l2, l3, l4, l5] S st P := zq_icmp (c := x < y) (zd_of zb_X6_bestFor dX6_bestFor_43) (by decide) rfl
theorem E_X6_bestFor_46 : AW X d 90 46 [l0, l1, l2, l3, l4, l5] S st P = AW X d 90 47 [l0, l1, l2, l3, l4, l5] (.int 1 :: S) st P := zq_iconst (zd_of zb_X6_bestFor dX6_bestFor_46) (by decide)
theorem E_X6_bestFor_47 : AW X d 90 47 [l0, l1, l2, l3, l4, l5] S st P = AW X d 90 51 [l0, l1, l2, l3, l4, l5] S st P := zq_goto (zd_of zb_X6_bestFor dX6_bestFor_47) (by decide)
theorem E_X6_bestFor_50 : AW X d 90 50 [l0, l1, l2, l3, l4, l5] S st P = AW X d 90 51 [l0, l1, l2, l3, l4, l5] (.int 0 :: S) st P := zq_iconst (zd_of zb_X6_bestFor dX6_bestFor_50) (by decide)
theorem E_X6_bestFor_51 : AW X d 90 51 [l0, l1, l2, l3, l4, l5] (.int x :: S) st P = AW X d 90 53 [l0, l1, l2, l3, l4, .int x] S st P := zAW_st (zd_of zb_X6_bestFor dX6_bestFor_51) rfl rfl
theorem E_X6_bestFor_53 : AW X d 90 53 [l0, l1, l2, l3, l4, .int x] S st P = AW X d 90 55 [l0, l1, l2, l3, l4, .int x] (.int x :: S) st P := zAW_st (zd_of zb_X6_bestFor dX6_bestFor_53) rfl rfl
theorem E_X6_bestFor_55 : AW X d 90 55 [l0, l1, l2, l3, l4, l5] (.int x :: S) st P = if x = 0 then AW X d 90 98 [l0, l1, l2, l3, l4, l5] S st P else AW X d 90 58 [l0, l1, l2, l3, l4, l5] S st P := zq_if (c := x = 0) (zd_of zb_X6_bestFor dX6_bestFor_55) (by decide) rfl
theorem E_X6_bestFor_58 : AW X d 90 58 [l0, l1, l2, .int x, l4, l5] S st P = AW X d 90 59 [l0, l1, l2, .int x, l4, l5] (.int x :: S) st P := zAW_st (zd_of zb_X6_bestFor dX6_bestFor_58) rfl rfl
theorem E_X6_bestFor_59 : AW X d 90 59 [l0, l1, l2, l3, l4, l5] (.int x :: S) st P = if x < 0 then AW X d 90 93 [l0, l1, l2, l3, l4, l5] S st P else AW X d 90 62 [l0, l1, l2, l3, l4, l5] S st P := zq_if (c := x < 0) (zd_of zb_X6_bestFor dX6_bestFor_59) (by decide) rfl
theorem E_X6_bestFor_62 : AW X d 90 62 [.ref a, l1, l2, l3, l4, l5] S st P = AW X d 90 63 [.ref a, l1, l2, l3, l4, l5] (.ref a :: S) st P := zAW_st (zd_of zb_X6_bestFor dX6_bestFor_62) rfl rfl
theorem E_X6_bestFor_62n : AW X d 90 62 [.null, l1, l2, l3, l4, l5] S st P = AW X d 90 63 [.null, l1, l2, l3, l4, l5] (.null :: S) st P := zAW_st (zd_of zb_X6_bestFor dX6_bestFor_62) rfl rfl
theorem E_X6_bestFor_63 : AW X d 90 63 [l0, l1, l2, l3, l4, l5] (.ref a :: S) st P = zwith (zget st a 7 10) fun v => AW X d 90 66 [l0, l1, l2, l3, l4, l5] (v :: S) st P := zq_getfield (zd_of zb_X6_bestFor dX6_bestFor_63) zo_X6_bestFor zf_6_37
theorem E_X6_bestFor_66 : AW X d 90 66 [l0, l1, l2, l3, .int x, l5] S st P = AW X d 90 68 [l0, l1, l2, l3, .int x, l5] (.int x :: S) st P := zAW_st (zd_of zb_X6_bestFor dX6_bestFor_66) rfl rfl
theorem E_X6_bestFor_68 : AW X d 90 68 [l0, l1, l2, l3, l4, l5] (.int x :: .ref a :: S) st P = zwith (zai X st a) fun q => zwith (zix x q.1) fun j => AW X d 90 69 [l0, l1, l2, l3, l4, l5] (.int (q.2 j) :: S) st P := zq_iaload (zd_of zb_X6_bestFor dX6_bestFor_68)
theorem E_X6_bestFor_69 : AW X d 90 69 [.ref a, l1, l2, l3, l4, l5] S st P = AW X d 90 70 [.ref a, l1, l2, l3, l4, l5] (.ref a :: S) st P := zAW_st (zd_of zb_X6_bestFor dX6_bestFor_69) rfl rfl
theorem E_X6_bestFor_69n : AW X d 90 69 [.null, l1, l2, l3, l4, l5] S st P = AW X d 90 70 [.null, l1, l2, l3, l4, l5] (.null :: S) st P := zAW_st (zd_of zb_X6_bestFor dX6_bestFor_69) rfl rfl
theorem E_X6_bestFor_70 : AW X d 90 70 [l0, l1, l2, l3, l4, l5] (.ref a :: S) st P = zwith (zget st a 7 11) fun v => AW X d 90 73 [l0, l1, l2, l3, l4, l5] (v :: S) st P := zq_getfield (zd_of zb_X6_bestFor dX6_bestFor_70) zo_X6_bestFor zf_6_40
theorem E_X6_bestFor_73 : AW X d 90 73 [l0, l1, l2, l3, .int x, l5] S st P = AW X d 90 75 [l0, l1, l2, l3, .int x, l5] (.int x :: S) st P := zAW_st (zd_of zb_X6_bestFor dX6_bestFor_73) rfl rfl
theorem E_X6_bestFor_75 : AW X d 90 75 [l0, l1, l2, l3, l4, l5] (.int x :: .ref a :: S) st P = zwith (zai X st a) fun q => zwith (zix x q.1) fun j => AW X d 90 76 [l0, l1, l2, l3, l4, l5] (.int (q.2 j) :: S) st P := zq_iaload (zd_of zb_X6_bestFor dX6_bestFor_75)
theorem E_X6_bestFor_76 : AW X d 90 76 [l0, l1, l2, l3, l4, l5] (.int y :: .int x :: S) st P = AW X d 90 77 [l0, l1, l2, l3, l4, l5] (.int (x * y) :: S) st P := zAW_st (zd_of zb_X6_bestFor dX6_bestFor_76) rfl rfl
theorem E_X6_bestFor_77 : AW X d 90 77 [.ref a, l1, l2, l3, l4, l5] S st P = AW X d 90 78 [.ref a, l1, l2, l3, l4, l5] (.ref a :: S) st P := zAW_st (zd_of zb_X6_bestFor dX6_bestFor_77) rfl rfl
theorem E_X6_bestFor_77n : AW X d 90 77 [.null, l1, l2, l3, l4, l5] S st P = AW X d 90 78 [.null, l1, l2, l3, l4, l5] (.null :: S) st P := zAW_st (zd_of zb_X6_bestFor dX6_bestFor_77) rfl rfl
theorem E_X6_bestFor_78 : AW X d 90 78 [l0, l1, l2, l3, l4, l5] (.ref a :: S) st P = zwith (zget st a 7 10) fun v => AW X d 90 81 [l0, l1, l2, l3, l4, l5] (v :: S) st P := zq_getfield (zd_of zb_X6_bestFor dX6_bestFor_78) zo_X6_bestFor zf_6_37
theorem E_X6_bestFor_81 : AW X d 90 81 [l0, l1, l2, .int x, l4, l5] S st P = AW X d 90 82 [l0, l1, l2, .int x, l4, l5] (.int x :: S) st P := zAW_st (zd_of zb_X6_bestFor dX6_bestFor_81) rfl rfl
theorem E_X6_bestFor_82 : AW X d 90 82 [l0, l1, l2, l3, l4, l5] (.int x :: .ref a :: S) st P = zwith (zai X st a) fun q => zwith (zix x q.1) fun j => AW X d 90 83 [l0, l1, l2, l3, l4, l5] (.int (q.2 j) :: S) st P := zq_iaload (zd_of zb_X6_bestFor dX6_bestFor_82)
theorem E_X6_bestFor_83 : AW X d 90 83 [.ref a, l1, l2, l3, l4, l5] S st P = AW X d 90 84 [.ref a, l1, l2, l3, l4, l5] (.ref a :: S) st P := zAW_st (zd_of zb_X6_bestFor dX6_bestFor_83) rfl rfl
theorem E_X6_bestFor_83n : AW X d 90 83 [.null, l1, l2, l3, l4, l5] S st P = AW X d 90 84 [.null, l1, l2, l3, l4, l5] (.null :: S) st P := zAW_st (zd_of zb_X6_bestFor dX6_bestFor_83) rfl rfl
theorem E_X6_bestFor_84 : AW X d 90 84 [l0, l1, l2, l3, l4, l5] (.ref a :: S) st P = zwith (zget st a 7 11) fun v => AW X d 90 87 [l0, l1, l2, l3, l4, l5] (v :: S) st P := zq_getfield (zd_of zb_X6_bestFor dX6_bestFor_84) zo_X6_bestFor zf_6_40
theorem E_X6_bestFor_87 : AW X d 90 87 [l0, l1, l2, .int x, l4, l5] S st P = AW X d 90 88 [l0, l1, l2, .int x, l4, l5] (.int x :: S) st P := zAW_st (zd_of zb_X6_bestFor dX6_bestFor_87) rfl rfl
theorem E_X6_bestFor_88 : AW X d 90 88 [l0, l1, l2, l3, l4, l5] (.int x :: .ref a :: S) st P = zwith (zai X st a) fun q => zwith (zix x q.1) fun j => AW X d 90 89 [l0, l1, l2, l3, l4, l5] (.int (q.2 j) :: S) st P := zq_iaload (zd_of zb_X6_bestFor dX6_bestFor_88)
theorem E_X6_bestFor_89 : AW X d 90 89 [l0, l1, l2, l3, l4, l5] (.int y :: .int x :: S) st P = AW X d 90 90 [l0, l1, l2, l3, l4, l5] (.int (x * y) :: S) st P := zAW_st (zd_of zb_X6_bestFor dX6_bestFor_89) rfl rfl
theorem E_X6_bestFor_90 : AW X d 90 90 [l0, l1, l2, l3, l4, l5] (.int y :: .int x :: S) st P = if y ≤ x then AW X d 90 98 [l0, l1, l2, l3, l4, l5] S st P else AW X d 90 93 [l0, l1, l2, l3, l4, l5] S st P := zq_icmp (c := y ≤ x) (zd_of zb_X6_bestFor dX6_bestFor_90) (by decide) rfl
theorem E_X6_bestFor_93 : AW X d 90 93 [l0, l1, l2, l3, .int x, l5] S st P = AW X d 90 95 [l0, l1, l2, l3, .int x, l5] (.int x :: S) st P := zAW_st (zd_of zb_X6_bestFor dX6_bestFor_93) rfl rfl
theorem E_X6_bestFor_95 : AW X d 90 95 [l0, l1, l2, l3, l4, l5] S st P = AW X d 90 99 [l0, l1, l2, l3, l4, l5] S st P := zq_goto (zd_of zb_X6_bestFor dX6_bestFor_95) (by decide)
theorem E_X6_bestFor_98 : AW X d 90 98 [l0, l1, l2, .int x, l4, l5] S st P = AW X d 90 99 [l0, l1, l2, .int x, l4, l5] (.int x :: S) st P := zAW_st (zd_of zb_X6_bestFor dX6_bestFor_98) rfl rfl
theorem E_X6_bestFor_99 : AW X d 90 99 [l0, l1, l2, l3, l4, l5] (.int x :: S) st P = AW X d 90 100 [l0, l1, l2, .int x, l4, l5] S st P := zAW_st (zd_of zb_X6_bestFor dX6_bestFor_99) rfl rfl
theorem E_X6_bestFor_100 : AW X d 90 100 [l0, l1, l2, l3, .int x, l5] S st P = AW X d 90 103 [l0, l1, l2, l3, .int (x + 1), l5] S st P := zq_iinc (zd_of zb_X6_bestFor dX6_bestFor_100) rfl (by decide)
theorem E_X6_bestFor_103 : AW X d 90 103 [l0, l1, l2, l3, l4, l5] S st P = AW X d 90 5 [l0, l1, l2, l3, l4, l5] S st P := zq_goto (zd_of zb_X6_bestFor dX6_bestFor_103) (by decide)
theorem E_X6_bestFor_106 : AW X d 90 106 [l0, l1, l2, .int x, l4, l5] S st P = AW X d 90 107 [l0, l1, l2, .int x, l4, l5] (.int x :: S) st P := zAW_st (zd_of zb_X6_bestFor dX6_bestFor_106) rfl rfl
theorem E_X6_bestFor_107 : AW X d 90 107 [l0, l1, l2, l3, l4, l5] ([.int x]) st P = P (.inl (some (.int x))) st := zAW_ret (w := (.inl (some (.int x)), st)) (zd_of zb_X6_bestFor dX6_bestFor_107) rfl rfl (by simp only [zfin, zr_X6_bestFor])
theorem A_X6_bestFor : AC X (d + 1) 90 [.ref a, .int x, .int y] st P = AW X d 90 0 [.ref a, .int x, .int y, .retAddr 0, .retAddr 0, .retAddr 0] [] st P := AC_eq ⟨⟨(show 3 ≤ zml 90 by decide +kernel), by decide +kernel⟩, by simp [zc1_int, zc1_ref, zc1_float]⟩
theorem E_X6_lays_0 : AW X d 91 0 [.ref a, l1, l2, l3, l4, l5, l6, l7] S st P = AW X d 91 1 [.ref a, l1, l2, l3, l4, l5, l6, l7] (.ref a :: S) st P := zAW_st (zd_of zb_X6_lays dX6_lays_0) rfl rfl
theorem E_X6_lays_0n : AW X d 91 0 [.null, l1, l2, l3, l4, l5, l6, l7] S st P = AW X d 91 1 [.null, l1, l2, l3, l4, l5, l6, l7] (.null :: S) st P := zAW_st (zd_of zb_X6_lays dX6_lays_0) rfl rfl
theorem E_X6_lays_1 : AW X d 91 1 [l0, .int x, l2, l3, l4, l5, l6, l7] S st P = AW X d 91 2 [l0, .int x, l2, l3, l4, l5, l6, l7] (.int x :: S) st P := zAW_st (zd_of zb_X6_lays dX6_lays_1) rfl rfl
theorem E_X6_lays_2 : AW X d 91 2 [l0, l1, .int x, l3, l4, l5, l6, l7] S st P = AW X d 91 3 [l0, l1, .int x, l3, l4, l5, l6, l7] (.int x :: S) st P := zAW_st (zd_of zb_X6_lays dX6_lays_2) rfl rfl
theorem E_X6_lays_3 : AW X d 91 3 [l0, l1, l2, l3, l4, l5, l6, l7] (.int y :: .int x :: .ref a :: S) st P = zif (zis st a 7 = true) (zif (S.length ≤ 4) (AC X d 90 [.ref a, .int x, .int y] st (zaft X d 91 3 [l0, l1, l2, l3, l4, l5, l6, l7] S P))) := zq_callV (B := [.int x, .int y]) (zd_of zb_X6_lays dX6_lays_3) zo_X6_lays (by decide) zl_6_125 zn_90 rfl rfl rfl
theorem E_X6_lays_6 : AW X d 91 6 [l0, l1, l2, l3, l4, l5, l6, l7] (.int x :: S) st P = AW X d 91 7 [l0, l1, l2, .int x, l4, l5, l6, l7] S st P := zAW_st (zd_of zb_X6_lays dX6_lays_6) rfl rfl
theorem E_X6_lays_7 : AW X d 91 7 [l0, l1, l2, .int x, l4, l5, l6, l7] S st P = AW X d 91 8 [l0, l1, l2, .int x, l4, l5, l6, l7] (.int x :: S) st P := zAW_st (zd_of zb_X6_lays dX6_lays_7) rfl rfl
theorem E_X6_lays_8 : AW X d 91 8 [l0, l1, l2, l3, l4, l5, l6, l7] (.int x :: S) st P = if 0 ≤ x then AW X d 91 13 [l0, l1, l2, l3, l4, l5, l6, l7] S st P else AW X d 91 11 [l0, l1, l2, l3, l4, l5, l6, l7] S st P := zq_if (c := 0 ≤ x) (zd_of zb_X6_lays dX6_lays_8) (by decide) rfl
theorem E_X6_lays_11 : AW X d 91 11 [l0, l1, l2, l3, l4, l5, l6, l7] S st P = AW X d 91 12 [l0, l1, l2, l3, l4, l5, l6, l7] (.int (-1) :: S) st P := zq_iconst (zd_of zb_X6_lays dX6_lays_11) (by decide)
theorem E_X6_lays_12 : AW X d 91 12 [l0, l1, l2, l3, l4, l5, l6, l7] ([.int x]) st P = P (.inl (some (.int x))) st := zAW_ret (w := (.inl (some (.int x)), st)) (zd_of zb_X6_lays dX6_lays_12) rfl rfl (by simp only [zfin, zr_X6_lays])
theorem E_X6_lays_13 : AW X d 91 13 [.ref a, l1, l2, l3, l4, l5, l6, l7] S st P = AW X d 91 14 [.ref a, l1, l2, l3, l4, l5, l6, l7] (.ref a :: S) st P := zAW_st (zd_of zb_X6_lays dX6_lays_13) rfl rfl
theorem E_X6_lays_13n : AW X d 91 13 [.null, l1, l2, l3, l4, l5, l6, l7] S st P = AW X d 91 14 [.null, l1, l2, l3, l4, l5, l6, l7] (.null :: S) st P := zAW_st (zd_of zb_X6_lays dX6_lays_13) rfl rfl
theorem E_X6_lays_14 : AW X d 91 14 [l0, l1, l2, l3, l4, l5, l6, l7] (.ref a :: S) st P = zwith (zget st a 7 10) fun v => AW X d 91 17 [l0, l1, l2, l3, l4, l5, l6, l7] (v :: S) st P := zq_getfield (zd_of zb_X6_lays dX6_lays_14) zo_X6_lays zf_6_37
theorem E_X6_lays_17 : AW X d 91 17 [l0, l1, l2, .int x, l4, l5, l6, l7] S st P = AW X d 91 18 [l0, l1, l2, .int x, l4, l5, l6, l7] (.int x :: S) st P := zAW_st (zd_of zb_X6_lays dX6_lays_17) rfl rfl
theorem E_X6_lays_18 : AW X d 91 18 [l0, l1, l2, l3, l4, l5, l6, l7] (.int x :: .ref a :: S) st P = zwith (zai X st a) fun q => zwith (zix x q.1) fun j => AW X d 91 19 [l0, l1, l2, l3, l4, l5, l6, l7] (.int (q.2 j) :: S) st P := zq_iaload (zd_of zb_X6_lays dX6_lays_18)
theorem E_X6_lays_19 : AW X d 91 19 [l0, .int x, l2, l3, l4, l5, l6, l7] S st P = AW X d 91 20 [l0, .int x, l2, l3, l4, l5, l6, l7] (.int x :: S) st P := zAW_st (zd_of zb_X6_lays dX6_lays_19) rfl rfl
theorem E_X6_lays_20 : AW X d 91 20 [l0, l1, l2, l3, l4, l5, l6, l7] (.int y :: .int x :: S) st P = if x ≤ y then AW X d 91 27 [l0, l1, l2, l3, l4, l5, l6, l7] S st P else AW X d 91 23 [l0, l1, l2, l3, l4, l5, l6, l7] S st P := zq_icmp (c := x ≤ y) (zd_of zb_X6_lays dX6_lays_20) (by decide) rfl
theorem E_X6_lays_23 : AW X d 91 23 [l0, l1, l2, l3, l4, l5, l6, l7] S st P = AW X d 91 24 [l0, l1, l2, l3, l4, l5, l6, l7] (.int 1 :: S) st P := zq_iconst (zd_of zb_X6_lays dX6_lays_23) (by decide)
theorem E_X6_lays_24 : AW X d 91 24 [l0, l1, l2, l3, l4, l5, l6, l7] S st P = AW X d 91 28 [l0, l1, l2, l3, l4, l5, l6, l7] S st P := zq_goto (zd_of zb_X6_lays dX6_lays_24) (by decide)
theorem E_X6_lays_27 : AW X d 91 27 [l0, l1, l2, l3, l4, l5, l6, l7] S st P = AW X d 91 28 [l0, l1, l2, l3, l4, l5, l6, l7] (.int 0 :: S) st P := zq_iconst (zd_of zb_X6_lays dX6_lays_27) (by decide)
theorem E_X6_lays_28 : AW X d 91 28 [l0, l1, l2, l3, l4, l5, l6, l7] (.int x :: S) st P = AW X d 91 30 [l0, l1, l2, l3, .int x, l5, l6, l7] S st P := zAW_st (zd_of zb_X6_lays dX6_lays_28) rfl rfl
theorem E_X6_lays_30 : AW X d 91 30 [.ref a, l1, l2, l3, l4, l5, l6, l7] S st P = AW X d 91 31 [.ref a, l1, l2, l3, l4, l5, l6, l7] (.ref a :: S) st P := zAW_st (zd_of zb_X6_lays dX6_lays_30) rfl rfl
theorem E_X6_lays_30n : AW X d 91 30 [.null, l1, l2, l3, l4, l5, l6, l7] S st P = AW X d 91 31 [.null, l1, l2, l3, l4, l5, l6, l7] (.null :: S) st P := zAW_st (zd_of zb_X6_lays dX6_lays_30) rfl rfl
theorem E_X6_lays_31 : AW X d 91 31 [l0, l1, l2, l3, l4, l5, l6, l7] (.ref a :: S) st P = zwith (zget st a 7 11) fun v => AW X d 91 34 [l0, l1, l2, l3, l4, l5, l6, l7] (v :: S) st P := zq_getfield (zd_of zb_X6_lays dX6_lays_31) zo_X6_lays zf_6_40
theorem E_X6_lays_34 : AW X d 91 34 [l0, l1, l2, .int x, l4, l5, l6, l7] S st P = AW X d 91 35 [l0, l1, l2, .int x, l4, l5, l6, l7] (.int x :: S) st P := zAW_st (zd_of zb_X6_lays dX6_lays_34) rfl rfl
theorem E_X6_lays_35 : AW X d 91 35 [l0, l1, l2, l3, l4, l5, l6, l7] (.int x :: .ref a :: S) st P = zwith (zai X st a) fun q => zwith (zix x q.1) fun j => AW X d 91 36 [l0, l1, l2, l3, l4, l5, l6, l7] (.int (q.2 j) :: S) st P := zq_iaload (zd_of zb_X6_lays dX6_lays_35)
theorem E_X6_lays_36 : AW X d 91 36 [l0, l1, .int x, l3, l4, l5, l6, l7] S st P = AW X d 91 37 [l0, l1, .int x, l3, l4, l5, l6, l7] (.int x :: S) st P := zAW_st (zd_of zb_X6_lays dX6_lays_36) rfl rfl
theorem E_X6_lays_37 : AW X d 91 37 [l0, l1, l2, l3, l4, l5, l6, l7] (.int y :: .int x :: S) st P = if x ≤ y then AW X d 91 44 [l0, l1, l2, l3, l4, l5, l6, l7] S st P else AW X d 91 40 [l0, l1, l2, l3, l4, l5, l6, l7] S st P := zq_icmp (c := x ≤ y) (zd_of zb_X6_lays dX6_lays_37) (by decide) rfl
theorem E_X6_lays_40 : AW X d 91 40 [l0, l1, l2, l3, l4, l5, l6, l7] S st P = AW X d 91 41 [l0, l1, l2, l3, l4, l5, l6, l7] (.int 1 :: S) st P := zq_iconst (zd_of zb_X6_lays dX6_lays_40) (by decide)
theorem E_X6_lays_41 : AW X d 91 41 [l0, l1, l2, l3, l4, l5, l6, l7] S st P = AW X d 91 45 [l0, l1, l2, l3, l4, l5, l6, l7] S st P := zq_goto (zd_of zb_X6_lays dX6_lays_41) (by decide)
theorem E_X6_lays_44 : AW X d 91 44 [l0, l1, l2, l3, l4, l5, l6, l7] S st P = AW X d 91 45 [l0, l1, l2, l3, l4, l5, l6, l7] (.int 0 :: S) st P := zq_iconst (zd_of zb_X6_lays dX6_lays_44) (by decide)
theorem E_X6_lays_45 : AW X d 91 45 [l0, l1, l2, l3, l4, l5, l6, l7] (.int x :: S) st P = AW X d 91 47 [l0, l1, l2, l3, l4, .int x, l6, l7] S st P := zAW_st (zd_of zb_X6_lays dX6_lays_45) rfl rfl
theorem E_X6_lays_47 : AW X d 91 47 [.ref a, l1, l2, l3, l4, l5, l6, l7] S st P = AW X d 91 48 [.ref a, l1, l2, l3, l4, l5, l6, l7] (.ref a :: S) st P := zAW_st (zd_of zb_X6_lays dX6_lays_47) rfl rfl
theorem E_X6_lays_47n : AW X d 91 47 [.null, l1, l2, l3, l4, l5, l6, l7] S st P = AW X d 91 48 [.null, l1, l2, l3, l4, l5, l6, l7] (.null :: S) st P := zAW_st (zd_of zb_X6_lays dX6_lays_47) rfl rfl
theorem E_X6_lays_48 : AW X d 91 48 [l0, l1, l2, l3, l4, l5, l6, l7] (.ref a :: S) st P = zwith (zget st a 7 14) fun v => AW X d 91 51 [l0, l1, l2, l3, l4, l5, l6, l7] (v :: S) st P := zq_getfield (zd_of zb_X6_lays dX6_lays_48) zo_X6_lays zf_6_115
theorem E_X6_lays_51 : AW X d 91 51 [l0, l1, l2, l3, l4, l5, l6, l7] S st P = AW X d 91 52 [l0, l1, l2, l3, l4, l5, l6, l7] (.int 1 :: S) st P := zq_iconst (zd_of zb_X6_lays dX6_lays_51) (by decide)
theorem E_X6_lays_52 : AW X d 91 52 [l0, l1, l2, l3, l4, l5, l6, l7] (.int y :: .int x :: S) st P = AW X d 91 53 [l0, l1, l2, l3, l4, l5, l6, l7] (.int (x + y) :: S) st P := zAW_st (zd_of zb_X6_lays dX6_lays_52) rfl rfl
theorem E_X6_lays_53 : AW X d 91 53 [l0, l1, l2, l3, .int x, l5, l6, l7] S st P = AW X d 91 55 [l0, l1, l2, l3, .int x, l5, l6, l7] (.int x :: S) st P := zAW_st (zd_of zb_X6_lays dX6_lays_53) rfl rfl
theorem E_X6_lays_55 : AW X d 91 55 [l0, l1, l2, l3, l4, l5, l6, l7] (.int x :: S) st P = if x = 0 then AW X d 91 62 [l0, l1, l2, l3, l4, l5, l6, l7] S st P else AW X d 91 58 [l0, l1, l2, l3, l4, l5, l6, l7] S st P := zq_if (c := x = 0) (zd_of zb_X6_lays dX6_lays_55) (by decide) rfl
theorem E_X6_lays_58 : AW X d 91 58 [l0, l1, l2, l3, l4, l5, l6, l7] S st P = AW X d 91 59 [l0, l1, l2, l3, l4, l5, l6, l7] (.int 1 :: S) st P := zq_iconst (zd_of zb_X6_lays dX6_lays_58) (by decide)
theorem E_X6_lays_59 : AW X d 91 59 [l0, l1, l2, l3, l4, l5, l6, l7] S st P = AW X d 91 63 [l0, l1, l2, l3, l4, l5, l6, l7] S st P := zq_goto (zd_of zb_X6_lays dX6_lays_59) (by decide)
theorem E_X6_lays_62 : AW X d 91 62 [l0, l1, l2, l3, l4, l5, l6, l7] S st P = AW X d 91 63 [l0, l1, l2, l3, l4, l5, l6, l7] (.int 0 :: S) st P := zq_iconst (zd_of zb_X6_lays dX6_lays_62) (by decide)
theorem E_X6_lays_63 : AW X d 91 63 [l0, l1, l2, l3, l4, l5, l6, l7] (.int y :: .int x :: S) st P = AW X d 91 64 [l0, l1, l2, l3, l4, l5, l6, l7] (.int (x + y) :: S) st P := zAW_st (zd_of zb_X6_lays dX6_lays_63) rfl rfl
theorem E_X6_lays_64 : AW X d 91 64 [l0, l1, l2, l3, l4, .int x, l6, l7] S st P = AW X d 91 66 [l0, l1, l2, l3, l4, .int x, l6, l7] (.int x :: S) st P := zAW_st (zd_of zb_X6_lays dX6_lays_64) rfl rfl
theorem E_X6_lays_66 : AW X d 91 66 [l0, l1, l2, l3, l4, l5, l6, l7] (.int x :: S) st P = if x = 0 then AW X d 91 73 [l0, l1, l2, l3, l4, l5, l6, l7] S st P else AW X d 91 69 [l0, l1, l2, l3, l4, l5, l6, l7] S st P := zq_if (c := x = 0) (zd_of zb_X6_lays dX6_lays_66) (by decide) rfl
theorem E_X6_lays_69 : AW X d 91 69 [l0, l1, l2, l3, l4, l5, l6, l7] S st P = AW X d 91 70 [l0, l1, l2, l3, l4, l5, l6, l7] (.int 1 :: S) st P := zq_iconst (zd_of zb_X6_lays dX6_lays_69) (by decide)
theorem E_X6_lays_70 : AW X d 91 70 [l0, l1, l2, l3, l4, l5, l6, l7] S st P = AW X d 91 74 [l0, l1, l2, l3, l4, l5, l6, l7] S st P := zq_goto (zd_of zb_X6_lays dX6_lays_70) (by decide)
theorem E_X6_lays_73 : AW X d 91 73 [l0, l1, l2, l3, l4, l5, l6, l7] S st P = AW X d 91 74 [l0, l1, l2, l3, l4, l5, l6, l7] (.int 0 :: S) st P := zq_iconst (zd_of zb_X6_lays dX6_lays_73) (by decide)
theorem E_X6_lays_74 : AW X d 91 74 [l0, l1, l2, l3, l4, l5, l6, l7] (.int y :: .int x :: S) st P = AW X d 91 75 [l0, l1, l2, l3, l4, l5, l6, l7] (.int (x + y) :: S) st P := zAW_st (zd_of zb_X6_lays dX6_lays_74) rfl rfl
theorem E_X6_lays_75 : AW X d 91 75 [l0, l1, l2, l3, l4, l5, l6, l7] S st P = AW X d 91 78 [l0, l1, l2, l3, l4, l5, l6, l7] (.int 400 :: S) st P := zq_sipush (zd_of zb_X6_lays dX6_lays_75) (by decide)
theorem E_X6_lays_78 : AW X d 91 78 [l0, l1, l2, l3, l4, l5, l6, l7] (.int y :: .int x :: S) st P = if x ≤ y then AW X d 91 83 [l0, l1, l2, l3, l4, l5, l6, l7] S st P else AW X d 91 81 [l0, l1, l2, l3, l4, l5, l6, l7] S st P := zq_icmp (c := x ≤ y) (zd_of zb_X6_lays dX6_lays_78) (by decide) rfl
theorem E_X6_lays_81 : AW X d 91 81 [l0, l1, l2, l3, l4, l5, l6, l7] S st P = AW X d 91 82 [l0, l1, l2, l3, l4, l5, l6, l7] (.int (-1) :: S) st P := zq_iconst (zd_of zb_X6_lays dX6_lays_81) (by decide)
theorem E_X6_lays_82 : AW X d 91 82 [l0, l1, l2, l3, l4, l5, l6, l7] ([.int x]) st P = P (.inl (some (.int x))) st := zAW_ret (w := (.inl (some (.int x)), st)) (zd_of zb_X6_lays dX6_lays_82) rfl rfl (by simp only [zfin, zr_X6_lays])
theorem E_X6_lays_83 : AW X d 91 83 [.ref a, l1, l2, l3, l4, l5, l6, l7] S st P = AW X d 91 84 [.ref a, l1, l2, l3, l4, l5, l6, l7] (.ref a :: S) st P := zAW_st (zd_of zb_X6_lays dX6_lays_83) rfl rfl
theorem E_X6_lays_83n : AW X d 91 83 [.null, l1, l2, l3, l4, l5, l6, l7] S st P = AW X d 91 84 [.null, l1, l2, l3, l4, l5, l6, l7] (.null :: S) st P := zAW_st (zd_of zb_X6_lays dX6_lays_83) rfl rfl
theorem E_X6_lays_84 : AW X d 91 84 [l0, l1, l2, l3, l4, l5, l6, l7] (.ref a :: S) st P = zwith (zget st a 7 12) fun v => AW X d 91 87 [l0, l1, l2, l3, l4, l5, l6, l7] (v :: S) st P := zq_getfield (zd_of zb_X6_lays dX6_lays_84) zo_X6_lays zf_6_43
theorem E_X6_lays_87 : AW X d 91 87 [l0, l1, l2, .int x, l4, l5, l6, l7] S st P = AW X d 91 88 [l0, l1, l2, .int x, l4, l5, l6, l7] (.int x :: S) st P := zAW_st (zd_of zb_X6_lays dX6_lays_87) rfl rfl
theorem E_X6_lays_88 : AW X d 91 88 [l0, l1, l2, l3, l4, l5, l6, l7] S st P = AW X d 91 89 [l0, l1, l2, l3, l4, l5, l6, l7] (.int 2 :: S) st P := zq_iconst (zd_of zb_X6_lays dX6_lays_88) (by decide)
theorem E_X6_lays_89 : AW X d 91 89 [l0, l1, l2, l3, l4, l5, l6, l7] (.int y :: .int x :: .ref a :: S) st P = zwith (zaI st a) fun q => zwith (zix x q.1) fun j => AW X d 91 90 [l0, l1, l2, l3, l4, l5, l6, l7] S (zsta st a (q.1, .inl (upd q.2 j y))) P := zq_iastore (zd_of zb_X6_lays dX6_lays_89)
theorem E_X6_lays_90 : AW X d 91 90 [.ref a, l1, l2, l3, l4, l5, l6, l7] S st P = AW X d 91 91 [.ref a, l1, l2, l3, l4, l5, l6, l7] (.ref a :: S) st P := zAW_st (zd_of zb_X6_lays dX6_lays_90) rfl rfl
theorem E_X6_lays_90n : AW X d 91 90 [.null, l1, l2, l3, l4, l5, l6, l7] S st P = AW X d 91 91 [.null, l1, l2, l3, l4, l5, l6, l7] (.null :: S) st P := zAW_st (zd_of zb_X6_lays dX6_lays_90) rfl rfl
theorem E_X6_lays_91 : AW X d 91 91 [.ref a, l1, l2, l3, l4, l5, l6, l7] S st P = AW X d 91 92 [.ref a, l1, l2, l3, l4, l5, l6, l7] (.ref a :: S) st P := zAW_st (zd_of zb_X6_lays dX6_lays_91) rfl rfl
theorem E_X6_lays_91n : AW X d 91 91 [.null, l1, l2, l3, l4, l5, l6, l7] S st P = AW X d 91 92 [.null, l1, l2, l3, l4, l5, l6, l7] (.null :: S) st P := zAW_st (zd_of zb_X6_lays dX6_lays_91) rfl rfl
theorem E_X6_lays_92 : AW X d 91 92 [l0, l1, l2, l3, l4, l5, l6, l7] (.ref a :: S) st P = zwith (zget st a 7 7) fun v => AW X d 91 95 [l0, l1, l2, l3, l4, l5, l6, l7] (v :: S) st P := zq_getfield (zd_of zb_X6_lays dX6_lays_92) zo_X6_lays zf_6_28
theorem E_X6_lays_95 : AW X d 91 95 [l0, l1, l2, .int x, l4, l5, l6, l7] S st P = AW X d 91 96 [l0, l1, l2, .int x, l4, l5, l6, l7] (.int x :: S) st P := zAW_st (zd_of zb_X6_lays dX6_lays_95) rfl rfl
theorem E_X6_lays_96 : AW X d 91 96 [l0, l1, l2, l3, l4, l5, l6, l7] (.int x :: .ref a :: S) st P = zwith (zai X st a) fun q => zwith (zix x q.1) fun j => AW X d 91 97 [l0, l1, l2, l3, l4, l5, l6, l7] (.int (q.2 j) :: S) st P := zq_iaload (zd_of zb_X6_lays dX6_lays_96)
theorem E_X6_lays_97 : AW X d 91 97 [.ref a, l1, l2, l3, l4, l5, l6, l7] S st P = AW X d 91 98 [.ref a, l1, l2, l3, l4, l5, l6, l7] (.ref a :: S) st P := zAW_st (zd_of zb_X6_lays dX6_lays_97) rfl rfl
theorem E_X6_lays_97n : AW X d 91 97 [.null, l1, l2, l3, l4, l5, l6, l7] S st P = AW X d 91 98 [.null, l1, l2, l3, l4, l5, l6, l7] (.null :: S) st P := zAW_st (zd_of zb_X6_lays dX6_lays_97) rfl rfl
theorem E_X6_lays_98 : AW X d 91 98 [l0, l1, l2, l3, l4, l5, l6, l7] (.ref a :: S) st P = zwith (zget st a 7 8) fun v => AW X d 91 101 [l0, l1, l2, l3, l4, l5, l6, l7] (v :: S) st P := zq_getfield (zd_of zb_X6_lays dX6_lays_98) zo_X6_lays zf_6_31
theorem E_X6_lays_101 : AW X d 91 101 [l0, l1, l2, .int x, l4, l5, l6, l7] S st P = AW X d 91 102 [l0, l1, l2, .int x, l4, l5, l6, l7] (.int x :: S) st P := zAW_st (zd_of zb_X6_lays dX6_lays_101) rfl rfl
theorem E_X6_lays_102 : AW X d 91 102 [l0, l1, l2, l3, l4, l5, l6, l7] (.int x :: .ref a :: S) st P = zwith (zai X st a) fun q => zwith (zix x q.1) fun j => AW X d 91 103 [l0, l1, l2, l3, l4, l5, l6, l7] (.int (q.2 j) :: S) st P := zq_iaload (zd_of zb_X6_lays dX6_lays_102)
theorem E_X6_lays_103 : AW X d 91 103 [.ref a, l1, l2, l3, l4, l5, l6, l7] S st P = AW X d 91 104 [.ref a, l1, l2, l3, l4, l5, l6, l7] (.ref a :: S) st P := zAW_st (zd_of zb_X6_lays dX6_lays_103) rfl rfl
theorem E_X6_lays_103n : AW X d 91 103 [.null, l1, l2, l3, l4, l5, l6, l7] S st P = AW X d 91 104 [.null, l1, l2, l3, l4, l5, l6, l7] (.null :: S) st P := zAW_st (zd_of zb_X6_lays dX6_lays_103) rfl rfl
theorem E_X6_lays_104 : AW X d 91 104 [l0, l1, l2, l3, l4, l5, l6, l7] (.ref a :: S) st P = zwith (zget st a 7 9) fun v => AW X d 91 107 [l0, l1, l2, l3, l4, l5, l6, l7] (v :: S) st P := zq_getfield (zd_of zb_X6_lays dX6_lays_104) zo_X6_lays zf_6_34
theorem E_X6_lays_107 : AW X d 91 107 [l0, l1, l2, .int x, l4, l5, l6, l7] S st P = AW X d 91 108 [l0, l1, l2, .int x, l4, l5, l6, l7] (.int x :: S) st P := zAW_st (zd_of zb_X6_lays dX6_lays_107) rfl rfl
theorem E_X6_lays_108 : AW X d 91 108 [l0, l1, l2, l3, l4, l5, l6, l7] (.int x :: .ref a :: S) st P = zwith (zai X st a) fun q => zwith (zix x q.1) fun j => AW X d 91 109 [l0, l1, l2, l3, l4, l5, l6, l7] (.int (q.2 j) :: S) st P := zq_iaload (zd_of zb_X6_lays dX6_lays_108)
theorem E_X6_lays_109 : AW X d 91 109 [l0, .int x, l2, l3, l4, l5, l6, l7] S st P = AW X d 91 110 [l0, .int x, l2, l3, l4, l5, l6, l7] (.int x :: S) st P := zAW_st (zd_of zb_X6_lays dX6_lays_109) rfl rfl
theorem E_X6_lays_110 : AW X d 91 110 [l0, l1, .int x, l3, l4, l5, l6, l7] S st P = AW X d 91 111 [l0, l1, .int x, l3, l4, l5, l6, l7] (.int x :: S) st P := zAW_st (zd_of zb_X6_lays dX6_lays_110) rfl rfl
theorem E_X6_lays_111 : AW X d 91 111 [l0, l1, l2, l3, l4, l5, l6, l7] S st P = AW X d 91 112 [l0, l1, l2, l3, l4, l5, l6, l7] (.int 1 :: S) st P := zq_iconst (zd_of zb_X6_lays dX6_lays_111) (by decide)
theorem E_X6_lays_112 : AW X d 91 112 [l0, l1, l2, .int x, l4, l5, l6, l7] S st P = AW X d 91 113 [l0, l1, l2, .int x, l4, l5, l6, l7] (.int x :: S) st P := zAW_st (zd_of zb_X6_lays dX6_lays_112) rfl rfl
theorem E_X6_lays_113 : AW X d 91 113 [l0, l1, l2, l3, l4, l5, l6, l7] (.int x7 :: .int x6 :: .int x5 :: .int x4 :: .int x3 :: .int y :: .int x :: .ref a :: S) st P = zif (zis st a 7 = true) (zif (S.length ≤ 4) (AC X d 88 [.ref a, .int x, .int y, .int x3, .int x4, .int x5, .int x6, .int x7] st (zaft X d 91 113 [l0, l1, l2, l3, l4, l5, l6, l7] S P))) := zq_callV (B := [.int x, .int y, .int x3, .int x4, .int x5, .int x6, .int x7]) (zd_of zb_X6_lays dX6_lays_113) zo_X6_lays (by decide) zl_6_121 zn_88 rfl rfl rfl
theorem E_X6_lays_116 : AW X d 91 116 [l0, l1, l2, l3, l4, l5, l6, l7] (.int x :: S) st P = AW X d 91 118 [l0, l1, l2, l3, l4, l5, .int x, l7] S st P := zAW_st (zd_of zb_X6_lays dX6_lays_116) rfl rfl
theorem E_X6_lays_118 : AW X d 91 118 [l0, l1, l2, l3, .int x, l5, l6, l7] S st P = AW X d 91 120 [l0, l1, l2, l3, .int x, l5, l6, l7] (.int x :: S) st P := zAW_st (zd_of zb_X6_lays dX6_lays_118) rfl rfl
theorem E_X6_lays_120 : AW X d 91 120 [l0, l1, l2, l3, l4, l5, l6, l7] (.int x :: S) st P = if x = 0 then AW X d 91 162 [l0, l1, l2, l3, l4, l5, l6, l7] S st P else AW X d 91 123 [l0, l1, l2, l3, l4, l5, l6, l7] S st P := zq_if (c := x = 0) (zd_of zb_X6_lays dX6_lays_120) (by decide) rfl
theorem E_X6_lays_123 : AW X d 91 123 [.ref a, l1, l2, l3, l4, l5, l6, l7] S st P = AW X d 91 124 [.ref a, l1, l2, l3, l4, l5, l6, l7] (.ref a :: S) st P := zAW_st (zd_of zb_X6_lays dX6_lays_123) rfl rfl
theorem E_X6_lays_123n : AW X d 91 123 [.null, l1, l2, l3, l4, l5, l6, l7] S st P = AW X d 91 124 [.null, l1, l2, l3, l4, l5, l6, l7] (.null :: S) st P := zAW_st (zd_of zb_X6_lays dX6_lays_123) rfl rfl
theorem E_X6_lays_124 : AW X d 91 124 [.ref a, l1, l2, l3, l4, l5, l6, l7] S st P = AW X d 91 125 [.ref a, l1, l2, l3, l4, l5, l6, l7] (.ref a :: S) st P := zAW_st (zd_of zb_X6_lays dX6_lays_124) rfl rfl
theorem E_X6_lays_124n : AW X d 91 124 [.null, l1, l2, l3, l4, l5, l6, l7] S st P = AW X d 91 125 [.null, l1, l2, l3, l4, l5, l6, l7] (.null :: S) st P := zAW_st (zd_of zb_X6_lays dX6_lays_124) rfl rfl
theorem E_X6_lays_125 : AW X d 91 125 [l0, l1, l2, l3, l4, l5, l6, l7] (.ref a :: S) st P = zwith (zget st a 7 7) fun v => AW X d 91 128 [l0, l1, l2, l3, l4, l5, l6, l7] (v :: S) st P := zq_getfield (zd_of zb_X6_lays dX6_lays_125) zo_X6_lays zf_6_28
theorem E_X6_lays_128 : AW X d 91 128 [l0, l1, l2, .int x, l4, l5, l6, l7] S st P = AW X d 91 129 [l0, l1, l2, .int x, l4, l5, l6, l7] (.int x :: S) st P := zAW_st (zd_of zb_X6_lays dX6_lays_128) rfl rfl
theorem E_X6_lays_129 : AW X d 91 129 [l0, l1, l2, l3, l4, l5, l6, l7] (.int x :: .ref a :: S) st P = zwith (zai X st a) fun q => zwith (zix x q.1) fun j => AW X d 91 130 [l0, l1, l2, l3, l4, l5, l6, l7] (.int (q.2 j) :: S) st P := zq_iaload (zd_of zb_X6_lays dX6_lays_129)
theorem E_X6_lays_130 : AW X d 91 130 [.ref a, l1, l2, l3, l4, l5, l6, l7] S st P = AW X d 91 131 [.ref a, l1, l2, l3, l4, l5, l6, l7] (.ref a :: S) st P := zAW_st (zd_of zb_X6_lays dX6_lays_130) rfl rfl
theorem E_X6_lays_130n : AW X d 91 130 [.null, l1, l2, l3, l4, l5, l6, l7] S st P = AW X d 91 131 [.null, l1, l2, l3, l4, l5, l6, l7] (.null :: S) st P := zAW_st (zd_of zb_X6_lays dX6_lays_130) rfl rfl
theorem E_X6_lays_131 : AW X d 91 131 [l0, l1, l2, l3, l4, l5, l6, l7] (.ref a :: S) st P = zwith (zget st a 7 8) fun v => AW X d 91 134 [l0, l1, l2, l3, l4, l5, l6, l7] (v :: S) st P := zq_getfield (zd_of zb_X6_lays dX6_lays_131) zo_X6_lays zf_6_31
theorem E_X6_lays_134 : AW X d 91 134 [l0, l1, l2, .int x, l4, l5, l6, l7] S st P = AW X d 91 135 [l0, l1, l2, .int x, l4, l5, l6, l7] (.int x :: S) st P := zAW_st (zd_of zb_X6_lays dX6_lays_134) rfl rfl
theorem E_X6_lays_135 : AW X d 91 135 [l0, l1, l2, l3, l4, l5, l6, l7] (.int x :: .ref a :: S) st P = zwith (zai X st a) fun q => zwith (zix x q.1) fun j => AW X d 91 136 [l0, l1, l2, l3, l4, l5, l6, l7] (.int (q.2 j) :: S) st P := zq_iaload (zd_of zb_X6_lays dX6_lays_135)
theorem E_X6_lays_136 : AW X d 91 136 [l0, .int x, l2, l3, l4, l5, l6, l7] S st P = AW X d 91 137 [l0, .int x, l2, l3, l4, l5, l6, l7] (.int x :: S) st P := zAW_st (zd_of zb_X6_lays dX6_lays_136) rfl rfl
theorem E_X6_lays_137 : AW X d 91 137 [l0, l1, l2, l3, l4, l5, l6, l7] (.int y :: .int x :: S) st P = AW X d 91 138 [l0, l1, l2, l3, l4, l5, l6, l7] (.int (x + y) :: S) st P := zAW_st (zd_of zb_X6_lays dX6_lays_137) rfl rfl
theorem E_X6_lays_138 : AW X d 91 138 [.ref a, l1, l2, l3, l4, l5, l6, l7] S st P = AW X d 91 139 [.ref a, l1, l2, l3, l4, l5, l6, l7] (.ref a :: S) st P := zAW_st (zd_of zb_X6_lays dX6_lays_138) rfl rfl
theorem E_X6_lays_138n : AW X d 91 138 [.null, l1, l2, l3, l4, l5, l6, l7] S st P = AW X d 91 139 [.null, l1, l2, l3, l4, l5, l6, l7] (.null :: S) st P := zAW_st (zd_of zb_X6_lays dX6_lays_138) rfl rfl
theorem E_X6_lays_139 : AW X d 91 139 [l0, l1, l2, l3, l4, l5, l6, l7] (.ref a :: S) st P = zwith (zget st a 7 9) fun v => AW X d 91 142 [l0, l1, l2, l3, l4, l5, l6, l7] (v :: S) st P := zq_getfield (zd_of zb_X6_lays dX6_lays_139) zo_X6_lays zf_6_34
theorem E_X6_lays_142 : AW X d 91 142 [l0, l1, l2, .int x, l4, l5, l6, l7] S st P = AW X d 91 143 [l0, l1, l2, .int x, l4, l5, l6, l7] (.int x :: S) st P := zAW_st (zd_of zb_X6_lays dX6_lays_142) rfl rfl
theorem E_X6_lays_143 : AW X d 91 143 [l0, l1, l2, l3, l4, l5, l6, l7] (.int x :: .ref a :: S) st P = zwith (zai X st a) fun q => zwith (zix x q.1) fun j => AW X d 91 144 [l0, l1, l2, l3, l4, l5, l6, l7] (.int (q.2 j) :: S) st P := zq_iaload (zd_of zb_X6_lays dX6_lays_143)
theorem E_X6_lays_144 : AW X d 91 144 [.ref a, l1, l2, l3, l4, l5, l6, l7] S st P = AW X d 91 145 [.ref a, l1, l2, l3, l4, l5, l6, l7] (.ref a :: S) st P := zAW_st (zd_of zb_X6_lays dX6_lays_144) rfl rfl
theorem E_X6_lays_144n : AW X d 91 144 [.null, l1, l2, l3, l4, l5, l6, l7] S st P = AW X d 91 145 [.null, l1, l2, l3, l4, l5, l6, l7] (.null :: S) st P := zAW_st (zd_of zb_X6_lays dX6_lays_144) rfl rfl
theorem E_X6_lays_145 : AW X d 91 145 [l0, l1, l2, l3, l4, l5, l6, l7] (.ref a :: S) st P = zwith (zget st a 7 10) fun v => AW X d 91 148 [l0, l1, l2, l3, l4, l5, l6, l7] (v :: S) st P := zq_getfield (zd_of zb_X6_lays dX6_lays_145) zo_X6_lays zf_6_37
theorem E_X6_lays_148 : AW X d 91 148 [l0, l1, l2, .int x, l4, l5, l6, l7] S st P = AW X d 91 149 [l0, l1, l2, .int x, l4, l5, l6, l7] (.int x :: S) st P := zAW_st (zd_of zb_X6_lays dX6_lays_148) rfl rfl
theorem E_X6_lays_149 : AW X d 91 149 [l0, l1, l2, l3, l4, l5, l6, l7] (.int x :: .ref a :: S) st P = zwith (zai X st a) fun q => zwith (zix x q.1) fun j => AW X d 91 150 [l0, l1, l2, l3, l4, l5, l6, l7] (.int (q.2 j) :: S) st P := zq_iaload (zd_of zb_X6_lays dX6_lays_149)
theorem E_X6_lays_150 : AW X d 91 150 [l0, .int x, l2, l3, l4, l5, l6, l7] S st P = AW X d 91 151 [l0, .int x, l2, l3, l4, l5, l6, l7] (.int x :: S) st P := zAW_st (zd_of zb_X6_lays dX6_lays_150) rfl rfl
theorem E_X6_lays_151 : AW X d 91 151 [l0, l1, l2, l3, l4, l5, l6, l7] (.int y :: .int x :: S) st P = AW X d 91 152 [l0, l1, l2, l3, l4, l5, l6, l7] (.int (x - y) :: S) st P := zAW_st (zd_of zb_X6_lays dX6_lays_151) rfl rfl
theorem E_X6_lays_152 : AW X d 91 152 [l0, l1, .int x, l3, l4, l5, l6, l7] S st P = AW X d 91 153 [l0, l1, .int x, l3, l4, l5, l6, l7] (.int x :: S) st P := zAW_st (zd_of zb_X6_lays dX6_lays_152) rfl rfl
theorem E_X6_lays_153 : AW X d 91 153 [l0, l1, l2, l3, l4, l5, l6, l7] S st P = AW X d 91 154 [l0, l1, l2, l3, l4, l5, l6, l7] (.int 0 :: S) st P := zq_iconst (zd_of zb_X6_lays dX6_lays_153) (by decide)
theorem E_X6_lays_154 : AW X d 91 154 [l0, l1, l2, .int x, l4, l5, l6, l7] S st P = AW X d 91 155 [l0, l1, l2, .int x, l4, l5, l6, l7] (.int x :: S) st P := zAW_st (zd_of zb_X6_lays dX6_lays_154) rfl rfl
theorem E_X6_lays_155 : AW X d 91 155 [l0, l1, l2, l3, l4, l5, l6, l7] (.int x7 :: .int x6 :: .int x5 :: .int x4 :: .int x3 :: .int y :: .int x :: .ref a :: S) st P = zif (zis st a 7 = true) (zif (S.length ≤ 4) (AC X d 88 [.ref a, .int x, .int y, .int x3, .int x4, .int x5, .int x6, .int x7] st (zaft X d 91 155 [l0, l1, l2, l3, l4, l5, l6, l7] S P))) := zq_callV (B := [.int x, .int y, .int x3, .int x4, .int x5, .int x6, .int x7]) (zd_of zb_X6_lays dX6_lays_155) zo_X6_lays (by decide) zl_6_121 zn_88 rfl rfl rfl
theorem E_X6_lays_158 : AW X d 91 158 [l0, l1, l2, l3, l4, l5, l6, l7] S st P = AW X d 91 159 [l0, l1, l2, l3, l4, l5, l6, l7] (.int 1 :: S) st P := zq_iconst (zd_of zb_X6_lays dX6_lays_158) (by decide)
theorem E_X6_lays_159 : AW X d 91 159 [l0, l1, l2, l3, l4, l5, l6, l7] (.int y :: .int x :: S) st P = AW X d 91 160 [l0, l1, l2, l3, l4, l5, l6, l7] (.int (x - y) :: S) st P := zAW_st (zd_of zb_X6_lays dX6_lays_159) rfl rfl
theorem E_X6_lays_160 : AW X d 91 160 [l0, l1, l2, l3, l4, l5, l6, l7] (.int x :: S) st P = AW X d 91 162 [l0, l1, l2, l3, l4, l5, .int x, l7] S st P := zAW_st (zd_of zb_X6_lays dX6_lays_160) rfl rfl
theorem E_X6_lays_162 : AW X d 91 162 [l0, l1, l2, l3, l4, .int x, l6, l7] S st P = AW X d 91 164 [l0, l1, l2, l3, l4, .int x, l6, l7] (.int x :: S) st P := zAW_st (zd_of zb_X6_lays dX6_lays_162) rfl rfl
theorem E_X6_lays_164 : AW X d 91 164 [l0, l1, l2, l3, l4, l5, l6, l7] (.int x :: S) st P = if x = 0 then AW X d 91 210 [l0, l1, l2, l3, l4, l5, l6, l7] S st P else AW X d 91 167 [l0, l1, l2, l3, l4, l5, l6, l7] S st P := zq_if (c := x = 0) (zd_of zb_X6_lays dX6_lays_164) (by decide) rfl
theorem E_X6_lays_167 : AW X d 91 167 [.ref a, l1, l2, l3, l4, l5, l6, l7] S st P = AW X d 91 168 [.ref a, l1, l2, l3, l4, l5, l6, l7] (.ref a :: S) st P := zAW_st (zd_of zb_X6_lays dX6_lays_167) rfl rfl
theorem E_X6_lays_167n : AW X d 91 167 [.null, l1, l2, l3, l4, l5, l6, l7] S st P = AW X d 91 168 [.null, l1, l2, l3, l4, l5, l6, l7] (.null :: S) st P := zAW_st (zd_of zb_X6_lays dX6_lays_167) rfl rfl
theorem E_X6_lays_168 : AW X d 91 168 [.ref a, l1, l2, l3, l4, l5, l6, l7] S st P = AW X d 91 169 [.ref a, l1, l2, l3, l4, l5, l6, l7] (.ref a :: S) st P := zAW_st (zd_of zb_X6_lays dX6_lays_168) rfl rfl
theorem E_X6_lays_168n : AW X d 91 168 [.null, l1, l2, l3, l4, l5, l6, l7] S st P = AW X d 91 169 [.null, l1, l2, l3, l4, l5, l6, l7] (.null :: S) st P := zAW_st (zd_of zb_X6_lays dX6_lays_168) rfl rfl
theorem E_X6_lays_169 : AW X d 91 169 [l0, l1, l2, l3, l4, l5, l6, l7] (.ref a :: S) st P = zwith (zget st a 7 7) fun v => AW X d 91 172 [l0, l1, l2, l3, l4, l5, l6, l7] (v :: S) st P := zq_getfield (zd_of zb_X6_lays dX6_lays_169) zo_X6_lays zf_6_28
theorem E_X6_lays_172 : AW X d 91 172 [l0, l1, l2, .int x, l4, l5, l6, l7] S st P = AW X d 91 173 [l0, l1, l2, .int x, l4, l5, l6, l7] (.int x :: S) st P := zAW_st (zd_of zb_X6_lays dX6_lays_172) rfl rfl
theorem E_X6_lays_173 : AW X d 91 173 [l0, l1, l2, l3, l4, l5, l6, l7] (.int x :: .ref a :: S) st P = zwith (zai X st a) fun q => zwith (zix x q.1) fun j => AW X d 91 174 [l0, l1, l2, l3, l4, l5, l6, l7] (.int (q.2 j) :: S) st P := zq_iaload (zd_of zb_X6_lays dX6_lays_173)
theorem E_X6_lays_174 : AW X d 91 174 [.ref a, l1, l2, l3, l4, l5, l6, l7] S st P = AW X d 91 175 [.ref a, l1, l2, l3, l4, l5, l6, l7] (.ref a :: S) st P := zAW_st (zd_of zb_X6_lays dX6_lays_174) rfl rfl
theorem E_X6_lays_174n : AW X d 91 174 [.null, l1, l2, l3, l4, l5, l6, l7] S st P = AW X d 91 175 [.null, l1, l2, l3, l4, l5, l6, l7] (.null :: S) st P := zAW_st (zd_of zb_X6_lays dX6_lays_174) rfl rfl
theorem E_X6_lays_175 : AW X d 91 175 [l0, l1, l2, l3, l4, l5, l6, l7] (.ref a :: S) st P = zwith (zget st a 7 8) fun v => AW X d 91 178 [l0, l1, l2, l3, l4, l5, l6, l7] (v :: S) st P := zq_getfield (zd_of zb_X6_lays dX6_lays_175) zo_X6_lays zf_6_31
theorem E_X6_lays_178 : AW X d 91 178 [l0, l1, l2, .int x, l4, l5, l6, l7] S st P = AW X d 91 179 [l0, l1, l2, .int x, l4, l5, l6, l7] (.int x :: S) st P := zAW_st (zd_of zb_X6_lays dX6_lays_178) rfl rfl
theorem E_X6_lays_179 : AW X d 91 179 [l0, l1, l2, l3, l4, l5, l6, l7] (.int x :: .ref a :: S) st P = zwith (zai X st a) fun q => zwith (zix x q.1) fun j => AW X d 91 180 [l0, l1, l2, l3, l4, l5, l6, l7] (.int (q.2 j) :: S) st P := zq_iaload (zd_of zb_X6_lays dX6_lays_179)
theorem E_X6_lays_180 : AW X d 91 180 [.ref a, l1, l2, l3, l4, l5, l6, l7] S st P = AW X d 91 181 [.ref a, l1, l2, l3, l4, l5, l6, l7] (.ref a :: S) st P := zAW_st (zd_of zb_X6_lays dX6_lays_180) rfl rfl
theorem E_X6_lays_180n : AW X d 91 180 [.null, l1, l2, l3, l4, l5, l6, l7] S st P = AW X d 91 181 [.null, l1, l2, l3, l4, l5, l6, l7] (.null :: S) st P := zAW_st (zd_of zb_X6_lays dX6_lays_180) rfl rfl
theorem E_X6_lays_181 : AW X d 91 181 [l0, l1, l2, l3, l4, l5, l6, l7] (.ref a :: S) st P = zwith (zget st a 7 9) fun v => AW X d 91 184 [l0, l1, l2, l3, l4, l5, l6, l7] (v :: S) st P := zq_getfield (zd_of zb_X6_lays dX6_lays_181) zo_X6_lays zf_6_34
theorem E_X6_lays_184 : AW X d 91 184 [l0, l1, l2, .int x, l4, l5, l6, l7] S st P = AW X d 91 185 [l0, l1, l2, .int x, l4, l5, l6, l7] (.int x :: S) st P := zAW_st (zd_of zb_X6_lays dX6_lays_184) rfl rfl
theorem E_X6_lays_185 : AW X d 91 185 [l0, l1, l2, l3, l4, l5, l6, l7] (.int x :: .ref a :: S) st P = zwith (zai X st a) fun q => zwith (zix x q.1) fun j => AW X d 91 186 [l0, l1, l2, l3, l4, l5, l6, l7] (.int (q.2 j) :: S) st P := zq_iaload (zd_of zb_X6_lays dX6_lays_185)
theorem E_X6_lays_186 : AW X d 91 186 [l0, l1, .int x, l3, l4, l5, l6, l7] S st P = AW X d 91 187 [l0, l1, .int x, l3, l4, l5, l6, l7] (.int x :: S) st P := zAW_st (zd_of zb_X6_lays dX6_lays_186) rfl rfl
theorem E_X6_lays_187 : AW X d 91 187 [l0, l1, l2, l3, l4, l5, l6, l7] (.int y :: .int x :: S) st P = AW X d 91 188 [l0, l1, l2, l3, l4, l5, l6, l7] (.int (x + y) :: S) st P := zAW_st (zd_of zb_X6_lays dX6_lays_187) rfl rfl
theorem E_X6_lays_188 : AW X d 91 188 [.ref a, l1, l2, l3, l4, l5, l6, l7] S st P = AW X d 91 189 [.ref a, l1, l2, l3, l4, l5, l6, l7] (.ref a :: S) st P := zAW_st (zd_of zb_X6_lays dX6_lays_188) rfl rfl
theorem E_X6_lays_188n : AW X d 91 188 [.null, l1, l2, l3, l4, l5, l6, l7] S st P = AW X d 91 189 [.null, l1, l2, l3, l4, l5, l6, l7] (.null :: S) st P := zAW_st (zd_of zb_X6_lays dX6_lays_188) rfl rfl
theorem E_X6_lays_189 : AW X d 91 189 [l0, l1, l2, l3, l4, l5, l6, l7] (.ref a :: S) st P = zwith (zget st a 7 10) fun v => AW X d 91 192 [l0, l1, l2, l3, l4, l5, l6, l7] (v :: S) st P := zq_getfield (zd_of zb_X6_lays dX6_lays_189) zo_X6_lays zf_6_37
theorem E_X6_lays_192 : AW X d 91 192 [l0, l1, l2, .int x, l4, l5, l6, l7] S st P = AW X d 91 193 [l0, l1, l2, .int x, l4, l5, l6, l7] (.int x :: S) st P := zAW_st (zd_of zb_X6_lays dX6_lays_192) rfl rfl
theorem E_X6_lays_193 : AW X d 91 193 [l0, l1, l2, l3, l4, l5, l6, l7] (.int x :: .ref a :: S) st P = zwith (zai X st a) fun q => zwith (zix x q.1) fun j => AW X d 91 194 [l0, l1, l2, l3, l4, l5, l6, l7] (.int (q.2 j) :: S) st P := zq_iaload (zd_of zb_X6_lays dX6_lays_193)
theorem E_X6_lays_194 : AW X d 91 194 [.ref a, l1, l2, l3, l4, l5, l6, l7] S st P = AW X d 91 195 [.ref a, l1, l2, l3, l4, l5, l6, l7] (.ref a :: S) st P := zAW_st (zd_of zb_X6_lays dX6_lays_194) rfl rfl
theorem E_X6_lays_194n : AW X d 91 194 [.null, l1, l2, l3, l4, l5, l6, l7] S st P = AW X d 91 195 [.null, l1, l2, l3, l4, l5, l6, l7] (.null :: S) st P := zAW_st (zd_of zb_X6_lays dX6_lays_194) rfl rfl
theorem E_X6_lays_195 : AW X d 91 195 [l0, l1, l2, l3, l4, l5, l6, l7] (.ref a :: S) st P = zwith (zget st a 7 11) fun v => AW X d 91 198 [l0, l1, l2, l3, l4, l5, l6, l7] (v :: S) st P := zq_getfield (zd_of zb_X6_lays dX6_lays_195) zo_X6_lays zf_6_40
theorem E_X6_lays_198 : AW X d 91 198 [l0, l1, l2, .int x, l4, l5, l6, l7] S st P = AW X d 91 199 [l0, l1, l2, .int x, l4, l5, l6, l7] (.int x :: S) st P := zAW_st (zd_of zb_X6_lays dX6_lays_198) rfl rfl
theorem E_X6_lays_199 : AW X d 91 199 [l0, l1, l2, l3, l4, l5, l6, l7] (.int x :: .ref a :: S) st P = zwith (zai X st a) fun q => zwith (zix x q.1) fun j => AW X d 91 200 [l0, l1, l2, l3, l4, l5, l6, l7] (.int (q.2 j) :: S) st P := zq_iaload (zd_of zb_X6_lays dX6_lays_199)
theorem E_X6_lays_200 : AW X d 91 200 [l0, l1, .int x, l3, l4, l5, l6, l7] S st P = AW X d 91 201 [l0, l1, .int x, l3, l4, l5, l6, l7] (.int x :: S) st P := zAW_st (zd_of zb_X6_lays dX6_lays_200) rfl rfl
theorem E_X6_lays_201 : AW X d 91 201 [l0, l1, l2, l3, l4, l5, l6, l7] (.int y :: .int x :: S) st P = AW X d 91 202 [l0, l1, l2, l3, l4, l5, l6, l7] (.int (x - y) :: S) st P := zAW_st (zd_of zb_X6_lays dX6_lays_201) rfl rfl
theorem E_X6_lays_202 : AW X d 91 202 [l0, l1, l2, l3, l4, l5, l6, l7] S st P = AW X d 91 203 [l0, l1, l2, l3, l4, l5, l6, l7] (.int 0 :: S) st P := zq_iconst (zd_of zb_X6_lays dX6_lays_202) (by decide)
theorem E_X6_lays_203 : AW X d 91 203 [l0, l1, l2, .int x, l4, l5, l6, l7] S st P = AW X d 91 204 [l0, l1, l2, .int x, l4, l5, l6, l7] (.int x :: S) st P := zAW_st (zd_of zb_X6_lays dX6_lays_203) rfl rfl
theorem E_X6_lays_204 : AW X d 91 204 [l0, l1, l2, l3, l4, l5, l6, l7] (.int x7 :: .int x6 :: .int x5 :: .int x4 :: .int x3 :: .int y :: .int x :: .ref a :: S) st P = zif (zis st a 7 = true) (zif (S.length ≤ 4) (AC X d 88 [.ref a, .int x, .int y, .int x3, .int x4, .int x5, .int x6, .int x7] st (zaft X d 91 204 [l0, l1, l2, l3, l4, l5, l6, l7] S P))) := zq_callV (B := [.int x, .int y, .int x3, .int x4, .int x5, .int x6, .int x7]) (zd_of zb_X6_lays dX6_lays_204) zo_X6_lays (by decide) zl_6_121 zn_88 rfl rfl rfl
theorem E_X6_lays_207 : AW X d 91 207 [l0, l1, l2, l3, l4, l5, l6, l7] S st P = AW X d 91 211 [l0, l1, l2, l3, l4, l5, l6, l7] S st P := zq_goto (zd_of zb_X6_lays dX6_lays_207) (by decide)
theorem E_X6_lays_210 : AW X d 91 210 [l0, l1, l2, l3, l4, l5, l6, l7] S st P = AW X d 91 211 [l0, l1, l2, l3, l4, l5, l6, l7] (.int 0 :: S) st P := zq_iconst (zd_of zb_X6_lays dX6_lays_210) (by decide)
theorem E_X6_lays_211 : AW X d 91 211 [l0, l1, l2, l3, l4, l5, l6, l7] (.int x :: S) st P = AW X d 91 213 [l0, l1, l2, l3, l4, l5, l6, .int x] S st P := zAW_st (zd_of zb_X6_lays dX6_lays_211) rfl rfl
theorem E_X6_lays_213 : AW X d 91 213 [l0, l1, l2, l3, l4, l5, .int x, l7] S st P = AW X d 91 215 [l0, l1, l2, l3, l4, l5, .int x, l7] (.int x :: S) st P := zAW_st (zd_of zb_X6_lays dX6_lays_213) rfl rfl
theorem E_X6_lays_215 : AW X d 91 215 [l0, l1, l2, l3, l4, l5, l6, l7] ([.int x]) st P = P (.inl (some (.int x))) st := zAW_ret (w := (.inl (some (.int x)), st)) (zd_of zb_X6_lays dX6_lays_215) rfl rfl (by simp only [zfin, zr_X6_lays])
theorem A_X6_lays : AC X (d + 1) 91 [.ref a, .int x, .int y] st P = AW X d 91 0 [.ref a, .int x, .int y, .retAddr 0, .retAddr 0, .retAddr 0, .retAddr 0, .retAddr 0] [] st P := AC_eq ⟨⟨(show 3 ≤ zml 91 by decide +kernel), by decide +kernel⟩, by simp [zc1_int, zc1_ref, zc1_float]⟩
theorem E_X6_allFree_0 : AW X d 92 0 [l0, l1, l2, l3] S st P = AW X d 92 1 [l0, l1, l2, l3] (.int 1 :: S) st P := zq_iconst (zd_of zb_X6_allFree dX6_allFree_0) (by decide)
theorem E_X6_allFree_1 : AW X d 92 1 [l0, l1, l2, l3] (.int x :: S) st P = AW X d 92 2 [l0, l1, .int x, l3] S st P := zAW_st (zd_of zb_X6_allFree dX6_allFree_1) rfl rfl
theorem E_X6_allFree_2 : AW X d 92 2 [l0, l1, l2, l3] S st P = AW X d 92 3 [l0, l1, l2, l3] (.int 0 :: S) st P := zq_iconst (zd_of zb_X6_allFree dX6_allFree_2) (by decide)
theorem E_X6_allFree_3 : AW X d 92 3 [l0, l1, l2, l3] (.int x :: S) st P = AW X d 92 4 [l0, l1, l2, .int x] S st P := zAW_st (zd_of zb_X6_allFree dX6_allFree_3) rfl rfl
theorem E_X6_allFree_4 : AW X d 92 4 [l0, l1, l2, .int x] S st P = AW X d 92 5 [l0, l1, l2, .int x] (.int x :: S) st P := zAW_st (zd_of zb_X6_allFree dX6_allFree_4) rfl rfl
theorem E_X6_allFree_5 : AW X d 92 5 [.ref a, l1, l2, l3] S st P = AW X d 92 6 [.ref a, l1, l2, l3] (.ref a :: S) st P := zAW_st (zd_of zb_X6_allFree dX6_allFree_5) rfl rfl
theorem E_X6_allFree_5n : AW X d 92 5 [.null, l1, l2, l3] S st P = AW X d 92 6 [.null, l1, l2, l3] (.null :: S) st P := zAW_st (zd_of zb_X6_allFree dX6_allFree_5) rfl rfl
theorem E_X6_allFree_6 : AW X d 92 6 [l0, l1, l2, l3] (.ref a :: S) st P = zwith (zget st a 7 14) fun v => AW X d 92 9 [l0, l1, l2, l3] (v :: S) st P := zq_getfield (zd_of zb_X6_allFree dX6_allFree_6) zo_X6_allFree zf_6_115
theorem E_X6_allFree_9 : AW X d 92 9 [l0, l1, l2, l3] (.int y :: .int x :: S) st P = if y ≤ x then AW X d 92 55 [l0, l1, l2, l3] S st P else AW X d 92 12 [l0, l1, l2, l3] S st P := zq_icmp (c := y ≤ x) (zd_of zb_X6_allFree dX6_allFree_9) (by decide) rfl
theorem E_X6_allFree_12 : AW X d 92 12 [l0, l1, .int x, l3] S st P = AW X d 92 13 [l0, l1, .int x, l3] (.int x :: S) st P := zAW_st (zd_of zb_X6_allFree dX6_allFree_12) rfl rfl
theorem E_X6_allFree_13 : AW X d 92 13 [.ref a, l1, l2, l3] S st P = AW X d 92 14 [.ref a, l1, l2, l3] (.ref a :: S) st P := zAW_st (zd_of zb_X6_allFree dX6_allFree_13) rfl rfl
theorem E_X6_allFree_13n : AW X d 92 13 [.null, l1, l2, l3] S st P = AW X d 92 14 [.null, l1, l2, l3] (.null :: S) st P := zAW_st (zd_of zb_X6_allFree dX6_allFree_13) rfl rfl
theorem E_X6_allFree_14 : AW X d 92 14 [l0, l1, l2, l3] (.ref a :: S) st P = zwith (zget st a 7 13) fun v => AW X d 92 17 [l0, l1, l2, l3] (v :: S) st P := zq_getfield (zd_of zb_X6_allFree dX6_allFree_14) zo_X6_allFree zf_6_46
theorem E_X6_allFree_17 : AW X d 92 17 [l0, l1, l2, .int x] S st P = AW X d 92 18 [l0, l1, l2, .int x] (.int x :: S) st P := zAW_st (zd_of zb_X6_allFree dX6_allFree_17) rfl rfl
theorem E_X6_allFree_18 : AW X d 92 18 [l0, l1, l2, l3] (.int x :: .ref a :: S) st P = zwith (zai X st a) fun q => zwith (zix x q.1) fun j => AW X d 92 19 [l0, l1, l2, l3] (.int (q.2 j) :: S) st P := zq_iaload (zd_of zb_X6_allFree dX6_allFree_18)
theorem E_X6_allFree_19 : AW X d 92 19 [l0, .int x, l2, l3] S st P = AW X d 92 20 [l0, .int x, l2, l3] (.int x :: S) st P := zAW_st (zd_of zb_X6_allFree dX6_allFree_19) rfl rfl
theorem E_X6_allFree_20 : AW X d 92 20 [l0, l1, l2, l3] (.int y :: .int x :: S) st P = if ¬ x = y then AW X d 92 42 [l0, l1, l2, l3] S st P else AW X d 92 23 [l0, l1, l2, l3] S st P := zq_icmp (c := ¬ x = y) (zd_of zb_X6_allFree dX6_allFree_20) (by decide) rfl
theorem E_X6_allFree_23 : AW X d 92 23 [.ref a, l1, l2, l3] S st P = AW X d 92 24 [.ref a, l1, l2, l3] (.ref a :: S) st P := zAW_st (zd_of zb_X6_allFree dX6_allFree_23) rfl rfl
theorem E_X6_allFree_23n : AW X d 92 23 [.null, l1, l2, l3] S st P = AW X d 92 24 [.null, l1, l2, l3] (.null :: S) st P := zAW_st (zd_of zb_X6_allFree dX6_allFree_23) rfl rfl
theorem E_X6_allFree_24 : AW X d 92 24 [l0, l1, l2, l3] (.ref a :: S) st P = zwith (zget st a 7 12) fun v => AW X d 92 27 [l0, l1, l2, l3] (v :: S) st P := zq_getfield (zd_of zb_X6_allFree dX6_allFree_24) zo_X6_allFree zf_6_43
theorem E_X6_allFree_27 : AW X d 92 27 [l0, l1, l2, .int x] S st P = AW X d 92 28 [l0, l1, l2, .int x] (.int x :: S) st P := zAW_st (zd_of zb_X6_allFree dX6_allFree_27) rfl rfl
theorem E_X6_allFree_28 : AW X d 92 28 [l0, l1, l2, l3] (.int x :: .ref a :: S) st P = zwith (zai X st a) fun q => zwith (zix x q.1) fun j => AW X d 92 29 [l0, l1, l2, l3] (.int (q.2 j) :: S) st P := zq_iaload (zd_of zb_X6_allFree dX6_allFree_28)
theorem E_X6_allFree_29 : AW X d 92 29 [l0, l1, l2, l3] (.int x :: S) st P = if x = 0 then AW X d 92 42 [l0, l1, l2, l3] S st P else AW X d 92 32 [l0, l1, l2, l3] S st P := zq_if (c := x = 0) (zd_of zb_X6_allFree dX6_allFree_29) (by decide) rfl
theorem E_X6_allFree_32 : AW X d 92 32 [.ref a, l1, l2, l3] S st P = AW X d 92 33 [.ref a, l1, l2, l3] (.ref a :: S) st P := zAW_st (zd_of zb_X6_allFree dX6_allFree_32) rfl rfl
theorem E_X6_allFree_32n : AW X d 92 32 [.null, l1, l2, l3] S st P = AW X d 92 33 [.null, l1, l2, l3] (.null :: S) st P := zAW_st (zd_of zb_X6_allFree dX6_allFree_32) rfl rfl
theorem E_X6_allFree_33 : AW X d 92 33 [l0, l1, l2, l3] (.ref a :: S) st P = zwith (zget st a 7 12) fun v => AW X d 92 36 [l0, l1, l2, l3] (v :: S) st P := zq_getfield (zd_of zb_X6_allFree dX6_allFree_33) zo_X6_allFree zf_6_43
theorem E_X6_allFree_36 : AW X d 92 36 [l0, l1, l2, .int x] S st P = AW X d 92 37 [l0, l1, l2, .int x] (.int x :: S) st P := zAW_st (zd_of zb_X6_allFree dX6_allFree_36) rfl rfl
theorem E_X6_allFree_37 : AW X d 92 37 [l0, l1, l2, l3] (.int x :: .ref a :: S) st P = zwith (zai X st a) fun q => zwith (zix x q.1) fun j => AW X d 92 38 [l0, l1, l2, l3] (.int (q.2 j) :: S) st P := zq_iaload (zd_of zb_X6_allFree dX6_allFree_37)
theorem E_X6_allFree_38 : AW X d 92 38 [l0, l1, l2, l3] S st P = AW X d 92 39 [l0, l1, l2, l3] (.int 3 :: S) st P := zq_iconst (zd_of zb_X6_allFree dX6_allFree_38) (by decide)
theorem E_X6_allFree_39 : AW X d 92 39 [l0, l1, l2, l3] (.int y :: .int x :: S) st P = if ¬ x = y then AW X d 92 46 [l0, l1, l2, l3] S st P else AW X d 92 42 [l0, l1, l2, l3] S st P := zq_icmp (c := ¬ x = y) (zd_of zb_X6_allFree dX6_allFree_39) (by decide) rfl
theorem E_X6_allFree_42 : AW X d 92 42 [l0, l1, l2, l3] S st P = AW X d 92 43 [l0, l1, l2, l3] (.int 1 :: S) st P := zq_iconst (zd_of zb_X6_allFree dX6_allFree_42) (by decide)
theorem E_X6_allFree_43 : AW X d 92 43 [l0, l1, l2, l3] S st P = AW X d 92 47 [l0, l1, l2, l3] S st P := zq_goto (zd_of zb_X6_allFree dX6_allFree_43) (by decide)
theorem E_X6_allFree_46 : AW X d 92 46 [l0, l1, l2, l3] S st P = AW X d 92 47 [l0, l1, l2, l3] (.int 0 :: S) st P := zq_iconst (zd_of zb_X6_allFree dX6_allFree_46) (by decide)
theorem E_X6_allFree_47 : AW X d 92 47 [l0, l1, l2, l3] (.int y :: .int x :: S) st P = AW X d 92 48 [l0, l1, l2, l3] (.int (x &&& y) :: S) st P := zAW_st (zd_of zb_X6_allFree dX6_allFree_47) rfl rfl
theorem E_X6_allFree_48 : AW X d 92 48 [l0, l1, l2, l3] (.int x :: S) st P = AW X d 92 49 [l0, l1, .int x, l3] S st P := zAW_st (zd_of zb_X6_allFree dX6_allFree_48) rfl rfl
theorem E_X6_allFree_49 : AW X d 92 49 [l0, l1, l2, .int x] S st P = AW X d 92 52 [l0, l1, l2, .int (x + 1)] S st P := zq_iinc (zd_of zb_X6_allFree dX6_allFree_49) rfl (by decide)
theorem E_X6_allFree_52 : AW X d 92 52 [l0, l1, l2, l3] S st P = AW X d 92 4 [l0, l1, l2, l3] S st P := zq_goto (zd_of zb_X6_allFree dX6_allFree_52) (by decide)
theorem E_X6_allFree_55 : AW X d 92 55 [l0, l1, .int x, l3] S st P = AW X d 92 56 [l0, l1, .int x, l3] (.int x :: S) st P := zAW_st (zd_of zb_X6_allFree dX6_allFree_55) rfl rfl
theorem E_X6_allFree_56 : AW X d 92 56 [l0, l1, l2, l3] ([.int x]) st P = zif (x &&& 1 = x) (P (.inl (some (.int x))) st) := by
  by_cases h : x &&& 1 = x
  · rw [zif_of h]; exact zAW_ret (w := (.inl (some (.int x)), st)) (zd_of zb_X6_allFree dX6_allFree_56) rfl rfl (by simp only [zfin, zr_X6_allFree]; rw [if_pos h])
  · rw [zAW_stuck (zd_of zb_X6_allFree dX6_allFree_56) rfl (by simp only [zfin, zr_X6_allFree]; rw [if_neg h]) rfl]; exact propext ⟨fun z => z.elim, fun z => h z.1⟩
theorem A_X6_allFree : AC X (d + 1) 92 [.ref a, .int x] st P = AW X d 92 0 [.ref a, .int x, .retAddr 0, .retAddr 0] [] st P := AC_eq ⟨⟨(show 2 ≤ zml 92 by decide +kernel), by decide +kernel⟩, by simp [zc1_int, zc1_ref, zc1_float]⟩
theorem E_X6_frees_0 : AW X d 93 0 [.ref a, l1, l2, l3] S st P = AW X d 93 1 [.ref a, l1, l2, l3] (.ref a :: S) st P := zAW_st (zd_of zb_X6_frees dX6_frees_0) rfl rfl
theorem E_X6_frees_0n : AW X d 93 0 [.null, l1, l2, l3] S st P = AW X d 93 1 [.null, l1, l2, l3] (.null :: S) st P := zAW_st (zd_of zb_X6_frees dX6_frees_0) rfl rfl
theorem E_X6_frees_1 : AW X d 93 1 [l0, l1, l2, l3] (.ref a :: S) st P = zwith (zget st a 7 12) fun v => AW X d 93 4 [l0, l1, l2, l3] (v :: S) st P := zq_getfield (zd_of zb_X6_frees dX6_frees_1) zo_X6_frees zf_6_43
theorem E_X6_frees_4 : AW X d 93 4 [l0, .int x, l2, l3] S st P = AW X d 93 5 [l0, .int x, l2, l3] (.int x :: S) st P := zAW_st (zd_of zb_X6_frees dX6_frees_4) rfl rfl
theorem E_X6_frees_5 : AW X d 93 5 [l0, l1, l2, l3] S st P = AW X d 93 6 [l0, l1, l2, l3] (.int 0 :: S) st P := zq_iconst (zd_of zb_X6_frees dX6_frees_5) (by decide)
theorem E_X6_frees_6 : AW X d 93 6 [l0, l1, l2, l3] (.int y :: .int x :: .ref a :: S) st P = zwith (zaI st a) fun q => zwith (zix x q.1) fun j => AW X d 93 7 [l0, l1, l2, l3] S (zsta st a (q.1, .inl (upd q.2 j y))) P := zq_iastore (zd_of zb_X6_frees dX6_frees_6)
theorem E_X6_frees_7 : AW X d 93 7 [.ref a, l1, l2, l3] S st P = AW X d 93 8 [.ref a, l1, l2, l3] (.ref a :: S) st P := zAW_st (zd_of zb_X6_frees dX6_frees_7) rfl rfl
theorem E_X6_frees_7n : AW X d 93 7 [.null, l1, l2, l3] S st P = AW X d 93 8 [.null, l1, l2, l3] (.null :: S) st P := zAW_st (zd_of zb_X6_frees dX6_frees_7) rfl rfl
theorem E_X6_frees_8 : AW X d 93 8 [l0, l1, l2, l3] (.ref a :: S) st P = zwith (zget st a 7 13) fun v => AW X d 93 11 [l0, l1, l2, l3] (v :: S) st P := zq_getfield (zd_of zb_X6_frees dX6_frees_8) zo_X6_frees zf_6_46
theorem E_X6_frees_11 : AW X d 93 11 [l0, .int x, l2, l3] S st P = AW X d 93 12 [l0, .int x, l2, l3] (.int x :: S) st P := zAW_st (zd_of zb_X6_frees dX6_frees_11) rfl rfl
theorem E_X6_frees_12 : AW X d 93 12 [l0, l1, l2, l3] (.int x :: .ref a :: S) st P = zwith (zai X st a) fun q => zwith (zix x q.1) fun j => AW X d 93 13 [l0, l1, l2, l3] (.int (q.2 j) :: S) st P := zq_iaload (zd_of zb_X6_frees dX6_frees_12)
theorem E_X6_frees_13 : AW X d 93 13 [l0, l1, l2, l3] (.int x :: S) st P = AW X d 93 14 [l0, l1, .int x, l3] S st P := zAW_st (zd_of zb_X6_frees dX6_frees_13) rfl rfl
theorem E_X6_frees_14 : AW X d 93 14 [l0, l1, .int x, l3] S st P = AW X d 93 15 [l0, l1, .int x, l3] (.int x :: S) st P := zAW_st (zd_of zb_X6_frees dX6_frees_14) rfl rfl
theorem E_X6_frees_15 : AW X d 93 15 [l0, l1, l2, l3] (.int x :: S) st P = if x < 0 then AW X d 93 85 [l0, l1, l2, l3] S st P else AW X d 93 18 [l0, l1, l2, l3] S st P := zq_if (c := x < 0) (zd_of zb_X6_frees dX6_frees_15) (by decide) rfl
theorem E_X6_frees_18 : AW X d 93 18 [.ref a, l1, l2, l3] S st P = AW X d 93 19 [.ref a, l1, l2, l3] (.ref a :: S) st P := zAW_st (zd_of zb_X6_frees dX6_frees_18) rfl rfl
theorem E_X6_frees_18n : AW X d 93 18 [.null, l1, l2, l3] S st P = AW X d 93 19 [.null, l1, l2, l3] (.null :: S) st P := zAW_st (zd_of zb_X6_frees dX6_frees_18) rfl rfl
theorem E_X6_frees_19 : AW X d 93 19 [l0, l1, .int x, l3] S st P = AW X d 93 20 [l0, l1, .int x, l3] (.int x :: S) st P := zAW_st (zd_of zb_X6_frees dX6_frees_19) rfl rfl
theorem E_X6_frees_20 : AW X d 93 20 [l0, l1, l2, l3] (.int x :: .ref a :: S) st P = zif (zis st a 7 = true) (zif (S.length ≤ 4) (AC X d 92 [.ref a, .int x] st (zaft X d 93 20 [l0, l1, l2, l3] S P))) := zq_callV (B := [.int x]) (zd_of zb_X6_frees dX6_frees_20) zo_X6_frees (by decide) zl_6_129 zn_92 rfl rfl rfl
theorem E_X6_frees_23 : AW X d 93 23 [l0, l1, l2, l3] (.int x :: S) st P = if x = 0 then AW X d 93 85 [l0, l1, l2, l3] S st P else AW X d 93 26 [l0, l1, l2, l3] S st P := zq_if (c := x = 0) (zd_of zb_X6_frees dX6_frees_23) (by decide) rfl
theorem E_X6_frees_26 : AW X d 93 26 [l0, l1, l2, l3] S st P = AW X d 93 27 [l0, l1, l2, l3] (.int 0 :: S) st P := zq_iconst (zd_of zb_X6_frees dX6_frees_26) (by decide)
theorem E_X6_frees_27 : AW X d 93 27 [l0, l1, l2, l3] (.int x :: S) st P = AW X d 93 28 [l0, l1, l2, .int x] S st P := zAW_st (zd_of zb_X6_frees dX6_frees_27) rfl rfl
theorem E_X6_frees_28 : AW X d 93 28 [l0, l1, l2, .int x] S st P = AW X d 93 29 [l0, l1, l2, .int x] (.int x :: S) st P := zAW_st (zd_of zb_X6_frees dX6_frees_28) rfl rfl
theorem E_X6_frees_29 : AW X d 93 29 [.ref a, l1, l2, l3] S st P = AW X d 93 30 [.ref a, l1, l2, l3] (.ref a :: S) st P := zAW_st (zd_of zb_X6_frees dX6_frees_29) rfl rfl
theorem E_X6_frees_29n : AW X d 93 29 [.null, l1, l2, l3] S st P = AW X d 93 30 [.null, l1, l2, l3] (.null :: S) st P := zAW_st (zd_of zb_X6_frees dX6_frees_29) rfl rfl
theorem E_X6_frees_30 : AW X d 93 30 [l0, l1, l2, l3] (.ref a :: S) st P = zwith (zget st a 7 14) fun v => AW X d 93 33 [l0, l1, l2, l3] (v :: S) st P := zq_getfield (zd_of zb_X6_frees dX6_frees_30) zo_X6_frees zf_6_115
theorem E_X6_frees_33 : AW X d 93 33 [l0, l1, l2, l3] (.int y :: .int x :: S) st P = if y ≤ x then AW X d 93 68 [l0, l1, l2, l3] S st P else AW X d 93 36 [l0, l1, l2, l3] S st P := zq_icmp (c := y ≤ x) (zd_of zb_X6_frees dX6_frees_33) (by decide) rfl
theorem E_X6_frees_36 : AW X d 93 36 [.ref a, l1, l2, l3] S st P = AW X d 93 37 [.ref a, l1, l2, l3] (.ref a :: S) st P := zAW_st (zd_of zb_X6_frees dX6_frees_36) rfl rfl
theorem E_X6_frees_36n : AW X d 93 36 [.null, l1, l2, l3] S st P = AW X d 93 37 [.null, l1, l2, l3] (.null :: S) st P := zAW_st (zd_of zb_X6_frees dX6_frees_36) rfl rfl
theorem E_X6_frees_37 : AW X d 93 37 [l0, l1, l2, l3] (.ref a :: S) st P = zwith (zget st a 7 12) fun v => AW X d 93 40 [l0, l1, l2, l3] (v :: S) st P := zq_getfield (zd_of zb_X6_frees dX6_frees_37) zo_X6_frees zf_6_43
theorem E_X6_frees_40 : AW X d 93 40 [l0, l1, l2, .int x] S st P = AW X d 93 41 [l0, l1, l2, .int x] (.int x :: S) st P := zAW_st (zd_of zb_X6_frees dX6_frees_40) rfl rfl
theorem E_X6_frees_41 : AW X d 93 41 [.ref a, l1, l2, l3] S st P = AW X d 93 42 [.ref a, l1, l2, l3] (.ref a :: S) st P := zAW_st (zd_of zb_X6_frees dX6_frees_41) rfl rfl
theorem E_X6_frees_41n : AW X d 93 41 [.null, l1, l2, l3] S st P = AW X d 93 42 [.null, l1, l2, l3] (.null :: S) st P := zAW_st (zd_of zb_X6_frees dX6_frees_41) rfl rfl
theorem E_X6_frees_42 : AW X d 93 42 [l0, l1, l2, l3] (.ref a :: S) st P = zwith (zget st a 7 13) fun v => AW X d 93 45 [l0, l1, l2, l3] (v :: S) st P := zq_getfield (zd_of zb_X6_frees dX6_frees_42) zo_X6_frees zf_6_46
theorem E_X6_frees_45 : AW X d 93 45 [l0, l1, l2, .int x] S st P = AW X d 93 46 [l0, l1, l2, .int x] (.int x :: S) st P := zAW_st (zd_of zb_X6_frees dX6_frees_45) rfl rfl
theorem E_X6_frees_46 : AW X d 93 46 [l0, l1, l2, l3] (.int x :: .ref a :: S) st P = zwith (zai X st a) fun q => zwith (zix x q.1) fun j => AW X d 93 47 [l0, l1, l2, l3] (.int (q.2 j) :: S) st P := zq_iaload (zd_of zb_X6_frees dX6_frees_46)
theorem E_X6_frees_47 : AW X d 93 47 [l0, l1, .int x, l3] S st P = AW X d 93 48 [l0, l1, .int x, l3] (.int x :: S) st P := zAW_st (zd_of zb_X6_frees dX6_frees_47) rfl rfl
theorem E_X6_frees_48 : AW X d 93 48 [l0, l1, l2, l3] (.int y :: .int x :: S) st P = if ¬ x = y then AW X d 93 55 [l0, l1, l2, l3] S st P else AW X d 93 51 [l0, l1, l2, l3] S st P := zq_icmp (c := ¬ x = y) (zd_of zb_X6_frees dX6_frees_48) (by decide) rfl
theorem E_X6_frees_51 : AW X d 93 51 [l0, l1, l2, l3] S st P = AW X d 93 52 [l0, l1, l2, l3] (.int 3 :: S) st P := zq_iconst (zd_of zb_X6_frees dX6_frees_51) (by decide)
theorem E_X6_frees_52 : AW X d 93 52 [l0, l1, l2, l3] S st P = AW X d 93 61 [l0, l1, l2, l3] S st P := zq_goto (zd_of zb_X6_frees dX6_frees_52) (by decide)
theorem E_X6_frees_55 : AW X d 93 55 [.ref a, l1, l2, l3] S st P = AW X d 93 56 [.ref a, l1, l2, l3] (.ref a :: S) st P := zAW_st (zd_of zb_X6_frees dX6_frees_55) rfl rfl
theorem E_X6_frees_55n : AW X d 93 55 [.null, l1, l2, l3] S st P = AW X d 93 56 [.null, l1, l2, l3] (.null :: S) st P := zAW_st (zd_of zb_X6_frees dX6_frees_55) rfl rfl
theorem E_X6_frees_56 : AW X d 93 56 [l0, l1, l2, l3] (.ref a :: S) st P = zwith (zget st a 7 12) fun v => AW X d 93 59 [l0, l1, l2, l3] (v :: S) st P := zq_getfield (zd_of zb_X6_frees dX6_frees_56) zo_X6_frees zf_6_43
theorem E_X6_frees_59 : AW X d 93 59 [l0, l1, l2, .int x] S st P = AW X d 93 60 [l0, l1, l2, .int x] (.int x :: S) st P := zAW_st (zd_of zb_X6_frees dX6_frees_59) rfl rfl
theorem E_X6_frees_60 : AW X d 93 60 [l0, l1, l2, l3] (.int x :: .ref a :: S) st P = zwith (zai X st a) fun q => zwith (zix x q.1) fun j => AW X d 93 61 [l0, l1, l2, l3] (.int (q.2 j) :: S) st P := zq_iaload (zd_of zb_X6_frees dX6_frees_60)
theorem E_X6_frees_61 : AW X d 93 61 [l0, l1, l2, l3] (.int y :: .int x :: .ref a :: S) st P = zwith (zaI st a) fun q => zwith (zix x q.1) fun j => AW X d 93 62 [l0, l1, l2, l3] S (zsta st a (q.1, .inl (upd q.2 j y))) P := zq_iastore (zd_of zb_X6_frees dX6_frees_61)
theorem E_X6_frees_62 : AW X d 93 62 [l0, l1, l2, .int x] S st P = AW X d 93 65 [l0, l1, l2, .int (x + 1)] S st P := zq_iinc (zd_of zb_X6_frees dX6_frees_62) rfl (by decide)
theorem E_X6_frees_65 : AW X d 93 65 [l0, l1, l2, l3] S st P = AW X d 93 28 [l0, l1, l2, l3] S st P := zq_goto (zd_of zb_X6_frees dX6_frees_65) (by decide)
theorem E_X6_frees_68 : AW X d 93 68 [.ref a, l1, l2, l3] S st P = AW X d 93 69 [.ref a, l1, l2, l3] (.ref a :: S) st P := zAW_st (zd_of zb_X6_frees dX6_frees_68) rfl rfl
theorem E_X6_frees_68n : AW X d 93 68 [.null, l1, l2, l3] S st P = AW X d 93 69 [.null, l1, l2, l3] (.null :: S) st P := zAW_st (zd_of zb_X6_frees dX6_frees_68) rfl rfl
theorem E_X6_frees_69 : AW X d 93 69 [l0, l1, l2, l3] (.ref a :: S) st P = zwith (zget st a 7 12) fun v => AW X d 93 72 [l0, l1, l2, l3] (v :: S) st P := zq_getfield (zd_of zb_X6_frees dX6_frees_69) zo_X6_frees zf_6_43
theorem E_X6_frees_72 : AW X d 93 72 [l0, l1, .int x, l3] S st P = AW X d 93 73 [l0, l1, .int x, l3] (.int x :: S) st P := zAW_st (zd_of zb_X6_frees dX6_frees_72) rfl rfl
theorem E_X6_frees_73 : AW X d 93 73 [l0, l1, l2, l3] S st P = AW X d 93 74 [l0, l1, l2, l3] (.int 0 :: S) st P := zq_iconst (zd_of zb_X6_frees dX6_frees_73) (by decide)
theorem E_X6_frees_74 : AW X d 93 74 [l0, l1, l2, l3] (.int y :: .int x :: .ref a :: S) st P = zwith (zaI st a) fun q => zwith (zix x q.1) fun j => AW X d 93 75 [l0, l1, l2, l3] S (zsta st a (q.1, .inl (upd q.2 j y))) P := zq_iastore (zd_of zb_X6_frees dX6_frees_74)
theorem E_X6_frees_75 : AW X d 93 75 [.ref a, l1, l2, l3] S st P = AW X d 93 76 [.ref a, l1, l2, l3] (.ref a :: S) st P := zAW_st (zd_of zb_X6_frees dX6_frees_75) rfl rfl
theorem E_X6_frees_75n : AW X d 93 75 [.null, l1, l2, l3] S st P = AW X d 93 76 [.null, l1, l2, l3] (.null :: S) st P := zAW_st (zd_of zb_X6_frees dX6_frees_75) rfl rfl
theorem E_X6_frees_76 : AW X d 93 76 [l0, l1, l2, l3] (.ref a :: S) st P = zwith (zget st a 7 13) fun v => AW X d 93 79 [l0, l1, l2, l3] (v :: S) st P := zq_getfield (zd_of zb_X6_frees dX6_frees_76) zo_X6_frees zf_6_46
theorem E_X6_frees_79 : AW X d 93 79 [l0, l1, .int x, l3] S st P = AW X d 93 80 [l0, l1, .int x, l3] (.int x :: S) st P := zAW_st (zd_of zb_X6_frees dX6_frees_79) rfl rfl
theorem E_X6_frees_80 : AW X d 93 80 [l0, l1, l2, l3] (.int x :: .ref a :: S) st P = zwith (zai X st a) fun q => zwith (zix x q.1) fun j => AW X d 93 81 [l0, l1, l2, l3] (.int (q.2 j) :: S) st P := zq_iaload (zd_of zb_X6_frees dX6_frees_80)
theorem E_X6_frees_81 : AW X d 93 81 [l0, l1, l2, l3] (.int x :: S) st P = AW X d 93 82 [l0, l1, .int x, l3] S st P := zAW_st (zd_of zb_X6_frees dX6_frees_81) rfl rfl
theorem E_X6_frees_82 : AW X d 93 82 [l0, l1, l2, l3] S st P = AW X d 93 14 [l0, l1, l2, l3] S st P := zq_goto (zd_of zb_X6_frees dX6_frees_82) (by decide)
theorem E_X6_frees_85 : AW X d 93 85 [l0, l1, l2, l3] [] st P = P (.inl none) st := zAW_ret (w := (.inl none, st)) (zd_of zb_X6_frees dX6_frees_85) rfl rfl (by simp only [zfin, zr_X6_frees])
theorem A_X6_frees : AC X (d + 1) 93 [.ref a, .int x] st P = AW X d 93 0 [.ref a, .int x, .retAddr 0, .retAddr 0] [] st P := AC_eq ⟨⟨(show 2 ≤ zml 93 by decide +kernel), by decide +kernel⟩, by simp [zc1_int, zc1_ref, zc1_float]⟩
theorem E_X6_isJob_0 : AW X d 94 0 [.ref a, l1] S st P = AW X d 94 1 [.ref a, l1] (.ref a :: S) st P := zAW_st (zd_of zb_X6_isJob dX6_isJob_0) rfl rfl
theorem E_X6_isJob_0n : AW X d 94 0 [.null, l1] S st P = AW X d 94 1 [.null, l1] (.null :: S) st P := zAW_st (zd_of zb_X6_isJob dX6_isJob_0) rfl rfl
theorem E_X6_isJob_1 : AW X d 94 1 [l0, .int x] S st P = AW X d 94 2 [l0, .int x] (.int x :: S) st P := zAW_st (zd_of zb_X6_isJob dX6_isJob_1) rfl rfl
theorem E_X6_isJob_2 : AW X d 94 2 [l0, l1] S st P = AW X d 94 3 [l0, l1] (.int 0 :: S) st P := zq_iconst (zd_of zb_X6_isJob dX6_isJob_2) (by decide)
theorem E_X6_isJob_3 : AW X d 94 3 [.ref a, l1] S st P = AW X d 94 4 [.ref a, l1] (.ref a :: S) st P := zAW_st (zd_of zb_X6_isJob dX6_isJob_3) rfl rfl
theorem E_X6_isJob_3n : AW X d 94 3 [.null, l1] S st P = AW X d 94 4 [.null, l1] (.null :: S) st P := zAW_st (zd_of zb_X6_isJob dX6_isJob_3) rfl rfl
theorem E_X6_isJob_4 : AW X d 94 4 [l0, l1] (.ref a :: S) st P = zwith (zget st a 7 21) fun v => AW X d 94 7 [l0, l1] (v :: S) st P := zq_getfield (zd_of zb_X6_isJob dX6_isJob_4) zo_X6_isJob zf_6_132
theorem E_X6_isJob_7 : AW X d 94 7 [l0, l1] S st P = AW X d 94 8 [l0, l1] (.int 1 :: S) st P := zq_iconst (zd_of zb_X6_isJob dX6_isJob_7) (by decide)
theorem E_X6_isJob_8 : AW X d 94 8 [l0, l1] (.int y :: .int x :: S) st P = AW X d 94 9 [l0, l1] (.int (x - y) :: S) st P := zAW_st (zd_of zb_X6_isJob dX6_isJob_8) rfl rfl
theorem E_X6_isJob_9 : AW X d 94 9 [l0, l1] (.int x3 :: .int y :: .int x :: .ref a :: S) st P = zif (zis st a 7 = true) (zif (S.length ≤ 4) (AC X d 75 [.ref a, .int x, .int y, .int x3] st (zaft X d 94 9 [l0, l1] S P))) := zq_callV (B := [.int x, .int y, .int x3]) (zd_of zb_X6_isJob dX6_isJob_9) zo_X6_isJob (by decide) zl_6_74 zn_75 rfl rfl rfl
theorem E_X6_isJob_12 : AW X d 94 12 [l0, l1] ([.int x]) st P = zif (x &&& 1 = x) (P (.inl (some (.int x))) st) := by
  by_cases h : x &&& 1 = x
  · rw [zif_of h]; exact zAW_ret (w := (.inl (some (.int x)), st)) (zd_of zb_X6_isJob dX6_isJob_12) rfl rfl (by simp only [zfin, zr_X6_isJob]; rw [if_pos h])
  · rw [zAW_stuck (zd_of zb_X6_isJob dX6_isJob_12) rfl (by simp only [zfin, zr_X6_isJob]; rw [if_neg h]) rfl]; exact propext ⟨fun z => z.elim, fun z => h z.1⟩
theorem A_X6_isJob : AC X (d + 1) 94 [.ref a, .int x] st P = AW X d 94 0 [.ref a, .int x] [] st P := AC_eq ⟨⟨(show 2 ≤ zml 94 by decide +kernel), by decide +kernel⟩, by simp [zc1_int, zc1_ref, zc1_float]⟩
theorem E_X6_takesOff_0 : AW X d 95 0 [l0, l1, .int x, l3] S st P = AW X d 95 1 [l0, l1, .int x, l3] (.int x :: S) st P := zAW_st (zd_of zb_X6_takesOff dX6_takesOff_0) rfl rfl
theorem E_X6_takesOff_1 : AW X d 95 1 [l0, l1, l2, l3] S st P = AW X d 95 2 [l0, l1, l2, l3] (.int 1 :: S) st P := zq_iconst (zd_of zb_X6_takesOff dX6_takesOff_1) (by decide)
theorem E_X6_takesOff_2 : AW X d 95 2 [l0, l1, l2, l3] (.int y :: .int x :: S) st P = AW X d 95 3 [l0, l1, l2, l3] (.int (x - y) :: S) st P := zAW_st (zd_of zb_X6_takesOff dX6_takesOff_2) rfl rfl
theorem E_X6_takesOff_3 : AW X d 95 3 [l0, l1, l2, l3] (.int x :: S) st P = AW X d 95 4 [l0, l1, l2, .int x] S st P := zAW_st (zd_of zb_X6_takesOff dX6_takesOff_3) rfl rfl
theorem E_X6_takesOff_4 : AW X d 95 4 [l0, l1, l2, .int x] S st P = AW X d 95 5 [l0, l1, l2, .int x] (.int x :: S) st P := zAW_st (zd_of zb_X6_takesOff dX6_takesOff_4) rfl rfl
theorem E_X6_takesOff_5 : AW X d 95 5 [l0, l1, l2, l3] (.int x :: S) st P = if x < 0 then AW X d 95 29 [l0, l1, l2, l3] S st P else AW X d 95 8 [l0, l1, l2, l3] S st P := zq_if (c := x < 0) (zd_of zb_X6_takesOff dX6_takesOff_5) (by decide) rfl
theorem E_X6_takesOff_8 : AW X d 95 8 [.ref a, l1, l2, l3] S st P = AW X d 95 9 [.ref a, l1, l2, l3] (.ref a :: S) st P := zAW_st (zd_of zb_X6_takesOff dX6_takesOff_8) rfl rfl
theorem E_X6_takesOff_8n : AW X d 95 8 [.null, l1, l2, l3] S st P = AW X d 95 9 [.null, l1, l2, l3] (.null :: S) st P := zAW_st (zd_of zb_X6_takesOff dX6_takesOff_8) rfl rfl
theorem E_X6_takesOff_9 : AW X d 95 9 [.ref a, l1, l2, l3] S st P = AW X d 95 10 [.ref a, l1, l2, l3] (.ref a :: S) st P := zAW_st (zd_of zb_X6_takesOff dX6_takesOff_9) rfl rfl
theorem E_X6_takesOff_9n : AW X d 95 9 [.null, l1, l2, l3] S st P = AW X d 95 10 [.null, l1, l2, l3] (.null :: S) st P := zAW_st (zd_of zb_X6_takesOff dX6_takesOff_9) rfl rfl
theorem E_X6_takesOff_10 : AW X d 95 10 [l0, l1, l2, l3] (.ref a :: S) st P = zwith (zget st a 7 20) fun v => AW X d 95 13 [l0, l1, l2, l3] (v :: S) st P := zq_getfield (zd_of zb_X6_takesOff dX6_takesOff_10) zo_X6_takesOff zf_6_61
theorem E_X6_takesOff_13 : AW X d 95 13 [l0, l1, l2, l3] S st P = AW X d 95 15 [l0, l1, l2, l3] (.int 6 :: S) st P := zq_bipush (zd_of zb_X6_takesOff dX6_takesOff_13) (by decide)
theorem E_X6_takesOff_15 : AW X d 95 15 [l0, .int x, l2, l3] S st P = AW X d 95 16 [l0, .int x, l2, l3] (.int x :: S) st P := zAW_st (zd_of zb_X6_takesOff dX6_takesOff_15) rfl rfl
theorem E_X6_takesOff_16 : AW X d 95 16 [l0, l1, l2, l3] (.int y :: .int x :: S) st P = AW X d 95 17 [l0, l1, l2, l3] (.int (x * y) :: S) st P := zAW_st (zd_of zb_X6_takesOff dX6_takesOff_16) rfl rfl
theorem E_X6_takesOff_17 : AW X d 95 17 [l0, l1, l2, .int x] S st P = AW X d 95 18 [l0, l1, l2, .int x] (.int x :: S) st P := zAW_st (zd_of zb_X6_takesOff dX6_takesOff_17) rfl rfl
theorem E_X6_takesOff_18 : AW X d 95 18 [l0, l1, l2, l3] (.int y :: .int x :: S) st P = AW X d 95 19 [l0, l1, l2, l3] (.int (x + y) :: S) st P := zAW_st (zd_of zb_X6_takesOff dX6_takesOff_18) rfl rfl
theorem E_X6_takesOff_19 : AW X d 95 19 [l0, l1, l2, l3] (.int x :: .ref a :: S) st P = zwith (zai X st a) fun q => zwith (zix x q.1) fun j => AW X d 95 20 [l0, l1, l2, l3] (.int (q.2 j) :: S) st P := zq_iaload (zd_of zb_X6_takesOff dX6_takesOff_19)
theorem E_X6_takesOff_20 : AW X d 95 20 [l0, l1, l2, l3] (.int x :: .ref a :: S) st P = zif (zis st a 7 = true) (zif (S.length ≤ 4) (AC X d 93 [.ref a, .int x] st (zaft X d 95 20 [l0, l1, l2, l3] S P))) := zq_callV (B := [.int x]) (zd_of zb_X6_takesOff dX6_takesOff_20) zo_X6_takesOff (by decide) zl_6_135 zn_93 rfl rfl rfl
theorem E_X6_takesOff_23 : AW X d 95 23 [l0, l1, l2, .int x] S st P = AW X d 95 26 [l0, l1, l2, .int (x + (-1))] S st P := zq_iinc (zd_of zb_X6_takesOff dX6_takesOff_23) rfl (by decide)
theorem E_X6_takesOff_26 : AW X d 95 26 [l0, l1, l2, l3] S st P = AW X d 95 4 [l0, l1, l2, l3] S st P := zq_goto (zd_of zb_X6_takesOff dX6_takesOff_26) (by decide)
theorem E_X6_takesOff_29 : AW X d 95 29 [.ref a, l1, l2, l3] S st P = AW X d 95 30 [.ref a, l1, l2, l3] (.ref a :: S) st P := zAW_st (zd_of zb_X6_takesOff dX6_takesOff_29) rfl rfl
theorem E_X6_takesOff_29n : AW X d 95 29 [.null, l1, l2, l3] S st P = AW X d 95 30 [.null, l1, l2, l3] (.null :: S) st P := zAW_st (zd_of zb_X6_takesOff dX6_takesOff_29) rfl rfl
theorem E_X6_takesOff_30 : AW X d 95 30 [l0, l1, l2, l3] (.ref a :: S) st P = zwith (zget st a 7 18) fun v => AW X d 95 33 [l0, l1, l2, l3] (v :: S) st P := zq_getfield (zd_of zb_X6_takesOff dX6_takesOff_30) zo_X6_takesOff zf_6_55
theorem E_X6_takesOff_33 : AW X d 95 33 [l0, .int x, l2, l3] S st P = AW X d 95 34 [l0, .int x, l2, l3] (.int x :: S) st P := zAW_st (zd_of zb_X6_takesOff dX6_takesOff_33) rfl rfl
theorem E_X6_takesOff_34 : AW X d 95 34 [l0, l1, l2, l3] S st P = AW X d 95 35 [l0, l1, l2, l3] (.int 0 :: S) st P := zq_iconst (zd_of zb_X6_takesOff dX6_takesOff_34) (by decide)
theorem E_X6_takesOff_35 : AW X d 95 35 [l0, l1, l2, l3] (.int y :: .int x :: .ref a :: S) st P = zwith (zaI st a) fun q => zwith (zix x q.1) fun j => AW X d 95 36 [l0, l1, l2, l3] S (zsta st a (q.1, .inl (upd q.2 j y))) P := zq_iastore (zd_of zb_X6_takesOff dX6_takesOff_35)
theorem E_X6_takesOff_36 : AW X d 95 36 [l0, l1, l2, l3] [] st P = P (.inl none) st := zAW_ret (w := (.inl none, st)) (zd_of zb_X6_takesOff dX6_takesOff_36) rfl rfl (by simp only [zfin, zr_X6_takesOff])
theorem A_X6_takesOff : AC X (d + 1) 95 [.ref a, .int x, .int y] st P = AW X d 95 0 [.ref a, .int x, .int y, .retAddr 0] [] st P := AC_eq ⟨⟨(show 3 ≤ zml 95 by decide +kernel), by decide +kernel⟩, by simp [zc1_int, zc1_ref, zc1_float]⟩
theorem E_X6_nests_0 : AW X d 96 0 [.ref a, l1, l2, l3, l4, l5, l6, l7] S st P = AW X d 96 1 [.ref a, l1, l2, l3, l4, l5, l6, l7] (.ref a :: S) st P := zAW_st (zd_of zb_X6_nests dX6_nests_0) rfl rfl
theorem E_X6_nests_0n : AW X d 96 0 [.null, l1, l2, l3, l4, l5, l6, l7] S st P = AW X d 96 1 [.null, l1, l2, l3, l4, l5, l6, l7] (.null :: S) st P := zAW_st (zd_of zb_X6_nests dX6_nests_0) rfl rfl
theorem E_X6_nests_1 : AW X d 96 1 [l0, l1, l2, l3, l4, l5, l6, l7] (.ref a :: S) st P = zwith (zget st a 7 14) fun v => AW X d 96 4 [l0, l1, l2, l3, l4, l5, l6, l7] (v :: S) st P := zq_getfield (zd_of zb_X6_nests dX6_nests_1) zo_X6_nests zf_6_115
theorem E_X6_nests_4 : AW X d 96 4 [l0, l1, l2, l3, l4, l5, l6, l7] (.int x :: S) st P = AW X d 96 5 [l0, l1, .int x, l3, l4, l5, l6, l7] S st P := zAW_st (zd_of zb_X6_nests dX6_nests_4) rfl rfl
theorem E_X6_nests_5 : AW X d 96 5 [.ref a, l1, l2, l3, l4, l5, l6, l7] S st P = AW X d 96 6 [.ref a, l1, l2, l3, l4, l5, l6, l7] (.ref a :: S) st P := zAW_st (zd_of zb_X6_nests dX6_nests_5) rfl rfl
theorem E_X6_nests_5n : AW X d 96 5 [.null, l1, l2, l3, l4, l5, l6, l7] S st P = AW X d 96 6 [.null, l1, l2, l3, l4, l5, l6, l7] (.null :: S) st P := zAW_st (zd_of zb_X6_nests dX6_nests_5) rfl rfl
theorem E_X6_nests_6 : AW X d 96 6 [.ref a, l1, l2, l3, l4, l5, l6, l7] S st P = AW X d 96 7 [.ref a, l1, l2, l3, l4, l5, l6, l7] (.ref a :: S) st P := zAW_st (zd_of zb_X6_nests dX6_nests_6) rfl rfl
theorem E_X6_nests_6n : AW X d 96 6 [.null, l1, l2, l3, l4, l5, l6, l7] S st P = AW X d 96 7 [.null, l1, l2, l3, l4, l5, l6, l7] (.null :: S) st P := zAW_st (zd_of zb_X6_nests dX6_nests_6) rfl rfl
theorem E_X6_nests_7 : AW X d 96 7 [l0, l1, l2, l3, l4, l5, l6, l7] (.ref a :: S) st P = zwith (zget st a 7 16) fun v => AW X d 96 10 [l0, l1, l2, l3, l4, l5, l6, l7] (v :: S) st P := zq_getfield (zd_of zb_X6_nests dX6_nests_7) zo_X6_nests zf_6_49
theorem E_X6_nests_10 : AW X d 96 10 [l0, .int x, l2, l3, l4, l5, l6, l7] S st P = AW X d 96 11 [l0, .int x, l2, l3, l4, l5, l6, l7] (.int x :: S) st P := zAW_st (zd_of zb_X6_nests dX6_nests_10) rfl rfl
theorem E_X6_nests_11 : AW X d 96 11 [l0, l1, l2, l3, l4, l5, l6, l7] (.int x :: .ref a :: S) st P = zwith (zai X st a) fun q => zwith (zix x q.1) fun j => AW X d 96 12 [l0, l1, l2, l3, l4, l5, l6, l7] (.int (q.2 j) :: S) st P := zq_iaload (zd_of zb_X6_nests dX6_nests_11)
theorem E_X6_nests_12 : AW X d 96 12 [l0, l1, l2, l3, l4, l5, l6, l7] S st P = AW X d 96 13 [l0, l1, l2, l3, l4, l5, l6, l7] (.int 1 :: S) st P := zq_iconst (zd_of zb_X6_nests dX6_nests_12) (by decide)
theorem E_X6_nests_13 : AW X d 96 13 [l0, l1, l2, l3, l4, l5, l6, l7] (.int y :: .int x :: .ref a :: S) st P = zif (zis st a 7 = true) (zif (S.length ≤ 4) (AC X d 83 [.ref a, .int x, .int y] st (zaft X d 96 13 [l0, l1, l2, l3, l4, l5, l6, l7] S P))) := zq_callV (B := [.int x, .int y]) (zd_of zb_X6_nests dX6_nests_13) zo_X6_nests (by decide) zl_6_100 zn_83 rfl rfl rfl
theorem E_X6_nests_16 : AW X d 96 16 [l0, l1, l2, l3, l4, l5, l6, l7] S st P = AW X d 96 17 [l0, l1, l2, l3, l4, l5, l6, l7] (.int 1 :: S) st P := zq_iconst (zd_of zb_X6_nests dX6_nests_16) (by decide)
theorem E_X6_nests_17 : AW X d 96 17 [l0, l1, l2, l3, l4, l5, l6, l7] (.int y :: .int x :: S) st P = AW X d 96 18 [l0, l1, l2, l3, l4, l5, l6, l7] (.int (x + y) :: S) st P := zAW_st (zd_of zb_X6_nests dX6_nests_17) rfl rfl
theorem E_X6_nests_18 : AW X d 96 18 [l0, l1, l2, l3, l4, l5, l6, l7] (.int x :: S) st P = AW X d 96 19 [l0, l1, l2, .int x, l4, l5, l6, l7] S st P := zAW_st (zd_of zb_X6_nests dX6_nests_18) rfl rfl
theorem E_X6_nests_19 : AW X d 96 19 [.ref a, l1, l2, l3, l4, l5, l6, l7] S st P = AW X d 96 20 [.ref a, l1, l2, l3, l4, l5, l6, l7] (.ref a :: S) st P := zAW_st (zd_of zb_X6_nests dX6_nests_19) rfl rfl
theorem E_X6_nests_19n : AW X d 96 19 [.null, l1, l2, l3, l4, l5, l6, l7] S st P = AW X d 96 20 [.null, l1, l2, l3, l4, l5, l6, l7] (.null :: S) st P := zAW_st (zd_of zb_X6_nests dX6_nests_19) rfl rfl
theorem E_X6_nests_20 : AW X d 96 20 [.ref a, l1, l2, l3, l4, l5, l6, l7] S st P = AW X d 96 21 [.ref a, l1, l2, l3, l4, l5, l6, l7] (.ref a :: S) st P := zAW_st (zd_of zb_X6_nests dX6_nests_20) rfl rfl
theorem E_X6_nests_20n : AW X d 96 20 [.null, l1, l2, l3, l4, l5, l6, l7] S st P = AW X d 96 21 [.null, l1, l2, l3, l4, l5, l6, l7] (.null :: S) st P := zAW_st (zd_of zb_X6_nests dX6_nests_20) rfl rfl
theorem E_X6_nests_21 : AW X d 96 21 [l0, l1, l2, l3, l4, l5, l6, l7] (.ref a :: S) st P = zwith (zget st a 7 16) fun v => AW X d 96 24 [l0, l1, l2, l3, l4, l5, l6, l7] (v :: S) st P := zq_getfield (zd_of zb_X6_nests dX6_nests_21) zo_X6_nests zf_6_49
theorem E_X6_nests_24 : AW X d 96 24 [l0, .int x, l2, l3, l4, l5, l6, l7] S st P = AW X d 96 25 [l0, .int x, l2, l3, l4, l5, l6, l7] (.int x :: S) st P := zAW_st (zd_of zb_X6_nests dX6_nests_24) rfl rfl
theorem E_X6_nests_25 : AW X d 96 25 [l0, l1, l2, l3, l4, l5, l6, l7] (.int x :: .ref a :: S) st P = zwith (zai X st a) fun q => zwith (zix x q.1) fun j => AW X d 96 26 [l0, l1, l2, l3, l4, l5, l6, l7] (.int (q.2 j) :: S) st P := zq_iaload (zd_of zb_X6_nests dX6_nests_25)
theorem E_X6_nests_26 : AW X d 96 26 [l0, l1, l2, l3, l4, l5, l6, l7] S st P = AW X d 96 27 [l0, l1, l2, l3, l4, l5, l6, l7] (.int 0 :: S) st P := zq_iconst (zd_of zb_X6_nests dX6_nests_26) (by decide)
theorem E_X6_nests_27 : AW X d 96 27 [l0, l1, l2, l3, l4, l5, l6, l7] (.int y :: .int x :: .ref a :: S) st P = zif (zis st a 7 = true) (zif (S.length ≤ 4) (AC X d 83 [.ref a, .int x, .int y] st (zaft X d 96 27 [l0, l1, l2, l3, l4, l5, l6, l7] S P))) := zq_callV (B := [.int x, .int y]) (zd_of zb_X6_nests dX6_nests_27) zo_X6_nests (by decide) zl_6_100 zn_83 rfl rfl rfl
theorem E_X6_nests_30 : AW X d 96 30 [l0, l1, l2, l3, l4, l5, l6, l7] S st P = AW X d 96 31 [l0, l1, l2, l3, l4, l5, l6, l7] (.int 1 :: S) st P := zq_iconst (zd_of zb_X6_nests dX6_nests_30) (by decide)
theorem E_X6_nests_31 : AW X d 96 31 [l0, l1, l2, l3, l4, l5, l6, l7] (.int y :: .int x :: S) st P = AW X d 96 32 [l0, l1, l2, l3, l4, l5, l6, l7] (.int (x + y) :: S) st P := zAW_st (zd_of zb_X6_nests dX6_nests_31) rfl rfl
theorem E_X6_nests_32 : AW X d 96 32 [l0, l1, l2, l3, l4, l5, l6, l7] (.int x :: S) st P = AW X d 96 34 [l0, l1, l2, l3, .int x, l5, l6, l7] S st P := zAW_st (zd_of zb_X6_nests dX6_nests_32) rfl rfl
theorem E_X6_nests_34 : AW X d 96 34 [l0, l1, l2, l3, l4, l5, l6, l7] S st P = AW X d 96 35 [l0, l1, l2, l3, l4, l5, l6, l7] (.int 0 :: S) st P := zq_iconst (zd_of zb_X6_nests dX6_nests_34) (by decide)
theorem E_X6_nests_35 : AW X d 96 35 [l0, l1, l2, l3, l4, l5, l6, l7] (.int x :: S) st P = AW X d 96 37 [l0, l1, l2, l3, l4, .int x, l6, l7] S st P := zAW_st (zd_of zb_X6_nests dX6_nests_35) rfl rfl
theorem E_X6_nests_37 : AW X d 96 37 [l0, l1, l2, l3, l4, l5, l6, l7] S st P = AW X d 96 38 [l0, l1, l2, l3, l4, l5, l6, l7] (.int 1 :: S) st P := zq_iconst (zd_of zb_X6_nests dX6_nests_37) (by decide)
theorem E_X6_nests_38 : AW X d 96 38 [l0, l1, l2, l3, l4, l5, l6, l7] (.int x :: S) st P = AW X d 96 40 [l0, l1, l2, l3, l4, l5, .int x, l7] S st P := zAW_st (zd_of zb_X6_nests dX6_nests_38) rfl rfl
theorem E_X6_nests_40 : AW X d 96 40 [l0, l1, l2, l3, l4, l5, .int x, l7] S st P = AW X d 96 42 [l0, l1, l2, l3, l4, l5, .int x, l7] (.int x :: S) st P := zAW_st (zd_of zb_X6_nests dX6_nests_40) rfl rfl
theorem E_X6_nests_42 : AW X d 96 42 [l0, l1, l2, l3, l4, l5, l6, l7] (.int x :: S) st P = if x = 0 then AW X d 96 109 [l0, l1, l2, l3, l4, l5, l6, l7] S st P else AW X d 96 45 [l0, l1, l2, l3, l4, l5, l6, l7] S st P := zq_if (c := x = 0) (zd_of zb_X6_nests dX6_nests_42) (by decide) rfl
theorem E_X6_nests_45 : AW X d 96 45 [l0, l1, l2, l3, l4, .int x, l6, l7] S st P = AW X d 96 47 [l0, l1, l2, l3, l4, .int x, l6, l7] (.int x :: S) st P := zAW_st (zd_of zb_X6_nests dX6_nests_45) rfl rfl
theorem E_X6_nests_47 : AW X d 96 47 [.ref a, l1, l2, l3, l4, l5, l6, l7] S st P = AW X d 96 48 [.ref a, l1, l2, l3, l4, l5, l6, l7] (.ref a :: S) st P := zAW_st (zd_of zb_X6_nests dX6_nests_47) rfl rfl
theorem E_X6_nests_47n : AW X d 96 47 [.null, l1, l2, l3, l4, l5, l6, l7] S st P = AW X d 96 48 [.null, l1, l2, l3, l4, l5, l6, l7] (.null :: S) st P := zAW_st (zd_of zb_X6_nests dX6_nests_47) rfl rfl
theorem E_X6_nests_48 : AW X d 96 48 [l0, l1, l2, l3, l4, l5, l6, l7] (.ref a :: S) st P = zwith (zget st a 7 17) fun v => AW X d 96 51 [l0, l1, l2, l3, l4, l5, l6, l7] (v :: S) st P := zq_getfield (zd_of zb_X6_nests dX6_nests_48) zo_X6_nests zf_6_52
theorem E_X6_nests_51 : AW X d 96 51 [l0, .int x, l2, l3, l4, l5, l6, l7] S st P = AW X d 96 52 [l0, .int x, l2, l3, l4, l5, l6, l7] (.int x :: S) st P := zAW_st (zd_of zb_X6_nests dX6_nests_51) rfl rfl
theorem E_X6_nests_52 : AW X d 96 52 [l0, l1, l2, l3, l4, l5, l6, l7] (.int x :: .ref a :: S) st P = zwith (zai X st a) fun q => zwith (zix x q.1) fun j => AW X d 96 53 [l0, l1, l2, l3, l4, l5, l6, l7] (.int (q.2 j) :: S) st P := zq_iaload (zd_of zb_X6_nests dX6_nests_52)
theorem E_X6_nests_53 : AW X d 96 53 [l0, l1, l2, l3, l4, l5, l6, l7] (.int y :: .int x :: S) st P = if y ≤ x then AW X d 96 109 [l0, l1, l2, l3, l4, l5, l6, l7] S st P else AW X d 96 56 [l0, l1, l2, l3, l4, l5, l6, l7] S st P := zq_icmp (c := y ≤ x) (zd_of zb_X6_nests dX6_nests_53) (by decide) rfl
theorem E_X6_nests_56 : AW X d 96 56 [.ref a, l1, l2, l3, l4, l5, l6, l7] S st P = AW X d 96 57 [.ref a, l1, l2, l3, l4, l5, l6, l7] (.ref a :: S) st P := zAW_st (zd_of zb_X6_nests dX6_nests_56) rfl rfl
theorem E_X6_nests_56n : AW X d 96 56 [.null, l1, l2, l3, l4, l5, l6, l7] S st P = AW X d 96 57 [.null, l1, l2, l3, l4, l5, l6, l7] (.null :: S) st P := zAW_st (zd_of zb_X6_nests dX6_nests_56) rfl rfl
theorem E_X6_nests_57 : AW X d 96 57 [l0, l1, l2, .int x, l4, l5, l6, l7] S st P = AW X d 96 58 [l0, l1, l2, .int x, l4, l5, l6, l7] (.int x :: S) st P := zAW_st (zd_of zb_X6_nests dX6_nests_57) rfl rfl
theorem E_X6_nests_58 : AW X d 96 58 [l0, l1, l2, l3, .int x, l5, l6, l7] S st P = AW X d 96 60 [l0, l1, l2, l3, .int x, l5, l6, l7] (.int x :: S) st P := zAW_st (zd_of zb_X6_nests dX6_nests_58) rfl rfl
theorem E_X6_nests_60 : AW X d 96 60 [l0, l1, l2, l3, l4, l5, l6, l7] (.int y :: .int x :: .ref a :: S) st P = zif (zis st a 7 = true) (zif (S.length ≤ 4) (AC X d 91 [.ref a, .int x, .int y] st (zaft X d 96 60 [l0, l1, l2, l3, l4, l5, l6, l7] S P))) := zq_callV (B := [.int x, .int y]) (zd_of zb_X6_nests dX6_nests_60) zo_X6_nests (by decide) zl_6_138 zn_91 rfl rfl rfl
theorem E_X6_nests_63 : AW X d 96 63 [l0, l1, l2, l3, l4, l5, l6, l7] (.int x :: S) st P = AW X d 96 65 [l0, l1, l2, l3, l4, l5, l6, .int x] S st P := zAW_st (zd_of zb_X6_nests dX6_nests_63) rfl rfl
theorem E_X6_nests_65 : AW X d 96 65 [l0, l1, l2, l3, l4, l5, l6, .int x] S st P = AW X d 96 67 [l0, l1, l2, l3, l4, l5, l6, .int x] (.int x :: S) st P := zAW_st (zd_of zb_X6_nests dX6_nests_65) rfl rfl
theorem E_X6_nests_67 : AW X d 96 67 [l0, l1, l2, l3, l4, l5, l6, l7] (.int x :: S) st P = if x < 0 then AW X d 96 74 [l0, l1, l2, l3, l4, l5, l6, l7] S st P else AW X d 96 70 [l0, l1, l2, l3, l4, l5, l6, l7] S st P := zq_if (c := x < 0) (zd_of zb_X6_nests dX6_nests_67) (by decide) rfl
theorem E_X6_nests_70 : AW X d 96 70 [l0, l1, l2, l3, l4, l5, l6, l7] S st P = AW X d 96 71 [l0, l1, l2, l3, l4, l5, l6, l7] (.int 1 :: S) st P := zq_iconst (zd_of zb_X6_nests dX6_nests_70) (by decide)
theorem E_X6_nests_71 : AW X d 96 71 [l0, l1, l2, l3, l4, l5, l6, l7] S st P = AW X d 96 75 [l0, l1, l2, l3, l4, l5, l6, l7] S st P := zq_goto (zd_of zb_X6_nests dX6_nests_71) (by decide)
theorem E_X6_nests_74 : AW X d 96 74 [l0, l1, l2, l3, l4, l5, l6, l7] S st P = AW X d 96 75 [l0, l1, l2, l3, l4, l5, l6, l7] (.int 0 :: S) st P := zq_iconst (zd_of zb_X6_nests dX6_nests_74) (by decide)
theorem E_X6_nests_75 : AW X d 96 75 [l0, l1, l2, l3, l4, l5, l6, l7] (.int x :: S) st P = AW X d 96 77 [l0, l1, l2, l3, l4, l5, .int x, l7] S st P := zAW_st (zd_of zb_X6_nests dX6_nests_75) rfl rfl
theorem E_X6_nests_77 : AW X d 96 77 [.ref a, l1, l2, l3, l4, l5, l6, l7] S st P = AW X d 96 78 [.ref a, l1, l2, l3, l4, l5, l6, l7] (.ref a :: S) st P := zAW_st (zd_of zb_X6_nests dX6_nests_77) rfl rfl
theorem E_X6_nests_77n : AW X d 96 77 [.null, l1, l2, l3, l4, l5, l6, l7] S st P = AW X d 96 78 [.null, l1, l2, l3, l4, l5, l6, l7] (.null :: S) st P := zAW_st (zd_of zb_X6_nests dX6_nests_77) rfl rfl
theorem E_X6_nests_78 : AW X d 96 78 [l0, l1, l2, l3, l4, l5, l6, l7] (.ref a :: S) st P = zwith (zget st a 7 20) fun v => AW X d 96 81 [l0, l1, l2, l3, l4, l5, l6, l7] (v :: S) st P := zq_getfield (zd_of zb_X6_nests dX6_nests_78) zo_X6_nests zf_6_61
theorem E_X6_nests_81 : AW X d 96 81 [l0, l1, l2, l3, l4, l5, l6, l7] S st P = AW X d 96 83 [l0, l1, l2, l3, l4, l5, l6, l7] (.int 6 :: S) st P := zq_bipush (zd_of zb_X6_nests dX6_nests_81) (by decide)
theorem E_X6_nests_83 : AW X d 96 83 [l0, .int x, l2, l3, l4, l5, l6, l7] S st P = AW X d 96 84 [l0, .int x, l2, l3, l4, l5, l6, l7] (.int x :: S) st P := zAW_st (zd_of zb_X6_nests dX6_nests_83) rfl rfl
theorem E_X6_nests_84 : AW X d 96 84 [l0, l1, l2, l3, l4, l5, l6, l7] (.int y :: .int x :: S) st P = AW X d 96 85 [l0, l1, l2, l3, l4, l5, l6, l7] (.int (x * y) :: S) st P := zAW_st (zd_of zb_X6_nests dX6_nests_84) rfl rfl
theorem E_X6_nests_85 : AW X d 96 85 [l0, l1, l2, l3, l4, .int x, l6, l7] S st P = AW X d 96 87 [l0, l1, l2, l3, l4, .int x, l6, l7] (.int x :: S) st P := zAW_st (zd_of zb_X6_nests dX6_nests_85) rfl rfl
theorem E_X6_nests_87 : AW X d 96 87 [l0, l1, l2, l3, l4, l5, l6, l7] (.int y :: .int x :: S) st P = AW X d 96 88 [l0, l1, l2, l3, l4, l5, l6, l7] (.int (x + y) :: S) st P := zAW_st (zd_of zb_X6_nests dX6_nests_87) rfl rfl
theorem E_X6_nests_88 : AW X d 96 88 [l0, l1, l2, l3, l4, l5, l6, .int x] S st P = AW X d 96 90 [l0, l1, l2, l3, l4, l5, l6, .int x] (.int x :: S) st P := zAW_st (zd_of zb_X6_nests dX6_nests_88) rfl rfl
theorem E_X6_nests_90 : AW X d 96 90 [l0, l1, l2, l3, l4, l5, l6, l7] (.int y :: .int x :: .ref a :: S) st P = zwith (zaI st a) fun q => zwith (zix x q.1) fun j => AW X d 96 91 [l0, l1, l2, l3, l4, l5, l6, l7] S (zsta st a (q.1, .inl (upd q.2 j y))) P := zq_iastore (zd_of zb_X6_nests dX6_nests_90)
theorem E_X6_nests_91 : AW X d 96 91 [l0, l1, l2, l3, l4, .int x, l6, l7] S st P = AW X d 96 93 [l0, l1, l2, l3, l4, .int x, l6, l7] (.int x :: S) st P := zAW_st (zd_of zb_X6_nests dX6_nests_91) rfl rfl
theorem E_X6_nests_93 : AW X d 96 93 [l0, l1, l2, l3, l4, l5, .int x, l7] S st P = AW X d 96 95 [l0, l1, l2, l3, l4, l5, .int x, l7] (.int x :: S) st P := zAW_st (zd_of zb_X6_nests dX6_nests_93) rfl rfl
theorem E_X6_nests_95 : AW X d 96 95 [l0, l1, l2, l3, l4, l5, l6, l7] (.int x :: S) st P = if x = 0 then AW X d 96 102 [l0, l1, l2, l3, l4, l5, l6, l7] S st P else AW X d 96 98 [l0, l1, l2, l3, l4, l5, l6, l7] S st P := zq_if (c := x = 0) (zd_of zb_X6_nests dX6_nests_95) (by decide) rfl
theorem E_X6_nests_98 : AW X d 96 98 [l0, l1, l2, l3, l4, l5, l6, l7] S st P = AW X d 96 99 [l0, l1, l2, l3, l4, l5, l6, l7] (.int 1 :: S) st P := zq_iconst (zd_of zb_X6_nests dX6_nests_98) (by decide)
theorem E_X6_nests_99 : AW X d 96 99 [l0, l1, l2, l3, l4, l5, l6, l7] S st P = AW X d 96 103 [l0, l1, l2, l3, l4, l5, l6, l7] S st P := zq_goto (zd_of zb_X6_nests dX6_nests_99) (by decide)
theorem E_X6_nests_102 : AW X d 96 102 [l0, l1, l2, l3, l4, l5, l6, l7] S st P = AW X d 96 103 [l0, l1, l2, l3, l4, l5, l6, l7] (.int 0 :: S) st P := zq_iconst (zd_of zb_X6_nests dX6_nests_102) (by decide)
theorem E_X6_nests_103 : AW X d 96 103 [l0, l1, l2, l3, l4, l5, l6, l7] (.int y :: .int x :: S) st P = AW X d 96 104 [l0, l1, l2, l3, l4, l5, l6, l7] (.int (x + y) :: S) st P := zAW_st (zd_of zb_X6_nests dX6_nests_103) rfl rfl
theorem E_X6_nests_104 : AW X d 96 104 [l0, l1, l2, l3, l4, l5, l6, l7] (.int x :: S) st P = AW X d 96 106 [l0, l1, l2, l3, l4, .int x, l6, l7] S st P := zAW_st (zd_of zb_X6_nests dX6_nests_104) rfl rfl
theorem E_X6_nests_106 : AW X d 96 106 [l0, l1, l2, l3, l4, l5, l6, l7] S st P = AW X d 96 40 [l0, l1, l2, l3, l4, l5, l6, l7] S st P := zq_goto (zd_of zb_X6_nests dX6_nests_106) (by decide)
theorem E_X6_nests_109 : AW X d 96 109 [l0, l1, l2, l3, l4, l5, .int x, l7] S st P = AW X d 96 111 [l0, l1, l2, l3, l4, l5, .int x, l7] (.int x :: S) st P := zAW_st (zd_of zb_X6_nests dX6_nests_109) rfl rfl
theorem E_X6_nests_111 : AW X d 96 111 [l0, l1, l2, l3, l4, l5, l6, l7] (.int x :: S) st P = if x = 0 then AW X d 96 141 [l0, l1, l2, l3, l4, l5, l6, l7] S st P else AW X d 96 114 [l0, l1, l2, l3, l4, l5, l6, l7] S st P := zq_if (c := x = 0) (zd_of zb_X6_nests dX6_nests_111) (by decide) rfl
theorem E_X6_nests_114 : AW X d 96 114 [.ref a, l1, l2, l3, l4, l5, l6, l7] S st P = AW X d 96 115 [.ref a, l1, l2, l3, l4, l5, l6, l7] (.ref a :: S) st P := zAW_st (zd_of zb_X6_nests dX6_nests_114) rfl rfl
theorem E_X6_nests_114n : AW X d 96 114 [.null, l1, l2, l3, l4, l5, l6, l7] S st P = AW X d 96 115 [.null, l1, l2, l3, l4, l5, l6, l7] (.null :: S) st P := zAW_st (zd_of zb_X6_nests dX6_nests_114) rfl rfl
theorem E_X6_nests_115 : AW X d 96 115 [l0, l1, l2, l3, l4, l5, l6, l7] (.ref a :: S) st P = zwith (zget st a 7 18) fun v => AW X d 96 118 [l0, l1, l2, l3, l4, l5, l6, l7] (v :: S) st P := zq_getfield (zd_of zb_X6_nests dX6_nests_115) zo_X6_nests zf_6_55
theorem E_X6_nests_118 : AW X d 96 118 [l0, .int x, l2, l3, l4, l5, l6, l7] S st P = AW X d 96 119 [l0, .int x, l2, l3, l4, l5, l6, l7] (.int x :: S) st P := zAW_st (zd_of zb_X6_nests dX6_nests_118) rfl rfl
theorem E_X6_nests_119 : AW X d 96 119 [l0, l1, l2, l3, l4, l5, l6, l7] S st P = AW X d 96 120 [l0, l1, l2, l3, l4, l5, l6, l7] (.int 1 :: S) st P := zq_iconst (zd_of zb_X6_nests dX6_nests_119) (by decide)
theorem E_X6_nests_120 : AW X d 96 120 [l0, l1, l2, l3, l4, l5, l6, l7] (.int y :: .int x :: .ref a :: S) st P = zwith (zaI st a) fun q => zwith (zix x q.1) fun j => AW X d 96 121 [l0, l1, l2, l3, l4, l5, l6, l7] S (zsta st a (q.1, .inl (upd q.2 j y))) P := zq_iastore (zd_of zb_X6_nests dX6_nests_120)
theorem E_X6_nests_121 : AW X d 96 121 [.ref a, l1, l2, l3, l4, l5, l6, l7] S st P = AW X d 96 122 [.ref a, l1, l2, l3, l4, l5, l6, l7] (.ref a :: S) st P := zAW_st (zd_of zb_X6_nests dX6_nests_121) rfl rfl
theorem E_X6_nests_121n : AW X d 96 121 [.null, l1, l2, l3, l4, l5, l6, l7] S st P = AW X d 96 122 [.null, l1, l2, l3, l4, l5, l6, l7] (.null :: S) st P := zAW_st (zd_of zb_X6_nests dX6_nests_121) rfl rfl
theorem E_X6_nests_122 : AW X d 96 122 [l0, l1, l2, l3, l4, l5, l6, l7] (.ref a :: S) st P = zwith (zget st a 7 19) fun v => AW X d 96 125 [l0, l1, l2, l3, l4, l5, l6, l7] (v :: S) st P := zq_getfield (zd_of zb_X6_nests dX6_nests_122) zo_X6_nests zf_6_58
theorem E_X6_nests_125 : AW X d 96 125 [l0, .int x, l2, l3, l4, l5, l6, l7] S st P = AW X d 96 126 [l0, .int x, l2, l3, l4, l5, l6, l7] (.int x :: S) st P := zAW_st (zd_of zb_X6_nests dX6_nests_125) rfl rfl
theorem E_X6_nests_126 : AW X d 96 126 [.ref a, l1, l2, l3, l4, l5, l6, l7] S st P = AW X d 96 127 [.ref a, l1, l2, l3, l4, l5, l6, l7] (.ref a :: S) st P := zAW_st (zd_of zb_X6_nests dX6_nests_126) rfl rfl
theorem E_X6_nests_126n : AW X d 96 126 [.null, l1, l2, l3, l4, l5, l6, l7] S st P = AW X d 96 127 [.null, l1, l2, l3, l4, l5, l6, l7] (.null :: S) st P := zAW_st (zd_of zb_X6_nests dX6_nests_126) rfl rfl
theorem E_X6_nests_127 : AW X d 96 127 [l0, l1, l2, l3, l4, l5, l6, l7] (.ref a :: S) st P = zwith (zget st a 7 2) fun v => AW X d 96 130 [l0, l1, l2, l3, l4, l5, l6, l7] (v :: S) st P := zq_getfield (zd_of zb_X6_nests dX6_nests_127) zo_X6_nests zf_6_16
theorem E_X6_nests_130 : AW X d 96 130 [.ref a, l1, l2, l3, l4, l5, l6, l7] S st P = AW X d 96 131 [.ref a, l1, l2, l3, l4, l5, l6, l7] (.ref a :: S) st P := zAW_st (zd_of zb_X6_nests dX6_nests_130) rfl rfl
theorem E_X6_nests_130n : AW X d 96 130 [.null, l1, l2, l3, l4, l5, l6, l7] S st P = AW X d 96 131 [.null, l1, l2, l3, l4, l5, l6, l7] (.null :: S) st P := zAW_st (zd_of zb_X6_nests dX6_nests_130) rfl rfl
theorem E_X6_nests_131 : AW X d 96 131 [l0, l1, l2, l3, l4, l5, l6, l7] (.ref a :: S) st P = zwith (zget st a 7 16) fun v => AW X d 96 134 [l0, l1, l2, l3, l4, l5, l6, l7] (v :: S) st P := zq_getfield (zd_of zb_X6_nests dX6_nests_131) zo_X6_nests zf_6_49
theorem E_X6_nests_134 : AW X d 96 134 [l0, .int x, l2, l3, l4, l5, l6, l7] S st P = AW X d 96 135 [l0, .int x, l2, l3, l4, l5, l6, l7] (.int x :: S) st P := zAW_st (zd_of zb_X6_nests dX6_nests_134) rfl rfl
theorem E_X6_nests_135 : AW X d 96 135 [l0, l1, l2, l3, l4, l5, l6, l7] (.int x :: .ref a :: S) st P = zwith (zai X st a) fun q => zwith (zix x q.1) fun j => AW X d 96 136 [l0, l1, l2, l3, l4, l5, l6, l7] (.int (q.2 j) :: S) st P := zq_iaload (zd_of zb_X6_nests dX6_nests_135)
theorem E_X6_nests_136 : AW X d 96 136 [l0, l1, l2, l3, l4, l5, l6, l7] (.int x :: .ref a :: S) st P = zwith (zai X st a) fun q => zwith (zix x q.1) fun j => AW X d 96 137 [l0, l1, l2, l3, l4, l5, l6, l7] (.int (q.2 j) :: S) st P := zq_iaload (zd_of zb_X6_nests dX6_nests_136)
theorem E_X6_nests_137 : AW X d 96 137 [l0, l1, l2, l3, l4, l5, l6, l7] (.int y :: .int x :: .ref a :: S) st P = zwith (zaI st a) fun q => zwith (zix x q.1) fun j => AW X d 96 138 [l0, l1, l2, l3, l4, l5, l6, l7] S (zsta st a (q.1, .inl (upd q.2 j y))) P := zq_iastore (zd_of zb_X6_nests dX6_nests_137)
theorem E_X6_nests_138 : AW X d 96 138 [l0, l1, l2, l3, l4, l5, l6, l7] S st P = AW X d 96 153 [l0, l1, l2, l3, l4, l5, l6, l7] S st P := zq_goto (zd_of zb_X6_nests dX6_nests_138) (by decide)
theorem E_X6_nests_141 : AW X d 96 141 [.ref a, l1, l2, l3, l4, l5, l6, l7] S st P = AW X d 96 142 [.ref a, l1, l2, l3, l4, l5, l6, l7] (.ref a :: S) st P := zAW_st (zd_of zb_X6_nests dX6_nests_141) rfl rfl
theorem E_X6_nests_141n : AW X d 96 141 [.null, l1, l2, l3, l4, l5, l6, l7] S st P = AW X d 96 142 [.null, l1, l2, l3, l4, l5, l6, l7] (.null :: S) st P := zAW_st (zd_of zb_X6_nests dX6_nests_141) rfl rfl
theorem E_X6_nests_142 : AW X d 96 142 [l0, .int x, l2, l3, l4, l5, l6, l7] S st P = AW X d 96 143 [l0, .int x, l2, l3, l4, l5, l6, l7] (.int x :: S) st P := zAW_st (zd_of zb_X6_nests dX6_nests_142) rfl rfl
theorem E_X6_nests_143 : AW X d 96 143 [l0, l1, l2, l3, l4, .int x, l6, l7] S st P = AW X d 96 145 [l0, l1, l2, l3, l4, .int x, l6, l7] (.int x :: S) st P := zAW_st (zd_of zb_X6_nests dX6_nests_143) rfl rfl
theorem E_X6_nests_145 : AW X d 96 145 [l0, l1, l2, l3, l4, l5, l6, l7] (.int y :: .int x :: .ref a :: S) st P = zif (zis st a 7 = true) (zif (S.length ≤ 4) (AC X d 95 [.ref a, .int x, .int y] st (zaft X d 96 145 [l0, l1, l2, l3, l4, l5, l6, l7] S P))) := zq_callV (B := [.int x, .int y]) (zd_of zb_X6_nests dX6_nests_145) zo_X6_nests (by decide) zl_6_141 zn_95 rfl rfl rfl
theorem E_X6_nests_148 : AW X d 96 148 [.ref a, l1, l2, l3, l4, l5, l6, l7] S st P = AW X d 96 149 [.ref a, l1, l2, l3, l4, l5, l6, l7] (.ref a :: S) st P := zAW_st (zd_of zb_X6_nests dX6_nests_148) rfl rfl
theorem E_X6_nests_148n : AW X d 96 148 [.null, l1, l2, l3, l4, l5, l6, l7] S st P = AW X d 96 149 [.null, l1, l2, l3, l4, l5, l6, l7] (.null :: S) st P := zAW_st (zd_of zb_X6_nests dX6_nests_148) rfl rfl
theorem E_X6_nests_149 : AW X d 96 149 [l0, l1, .int x, l3, l4, l5, l6, l7] S st P = AW X d 96 150 [l0, l1, .int x, l3, l4, l5, l6, l7] (.int x :: S) st P := zAW_st (zd_of zb_X6_nests dX6_nests_149) rfl rfl
theorem E_X6_nests_150 : AW X d 96 150 [l0, l1, l2, l3, l4, l5, l6, l7] (.int x :: .ref a :: S) st P = zwith (zget st a 7 14) fun _ => AW X d 96 153 [l0, l1, l2, l3, l4, l5, l6, l7] S (zput st a 14 (.int x)) P := zq_putfield (zd_of zb_X6_nests dX6_nests_150) zo_X6_nests zf_6_115 rfl (Or.inl (by decide +kernel))
theorem E_X6_nests_153 : AW X d 96 153 [l0, l1, l2, l3, l4, l5, l6, l7] [] st P = P (.inl none) st := zAW_ret (w := (.inl none, st)) (zd_of zb_X6_nests dX6_nests_153) rfl rfl (by simp only [zfin, zr_X6_nests])
theorem A_X6_nests : AC X (d + 1) 96 [.ref a, .int x] st P = AW X d 96 0 [.ref a, .int x, .retAddr 0, .retAddr 0, .retAddr 0, .retAddr 0, .retAddr 0, .retAddr 0] [] st P := AC_eq ⟨⟨(show 2 ≤ zml 96 by decide +kernel), by decide +kernel⟩, by simp [zc1_int, zc1_ref, zc1_float]⟩
theorem E_X6_tries_0 : AW X d 97 0 [l0, l1] S st P = AW X d 97 1 [l0, l1] (.int 0 :: S) st P := zq_iconst (zd_of zb_X6_tries dX6_tries_0) (by decide)
theorem E_X6_tries_1 : AW X d 97 1 [l0, l1] (.int x :: S) st P = AW X d 97 2 [l0, .int x] S st P := zAW_st (zd_of zb_X6_tries dX6_tries_1) rfl rfl
theorem E_X6_tries_2 : AW X d 97 2 [l0, .int x] S st P = AW X d 97 3 [l0, .int x] (.int x :: S) st P := zAW_st (zd_of zb_X6_tries dX6_tries_2) rfl rfl
theorem E_X6_tries_3 : AW X d 97 3 [.ref a, l1] S st P = AW X d 97 4 [.ref a, l1] (.ref a :: S) st P := zAW_st (zd_of zb_X6_tries dX6_tries_3) rfl rfl
theorem E_X6_tries_3n : AW X d 97 3 [.null, l1] S st P = AW X d 97 4 [.null, l1] (.null :: S) st P := zAW_st (zd_of zb_X6_tries dX6_tries_3) rfl rfl
theorem E_X6_tries_4 : AW X d 97 4 [l0, l1] (.ref a :: S) st P = zwith (zget st a 7 21) fun v => AW X d 97 7 [l0, l1] (v :: S) st P := zq_getfield (zd_of zb_X6_tries dX6_tries_4) zo_X6_tries zf_6_132
theorem E_X6_tries_7 : AW X d 97 7 [l0, l1] (.int y :: .int x :: S) st P = if y ≤ x then AW X d 97 45 [l0, l1] S st P else AW X d 97 10 [l0, l1] S st P := zq_icmp (c := y ≤ x) (zd_of zb_X6_tries dX6_tries_7) (by decide) rfl
theorem E_X6_tries_10 : AW X d 97 10 [.ref a, l1] S st P = AW X d 97 11 [.ref a, l1] (.ref a :: S) st P := zAW_st (zd_of zb_X6_tries dX6_tries_10) rfl rfl
theorem E_X6_tries_10n : AW X d 97 10 [.null, l1] S st P = AW X d 97 11 [.null, l1] (.null :: S) st P := zAW_st (zd_of zb_X6_tries dX6_tries_10) rfl rfl
theorem E_X6_tries_11 : AW X d 97 11 [l0, l1] (.ref a :: S) st P = zwith (zget st a 7 18) fun v => AW X d 97 14 [l0, l1] (v :: S) st P := zq_getfield (zd_of zb_X6_tries dX6_tries_11) zo_X6_tries zf_6_55
theorem E_X6_tries_14 : AW X d 97 14 [l0, .int x] S st P = AW X d 97 15 [l0, .int x] (.int x :: S) st P := zAW_st (zd_of zb_X6_tries dX6_tries_14) rfl rfl
theorem E_X6_tries_15 : AW X d 97 15 [l0, l1] (.int x :: .ref a :: S) st P = zwith (zai X st a) fun q => zwith (zix x q.1) fun j => AW X d 97 16 [l0, l1] (.int (q.2 j) :: S) st P := zq_iaload (zd_of zb_X6_tries dX6_tries_15)
theorem E_X6_tries_16 : AW X d 97 16 [l0, l1] (.int x :: S) st P = if ¬ x = 0 then AW X d 97 39 [l0, l1] S st P else AW X d 97 19 [l0, l1] S st P := zq_if (c := ¬ x = 0) (zd_of zb_X6_tries dX6_tries_16) (by decide) rfl
theorem E_X6_tries_19 : AW X d 97 19 [.ref a, l1] S st P = AW X d 97 20 [.ref a, l1] (.ref a :: S) st P := zAW_st (zd_of zb_X6_tries dX6_tries_19) rfl rfl
theorem E_X6_tries_19n : AW X d 97 19 [.null, l1] S st P = AW X d 97 20 [.null, l1] (.null :: S) st P := zAW_st (zd_of zb_X6_tries dX6_tries_19) rfl rfl
theorem E_X6_tries_20 : AW X d 97 20 [l0, l1] (.ref a :: S) st P = zwith (zget st a 7 0) fun v => AW X d 97 23 [l0, l1] (v :: S) st P := zq_getfield (zd_of zb_X6_tries dX6_tries_20) zo_X6_tries zf_6_7
theorem E_X6_tries_23 : AW X d 97 23 [.ref a, l1] S st P = AW X d 97 24 [.ref a, l1] (.ref a :: S) st P := zAW_st (zd_of zb_X6_tries dX6_tries_23) rfl rfl
theorem E_X6_tries_23n : AW X d 97 23 [.null, l1] S st P = AW X d 97 24 [.null, l1] (.null :: S) st P := zAW_st (zd_of zb_X6_tries dX6_tries_23) rfl rfl
theorem E_X6_tries_24 : AW X d 97 24 [l0, l1] (.ref a :: S) st P = zwith (zget st a 7 16) fun v => AW X d 97 27 [l0, l1] (v :: S) st P := zq_getfield (zd_of zb_X6_tries dX6_tries_24) zo_X6_tries zf_6_49
theorem E_X6_tries_27 : AW X d 97 27 [l0, .int x] S st P = AW X d 97 28 [l0, .int x] (.int x :: S) st P := zAW_st (zd_of zb_X6_tries dX6_tries_27) rfl rfl
theorem E_X6_tries_28 : AW X d 97 28 [l0, l1] (.int x :: .ref a :: S) st P = zwith (zai X st a) fun q => zwith (zix x q.1) fun j => AW X d 97 29 [l0, l1] (.int (q.2 j) :: S) st P := zq_iaload (zd_of zb_X6_tries dX6_tries_28)
theorem E_X6_tries_29 : AW X d 97 29 [l0, l1] (.int x :: .ref a :: S) st P = zwith (zai X st a) fun q => zwith (zix x q.1) fun j => AW X d 97 30 [l0, l1] (.int (q.2 j) :: S) st P := zq_iaload (zd_of zb_X6_tries dX6_tries_29)
theorem E_X6_tries_30 : AW X d 97 30 [l0, l1] S st P = AW X d 97 31 [l0, l1] (.int 1 :: S) st P := zq_iconst (zd_of zb_X6_tries dX6_tries_30) (by decide)
theorem E_X6_tries_31 : AW X d 97 31 [l0, l1] (.int y :: .int x :: S) st P = if ¬ x = y then AW X d 97 39 [l0, l1] S st P else AW X d 97 34 [l0, l1] S st P := zq_icmp (c := ¬ x = y) (zd_of zb_X6_tries dX6_tries_31) (by decide) rfl
theorem E_X6_tries_34 : AW X d 97 34 [.ref a, l1] S st P = AW X d 97 35 [.ref a, l1] (.ref a :: S) st P := zAW_st (zd_of zb_X6_tries dX6_tries_34) rfl rfl
theorem E_X6_tries_34n : AW X d 97 34 [.null, l1] S st P = AW X d 97 35 [.null, l1] (.null :: S) st P := zAW_st (zd_of zb_X6_tries dX6_tries_34) rfl rfl
theorem E_X6_tries_35 : AW X d 97 35 [l0, .int x] S st P = AW X d 97 36 [l0, .int x] (.int x :: S) st P := zAW_st (zd_of zb_X6_tries dX6_tries_35) rfl rfl
theorem E_X6_tries_36 : AW X d 97 36 [l0, l1] (.int x :: .ref a :: S) st P = zif (zis st a 7 = true) (zif (S.length ≤ 4) (AC X d 96 [.ref a, .int x] st (zaft X d 97 36 [l0, l1] S P))) := zq_callV (B := [.int x]) (zd_of zb_X6_tries dX6_tries_36) zo_X6_tries (by decide) zl_6_145 zn_96 rfl rfl rfl
theorem E_X6_tries_39 : AW X d 97 39 [l0, .int x] S st P = AW X d 97 42 [l0, .int (x + 1)] S st P := zq_iinc (zd_of zb_X6_tries dX6_tries_39) rfl (by decide)
theorem E_X6_tries_42 : AW X d 97 42 [l0, l1] S st P = AW X d 97 2 [l0, l1] S st P := zq_goto (zd_of zb_X6_tries dX6_tries_42) (by decide)
theorem E_X6_tries_45 : AW X d 97 45 [l0, l1] [] st P = P (.inl none) st := zAW_ret (w := (.inl none, st)) (zd_of zb_X6_tries dX6_tries_45) rfl rfl (by simp only [zfin, zr_X6_tries])
theorem A_X6_tries : AC X (d + 1) 97 [.ref a] st P = AW X d 97 0 [.ref a, .retAddr 0] [] st P := AC_eq ⟨⟨(show 1 ≤ zml 97 by decide +kernel), by decide +kernel⟩, by simp [zc1_int, zc1_ref, zc1_float]⟩
theorem E_X6_job_0 : AW X d 98 0 [.ref a, l1, l2, l3] S st P = AW X d 98 1 [.ref a, l1, l2, l3] (.ref a :: S) st P := zAW_st (zd_of zb_X6_job dX6_job_0) rfl rfl
theorem E_X6_job_0n : AW X d 98 0 [.null, l1, l2, l3] S st P = AW X d 98 1 [.null, l1, l2, l3] (.null :: S) st P := zAW_st (zd_of zb_X6_job dX6_job_0) rfl rfl
theorem E_X6_job_1 : AW X d 98 1 [l0, .int x, l2, l3] S st P = AW X d 98 2 [l0, .int x, l2, l3] (.int x :: S) st P := zAW_st (zd_of zb_X6_job dX6_job_1) rfl rfl
theorem E_X6_job_2 : AW X d 98 2 [l0, l1, l2, l3] (.int x :: .ref a :: S) st P = zif (zis st a 7 = true) (zif (S.length ≤ 4) (AC X d 76 [.ref a, .int x] st (zaft X d 98 2 [l0, l1, l2, l3] S P))) := zq_callV (B := [.int x]) (zd_of zb_X6_job dX6_job_2) zo_X6_job (by decide) zl_6_82 zn_76 rfl rfl rfl
theorem E_X6_job_5 : AW X d 98 5 [l0, l1, l2, l3] (.int x :: S) st P = AW X d 98 6 [l0, l1, l2, .int x] S st P := zAW_st (zd_of zb_X6_job dX6_job_5) rfl rfl
theorem E_X6_job_6 : AW X d 98 6 [.ref a, l1, l2, l3] S st P = AW X d 98 7 [.ref a, l1, l2, l3] (.ref a :: S) st P := zAW_st (zd_of zb_X6_job dX6_job_6) rfl rfl
theorem E_X6_job_6n : AW X d 98 6 [.null, l1, l2, l3] S st P = AW X d 98 7 [.null, l1, l2, l3] (.null :: S) st P := zAW_st (zd_of zb_X6_job dX6_job_6) rfl rfl
theorem E_X6_job_7 : AW X d 98 7 [l0, l1, l2, .int x] S st P = AW X d 98 8 [l0, l1, l2, .int x] (.int x :: S) st P := zAW_st (zd_of zb_X6_job dX6_job_7) rfl rfl
theorem E_X6_job_8 : AW X d 98 8 [l0, l1, l2, l3] (.int x :: S) st P = if ¬ x = 0 then AW X d 98 15 [l0, l1, l2, l3] S st P else AW X d 98 11 [l0, l1, l2, l3] S st P := zq_if (c := ¬ x = 0) (zd_of zb_X6_job dX6_job_8) (by decide) rfl
theorem E_X6_job_11 : AW X d 98 11 [l0, l1, l2, l3] S st P = AW X d 98 12 [l0, l1, l2, l3] (.int 1 :: S) st P := zq_iconst (zd_of zb_X6_job dX6_job_11) (by decide)
theorem E_X6_job_12 : AW X d 98 12 [l0, l1, l2, l3] S st P = AW X d 98 53 [l0, l1, l2, l3] S st P := zq_goto (zd_of zb_X6_job dX6_job_12) (by decide)
theorem E_X6_job_15 : AW X d 98 15 [.ref a, l1, l2, l3] S st P = AW X d 98 16 [.ref a, l1, l2, l3] (.ref a :: S) st P := zAW_st (zd_of zb_X6_job dX6_job_15) rfl rfl
theorem E_X6_job_15n : AW X d 98 15 [.null, l1, l2, l3] S st P = AW X d 98 16 [.null, l1, l2, l3] (.null :: S) st P := zAW_st (zd_of zb_X6_job dX6_job_15) rfl rfl
theorem E_X6_job_16 : AW X d 98 16 [l0, l1, .int x, l3] S st P = AW X d 98 17 [l0, l1, .int x, l3] (.int x :: S) st P := zAW_st (zd_of zb_X6_job dX6_job_16) rfl rfl
theorem E_X6_job_17 : AW X d 98 17 [l0, l1, l2, l3] S st P = AW X d 98 18 [l0, l1, l2, l3] (.int 1 :: S) st P := zq_iconst (zd_of zb_X6_job dX6_job_17) (by decide)
theorem E_X6_job_18 : AW X d 98 18 [l0, l1, l2, l3] S st P = AW X d 98 20 [l0, l1, l2, l3] (.int 6 :: S) st P := zq_bipush (zd_of zb_X6_job dX6_job_18) (by decide)
theorem E_X6_job_20 : AW X d 98 20 [l0, l1, l2, l3] (.int x3 :: .int y :: .int x :: .ref a :: S) st P = zif (zis st a 7 = true) (zif (S.length ≤ 4) (AC X d 75 [.ref a, .int x, .int y, .int x3] st (zaft X d 98 20 [l0, l1, l2, l3] S P))) := zq_callV (B := [.int x, .int y, .int x3]) (zd_of zb_X6_job dX6_job_20) zo_X6_job (by decide) zl_6_74 zn_75 rfl rfl rfl
theorem E_X6_job_23 : AW X d 98 23 [l0, l1, l2, l3] (.int x :: S) st P = if ¬ x = 0 then AW X d 98 30 [l0, l1, l2, l3] S st P else AW X d 98 26 [l0, l1, l2, l3] S st P := zq_if (c := ¬ x = 0) (zd_of zb_X6_job dX6_job_23) (by decide) rfl
theorem E_X6_job_26 : AW X d 98 26 [l0, l1, l2, l3] S st P = AW X d 98 27 [l0, l1, l2, l3] (.int 2 :: S) st P := zq_iconst (zd_of zb_X6_job dX6_job_26) (by decide)
theorem E_X6_job_27 : AW X d 98 27 [l0, l1, l2, l3] S st P = AW X d 98 53 [l0, l1, l2, l3] S st P := zq_goto (zd_of zb_X6_job dX6_job_27) (by decide)
theorem E_X6_job_30 : AW X d 98 30 [.ref a, l1, l2, l3] S st P = AW X d 98 31 [.ref a, l1, l2, l3] (.ref a :: S) st P := zAW_st (zd_of zb_X6_job dX6_job_30) rfl rfl
theorem E_X6_job_30n : AW X d 98 30 [.null, l1, l2, l3] S st P = AW X d 98 31 [.null, l1, l2, l3] (.null :: S) st P := zAW_st (zd_of zb_X6_job dX6_job_30) rfl rfl
theorem E_X6_job_31 : AW X d 98 31 [l0, l1, l2, l3] (.ref a :: S) st P = zwith (zget st a 7 0) fun v => AW X d 98 34 [l0, l1, l2, l3] (v :: S) st P := zq_getfield (zd_of zb_X6_job dX6_job_31) zo_X6_job zf_6_7
theorem E_X6_job_34 : AW X d 98 34 [l0, .int x, l2, l3] S st P = AW X d 98 35 [l0, .int x, l2, l3] (.int x :: S) st P := zAW_st (zd_of zb_X6_job dX6_job_34) rfl rfl
theorem E_X6_job_35 : AW X d 98 35 [l0, l1, l2, l3] (.int x :: .ref a :: S) st P = zwith (zai X st a) fun q => zwith (zix x q.1) fun j => AW X d 98 36 [l0, l1, l2, l3] (.int (q.2 j) :: S) st P := zq_iaload (zd_of zb_X6_job dX6_job_35)
theorem E_X6_job_36 : AW X d 98 36 [l0, l1, l2, l3] (.int x :: S) st P = if x = 0 then AW X d 98 48 [l0, l1, l2, l3] S st P else AW X d 98 39 [l0, l1, l2, l3] S st P := zq_if (c := x = 0) (zd_of zb_X6_job dX6_job_36) (by decide) rfl
theorem E_X6_job_39 : AW X d 98 39 [.ref a, l1, l2, l3] S st P = AW X d 98 40 [.ref a, l1, l2, l3] (.ref a :: S) st P := zAW_st (zd_of zb_X6_job dX6_job_39) rfl rfl
theorem E_X6_job_39n : AW X d 98 39 [.null, l1, l2, l3] S st P = AW X d 98 40 [.null, l1, l2, l3] (.null :: S) st P := zAW_st (zd_of zb_X6_job dX6_job_39) rfl rfl
theorem E_X6_job_40 : AW X d 98 40 [l0, l1, l2, l3] (.ref a :: S) st P = zwith (zget st a 7 21) fun v => AW X d 98 43 [l0, l1, l2, l3] (v :: S) st P := zq_getfield (zd_of zb_X6_job dX6_job_40) zo_X6_job zf_6_132
theorem E_X6_job_43 : AW X d 98 43 [l0, l1, l2, l3] S st P = AW X d 98 45 [l0, l1, l2, l3] (.int 30 :: S) st P := zq_bipush (zd_of zb_X6_job dX6_job_43) (by decide)
theorem E_X6_job_45 : AW X d 98 45 [l0, l1, l2, l3] (.int y :: .int x :: S) st P = if ¬ x = y then AW X d 98 52 [l0, l1, l2, l3] S st P else AW X d 98 48 [l0, l1, l2, l3] S st P := zq_icmp (c := ¬ x = y) (zd_of zb_X6_job dX6_job_45) (by decide) rfl
theorem E_X6_job_48 : AW X d 98 48 [l0, l1, l2, l3] S st P = AW X d 98 49 [l0, l1, l2, l3] (.int 3 :: S) st P := zq_iconst (zd_of zb_X6_job dX6_job_48) (by decide)
theorem E_X6_job_49 : AW X d 98 49 [l0, l1, l2, l3] S st P = AW X d 98 53 [l0, l1, l2, l3] S st P := zq_goto (zd_of zb_X6_job dX6_job_49) (by decide)
theorem E_X6_job_52 : AW X d 98 52 [l0, l1, l2, l3] S st P = AW X d 98 53 [l0, l1, l2, l3] (.int 0 :: S) st P := zq_iconst (zd_of zb_X6_job dX6_job_52) (by decide)
theorem E_X6_job_53 : AW X d 98 53 [l0, l1, l2, l3] (.int x :: .ref a :: S) st P = zif (zis st a 7 = true) (zif (S.length ≤ 4) (AC X d 74 [.ref a, .int x] st (zaft X d 98 53 [l0, l1, l2, l3] S P))) := zq_callV (B := [.int x]) (zd_of zb_X6_job dX6_job_53) zo_X6_job (by decide) zl_6_78 zn_74 rfl rfl rfl
theorem E_X6_job_56 : AW X d 98 56 [l0, l1, l2, l3] (.int x :: S) st P = if x = 0 then AW X d 98 61 [l0, l1, l2, l3] S st P else AW X d 98 59 [l0, l1, l2, l3] S st P := zq_if (c := x = 0) (zd_of zb_X6_job dX6_job_56) (by decide) rfl
theorem E_X6_job_59 : AW X d 98 59 [l0, l1, l2, l3] S st P = AW X d 98 60 [l0, l1, l2, l3] (.int (-1) :: S) st P := zq_iconst (zd_of zb_X6_job dX6_job_59) (by decide)
theorem E_X6_job_60 : AW X d 98 60 [l0, l1, l2, l3] ([.int x]) st P = P (.inl (some (.int x))) st := zAW_ret (w := (.inl (some (.int x)), st)) (zd_of zb_X6_job dX6_job_60) rfl rfl (by simp only [zfin, zr_X6_job])
theorem E_X6_job_61 : AW X d 98 61 [.ref a, l1, l2, l3] S st P = AW X d 98 62 [.ref a, l1, l2, l3] (.ref a :: S) st P := zAW_st (zd_of zb_X6_job dX6_job_61) rfl rfl
theorem E_X6_job_61n : AW X d 98 61 [.null, l1, l2, l3] S st P = AW X d 98 62 [.null, l1, l2, l3] (.null :: S) st P := zAW_st (zd_of zb_X6_job dX6_job_61) rfl rfl
theorem E_X6_job_62 : AW X d 98 62 [l0, l1, l2, l3] (.ref a :: S) st P = zwith (zget st a 7 16) fun v => AW X d 98 65 [l0, l1, l2, l3] (v :: S) st P := zq_getfield (zd_of zb_X6_job dX6_job_62) zo_X6_job zf_6_49
theorem E_X6_job_65 : AW X d 98 65 [.ref a, l1, l2, l3] S st P = AW X d 98 66 [.ref a, l1, l2, l3] (.ref a :: S) st P := zAW_st (zd_of zb_X6_job dX6_job_65) rfl rfl
theorem E_X6_job_65n : AW X d 98 65 [.null, l1, l2, l3] S st P = AW X d 98 66 [.null, l1, l2, l3] (.null :: S) st P := zAW_st (zd_of zb_X6_job dX6_job_65) rfl rfl
theorem E_X6_job_66 : AW X d 98 66 [l0, l1, l2, l3] (.ref a :: S) st P = zwith (zget st a 7 21) fun v => AW X d 98 69 [l0, l1, l2, l3] (v :: S) st P := zq_getfield (zd_of zb_X6_job dX6_job_66) zo_X6_job zf_6_132
theorem E_X6_job_69 : AW X d 98 69 [l0, .int x, l2, l3] S st P = AW X d 98 70 [l0, .int x, l2, l3] (.int x :: S) st P := zAW_st (zd_of zb_X6_job dX6_job_69) rfl rfl
theorem E_X6_job_70 : AW X d 98 70 [l0, l1, l2, l3] (.int y :: .int x :: .ref a :: S) st P = zwith (zaI st a) fun q => zwith (zix x q.1) fun j => AW X d 98 71 [l0, l1, l2, l3] S (zsta st a (q.1, .inl (upd q.2 j y))) P := zq_iastore (zd_of zb_X6_job dX6_job_70)
theorem E_X6_job_71 : AW X d 98 71 [.ref a, l1, l2, l3] S st P = AW X d 98 72 [.ref a, l1, l2, l3] (.ref a :: S) st P := zAW_st (zd_of zb_X6_job dX6_job_71) rfl rfl
theorem E_X6_job_71n : AW X d 98 71 [.null, l1, l2, l3] S st P = AW X d 98 72 [.null, l1, l2, l3] (.null :: S) st P := zAW_st (zd_of zb_X6_job dX6_job_71) rfl rfl
theorem E_X6_job_72 : AW X d 98 72 [l0, l1, l2, l3] (.ref a :: S) st P = zwith (zget st a 7 17) fun v => AW X d 98 75 [l0, l1, l2, l3] (v :: S) st P := zq_getfield (zd_of zb_X6_job dX6_job_72) zo_X6_job zf_6_52
theorem E_X6_job_75 : AW X d 98 75 [.ref a, l1, l2, l3] S st P = AW X d 98 76 [.ref a, l1, l2, l3] (.ref a :: S) st P := zAW_st (zd_of zb_X6_job dX6_job_75) rfl rfl
theorem E_X6_job_75n : AW X d 98 75 [.null, l1, l2, l3] S st P = AW X d 98 76 [.null, l1, l2, l3] (.null :: S) st P := zAW_st (zd_of zb_X6_job dX6_job_75) rfl rfl
theorem E_X6_job_76 : AW X d 98 76 [l0, l1, l2, l3] (.ref a :: S) st P = zwith (zget st a 7 21) fun v => AW X d 98 79 [l0, l1, l2, l3] (v :: S) st P := zq_getfield (zd_of zb_X6_job dX6_job_76) zo_X6_job zf_6_132
theorem E_X6_job_79 : AW X d 98 79 [l0, l1, .int x, l3] S st P = AW X d 98 80 [l0, l1, .int x, l3] (.int x :: S) st P := zAW_st (zd_of zb_X6_job dX6_job_79) rfl rfl
theorem E_X6_job_80 : AW X d 98 80 [l0, l1, l2, l3] (.int y :: .int x :: .ref a :: S) st P = zwith (zaI st a) fun q => zwith (zix x q.1) fun j => AW X d 98 81 [l0, l1, l2, l3] S (zsta st a (q.1, .inl (upd q.2 j y))) P := zq_iastore (zd_of zb_X6_job dX6_job_80)
theorem E_X6_job_81 : AW X d 98 81 [.ref a, l1, l2, l3] S st P = AW X d 98 82 [.ref a, l1, l2, l3] (.ref a :: S) st P := zAW_st (zd_of zb_X6_job dX6_job_81) rfl rfl
theorem E_X6_job_81n : AW X d 98 81 [.null, l1, l2, l3] S st P = AW X d 98 82 [.null, l1, l2, l3] (.null :: S) st P := zAW_st (zd_of zb_X6_job dX6_job_81) rfl rfl
theorem E_X6_job_82 : AW X d 98 82 [l0, l1, l2, l3] (.ref a :: S) st P = AW X d 98 83 [l0, l1, l2, l3] (.ref a :: .ref a :: S) st P := zq_dup (zd_of zb_X6_job dX6_job_82) rfl
theorem E_X6_job_82n : AW X d 98 82 [l0, l1, l2, l3] (.null :: S) st P = AW X d 98 83 [l0, l1, l2, l3] (.null :: .null :: S) st P := zq_dup (zd_of zb_X6_job dX6_job_82) rfl
theorem E_X6_job_82i : AW X d 98 82 [l0, l1, l2, l3] (.int x :: S) st P = AW X d 98 83 [l0, l1, l2, l3] (.int x :: .int x :: S) st P := zq_dup (zd_of zb_X6_job dX6_job_82) rfl
theorem E_X6_job_82f : AW X d 98 82 [l0, l1, l2, l3] (.float u :: S) st P = AW X d 98 83 [l0, l1, l2, l3] (.float u :: .float u :: S) st P := zq_dup (zd_of zb_X6_job dX6_job_82) rfl
theorem E_X6_job_83 : AW X d 98 83 [l0, l1, l2, l3] (.ref a :: S) st P = zwith (zget st a 7 21) fun v => AW X d 98 86 [l0, l1, l2, l3] (v :: S) st P := zq_getfield (zd_of zb_X6_job dX6_job_83) zo_X6_job zf_6_132
theorem E_X6_job_86 : AW X d 98 86 [l0, l1, l2, l3] S st P = AW X d 98 87 [l0, l1, l2, l3] (.int 1 :: S) st P := zq_iconst (zd_of zb_X6_job dX6_job_86) (by decide)
theorem E_X6_job_87 : AW X d 98 87 [l0, l1, l2, l3] (.int y :: .int x :: S) st P = AW X d 98 88 [l0, l1, l2, l3] (.int (x + y) :: S) st P := zAW_st (zd_of zb_X6_job dX6_job_87) rfl rfl
theorem E_X6_job_88 : AW X d 98 88 [l0, l1, l2, l3] (.int x :: .ref a :: S) st P = zwith (zget st a 7 21) fun _ => AW X d 98 91 [l0, l1, l2, l3] S (zput st a 21 (.int x)) P := zq_putfield (zd_of zb_X6_job dX6_job_88) zo_X6_job zf_6_132 rfl (Or.inl (by decide +kernel))
theorem E_X6_job_91 : AW X d 98 91 [.ref a, l1, l2, l3] S st P = AW X d 98 92 [.ref a, l1, l2, l3] (.ref a :: S) st P := zAW_st (zd_of zb_X6_job dX6_job_91) rfl rfl
theorem E_X6_job_91n : AW X d 98 91 [.null, l1, l2, l3] S st P = AW X d 98 92 [.null, l1, l2, l3] (.null :: S) st P := zAW_st (zd_of zb_X6_job dX6_job_91) rfl rfl
theorem E_X6_job_92 : AW X d 98 92 [.ref a, l1, l2, l3] S st P = AW X d 98 93 [.ref a, l1, l2, l3] (.ref a :: S) st P := zAW_st (zd_of zb_X6_job dX6_job_92) rfl rfl
theorem E_X6_job_92n : AW X d 98 92 [.null, l1, l2, l3] S st P = AW X d 98 93 [.null, l1, l2, l3] (.null :: S) st P := zAW_st (zd_of zb_X6_job dX6_job_92) rfl rfl
theorem E_X6_job_93 : AW X d 98 93 [l0, l1, l2, l3] (.ref a :: S) st P = zwith (zget st a 7 21) fun v => AW X d 98 96 [l0, l1, l2, l3] (v :: S) st P := zq_getfield (zd_of zb_X6_job dX6_job_93) zo_X6_job zf_6_132
theorem E_X6_job_96 : AW X d 98 96 [l0, l1, l2, l3] S st P = AW X d 98 97 [l0, l1, l2, l3] (.int 1 :: S) st P := zq_iconst (zd_of zb_X6_job dX6_job_96) (by decide)
theorem E_X6_job_97 : AW X d 98 97 [l0, l1, l2, l3] (.int y :: .int x :: S) st P = AW X d 98 98 [l0, l1, l2, l3] (.int (x - y) :: S) st P := zAW_st (zd_of zb_X6_job dX6_job_97) rfl rfl
theorem E_X6_job_98 : AW X d 98 98 [l0, l1, l2, l3] (.int x :: .ref a :: S) st P = zif (zis st a 7 = true) (zif (S.length ≤ 4) (AC X d 96 [.ref a, .int x] st (zaft X d 98 98 [l0, l1, l2, l3] S P))) := zq_callV (B := [.int x]) (zd_of zb_X6_job dX6_job_98) zo_X6_job (by decide) zl_6_145 zn_96 rfl rfl rfl
theorem E_X6_job_101 : AW X d 98 101 [.ref a, l1, l2, l3] S st P = AW X d 98 102 [.ref a, l1, l2, l3] (.ref a :: S) st P := zAW_st (zd_of zb_X6_job dX6_job_101) rfl rfl
theorem E_X6_job_101n : AW X d 98 101 [.null, l1, l2, l3] S st P = AW X d 98 102 [.null, l1, l2, l3] (.null :: S) st P := zAW_st (zd_of zb_X6_job dX6_job_101) rfl rfl
theorem E_X6_job_102 : AW X d 98 102 [l0, l1, l2, l3] (.ref a :: S) st P = zwith (zget st a 7 21) fun v => AW X d 98 105 [l0, l1, l2, l3] (v :: S) st P := zq_getfield (zd_of zb_X6_job dX6_job_102) zo_X6_job zf_6_132
theorem E_X6_job_105 : AW X d 98 105 [l0, l1, l2, l3] S st P = AW X d 98 106 [l0, l1, l2, l3] (.int 1 :: S) st P := zq_iconst (zd_of zb_X6_job dX6_job_105) (by decide)
theorem E_X6_job_106 : AW X d 98 106 [l0, l1, l2, l3] (.int y :: .int x :: S) st P = AW X d 98 107 [l0, l1, l2, l3] (.int (x - y) :: S) st P := zAW_st (zd_of zb_X6_job dX6_job_106) rfl rfl
theorem E_X6_job_107 : AW X d 98 107 [l0, l1, l2, l3] ([.int x]) st P = P (.inl (some (.int x))) st := zAW_ret (w := (.inl (some (.int x)), st)) (zd_of zb_X6_job dX6_job_107) rfl rfl (by simp only [zfin, zr_X6_job])
theorem A_X6_job : AC X (d + 1) 98 [.ref a, .int x, .int y] st P = AW X d 98 0 [.ref a, .int x, .int y, .retAddr 0] [] st P := AC_eq ⟨⟨(show 3 ≤ zml 98 by decide +kernel), by decide +kernel⟩, by simp [zc1_int, zc1_ref, zc1_float]⟩
theorem E_X6_cancel_0 : AW X d 99 0 [.ref a, l1, l2] S st P = AW X d 99 1 [.ref a, l1, l2] (.ref a :: S) st P := zAW_st (zd_of zb_X6_cancel dX6_cancel_0) rfl rfl
theorem E_X6_cancel_0n : AW X d 99 0 [.null, l1, l2] S st P = AW X d 99 1 [.null, l1, l2] (.null :: S) st P := zAW_st (zd_of zb_X6_cancel dX6_cancel_0) rfl rfl
theorem E_X6_cancel_1 : AW X d 99 1 [.ref a, l1, l2] S st P = AW X d 99 2 [.ref a, l1, l2] (.ref a :: S) st P := zAW_st (zd_of zb_X6_cancel dX6_cancel_1) rfl rfl
theorem E_X6_cancel_1n : AW X d 99 1 [.null, l1, l2] S st P = AW X d 99 2 [.null, l1, l2] (.null :: S) st P := zAW_st (zd_of zb_X6_cancel dX6_cancel_1) rfl rfl
theorem E_X6_cancel_2 : AW X d 99 2 [l0, .int x, l2] S st P = AW X d 99 3 [l0, .int x, l2] (.int x :: S) st P := zAW_st (zd_of zb_X6_cancel dX6_cancel_2) rfl rfl
theorem E_X6_cancel_3 : AW X d 99 3 [l0, l1, l2] (.int x :: .ref a :: S) st P = zif (zis st a 7 = true) (zif (S.length ≤ 4) (AC X d 94 [.ref a, .int x] st (zaft X d 99 3 [l0, l1, l2] S P))) := zq_callV (B := [.int x]) (zd_of zb_X6_cancel dX6_cancel_3) zo_X6_cancel (by decide) zl_6_148 zn_94 rfl rfl rfl
theorem E_X6_cancel_6 : AW X d 99 6 [l0, l1, l2] (.int x :: S) st P = if ¬ x = 0 then AW X d 99 13 [l0, l1, l2] S st P else AW X d 99 9 [l0, l1, l2] S st P := zq_if (c := ¬ x = 0) (zd_of zb_X6_cancel dX6_cancel_6) (by decide) rfl
theorem E_X6_cancel_9 : AW X d 99 9 [l0, l1, l2] S st P = AW X d 99 10 [l0, l1, l2] (.int 1 :: S) st P := zq_iconst (zd_of zb_X6_cancel dX6_cancel_9) (by decide)
theorem E_X6_cancel_10 : AW X d 99 10 [l0, l1, l2] S st P = AW X d 99 28 [l0, l1, l2] S st P := zq_goto (zd_of zb_X6_cancel dX6_cancel_10) (by decide)
theorem E_X6_cancel_13 : AW X d 99 13 [.ref a, l1, l2] S st P = AW X d 99 14 [.ref a, l1, l2] (.ref a :: S) st P := zAW_st (zd_of zb_X6_cancel dX6_cancel_13) rfl rfl
theorem E_X6_cancel_13n : AW X d 99 13 [.null, l1, l2] S st P = AW X d 99 14 [.null, l1, l2] (.null :: S) st P := zAW_st (zd_of zb_X6_cancel dX6_cancel_13) rfl rfl
theorem E_X6_cancel_14 : AW X d 99 14 [l0, l1, l2] (.ref a :: S) st P = zwith (zget st a 7 18) fun v => AW X d 99 17 [l0, l1, l2] (v :: S) st P := zq_getfield (zd_of zb_X6_cancel dX6_cancel_14) zo_X6_cancel zf_6_55
theorem E_X6_cancel_17 : AW X d 99 17 [l0, .int x, l2] S st P = AW X d 99 18 [l0, .int x, l2] (.int x :: S) st P := zAW_st (zd_of zb_X6_cancel dX6_cancel_17) rfl rfl
theorem E_X6_cancel_18 : AW X d 99 18 [l0, l1, l2] (.int x :: .ref a :: S) st P = zwith (zai X st a) fun q => zwith (zix x q.1) fun j => AW X d 99 19 [l0, l1, l2] (.int (q.2 j) :: S) st P := zq_iaload (zd_of zb_X6_cancel dX6_cancel_18)
theorem E_X6_cancel_19 : AW X d 99 19 [l0, l1, l2] S st P = AW X d 99 20 [l0, l1, l2] (.int 1 :: S) st P := zq_iconst (zd_of zb_X6_cancel dX6_cancel_19) (by decide)
theorem E_X6_cancel_20 : AW X d 99 20 [l0, l1, l2] (.int y :: .int x :: S) st P = if x ≤ y then AW X d 99 27 [l0, l1, l2] S st P else AW X d 99 23 [l0, l1, l2] S st P := zq_icmp (c := x ≤ y) (zd_of zb_X6_cancel dX6_cancel_20) (by decide) rfl
theorem E_X6_cancel_23 : AW X d 99 23 [l0, l1, l2] S st P = AW X d 99 24 [l0, l1, l2] (.int 2 :: S) st P := zq_iconst (zd_of zb_X6_cancel dX6_cancel_23) (by decide)
theorem E_X6_cancel_24 : AW X d 99 24 [l0, l1, l2] S st P = AW X d 99 28 [l0, l1, l2] S st P := zq_goto (zd_of zb_X6_cancel dX6_cancel_24) (by decide)
theorem E_X6_cancel_27 : AW X d 99 27 [l0, l1, l2] S st P = AW X d 99 28 [l0, l1, l2] (.int 0 :: S) st P := zq_iconst (zd_of zb_X6_cancel dX6_cancel_27) (by decide)
theorem E_X6_cancel_28 : AW X d 99 28 [l0, l1, l2] (.int x :: .ref a :: S) st P = zif (zis st a 7 = true) (zif (S.length ≤ 4) (AC X d 74 [.ref a, .int x] st (zaft X d 99 28 [l0, l1, l2] S P))) := zq_callV (B := [.int x]) (zd_of zb_X6_cancel dX6_cancel_28) zo_X6_cancel (by decide) zl_6_78 zn_74 rfl rfl rfl
theorem E_X6_cancel_31 : AW X d 99 31 [l0, l1, l2] (.int x :: S) st P = if x = 0 then AW X d 99 36 [l0, l1, l2] S st P else AW X d 99 34 [l0, l1, l2] S st P := zq_if (c := x = 0) (zd_of zb_X6_cancel dX6_cancel_31) (by decide) rfl
theorem E_X6_cancel_34 : AW X d 99 34 [l0, l1, l2] S st P = AW X d 99 35 [l0, l1, l2] (.int (-1) :: S) st P := zq_iconst (zd_of zb_X6_cancel dX6_cancel_34) (by decide)
theorem E_X6_cancel_35 : AW X d 99 35 [l0, l1, l2] ([.int x]) st P = P (.inl (some (.int x))) st := zAW_ret (w := (.inl (some (.int x)), st)) (zd_of zb_X6_cancel dX6_cancel_35) rfl rfl (by simp only [zfin, zr_X6_cancel])
theorem E_X6_cancel_36 : AW X d 99 36 [.ref a, l1, l2] S st P = AW X d 99 37 [.ref a, l1, l2] (.ref a :: S) st P := zAW_st (zd_of zb_X6_cancel dX6_cancel_36) rfl rfl
theorem E_X6_cancel_36n : AW X d 99 36 [.null, l1, l2] S st P = AW X d 99 37 [.null, l1, l2] (.null :: S) st P := zAW_st (zd_of zb_X6_cancel dX6_cancel_36) rfl rfl
theorem E_X6_cancel_37 : AW X d 99 37 [l0, l1, l2] (.ref a :: S) st P = zwith (zget st a 7 18) fun v => AW X d 99 40 [l0, l1, l2] (v :: S) st P := zq_getfield (zd_of zb_X6_cancel dX6_cancel_37) zo_X6_cancel zf_6_55
theorem E_X6_cancel_40 : AW X d 99 40 [l0, .int x, l2] S st P = AW X d 99 41 [l0, .int x, l2] (.int x :: S) st P := zAW_st (zd_of zb_X6_cancel dX6_cancel_40) rfl rfl
theorem E_X6_cancel_41 : AW X d 99 41 [l0, l1, l2] (.int x :: .ref a :: S) st P = zwith (zai X st a) fun q => zwith (zix x q.1) fun j => AW X d 99 42 [l0, l1, l2] (.int (q.2 j) :: S) st P := zq_iaload (zd_of zb_X6_cancel dX6_cancel_41)
theorem E_X6_cancel_42 : AW X d 99 42 [l0, l1, l2] (.int x :: S) st P = AW X d 99 43 [l0, l1, .int x] S st P := zAW_st (zd_of zb_X6_cancel dX6_cancel_42) rfl rfl
theorem E_X6_cancel_43 : AW X d 99 43 [l0, l1, .int x] S st P = AW X d 99 44 [l0, l1, .int x] (.int x :: S) st P := zAW_st (zd_of zb_X6_cancel dX6_cancel_43) rfl rfl
theorem E_X6_cancel_44 : AW X d 99 44 [l0, l1, l2] S st P = AW X d 99 45 [l0, l1, l2] (.int 1 :: S) st P := zq_iconst (zd_of zb_X6_cancel dX6_cancel_44) (by decide)
theorem E_X6_cancel_45 : AW X d 99 45 [l0, l1, l2] (.int y :: .int x :: S) st P = if ¬ x = y then AW X d 99 59 [l0, l1, l2] S st P else AW X d 99 48 [l0, l1, l2] S st P := zq_icmp (c := ¬ x = y) (zd_of zb_X6_cancel dX6_cancel_45) (by decide) rfl
theorem E_X6_cancel_48 : AW X d 99 48 [.ref a, l1, l2] S st P = AW X d 99 49 [.ref a, l1, l2] (.ref a :: S) st P := zAW_st (zd_of zb_X6_cancel dX6_cancel_48) rfl rfl
theorem E_X6_cancel_48n : AW X d 99 48 [.null, l1, l2] S st P = AW X d 99 49 [.null, l1, l2] (.null :: S) st P := zAW_st (zd_of zb_X6_cancel dX6_cancel_48) rfl rfl
theorem E_X6_cancel_49 : AW X d 99 49 [l0, .int x, l2] S st P = AW X d 99 50 [l0, .int x, l2] (.int x :: S) st P := zAW_st (zd_of zb_X6_cancel dX6_cancel_49) rfl rfl
theorem E_X6_cancel_50 : AW X d 99 50 [.ref a, l1, l2] S st P = AW X d 99 51 [.ref a, l1, l2] (.ref a :: S) st P := zAW_st (zd_of zb_X6_cancel dX6_cancel_50) rfl rfl
theorem E_X6_cancel_50n : AW X d 99 50 [.null, l1, l2] S st P = AW X d 99 51 [.null, l1, l2] (.null :: S) st P := zAW_st (zd_of zb_X6_cancel dX6_cancel_50) rfl rfl
theorem E_X6_cancel_51 : AW X d 99 51 [l0, l1, l2] (.ref a :: S) st P = zwith (zget st a 7 17) fun v => AW X d 99 54 [l0, l1, l2] (v :: S) st P := zq_getfield (zd_of zb_X6_cancel dX6_cancel_51) zo_X6_cancel zf_6_52
theorem E_X6_cancel_54 : AW X d 99 54 [l0, .int x, l2] S st P = AW X d 99 55 [l0, .int x, l2] (.int x :: S) st P := zAW_st (zd_of zb_X6_cancel dX6_cancel_54) rfl rfl
theorem E_X6_cancel_55 : AW X d 99 55 [l0, l1, l2] (.int x :: .ref a :: S) st P = zwith (zai X st a) fun q => zwith (zix x q.1) fun j => AW X d 99 56 [l0, l1, l2] (.int (q.2 j) :: S) st P := zq_iaload (zd_of zb_X6_cancel dX6_cancel_55)
theorem E_X6_cancel_56 : AW X d 99 56 [l0, l1, l2] (.int y :: .int x :: .ref a :: S) st P = zif (zis st a 7 = true) (zif (S.length ≤ 4) (AC X d 95 [.ref a, .int x, .int y] st (zaft X d 99 56 [l0, l1, l2] S P))) := zq_callV (B := [.int x, .int y]) (zd_of zb_X6_cancel dX6_cancel_56) zo_X6_cancel (by decide) zl_6_141 zn_95 rfl rfl rfl
theorem E_X6_cancel_59 : AW X d 99 59 [.ref a, l1, l2] S st P = AW X d 99 60 [.ref a, l1, l2] (.ref a :: S) st P := zAW_st (zd_of zb_X6_cancel dX6_cancel_59) rfl rfl
theorem E_X6_cancel_59n : AW X d 99 59 [.null, l1, l2] S st P = AW X d 99 60 [.null, l1, l2] (.null :: S) st P := zAW_st (zd_of zb_X6_cancel dX6_cancel_59) rfl rfl
theorem E_X6_cancel_60 : AW X d 99 60 [l0, l1, l2] (.ref a :: S) st P = zwith (zget st a 7 18) fun v => AW X d 99 63 [l0, l1, l2] (v :: S) st P := zq_getfield (zd_of zb_X6_cancel dX6_cancel_60) zo_X6_cancel zf_6_55
theorem E_X6_cancel_63 : AW X d 99 63 [l0, .int x, l2] S st P = AW X d 99 64 [l0, .int x, l2] (.int x :: S) st P := zAW_st (zd_of zb_X6_cancel dX6_cancel_63) rfl rfl
theorem E_X6_cancel_64 : AW X d 99 64 [l0, l1, l2] S st P = AW X d 99 65 [l0, l1, l2] (.int 3 :: S) st P := zq_iconst (zd_of zb_X6_cancel dX6_cancel_64) (by decide)
theorem E_X6_cancel_65 : AW X d 99 65 [l0, l1, l2] (.int y :: .int x :: .ref a :: S) st P = zwith (zaI st a) fun q => zwith (zix x q.1) fun j => AW X d 99 66 [l0, l1, l2] S (zsta st a (q.1, .inl (upd q.2 j y))) P := zq_iastore (zd_of zb_X6_cancel dX6_cancel_65)
theorem E_X6_cancel_66 : AW X d 99 66 [.ref a, l1, l2] S st P = AW X d 99 67 [.ref a, l1, l2] (.ref a :: S) st P := zAW_st (zd_of zb_X6_cancel dX6_cancel_66) rfl rfl
theorem E_X6_cancel_66n : AW X d 99 66 [.null, l1, l2] S st P = AW X d 99 67 [.null, l1, l2] (.null :: S) st P := zAW_st (zd_of zb_X6_cancel dX6_cancel_66) rfl rfl
theorem E_X6_cancel_67 : AW X d 99 67 [l0, l1, l2] (.ref a :: S) st P = zif (zis st a 7 = true) (zif (S.length ≤ 4) (AC X d 97 [.ref a] st (zaft X d 99 67 [l0, l1, l2] S P))) := zq_callV (B := []) (zd_of zb_X6_cancel dX6_cancel_67) zo_X6_cancel (by decide) zl_6_97 zn_97 rfl rfl rfl
theorem E_X6_cancel_70 : AW X d 99 70 [l0, l1, .int x] S st P = AW X d 99 71 [l0, l1, .int x] (.int x :: S) st P := zAW_st (zd_of zb_X6_cancel dX6_cancel_70) rfl rfl
theorem E_X6_cancel_71 : AW X d 99 71 [l0, l1, l2] ([.int x]) st P = P (.inl (some (.int x))) st := zAW_ret (w := (.inl (some (.int x)), st)) (zd_of zb_X6_cancel dX6_cancel_71) rfl rfl (by simp only [zfin, zr_X6_cancel])
theorem A_X6_cancel : AC X (d + 1) 99 [.ref a, .int x] st P = AW X d 99 0 [.ref a, .int x, .retAddr 0] [] st P := AC_eq ⟨⟨(show 2 ≤ zml 99 by decide +kernel), by decide +kernel⟩, by simp [zc1_int, zc1_ref, zc1_float]⟩
theorem E_X6_shares_0 : AW X d 100 0 [l0, l1, l2, l3, l4] S st P = AW X d 100 1 [l0, l1, l2, l3, l4] (.int 0 :: S) st P := zq_iconst (zd_of zb_X6_shares dX6_shares_0) (by decide)
theorem E_X6_shares_1 : AW X d 100 1 [l0, l1, l2, l3, l4] (.int x :: S) st P = AW X d 100 2 [l0, l1, l2, .int x, l4] S st P := zAW_st (zd_of zb_X6_shares dX6_shares_1) rfl rfl
theorem E_X6_shares_2 : AW X d 100 2 [l0, l1, l2, l3, l4] S st P = AW X d 100 3 [l0, l1, l2, l3, l4] (.int 0 :: S) st P := zq_iconst (zd_of zb_X6_shares dX6_shares_2) (by decide)
theorem E_X6_shares_3 : AW X d 100 3 [l0, l1, l2, l3, l4] (.int x :: S) st P = AW X d 100 5 [l0, l1, l2, l3, .int x] S st P := zAW_st (zd_of zb_X6_shares dX6_shares_3) rfl rfl
theorem E_X6_shares_5 : AW X d 100 5 [l0, l1, l2, l3, .int x] S st P = AW X d 100 7 [l0, l1, l2, l3, .int x] (.int x :: S) st P := zAW_st (zd_of zb_X6_shares dX6_shares_5) rfl rfl
theorem E_X6_shares_7 : AW X d 100 7 [.ref a, l1, l2, l3, l4] S st P = AW X d 100 8 [.ref a, l1, l2, l3, l4] (.ref a :: S) st P := zAW_st (zd_of zb_X6_shares dX6_shares_7) rfl rfl
theorem E_X6_shares_7n : AW X d 100 7 [.null, l1, l2, l3, l4] S st P = AW X d 100 8 [.null, l1, l2, l3, l4] (.null :: S) st P := zAW_st (zd_of zb_X6_shares dX6_shares_7) rfl rfl
theorem E_X6_shares_8 : AW X d 100 8 [l0, l1, l2, l3, l4] (.ref a :: S) st P = zwith (zget st a 7 17) fun v => AW X d 100 11 [l0, l1, l2, l3, l4] (v :: S) st P := zq_getfield (zd_of zb_X6_shares dX6_shares_8) zo_X6_shares zf_6_52
theorem E_X6_shares_11 : AW X d 100 11 [l0, .int x, l2, l3, l4] S st P = AW X d 100 12 [l0, .int x, l2, l3, l4] (.int x :: S) st P := zAW_st (zd_of zb_X6_shares dX6_shares_11) rfl rfl
theorem E_X6_shares_12 : AW X d 100 12 [l0, l1, l2, l3, l4] (.int x :: .ref a :: S) st P = zwith (zai X st a) fun q => zwith (zix x q.1) fun j => AW X d 100 13 [l0, l1, l2, l3, l4] (.int (q.2 j) :: S) st P := zq_iaload (zd_of zb_X6_shares dX6_shares_12)
theorem E_X6_shares_13 : AW X d 100 13 [.ref a, l1, l2, l3, l4] S st P = AW X d 100 14 [.ref a, l1, l2, l3, l4] (.ref a :: S) st P := zAW_st (zd_of zb_X6_shares dX6_shares_13) rfl rfl
theorem E_X6_shares_13n : AW X d 100 13 [.null, l1, l2, l3, l4] S st P = AW X d 100 14 [.null, l1, l2, l3, l4] (.null :: S) st P := zAW_st (zd_of zb_X6_shares dX6_shares_13) rfl rfl
theorem E_X6_shares_14 : AW X d 100 14 [l0, l1, l2, l3, l4] (.ref a :: S) st P = zwith (zget st a 7 17) fun v => AW X d 100 17 [l0, l1, l2, l3, l4] (v :: S) st P := zq_getfield (zd_of zb_X6_shares dX6_shares_14) zo_X6_shares zf_6_52
theorem E_X6_shares_17 : AW X d 100 17 [l0, l1, .int x, l3, l4] S st P = AW X d 100 18 [l0, l1, .int x, l3, l4] (.int x :: S) st P := zAW_st (zd_of zb_X6_shares dX6_shares_17) rfl rfl
theorem E_X6_shares_18 : AW X d 100 18 [l0, l1, l2, l3, l4] (.int x :: .ref a :: S) st P = zwith (zai X st a) fun q => zwith (zix x q.1) fun j => AW X d 100 19 [l0, l1, l2, l3, l4] (.int (q.2 j) :: S) st P := zq_iaload (zd_of zb_X6_shares dX6_shares_18)
theorem E_X6_shares_19 : AW X d 100 19 [l0, l1, l2, l3, l4] (.int y :: .int x :: S) st P = AW X d 100 20 [l0, l1, l2, l3, l4] (.int (x * y) :: S) st P := zAW_st (zd_of zb_X6_shares dX6_shares_19) rfl rfl
theorem E_X6_shares_20 : AW X d 100 20 [l0, l1, l2, l3, l4] (.int y :: .int x :: S) st P = if y ≤ x then AW X d 100 88 [l0, l1, l2, l3, l4] S st P else AW X d 100 23 [l0, l1, l2, l3, l4] S st P := zq_icmp (c := y ≤ x) (zd_of zb_X6_shares dX6_shares_20) (by decide) rfl
theorem E_X6_shares_23 : AW X d 100 23 [l0, l1, l2, .int x, l4] S st P = AW X d 100 24 [l0, l1, l2, .int x, l4] (.int x :: S) st P := zAW_st (zd_of zb_X6_shares dX6_shares_23) rfl rfl
theorem E_X6_shares_24 : AW X d 100 24 [.ref a, l1, l2, l3, l4] S st P = AW X d 100 25 [.ref a, l1, l2, l3, l4] (.ref a :: S) st P := zAW_st (zd_of zb_X6_shares dX6_shares_24) rfl rfl
theorem E_X6_shares_24n : AW X d 100 24 [.null, l1, l2, l3, l4] S st P = AW X d 100 25 [.null, l1, l2, l3, l4] (.null :: S) st P := zAW_st (zd_of zb_X6_shares dX6_shares_24) rfl rfl
theorem E_X6_shares_25 : AW X d 100 25 [l0, l1, l2, l3, l4] (.ref a :: S) st P = zwith (zget st a 7 7) fun v => AW X d 100 28 [l0, l1, l2, l3, l4] (v :: S) st P := zq_getfield (zd_of zb_X6_shares dX6_shares_25) zo_X6_shares zf_6_28
theorem E_X6_shares_28 : AW X d 100 28 [.ref a, l1, l2, l3, l4] S st P = AW X d 100 29 [.ref a, l1, l2, l3, l4] (.ref a :: S) st P := zAW_st (zd_of zb_X6_shares dX6_shares_28) rfl rfl
theorem E_X6_shares_28n : AW X d 100 28 [.null, l1, l2, l3, l4] S st P = AW X d 100 29 [.null, l1, l2, l3, l4] (.null :: S) st P := zAW_st (zd_of zb_X6_shares dX6_shares_28) rfl rfl
theorem E_X6_shares_29 : AW X d 100 29 [l0, l1, l2, l3, l4] (.ref a :: S) st P = zwith (zget st a 7 20) fun v => AW X d 100 32 [l0, l1, l2, l3, l4] (v :: S) st P := zq_getfield (zd_of zb_X6_shares dX6_shares_29) zo_X6_shares zf_6_61
theorem E_X6_shares_32 : AW X d 100 32 [l0, l1, l2, l3, l4] S st P = AW X d 100 34 [l0, l1, l2, l3, l4] (.int 6 :: S) st P := zq_bipush (zd_of zb_X6_shares dX6_shares_32) (by decide)
theorem E_X6_shares_34 : AW X d 100 34 [l0, .int x, l2, l3, l4] S st P = AW X d 100 35 [l0, .int x, l2, l3, l4] (.int x :: S) st P := zAW_st (zd_of zb_X6_shares dX6_shares_34) rfl rfl
theorem E_X6_shares_35 : AW X d 100 35 [l0, l1, l2, l3, l4] (.int y :: .int x :: S) st P = AW X d 100 36 [l0, l1, l2, l3, l4] (.int (x * y) :: S) st P := zAW_st (zd_of zb_X6_shares dX6_shares_35) rfl rfl
theorem E_X6_shares_36 : AW X d 100 36 [l0, l1, l2, l3, .int x] S st P = AW X d 100 38 [l0, l1, l2, l3, .int x] (.int x :: S) st P := zAW_st (zd_of zb_X6_shares dX6_shares_36) rfl rfl
theorem E_X6_shares_38 : AW X d 100 38 [.ref a, l1, l2, l3, l4] S st P = AW X d 100 39 [.ref a, l1, l2, l3, l4] (.ref a :: S) st P := zAW_st (zd_of zb_X6_shares dX6_shares_38) rfl rfl
theorem E_X6_shares_38n : AW X d 100 38 [.null, l1, l2, l3, l4] S st P = AW X d 100 39 [.null, l1, l2, l3, l4] (.null :: S) st P := zAW_st (zd_of zb_X6_shares dX6_shares_38) rfl rfl
theorem E_X6_shares_39 : AW X d 100 39 [l0, l1, l2, l3, l4] (.ref a :: S) st P = zwith (zget st a 7 17) fun v => AW X d 100 42 [l0, l1, l2, l3, l4] (v :: S) st P := zq_getfield (zd_of zb_X6_shares dX6_shares_39) zo_X6_shares zf_6_52
theorem E_X6_shares_42 : AW X d 100 42 [l0, l1, .int x, l3, l4] S st P = AW X d 100 43 [l0, l1, .int x, l3, l4] (.int x :: S) st P := zAW_st (zd_of zb_X6_shares dX6_shares_42) rfl rfl
theorem E_X6_shares_43 : AW X d 100 43 [l0, l1, l2, l3, l4] (.int x :: .ref a :: S) st P = zwith (zai X st a) fun q => zwith (zix x q.1) fun j => AW X d 100 44 [l0, l1, l2, l3, l4] (.int (q.2 j) :: S) st P := zq_iaload (zd_of zb_X6_shares dX6_shares_43)
theorem E_X6_shares_44 : AW X d 100 44 [l0, l1, l2, l3, l4] (.int y :: .int x :: S) st P = zif (¬ y = 0) (AW X d 100 45 [l0, l1, l2, l3, l4] (.int (x / y) :: S) st P) := zq_idiv (zd_of zb_X6_shares dX6_shares_44)
theorem E_X6_shares_45 : AW X d 100 45 [l0, l1, l2, l3, l4] (.int y :: .int x :: S) st P = AW X d 100 46 [l0, l1, l2, l3, l4] (.int (x + y) :: S) st P := zAW_st (zd_of zb_X6_shares dX6_shares_45) rfl rfl
theorem E_X6_shares_46 : AW X d 100 46 [l0, l1, l2, l3, l4] (.int x :: .ref a :: S) st P = zwith (zai X st a) fun q => zwith (zix x q.1) fun j => AW X d 100 47 [l0, l1, l2, l3, l4] (.int (q.2 j) :: S) st P := zq_iaload (zd_of zb_X6_shares dX6_shares_46)
theorem E_X6_shares_47 : AW X d 100 47 [l0, l1, l2, l3, l4] (.int x :: .ref a :: S) st P = zwith (zai X st a) fun q => zwith (zix x q.1) fun j => AW X d 100 48 [l0, l1, l2, l3, l4] (.int (q.2 j) :: S) st P := zq_iaload (zd_of zb_X6_shares dX6_shares_47)
theorem E_X6_shares_48 : AW X d 100 48 [.ref a, l1, l2, l3, l4] S st P = AW X d 100 49 [.ref a, l1, l2, l3, l4] (.ref a :: S) st P := zAW_st (zd_of zb_X6_shares dX6_shares_48) rfl rfl
theorem E_X6_shares_48n : AW X d 100 48 [.null, l1, l2, l3, l4] S st P = AW X d 100 49 [.null, l1, l2, l3, l4] (.null :: S) st P := zAW_st (zd_of zb_X6_shares dX6_shares_48) rfl rfl
theorem E_X6_shares_49 : AW X d 100 49 [l0, l1, l2, l3, l4] (.ref a :: S) st P = zwith (zget st a 7 7) fun v => AW X d 100 52 [l0, l1, l2, l3, l4] (v :: S) st P := zq_getfield (zd_of zb_X6_shares dX6_shares_49) zo_X6_shares zf_6_28
theorem E_X6_shares_52 : AW X d 100 52 [.ref a, l1, l2, l3, l4] S st P = AW X d 100 53 [.ref a, l1, l2, l3, l4] (.ref a :: S) st P := zAW_st (zd_of zb_X6_shares dX6_shares_52) rfl rfl
theorem E_X6_shares_52n : AW X d 100 52 [.null, l1, l2, l3, l4] S st P = AW X d 100 53 [.null, l1, l2, l3, l4] (.null :: S) st P := zAW_st (zd_of zb_X6_shares dX6_shares_52) rfl rfl
theorem E_X6_shares_53 : AW X d 100 53 [l0, l1, l2, l3, l4] (.ref a :: S) st P = zwith (zget st a 7 20) fun v => AW X d 100 56 [l0, l1, l2, l3, l4] (v :: S) st P := zq_getfield (zd_of zb_X6_shares dX6_shares_53) zo_X6_shares zf_6_61
theorem E_X6_shares_56 : AW X d 100 56 [l0, l1, l2, l3, l4] S st P = AW X d 100 58 [l0, l1, l2, l3, l4] (.int 6 :: S) st P := zq_bipush (zd_of zb_X6_shares dX6_shares_56) (by decide)
theorem E_X6_shares_58 : AW X d 100 58 [l0, l1, .int x, l3, l4] S st P = AW X d 100 59 [l0, l1, .int x, l3, l4] (.int x :: S) st P := zAW_st (zd_of zb_X6_shares dX6_shares_58) rfl rfl
theorem E_X6_shares_59 : AW X d 100 59 [l0, l1, l2, l3, l4] (.int y :: .int x :: S) st P = AW X d 100 60 [l0, l1, l2, l3, l4] (.int (x * y) :: S) st P := zAW_st (zd_of zb_X6_shares dX6_shares_59) rfl rfl
theorem E_X6_shares_60 : AW X d 100 60 [l0, l1, l2, l3, .int x] S st P = AW X d 100 62 [l0, l1, l2, l3, .int x] (.int x :: S) st P := zAW_st (zd_of zb_X6_shares dX6_shares_60) rfl rfl
theorem E_X6_shares_62 : AW X d 100 62 [.ref a, l1, l2, l3, l4] S st P = AW X d 100 63 [.ref a, l1, l2, l3, l4] (.ref a :: S) st P := zAW_st (zd_of zb_X6_shares dX6_shares_62) rfl rfl
theorem E_X6_shares_62n : AW X d 100 62 [.null, l1, l2, l3, l4] S st P = AW X d 100 63 [.null, l1, l2, l3, l4] (.null :: S) st P := zAW_st (zd_of zb_X6_shares dX6_shares_62) rfl rfl
theorem E_X6_shares_63 : AW X d 100 63 [l0, l1, l2, l3, l4] (.ref a :: S) st P = zwith (zget st a 7 17) fun v => AW X d 100 66 [l0, l1, l2, l3, l4] (v :: S) st P := zq_getfield (zd_of zb_X6_shares dX6_shares_63) zo_X6_shares zf_6_52
theorem E_X6_shares_66 : AW X d 100 66 [l0, l1, .int x, l3, l4] S st P = AW X d 100 67 [l0, l1, .int x, l3, l4] (.int x :: S) st P := zAW_st (zd_of zb_X6_shares dX6_shares_66) rfl rfl
theorem E_X6_shares_67 : AW X d 100 67 [l0, l1, l2, l3, l4] (.int x :: .ref a :: S) st P = zwith (zai X st a) fun q => zwith (zix x q.1) fun j => AW X d 100 68 [l0, l1, l2, l3, l4] (.int (q.2 j) :: S) st P := zq_iaload (zd_of zb_X6_shares dX6_shares_67)
theorem E_X6_shares_68 : AW X d 100 68 [l0, l1, l2, l3, l4] (.int y :: .int x :: S) st P = zif (¬ y = 0) (AW X d 100 69 [l0, l1, l2, l3, l4] (.int (x - x / y * y) :: S) st P) := zq_irem (zd_of zb_X6_shares dX6_shares_68)
theorem E_X6_shares_69 : AW X d 100 69 [l0, l1, l2, l3, l4] (.int y :: .int x :: S) st P = AW X d 100 70 [l0, l1, l2, l3, l4] (.int (x + y) :: S) st P := zAW_st (zd_of zb_X6_shares dX6_shares_69) rfl rfl
theorem E_X6_shares_70 : AW X d 100 70 [l0, l1, l2, l3, l4] (.int x :: .ref a :: S) st P = zwith (zai X st a) fun q => zwith (zix x q.1) fun j => AW X d 100 71 [l0, l1, l2, l3, l4] (.int (q.2 j) :: S) st P := zq_iaload (zd_of zb_X6_shares dX6_shares_70)
theorem E_X6_shares_71 : AW X d 100 71 [l0, l1, l2, l3, l4] (.int x :: .ref a :: S) st P = zwith (zai X st a) fun q => zwith (zix x q.1) fun j => AW X d 100 72 [l0, l1, l2, l3, l4] (.int (q.2 j) :: S) st P := zq_iaload (zd_of zb_X6_shares dX6_shares_71)
theorem E_X6_shares_72 : AW X d 100 72 [l0, l1, l2, l3, l4] (.int y :: .int x :: S) st P = if ¬ x = y then AW X d 100 79 [l0, l1, l2, l3, l4] S st P else AW X d 100 75 [l0, l1, l2, l3, l4] S st P := zq_icmp (c := ¬ x = y) (zd_of zb_X6_shares dX6_shares_72) (by decide) rfl
theorem E_X6_shares_75 : AW X d 100 75 [l0, l1, l2, l3, l4] S st P = AW X d 100 76 [l0, l1, l2, l3, l4] (.int 1 :: S) st P := zq_iconst (zd_of zb_X6_shares dX6_shares_75) (by decide)
theorem E_X6_shares_76 : AW X d 100 76 [l0, l1, l2, l3, l4] S st P = AW X d 100 80 [l0, l1, l2, l3, l4] S st P := zq_goto (zd_of zb_X6_shares dX6_shares_76) (by decide)
theorem E_X6_shares_79 : AW X d 100 79 [l0, l1, l2, l3, l4] S st P = AW X d 100 80 [l0, l1, l2, l3, l4] (.int 0 :: S) st P := zq_iconst (zd_of zb_X6_shares dX6_shares_79) (by decide)
theorem E_X6_shares_80 : AW X d 100 80 [l0, l1, l2, l3, l4] (.int y :: .int x :: S) st P = AW X d 100 81 [l0, l1, l2, l3, l4] (.int (x ||| y) :: S) st P := zAW_st (zd_of zb_X6_shares dX6_shares_80) rfl rfl
theorem E_X6_shares_81 : AW X d 100 81 [l0, l1, l2, l3, l4] (.int x :: S) st P = AW X d 100 82 [l0, l1, l2, .int x, l4] S st P := zAW_st (zd_of zb_X6_shares dX6_shares_81) rfl rfl
theorem E_X6_shares_82 : AW X d 100 82 [l0, l1, l2, l3, .int x] S st P = AW X d 100 85 [l0, l1, l2, l3, .int (x + 1)] S st P := zq_iinc (zd_of zb_X6_shares dX6_shares_82) rfl (by decide)
theorem E_X6_shares_85 : AW X d 100 85 [l0, l1, l2, l3, l4] S st P = AW X d 100 5 [l0, l1, l2, l3, l4] S st P := zq_goto (zd_of zb_X6_shares dX6_shares_85) (by decide)
theorem E_X6_shares_88 : AW X d 100 88 [l0, l1, l2, .int x, l4] S st P = AW X d 100 89 [l0, l1, l2, .int x, l4] (.int x :: S) st P := zAW_st (zd_of zb_X6_shares dX6_shares_88) rfl rfl
theorem E_X6_shares_89 : AW X d 100 89 [l0, l1, l2, l3, l4] ([.int x]) st P = zif (x &&& 1 = x) (P (.inl (some (.int x))) st) := by
  by_cases h : x &&& 1 = x
  · rw [zif_of h]; exact zAW_ret (w := (.inl (some (.int x)), st)) (zd_of zb_X6_shares dX6_shares_89) rfl rfl (by simp only [zfin, zr_X6_shares]; rw [if_pos h])
  · rw [zAW_stuck (zd_of zb_X6_shares dX6_shares_89) rfl (by simp only [zfin, zr_X6_shares]; rw [if_neg h]) rfl]; exact propext ⟨fun z => z.elim, fun z => h z.1⟩
theorem A_X6_shares : AC X (d + 1) 100 [.ref a, .int x, .int y] st P = AW X d 100 0 [.ref a, .int x, .int y, .retAddr 0, .retAddr 0] [] st P := AC_eq ⟨⟨(show 3 ≤ zml 100 by decide +kernel), by decide +kernel⟩, by simp [zc1_int, zc1_ref, zc1_float]⟩
theorem E_X6_redraw_0 : AW X d 101 0 [.ref a, l1, l2, l3, l4] S st P = AW X d 101 1 [.ref a, l1, l2, l3, l4] (.ref a :: S) st P := zAW_st (zd_of zb_X6_redraw dX6_redraw_0) rfl rfl
theorem E_X6_redraw_0n : AW X d 101 0 [.null, l1, l2, l3, l4] S st P = AW X d 101 1 [.null, l1, l2, l3, l4] (.null :: S) st P := zAW_st (zd_of zb_X6_redraw dX6_redraw_0) rfl rfl
theorem E_X6_redraw_1 : AW X d 101 1 [.ref a, l1, l2, l3, l4] S st P = AW X d 101 2 [.ref a, l1, l2, l3, l4] (.ref a :: S) st P := zAW_st (zd_of zb_X6_redraw dX6_redraw_1) rfl rfl
theorem E_X6_redraw_1n : AW X d 101 1 [.null, l1, l2, l3, l4] S st P = AW X d 101 2 [.null, l1, l2, l3, l4] (.null :: S) st P := zAW_st (zd_of zb_X6_redraw dX6_redraw_1) rfl rfl
theorem E_X6_redraw_2 : AW X d 101 2 [l0, .int x, l2, l3, l4] S st P = AW X d 101 3 [l0, .int x, l2, l3, l4] (.int x :: S) st P := zAW_st (zd_of zb_X6_redraw dX6_redraw_2) rfl rfl
theorem E_X6_redraw_3 : AW X d 101 3 [l0, l1, l2, l3, l4] (.int x :: .ref a :: S) st P = zif (zis st a 7 = true) (zif (S.length ≤ 4) (AC X d 76 [.ref a, .int x] st (zaft X d 101 3 [l0, l1, l2, l3, l4] S P))) := zq_callV (B := [.int x]) (zd_of zb_X6_redraw dX6_redraw_3) zo_X6_redraw (by decide) zl_6_82 zn_76 rfl rfl rfl
theorem E_X6_redraw_6 : AW X d 101 6 [l0, l1, l2, l3, l4] (.int x :: S) st P = if ¬ x = 0 then AW X d 101 13 [l0, l1, l2, l3, l4] S st P else AW X d 101 9 [l0, l1, l2, l3, l4] S st P := zq_if (c := ¬ x = 0) (zd_of zb_X6_redraw dX6_redraw_6) (by decide) rfl
theorem E_X6_redraw_9 : AW X d 101 9 [l0, l1, l2, l3, l4] S st P = AW X d 101 10 [l0, l1, l2, l3, l4] (.int 1 :: S) st P := zq_iconst (zd_of zb_X6_redraw dX6_redraw_9) (by decide)
theorem E_X6_redraw_10 : AW X d 101 10 [l0, l1, l2, l3, l4] S st P = AW X d 101 27 [l0, l1, l2, l3, l4] S st P := zq_goto (zd_of zb_X6_redraw dX6_redraw_10) (by decide)
theorem E_X6_redraw_13 : AW X d 101 13 [.ref a, l1, l2, l3, l4] S st P = AW X d 101 14 [.ref a, l1, l2, l3, l4] (.ref a :: S) st P := zAW_st (zd_of zb_X6_redraw dX6_redraw_13) rfl rfl
theorem E_X6_redraw_13n : AW X d 101 13 [.null, l1, l2, l3, l4] S st P = AW X d 101 14 [.null, l1, l2, l3, l4] (.null :: S) st P := zAW_st (zd_of zb_X6_redraw dX6_redraw_13) rfl rfl
theorem E_X6_redraw_14 : AW X d 101 14 [l0, l1, l2, l3, l4] (.ref a :: S) st P = zwith (zget st a 7 0) fun v => AW X d 101 17 [l0, l1, l2, l3, l4] (v :: S) st P := zq_getfield (zd_of zb_X6_redraw dX6_redraw_14) zo_X6_redraw zf_6_7
theorem E_X6_redraw_17 : AW X d 101 17 [l0, .int x, l2, l3, l4] S st P = AW X d 101 18 [l0, .int x, l2, l3, l4] (.int x :: S) st P := zAW_st (zd_of zb_X6_redraw dX6_redraw_17) rfl rfl
theorem E_X6_redraw_18 : AW X d 101 18 [l0, l1, l2, l3, l4] (.int x :: .ref a :: S) st P = zwith (zai X st a) fun q => zwith (zix x q.1) fun j => AW X d 101 19 [l0, l1, l2, l3, l4] (.int (q.2 j) :: S) st P := zq_iaload (zd_of zb_X6_redraw dX6_redraw_18)
theorem E_X6_redraw_19 : AW X d 101 19 [l0, l1, l2, l3, l4] (.int x :: S) st P = if ¬ x = 0 then AW X d 101 26 [l0, l1, l2, l3, l4] S st P else AW X d 101 22 [l0, l1, l2, l3, l4] S st P := zq_if (c := ¬ x = 0) (zd_of zb_X6_redraw dX6_redraw_19) (by decide) rfl
theorem E_X6_redraw_22 : AW X d 101 22 [l0, l1, l2, l3, l4] S st P = AW X d 101 23 [l0, l1, l2, l3, l4] (.int 2 :: S) st P := zq_iconst (zd_of zb_X6_redraw dX6_redraw_22) (by decide)
theorem E_X6_redraw_23 : AW X d 101 23 [l0, l1, l2, l3, l4] S st P = AW X d 101 27 [l0, l1, l2, l3, l4] S st P := zq_goto (zd_of zb_X6_redraw dX6_redraw_23) (by decide)
theorem E_X6_redraw_26 : AW X d 101 26 [l0, l1, l2, l3, l4] S st P = AW X d 101 27 [l0, l1, l2, l3, l4] (.int 0 :: S) st P := zq_iconst (zd_of zb_X6_redraw dX6_redraw_26) (by decide)
theorem E_X6_redraw_27 : AW X d 101 27 [l0, l1, l2, l3, l4] (.int x :: .ref a :: S) st P = zif (zis st a 7 = true) (zif (S.length ≤ 4) (AC X d 74 [.ref a, .int x] st (zaft X d 101 27 [l0, l1, l2, l3, l4] S P))) := zq_callV (B := [.int x]) (zd_of zb_X6_redraw dX6_redraw_27) zo_X6_redraw (by decide) zl_6_78 zn_74 rfl rfl rfl
theorem E_X6_redraw_30 : AW X d 101 30 [l0, l1, l2, l3, l4] (.int x :: S) st P = if x = 0 then AW X d 101 35 [l0, l1, l2, l3, l4] S st P else AW X d 101 33 [l0, l1, l2, l3, l4] S st P := zq_if (c := x = 0) (zd_of zb_X6_redraw dX6_redraw_30) (by decide) rfl
theorem E_X6_redraw_33 : AW X d 101 33 [l0, l1, l2, l3, l4] S st P = AW X d 101 34 [l0, l1, l2, l3, l4] (.int (-1) :: S) st P := zq_iconst (zd_of zb_X6_redraw dX6_redraw_33) (by decide)
theorem E_X6_redraw_34 : AW X d 101 34 [l0, l1, l2, l3, l4] ([.int x]) st P = P (.inl (some (.int x))) st := zAW_ret (w := (.inl (some (.int x)), st)) (zd_of zb_X6_redraw dX6_redraw_34) rfl rfl (by simp only [zfin, zr_X6_redraw])
theorem E_X6_redraw_35 : AW X d 101 35 [l0, l1, l2, l3, l4] S st P = AW X d 101 36 [l0, l1, l2, l3, l4] (.int 0 :: S) st P := zq_iconst (zd_of zb_X6_redraw dX6_redraw_35) (by decide)
theorem E_X6_redraw_36 : AW X d 101 36 [l0, l1, l2, l3, l4] (.int x :: S) st P = AW X d 101 37 [l0, l1, .int x, l3, l4] S st P := zAW_st (zd_of zb_X6_redraw dX6_redraw_36) rfl rfl
theorem E_X6_redraw_37 : AW X d 101 37 [l0, l1, .int x, l3, l4] S st P = AW X d 101 38 [l0, l1, .int x, l3, l4] (.int x :: S) st P := zAW_st (zd_of zb_X6_redraw dX6_redraw_37) rfl rfl
theorem E_X6_redraw_38 : AW X d 101 38 [.ref a, l1, l2, l3, l4] S st P = AW X d 101 39 [.ref a, l1, l2, l3, l4] (.ref a :: S) st P := zAW_st (zd_of zb_X6_redraw dX6_redraw_38) rfl rfl
theorem E_X6_redraw_38n : AW X d 101 38 [.null, l1, l2, l3, l4] S st P = AW X d 101 39 [.null, l1, l2, l3, l4] (.null :: S) st P := zAW_st (zd_of zb_X6_redraw dX6_redraw_38) rfl rfl
theorem E_X6_redraw_39 : AW X d 101 39 [l0, l1, l2, l3, l4] (.ref a :: S) st P = zwith (zget st a 7 21) fun v => AW X d 101 42 [l0, l1, l2, l3, l4] (v :: S) st P := zq_getfield (zd_of zb_X6_redraw dX6_redraw_39) zo_X6_redraw zf_6_132
theorem E_X6_redraw_42 : AW X d 101 42 [l0, l1, l2, l3, l4] (.int y :: .int x :: S) st P = if y ≤ x then AW X d 101 139 [l0, l1, l2, l3, l4] S st P else AW X d 101 45 [l0, l1, l2, l3, l4] S st P := zq_icmp (c := y ≤ x) (zd_of zb_X6_redraw dX6_redraw_42) (by decide) rfl
theorem E_X6_redraw_45 : AW X d 101 45 [.ref a, l1, l2, l3, l4] S st P = AW X d 101 46 [.ref a, l1, l2, l3, l4] (.ref a :: S) st P := zAW_st (zd_of zb_X6_redraw dX6_redraw_45) rfl rfl
theorem E_X6_redraw_45n : AW X d 101 45 [.null, l1, l2, l3, l4] S st P = AW X d 101 46 [.null, l1, l2, l3, l4] (.null :: S) st P := zAW_st (zd_of zb_X6_redraw dX6_redraw_45) rfl rfl
theorem E_X6_redraw_46 : AW X d 101 46 [l0, l1, l2, l3, l4] (.ref a :: S) st P = zwith (zget st a 7 22) fun v => AW X d 101 49 [l0, l1, l2, l3, l4] (v :: S) st P := zq_getfield (zd_of zb_X6_redraw dX6_redraw_46) zo_X6_redraw zf_6_64
theorem E_X6_redraw_49 : AW X d 101 49 [l0, l1, .int x, l3, l4] S st P = AW X d 101 50 [l0, l1, .int x, l3, l4] (.int x :: S) st P := zAW_st (zd_of zb_X6_redraw dX6_redraw_49) rfl rfl
theorem E_X6_redraw_50 : AW X d 101 50 [l0, l1, l2, l3, l4] S st P = AW X d 101 51 [l0, l1, l2, l3, l4] (.int 0 :: S) st P := zq_iconst (zd_of zb_X6_redraw dX6_redraw_50) (by decide)
theorem E_X6_redraw_51 : AW X d 101 51 [l0, l1, l2, l3, l4] (.int y :: .int x :: .ref a :: S) st P = zwith (zaI st a) fun q => zwith (zix x q.1) fun j => AW X d 101 52 [l0, l1, l2, l3, l4] S (zsta st a (q.1, .inl (upd q.2 j y))) P := zq_iastore (zd_of zb_X6_redraw dX6_redraw_51)
theorem E_X6_redraw_52 : AW X d 101 52 [l0, l1, l2, l3, l4] S st P = AW X d 101 53 [l0, l1, l2, l3, l4] (.int 0 :: S) st P := zq_iconst (zd_of zb_X6_redraw dX6_redraw_52) (by decide)
theorem E_X6_redraw_53 : AW X d 101 53 [l0, l1, l2, l3, l4] (.int x :: S) st P = AW X d 101 54 [l0, l1, l2, .int x, l4] S st P := zAW_st (zd_of zb_X6_redraw dX6_redraw_53) rfl rfl
theorem E_X6_redraw_54 : AW X d 101 54 [l0, l1, l2, .int x, l4] S st P = AW X d 101 55 [l0, l1, l2, .int x, l4] (.int x :: S) st P := zAW_st (zd_of zb_X6_redraw dX6_redraw_54) rfl rfl
theorem E_X6_redraw_55 : AW X d 101 55 [.ref a, l1, l2, l3, l4] S st P = AW X d 101 56 [.ref a, l1, l2, l3, l4] (.ref a :: S) st P := zAW_st (zd_of zb_X6_redraw dX6_redraw_55) rfl rfl
theorem E_X6_redraw_55n : AW X d 101 55 [.null, l1, l2, l3, l4] S st P = AW X d 101 56 [.null, l1, l2, l3, l4] (.null :: S) st P := zAW_st (zd_of zb_X6_redraw dX6_redraw_55) rfl rfl
theorem E_X6_redraw_56 : AW X d 101 56 [l0, l1, l2, l3, l4] (.ref a :: S) st P = zwith (zget st a 7 21) fun v => AW X d 101 59 [l0, l1, l2, l3, l4] (v :: S) st P := zq_getfield (zd_of zb_X6_redraw dX6_redraw_56) zo_X6_redraw zf_6_132
theorem E_X6_redraw_59 : AW X d 101 59 [l0, l1, l2, l3, l4] (.int y :: .int x :: S) st P = if y ≤ x then AW X d 101 133 [l0, l1, l2, l3, l4] S st P else AW X d 101 62 [l0, l1, l2, l3, l4] S st P := zq_icmp (c := y ≤ x) (zd_of zb_X6_redraw dX6_redraw_59) (by decide) rfl
theorem E_X6_redraw_62 : AW X d 101 62 [.ref a, l1, l2, l3, l4] S st P = AW X d 101 63 [.ref a, l1, l2, l3, l4] (.ref a :: S) st P := zAW_st (zd_of zb_X6_redraw dX6_redraw_62) rfl rfl
theorem E_X6_redraw_62n : AW X d 101 62 [.null, l1, l2, l3, l4] S st P = AW X d 101 63 [.null, l1, l2, l3, l4] (.null :: S) st P := zAW_st (zd_of zb_X6_redraw dX6_redraw_62) rfl rfl
theorem E_X6_redraw_63 : AW X d 101 63 [l0, l1, l2, l3, l4] (.ref a :: S) st P = zwith (zget st a 7 18) fun v => AW X d 101 66 [l0, l1, l2, l3, l4] (v :: S) st P := zq_getfield (zd_of zb_X6_redraw dX6_redraw_63) zo_X6_redraw zf_6_55
theorem E_X6_redraw_66 : AW X d 101 66 [l0, l1, l2, .int x, l4] S st P = AW X d 101 67 [l0, l1, l2, .int x, l4] (.int x :: S) st P := zAW_st (zd_of zb_X6_redraw dX6_redraw_66) rfl rfl
theorem E_X6_redraw_67 : AW X d 101 67 [l0, l1, l2, l3, l4] (.int x :: .ref a :: S) st P = zwith (zai X st a) fun q => zwith (zix x q.1) fun j => AW X d 101 68 [l0, l1, l2, l3, l4] (.int (q.2 j) :: S) st P := zq_iaload (zd_of zb_X6_redraw dX6_redraw_67)
theorem E_X6_redraw_68 : AW X d 101 68 [l0, l1, l2, l3, l4] S st P = AW X d 101 69 [l0, l1, l2, l3, l4] (.int 1 :: S) st P := zq_iconst (zd_of zb_X6_redraw dX6_redraw_68) (by decide)
theorem E_X6_redraw_69 : AW X d 101 69 [l0, l1, l2, l3, l4] (.int y :: .int x :: S) st P = if ¬ x = y then AW X d 101 86 [l0, l1, l2, l3, l4] S st P else AW X d 101 72 [l0, l1, l2, l3, l4] S st P := zq_icmp (c := ¬ x = y) (zd_of zb_X6_redraw dX6_redraw_69) (by decide) rfl
theorem E_X6_redraw_72 : AW X d 101 72 [.ref a, l1, l2, l3, l4] S st P = AW X d 101 73 [.ref a, l1, l2, l3, l4] (.ref a :: S) st P := zAW_st (zd_of zb_X6_redraw dX6_redraw_72) rfl rfl
theorem E_X6_redraw_72n : AW X d 101 72 [.null, l1, l2, l3, l4] S st P = AW X d 101 73 [.null, l1, l2, l3, l4] (.null :: S) st P := zAW_st (zd_of zb_X6_redraw dX6_redraw_72) rfl rfl
theorem E_X6_redraw_73 : AW X d 101 73 [l0, l1, l2, l3, l4] (.ref a :: S) st P = zwith (zget st a 7 16) fun v => AW X d 101 76 [l0, l1, l2, l3, l4] (v :: S) st P := zq_getfield (zd_of zb_X6_redraw dX6_redraw_73) zo_X6_redraw zf_6_49
theorem E_X6_redraw_76 : AW X d 101 76 [l0, l1, l2, .int x, l4] S st P = AW X d 101 77 [l0, l1, l2, .int x, l4] (.int x :: S) st P := zAW_st (zd_of zb_X6_redraw dX6_redraw_76) rfl rfl
theorem E_X6_redraw_77 : AW X d 101 77 [l0, l1, l2, l3, l4] (.int x :: .ref a :: S) st P = zwith (zai X st a) fun q => zwith (zix x q.1) fun j => AW X d 101 78 [l0, l1, l2, l3, l4] (.int (q.2 j) :: S) st P := zq_iaload (zd_of zb_X6_redraw dX6_redraw_77)
theorem E_X6_redraw_78 : AW X d 101 78 [l0, .int x, l2, l3, l4] S st P = AW X d 101 79 [l0, .int x, l2, l3, l4] (.int x :: S) st P := zAW_st (zd_of zb_X6_redraw dX6_redraw_78) rfl rfl
theorem E_X6_redraw_79 : AW X d 101 79 [l0, l1, l2, l3, l4] (.int y :: .int x :: S) st P = if ¬ x = y then AW X d 101 86 [l0, l1, l2, l3, l4] S st P else AW X d 101 82 [l0, l1, l2, l3, l4] S st P := zq_icmp (c := ¬ x = y) (zd_of zb_X6_redraw dX6_redraw_79) (by decide) rfl
theorem E_X6_redraw_82 : AW X d 101 82 [l0, l1, l2, l3, l4] S st P = AW X d 101 83 [l0, l1, l2, l3, l4] (.int 1 :: S) st P := zq_iconst (zd_of zb_X6_redraw dX6_redraw_82) (by decide)
theorem E_X6_redraw_83 : AW X d 101 83 [l0, l1, l2, l3, l4] S st P = AW X d 101 87 [l0, l1, l2, l3, l4] S st P := zq_goto (zd_of zb_X6_redraw dX6_redraw_83) (by decide)
theorem E_X6_redraw_86 : AW X d 101 86 [l0, l1, l2, l3, l4] S st P = AW X d 101 87 [l0, l1, l2, l3, l4] (.int 0 :: S) st P := zq_iconst (zd_of zb_X6_redraw dX6_redraw_86) (by decide)
theorem E_X6_redraw_87 : AW X d 101 87 [l0, l1, l2, l3, l4] (.int x :: S) st P = AW X d 101 89 [l0, l1, l2, l3, .int x] S st P := zAW_st (zd_of zb_X6_redraw dX6_redraw_87) rfl rfl
theorem E_X6_redraw_89 : AW X d 101 89 [.ref a, l1, l2, l3, l4] S st P = AW X d 101 90 [.ref a, l1, l2, l3, l4] (.ref a :: S) st P := zAW_st (zd_of zb_X6_redraw dX6_redraw_89) rfl rfl
theorem E_X6_redraw_89n : AW X d 101 89 [.null, l1, l2, l3, l4] S st P = AW X d 101 90 [.null, l1, l2, l3, l4] (.null :: S) st P := zAW_st (zd_of zb_X6_redraw dX6_redraw_89) rfl rfl
theorem E_X6_redraw_90 : AW X d 101 90 [l0, l1, l2, l3, l4] (.ref a :: S) st P = zwith (zget st a 7 22) fun v => AW X d 101 93 [l0, l1, l2, l3, l4] (v :: S) st P := zq_getfield (zd_of zb_X6_redraw dX6_redraw_90) zo_X6_redraw zf_6_64
theorem E_X6_redraw_93 : AW X d 101 93 [l0, l1, .int x, l3, l4] S st P = AW X d 101 94 [l0, l1, .int x, l3, l4] (.int x :: S) st P := zAW_st (zd_of zb_X6_redraw dX6_redraw_93) rfl rfl
theorem E_X6_redraw_94 : AW X d 101 94 [l0, l1, l2, l3, l4] (.ref b :: .ref a :: S) st P = AW X d 101 95 [l0, l1, l2, l3, l4] (.ref b :: .ref a :: .ref b :: .ref a :: S) st P := zq_dup2 (zd_of zb_X6_redraw dX6_redraw_94) rfl rfl
theorem E_X6_redraw_94i : AW X d 101 94 [l0, l1, l2, l3, l4] (.int x :: .ref a :: S) st P = AW X d 101 95 [l0, l1, l2, l3, l4] (.int x :: .ref a :: .int x :: .ref a :: S) st P := zq_dup2 (zd_of zb_X6_redraw dX6_redraw_94) rfl rfl
theorem E_X6_redraw_94j : AW X d 101 94 [l0, l1, l2, l3, l4] (.int x :: .int y :: S) st P = AW X d 101 95 [l0, l1, l2, l3, l4] (.int x :: .int y :: .int x :: .int y :: S) st P := zq_dup2 (zd_of zb_X6_redraw dX6_redraw_94) rfl rfl
theorem E_X6_redraw_95 : AW X d 101 95 [l0, l1, l2, l3, l4] (.int x :: .ref a :: S) st P = zwith (zai X st a) fun q => zwith (zix x q.1) fun j => AW X d 101 96 [l0, l1, l2, l3, l4] (.int (q.2 j) :: S) st P := zq_iaload (zd_of zb_X6_redraw dX6_redraw_95)
theorem E_X6_redraw_96 : AW X d 101 96 [.ref a, l1, l2, l3, l4] S st P = AW X d 101 97 [.ref a, l1, l2, l3, l4] (.ref a :: S) st P := zAW_st (zd_of zb_X6_redraw dX6_redraw_96) rfl rfl
theorem E_X6_redraw_96n : AW X d 101 96 [.null, l1, l2, l3, l4] S st P = AW X d 101 97 [.null, l1, l2, l3, l4] (.null :: S) st P := zAW_st (zd_of zb_X6_redraw dX6_redraw_96) rfl rfl
theorem E_X6_redraw_97 : AW X d 101 97 [l0, l1, l2, l3, l4] (.ref a :: S) st P = zwith (zget st a 7 18) fun v => AW X d 101 100 [l0, l1, l2, l3, l4] (v :: S) st P := zq_getfield (zd_of zb_X6_redraw dX6_redraw_97) zo_X6_redraw zf_6_55
theorem E_X6_redraw_100 : AW X d 101 100 [l0, l1, .int x, l3, l4] S st P = AW X d 101 101 [l0, l1, .int x, l3, l4] (.int x :: S) st P := zAW_st (zd_of zb_X6_redraw dX6_redraw_100) rfl rfl
theorem E_X6_redraw_101 : AW X d 101 101 [l0, l1, l2, l3, l4] (.int x :: .ref a :: S) st P = zwith (zai X st a) fun q => zwith (zix x q.1) fun j => AW X d 101 102 [l0, l1, l2, l3, l4] (.int (q.2 j) :: S) st P := zq_iaload (zd_of zb_X6_redraw dX6_redraw_101)
theorem E_X6_redraw_102 : AW X d 101 102 [l0, l1, l2, l3, l4] S st P = AW X d 101 103 [l0, l1, l2, l3, l4] (.int 1 :: S) st P := zq_iconst (zd_of zb_X6_redraw dX6_redraw_102) (by decide)
theorem E_X6_redraw_103 : AW X d 101 103 [l0, l1, l2, l3, l4] (.int y :: .int x :: S) st P = if ¬ x = y then AW X d 101 124 [l0, l1, l2, l3, l4] S st P else AW X d 101 106 [l0, l1, l2, l3, l4] S st P := zq_icmp (c := ¬ x = y) (zd_of zb_X6_redraw dX6_redraw_103) (by decide) rfl
theorem E_X6_redraw_106 : AW X d 101 106 [l0, l1, l2, l3, .int x] S st P = AW X d 101 108 [l0, l1, l2, l3, .int x] (.int x :: S) st P := zAW_st (zd_of zb_X6_redraw dX6_redraw_106) rfl rfl
theorem E_X6_redraw_108 : AW X d 101 108 [l0, l1, l2, l3, l4] (.int x :: S) st P = if x = 0 then AW X d 101 124 [l0, l1, l2, l3, l4] S st P else AW X d 101 111 [l0, l1, l2, l3, l4] S st P := zq_if (c := x = 0) (zd_of zb_X6_redraw dX6_redraw_108) (by decide) rfl
theorem E_X6_redraw_111 : AW X d 101 111 [.ref a, l1, l2, l3, l4] S st P = AW X d 101 112 [.ref a, l1, l2, l3, l4] (.ref a :: S) st P := zAW_st (zd_of zb_X6_redraw dX6_redraw_111) rfl rfl
theorem E_X6_redraw_111n : AW X d 101 111 [.null, l1, l2, l3, l4] S st P = AW X d 101 112 [.null, l1, l2, l3, l4] (.null :: S) st P := zAW_st (zd_of zb_X6_redraw dX6_redraw_111) rfl rfl
theorem E_X6_redraw_112 : AW X d 101 112 [l0, l1, .int x, l3, l4] S st P = AW X d 101 113 [l0, l1, .int x, l3, l4] (.int x :: S) st P := zAW_st (zd_of zb_X6_redraw dX6_redraw_112) rfl rfl
theorem E_X6_redraw_113 : AW X d 101 113 [l0, l1, l2, .int x, l4] S st P = AW X d 101 114 [l0, l1, l2, .int x, l4] (.int x :: S) st P := zAW_st (zd_of zb_X6_redraw dX6_redraw_113) rfl rfl
theorem E_X6_redraw_114 : AW X d 101 114 [l0, l1, l2, l3, l4] (.int y :: .int x :: .ref a :: S) st P = zif (zis st a 7 = true) (zif (S.length ≤ 4) (AC X d 100 [.ref a, .int x, .int y] st (zaft X d 101 114 [l0, l1, l2, l3, l4] S P))) := zq_callV (B := [.int x, .int y]) (zd_of zb_X6_redraw dX6_redraw_114) zo_X6_redraw (by decide) zl_6_151 zn_100 rfl rfl rfl
theorem E_X6_redraw_117 : AW X d 101 117 [l0, l1, l2, l3, l4] (.int x :: S) st P = if x = 0 then AW X d 101 124 [l0, l1, l2, l3, l4] S st P else AW X d 101 120 [l0, l1, l2, l3, l4] S st P := zq_if (c := x = 0) (zd_of zb_X6_redraw dX6_redraw_117) (by decide) rfl
theorem E_X6_redraw_120 : AW X d 101 120 [l0, l1, l2, l3, l4] S st P = AW X d 101 121 [l0, l1, l2, l3, l4] (.int 1 :: S) st P := zq_iconst (zd_of zb_X6_redraw dX6_redraw_120) (by decide)
theorem E_X6_redraw_121 : AW X d 101 121 [l0, l1, l2, l3, l4] S st P = AW X d 101 125 [l0, l1, l2, l3, l4] S st P := zq_goto (zd_of zb_X6_redraw dX6_redraw_121) (by decide)
theorem E_X6_redraw_124 : AW X d 101 124 [l0, l1, l2, l3, l4] S st P = AW X d 101 125 [l0, l1, l2, l3, l4] (.int 0 :: S) st P := zq_iconst (zd_of zb_X6_redraw dX6_redraw_124) (by decide)
theorem E_X6_redraw_125 : AW X d 101 125 [l0, l1, l2, l3, l4] (.int y :: .int x :: S) st P = AW X d 101 126 [l0, l1, l2, l3, l4] (.int (x ||| y) :: S) st P := zAW_st (zd_of zb_X6_redraw dX6_redraw_125) rfl rfl
theorem E_X6_redraw_126 : AW X d 101 126 [l0, l1, l2, l3, l4] (.int y :: .int x :: .ref a :: S) st P = zwith (zaI st a) fun q => zwith (zix x q.1) fun j => AW X d 101 127 [l0, l1, l2, l3, l4] S (zsta st a (q.1, .inl (upd q.2 j y))) P := zq_iastore (zd_of zb_X6_redraw dX6_redraw_126)
theorem E_X6_redraw_127 : AW X d 101 127 [l0, l1, l2, .int x, l4] S st P = AW X d 101 130 [l0, l1, l2, .int (x + 1), l4] S st P := zq_iinc (zd_of zb_X6_redraw dX6_redraw_127) rfl (by decide)
theorem E_X6_redraw_130 : AW X d 101 130 [l0, l1, l2, l3, l4] S st P = AW X d 101 54 [l0, l1, l2, l3, l4] S st P := zq_goto (zd_of zb_X6_redraw dX6_redraw_130) (by decide)
theorem E_X6_redraw_133 : AW X d 101 133 [l0, l1, .int x, l3, l4] S st P = AW X d 101 136 [l0, l1, .int (x + 1), l3, l4] S st P := zq_iinc (zd_of zb_X6_redraw dX6_redraw_133) rfl (by decide)
theorem E_X6_redraw_136 : AW X d 101 136 [l0, l1, l2, l3, l4] S st P = AW X d 101 37 [l0, l1, l2, l3, l4] S st P := zq_goto (zd_of zb_X6_redraw dX6_redraw_136) (by decide)
theorem E_X6_redraw_139 : AW X d 101 139 [l0, l1, l2, l3, l4] S st P = AW X d 101 140 [l0, l1, l2, l3, l4] (.int 0 :: S) st P := zq_iconst (zd_of zb_X6_redraw dX6_redraw_139) (by decide)
theorem E_X6_redraw_140 : AW X d 101 140 [l0, l1, l2, l3, l4] (.int x :: S) st P = AW X d 101 141 [l0, l1, .int x, l3, l4] S st P := zAW_st (zd_of zb_X6_redraw dX6_redraw_140) rfl rfl
theorem E_X6_redraw_141 : AW X d 101 141 [.ref a, l1, l2, l3, l4] S st P = AW X d 101 142 [.ref a, l1, l2, l3, l4] (.ref a :: S) st P := zAW_st (zd_of zb_X6_redraw dX6_redraw_141) rfl rfl
theorem E_X6_redraw_141n : AW X d 101 141 [.null, l1, l2, l3, l4] S st P = AW X d 101 142 [.null, l1, l2, l3, l4] (.null :: S) st P := zAW_st (zd_of zb_X6_redraw dX6_redraw_141) rfl rfl
theorem E_X6_redraw_142 : AW X d 101 142 [l0, l1, l2, l3, l4] (.ref a :: S) st P = zwith (zget st a 7 21) fun v => AW X d 101 145 [l0, l1, l2, l3, l4] (v :: S) st P := zq_getfield (zd_of zb_X6_redraw dX6_redraw_142) zo_X6_redraw zf_6_132
theorem E_X6_redraw_145 : AW X d 101 145 [l0, l1, l2, l3, l4] S st P = AW X d 101 146 [l0, l1, l2, l3, l4] (.int 1 :: S) st P := zq_iconst (zd_of zb_X6_redraw dX6_redraw_145) (by decide)
theorem E_X6_redraw_146 : AW X d 101 146 [l0, l1, l2, l3, l4] (.int y :: .int x :: S) st P = AW X d 101 147 [l0, l1, l2, l3, l4] (.int (x - y) :: S) st P := zAW_st (zd_of zb_X6_redraw dX6_redraw_146) rfl rfl
theorem E_X6_redraw_147 : AW X d 101 147 [l0, l1, l2, l3, l4] (.int x :: S) st P = AW X d 101 148 [l0, l1, l2, .int x, l4] S st P := zAW_st (zd_of zb_X6_redraw dX6_redraw_147) rfl rfl
theorem E_X6_redraw_148 : AW X d 101 148 [l0, l1, l2, .int x, l4] S st P = AW X d 101 149 [l0, l1, l2, .int x, l4] (.int x :: S) st P := zAW_st (zd_of zb_X6_redraw dX6_redraw_148) rfl rfl
theorem E_X6_redraw_149 : AW X d 101 149 [l0, l1, l2, l3, l4] (.int x :: S) st P = if x < 0 then AW X d 101 182 [l0, l1, l2, l3, l4] S st P else AW X d 101 152 [l0, l1, l2, l3, l4] S st P := zq_if (c := x < 0) (zd_of zb_X6_redraw dX6_redraw_149) (by decide) rfl
theorem E_X6_redraw_152 : AW X d 101 152 [.ref a, l1, l2, l3, l4] S st P = AW X d 101 153 [.ref a, l1, l2, l3, l4] (.ref a :: S) st P := zAW_st (zd_of zb_X6_redraw dX6_redraw_152) rfl rfl
theorem E_X6_redraw_152n : AW X d 101 152 [.null, l1, l2, l3, l4] S st P = AW X d 101 153 [.null, l1, l2, l3, l4] (.null :: S) st P := zAW_st (zd_of zb_X6_redraw dX6_redraw_152) rfl rfl
theorem E_X6_redraw_153 : AW X d 101 153 [l0, l1, l2, l3, l4] (.ref a :: S) st P = zwith (zget st a 7 22) fun v => AW X d 101 156 [l0, l1, l2, l3, l4] (v :: S) st P := zq_getfield (zd_of zb_X6_redraw dX6_redraw_153) zo_X6_redraw zf_6_64
theorem E_X6_redraw_156 : AW X d 101 156 [l0, l1, l2, .int x, l4] S st P = AW X d 101 157 [l0, l1, l2, .int x, l4] (.int x :: S) st P := zAW_st (zd_of zb_X6_redraw dX6_redraw_156) rfl rfl
theorem E_X6_redraw_157 : AW X d 101 157 [l0, l1, l2, l3, l4] (.int x :: .ref a :: S) st P = zwith (zai X st a) fun q => zwith (zix x q.1) fun j => AW X d 101 158 [l0, l1, l2, l3, l4] (.int (q.2 j) :: S) st P := zq_iaload (zd_of zb_X6_redraw dX6_redraw_157)
theorem E_X6_redraw_158 : AW X d 101 158 [l0, l1, l2, l3, l4] S st P = AW X d 101 159 [l0, l1, l2, l3, l4] (.int 1 :: S) st P := zq_iconst (zd_of zb_X6_redraw dX6_redraw_158) (by decide)
theorem E_X6_redraw_159 : AW X d 101 159 [l0, l1, l2, l3, l4] (.int y :: .int x :: S) st P = if ¬ x = y then AW X d 101 176 [l0, l1, l2, l3, l4] S st P else AW X d 101 162 [l0, l1, l2, l3, l4] S st P := zq_icmp (c := ¬ x = y) (zd_of zb_X6_redraw dX6_redraw_159) (by decide) rfl
theorem E_X6_redraw_162 : AW X d 101 162 [.ref a, l1, l2, l3, l4] S st P = AW X d 101 163 [.ref a, l1, l2, l3, l4] (.ref a :: S) st P := zAW_st (zd_of zb_X6_redraw dX6_redraw_162) rfl rfl
theorem E_X6_redraw_162n : AW X d 101 162 [.null, l1, l2, l3, l4] S st P = AW X d 101 163 [.null, l1, l2, l3, l4] (.null :: S) st P := zAW_st (zd_of zb_X6_redraw dX6_redraw_162) rfl rfl
theorem E_X6_redraw_163 : AW X d 101 163 [l0, l1, l2, .int x, l4] S st P = AW X d 101 164 [l0, l1, l2, .int x, l4] (.int x :: S) st P := zAW_st (zd_of zb_X6_redraw dX6_redraw_163) rfl rfl
theorem E_X6_redraw_164 : AW X d 101 164 [.ref a, l1, l2, l3, l4] S st P = AW X d 101 165 [.ref a, l1, l2, l3, l4] (.ref a :: S) st P := zAW_st (zd_of zb_X6_redraw dX6_redraw_164) rfl rfl
theorem E_X6_redraw_164n : AW X d 101 164 [.null, l1, l2, l3, l4] S st P = AW X d 101 165 [.null, l1, l2, l3, l4] (.null :: S) st P := zAW_st (zd_of zb_X6_redraw dX6_redraw_164) rfl rfl
theorem E_X6_redraw_165 : AW X d 101 165 [l0, l1, l2, l3, l4] (.ref a :: S) st P = zwith (zget st a 7 17) fun v => AW X d 101 168 [l0, l1, l2, l3, l4] (v :: S) st P := zq_getfield (zd_of zb_X6_redraw dX6_redraw_165) zo_X6_redraw zf_6_52
theorem E_X6_redraw_168 : AW X d 101 168 [l0, l1, l2, .int x, l4] S st P = AW X d 101 169 [l0, l1, l2, .int x, l4] (.int x :: S) st P := zAW_st (zd_of zb_X6_redraw dX6_redraw_168) rfl rfl
theorem E_X6_redraw_169 : AW X d 101 169 [l0, l1, l2, l3, l4] (.int x :: .ref a :: S) st P = zwith (zai X st a) fun q => zwith (zix x q.1) fun j => AW X d 101 170 [l0, l1, l2, l3, l4] (.int (q.2 j) :: S) st P := zq_iaload (zd_of zb_X6_redraw dX6_redraw_169)
theorem E_X6_redraw_170 : AW X d 101 170 [l0, l1, l2, l3, l4] (.int y :: .int x :: .ref a :: S) st P = zif (zis st a 7 = true) (zif (S.length ≤ 4) (AC X d 95 [.ref a, .int x, .int y] st (zaft X d 101 170 [l0, l1, l2, l3, l4] S P))) := zq_callV (B := [.int x, .int y]) (zd_of zb_X6_redraw dX6_redraw_170) zo_X6_redraw (by decide) zl_6_141 zn_95 rfl rfl rfl
theorem E_X6_redraw_173 : AW X d 101 173 [l0, l1, .int x, l3, l4] S st P = AW X d 101 176 [l0, l1, .int (x + 1), l3, l4] S st P := zq_iinc (zd_of zb_X6_redraw dX6_redraw_173) rfl (by decide)
theorem E_X6_redraw_176 : AW X d 101 176 [l0, l1, l2, .int x, l4] S st P = AW X d 101 179 [l0, l1, l2, .int (x + (-1)), l4] S st P := zq_iinc (zd_of zb_X6_redraw dX6_redraw_176) rfl (by decide)
theorem E_X6_redraw_179 : AW X d 101 179 [l0, l1, l2, l3, l4] S st P = AW X d 101 148 [l0, l1, l2, l3, l4] S st P := zq_goto (zd_of zb_X6_redraw dX6_redraw_179) (by decide)
theorem E_X6_redraw_182 : AW X d 101 182 [.ref a, l1, l2, l3, l4] S st P = AW X d 101 183 [.ref a, l1, l2, l3, l4] (.ref a :: S) st P := zAW_st (zd_of zb_X6_redraw dX6_redraw_182) rfl rfl
theorem E_X6_redraw_182n : AW X d 101 182 [.null, l1, l2, l3, l4] S st P = AW X d 101 183 [.null, l1, l2, l3, l4] (.null :: S) st P := zAW_st (zd_of zb_X6_redraw dX6_redraw_182) rfl rfl
theorem E_X6_redraw_183 : AW X d 101 183 [l0, l1, l2, l3, l4] (.ref a :: S) st P = zwith (zget st a 7 0) fun v => AW X d 101 186 [l0, l1, l2, l3, l4] (v :: S) st P := zq_getfield (zd_of zb_X6_redraw dX6_redraw_183) zo_X6_redraw zf_6_7
theorem E_X6_redraw_186 : AW X d 101 186 [l0, .int x, l2, l3, l4] S st P = AW X d 101 187 [l0, .int x, l2, l3, l4] (.int x :: S) st P := zAW_st (zd_of zb_X6_redraw dX6_redraw_186) rfl rfl
theorem E_X6_redraw_187 : AW X d 101 187 [l0, l1, l2, l3, l4] S st P = AW X d 101 188 [l0, l1, l2, l3, l4] (.int 0 :: S) st P := zq_iconst (zd_of zb_X6_redraw dX6_redraw_187) (by decide)
theorem E_X6_redraw_188 : AW X d 101 188 [l0, l1, l2, l3, l4] (.int y :: .int x :: .ref a :: S) st P = zwith (zaI st a) fun q => zwith (zix x q.1) fun j => AW X d 101 189 [l0, l1, l2, l3, l4] S (zsta st a (q.1, .inl (upd q.2 j y))) P := zq_iastore (zd_of zb_X6_redraw dX6_redraw_188)
theorem E_X6_redraw_189 : AW X d 101 189 [.ref a, l1, l2, l3, l4] S st P = AW X d 101 190 [.ref a, l1, l2, l3, l4] (.ref a :: S) st P := zAW_st (zd_of zb_X6_redraw dX6_redraw_189) rfl rfl
theorem E_X6_redraw_189n : AW X d 101 189 [.null, l1, l2, l3, l4] S st P = AW X d 101 190 [.null, l1, l2, l3, l4] (.null :: S) st P := zAW_st (zd_of zb_X6_redraw dX6_redraw_189) rfl rfl
theorem E_X6_redraw_190 : AW X d 101 190 [l0, l1, l2, l3, l4] (.ref a :: S) st P = zwith (zget st a 7 1) fun v => AW X d 101 193 [l0, l1, l2, l3, l4] (v :: S) st P := zq_getfield (zd_of zb_X6_redraw dX6_redraw_190) zo_X6_redraw zf_6_13
theorem E_X6_redraw_193 : AW X d 101 193 [l0, .int x, l2, l3, l4] S st P = AW X d 101 194 [l0, .int x, l2, l3, l4] (.int x :: S) st P := zAW_st (zd_of zb_X6_redraw dX6_redraw_193) rfl rfl
theorem E_X6_redraw_194 : AW X d 101 194 [l0, l1, l2, l3, l4] S st P = AW X d 101 195 [l0, l1, l2, l3, l4] (.int 0 :: S) st P := zq_iconst (zd_of zb_X6_redraw dX6_redraw_194) (by decide)
theorem E_X6_redraw_195 : AW X d 101 195 [l0, l1, l2, l3, l4] (.int y :: .int x :: .ref a :: S) st P = zwith (zaI st a) fun q => zwith (zix x q.1) fun j => AW X d 101 196 [l0, l1, l2, l3, l4] S (zsta st a (q.1, .inl (upd q.2 j y))) P := zq_iastore (zd_of zb_X6_redraw dX6_redraw_195)
theorem E_X6_redraw_196 : AW X d 101 196 [.ref a, l1, l2, l3, l4] S st P = AW X d 101 197 [.ref a, l1, l2, l3, l4] (.ref a :: S) st P := zAW_st (zd_of zb_X6_redraw dX6_redraw_196) rfl rfl
theorem E_X6_redraw_196n : AW X d 101 196 [.null, l1, l2, l3, l4] S st P = AW X d 101 197 [.null, l1, l2, l3, l4] (.null :: S) st P := zAW_st (zd_of zb_X6_redraw dX6_redraw_196) rfl rfl
theorem E_X6_redraw_197 : AW X d 101 197 [l0, l1, l2, l3, l4] (.ref a :: S) st P = zwith (zget st a 7 2) fun v => AW X d 101 200 [l0, l1, l2, l3, l4] (v :: S) st P := zq_getfield (zd_of zb_X6_redraw dX6_redraw_197) zo_X6_redraw zf_6_16
theorem E_X6_redraw_200 : AW X d 101 200 [l0, .int x, l2, l3, l4] S st P = AW X d 101 201 [l0, .int x, l2, l3, l4] (.int x :: S) st P := zAW_st (zd_of zb_X6_redraw dX6_redraw_200) rfl rfl
theorem E_X6_redraw_201 : AW X d 101 201 [l0, l1, l2, l3, l4] (.ref b :: .ref a :: S) st P = AW X d 101 202 [l0, l1, l2, l3, l4] (.ref b :: .ref a :: .ref b :: .ref a :: S) st P := zq_dup2 (zd_of zb_X6_redraw dX6_redraw_201) rfl rfl
theorem E_X6_redraw_201i : AW X d 101 201 [l0, l1, l2, l3, l4] (.int x :: .ref a :: S) st P = AW X d 101 202 [l0, l1, l2, l3, l4] (.int x :: .ref a :: .int x :: .ref a :: S) st P := zq_dup2 (zd_of zb_X6_redraw dX6_redraw_201) rfl rfl
theorem E_X6_redraw_201j : AW X d 101 201 [l0, l1, l2, l3, l4] (.int x :: .int y :: S) st P = AW X d 101 202 [l0, l1, l2, l3, l4] (.int x :: .int y :: .int x :: .int y :: S) st P := zq_dup2 (zd_of zb_X6_redraw dX6_redraw_201) rfl rfl
theorem E_X6_redraw_202 : AW X d 101 202 [l0, l1, l2, l3, l4] (.int x :: .ref a :: S) st P = zwith (zai X st a) fun q => zwith (zix x q.1) fun j => AW X d 101 203 [l0, l1, l2, l3, l4] (.int (q.2 j) :: S) st P := zq_iaload (zd_of zb_X6_redraw dX6_redraw_202)
theorem E_X6_redraw_203 : AW X d 101 203 [l0, l1, l2, l3, l4] S st P = AW X d 101 204 [l0, l1, l2, l3, l4] (.int 1 :: S) st P := zq_iconst (zd_of zb_X6_redraw dX6_redraw_203) (by decide)
theorem E_X6_redraw_204 : AW X d 101 204 [l0, l1, l2, l3, l4] (.int y :: .int x :: S) st P = AW X d 101 205 [l0, l1, l2, l3, l4] (.int (x + y) :: S) st P := zAW_st (zd_of zb_X6_redraw dX6_redraw_204) rfl rfl
theorem E_X6_redraw_205 : AW X d 101 205 [l0, l1, l2, l3, l4] (.int y :: .int x :: .ref a :: S) st P = zwith (zaI st a) fun q => zwith (zix x q.1) fun j => AW X d 101 206 [l0, l1, l2, l3, l4] S (zsta st a (q.1, .inl (upd q.2 j y))) P := zq_iastore (zd_of zb_X6_redraw dX6_redraw_205)
theorem E_X6_redraw_206 : AW X d 101 206 [.ref a, l1, l2, l3, l4] S st P = AW X d 101 207 [.ref a, l1, l2, l3, l4] (.ref a :: S) st P := zAW_st (zd_of zb_X6_redraw dX6_redraw_206) rfl rfl
theorem E_X6_redraw_206n : AW X d 101 206 [.null, l1, l2, l3, l4] S st P = AW X d 101 207 [.null, l1, l2, l3, l4] (.null :: S) st P := zAW_st (zd_of zb_X6_redraw dX6_redraw_206) rfl rfl
theorem E_X6_redraw_207 : AW X d 101 207 [l0, l1, l2, l3, l4] (.ref a :: S) st P = zif (zis st a 7 = true) (zif (S.length ≤ 4) (AC X d 97 [.ref a] st (zaft X d 101 207 [l0, l1, l2, l3, l4] S P))) := zq_callV (B := []) (zd_of zb_X6_redraw dX6_redraw_207) zo_X6_redraw (by decide) zl_6_97 zn_97 rfl rfl rfl
theorem E_X6_redraw_210 : AW X d 101 210 [l0, l1, .int x, l3, l4] S st P = AW X d 101 211 [l0, l1, .int x, l3, l4] (.int x :: S) st P := zAW_st (zd_of zb_X6_redraw dX6_redraw_210) rfl rfl
theorem E_X6_redraw_211 : AW X d 101 211 [l0, l1, l2, l3, l4] ([.int x]) st P = P (.inl (some (.int x))) st := zAW_ret (w := (.inl (some (.int x)), st)) (zd_of zb_X6_redraw dX6_redraw_211) rfl rfl (by simp only [zfin, zr_X6_redraw])
theorem A_X6_redraw : AC X (d + 1) 101 [.ref a, .int x] st P = AW X d 101 0 [.ref a, .int x, .retAddr 0, .retAddr 0, .retAddr 0] [] st P := AC_eq ⟨⟨(show 2 ≤ zml 101 by decide +kernel), by decide +kernel⟩, by simp [zc1_int, zc1_ref, zc1_float]⟩
theorem E_X6_touches_0 : AW X d 102 0 [.ref a, l1, l2] S st P = AW X d 102 1 [.ref a, l1, l2] (.ref a :: S) st P := zAW_st (zd_of zb_X6_touches dX6_touches_0) rfl rfl
theorem E_X6_touches_0n : AW X d 102 0 [.null, l1, l2] S st P = AW X d 102 1 [.null, l1, l2] (.null :: S) st P := zAW_st (zd_of zb_X6_touches dX6_touches_0) rfl rfl
theorem E_X6_touches_1 : AW X d 102 1 [l0, l1, l2] (.ref a :: S) st P = zwith (zget st a 7 7) fun v => AW X d 102 4 [l0, l1, l2] (v :: S) st P := zq_getfield (zd_of zb_X6_touches dX6_touches_1) zo_X6_touches zf_6_28
theorem E_X6_touches_4 : AW X d 102 4 [l0, .int x, l2] S st P = AW X d 102 5 [l0, .int x, l2] (.int x :: S) st P := zAW_st (zd_of zb_X6_touches dX6_touches_4) rfl rfl
theorem E_X6_touches_5 : AW X d 102 5 [l0, l1, l2] (.int x :: .ref a :: S) st P = zwith (zai X st a) fun q => zwith (zix x q.1) fun j => AW X d 102 6 [l0, l1, l2] (.int (q.2 j) :: S) st P := zq_iaload (zd_of zb_X6_touches dX6_touches_5)
theorem E_X6_touches_6 : AW X d 102 6 [.ref a, l1, l2] S st P = AW X d 102 7 [.ref a, l1, l2] (.ref a :: S) st P := zAW_st (zd_of zb_X6_touches dX6_touches_6) rfl rfl
theorem E_X6_touches_6n : AW X d 102 6 [.null, l1, l2] S st P = AW X d 102 7 [.null, l1, l2] (.null :: S) st P := zAW_st (zd_of zb_X6_touches dX6_touches_6) rfl rfl
theorem E_X6_touches_7 : AW X d 102 7 [l0, l1, l2] (.ref a :: S) st P = zwith (zget st a 7 7) fun v => AW X d 102 10 [l0, l1, l2] (v :: S) st P := zq_getfield (zd_of zb_X6_touches dX6_touches_7) zo_X6_touches zf_6_28
theorem E_X6_touches_10 : AW X d 102 10 [l0, l1, .int x] S st P = AW X d 102 11 [l0, l1, .int x] (.int x :: S) st P := zAW_st (zd_of zb_X6_touches dX6_touches_10) rfl rfl
theorem E_X6_touches_11 : AW X d 102 11 [l0, l1, l2] (.int x :: .ref a :: S) st P = zwith (zai X st a) fun q => zwith (zix x q.1) fun j => AW X d 102 12 [l0, l1, l2] (.int (q.2 j) :: S) st P := zq_iaload (zd_of zb_X6_touches dX6_touches_11)
theorem E_X6_touches_12 : AW X d 102 12 [l0, l1, l2] (.int y :: .int x :: S) st P = if ¬ x = y then AW X d 102 107 [l0, l1, l2] S st P else AW X d 102 15 [l0, l1, l2] S st P := zq_icmp (c := ¬ x = y) (zd_of zb_X6_touches dX6_touches_12) (by decide) rfl
theorem E_X6_touches_15 : AW X d 102 15 [.ref a, l1, l2] S st P = AW X d 102 16 [.ref a, l1, l2] (.ref a :: S) st P := zAW_st (zd_of zb_X6_touches dX6_touches_15) rfl rfl
theorem E_X6_touches_15n : AW X d 102 15 [.null, l1, l2] S st P = AW X d 102 16 [.null, l1, l2] (.null :: S) st P := zAW_st (zd_of zb_X6_touches dX6_touches_15) rfl rfl
theorem E_X6_touches_16 : AW X d 102 16 [l0, l1, l2] (.ref a :: S) st P = zwith (zget st a 7 8) fun v => AW X d 102 19 [l0, l1, l2] (v :: S) st P := zq_getfield (zd_of zb_X6_touches dX6_touches_16) zo_X6_touches zf_6_31
theorem E_X6_touches_19 : AW X d 102 19 [l0, .int x, l2] S st P = AW X d 102 20 [l0, .int x, l2] (.int x :: S) st P := zAW_st (zd_of zb_X6_touches dX6_touches_19) rfl rfl
theorem E_X6_touches_20 : AW X d 102 20 [l0, l1, l2] (.int x :: .ref a :: S) st P = zwith (zai X st a) fun q => zwith (zix x q.1) fun j => AW X d 102 21 [l0, l1, l2] (.int (q.2 j) :: S) st P := zq_iaload (zd_of zb_X6_touches dX6_touches_20)
theorem E_X6_touches_21 : AW X d 102 21 [.ref a, l1, l2] S st P = AW X d 102 22 [.ref a, l1, l2] (.ref a :: S) st P := zAW_st (zd_of zb_X6_touches dX6_touches_21) rfl rfl
theorem E_X6_touches_21n : AW X d 102 21 [.null, l1, l2] S st P = AW X d 102 22 [.null, l1, l2] (.null :: S) st P := zAW_st (zd_of zb_X6_touches dX6_touches_21) rfl rfl
theorem E_X6_touches_22 : AW X d 102 22 [l0, l1, l2] (.ref a :: S) st P = zwith (zget st a 7 8) fun v => AW X d 102 25 [l0, l1, l2] (v :: S) st P := zq_getfield (zd_of zb_X6_touches dX6_touches_22) zo_X6_touches zf_6_31
theorem E_X6_touches_25 : AW X d 102 25 [l0, l1, .int x] S st P = AW X d 102 26 [l0, l1, .int x] (.int x :: S) st P := zAW_st (zd_of zb_X6_touches dX6_touches_25) rfl rfl
theorem E_X6_touches_26 : AW X d 102 26 [l0, l1, l2] (.int x :: .ref a :: S) st P = zwith (zai X st a) fun q => zwith (zix x q.1) fun j => AW X d 102 27 [l0, l1, l2] (.int (q.2 j) :: S) st P := zq_iaload (zd_of zb_X6_touches dX6_touches_26)
theorem E_X6_touches_27 : AW X d 102 27 [.ref a, l1, l2] S st P = AW X d 102 28 [.ref a, l1, l2] (.ref a :: S) st P := zAW_st (zd_of zb_X6_touches dX6_touches_27) rfl rfl
theorem E_X6_touches_27n : AW X d 102 27 [.null, l1, l2] S st P = AW X d 102 28 [.null, l1, l2] (.null :: S) st P := zAW_st (zd_of zb_X6_touches dX6_touches_27) rfl rfl
theorem E_X6_touches_28 : AW X d 102 28 [l0, l1, l2] (.ref a :: S) st P = zwith (zget st a 7 10) fun v => AW X d 102 31 [l0, l1, l2] (v :: S) st P := zq_getfield (zd_of zb_X6_touches dX6_touches_28) zo_X6_touches zf_6_37
theorem E_X6_touches_31 : AW X d 102 31 [l0, l1, .int x] S st P = AW X d 102 32 [l0, l1, .int x] (.int x :: S) st P := zAW_st (zd_of zb_X6_touches dX6_touches_31) rfl rfl
theorem E_X6_touches_32 : AW X d 102 32 [l0, l1, l2] (.int x :: .ref a :: S) st P = zwith (zai X st a) fun q => zwith (zix x q.1) fun j => AW X d 102 33 [l0, l1, l2] (.int (q.2 j) :: S) st P := zq_iaload (zd_of zb_X6_touches dX6_touches_32)
theorem E_X6_touches_33 : AW X d 102 33 [l0, l1, l2] (.int y :: .int x :: S) st P = AW X d 102 34 [l0, l1, l2] (.int (x + y) :: S) st P := zAW_st (zd_of zb_X6_touches dX6_touches_33) rfl rfl
theorem E_X6_touches_34 : AW X d 102 34 [l0, l1, l2] (.int y :: .int x :: S) st P = if y < x then AW X d 102 107 [l0, l1, l2] S st P else AW X d 102 37 [l0, l1, l2] S st P := zq_icmp (c := y < x) (zd_of zb_X6_touches dX6_touches_34) (by decide) rfl
theorem E_X6_touches_37 : AW X d 102 37 [.ref a, l1, l2] S st P = AW X d 102 38 [.ref a, l1, l2] (.ref a :: S) st P := zAW_st (zd_of zb_X6_touches dX6_touches_37) rfl rfl
theorem E_X6_touches_37n : AW X d 102 37 [.null, l1, l2] S st P = AW X d 102 38 [.null, l1, l2] (.null :: S) st P := zAW_st (zd_of zb_X6_touches dX6_touches_37) rfl rfl
theorem E_X6_touches_38 : AW X d 102 38 [l0, l1, l2] (.ref a :: S) st P = zwith (zget st a 7 8) fun v => AW X d 102 41 [l0, l1, l2] (v :: S) st P := zq_getfield (zd_of zb_X6_touches dX6_touches_38) zo_X6_touches zf_6_31
theorem E_X6_touches_41 : AW X d 102 41 [l0, l1, .int x] S st P = AW X d 102 42 [l0, l1, .int x] (.int x :: S) st P := zAW_st (zd_of zb_X6_touches dX6_touches_41) rfl rfl
theorem E_X6_touches_42 : AW X d 102 42 [l0, l1, l2] (.int x :: .ref a :: S) st P = zwith (zai X st a) fun q => zwith (zix x q.1) fun j => AW X d 102 43 [l0, l1, l2] (.int (q.2 j) :: S) st P := zq_iaload (zd_of zb_X6_touches dX6_touches_42)
theorem E_X6_touches_43 : AW X d 102 43 [.ref a, l1, l2] S st P = AW X d 102 44 [.ref a, l1, l2] (.ref a :: S) st P := zAW_st (zd_of zb_X6_touches dX6_touches_43) rfl rfl
theorem E_X6_touches_43n : AW X d 102 43 [.null, l1, l2] S st P = AW X d 102 44 [.null, l1, l2] (.null :: S) st P := zAW_st (zd_of zb_X6_touches dX6_touches_43) rfl rfl
theorem E_X6_touches_44 : AW X d 102 44 [l0, l1, l2] (.ref a :: S) st P = zwith (zget st a 7 8) fun v => AW X d 102 47 [l0, l1, l2] (v :: S) st P := zq_getfield (zd_of zb_X6_touches dX6_touches_44) zo_X6_touches zf_6_31
theorem E_X6_touches_47 : AW X d 102 47 [l0, .int x, l2] S st P = AW X d 102 48 [l0, .int x, l2] (.int x :: S) st P := zAW_st (zd_of zb_X6_touches dX6_touches_47) rfl rfl
theorem E_X6_touches_48 : AW X d 102 48 [l0, l1, l2] (.int x :: .ref a :: S) st P = zwith (zai X st a) fun q => zwith (zix x q.1) fun j => AW X d 102 49 [l0, l1, l2] (.int (q.2 j) :: S) st P := zq_iaload (zd_of zb_X6_touches dX6_touches_48)
theorem E_X6_touches_49 : AW X d 102 49 [.ref a, l1, l2] S st P = AW X d 102 50 [.ref a, l1, l2] (.ref a :: S) st P := zAW_st (zd_of zb_X6_touches dX6_touches_49) rfl rfl
theorem E_X6_touches_49n : AW X d 102 49 [.null, l1, l2] S st P = AW X d 102 50 [.null, l1, l2] (.null :: S) st P := zAW_st (zd_of zb_X6_touches dX6_touches_49) rfl rfl
theorem E_X6_touches_50 : AW X d 102 50 [l0, l1, l2] (.ref a :: S) st P = zwith (zget st a 7 10) fun v => AW X d 102 53 [l0, l1, l2] (v :: S) st P := zq_getfield (zd_of zb_X6_touches dX6_touches_50) zo_X6_touches zf_6_37
theorem E_X6_touches_53 : AW X d 102 53 [l0, .int x, l2] S st P = AW X d 102 54 [l0, .int x, l2] (.int x :: S) st P := zAW_st (zd_of zb_X6_touches dX6_touches_53) rfl rfl
theorem E_X6_touches_54 : AW X d 102 54 [l0, l1, l2] (.int x :: .ref a :: S) st P = zwith (zai X st a) fun q => zwith (zix x q.1) fun j => AW X d 102 55 [l0, l1, l2] (.int (q.2 j) :: S) st P := zq_iaload (zd_of zb_X6_touches dX6_touches_54)
theorem E_X6_touches_55 : AW X d 102 55 [l0, l1, l2] (.int y :: .int x :: S) st P = AW X d 102 56 [l0, l1, l2] (.int (x + y) :: S) st P := zAW_st (zd_of zb_X6_touches dX6_touches_55) rfl rfl
theorem E_X6_touches_56 : AW X d 102 56 [l0, l1, l2] (.int y :: .int x :: S) st P = if y < x then AW X d 102 107 [l0, l1, l2] S st P else AW X d 102 59 [l0, l1, l2] S st P := zq_icmp (c := y < x) (zd_of zb_X6_touches dX6_touches_56) (by decide) rfl
theorem E_X6_touches_59 : AW X d 102 59 [.ref a, l1, l2] S st P = AW X d 102 60 [.ref a, l1, l2] (.ref a :: S) st P := zAW_st (zd_of zb_X6_touches dX6_touches_59) rfl rfl
theorem E_X6_touches_59n : AW X d 102 59 [.null, l1, l2] S st P = AW X d 102 60 [.null, l1, l2] (.null :: S) st P := zAW_st (zd_of zb_X6_touches dX6_touches_59) rfl rfl
theorem E_X6_touches_60 : AW X d 102 60 [l0, l1, l2] (.ref a :: S) st P = zwith (zget st a 7 9) fun v => AW X d 102 63 [l0, l1, l2] (v :: S) st P := zq_getfield (zd_of zb_X6_touches dX6_touches_60) zo_X6_touches zf_6_34
theorem E_X6_touches_63 : AW X d 102 63 [l0, .int x, l2] S st P = AW X d 102 64 [l0, .int x, l2] (.int x :: S) st P := zAW_st (zd_of zb_X6_touches dX6_touches_63) rfl rfl
theorem E_X6_touches_64 : AW X d 102 64 [l0, l1, l2] (.int x :: .ref a :: S) st P = zwith (zai X st a) fun q => zwith (zix x q.1) fun j => AW X d 102 65 [l0, l1, l2] (.int (q.2 j) :: S) st P := zq_iaload (zd_of zb_X6_touches dX6_touches_64)
theorem E_X6_touches_65 : AW X d 102 65 [.ref a, l1, l2] S st P = AW X d 102 66 [.ref a, l1, l2] (.ref a :: S) st P := zAW_st (zd_of zb_X6_touches dX6_touches_65) rfl rfl
theorem E_X6_touches_65n : AW X d 102 65 [.null, l1, l2] S st P = AW X d 102 66 [.null, l1, l2] (.null :: S) st P := zAW_st (zd_of zb_X6_touches dX6_touches_65) rfl rfl
theorem E_X6_touches_66 : AW X d 102 66 [l0, l1, l2] (.ref a :: S) st P = zwith (zget st a 7 9) fun v => AW X d 102 69 [l0, l1, l2] (v :: S) st P := zq_getfield (zd_of zb_X6_touches dX6_touches_66) zo_X6_touches zf_6_34
theorem E_X6_touches_69 : AW X d 102 69 [l0, l1, .int x] S st P = AW X d 102 70 [l0, l1, .int x] (.int x :: S) st P := zAW_st (zd_of zb_X6_touches dX6_touches_69) rfl rfl
theorem E_X6_touches_70 : AW X d 102 70 [l0, l1, l2] (.int x :: .ref a :: S) st P = zwith (zai X st a) fun q => zwith (zix x q.1) fun j => AW X d 102 71 [l0, l1, l2] (.int (q.2 j) :: S) st P := zq_iaload (zd_of zb_X6_touches dX6_touches_70)
theorem E_X6_touches_71 : AW X d 102 71 [.ref a, l1, l2] S st P = AW X d 102 72 [.ref a, l1, l2] (.ref a :: S) st P := zAW_st (zd_of zb_X6_touches dX6_touches_71) rfl rfl
theorem E_X6_touches_71n : AW X d 102 71 [.null, l1, l2] S st P = AW X d 102 72 [.null, l1, l2] (.null :: S) st P := zAW_st (zd_of zb_X6_touches dX6_touches_71) rfl rfl
theorem E_X6_touches_72 : AW X d 102 72 [l0, l1, l2] (.ref a :: S) st P = zwith (zget st a 7 11) fun v => AW X d 102 75 [l0, l1, l2] (v :: S) st P := zq_getfield (zd_of zb_X6_touches dX6_touches_72) zo_X6_touches zf_6_40
theorem E_X6_touches_75 : AW X d 102 75 [l0, l1, .int x] S st P = AW X d 102 76 [l0, l1, .int x] (.int x :: S) st P := zAW_st (zd_of zb_X6_touches dX6_touches_75) rfl rfl
theorem E_X6_touches_76 : AW X d 102 76 [l0, l1, l2] (.int x :: .ref a :: S) st P = zwith (zai X st a) fun q => zwith (zix x q.1) fun j => AW X d 102 77 [l0, l1, l2] (.int (q.2 j) :: S) st P := zq_iaload (zd_of zb_X6_touches dX6_touches_76)
theorem E_X6_touches_77 : AW X d 102 77 [l0, l1, l2] (.int y :: .int x :: S) st P = AW X d 102 78 [l0, l1, l2] (.int (x + y) :: S) st P := zAW_st (zd_of zb_X6_touches dX6_touches_77) rfl rfl
theorem E_X6_touches_78 : AW X d 102 78 [l0, l1, l2] (.int y :: .int x :: S) st P = if y < x then AW X d 102 107 [l0, l1, l2] S st P else AW X d 102 81 [l0, l1, l2] S st P := zq_icmp (c := y < x) (zd_of zb_X6_touches dX6_touches_78) (by decide) rfl
theorem E_X6_touches_81 : AW X d 102 81 [.ref a, l1, l2] S st P = AW X d 102 82 [.ref a, l1, l2] (.ref a :: S) st P := zAW_st (zd_of zb_X6_touches dX6_touches_81) rfl rfl
theorem E_X6_touches_81n : AW X d 102 81 [.null, l1, l2] S st P = AW X d 102 82 [.null, l1, l2] (.null :: S) st P := zAW_st (zd_of zb_X6_touches dX6_touches_81) rfl rfl
theorem E_X6_touches_82 : AW X d 102 82 [l0, l1, l2] (.ref a :: S) st P = zwith (zget st a 7 9) fun v => AW X d 102 85 [l0, l1, l2] (v :: S) st P := zq_getfield (zd_of zb_X6_touches dX6_touches_82) zo_X6_touches zf_6_34
theorem E_X6_touches_85 : AW X d 102 85 [l0, l1, .int x] S st P = AW X d 102 86 [l0, l1, .int x] (.int x :: S) st P := zAW_st (zd_of zb_X6_touches dX6_touches_85) rfl rfl
theorem E_X6_touches_86 : AW X d 102 86 [l0, l1, l2] (.int x :: .ref a :: S) st P = zwith (zai X st a) fun q => zwith (zix x q.1) fun j => AW X d 102 87 [l0, l1, l2] (.int (q.2 j) :: S) st P := zq_iaload (zd_of zb_X6_touches dX6_touches_86)
theorem E_X6_touches_87 : AW X d 102 87 [.ref a, l1, l2] S st P = AW X d 102 88 [.ref a, l1, l2] (.ref a :: S) st P := zAW_st (zd_of zb_X6_touches dX6_touches_87) rfl rfl
theorem E_X6_touches_87n : AW X d 102 87 [.null, l1, l2] S st P = AW X d 102 88 [.null, l1, l2] (.null :: S) st P := zAW_st (zd_of zb_X6_touches dX6_touches_87) rfl rfl
theorem E_X6_touches_88 : AW X d 102 88 [l0, l1, l2] (.ref a :: S) st P = zwith (zget st a 7 9) fun v => AW X d 102 91 [l0, l1, l2] (v :: S) st P := zq_getfield (zd_of zb_X6_touches dX6_touches_88) zo_X6_touches zf_6_34
theorem E_X6_touches_91 : AW X d 102 91 [l0, .int x, l2] S st P = AW X d 102 92 [l0, .int x, l2] (.int x :: S) st P := zAW_st (zd_of zb_X6_touches dX6_touches_91) rfl rfl
theorem E_X6_touches_92 : AW X d 102 92 [l0, l1, l2] (.int x :: .ref a :: S) st P = zwith (zai X st a) fun q => zwith (zix x q.1) fun j => AW X d 102 93 [l0, l1, l2] (.int (q.2 j) :: S) st P := zq_iaload (zd_of zb_X6_touches dX6_touches_92)
theorem E_X6_touches_93 : AW X d 102 93 [.ref a, l1, l2] S st P = AW X d 102 94 [.ref a, l1, l2] (.ref a :: S) st P := zAW_st (zd_of zb_X6_touches dX6_touches_93) rfl rfl
theorem E_X6_touches_93n : AW X d 102 93 [.null, l1, l2] S st P = AW X d 102 94 [.null, l1, l2] (.null :: S) st P := zAW_st (zd_of zb_X6_touches dX6_touches_93) rfl rfl
theorem E_X6_touches_94 : AW X d 102 94 [l0, l1, l2] (.ref a :: S) st P = zwith (zget st a 7 11) fun v => AW X d 102 97 [l0, l1, l2] (v :: S) st P := zq_getfield (zd_of zb_X6_touches dX6_touches_94) zo_X6_touches zf_6_40
theorem E_X6_touches_97 : AW X d 102 97 [l0, .int x, l2] S st P = AW X d 102 98 [l0, .int x, l2] (.int x :: S) st P := zAW_st (zd_of zb_X6_touches dX6_touches_97) rfl rfl
theorem E_X6_touches_98 : AW X d 102 98 [l0, l1, l2] (.int x :: .ref a :: S) st P = zwith (zai X st a) fun q => zwith (zix x q.1) fun j => AW X d 102 99 [l0, l1, l2] (.int (q.2 j) :: S) st P := zq_iaload (zd_of zb_X6_touches dX6_touches_98)
theorem E_X6_touches_99 : AW X d 102 99 [l0, l1, l2] (.int y :: .int x :: S) st P = AW X d 102 100 [l0, l1, l2] (.int (x + y) :: S) st P := zAW_st (zd_of zb_X6_touches dX6_touches_99) rfl rfl
theorem E_X6_touches_100 : AW X d 102 100 [l0, l1, l2] (.int y :: .int x :: S) st P = if y < x then AW X d 102 107 [l0, l1, l2] S st P else AW X d 102 103 [l0, l1, l2] S st P := zq_icmp (c := y < x) (zd_of zb_X6_touches dX6_touches_100) (by decide) rfl
theorem E_X6_touches_103 : AW X d 102 103 [l0, l1, l2] S st P = AW X d 102 104 [l0, l1, l2] (.int 1 :: S) st P := zq_iconst (zd_of zb_X6_touches dX6_touches_103) (by decide)
theorem E_X6_touches_104 : AW X d 102 104 [l0, l1, l2] S st P = AW X d 102 108 [l0, l1, l2] S st P := zq_goto (zd_of zb_X6_touches dX6_touches_104) (by decide)
theorem E_X6_touches_107 : AW X d 102 107 [l0, l1, l2] S st P = AW X d 102 108 [l0, l1, l2] (.int 0 :: S) st P := zq_iconst (zd_of zb_X6_touches dX6_touches_107) (by decide)
theorem E_X6_touches_108 : AW X d 102 108 [l0, l1, l2] ([.int x]) st P = zif (x &&& 1 = x) (P (.inl (some (.int x))) st) := by
  by_cases h : x &&& 1 = x
  · rw [zif_of h]; exact zAW_ret (w := (.inl (some (.int x)), st)) (zd_of zb_X6_touches dX6_touches_108) rfl rfl (by simp only [zfin, zr_X6_touches]; rw [if_pos h])
  · rw [zAW_stuck (zd_of zb_X6_touches dX6_touches_108) rfl (by simp only [zfin, zr_X6_touches]; rw [if_neg h]) rfl]; exact propext ⟨fun z => z.elim, fun z => h z.1⟩
theorem A_X6_touches : AC X (d + 1) 102 [.ref a, .int x, .int y] st P = AW X d 102 0 [.ref a, .int x, .int y] [] st P := AC_eq ⟨⟨(show 3 ≤ zml 102 by decide +kernel), by decide +kernel⟩, by simp [zc1_int, zc1_ref, zc1_float]⟩
theorem E_X6_cut_0 : AW X d 103 0 [.ref a, l1, l2, l3, l4, l5, l6] S st P = AW X d 103 1 [.ref a, l1, l2, l3, l4, l5, l6] (.ref a :: S) st P := zAW_st (zd_of zb_X6_cut dX6_cut_0) rfl rfl
theorem E_X6_cut_0n : AW X d 103 0 [.null, l1, l2, l3, l4, l5, l6] S st P = AW X d 103 1 [.null, l1, l2, l3, l4, l5, l6] (.null :: S) st P := zAW_st (zd_of zb_X6_cut dX6_cut_0) rfl rfl
theorem E_X6_cut_1 : AW X d 103 1 [.ref a, l1, l2, l3, l4, l5, l6] S st P = AW X d 103 2 [.ref a, l1, l2, l3, l4, l5, l6] (.ref a :: S) st P := zAW_st (zd_of zb_X6_cut dX6_cut_1) rfl rfl
theorem E_X6_cut_1n : AW X d 103 1 [.null, l1, l2, l3, l4, l5, l6] S st P = AW X d 103 2 [.null, l1, l2, l3, l4, l5, l6] (.null :: S) st P := zAW_st (zd_of zb_X6_cut dX6_cut_1) rfl rfl
theorem E_X6_cut_2 : AW X d 103 2 [l0, .int x, l2, l3, l4, l5, l6] S st P = AW X d 103 3 [l0, .int x, l2, l3, l4, l5, l6] (.int x :: S) st P := zAW_st (zd_of zb_X6_cut dX6_cut_2) rfl rfl
theorem E_X6_cut_3 : AW X d 103 3 [l0, l1, l2, l3, l4, l5, l6] (.int x :: .ref a :: S) st P = zif (zis st a 7 = true) (zif (S.length ≤ 4) (AC X d 94 [.ref a, .int x] st (zaft X d 103 3 [l0, l1, l2, l3, l4, l5, l6] S P))) := zq_callV (B := [.int x]) (zd_of zb_X6_cut dX6_cut_3) zo_X6_cut (by decide) zl_6_148 zn_94 rfl rfl rfl
theorem E_X6_cut_6 : AW X d 103 6 [l0, l1, l2, l3, l4, l5, l6] (.int x :: S) st P = if ¬ x = 0 then AW X d 103 13 [l0, l1, l2, l3, l4, l5, l6] S st P else AW X d 103 9 [l0, l1, l2, l3, l4, l5, l6] S st P := zq_if (c := ¬ x = 0) (zd_of zb_X6_cut dX6_cut_6) (by decide) rfl
theorem E_X6_cut_9 : AW X d 103 9 [l0, l1, l2, l3, l4, l5, l6] S st P = AW X d 103 10 [l0, l1, l2, l3, l4, l5, l6] (.int 1 :: S) st P := zq_iconst (zd_of zb_X6_cut dX6_cut_9) (by decide)
theorem E_X6_cut_10 : AW X d 103 10 [l0, l1, l2, l3, l4, l5, l6] S st P = AW X d 103 28 [l0, l1, l2, l3, l4, l5, l6] S st P := zq_goto (zd_of zb_X6_cut dX6_cut_10) (by decide)
theorem E_X6_cut_13 : AW X d 103 13 [.ref a, l1, l2, l3, l4, l5, l6] S st P = AW X d 103 14 [.ref a, l1, l2, l3, l4, l5, l6] (.ref a :: S) st P := zAW_st (zd_of zb_X6_cut dX6_cut_13) rfl rfl
theorem E_X6_cut_13n : AW X d 103 13 [.null, l1, l2, l3, l4, l5, l6] S st P = AW X d 103 14 [.null, l1, l2, l3, l4, l5, l6] (.null :: S) st P := zAW_st (zd_of zb_X6_cut dX6_cut_13) rfl rfl
theorem E_X6_cut_14 : AW X d 103 14 [l0, l1, l2, l3, l4, l5, l6] (.ref a :: S) st P = zwith (zget st a 7 18) fun v => AW X d 103 17 [l0, l1, l2, l3, l4, l5, l6] (v :: S) st P := zq_getfield (zd_of zb_X6_cut dX6_cut_14) zo_X6_cut zf_6_55
theorem E_X6_cut_17 : AW X d 103 17 [l0, .int x, l2, l3, l4, l5, l6] S st P = AW X d 103 18 [l0, .int x, l2, l3, l4, l5, l6] (.int x :: S) st P := zAW_st (zd_of zb_X6_cut dX6_cut_17) rfl rfl
theorem E_X6_cut_18 : AW X d 103 18 [l0, l1, l2, l3, l4, l5, l6] (.int x :: .ref a :: S) st P = zwith (zai X st a) fun q => zwith (zix x q.1) fun j => AW X d 103 19 [l0, l1, l2, l3, l4, l5, l6] (.int (q.2 j) :: S) st P := zq_iaload (zd_of zb_X6_cut dX6_cut_18)
theorem E_X6_cut_19 : AW X d 103 19 [l0, l1, l2, l3, l4, l5, l6] S st P = AW X d 103 20 [l0, l1, l2, l3, l4, l5, l6] (.int 1 :: S) st P := zq_iconst (zd_of zb_X6_cut dX6_cut_19) (by decide)
theorem E_X6_cut_20 : AW X d 103 20 [l0, l1, l2, l3, l4, l5, l6] (.int y :: .int x :: S) st P = if x = y then AW X d 103 27 [l0, l1, l2, l3, l4, l5, l6] S st P else AW X d 103 23 [l0, l1, l2, l3, l4, l5, l6] S st P := zq_icmp (c := x = y) (zd_of zb_X6_cut dX6_cut_20) (by decide) rfl
theorem E_X6_cut_23 : AW X d 103 23 [l0, l1, l2, l3, l4, l5, l6] S st P = AW X d 103 24 [l0, l1, l2, l3, l4, l5, l6] (.int 2 :: S) st P := zq_iconst (zd_of zb_X6_cut dX6_cut_23) (by decide)
theorem E_X6_cut_24 : AW X d 103 24 [l0, l1, l2, l3, l4, l5, l6] S st P = AW X d 103 28 [l0, l1, l2, l3, l4, l5, l6] S st P := zq_goto (zd_of zb_X6_cut dX6_cut_24) (by decide)
theorem E_X6_cut_27 : AW X d 103 27 [l0, l1, l2, l3, l4, l5, l6] S st P = AW X d 103 28 [l0, l1, l2, l3, l4, l5, l6] (.int 0 :: S) st P := zq_iconst (zd_of zb_X6_cut dX6_cut_27) (by decide)
theorem E_X6_cut_28 : AW X d 103 28 [l0, l1, l2, l3, l4, l5, l6] (.int x :: .ref a :: S) st P = zif (zis st a 7 = true) (zif (S.length ≤ 4) (AC X d 74 [.ref a, .int x] st (zaft X d 103 28 [l0, l1, l2, l3, l4, l5, l6] S P))) := zq_callV (B := [.int x]) (zd_of zb_X6_cut dX6_cut_28) zo_X6_cut (by decide) zl_6_78 zn_74 rfl rfl rfl
theorem E_X6_cut_31 : AW X d 103 31 [l0, l1, l2, l3, l4, l5, l6] (.int x :: S) st P = if x = 0 then AW X d 103 36 [l0, l1, l2, l3, l4, l5, l6] S st P else AW X d 103 34 [l0, l1, l2, l3, l4, l5, l6] S st P := zq_if (c := x = 0) (zd_of zb_X6_cut dX6_cut_31) (by decide) rfl
theorem E_X6_cut_34 : AW X d 103 34 [l0, l1, l2, l3, l4, l5, l6] S st P = AW X d 103 35 [l0, l1, l2, l3, l4, l5, l6] (.int (-1) :: S) st P := zq_iconst (zd_of zb_X6_cut dX6_cut_34) (by decide)
theorem E_X6_cut_35 : AW X d 103 35 [l0, l1, l2, l3, l4, l5, l6] ([.int x]) st P = P (.inl (some (.int x))) st := zAW_ret (w := (.inl (some (.int x)), st)) (zd_of zb_X6_cut dX6_cut_35) rfl rfl (by simp only [zfin, zr_X6_cut])
theorem E_X6_cut_36 : AW X d 103 36 [.ref a, l1, l2, l3, l4, l5, l6] S st P = AW X d 103 37 [.ref a, l1, l2, l3, l4, l5, l6] (.ref a :: S) st P := zAW_st (zd_of zb_X6_cut dX6_cut_36) rfl rfl
theorem E_X6_cut_36n : AW X d 103 36 [.null, l1, l2, l3, l4, l5, l6] S st P = AW X d 103 37 [.null, l1, l2, l3, l4, l5, l6] (.null :: S) st P := zAW_st (zd_of zb_X6_cut dX6_cut_36) rfl rfl
theorem E_X6_cut_37 : AW X d 103 37 [.ref a, l1, l2, l3, l4, l5, l6] S st P = AW X d 103 38 [.ref a, l1, l2, l3, l4, l5, l6] (.ref a :: S) st P := zAW_st (zd_of zb_X6_cut dX6_cut_37) rfl rfl
theorem E_X6_cut_37n : AW X d 103 37 [.null, l1, l2, l3, l4, l5, l6] S st P = AW X d 103 38 [.null, l1, l2, l3, l4, l5, l6] (.null :: S) st P := zAW_st (zd_of zb_X6_cut dX6_cut_37) rfl rfl
theorem E_X6_cut_38 : AW X d 103 38 [l0, l1, l2, l3, l4, l5, l6] (.ref a :: S) st P = zwith (zget st a 7 16) fun v => AW X d 103 41 [l0, l1, l2, l3, l4, l5, l6] (v :: S) st P := zq_getfield (zd_of zb_X6_cut dX6_cut_38) zo_X6_cut zf_6_49
theorem E_X6_cut_41 : AW X d 103 41 [l0, .int x, l2, l3, l4, l5, l6] S st P = AW X d 103 42 [l0, .int x, l2, l3, l4, l5, l6] (.int x :: S) st P := zAW_st (zd_of zb_X6_cut dX6_cut_41) rfl rfl
theorem E_X6_cut_42 : AW X d 103 42 [l0, l1, l2, l3, l4, l5, l6] (.int x :: .ref a :: S) st P = zwith (zai X st a) fun q => zwith (zix x q.1) fun j => AW X d 103 43 [l0, l1, l2, l3, l4, l5, l6] (.int (q.2 j) :: S) st P := zq_iaload (zd_of zb_X6_cut dX6_cut_42)
theorem E_X6_cut_43 : AW X d 103 43 [l0, l1, l2, l3, l4, l5, l6] (.int x :: .ref a :: S) st P = zif (zis st a 7 = true) (zif (S.length ≤ 4) (AC X d 86 [.ref a, .int x] st (zaft X d 103 43 [l0, l1, l2, l3, l4, l5, l6] S P))) := zq_callV (B := [.int x]) (zd_of zb_X6_cut dX6_cut_43) zo_X6_cut (by decide) zl_6_111 zn_86 rfl rfl rfl
theorem E_X6_cut_46 : AW X d 103 46 [l0, l1, l2, l3, l4, l5, l6] (.float u :: S) st P = AW X d 103 47 [l0, l1, .float u, l3, l4, l5, l6] S st P := zAW_st (zd_of zb_X6_cut dX6_cut_46) rfl rfl
theorem E_X6_cut_47 : AW X d 103 47 [l0, l1, l2, l3, l4, l5, l6] S st P = AW X d 103 48 [l0, l1, l2, l3, l4, l5, l6] (.int 0 :: S) st P := zq_iconst (zd_of zb_X6_cut dX6_cut_47) (by decide)
theorem E_X6_cut_48 : AW X d 103 48 [l0, l1, l2, l3, l4, l5, l6] (.int x :: S) st P = AW X d 103 49 [l0, l1, l2, .int x, l4, l5, l6] S st P := zAW_st (zd_of zb_X6_cut dX6_cut_48) rfl rfl
theorem E_X6_cut_49 : AW X d 103 49 [l0, l1, l2, l3, l4, l5, l6] S st P = AW X d 103 50 [l0, l1, l2, l3, l4, l5, l6] (.int 0 :: S) st P := zq_iconst (zd_of zb_X6_cut dX6_cut_49) (by decide)
theorem E_X6_cut_50 : AW X d 103 50 [l0, l1, l2, l3, l4, l5, l6] (.int x :: S) st P = AW X d 103 52 [l0, l1, l2, l3, .int x, l5, l6] S st P := zAW_st (zd_of zb_X6_cut dX6_cut_50) rfl rfl
theorem E_X6_cut_52 : AW X d 103 52 [l0, l1, l2, l3, .int x, l5, l6] S st P = AW X d 103 54 [l0, l1, l2, l3, .int x, l5, l6] (.int x :: S) st P := zAW_st (zd_of zb_X6_cut dX6_cut_52) rfl rfl
theorem E_X6_cut_54 : AW X d 103 54 [.ref a, l1, l2, l3, l4, l5, l6] S st P = AW X d 103 55 [.ref a, l1, l2, l3, l4, l5, l6] (.ref a :: S) st P := zAW_st (zd_of zb_X6_cut dX6_cut_54) rfl rfl
theorem E_X6_cut_54n : AW X d 103 54 [.null, l1, l2, l3, l4, l5, l6] S st P = AW X d 103 55 [.null, l1, l2, l3, l4, l5, l6] (.null :: S) st P := zAW_st (zd_of zb_X6_cut dX6_cut_54) rfl rfl
theorem E_X6_cut_55 : AW X d 103 55 [l0, l1, l2, l3, l4, l5, l6] (.ref a :: S) st P = zwith (zget st a 7 17) fun v => AW X d 103 58 [l0, l1, l2, l3, l4, l5, l6] (v :: S) st P := zq_getfield (zd_of zb_X6_cut dX6_cut_55) zo_X6_cut zf_6_52
theorem E_X6_cut_58 : AW X d 103 58 [l0, .int x, l2, l3, l4, l5, l6] S st P = AW X d 103 59 [l0, .int x, l2, l3, l4, l5, l6] (.int x :: S) st P := zAW_st (zd_of zb_X6_cut dX6_cut_58) rfl rfl
theorem E_X6_cut_59 : AW X d 103 59 [l0, l1, l2, l3, l4, l5, l6] (.int x :: .ref a :: S) st P = zwith (zai X st a) fun q => zwith (zix x q.1) fun j => AW X d 103 60 [l0, l1, l2, l3, l4, l5, l6] (.int (q.2 j) :: S) st P := zq_iaload (zd_of zb_X6_cut dX6_cut_59)
theorem E_X6_cut_60 : AW X d 103 60 [l0, l1, l2, l3, l4, l5, l6] (.int y :: .int x :: S) st P = if y ≤ x then AW X d 103 152 [l0, l1, l2, l3, l4, l5, l6] S st P else AW X d 103 63 [l0, l1, l2, l3, l4, l5, l6] S st P := zq_icmp (c := y ≤ x) (zd_of zb_X6_cut dX6_cut_60) (by decide) rfl
theorem E_X6_cut_63 : AW X d 103 63 [l0, l1, l2, l3, l4, l5, l6] S st P = AW X d 103 64 [l0, l1, l2, l3, l4, l5, l6] (.int 0 :: S) st P := zq_iconst (zd_of zb_X6_cut dX6_cut_63) (by decide)
theorem E_X6_cut_64 : AW X d 103 64 [l0, l1, l2, l3, l4, l5, l6] (.int x :: S) st P = AW X d 103 66 [l0, l1, l2, l3, l4, .int x, l6] S st P := zAW_st (zd_of zb_X6_cut dX6_cut_64) rfl rfl
theorem E_X6_cut_66 : AW X d 103 66 [l0, l1, l2, l3, l4, l5, l6] S st P = AW X d 103 67 [l0, l1, l2, l3, l4, l5, l6] (.int 0 :: S) st P := zq_iconst (zd_of zb_X6_cut dX6_cut_66) (by decide)
theorem E_X6_cut_67 : AW X d 103 67 [l0, l1, l2, l3, l4, l5, l6] (.int x :: S) st P = AW X d 103 69 [l0, l1, l2, l3, l4, l5, .int x] S st P := zAW_st (zd_of zb_X6_cut dX6_cut_67) rfl rfl
theorem E_X6_cut_69 : AW X d 103 69 [l0, l1, l2, l3, l4, l5, .int x] S st P = AW X d 103 71 [l0, l1, l2, l3, l4, l5, .int x] (.int x :: S) st P := zAW_st (zd_of zb_X6_cut dX6_cut_69) rfl rfl
theorem E_X6_cut_71 : AW X d 103 71 [l0, l1, l2, l3, .int x, l5, l6] S st P = AW X d 103 73 [l0, l1, l2, l3, .int x, l5, l6] (.int x :: S) st P := zAW_st (zd_of zb_X6_cut dX6_cut_71) rfl rfl
theorem E_X6_cut_73 : AW X d 103 73 [l0, l1, l2, l3, l4, l5, l6] (.int y :: .int x :: S) st P = if y ≤ x then AW X d 103 115 [l0, l1, l2, l3, l4, l5, l6] S st P else AW X d 103 76 [l0, l1, l2, l3, l4, l5, l6] S st P := zq_icmp (c := y ≤ x) (zd_of zb_X6_cut dX6_cut_73) (by decide) rfl
theorem E_X6_cut_76 : AW X d 103 76 [l0, l1, l2, l3, l4, .int x, l6] S st P = AW X d 103 78 [l0, l1, l2, l3, l4, .int x, l6] (.int x :: S) st P := zAW_st (zd_of zb_X6_cut dX6_cut_76) rfl rfl
theorem E_X6_cut_78 : AW X d 103 78 [.ref a, l1, l2, l3, l4, l5, l6] S st P = AW X d 103 79 [.ref a, l1, l2, l3, l4, l5, l6] (.ref a :: S) st P := zAW_st (zd_of zb_X6_cut dX6_cut_78) rfl rfl
theorem E_X6_cut_78n : AW X d 103 78 [.null, l1, l2, l3, l4, l5, l6] S st P = AW X d 103 79 [.null, l1, l2, l3, l4, l5, l6] (.null :: S) st P := zAW_st (zd_of zb_X6_cut dX6_cut_78) rfl rfl
theorem E_X6_cut_79 : AW X d 103 79 [.ref a, l1, l2, l3, l4, l5, l6] S st P = AW X d 103 80 [.ref a, l1, l2, l3, l4, l5, l6] (.ref a :: S) st P := zAW_st (zd_of zb_X6_cut dX6_cut_79) rfl rfl
theorem E_X6_cut_79n : AW X d 103 79 [.null, l1, l2, l3, l4, l5, l6] S st P = AW X d 103 80 [.null, l1, l2, l3, l4, l5, l6] (.null :: S) st P := zAW_st (zd_of zb_X6_cut dX6_cut_79) rfl rfl
theorem E_X6_cut_80 : AW X d 103 80 [l0, l1, l2, l3, l4, l5, l6] (.ref a :: S) st P = zwith (zget st a 7 20) fun v => AW X d 103 83 [l0, l1, l2, l3, l4, l5, l6] (v :: S) st P := zq_getfield (zd_of zb_X6_cut dX6_cut_80) zo_X6_cut zf_6_61
theorem E_X6_cut_83 : AW X d 103 83 [l0, l1, l2, l3, l4, l5, l6] S st P = AW X d 103 85 [l0, l1, l2, l3, l4, l5, l6] (.int 6 :: S) st P := zq_bipush (zd_of zb_X6_cut dX6_cut_83) (by decide)
theorem E_X6_cut_85 : AW X d 103 85 [l0, .int x, l2, l3, l4, l5, l6] S st P = AW X d 103 86 [l0, .int x, l2, l3, l4, l5, l6] (.int x :: S) st P := zAW_st (zd_of zb_X6_cut dX6_cut_85) rfl rfl
theorem E_X6_cut_86 : AW X d 103 86 [l0, l1, l2, l3, l4, l5, l6] (.int y :: .int x :: S) st P = AW X d 103 87 [l0, l1, l2, l3, l4, l5, l6] (.int (x * y) :: S) st P := zAW_st (zd_of zb_X6_cut dX6_cut_86) rfl rfl
theorem E_X6_cut_87 : AW X d 103 87 [l0, l1, l2, l3, .int x, l5, l6] S st P = AW X d 103 89 [l0, l1, l2, l3, .int x, l5, l6] (.int x :: S) st P := zAW_st (zd_of zb_X6_cut dX6_cut_87) rfl rfl
theorem E_X6_cut_89 : AW X d 103 89 [l0, l1, l2, l3, l4, l5, l6] (.int y :: .int x :: S) st P = AW X d 103 90 [l0, l1, l2, l3, l4, l5, l6] (.int (x + y) :: S) st P := zAW_st (zd_of zb_X6_cut dX6_cut_89) rfl rfl
theorem E_X6_cut_90 : AW X d 103 90 [l0, l1, l2, l3, l4, l5, l6] (.int x :: .ref a :: S) st P = zwith (zai X st a) fun q => zwith (zix x q.1) fun j => AW X d 103 91 [l0, l1, l2, l3, l4, l5, l6] (.int (q.2 j) :: S) st P := zq_iaload (zd_of zb_X6_cut dX6_cut_90)
theorem E_X6_cut_91 : AW X d 103 91 [.ref a, l1, l2, l3, l4, l5, l6] S st P = AW X d 103 92 [.ref a, l1, l2, l3, l4, l5, l6] (.ref a :: S) st P := zAW_st (zd_of zb_X6_cut dX6_cut_91) rfl rfl
theorem E_X6_cut_91n : AW X d 103 91 [.null, l1, l2, l3, l4, l5, l6] S st P = AW X d 103 92 [.null, l1, l2, l3, l4, l5, l6] (.null :: S) st P := zAW_st (zd_of zb_X6_cut dX6_cut_91) rfl rfl
theorem E_X6_cut_92 : AW X d 103 92 [l0, l1, l2, l3, l4, l5, l6] (.ref a :: S) st P = zwith (zget st a 7 20) fun v => AW X d 103 95 [l0, l1, l2, l3, l4, l5, l6] (v :: S) st P := zq_getfield (zd_of zb_X6_cut dX6_cut_92) zo_X6_cut zf_6_61
theorem E_X6_cut_95 : AW X d 103 95 [l0, l1, l2, l3, l4, l5, l6] S st P = AW X d 103 97 [l0, l1, l2, l3, l4, l5, l6] (.int 6 :: S) st P := zq_bipush (zd_of zb_X6_cut dX6_cut_95) (by decide)
theorem E_X6_cut_97 : AW X d 103 97 [l0, .int x, l2, l3, l4, l5, l6] S st P = AW X d 103 98 [l0, .int x, l2, l3, l4, l5, l6] (.int x :: S) st P := zAW_st (zd_of zb_X6_cut dX6_cut_97) rfl rfl
theorem E_X6_cut_98 : AW X d 103 98 [l0, l1, l2, l3, l4, l5, l6] (.int y :: .int x :: S) st P = AW X d 103 99 [l0, l1, l2, l3, l4, l5, l6] (.int (x * y) :: S) st P := zAW_st (zd_of zb_X6_cut dX6_cut_98) rfl rfl
theorem E_X6_cut_99 : AW X d 103 99 [l0, l1, l2, l3, l4, l5, .int x] S st P = AW X d 103 101 [l0, l1, l2, l3, l4, l5, .int x] (.int x :: S) st P := zAW_st (zd_of zb_X6_cut dX6_cut_99) rfl rfl
theorem E_X6_cut_101 : AW X d 103 101 [l0, l1, l2, l3, l4, l5, l6] (.int y :: .int x :: S) st P = AW X d 103 102 [l0, l1, l2, l3, l4, l5, l6] (.int (x + y) :: S) st P := zAW_st (zd_of zb_X6_cut dX6_cut_101) rfl rfl
theorem E_X6_cut_102 : AW X d 103 102 [l0, l1, l2, l3, l4, l5, l6] (.int x :: .ref a :: S) st P = zwith (zai X st a) fun q => zwith (zix x q.1) fun j => AW X d 103 103 [l0, l1, l2, l3, l4, l5, l6] (.int (q.2 j) :: S) st P := zq_iaload (zd_of zb_X6_cut dX6_cut_102)
theorem E_X6_cut_103 : AW X d 103 103 [l0, l1, l2, l3, l4, l5, l6] (.int y :: .int x :: .ref a :: S) st P = zif (zis st a 7 = true) (zif (S.length ≤ 4) (AC X d 102 [.ref a, .int x, .int y] st (zaft X d 103 103 [l0, l1, l2, l3, l4, l5, l6] S P))) := zq_callV (B := [.int x, .int y]) (zd_of zb_X6_cut dX6_cut_103) zo_X6_cut (by decide) zl_6_154 zn_102 rfl rfl rfl
theorem E_X6_cut_106 : AW X d 103 106 [l0, l1, l2, l3, l4, l5, l6] (.int y :: .int x :: S) st P = AW X d 103 107 [l0, l1, l2, l3, l4, l5, l6] (.int (x ||| y) :: S) st P := zAW_st (zd_of zb_X6_cut dX6_cut_106) rfl rfl
theorem E_X6_cut_107 : AW X d 103 107 [l0, l1, l2, l3, l4, l5, l6] (.int x :: S) st P = AW X d 103 109 [l0, l1, l2, l3, l4, .int x, l6] S st P := zAW_st (zd_of zb_X6_cut dX6_cut_107) rfl rfl
theorem E_X6_cut_109 : AW X d 103 109 [l0, l1, l2, l3, l4, l5, .int x] S st P = AW X d 103 112 [l0, l1, l2, l3, l4, l5, .int (x + 1)] S st P := zq_iinc (zd_of zb_X6_cut dX6_cut_109) rfl (by decide)
theorem E_X6_cut_112 : AW X d 103 112 [l0, l1, l2, l3, l4, l5, l6] S st P = AW X d 103 69 [l0, l1, l2, l3, l4, l5, l6] S st P := zq_goto (zd_of zb_X6_cut dX6_cut_112) (by decide)
theorem E_X6_cut_115 : AW X d 103 115 [l0, l1, l2, .int x, l4, l5, l6] S st P = AW X d 103 116 [l0, l1, l2, .int x, l4, l5, l6] (.int x :: S) st P := zAW_st (zd_of zb_X6_cut dX6_cut_115) rfl rfl
theorem E_X6_cut_116 : AW X d 103 116 [l0, l1, .float u, l3, l4, l5, l6] S st P = AW X d 103 117 [l0, l1, .float u, l3, l4, l5, l6] (.float u :: S) st P := zAW_st (zd_of zb_X6_cut dX6_cut_116) rfl rfl
theorem E_X6_cut_117 : AW X d 103 117 [l0, l1, l2, l3, l4, l5, l6] S st P = AW X d 103 119 [l0, l1, l2, l3, l4, l5, l6] (.float 1092616192 :: S) st P := zq_ldc (zd_of zb_X6_cut dX6_cut_117) zo_X6_cut (by decide) (by decide +kernel) rfl
theorem E_X6_cut_119 : AW X d 103 119 [l0, l1, l2, l3, l4, l5, l6] (.float u2 :: .float u :: S) st P = zif (zn32 (FP.fdiv u u2) = true) (AW X d 103 120 [l0, l1, l2, l3, l4, l5, l6] (.float (FP.fdiv u u2) :: S) st P) := zq_fdiv (zd_of zb_X6_cut dX6_cut_119)
theorem E_X6_cut_120 : AW X d 103 120 [l0, l1, l2, l3, l4, l5, l6] (.float u :: S) st P = AW X d 103 121 [l0, l1, l2, l3, l4, l5, l6] (.int (FP.f2i u) :: S) st P := zAW_st (zd_of zb_X6_cut dX6_cut_120) rfl rfl
theorem E_X6_cut_121 : AW X d 103 121 [l0, l1, l2, l3, l4, l5, l6] S st P = AW X d 103 122 [l0, l1, l2, l3, l4, l5, l6] (.int 1 :: S) st P := zq_iconst (zd_of zb_X6_cut dX6_cut_121) (by decide)
theorem E_X6_cut_122 : AW X d 103 122 [l0, l1, l2, l3, l4, l5, l6] (.int y :: .int x :: S) st P = AW X d 103 123 [l0, l1, l2, l3, l4, l5, l6] (.int (x + y) :: S) st P := zAW_st (zd_of zb_X6_cut dX6_cut_122) rfl rfl
theorem E_X6_cut_123 : AW X d 103 123 [l0, l1, l2, l3, l4, .int x, l6] S st P = AW X d 103 125 [l0, l1, l2, l3, l4, .int x, l6] (.int x :: S) st P := zAW_st (zd_of zb_X6_cut dX6_cut_123) rfl rfl
theorem E_X6_cut_125 : AW X d 103 125 [l0, l1, l2, l3, l4, l5, l6] (.int x :: S) st P = if x = 0 then AW X d 103 132 [l0, l1, l2, l3, l4, l5, l6] S st P else AW X d 103 128 [l0, l1, l2, l3, l4, l5, l6] S st P := zq_if (c := x = 0) (zd_of zb_X6_cut dX6_cut_125) (by decide) rfl
theorem E_X6_cut_128 : AW X d 103 128 [l0, l1, l2, l3, l4, l5, l6] S st P = AW X d 103 129 [l0, l1, l2, l3, l4, l5, l6] (.int 3 :: S) st P := zq_iconst (zd_of zb_X6_cut dX6_cut_128) (by decide)
theorem E_X6_cut_129 : AW X d 103 129 [l0, l1, l2, l3, l4, l5, l6] S st P = AW X d 103 133 [l0, l1, l2, l3, l4, l5, l6] S st P := zq_goto (zd_of zb_X6_cut dX6_cut_129) (by decide)
theorem E_X6_cut_132 : AW X d 103 132 [l0, l1, l2, l3, l4, l5, l6] S st P = AW X d 103 133 [l0, l1, l2, l3, l4, l5, l6] (.int 0 :: S) st P := zq_iconst (zd_of zb_X6_cut dX6_cut_132) (by decide)
theorem E_X6_cut_133 : AW X d 103 133 [l0, l1, l2, l3, l4, l5, l6] (.int y :: .int x :: S) st P = AW X d 103 134 [l0, l1, l2, l3, l4, l5, l6] (.int (x + y) :: S) st P := zAW_st (zd_of zb_X6_cut dX6_cut_133) rfl rfl
theorem E_X6_cut_134 : AW X d 103 134 [l0, l1, l2, l3, l4, l5, l6] (.int y :: .int x :: S) st P = AW X d 103 135 [l0, l1, l2, l3, l4, l5, l6] (.int (x + y) :: S) st P := zAW_st (zd_of zb_X6_cut dX6_cut_134) rfl rfl
theorem E_X6_cut_135 : AW X d 103 135 [l0, l1, l2, l3, l4, l5, l6] (.int x :: S) st P = AW X d 103 136 [l0, l1, l2, .int x, l4, l5, l6] S st P := zAW_st (zd_of zb_X6_cut dX6_cut_135) rfl rfl
theorem E_X6_cut_136 : AW X d 103 136 [.ref a, l1, l2, l3, l4, l5, l6] S st P = AW X d 103 137 [.ref a, l1, l2, l3, l4, l5, l6] (.ref a :: S) st P := zAW_st (zd_of zb_X6_cut dX6_cut_136) rfl rfl
theorem E_X6_cut_136n : AW X d 103 136 [.null, l1, l2, l3, l4, l5, l6] S st P = AW X d 103 137 [.null, l1, l2, l3, l4, l5, l6] (.null :: S) st P := zAW_st (zd_of zb_X6_cut dX6_cut_136) rfl rfl
theorem E_X6_cut_137 : AW X d 103 137 [l0, l1, l2, l3, l4, l5, l6] (.ref a :: S) st P = AW X d 103 138 [l0, l1, l2, l3, l4, l5, l6] (.ref a :: .ref a :: S) st P := zq_dup (zd_of zb_X6_cut dX6_cut_137) rfl
theorem E_X6_cut_137n : AW X d 103 137 [l0, l1, l2, l3, l4, l5, l6] (.null :: S) st P = AW X d 103 138 [l0, l1, l2, l3, l4, l5, l6] (.null :: .null :: S) st P := zq_dup (zd_of zb_X6_cut dX6_cut_137) rfl
theorem E_X6_cut_137i : AW X d 103 137 [l0, l1, l2, l3, l4, l5, l6] (.int x :: S) st P = AW X d 103 138 [l0, l1, l2, l3, l4, l5, l6] (.int x :: .int x :: S) st P := zq_dup (zd_of zb_X6_cut dX6_cut_137) rfl
theorem E_X6_cut_137f : AW X d 103 137 [l0, l1, l2, l3, l4, l5, l6] (.float u :: S) st P = AW X d 103 138 [l0, l1, l2, l3, l4, l5, l6] (.float u :: .float u :: S) st P := zq_dup (zd_of zb_X6_cut dX6_cut_137) rfl
theorem E_X6_cut_138 : AW X d 103 138 [l0, l1, l2, l3, l4, l5, l6] (.ref a :: S) st P = zwith (zget st a 7 24) fun v => AW X d 103 141 [l0, l1, l2, l3, l4, l5, l6] (v :: S) st P := zq_getfield (zd_of zb_X6_cut dX6_cut_138) zo_X6_cut zf_6_158
theorem E_X6_cut_141 : AW X d 103 141 [l0, l1, .float u, l3, l4, l5, l6] S st P = AW X d 103 142 [l0, l1, .float u, l3, l4, l5, l6] (.float u :: S) st P := zAW_st (zd_of zb_X6_cut dX6_cut_141) rfl rfl
theorem E_X6_cut_142 : AW X d 103 142 [l0, l1, l2, l3, l4, l5, l6] (.float u2 :: .float u :: S) st P = zif (zn32 (FP.fadd u u2) = true) (AW X d 103 143 [l0, l1, l2, l3, l4, l5, l6] (.float (FP.fadd u u2) :: S) st P) := zq_fadd (zd_of zb_X6_cut dX6_cut_142)
theorem E_X6_cut_143 : AW X d 103 143 [l0, l1, l2, l3, l4, l5, l6] (.float u :: .ref a :: S) st P = zwith (zget st a 7 24) fun _ => AW X d 103 146 [l0, l1, l2, l3, l4, l5, l6] S (zput st a 24 (.float u)) P := zq_putfield (zd_of zb_X6_cut dX6_cut_143) zo_X6_cut zf_6_158 rfl (Or.inl (by decide +kernel))
theorem E_X6_cut_146 : AW X d 103 146 [l0, l1, l2, l3, .int x, l5, l6] S st P = AW X d 103 149 [l0, l1, l2, l3, .int (x + 1), l5, l6] S st P := zq_iinc (zd_of zb_X6_cut dX6_cut_146) rfl (by decide)
theorem E_X6_cut_149 : AW X d 103 149 [l0, l1, l2, l3, l4, l5, l6] S st P = AW X d 103 52 [l0, l1, l2, l3, l4, l5, l6] S st P := zq_goto (zd_of zb_X6_cut dX6_cut_149) (by decide)
theorem E_X6_cut_152 : AW X d 103 152 [.ref a, l1, l2, l3, l4, l5, l6] S st P = AW X d 103 153 [.ref a, l1, l2, l3, l4, l5, l6] (.ref a :: S) st P := zAW_st (zd_of zb_X6_cut dX6_cut_152) rfl rfl
theorem E_X6_cut_152n : AW X d 103 152 [.null, l1, l2, l3, l4, l5, l6] S st P = AW X d 103 153 [.null, l1, l2, l3, l4, l5, l6] (.null :: S) st P := zAW_st (zd_of zb_X6_cut dX6_cut_152) rfl rfl
theorem E_X6_cut_153 : AW X d 103 153 [l0, l1, l2, l3, l4, l5, l6] (.ref a :: S) st P = zwith (zget st a 7 18) fun v => AW X d 103 156 [l0, l1, l2, l3, l4, l5, l6] (v :: S) st P := zq_getfield (zd_of zb_X6_cut dX6_cut_153) zo_X6_cut zf_6_55
theorem E_X6_cut_156 : AW X d 103 156 [l0, .int x, l2, l3, l4, l5, l6] S st P = AW X d 103 157 [l0, .int x, l2, l3, l4, l5, l6] (.int x :: S) st P := zAW_st (zd_of zb_X6_cut dX6_cut_156) rfl rfl
theorem E_X6_cut_157 : AW X d 103 157 [l0, l1, l2, l3, l4, l5, l6] S st P = AW X d 103 158 [l0, l1, l2, l3, l4, l5, l6] (.int 2 :: S) st P := zq_iconst (zd_of zb_X6_cut dX6_cut_157) (by decide)
theorem E_X6_cut_158 : AW X d 103 158 [l0, l1, l2, l3, l4, l5, l6] (.int y :: .int x :: .ref a :: S) st P = zwith (zaI st a) fun q => zwith (zix x q.1) fun j => AW X d 103 159 [l0, l1, l2, l3, l4, l5, l6] S (zsta st a (q.1, .inl (upd q.2 j y))) P := zq_iastore (zd_of zb_X6_cut dX6_cut_158)
theorem E_X6_cut_159 : AW X d 103 159 [.ref a, l1, l2, l3, l4, l5, l6] S st P = AW X d 103 160 [.ref a, l1, l2, l3, l4, l5, l6] (.ref a :: S) st P := zAW_st (zd_of zb_X6_cut dX6_cut_159) rfl rfl
theorem E_X6_cut_159n : AW X d 103 159 [.null, l1, l2, l3, l4, l5, l6] S st P = AW X d 103 160 [.null, l1, l2, l3, l4, l5, l6] (.null :: S) st P := zAW_st (zd_of zb_X6_cut dX6_cut_159) rfl rfl
theorem E_X6_cut_160 : AW X d 103 160 [l0, l1, l2, l3, l4, l5, l6] (.ref a :: S) st P = AW X d 103 161 [l0, l1, l2, l3, l4, l5, l6] (.ref a :: .ref a :: S) st P := zq_dup (zd_of zb_X6_cut dX6_cut_160) rfl
theorem E_X6_cut_160n : AW X d 103 160 [l0, l1, l2, l3, l4, l5, l6] (.null :: S) st P = AW X d 103 161 [l0, l1, l2, l3, l4, l5, l6] (.null :: .null :: S) st P := zq_dup (zd_of zb_X6_cut dX6_cut_160) rfl
theorem E_X6_cut_160i : AW X d 103 160 [l0, l1, l2, l3, l4, l5, l6] (.int x :: S) st P = AW X d 103 161 [l0, l1, l2, l3, l4, l5, l6] (.int x :: .int x :: S) st P := zq_dup (zd_of zb_X6_cut dX6_cut_160) rfl
theorem E_X6_cut_160f : AW X d 103 160 [l0, l1, l2, l3, l4, l5, l6] (.float u :: S) st P = AW X d 103 161 [l0, l1, l2, l3, l4, l5, l6] (.float u :: .float u :: S) st P := zq_dup (zd_of zb_X6_cut dX6_cut_160) rfl
theorem E_X6_cut_161 : AW X d 103 161 [l0, l1, l2, l3, l4, l5, l6] (.ref a :: S) st P = zwith (zget st a 7 23) fun v => AW X d 103 164 [l0, l1, l2, l3, l4, l5, l6] (v :: S) st P := zq_getfield (zd_of zb_X6_cut dX6_cut_161) zo_X6_cut zf_6_162
theorem E_X6_cut_164 : AW X d 103 164 [l0, l1, l2, .int x, l4, l5, l6] S st P = AW X d 103 165 [l0, l1, l2, .int x, l4, l5, l6] (.int x :: S) st P := zAW_st (zd_of zb_X6_cut dX6_cut_164) rfl rfl
theorem E_X6_cut_165 : AW X d 103 165 [l0, l1, l2, l3, l4, l5, l6] (.int y :: .int x :: S) st P = AW X d 103 166 [l0, l1, l2, l3, l4, l5, l6] (.int (x + y) :: S) st P := zAW_st (zd_of zb_X6_cut dX6_cut_165) rfl rfl
theorem E_X6_cut_166 : AW X d 103 166 [l0, l1, l2, l3, l4, l5, l6] (.int x :: .ref a :: S) st P = zwith (zget st a 7 23) fun _ => AW X d 103 169 [l0, l1, l2, l3, l4, l5, l6] S (zput st a 23 (.int x)) P := zq_putfield (zd_of zb_X6_cut dX6_cut_166) zo_X6_cut zf_6_162 rfl (Or.inl (by decide +kernel))
theorem E_X6_cut_169 : AW X d 103 169 [l0, l1, l2, .int x, l4, l5, l6] S st P = AW X d 103 170 [l0, l1, l2, .int x, l4, l5, l6] (.int x :: S) st P := zAW_st (zd_of zb_X6_cut dX6_cut_169) rfl rfl
theorem E_X6_cut_170 : AW X d 103 170 [l0, l1, l2, l3, l4, l5, l6] ([.int x]) st P = P (.inl (some (.int x))) st := zAW_ret (w := (.inl (some (.int x)), st)) (zd_of zb_X6_cut dX6_cut_170) rfl rfl (by simp only [zfin, zr_X6_cut])
theorem A_X6_cut : AC X (d + 1) 103 [.ref a, .int x] st P = AW X d 103 0 [.ref a, .int x, .retAddr 0, .retAddr 0, .retAddr 0, .retAddr 0, .retAddr 0] [] st P := AC_eq ⟨⟨(show 2 ≤ zml 103 by decide +kernel), by decide +kernel⟩, by simp [zc1_int, zc1_ref, zc1_float]⟩
theorem E_X6_ofJob_0 : AW X d 104 0 [.ref a, l1, l2] S st P = AW X d 104 1 [.ref a, l1, l2] (.ref a :: S) st P := zAW_st (zd_of zb_X6_ofJob dX6_ofJob_0) rfl rfl
theorem E_X6_ofJob_0n : AW X d 104 0 [.null, l1, l2] S st P = AW X d 104 1 [.null, l1, l2] (.null :: S) st P := zAW_st (zd_of zb_X6_ofJob dX6_ofJob_0) rfl rfl
theorem E_X6_ofJob_1 : AW X d 104 1 [.ref a, l1, l2] S st P = AW X d 104 2 [.ref a, l1, l2] (.ref a :: S) st P := zAW_st (zd_of zb_X6_ofJob dX6_ofJob_1) rfl rfl
theorem E_X6_ofJob_1n : AW X d 104 1 [.null, l1, l2] S st P = AW X d 104 2 [.null, l1, l2] (.null :: S) st P := zAW_st (zd_of zb_X6_ofJob dX6_ofJob_1) rfl rfl
theorem E_X6_ofJob_2 : AW X d 104 2 [l0, .int x, l2] S st P = AW X d 104 3 [l0, .int x, l2] (.int x :: S) st P := zAW_st (zd_of zb_X6_ofJob dX6_ofJob_2) rfl rfl
theorem E_X6_ofJob_3 : AW X d 104 3 [l0, l1, l2] (.int x :: .ref a :: S) st P = zif (zis st a 7 = true) (zif (S.length ≤ 4) (AC X d 94 [.ref a, .int x] st (zaft X d 104 3 [l0, l1, l2] S P))) := zq_callV (B := [.int x]) (zd_of zb_X6_ofJob dX6_ofJob_3) zo_X6_ofJob (by decide) zl_6_148 zn_94 rfl rfl rfl
theorem E_X6_ofJob_6 : AW X d 104 6 [l0, l1, l2] (.int x :: S) st P = if ¬ x = 0 then AW X d 104 13 [l0, l1, l2] S st P else AW X d 104 9 [l0, l1, l2] S st P := zq_if (c := ¬ x = 0) (zd_of zb_X6_ofJob dX6_ofJob_6) (by decide) rfl
theorem E_X6_ofJob_9 : AW X d 104 9 [l0, l1, l2] S st P = AW X d 104 10 [l0, l1, l2] (.int 1 :: S) st P := zq_iconst (zd_of zb_X6_ofJob dX6_ofJob_9) (by decide)
theorem E_X6_ofJob_10 : AW X d 104 10 [l0, l1, l2] S st P = AW X d 104 28 [l0, l1, l2] S st P := zq_goto (zd_of zb_X6_ofJob dX6_ofJob_10) (by decide)
theorem E_X6_ofJob_13 : AW X d 104 13 [.ref a, l1, l2] S st P = AW X d 104 14 [.ref a, l1, l2] (.ref a :: S) st P := zAW_st (zd_of zb_X6_ofJob dX6_ofJob_13) rfl rfl
theorem E_X6_ofJob_13n : AW X d 104 13 [.null, l1, l2] S st P = AW X d 104 14 [.null, l1, l2] (.null :: S) st P := zAW_st (zd_of zb_X6_ofJob dX6_ofJob_13) rfl rfl
theorem E_X6_ofJob_14 : AW X d 104 14 [l0, l1, .int x] S st P = AW X d 104 15 [l0, l1, .int x] (.int x :: S) st P := zAW_st (zd_of zb_X6_ofJob dX6_ofJob_14) rfl rfl
theorem E_X6_ofJob_15 : AW X d 104 15 [l0, l1, l2] S st P = AW X d 104 16 [l0, l1, l2] (.int 0 :: S) st P := zq_iconst (zd_of zb_X6_ofJob dX6_ofJob_15) (by decide)
theorem E_X6_ofJob_16 : AW X d 104 16 [l0, l1, l2] S st P = AW X d 104 17 [l0, l1, l2] (.int 3 :: S) st P := zq_iconst (zd_of zb_X6_ofJob dX6_ofJob_16) (by decide)
theorem E_X6_ofJob_17 : AW X d 104 17 [l0, l1, l2] (.int x3 :: .int y :: .int x :: .ref a :: S) st P = zif (zis st a 7 = true) (zif (S.length ≤ 4) (AC X d 75 [.ref a, .int x, .int y, .int x3] st (zaft X d 104 17 [l0, l1, l2] S P))) := zq_callV (B := [.int x, .int y, .int x3]) (zd_of zb_X6_ofJob dX6_ofJob_17) zo_X6_ofJob (by decide) zl_6_74 zn_75 rfl rfl rfl
theorem E_X6_ofJob_20 : AW X d 104 20 [l0, l1, l2] (.int x :: S) st P = if x = 0 then AW X d 104 27 [l0, l1, l2] S st P else AW X d 104 23 [l0, l1, l2] S st P := zq_if (c := x = 0) (zd_of zb_X6_ofJob dX6_ofJob_20) (by decide) rfl
theorem E_X6_ofJob_23 : AW X d 104 23 [l0, l1, l2] S st P = AW X d 104 24 [l0, l1, l2] (.int 0 :: S) st P := zq_iconst (zd_of zb_X6_ofJob dX6_ofJob_23) (by decide)
theorem E_X6_ofJob_24 : AW X d 104 24 [l0, l1, l2] S st P = AW X d 104 28 [l0, l1, l2] S st P := zq_goto (zd_of zb_X6_ofJob dX6_ofJob_24) (by decide)
theorem E_X6_ofJob_27 : AW X d 104 27 [l0, l1, l2] S st P = AW X d 104 28 [l0, l1, l2] (.int 2 :: S) st P := zq_iconst (zd_of zb_X6_ofJob dX6_ofJob_27) (by decide)
theorem E_X6_ofJob_28 : AW X d 104 28 [l0, l1, l2] (.int x :: .ref a :: S) st P = zif (zis st a 7 = true) (zif (S.length ≤ 4) (AC X d 74 [.ref a, .int x] st (zaft X d 104 28 [l0, l1, l2] S P))) := zq_callV (B := [.int x]) (zd_of zb_X6_ofJob dX6_ofJob_28) zo_X6_ofJob (by decide) zl_6_78 zn_74 rfl rfl rfl
theorem E_X6_ofJob_31 : AW X d 104 31 [l0, l1, l2] (.int x :: S) st P = if x = 0 then AW X d 104 36 [l0, l1, l2] S st P else AW X d 104 34 [l0, l1, l2] S st P := zq_if (c := x = 0) (zd_of zb_X6_ofJob dX6_ofJob_31) (by decide) rfl
theorem E_X6_ofJob_34 : AW X d 104 34 [l0, l1, l2] S st P = AW X d 104 35 [l0, l1, l2] (.int (-1) :: S) st P := zq_iconst (zd_of zb_X6_ofJob dX6_ofJob_34) (by decide)
theorem E_X6_ofJob_35 : AW X d 104 35 [l0, l1, l2] ([.int x]) st P = P (.inl (some (.int x))) st := zAW_ret (w := (.inl (some (.int x)), st)) (zd_of zb_X6_ofJob dX6_ofJob_35) rfl rfl (by simp only [zfin, zr_X6_ofJob])
theorem E_X6_ofJob_36 : AW X d 104 36 [l0, l1, .int x] S st P = AW X d 104 37 [l0, l1, .int x] (.int x :: S) st P := zAW_st (zd_of zb_X6_ofJob dX6_ofJob_36) rfl rfl
theorem E_X6_ofJob_37_0 : AW X d 104 37 [l0, l1, l2] (.int 0 :: S) st P = AW X d 104 64 [l0, l1, l2] S st P := zq_tabIn (zd_of zb_X6_ofJob dX6_ofJob_37) (by decide) rfl (by decide)
theorem E_X6_ofJob_37_1 : AW X d 104 37 [l0, l1, l2] (.int 1 :: S) st P = AW X d 104 71 [l0, l1, l2] S st P := zq_tabIn (zd_of zb_X6_ofJob dX6_ofJob_37) (by decide) rfl (by decide)
theorem E_X6_ofJob_37_2 : AW X d 104 37 [l0, l1, l2] (.int 2 :: S) st P = AW X d 104 78 [l0, l1, l2] S st P := zq_tabIn (zd_of zb_X6_ofJob dX6_ofJob_37) (by decide) rfl (by decide)
theorem E_X6_ofJob_37_o (h1 : x.toInt < 0 ∨ 2 < x.toInt) : AW X d 104 37 [l0, l1, l2] (.int x :: S) st P = AW X d 104 85 [l0, l1, l2] S st P := zq_tabOut (zd_of zb_X6_ofJob dX6_ofJob_37) (by decide) h1
theorem E_X6_ofJob_64 : AW X d 104 64 [.ref a, l1, l2] S st P = AW X d 104 65 [.ref a, l1, l2] (.ref a :: S) st P := zAW_st (zd_of zb_X6_ofJob dX6_ofJob_64) rfl rfl
theorem E_X6_ofJob_64n : AW X d 104 64 [.null, l1, l2] S st P = AW X d 104 65 [.null, l1, l2] (.null :: S) st P := zAW_st (zd_of zb_X6_ofJob dX6_ofJob_64) rfl rfl
theorem E_X6_ofJob_65 : AW X d 104 65 [l0, l1, l2] (.ref a :: S) st P = zwith (zget st a 7 18) fun v => AW X d 104 68 [l0, l1, l2] (v :: S) st P := zq_getfield (zd_of zb_X6_ofJob dX6_ofJob_65) zo_X6_ofJob zf_6_55
theorem E_X6_ofJob_68 : AW X d 104 68 [l0, .int x, l2] S st P = AW X d 104 69 [l0, .int x, l2] (.int x :: S) st P := zAW_st (zd_of zb_X6_ofJob dX6_ofJob_68) rfl rfl
theorem E_X6_ofJob_69 : AW X d 104 69 [l0, l1, l2] (.int x :: .ref a :: S) st P = zwith (zai X st a) fun q => zwith (zix x q.1) fun j => AW X d 104 70 [l0, l1, l2] (.int (q.2 j) :: S) st P := zq_iaload (zd_of zb_X6_ofJob dX6_ofJob_69)
theorem E_X6_ofJob_70 : AW X d 104 70 [l0, l1, l2] ([.int x]) st P = P (.inl (some (.int x))) st := zAW_ret (w := (.inl (some (.int x)), st)) (zd_of zb_X6_ofJob dX6_ofJob_70) rfl rfl (by simp only [zfin, zr_X6_ofJob])
theorem E_X6_ofJob_71 : AW X d 104 71 [.ref a, l1, l2] S st P = AW X d 104 72 [.ref a, l1, l2] (.ref a :: S) st P := zAW_st (zd_of zb_X6_ofJob dX6_ofJob_71) rfl rfl
theorem E_X6_ofJob_71n : AW X d 104 71 [.null, l1, l2] S st P = AW X d 104 72 [.null, l1, l2] (.null :: S) st P := zAW_st (zd_of zb_X6_ofJob dX6_ofJob_71) rfl rfl
theorem E_X6_ofJob_72 : AW X d 104 72 [l0, l1, l2] (.ref a :: S) st P = zwith (zget st a 7 16) fun v => AW X d 104 75 [l0, l1, l2] (v :: S) st P := zq_getfield (zd_of zb_X6_ofJob dX6_ofJob_72) zo_X6_ofJob zf_6_49
theorem E_X6_ofJob_75 : AW X d 104 75 [l0, .int x, l2] S st P = AW X d 104 76 [l0, .int x, l2] (.int x :: S) st P := zAW_st (zd_of zb_X6_ofJob dX6_ofJob_75) rfl rfl
theorem E_X6_ofJob_76 : AW X d 104 76 [l0, l1, l2] (.int x :: .ref a :: S) st P = zwith (zai X st a) fun q => zwith (zix x q.1) fun j => AW X d 104 77 [l0, l1, l2] (.int (q.2 j) :: S) st P := zq_iaload (zd_of zb_X6_ofJob dX6_ofJob_76)
theorem E_X6_ofJob_77 : AW X d 104 77 [l0, l1, l2] ([.int x]) st P = P (.inl (some (.int x))) st := zAW_ret (w := (.inl (some (.int x)), st)) (zd_of zb_X6_ofJob dX6_ofJob_77) rfl rfl (by simp only [zfin, zr_X6_ofJob])
theorem E_X6_ofJob_78 : AW X d 104 78 [.ref a, l1, l2] S st P = AW X d 104 79 [.ref a, l1, l2] (.ref a :: S) st P := zAW_st (zd_of zb_X6_ofJob dX6_ofJob_78) rfl rfl
theorem E_X6_ofJob_78n : AW X d 104 78 [.null, l1, l2] S st P = AW X d 104 79 [.null, l1, l2] (.null :: S) st P := zAW_st (zd_of zb_X6_ofJob dX6_ofJob_78) rfl rfl
theorem E_X6_ofJob_79 : AW X d 104 79 [l0, l1, l2] (.ref a :: S) st P = zwith (zget st a 7 17) fun v => AW X d 104 82 [l0, l1, l2] (v :: S) st P := zq_getfield (zd_of zb_X6_ofJob dX6_ofJob_79) zo_X6_ofJob zf_6_52
theorem E_X6_ofJob_82 : AW X d 104 82 [l0, .int x, l2] S st P = AW X d 104 83 [l0, .int x, l2] (.int x :: S) st P := zAW_st (zd_of zb_X6_ofJob dX6_ofJob_82) rfl rfl
theorem E_X6_ofJob_83 : AW X d 104 83 [l0, l1, l2] (.int x :: .ref a :: S) st P = zwith (zai X st a) fun q => zwith (zix x q.1) fun j => AW X d 104 84 [l0, l1, l2] (.int (q.2 j) :: S) st P := zq_iaload (zd_of zb_X6_ofJob dX6_ofJob_83)
theorem E_X6_ofJob_84 : AW X d 104 84 [l0, l1, l2] ([.int x]) st P = P (.inl (some (.int x))) st := zAW_ret (w := (.inl (some (.int x)), st)) (zd_of zb_X6_ofJob dX6_ofJob_84) rfl rfl (by simp only [zfin, zr_X6_ofJob])
theorem E_X6_ofJob_85 : AW X d 104 85 [.ref a, l1, l2] S st P = AW X d 104 86 [.ref a, l1, l2] (.ref a :: S) st P := zAW_st (zd_of zb_X6_ofJob dX6_ofJob_85) rfl rfl
theorem E_X6_ofJob_85n : AW X d 104 85 [.null, l1, l2] S st P = AW X d 104 86 [.null, l1, l2] (.null :: S) st P := zAW_st (zd_of zb_X6_ofJob dX6_ofJob_85) rfl rfl
theorem E_X6_ofJob_86 : AW X d 104 86 [l0, l1, l2] (.ref a :: S) st P = zwith (zget st a 7 18) fun v => AW X d 104 89 [l0, l1, l2] (v :: S) st P := zq_getfield (zd_of zb_X6_ofJob dX6_ofJob_86) zo_X6_ofJob zf_6_55
theorem E_X6_ofJob_89 : AW X d 104 89 [l0, .int x, l2] S st P = AW X d 104 90 [l0, .int x, l2] (.int x :: S) st P := zAW_st (zd_of zb_X6_ofJob dX6_ofJob_89) rfl rfl
theorem E_X6_ofJob_90 : AW X d 104 90 [l0, l1, l2] (.int x :: .ref a :: S) st P = zwith (zai X st a) fun q => zwith (zix x q.1) fun j => AW X d 104 91 [l0, l1, l2] (.int (q.2 j) :: S) st P := zq_iaload (zd_of zb_X6_ofJob dX6_ofJob_90)
theorem E_X6_ofJob_91 : AW X d 104 91 [l0, l1, l2] S st P = AW X d 104 92 [l0, l1, l2] (.int 1 :: S) st P := zq_iconst (zd_of zb_X6_ofJob dX6_ofJob_91) (by decide)
theorem E_X6_ofJob_92 : AW X d 104 92 [l0, l1, l2] (.int y :: .int x :: S) st P = if x = y then AW X d 104 105 [l0, l1, l2] S st P else AW X d 104 95 [l0, l1, l2] S st P := zq_icmp (c := x = y) (zd_of zb_X6_ofJob dX6_ofJob_92) (by decide) rfl
theorem E_X6_ofJob_95 : AW X d 104 95 [.ref a, l1, l2] S st P = AW X d 104 96 [.ref a, l1, l2] (.ref a :: S) st P := zAW_st (zd_of zb_X6_ofJob dX6_ofJob_95) rfl rfl
theorem E_X6_ofJob_95n : AW X d 104 95 [.null, l1, l2] S st P = AW X d 104 96 [.null, l1, l2] (.null :: S) st P := zAW_st (zd_of zb_X6_ofJob dX6_ofJob_95) rfl rfl
theorem E_X6_ofJob_96 : AW X d 104 96 [l0, l1, l2] (.ref a :: S) st P = zwith (zget st a 7 18) fun v => AW X d 104 99 [l0, l1, l2] (v :: S) st P := zq_getfield (zd_of zb_X6_ofJob dX6_ofJob_96) zo_X6_ofJob zf_6_55
theorem E_X6_ofJob_99 : AW X d 104 99 [l0, .int x, l2] S st P = AW X d 104 100 [l0, .int x, l2] (.int x :: S) st P := zAW_st (zd_of zb_X6_ofJob dX6_ofJob_99) rfl rfl
theorem E_X6_ofJob_100 : AW X d 104 100 [l0, l1, l2] (.int x :: .ref a :: S) st P = zwith (zai X st a) fun q => zwith (zix x q.1) fun j => AW X d 104 101 [l0, l1, l2] (.int (q.2 j) :: S) st P := zq_iaload (zd_of zb_X6_ofJob dX6_ofJob_100)
theorem E_X6_ofJob_101 : AW X d 104 101 [l0, l1, l2] S st P = AW X d 104 102 [l0, l1, l2] (.int 2 :: S) st P := zq_iconst (zd_of zb_X6_ofJob dX6_ofJob_101) (by decide)
theorem E_X6_ofJob_102 : AW X d 104 102 [l0, l1, l2] (.int y :: .int x :: S) st P = if ¬ x = y then AW X d 104 114 [l0, l1, l2] S st P else AW X d 104 105 [l0, l1, l2] S st P := zq_icmp (c := ¬ x = y) (zd_of zb_X6_ofJob dX6_ofJob_102) (by decide) rfl
theorem E_X6_ofJob_105 : AW X d 104 105 [.ref a, l1, l2] S st P = AW X d 104 106 [.ref a, l1, l2] (.ref a :: S) st P := zAW_st (zd_of zb_X6_ofJob dX6_ofJob_105) rfl rfl
theorem E_X6_ofJob_105n : AW X d 104 105 [.null, l1, l2] S st P = AW X d 104 106 [.null, l1, l2] (.null :: S) st P := zAW_st (zd_of zb_X6_ofJob dX6_ofJob_105) rfl rfl
theorem E_X6_ofJob_106 : AW X d 104 106 [l0, l1, l2] (.ref a :: S) st P = zwith (zget st a 7 19) fun v => AW X d 104 109 [l0, l1, l2] (v :: S) st P := zq_getfield (zd_of zb_X6_ofJob dX6_ofJob_106) zo_X6_ofJob zf_6_58
theorem E_X6_ofJob_109 : AW X d 104 109 [l0, .int x, l2] S st P = AW X d 104 110 [l0, .int x, l2] (.int x :: S) st P := zAW_st (zd_of zb_X6_ofJob dX6_ofJob_109) rfl rfl
theorem E_X6_ofJob_110 : AW X d 104 110 [l0, l1, l2] (.int x :: .ref a :: S) st P = zwith (zai X st a) fun q => zwith (zix x q.1) fun j => AW X d 104 111 [l0, l1, l2] (.int (q.2 j) :: S) st P := zq_iaload (zd_of zb_X6_ofJob dX6_ofJob_110)
theorem E_X6_ofJob_111 : AW X d 104 111 [l0, l1, l2] S st P = AW X d 104 115 [l0, l1, l2] S st P := zq_goto (zd_of zb_X6_ofJob dX6_ofJob_111) (by decide)
theorem E_X6_ofJob_114 : AW X d 104 114 [l0, l1, l2] S st P = AW X d 104 115 [l0, l1, l2] (.int (-1) :: S) st P := zq_iconst (zd_of zb_X6_ofJob dX6_ofJob_114) (by decide)
theorem E_X6_ofJob_115 : AW X d 104 115 [l0, l1, l2] ([.int x]) st P = P (.inl (some (.int x))) st := zAW_ret (w := (.inl (some (.int x)), st)) (zd_of zb_X6_ofJob dX6_ofJob_115) rfl rfl (by simp only [zfin, zr_X6_ofJob])
theorem A_X6_ofJob : AC X (d + 1) 104 [.ref a, .int x, .int y] st P = AW X d 104 0 [.ref a, .int x, .int y] [] st P := AC_eq ⟨⟨(show 3 ≤ zml 104 by decide +kernel), by decide +kernel⟩, by simp [zc1_int, zc1_ref, zc1_float]⟩
theorem E_X6_where_0 : AW X d 105 0 [.ref a, l1, l2, l3, l4, l5] S st P = AW X d 105 1 [.ref a, l1, l2, l3, l4, l5] (.ref a :: S) st P := zAW_st (zd_of zb_X6_where dX6_where_0) rfl rfl
theorem E_X6_where_0n : AW X d 105 0 [.null, l1, l2, l3, l4, l5] S st P = AW X d 105 1 [.null, l1, l2, l3, l4, l5] (.null :: S) st P := zAW_st (zd_of zb_X6_where dX6_where_0) rfl rfl
theorem E_X6_where_1 : AW X d 105 1 [l0, .int x, l2, l3, l4, l5] S st P = AW X d 105 2 [l0, .int x, l2, l3, l4, l5] (.int x :: S) st P := zAW_st (zd_of zb_X6_where dX6_where_1) rfl rfl
theorem E_X6_where_2 : AW X d 105 2 [l0, l1, l2, l3, l4, l5] (.int x :: .ref a :: S) st P = zif (zis st a 7 = true) (zif (S.length ≤ 4) (AC X d 94 [.ref a, .int x] st (zaft X d 105 2 [l0, l1, l2, l3, l4, l5] S P))) := zq_callV (B := [.int x]) (zd_of zb_X6_where dX6_where_2) zo_X6_where (by decide) zl_6_148 zn_94 rfl rfl rfl
theorem E_X6_where_5 : AW X d 105 5 [l0, l1, l2, l3, l4, l5] (.int x :: S) st P = if x = 0 then AW X d 105 29 [l0, l1, l2, l3, l4, l5] S st P else AW X d 105 8 [l0, l1, l2, l3, l4, l5] S st P := zq_if (c := x = 0) (zd_of zb_X6_where dX6_where_5) (by decide) rfl
theorem E_X6_where_8 : AW X d 105 8 [.ref a, l1, l2, l3, l4, l5] S st P = AW X d 105 9 [.ref a, l1, l2, l3, l4, l5] (.ref a :: S) st P := zAW_st (zd_of zb_X6_where dX6_where_8) rfl rfl
theorem E_X6_where_8n : AW X d 105 8 [.null, l1, l2, l3, l4, l5] S st P = AW X d 105 9 [.null, l1, l2, l3, l4, l5] (.null :: S) st P := zAW_st (zd_of zb_X6_where dX6_where_8) rfl rfl
theorem E_X6_where_9 : AW X d 105 9 [l0, l1, .int x, l3, l4, l5] S st P = AW X d 105 10 [l0, l1, .int x, l3, l4, l5] (.int x :: S) st P := zAW_st (zd_of zb_X6_where dX6_where_9) rfl rfl
theorem E_X6_where_10 : AW X d 105 10 [l0, l1, l2, l3, l4, l5] S st P = AW X d 105 11 [l0, l1, l2, l3, l4, l5] (.int 0 :: S) st P := zq_iconst (zd_of zb_X6_where dX6_where_10) (by decide)
theorem E_X6_where_11 : AW X d 105 11 [.ref a, l1, l2, l3, l4, l5] S st P = AW X d 105 12 [.ref a, l1, l2, l3, l4, l5] (.ref a :: S) st P := zAW_st (zd_of zb_X6_where dX6_where_11) rfl rfl
theorem E_X6_where_11n : AW X d 105 11 [.null, l1, l2, l3, l4, l5] S st P = AW X d 105 12 [.null, l1, l2, l3, l4, l5] (.null :: S) st P := zAW_st (zd_of zb_X6_where dX6_where_11) rfl rfl
theorem E_X6_where_12 : AW X d 105 12 [l0, l1, l2, l3, l4, l5] (.ref a :: S) st P = zwith (zget st a 7 17) fun v => AW X d 105 15 [l0, l1, l2, l3, l4, l5] (v :: S) st P := zq_getfield (zd_of zb_X6_where dX6_where_12) zo_X6_where zf_6_52
theorem E_X6_where_15 : AW X d 105 15 [l0, .int x, l2, l3, l4, l5] S st P = AW X d 105 16 [l0, .int x, l2, l3, l4, l5] (.int x :: S) st P := zAW_st (zd_of zb_X6_where dX6_where_15) rfl rfl
theorem E_X6_where_16 : AW X d 105 16 [l0, l1, l2, l3, l4, l5] (.int x :: .ref a :: S) st P = zwith (zai X st a) fun q => zwith (zix x q.1) fun j => AW X d 105 17 [l0, l1, l2, l3, l4, l5] (.int (q.2 j) :: S) st P := zq_iaload (zd_of zb_X6_where dX6_where_16)
theorem E_X6_where_17 : AW X d 105 17 [l0, l1, l2, l3, l4, l5] S st P = AW X d 105 18 [l0, l1, l2, l3, l4, l5] (.int 1 :: S) st P := zq_iconst (zd_of zb_X6_where dX6_where_17) (by decide)
theorem E_X6_where_18 : AW X d 105 18 [l0, l1, l2, l3, l4, l5] (.int y :: .int x :: S) st P = AW X d 105 19 [l0, l1, l2, l3, l4, l5] (.int (x - y) :: S) st P := zAW_st (zd_of zb_X6_where dX6_where_18) rfl rfl
theorem E_X6_where_19 : AW X d 105 19 [l0, l1, l2, l3, l4, l5] (.int x3 :: .int y :: .int x :: .ref a :: S) st P = zif (zis st a 7 = true) (zif (S.length ≤ 4) (AC X d 75 [.ref a, .int x, .int y, .int x3] st (zaft X d 105 19 [l0, l1, l2, l3, l4, l5] S P))) := zq_callV (B := [.int x, .int y, .int x3]) (zd_of zb_X6_where dX6_where_19) zo_X6_where (by decide) zl_6_74 zn_75 rfl rfl rfl
theorem E_X6_where_22 : AW X d 105 22 [l0, l1, l2, l3, l4, l5] (.int x :: S) st P = if x = 0 then AW X d 105 29 [l0, l1, l2, l3, l4, l5] S st P else AW X d 105 25 [l0, l1, l2, l3, l4, l5] S st P := zq_if (c := x = 0) (zd_of zb_X6_where dX6_where_22) (by decide) rfl
theorem E_X6_where_25 : AW X d 105 25 [l0, l1, l2, l3, l4, l5] S st P = AW X d 105 26 [l0, l1, l2, l3, l4, l5] (.int 1 :: S) st P := zq_iconst (zd_of zb_X6_where dX6_where_25) (by decide)
theorem E_X6_where_26 : AW X d 105 26 [l0, l1, l2, l3, l4, l5] S st P = AW X d 105 30 [l0, l1, l2, l3, l4, l5] S st P := zq_goto (zd_of zb_X6_where dX6_where_26) (by decide)
theorem E_X6_where_29 : AW X d 105 29 [l0, l1, l2, l3, l4, l5] S st P = AW X d 105 30 [l0, l1, l2, l3, l4, l5] (.int 0 :: S) st P := zq_iconst (zd_of zb_X6_where dX6_where_29) (by decide)
theorem E_X6_where_30 : AW X d 105 30 [l0, l1, l2, l3, l4, l5] (.int x :: S) st P = AW X d 105 32 [l0, l1, l2, l3, .int x, l5] S st P := zAW_st (zd_of zb_X6_where dX6_where_30) rfl rfl
theorem E_X6_where_32 : AW X d 105 32 [.ref a, l1, l2, l3, l4, l5] S st P = AW X d 105 33 [.ref a, l1, l2, l3, l4, l5] (.ref a :: S) st P := zAW_st (zd_of zb_X6_where dX6_where_32) rfl rfl
theorem E_X6_where_32n : AW X d 105 32 [.null, l1, l2, l3, l4, l5] S st P = AW X d 105 33 [.null, l1, l2, l3, l4, l5] (.null :: S) st P := zAW_st (zd_of zb_X6_where dX6_where_32) rfl rfl
theorem E_X6_where_33 : AW X d 105 33 [l0, l1, l2, l3, .int x, l5] S st P = AW X d 105 35 [l0, l1, l2, l3, .int x, l5] (.int x :: S) st P := zAW_st (zd_of zb_X6_where dX6_where_33) rfl rfl
theorem E_X6_where_35 : AW X d 105 35 [l0, l1, l2, l3, l4, l5] (.int x :: S) st P = if ¬ x = 0 then AW X d 105 42 [l0, l1, l2, l3, l4, l5] S st P else AW X d 105 38 [l0, l1, l2, l3, l4, l5] S st P := zq_if (c := ¬ x = 0) (zd_of zb_X6_where dX6_where_35) (by decide) rfl
theorem E_X6_where_38 : AW X d 105 38 [l0, l1, l2, l3, l4, l5] S st P = AW X d 105 39 [l0, l1, l2, l3, l4, l5] (.int 1 :: S) st P := zq_iconst (zd_of zb_X6_where dX6_where_38) (by decide)
theorem E_X6_where_39 : AW X d 105 39 [l0, l1, l2, l3, l4, l5] S st P = AW X d 105 57 [l0, l1, l2, l3, l4, l5] S st P := zq_goto (zd_of zb_X6_where dX6_where_39) (by decide)
theorem E_X6_where_42 : AW X d 105 42 [.ref a, l1, l2, l3, l4, l5] S st P = AW X d 105 43 [.ref a, l1, l2, l3, l4, l5] (.ref a :: S) st P := zAW_st (zd_of zb_X6_where dX6_where_42) rfl rfl
theorem E_X6_where_42n : AW X d 105 42 [.null, l1, l2, l3, l4, l5] S st P = AW X d 105 43 [.null, l1, l2, l3, l4, l5] (.null :: S) st P := zAW_st (zd_of zb_X6_where dX6_where_42) rfl rfl
theorem E_X6_where_43 : AW X d 105 43 [l0, l1, l2, .int x, l4, l5] S st P = AW X d 105 44 [l0, l1, l2, .int x, l4, l5] (.int x :: S) st P := zAW_st (zd_of zb_X6_where dX6_where_43) rfl rfl
theorem E_X6_where_44 : AW X d 105 44 [l0, l1, l2, l3, l4, l5] S st P = AW X d 105 45 [l0, l1, l2, l3, l4, l5] (.int 0 :: S) st P := zq_iconst (zd_of zb_X6_where dX6_where_44) (by decide)
theorem E_X6_where_45 : AW X d 105 45 [l0, l1, l2, l3, l4, l5] S st P = AW X d 105 46 [l0, l1, l2, l3, l4, l5] (.int 3 :: S) st P := zq_iconst (zd_of zb_X6_where dX6_where_45) (by decide)
theorem E_X6_where_46 : AW X d 105 46 [l0, l1, l2, l3, l4, l5] (.int x3 :: .int y :: .int x :: .ref a :: S) st P = zif (zis st a 7 = true) (zif (S.length ≤ 4) (AC X d 75 [.ref a, .int x, .int y, .int x3] st (zaft X d 105 46 [l0, l1, l2, l3, l4, l5] S P))) := zq_callV (B := [.int x, .int y, .int x3]) (zd_of zb_X6_where dX6_where_46) zo_X6_where (by decide) zl_6_74 zn_75 rfl rfl rfl
theorem E_X6_where_49 : AW X d 105 49 [l0, l1, l2, l3, l4, l5] (.int x :: S) st P = if x = 0 then AW X d 105 56 [l0, l1, l2, l3, l4, l5] S st P else AW X d 105 52 [l0, l1, l2, l3, l4, l5] S st P := zq_if (c := x = 0) (zd_of zb_X6_where dX6_where_49) (by decide) rfl
theorem E_X6_where_52 : AW X d 105 52 [l0, l1, l2, l3, l4, l5] S st P = AW X d 105 53 [l0, l1, l2, l3, l4, l5] (.int 0 :: S) st P := zq_iconst (zd_of zb_X6_where dX6_where_52) (by decide)
theorem E_X6_where_53 : AW X d 105 53 [l0, l1, l2, l3, l4, l5] S st P = AW X d 105 57 [l0, l1, l2, l3, l4, l5] S st P := zq_goto (zd_of zb_X6_where dX6_where_53) (by decide)
theorem E_X6_where_56 : AW X d 105 56 [l0, l1, l2, l3, l4, l5] S st P = AW X d 105 57 [l0, l1, l2, l3, l4, l5] (.int 2 :: S) st P := zq_iconst (zd_of zb_X6_where dX6_where_56) (by decide)
theorem E_X6_where_57 : AW X d 105 57 [l0, l1, l2, l3, l4, l5] (.int x :: .ref a :: S) st P = zif (zis st a 7 = true) (zif (S.length ≤ 4) (AC X d 74 [.ref a, .int x] st (zaft X d 105 57 [l0, l1, l2, l3, l4, l5] S P))) := zq_callV (B := [.int x]) (zd_of zb_X6_where dX6_where_57) zo_X6_where (by decide) zl_6_78 zn_74 rfl rfl rfl
theorem E_X6_where_60 : AW X d 105 60 [l0, l1, l2, l3, l4, l5] (.int x :: S) st P = if x = 0 then AW X d 105 65 [l0, l1, l2, l3, l4, l5] S st P else AW X d 105 63 [l0, l1, l2, l3, l4, l5] S st P := zq_if (c := x = 0) (zd_of zb_X6_where dX6_where_60) (by decide) rfl
theorem E_X6_where_63 : AW X d 105 63 [l0, l1, l2, l3, l4, l5] S st P = AW X d 105 64 [l0, l1, l2, l3, l4, l5] (.int (-1) :: S) st P := zq_iconst (zd_of zb_X6_where dX6_where_63) (by decide)
theorem E_X6_where_64 : AW X d 105 64 [l0, l1, l2, l3, l4, l5] ([.int x]) st P = P (.inl (some (.int x))) st := zAW_ret (w := (.inl (some (.int x)), st)) (zd_of zb_X6_where dX6_where_64) rfl rfl (by simp only [zfin, zr_X6_where])
theorem E_X6_where_65 : AW X d 105 65 [.ref a, l1, l2, l3, l4, l5] S st P = AW X d 105 66 [.ref a, l1, l2, l3, l4, l5] (.ref a :: S) st P := zAW_st (zd_of zb_X6_where dX6_where_65) rfl rfl
theorem E_X6_where_65n : AW X d 105 65 [.null, l1, l2, l3, l4, l5] S st P = AW X d 105 66 [.null, l1, l2, l3, l4, l5] (.null :: S) st P := zAW_st (zd_of zb_X6_where dX6_where_65) rfl rfl
theorem E_X6_where_66 : AW X d 105 66 [l0, l1, l2, l3, l4, l5] (.ref a :: S) st P = zwith (zget st a 7 18) fun v => AW X d 105 69 [l0, l1, l2, l3, l4, l5] (v :: S) st P := zq_getfield (zd_of zb_X6_where dX6_where_66) zo_X6_where zf_6_55
theorem E_X6_where_69 : AW X d 105 69 [l0, .int x, l2, l3, l4, l5] S st P = AW X d 105 70 [l0, .int x, l2, l3, l4, l5] (.int x :: S) st P := zAW_st (zd_of zb_X6_where dX6_where_69) rfl rfl
theorem E_X6_where_70 : AW X d 105 70 [l0, l1, l2, l3, l4, l5] (.int x :: .ref a :: S) st P = zwith (zai X st a) fun q => zwith (zix x q.1) fun j => AW X d 105 71 [l0, l1, l2, l3, l4, l5] (.int (q.2 j) :: S) st P := zq_iaload (zd_of zb_X6_where dX6_where_70)
theorem E_X6_where_71 : AW X d 105 71 [l0, l1, l2, l3, l4, l5] S st P = AW X d 105 72 [l0, l1, l2, l3, l4, l5] (.int 1 :: S) st P := zq_iconst (zd_of zb_X6_where dX6_where_71) (by decide)
theorem E_X6_where_72 : AW X d 105 72 [l0, l1, l2, l3, l4, l5] (.int y :: .int x :: S) st P = if x = y then AW X d 105 85 [l0, l1, l2, l3, l4, l5] S st P else AW X d 105 75 [l0, l1, l2, l3, l4, l5] S st P := zq_icmp (c := x = y) (zd_of zb_X6_where dX6_where_72) (by decide) rfl
theorem E_X6_where_75 : AW X d 105 75 [.ref a, l1, l2, l3, l4, l5] S st P = AW X d 105 76 [.ref a, l1, l2, l3, l4, l5] (.ref a :: S) st P := zAW_st (zd_of zb_X6_where dX6_where_75) rfl rfl
theorem E_X6_where_75n : AW X d 105 75 [.null, l1, l2, l3, l4, l5] S st P = AW X d 105 76 [.null, l1, l2, l3, l4, l5] (.null :: S) st P := zAW_st (zd_of zb_X6_where dX6_where_75) rfl rfl
theorem E_X6_where_76 : AW X d 105 76 [l0, l1, l2, l3, l4, l5] (.ref a :: S) st P = zwith (zget st a 7 18) fun v => AW X d 105 79 [l0, l1, l2, l3, l4, l5] (v :: S) st P := zq_getfield (zd_of zb_X6_where dX6_where_76) zo_X6_where zf_6_55
theorem E_X6_where_79 : AW X d 105 79 [l0, .int x, l2, l3, l4, l5] S st P = AW X d 105 80 [l0, .int x, l2, l3, l4, l5] (.int x :: S) st P := zAW_st (zd_of zb_X6_where dX6_where_79) rfl rfl
theorem E_X6_where_80 : AW X d 105 80 [l0, l1, l2, l3, l4, l5] (.int x :: .ref a :: S) st P = zwith (zai X st a) fun q => zwith (zix x q.1) fun j => AW X d 105 81 [l0, l1, l2, l3, l4, l5] (.int (q.2 j) :: S) st P := zq_iaload (zd_of zb_X6_where dX6_where_80)
theorem E_X6_where_81 : AW X d 105 81 [l0, l1, l2, l3, l4, l5] S st P = AW X d 105 82 [l0, l1, l2, l3, l4, l5] (.int 2 :: S) st P := zq_iconst (zd_of zb_X6_where dX6_where_81) (by decide)
theorem E_X6_where_82 : AW X d 105 82 [l0, l1, l2, l3, l4, l5] (.int y :: .int x :: S) st P = if ¬ x = y then AW X d 105 99 [l0, l1, l2, l3, l4, l5] S st P else AW X d 105 85 [l0, l1, l2, l3, l4, l5] S st P := zq_icmp (c := ¬ x = y) (zd_of zb_X6_where dX6_where_82) (by decide) rfl
theorem E_X6_where_85 : AW X d 105 85 [.ref a, l1, l2, l3, l4, l5] S st P = AW X d 105 86 [.ref a, l1, l2, l3, l4, l5] (.ref a :: S) st P := zAW_st (zd_of zb_X6_where dX6_where_85) rfl rfl
theorem E_X6_where_85n : AW X d 105 85 [.null, l1, l2, l3, l4, l5] S st P = AW X d 105 86 [.null, l1, l2, l3, l4, l5] (.null :: S) st P := zAW_st (zd_of zb_X6_where dX6_where_85) rfl rfl
theorem E_X6_where_86 : AW X d 105 86 [l0, l1, l2, l3, l4, l5] (.ref a :: S) st P = zwith (zget st a 7 20) fun v => AW X d 105 89 [l0, l1, l2, l3, l4, l5] (v :: S) st P := zq_getfield (zd_of zb_X6_where dX6_where_86) zo_X6_where zf_6_61
theorem E_X6_where_89 : AW X d 105 89 [l0, l1, l2, l3, l4, l5] S st P = AW X d 105 91 [l0, l1, l2, l3, l4, l5] (.int 6 :: S) st P := zq_bipush (zd_of zb_X6_where dX6_where_89) (by decide)
theorem E_X6_where_91 : AW X d 105 91 [l0, .int x, l2, l3, l4, l5] S st P = AW X d 105 92 [l0, .int x, l2, l3, l4, l5] (.int x :: S) st P := zAW_st (zd_of zb_X6_where dX6_where_91) rfl rfl
theorem E_X6_where_92 : AW X d 105 92 [l0, l1, l2, l3, l4, l5] (.int y :: .int x :: S) st P = AW X d 105 93 [l0, l1, l2, l3, l4, l5] (.int (x * y) :: S) st P := zAW_st (zd_of zb_X6_where dX6_where_92) rfl rfl
theorem E_X6_where_93 : AW X d 105 93 [l0, l1, .int x, l3, l4, l5] S st P = AW X d 105 94 [l0, l1, .int x, l3, l4, l5] (.int x :: S) st P := zAW_st (zd_of zb_X6_where dX6_where_93) rfl rfl
theorem E_X6_where_94 : AW X d 105 94 [l0, l1, l2, l3, l4, l5] (.int y :: .int x :: S) st P = AW X d 105 95 [l0, l1, l2, l3, l4, l5] (.int (x + y) :: S) st P := zAW_st (zd_of zb_X6_where dX6_where_94) rfl rfl
theorem E_X6_where_95 : AW X d 105 95 [l0, l1, l2, l3, l4, l5] (.int x :: .ref a :: S) st P = zwith (zai X st a) fun q => zwith (zix x q.1) fun j => AW X d 105 96 [l0, l1, l2, l3, l4, l5] (.int (q.2 j) :: S) st P := zq_iaload (zd_of zb_X6_where dX6_where_95)
theorem E_X6_where_96 : AW X d 105 96 [l0, l1, l2, l3, l4, l5] S st P = AW X d 105 100 [l0, l1, l2, l3, l4, l5] S st P := zq_goto (zd_of zb_X6_where dX6_where_96) (by decide)
theorem E_X6_where_99 : AW X d 105 99 [l0, l1, l2, l3, l4, l5] S st P = AW X d 105 100 [l0, l1, l2, l3, l4, l5] (.int (-1) :: S) st P := zq_iconst (zd_of zb_X6_where dX6_where_99) (by decide)
theorem E_X6_where_100 : AW X d 105 100 [l0, l1, l2, l3, l4, l5] (.int x :: S) st P = AW X d 105 102 [l0, l1, l2, l3, l4, .int x] S st P := zAW_st (zd_of zb_X6_where dX6_where_100) rfl rfl
theorem E_X6_where_102 : AW X d 105 102 [l0, l1, l2, l3, l4, .int x] S st P = AW X d 105 104 [l0, l1, l2, l3, l4, .int x] (.int x :: S) st P := zAW_st (zd_of zb_X6_where dX6_where_102) rfl rfl
theorem E_X6_where_104 : AW X d 105 104 [l0, l1, l2, l3, l4, l5] (.int x :: S) st P = if 0 ≤ x then AW X d 105 111 [l0, l1, l2, l3, l4, l5] S st P else AW X d 105 107 [l0, l1, l2, l3, l4, l5] S st P := zq_if (c := 0 ≤ x) (zd_of zb_X6_where dX6_where_104) (by decide) rfl
theorem E_X6_where_107 : AW X d 105 107 [l0, l1, l2, l3, l4, l5] S st P = AW X d 105 108 [l0, l1, l2, l3, l4, l5] (.int (-1) :: S) st P := zq_iconst (zd_of zb_X6_where dX6_where_107) (by decide)
theorem E_X6_where_108 : AW X d 105 108 [l0, l1, l2, l3, l4, l5] S st P = AW X d 105 157 [l0, l1, l2, l3, l4, l5] S st P := zq_goto (zd_of zb_X6_where dX6_where_108) (by decide)
theorem E_X6_where_111 : AW X d 105 111 [l0, l1, l2, .int x, l4, l5] S st P = AW X d 105 112 [l0, l1, l2, .int x, l4, l5] (.int x :: S) st P := zAW_st (zd_of zb_X6_where dX6_where_111) rfl rfl
theorem E_X6_where_112 : AW X d 105 112 [l0, l1, l2, l3, l4, l5] (.int x :: S) st P = if ¬ x = 0 then AW X d 105 125 [l0, l1, l2, l3, l4, l5] S st P else AW X d 105 115 [l0, l1, l2, l3, l4, l5] S st P := zq_if (c := ¬ x = 0) (zd_of zb_X6_where dX6_where_112) (by decide) rfl
theorem E_X6_where_115 : AW X d 105 115 [.ref a, l1, l2, l3, l4, l5] S st P = AW X d 105 116 [.ref a, l1, l2, l3, l4, l5] (.ref a :: S) st P := zAW_st (zd_of zb_X6_where dX6_where_115) rfl rfl
theorem E_X6_where_115n : AW X d 105 115 [.null, l1, l2, l3, l4, l5] S st P = AW X d 105 116 [.null, l1, l2, l3, l4, l5] (.null :: S) st P := zAW_st (zd_of zb_X6_where dX6_where_115) rfl rfl
theorem E_X6_where_116 : AW X d 105 116 [l0, l1, l2, l3, l4, l5] (.ref a :: S) st P = zwith (zget st a 7 7) fun v => AW X d 105 119 [l0, l1, l2, l3, l4, l5] (v :: S) st P := zq_getfield (zd_of zb_X6_where dX6_where_116) zo_X6_where zf_6_28
theorem E_X6_where_119 : AW X d 105 119 [l0, l1, l2, l3, l4, .int x] S st P = AW X d 105 121 [l0, l1, l2, l3, l4, .int x] (.int x :: S) st P := zAW_st (zd_of zb_X6_where dX6_where_119) rfl rfl
theorem E_X6_where_121 : AW X d 105 121 [l0, l1, l2, l3, l4, l5] (.int x :: .ref a :: S) st P = zwith (zai X st a) fun q => zwith (zix x q.1) fun j => AW X d 105 122 [l0, l1, l2, l3, l4, l5] (.int (q.2 j) :: S) st P := zq_iaload (zd_of zb_X6_where dX6_where_121)
theorem E_X6_where_122 : AW X d 105 122 [l0, l1, l2, l3, l4, l5] S st P = AW X d 105 157 [l0, l1, l2, l3, l4, l5] S st P := zq_goto (zd_of zb_X6_where dX6_where_122) (by decide)
theorem E_X6_where_125 : AW X d 105 125 [l0, l1, l2, .int x, l4, l5] S st P = AW X d 105 126 [l0, l1, l2, .int x, l4, l5] (.int x :: S) st P := zAW_st (zd_of zb_X6_where dX6_where_125) rfl rfl
theorem E_X6_where_126 : AW X d 105 126 [l0, l1, l2, l3, l4, l5] S st P = AW X d 105 127 [l0, l1, l2, l3, l4, l5] (.int 1 :: S) st P := zq_iconst (zd_of zb_X6_where dX6_where_126) (by decide)
theorem E_X6_where_127 : AW X d 105 127 [l0, l1, l2, l3, l4, l5] (.int y :: .int x :: S) st P = if ¬ x = y then AW X d 105 140 [l0, l1, l2, l3, l4, l5] S st P else AW X d 105 130 [l0, l1, l2, l3, l4, l5] S st P := zq_icmp (c := ¬ x = y) (zd_of zb_X6_where dX6_where_127) (by decide) rfl
theorem E_X6_where_130 : AW X d 105 130 [.ref a, l1, l2, l3, l4, l5] S st P = AW X d 105 131 [.ref a, l1, l2, l3, l4, l5] (.ref a :: S) st P := zAW_st (zd_of zb_X6_where dX6_where_130) rfl rfl
theorem E_X6_where_130n : AW X d 105 130 [.null, l1, l2, l3, l4, l5] S st P = AW X d 105 131 [.null, l1, l2, l3, l4, l5] (.null :: S) st P := zAW_st (zd_of zb_X6_where dX6_where_130) rfl rfl
theorem E_X6_where_131 : AW X d 105 131 [l0, l1, l2, l3, l4, l5] (.ref a :: S) st P = zwith (zget st a 7 8) fun v => AW X d 105 134 [l0, l1, l2, l3, l4, l5] (v :: S) st P := zq_getfield (zd_of zb_X6_where dX6_where_131) zo_X6_where zf_6_31
theorem E_X6_where_134 : AW X d 105 134 [l0, l1, l2, l3, l4, .int x] S st P = AW X d 105 136 [l0, l1, l2, l3, l4, .int x] (.int x :: S) st P := zAW_st (zd_of zb_X6_where dX6_where_134) rfl rfl
theorem E_X6_where_136 : AW X d 105 136 [l0, l1, l2, l3, l4, l5] (.int x :: .ref a :: S) st P = zwith (zai X st a) fun q => zwith (zix x q.1) fun j => AW X d 105 137 [l0, l1, l2, l3, l4, l5] (.int (q.2 j) :: S) st P := zq_iaload (zd_of zb_X6_where dX6_where_136)
theorem E_X6_where_137 : AW X d 105 137 [l0, l1, l2, l3, l4, l5] S st P = AW X d 105 157 [l0, l1, l2, l3, l4, l5] S st P := zq_goto (zd_of zb_X6_where dX6_where_137) (by decide)
theorem E_X6_where_140 : AW X d 105 140 [l0, l1, l2, .int x, l4, l5] S st P = AW X d 105 141 [l0, l1, l2, .int x, l4, l5] (.int x :: S) st P := zAW_st (zd_of zb_X6_where dX6_where_140) rfl rfl
theorem E_X6_where_141 : AW X d 105 141 [l0, l1, l2, l3, l4, l5] S st P = AW X d 105 142 [l0, l1, l2, l3, l4, l5] (.int 2 :: S) st P := zq_iconst (zd_of zb_X6_where dX6_where_141) (by decide)
theorem E_X6_where_142 : AW X d 105 142 [l0, l1, l2, l3, l4, l5] (.int y :: .int x :: S) st P = if ¬ x = y then AW X d 105 155 [l0, l1, l2, l3, l4, l5] S st P else AW X d 105 145 [l0, l1, l2, l3, l4, l5] S st P := zq_icmp (c := ¬ x = y) (zd_of zb_X6_where dX6_where_142) (by decide) rfl
theorem E_X6_where_145 : AW X d 105 145 [.ref a, l1, l2, l3, l4, l5] S st P = AW X d 105 146 [.ref a, l1, l2, l3, l4, l5] (.ref a :: S) st P := zAW_st (zd_of zb_X6_where dX6_where_145) rfl rfl
theorem E_X6_where_145n : AW X d 105 145 [.null, l1, l2, l3, l4, l5] S st P = AW X d 105 146 [.null, l1, l2, l3, l4, l5] (.null :: S) st P := zAW_st (zd_of zb_X6_where dX6_where_145) rfl rfl
theorem E_X6_where_146 : AW X d 105 146 [l0, l1, l2, l3, l4, l5] (.ref a :: S) st P = zwith (zget st a 7 9) fun v => AW X d 105 149 [l0, l1, l2, l3, l4, l5] (v :: S) st P := zq_getfield (zd_of zb_X6_where dX6_where_146) zo_X6_where zf_6_34
theorem E_X6_where_149 : AW X d 105 149 [l0, l1, l2, l3, l4, .int x] S st P = AW X d 105 151 [l0, l1, l2, l3, l4, .int x] (.int x :: S) st P := zAW_st (zd_of zb_X6_where dX6_where_149) rfl rfl
theorem E_X6_where_151 : AW X d 105 151 [l0, l1, l2, l3, l4, l5] (.int x :: .ref a :: S) st P = zwith (zai X st a) fun q => zwith (zix x q.1) fun j => AW X d 105 152 [l0, l1, l2, l3, l4, l5] (.int (q.2 j) :: S) st P := zq_iaload (zd_of zb_X6_where dX6_where_151)
theorem E_X6_where_152 : AW X d 105 152 [l0, l1, l2, l3, l4, l5] S st P = AW X d 105 157 [l0, l1, l2, l3, l4, l5] S st P := zq_goto (zd_of zb_X6_where dX6_where_152) (by decide)
theorem E_X6_where_155 : AW X d 105 155 [l0, l1, l2, l3, l4, .int x] S st P = AW X d 105 157 [l0, l1, l2, l3, l4, .int x] (.int x :: S) st P := zAW_st (zd_of zb_X6_where dX6_where_155) rfl rfl
theorem E_X6_where_157 : AW X d 105 157 [l0, l1, l2, l3, l4, l5] ([.int x]) st P = P (.inl (some (.int x))) st := zAW_ret (w := (.inl (some (.int x)), st)) (zd_of zb_X6_where dX6_where_157) rfl rfl (by simp only [zfin, zr_X6_where])
theorem A_X6_where : AC X (d + 1) 105 [.ref a, .int x, .int y, .int x3] st P = AW X d 105 0 [.ref a, .int x, .int y, .int x3, .retAddr 0, .retAddr 0] [] st P := AC_eq ⟨⟨(show 4 ≤ zml 105 by decide +kernel), by decide +kernel⟩, by simp [zc1_int, zc1_ref, zc1_float]⟩
theorem E_X6_free_0 : AW X d 106 0 [.ref a, l1, l2, l3] S st P = AW X d 106 1 [.ref a, l1, l2, l3] (.ref a :: S) st P := zAW_st (zd_of zb_X6_free dX6_free_0) rfl rfl
theorem E_X6_free_0n : AW X d 106 0 [.null, l1, l2, l3] S st P = AW X d 106 1 [.null, l1, l2, l3] (.null :: S) st P := zAW_st (zd_of zb_X6_free dX6_free_0) rfl rfl
theorem E_X6_free_1 : AW X d 106 1 [l0, .int x, l2, l3] S st P = AW X d 106 2 [l0, .int x, l2, l3] (.int x :: S) st P := zAW_st (zd_of zb_X6_free dX6_free_1) rfl rfl
theorem E_X6_free_2 : AW X d 106 2 [l0, l1, l2, l3] (.int x :: S) st P = if 0 ≤ x then AW X d 106 9 [l0, l1, l2, l3] S st P else AW X d 106 5 [l0, l1, l2, l3] S st P := zq_if (c := 0 ≤ x) (zd_of zb_X6_free dX6_free_2) (by decide) rfl
theorem E_X6_free_5 : AW X d 106 5 [l0, l1, l2, l3] S st P = AW X d 106 6 [l0, l1, l2, l3] (.int 1 :: S) st P := zq_iconst (zd_of zb_X6_free dX6_free_5) (by decide)
theorem E_X6_free_6 : AW X d 106 6 [l0, l1, l2, l3] S st P = AW X d 106 10 [l0, l1, l2, l3] S st P := zq_goto (zd_of zb_X6_free dX6_free_6) (by decide)
theorem E_X6_free_9 : AW X d 106 9 [l0, l1, l2, l3] S st P = AW X d 106 10 [l0, l1, l2, l3] (.int 0 :: S) st P := zq_iconst (zd_of zb_X6_free dX6_free_9) (by decide)
theorem E_X6_free_10 : AW X d 106 10 [l0, l1, l2, l3] (.int x :: .ref a :: S) st P = zif (zis st a 7 = true) (zif (S.length ≤ 4) (AC X d 74 [.ref a, .int x] st (zaft X d 106 10 [l0, l1, l2, l3] S P))) := zq_callV (B := [.int x]) (zd_of zb_X6_free dX6_free_10) zo_X6_free (by decide) zl_6_78 zn_74 rfl rfl rfl
theorem E_X6_free_13 : AW X d 106 13 [l0, l1, l2, l3] (.int x :: S) st P = if x = 0 then AW X d 106 18 [l0, l1, l2, l3] S st P else AW X d 106 16 [l0, l1, l2, l3] S st P := zq_if (c := x = 0) (zd_of zb_X6_free dX6_free_13) (by decide) rfl
theorem E_X6_free_16 : AW X d 106 16 [l0, l1, l2, l3] S st P = AW X d 106 17 [l0, l1, l2, l3] (.int (-1) :: S) st P := zq_iconst (zd_of zb_X6_free dX6_free_16) (by decide)
theorem E_X6_free_17 : AW X d 106 17 [l0, l1, l2, l3] ([.int x]) st P = P (.inl (some (.int x))) st := zAW_ret (w := (.inl (some (.int x)), st)) (zd_of zb_X6_free dX6_free_17) rfl rfl (by simp only [zfin, zr_X6_free])
theorem E_X6_free_18 : AW X d 106 18 [l0, l1, l2, l3] S st P = AW X d 106 19 [l0, l1, l2, l3] (.int 0 :: S) st P := zq_iconst (zd_of zb_X6_free dX6_free_18) (by decide)
theorem E_X6_free_19 : AW X d 106 19 [l0, l1, l2, l3] (.int x :: S) st P = AW X d 106 20 [l0, l1, .int x, l3] S st P := zAW_st (zd_of zb_X6_free dX6_free_19) rfl rfl
theorem E_X6_free_20 : AW X d 106 20 [l0, l1, l2, l3] S st P = AW X d 106 21 [l0, l1, l2, l3] (.int 0 :: S) st P := zq_iconst (zd_of zb_X6_free dX6_free_20) (by decide)
theorem E_X6_free_21 : AW X d 106 21 [l0, l1, l2, l3] (.int x :: S) st P = AW X d 106 22 [l0, l1, l2, .int x] S st P := zAW_st (zd_of zb_X6_free dX6_free_21) rfl rfl
theorem E_X6_free_22 : AW X d 106 22 [l0, l1, l2, .int x] S st P = AW X d 106 23 [l0, l1, l2, .int x] (.int x :: S) st P := zAW_st (zd_of zb_X6_free dX6_free_22) rfl rfl
theorem E_X6_free_23 : AW X d 106 23 [.ref a, l1, l2, l3] S st P = AW X d 106 24 [.ref a, l1, l2, l3] (.ref a :: S) st P := zAW_st (zd_of zb_X6_free dX6_free_23) rfl rfl
theorem E_X6_free_23n : AW X d 106 23 [.null, l1, l2, l3] S st P = AW X d 106 24 [.null, l1, l2, l3] (.null :: S) st P := zAW_st (zd_of zb_X6_free dX6_free_23) rfl rfl
theorem E_X6_free_24 : AW X d 106 24 [l0, l1, l2, l3] (.ref a :: S) st P = zwith (zget st a 7 14) fun v => AW X d 106 27 [l0, l1, l2, l3] (v :: S) st P := zq_getfield (zd_of zb_X6_free dX6_free_24) zo_X6_free zf_6_115
theorem E_X6_free_27 : AW X d 106 27 [l0, l1, l2, l3] (.int y :: .int x :: S) st P = if y ≤ x then AW X d 106 81 [l0, l1, l2, l3] S st P else AW X d 106 30 [l0, l1, l2, l3] S st P := zq_icmp (c := y ≤ x) (zd_of zb_X6_free dX6_free_27) (by decide) rfl
theorem E_X6_free_30 : AW X d 106 30 [.ref a, l1, l2, l3] S st P = AW X d 106 31 [.ref a, l1, l2, l3] (.ref a :: S) st P := zAW_st (zd_of zb_X6_free dX6_free_30) rfl rfl
theorem E_X6_free_30n : AW X d 106 30 [.null, l1, l2, l3] S st P = AW X d 106 31 [.null, l1, l2, l3] (.null :: S) st P := zAW_st (zd_of zb_X6_free dX6_free_30) rfl rfl
theorem E_X6_free_31 : AW X d 106 31 [l0, l1, l2, l3] (.ref a :: S) st P = zwith (zget st a 7 12) fun v => AW X d 106 34 [l0, l1, l2, l3] (v :: S) st P := zq_getfield (zd_of zb_X6_free dX6_free_31) zo_X6_free zf_6_43
theorem E_X6_free_34 : AW X d 106 34 [l0, l1, l2, .int x] S st P = AW X d 106 35 [l0, l1, l2, .int x] (.int x :: S) st P := zAW_st (zd_of zb_X6_free dX6_free_34) rfl rfl
theorem E_X6_free_35 : AW X d 106 35 [l0, l1, l2, l3] (.int x :: .ref a :: S) st P = zwith (zai X st a) fun q => zwith (zix x q.1) fun j => AW X d 106 36 [l0, l1, l2, l3] (.int (q.2 j) :: S) st P := zq_iaload (zd_of zb_X6_free dX6_free_35)
theorem E_X6_free_36 : AW X d 106 36 [l0, l1, l2, l3] (.int x :: S) st P = if ¬ x = 0 then AW X d 106 75 [l0, l1, l2, l3] S st P else AW X d 106 39 [l0, l1, l2, l3] S st P := zq_if (c := ¬ x = 0) (zd_of zb_X6_free dX6_free_36) (by decide) rfl
theorem E_X6_free_39 : AW X d 106 39 [l0, l1, .int x, l3] S st P = AW X d 106 40 [l0, l1, .int x, l3] (.int x :: S) st P := zAW_st (zd_of zb_X6_free dX6_free_39) rfl rfl
theorem E_X6_free_40 : AW X d 106 40 [l0, .int x, l2, l3] S st P = AW X d 106 41 [l0, .int x, l2, l3] (.int x :: S) st P := zAW_st (zd_of zb_X6_free dX6_free_40) rfl rfl
theorem E_X6_free_41 : AW X d 106 41 [l0, l1, l2, l3] (.int y :: .int x :: S) st P = if ¬ x = y then AW X d 106 72 [l0, l1, l2, l3] S st P else AW X d 106 44 [l0, l1, l2, l3] S st P := zq_icmp (c := ¬ x = y) (zd_of zb_X6_free dX6_free_41) (by decide) rfl
theorem E_X6_free_44 : AW X d 106 44 [l0, l1, l2, l3] S st P = AW X d 106 47 [l0, l1, l2, l3] (.int 10000 :: S) st P := zq_sipush (zd_of zb_X6_free dX6_free_44) (by decide)
theorem E_X6_free_47 : AW X d 106 47 [.ref a, l1, l2, l3] S st P = AW X d 106 48 [.ref a, l1, l2, l3] (.ref a :: S) st P := zAW_st (zd_of zb_X6_free dX6_free_47) rfl rfl
theorem E_X6_free_47n : AW X d 106 47 [.null, l1, l2, l3] S st P = AW X d 106 48 [.null, l1, l2, l3] (.null :: S) st P := zAW_st (zd_of zb_X6_free dX6_free_47) rfl rfl
theorem E_X6_free_48 : AW X d 106 48 [l0, l1, l2, l3] (.ref a :: S) st P = zwith (zget st a 7 7) fun v => AW X d 106 51 [l0, l1, l2, l3] (v :: S) st P := zq_getfield (zd_of zb_X6_free dX6_free_48) zo_X6_free zf_6_28
theorem E_X6_free_51 : AW X d 106 51 [l0, l1, l2, .int x] S st P = AW X d 106 52 [l0, l1, l2, .int x] (.int x :: S) st P := zAW_st (zd_of zb_X6_free dX6_free_51) rfl rfl
theorem E_X6_free_52 : AW X d 106 52 [l0, l1, l2, l3] (.int x :: .ref a :: S) st P = zwith (zai X st a) fun q => zwith (zix x q.1) fun j => AW X d 106 53 [l0, l1, l2, l3] (.int (q.2 j) :: S) st P := zq_iaload (zd_of zb_X6_free dX6_free_52)
theorem E_X6_free_53 : AW X d 106 53 [l0, l1, l2, l3] (.int y :: .int x :: S) st P = AW X d 106 54 [l0, l1, l2, l3] (.int (x * y) :: S) st P := zAW_st (zd_of zb_X6_free dX6_free_53) rfl rfl
theorem E_X6_free_54 : AW X d 106 54 [l0, l1, l2, l3] S st P = AW X d 106 56 [l0, l1, l2, l3] (.int 100 :: S) st P := zq_bipush (zd_of zb_X6_free dX6_free_54) (by decide)
theorem E_X6_free_56 : AW X d 106 56 [.ref a, l1, l2, l3] S st P = AW X d 106 57 [.ref a, l1, l2, l3] (.ref a :: S) st P := zAW_st (zd_of zb_X6_free dX6_free_56) rfl rfl
theorem E_X6_free_56n : AW X d 106 56 [.null, l1, l2, l3] S st P = AW X d 106 57 [.null, l1, l2, l3] (.null :: S) st P := zAW_st (zd_of zb_X6_free dX6_free_56) rfl rfl
theorem E_X6_free_57 : AW X d 106 57 [l0, l1, l2, l3] (.ref a :: S) st P = zwith (zget st a 7 10) fun v => AW X d 106 60 [l0, l1, l2, l3] (v :: S) st P := zq_getfield (zd_of zb_X6_free dX6_free_57) zo_X6_free zf_6_37
theorem E_X6_free_60 : AW X d 106 60 [l0, l1, l2, .int x] S st P = AW X d 106 61 [l0, l1, l2, .int x] (.int x :: S) st P := zAW_st (zd_of zb_X6_free dX6_free_60) rfl rfl
theorem E_X6_free_61 : AW X d 106 61 [l0, l1, l2, l3] (.int x :: .ref a :: S) st P = zwith (zai X st a) fun q => zwith (zix x q.1) fun j => AW X d 106 62 [l0, l1, l2, l3] (.int (q.2 j) :: S) st P := zq_iaload (zd_of zb_X6_free dX6_free_61)
theorem E_X6_free_62 : AW X d 106 62 [l0, l1, l2, l3] (.int y :: .int x :: S) st P = AW X d 106 63 [l0, l1, l2, l3] (.int (x * y) :: S) st P := zAW_st (zd_of zb_X6_free dX6_free_62) rfl rfl
theorem E_X6_free_63 : AW X d 106 63 [l0, l1, l2, l3] (.int y :: .int x :: S) st P = AW X d 106 64 [l0, l1, l2, l3] (.int (x + y) :: S) st P := zAW_st (zd_of zb_X6_free dX6_free_63) rfl rfl
theorem E_X6_free_64 : AW X d 106 64 [.ref a, l1, l2, l3] S st P = AW X d 106 65 [.ref a, l1, l2, l3] (.ref a :: S) st P := zAW_st (zd_of zb_X6_free dX6_free_64) rfl rfl
theorem E_X6_free_64n : AW X d 106 64 [.null, l1, l2, l3] S st P = AW X d 106 65 [.null, l1, l2, l3] (.null :: S) st P := zAW_st (zd_of zb_X6_free dX6_free_64) rfl rfl
theorem E_X6_free_65 : AW X d 106 65 [l0, l1, l2, l3] (.ref a :: S) st P = zwith (zget st a 7 11) fun v => AW X d 106 68 [l0, l1, l2, l3] (v :: S) st P := zq_getfield (zd_of zb_X6_free dX6_free_65) zo_X6_free zf_6_40
theorem E_X6_free_68 : AW X d 106 68 [l0, l1, l2, .int x] S st P = AW X d 106 69 [l0, l1, l2, .int x] (.int x :: S) st P := zAW_st (zd_of zb_X6_free dX6_free_68) rfl rfl
theorem E_X6_free_69 : AW X d 106 69 [l0, l1, l2, l3] (.int x :: .ref a :: S) st P = zwith (zai X st a) fun q => zwith (zix x q.1) fun j => AW X d 106 70 [l0, l1, l2, l3] (.int (q.2 j) :: S) st P := zq_iaload (zd_of zb_X6_free dX6_free_69)
theorem E_X6_free_70 : AW X d 106 70 [l0, l1, l2, l3] (.int y :: .int x :: S) st P = AW X d 106 71 [l0, l1, l2, l3] (.int (x + y) :: S) st P := zAW_st (zd_of zb_X6_free dX6_free_70) rfl rfl
theorem E_X6_free_71 : AW X d 106 71 [l0, l1, l2, l3] ([.int x]) st P = P (.inl (some (.int x))) st := zAW_ret (w := (.inl (some (.int x)), st)) (zd_of zb_X6_free dX6_free_71) rfl rfl (by simp only [zfin, zr_X6_free])
theorem E_X6_free_72 : AW X d 106 72 [l0, l1, .int x, l3] S st P = AW X d 106 75 [l0, l1, .int (x + 1), l3] S st P := zq_iinc (zd_of zb_X6_free dX6_free_72) rfl (by decide)
theorem E_X6_free_75 : AW X d 106 75 [l0, l1, l2, .int x] S st P = AW X d 106 78 [l0, l1, l2, .int (x + 1)] S st P := zq_iinc (zd_of zb_X6_free dX6_free_75) rfl (by decide)
theorem E_X6_free_78 : AW X d 106 78 [l0, l1, l2, l3] S st P = AW X d 106 22 [l0, l1, l2, l3] S st P := zq_goto (zd_of zb_X6_free dX6_free_78) (by decide)
theorem E_X6_free_81 : AW X d 106 81 [l0, l1, l2, l3] S st P = AW X d 106 82 [l0, l1, l2, l3] (.int (-1) :: S) st P := zq_iconst (zd_of zb_X6_free dX6_free_81) (by decide)
theorem E_X6_free_82 : AW X d 106 82 [l0, l1, l2, l3] ([.int x]) st P = P (.inl (some (.int x))) st := zAW_ret (w := (.inl (some (.int x)), st)) (zd_of zb_X6_free dX6_free_82) rfl rfl (by simp only [zfin, zr_X6_free])
theorem A_X6_free : AC X (d + 1) 106 [.ref a, .int x] st P = AW X d 106 0 [.ref a, .int x, .retAddr 0, .retAddr 0] [] st P := AC_eq ⟨⟨(show 2 ≤ zml 106 by decide +kernel), by decide +kernel⟩, by simp [zc1_int, zc1_ref, zc1_float]⟩
theorem E_X6_minutes_0 : AW X d 107 0 [.ref a] S st P = AW X d 107 1 [.ref a] (.ref a :: S) st P := zAW_st (zd_of zb_X6_minutes dX6_minutes_0) rfl rfl
theorem E_X6_minutes_0n : AW X d 107 0 [.null] S st P = AW X d 107 1 [.null] (.null :: S) st P := zAW_st (zd_of zb_X6_minutes dX6_minutes_0) rfl rfl
theorem E_X6_minutes_1 : AW X d 107 1 [l0] S st P = AW X d 107 2 [l0] (.int 0 :: S) st P := zq_iconst (zd_of zb_X6_minutes dX6_minutes_1) (by decide)
theorem E_X6_minutes_2 : AW X d 107 2 [l0] (.int x :: .ref a :: S) st P = zif (zis st a 7 = true) (zif (S.length ≤ 4) (AC X d 74 [.ref a, .int x] st (zaft X d 107 2 [l0] S P))) := zq_callV (B := [.int x]) (zd_of zb_X6_minutes dX6_minutes_2) zo_X6_minutes (by decide) zl_6_78 zn_74 rfl rfl rfl
theorem E_X6_minutes_5 : AW X d 107 5 [l0] (.ref a :: S) st P = AW X d 107 6 [l0] S st P := zq_pop (zd_of zb_X6_minutes dX6_minutes_5) rfl
theorem E_X6_minutes_5n : AW X d 107 5 [l0] (.null :: S) st P = AW X d 107 6 [l0] S st P := zq_pop (zd_of zb_X6_minutes dX6_minutes_5) rfl
theorem E_X6_minutes_5i : AW X d 107 5 [l0] (.int x :: S) st P = AW X d 107 6 [l0] S st P := zq_pop (zd_of zb_X6_minutes dX6_minutes_5) rfl
theorem E_X6_minutes_5f : AW X d 107 5 [l0] (.float u :: S) st P = AW X d 107 6 [l0] S st P := zq_pop (zd_of zb_X6_minutes dX6_minutes_5) rfl
theorem E_X6_minutes_6 : AW X d 107 6 [.ref a] S st P = AW X d 107 7 [.ref a] (.ref a :: S) st P := zAW_st (zd_of zb_X6_minutes dX6_minutes_6) rfl rfl
theorem E_X6_minutes_6n : AW X d 107 6 [.null] S st P = AW X d 107 7 [.null] (.null :: S) st P := zAW_st (zd_of zb_X6_minutes dX6_minutes_6) rfl rfl
theorem E_X6_minutes_7 : AW X d 107 7 [l0] (.ref a :: S) st P = zwith (zget st a 7 23) fun v => AW X d 107 10 [l0] (v :: S) st P := zq_getfield (zd_of zb_X6_minutes dX6_minutes_7) zo_X6_minutes zf_6_162
theorem E_X6_minutes_10 : AW X d 107 10 [l0] ([.int x]) st P = P (.inl (some (.int x))) st := zAW_ret (w := (.inl (some (.int x)), st)) (zd_of zb_X6_minutes dX6_minutes_10) rfl rfl (by simp only [zfin, zr_X6_minutes])
theorem A_X6_minutes : AC X (d + 1) 107 [.ref a] st P = AW X d 107 0 [.ref a] [] st P := AC_eq ⟨⟨(show 1 ≤ zml 107 by decide +kernel), by decide +kernel⟩, by simp [zc1_int, zc1_ref, zc1_float]⟩
theorem E_X6_cutLength_0 : AW X d 108 0 [.ref a] S st P = AW X d 108 1 [.ref a] (.ref a :: S) st P := zAW_st (zd_of zb_X6_cutLength dX6_cutLength_0) rfl rfl
theorem E_X6_cutLength_0n : AW X d 108 0 [.null] S st P = AW X d 108 1 [.null] (.null :: S) st P := zAW_st (zd_of zb_X6_cutLength dX6_cutLength_0) rfl rfl
theorem E_X6_cutLength_1 : AW X d 108 1 [l0] S st P = AW X d 108 2 [l0] (.int 0 :: S) st P := zq_iconst (zd_of zb_X6_cutLength dX6_cutLength_1) (by decide)
theorem E_X6_cutLength_2 : AW X d 108 2 [l0] (.int x :: .ref a :: S) st P = zif (zis st a 7 = true) (zif (S.length ≤ 4) (AC X d 74 [.ref a, .int x] st (zaft X d 108 2 [l0] S P))) := zq_callV (B := [.int x]) (zd_of zb_X6_cutLength dX6_cutLength_2) zo_X6_cutLength (by decide) zl_6_78 zn_74 rfl rfl rfl
theorem E_X6_cutLength_5 : AW X d 108 5 [l0] (.ref a :: S) st P = AW X d 108 6 [l0] S st P := zq_pop (zd_of zb_X6_cutLength dX6_cutLength_5) rfl
theorem E_X6_cutLength_5n : AW X d 108 5 [l0] (.null :: S) st P = AW X d 108 6 [l0] S st P := zq_pop (zd_of zb_X6_cutLength dX6_cutLength_5) rfl
theorem E_X6_cutLength_5i : AW X d 108 5 [l0] (.int x :: S) st P = AW X d 108 6 [l0] S st P := zq_pop (zd_of zb_X6_cutLength dX6_cutLength_5) rfl
theorem E_X6_cutLength_5f : AW X d 108 5 [l0] (.float u :: S) st P = AW X d 108 6 [l0] S st P := zq_pop (zd_of zb_X6_cutLength dX6_cutLength_5) rfl
theorem E_X6_cutLength_6 : AW X d 108 6 [.ref a] S st P = AW X d 108 7 [.ref a] (.ref a :: S) st P := zAW_st (zd_of zb_X6_cutLength dX6_cutLength_6) rfl rfl
theorem E_X6_cutLength_6n : AW X d 108 6 [.null] S st P = AW X d 108 7 [.null] (.null :: S) st P := zAW_st (zd_of zb_X6_cutLength dX6_cutLength_6) rfl rfl
theorem E_X6_cutLength_7 : AW X d 108 7 [l0] (.ref a :: S) st P = zwith (zget st a 7 24) fun v => AW X d 108 10 [l0] (v :: S) st P := zq_getfield (zd_of zb_X6_cutLength dX6_cutLength_7) zo_X6_cutLength zf_6_158
theorem E_X6_cutLength_10 : AW X d 108 10 [l0] ([.float u]) st P = P (.inl (some (.float u))) st := zAW_ret (w := (.inl (some (.float u)), st)) (zd_of zb_X6_cutLength dX6_cutLength_10) rfl rfl (by simp only [zfin, zr_X6_cutLength])
theorem A_X6_cutLength : AC X (d + 1) 108 [.ref a] st P = AW X d 108 0 [.ref a] [] st P := AC_eq ⟨⟨(show 1 ≤ zml 108 by decide +kernel), by decide +kernel⟩, by simp [zc1_int, zc1_ref, zc1_float]⟩
theorem E_X6_cutAnew_0 : AW X d 109 0 [.ref a] S st P = AW X d 109 1 [.ref a] (.ref a :: S) st P := zAW_st (zd_of zb_X6_cutAnew dX6_cutAnew_0) rfl rfl
theorem E_X6_cutAnew_0n : AW X d 109 0 [.null] S st P = AW X d 109 1 [.null] (.null :: S) st P := zAW_st (zd_of zb_X6_cutAnew dX6_cutAnew_0) rfl rfl
theorem E_X6_cutAnew_1 : AW X d 109 1 [l0] S st P = AW X d 109 2 [l0] (.int 0 :: S) st P := zq_iconst (zd_of zb_X6_cutAnew dX6_cutAnew_1) (by decide)
theorem E_X6_cutAnew_2 : AW X d 109 2 [l0] (.int x :: .ref a :: S) st P = zif (zis st a 7 = true) (zif (S.length ≤ 4) (AC X d 74 [.ref a, .int x] st (zaft X d 109 2 [l0] S P))) := zq_callV (B := [.int x]) (zd_of zb_X6_cutAnew dX6_cutAnew_2) zo_X6_cutAnew (by decide) zl_6_78 zn_74 rfl rfl rfl
theorem E_X6_cutAnew_5 : AW X d 109 5 [l0] (.ref a :: S) st P = AW X d 109 6 [l0] S st P := zq_pop (zd_of zb_X6_cutAnew dX6_cutAnew_5) rfl
theorem E_X6_cutAnew_5n : AW X d 109 5 [l0] (.null :: S) st P = AW X d 109 6 [l0] S st P := zq_pop (zd_of zb_X6_cutAnew dX6_cutAnew_5) rfl
theorem E_X6_cutAnew_5i : AW X d 109 5 [l0] (.int x :: S) st P = AW X d 109 6 [l0] S st P := zq_pop (zd_of zb_X6_cutAnew dX6_cutAnew_5) rfl
theorem E_X6_cutAnew_5f : AW X d 109 5 [l0] (.float u :: S) st P = AW X d 109 6 [l0] S st P := zq_pop (zd_of zb_X6_cutAnew dX6_cutAnew_5) rfl
theorem E_X6_cutAnew_6 : AW X d 109 6 [.ref a] S st P = AW X d 109 7 [.ref a] (.ref a :: S) st P := zAW_st (zd_of zb_X6_cutAnew dX6_cutAnew_6) rfl rfl
theorem E_X6_cutAnew_6n : AW X d 109 6 [.null] S st P = AW X d 109 7 [.null] (.null :: S) st P := zAW_st (zd_of zb_X6_cutAnew dX6_cutAnew_6) rfl rfl
theorem E_X6_cutAnew_7 : AW X d 109 7 [l0] (.ref a :: S) st P = zwith (zget st a 7 24) fun v => AW X d 109 10 [l0] (v :: S) st P := zq_getfield (zd_of zb_X6_cutAnew dX6_cutAnew_7) zo_X6_cutAnew zf_6_158
theorem E_X6_cutAnew_10 : AW X d 109 10 [l0] ([.float u]) st P = P (.inl (some (.float u))) st := zAW_ret (w := (.inl (some (.float u)), st)) (zd_of zb_X6_cutAnew dX6_cutAnew_10) rfl rfl (by simp only [zfin, zr_X6_cutAnew])
theorem A_X6_cutAnew : AC X (d + 1) 109 [.ref a] st P = AW X d 109 0 [.ref a] [] st P := AC_eq ⟨⟨(show 1 ≤ zml 109 by decide +kernel), by decide +kernel⟩, by simp [zc1_int, zc1_ref, zc1_float]⟩
end ZEQ2
