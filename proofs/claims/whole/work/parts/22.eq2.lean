/-! equations of the instructions (made by gen21.py) -/
theorem zb_X4_init : zby 38 = cX4_init := rfl
theorem zo_X4_init : zoc 38 = 4 := rfl
theorem zr_X4_init : zrt 38 = none := rfl
theorem zh_X4_init : zhh 38 = [] := rfl
theorem zl_4_11 : zCL.lookup (4, 11) = some (2, 112) := by decide +kernel
theorem zf_4_12 : zFL.lookup (4, 12) = some (5, 0) := by decide +kernel
theorem zb_X4_bring : zby 39 = cX4_bring := rfl
theorem zo_X4_bring : zoc 39 = 4 := rfl
theorem zr_X4_bring : zrt 39 = some (.int) := rfl
theorem zh_X4_bring : zhh 39 = [] := rfl
theorem zf_4_18 : zFL.lookup (4, 18) = some (5, 2) := by decide +kernel
theorem zl_4_22 : zCL.lookup (4, 22) = some (0, 40) := by decide +kernel
theorem zn_40 : znp 40 = 0 := rfl
theorem zl_4_26 : zCL.lookup (4, 26) = some (0, 28) := by decide +kernel
theorem zn_28 : znp 28 = 6 := rfl
theorem zb_X4_next : zby 40 = cX4_next := rfl
theorem zo_X4_next : zoc 40 = 4 := rfl
theorem zr_X4_next : zrt 40 = some (.object "Kerfworks$Piece") := rfl
theorem zh_X4_next : zhh 40 = [] := rfl
theorem zf_4_32 : zFL.lookup (4, 32) = some (5, 1) := by decide +kernel
theorem zl_4_35 : zCL.lookup (4, 35) = some (0, 115) := by decide +kernel
theorem zl_4_39 : zCL.lookup (4, 39) = some (0, 117) := by decide +kernel
theorem zl_4_43 : zCL.lookup (4, 43) = some (2, 27) := by decide +kernel
theorem zn_27 : znp 27 = 1 := rfl
theorem zl_4_46 : zCL.lookup (4, 46) = some (0, 119) := by decide +kernel
theorem zb_X4_lay : zby 41 = cX4_lay := rfl
theorem zo_X4_lay : zoc 41 = 4 := rfl
theorem zr_X4_lay : zrt 41 = some (.object "Kerfworks$Piece") := rfl
theorem zh_X4_lay : zhh 41 = [] := rfl
theorem zl_4_50 : zCL.lookup (4, 50) = some (0, 44) := by decide +kernel
theorem zn_44 : znp 44 = 2 := rfl
theorem zl_4_54 : zCL.lookup (4, 54) = some (1, 42) := by decide +kernel
theorem zn_42 : znp 42 = 3 := rfl
theorem zf_4_58 : zFL.lookup (4, 58) = some (4, 2) := by decide +kernel
theorem zf_4_61 : zFL.lookup (4, 61) = some (4, 3) := by decide +kernel
theorem zl_4_64 : zCL.lookup (4, 64) = some (0, 43) := by decide +kernel
theorem zn_43 : znp 43 = 5 := rfl
theorem zf_4_68 : zFL.lookup (4, 68) = some (4, 6) := by decide +kernel
theorem zf_4_71 : zFL.lookup (4, 71) = some (4, 8) := by decide +kernel
theorem zf_4_75 : zFL.lookup (4, 75) = some (4, 4) := by decide +kernel
theorem zf_4_78 : zFL.lookup (4, 78) = some (4, 9) := by decide +kernel
theorem zf_4_81 : zFL.lookup (4, 81) = some (4, 5) := by decide +kernel
theorem zf_4_84 : zFL.lookup (4, 84) = some (4, 10) := by decide +kernel
theorem zb_X4_piecesOf : zby 42 = cX4_piecesOf := rfl
theorem zo_X4_piecesOf : zoc 42 = 4 := rfl
theorem zr_X4_piecesOf : zrt 42 = some (.int) := rfl
theorem zh_X4_piecesOf : zhh 42 = [] := rfl
theorem zb_X4_pieceOf : zby 43 = cX4_pieceOf := rfl
theorem zo_X4_pieceOf : zoc 43 = 4 := rfl
theorem zr_X4_pieceOf : zrt 43 = some (.object "Kerfworks$Piece") := rfl
theorem zh_X4_pieceOf : zhh 43 = [] := rfl
theorem zf_4_87 : zFL.lookup (4, 87) = some (4, 1) := by decide +kernel
theorem zb_X4_bestFor : zby 44 = cX4_bestFor := rfl
theorem zo_X4_bestFor : zoc 44 = 4 := rfl
theorem zr_X4_bestFor : zrt 44 = some (.object "Kerfworks$Piece") := rfl
theorem zh_X4_bestFor : zhh 44 = [] := rfl
theorem zl_4_90 : zCL.lookup (4, 90) = some (0, 29) := by decide +kernel
theorem zn_29 : znp 29 = 2 := rfl
theorem zl_4_94 : zCL.lookup (4, 94) = some (0, 30) := by decide +kernel
theorem zn_30 : znp 30 = 0 := rfl
theorem zb_X4_undo : zby 45 = cX4_undo := rfl
theorem zo_X4_undo : zoc 45 = 4 := rfl
theorem zr_X4_undo : zrt 45 = none := rfl
theorem zh_X4_undo : zhh 45 = [] := rfl
theorem zf_4_97 : zFL.lookup (4, 97) = some (4, 7) := by decide +kernel
theorem zl_4_100 : zCL.lookup (4, 100) = some (0, 37) := by decide +kernel
theorem zb_X4_freeAt : zby 46 = cX4_freeAt := rfl
theorem zo_X4_freeAt : zoc 46 = 4 := rfl
theorem zr_X4_freeAt : zrt 46 = some (.object "Kerfworks$Piece") := rfl
theorem zh_X4_freeAt : zhh 46 = [] := rfl
theorem zb_X5_init : zby 47 = cX5_init := rfl
theorem zo_X5_init : zoc 47 = 5 := rfl
theorem zr_X5_init : zrt 47 = none := rfl
theorem zh_X5_init : zhh 47 = [] := rfl
theorem zl_5_11 : zCL.lookup (5, 11) = some (2, 112) := by decide +kernel
theorem zf_5_12 : zFL.lookup (5, 12) = some (6, 0) := by decide +kernel
theorem zf_5_16 : zFL.lookup (5, 16) = some (6, 1) := by decide +kernel
theorem zf_5_19 : zFL.lookup (5, 19) = some (6, 2) := by decide +kernel
theorem zl_5_24 : zCL.lookup (5, 24) = some (3, 38) := by decide +kernel
theorem zn_38 : znp 38 = 0 := rfl
theorem zf_5_25 : zFL.lookup (5, 25) = some (6, 3) := by decide +kernel
theorem zb_X5_drawing : zby 48 = cX5_drawing := rfl
theorem zo_X5_drawing : zoc 48 = 5 := rfl
theorem zr_X5_drawing : zrt 48 = some (.int) := rfl
theorem zh_X5_drawing : zhh 48 = [] := rfl
theorem zl_5_29 : zCL.lookup (5, 29) = some (0, 115) := by decide +kernel
theorem zl_5_42 : zCL.lookup (5, 42) = some (2, 0) := by decide +kernel
theorem zn_0 : znp 0 = 1 := rfl
theorem zl_5_45 : zCL.lookup (5, 45) = some (0, 119) := by decide +kernel
theorem zb_X5_stroke : zby 49 = cX5_stroke := rfl
theorem zo_X5_stroke : zoc 49 = 5 := rfl
theorem zr_X5_stroke : zrt 49 = some (.int) := rfl
theorem zh_X5_stroke : zhh 49 = [] := rfl
theorem zl_5_49 : zCL.lookup (5, 49) = some (0, 64) := by decide +kernel
theorem zn_64 : znp 64 = 1 := rfl
theorem zl_5_53 : zCL.lookup (5, 53) = some (1, 66) := by decide +kernel
theorem zn_66 : znp 66 = 1 := rfl
theorem zf_5_67 : zFL.lookup (5, 67) = some (1, 2) := by decide +kernel
theorem zf_5_71 : zFL.lookup (5, 71) = some (1, 1) := by decide +kernel
theorem zf_5_75 : zFL.lookup (5, 75) = some (3, 1) := by decide +kernel
theorem zl_5_81 : zCL.lookup (5, 81) = some (0, 10) := by decide +kernel
theorem zb_X5_finish : zby 50 = cX5_finish := rfl
theorem zo_X5_finish : zoc 50 = 5 := rfl
theorem zr_X5_finish : zrt 50 = some (.int) := rfl
theorem zh_X5_finish : zhh 50 = [] := rfl
theorem zl_5_86 : zCL.lookup (5, 86) = some (0, 13) := by decide +kernel
theorem zn_13 : znp 13 = 0 := rfl
theorem zl_5_89 : zCL.lookup (5, 89) = some (0, 15) := by decide +kernel
theorem zn_15 : znp 15 = 0 := rfl
theorem zl_5_92 : zCL.lookup (5, 92) = some (0, 69) := by decide +kernel
theorem zn_69 : znp 69 = 0 := rfl
theorem zb_X5_redraw : zby 51 = cX5_redraw := rfl
theorem zo_X5_redraw : zoc 51 = 5 := rfl
theorem zr_X5_redraw : zrt 51 = some (.int) := rfl
theorem zh_X5_redraw : zhh 51 = [] := rfl
theorem zl_5_97 : zCL.lookup (5, 97) = some (0, 70) := by decide +kernel
theorem zn_70 : znp 70 = 1 := rfl
theorem zl_5_101 : zCL.lookup (5, 101) = some (0, 1) := by decide +kernel
theorem zn_1 : znp 1 = 0 := rfl
theorem zl_5_104 : zCL.lookup (5, 104) = some (0, 71) := by decide +kernel
theorem zn_71 : znp 71 = 1 := rfl
theorem zb_X5_ofDrawing : zby 52 = cX5_ofDrawing := rfl
theorem zo_X5_ofDrawing : zoc 52 = 5 := rfl
theorem zr_X5_ofDrawing : zrt 52 = some (.int) := rfl
theorem zh_X5_ofDrawing : zhh 52 = [] := rfl
theorem zl_5_108 : zCL.lookup (5, 108) = some (0, 18) := by decide +kernel
theorem zl_5_111 : zCL.lookup (5, 111) = some (0, 19) := by decide +kernel
theorem zf_5_114 : zFL.lookup (5, 114) = some (1, 3) := by decide +kernel
theorem zb_X5_length : zby 53 = cX5_length := rfl
theorem zo_X5_length : zoc 53 = 5 := rfl
theorem zr_X5_length : zrt 53 = some (.float) := rfl
theorem zh_X5_length : zhh 53 = [] := rfl
theorem zl_5_119 : zCL.lookup (5, 119) = some (0, 20) := by decide +kernel
theorem zn_20 : znp 20 = 0 := rfl
theorem zb_X5_sheet : zby 54 = cX5_sheet := rfl
theorem zo_X5_sheet : zoc 54 = 5 := rfl
theorem zr_X5_sheet : zrt 54 = some (.int) := rfl
theorem zh_X5_sheet : zhh 54 = [] := rfl
theorem zl_5_123 : zCL.lookup (5, 123) = some (1, 67) := by decide +kernel
theorem zn_67 : znp 67 = 1 := rfl
theorem zf_5_128 : zFL.lookup (5, 128) = some (5, 2) := by decide +kernel
theorem zf_5_131 : zFL.lookup (5, 131) = some (5, 1) := by decide +kernel
theorem zl_5_136 : zCL.lookup (5, 136) = some (0, 39) := by decide +kernel
theorem zn_39 : znp 39 = 2 := rfl
theorem zb_X5_job : zby 55 = cX5_job := rfl
theorem zo_X5_job : zoc 55 = 5 := rfl
theorem zr_X5_job : zrt 55 = some (.int) := rfl
theorem zh_X5_job : zhh 55 = [] := rfl
theorem zl_5_146 : zCL.lookup (5, 146) = some (2, 2) := by decide +kernel
theorem zn_2 : znp 2 = 2 := rfl
theorem zl_5_149 : zCL.lookup (5, 149) = some (0, 3) := by decide +kernel
theorem zn_3 : znp 3 = 1 := rfl
theorem zb_X5_cancel : zby 56 = cX5_cancel := rfl
theorem zo_X5_cancel : zoc 56 = 5 := rfl
theorem zr_X5_cancel : zrt 56 = some (.int) := rfl
theorem zh_X5_cancel : zhh 56 = [] := rfl
theorem zl_5_153 : zCL.lookup (5, 153) = some (0, 65) := by decide +kernel
theorem zn_65 : znp 65 = 1 := rfl
theorem zf_5_157 : zFL.lookup (5, 157) = some (2, 2) := by decide +kernel
theorem zl_5_160 : zCL.lookup (5, 160) = some (0, 4) := by decide +kernel
theorem zn_4 : znp 4 = 0 := rfl
theorem zb_X5_cut : zby 57 = cX5_cut := rfl
theorem zo_X5_cut : zoc 57 = 5 := rfl
theorem zr_X5_cut : zrt 57 = some (.int) := rfl
theorem zh_X5_cut : zhh 57 = [] := rfl
theorem zf_5_165 : zFL.lookup (5, 165) = some (2, 0) := by decide +kernel
theorem zl_5_169 : zCL.lookup (5, 169) = some (0, 7) := by decide +kernel
theorem zn_7 : znp 7 = 1 := rfl
theorem zl_5_173 : zCL.lookup (5, 173) = some (0, 6) := by decide +kernel
theorem zn_6 : znp 6 = 0 := rfl
theorem zf_5_176 : zFL.lookup (5, 176) = some (6, 4) := by decide +kernel
theorem zf_5_179 : zFL.lookup (5, 179) = some (6, 5) := by decide +kernel
theorem zf_5_183 : zFL.lookup (5, 183) = some (2, 1) := by decide +kernel
theorem zl_5_186 : zCL.lookup (5, 186) = some (1, 68) := by decide +kernel
theorem zn_68 : znp 68 = 3 := rfl
theorem zb_X5_ofJob : zby 58 = cX5_ofJob := rfl
theorem zo_X5_ofJob : zoc 58 = 5 := rfl
theorem zr_X5_ofJob : zrt 58 = some (.int) := rfl
theorem zh_X5_ofJob : zhh 58 = [] := rfl
theorem zf_5_190 : zFL.lookup (5, 190) = some (1, 0) := by decide +kernel
theorem zf_5_193 : zFL.lookup (5, 193) = some (2, 3) := by decide +kernel
theorem zb_X5_where : zby 59 = cX5_where := rfl
theorem zo_X5_where : zoc 59 = 5 := rfl
theorem zr_X5_where : zrt 59 = some (.int) := rfl
theorem zh_X5_where : zhh 59 = [] := rfl
theorem zf_5_196 : zFL.lookup (5, 196) = some (2, 4) := by decide +kernel
theorem zl_5_199 : zCL.lookup (5, 199) = some (0, 117) := by decide +kernel
theorem zf_5_205 : zFL.lookup (5, 205) = some (4, 1) := by decide +kernel
theorem zf_5_208 : zFL.lookup (5, 208) = some (4, 2) := by decide +kernel
theorem zf_5_211 : zFL.lookup (5, 211) = some (4, 3) := by decide +kernel
theorem zf_5_214 : zFL.lookup (5, 214) = some (4, 0) := by decide +kernel
theorem zb_X5_free : zby 60 = cX5_free := rfl
theorem zo_X5_free : zoc 60 = 5 := rfl
theorem zr_X5_free : zrt 60 = some (.int) := rfl
theorem zh_X5_free : zhh 60 = [] := rfl
theorem zl_5_217 : zCL.lookup (5, 217) = some (0, 46) := by decide +kernel
theorem zn_46 : znp 46 = 1 := rfl
theorem zf_5_221 : zFL.lookup (5, 221) = some (4, 4) := by decide +kernel
theorem zf_5_223 : zFL.lookup (5, 223) = some (4, 5) := by decide +kernel
theorem zb_X5_minutes : zby 61 = cX5_minutes := rfl
theorem zo_X5_minutes : zoc 61 = 5 := rfl
theorem zr_X5_minutes : zrt 61 = some (.int) := rfl
theorem zh_X5_minutes : zhh 61 = [] := rfl
theorem zb_X5_cutLength : zby 62 = cX5_cutLength := rfl
theorem zo_X5_cutLength : zoc 62 = 5 := rfl
theorem zr_X5_cutLength : zrt 62 = some (.float) := rfl
theorem zh_X5_cutLength : zhh 62 = [] := rfl
theorem zb_X5_cutAnew : zby 63 = cX5_cutAnew := rfl
theorem zo_X5_cutAnew : zoc 63 = 5 := rfl
theorem zr_X5_cutAnew : zrt 63 = some (.float) := rfl
theorem zh_X5_cutAnew : zhh 63 = [] := rfl
theorem zf_5_225 : zFL.lookup (5, 225) = some (2, 5) := by decide +kernel
theorem zb_X5_drawingAt : zby 64 = cX5_drawingAt := rfl
theorem zo_X5_drawingAt : zoc 64 = 5 := rfl
theorem zr_X5_drawingAt : zrt 64 = some (.object "Kerfworks$Drawing") := rfl
theorem zh_X5_drawingAt : zhh 64 = [] := rfl
theorem zb_X5_jobAt : zby 65 = cX5_jobAt := rfl
theorem zo_X5_jobAt : zoc 65 = 5 := rfl
theorem zr_X5_jobAt : zrt 65 = some (.object "Kerfworks$Job") := rfl
theorem zh_X5_jobAt : zhh 65 = [] := rfl
theorem zb_X5_isPoint : zby 66 = cX5_isPoint := rfl
theorem zo_X5_isPoint : zoc 66 = 5 := rfl
theorem zr_X5_isPoint : zrt 66 = some (.boolean) := rfl
theorem zh_X5_isPoint : zhh 66 = [] := rfl
theorem zb_X5_isSide : zby 67 = cX5_isSide := rfl
theorem zo_X5_isSide : zoc 67 = 5 := rfl
theorem zr_X5_isSide : zrt 67 = some (.boolean) := rfl
theorem zh_X5_isSide : zhh 67 = [] := rfl
theorem zb_X5_addedForCopies : zby 68 = cX5_addedForCopies := rfl
theorem zo_X5_addedForCopies : zoc 68 = 5 := rfl
theorem zr_X5_addedForCopies : zrt 68 = some (.float) := rfl
theorem zh_X5_addedForCopies : zhh 68 = [] := rfl
theorem zb_X5_tryWaiting : zby 69 = cX5_tryWaiting := rfl
theorem zo_X5_tryWaiting : zoc 69 = 5 := rfl
theorem zr_X5_tryWaiting : zrt 69 = none := rfl
theorem zh_X5_tryWaiting : zhh 69 = [] := rfl
theorem zb_X5_sheetsUnder : zby 70 = cX5_sheetsUnder := rfl
theorem zo_X5_sheetsUnder : zoc 70 = 5 := rfl
theorem zr_X5_sheetsUnder : zrt 70 = some (.int) := rfl
theorem zh_X5_sheetsUnder : zhh 70 = [] := rfl
theorem zl_5_232 : zCL.lookup (5, 232) = some (0, 5) := by decide +kernel
theorem zn_5 : znp 5 = 0 := rfl
theorem zb_X5_clearSheets : zby 71 = cX5_clearSheets := rfl
theorem zo_X5_clearSheets : zoc 71 = 5 := rfl
theorem zr_X5_clearSheets : zrt 71 = some (.int) := rfl
theorem zh_X5_clearSheets : zhh 71 = [] := rfl
section ZEQ1
variable {X : ZX} {d a b : Nat} {l0 l1 l2 l3 l4 l5 l6 l7 l8 l9 l10 l11 v v1 v2 v3 v4 v5 v6 v7 : Value} {S : List Value} {st : ZS} {P : ZO → ZS → Prop} {x y x3 x4 x5 x6 x7 : Int32} {u u2 : UInt32} {w w2 : UInt64} {q1 q2 : Int64}
theorem E_X4_init_0 : AW X d 38 0 [.ref a] S st P = AW X d 38 1 [.ref a] (.ref a :: S) st P := zAW_st (zd_of zb_X4_init dX4_init_0) rfl rfl
theorem E_X4_init_0n : AW X d 38 0 [.null] S st P = AW X d 38 1 [.null] (.null :: S) st P := zAW_st (zd_of zb_X4_init dX4_init_0) rfl rfl
theorem E_X4_init_1 : AW X d 38 1 [l0] (.ref a :: S) st P = zif (S.length ≤ 4) (AW X d 38 4 [l0] S st P) := zq_obj (zd_of zb_X4_init dX4_init_1) zo_X4_init (by decide) (by decide +kernel)
theorem E_X4_init_4 : AW X d 38 4 [.ref a] S st P = AW X d 38 5 [.ref a] (.ref a :: S) st P := zAW_st (zd_of zb_X4_init dX4_init_4) rfl rfl
theorem E_X4_init_4n : AW X d 38 4 [.null] S st P = AW X d 38 5 [.null] (.null :: S) st P := zAW_st (zd_of zb_X4_init dX4_init_4) rfl rfl
theorem E_X4_init_5 : AW X d 38 5 [l0] S st P = AW X d 38 8 [l0] (.ref st.2.length :: S) (znew st 0) P := zq_new (zd_of zb_X4_init dX4_init_5) zo_X4_init (by decide +kernel)
theorem E_X4_init_8 : AW X d 38 8 [l0] (.ref a :: S) st P = AW X d 38 9 [l0] (.ref a :: .ref a :: S) st P := zq_dup (zd_of zb_X4_init dX4_init_8) rfl
theorem E_X4_init_8n : AW X d 38 8 [l0] (.null :: S) st P = AW X d 38 9 [l0] (.null :: .null :: S) st P := zq_dup (zd_of zb_X4_init dX4_init_8) rfl
theorem E_X4_init_8i : AW X d 38 8 [l0] (.int x :: S) st P = AW X d 38 9 [l0] (.int x :: .int x :: S) st P := zq_dup (zd_of zb_X4_init dX4_init_8) rfl
theorem E_X4_init_8f : AW X d 38 8 [l0] (.float u :: S) st P = AW X d 38 9 [l0] (.float u :: .float u :: S) st P := zq_dup (zd_of zb_X4_init dX4_init_8) rfl
theorem E_X4_init_9 : AW X d 38 9 [l0] (.ref a :: S) st P = zif (S.length ≤ 4) (AC X d 112 [.ref a] st (zaft X d 38 9 [l0] S P)) := zq_callI (B := []) (zd_of zb_X4_init dX4_init_9) zo_X4_init zl_4_11 (by decide) (by decide) zn_112 rfl rfl
theorem E_X4_init_12 : AW X d 38 12 [l0] (.ref b :: .ref a :: S) st P = zwith (zget st a 5 0) fun _ => AW X d 38 15 [l0] S (zput st a 0 (.ref b)) P := zq_putfield (zd_of zb_X4_init dX4_init_12) zo_X4_init zf_4_12 rfl (Or.inr (by decide +kernel))
theorem E_X4_init_12n : AW X d 38 12 [l0] (.null :: .ref a :: S) st P = zwith (zget st a 5 0) fun _ => AW X d 38 15 [l0] S (zput st a 0 (.null)) P := zq_putfield (zd_of zb_X4_init dX4_init_12) zo_X4_init zf_4_12 rfl (Or.inr (by decide +kernel))
theorem E_X4_init_15 : AW X d 38 15 [l0] [] st P = P (.inl none) st := zAW_ret (w := (.inl none, st)) (zd_of zb_X4_init dX4_init_15) rfl rfl (by simp only [zfin, zr_X4_init])
theorem A_X4_init : AC X (d + 1) 38 [.ref a] st P = AW X d 38 0 [.ref a] [] st P := AC_eq ⟨⟨(show 1 ≤ zml 38 by decide +kernel), by decide +kernel⟩, by simp [zc1_int, zc1_ref, zc1_float]⟩
theorem E_X4_bring_0 : AW X d 39 0 [.ref a, l1, l2, l3] S st P = AW X d 39 1 [.ref a, l1, l2, l3] (.ref a :: S) st P := zAW_st (zd_of zb_X4_bring dX4_bring_0) rfl rfl
theorem E_X4_bring_0n : AW X d 39 0 [.null, l1, l2, l3] S st P = AW X d 39 1 [.null, l1, l2, l3] (.null :: S) st P := zAW_st (zd_of zb_X4_bring dX4_bring_0) rfl rfl
theorem E_X4_bring_1 : AW X d 39 1 [l0, l1, l2, l3] (.ref a :: S) st P = zwith (zget st a 5 2) fun v => AW X d 39 4 [l0, l1, l2, l3] (v :: S) st P := zq_getfield (zd_of zb_X4_bring dX4_bring_1) zo_X4_bring zf_4_18
theorem E_X4_bring_4 : AW X d 39 4 [l0, l1, l2, l3] (.int x :: S) st P = AW X d 39 5 [l0, l1, l2, .int x] S st P := zAW_st (zd_of zb_X4_bring dX4_bring_4) rfl rfl
theorem E_X4_bring_5 : AW X d 39 5 [.ref a, l1, l2, l3] S st P = AW X d 39 6 [.ref a, l1, l2, l3] (.ref a :: S) st P := zAW_st (zd_of zb_X4_bring dX4_bring_5) rfl rfl
theorem E_X4_bring_5n : AW X d 39 5 [.null, l1, l2, l3] S st P = AW X d 39 6 [.null, l1, l2, l3] (.null :: S) st P := zAW_st (zd_of zb_X4_bring dX4_bring_5) rfl rfl
theorem E_X4_bring_6 : AW X d 39 6 [l0, l1, l2, l3] (.ref a :: S) st P = zif (zis st a 5 = true) (zif (S.length ≤ 4) (AC X d 40 [.ref a] st (zaft X d 39 6 [l0, l1, l2, l3] S P))) := zq_callV (B := []) (zd_of zb_X4_bring dX4_bring_6) zo_X4_bring (by decide) zl_4_22 zn_40 rfl rfl rfl
theorem E_X4_bring_9 : AW X d 39 9 [l0, l1, l2, l3] S st P = AW X d 39 10 [l0, l1, l2, l3] (.null :: S) st P := zAW_st (zd_of zb_X4_bring dX4_bring_9) rfl rfl
theorem E_X4_bring_10 : AW X d 39 10 [l0, l1, l2, .int x] S st P = AW X d 39 11 [l0, l1, l2, .int x] (.int x :: S) st P := zAW_st (zd_of zb_X4_bring dX4_bring_10) rfl rfl
theorem E_X4_bring_11 : AW X d 39 11 [l0, l1, l2, l3] S st P = AW X d 39 12 [l0, l1, l2, l3] (.int 0 :: S) st P := zq_iconst (zd_of zb_X4_bring dX4_bring_11) (by decide)
theorem E_X4_bring_12 : AW X d 39 12 [l0, l1, l2, l3] S st P = AW X d 39 13 [l0, l1, l2, l3] (.int 0 :: S) st P := zq_iconst (zd_of zb_X4_bring dX4_bring_12) (by decide)
theorem E_X4_bring_13 : AW X d 39 13 [l0, .int x, l2, l3] S st P = AW X d 39 14 [l0, .int x, l2, l3] (.int x :: S) st P := zAW_st (zd_of zb_X4_bring dX4_bring_13) rfl rfl
theorem E_X4_bring_14 : AW X d 39 14 [l0, l1, .int x, l3] S st P = AW X d 39 15 [l0, l1, .int x, l3] (.int x :: S) st P := zAW_st (zd_of zb_X4_bring dX4_bring_14) rfl rfl
theorem E_X4_bring_15 : AW X d 39 15 [l0, l1, l2, l3] (.int x5 :: .int x4 :: .int x3 :: .int y :: .int x :: v1 :: .ref a :: S) st P = zif (zis st a 4 = true) (zif (S.length ≤ 4) (AC X d 28 [.ref a, v1, .int x, .int y, .int x3, .int x4, .int x5] st (zaft X d 39 15 [l0, l1, l2, l3] S P))) := zq_callV (B := [v1, .int x, .int y, .int x3, .int x4, .int x5]) (zd_of zb_X4_bring dX4_bring_15) zo_X4_bring (by decide) zl_4_26 zn_28 rfl rfl rfl
theorem E_X4_bring_18 : AW X d 39 18 [.ref a, l1, l2, l3] S st P = AW X d 39 19 [.ref a, l1, l2, l3] (.ref a :: S) st P := zAW_st (zd_of zb_X4_bring dX4_bring_18) rfl rfl
theorem E_X4_bring_18n : AW X d 39 18 [.null, l1, l2, l3] S st P = AW X d 39 19 [.null, l1, l2, l3] (.null :: S) st P := zAW_st (zd_of zb_X4_bring dX4_bring_18) rfl rfl
theorem E_X4_bring_19 : AW X d 39 19 [l0, l1, l2, l3] (.ref a :: S) st P = AW X d 39 20 [l0, l1, l2, l3] (.ref a :: .ref a :: S) st P := zq_dup (zd_of zb_X4_bring dX4_bring_19) rfl
theorem E_X4_bring_19n : AW X d 39 19 [l0, l1, l2, l3] (.null :: S) st P = AW X d 39 20 [l0, l1, l2, l3] (.null :: .null :: S) st P := zq_dup (zd_of zb_X4_bring dX4_bring_19) rfl
theorem E_X4_bring_19i : AW X d 39 19 [l0, l1, l2, l3] (.int x :: S) st P = AW X d 39 20 [l0, l1, l2, l3] (.int x :: .int x :: S) st P := zq_dup (zd_of zb_X4_bring dX4_bring_19) rfl
theorem E_X4_bring_19f : AW X d 39 19 [l0, l1, l2, l3] (.float u :: S) st P = AW X d 39 20 [l0, l1, l2, l3] (.float u :: .float u :: S) st P := zq_dup (zd_of zb_X4_bring dX4_bring_19) rfl
theorem E_X4_bring_20 : AW X d 39 20 [l0, l1, l2, l3] (.ref a :: S) st P = zwith (zget st a 5 2) fun v => AW X d 39 23 [l0, l1, l2, l3] (v :: S) st P := zq_getfield (zd_of zb_X4_bring dX4_bring_20) zo_X4_bring zf_4_18
theorem E_X4_bring_23 : AW X d 39 23 [l0, l1, l2, l3] S st P = AW X d 39 24 [l0, l1, l2, l3] (.int 1 :: S) st P := zq_iconst (zd_of zb_X4_bring dX4_bring_23) (by decide)
theorem E_X4_bring_24 : AW X d 39 24 [l0, l1, l2, l3] (.int y :: .int x :: S) st P = AW X d 39 25 [l0, l1, l2, l3] (.int (x + y) :: S) st P := zAW_st (zd_of zb_X4_bring dX4_bring_24) rfl rfl
theorem E_X4_bring_25 : AW X d 39 25 [l0, l1, l2, l3] (.int x :: .ref a :: S) st P = zwith (zget st a 5 2) fun _ => AW X d 39 28 [l0, l1, l2, l3] S (zput st a 2 (.int x)) P := zq_putfield (zd_of zb_X4_bring dX4_bring_25) zo_X4_bring zf_4_18 rfl (Or.inl (by decide +kernel))
theorem E_X4_bring_28 : AW X d 39 28 [l0, l1, l2, .int x] S st P = AW X d 39 29 [l0, l1, l2, .int x] (.int x :: S) st P := zAW_st (zd_of zb_X4_bring dX4_bring_28) rfl rfl
theorem E_X4_bring_29 : AW X d 39 29 [l0, l1, l2, l3] ([.int x]) st P = P (.inl (some (.int x))) st := zAW_ret (w := (.inl (some (.int x)), st)) (zd_of zb_X4_bring dX4_bring_29) rfl rfl (by simp only [zfin, zr_X4_bring])
theorem A_X4_bring : AC X (d + 1) 39 [.ref a, .int x, .int y] st P = AW X d 39 0 [.ref a, .int x, .int y, .retAddr 0] [] st P := AC_eq ⟨⟨(show 3 ≤ zml 39 by decide +kernel), by decide +kernel⟩, by simp [zc1_int, zc1_ref, zc1_float]⟩
theorem E_X4_next_0 : AW X d 40 0 [.ref a, l1, l2] S st P = AW X d 40 1 [.ref a, l1, l2] (.ref a :: S) st P := zAW_st (zd_of zb_X4_next dX4_next_0) rfl rfl
theorem E_X4_next_0n : AW X d 40 0 [.null, l1, l2] S st P = AW X d 40 1 [.null, l1, l2] (.null :: S) st P := zAW_st (zd_of zb_X4_next dX4_next_0) rfl rfl
theorem E_X4_next_1 : AW X d 40 1 [l0, l1, l2] (.ref a :: S) st P = zwith (zget st a 5 1) fun v => AW X d 40 4 [l0, l1, l2] (v :: S) st P := zq_getfield (zd_of zb_X4_next dX4_next_1) zo_X4_next zf_4_32
theorem E_X4_next_4 : AW X d 40 4 [l0, l1, l2] (.int x :: S) st P = AW X d 40 5 [l0, .int x, l2] S st P := zAW_st (zd_of zb_X4_next dX4_next_4) rfl rfl
theorem E_X4_next_5 : AW X d 40 5 [.ref a, l1, l2] S st P = AW X d 40 6 [.ref a, l1, l2] (.ref a :: S) st P := zAW_st (zd_of zb_X4_next dX4_next_5) rfl rfl
theorem E_X4_next_5n : AW X d 40 5 [.null, l1, l2] S st P = AW X d 40 6 [.null, l1, l2] (.null :: S) st P := zAW_st (zd_of zb_X4_next dX4_next_5) rfl rfl
theorem E_X4_next_6 : AW X d 40 6 [l0, l1, l2] (.ref a :: S) st P = AW X d 40 7 [l0, l1, l2] (.ref a :: .ref a :: S) st P := zq_dup (zd_of zb_X4_next dX4_next_6) rfl
theorem E_X4_next_6n : AW X d 40 6 [l0, l1, l2] (.null :: S) st P = AW X d 40 7 [l0, l1, l2] (.null :: .null :: S) st P := zq_dup (zd_of zb_X4_next dX4_next_6) rfl
theorem E_X4_next_6i : AW X d 40 6 [l0, l1, l2] (.int x :: S) st P = AW X d 40 7 [l0, l1, l2] (.int x :: .int x :: S) st P := zq_dup (zd_of zb_X4_next dX4_next_6) rfl
theorem E_X4_next_6f : AW X d 40 6 [l0, l1, l2] (.float u :: S) st P = AW X d 40 7 [l0, l1, l2] (.float u :: .float u :: S) st P := zq_dup (zd_of zb_X4_next dX4_next_6) rfl
theorem E_X4_next_7 : AW X d 40 7 [l0, l1, l2] (.ref a :: S) st P = zwith (zget st a 5 1) fun v => AW X d 40 10 [l0, l1, l2] (v :: S) st P := zq_getfield (zd_of zb_X4_next dX4_next_7) zo_X4_next zf_4_32
theorem E_X4_next_10 : AW X d 40 10 [l0, l1, l2] S st P = AW X d 40 11 [l0, l1, l2] (.int 1 :: S) st P := zq_iconst (zd_of zb_X4_next dX4_next_10) (by decide)
theorem E_X4_next_11 : AW X d 40 11 [l0, l1, l2] (.int y :: .int x :: S) st P = AW X d 40 12 [l0, l1, l2] (.int (x + y) :: S) st P := zAW_st (zd_of zb_X4_next dX4_next_11) rfl rfl
theorem E_X4_next_12 : AW X d 40 12 [l0, l1, l2] (.int x :: .ref a :: S) st P = zwith (zget st a 5 1) fun _ => AW X d 40 15 [l0, l1, l2] S (zput st a 1 (.int x)) P := zq_putfield (zd_of zb_X4_next dX4_next_12) zo_X4_next zf_4_32 rfl (Or.inl (by decide +kernel))
theorem E_X4_next_15 : AW X d 40 15 [l0, .int x, l2] S st P = AW X d 40 16 [l0, .int x, l2] (.int x :: S) st P := zAW_st (zd_of zb_X4_next dX4_next_15) rfl rfl
theorem E_X4_next_16 : AW X d 40 16 [l0, l1, l2] (.int x :: S) st P = if x < 0 then AW X d 40 42 [l0, l1, l2] S st P else AW X d 40 19 [l0, l1, l2] S st P := zq_if (c := x < 0) (zd_of zb_X4_next dX4_next_16) (by decide) rfl
theorem E_X4_next_19 : AW X d 40 19 [l0, .int x, l2] S st P = AW X d 40 20 [l0, .int x, l2] (.int x :: S) st P := zAW_st (zd_of zb_X4_next dX4_next_19) rfl rfl
theorem E_X4_next_20 : AW X d 40 20 [.ref a, l1, l2] S st P = AW X d 40 21 [.ref a, l1, l2] (.ref a :: S) st P := zAW_st (zd_of zb_X4_next dX4_next_20) rfl rfl
theorem E_X4_next_20n : AW X d 40 20 [.null, l1, l2] S st P = AW X d 40 21 [.null, l1, l2] (.null :: S) st P := zAW_st (zd_of zb_X4_next dX4_next_20) rfl rfl
theorem E_X4_next_21 : AW X d 40 21 [l0, l1, l2] (.ref a :: S) st P = zwith (zget st a 5 0) fun v => AW X d 40 24 [l0, l1, l2] (v :: S) st P := zq_getfield (zd_of zb_X4_next dX4_next_21) zo_X4_next zf_4_12
theorem E_X4_next_24 : AW X d 40 24 [l0, l1, l2] (.ref a :: S) st P = zif (zis st a 0 = true) (zif (S.length ≤ 4) (AC X d 115 [.ref a] st (zaft X d 40 24 [l0, l1, l2] S P))) := zq_callV (B := []) (zd_of zb_X4_next dX4_next_24) zo_X4_next (by decide) zl_4_35 zn_115 rfl rfl rfl
theorem E_X4_next_27 : AW X d 40 27 [l0, l1, l2] (.int y :: .int x :: S) st P = if y ≤ x then AW X d 40 42 [l0, l1, l2] S st P else AW X d 40 30 [l0, l1, l2] S st P := zq_icmp (c := y ≤ x) (zd_of zb_X4_next dX4_next_27) (by decide) rfl
theorem E_X4_next_30 : AW X d 40 30 [.ref a, l1, l2] S st P = AW X d 40 31 [.ref a, l1, l2] (.ref a :: S) st P := zAW_st (zd_of zb_X4_next dX4_next_30) rfl rfl
theorem E_X4_next_30n : AW X d 40 30 [.null, l1, l2] S st P = AW X d 40 31 [.null, l1, l2] (.null :: S) st P := zAW_st (zd_of zb_X4_next dX4_next_30) rfl rfl
theorem E_X4_next_31 : AW X d 40 31 [l0, l1, l2] (.ref a :: S) st P = zwith (zget st a 5 0) fun v => AW X d 40 34 [l0, l1, l2] (v :: S) st P := zq_getfield (zd_of zb_X4_next dX4_next_31) zo_X4_next zf_4_12
theorem E_X4_next_34 : AW X d 40 34 [l0, .int x, l2] S st P = AW X d 40 35 [l0, .int x, l2] (.int x :: S) st P := zAW_st (zd_of zb_X4_next dX4_next_34) rfl rfl
theorem E_X4_next_35 : AW X d 40 35 [l0, l1, l2] (.int x :: .ref a :: S) st P = zif (zis st a 0 = true) (zif (S.length ≤ 4) (AC X d 117 [.ref a, .int x] st (zaft X d 40 35 [l0, l1, l2] S P))) := zq_callV (B := [.int x]) (zd_of zb_X4_next dX4_next_35) zo_X4_next (by decide) zl_4_39 zn_117 rfl rfl rfl
theorem E_X4_next_38 : AW X d 40 38 [l0, l1, l2] (.ref a :: S) st P = zif (zis st a 4 = true) (AW X d 40 41 [l0, l1, l2] (.ref a :: S) st P) := zq_cast (zd_of zb_X4_next dX4_next_38) zo_X4_next (by decide +kernel)
theorem E_X4_next_38n : AW X d 40 38 [l0, l1, l2] (.null :: S) st P = AW X d 40 41 [l0, l1, l2] (.null :: S) st P := zAW_st (zd_of zb_X4_next dX4_next_38) rfl rfl
theorem E_X4_next_41 : AW X d 40 41 [l0, l1, l2] ([.ref a]) st P = P (.inl (some (.ref a))) st := zAW_ret (w := (.inl (some (.ref a)), st)) (zd_of zb_X4_next dX4_next_41) rfl rfl (by simp only [zfin, zr_X4_next])
theorem E_X4_next_41n : AW X d 40 41 [l0, l1, l2] [.null] st P = P (.inl (some .null)) st := zAW_ret (w := (.inl (some .null), st)) (zd_of zb_X4_next dX4_next_41) rfl rfl (by simp only [zfin, zr_X4_next])
theorem E_X4_next_42 : AW X d 40 42 [l0, l1, l2] S st P = AW X d 40 45 [l0, l1, l2] (.ref st.2.length :: S) (znew st 4) P := zq_new (zd_of zb_X4_next dX4_next_42) zo_X4_next (by decide +kernel)
theorem E_X4_next_45 : AW X d 40 45 [l0, l1, l2] (.ref a :: S) st P = AW X d 40 46 [l0, l1, l2] (.ref a :: .ref a :: S) st P := zq_dup (zd_of zb_X4_next dX4_next_45) rfl
theorem E_X4_next_45n : AW X d 40 45 [l0, l1, l2] (.null :: S) st P = AW X d 40 46 [l0, l1, l2] (.null :: .null :: S) st P := zq_dup (zd_of zb_X4_next dX4_next_45) rfl
theorem E_X4_next_45i : AW X d 40 45 [l0, l1, l2] (.int x :: S) st P = AW X d 40 46 [l0, l1, l2] (.int x :: .int x :: S) st P := zq_dup (zd_of zb_X4_next dX4_next_45) rfl
theorem E_X4_next_45f : AW X d 40 45 [l0, l1, l2] (.float u :: S) st P = AW X d 40 46 [l0, l1, l2] (.float u :: .float u :: S) st P := zq_dup (zd_of zb_X4_next dX4_next_45) rfl
theorem E_X4_next_46 : AW X d 40 46 [l0, .int x, l2] S st P = AW X d 40 47 [l0, .int x, l2] (.int x :: S) st P := zAW_st (zd_of zb_X4_next dX4_next_46) rfl rfl
theorem E_X4_next_47 : AW X d 40 47 [l0, l1, l2] (.int x :: .ref a :: S) st P = zif (S.length ≤ 4) (AC X d 27 [.ref a, .int x] st (zaft X d 40 47 [l0, l1, l2] S P)) := zq_callI (B := [.int x]) (zd_of zb_X4_next dX4_next_47) zo_X4_next zl_4_43 (by decide) (by decide) zn_27 rfl rfl
theorem E_X4_next_50 : AW X d 40 50 [l0, l1, l2] (.ref a :: S) st P = AW X d 40 51 [l0, l1, .ref a] S st P := zAW_st (zd_of zb_X4_next dX4_next_50) rfl rfl
theorem E_X4_next_50n : AW X d 40 50 [l0, l1, l2] (.null :: S) st P = AW X d 40 51 [l0, l1, .null] S st P := zAW_st (zd_of zb_X4_next dX4_next_50) rfl rfl
theorem E_X4_next_51 : AW X d 40 51 [.ref a, l1, l2] S st P = AW X d 40 52 [.ref a, l1, l2] (.ref a :: S) st P := zAW_st (zd_of zb_X4_next dX4_next_51) rfl rfl
theorem E_X4_next_51n : AW X d 40 51 [.null, l1, l2] S st P = AW X d 40 52 [.null, l1, l2] (.null :: S) st P := zAW_st (zd_of zb_X4_next dX4_next_51) rfl rfl
theorem E_X4_next_52 : AW X d 40 52 [l0, l1, l2] (.ref a :: S) st P = zwith (zget st a 5 0) fun v => AW X d 40 55 [l0, l1, l2] (v :: S) st P := zq_getfield (zd_of zb_X4_next dX4_next_52) zo_X4_next zf_4_12
theorem E_X4_next_55 : AW X d 40 55 [l0, l1, .ref a] S st P = AW X d 40 56 [l0, l1, .ref a] (.ref a :: S) st P := zAW_st (zd_of zb_X4_next dX4_next_55) rfl rfl
theorem E_X4_next_55n : AW X d 40 55 [l0, l1, .null] S st P = AW X d 40 56 [l0, l1, .null] (.null :: S) st P := zAW_st (zd_of zb_X4_next dX4_next_55) rfl rfl
theorem E_X4_next_56 : AW X d 40 56 [l0, l1, l2] (v1 :: .ref a :: S) st P = zif (zis st a 0 = true) (zif (S.length ≤ 4) (AC X d 119 [.ref a, v1] st (zaft X d 40 56 [l0, l1, l2] S P))) := zq_callV (B := [v1]) (zd_of zb_X4_next dX4_next_56) zo_X4_next (by decide) zl_4_46 zn_119 rfl rfl rfl
theorem E_X4_next_59 : AW X d 40 59 [l0, l1, l2] (.ref a :: S) st P = AW X d 40 60 [l0, l1, l2] S st P := zq_pop (zd_of zb_X4_next dX4_next_59) rfl
theorem E_X4_next_59n : AW X d 40 59 [l0, l1, l2] (.null :: S) st P = AW X d 40 60 [l0, l1, l2] S st P := zq_pop (zd_of zb_X4_next dX4_next_59) rfl
theorem E_X4_next_59i : AW X d 40 59 [l0, l1, l2] (.int x :: S) st P = AW X d 40 60 [l0, l1, l2] S st P := zq_pop (zd_of zb_X4_next dX4_next_59) rfl
theorem E_X4_next_59f : AW X d 40 59 [l0, l1, l2] (.float u :: S) st P = AW X d 40 60 [l0, l1, l2] S st P := zq_pop (zd_of zb_X4_next dX4_next_59) rfl
theorem E_X4_next_60 : AW X d 40 60 [l0, l1, .ref a] S st P = AW X d 40 61 [l0, l1, .ref a] (.ref a :: S) st P := zAW_st (zd_of zb_X4_next dX4_next_60) rfl rfl
theorem E_X4_next_60n : AW X d 40 60 [l0, l1, .null] S st P = AW X d 40 61 [l0, l1, .null] (.null :: S) st P := zAW_st (zd_of zb_X4_next dX4_next_60) rfl rfl
theorem E_X4_next_61 : AW X d 40 61 [l0, l1, l2] ([.ref a]) st P = P (.inl (some (.ref a))) st := zAW_ret (w := (.inl (some (.ref a)), st)) (zd_of zb_X4_next dX4_next_61) rfl rfl (by simp only [zfin, zr_X4_next])
theorem E_X4_next_61n : AW X d 40 61 [l0, l1, l2] [.null] st P = P (.inl (some .null)) st := zAW_ret (w := (.inl (some .null), st)) (zd_of zb_X4_next dX4_next_61) rfl rfl (by simp only [zfin, zr_X4_next])
theorem A_X4_next : AC X (d + 1) 40 [.ref a] st P = AW X d 40 0 [.ref a, .retAddr 0, .retAddr 0] [] st P := AC_eq ⟨⟨(show 1 ≤ zml 40 by decide +kernel), by decide +kernel⟩, by simp [zc1_int, zc1_ref, zc1_float]⟩
theorem E_X4_lay_0 : AW X d 41 0 [.ref a, l1, l2, l3, l4] S st P = AW X d 41 1 [.ref a, l1, l2, l3, l4] (.ref a :: S) st P := zAW_st (zd_of zb_X4_lay dX4_lay_0) rfl rfl
theorem E_X4_lay_0n : AW X d 41 0 [.null, l1, l2, l3, l4] S st P = AW X d 41 1 [.null, l1, l2, l3, l4] (.null :: S) st P := zAW_st (zd_of zb_X4_lay dX4_lay_0) rfl rfl
theorem E_X4_lay_1 : AW X d 41 1 [l0, .int x, l2, l3, l4] S st P = AW X d 41 2 [l0, .int x, l2, l3, l4] (.int x :: S) st P := zAW_st (zd_of zb_X4_lay dX4_lay_1) rfl rfl
theorem E_X4_lay_2 : AW X d 41 2 [l0, l1, .int x, l3, l4] S st P = AW X d 41 3 [l0, l1, .int x, l3, l4] (.int x :: S) st P := zAW_st (zd_of zb_X4_lay dX4_lay_2) rfl rfl
theorem E_X4_lay_3 : AW X d 41 3 [l0, l1, l2, l3, l4] (.int y :: .int x :: .ref a :: S) st P = zif (zis st a 5 = true) (zif (S.length ≤ 4) (AC X d 44 [.ref a, .int x, .int y] st (zaft X d 41 3 [l0, l1, l2, l3, l4] S P))) := zq_callV (B := [.int x, .int y]) (zd_of zb_X4_lay dX4_lay_3) zo_X4_lay (by decide) zl_4_50 zn_44 rfl rfl rfl
theorem E_X4_lay_6 : AW X d 41 6 [l0, l1, l2, l3, l4] (.ref a :: S) st P = AW X d 41 7 [l0, l1, l2, .ref a, l4] S st P := zAW_st (zd_of zb_X4_lay dX4_lay_6) rfl rfl
theorem E_X4_lay_6n : AW X d 41 6 [l0, l1, l2, l3, l4] (.null :: S) st P = AW X d 41 7 [l0, l1, l2, .null, l4] S st P := zAW_st (zd_of zb_X4_lay dX4_lay_6) rfl rfl
theorem E_X4_lay_7 : AW X d 41 7 [l0, l1, l2, .ref a, l4] S st P = AW X d 41 8 [l0, l1, l2, .ref a, l4] (.ref a :: S) st P := zAW_st (zd_of zb_X4_lay dX4_lay_7) rfl rfl
theorem E_X4_lay_7n : AW X d 41 7 [l0, l1, l2, .null, l4] S st P = AW X d 41 8 [l0, l1, l2, .null, l4] (.null :: S) st P := zAW_st (zd_of zb_X4_lay dX4_lay_7) rfl rfl
theorem E_X4_lay_8 : AW X d 41 8 [l0, l1, l2, l3, l4] (.ref a :: S) st P = AW X d 41 11 [l0, l1, l2, l3, l4] S st P := zq_null1 (t := 28) (zd_of zb_X4_lay dX4_lay_8) (by decide)
theorem E_X4_lay_8n : AW X d 41 8 [l0, l1, l2, l3, l4] (.null :: S) st P = AW X d 41 28 [l0, l1, l2, l3, l4] S st P := zq_null2 (t := 28) (zd_of zb_X4_lay dX4_lay_8) (by decide)
theorem E_X4_lay_11 : AW X d 41 11 [.ref a, l1, l2, l3, l4] S st P = AW X d 41 12 [.ref a, l1, l2, l3, l4] (.ref a :: S) st P := zAW_st (zd_of zb_X4_lay dX4_lay_11) rfl rfl
theorem E_X4_lay_11n : AW X d 41 11 [.null, l1, l2, l3, l4] S st P = AW X d 41 12 [.null, l1, l2, l3, l4] (.null :: S) st P := zAW_st (zd_of zb_X4_lay dX4_lay_11) rfl rfl
theorem E_X4_lay_12 : AW X d 41 12 [l0, l1, l2, l3, l4] (.ref a :: S) st P = zwith (zget st a 5 1) fun v => AW X d 41 15 [l0, l1, l2, l3, l4] (v :: S) st P := zq_getfield (zd_of zb_X4_lay dX4_lay_12) zo_X4_lay zf_4_32
theorem E_X4_lay_15 : AW X d 41 15 [l0, l1, l2, .ref a, l4] S st P = AW X d 41 16 [l0, l1, l2, .ref a, l4] (.ref a :: S) st P := zAW_st (zd_of zb_X4_lay dX4_lay_15) rfl rfl
theorem E_X4_lay_15n : AW X d 41 15 [l0, l1, l2, .null, l4] S st P = AW X d 41 16 [l0, l1, l2, .null, l4] (.null :: S) st P := zAW_st (zd_of zb_X4_lay dX4_lay_15) rfl rfl
theorem E_X4_lay_16 : AW X d 41 16 [l0, .int x, l2, l3, l4] S st P = AW X d 41 17 [l0, .int x, l2, l3, l4] (.int x :: S) st P := zAW_st (zd_of zb_X4_lay dX4_lay_16) rfl rfl
theorem E_X4_lay_17 : AW X d 41 17 [l0, l1, .int x, l3, l4] S st P = AW X d 41 18 [l0, l1, .int x, l3, l4] (.int x :: S) st P := zAW_st (zd_of zb_X4_lay dX4_lay_17) rfl rfl
theorem E_X4_lay_18 : AW X d 41 18 [l0, l1, l2, l3, l4] (.int y :: .int x :: v1 :: S) st P = zif (S.length ≤ 4) (AC X d 42 [v1, .int x, .int y] st (zaft X d 41 18 [l0, l1, l2, l3, l4] S P)) := zq_callS (B := [v1, .int x, .int y]) (S2 := S) (zd_of zb_X4_lay dX4_lay_18) zo_X4_lay (by decide) (by decide) (by decide) zl_4_54 zn_42 (by simp only [List.length_cons]; omega) rfl rfl
theorem E_X4_lay_21 : AW X d 41 21 [l0, l1, l2, l3, l4] (.int y :: .int x :: S) st P = AW X d 41 22 [l0, l1, l2, l3, l4] (.int (x + y) :: S) st P := zAW_st (zd_of zb_X4_lay dX4_lay_21) rfl rfl
theorem E_X4_lay_22 : AW X d 41 22 [l0, l1, l2, l3, l4] S st P = AW X d 41 25 [l0, l1, l2, l3, l4] (.int 400 :: S) st P := zq_sipush (zd_of zb_X4_lay dX4_lay_22) (by decide)
theorem E_X4_lay_25 : AW X d 41 25 [l0, l1, l2, l3, l4] (.int y :: .int x :: S) st P = if x ≤ y then AW X d 41 30 [l0, l1, l2, l3, l4] S st P else AW X d 41 28 [l0, l1, l2, l3, l4] S st P := zq_icmp (c := x ≤ y) (zd_of zb_X4_lay dX4_lay_25) (by decide) rfl
theorem E_X4_lay_28 : AW X d 41 28 [l0, l1, l2, l3, l4] S st P = AW X d 41 29 [l0, l1, l2, l3, l4] (.null :: S) st P := zAW_st (zd_of zb_X4_lay dX4_lay_28) rfl rfl
theorem E_X4_lay_29 : AW X d 41 29 [l0, l1, l2, l3, l4] ([.ref a]) st P = P (.inl (some (.ref a))) st := zAW_ret (w := (.inl (some (.ref a)), st)) (zd_of zb_X4_lay dX4_lay_29) rfl rfl (by simp only [zfin, zr_X4_lay])
theorem E_X4_lay_29n : AW X d 41 29 [l0, l1, l2, l3, l4] [.null] st P = P (.inl (some .null)) st := zAW_ret (w := (.inl (some .null), st)) (zd_of zb_X4_lay dX4_lay_29) rfl rfl (by simp only [zfin, zr_X4_lay])
theorem E_X4_lay_30 : AW X d 41 30 [.ref a, l1, l2, l3, l4] S st P = AW X d 41 31 [.ref a, l1, l2, l3, l4] (.ref a :: S) st P := zAW_st (zd_of zb_X4_lay dX4_lay_30) rfl rfl
theorem E_X4_lay_30n : AW X d 41 30 [.null, l1, l2, l3, l4] S st P = AW X d 41 31 [.null, l1, l2, l3, l4] (.null :: S) st P := zAW_st (zd_of zb_X4_lay dX4_lay_30) rfl rfl
theorem E_X4_lay_31 : AW X d 41 31 [l0, l1, l2, .ref a, l4] S st P = AW X d 41 32 [l0, l1, l2, .ref a, l4] (.ref a :: S) st P := zAW_st (zd_of zb_X4_lay dX4_lay_31) rfl rfl
theorem E_X4_lay_31n : AW X d 41 31 [l0, l1, l2, .null, l4] S st P = AW X d 41 32 [l0, l1, l2, .null, l4] (.null :: S) st P := zAW_st (zd_of zb_X4_lay dX4_lay_31) rfl rfl
theorem E_X4_lay_32 : AW X d 41 32 [l0, l1, l2, .ref a, l4] S st P = AW X d 41 33 [l0, l1, l2, .ref a, l4] (.ref a :: S) st P := zAW_st (zd_of zb_X4_lay dX4_lay_32) rfl rfl
theorem E_X4_lay_32n : AW X d 41 32 [l0, l1, l2, .null, l4] S st P = AW X d 41 33 [l0, l1, l2, .null, l4] (.null :: S) st P := zAW_st (zd_of zb_X4_lay dX4_lay_32) rfl rfl
theorem E_X4_lay_33 : AW X d 41 33 [l0, l1, l2, l3, l4] (.ref a :: S) st P = zwith (zget st a 4 2) fun v => AW X d 41 36 [l0, l1, l2, l3, l4] (v :: S) st P := zq_getfield (zd_of zb_X4_lay dX4_lay_33) zo_X4_lay zf_4_58
theorem E_X4_lay_36 : AW X d 41 36 [l0, l1, l2, .ref a, l4] S st P = AW X d 41 37 [l0, l1, l2, .ref a, l4] (.ref a :: S) st P := zAW_st (zd_of zb_X4_lay dX4_lay_36) rfl rfl
theorem E_X4_lay_36n : AW X d 41 36 [l0, l1, l2, .null, l4] S st P = AW X d 41 37 [l0, l1, l2, .null, l4] (.null :: S) st P := zAW_st (zd_of zb_X4_lay dX4_lay_36) rfl rfl
theorem E_X4_lay_37 : AW X d 41 37 [l0, l1, l2, l3, l4] (.ref a :: S) st P = zwith (zget st a 4 3) fun v => AW X d 41 40 [l0, l1, l2, l3, l4] (v :: S) st P := zq_getfield (zd_of zb_X4_lay dX4_lay_37) zo_X4_lay zf_4_61
theorem E_X4_lay_40 : AW X d 41 40 [l0, .int x, l2, l3, l4] S st P = AW X d 41 41 [l0, .int x, l2, l3, l4] (.int x :: S) st P := zAW_st (zd_of zb_X4_lay dX4_lay_40) rfl rfl
theorem E_X4_lay_41 : AW X d 41 41 [l0, l1, .int x, l3, l4] S st P = AW X d 41 42 [l0, l1, .int x, l3, l4] (.int x :: S) st P := zAW_st (zd_of zb_X4_lay dX4_lay_41) rfl rfl
theorem E_X4_lay_42 : AW X d 41 42 [l0, l1, l2, l3, l4] (.int x4 :: .int x3 :: .int y :: .int x :: v1 :: .ref a :: S) st P = zif (zis st a 5 = true) (zif (S.length ≤ 4) (AC X d 43 [.ref a, v1, .int x, .int y, .int x3, .int x4] st (zaft X d 41 42 [l0, l1, l2, l3, l4] S P))) := zq_callV (B := [v1, .int x, .int y, .int x3, .int x4]) (zd_of zb_X4_lay dX4_lay_42) zo_X4_lay (by decide) zl_4_64 zn_43 rfl rfl rfl
theorem E_X4_lay_45 : AW X d 41 45 [l0, l1, l2, l3, l4] (.ref a :: S) st P = AW X d 41 47 [l0, l1, l2, l3, .ref a] S st P := zAW_st (zd_of zb_X4_lay dX4_lay_45) rfl rfl
theorem E_X4_lay_45n : AW X d 41 45 [l0, l1, l2, l3, l4] (.null :: S) st P = AW X d 41 47 [l0, l1, l2, l3, .null] S st P := zAW_st (zd_of zb_X4_lay dX4_lay_45) rfl rfl
theorem E_X4_lay_47 : AW X d 41 47 [l0, l1, l2, l3, .ref a] S st P = AW X d 41 49 [l0, l1, l2, l3, .ref a] (.ref a :: S) st P := zAW_st (zd_of zb_X4_lay dX4_lay_47) rfl rfl
theorem E_X4_lay_47n : AW X d 41 47 [l0, l1, l2, l3, .null] S st P = AW X d 41 49 [l0, l1, l2, l3, .null] (.null :: S) st P := zAW_st (zd_of zb_X4_lay dX4_lay_47) rfl rfl
theorem E_X4_lay_49 : AW X d 41 49 [l0, l1, l2, l3, l4] S st P = AW X d 41 50 [l0, l1, l2, l3, l4] (.int 1 :: S) st P := zq_iconst (zd_of zb_X4_lay dX4_lay_49) (by decide)
theorem E_X4_lay_50 : AW X d 41 50 [l0, l1, l2, l3, l4] (.int x :: .ref a :: S) st P = zwith (zget st a 4 6) fun _ => AW X d 41 53 [l0, l1, l2, l3, l4] S (zput st a 6 (.int x)) P := zq_putfield (zd_of zb_X4_lay dX4_lay_50) zo_X4_lay zf_4_68 rfl (Or.inl (by decide +kernel))
theorem E_X4_lay_53 : AW X d 41 53 [l0, l1, l2, .ref a, l4] S st P = AW X d 41 54 [l0, l1, l2, .ref a, l4] (.ref a :: S) st P := zAW_st (zd_of zb_X4_lay dX4_lay_53) rfl rfl
theorem E_X4_lay_53n : AW X d 41 53 [l0, l1, l2, .null, l4] S st P = AW X d 41 54 [l0, l1, l2, .null, l4] (.null :: S) st P := zAW_st (zd_of zb_X4_lay dX4_lay_53) rfl rfl
theorem E_X4_lay_54 : AW X d 41 54 [l0, l1, l2, l3, l4] S st P = AW X d 41 55 [l0, l1, l2, l3, l4] (.int 2 :: S) st P := zq_iconst (zd_of zb_X4_lay dX4_lay_54) (by decide)
theorem E_X4_lay_55 : AW X d 41 55 [l0, l1, l2, l3, l4] (.int x :: .ref a :: S) st P = zwith (zget st a 4 6) fun _ => AW X d 41 58 [l0, l1, l2, l3, l4] S (zput st a 6 (.int x)) P := zq_putfield (zd_of zb_X4_lay dX4_lay_55) zo_X4_lay zf_4_68 rfl (Or.inl (by decide +kernel))
theorem E_X4_lay_58 : AW X d 41 58 [l0, l1, l2, .ref a, l4] S st P = AW X d 41 59 [l0, l1, l2, .ref a, l4] (.ref a :: S) st P := zAW_st (zd_of zb_X4_lay dX4_lay_58) rfl rfl
theorem E_X4_lay_58n : AW X d 41 58 [l0, l1, l2, .null, l4] S st P = AW X d 41 59 [l0, l1, l2, .null, l4] (.null :: S) st P := zAW_st (zd_of zb_X4_lay dX4_lay_58) rfl rfl
theorem E_X4_lay_59 : AW X d 41 59 [l0, l1, l2, l3, .ref a] S st P = AW X d 41 61 [l0, l1, l2, l3, .ref a] (.ref a :: S) st P := zAW_st (zd_of zb_X4_lay dX4_lay_59) rfl rfl
theorem E_X4_lay_59n : AW X d 41 59 [l0, l1, l2, l3, .null] S st P = AW X d 41 61 [l0, l1, l2, l3, .null] (.null :: S) st P := zAW_st (zd_of zb_X4_lay dX4_lay_59) rfl rfl
theorem E_X4_lay_61 : AW X d 41 61 [l0, l1, l2, l3, l4] (.ref b :: .ref a :: S) st P = zwith (zget st a 4 8) fun _ => AW X d 41 64 [l0, l1, l2, l3, l4] S (zput st a 8 (.ref b)) P := zq_putfield (zd_of zb_X4_lay dX4_lay_61) zo_X4_lay zf_4_71 rfl (Or.inl (by decide +kernel))
theorem E_X4_lay_61n : AW X d 41 61 [l0, l1, l2, l3, l4] (.null :: .ref a :: S) st P = zwith (zget st a 4 8) fun _ => AW X d 41 64 [l0, l1, l2, l3, l4] S (zput st a 8 (.null)) P := zq_putfield (zd_of zb_X4_lay dX4_lay_61) zo_X4_lay zf_4_71 rfl (Or.inl (by decide +kernel))
theorem E_X4_lay_64 : AW X d 41 64 [l0, l1, l2, .ref a, l4] S st P = AW X d 41 65 [l0, l1, l2, .ref a, l4] (.ref a :: S) st P := zAW_st (zd_of zb_X4_lay dX4_lay_64) rfl rfl
theorem E_X4_lay_64n : AW X d 41 64 [l0, l1, l2, .null, l4] S st P = AW X d 41 65 [l0, l1, l2, .null, l4] (.null :: S) st P := zAW_st (zd_of zb_X4_lay dX4_lay_64) rfl rfl
theorem E_X4_lay_65 : AW X d 41 65 [l0, l1, l2, l3, l4] (.ref a :: S) st P = zwith (zget st a 4 4) fun v => AW X d 41 68 [l0, l1, l2, l3, l4] (v :: S) st P := zq_getfield (zd_of zb_X4_lay dX4_lay_65) zo_X4_lay zf_4_75
theorem E_X4_lay_68 : AW X d 41 68 [l0, .int x, l2, l3, l4] S st P = AW X d 41 69 [l0, .int x, l2, l3, l4] (.int x :: S) st P := zAW_st (zd_of zb_X4_lay dX4_lay_68) rfl rfl
theorem E_X4_lay_69 : AW X d 41 69 [l0, l1, l2, l3, l4] (.int y :: .int x :: S) st P = if x ≤ y then AW X d 41 98 [l0, l1, l2, l3, l4] S st P else AW X d 41 72 [l0, l1, l2, l3, l4] S st P := zq_icmp (c := x ≤ y) (zd_of zb_X4_lay dX4_lay_69) (by decide) rfl
theorem E_X4_lay_72 : AW X d 41 72 [l0, l1, l2, .ref a, l4] S st P = AW X d 41 73 [l0, l1, l2, .ref a, l4] (.ref a :: S) st P := zAW_st (zd_of zb_X4_lay dX4_lay_72) rfl rfl
theorem E_X4_lay_72n : AW X d 41 72 [l0, l1, l2, .null, l4] S st P = AW X d 41 73 [l0, l1, l2, .null, l4] (.null :: S) st P := zAW_st (zd_of zb_X4_lay dX4_lay_72) rfl rfl
theorem E_X4_lay_73 : AW X d 41 73 [.ref a, l1, l2, l3, l4] S st P = AW X d 41 74 [.ref a, l1, l2, l3, l4] (.ref a :: S) st P := zAW_st (zd_of zb_X4_lay dX4_lay_73) rfl rfl
theorem E_X4_lay_73n : AW X d 41 73 [.null, l1, l2, l3, l4] S st P = AW X d 41 74 [.null, l1, l2, l3, l4] (.null :: S) st P := zAW_st (zd_of zb_X4_lay dX4_lay_73) rfl rfl
theorem E_X4_lay_74 : AW X d 41 74 [l0, l1, l2, .ref a, l4] S st P = AW X d 41 75 [l0, l1, l2, .ref a, l4] (.ref a :: S) st P := zAW_st (zd_of zb_X4_lay dX4_lay_74) rfl rfl
theorem E_X4_lay_74n : AW X d 41 74 [l0, l1, l2, .null, l4] S st P = AW X d 41 75 [l0, l1, l2, .null, l4] (.null :: S) st P := zAW_st (zd_of zb_X4_lay dX4_lay_74) rfl rfl
theorem E_X4_lay_75 : AW X d 41 75 [l0, l1, l2, .ref a, l4] S st P = AW X d 41 76 [l0, l1, l2, .ref a, l4] (.ref a :: S) st P := zAW_st (zd_of zb_X4_lay dX4_lay_75) rfl rfl
theorem E_X4_lay_75n : AW X d 41 75 [l0, l1, l2, .null, l4] S st P = AW X d 41 76 [l0, l1, l2, .null, l4] (.null :: S) st P := zAW_st (zd_of zb_X4_lay dX4_lay_75) rfl rfl
theorem E_X4_lay_76 : AW X d 41 76 [l0, l1, l2, l3, l4] (.ref a :: S) st P = zwith (zget st a 4 2) fun v => AW X d 41 79 [l0, l1, l2, l3, l4] (v :: S) st P := zq_getfield (zd_of zb_X4_lay dX4_lay_76) zo_X4_lay zf_4_58
theorem E_X4_lay_79 : AW X d 41 79 [l0, .int x, l2, l3, l4] S st P = AW X d 41 80 [l0, .int x, l2, l3, l4] (.int x :: S) st P := zAW_st (zd_of zb_X4_lay dX4_lay_79) rfl rfl
theorem E_X4_lay_80 : AW X d 41 80 [l0, l1, l2, l3, l4] (.int y :: .int x :: S) st P = AW X d 41 81 [l0, l1, l2, l3, l4] (.int (x + y) :: S) st P := zAW_st (zd_of zb_X4_lay dX4_lay_80) rfl rfl
theorem E_X4_lay_81 : AW X d 41 81 [l0, l1, l2, .ref a, l4] S st P = AW X d 41 82 [l0, l1, l2, .ref a, l4] (.ref a :: S) st P := zAW_st (zd_of zb_X4_lay dX4_lay_81) rfl rfl
theorem E_X4_lay_81n : AW X d 41 81 [l0, l1, l2, .null, l4] S st P = AW X d 41 82 [l0, l1, l2, .null, l4] (.null :: S) st P := zAW_st (zd_of zb_X4_lay dX4_lay_81) rfl rfl
theorem E_X4_lay_82 : AW X d 41 82 [l0, l1, l2, l3, l4] (.ref a :: S) st P = zwith (zget st a 4 3) fun v => AW X d 41 85 [l0, l1, l2, l3, l4] (v :: S) st P := zq_getfield (zd_of zb_X4_lay dX4_lay_82) zo_X4_lay zf_4_61
theorem E_X4_lay_85 : AW X d 41 85 [l0, l1, l2, .ref a, l4] S st P = AW X d 41 86 [l0, l1, l2, .ref a, l4] (.ref a :: S) st P := zAW_st (zd_of zb_X4_lay dX4_lay_85) rfl rfl
theorem E_X4_lay_85n : AW X d 41 85 [l0, l1, l2, .null, l4] S st P = AW X d 41 86 [l0, l1, l2, .null, l4] (.null :: S) st P := zAW_st (zd_of zb_X4_lay dX4_lay_85) rfl rfl
theorem E_X4_lay_86 : AW X d 41 86 [l0, l1, l2, l3, l4] (.ref a :: S) st P = zwith (zget st a 4 4) fun v => AW X d 41 89 [l0, l1, l2, l3, l4] (v :: S) st P := zq_getfield (zd_of zb_X4_lay dX4_lay_86) zo_X4_lay zf_4_75
theorem E_X4_lay_89 : AW X d 41 89 [l0, .int x, l2, l3, l4] S st P = AW X d 41 90 [l0, .int x, l2, l3, l4] (.int x :: S) st P := zAW_st (zd_of zb_X4_lay dX4_lay_89) rfl rfl
theorem E_X4_lay_90 : AW X d 41 90 [l0, l1, l2, l3, l4] (.int y :: .int x :: S) st P = AW X d 41 91 [l0, l1, l2, l3, l4] (.int (x - y) :: S) st P := zAW_st (zd_of zb_X4_lay dX4_lay_90) rfl rfl
theorem E_X4_lay_91 : AW X d 41 91 [l0, l1, .int x, l3, l4] S st P = AW X d 41 92 [l0, l1, .int x, l3, l4] (.int x :: S) st P := zAW_st (zd_of zb_X4_lay dX4_lay_91) rfl rfl
theorem E_X4_lay_92 : AW X d 41 92 [l0, l1, l2, l3, l4] (.int x4 :: .int x3 :: .int y :: .int x :: v1 :: .ref a :: S) st P = zif (zis st a 5 = true) (zif (S.length ≤ 4) (AC X d 43 [.ref a, v1, .int x, .int y, .int x3, .int x4] st (zaft X d 41 92 [l0, l1, l2, l3, l4] S P))) := zq_callV (B := [v1, .int x, .int y, .int x3, .int x4]) (zd_of zb_X4_lay dX4_lay_92) zo_X4_lay (by decide) zl_4_64 zn_43 rfl rfl rfl
theorem E_X4_lay_95 : AW X d 41 95 [l0, l1, l2, l3, l4] (.ref b :: .ref a :: S) st P = zwith (zget st a 4 9) fun _ => AW X d 41 98 [l0, l1, l2, l3, l4] S (zput st a 9 (.ref b)) P := zq_putfield (zd_of zb_X4_lay dX4_lay_95) zo_X4_lay zf_4_78 rfl (Or.inl (by decide +kernel))
theorem E_X4_lay_95n : AW X d 41 95 [l0, l1, l2, l3, l4] (.null :: .ref a :: S) st P = zwith (zget st a 4 9) fun _ => AW X d 41 98 [l0, l1, l2, l3, l4] S (zput st a 9 (.null)) P := zq_putfield (zd_of zb_X4_lay dX4_lay_95) zo_X4_lay zf_4_78 rfl (Or.inl (by decide +kernel))
theorem E_X4_lay_98 : AW X d 41 98 [l0, l1, l2, .ref a, l4] S st P = AW X d 41 99 [l0, l1, l2, .ref a, l4] (.ref a :: S) st P := zAW_st (zd_of zb_X4_lay dX4_lay_98) rfl rfl
theorem E_X4_lay_98n : AW X d 41 98 [l0, l1, l2, .null, l4] S st P = AW X d 41 99 [l0, l1, l2, .null, l4] (.null :: S) st P := zAW_st (zd_of zb_X4_lay dX4_lay_98) rfl rfl
theorem E_X4_lay_99 : AW X d 41 99 [l0, l1, l2, l3, l4] (.ref a :: S) st P = zwith (zget st a 4 5) fun v => AW X d 41 102 [l0, l1, l2, l3, l4] (v :: S) st P := zq_getfield (zd_of zb_X4_lay dX4_lay_99) zo_X4_lay zf_4_81
theorem E_X4_lay_102 : AW X d 41 102 [l0, l1, .int x, l3, l4] S st P = AW X d 41 103 [l0, l1, .int x, l3, l4] (.int x :: S) st P := zAW_st (zd_of zb_X4_lay dX4_lay_102) rfl rfl
theorem E_X4_lay_103 : AW X d 41 103 [l0, l1, l2, l3, l4] (.int y :: .int x :: S) st P = if x ≤ y then AW X d 41 135 [l0, l1, l2, l3, l4] S st P else AW X d 41 106 [l0, l1, l2, l3, l4] S st P := zq_icmp (c := x ≤ y) (zd_of zb_X4_lay dX4_lay_103) (by decide) rfl
theorem E_X4_lay_106 : AW X d 41 106 [l0, l1, l2, .ref a, l4] S st P = AW X d 41 107 [l0, l1, l2, .ref a, l4] (.ref a :: S) st P := zAW_st (zd_of zb_X4_lay dX4_lay_106) rfl rfl
theorem E_X4_lay_106n : AW X d 41 106 [l0, l1, l2, .null, l4] S st P = AW X d 41 107 [l0, l1, l2, .null, l4] (.null :: S) st P := zAW_st (zd_of zb_X4_lay dX4_lay_106) rfl rfl
theorem E_X4_lay_107 : AW X d 41 107 [.ref a, l1, l2, l3, l4] S st P = AW X d 41 108 [.ref a, l1, l2, l3, l4] (.ref a :: S) st P := zAW_st (zd_of zb_X4_lay dX4_lay_107) rfl rfl
theorem E_X4_lay_107n : AW X d 41 107 [.null, l1, l2, l3, l4] S st P = AW X d 41 108 [.null, l1, l2, l3, l4] (.null :: S) st P := zAW_st (zd_of zb_X4_lay dX4_lay_107) rfl rfl
theorem E_X4_lay_108 : AW X d 41 108 [l0, l1, l2, .ref a, l4] S st P = AW X d 41 109 [l0, l1, l2, .ref a, l4] (.ref a :: S) st P := zAW_st (zd_of zb_X4_lay dX4_lay_108) rfl rfl
theorem E_X4_lay_108n : AW X d 41 108 [l0, l1, l2, .null, l4] S st P = AW X d 41 109 [l0, l1, l2, .null, l4] (.null :: S) st P := zAW_st (zd_of zb_X4_lay dX4_lay_108) rfl rfl
theorem E_X4_lay_109 : AW X d 41 109 [l0, l1, l2, .ref a, l4] S st P = AW X d 41 110 [l0, l1, l2, .ref a, l4] (.ref a :: S) st P := zAW_st (zd_of zb_X4_lay dX4_lay_109) rfl rfl
theorem E_X4_lay_109n : AW X d 41 109 [l0, l1, l2, .null, l4] S st P = AW X d 41 110 [l0, l1, l2, .null, l4] (.null :: S) st P := zAW_st (zd_of zb_X4_lay dX4_lay_109) rfl rfl
theorem E_X4_lay_110 : AW X d 41 110 [l0, l1, l2, l3, l4] (.ref a :: S) st P = zwith (zget st a 4 2) fun v => AW X d 41 113 [l0, l1, l2, l3, l4] (v :: S) st P := zq_getfield (zd_of zb_X4_lay dX4_lay_110) zo_X4_lay zf_4_58
theorem E_X4_lay_113 : AW X d 41 113 [l0, l1, l2, .ref a, l4] S st P = AW X d 41 114 [l0, l1, l2, .ref a, l4] (.ref a :: S) st P := zAW_st (zd_of zb_X4_lay dX4_lay_113) rfl rfl
theorem E_X4_lay_113n : AW X d 41 113 [l0, l1, l2, .null, l4] S st P = AW X d 41 114 [l0, l1, l2, .null, l4] (.null :: S) st P := zAW_st (zd_of zb_X4_lay dX4_lay_113) rfl rfl
theorem E_X4_lay_114 : AW X d 41 114 [l0, l1, l2, l3, l4] (.ref a :: S) st P = zwith (zget st a 4 3) fun v => AW X d 41 117 [l0, l1, l2, l3, l4] (v :: S) st P := zq_getfield (zd_of zb_X4_lay dX4_lay_114) zo_X4_lay zf_4_61
theorem E_X4_lay_117 : AW X d 41 117 [l0, l1, .int x, l3, l4] S st P = AW X d 41 118 [l0, l1, .int x, l3, l4] (.int x :: S) st P := zAW_st (zd_of zb_X4_lay dX4_lay_117) rfl rfl
theorem E_X4_lay_118 : AW X d 41 118 [l0, l1, l2, l3, l4] (.int y :: .int x :: S) st P = AW X d 41 119 [l0, l1, l2, l3, l4] (.int (x + y) :: S) st P := zAW_st (zd_of zb_X4_lay dX4_lay_118) rfl rfl
theorem E_X4_lay_119 : AW X d 41 119 [l0, l1, l2, .ref a, l4] S st P = AW X d 41 120 [l0, l1, l2, .ref a, l4] (.ref a :: S) st P := zAW_st (zd_of zb_X4_lay dX4_lay_119) rfl rfl
theorem E_X4_lay_119n : AW X d 41 119 [l0, l1, l2, .null, l4] S st P = AW X d 41 120 [l0, l1, l2, .null, l4] (.null :: S) st P := zAW_st (zd_of zb_X4_lay dX4_lay_119) rfl rfl
theorem E_X4_lay_120 : AW X d 41 120 [l0, l1, l2, l3, l4] (.ref a :: S) st P = zwith (zget st a 4 4) fun v => AW X d 41 123 [l0, l1, l2, l3, l4] (v :: S) st P := zq_getfield (zd_of zb_X4_lay dX4_lay_120) zo_X4_lay zf_4_75
theorem E_X4_lay_123 : AW X d 41 123 [l0, l1, l2, .ref a, l4] S st P = AW X d 41 124 [l0, l1, l2, .ref a, l4] (.ref a :: S) st P := zAW_st (zd_of zb_X4_lay dX4_lay_123) rfl rfl
theorem E_X4_lay_123n : AW X d 41 123 [l0, l1, l2, .null, l4] S st P = AW X d 41 124 [l0, l1, l2, .null, l4] (.null :: S) st P := zAW_st (zd_of zb_X4_lay dX4_lay_123) rfl rfl
theorem E_X4_lay_124 : AW X d 41 124 [l0, l1, l2, l3, l4] (.ref a :: S) st P = zwith (zget st a 4 5) fun v => AW X d 41 127 [l0, l1, l2, l3, l4] (v :: S) st P := zq_getfield (zd_of zb_X4_lay dX4_lay_124) zo_X4_lay zf_4_81
theorem E_X4_lay_127 : AW X d 41 127 [l0, l1, .int x, l3, l4] S st P = AW X d 41 128 [l0, l1, .int x, l3, l4] (.int x :: S) st P := zAW_st (zd_of zb_X4_lay dX4_lay_127) rfl rfl
theorem E_X4_lay_128 : AW X d 41 128 [l0, l1, l2, l3, l4] (.int y :: .int x :: S) st P = AW X d 41 129 [l0, l1, l2, l3, l4] (.int (x - y) :: S) st P := zAW_st (zd_of zb_X4_lay dX4_lay_128) rfl rfl
theorem E_X4_lay_129 : AW X d 41 129 [l0, l1, l2, l3, l4] (.int x4 :: .int x3 :: .int y :: .int x :: v1 :: .ref a :: S) st P = zif (zis st a 5 = true) (zif (S.length ≤ 4) (AC X d 43 [.ref a, v1, .int x, .int y, .int x3, .int x4] st (zaft X d 41 129 [l0, l1, l2, l3, l4] S P))) := zq_callV (B := [v1, .int x, .int y, .int x3, .int x4]) (zd_of zb_X4_lay dX4_lay_129) zo_X4_lay (by decide) zl_4_64 zn_43 rfl rfl rfl
theorem E_X4_lay_132 : AW X d 41 132 [l0, l1, l2, l3, l4] (.ref b :: .ref a :: S) st P = zwith (zget st a 4 10) fun _ => AW X d 41 135 [l0, l1, l2, l3, l4] S (zput st a 10 (.ref b)) P := zq_putfield (zd_of zb_X4_lay dX4_lay_132) zo_X4_lay zf_4_84 rfl (Or.inl (by decide +kernel))
theorem E_X4_lay_132n : AW X d 41 132 [l0, l1, l2, l3, l4] (.null :: .ref a :: S) st P = zwith (zget st a 4 10) fun _ => AW X d 41 135 [l0, l1, l2, l3, l4] S (zput st a 10 (.null)) P := zq_putfield (zd_of zb_X4_lay dX4_lay_132) zo_X4_lay zf_4_84 rfl (Or.inl (by decide +kernel))
theorem E_X4_lay_135 : AW X d 41 135 [l0, l1, l2, l3, .ref a] S st P = AW X d 41 137 [l0, l1, l2, l3, .ref a] (.ref a :: S) st P := zAW_st (zd_of zb_X4_lay dX4_lay_135) rfl rfl
theorem E_X4_lay_135n : AW X d 41 135 [l0, l1, l2, l3, .null] S st P = AW X d 41 137 [l0, l1, l2, l3, .null] (.null :: S) st P := zAW_st (zd_of zb_X4_lay dX4_lay_135) rfl rfl
theorem E_X4_lay_137 : AW X d 41 137 [l0, l1, l2, l3, l4] ([.ref a]) st P = P (.inl (some (.ref a))) st := zAW_ret (w := (.inl (some (.ref a)), st)) (zd_of zb_X4_lay dX4_lay_137) rfl rfl (by simp only [zfin, zr_X4_lay])
theorem E_X4_lay_137n : AW X d 41 137 [l0, l1, l2, l3, l4] [.null] st P = P (.inl (some .null)) st := zAW_ret (w := (.inl (some .null), st)) (zd_of zb_X4_lay dX4_lay_137) rfl rfl (by simp only [zfin, zr_X4_lay])
theorem A_X4_lay : AC X (d + 1) 41 [.ref a, .int x, .int y] st P = AW X d 41 0 [.ref a, .int x, .int y, .retAddr 0, .retAddr 0] [] st P := AC_eq ⟨⟨(show 3 ≤ zml 41 by decide +kernel), by decide +kernel⟩, by simp [zc1_int, zc1_ref, zc1_float]⟩
theorem E_X4_piecesOf_0 : AW X d 42 0 [l0, l1, l2] S st P = AW X d 42 1 [l0, l1, l2] (.int 1 :: S) st P := zq_iconst (zd_of zb_X4_piecesOf dX4_piecesOf_0) (by decide)
theorem E_X4_piecesOf_1 : AW X d 42 1 [.ref a, l1, l2] S st P = AW X d 42 2 [.ref a, l1, l2] (.ref a :: S) st P := zAW_st (zd_of zb_X4_piecesOf dX4_piecesOf_1) rfl rfl
theorem E_X4_piecesOf_1n : AW X d 42 1 [.null, l1, l2] S st P = AW X d 42 2 [.null, l1, l2] (.null :: S) st P := zAW_st (zd_of zb_X4_piecesOf dX4_piecesOf_1) rfl rfl
theorem E_X4_piecesOf_2 : AW X d 42 2 [l0, l1, l2] (.ref a :: S) st P = zwith (zget st a 4 4) fun v => AW X d 42 5 [l0, l1, l2] (v :: S) st P := zq_getfield (zd_of zb_X4_piecesOf dX4_piecesOf_2) zo_X4_piecesOf zf_4_75
theorem E_X4_piecesOf_5 : AW X d 42 5 [l0, .int x, l2] S st P = AW X d 42 6 [l0, .int x, l2] (.int x :: S) st P := zAW_st (zd_of zb_X4_piecesOf dX4_piecesOf_5) rfl rfl
theorem E_X4_piecesOf_6 : AW X d 42 6 [l0, l1, l2] (.int y :: .int x :: S) st P = if x ≤ y then AW X d 42 13 [l0, l1, l2] S st P else AW X d 42 9 [l0, l1, l2] S st P := zq_icmp (c := x ≤ y) (zd_of zb_X4_piecesOf dX4_piecesOf_6) (by decide) rfl
theorem E_X4_piecesOf_9 : AW X d 42 9 [l0, l1, l2] S st P = AW X d 42 10 [l0, l1, l2] (.int 1 :: S) st P := zq_iconst (zd_of zb_X4_piecesOf dX4_piecesOf_9) (by decide)
theorem E_X4_piecesOf_10 : AW X d 42 10 [l0, l1, l2] S st P = AW X d 42 14 [l0, l1, l2] S st P := zq_goto (zd_of zb_X4_piecesOf dX4_piecesOf_10) (by decide)
theorem E_X4_piecesOf_13 : AW X d 42 13 [l0, l1, l2] S st P = AW X d 42 14 [l0, l1, l2] (.int 0 :: S) st P := zq_iconst (zd_of zb_X4_piecesOf dX4_piecesOf_13) (by decide)
theorem E_X4_piecesOf_14 : AW X d 42 14 [l0, l1, l2] (.int y :: .int x :: S) st P = AW X d 42 15 [l0, l1, l2] (.int (x + y) :: S) st P := zAW_st (zd_of zb_X4_piecesOf dX4_piecesOf_14) rfl rfl
theorem E_X4_piecesOf_15 : AW X d 42 15 [.ref a, l1, l2] S st P = AW X d 42 16 [.ref a, l1, l2] (.ref a :: S) st P := zAW_st (zd_of zb_X4_piecesOf dX4_piecesOf_15) rfl rfl
theorem E_X4_piecesOf_15n : AW X d 42 15 [.null, l1, l2] S st P = AW X d 42 16 [.null, l1, l2] (.null :: S) st P := zAW_st (zd_of zb_X4_piecesOf dX4_piecesOf_15) rfl rfl
theorem E_X4_piecesOf_16 : AW X d 42 16 [l0, l1, l2] (.ref a :: S) st P = zwith (zget st a 4 5) fun v => AW X d 42 19 [l0, l1, l2] (v :: S) st P := zq_getfield (zd_of zb_X4_piecesOf dX4_piecesOf_16) zo_X4_piecesOf zf_4_81
theorem E_X4_piecesOf_19 : AW X d 42 19 [l0, l1, .int x] S st P = AW X d 42 20 [l0, l1, .int x] (.int x :: S) st P := zAW_st (zd_of zb_X4_piecesOf dX4_piecesOf_19) rfl rfl
theorem E_X4_piecesOf_20 : AW X d 42 20 [l0, l1, l2] (.int y :: .int x :: S) st P = if x ≤ y then AW X d 42 27 [l0, l1, l2] S st P else AW X d 42 23 [l0, l1, l2] S st P := zq_icmp (c := x ≤ y) (zd_of zb_X4_piecesOf dX4_piecesOf_20) (by decide) rfl
theorem E_X4_piecesOf_23 : AW X d 42 23 [l0, l1, l2] S st P = AW X d 42 24 [l0, l1, l2] (.int 1 :: S) st P := zq_iconst (zd_of zb_X4_piecesOf dX4_piecesOf_23) (by decide)
theorem E_X4_piecesOf_24 : AW X d 42 24 [l0, l1, l2] S st P = AW X d 42 28 [l0, l1, l2] S st P := zq_goto (zd_of zb_X4_piecesOf dX4_piecesOf_24) (by decide)
theorem E_X4_piecesOf_27 : AW X d 42 27 [l0, l1, l2] S st P = AW X d 42 28 [l0, l1, l2] (.int 0 :: S) st P := zq_iconst (zd_of zb_X4_piecesOf dX4_piecesOf_27) (by decide)
theorem E_X4_piecesOf_28 : AW X d 42 28 [l0, l1, l2] (.int y :: .int x :: S) st P = AW X d 42 29 [l0, l1, l2] (.int (x + y) :: S) st P := zAW_st (zd_of zb_X4_piecesOf dX4_piecesOf_28) rfl rfl
theorem E_X4_piecesOf_29 : AW X d 42 29 [l0, l1, l2] ([.int x]) st P = P (.inl (some (.int x))) st := zAW_ret (w := (.inl (some (.int x)), st)) (zd_of zb_X4_piecesOf dX4_piecesOf_29) rfl rfl (by simp only [zfin, zr_X4_piecesOf])
theorem A_X4_piecesOf (h1 : zc1 v1 = true) : AC X (d + 1) 42 [v1, .int x, .int y] st P = AW X d 42 0 [v1, .int x, .int y] [] st P := AC_eq ⟨⟨(show 3 ≤ zml 42 by decide +kernel), by decide +kernel⟩, by simp [zc1_int, zc1_ref, zc1_float, h1]⟩
theorem E_X4_pieceOf_0 : AW X d 43 0 [.ref a, l1, l2, l3, l4, l5, l6] S st P = AW X d 43 1 [.ref a, l1, l2, l3, l4, l5, l6] (.ref a :: S) st P := zAW_st (zd_of zb_X4_pieceOf dX4_pieceOf_0) rfl rfl
theorem E_X4_pieceOf_0n : AW X d 43 0 [.null, l1, l2, l3, l4, l5, l6] S st P = AW X d 43 1 [.null, l1, l2, l3, l4, l5, l6] (.null :: S) st P := zAW_st (zd_of zb_X4_pieceOf dX4_pieceOf_0) rfl rfl
theorem E_X4_pieceOf_1 : AW X d 43 1 [l0, l1, l2, l3, l4, l5, l6] (.ref a :: S) st P = zif (zis st a 5 = true) (zif (S.length ≤ 4) (AC X d 40 [.ref a] st (zaft X d 43 1 [l0, l1, l2, l3, l4, l5, l6] S P))) := zq_callV (B := []) (zd_of zb_X4_pieceOf dX4_pieceOf_1) zo_X4_pieceOf (by decide) zl_4_22 zn_40 rfl rfl rfl
theorem E_X4_pieceOf_4 : AW X d 43 4 [l0, l1, l2, l3, l4, l5, l6] (.ref a :: S) st P = AW X d 43 6 [l0, l1, l2, l3, l4, l5, .ref a] S st P := zAW_st (zd_of zb_X4_pieceOf dX4_pieceOf_4) rfl rfl
theorem E_X4_pieceOf_4n : AW X d 43 4 [l0, l1, l2, l3, l4, l5, l6] (.null :: S) st P = AW X d 43 6 [l0, l1, l2, l3, l4, l5, .null] S st P := zAW_st (zd_of zb_X4_pieceOf dX4_pieceOf_4) rfl rfl
theorem E_X4_pieceOf_6 : AW X d 43 6 [l0, l1, l2, l3, l4, l5, .ref a] S st P = AW X d 43 8 [l0, l1, l2, l3, l4, l5, .ref a] (.ref a :: S) st P := zAW_st (zd_of zb_X4_pieceOf dX4_pieceOf_6) rfl rfl
theorem E_X4_pieceOf_6n : AW X d 43 6 [l0, l1, l2, l3, l4, l5, .null] S st P = AW X d 43 8 [l0, l1, l2, l3, l4, l5, .null] (.null :: S) st P := zAW_st (zd_of zb_X4_pieceOf dX4_pieceOf_6) rfl rfl
theorem E_X4_pieceOf_8 : AW X d 43 8 [l0, .ref a, l2, l3, l4, l5, l6] S st P = AW X d 43 9 [l0, .ref a, l2, l3, l4, l5, l6] (.ref a :: S) st P := zAW_st (zd_of zb_X4_pieceOf dX4_pieceOf_8) rfl rfl
theorem E_X4_pieceOf_8n : AW X d 43 8 [l0, .null, l2, l3, l4, l5, l6] S st P = AW X d 43 9 [l0, .null, l2, l3, l4, l5, l6] (.null :: S) st P := zAW_st (zd_of zb_X4_pieceOf dX4_pieceOf_8) rfl rfl
theorem E_X4_pieceOf_9 : AW X d 43 9 [l0, .ref a, l2, l3, l4, l5, l6] S st P = AW X d 43 10 [l0, .ref a, l2, l3, l4, l5, l6] (.ref a :: S) st P := zAW_st (zd_of zb_X4_pieceOf dX4_pieceOf_9) rfl rfl
theorem E_X4_pieceOf_9n : AW X d 43 9 [l0, .null, l2, l3, l4, l5, l6] S st P = AW X d 43 10 [l0, .null, l2, l3, l4, l5, l6] (.null :: S) st P := zAW_st (zd_of zb_X4_pieceOf dX4_pieceOf_9) rfl rfl
theorem E_X4_pieceOf_10 : AW X d 43 10 [l0, l1, l2, l3, l4, l5, l6] (.ref a :: S) st P = zwith (zget st a 4 1) fun v => AW X d 43 13 [l0, l1, l2, l3, l4, l5, l6] (v :: S) st P := zq_getfield (zd_of zb_X4_pieceOf dX4_pieceOf_10) zo_X4_pieceOf zf_4_87
theorem E_X4_pieceOf_13 : AW X d 43 13 [l0, l1, .int x, l3, l4, l5, l6] S st P = AW X d 43 14 [l0, l1, .int x, l3, l4, l5, l6] (.int x :: S) st P := zAW_st (zd_of zb_X4_pieceOf dX4_pieceOf_13) rfl rfl
theorem E_X4_pieceOf_14 : AW X d 43 14 [l0, l1, l2, .int x, l4, l5, l6] S st P = AW X d 43 15 [l0, l1, l2, .int x, l4, l5, l6] (.int x :: S) st P := zAW_st (zd_of zb_X4_pieceOf dX4_pieceOf_14) rfl rfl
theorem E_X4_pieceOf_15 : AW X d 43 15 [l0, l1, l2, l3, .int x, l5, l6] S st P = AW X d 43 17 [l0, l1, l2, l3, .int x, l5, l6] (.int x :: S) st P := zAW_st (zd_of zb_X4_pieceOf dX4_pieceOf_15) rfl rfl
theorem E_X4_pieceOf_17 : AW X d 43 17 [l0, l1, l2, l3, l4, .int x, l6] S st P = AW X d 43 19 [l0, l1, l2, l3, l4, .int x, l6] (.int x :: S) st P := zAW_st (zd_of zb_X4_pieceOf dX4_pieceOf_17) rfl rfl
theorem E_X4_pieceOf_19 : AW X d 43 19 [l0, l1, l2, l3, l4, l5, l6] (.int x5 :: .int x4 :: .int x3 :: .int y :: .int x :: v1 :: .ref a :: S) st P = zif (zis st a 4 = true) (zif (S.length ≤ 4) (AC X d 28 [.ref a, v1, .int x, .int y, .int x3, .int x4, .int x5] st (zaft X d 43 19 [l0, l1, l2, l3, l4, l5, l6] S P))) := zq_callV (B := [v1, .int x, .int y, .int x3, .int x4, .int x5]) (zd_of zb_X4_pieceOf dX4_pieceOf_19) zo_X4_pieceOf (by decide) zl_4_26 zn_28 rfl rfl rfl
theorem E_X4_pieceOf_22 : AW X d 43 22 [l0, l1, l2, l3, l4, l5, .ref a] S st P = AW X d 43 24 [l0, l1, l2, l3, l4, l5, .ref a] (.ref a :: S) st P := zAW_st (zd_of zb_X4_pieceOf dX4_pieceOf_22) rfl rfl
theorem E_X4_pieceOf_22n : AW X d 43 22 [l0, l1, l2, l3, l4, l5, .null] S st P = AW X d 43 24 [l0, l1, l2, l3, l4, l5, .null] (.null :: S) st P := zAW_st (zd_of zb_X4_pieceOf dX4_pieceOf_22) rfl rfl
theorem E_X4_pieceOf_24 : AW X d 43 24 [l0, l1, l2, l3, l4, l5, l6] ([.ref a]) st P = P (.inl (some (.ref a))) st := zAW_ret (w := (.inl (some (.ref a)), st)) (zd_of zb_X4_pieceOf dX4_pieceOf_24) rfl rfl (by simp only [zfin, zr_X4_pieceOf])
theorem E_X4_pieceOf_24n : AW X d 43 24 [l0, l1, l2, l3, l4, l5, l6] [.null] st P = P (.inl (some .null)) st := zAW_ret (w := (.inl (some .null), st)) (zd_of zb_X4_pieceOf dX4_pieceOf_24) rfl rfl (by simp only [zfin, zr_X4_pieceOf])
theorem A_X4_pieceOf (h1 : zc1 v1 = true) : AC X (d + 1) 43 [.ref a, v1, .int x, .int y, .int x3, .int x4] st P = AW X d 43 0 [.ref a, v1, .int x, .int y, .int x3, .int x4, .retAddr 0] [] st P := AC_eq ⟨⟨(show 6 ≤ zml 43 by decide +kernel), by decide +kernel⟩, by simp [zc1_int, zc1_ref, zc1_float, h1]⟩
theorem E_X4_bestFor_0 : AW X d 44 0 [l0, l1, l2, l3, l4, l5] S st P = AW X d 44 1 [l0, l1, l2, l3, l4, l5] (.null :: S) st P := zAW_st (zd_of zb_X4_bestFor dX4_bestFor_0) rfl rfl
theorem E_X4_bestFor_1 : AW X d 44 1 [l0, l1, l2, l3, l4, l5] (.ref a :: S) st P = AW X d 44 2 [l0, l1, l2, .ref a, l4, l5] S st P := zAW_st (zd_of zb_X4_bestFor dX4_bestFor_1) rfl rfl
theorem E_X4_bestFor_1n : AW X d 44 1 [l0, l1, l2, l3, l4, l5] (.null :: S) st P = AW X d 44 2 [l0, l1, l2, .null, l4, l5] S st P := zAW_st (zd_of zb_X4_bestFor dX4_bestFor_1) rfl rfl
theorem E_X4_bestFor_2 : AW X d 44 2 [l0, l1, l2, l3, l4, l5] S st P = AW X d 44 3 [l0, l1, l2, l3, l4, l5] (.int 0 :: S) st P := zq_iconst (zd_of zb_X4_bestFor dX4_bestFor_2) (by decide)
theorem E_X4_bestFor_3 : AW X d 44 3 [l0, l1, l2, l3, l4, l5] (.int x :: S) st P = AW X d 44 5 [l0, l1, l2, l3, .int x, l5] S st P := zAW_st (zd_of zb_X4_bestFor dX4_bestFor_3) rfl rfl
theorem E_X4_bestFor_5 : AW X d 44 5 [l0, l1, l2, l3, .int x, l5] S st P = AW X d 44 7 [l0, l1, l2, l3, .int x, l5] (.int x :: S) st P := zAW_st (zd_of zb_X4_bestFor dX4_bestFor_5) rfl rfl
theorem E_X4_bestFor_7 : AW X d 44 7 [.ref a, l1, l2, l3, l4, l5] S st P = AW X d 44 8 [.ref a, l1, l2, l3, l4, l5] (.ref a :: S) st P := zAW_st (zd_of zb_X4_bestFor dX4_bestFor_7) rfl rfl
theorem E_X4_bestFor_7n : AW X d 44 7 [.null, l1, l2, l3, l4, l5] S st P = AW X d 44 8 [.null, l1, l2, l3, l4, l5] (.null :: S) st P := zAW_st (zd_of zb_X4_bestFor dX4_bestFor_7) rfl rfl
theorem E_X4_bestFor_8 : AW X d 44 8 [l0, l1, l2, l3, l4, l5] (.ref a :: S) st P = zwith (zget st a 5 1) fun v => AW X d 44 11 [l0, l1, l2, l3, l4, l5] (v :: S) st P := zq_getfield (zd_of zb_X4_bestFor dX4_bestFor_8) zo_X4_bestFor zf_4_32
theorem E_X4_bestFor_11 : AW X d 44 11 [l0, l1, l2, l3, l4, l5] (.int y :: .int x :: S) st P = if y ≤ x then AW X d 44 75 [l0, l1, l2, l3, l4, l5] S st P else AW X d 44 14 [l0, l1, l2, l3, l4, l5] S st P := zq_icmp (c := y ≤ x) (zd_of zb_X4_bestFor dX4_bestFor_11) (by decide) rfl
theorem E_X4_bestFor_14 : AW X d 44 14 [l0, l1, l2, l3, .int x, l5] S st P = AW X d 44 16 [l0, l1, l2, l3, .int x, l5] (.int x :: S) st P := zAW_st (zd_of zb_X4_bestFor dX4_bestFor_14) rfl rfl
theorem E_X4_bestFor_16 : AW X d 44 16 [.ref a, l1, l2, l3, l4, l5] S st P = AW X d 44 17 [.ref a, l1, l2, l3, l4, l5] (.ref a :: S) st P := zAW_st (zd_of zb_X4_bestFor dX4_bestFor_16) rfl rfl
theorem E_X4_bestFor_16n : AW X d 44 16 [.null, l1, l2, l3, l4, l5] S st P = AW X d 44 17 [.null, l1, l2, l3, l4, l5] (.null :: S) st P := zAW_st (zd_of zb_X4_bestFor dX4_bestFor_16) rfl rfl
theorem E_X4_bestFor_17 : AW X d 44 17 [l0, l1, l2, l3, l4, l5] (.ref a :: S) st P = zwith (zget st a 5 0) fun v => AW X d 44 20 [l0, l1, l2, l3, l4, l5] (v :: S) st P := zq_getfield (zd_of zb_X4_bestFor dX4_bestFor_17) zo_X4_bestFor zf_4_12
theorem E_X4_bestFor_20 : AW X d 44 20 [l0, l1, l2, l3, l4, l5] (.ref a :: S) st P = zif (zis st a 0 = true) (zif (S.length ≤ 4) (AC X d 115 [.ref a] st (zaft X d 44 20 [l0, l1, l2, l3, l4, l5] S P))) := zq_callV (B := []) (zd_of zb_X4_bestFor dX4_bestFor_20) zo_X4_bestFor (by decide) zl_4_35 zn_115 rfl rfl rfl
theorem E_X4_bestFor_23 : AW X d 44 23 [l0, l1, l2, l3, l4, l5] (.int y :: .int x :: S) st P = if y ≤ x then AW X d 44 75 [l0, l1, l2, l3, l4, l5] S st P else AW X d 44 26 [l0, l1, l2, l3, l4, l5] S st P := zq_icmp (c := y ≤ x) (zd_of zb_X4_bestFor dX4_bestFor_23) (by decide) rfl
theorem E_X4_bestFor_26 : AW X d 44 26 [.ref a, l1, l2, l3, l4, l5] S st P = AW X d 44 27 [.ref a, l1, l2, l3, l4, l5] (.ref a :: S) st P := zAW_st (zd_of zb_X4_bestFor dX4_bestFor_26) rfl rfl
theorem E_X4_bestFor_26n : AW X d 44 26 [.null, l1, l2, l3, l4, l5] S st P = AW X d 44 27 [.null, l1, l2, l3, l4, l5] (.null :: S) st P := zAW_st (zd_of zb_X4_bestFor dX4_bestFor_26) rfl rfl
theorem E_X4_bestFor_27 : AW X d 44 27 [l0, l1, l2, l3, l4, l5] (.ref a :: S) st P = zwith (zget st a 5 0) fun v => AW X d 44 30 [l0, l1, l2, l3, l4, l5] (v :: S) st P := zq_getfield (zd_of zb_X4_bestFor dX4_bestFor_27) zo_X4_bestFor zf_4_12
theorem E_X4_bestFor_30 : AW X d 44 30 [l0, l1, l2, l3, .int x, l5] S st P = AW X d 44 32 [l0, l1, l2, l3, .int x, l5] (.int x :: S) st P := zAW_st (zd_of zb_X4_bestFor dX4_bestFor_30) rfl rfl
theorem E_X4_bestFor_32 : AW X d 44 32 [l0, l1, l2, l3, l4, l5] (.int x :: .ref a :: S) st P = zif (zis st a 0 = true) (zif (S.length ≤ 4) (AC X d 117 [.ref a, .int x] st (zaft X d 44 32 [l0, l1, l2, l3, l4, l5] S P))) := zq_callV (B := [.int x]) (zd_of zb_X4_bestFor dX4_bestFor_32) zo_X4_bestFor (by decide) zl_4_39 zn_117 rfl rfl rfl
theorem E_X4_bestFor_35 : AW X d 44 35 [l0, l1, l2, l3, l4, l5] (.ref a :: S) st P = zif (zis st a 4 = true) (AW X d 44 38 [l0, l1, l2, l3, l4, l5] (.ref a :: S) st P) := zq_cast (zd_of zb_X4_bestFor dX4_bestFor_35) zo_X4_bestFor (by decide +kernel)
theorem E_X4_bestFor_35n : AW X d 44 35 [l0, l1, l2, l3, l4, l5] (.null :: S) st P = AW X d 44 38 [l0, l1, l2, l3, l4, l5] (.null :: S) st P := zAW_st (zd_of zb_X4_bestFor dX4_bestFor_35) rfl rfl
theorem E_X4_bestFor_38 : AW X d 44 38 [l0, l1, l2, l3, l4, l5] (.ref a :: S) st P = AW X d 44 40 [l0, l1, l2, l3, l4, .ref a] S st P := zAW_st (zd_of zb_X4_bestFor dX4_bestFor_38) rfl rfl
theorem E_X4_bestFor_38n : AW X d 44 38 [l0, l1, l2, l3, l4, l5] (.null :: S) st P = AW X d 44 40 [l0, l1, l2, l3, l4, .null] S st P := zAW_st (zd_of zb_X4_bestFor dX4_bestFor_38) rfl rfl
theorem E_X4_bestFor_40 : AW X d 44 40 [l0, l1, l2, l3, l4, .ref a] S st P = AW X d 44 42 [l0, l1, l2, l3, l4, .ref a] (.ref a :: S) st P := zAW_st (zd_of zb_X4_bestFor dX4_bestFor_40) rfl rfl
theorem E_X4_bestFor_40n : AW X d 44 40 [l0, l1, l2, l3, l4, .null] S st P = AW X d 44 42 [l0, l1, l2, l3, l4, .null] (.null :: S) st P := zAW_st (zd_of zb_X4_bestFor dX4_bestFor_40) rfl rfl
theorem E_X4_bestFor_42 : AW X d 44 42 [l0, .int x, l2, l3, l4, l5] S st P = AW X d 44 43 [l0, .int x, l2, l3, l4, l5] (.int x :: S) st P := zAW_st (zd_of zb_X4_bestFor dX4_bestFor_42) rfl rfl
theorem E_X4_bestFor_43 : AW X d 44 43 [l0, l1, .int x, l3, l4, l5] S st P = AW X d 44 44 [l0, l1, .int x, l3, l4, l5] (.int x :: S) st P := zAW_st (zd_of zb_X4_bestFor dX4_bestFor_43) rfl rfl
theorem E_X4_bestFor_44 : AW X d 44 44 [l0, l1, l2, l3, l4, l5] (.int y :: .int x :: .ref a :: S) st P = zif (zis st a 4 = true) (zif (S.length ≤ 4) (AC X d 29 [.ref a, .int x, .int y] st (zaft X d 44 44 [l0, l1, l2, l3, l4, l5] S P))) := zq_callV (B := [.int x, .int y]) (zd_of zb_X4_bestFor dX4_bestFor_44) zo_X4_bestFor (by decide) zl_4_90 zn_29 rfl rfl rfl
theorem E_X4_bestFor_47 : AW X d 44 47 [l0, l1, l2, l3, l4, l5] (.int x :: S) st P = if x = 0 then AW X d 44 69 [l0, l1, l2, l3, l4, l5] S st P else AW X d 44 50 [l0, l1, l2, l3, l4, l5] S st P := zq_if (c := x = 0) (zd_of zb_X4_bestFor dX4_bestFor_47) (by decide) rfl
theorem E_X4_bestFor_50 : AW X d 44 50 [l0, l1, l2, .ref a, l4, l5] S st P = AW X d 44 51 [l0, l1, l2, .ref a, l4, l5] (.ref a :: S) st P := zAW_st (zd_of zb_X4_bestFor dX4_bestFor_50) rfl rfl
theorem E_X4_bestFor_50n : AW X d 44 50 [l0, l1, l2, .null, l4, l5] S st P = AW X d 44 51 [l0, l1, l2, .null, l4, l5] (.null :: S) st P := zAW_st (zd_of zb_X4_bestFor dX4_bestFor_50) rfl rfl
theorem E_X4_bestFor_51 : AW X d 44 51 [l0, l1, l2, l3, l4, l5] (.ref a :: S) st P = AW X d 44 54 [l0, l1, l2, l3, l4, l5] S st P := zq_null1 (t := 66) (zd_of zb_X4_bestFor dX4_bestFor_51) (by decide)
theorem E_X4_bestFor_51n : AW X d 44 51 [l0, l1, l2, l3, l4, l5] (.null :: S) st P = AW X d 44 66 [l0, l1, l2, l3, l4, l5] S st P := zq_null2 (t := 66) (zd_of zb_X4_bestFor dX4_bestFor_51) (by decide)
theorem E_X4_bestFor_54 : AW X d 44 54 [l0, l1, l2, l3, l4, .ref a] S st P = AW X d 44 56 [l0, l1, l2, l3, l4, .ref a] (.ref a :: S) st P := zAW_st (zd_of zb_X4_bestFor dX4_bestFor_54) rfl rfl
theorem E_X4_bestFor_54n : AW X d 44 54 [l0, l1, l2, l3, l4, .null] S st P = AW X d 44 56 [l0, l1, l2, l3, l4, .null] (.null :: S) st P := zAW_st (zd_of zb_X4_bestFor dX4_bestFor_54) rfl rfl
theorem E_X4_bestFor_56 : AW X d 44 56 [l0, l1, l2, l3, l4, l5] (.ref a :: S) st P = zif (zis st a 4 = true) (zif (S.length ≤ 4) (AC X d 30 [.ref a] st (zaft X d 44 56 [l0, l1, l2, l3, l4, l5] S P))) := zq_callV (B := []) (zd_of zb_X4_bestFor dX4_bestFor_56) zo_X4_bestFor (by decide) zl_4_94 zn_30 rfl rfl rfl
theorem E_X4_bestFor_59 : AW X d 44 59 [l0, l1, l2, .ref a, l4, l5] S st P = AW X d 44 60 [l0, l1, l2, .ref a, l4, l5] (.ref a :: S) st P := zAW_st (zd_of zb_X4_bestFor dX4_bestFor_59) rfl rfl
theorem E_X4_bestFor_59n : AW X d 44 59 [l0, l1, l2, .null, l4, l5] S st P = AW X d 44 60 [l0, l1, l2, .null, l4, l5] (.null :: S) st P := zAW_st (zd_of zb_X4_bestFor dX4_bestFor_59) rfl rfl
theorem E_X4_bestFor_60 : AW X d 44 60 [l0, l1, l2, l3, l4, l5] (.ref a :: S) st P = zif (zis st a 4 = true) (zif (S.length ≤ 4) (AC X d 30 [.ref a] st (zaft X d 44 60 [l0, l1, l2, l3, l4, l5] S P))) := zq_callV (B := []) (zd_of zb_X4_bestFor dX4_bestFor_60) zo_X4_bestFor (by decide) zl_4_94 zn_30 rfl rfl rfl
theorem E_X4_bestFor_63 : AW X d 44 63 [l0, l1, l2, l3, l4, l5] (.int y :: .int x :: S) st P = if y ≤ x then AW X d 44 69 [l0, l1, l2, l3, l4, l5] S st P else AW X d 44 66 [l0, l1, l2, l3, l4, l5] S st P := zq_icmp (c := y ≤ x) (zd_of zb_X4_bestFor dX4_bestFor_63) (by decide) rfl
theorem E_X4_bestFor_66 : AW X d 44 66 [l0, l1, l2, l3, l4, .ref a] S st P = AW X d 44 68 [l0, l1, l2, l3, l4, .ref a] (.ref a :: S) st P := zAW_st (zd_of zb_X4_bestFor dX4_bestFor_66) rfl rfl
theorem E_X4_bestFor_66n : AW X d 44 66 [l0, l1, l2, l3, l4, .null] S st P = AW X d 44 68 [l0, l1, l2, l3, l4, .null] (.null :: S) st P := zAW_st (zd_of zb_X4_bestFor dX4_bestFor_66) rfl rfl
theorem E_X4_bestFor_68 : AW X d 44 68 [l0, l1, l2, l3, l4, l5] (.ref a :: S) st P = AW X d 44 69 [l0, l1, l2, .ref a, l4, l5] S st P := zAW_st (zd_of zb_X4_bestFor dX4_bestFor_68) rfl rfl
theorem E_X4_bestFor_68n : AW X d 44 68 [l0, l1, l2, l3, l4, l5] (.null :: S) st P = AW X d 44 69 [l0, l1, l2, .null, l4, l5] S st P := zAW_st (zd_of zb_X4_bestFor dX4_bestFor_68) rfl rfl
theorem E_X4_bestFor_69 : AW X d 44 69 [l0, l1, l2, l3, .int x, l5] S st P = AW X d 44 72 [l0, l1, l2, l3, .int (x + 1), l5] S st P := zq_iinc (zd_of zb_X4_bestFor dX4_bestFor_69) rfl (by decide)
theorem E_X4_bestFor_72 : AW X d 44 72 [l0, l1, l2, l3, l4, l5] S st P = AW X d 44 5 [l0, l1, l2, l3, l4, l5] S st P := zq_goto (zd_of zb_X4_bestFor dX4_bestFor_72) (by decide)
theorem E_X4_bestFor_75 : AW X d 44 75 [l0, l1, l2, .ref a, l4, l5] S st P = AW X d 44 76 [l0, l1, l2, .ref a, l4, l5] (.ref a :: S) st P := zAW_st (zd_of zb_X4_bestFor dX4_bestFor_75) rfl rfl
theorem E_X4_bestFor_75n : AW X d 44 75 [l0, l1, l2, .null, l4, l5] S st P = AW X d 44 76 [l0, l1, l2, .null, l4, l5] (.null :: S) st P := zAW_st (zd_of zb_X4_bestFor dX4_bestFor_75) rfl rfl
theorem E_X4_bestFor_76 : AW X d 44 76 [l0, l1, l2, l3, l4, l5] ([.ref a]) st P = P (.inl (some (.ref a))) st := zAW_ret (w := (.inl (some (.ref a)), st)) (zd_of zb_X4_bestFor dX4_bestFor_76) rfl rfl (by simp only [zfin, zr_X4_bestFor])
theorem E_X4_bestFor_76n : AW X d 44 76 [l0, l1, l2, l3, l4, l5] [.null] st P = P (.inl (some .null)) st := zAW_ret (w := (.inl (some .null), st)) (zd_of zb_X4_bestFor dX4_bestFor_76) rfl rfl (by simp only [zfin, zr_X4_bestFor])
theorem A_X4_bestFor : AC X (d + 1) 44 [.ref a, .int x, .int y] st P = AW X d 44 0 [.ref a, .int x, .int y, .retAddr 0, .retAddr 0, .retAddr 0] [] st P := AC_eq ⟨⟨(show 3 ≤ zml 44 by decide +kernel), by decide +kernel⟩, by simp [zc1_int, zc1_ref, zc1_float]⟩
theorem E_X4_undo_0 : AW X d 45 0 [l0, .ref a, l2, l3, l4] S st P = AW X d 45 1 [l0, .ref a, l2, l3, l4] (.ref a :: S) st P := zAW_st (zd_of zb_X4_undo dX4_undo_0) rfl rfl
theorem E_X4_undo_0n : AW X d 45 0 [l0, .null, l2, l3, l4] S st P = AW X d 45 1 [l0, .null, l2, l3, l4] (.null :: S) st P := zAW_st (zd_of zb_X4_undo dX4_undo_0) rfl rfl
theorem E_X4_undo_1 : AW X d 45 1 [l0, l1, l2, l3, l4] (.ref a :: S) st P = zif (zis st a 0 = true) (zif (S.length ≤ 4) (AC X d 115 [.ref a] st (zaft X d 45 1 [l0, l1, l2, l3, l4] S P))) := zq_callV (B := []) (zd_of zb_X4_undo dX4_undo_1) zo_X4_undo (by decide) zl_4_35 zn_115 rfl rfl rfl
theorem E_X4_undo_4 : AW X d 45 4 [l0, l1, l2, l3, l4] S st P = AW X d 45 5 [l0, l1, l2, l3, l4] (.int 1 :: S) st P := zq_iconst (zd_of zb_X4_undo dX4_undo_4) (by decide)
theorem E_X4_undo_5 : AW X d 45 5 [l0, l1, l2, l3, l4] (.int y :: .int x :: S) st P = AW X d 45 6 [l0, l1, l2, l3, l4] (.int (x - y) :: S) st P := zAW_st (zd_of zb_X4_undo dX4_undo_5) rfl rfl
theorem E_X4_undo_6 : AW X d 45 6 [l0, l1, l2, l3, l4] (.int x :: S) st P = AW X d 45 7 [l0, l1, l2, .int x, l4] S st P := zAW_st (zd_of zb_X4_undo dX4_undo_6) rfl rfl
theorem E_X4_undo_7 : AW X d 45 7 [l0, l1, l2, .int x, l4] S st P = AW X d 45 8 [l0, l1, l2, .int x, l4] (.int x :: S) st P := zAW_st (zd_of zb_X4_undo dX4_undo_7) rfl rfl
theorem E_X4_undo_8 : AW X d 45 8 [l0, l1, l2, l3, l4] (.int x :: S) st P = if x < 0 then AW X d 45 46 [l0, l1, l2, l3, l4] S st P else AW X d 45 11 [l0, l1, l2, l3, l4] S st P := zq_if (c := x < 0) (zd_of zb_X4_undo dX4_undo_8) (by decide) rfl
theorem E_X4_undo_11 : AW X d 45 11 [l0, .ref a, l2, l3, l4] S st P = AW X d 45 12 [l0, .ref a, l2, l3, l4] (.ref a :: S) st P := zAW_st (zd_of zb_X4_undo dX4_undo_11) rfl rfl
theorem E_X4_undo_11n : AW X d 45 11 [l0, .null, l2, l3, l4] S st P = AW X d 45 12 [l0, .null, l2, l3, l4] (.null :: S) st P := zAW_st (zd_of zb_X4_undo dX4_undo_11) rfl rfl
theorem E_X4_undo_12 : AW X d 45 12 [l0, l1, l2, .int x, l4] S st P = AW X d 45 13 [l0, l1, l2, .int x, l4] (.int x :: S) st P := zAW_st (zd_of zb_X4_undo dX4_undo_12) rfl rfl
theorem E_X4_undo_13 : AW X d 45 13 [l0, l1, l2, l3, l4] (.int x :: .ref a :: S) st P = zif (zis st a 0 = true) (zif (S.length ≤ 4) (AC X d 117 [.ref a, .int x] st (zaft X d 45 13 [l0, l1, l2, l3, l4] S P))) := zq_callV (B := [.int x]) (zd_of zb_X4_undo dX4_undo_13) zo_X4_undo (by decide) zl_4_39 zn_117 rfl rfl rfl
theorem E_X4_undo_16 : AW X d 45 16 [l0, l1, l2, l3, l4] (.ref a :: S) st P = zif (zis st a 4 = true) (AW X d 45 19 [l0, l1, l2, l3, l4] (.ref a :: S) st P) := zq_cast (zd_of zb_X4_undo dX4_undo_16) zo_X4_undo (by decide +kernel)
theorem E_X4_undo_16n : AW X d 45 16 [l0, l1, l2, l3, l4] (.null :: S) st P = AW X d 45 19 [l0, l1, l2, l3, l4] (.null :: S) st P := zAW_st (zd_of zb_X4_undo dX4_undo_16) rfl rfl
theorem E_X4_undo_19 : AW X d 45 19 [l0, l1, l2, l3, l4] (.ref a :: S) st P = zwith (zget st a 4 7) fun v => AW X d 45 22 [l0, l1, l2, l3, l4] (v :: S) st P := zq_getfield (zd_of zb_X4_undo dX4_undo_19) zo_X4_undo zf_4_97
theorem E_X4_undo_22 : AW X d 45 22 [l0, l1, l2, l3, l4] (.ref a :: S) st P = AW X d 45 24 [l0, l1, l2, l3, .ref a] S st P := zAW_st (zd_of zb_X4_undo dX4_undo_22) rfl rfl
theorem E_X4_undo_22n : AW X d 45 22 [l0, l1, l2, l3, l4] (.null :: S) st P = AW X d 45 24 [l0, l1, l2, l3, .null] S st P := zAW_st (zd_of zb_X4_undo dX4_undo_22) rfl rfl
theorem E_X4_undo_24 : AW X d 45 24 [l0, l1, l2, l3, .ref a] S st P = AW X d 45 26 [l0, l1, l2, l3, .ref a] (.ref a :: S) st P := zAW_st (zd_of zb_X4_undo dX4_undo_24) rfl rfl
theorem E_X4_undo_24n : AW X d 45 24 [l0, l1, l2, l3, .null] S st P = AW X d 45 26 [l0, l1, l2, l3, .null] (.null :: S) st P := zAW_st (zd_of zb_X4_undo dX4_undo_24) rfl rfl
theorem E_X4_undo_26 : AW X d 45 26 [l0, l1, l2, l3, l4] (.ref a :: S) st P = AW X d 45 29 [l0, l1, l2, l3, l4] S st P := zq_null1 (t := 40) (zd_of zb_X4_undo dX4_undo_26) (by decide)
theorem E_X4_undo_26n : AW X d 45 26 [l0, l1, l2, l3, l4] (.null :: S) st P = AW X d 45 40 [l0, l1, l2, l3, l4] S st P := zq_null2 (t := 40) (zd_of zb_X4_undo dX4_undo_26) (by decide)
theorem E_X4_undo_29 : AW X d 45 29 [l0, l1, l2, l3, .ref a] S st P = AW X d 45 31 [l0, l1, l2, l3, .ref a] (.ref a :: S) st P := zAW_st (zd_of zb_X4_undo dX4_undo_29) rfl rfl
theorem E_X4_undo_29n : AW X d 45 29 [l0, l1, l2, l3, .null] S st P = AW X d 45 31 [l0, l1, l2, l3, .null] (.null :: S) st P := zAW_st (zd_of zb_X4_undo dX4_undo_29) rfl rfl
theorem E_X4_undo_31 : AW X d 45 31 [l0, l1, l2, l3, l4] (.ref a :: S) st P = zif (zis st a 4 = true) (zif (S.length ≤ 4) (AC X d 37 [.ref a] st (zaft X d 45 31 [l0, l1, l2, l3, l4] S P))) := zq_callV (B := []) (zd_of zb_X4_undo dX4_undo_31) zo_X4_undo (by decide) zl_4_100 zn_37 rfl rfl rfl
theorem E_X4_undo_34 : AW X d 45 34 [l0, l1, l2, l3, .ref a] S st P = AW X d 45 36 [l0, l1, l2, l3, .ref a] (.ref a :: S) st P := zAW_st (zd_of zb_X4_undo dX4_undo_34) rfl rfl
theorem E_X4_undo_34n : AW X d 45 34 [l0, l1, l2, l3, .null] S st P = AW X d 45 36 [l0, l1, l2, l3, .null] (.null :: S) st P := zAW_st (zd_of zb_X4_undo dX4_undo_34) rfl rfl
theorem E_X4_undo_36 : AW X d 45 36 [l0, l1, l2, l3, l4] S st P = AW X d 45 37 [l0, l1, l2, l3, l4] (.int 0 :: S) st P := zq_iconst (zd_of zb_X4_undo dX4_undo_36) (by decide)
theorem E_X4_undo_37 : AW X d 45 37 [l0, l1, l2, l3, l4] (.int x :: .ref a :: S) st P = zwith (zget st a 4 6) fun _ => AW X d 45 40 [l0, l1, l2, l3, l4] S (zput st a 6 (.int x)) P := zq_putfield (zd_of zb_X4_undo dX4_undo_37) zo_X4_undo zf_4_68 rfl (Or.inl (by decide +kernel))
theorem E_X4_undo_40 : AW X d 45 40 [l0, l1, l2, .int x, l4] S st P = AW X d 45 43 [l0, l1, l2, .int (x + (-1)), l4] S st P := zq_iinc (zd_of zb_X4_undo dX4_undo_40) rfl (by decide)
theorem E_X4_undo_43 : AW X d 45 43 [l0, l1, l2, l3, l4] S st P = AW X d 45 7 [l0, l1, l2, l3, l4] S st P := zq_goto (zd_of zb_X4_undo dX4_undo_43) (by decide)
theorem E_X4_undo_46 : AW X d 45 46 [.ref a, l1, l2, l3, l4] S st P = AW X d 45 47 [.ref a, l1, l2, l3, l4] (.ref a :: S) st P := zAW_st (zd_of zb_X4_undo dX4_undo_46) rfl rfl
theorem E_X4_undo_46n : AW X d 45 46 [.null, l1, l2, l3, l4] S st P = AW X d 45 47 [.null, l1, l2, l3, l4] (.null :: S) st P := zAW_st (zd_of zb_X4_undo dX4_undo_46) rfl rfl
theorem E_X4_undo_47 : AW X d 45 47 [l0, l1, .int x, l3, l4] S st P = AW X d 45 48 [l0, l1, .int x, l3, l4] (.int x :: S) st P := zAW_st (zd_of zb_X4_undo dX4_undo_47) rfl rfl
theorem E_X4_undo_48 : AW X d 45 48 [l0, l1, l2, l3, l4] (.int x :: .ref a :: S) st P = zwith (zget st a 5 1) fun _ => AW X d 45 51 [l0, l1, l2, l3, l4] S (zput st a 1 (.int x)) P := zq_putfield (zd_of zb_X4_undo dX4_undo_48) zo_X4_undo zf_4_32 rfl (Or.inl (by decide +kernel))
theorem E_X4_undo_51 : AW X d 45 51 [l0, l1, l2, l3, l4] [] st P = P (.inl none) st := zAW_ret (w := (.inl none, st)) (zd_of zb_X4_undo dX4_undo_51) rfl rfl (by simp only [zfin, zr_X4_undo])
theorem A_X4_undo (h1 : zc1 v1 = true) : AC X (d + 1) 45 [.ref a, v1, .int x] st P = AW X d 45 0 [.ref a, v1, .int x, .retAddr 0, .retAddr 0] [] st P := AC_eq ⟨⟨(show 3 ≤ zml 45 by decide +kernel), by decide +kernel⟩, by simp [zc1_int, zc1_ref, zc1_float, h1]⟩
theorem E_X4_freeAt_0 : AW X d 46 0 [l0, l1, l2, l3, l4] S st P = AW X d 46 1 [l0, l1, l2, l3, l4] (.int 0 :: S) st P := zq_iconst (zd_of zb_X4_freeAt dX4_freeAt_0) (by decide)
theorem E_X4_freeAt_1 : AW X d 46 1 [l0, l1, l2, l3, l4] (.int x :: S) st P = AW X d 46 2 [l0, l1, .int x, l3, l4] S st P := zAW_st (zd_of zb_X4_freeAt dX4_freeAt_1) rfl rfl
theorem E_X4_freeAt_2 : AW X d 46 2 [l0, l1, l2, l3, l4] S st P = AW X d 46 3 [l0, l1, l2, l3, l4] (.int 0 :: S) st P := zq_iconst (zd_of zb_X4_freeAt dX4_freeAt_2) (by decide)
theorem E_X4_freeAt_3 : AW X d 46 3 [l0, l1, l2, l3, l4] (.int x :: S) st P = AW X d 46 4 [l0, l1, l2, .int x, l4] S st P := zAW_st (zd_of zb_X4_freeAt dX4_freeAt_3) rfl rfl
theorem E_X4_freeAt_4 : AW X d 46 4 [l0, l1, l2, .int x, l4] S st P = AW X d 46 5 [l0, l1, l2, .int x, l4] (.int x :: S) st P := zAW_st (zd_of zb_X4_freeAt dX4_freeAt_4) rfl rfl
theorem E_X4_freeAt_5 : AW X d 46 5 [.ref a, l1, l2, l3, l4] S st P = AW X d 46 6 [.ref a, l1, l2, l3, l4] (.ref a :: S) st P := zAW_st (zd_of zb_X4_freeAt dX4_freeAt_5) rfl rfl
theorem E_X4_freeAt_5n : AW X d 46 5 [.null, l1, l2, l3, l4] S st P = AW X d 46 6 [.null, l1, l2, l3, l4] (.null :: S) st P := zAW_st (zd_of zb_X4_freeAt dX4_freeAt_5) rfl rfl
theorem E_X4_freeAt_6 : AW X d 46 6 [l0, l1, l2, l3, l4] (.ref a :: S) st P = zwith (zget st a 5 1) fun v => AW X d 46 9 [l0, l1, l2, l3, l4] (v :: S) st P := zq_getfield (zd_of zb_X4_freeAt dX4_freeAt_6) zo_X4_freeAt zf_4_32
theorem E_X4_freeAt_9 : AW X d 46 9 [l0, l1, l2, l3, l4] (.int y :: .int x :: S) st P = if y ≤ x then AW X d 46 61 [l0, l1, l2, l3, l4] S st P else AW X d 46 12 [l0, l1, l2, l3, l4] S st P := zq_icmp (c := y ≤ x) (zd_of zb_X4_freeAt dX4_freeAt_9) (by decide) rfl
theorem E_X4_freeAt_12 : AW X d 46 12 [l0, l1, l2, .int x, l4] S st P = AW X d 46 13 [l0, l1, l2, .int x, l4] (.int x :: S) st P := zAW_st (zd_of zb_X4_freeAt dX4_freeAt_12) rfl rfl
theorem E_X4_freeAt_13 : AW X d 46 13 [.ref a, l1, l2, l3, l4] S st P = AW X d 46 14 [.ref a, l1, l2, l3, l4] (.ref a :: S) st P := zAW_st (zd_of zb_X4_freeAt dX4_freeAt_13) rfl rfl
theorem E_X4_freeAt_13n : AW X d 46 13 [.null, l1, l2, l3, l4] S st P = AW X d 46 14 [.null, l1, l2, l3, l4] (.null :: S) st P := zAW_st (zd_of zb_X4_freeAt dX4_freeAt_13) rfl rfl
theorem E_X4_freeAt_14 : AW X d 46 14 [l0, l1, l2, l3, l4] (.ref a :: S) st P = zwith (zget st a 5 0) fun v => AW X d 46 17 [l0, l1, l2, l3, l4] (v :: S) st P := zq_getfield (zd_of zb_X4_freeAt dX4_freeAt_14) zo_X4_freeAt zf_4_12
theorem E_X4_freeAt_17 : AW X d 46 17 [l0, l1, l2, l3, l4] (.ref a :: S) st P = zif (zis st a 0 = true) (zif (S.length ≤ 4) (AC X d 115 [.ref a] st (zaft X d 46 17 [l0, l1, l2, l3, l4] S P))) := zq_callV (B := []) (zd_of zb_X4_freeAt dX4_freeAt_17) zo_X4_freeAt (by decide) zl_4_35 zn_115 rfl rfl rfl
theorem E_X4_freeAt_20 : AW X d 46 20 [l0, l1, l2, l3, l4] (.int y :: .int x :: S) st P = if y ≤ x then AW X d 46 61 [l0, l1, l2, l3, l4] S st P else AW X d 46 23 [l0, l1, l2, l3, l4] S st P := zq_icmp (c := y ≤ x) (zd_of zb_X4_freeAt dX4_freeAt_20) (by decide) rfl
theorem E_X4_freeAt_23 : AW X d 46 23 [.ref a, l1, l2, l3, l4] S st P = AW X d 46 24 [.ref a, l1, l2, l3, l4] (.ref a :: S) st P := zAW_st (zd_of zb_X4_freeAt dX4_freeAt_23) rfl rfl
theorem E_X4_freeAt_23n : AW X d 46 23 [.null, l1, l2, l3, l4] S st P = AW X d 46 24 [.null, l1, l2, l3, l4] (.null :: S) st P := zAW_st (zd_of zb_X4_freeAt dX4_freeAt_23) rfl rfl
theorem E_X4_freeAt_24 : AW X d 46 24 [l0, l1, l2, l3, l4] (.ref a :: S) st P = zwith (zget st a 5 0) fun v => AW X d 46 27 [l0, l1, l2, l3, l4] (v :: S) st P := zq_getfield (zd_of zb_X4_freeAt dX4_freeAt_24) zo_X4_freeAt zf_4_12
theorem E_X4_freeAt_27 : AW X d 46 27 [l0, l1, l2, .int x, l4] S st P = AW X d 46 28 [l0, l1, l2, .int x, l4] (.int x :: S) st P := zAW_st (zd_of zb_X4_freeAt dX4_freeAt_27) rfl rfl
theorem E_X4_freeAt_28 : AW X d 46 28 [l0, l1, l2, l3, l4] (.int x :: .ref a :: S) st P = zif (zis st a 0 = true) (zif (S.length ≤ 4) (AC X d 117 [.ref a, .int x] st (zaft X d 46 28 [l0, l1, l2, l3, l4] S P))) := zq_callV (B := [.int x]) (zd_of zb_X4_freeAt dX4_freeAt_28) zo_X4_freeAt (by decide) zl_4_39 zn_117 rfl rfl rfl
theorem E_X4_freeAt_31 : AW X d 46 31 [l0, l1, l2, l3, l4] (.ref a :: S) st P = zif (zis st a 4 = true) (AW X d 46 34 [l0, l1, l2, l3, l4] (.ref a :: S) st P) := zq_cast (zd_of zb_X4_freeAt dX4_freeAt_31) zo_X4_freeAt (by decide +kernel)
theorem E_X4_freeAt_31n : AW X d 46 31 [l0, l1, l2, l3, l4] (.null :: S) st P = AW X d 46 34 [l0, l1, l2, l3, l4] (.null :: S) st P := zAW_st (zd_of zb_X4_freeAt dX4_freeAt_31) rfl rfl
theorem E_X4_freeAt_34 : AW X d 46 34 [l0, l1, l2, l3, l4] (.ref a :: S) st P = AW X d 46 36 [l0, l1, l2, l3, .ref a] S st P := zAW_st (zd_of zb_X4_freeAt dX4_freeAt_34) rfl rfl
theorem E_X4_freeAt_34n : AW X d 46 34 [l0, l1, l2, l3, l4] (.null :: S) st P = AW X d 46 36 [l0, l1, l2, l3, .null] S st P := zAW_st (zd_of zb_X4_freeAt dX4_freeAt_34) rfl rfl
theorem E_X4_freeAt_36 : AW X d 46 36 [l0, l1, l2, l3, .ref a] S st P = AW X d 46 38 [l0, l1, l2, l3, .ref a] (.ref a :: S) st P := zAW_st (zd_of zb_X4_freeAt dX4_freeAt_36) rfl rfl
theorem E_X4_freeAt_36n : AW X d 46 36 [l0, l1, l2, l3, .null] S st P = AW X d 46 38 [l0, l1, l2, l3, .null] (.null :: S) st P := zAW_st (zd_of zb_X4_freeAt dX4_freeAt_36) rfl rfl
theorem E_X4_freeAt_38 : AW X d 46 38 [l0, l1, l2, l3, l4] (.ref a :: S) st P = zwith (zget st a 4 6) fun v => AW X d 46 41 [l0, l1, l2, l3, l4] (v :: S) st P := zq_getfield (zd_of zb_X4_freeAt dX4_freeAt_38) zo_X4_freeAt zf_4_68
theorem E_X4_freeAt_41 : AW X d 46 41 [l0, l1, l2, l3, l4] (.int x :: S) st P = if ¬ x = 0 then AW X d 46 55 [l0, l1, l2, l3, l4] S st P else AW X d 46 44 [l0, l1, l2, l3, l4] S st P := zq_if (c := ¬ x = 0) (zd_of zb_X4_freeAt dX4_freeAt_41) (by decide) rfl
theorem E_X4_freeAt_44 : AW X d 46 44 [l0, l1, .int x, l3, l4] S st P = AW X d 46 45 [l0, l1, .int x, l3, l4] (.int x :: S) st P := zAW_st (zd_of zb_X4_freeAt dX4_freeAt_44) rfl rfl
theorem E_X4_freeAt_45 : AW X d 46 45 [l0, .int x, l2, l3, l4] S st P = AW X d 46 46 [l0, .int x, l2, l3, l4] (.int x :: S) st P := zAW_st (zd_of zb_X4_freeAt dX4_freeAt_45) rfl rfl
theorem E_X4_freeAt_46 : AW X d 46 46 [l0, l1, l2, l3, l4] (.int y :: .int x :: S) st P = if ¬ x = y then AW X d 46 52 [l0, l1, l2, l3, l4] S st P else AW X d 46 49 [l0, l1, l2, l3, l4] S st P := zq_icmp (c := ¬ x = y) (zd_of zb_X4_freeAt dX4_freeAt_46) (by decide) rfl
theorem E_X4_freeAt_49 : AW X d 46 49 [l0, l1, l2, l3, .ref a] S st P = AW X d 46 51 [l0, l1, l2, l3, .ref a] (.ref a :: S) st P := zAW_st (zd_of zb_X4_freeAt dX4_freeAt_49) rfl rfl
theorem E_X4_freeAt_49n : AW X d 46 49 [l0, l1, l2, l3, .null] S st P = AW X d 46 51 [l0, l1, l2, l3, .null] (.null :: S) st P := zAW_st (zd_of zb_X4_freeAt dX4_freeAt_49) rfl rfl
theorem E_X4_freeAt_51 : AW X d 46 51 [l0, l1, l2, l3, l4] ([.ref a]) st P = P (.inl (some (.ref a))) st := zAW_ret (w := (.inl (some (.ref a)), st)) (zd_of zb_X4_freeAt dX4_freeAt_51) rfl rfl (by simp only [zfin, zr_X4_freeAt])
theorem E_X4_freeAt_51n : AW X d 46 51 [l0, l1, l2, l3, l4] [.null] st P = P (.inl (some .null)) st := zAW_ret (w := (.inl (some .null), st)) (zd_of zb_X4_freeAt dX4_freeAt_51) rfl rfl (by simp only [zfin, zr_X4_freeAt])
theorem E_X4_freeAt_52 : AW X d 46 52 [l0, l1, .int x, l3, l4] S st P = AW X d 46 55 [l0, l1, .int (x + 1), l3, l4] S st P := zq_iinc (zd_of zb_X4_freeAt dX4_freeAt_52) rfl (by decide)
theorem E_X4_freeAt_55 : AW X d 46 55 [l0, l1, l2, .int x, l4] S st P = AW X d 46 58 [l0, l1, l2, .int (x + 1), l4] S st P := zq_iinc (zd_of zb_X4_freeAt dX4_freeAt_55) rfl (by decide)
theorem E_X4_freeAt_58 : AW X d 46 58 [l0, l1, l2, l3, l4] S st P = AW X d 46 4 [l0, l1, l2, l3, l4] S st P := zq_goto (zd_of zb_X4_freeAt dX4_freeAt_58) (by decide)
theorem E_X4_freeAt_61 : AW X d 46 61 [l0, l1, l2, l3, l4] S st P = AW X d 46 62 [l0, l1, l2, l3, l4] (.null :: S) st P := zAW_st (zd_of zb_X4_freeAt dX4_freeAt_61) rfl rfl
theorem E_X4_freeAt_62 : AW X d 46 62 [l0, l1, l2, l3, l4] ([.ref a]) st P = P (.inl (some (.ref a))) st := zAW_ret (w := (.inl (some (.ref a)), st)) (zd_of zb_X4_freeAt dX4_freeAt_62) rfl rfl (by simp only [zfin, zr_X4_freeAt])
theorem E_X4_freeAt_62n : AW X d 46 62 [l0, l1, l2, l3, l4] [.null] st P = P (.inl (some .null)) st := zAW_ret (w := (.inl (some .null), st)) (zd_of zb_X4_freeAt dX4_freeAt_62) rfl rfl (by simp only [zfin, zr_X4_freeAt])
theorem A_X4_freeAt : AC X (d + 1) 46 [.ref a, .int x] st P = AW X d 46 0 [.ref a, .int x, .retAddr 0, .retAddr 0, .retAddr 0] [] st P := AC_eq ⟨⟨(show 2 ≤ zml 46 by decide +kernel), by decide +kernel⟩, by simp [zc1_int, zc1_ref, zc1_float]⟩
theorem E_X5_init_0 : AW X d 47 0 [.ref a] S st P = AW X d 47 1 [.ref a] (.ref a :: S) st P := zAW_st (zd_of zb_X5_init dX5_init_0) rfl rfl
theorem E_X5_init_0n : AW X d 47 0 [.null] S st P = AW X d 47 1 [.null] (.null :: S) st P := zAW_st (zd_of zb_X5_init dX5_init_0) rfl rfl
theorem E_X5_init_1 : AW X d 47 1 [l0] (.ref a :: S) st P = zif (S.length ≤ 4) (AW X d 47 4 [l0] S st P) := zq_obj (zd_of zb_X5_init dX5_init_1) zo_X5_init (by decide) (by decide +kernel)
theorem E_X5_init_4 : AW X d 47 4 [.ref a] S st P = AW X d 47 5 [.ref a] (.ref a :: S) st P := zAW_st (zd_of zb_X5_init dX5_init_4) rfl rfl
theorem E_X5_init_4n : AW X d 47 4 [.null] S st P = AW X d 47 5 [.null] (.null :: S) st P := zAW_st (zd_of zb_X5_init dX5_init_4) rfl rfl
theorem E_X5_init_5 : AW X d 47 5 [l0] S st P = AW X d 47 8 [l0] (.ref st.2.length :: S) (znew st 0) P := zq_new (zd_of zb_X5_init dX5_init_5) zo_X5_init (by decide +kernel)
theorem E_X5_init_8 : AW X d 47 8 [l0] (.ref a :: S) st P = AW X d 47 9 [l0] (.ref a :: .ref a :: S) st P := zq_dup (zd_of zb_X5_init dX5_init_8) rfl
theorem E_X5_init_8n : AW X d 47 8 [l0] (.null :: S) st P = AW X d 47 9 [l0] (.null :: .null :: S) st P := zq_dup (zd_of zb_X5_init dX5_init_8) rfl
theorem E_X5_init_8i : AW X d 47 8 [l0] (.int x :: S) st P = AW X d 47 9 [l0] (.int x :: .int x :: S) st P := zq_dup (zd_of zb_X5_init dX5_init_8) rfl
theorem E_X5_init_8f : AW X d 47 8 [l0] (.float u :: S) st P = AW X d 47 9 [l0] (.float u :: .float u :: S) st P := zq_dup (zd_of zb_X5_init dX5_init_8) rfl
theorem E_X5_init_9 : AW X d 47 9 [l0] (.ref a :: S) st P = zif (S.length ≤ 4) (AC X d 112 [.ref a] st (zaft X d 47 9 [l0] S P)) := zq_callI (B := []) (zd_of zb_X5_init dX5_init_9) zo_X5_init zl_5_11 (by decide) (by decide) zn_112 rfl rfl
theorem E_X5_init_12 : AW X d 47 12 [l0] (.ref b :: .ref a :: S) st P = zwith (zget st a 6 0) fun _ => AW X d 47 15 [l0] S (zput st a 0 (.ref b)) P := zq_putfield (zd_of zb_X5_init dX5_init_12) zo_X5_init zf_5_12 rfl (Or.inr (by decide +kernel))
theorem E_X5_init_12n : AW X d 47 12 [l0] (.null :: .ref a :: S) st P = zwith (zget st a 6 0) fun _ => AW X d 47 15 [l0] S (zput st a 0 (.null)) P := zq_putfield (zd_of zb_X5_init dX5_init_12) zo_X5_init zf_5_12 rfl (Or.inr (by decide +kernel))
theorem E_X5_init_15 : AW X d 47 15 [.ref a] S st P = AW X d 47 16 [.ref a] (.ref a :: S) st P := zAW_st (zd_of zb_X5_init dX5_init_15) rfl rfl
theorem E_X5_init_15n : AW X d 47 15 [.null] S st P = AW X d 47 16 [.null] (.null :: S) st P := zAW_st (zd_of zb_X5_init dX5_init_15) rfl rfl
theorem E_X5_init_16 : AW X d 47 16 [l0] S st P = AW X d 47 19 [l0] (.ref st.2.length :: S) (znew st 0) P := zq_new (zd_of zb_X5_init dX5_init_16) zo_X5_init (by decide +kernel)
theorem E_X5_init_19 : AW X d 47 19 [l0] (.ref a :: S) st P = AW X d 47 20 [l0] (.ref a :: .ref a :: S) st P := zq_dup (zd_of zb_X5_init dX5_init_19) rfl
theorem E_X5_init_19n : AW X d 47 19 [l0] (.null :: S) st P = AW X d 47 20 [l0] (.null :: .null :: S) st P := zq_dup (zd_of zb_X5_init dX5_init_19) rfl
theorem E_X5_init_19i : AW X d 47 19 [l0] (.int x :: S) st P = AW X d 47 20 [l0] (.int x :: .int x :: S) st P := zq_dup (zd_of zb_X5_init dX5_init_19) rfl
theorem E_X5_init_19f : AW X d 47 19 [l0] (.float u :: S) st P = AW X d 47 20 [l0] (.float u :: .float u :: S) st P := zq_dup (zd_of zb_X5_init dX5_init_19) rfl
theorem E_X5_init_20 : AW X d 47 20 [l0] (.ref a :: S) st P = zif (S.length ≤ 4) (AC X d 112 [.ref a] st (zaft X d 47 20 [l0] S P)) := zq_callI (B := []) (zd_of zb_X5_init dX5_init_20) zo_X5_init zl_5_11 (by decide) (by decide) zn_112 rfl rfl
theorem E_X5_init_23 : AW X d 47 23 [l0] (.ref b :: .ref a :: S) st P = zwith (zget st a 6 1) fun _ => AW X d 47 26 [l0] S (zput st a 1 (.ref b)) P := zq_putfield (zd_of zb_X5_init dX5_init_23) zo_X5_init zf_5_16 rfl (Or.inr (by decide +kernel))
theorem E_X5_init_23n : AW X d 47 23 [l0] (.null :: .ref a :: S) st P = zwith (zget st a 6 1) fun _ => AW X d 47 26 [l0] S (zput st a 1 (.null)) P := zq_putfield (zd_of zb_X5_init dX5_init_23) zo_X5_init zf_5_16 rfl (Or.inr (by decide +kernel))
theorem E_X5_init_26 : AW X d 47 26 [.ref a] S st P = AW X d 47 27 [.ref a] (.ref a :: S) st P := zAW_st (zd_of zb_X5_init dX5_init_26) rfl rfl
theorem E_X5_init_26n : AW X d 47 26 [.null] S st P = AW X d 47 27 [.null] (.null :: S) st P := zAW_st (zd_of zb_X5_init dX5_init_26) rfl rfl
theorem E_X5_init_27 : AW X d 47 27 [l0] S st P = AW X d 47 30 [l0] (.ref st.2.length :: S) (znew st 0) P := zq_new (zd_of zb_X5_init dX5_init_27) zo_X5_init (by decide +kernel)
theorem E_X5_init_30 : AW X d 47 30 [l0] (.ref a :: S) st P = AW X d 47 31 [l0] (.ref a :: .ref a :: S) st P := zq_dup (zd_of zb_X5_init dX5_init_30) rfl
theorem E_X5_init_30n : AW X d 47 30 [l0] (.null :: S) st P = AW X d 47 31 [l0] (.null :: .null :: S) st P := zq_dup (zd_of zb_X5_init dX5_init_30) rfl
theorem E_X5_init_30i : AW X d 47 30 [l0] (.int x :: S) st P = AW X d 47 31 [l0] (.int x :: .int x :: S) st P := zq_dup (zd_of zb_X5_init dX5_init_30) rfl
theorem E_X5_init_30f : AW X d 47 30 [l0] (.float u :: S) st P = AW X d 47 31 [l0] (.float u :: .float u :: S) st P := zq_dup (zd_of zb_X5_init dX5_init_30) rfl
theorem E_X5_init_31 : AW X d 47 31 [l0] (.ref a :: S) st P = zif (S.length ≤ 4) (AC X d 112 [.ref a] st (zaft X d 47 31 [l0] S P)) := zq_callI (B := []) (zd_of zb_X5_init dX5_init_31) zo_X5_init zl_5_11 (by decide) (by decide) zn_112 rfl rfl
theorem E_X5_init_34 : AW X d 47 34 [l0] (.ref b :: .ref a :: S) st P = zwith (zget st a 6 2) fun _ => AW X d 47 37 [l0] S (zput st a 2 (.ref b)) P := zq_putfield (zd_of zb_X5_init dX5_init_34) zo_X5_init zf_5_19 rfl (Or.inr (by decide +kernel))
theorem E_X5_init_34n : AW X d 47 34 [l0] (.null :: .ref a :: S) st P = zwith (zget st a 6 2) fun _ => AW X d 47 37 [l0] S (zput st a 2 (.null)) P := zq_putfield (zd_of zb_X5_init dX5_init_34) zo_X5_init zf_5_19 rfl (Or.inr (by decide +kernel))
theorem E_X5_init_37 : AW X d 47 37 [.ref a] S st P = AW X d 47 38 [.ref a] (.ref a :: S) st P := zAW_st (zd_of zb_X5_init dX5_init_37) rfl rfl
theorem E_X5_init_37n : AW X d 47 37 [.null] S st P = AW X d 47 38 [.null] (.null :: S) st P := zAW_st (zd_of zb_X5_init dX5_init_37) rfl rfl
theorem E_X5_init_38 : AW X d 47 38 [l0] S st P = AW X d 47 41 [l0] (.ref st.2.length :: S) (znew st 5) P := zq_new (zd_of zb_X5_init dX5_init_38) zo_X5_init (by decide +kernel)
theorem E_X5_init_41 : AW X d 47 41 [l0] (.ref a :: S) st P = AW X d 47 42 [l0] (.ref a :: .ref a :: S) st P := zq_dup (zd_of zb_X5_init dX5_init_41) rfl
theorem E_X5_init_41n : AW X d 47 41 [l0] (.null :: S) st P = AW X d 47 42 [l0] (.null :: .null :: S) st P := zq_dup (zd_of zb_X5_init dX5_init_41) rfl
theorem E_X5_init_41i : AW X d 47 41 [l0] (.int x :: S) st P = AW X d 47 42 [l0] (.int x :: .int x :: S) st P := zq_dup (zd_of zb_X5_init dX5_init_41) rfl
theorem E_X5_init_41f : AW X d 47 41 [l0] (.float u :: S) st P = AW X d 47 42 [l0] (.float u :: .float u :: S) st P := zq_dup (zd_of zb_X5_init dX5_init_41) rfl
theorem E_X5_init_42 : AW X d 47 42 [l0] (.ref a :: S) st P = zif (S.length ≤ 4) (AC X d 38 [.ref a] st (zaft X d 47 42 [l0] S P)) := zq_callI (B := []) (zd_of zb_X5_init dX5_init_42) zo_X5_init zl_5_24 (by decide) (by decide) zn_38 rfl rfl
theorem E_X5_init_45 : AW X d 47 45 [l0] (.ref b :: .ref a :: S) st P = zwith (zget st a 6 3) fun _ => AW X d 47 48 [l0] S (zput st a 3 (.ref b)) P := zq_putfield (zd_of zb_X5_init dX5_init_45) zo_X5_init zf_5_25 rfl (Or.inr (by decide +kernel))
theorem E_X5_init_45n : AW X d 47 45 [l0] (.null :: .ref a :: S) st P = zwith (zget st a 6 3) fun _ => AW X d 47 48 [l0] S (zput st a 3 (.null)) P := zq_putfield (zd_of zb_X5_init dX5_init_45) zo_X5_init zf_5_25 rfl (Or.inr (by decide +kernel))
theorem E_X5_init_48 : AW X d 47 48 [l0] [] st P = P (.inl none) st := zAW_ret (w := (.inl none, st)) (zd_of zb_X5_init dX5_init_48) rfl rfl (by simp only [zfin, zr_X5_init])
theorem A_X5_init : AC X (d + 1) 47 [.ref a] st P = AW X d 47 0 [.ref a] [] st P := AC_eq ⟨⟨(show 1 ≤ zml 47 by decide +kernel), by decide +kernel⟩, by simp [zc1_int, zc1_ref, zc1_float]⟩
theorem E_X5_drawing_0 : AW X d 48 0 [.ref a, l1] S st P = AW X d 48 1 [.ref a, l1] (.ref a :: S) st P := zAW_st (zd_of zb_X5_drawing dX5_drawing_0) rfl rfl
theorem E_X5_drawing_0n : AW X d 48 0 [.null, l1] S st P = AW X d 48 1 [.null, l1] (.null :: S) st P := zAW_st (zd_of zb_X5_drawing dX5_drawing_0) rfl rfl
theorem E_X5_drawing_1 : AW X d 48 1 [l0, l1] (.ref a :: S) st P = zwith (zget st a 6 0) fun v => AW X d 48 4 [l0, l1] (v :: S) st P := zq_getfield (zd_of zb_X5_drawing dX5_drawing_1) zo_X5_drawing zf_5_12
theorem E_X5_drawing_4 : AW X d 48 4 [l0, l1] (.ref a :: S) st P = zif (zis st a 0 = true) (zif (S.length ≤ 4) (AC X d 115 [.ref a] st (zaft X d 48 4 [l0, l1] S P))) := zq_callV (B := []) (zd_of zb_X5_drawing dX5_drawing_4) zo_X5_drawing (by decide) zl_5_29 zn_115 rfl rfl rfl
theorem E_X5_drawing_7 : AW X d 48 7 [l0, l1] S st P = AW X d 48 9 [l0, l1] (.int 12 :: S) st P := zq_bipush (zd_of zb_X5_drawing dX5_drawing_7) (by decide)
theorem E_X5_drawing_9 : AW X d 48 9 [l0, l1] (.int y :: .int x :: S) st P = if x < y then AW X d 48 22 [l0, l1] S st P else AW X d 48 12 [l0, l1] S st P := zq_icmp (c := x < y) (zd_of zb_X5_drawing dX5_drawing_9) (by decide) rfl
theorem E_X5_drawing_12 : AW X d 48 12 [l0, l1] S st P = zif (5 ≤ d) (zif (S.length ≤ 4) (P (.inr "java/lang/IllegalStateException") (st.1 + 7, st.2))) := zq_throw (zd_of zb_X5_drawing dX5_drawing_12) zo_X5_drawing (by decide +kernel) zh_X5_drawing (by decide +kernel)
theorem E_X5_drawing_22 : AW X d 48 22 [.ref a, l1] S st P = AW X d 48 23 [.ref a, l1] (.ref a :: S) st P := zAW_st (zd_of zb_X5_drawing dX5_drawing_22) rfl rfl
theorem E_X5_drawing_22n : AW X d 48 22 [.null, l1] S st P = AW X d 48 23 [.null, l1] (.null :: S) st P := zAW_st (zd_of zb_X5_drawing dX5_drawing_22) rfl rfl
theorem E_X5_drawing_23 : AW X d 48 23 [l0, l1] (.ref a :: S) st P = zwith (zget st a 6 0) fun v => AW X d 48 26 [l0, l1] (v :: S) st P := zq_getfield (zd_of zb_X5_drawing dX5_drawing_23) zo_X5_drawing zf_5_12
theorem E_X5_drawing_26 : AW X d 48 26 [l0, l1] (.ref a :: S) st P = zif (zis st a 0 = true) (zif (S.length ≤ 4) (AC X d 115 [.ref a] st (zaft X d 48 26 [l0, l1] S P))) := zq_callV (B := []) (zd_of zb_X5_drawing dX5_drawing_26) zo_X5_drawing (by decide) zl_5_29 zn_115 rfl rfl rfl
theorem E_X5_drawing_29 : AW X d 48 29 [l0, l1] (.int x :: S) st P = AW X d 48 30 [l0, .int x] S st P := zAW_st (zd_of zb_X5_drawing dX5_drawing_29) rfl rfl
theorem E_X5_drawing_30 : AW X d 48 30 [.ref a, l1] S st P = AW X d 48 31 [.ref a, l1] (.ref a :: S) st P := zAW_st (zd_of zb_X5_drawing dX5_drawing_30) rfl rfl
theorem E_X5_drawing_30n : AW X d 48 30 [.null, l1] S st P = AW X d 48 31 [.null, l1] (.null :: S) st P := zAW_st (zd_of zb_X5_drawing dX5_drawing_30) rfl rfl
theorem E_X5_drawing_31 : AW X d 48 31 [l0, l1] (.ref a :: S) st P = zwith (zget st a 6 0) fun v => AW X d 48 34 [l0, l1] (v :: S) st P := zq_getfield (zd_of zb_X5_drawing dX5_drawing_31) zo_X5_drawing zf_5_12
theorem E_X5_drawing_34 : AW X d 48 34 [l0, l1] S st P = AW X d 48 37 [l0, l1] (.ref st.2.length :: S) (znew st 1) P := zq_new (zd_of zb_X5_drawing dX5_drawing_34) zo_X5_drawing (by decide +kernel)
theorem E_X5_drawing_37 : AW X d 48 37 [l0, l1] (.ref a :: S) st P = AW X d 48 38 [l0, l1] (.ref a :: .ref a :: S) st P := zq_dup (zd_of zb_X5_drawing dX5_drawing_37) rfl
theorem E_X5_drawing_37n : AW X d 48 37 [l0, l1] (.null :: S) st P = AW X d 48 38 [l0, l1] (.null :: .null :: S) st P := zq_dup (zd_of zb_X5_drawing dX5_drawing_37) rfl
theorem E_X5_drawing_37i : AW X d 48 37 [l0, l1] (.int x :: S) st P = AW X d 48 38 [l0, l1] (.int x :: .int x :: S) st P := zq_dup (zd_of zb_X5_drawing dX5_drawing_37) rfl
theorem E_X5_drawing_37f : AW X d 48 37 [l0, l1] (.float u :: S) st P = AW X d 48 38 [l0, l1] (.float u :: .float u :: S) st P := zq_dup (zd_of zb_X5_drawing dX5_drawing_37) rfl
theorem E_X5_drawing_38 : AW X d 48 38 [l0, .int x] S st P = AW X d 48 39 [l0, .int x] (.int x :: S) st P := zAW_st (zd_of zb_X5_drawing dX5_drawing_38) rfl rfl
theorem E_X5_drawing_39 : AW X d 48 39 [l0, l1] (.int x :: .ref a :: S) st P = zif (S.length ≤ 4) (AC X d 0 [.ref a, .int x] st (zaft X d 48 39 [l0, l1] S P)) := zq_callI (B := [.int x]) (zd_of zb_X5_drawing dX5_drawing_39) zo_X5_drawing zl_5_42 (by decide) (by decide) zn_0 rfl rfl
theorem E_X5_drawing_42 : AW X d 48 42 [l0, l1] (v1 :: .ref a :: S) st P = zif (zis st a 0 = true) (zif (S.length ≤ 4) (AC X d 119 [.ref a, v1] st (zaft X d 48 42 [l0, l1] S P))) := zq_callV (B := [v1]) (zd_of zb_X5_drawing dX5_drawing_42) zo_X5_drawing (by decide) zl_5_45 zn_119 rfl rfl rfl
theorem E_X5_drawing_45 : AW X d 48 45 [l0, l1] (.ref a :: S) st P = AW X d 48 46 [l0, l1] S st P := zq_pop (zd_of zb_X5_drawing dX5_drawing_45) rfl
theorem E_X5_drawing_45n : AW X d 48 45 [l0, l1] (.null :: S) st P = AW X d 48 46 [l0, l1] S st P := zq_pop (zd_of zb_X5_drawing dX5_drawing_45) rfl
theorem E_X5_drawing_45i : AW X d 48 45 [l0, l1] (.int x :: S) st P = AW X d 48 46 [l0, l1] S st P := zq_pop (zd_of zb_X5_drawing dX5_drawing_45) rfl
theorem E_X5_drawing_45f : AW X d 48 45 [l0, l1] (.float u :: S) st P = AW X d 48 46 [l0, l1] S st P := zq_pop (zd_of zb_X5_drawing dX5_drawing_45) rfl
theorem E_X5_drawing_46 : AW X d 48 46 [l0, .int x] S st P = AW X d 48 47 [l0, .int x] (.int x :: S) st P := zAW_st (zd_of zb_X5_drawing dX5_drawing_46) rfl rfl
theorem E_X5_drawing_47 : AW X d 48 47 [l0, l1] ([.int x]) st P = P (.inl (some (.int x))) st := zAW_ret (w := (.inl (some (.int x)), st)) (zd_of zb_X5_drawing dX5_drawing_47) rfl rfl (by simp only [zfin, zr_X5_drawing])
theorem A_X5_drawing : AC X (d + 1) 48 [.ref a] st P = AW X d 48 0 [.ref a, .retAddr 0] [] st P := AC_eq ⟨⟨(show 1 ≤ zml 48 by decide +kernel), by decide +kernel⟩, by simp [zc1_int, zc1_ref, zc1_float]⟩
theorem E_X5_stroke_0 : AW X d 49 0 [.ref a, l1, l2, l3, l4] S st P = AW X d 49 1 [.ref a, l1, l2, l3, l4] (.ref a :: S) st P := zAW_st (zd_of zb_X5_stroke dX5_stroke_0) rfl rfl
theorem E_X5_stroke_0n : AW X d 49 0 [.null, l1, l2, l3, l4] S st P = AW X d 49 1 [.null, l1, l2, l3, l4] (.null :: S) st P := zAW_st (zd_of zb_X5_stroke dX5_stroke_0) rfl rfl
theorem E_X5_stroke_1 : AW X d 49 1 [l0, .int x, l2, l3, l4] S st P = AW X d 49 2 [l0, .int x, l2, l3, l4] (.int x :: S) st P := zAW_st (zd_of zb_X5_stroke dX5_stroke_1) rfl rfl
theorem E_X5_stroke_2 : AW X d 49 2 [l0, l1, l2, l3, l4] (.int x :: .ref a :: S) st P = zif (zis st a 6 = true) (zif (S.length ≤ 4) (AC X d 64 [.ref a, .int x] st (zaft X d 49 2 [l0, l1, l2, l3, l4] S P))) := zq_callV (B := [.int x]) (zd_of zb_X5_stroke dX5_stroke_2) zo_X5_stroke (by decide) zl_5_49 zn_64 rfl rfl rfl
theorem E_X5_stroke_5 : AW X d 49 5 [l0, l1, l2, l3, l4] (.ref a :: S) st P = AW X d 49 7 [l0, l1, l2, l3, .ref a] S st P := zAW_st (zd_of zb_X5_stroke dX5_stroke_5) rfl rfl
theorem E_X5_stroke_5n : AW X d 49 5 [l0, l1, l2, l3, l4] (.null :: S) st P = AW X d 49 7 [l0, l1, l2, l3, .null] S st P := zAW_st (zd_of zb_X5_stroke dX5_stroke_5) rfl rfl
theorem E_X5_stroke_7 : AW X d 49 7 [l0, l1, .int x, l3, l4] S st P = AW X d 49 8 [l0, l1, .int x, l3, l4] (.int x :: S) st P := zAW_st (zd_of zb_X5_stroke dX5_stroke_7) rfl rfl
theorem E_X5_stroke_8 : AW X d 49 8 [l0, l1, l2, l3, l4] (.int x :: S) st P = zif (S.length ≤ 4) (AC X d 66 [.int x] st (zaft X d 49 8 [l0, l1, l2, l3, l4] S P)) := zq_callS (B := [.int x]) (S2 := S) (zd_of zb_X5_stroke dX5_stroke_8) zo_X5_stroke (by decide) (by decide) (by decide) zl_5_53 zn_66 (by simp only [List.length_cons]; omega) rfl rfl
theorem E_X5_stroke_11 : AW X d 49 11 [l0, l1, l2, l3, l4] (.int x :: S) st P = if x = 0 then AW X d 49 21 [l0, l1, l2, l3, l4] S st P else AW X d 49 14 [l0, l1, l2, l3, l4] S st P := zq_if (c := x = 0) (zd_of zb_X5_stroke dX5_stroke_11) (by decide) rfl
theorem E_X5_stroke_14 : AW X d 49 14 [l0, l1, l2, .int x, l4] S st P = AW X d 49 15 [l0, l1, l2, .int x, l4] (.int x :: S) st P := zAW_st (zd_of zb_X5_stroke dX5_stroke_14) rfl rfl
theorem E_X5_stroke_15 : AW X d 49 15 [l0, l1, l2, l3, l4] (.int x :: S) st P = zif (S.length ≤ 4) (AC X d 66 [.int x] st (zaft X d 49 15 [l0, l1, l2, l3, l4] S P)) := zq_callS (B := [.int x]) (S2 := S) (zd_of zb_X5_stroke dX5_stroke_15) zo_X5_stroke (by decide) (by decide) (by decide) zl_5_53 zn_66 (by simp only [List.length_cons]; omega) rfl rfl
theorem E_X5_stroke_18 : AW X d 49 18 [l0, l1, l2, l3, l4] (.int x :: S) st P = if ¬ x = 0 then AW X d 49 31 [l0, l1, l2, l3, l4] S st P else AW X d 49 21 [l0, l1, l2, l3, l4] S st P := zq_if (c := ¬ x = 0) (zd_of zb_X5_stroke dX5_stroke_18) (by decide) rfl
theorem E_X5_stroke_21 : AW X d 49 21 [l0, l1, l2, l3, l4] S st P = zif (5 ≤ d) (zif (S.length ≤ 4) (P (.inr "java/lang/IndexOutOfBoundsException") (st.1 + 7, st.2))) := zq_throw (zd_of zb_X5_stroke dX5_stroke_21) zo_X5_stroke (by decide +kernel) zh_X5_stroke (by decide +kernel)
theorem E_X5_stroke_31 : AW X d 49 31 [l0, l1, .int x, l3, l4] S st P = AW X d 49 32 [l0, l1, .int x, l3, l4] (.int x :: S) st P := zAW_st (zd_of zb_X5_stroke dX5_stroke_31) rfl rfl
theorem E_X5_stroke_32 : AW X d 49 32 [l0, l1, l2, .int x, l4] S st P = AW X d 49 33 [l0, l1, l2, .int x, l4] (.int x :: S) st P := zAW_st (zd_of zb_X5_stroke dX5_stroke_32) rfl rfl
theorem E_X5_stroke_33 : AW X d 49 33 [l0, l1, l2, l3, l4] (.int y :: .int x :: S) st P = if ¬ x = y then AW X d 49 46 [l0, l1, l2, l3, l4] S st P else AW X d 49 36 [l0, l1, l2, l3, l4] S st P := zq_icmp (c := ¬ x = y) (zd_of zb_X5_stroke dX5_stroke_33) (by decide) rfl
theorem E_X5_stroke_36 : AW X d 49 36 [l0, l1, l2, l3, l4] S st P = zif (5 ≤ d) (zif (S.length ≤ 4) (P (.inr "java/lang/IllegalArgumentException") (st.1 + 7, st.2))) := zq_throw (zd_of zb_X5_stroke dX5_stroke_36) zo_X5_stroke (by decide +kernel) zh_X5_stroke (by decide +kernel)
theorem E_X5_stroke_46 : AW X d 49 46 [l0, l1, l2, l3, .ref a] S st P = AW X d 49 48 [l0, l1, l2, l3, .ref a] (.ref a :: S) st P := zAW_st (zd_of zb_X5_stroke dX5_stroke_46) rfl rfl
theorem E_X5_stroke_46n : AW X d 49 46 [l0, l1, l2, l3, .null] S st P = AW X d 49 48 [l0, l1, l2, l3, .null] (.null :: S) st P := zAW_st (zd_of zb_X5_stroke dX5_stroke_46) rfl rfl
theorem E_X5_stroke_48 : AW X d 49 48 [l0, l1, l2, l3, l4] (.ref a :: S) st P = zwith (zget st a 1 2) fun v => AW X d 49 51 [l0, l1, l2, l3, l4] (v :: S) st P := zq_getfield (zd_of zb_X5_stroke dX5_stroke_48) zo_X5_stroke zf_5_67
theorem E_X5_stroke_51 : AW X d 49 51 [l0, l1, l2, l3, l4] (.int x :: S) st P = if ¬ x = 0 then AW X d 49 67 [l0, l1, l2, l3, l4] S st P else AW X d 49 54 [l0, l1, l2, l3, l4] S st P := zq_if (c := ¬ x = 0) (zd_of zb_X5_stroke dX5_stroke_51) (by decide) rfl
theorem E_X5_stroke_54 : AW X d 49 54 [l0, l1, l2, l3, .ref a] S st P = AW X d 49 56 [l0, l1, l2, l3, .ref a] (.ref a :: S) st P := zAW_st (zd_of zb_X5_stroke dX5_stroke_54) rfl rfl
theorem E_X5_stroke_54n : AW X d 49 54 [l0, l1, l2, l3, .null] S st P = AW X d 49 56 [l0, l1, l2, l3, .null] (.null :: S) st P := zAW_st (zd_of zb_X5_stroke dX5_stroke_54) rfl rfl
theorem E_X5_stroke_56 : AW X d 49 56 [l0, l1, l2, l3, l4] (.ref a :: S) st P = zwith (zget st a 1 1) fun v => AW X d 49 59 [l0, l1, l2, l3, l4] (v :: S) st P := zq_getfield (zd_of zb_X5_stroke dX5_stroke_56) zo_X5_stroke zf_5_71
theorem E_X5_stroke_59 : AW X d 49 59 [l0, l1, l2, l3, l4] (.ref a :: S) st P = zwith (zget st a 3 1) fun v => AW X d 49 62 [l0, l1, l2, l3, l4] (v :: S) st P := zq_getfield (zd_of zb_X5_stroke dX5_stroke_59) zo_X5_stroke zf_5_75
theorem E_X5_stroke_62 : AW X d 49 62 [l0, l1, l2, l3, l4] S st P = AW X d 49 64 [l0, l1, l2, l3, l4] (.int 24 :: S) st P := zq_bipush (zd_of zb_X5_stroke dX5_stroke_62) (by decide)
theorem E_X5_stroke_64 : AW X d 49 64 [l0, l1, l2, l3, l4] (.int y :: .int x :: S) st P = if x < y then AW X d 49 77 [l0, l1, l2, l3, l4] S st P else AW X d 49 67 [l0, l1, l2, l3, l4] S st P := zq_icmp (c := x < y) (zd_of zb_X5_stroke dX5_stroke_64) (by decide) rfl
theorem E_X5_stroke_67 : AW X d 49 67 [l0, l1, l2, l3, l4] S st P = zif (5 ≤ d) (zif (S.length ≤ 4) (P (.inr "java/lang/IllegalStateException") (st.1 + 7, st.2))) := zq_throw (zd_of zb_X5_stroke dX5_stroke_67) zo_X5_stroke (by decide +kernel) zh_X5_stroke (by decide +kernel)
theorem E_X5_stroke_77 : AW X d 49 77 [l0, l1, l2, l3, .ref a] S st P = AW X d 49 79 [l0, l1, l2, l3, .ref a] (.ref a :: S) st P := zAW_st (zd_of zb_X5_stroke dX5_stroke_77) rfl rfl
theorem E_X5_stroke_77n : AW X d 49 77 [l0, l1, l2, l3, .null] S st P = AW X d 49 79 [l0, l1, l2, l3, .null] (.null :: S) st P := zAW_st (zd_of zb_X5_stroke dX5_stroke_77) rfl rfl
theorem E_X5_stroke_79 : AW X d 49 79 [l0, l1, l2, l3, l4] (.ref a :: S) st P = zwith (zget st a 1 1) fun v => AW X d 49 82 [l0, l1, l2, l3, l4] (v :: S) st P := zq_getfield (zd_of zb_X5_stroke dX5_stroke_79) zo_X5_stroke zf_5_71
theorem E_X5_stroke_82 : AW X d 49 82 [l0, l1, .int x, l3, l4] S st P = AW X d 49 83 [l0, l1, .int x, l3, l4] (.int x :: S) st P := zAW_st (zd_of zb_X5_stroke dX5_stroke_82) rfl rfl
theorem E_X5_stroke_83 : AW X d 49 83 [l0, l1, l2, .int x, l4] S st P = AW X d 49 84 [l0, l1, l2, .int x, l4] (.int x :: S) st P := zAW_st (zd_of zb_X5_stroke dX5_stroke_83) rfl rfl
theorem E_X5_stroke_84 : AW X d 49 84 [l0, l1, l2, l3, l4] (.int y :: .int x :: .ref a :: S) st P = zif (zis st a 3 = true) (zif (S.length ≤ 4) (AC X d 10 [.ref a, .int x, .int y] st (zaft X d 49 84 [l0, l1, l2, l3, l4] S P))) := zq_callV (B := [.int x, .int y]) (zd_of zb_X5_stroke dX5_stroke_84) zo_X5_stroke (by decide) zl_5_81 zn_10 rfl rfl rfl
theorem E_X5_stroke_87 : AW X d 49 87 [l0, l1, l2, l3, .ref a] S st P = AW X d 49 89 [l0, l1, l2, l3, .ref a] (.ref a :: S) st P := zAW_st (zd_of zb_X5_stroke dX5_stroke_87) rfl rfl
theorem E_X5_stroke_87n : AW X d 49 87 [l0, l1, l2, l3, .null] S st P = AW X d 49 89 [l0, l1, l2, l3, .null] (.null :: S) st P := zAW_st (zd_of zb_X5_stroke dX5_stroke_87) rfl rfl
theorem E_X5_stroke_89 : AW X d 49 89 [l0, l1, l2, l3, l4] (.ref a :: S) st P = zwith (zget st a 1 1) fun v => AW X d 49 92 [l0, l1, l2, l3, l4] (v :: S) st P := zq_getfield (zd_of zb_X5_stroke dX5_stroke_89) zo_X5_stroke zf_5_71
theorem E_X5_stroke_92 : AW X d 49 92 [l0, l1, l2, l3, l4] (.ref a :: S) st P = zwith (zget st a 3 1) fun v => AW X d 49 95 [l0, l1, l2, l3, l4] (v :: S) st P := zq_getfield (zd_of zb_X5_stroke dX5_stroke_92) zo_X5_stroke zf_5_75
theorem E_X5_stroke_95 : AW X d 49 95 [l0, l1, l2, l3, l4] ([.int x]) st P = P (.inl (some (.int x))) st := zAW_ret (w := (.inl (some (.int x)), st)) (zd_of zb_X5_stroke dX5_stroke_95) rfl rfl (by simp only [zfin, zr_X5_stroke])
theorem A_X5_stroke : AC X (d + 1) 49 [.ref a, .int x, .int y, .int x3] st P = AW X d 49 0 [.ref a, .int x, .int y, .int x3, .retAddr 0] [] st P := AC_eq ⟨⟨(show 4 ≤ zml 49 by decide +kernel), by decide +kernel⟩, by simp [zc1_int, zc1_ref, zc1_float]⟩
theorem E_X5_finish_0 : AW X d 50 0 [.ref a, l1, l2, l3] S st P = AW X d 50 1 [.ref a, l1, l2, l3] (.ref a :: S) st P := zAW_st (zd_of zb_X5_finish dX5_finish_0) rfl rfl
theorem E_X5_finish_0n : AW X d 50 0 [.null, l1, l2, l3] S st P = AW X d 50 1 [.null, l1, l2, l3] (.null :: S) st P := zAW_st (zd_of zb_X5_finish dX5_finish_0) rfl rfl
theorem E_X5_finish_1 : AW X d 50 1 [l0, .int x, l2, l3] S st P = AW X d 50 2 [l0, .int x, l2, l3] (.int x :: S) st P := zAW_st (zd_of zb_X5_finish dX5_finish_1) rfl rfl
theorem E_X5_finish_2 : AW X d 50 2 [l0, l1, l2, l3] (.int x :: .ref a :: S) st P = zif (zis st a 6 = true) (zif (S.length ≤ 4) (AC X d 64 [.ref a, .int x] st (zaft X d 50 2 [l0, l1, l2, l3] S P))) := zq_callV (B := [.int x]) (zd_of zb_X5_finish dX5_finish_2) zo_X5_finish (by decide) zl_5_49 zn_64 rfl rfl rfl
theorem E_X5_finish_5 : AW X d 50 5 [l0, l1, l2, l3] (.ref a :: S) st P = AW X d 50 6 [l0, l1, .ref a, l3] S st P := zAW_st (zd_of zb_X5_finish dX5_finish_5) rfl rfl
theorem E_X5_finish_5n : AW X d 50 5 [l0, l1, l2, l3] (.null :: S) st P = AW X d 50 6 [l0, l1, .null, l3] S st P := zAW_st (zd_of zb_X5_finish dX5_finish_5) rfl rfl
theorem E_X5_finish_6 : AW X d 50 6 [l0, l1, .ref a, l3] S st P = AW X d 50 7 [l0, l1, .ref a, l3] (.ref a :: S) st P := zAW_st (zd_of zb_X5_finish dX5_finish_6) rfl rfl
theorem E_X5_finish_6n : AW X d 50 6 [l0, l1, .null, l3] S st P = AW X d 50 7 [l0, l1, .null, l3] (.null :: S) st P := zAW_st (zd_of zb_X5_finish dX5_finish_6) rfl rfl
theorem E_X5_finish_7 : AW X d 50 7 [l0, l1, l2, l3] (.ref a :: S) st P = zwith (zget st a 1 2) fun v => AW X d 50 10 [l0, l1, l2, l3] (v :: S) st P := zq_getfield (zd_of zb_X5_finish dX5_finish_7) zo_X5_finish zf_5_67
theorem E_X5_finish_10 : AW X d 50 10 [l0, l1, l2, l3] (.int x :: S) st P = if x = 0 then AW X d 50 23 [l0, l1, l2, l3] S st P else AW X d 50 13 [l0, l1, l2, l3] S st P := zq_if (c := x = 0) (zd_of zb_X5_finish dX5_finish_10) (by decide) rfl
theorem E_X5_finish_13 : AW X d 50 13 [l0, l1, l2, l3] S st P = zif (5 ≤ d) (zif (S.length ≤ 4) (P (.inr "java/lang/IllegalStateException") (st.1 + 7, st.2))) := zq_throw (zd_of zb_X5_finish dX5_finish_13) zo_X5_finish (by decide +kernel) zh_X5_finish (by decide +kernel)
theorem E_X5_finish_23 : AW X d 50 23 [l0, l1, .ref a, l3] S st P = AW X d 50 24 [l0, l1, .ref a, l3] (.ref a :: S) st P := zAW_st (zd_of zb_X5_finish dX5_finish_23) rfl rfl
theorem E_X5_finish_23n : AW X d 50 23 [l0, l1, .null, l3] S st P = AW X d 50 24 [l0, l1, .null, l3] (.null :: S) st P := zAW_st (zd_of zb_X5_finish dX5_finish_23) rfl rfl
theorem E_X5_finish_24 : AW X d 50 24 [l0, l1, l2, l3] (.ref a :: S) st P = zwith (zget st a 1 1) fun v => AW X d 50 27 [l0, l1, l2, l3] (v :: S) st P := zq_getfield (zd_of zb_X5_finish dX5_finish_24) zo_X5_finish zf_5_71
theorem E_X5_finish_27 : AW X d 50 27 [l0, l1, l2, l3] (.ref a :: S) st P = zif (zis st a 3 = true) (zif (S.length ≤ 4) (AC X d 13 [.ref a] st (zaft X d 50 27 [l0, l1, l2, l3] S P))) := zq_callV (B := []) (zd_of zb_X5_finish dX5_finish_27) zo_X5_finish (by decide) zl_5_86 zn_13 rfl rfl rfl
theorem E_X5_finish_30 : AW X d 50 30 [l0, l1, .ref a, l3] S st P = AW X d 50 31 [l0, l1, .ref a, l3] (.ref a :: S) st P := zAW_st (zd_of zb_X5_finish dX5_finish_30) rfl rfl
theorem E_X5_finish_30n : AW X d 50 30 [l0, l1, .null, l3] S st P = AW X d 50 31 [l0, l1, .null, l3] (.null :: S) st P := zAW_st (zd_of zb_X5_finish dX5_finish_30) rfl rfl
theorem E_X5_finish_31 : AW X d 50 31 [l0, l1, l2, l3] (.ref a :: S) st P = zwith (zget st a 1 1) fun v => AW X d 50 34 [l0, l1, l2, l3] (v :: S) st P := zq_getfield (zd_of zb_X5_finish dX5_finish_31) zo_X5_finish zf_5_71
theorem E_X5_finish_34 : AW X d 50 34 [l0, l1, l2, l3] (.ref a :: S) st P = zif (zis st a 3 = true) (zif (S.length ≤ 4) (AC X d 15 [.ref a] st (zaft X d 50 34 [l0, l1, l2, l3] S P))) := zq_callV (B := []) (zd_of zb_X5_finish dX5_finish_34) zo_X5_finish (by decide) zl_5_89 zn_15 rfl rfl rfl
theorem E_X5_finish_37 : AW X d 50 37 [l0, l1, l2, l3] (.int x :: S) st P = AW X d 50 38 [l0, l1, l2, .int x] S st P := zAW_st (zd_of zb_X5_finish dX5_finish_37) rfl rfl
theorem E_X5_finish_38 : AW X d 50 38 [l0, l1, l2, .int x] S st P = AW X d 50 39 [l0, l1, l2, .int x] (.int x :: S) st P := zAW_st (zd_of zb_X5_finish dX5_finish_38) rfl rfl
theorem E_X5_finish_39 : AW X d 50 39 [l0, l1, l2, l3] S st P = AW X d 50 40 [l0, l1, l2, l3] (.int (-1) :: S) st P := zq_iconst (zd_of zb_X5_finish dX5_finish_39) (by decide)
theorem E_X5_finish_40 : AW X d 50 40 [l0, l1, l2, l3] (.int y :: .int x :: S) st P = if ¬ x = y then AW X d 50 52 [l0, l1, l2, l3] S st P else AW X d 50 43 [l0, l1, l2, l3] S st P := zq_icmp (c := ¬ x = y) (zd_of zb_X5_finish dX5_finish_40) (by decide) rfl
theorem E_X5_finish_43 : AW X d 50 43 [l0, l1, .ref a, l3] S st P = AW X d 50 44 [l0, l1, .ref a, l3] (.ref a :: S) st P := zAW_st (zd_of zb_X5_finish dX5_finish_43) rfl rfl
theorem E_X5_finish_43n : AW X d 50 43 [l0, l1, .null, l3] S st P = AW X d 50 44 [l0, l1, .null, l3] (.null :: S) st P := zAW_st (zd_of zb_X5_finish dX5_finish_43) rfl rfl
theorem E_X5_finish_44 : AW X d 50 44 [l0, l1, l2, l3] S st P = AW X d 50 45 [l0, l1, l2, l3] (.int 1 :: S) st P := zq_iconst (zd_of zb_X5_finish dX5_finish_44) (by decide)
theorem E_X5_finish_45 : AW X d 50 45 [l0, l1, l2, l3] (.int x :: .ref a :: S) st P = zwith (zget st a 1 2) fun _ => AW X d 50 48 [l0, l1, l2, l3] S (zput st a 2 (.int x)) P := zq_putfield (zd_of zb_X5_finish dX5_finish_45) zo_X5_finish zf_5_67 rfl (Or.inl (by decide +kernel))
theorem E_X5_finish_48 : AW X d 50 48 [.ref a, l1, l2, l3] S st P = AW X d 50 49 [.ref a, l1, l2, l3] (.ref a :: S) st P := zAW_st (zd_of zb_X5_finish dX5_finish_48) rfl rfl
theorem E_X5_finish_48n : AW X d 50 48 [.null, l1, l2, l3] S st P = AW X d 50 49 [.null, l1, l2, l3] (.null :: S) st P := zAW_st (zd_of zb_X5_finish dX5_finish_48) rfl rfl
theorem E_X5_finish_49 : AW X d 50 49 [l0, l1, l2, l3] (.ref a :: S) st P = zif (zis st a 6 = true) (zif (S.length ≤ 4) (AC X d 69 [.ref a] st (zaft X d 50 49 [l0, l1, l2, l3] S P))) := zq_callV (B := []) (zd_of zb_X5_finish dX5_finish_49) zo_X5_finish (by decide) zl_5_92 zn_69 rfl rfl rfl
theorem E_X5_finish_52 : AW X d 50 52 [l0, l1, l2, .int x] S st P = AW X d 50 53 [l0, l1, l2, .int x] (.int x :: S) st P := zAW_st (zd_of zb_X5_finish dX5_finish_52) rfl rfl
theorem E_X5_finish_53 : AW X d 50 53 [l0, l1, l2, l3] ([.int x]) st P = P (.inl (some (.int x))) st := zAW_ret (w := (.inl (some (.int x)), st)) (zd_of zb_X5_finish dX5_finish_53) rfl rfl (by simp only [zfin, zr_X5_finish])
theorem A_X5_finish : AC X (d + 1) 50 [.ref a, .int x] st P = AW X d 50 0 [.ref a, .int x, .retAddr 0, .retAddr 0] [] st P := AC_eq ⟨⟨(show 2 ≤ zml 50 by decide +kernel), by decide +kernel⟩, by simp [zc1_int, zc1_ref, zc1_float]⟩
theorem E_X5_redraw_0 : AW X d 51 0 [.ref a, l1, l2, l3, l4] S st P = AW X d 51 1 [.ref a, l1, l2, l3, l4] (.ref a :: S) st P := zAW_st (zd_of zb_X5_redraw dX5_redraw_0) rfl rfl
theorem E_X5_redraw_0n : AW X d 51 0 [.null, l1, l2, l3, l4] S st P = AW X d 51 1 [.null, l1, l2, l3, l4] (.null :: S) st P := zAW_st (zd_of zb_X5_redraw dX5_redraw_0) rfl rfl
theorem E_X5_redraw_1 : AW X d 51 1 [l0, .int x, l2, l3, l4] S st P = AW X d 51 2 [l0, .int x, l2, l3, l4] (.int x :: S) st P := zAW_st (zd_of zb_X5_redraw dX5_redraw_1) rfl rfl
theorem E_X5_redraw_2 : AW X d 51 2 [l0, l1, l2, l3, l4] (.int x :: .ref a :: S) st P = zif (zis st a 6 = true) (zif (S.length ≤ 4) (AC X d 64 [.ref a, .int x] st (zaft X d 51 2 [l0, l1, l2, l3, l4] S P))) := zq_callV (B := [.int x]) (zd_of zb_X5_redraw dX5_redraw_2) zo_X5_redraw (by decide) zl_5_49 zn_64 rfl rfl rfl
theorem E_X5_redraw_5 : AW X d 51 5 [l0, l1, l2, l3, l4] (.ref a :: S) st P = AW X d 51 6 [l0, l1, .ref a, l3, l4] S st P := zAW_st (zd_of zb_X5_redraw dX5_redraw_5) rfl rfl
theorem E_X5_redraw_5n : AW X d 51 5 [l0, l1, l2, l3, l4] (.null :: S) st P = AW X d 51 6 [l0, l1, .null, l3, l4] S st P := zAW_st (zd_of zb_X5_redraw dX5_redraw_5) rfl rfl
theorem E_X5_redraw_6 : AW X d 51 6 [l0, l1, .ref a, l3, l4] S st P = AW X d 51 7 [l0, l1, .ref a, l3, l4] (.ref a :: S) st P := zAW_st (zd_of zb_X5_redraw dX5_redraw_6) rfl rfl
theorem E_X5_redraw_6n : AW X d 51 6 [l0, l1, .null, l3, l4] S st P = AW X d 51 7 [l0, l1, .null, l3, l4] (.null :: S) st P := zAW_st (zd_of zb_X5_redraw dX5_redraw_6) rfl rfl
theorem E_X5_redraw_7 : AW X d 51 7 [l0, l1, l2, l3, l4] (.ref a :: S) st P = zwith (zget st a 1 2) fun v => AW X d 51 10 [l0, l1, l2, l3, l4] (v :: S) st P := zq_getfield (zd_of zb_X5_redraw dX5_redraw_7) zo_X5_redraw zf_5_67
theorem E_X5_redraw_10 : AW X d 51 10 [l0, l1, l2, l3, l4] S st P = AW X d 51 11 [l0, l1, l2, l3, l4] (.int 1 :: S) st P := zq_iconst (zd_of zb_X5_redraw dX5_redraw_10) (by decide)
theorem E_X5_redraw_11 : AW X d 51 11 [l0, l1, l2, l3, l4] (.int y :: .int x :: S) st P = if x = y then AW X d 51 24 [l0, l1, l2, l3, l4] S st P else AW X d 51 14 [l0, l1, l2, l3, l4] S st P := zq_icmp (c := x = y) (zd_of zb_X5_redraw dX5_redraw_11) (by decide) rfl
theorem E_X5_redraw_14 : AW X d 51 14 [l0, l1, l2, l3, l4] S st P = zif (5 ≤ d) (zif (S.length ≤ 4) (P (.inr "java/lang/IllegalStateException") (st.1 + 7, st.2))) := zq_throw (zd_of zb_X5_redraw dX5_redraw_14) zo_X5_redraw (by decide +kernel) zh_X5_redraw (by decide +kernel)
theorem E_X5_redraw_24 : AW X d 51 24 [.ref a, l1, l2, l3, l4] S st P = AW X d 51 25 [.ref a, l1, l2, l3, l4] (.ref a :: S) st P := zAW_st (zd_of zb_X5_redraw dX5_redraw_24) rfl rfl
theorem E_X5_redraw_24n : AW X d 51 24 [.null, l1, l2, l3, l4] S st P = AW X d 51 25 [.null, l1, l2, l3, l4] (.null :: S) st P := zAW_st (zd_of zb_X5_redraw dX5_redraw_24) rfl rfl
theorem E_X5_redraw_25 : AW X d 51 25 [l0, l1, .ref a, l3, l4] S st P = AW X d 51 26 [l0, l1, .ref a, l3, l4] (.ref a :: S) st P := zAW_st (zd_of zb_X5_redraw dX5_redraw_25) rfl rfl
theorem E_X5_redraw_25n : AW X d 51 25 [l0, l1, .null, l3, l4] S st P = AW X d 51 26 [l0, l1, .null, l3, l4] (.null :: S) st P := zAW_st (zd_of zb_X5_redraw dX5_redraw_25) rfl rfl
theorem E_X5_redraw_26 : AW X d 51 26 [l0, l1, l2, l3, l4] (v1 :: .ref a :: S) st P = zif (zis st a 6 = true) (zif (S.length ≤ 4) (AC X d 70 [.ref a, v1] st (zaft X d 51 26 [l0, l1, l2, l3, l4] S P))) := zq_callV (B := [v1]) (zd_of zb_X5_redraw dX5_redraw_26) zo_X5_redraw (by decide) zl_5_97 zn_70 rfl rfl rfl
theorem E_X5_redraw_29 : AW X d 51 29 [l0, l1, l2, l3, l4] (.int x :: S) st P = AW X d 51 30 [l0, l1, l2, .int x, l4] S st P := zAW_st (zd_of zb_X5_redraw dX5_redraw_29) rfl rfl
theorem E_X5_redraw_30 : AW X d 51 30 [l0, l1, .ref a, l3, l4] S st P = AW X d 51 31 [l0, l1, .ref a, l3, l4] (.ref a :: S) st P := zAW_st (zd_of zb_X5_redraw dX5_redraw_30) rfl rfl
theorem E_X5_redraw_30n : AW X d 51 30 [l0, l1, .null, l3, l4] S st P = AW X d 51 31 [l0, l1, .null, l3, l4] (.null :: S) st P := zAW_st (zd_of zb_X5_redraw dX5_redraw_30) rfl rfl
theorem E_X5_redraw_31 : AW X d 51 31 [l0, l1, l2, l3, l4] (.ref a :: S) st P = zif (zis st a 1 = true) (zif (S.length ≤ 4) (AC X d 1 [.ref a] st (zaft X d 51 31 [l0, l1, l2, l3, l4] S P))) := zq_callV (B := []) (zd_of zb_X5_redraw dX5_redraw_31) zo_X5_redraw (by decide) zl_5_101 zn_1 rfl rfl rfl
theorem E_X5_redraw_34 : AW X d 51 34 [.ref a, l1, l2, l3, l4] S st P = AW X d 51 35 [.ref a, l1, l2, l3, l4] (.ref a :: S) st P := zAW_st (zd_of zb_X5_redraw dX5_redraw_34) rfl rfl
theorem E_X5_redraw_34n : AW X d 51 34 [.null, l1, l2, l3, l4] S st P = AW X d 51 35 [.null, l1, l2, l3, l4] (.null :: S) st P := zAW_st (zd_of zb_X5_redraw dX5_redraw_34) rfl rfl
theorem E_X5_redraw_35 : AW X d 51 35 [l0, l1, l2, .int x, l4] S st P = AW X d 51 36 [l0, l1, l2, .int x, l4] (.int x :: S) st P := zAW_st (zd_of zb_X5_redraw dX5_redraw_35) rfl rfl
theorem E_X5_redraw_36 : AW X d 51 36 [l0, l1, l2, l3, l4] (.int x :: .ref a :: S) st P = zif (zis st a 6 = true) (zif (S.length ≤ 4) (AC X d 71 [.ref a, .int x] st (zaft X d 51 36 [l0, l1, l2, l3, l4] S P))) := zq_callV (B := [.int x]) (zd_of zb_X5_redraw dX5_redraw_36) zo_X5_redraw (by decide) zl_5_104 zn_71 rfl rfl rfl
theorem E_X5_redraw_39 : AW X d 51 39 [l0, l1, l2, l3, l4] (.int x :: S) st P = AW X d 51 41 [l0, l1, l2, l3, .int x] S st P := zAW_st (zd_of zb_X5_redraw dX5_redraw_39) rfl rfl
theorem E_X5_redraw_41 : AW X d 51 41 [.ref a, l1, l2, l3, l4] S st P = AW X d 51 42 [.ref a, l1, l2, l3, l4] (.ref a :: S) st P := zAW_st (zd_of zb_X5_redraw dX5_redraw_41) rfl rfl
theorem E_X5_redraw_41n : AW X d 51 41 [.null, l1, l2, l3, l4] S st P = AW X d 51 42 [.null, l1, l2, l3, l4] (.null :: S) st P := zAW_st (zd_of zb_X5_redraw dX5_redraw_41) rfl rfl
theorem E_X5_redraw_42 : AW X d 51 42 [l0, l1, l2, l3, l4] (.ref a :: S) st P = zif (zis st a 6 = true) (zif (S.length ≤ 4) (AC X d 69 [.ref a] st (zaft X d 51 42 [l0, l1, l2, l3, l4] S P))) := zq_callV (B := []) (zd_of zb_X5_redraw dX5_redraw_42) zo_X5_redraw (by decide) zl_5_92 zn_69 rfl rfl rfl
theorem E_X5_redraw_45 : AW X d 51 45 [l0, l1, l2, l3, .int x] S st P = AW X d 51 47 [l0, l1, l2, l3, .int x] (.int x :: S) st P := zAW_st (zd_of zb_X5_redraw dX5_redraw_45) rfl rfl
theorem E_X5_redraw_47 : AW X d 51 47 [l0, l1, l2, l3, l4] ([.int x]) st P = P (.inl (some (.int x))) st := zAW_ret (w := (.inl (some (.int x)), st)) (zd_of zb_X5_redraw dX5_redraw_47) rfl rfl (by simp only [zfin, zr_X5_redraw])
theorem A_X5_redraw : AC X (d + 1) 51 [.ref a, .int x] st P = AW X d 51 0 [.ref a, .int x, .retAddr 0, .retAddr 0, .retAddr 0] [] st P := AC_eq ⟨⟨(show 2 ≤ zml 51 by decide +kernel), by decide +kernel⟩, by simp [zc1_int, zc1_ref, zc1_float]⟩
theorem E_X5_ofDrawing_0 : AW X d 52 0 [.ref a, l1, l2, l3] S st P = AW X d 52 1 [.ref a, l1, l2, l3] (.ref a :: S) st P := zAW_st (zd_of zb_X5_ofDrawing dX5_ofDrawing_0) rfl rfl
theorem E_X5_ofDrawing_0n : AW X d 52 0 [.null, l1, l2, l3] S st P = AW X d 52 1 [.null, l1, l2, l3] (.null :: S) st P := zAW_st (zd_of zb_X5_ofDrawing dX5_ofDrawing_0) rfl rfl
theorem E_X5_ofDrawing_1 : AW X d 52 1 [l0, .int x, l2, l3] S st P = AW X d 52 2 [l0, .int x, l2, l3] (.int x :: S) st P := zAW_st (zd_of zb_X5_ofDrawing dX5_ofDrawing_1) rfl rfl
theorem E_X5_ofDrawing_2 : AW X d 52 2 [l0, l1, l2, l3] (.int x :: .ref a :: S) st P = zif (zis st a 6 = true) (zif (S.length ≤ 4) (AC X d 64 [.ref a, .int x] st (zaft X d 52 2 [l0, l1, l2, l3] S P))) := zq_callV (B := [.int x]) (zd_of zb_X5_ofDrawing dX5_ofDrawing_2) zo_X5_ofDrawing (by decide) zl_5_49 zn_64 rfl rfl rfl
theorem E_X5_ofDrawing_5 : AW X d 52 5 [l0, l1, l2, l3] (.ref a :: S) st P = AW X d 52 6 [l0, l1, l2, .ref a] S st P := zAW_st (zd_of zb_X5_ofDrawing dX5_ofDrawing_5) rfl rfl
theorem E_X5_ofDrawing_5n : AW X d 52 5 [l0, l1, l2, l3] (.null :: S) st P = AW X d 52 6 [l0, l1, l2, .null] S st P := zAW_st (zd_of zb_X5_ofDrawing dX5_ofDrawing_5) rfl rfl
theorem E_X5_ofDrawing_6 : AW X d 52 6 [l0, l1, .int x, l3] S st P = AW X d 52 7 [l0, l1, .int x, l3] (.int x :: S) st P := zAW_st (zd_of zb_X5_ofDrawing dX5_ofDrawing_6) rfl rfl
theorem E_X5_ofDrawing_7_0 : AW X d 52 7 [l0, l1, l2, l3] (.int 0 :: S) st P = AW X d 52 40 [l0, l1, l2, l3] S st P := zq_tabIn (zd_of zb_X5_ofDrawing dX5_ofDrawing_7) (by decide) rfl (by decide)
theorem E_X5_ofDrawing_7_1 : AW X d 52 7 [l0, l1, l2, l3] (.int 1 :: S) st P = AW X d 52 45 [l0, l1, l2, l3] S st P := zq_tabIn (zd_of zb_X5_ofDrawing dX5_ofDrawing_7) (by decide) rfl (by decide)
theorem E_X5_ofDrawing_7_2 : AW X d 52 7 [l0, l1, l2, l3] (.int 2 :: S) st P = AW X d 52 53 [l0, l1, l2, l3] S st P := zq_tabIn (zd_of zb_X5_ofDrawing dX5_ofDrawing_7) (by decide) rfl (by decide)
theorem E_X5_ofDrawing_7_3 : AW X d 52 7 [l0, l1, l2, l3] (.int 3 :: S) st P = AW X d 52 61 [l0, l1, l2, l3] S st P := zq_tabIn (zd_of zb_X5_ofDrawing dX5_ofDrawing_7) (by decide) rfl (by decide)
theorem E_X5_ofDrawing_7_4 : AW X d 52 7 [l0, l1, l2, l3] (.int 4 :: S) st P = AW X d 52 69 [l0, l1, l2, l3] S st P := zq_tabIn (zd_of zb_X5_ofDrawing dX5_ofDrawing_7) (by decide) rfl (by decide)
theorem E_X5_ofDrawing_7_o (h1 : x.toInt < 0 ∨ 4 < x.toInt) : AW X d 52 7 [l0, l1, l2, l3] (.int x :: S) st P = AW X d 52 74 [l0, l1, l2, l3] S st P := zq_tabOut (zd_of zb_X5_ofDrawing dX5_ofDrawing_7) (by decide) h1
theorem E_X5_ofDrawing_40 : AW X d 52 40 [l0, l1, l2, .ref a] S st P = AW X d 52 41 [l0, l1, l2, .ref a] (.ref a :: S) st P := zAW_st (zd_of zb_X5_ofDrawing dX5_ofDrawing_40) rfl rfl
theorem E_X5_ofDrawing_40n : AW X d 52 40 [l0, l1, l2, .null] S st P = AW X d 52 41 [l0, l1, l2, .null] (.null :: S) st P := zAW_st (zd_of zb_X5_ofDrawing dX5_ofDrawing_40) rfl rfl
theorem E_X5_ofDrawing_41 : AW X d 52 41 [l0, l1, l2, l3] (.ref a :: S) st P = zwith (zget st a 1 2) fun v => AW X d 52 44 [l0, l1, l2, l3] (v :: S) st P := zq_getfield (zd_of zb_X5_ofDrawing dX5_ofDrawing_41) zo_X5_ofDrawing zf_5_67
theorem E_X5_ofDrawing_44 : AW X d 52 44 [l0, l1, l2, l3] ([.int x]) st P = P (.inl (some (.int x))) st := zAW_ret (w := (.inl (some (.int x)), st)) (zd_of zb_X5_ofDrawing dX5_ofDrawing_44) rfl rfl (by simp only [zfin, zr_X5_ofDrawing])
theorem E_X5_ofDrawing_45 : AW X d 52 45 [l0, l1, l2, .ref a] S st P = AW X d 52 46 [l0, l1, l2, .ref a] (.ref a :: S) st P := zAW_st (zd_of zb_X5_ofDrawing dX5_ofDrawing_45) rfl rfl
theorem E_X5_ofDrawing_45n : AW X d 52 45 [l0, l1, l2, .null] S st P = AW X d 52 46 [l0, l1, l2, .null] (.null :: S) st P := zAW_st (zd_of zb_X5_ofDrawing dX5_ofDrawing_45) rfl rfl
theorem E_X5_ofDrawing_46 : AW X d 52 46 [l0, l1, l2, l3] (.ref a :: S) st P = zwith (zget st a 1 1) fun v => AW X d 52 49 [l0, l1, l2, l3] (v :: S) st P := zq_getfield (zd_of zb_X5_ofDrawing dX5_ofDrawing_46) zo_X5_ofDrawing zf_5_71
theorem E_X5_ofDrawing_49 : AW X d 52 49 [l0, l1, l2, l3] (.ref a :: S) st P = zwith (zget st a 3 1) fun v => AW X d 52 52 [l0, l1, l2, l3] (v :: S) st P := zq_getfield (zd_of zb_X5_ofDrawing dX5_ofDrawing_49) zo_X5_ofDrawing zf_5_75
theorem E_X5_ofDrawing_52 : AW X d 52 52 [l0, l1, l2, l3] ([.int x]) st P = P (.inl (some (.int x))) st := zAW_ret (w := (.inl (some (.int x)), st)) (zd_of zb_X5_ofDrawing dX5_ofDrawing_52) rfl rfl (by simp only [zfin, zr_X5_ofDrawing])
theorem E_X5_ofDrawing_53 : AW X d 52 53 [l0, l1, l2, .ref a] S st P = AW X d 52 54 [l0, l1, l2, .ref a] (.ref a :: S) st P := zAW_st (zd_of zb_X5_ofDrawing dX5_ofDrawing_53) rfl rfl
theorem E_X5_ofDrawing_53n : AW X d 52 53 [l0, l1, l2, .null] S st P = AW X d 52 54 [l0, l1, l2, .null] (.null :: S) st P := zAW_st (zd_of zb_X5_ofDrawing dX5_ofDrawing_53) rfl rfl
theorem E_X5_ofDrawing_54 : AW X d 52 54 [l0, l1, l2, l3] (.ref a :: S) st P = zwith (zget st a 1 1) fun v => AW X d 52 57 [l0, l1, l2, l3] (v :: S) st P := zq_getfield (zd_of zb_X5_ofDrawing dX5_ofDrawing_54) zo_X5_ofDrawing zf_5_71
theorem E_X5_ofDrawing_57 : AW X d 52 57 [l0, l1, l2, l3] (.ref a :: S) st P = zif (zis st a 3 = true) (zif (S.length ≤ 4) (AC X d 18 [.ref a] st (zaft X d 52 57 [l0, l1, l2, l3] S P))) := zq_callV (B := []) (zd_of zb_X5_ofDrawing dX5_ofDrawing_57) zo_X5_ofDrawing (by decide) zl_5_108 zn_18 rfl rfl rfl
theorem E_X5_ofDrawing_60 : AW X d 52 60 [l0, l1, l2, l3] ([.int x]) st P = P (.inl (some (.int x))) st := zAW_ret (w := (.inl (some (.int x)), st)) (zd_of zb_X5_ofDrawing dX5_ofDrawing_60) rfl rfl (by simp only [zfin, zr_X5_ofDrawing])
theorem E_X5_ofDrawing_61 : AW X d 52 61 [l0, l1, l2, .ref a] S st P = AW X d 52 62 [l0, l1, l2, .ref a] (.ref a :: S) st P := zAW_st (zd_of zb_X5_ofDrawing dX5_ofDrawing_61) rfl rfl
theorem E_X5_ofDrawing_61n : AW X d 52 61 [l0, l1, l2, .null] S st P = AW X d 52 62 [l0, l1, l2, .null] (.null :: S) st P := zAW_st (zd_of zb_X5_ofDrawing dX5_ofDrawing_61) rfl rfl
theorem E_X5_ofDrawing_62 : AW X d 52 62 [l0, l1, l2, l3] (.ref a :: S) st P = zwith (zget st a 1 1) fun v => AW X d 52 65 [l0, l1, l2, l3] (v :: S) st P := zq_getfield (zd_of zb_X5_ofDrawing dX5_ofDrawing_62) zo_X5_ofDrawing zf_5_71
theorem E_X5_ofDrawing_65 : AW X d 52 65 [l0, l1, l2, l3] (.ref a :: S) st P = zif (zis st a 3 = true) (zif (S.length ≤ 4) (AC X d 19 [.ref a] st (zaft X d 52 65 [l0, l1, l2, l3] S P))) := zq_callV (B := []) (zd_of zb_X5_ofDrawing dX5_ofDrawing_65) zo_X5_ofDrawing (by decide) zl_5_111 zn_19 rfl rfl rfl
theorem E_X5_ofDrawing_68 : AW X d 52 68 [l0, l1, l2, l3] ([.int x]) st P = P (.inl (some (.int x))) st := zAW_ret (w := (.inl (some (.int x)), st)) (zd_of zb_X5_ofDrawing dX5_ofDrawing_68) rfl rfl (by simp only [zfin, zr_X5_ofDrawing])
theorem E_X5_ofDrawing_69 : AW X d 52 69 [l0, l1, l2, .ref a] S st P = AW X d 52 70 [l0, l1, l2, .ref a] (.ref a :: S) st P := zAW_st (zd_of zb_X5_ofDrawing dX5_ofDrawing_69) rfl rfl
theorem E_X5_ofDrawing_69n : AW X d 52 69 [l0, l1, l2, .null] S st P = AW X d 52 70 [l0, l1, l2, .null] (.null :: S) st P := zAW_st (zd_of zb_X5_ofDrawing dX5_ofDrawing_69) rfl rfl
theorem E_X5_ofDrawing_70 : AW X d 52 70 [l0, l1, l2, l3] (.ref a :: S) st P = zwith (zget st a 1 3) fun v => AW X d 52 73 [l0, l1, l2, l3] (v :: S) st P := zq_getfield (zd_of zb_X5_ofDrawing dX5_ofDrawing_70) zo_X5_ofDrawing zf_5_114
theorem E_X5_ofDrawing_73 : AW X d 52 73 [l0, l1, l2, l3] ([.int x]) st P = P (.inl (some (.int x))) st := zAW_ret (w := (.inl (some (.int x)), st)) (zd_of zb_X5_ofDrawing dX5_ofDrawing_73) rfl rfl (by simp only [zfin, zr_X5_ofDrawing])
theorem E_X5_ofDrawing_74 : AW X d 52 74 [l0, l1, l2, l3] S st P = zif (5 ≤ d) (zif (S.length ≤ 4) (P (.inr "java/lang/IllegalArgumentException") (st.1 + 7, st.2))) := zq_throw (zd_of zb_X5_ofDrawing dX5_ofDrawing_74) zo_X5_ofDrawing (by decide +kernel) zh_X5_ofDrawing (by decide +kernel)
theorem A_X5_ofDrawing : AC X (d + 1) 52 [.ref a, .int x, .int y] st P = AW X d 52 0 [.ref a, .int x, .int y, .retAddr 0] [] st P := AC_eq ⟨⟨(show 3 ≤ zml 52 by decide +kernel), by decide +kernel⟩, by simp [zc1_int, zc1_ref, zc1_float]⟩
theorem E_X5_length_0 : AW X d 53 0 [.ref a, l1] S st P = AW X d 53 1 [.ref a, l1] (.ref a :: S) st P := zAW_st (zd_of zb_X5_length dX5_length_0) rfl rfl
theorem E_X5_length_0n : AW X d 53 0 [.null, l1] S st P = AW X d 53 1 [.null, l1] (.null :: S) st P := zAW_st (zd_of zb_X5_length dX5_length_0) rfl rfl
theorem E_X5_length_1 : AW X d 53 1 [l0, .int x] S st P = AW X d 53 2 [l0, .int x] (.int x :: S) st P := zAW_st (zd_of zb_X5_length dX5_length_1) rfl rfl
theorem E_X5_length_2 : AW X d 53 2 [l0, l1] (.int x :: .ref a :: S) st P = zif (zis st a 6 = true) (zif (S.length ≤ 4) (AC X d 64 [.ref a, .int x] st (zaft X d 53 2 [l0, l1] S P))) := zq_callV (B := [.int x]) (zd_of zb_X5_length dX5_length_2) zo_X5_length (by decide) zl_5_49 zn_64 rfl rfl rfl
theorem E_X5_length_5 : AW X d 53 5 [l0, l1] (.ref a :: S) st P = zwith (zget st a 1 1) fun v => AW X d 53 8 [l0, l1] (v :: S) st P := zq_getfield (zd_of zb_X5_length dX5_length_5) zo_X5_length zf_5_71
theorem E_X5_length_8 : AW X d 53 8 [l0, l1] (.ref a :: S) st P = zif (zis st a 3 = true) (zif (S.length ≤ 4) (AC X d 20 [.ref a] st (zaft X d 53 8 [l0, l1] S P))) := zq_callV (B := []) (zd_of zb_X5_length dX5_length_8) zo_X5_length (by decide) zl_5_119 zn_20 rfl rfl rfl
theorem E_X5_length_11 : AW X d 53 11 [l0, l1] ([.float u]) st P = P (.inl (some (.float u))) st := zAW_ret (w := (.inl (some (.float u)), st)) (zd_of zb_X5_length dX5_length_11) rfl rfl (by simp only [zfin, zr_X5_length])
theorem A_X5_length : AC X (d + 1) 53 [.ref a, .int x] st P = AW X d 53 0 [.ref a, .int x] [] st P := AC_eq ⟨⟨(show 2 ≤ zml 53 by decide +kernel), by decide +kernel⟩, by simp [zc1_int, zc1_ref, zc1_float]⟩
theorem E_X5_sheet_0 : AW X d 54 0 [l0, .int x, l2, l3] S st P = AW X d 54 1 [l0, .int x, l2, l3] (.int x :: S) st P := zAW_st (zd_of zb_X5_sheet dX5_sheet_0) rfl rfl
theorem E_X5_sheet_1 : AW X d 54 1 [l0, l1, l2, l3] (.int x :: S) st P = zif (S.length ≤ 4) (AC X d 67 [.int x] st (zaft X d 54 1 [l0, l1, l2, l3] S P)) := zq_callS (B := [.int x]) (S2 := S) (zd_of zb_X5_sheet dX5_sheet_1) zo_X5_sheet (by decide) (by decide) (by decide) zl_5_123 zn_67 (by simp only [List.length_cons]; omega) rfl rfl
theorem E_X5_sheet_4 : AW X d 54 4 [l0, l1, l2, l3] (.int x :: S) st P = if x = 0 then AW X d 54 14 [l0, l1, l2, l3] S st P else AW X d 54 7 [l0, l1, l2, l3] S st P := zq_if (c := x = 0) (zd_of zb_X5_sheet dX5_sheet_4) (by decide) rfl
theorem E_X5_sheet_7 : AW X d 54 7 [l0, l1, .int x, l3] S st P = AW X d 54 8 [l0, l1, .int x, l3] (.int x :: S) st P := zAW_st (zd_of zb_X5_sheet dX5_sheet_7) rfl rfl
theorem E_X5_sheet_8 : AW X d 54 8 [l0, l1, l2, l3] (.int x :: S) st P = zif (S.length ≤ 4) (AC X d 67 [.int x] st (zaft X d 54 8 [l0, l1, l2, l3] S P)) := zq_callS (B := [.int x]) (S2 := S) (zd_of zb_X5_sheet dX5_sheet_8) zo_X5_sheet (by decide) (by decide) (by decide) zl_5_123 zn_67 (by simp only [List.length_cons]; omega) rfl rfl
theorem E_X5_sheet_11 : AW X d 54 11 [l0, l1, l2, l3] (.int x :: S) st P = if ¬ x = 0 then AW X d 54 24 [l0, l1, l2, l3] S st P else AW X d 54 14 [l0, l1, l2, l3] S st P := zq_if (c := ¬ x = 0) (zd_of zb_X5_sheet dX5_sheet_11) (by decide) rfl
theorem E_X5_sheet_14 : AW X d 54 14 [l0, l1, l2, l3] S st P = zif (5 ≤ d) (zif (S.length ≤ 4) (P (.inr "java/lang/IllegalArgumentException") (st.1 + 7, st.2))) := zq_throw (zd_of zb_X5_sheet dX5_sheet_14) zo_X5_sheet (by decide +kernel) zh_X5_sheet (by decide +kernel)
theorem E_X5_sheet_24 : AW X d 54 24 [.ref a, l1, l2, l3] S st P = AW X d 54 25 [.ref a, l1, l2, l3] (.ref a :: S) st P := zAW_st (zd_of zb_X5_sheet dX5_sheet_24) rfl rfl
theorem E_X5_sheet_24n : AW X d 54 24 [.null, l1, l2, l3] S st P = AW X d 54 25 [.null, l1, l2, l3] (.null :: S) st P := zAW_st (zd_of zb_X5_sheet dX5_sheet_24) rfl rfl
theorem E_X5_sheet_25 : AW X d 54 25 [l0, l1, l2, l3] (.ref a :: S) st P = zwith (zget st a 6 3) fun v => AW X d 54 28 [l0, l1, l2, l3] (v :: S) st P := zq_getfield (zd_of zb_X5_sheet dX5_sheet_25) zo_X5_sheet zf_5_25
theorem E_X5_sheet_28 : AW X d 54 28 [l0, l1, l2, l3] (.ref a :: S) st P = zwith (zget st a 5 2) fun v => AW X d 54 31 [l0, l1, l2, l3] (v :: S) st P := zq_getfield (zd_of zb_X5_sheet dX5_sheet_28) zo_X5_sheet zf_5_128
theorem E_X5_sheet_31 : AW X d 54 31 [l0, l1, l2, l3] S st P = AW X d 54 33 [l0, l1, l2, l3] (.int 8 :: S) st P := zq_bipush (zd_of zb_X5_sheet dX5_sheet_31) (by decide)
theorem E_X5_sheet_33 : AW X d 54 33 [l0, l1, l2, l3] (.int y :: .int x :: S) st P = if y ≤ x then AW X d 54 49 [l0, l1, l2, l3] S st P else AW X d 54 36 [l0, l1, l2, l3] S st P := zq_icmp (c := y ≤ x) (zd_of zb_X5_sheet dX5_sheet_33) (by decide) rfl
theorem E_X5_sheet_36 : AW X d 54 36 [.ref a, l1, l2, l3] S st P = AW X d 54 37 [.ref a, l1, l2, l3] (.ref a :: S) st P := zAW_st (zd_of zb_X5_sheet dX5_sheet_36) rfl rfl
theorem E_X5_sheet_36n : AW X d 54 36 [.null, l1, l2, l3] S st P = AW X d 54 37 [.null, l1, l2, l3] (.null :: S) st P := zAW_st (zd_of zb_X5_sheet dX5_sheet_36) rfl rfl
theorem E_X5_sheet_37 : AW X d 54 37 [l0, l1, l2, l3] (.ref a :: S) st P = zwith (zget st a 6 3) fun v => AW X d 54 40 [l0, l1, l2, l3] (v :: S) st P := zq_getfield (zd_of zb_X5_sheet dX5_sheet_37) zo_X5_sheet zf_5_25
theorem E_X5_sheet_40 : AW X d 54 40 [l0, l1, l2, l3] (.ref a :: S) st P = zwith (zget st a 5 1) fun v => AW X d 54 43 [l0, l1, l2, l3] (v :: S) st P := zq_getfield (zd_of zb_X5_sheet dX5_sheet_40) zo_X5_sheet zf_5_131
theorem E_X5_sheet_43 : AW X d 54 43 [l0, l1, l2, l3] S st P = AW X d 54 46 [l0, l1, l2, l3] (.int 400 :: S) st P := zq_sipush (zd_of zb_X5_sheet dX5_sheet_43) (by decide)
theorem E_X5_sheet_46 : AW X d 54 46 [l0, l1, l2, l3] (.int y :: .int x :: S) st P = if x < y then AW X d 54 59 [l0, l1, l2, l3] S st P else AW X d 54 49 [l0, l1, l2, l3] S st P := zq_icmp (c := x < y) (zd_of zb_X5_sheet dX5_sheet_46) (by decide) rfl
theorem E_X5_sheet_49 : AW X d 54 49 [l0, l1, l2, l3] S st P = zif (5 ≤ d) (zif (S.length ≤ 4) (P (.inr "java/lang/IllegalStateException") (st.1 + 7, st.2))) := zq_throw (zd_of zb_X5_sheet dX5_sheet_49) zo_X5_sheet (by decide +kernel) zh_X5_sheet (by decide +kernel)
theorem E_X5_sheet_59 : AW X d 54 59 [.ref a, l1, l2, l3] S st P = AW X d 54 60 [.ref a, l1, l2, l3] (.ref a :: S) st P := zAW_st (zd_of zb_X5_sheet dX5_sheet_59) rfl rfl
theorem E_X5_sheet_59n : AW X d 54 59 [.null, l1, l2, l3] S st P = AW X d 54 60 [.null, l1, l2, l3] (.null :: S) st P := zAW_st (zd_of zb_X5_sheet dX5_sheet_59) rfl rfl
theorem E_X5_sheet_60 : AW X d 54 60 [l0, l1, l2, l3] (.ref a :: S) st P = zwith (zget st a 6 3) fun v => AW X d 54 63 [l0, l1, l2, l3] (v :: S) st P := zq_getfield (zd_of zb_X5_sheet dX5_sheet_60) zo_X5_sheet zf_5_25
theorem E_X5_sheet_63 : AW X d 54 63 [l0, .int x, l2, l3] S st P = AW X d 54 64 [l0, .int x, l2, l3] (.int x :: S) st P := zAW_st (zd_of zb_X5_sheet dX5_sheet_63) rfl rfl
theorem E_X5_sheet_64 : AW X d 54 64 [l0, l1, .int x, l3] S st P = AW X d 54 65 [l0, l1, .int x, l3] (.int x :: S) st P := zAW_st (zd_of zb_X5_sheet dX5_sheet_64) rfl rfl
theorem E_X5_sheet_65 : AW X d 54 65 [l0, l1, l2, l3] (.int y :: .int x :: .ref a :: S) st P = zif (zis st a 5 = true) (zif (S.length ≤ 4) (AC X d 39 [.ref a, .int x, .int y] st (zaft X d 54 65 [l0, l1, l2, l3] S P))) := zq_callV (B := [.int x, .int y]) (zd_of zb_X5_sheet dX5_sheet_65) zo_X5_sheet (by decide) zl_5_136 zn_39 rfl rfl rfl
theorem E_X5_sheet_68 : AW X d 54 68 [l0, l1, l2, l3] (.int x :: S) st P = AW X d 54 69 [l0, l1, l2, .int x] S st P := zAW_st (zd_of zb_X5_sheet dX5_sheet_68) rfl rfl
theorem E_X5_sheet_69 : AW X d 54 69 [.ref a, l1, l2, l3] S st P = AW X d 54 70 [.ref a, l1, l2, l3] (.ref a :: S) st P := zAW_st (zd_of zb_X5_sheet dX5_sheet_69) rfl rfl
theorem E_X5_sheet_69n : AW X d 54 69 [.null, l1, l2, l3] S st P = AW X d 54 70 [.null, l1, l2, l3] (.null :: S) st P := zAW_st (zd_of zb_X5_sheet dX5_sheet_69) rfl rfl
theorem E_X5_sheet_70 : AW X d 54 70 [l0, l1, l2, l3] (.ref a :: S) st P = zif (zis st a 6 = true) (zif (S.length ≤ 4) (AC X d 69 [.ref a] st (zaft X d 54 70 [l0, l1, l2, l3] S P))) := zq_callV (B := []) (zd_of zb_X5_sheet dX5_sheet_70) zo_X5_sheet (by decide) zl_5_92 zn_69 rfl rfl rfl
theorem E_X5_sheet_73 : AW X d 54 73 [l0, l1, l2, .int x] S st P = AW X d 54 74 [l0, l1, l2, .int x] (.int x :: S) st P := zAW_st (zd_of zb_X5_sheet dX5_sheet_73) rfl rfl
theorem E_X5_sheet_74 : AW X d 54 74 [l0, l1, l2, l3] ([.int x]) st P = P (.inl (some (.int x))) st := zAW_ret (w := (.inl (some (.int x)), st)) (zd_of zb_X5_sheet dX5_sheet_74) rfl rfl (by simp only [zfin, zr_X5_sheet])
theorem A_X5_sheet : AC X (d + 1) 54 [.ref a, .int x, .int y] st P = AW X d 54 0 [.ref a, .int x, .int y, .retAddr 0] [] st P := AC_eq ⟨⟨(show 3 ≤ zml 54 by decide +kernel), by decide +kernel⟩, by simp [zc1_int, zc1_ref, zc1_float]⟩
theorem E_X5_job_0 : AW X d 55 0 [.ref a, l1, l2, l3, l4, l5] S st P = AW X d 55 1 [.ref a, l1, l2, l3, l4, l5] (.ref a :: S) st P := zAW_st (zd_of zb_X5_job dX5_job_0) rfl rfl
theorem E_X5_job_0n : AW X d 55 0 [.null, l1, l2, l3, l4, l5] S st P = AW X d 55 1 [.null, l1, l2, l3, l4, l5] (.null :: S) st P := zAW_st (zd_of zb_X5_job dX5_job_0) rfl rfl
theorem E_X5_job_1 : AW X d 55 1 [l0, .int x, l2, l3, l4, l5] S st P = AW X d 55 2 [l0, .int x, l2, l3, l4, l5] (.int x :: S) st P := zAW_st (zd_of zb_X5_job dX5_job_1) rfl rfl
theorem E_X5_job_2 : AW X d 55 2 [l0, l1, l2, l3, l4, l5] (.int x :: .ref a :: S) st P = zif (zis st a 6 = true) (zif (S.length ≤ 4) (AC X d 64 [.ref a, .int x] st (zaft X d 55 2 [l0, l1, l2, l3, l4, l5] S P))) := zq_callV (B := [.int x]) (zd_of zb_X5_job dX5_job_2) zo_X5_job (by decide) zl_5_49 zn_64 rfl rfl rfl
theorem E_X5_job_5 : AW X d 55 5 [l0, l1, l2, l3, l4, l5] (.ref a :: S) st P = AW X d 55 6 [l0, l1, l2, .ref a, l4, l5] S st P := zAW_st (zd_of zb_X5_job dX5_job_5) rfl rfl
theorem E_X5_job_5n : AW X d 55 5 [l0, l1, l2, l3, l4, l5] (.null :: S) st P = AW X d 55 6 [l0, l1, l2, .null, l4, l5] S st P := zAW_st (zd_of zb_X5_job dX5_job_5) rfl rfl
theorem E_X5_job_6 : AW X d 55 6 [l0, l1, .int x, l3, l4, l5] S st P = AW X d 55 7 [l0, l1, .int x, l3, l4, l5] (.int x :: S) st P := zAW_st (zd_of zb_X5_job dX5_job_6) rfl rfl
theorem E_X5_job_7 : AW X d 55 7 [l0, l1, l2, l3, l4, l5] S st P = AW X d 55 8 [l0, l1, l2, l3, l4, l5] (.int 1 :: S) st P := zq_iconst (zd_of zb_X5_job dX5_job_7) (by decide)
theorem E_X5_job_8 : AW X d 55 8 [l0, l1, l2, l3, l4, l5] (.int y :: .int x :: S) st P = if x < y then AW X d 55 17 [l0, l1, l2, l3, l4, l5] S st P else AW X d 55 11 [l0, l1, l2, l3, l4, l5] S st P := zq_icmp (c := x < y) (zd_of zb_X5_job dX5_job_8) (by decide) rfl
theorem E_X5_job_11 : AW X d 55 11 [l0, l1, .int x, l3, l4, l5] S st P = AW X d 55 12 [l0, l1, .int x, l3, l4, l5] (.int x :: S) st P := zAW_st (zd_of zb_X5_job dX5_job_11) rfl rfl
theorem E_X5_job_12 : AW X d 55 12 [l0, l1, l2, l3, l4, l5] S st P = AW X d 55 14 [l0, l1, l2, l3, l4, l5] (.int 6 :: S) st P := zq_bipush (zd_of zb_X5_job dX5_job_12) (by decide)
theorem E_X5_job_14 : AW X d 55 14 [l0, l1, l2, l3, l4, l5] (.int y :: .int x :: S) st P = if x ≤ y then AW X d 55 27 [l0, l1, l2, l3, l4, l5] S st P else AW X d 55 17 [l0, l1, l2, l3, l4, l5] S st P := zq_icmp (c := x ≤ y) (zd_of zb_X5_job dX5_job_14) (by decide) rfl
theorem E_X5_job_17 : AW X d 55 17 [l0, l1, l2, l3, l4, l5] S st P = zif (5 ≤ d) (zif (S.length ≤ 4) (P (.inr "java/lang/IllegalArgumentException") (st.1 + 7, st.2))) := zq_throw (zd_of zb_X5_job dX5_job_17) zo_X5_job (by decide +kernel) zh_X5_job (by decide +kernel)
theorem E_X5_job_27 : AW X d 55 27 [l0, l1, l2, .ref a, l4, l5] S st P = AW X d 55 28 [l0, l1, l2, .ref a, l4, l5] (.ref a :: S) st P := zAW_st (zd_of zb_X5_job dX5_job_27) rfl rfl
theorem E_X5_job_27n : AW X d 55 27 [l0, l1, l2, .null, l4, l5] S st P = AW X d 55 28 [l0, l1, l2, .null, l4, l5] (.null :: S) st P := zAW_st (zd_of zb_X5_job dX5_job_27) rfl rfl
theorem E_X5_job_28 : AW X d 55 28 [l0, l1, l2, l3, l4, l5] (.ref a :: S) st P = zwith (zget st a 1 2) fun v => AW X d 55 31 [l0, l1, l2, l3, l4, l5] (v :: S) st P := zq_getfield (zd_of zb_X5_job dX5_job_28) zo_X5_job zf_5_67
theorem E_X5_job_31 : AW X d 55 31 [l0, l1, l2, l3, l4, l5] S st P = AW X d 55 32 [l0, l1, l2, l3, l4, l5] (.int 1 :: S) st P := zq_iconst (zd_of zb_X5_job dX5_job_31) (by decide)
theorem E_X5_job_32 : AW X d 55 32 [l0, l1, l2, l3, l4, l5] (.int y :: .int x :: S) st P = if ¬ x = y then AW X d 55 47 [l0, l1, l2, l3, l4, l5] S st P else AW X d 55 35 [l0, l1, l2, l3, l4, l5] S st P := zq_icmp (c := ¬ x = y) (zd_of zb_X5_job dX5_job_32) (by decide) rfl
theorem E_X5_job_35 : AW X d 55 35 [.ref a, l1, l2, l3, l4, l5] S st P = AW X d 55 36 [.ref a, l1, l2, l3, l4, l5] (.ref a :: S) st P := zAW_st (zd_of zb_X5_job dX5_job_35) rfl rfl
theorem E_X5_job_35n : AW X d 55 35 [.null, l1, l2, l3, l4, l5] S st P = AW X d 55 36 [.null, l1, l2, l3, l4, l5] (.null :: S) st P := zAW_st (zd_of zb_X5_job dX5_job_35) rfl rfl
theorem E_X5_job_36 : AW X d 55 36 [l0, l1, l2, l3, l4, l5] (.ref a :: S) st P = zwith (zget st a 6 1) fun v => AW X d 55 39 [l0, l1, l2, l3, l4, l5] (v :: S) st P := zq_getfield (zd_of zb_X5_job dX5_job_36) zo_X5_job zf_5_16
theorem E_X5_job_39 : AW X d 55 39 [l0, l1, l2, l3, l4, l5] (.ref a :: S) st P = zif (zis st a 0 = true) (zif (S.length ≤ 4) (AC X d 115 [.ref a] st (zaft X d 55 39 [l0, l1, l2, l3, l4, l5] S P))) := zq_callV (B := []) (zd_of zb_X5_job dX5_job_39) zo_X5_job (by decide) zl_5_29 zn_115 rfl rfl rfl
theorem E_X5_job_42 : AW X d 55 42 [l0, l1, l2, l3, l4, l5] S st P = AW X d 55 44 [l0, l1, l2, l3, l4, l5] (.int 30 :: S) st P := zq_bipush (zd_of zb_X5_job dX5_job_42) (by decide)
theorem E_X5_job_44 : AW X d 55 44 [l0, l1, l2, l3, l4, l5] (.int y :: .int x :: S) st P = if x < y then AW X d 55 57 [l0, l1, l2, l3, l4, l5] S st P else AW X d 55 47 [l0, l1, l2, l3, l4, l5] S st P := zq_icmp (c := x < y) (zd_of zb_X5_job dX5_job_44) (by decide) rfl
theorem E_X5_job_47 : AW X d 55 47 [l0, l1, l2, l3, l4, l5] S st P = zif (5 ≤ d) (zif (S.length ≤ 4) (P (.inr "java/lang/IllegalStateException") (st.1 + 7, st.2))) := zq_throw (zd_of zb_X5_job dX5_job_47) zo_X5_job (by decide +kernel) zh_X5_job (by decide +kernel)
theorem E_X5_job_57 : AW X d 55 57 [.ref a, l1, l2, l3, l4, l5] S st P = AW X d 55 58 [.ref a, l1, l2, l3, l4, l5] (.ref a :: S) st P := zAW_st (zd_of zb_X5_job dX5_job_57) rfl rfl
theorem E_X5_job_57n : AW X d 55 57 [.null, l1, l2, l3, l4, l5] S st P = AW X d 55 58 [.null, l1, l2, l3, l4, l5] (.null :: S) st P := zAW_st (zd_of zb_X5_job dX5_job_57) rfl rfl
theorem E_X5_job_58 : AW X d 55 58 [l0, l1, l2, l3, l4, l5] (.ref a :: S) st P = zwith (zget st a 6 1) fun v => AW X d 55 61 [l0, l1, l2, l3, l4, l5] (v :: S) st P := zq_getfield (zd_of zb_X5_job dX5_job_58) zo_X5_job zf_5_16
theorem E_X5_job_61 : AW X d 55 61 [l0, l1, l2, l3, l4, l5] (.ref a :: S) st P = zif (zis st a 0 = true) (zif (S.length ≤ 4) (AC X d 115 [.ref a] st (zaft X d 55 61 [l0, l1, l2, l3, l4, l5] S P))) := zq_callV (B := []) (zd_of zb_X5_job dX5_job_61) zo_X5_job (by decide) zl_5_29 zn_115 rfl rfl rfl
theorem E_X5_job_64 : AW X d 55 64 [l0, l1, l2, l3, l4, l5] (.int x :: S) st P = AW X d 55 66 [l0, l1, l2, l3, .int x, l5] S st P := zAW_st (zd_of zb_X5_job dX5_job_64) rfl rfl
theorem E_X5_job_66 : AW X d 55 66 [l0, l1, l2, l3, l4, l5] S st P = AW X d 55 69 [l0, l1, l2, l3, l4, l5] (.ref st.2.length :: S) (znew st 2) P := zq_new (zd_of zb_X5_job dX5_job_66) zo_X5_job (by decide +kernel)
theorem E_X5_job_69 : AW X d 55 69 [l0, l1, l2, l3, l4, l5] (.ref a :: S) st P = AW X d 55 70 [l0, l1, l2, l3, l4, l5] (.ref a :: .ref a :: S) st P := zq_dup (zd_of zb_X5_job dX5_job_69) rfl
theorem E_X5_job_69n : AW X d 55 69 [l0, l1, l2, l3, l4, l5] (.null :: S) st P = AW X d 55 70 [l0, l1, l2, l3, l4, l5] (.null :: .null :: S) st P := zq_dup (zd_of zb_X5_job dX5_job_69) rfl
theorem E_X5_job_69i : AW X d 55 69 [l0, l1, l2, l3, l4, l5] (.int x :: S) st P = AW X d 55 70 [l0, l1, l2, l3, l4, l5] (.int x :: .int x :: S) st P := zq_dup (zd_of zb_X5_job dX5_job_69) rfl
theorem E_X5_job_69f : AW X d 55 69 [l0, l1, l2, l3, l4, l5] (.float u :: S) st P = AW X d 55 70 [l0, l1, l2, l3, l4, l5] (.float u :: .float u :: S) st P := zq_dup (zd_of zb_X5_job dX5_job_69) rfl
theorem E_X5_job_70 : AW X d 55 70 [l0, l1, l2, .ref a, l4, l5] S st P = AW X d 55 71 [l0, l1, l2, .ref a, l4, l5] (.ref a :: S) st P := zAW_st (zd_of zb_X5_job dX5_job_70) rfl rfl
theorem E_X5_job_70n : AW X d 55 70 [l0, l1, l2, .null, l4, l5] S st P = AW X d 55 71 [l0, l1, l2, .null, l4, l5] (.null :: S) st P := zAW_st (zd_of zb_X5_job dX5_job_70) rfl rfl
theorem E_X5_job_71 : AW X d 55 71 [l0, l1, .int x, l3, l4, l5] S st P = AW X d 55 72 [l0, l1, .int x, l3, l4, l5] (.int x :: S) st P := zAW_st (zd_of zb_X5_job dX5_job_71) rfl rfl
theorem E_X5_job_72 : AW X d 55 72 [l0, l1, l2, l3, l4, l5] (.int x :: v1 :: .ref a :: S) st P = zif (S.length ≤ 4) (AC X d 2 [.ref a, v1, .int x] st (zaft X d 55 72 [l0, l1, l2, l3, l4, l5] S P)) := zq_callI (B := [v1, .int x]) (zd_of zb_X5_job dX5_job_72) zo_X5_job zl_5_146 (by decide) (by decide) zn_2 rfl rfl
theorem E_X5_job_75 : AW X d 55 75 [l0, l1, l2, l3, l4, l5] (.ref a :: S) st P = AW X d 55 77 [l0, l1, l2, l3, l4, .ref a] S st P := zAW_st (zd_of zb_X5_job dX5_job_75) rfl rfl
theorem E_X5_job_75n : AW X d 55 75 [l0, l1, l2, l3, l4, l5] (.null :: S) st P = AW X d 55 77 [l0, l1, l2, l3, l4, .null] S st P := zAW_st (zd_of zb_X5_job dX5_job_75) rfl rfl
theorem E_X5_job_77 : AW X d 55 77 [.ref a, l1, l2, l3, l4, l5] S st P = AW X d 55 78 [.ref a, l1, l2, l3, l4, l5] (.ref a :: S) st P := zAW_st (zd_of zb_X5_job dX5_job_77) rfl rfl
theorem E_X5_job_77n : AW X d 55 77 [.null, l1, l2, l3, l4, l5] S st P = AW X d 55 78 [.null, l1, l2, l3, l4, l5] (.null :: S) st P := zAW_st (zd_of zb_X5_job dX5_job_77) rfl rfl
theorem E_X5_job_78 : AW X d 55 78 [l0, l1, l2, l3, l4, l5] (.ref a :: S) st P = zwith (zget st a 6 1) fun v => AW X d 55 81 [l0, l1, l2, l3, l4, l5] (v :: S) st P := zq_getfield (zd_of zb_X5_job dX5_job_78) zo_X5_job zf_5_16
theorem E_X5_job_81 : AW X d 55 81 [l0, l1, l2, l3, l4, .ref a] S st P = AW X d 55 83 [l0, l1, l2, l3, l4, .ref a] (.ref a :: S) st P := zAW_st (zd_of zb_X5_job dX5_job_81) rfl rfl
theorem E_X5_job_81n : AW X d 55 81 [l0, l1, l2, l3, l4, .null] S st P = AW X d 55 83 [l0, l1, l2, l3, l4, .null] (.null :: S) st P := zAW_st (zd_of zb_X5_job dX5_job_81) rfl rfl
theorem E_X5_job_83 : AW X d 55 83 [l0, l1, l2, l3, l4, l5] (v1 :: .ref a :: S) st P = zif (zis st a 0 = true) (zif (S.length ≤ 4) (AC X d 119 [.ref a, v1] st (zaft X d 55 83 [l0, l1, l2, l3, l4, l5] S P))) := zq_callV (B := [v1]) (zd_of zb_X5_job dX5_job_83) zo_X5_job (by decide) zl_5_45 zn_119 rfl rfl rfl
theorem E_X5_job_86 : AW X d 55 86 [l0, l1, l2, l3, l4, l5] (.ref a :: S) st P = AW X d 55 87 [l0, l1, l2, l3, l4, l5] S st P := zq_pop (zd_of zb_X5_job dX5_job_86) rfl
theorem E_X5_job_86n : AW X d 55 86 [l0, l1, l2, l3, l4, l5] (.null :: S) st P = AW X d 55 87 [l0, l1, l2, l3, l4, l5] S st P := zq_pop (zd_of zb_X5_job dX5_job_86) rfl
theorem E_X5_job_86i : AW X d 55 86 [l0, l1, l2, l3, l4, l5] (.int x :: S) st P = AW X d 55 87 [l0, l1, l2, l3, l4, l5] S st P := zq_pop (zd_of zb_X5_job dX5_job_86) rfl
theorem E_X5_job_86f : AW X d 55 86 [l0, l1, l2, l3, l4, l5] (.float u :: S) st P = AW X d 55 87 [l0, l1, l2, l3, l4, l5] S st P := zq_pop (zd_of zb_X5_job dX5_job_86) rfl
theorem E_X5_job_87 : AW X d 55 87 [l0, l1, l2, l3, l4, .ref a] S st P = AW X d 55 89 [l0, l1, l2, l3, l4, .ref a] (.ref a :: S) st P := zAW_st (zd_of zb_X5_job dX5_job_87) rfl rfl
theorem E_X5_job_87n : AW X d 55 87 [l0, l1, l2, l3, l4, .null] S st P = AW X d 55 89 [l0, l1, l2, l3, l4, .null] (.null :: S) st P := zAW_st (zd_of zb_X5_job dX5_job_87) rfl rfl
theorem E_X5_job_89 : AW X d 55 89 [.ref a, l1, l2, l3, l4, l5] S st P = AW X d 55 90 [.ref a, l1, l2, l3, l4, l5] (.ref a :: S) st P := zAW_st (zd_of zb_X5_job dX5_job_89) rfl rfl
theorem E_X5_job_89n : AW X d 55 89 [.null, l1, l2, l3, l4, l5] S st P = AW X d 55 90 [.null, l1, l2, l3, l4, l5] (.null :: S) st P := zAW_st (zd_of zb_X5_job dX5_job_89) rfl rfl
theorem E_X5_job_90 : AW X d 55 90 [l0, l1, l2, l3, l4, l5] (.ref a :: S) st P = zwith (zget st a 6 3) fun v => AW X d 55 93 [l0, l1, l2, l3, l4, l5] (v :: S) st P := zq_getfield (zd_of zb_X5_job dX5_job_90) zo_X5_job zf_5_25
theorem E_X5_job_93 : AW X d 55 93 [l0, l1, l2, l3, l4, l5] (v1 :: .ref a :: S) st P = zif (zis st a 2 = true) (zif (S.length ≤ 4) (AC X d 3 [.ref a, v1] st (zaft X d 55 93 [l0, l1, l2, l3, l4, l5] S P))) := zq_callV (B := [v1]) (zd_of zb_X5_job dX5_job_93) zo_X5_job (by decide) zl_5_149 zn_3 rfl rfl rfl
theorem E_X5_job_96 : AW X d 55 96 [l0, l1, l2, l3, .int x, l5] S st P = AW X d 55 98 [l0, l1, l2, l3, .int x, l5] (.int x :: S) st P := zAW_st (zd_of zb_X5_job dX5_job_96) rfl rfl
theorem E_X5_job_98 : AW X d 55 98 [l0, l1, l2, l3, l4, l5] ([.int x]) st P = P (.inl (some (.int x))) st := zAW_ret (w := (.inl (some (.int x)), st)) (zd_of zb_X5_job dX5_job_98) rfl rfl (by simp only [zfin, zr_X5_job])
theorem A_X5_job : AC X (d + 1) 55 [.ref a, .int x, .int y] st P = AW X d 55 0 [.ref a, .int x, .int y, .retAddr 0, .retAddr 0, .retAddr 0] [] st P := AC_eq ⟨⟨(show 3 ≤ zml 55 by decide +kernel), by decide +kernel⟩, by simp [zc1_int, zc1_ref, zc1_float]⟩
theorem E_X5_cancel_0 : AW X d 56 0 [.ref a, l1, l2, l3] S st P = AW X d 56 1 [.ref a, l1, l2, l3] (.ref a :: S) st P := zAW_st (zd_of zb_X5_cancel dX5_cancel_0) rfl rfl
theorem E_X5_cancel_0n : AW X d 56 0 [.null, l1, l2, l3] S st P = AW X d 56 1 [.null, l1, l2, l3] (.null :: S) st P := zAW_st (zd_of zb_X5_cancel dX5_cancel_0) rfl rfl
theorem E_X5_cancel_1 : AW X d 56 1 [l0, .int x, l2, l3] S st P = AW X d 56 2 [l0, .int x, l2, l3] (.int x :: S) st P := zAW_st (zd_of zb_X5_cancel dX5_cancel_1) rfl rfl
theorem E_X5_cancel_2 : AW X d 56 2 [l0, l1, l2, l3] (.int x :: .ref a :: S) st P = zif (zis st a 6 = true) (zif (S.length ≤ 4) (AC X d 65 [.ref a, .int x] st (zaft X d 56 2 [l0, l1, l2, l3] S P))) := zq_callV (B := [.int x]) (zd_of zb_X5_cancel dX5_cancel_2) zo_X5_cancel (by decide) zl_5_153 zn_65 rfl rfl rfl
theorem E_X5_cancel_5 : AW X d 56 5 [l0, l1, l2, l3] (.ref a :: S) st P = AW X d 56 6 [l0, l1, .ref a, l3] S st P := zAW_st (zd_of zb_X5_cancel dX5_cancel_5) rfl rfl
theorem E_X5_cancel_5n : AW X d 56 5 [l0, l1, l2, l3] (.null :: S) st P = AW X d 56 6 [l0, l1, .null, l3] S st P := zAW_st (zd_of zb_X5_cancel dX5_cancel_5) rfl rfl
theorem E_X5_cancel_6 : AW X d 56 6 [l0, l1, .ref a, l3] S st P = AW X d 56 7 [l0, l1, .ref a, l3] (.ref a :: S) st P := zAW_st (zd_of zb_X5_cancel dX5_cancel_6) rfl rfl
theorem E_X5_cancel_6n : AW X d 56 6 [l0, l1, .null, l3] S st P = AW X d 56 7 [l0, l1, .null, l3] (.null :: S) st P := zAW_st (zd_of zb_X5_cancel dX5_cancel_6) rfl rfl
theorem E_X5_cancel_7 : AW X d 56 7 [l0, l1, l2, l3] (.ref a :: S) st P = zwith (zget st a 2 2) fun v => AW X d 56 10 [l0, l1, l2, l3] (v :: S) st P := zq_getfield (zd_of zb_X5_cancel dX5_cancel_7) zo_X5_cancel zf_5_157
theorem E_X5_cancel_10 : AW X d 56 10 [l0, l1, l2, l3] (.int x :: S) st P = AW X d 56 11 [l0, l1, l2, .int x] S st P := zAW_st (zd_of zb_X5_cancel dX5_cancel_10) rfl rfl
theorem E_X5_cancel_11 : AW X d 56 11 [l0, l1, l2, .int x] S st P = AW X d 56 12 [l0, l1, l2, .int x] (.int x :: S) st P := zAW_st (zd_of zb_X5_cancel dX5_cancel_11) rfl rfl
theorem E_X5_cancel_12 : AW X d 56 12 [l0, l1, l2, l3] S st P = AW X d 56 13 [l0, l1, l2, l3] (.int 2 :: S) st P := zq_iconst (zd_of zb_X5_cancel dX5_cancel_12) (by decide)
theorem E_X5_cancel_13 : AW X d 56 13 [l0, l1, l2, l3] (.int y :: .int x :: S) st P = if x = y then AW X d 56 21 [l0, l1, l2, l3] S st P else AW X d 56 16 [l0, l1, l2, l3] S st P := zq_icmp (c := x = y) (zd_of zb_X5_cancel dX5_cancel_13) (by decide) rfl
theorem E_X5_cancel_16 : AW X d 56 16 [l0, l1, l2, .int x] S st P = AW X d 56 17 [l0, l1, l2, .int x] (.int x :: S) st P := zAW_st (zd_of zb_X5_cancel dX5_cancel_16) rfl rfl
theorem E_X5_cancel_17 : AW X d 56 17 [l0, l1, l2, l3] S st P = AW X d 56 18 [l0, l1, l2, l3] (.int 3 :: S) st P := zq_iconst (zd_of zb_X5_cancel dX5_cancel_17) (by decide)
theorem E_X5_cancel_18 : AW X d 56 18 [l0, l1, l2, l3] (.int y :: .int x :: S) st P = if ¬ x = y then AW X d 56 31 [l0, l1, l2, l3] S st P else AW X d 56 21 [l0, l1, l2, l3] S st P := zq_icmp (c := ¬ x = y) (zd_of zb_X5_cancel dX5_cancel_18) (by decide) rfl
theorem E_X5_cancel_21 : AW X d 56 21 [l0, l1, l2, l3] S st P = zif (5 ≤ d) (zif (S.length ≤ 4) (P (.inr "java/lang/IllegalStateException") (st.1 + 7, st.2))) := zq_throw (zd_of zb_X5_cancel dX5_cancel_21) zo_X5_cancel (by decide +kernel) zh_X5_cancel (by decide +kernel)
theorem E_X5_cancel_31 : AW X d 56 31 [l0, l1, .ref a, l3] S st P = AW X d 56 32 [l0, l1, .ref a, l3] (.ref a :: S) st P := zAW_st (zd_of zb_X5_cancel dX5_cancel_31) rfl rfl
theorem E_X5_cancel_31n : AW X d 56 31 [l0, l1, .null, l3] S st P = AW X d 56 32 [l0, l1, .null, l3] (.null :: S) st P := zAW_st (zd_of zb_X5_cancel dX5_cancel_31) rfl rfl
theorem E_X5_cancel_32 : AW X d 56 32 [l0, l1, l2, l3] (.ref a :: S) st P = zif (zis st a 2 = true) (zif (S.length ≤ 4) (AC X d 4 [.ref a] st (zaft X d 56 32 [l0, l1, l2, l3] S P))) := zq_callV (B := []) (zd_of zb_X5_cancel dX5_cancel_32) zo_X5_cancel (by decide) zl_5_160 zn_4 rfl rfl rfl
theorem E_X5_cancel_35 : AW X d 56 35 [l0, l1, .ref a, l3] S st P = AW X d 56 36 [l0, l1, .ref a, l3] (.ref a :: S) st P := zAW_st (zd_of zb_X5_cancel dX5_cancel_35) rfl rfl
theorem E_X5_cancel_35n : AW X d 56 35 [l0, l1, .null, l3] S st P = AW X d 56 36 [l0, l1, .null, l3] (.null :: S) st P := zAW_st (zd_of zb_X5_cancel dX5_cancel_35) rfl rfl
theorem E_X5_cancel_36 : AW X d 56 36 [l0, l1, l2, l3] S st P = AW X d 56 37 [l0, l1, l2, l3] (.int 3 :: S) st P := zq_iconst (zd_of zb_X5_cancel dX5_cancel_36) (by decide)
theorem E_X5_cancel_37 : AW X d 56 37 [l0, l1, l2, l3] (.int x :: .ref a :: S) st P = zwith (zget st a 2 2) fun _ => AW X d 56 40 [l0, l1, l2, l3] S (zput st a 2 (.int x)) P := zq_putfield (zd_of zb_X5_cancel dX5_cancel_37) zo_X5_cancel zf_5_157 rfl (Or.inl (by decide +kernel))
theorem E_X5_cancel_40 : AW X d 56 40 [.ref a, l1, l2, l3] S st P = AW X d 56 41 [.ref a, l1, l2, l3] (.ref a :: S) st P := zAW_st (zd_of zb_X5_cancel dX5_cancel_40) rfl rfl
theorem E_X5_cancel_40n : AW X d 56 40 [.null, l1, l2, l3] S st P = AW X d 56 41 [.null, l1, l2, l3] (.null :: S) st P := zAW_st (zd_of zb_X5_cancel dX5_cancel_40) rfl rfl
theorem E_X5_cancel_41 : AW X d 56 41 [l0, l1, l2, l3] (.ref a :: S) st P = zif (zis st a 6 = true) (zif (S.length ≤ 4) (AC X d 69 [.ref a] st (zaft X d 56 41 [l0, l1, l2, l3] S P))) := zq_callV (B := []) (zd_of zb_X5_cancel dX5_cancel_41) zo_X5_cancel (by decide) zl_5_92 zn_69 rfl rfl rfl
theorem E_X5_cancel_44 : AW X d 56 44 [l0, l1, l2, .int x] S st P = AW X d 56 45 [l0, l1, l2, .int x] (.int x :: S) st P := zAW_st (zd_of zb_X5_cancel dX5_cancel_44) rfl rfl
theorem E_X5_cancel_45 : AW X d 56 45 [l0, l1, l2, l3] ([.int x]) st P = P (.inl (some (.int x))) st := zAW_ret (w := (.inl (some (.int x)), st)) (zd_of zb_X5_cancel dX5_cancel_45) rfl rfl (by simp only [zfin, zr_X5_cancel])
theorem A_X5_cancel : AC X (d + 1) 56 [.ref a, .int x] st P = AW X d 56 0 [.ref a, .int x, .retAddr 0, .retAddr 0] [] st P := AC_eq ⟨⟨(show 2 ≤ zml 56 by decide +kernel), by decide +kernel⟩, by simp [zc1_int, zc1_ref, zc1_float]⟩
theorem E_X5_cut_0 : AW X d 57 0 [.ref a, l1, l2, l3, l4] S st P = AW X d 57 1 [.ref a, l1, l2, l3, l4] (.ref a :: S) st P := zAW_st (zd_of zb_X5_cut dX5_cut_0) rfl rfl
theorem E_X5_cut_0n : AW X d 57 0 [.null, l1, l2, l3, l4] S st P = AW X d 57 1 [.null, l1, l2, l3, l4] (.null :: S) st P := zAW_st (zd_of zb_X5_cut dX5_cut_0) rfl rfl
theorem E_X5_cut_1 : AW X d 57 1 [l0, .int x, l2, l3, l4] S st P = AW X d 57 2 [l0, .int x, l2, l3, l4] (.int x :: S) st P := zAW_st (zd_of zb_X5_cut dX5_cut_1) rfl rfl
theorem E_X5_cut_2 : AW X d 57 2 [l0, l1, l2, l3, l4] (.int x :: .ref a :: S) st P = zif (zis st a 6 = true) (zif (S.length ≤ 4) (AC X d 65 [.ref a, .int x] st (zaft X d 57 2 [l0, l1, l2, l3, l4] S P))) := zq_callV (B := [.int x]) (zd_of zb_X5_cut dX5_cut_2) zo_X5_cut (by decide) zl_5_153 zn_65 rfl rfl rfl
theorem E_X5_cut_5 : AW X d 57 5 [l0, l1, l2, l3, l4] (.ref a :: S) st P = AW X d 57 6 [l0, l1, .ref a, l3, l4] S st P := zAW_st (zd_of zb_X5_cut dX5_cut_5) rfl rfl
theorem E_X5_cut_5n : AW X d 57 5 [l0, l1, l2, l3, l4] (.null :: S) st P = AW X d 57 6 [l0, l1, .null, l3, l4] S st P := zAW_st (zd_of zb_X5_cut dX5_cut_5) rfl rfl
theorem E_X5_cut_6 : AW X d 57 6 [l0, l1, .ref a, l3, l4] S st P = AW X d 57 7 [l0, l1, .ref a, l3, l4] (.ref a :: S) st P := zAW_st (zd_of zb_X5_cut dX5_cut_6) rfl rfl
theorem E_X5_cut_6n : AW X d 57 6 [l0, l1, .null, l3, l4] S st P = AW X d 57 7 [l0, l1, .null, l3, l4] (.null :: S) st P := zAW_st (zd_of zb_X5_cut dX5_cut_6) rfl rfl
theorem E_X5_cut_7 : AW X d 57 7 [l0, l1, l2, l3, l4] (.ref a :: S) st P = zwith (zget st a 2 2) fun v => AW X d 57 10 [l0, l1, l2, l3, l4] (v :: S) st P := zq_getfield (zd_of zb_X5_cut dX5_cut_7) zo_X5_cut zf_5_157
theorem E_X5_cut_10 : AW X d 57 10 [l0, l1, l2, l3, l4] S st P = AW X d 57 11 [l0, l1, l2, l3, l4] (.int 1 :: S) st P := zq_iconst (zd_of zb_X5_cut dX5_cut_10) (by decide)
theorem E_X5_cut_11 : AW X d 57 11 [l0, l1, l2, l3, l4] (.int y :: .int x :: S) st P = if x = y then AW X d 57 24 [l0, l1, l2, l3, l4] S st P else AW X d 57 14 [l0, l1, l2, l3, l4] S st P := zq_icmp (c := x = y) (zd_of zb_X5_cut dX5_cut_11) (by decide) rfl
theorem E_X5_cut_14 : AW X d 57 14 [l0, l1, l2, l3, l4] S st P = zif (5 ≤ d) (zif (S.length ≤ 4) (P (.inr "java/lang/IllegalStateException") (st.1 + 7, st.2))) := zq_throw (zd_of zb_X5_cut dX5_cut_14) zo_X5_cut (by decide +kernel) zh_X5_cut (by decide +kernel)
theorem E_X5_cut_24 : AW X d 57 24 [l0, l1, .ref a, l3, l4] S st P = AW X d 57 25 [l0, l1, .ref a, l3, l4] (.ref a :: S) st P := zAW_st (zd_of zb_X5_cut dX5_cut_24) rfl rfl
theorem E_X5_cut_24n : AW X d 57 24 [l0, l1, .null, l3, l4] S st P = AW X d 57 25 [l0, l1, .null, l3, l4] (.null :: S) st P := zAW_st (zd_of zb_X5_cut dX5_cut_24) rfl rfl
theorem E_X5_cut_25 : AW X d 57 25 [l0, l1, l2, l3, l4] (.ref a :: S) st P = zwith (zget st a 2 0) fun v => AW X d 57 28 [l0, l1, l2, l3, l4] (v :: S) st P := zq_getfield (zd_of zb_X5_cut dX5_cut_25) zo_X5_cut zf_5_165
theorem E_X5_cut_28 : AW X d 57 28 [l0, l1, l2, l3, l4] (.ref a :: S) st P = zwith (zget st a 1 1) fun v => AW X d 57 31 [l0, l1, l2, l3, l4] (v :: S) st P := zq_getfield (zd_of zb_X5_cut dX5_cut_28) zo_X5_cut zf_5_71
theorem E_X5_cut_31 : AW X d 57 31 [l0, l1, l2, l3, l4] (.ref a :: S) st P = zif (zis st a 3 = true) (zif (S.length ≤ 4) (AC X d 20 [.ref a] st (zaft X d 57 31 [l0, l1, l2, l3, l4] S P))) := zq_callV (B := []) (zd_of zb_X5_cut dX5_cut_31) zo_X5_cut (by decide) zl_5_119 zn_20 rfl rfl rfl
theorem E_X5_cut_34 : AW X d 57 34 [l0, l1, l2, l3, l4] (.float u :: S) st P = AW X d 57 35 [l0, l1, l2, .float u, l4] S st P := zAW_st (zd_of zb_X5_cut dX5_cut_34) rfl rfl
theorem E_X5_cut_35 : AW X d 57 35 [l0, l1, .ref a, l3, l4] S st P = AW X d 57 36 [l0, l1, .ref a, l3, l4] (.ref a :: S) st P := zAW_st (zd_of zb_X5_cut dX5_cut_35) rfl rfl
theorem E_X5_cut_35n : AW X d 57 35 [l0, l1, .null, l3, l4] S st P = AW X d 57 36 [l0, l1, .null, l3, l4] (.null :: S) st P := zAW_st (zd_of zb_X5_cut dX5_cut_35) rfl rfl
theorem E_X5_cut_36 : AW X d 57 36 [l0, l1, l2, .float u, l4] S st P = AW X d 57 37 [l0, l1, l2, .float u, l4] (.float u :: S) st P := zAW_st (zd_of zb_X5_cut dX5_cut_36) rfl rfl
theorem E_X5_cut_37 : AW X d 57 37 [l0, l1, l2, l3, l4] (.float u :: .ref a :: S) st P = zif (zis st a 2 = true) (zif (S.length ≤ 4) (AC X d 7 [.ref a, .float u] st (zaft X d 57 37 [l0, l1, l2, l3, l4] S P))) := zq_callV (B := [.float u]) (zd_of zb_X5_cut dX5_cut_37) zo_X5_cut (by decide) zl_5_169 zn_7 rfl rfl rfl
theorem E_X5_cut_40 : AW X d 57 40 [l0, l1, l2, l3, l4] (.int x :: S) st P = AW X d 57 42 [l0, l1, l2, l3, .int x] S st P := zAW_st (zd_of zb_X5_cut dX5_cut_40) rfl rfl
theorem E_X5_cut_42 : AW X d 57 42 [l0, l1, .ref a, l3, l4] S st P = AW X d 57 43 [l0, l1, .ref a, l3, l4] (.ref a :: S) st P := zAW_st (zd_of zb_X5_cut dX5_cut_42) rfl rfl
theorem E_X5_cut_42n : AW X d 57 42 [l0, l1, .null, l3, l4] S st P = AW X d 57 43 [l0, l1, .null, l3, l4] (.null :: S) st P := zAW_st (zd_of zb_X5_cut dX5_cut_42) rfl rfl
theorem E_X5_cut_43 : AW X d 57 43 [l0, l1, l2, l3, l4] (.ref a :: S) st P = zif (zis st a 2 = true) (zif (S.length ≤ 4) (AC X d 6 [.ref a] st (zaft X d 57 43 [l0, l1, l2, l3, l4] S P))) := zq_callV (B := []) (zd_of zb_X5_cut dX5_cut_43) zo_X5_cut (by decide) zl_5_173 zn_6 rfl rfl rfl
theorem E_X5_cut_46 : AW X d 57 46 [l0, l1, .ref a, l3, l4] S st P = AW X d 57 47 [l0, l1, .ref a, l3, l4] (.ref a :: S) st P := zAW_st (zd_of zb_X5_cut dX5_cut_46) rfl rfl
theorem E_X5_cut_46n : AW X d 57 46 [l0, l1, .null, l3, l4] S st P = AW X d 57 47 [l0, l1, .null, l3, l4] (.null :: S) st P := zAW_st (zd_of zb_X5_cut dX5_cut_46) rfl rfl
theorem E_X5_cut_47 : AW X d 57 47 [l0, l1, l2, l3, l4] S st P = AW X d 57 48 [l0, l1, l2, l3, l4] (.int 2 :: S) st P := zq_iconst (zd_of zb_X5_cut dX5_cut_47) (by decide)
theorem E_X5_cut_48 : AW X d 57 48 [l0, l1, l2, l3, l4] (.int x :: .ref a :: S) st P = zwith (zget st a 2 2) fun _ => AW X d 57 51 [l0, l1, l2, l3, l4] S (zput st a 2 (.int x)) P := zq_putfield (zd_of zb_X5_cut dX5_cut_48) zo_X5_cut zf_5_157 rfl (Or.inl (by decide +kernel))
theorem E_X5_cut_51 : AW X d 57 51 [.ref a, l1, l2, l3, l4] S st P = AW X d 57 52 [.ref a, l1, l2, l3, l4] (.ref a :: S) st P := zAW_st (zd_of zb_X5_cut dX5_cut_51) rfl rfl
theorem E_X5_cut_51n : AW X d 57 51 [.null, l1, l2, l3, l4] S st P = AW X d 57 52 [.null, l1, l2, l3, l4] (.null :: S) st P := zAW_st (zd_of zb_X5_cut dX5_cut_51) rfl rfl
theorem E_X5_cut_52 : AW X d 57 52 [l0, l1, l2, l3, l4] (.ref a :: S) st P = zwith (zget st a 6 2) fun v => AW X d 57 55 [l0, l1, l2, l3, l4] (v :: S) st P := zq_getfield (zd_of zb_X5_cut dX5_cut_52) zo_X5_cut zf_5_19
theorem E_X5_cut_55 : AW X d 57 55 [l0, l1, .ref a, l3, l4] S st P = AW X d 57 56 [l0, l1, .ref a, l3, l4] (.ref a :: S) st P := zAW_st (zd_of zb_X5_cut dX5_cut_55) rfl rfl
theorem E_X5_cut_55n : AW X d 57 55 [l0, l1, .null, l3, l4] S st P = AW X d 57 56 [l0, l1, .null, l3, l4] (.null :: S) st P := zAW_st (zd_of zb_X5_cut dX5_cut_55) rfl rfl
theorem E_X5_cut_56 : AW X d 57 56 [l0, l1, l2, l3, l4] (v1 :: .ref a :: S) st P = zif (zis st a 0 = true) (zif (S.length ≤ 4) (AC X d 119 [.ref a, v1] st (zaft X d 57 56 [l0, l1, l2, l3, l4] S P))) := zq_callV (B := [v1]) (zd_of zb_X5_cut dX5_cut_56) zo_X5_cut (by decide) zl_5_45 zn_119 rfl rfl rfl
theorem E_X5_cut_59 : AW X d 57 59 [l0, l1, l2, l3, l4] (.ref a :: S) st P = AW X d 57 60 [l0, l1, l2, l3, l4] S st P := zq_pop (zd_of zb_X5_cut dX5_cut_59) rfl
theorem E_X5_cut_59n : AW X d 57 59 [l0, l1, l2, l3, l4] (.null :: S) st P = AW X d 57 60 [l0, l1, l2, l3, l4] S st P := zq_pop (zd_of zb_X5_cut dX5_cut_59) rfl
theorem E_X5_cut_59i : AW X d 57 59 [l0, l1, l2, l3, l4] (.int x :: S) st P = AW X d 57 60 [l0, l1, l2, l3, l4] S st P := zq_pop (zd_of zb_X5_cut dX5_cut_59) rfl
theorem E_X5_cut_59f : AW X d 57 59 [l0, l1, l2, l3, l4] (.float u :: S) st P = AW X d 57 60 [l0, l1, l2, l3, l4] S st P := zq_pop (zd_of zb_X5_cut dX5_cut_59) rfl
theorem E_X5_cut_60 : AW X d 57 60 [.ref a, l1, l2, l3, l4] S st P = AW X d 57 61 [.ref a, l1, l2, l3, l4] (.ref a :: S) st P := zAW_st (zd_of zb_X5_cut dX5_cut_60) rfl rfl
theorem E_X5_cut_60n : AW X d 57 60 [.null, l1, l2, l3, l4] S st P = AW X d 57 61 [.null, l1, l2, l3, l4] (.null :: S) st P := zAW_st (zd_of zb_X5_cut dX5_cut_60) rfl rfl
theorem E_X5_cut_61 : AW X d 57 61 [l0, l1, l2, l3, l4] (.ref a :: S) st P = AW X d 57 62 [l0, l1, l2, l3, l4] (.ref a :: .ref a :: S) st P := zq_dup (zd_of zb_X5_cut dX5_cut_61) rfl
theorem E_X5_cut_61n : AW X d 57 61 [l0, l1, l2, l3, l4] (.null :: S) st P = AW X d 57 62 [l0, l1, l2, l3, l4] (.null :: .null :: S) st P := zq_dup (zd_of zb_X5_cut dX5_cut_61) rfl
theorem E_X5_cut_61i : AW X d 57 61 [l0, l1, l2, l3, l4] (.int x :: S) st P = AW X d 57 62 [l0, l1, l2, l3, l4] (.int x :: .int x :: S) st P := zq_dup (zd_of zb_X5_cut dX5_cut_61) rfl
theorem E_X5_cut_61f : AW X d 57 61 [l0, l1, l2, l3, l4] (.float u :: S) st P = AW X d 57 62 [l0, l1, l2, l3, l4] (.float u :: .float u :: S) st P := zq_dup (zd_of zb_X5_cut dX5_cut_61) rfl
theorem E_X5_cut_62 : AW X d 57 62 [l0, l1, l2, l3, l4] (.ref a :: S) st P = zwith (zget st a 6 4) fun v => AW X d 57 65 [l0, l1, l2, l3, l4] (v :: S) st P := zq_getfield (zd_of zb_X5_cut dX5_cut_62) zo_X5_cut zf_5_176
theorem E_X5_cut_65 : AW X d 57 65 [l0, l1, l2, l3, .int x] S st P = AW X d 57 67 [l0, l1, l2, l3, .int x] (.int x :: S) st P := zAW_st (zd_of zb_X5_cut dX5_cut_65) rfl rfl
theorem E_X5_cut_67 : AW X d 57 67 [l0, l1, l2, l3, l4] (.int y :: .int x :: S) st P = AW X d 57 68 [l0, l1, l2, l3, l4] (.int (x + y) :: S) st P := zAW_st (zd_of zb_X5_cut dX5_cut_67) rfl rfl
theorem E_X5_cut_68 : AW X d 57 68 [l0, l1, l2, l3, l4] (.int x :: .ref a :: S) st P = zwith (zget st a 6 4) fun _ => AW X d 57 71 [l0, l1, l2, l3, l4] S (zput st a 4 (.int x)) P := zq_putfield (zd_of zb_X5_cut dX5_cut_68) zo_X5_cut zf_5_176 rfl (Or.inl (by decide +kernel))
theorem E_X5_cut_71 : AW X d 57 71 [.ref a, l1, l2, l3, l4] S st P = AW X d 57 72 [.ref a, l1, l2, l3, l4] (.ref a :: S) st P := zAW_st (zd_of zb_X5_cut dX5_cut_71) rfl rfl
theorem E_X5_cut_71n : AW X d 57 71 [.null, l1, l2, l3, l4] S st P = AW X d 57 72 [.null, l1, l2, l3, l4] (.null :: S) st P := zAW_st (zd_of zb_X5_cut dX5_cut_71) rfl rfl
theorem E_X5_cut_72 : AW X d 57 72 [.ref a, l1, l2, l3, l4] S st P = AW X d 57 73 [.ref a, l1, l2, l3, l4] (.ref a :: S) st P := zAW_st (zd_of zb_X5_cut dX5_cut_72) rfl rfl
theorem E_X5_cut_72n : AW X d 57 72 [.null, l1, l2, l3, l4] S st P = AW X d 57 73 [.null, l1, l2, l3, l4] (.null :: S) st P := zAW_st (zd_of zb_X5_cut dX5_cut_72) rfl rfl
theorem E_X5_cut_73 : AW X d 57 73 [l0, l1, l2, l3, l4] (.ref a :: S) st P = zwith (zget st a 6 5) fun v => AW X d 57 76 [l0, l1, l2, l3, l4] (v :: S) st P := zq_getfield (zd_of zb_X5_cut dX5_cut_73) zo_X5_cut zf_5_179
theorem E_X5_cut_76 : AW X d 57 76 [l0, l1, l2, .float u, l4] S st P = AW X d 57 77 [l0, l1, l2, .float u, l4] (.float u :: S) st P := zAW_st (zd_of zb_X5_cut dX5_cut_76) rfl rfl
theorem E_X5_cut_77 : AW X d 57 77 [l0, l1, .ref a, l3, l4] S st P = AW X d 57 78 [l0, l1, .ref a, l3, l4] (.ref a :: S) st P := zAW_st (zd_of zb_X5_cut dX5_cut_77) rfl rfl
theorem E_X5_cut_77n : AW X d 57 77 [l0, l1, .null, l3, l4] S st P = AW X d 57 78 [l0, l1, .null, l3, l4] (.null :: S) st P := zAW_st (zd_of zb_X5_cut dX5_cut_77) rfl rfl
theorem E_X5_cut_78 : AW X d 57 78 [l0, l1, l2, l3, l4] (.ref a :: S) st P = zwith (zget st a 2 1) fun v => AW X d 57 81 [l0, l1, l2, l3, l4] (v :: S) st P := zq_getfield (zd_of zb_X5_cut dX5_cut_78) zo_X5_cut zf_5_183
theorem E_X5_cut_81 : AW X d 57 81 [l0, l1, l2, l3, l4] (.int x :: .float u2 :: .float u :: S) st P = zif (S.length ≤ 4) (AC X d 68 [.float u, .float u2, .int x] st (zaft X d 57 81 [l0, l1, l2, l3, l4] S P)) := zq_callS (B := [.float u, .float u2, .int x]) (S2 := S) (zd_of zb_X5_cut dX5_cut_81) zo_X5_cut (by decide) (by decide) (by decide) zl_5_186 zn_68 (by simp only [List.length_cons]; omega) rfl rfl
theorem E_X5_cut_84 : AW X d 57 84 [l0, l1, l2, l3, l4] (.float u :: .ref a :: S) st P = zwith (zget st a 6 5) fun _ => AW X d 57 87 [l0, l1, l2, l3, l4] S (zput st a 5 (.float u)) P := zq_putfield (zd_of zb_X5_cut dX5_cut_84) zo_X5_cut zf_5_179 rfl (Or.inl (by decide +kernel))
theorem E_X5_cut_87 : AW X d 57 87 [l0, l1, l2, l3, .int x] S st P = AW X d 57 89 [l0, l1, l2, l3, .int x] (.int x :: S) st P := zAW_st (zd_of zb_X5_cut dX5_cut_87) rfl rfl
theorem E_X5_cut_89 : AW X d 57 89 [l0, l1, l2, l3, l4] ([.int x]) st P = P (.inl (some (.int x))) st := zAW_ret (w := (.inl (some (.int x)), st)) (zd_of zb_X5_cut dX5_cut_89) rfl rfl (by simp only [zfin, zr_X5_cut])
theorem A_X5_cut : AC X (d + 1) 57 [.ref a, .int x] st P = AW X d 57 0 [.ref a, .int x, .retAddr 0, .retAddr 0, .retAddr 0] [] st P := AC_eq ⟨⟨(show 2 ≤ zml 57 by decide +kernel), by decide +kernel⟩, by simp [zc1_int, zc1_ref, zc1_float]⟩
theorem E_X5_ofJob_0 : AW X d 58 0 [.ref a, l1, l2, l3] S st P = AW X d 58 1 [.ref a, l1, l2, l3] (.ref a :: S) st P := zAW_st (zd_of zb_X5_ofJob dX5_ofJob_0) rfl rfl
theorem E_X5_ofJob_0n : AW X d 58 0 [.null, l1, l2, l3] S st P = AW X d 58 1 [.null, l1, l2, l3] (.null :: S) st P := zAW_st (zd_of zb_X5_ofJob dX5_ofJob_0) rfl rfl
theorem E_X5_ofJob_1 : AW X d 58 1 [l0, .int x, l2, l3] S st P = AW X d 58 2 [l0, .int x, l2, l3] (.int x :: S) st P := zAW_st (zd_of zb_X5_ofJob dX5_ofJob_1) rfl rfl
theorem E_X5_ofJob_2 : AW X d 58 2 [l0, l1, l2, l3] (.int x :: .ref a :: S) st P = zif (zis st a 6 = true) (zif (S.length ≤ 4) (AC X d 65 [.ref a, .int x] st (zaft X d 58 2 [l0, l1, l2, l3] S P))) := zq_callV (B := [.int x]) (zd_of zb_X5_ofJob dX5_ofJob_2) zo_X5_ofJob (by decide) zl_5_153 zn_65 rfl rfl rfl
theorem E_X5_ofJob_5 : AW X d 58 5 [l0, l1, l2, l3] (.ref a :: S) st P = AW X d 58 6 [l0, l1, l2, .ref a] S st P := zAW_st (zd_of zb_X5_ofJob dX5_ofJob_5) rfl rfl
theorem E_X5_ofJob_5n : AW X d 58 5 [l0, l1, l2, l3] (.null :: S) st P = AW X d 58 6 [l0, l1, l2, .null] S st P := zAW_st (zd_of zb_X5_ofJob dX5_ofJob_5) rfl rfl
theorem E_X5_ofJob_6 : AW X d 58 6 [l0, l1, .int x, l3] S st P = AW X d 58 7 [l0, l1, .int x, l3] (.int x :: S) st P := zAW_st (zd_of zb_X5_ofJob dX5_ofJob_6) rfl rfl
theorem E_X5_ofJob_7_0 : AW X d 58 7 [l0, l1, l2, l3] (.int 0 :: S) st P = AW X d 58 36 [l0, l1, l2, l3] S st P := zq_tabIn (zd_of zb_X5_ofJob dX5_ofJob_7) (by decide) rfl (by decide)
theorem E_X5_ofJob_7_1 : AW X d 58 7 [l0, l1, l2, l3] (.int 1 :: S) st P = AW X d 58 41 [l0, l1, l2, l3] S st P := zq_tabIn (zd_of zb_X5_ofJob dX5_ofJob_7) (by decide) rfl (by decide)
theorem E_X5_ofJob_7_2 : AW X d 58 7 [l0, l1, l2, l3] (.int 2 :: S) st P = AW X d 58 49 [l0, l1, l2, l3] S st P := zq_tabIn (zd_of zb_X5_ofJob dX5_ofJob_7) (by decide) rfl (by decide)
theorem E_X5_ofJob_7_3 : AW X d 58 7 [l0, l1, l2, l3] (.int 3 :: S) st P = AW X d 58 54 [l0, l1, l2, l3] S st P := zq_tabIn (zd_of zb_X5_ofJob dX5_ofJob_7) (by decide) rfl (by decide)
theorem E_X5_ofJob_7_o (h1 : x.toInt < 0 ∨ 3 < x.toInt) : AW X d 58 7 [l0, l1, l2, l3] (.int x :: S) st P = AW X d 58 59 [l0, l1, l2, l3] S st P := zq_tabOut (zd_of zb_X5_ofJob dX5_ofJob_7) (by decide) h1
theorem E_X5_ofJob_36 : AW X d 58 36 [l0, l1, l2, .ref a] S st P = AW X d 58 37 [l0, l1, l2, .ref a] (.ref a :: S) st P := zAW_st (zd_of zb_X5_ofJob dX5_ofJob_36) rfl rfl
theorem E_X5_ofJob_36n : AW X d 58 36 [l0, l1, l2, .null] S st P = AW X d 58 37 [l0, l1, l2, .null] (.null :: S) st P := zAW_st (zd_of zb_X5_ofJob dX5_ofJob_36) rfl rfl
theorem E_X5_ofJob_37 : AW X d 58 37 [l0, l1, l2, l3] (.ref a :: S) st P = zwith (zget st a 2 2) fun v => AW X d 58 40 [l0, l1, l2, l3] (v :: S) st P := zq_getfield (zd_of zb_X5_ofJob dX5_ofJob_37) zo_X5_ofJob zf_5_157
theorem E_X5_ofJob_40 : AW X d 58 40 [l0, l1, l2, l3] ([.int x]) st P = P (.inl (some (.int x))) st := zAW_ret (w := (.inl (some (.int x)), st)) (zd_of zb_X5_ofJob dX5_ofJob_40) rfl rfl (by simp only [zfin, zr_X5_ofJob])
theorem E_X5_ofJob_41 : AW X d 58 41 [l0, l1, l2, .ref a] S st P = AW X d 58 42 [l0, l1, l2, .ref a] (.ref a :: S) st P := zAW_st (zd_of zb_X5_ofJob dX5_ofJob_41) rfl rfl
theorem E_X5_ofJob_41n : AW X d 58 41 [l0, l1, l2, .null] S st P = AW X d 58 42 [l0, l1, l2, .null] (.null :: S) st P := zAW_st (zd_of zb_X5_ofJob dX5_ofJob_41) rfl rfl
theorem E_X5_ofJob_42 : AW X d 58 42 [l0, l1, l2, l3] (.ref a :: S) st P = zwith (zget st a 2 0) fun v => AW X d 58 45 [l0, l1, l2, l3] (v :: S) st P := zq_getfield (zd_of zb_X5_ofJob dX5_ofJob_42) zo_X5_ofJob zf_5_165
theorem E_X5_ofJob_45 : AW X d 58 45 [l0, l1, l2, l3] (.ref a :: S) st P = zwith (zget st a 1 0) fun v => AW X d 58 48 [l0, l1, l2, l3] (v :: S) st P := zq_getfield (zd_of zb_X5_ofJob dX5_ofJob_45) zo_X5_ofJob zf_5_190
theorem E_X5_ofJob_48 : AW X d 58 48 [l0, l1, l2, l3] ([.int x]) st P = P (.inl (some (.int x))) st := zAW_ret (w := (.inl (some (.int x)), st)) (zd_of zb_X5_ofJob dX5_ofJob_48) rfl rfl (by simp only [zfin, zr_X5_ofJob])
theorem E_X5_ofJob_49 : AW X d 58 49 [l0, l1, l2, .ref a] S st P = AW X d 58 50 [l0, l1, l2, .ref a] (.ref a :: S) st P := zAW_st (zd_of zb_X5_ofJob dX5_ofJob_49) rfl rfl
theorem E_X5_ofJob_49n : AW X d 58 49 [l0, l1, l2, .null] S st P = AW X d 58 50 [l0, l1, l2, .null] (.null :: S) st P := zAW_st (zd_of zb_X5_ofJob dX5_ofJob_49) rfl rfl
theorem E_X5_ofJob_50 : AW X d 58 50 [l0, l1, l2, l3] (.ref a :: S) st P = zwith (zget st a 2 1) fun v => AW X d 58 53 [l0, l1, l2, l3] (v :: S) st P := zq_getfield (zd_of zb_X5_ofJob dX5_ofJob_50) zo_X5_ofJob zf_5_183
theorem E_X5_ofJob_53 : AW X d 58 53 [l0, l1, l2, l3] ([.int x]) st P = P (.inl (some (.int x))) st := zAW_ret (w := (.inl (some (.int x)), st)) (zd_of zb_X5_ofJob dX5_ofJob_53) rfl rfl (by simp only [zfin, zr_X5_ofJob])
theorem E_X5_ofJob_54 : AW X d 58 54 [l0, l1, l2, .ref a] S st P = AW X d 58 55 [l0, l1, l2, .ref a] (.ref a :: S) st P := zAW_st (zd_of zb_X5_ofJob dX5_ofJob_54) rfl rfl
theorem E_X5_ofJob_54n : AW X d 58 54 [l0, l1, l2, .null] S st P = AW X d 58 55 [l0, l1, l2, .null] (.null :: S) st P := zAW_st (zd_of zb_X5_ofJob dX5_ofJob_54) rfl rfl
theorem E_X5_ofJob_55 : AW X d 58 55 [l0, l1, l2, l3] (.ref a :: S) st P = zwith (zget st a 2 3) fun v => AW X d 58 58 [l0, l1, l2, l3] (v :: S) st P := zq_getfield (zd_of zb_X5_ofJob dX5_ofJob_55) zo_X5_ofJob zf_5_193
theorem E_X5_ofJob_58 : AW X d 58 58 [l0, l1, l2, l3] ([.int x]) st P = P (.inl (some (.int x))) st := zAW_ret (w := (.inl (some (.int x)), st)) (zd_of zb_X5_ofJob dX5_ofJob_58) rfl rfl (by simp only [zfin, zr_X5_ofJob])
theorem E_X5_ofJob_59 : AW X d 58 59 [l0, l1, l2, l3] S st P = zif (5 ≤ d) (zif (S.length ≤ 4) (P (.inr "java/lang/IllegalArgumentException") (st.1 + 7, st.2))) := zq_throw (zd_of zb_X5_ofJob dX5_ofJob_59) zo_X5_ofJob (by decide +kernel) zh_X5_ofJob (by decide +kernel)
theorem A_X5_ofJob : AC X (d + 1) 58 [.ref a, .int x, .int y] st P = AW X d 58 0 [.ref a, .int x, .int y, .retAddr 0] [] st P := AC_eq ⟨⟨(show 3 ≤ zml 58 by decide +kernel), by decide +kernel⟩, by simp [zc1_int, zc1_ref, zc1_float]⟩
theorem E_X5_where_0 : AW X d 59 0 [.ref a, l1, l2, l3, l4, l5] S st P = AW X d 59 1 [.ref a, l1, l2, l3, l4, l5] (.ref a :: S) st P := zAW_st (zd_of zb_X5_where dX5_where_0) rfl rfl
theorem E_X5_where_0n : AW X d 59 0 [.null, l1, l2, l3, l4, l5] S st P = AW X d 59 1 [.null, l1, l2, l3, l4, l5] (.null :: S) st P := zAW_st (zd_of zb_X5_where dX5_where_0) rfl rfl
theorem E_X5_where_1 : AW X d 59 1 [l0, .int x, l2, l3, l4, l5] S st P = AW X d 59 2 [l0, .int x, l2, l3, l4, l5] (.int x :: S) st P := zAW_st (zd_of zb_X5_where dX5_where_1) rfl rfl
theorem E_X5_where_2 : AW X d 59 2 [l0, l1, l2, l3, l4, l5] (.int x :: .ref a :: S) st P = zif (zis st a 6 = true) (zif (S.length ≤ 4) (AC X d 65 [.ref a, .int x] st (zaft X d 59 2 [l0, l1, l2, l3, l4, l5] S P))) := zq_callV (B := [.int x]) (zd_of zb_X5_where dX5_where_2) zo_X5_where (by decide) zl_5_153 zn_65 rfl rfl rfl
theorem E_X5_where_5 : AW X d 59 5 [l0, l1, l2, l3, l4, l5] (.ref a :: S) st P = AW X d 59 7 [l0, l1, l2, l3, .ref a, l5] S st P := zAW_st (zd_of zb_X5_where dX5_where_5) rfl rfl
theorem E_X5_where_5n : AW X d 59 5 [l0, l1, l2, l3, l4, l5] (.null :: S) st P = AW X d 59 7 [l0, l1, l2, l3, .null, l5] S st P := zAW_st (zd_of zb_X5_where dX5_where_5) rfl rfl
theorem E_X5_where_7 : AW X d 59 7 [l0, l1, .int x, l3, l4, l5] S st P = AW X d 59 8 [l0, l1, .int x, l3, l4, l5] (.int x :: S) st P := zAW_st (zd_of zb_X5_where dX5_where_7) rfl rfl
theorem E_X5_where_8 : AW X d 59 8 [l0, l1, l2, l3, l4, l5] (.int x :: S) st P = if x < 0 then AW X d 59 20 [l0, l1, l2, l3, l4, l5] S st P else AW X d 59 11 [l0, l1, l2, l3, l4, l5] S st P := zq_if (c := x < 0) (zd_of zb_X5_where dX5_where_8) (by decide) rfl
theorem E_X5_where_11 : AW X d 59 11 [l0, l1, .int x, l3, l4, l5] S st P = AW X d 59 12 [l0, l1, .int x, l3, l4, l5] (.int x :: S) st P := zAW_st (zd_of zb_X5_where dX5_where_11) rfl rfl
theorem E_X5_where_12 : AW X d 59 12 [l0, l1, l2, l3, .ref a, l5] S st P = AW X d 59 14 [l0, l1, l2, l3, .ref a, l5] (.ref a :: S) st P := zAW_st (zd_of zb_X5_where dX5_where_12) rfl rfl
theorem E_X5_where_12n : AW X d 59 12 [l0, l1, l2, l3, .null, l5] S st P = AW X d 59 14 [l0, l1, l2, l3, .null, l5] (.null :: S) st P := zAW_st (zd_of zb_X5_where dX5_where_12) rfl rfl
theorem E_X5_where_14 : AW X d 59 14 [l0, l1, l2, l3, l4, l5] (.ref a :: S) st P = zwith (zget st a 2 1) fun v => AW X d 59 17 [l0, l1, l2, l3, l4, l5] (v :: S) st P := zq_getfield (zd_of zb_X5_where dX5_where_14) zo_X5_where zf_5_183
theorem E_X5_where_17 : AW X d 59 17 [l0, l1, l2, l3, l4, l5] (.int y :: .int x :: S) st P = if x < y then AW X d 59 30 [l0, l1, l2, l3, l4, l5] S st P else AW X d 59 20 [l0, l1, l2, l3, l4, l5] S st P := zq_icmp (c := x < y) (zd_of zb_X5_where dX5_where_17) (by decide) rfl
theorem E_X5_where_20 : AW X d 59 20 [l0, l1, l2, l3, l4, l5] S st P = zif (5 ≤ d) (zif (S.length ≤ 4) (P (.inr "java/lang/IndexOutOfBoundsException") (st.1 + 7, st.2))) := zq_throw (zd_of zb_X5_where dX5_where_20) zo_X5_where (by decide +kernel) zh_X5_where (by decide +kernel)
theorem E_X5_where_30 : AW X d 59 30 [l0, l1, l2, .int x, l4, l5] S st P = AW X d 59 31 [l0, l1, l2, .int x, l4, l5] (.int x :: S) st P := zAW_st (zd_of zb_X5_where dX5_where_30) rfl rfl
theorem E_X5_where_31 : AW X d 59 31 [l0, l1, l2, l3, l4, l5] (.int x :: S) st P = if x < 0 then AW X d 59 39 [l0, l1, l2, l3, l4, l5] S st P else AW X d 59 34 [l0, l1, l2, l3, l4, l5] S st P := zq_if (c := x < 0) (zd_of zb_X5_where dX5_where_31) (by decide) rfl
theorem E_X5_where_34 : AW X d 59 34 [l0, l1, l2, .int x, l4, l5] S st P = AW X d 59 35 [l0, l1, l2, .int x, l4, l5] (.int x :: S) st P := zAW_st (zd_of zb_X5_where dX5_where_34) rfl rfl
theorem E_X5_where_35 : AW X d 59 35 [l0, l1, l2, l3, l4, l5] S st P = AW X d 59 36 [l0, l1, l2, l3, l4, l5] (.int 3 :: S) st P := zq_iconst (zd_of zb_X5_where dX5_where_35) (by decide)
theorem E_X5_where_36 : AW X d 59 36 [l0, l1, l2, l3, l4, l5] (.int y :: .int x :: S) st P = if x ≤ y then AW X d 59 49 [l0, l1, l2, l3, l4, l5] S st P else AW X d 59 39 [l0, l1, l2, l3, l4, l5] S st P := zq_icmp (c := x ≤ y) (zd_of zb_X5_where dX5_where_36) (by decide) rfl
theorem E_X5_where_39 : AW X d 59 39 [l0, l1, l2, l3, l4, l5] S st P = zif (5 ≤ d) (zif (S.length ≤ 4) (P (.inr "java/lang/IllegalArgumentException") (st.1 + 7, st.2))) := zq_throw (zd_of zb_X5_where dX5_where_39) zo_X5_where (by decide +kernel) zh_X5_where (by decide +kernel)
theorem E_X5_where_49 : AW X d 59 49 [l0, l1, .int x, l3, l4, l5] S st P = AW X d 59 50 [l0, l1, .int x, l3, l4, l5] (.int x :: S) st P := zAW_st (zd_of zb_X5_where dX5_where_49) rfl rfl
theorem E_X5_where_50 : AW X d 59 50 [l0, l1, l2, l3, .ref a, l5] S st P = AW X d 59 52 [l0, l1, l2, l3, .ref a, l5] (.ref a :: S) st P := zAW_st (zd_of zb_X5_where dX5_where_50) rfl rfl
theorem E_X5_where_50n : AW X d 59 50 [l0, l1, l2, l3, .null, l5] S st P = AW X d 59 52 [l0, l1, l2, l3, .null, l5] (.null :: S) st P := zAW_st (zd_of zb_X5_where dX5_where_50) rfl rfl
theorem E_X5_where_52 : AW X d 59 52 [l0, l1, l2, l3, l4, l5] (.ref a :: S) st P = zwith (zget st a 2 4) fun v => AW X d 59 55 [l0, l1, l2, l3, l4, l5] (v :: S) st P := zq_getfield (zd_of zb_X5_where dX5_where_52) zo_X5_where zf_5_196
theorem E_X5_where_55 : AW X d 59 55 [l0, l1, l2, l3, l4, l5] (.ref a :: S) st P = zif (zis st a 0 = true) (zif (S.length ≤ 4) (AC X d 115 [.ref a] st (zaft X d 59 55 [l0, l1, l2, l3, l4, l5] S P))) := zq_callV (B := []) (zd_of zb_X5_where dX5_where_55) zo_X5_where (by decide) zl_5_29 zn_115 rfl rfl rfl
theorem E_X5_where_58 : AW X d 59 58 [l0, l1, l2, l3, l4, l5] (.int y :: .int x :: S) st P = if x < y then AW X d 59 63 [l0, l1, l2, l3, l4, l5] S st P else AW X d 59 61 [l0, l1, l2, l3, l4, l5] S st P := zq_icmp (c := x < y) (zd_of zb_X5_where dX5_where_58) (by decide) rfl
theorem E_X5_where_61 : AW X d 59 61 [l0, l1, l2, l3, l4, l5] S st P = AW X d 59 62 [l0, l1, l2, l3, l4, l5] (.int (-1) :: S) st P := zq_iconst (zd_of zb_X5_where dX5_where_61) (by decide)
theorem E_X5_where_62 : AW X d 59 62 [l0, l1, l2, l3, l4, l5] ([.int x]) st P = P (.inl (some (.int x))) st := zAW_ret (w := (.inl (some (.int x)), st)) (zd_of zb_X5_where dX5_where_62) rfl rfl (by simp only [zfin, zr_X5_where])
theorem E_X5_where_63 : AW X d 59 63 [l0, l1, l2, l3, .ref a, l5] S st P = AW X d 59 65 [l0, l1, l2, l3, .ref a, l5] (.ref a :: S) st P := zAW_st (zd_of zb_X5_where dX5_where_63) rfl rfl
theorem E_X5_where_63n : AW X d 59 63 [l0, l1, l2, l3, .null, l5] S st P = AW X d 59 65 [l0, l1, l2, l3, .null, l5] (.null :: S) st P := zAW_st (zd_of zb_X5_where dX5_where_63) rfl rfl
theorem E_X5_where_65 : AW X d 59 65 [l0, l1, l2, l3, l4, l5] (.ref a :: S) st P = zwith (zget st a 2 4) fun v => AW X d 59 68 [l0, l1, l2, l3, l4, l5] (v :: S) st P := zq_getfield (zd_of zb_X5_where dX5_where_65) zo_X5_where zf_5_196
theorem E_X5_where_68 : AW X d 59 68 [l0, l1, .int x, l3, l4, l5] S st P = AW X d 59 69 [l0, l1, .int x, l3, l4, l5] (.int x :: S) st P := zAW_st (zd_of zb_X5_where dX5_where_68) rfl rfl
theorem E_X5_where_69 : AW X d 59 69 [l0, l1, l2, l3, l4, l5] (.int x :: .ref a :: S) st P = zif (zis st a 0 = true) (zif (S.length ≤ 4) (AC X d 117 [.ref a, .int x] st (zaft X d 59 69 [l0, l1, l2, l3, l4, l5] S P))) := zq_callV (B := [.int x]) (zd_of zb_X5_where dX5_where_69) zo_X5_where (by decide) zl_5_199 zn_117 rfl rfl rfl
theorem E_X5_where_72 : AW X d 59 72 [l0, l1, l2, l3, l4, l5] (.ref a :: S) st P = zif (zis st a 4 = true) (AW X d 59 75 [l0, l1, l2, l3, l4, l5] (.ref a :: S) st P) := zq_cast (zd_of zb_X5_where dX5_where_72) zo_X5_where (by decide +kernel)
theorem E_X5_where_72n : AW X d 59 72 [l0, l1, l2, l3, l4, l5] (.null :: S) st P = AW X d 59 75 [l0, l1, l2, l3, l4, l5] (.null :: S) st P := zAW_st (zd_of zb_X5_where dX5_where_72) rfl rfl
theorem E_X5_where_75 : AW X d 59 75 [l0, l1, l2, l3, l4, l5] (.ref a :: S) st P = AW X d 59 77 [l0, l1, l2, l3, l4, .ref a] S st P := zAW_st (zd_of zb_X5_where dX5_where_75) rfl rfl
theorem E_X5_where_75n : AW X d 59 75 [l0, l1, l2, l3, l4, l5] (.null :: S) st P = AW X d 59 77 [l0, l1, l2, l3, l4, .null] S st P := zAW_st (zd_of zb_X5_where dX5_where_75) rfl rfl
theorem E_X5_where_77 : AW X d 59 77 [l0, l1, l2, .int x, l4, l5] S st P = AW X d 59 78 [l0, l1, l2, .int x, l4, l5] (.int x :: S) st P := zAW_st (zd_of zb_X5_where dX5_where_77) rfl rfl
theorem E_X5_where_78_0 : AW X d 59 78 [l0, l1, l2, l3, l4, l5] (.int 0 :: S) st P = AW X d 59 104 [l0, l1, l2, l3, l4, l5] S st P := zq_tabIn (zd_of zb_X5_where dX5_where_78) (by decide) rfl (by decide)
theorem E_X5_where_78_1 : AW X d 59 78 [l0, l1, l2, l3, l4, l5] (.int 1 :: S) st P = AW X d 59 110 [l0, l1, l2, l3, l4, l5] S st P := zq_tabIn (zd_of zb_X5_where dX5_where_78) (by decide) rfl (by decide)
theorem E_X5_where_78_2 : AW X d 59 78 [l0, l1, l2, l3, l4, l5] (.int 2 :: S) st P = AW X d 59 116 [l0, l1, l2, l3, l4, l5] S st P := zq_tabIn (zd_of zb_X5_where dX5_where_78) (by decide) rfl (by decide)
theorem E_X5_where_78_o (h1 : x.toInt < 0 ∨ 2 < x.toInt) : AW X d 59 78 [l0, l1, l2, l3, l4, l5] (.int x :: S) st P = AW X d 59 122 [l0, l1, l2, l3, l4, l5] S st P := zq_tabOut (zd_of zb_X5_where dX5_where_78) (by decide) h1
theorem E_X5_where_104 : AW X d 59 104 [l0, l1, l2, l3, l4, .ref a] S st P = AW X d 59 106 [l0, l1, l2, l3, l4, .ref a] (.ref a :: S) st P := zAW_st (zd_of zb_X5_where dX5_where_104) rfl rfl
theorem E_X5_where_104n : AW X d 59 104 [l0, l1, l2, l3, l4, .null] S st P = AW X d 59 106 [l0, l1, l2, l3, l4, .null] (.null :: S) st P := zAW_st (zd_of zb_X5_where dX5_where_104) rfl rfl
theorem E_X5_where_106 : AW X d 59 106 [l0, l1, l2, l3, l4, l5] (.ref a :: S) st P = zwith (zget st a 4 1) fun v => AW X d 59 109 [l0, l1, l2, l3, l4, l5] (v :: S) st P := zq_getfield (zd_of zb_X5_where dX5_where_106) zo_X5_where zf_5_205
theorem E_X5_where_109 : AW X d 59 109 [l0, l1, l2, l3, l4, l5] ([.int x]) st P = P (.inl (some (.int x))) st := zAW_ret (w := (.inl (some (.int x)), st)) (zd_of zb_X5_where dX5_where_109) rfl rfl (by simp only [zfin, zr_X5_where])
theorem E_X5_where_110 : AW X d 59 110 [l0, l1, l2, l3, l4, .ref a] S st P = AW X d 59 112 [l0, l1, l2, l3, l4, .ref a] (.ref a :: S) st P := zAW_st (zd_of zb_X5_where dX5_where_110) rfl rfl
theorem E_X5_where_110n : AW X d 59 110 [l0, l1, l2, l3, l4, .null] S st P = AW X d 59 112 [l0, l1, l2, l3, l4, .null] (.null :: S) st P := zAW_st (zd_of zb_X5_where dX5_where_110) rfl rfl
theorem E_X5_where_112 : AW X d 59 112 [l0, l1, l2, l3, l4, l5] (.ref a :: S) st P = zwith (zget st a 4 2) fun v => AW X d 59 115 [l0, l1, l2, l3, l4, l5] (v :: S) st P := zq_getfield (zd_of zb_X5_where dX5_where_112) zo_X5_where zf_5_208
theorem E_X5_where_115 : AW X d 59 115 [l0, l1, l2, l3, l4, l5] ([.int x]) st P = P (.inl (some (.int x))) st := zAW_ret (w := (.inl (some (.int x)), st)) (zd_of zb_X5_where dX5_where_115) rfl rfl (by simp only [zfin, zr_X5_where])
theorem E_X5_where_116 : AW X d 59 116 [l0, l1, l2, l3, l4, .ref a] S st P = AW X d 59 118 [l0, l1, l2, l3, l4, .ref a] (.ref a :: S) st P := zAW_st (zd_of zb_X5_where dX5_where_116) rfl rfl
theorem E_X5_where_116n : AW X d 59 116 [l0, l1, l2, l3, l4, .null] S st P = AW X d 59 118 [l0, l1, l2, l3, l4, .null] (.null :: S) st P := zAW_st (zd_of zb_X5_where dX5_where_116) rfl rfl
theorem E_X5_where_118 : AW X d 59 118 [l0, l1, l2, l3, l4, l5] (.ref a :: S) st P = zwith (zget st a 4 3) fun v => AW X d 59 121 [l0, l1, l2, l3, l4, l5] (v :: S) st P := zq_getfield (zd_of zb_X5_where dX5_where_118) zo_X5_where zf_5_211
theorem E_X5_where_121 : AW X d 59 121 [l0, l1, l2, l3, l4, l5] ([.int x]) st P = P (.inl (some (.int x))) st := zAW_ret (w := (.inl (some (.int x)), st)) (zd_of zb_X5_where dX5_where_121) rfl rfl (by simp only [zfin, zr_X5_where])
theorem E_X5_where_122 : AW X d 59 122 [l0, l1, l2, l3, l4, .ref a] S st P = AW X d 59 124 [l0, l1, l2, l3, l4, .ref a] (.ref a :: S) st P := zAW_st (zd_of zb_X5_where dX5_where_122) rfl rfl
theorem E_X5_where_122n : AW X d 59 122 [l0, l1, l2, l3, l4, .null] S st P = AW X d 59 124 [l0, l1, l2, l3, l4, .null] (.null :: S) st P := zAW_st (zd_of zb_X5_where dX5_where_122) rfl rfl
theorem E_X5_where_124 : AW X d 59 124 [l0, l1, l2, l3, l4, l5] (.ref a :: S) st P = zwith (zget st a 4 0) fun v => AW X d 59 127 [l0, l1, l2, l3, l4, l5] (v :: S) st P := zq_getfield (zd_of zb_X5_where dX5_where_124) zo_X5_where zf_5_214
theorem E_X5_where_127 : AW X d 59 127 [l0, l1, l2, l3, l4, l5] ([.int x]) st P = P (.inl (some (.int x))) st := zAW_ret (w := (.inl (some (.int x)), st)) (zd_of zb_X5_where dX5_where_127) rfl rfl (by simp only [zfin, zr_X5_where])
theorem A_X5_where : AC X (d + 1) 59 [.ref a, .int x, .int y, .int x3] st P = AW X d 59 0 [.ref a, .int x, .int y, .int x3, .retAddr 0, .retAddr 0] [] st P := AC_eq ⟨⟨(show 4 ≤ zml 59 by decide +kernel), by decide +kernel⟩, by simp [zc1_int, zc1_ref, zc1_float]⟩
theorem E_X5_free_0 : AW X d 60 0 [l0, .int x, l2] S st P = AW X d 60 1 [l0, .int x, l2] (.int x :: S) st P := zAW_st (zd_of zb_X5_free dX5_free_0) rfl rfl
theorem E_X5_free_1 : AW X d 60 1 [l0, l1, l2] (.int x :: S) st P = if 0 ≤ x then AW X d 60 14 [l0, l1, l2] S st P else AW X d 60 4 [l0, l1, l2] S st P := zq_if (c := 0 ≤ x) (zd_of zb_X5_free dX5_free_1) (by decide) rfl
theorem E_X5_free_4 : AW X d 60 4 [l0, l1, l2] S st P = zif (5 ≤ d) (zif (S.length ≤ 4) (P (.inr "java/lang/IndexOutOfBoundsException") (st.1 + 7, st.2))) := zq_throw (zd_of zb_X5_free dX5_free_4) zo_X5_free (by decide +kernel) zh_X5_free (by decide +kernel)
theorem E_X5_free_14 : AW X d 60 14 [.ref a, l1, l2] S st P = AW X d 60 15 [.ref a, l1, l2] (.ref a :: S) st P := zAW_st (zd_of zb_X5_free dX5_free_14) rfl rfl
theorem E_X5_free_14n : AW X d 60 14 [.null, l1, l2] S st P = AW X d 60 15 [.null, l1, l2] (.null :: S) st P := zAW_st (zd_of zb_X5_free dX5_free_14) rfl rfl
theorem E_X5_free_15 : AW X d 60 15 [l0, l1, l2] (.ref a :: S) st P = zwith (zget st a 6 3) fun v => AW X d 60 18 [l0, l1, l2] (v :: S) st P := zq_getfield (zd_of zb_X5_free dX5_free_15) zo_X5_free zf_5_25
theorem E_X5_free_18 : AW X d 60 18 [l0, .int x, l2] S st P = AW X d 60 19 [l0, .int x, l2] (.int x :: S) st P := zAW_st (zd_of zb_X5_free dX5_free_18) rfl rfl
theorem E_X5_free_19 : AW X d 60 19 [l0, l1, l2] (.int x :: .ref a :: S) st P = zif (zis st a 5 = true) (zif (S.length ≤ 4) (AC X d 46 [.ref a, .int x] st (zaft X d 60 19 [l0, l1, l2] S P))) := zq_callV (B := [.int x]) (zd_of zb_X5_free dX5_free_19) zo_X5_free (by decide) zl_5_217 zn_46 rfl rfl rfl
theorem E_X5_free_22 : AW X d 60 22 [l0, l1, l2] (.ref a :: S) st P = AW X d 60 23 [l0, l1, .ref a] S st P := zAW_st (zd_of zb_X5_free dX5_free_22) rfl rfl
theorem E_X5_free_22n : AW X d 60 22 [l0, l1, l2] (.null :: S) st P = AW X d 60 23 [l0, l1, .null] S st P := zAW_st (zd_of zb_X5_free dX5_free_22) rfl rfl
theorem E_X5_free_23 : AW X d 60 23 [l0, l1, .ref a] S st P = AW X d 60 24 [l0, l1, .ref a] (.ref a :: S) st P := zAW_st (zd_of zb_X5_free dX5_free_23) rfl rfl
theorem E_X5_free_23n : AW X d 60 23 [l0, l1, .null] S st P = AW X d 60 24 [l0, l1, .null] (.null :: S) st P := zAW_st (zd_of zb_X5_free dX5_free_23) rfl rfl
theorem E_X5_free_24 : AW X d 60 24 [l0, l1, l2] (.ref a :: S) st P = AW X d 60 31 [l0, l1, l2] S st P := zq_nonnull1 (t := 31) (zd_of zb_X5_free dX5_free_24) (by decide)
theorem E_X5_free_24n : AW X d 60 24 [l0, l1, l2] (.null :: S) st P = AW X d 60 27 [l0, l1, l2] S st P := zq_nonnull2 (t := 31) (zd_of zb_X5_free dX5_free_24) (by decide)
theorem E_X5_free_27 : AW X d 60 27 [l0, l1, l2] S st P = AW X d 60 28 [l0, l1, l2] (.int (-1) :: S) st P := zq_iconst (zd_of zb_X5_free dX5_free_27) (by decide)
theorem E_X5_free_28 : AW X d 60 28 [l0, l1, l2] S st P = AW X d 60 52 [l0, l1, l2] S st P := zq_goto (zd_of zb_X5_free dX5_free_28) (by decide)
theorem E_X5_free_31 : AW X d 60 31 [l0, l1, l2] S st P = AW X d 60 34 [l0, l1, l2] (.int 10000 :: S) st P := zq_sipush (zd_of zb_X5_free dX5_free_31) (by decide)
theorem E_X5_free_34 : AW X d 60 34 [l0, l1, .ref a] S st P = AW X d 60 35 [l0, l1, .ref a] (.ref a :: S) st P := zAW_st (zd_of zb_X5_free dX5_free_34) rfl rfl
theorem E_X5_free_34n : AW X d 60 34 [l0, l1, .null] S st P = AW X d 60 35 [l0, l1, .null] (.null :: S) st P := zAW_st (zd_of zb_X5_free dX5_free_34) rfl rfl
theorem E_X5_free_35 : AW X d 60 35 [l0, l1, l2] (.ref a :: S) st P = zwith (zget st a 4 1) fun v => AW X d 60 38 [l0, l1, l2] (v :: S) st P := zq_getfield (zd_of zb_X5_free dX5_free_35) zo_X5_free zf_5_205
theorem E_X5_free_38 : AW X d 60 38 [l0, l1, l2] (.int y :: .int x :: S) st P = AW X d 60 39 [l0, l1, l2] (.int (x * y) :: S) st P := zAW_st (zd_of zb_X5_free dX5_free_38) rfl rfl
theorem E_X5_free_39 : AW X d 60 39 [l0, l1, l2] S st P = AW X d 60 41 [l0, l1, l2] (.int 100 :: S) st P := zq_bipush (zd_of zb_X5_free dX5_free_39) (by decide)
theorem E_X5_free_41 : AW X d 60 41 [l0, l1, .ref a] S st P = AW X d 60 42 [l0, l1, .ref a] (.ref a :: S) st P := zAW_st (zd_of zb_X5_free dX5_free_41) rfl rfl
theorem E_X5_free_41n : AW X d 60 41 [l0, l1, .null] S st P = AW X d 60 42 [l0, l1, .null] (.null :: S) st P := zAW_st (zd_of zb_X5_free dX5_free_41) rfl rfl
theorem E_X5_free_42 : AW X d 60 42 [l0, l1, l2] (.ref a :: S) st P = zwith (zget st a 4 4) fun v => AW X d 60 45 [l0, l1, l2] (v :: S) st P := zq_getfield (zd_of zb_X5_free dX5_free_42) zo_X5_free zf_5_221
theorem E_X5_free_45 : AW X d 60 45 [l0, l1, l2] (.int y :: .int x :: S) st P = AW X d 60 46 [l0, l1, l2] (.int (x * y) :: S) st P := zAW_st (zd_of zb_X5_free dX5_free_45) rfl rfl
theorem E_X5_free_46 : AW X d 60 46 [l0, l1, l2] (.int y :: .int x :: S) st P = AW X d 60 47 [l0, l1, l2] (.int (x + y) :: S) st P := zAW_st (zd_of zb_X5_free dX5_free_46) rfl rfl
theorem E_X5_free_47 : AW X d 60 47 [l0, l1, .ref a] S st P = AW X d 60 48 [l0, l1, .ref a] (.ref a :: S) st P := zAW_st (zd_of zb_X5_free dX5_free_47) rfl rfl
theorem E_X5_free_47n : AW X d 60 47 [l0, l1, .null] S st P = AW X d 60 48 [l0, l1, .null] (.null :: S) st P := zAW_st (zd_of zb_X5_free dX5_free_47) rfl rfl
theorem E_X5_free_48 : AW X d 60 48 [l0, l1, l2] (.ref a :: S) st P = zwith (zget st a 4 5) fun v => AW X d 60 51 [l0, l1, l2] (v :: S) st P := zq_getfield (zd_of zb_X5_free dX5_free_48) zo_X5_free zf_5_223
theorem E_X5_free_51 : AW X d 60 51 [l0, l1, l2] (.int y :: .int x :: S) st P = AW X d 60 52 [l0, l1, l2] (.int (x + y) :: S) st P := zAW_st (zd_of zb_X5_free dX5_free_51) rfl rfl
theorem E_X5_free_52 : AW X d 60 52 [l0, l1, l2] ([.int x]) st P = P (.inl (some (.int x))) st := zAW_ret (w := (.inl (some (.int x)), st)) (zd_of zb_X5_free dX5_free_52) rfl rfl (by simp only [zfin, zr_X5_free])
theorem A_X5_free : AC X (d + 1) 60 [.ref a, .int x] st P = AW X d 60 0 [.ref a, .int x, .retAddr 0] [] st P := AC_eq ⟨⟨(show 2 ≤ zml 60 by decide +kernel), by decide +kernel⟩, by simp [zc1_int, zc1_ref, zc1_float]⟩
theorem E_X5_minutes_0 : AW X d 61 0 [.ref a] S st P = AW X d 61 1 [.ref a] (.ref a :: S) st P := zAW_st (zd_of zb_X5_minutes dX5_minutes_0) rfl rfl
theorem E_X5_minutes_0n : AW X d 61 0 [.null] S st P = AW X d 61 1 [.null] (.null :: S) st P := zAW_st (zd_of zb_X5_minutes dX5_minutes_0) rfl rfl
theorem E_X5_minutes_1 : AW X d 61 1 [l0] (.ref a :: S) st P = zwith (zget st a 6 4) fun v => AW X d 61 4 [l0] (v :: S) st P := zq_getfield (zd_of zb_X5_minutes dX5_minutes_1) zo_X5_minutes zf_5_176
theorem E_X5_minutes_4 : AW X d 61 4 [l0] ([.int x]) st P = P (.inl (some (.int x))) st := zAW_ret (w := (.inl (some (.int x)), st)) (zd_of zb_X5_minutes dX5_minutes_4) rfl rfl (by simp only [zfin, zr_X5_minutes])
theorem A_X5_minutes : AC X (d + 1) 61 [.ref a] st P = AW X d 61 0 [.ref a] [] st P := AC_eq ⟨⟨(show 1 ≤ zml 61 by decide +kernel), by decide +kernel⟩, by simp [zc1_int, zc1_ref, zc1_float]⟩
theorem E_X5_cutLength_0 : AW X d 62 0 [.ref a] S st P = AW X d 62 1 [.ref a] (.ref a :: S) st P := zAW_st (zd_of zb_X5_cutLength dX5_cutLength_0) rfl rfl
theorem E_X5_cutLength_0n : AW X d 62 0 [.null] S st P = AW X d 62 1 [.null] (.null :: S) st P := zAW_st (zd_of zb_X5_cutLength dX5_cutLength_0) rfl rfl
theorem E_X5_cutLength_1 : AW X d 62 1 [l0] (.ref a :: S) st P = zwith (zget st a 6 5) fun v => AW X d 62 4 [l0] (v :: S) st P := zq_getfield (zd_of zb_X5_cutLength dX5_cutLength_1) zo_X5_cutLength zf_5_179
theorem E_X5_cutLength_4 : AW X d 62 4 [l0] ([.float u]) st P = P (.inl (some (.float u))) st := zAW_ret (w := (.inl (some (.float u)), st)) (zd_of zb_X5_cutLength dX5_cutLength_4) rfl rfl (by simp only [zfin, zr_X5_cutLength])
theorem A_X5_cutLength : AC X (d + 1) 62 [.ref a] st P = AW X d 62 0 [.ref a] [] st P := AC_eq ⟨⟨(show 1 ≤ zml 62 by decide +kernel), by decide +kernel⟩, by simp [zc1_int, zc1_ref, zc1_float]⟩
theorem E_X5_cutAnew_0 : AW X d 63 0 [l0, l1, l2, l3] S st P = AW X d 63 1 [l0, l1, l2, l3] (.float FP.fconst0 :: S) st P := zq_fconst (zd_of zb_X5_cutAnew dX5_cutAnew_0)
theorem E_X5_cutAnew_1 : AW X d 63 1 [l0, l1, l2, l3] (.float u :: S) st P = AW X d 63 2 [l0, .float u, l2, l3] S st P := zAW_st (zd_of zb_X5_cutAnew dX5_cutAnew_1) rfl rfl
theorem E_X5_cutAnew_2 : AW X d 63 2 [l0, l1, l2, l3] S st P = AW X d 63 3 [l0, l1, l2, l3] (.int 0 :: S) st P := zq_iconst (zd_of zb_X5_cutAnew dX5_cutAnew_2) (by decide)
theorem E_X5_cutAnew_3 : AW X d 63 3 [l0, l1, l2, l3] (.int x :: S) st P = AW X d 63 4 [l0, l1, .int x, l3] S st P := zAW_st (zd_of zb_X5_cutAnew dX5_cutAnew_3) rfl rfl
theorem E_X5_cutAnew_4 : AW X d 63 4 [l0, l1, .int x, l3] S st P = AW X d 63 5 [l0, l1, .int x, l3] (.int x :: S) st P := zAW_st (zd_of zb_X5_cutAnew dX5_cutAnew_4) rfl rfl
theorem E_X5_cutAnew_5 : AW X d 63 5 [.ref a, l1, l2, l3] S st P = AW X d 63 6 [.ref a, l1, l2, l3] (.ref a :: S) st P := zAW_st (zd_of zb_X5_cutAnew dX5_cutAnew_5) rfl rfl
theorem E_X5_cutAnew_5n : AW X d 63 5 [.null, l1, l2, l3] S st P = AW X d 63 6 [.null, l1, l2, l3] (.null :: S) st P := zAW_st (zd_of zb_X5_cutAnew dX5_cutAnew_5) rfl rfl
theorem E_X5_cutAnew_6 : AW X d 63 6 [l0, l1, l2, l3] (.ref a :: S) st P = zwith (zget st a 6 2) fun v => AW X d 63 9 [l0, l1, l2, l3] (v :: S) st P := zq_getfield (zd_of zb_X5_cutAnew dX5_cutAnew_6) zo_X5_cutAnew zf_5_19
theorem E_X5_cutAnew_9 : AW X d 63 9 [l0, l1, l2, l3] (.ref a :: S) st P = zif (zis st a 0 = true) (zif (S.length ≤ 4) (AC X d 115 [.ref a] st (zaft X d 63 9 [l0, l1, l2, l3] S P))) := zq_callV (B := []) (zd_of zb_X5_cutAnew dX5_cutAnew_9) zo_X5_cutAnew (by decide) zl_5_29 zn_115 rfl rfl rfl
theorem E_X5_cutAnew_12 : AW X d 63 12 [l0, l1, l2, l3] (.int y :: .int x :: S) st P = if y ≤ x then AW X d 63 49 [l0, l1, l2, l3] S st P else AW X d 63 15 [l0, l1, l2, l3] S st P := zq_icmp (c := y ≤ x) (zd_of zb_X5_cutAnew dX5_cutAnew_12) (by decide) rfl
theorem E_X5_cutAnew_15 : AW X d 63 15 [.ref a, l1, l2, l3] S st P = AW X d 63 16 [.ref a, l1, l2, l3] (.ref a :: S) st P := zAW_st (zd_of zb_X5_cutAnew dX5_cutAnew_15) rfl rfl
theorem E_X5_cutAnew_15n : AW X d 63 15 [.null, l1, l2, l3] S st P = AW X d 63 16 [.null, l1, l2, l3] (.null :: S) st P := zAW_st (zd_of zb_X5_cutAnew dX5_cutAnew_15) rfl rfl
theorem E_X5_cutAnew_16 : AW X d 63 16 [l0, l1, l2, l3] (.ref a :: S) st P = zwith (zget st a 6 2) fun v => AW X d 63 19 [l0, l1, l2, l3] (v :: S) st P := zq_getfield (zd_of zb_X5_cutAnew dX5_cutAnew_16) zo_X5_cutAnew zf_5_19
theorem E_X5_cutAnew_19 : AW X d 63 19 [l0, l1, .int x, l3] S st P = AW X d 63 20 [l0, l1, .int x, l3] (.int x :: S) st P := zAW_st (zd_of zb_X5_cutAnew dX5_cutAnew_19) rfl rfl
theorem E_X5_cutAnew_20 : AW X d 63 20 [l0, l1, l2, l3] (.int x :: .ref a :: S) st P = zif (zis st a 0 = true) (zif (S.length ≤ 4) (AC X d 117 [.ref a, .int x] st (zaft X d 63 20 [l0, l1, l2, l3] S P))) := zq_callV (B := [.int x]) (zd_of zb_X5_cutAnew dX5_cutAnew_20) zo_X5_cutAnew (by decide) zl_5_199 zn_117 rfl rfl rfl
theorem E_X5_cutAnew_23 : AW X d 63 23 [l0, l1, l2, l3] (.ref a :: S) st P = zif (zis st a 2 = true) (AW X d 63 26 [l0, l1, l2, l3] (.ref a :: S) st P) := zq_cast (zd_of zb_X5_cutAnew dX5_cutAnew_23) zo_X5_cutAnew (by decide +kernel)
theorem E_X5_cutAnew_23n : AW X d 63 23 [l0, l1, l2, l3] (.null :: S) st P = AW X d 63 26 [l0, l1, l2, l3] (.null :: S) st P := zAW_st (zd_of zb_X5_cutAnew dX5_cutAnew_23) rfl rfl
theorem E_X5_cutAnew_26 : AW X d 63 26 [l0, l1, l2, l3] (.ref a :: S) st P = AW X d 63 27 [l0, l1, l2, .ref a] S st P := zAW_st (zd_of zb_X5_cutAnew dX5_cutAnew_26) rfl rfl
theorem E_X5_cutAnew_26n : AW X d 63 26 [l0, l1, l2, l3] (.null :: S) st P = AW X d 63 27 [l0, l1, l2, .null] S st P := zAW_st (zd_of zb_X5_cutAnew dX5_cutAnew_26) rfl rfl
theorem E_X5_cutAnew_27 : AW X d 63 27 [l0, .float u, l2, l3] S st P = AW X d 63 28 [l0, .float u, l2, l3] (.float u :: S) st P := zAW_st (zd_of zb_X5_cutAnew dX5_cutAnew_27) rfl rfl
theorem E_X5_cutAnew_28 : AW X d 63 28 [l0, l1, l2, .ref a] S st P = AW X d 63 29 [l0, l1, l2, .ref a] (.ref a :: S) st P := zAW_st (zd_of zb_X5_cutAnew dX5_cutAnew_28) rfl rfl
theorem E_X5_cutAnew_28n : AW X d 63 28 [l0, l1, l2, .null] S st P = AW X d 63 29 [l0, l1, l2, .null] (.null :: S) st P := zAW_st (zd_of zb_X5_cutAnew dX5_cutAnew_28) rfl rfl
theorem E_X5_cutAnew_29 : AW X d 63 29 [l0, l1, l2, l3] (.ref a :: S) st P = zwith (zget st a 2 5) fun v => AW X d 63 32 [l0, l1, l2, l3] (v :: S) st P := zq_getfield (zd_of zb_X5_cutAnew dX5_cutAnew_29) zo_X5_cutAnew zf_5_225
theorem E_X5_cutAnew_32 : AW X d 63 32 [l0, l1, l2, l3] (.ref a :: S) st P = zif (zis st a 3 = true) (zif (S.length ≤ 4) (AC X d 20 [.ref a] st (zaft X d 63 32 [l0, l1, l2, l3] S P))) := zq_callV (B := []) (zd_of zb_X5_cutAnew dX5_cutAnew_32) zo_X5_cutAnew (by decide) zl_5_119 zn_20 rfl rfl rfl
theorem E_X5_cutAnew_35 : AW X d 63 35 [l0, l1, l2, .ref a] S st P = AW X d 63 36 [l0, l1, l2, .ref a] (.ref a :: S) st P := zAW_st (zd_of zb_X5_cutAnew dX5_cutAnew_35) rfl rfl
theorem E_X5_cutAnew_35n : AW X d 63 35 [l0, l1, l2, .null] S st P = AW X d 63 36 [l0, l1, l2, .null] (.null :: S) st P := zAW_st (zd_of zb_X5_cutAnew dX5_cutAnew_35) rfl rfl
theorem E_X5_cutAnew_36 : AW X d 63 36 [l0, l1, l2, l3] (.ref a :: S) st P = zwith (zget st a 2 1) fun v => AW X d 63 39 [l0, l1, l2, l3] (v :: S) st P := zq_getfield (zd_of zb_X5_cutAnew dX5_cutAnew_36) zo_X5_cutAnew zf_5_183
theorem E_X5_cutAnew_39 : AW X d 63 39 [l0, l1, l2, l3] (.int x :: .float u2 :: .float u :: S) st P = zif (S.length ≤ 4) (AC X d 68 [.float u, .float u2, .int x] st (zaft X d 63 39 [l0, l1, l2, l3] S P)) := zq_callS (B := [.float u, .float u2, .int x]) (S2 := S) (zd_of zb_X5_cutAnew dX5_cutAnew_39) zo_X5_cutAnew (by decide) (by decide) (by decide) zl_5_186 zn_68 (by simp only [List.length_cons]; omega) rfl rfl
theorem E_X5_cutAnew_42 : AW X d 63 42 [l0, l1, l2, l3] (.float u :: S) st P = AW X d 63 43 [l0, .float u, l2, l3] S st P := zAW_st (zd_of zb_X5_cutAnew dX5_cutAnew_42) rfl rfl
theorem E_X5_cutAnew_43 : AW X d 63 43 [l0, l1, .int x, l3] S st P = AW X d 63 46 [l0, l1, .int (x + 1), l3] S st P := zq_iinc (zd_of zb_X5_cutAnew dX5_cutAnew_43) rfl (by decide)
theorem E_X5_cutAnew_46 : AW X d 63 46 [l0, l1, l2, l3] S st P = AW X d 63 4 [l0, l1, l2, l3] S st P := zq_goto (zd_of zb_X5_cutAnew dX5_cutAnew_46) (by decide)
theorem E_X5_cutAnew_49 : AW X d 63 49 [l0, .float u, l2, l3] S st P = AW X d 63 50 [l0, .float u, l2, l3] (.float u :: S) st P := zAW_st (zd_of zb_X5_cutAnew dX5_cutAnew_49) rfl rfl
theorem E_X5_cutAnew_50 : AW X d 63 50 [l0, l1, l2, l3] ([.float u]) st P = P (.inl (some (.float u))) st := zAW_ret (w := (.inl (some (.float u)), st)) (zd_of zb_X5_cutAnew dX5_cutAnew_50) rfl rfl (by simp only [zfin, zr_X5_cutAnew])
theorem A_X5_cutAnew : AC X (d + 1) 63 [.ref a] st P = AW X d 63 0 [.ref a, .retAddr 0, .retAddr 0, .retAddr 0] [] st P := AC_eq ⟨⟨(show 1 ≤ zml 63 by decide +kernel), by decide +kernel⟩, by simp [zc1_int, zc1_ref, zc1_float]⟩
theorem E_X5_drawingAt_0 : AW X d 64 0 [l0, .int x] S st P = AW X d 64 1 [l0, .int x] (.int x :: S) st P := zAW_st (zd_of zb_X5_drawingAt dX5_drawingAt_0) rfl rfl
theorem E_X5_drawingAt_1 : AW X d 64 1 [l0, l1] (.int x :: S) st P = if x < 0 then AW X d 64 15 [l0, l1] S st P else AW X d 64 4 [l0, l1] S st P := zq_if (c := x < 0) (zd_of zb_X5_drawingAt dX5_drawingAt_1) (by decide) rfl
theorem E_X5_drawingAt_4 : AW X d 64 4 [l0, .int x] S st P = AW X d 64 5 [l0, .int x] (.int x :: S) st P := zAW_st (zd_of zb_X5_drawingAt dX5_drawingAt_4) rfl rfl
theorem E_X5_drawingAt_5 : AW X d 64 5 [.ref a, l1] S st P = AW X d 64 6 [.ref a, l1] (.ref a :: S) st P := zAW_st (zd_of zb_X5_drawingAt dX5_drawingAt_5) rfl rfl
theorem E_X5_drawingAt_5n : AW X d 64 5 [.null, l1] S st P = AW X d 64 6 [.null, l1] (.null :: S) st P := zAW_st (zd_of zb_X5_drawingAt dX5_drawingAt_5) rfl rfl
theorem E_X5_drawingAt_6 : AW X d 64 6 [l0, l1] (.ref a :: S) st P = zwith (zget st a 6 0) fun v => AW X d 64 9 [l0, l1] (v :: S) st P := zq_getfield (zd_of zb_X5_drawingAt dX5_drawingAt_6) zo_X5_drawingAt zf_5_12
theorem E_X5_drawingAt_9 : AW X d 64 9 [l0, l1] (.ref a :: S) st P = zif (zis st a 0 = true) (zif (S.length ≤ 4) (AC X d 115 [.ref a] st (zaft X d 64 9 [l0, l1] S P))) := zq_callV (B := []) (zd_of zb_X5_drawingAt dX5_drawingAt_9) zo_X5_drawingAt (by decide) zl_5_29 zn_115 rfl rfl rfl
theorem E_X5_drawingAt_12 : AW X d 64 12 [l0, l1] (.int y :: .int x :: S) st P = if x < y then AW X d 64 25 [l0, l1] S st P else AW X d 64 15 [l0, l1] S st P := zq_icmp (c := x < y) (zd_of zb_X5_drawingAt dX5_drawingAt_12) (by decide) rfl
theorem E_X5_drawingAt_15 : AW X d 64 15 [l0, l1] S st P = zif (5 ≤ d) (zif (S.length ≤ 4) (P (.inr "java/lang/IndexOutOfBoundsException") (st.1 + 7, st.2))) := zq_throw (zd_of zb_X5_drawingAt dX5_drawingAt_15) zo_X5_drawingAt (by decide +kernel) zh_X5_drawingAt (by decide +kernel)
theorem E_X5_drawingAt_25 : AW X d 64 25 [.ref a, l1] S st P = AW X d 64 26 [.ref a, l1] (.ref a :: S) st P := zAW_st (zd_of zb_X5_drawingAt dX5_drawingAt_25) rfl rfl
theorem E_X5_drawingAt_25n : AW X d 64 25 [.null, l1] S st P = AW X d 64 26 [.null, l1] (.null :: S) st P := zAW_st (zd_of zb_X5_drawingAt dX5_drawingAt_25) rfl rfl
theorem E_X5_drawingAt_26 : AW X d 64 26 [l0, l1] (.ref a :: S) st P = zwith (zget st a 6 0) fun v => AW X d 64 29 [l0, l1] (v :: S) st P := zq_getfield (zd_of zb_X5_drawingAt dX5_drawingAt_26) zo_X5_drawingAt zf_5_12
theorem E_X5_drawingAt_29 : AW X d 64 29 [l0, .int x] S st P = AW X d 64 30 [l0, .int x] (.int x :: S) st P := zAW_st (zd_of zb_X5_drawingAt dX5_drawingAt_29) rfl rfl
theorem E_X5_drawingAt_30 : AW X d 64 30 [l0, l1] (.int x :: .ref a :: S) st P = zif (zis st a 0 = true) (zif (S.length ≤ 4) (AC X d 117 [.ref a, .int x] st (zaft X d 64 30 [l0, l1] S P))) := zq_callV (B := [.int x]) (zd_of zb_X5_drawingAt dX5_drawingAt_30) zo_X5_drawingAt (by decide) zl_5_199 zn_117 rfl rfl rfl
theorem E_X5_drawingAt_33 : AW X d 64 33 [l0, l1] (.ref a :: S) st P = zif (zis st a 1 = true) (AW X d 64 36 [l0, l1] (.ref a :: S) st P) := zq_cast (zd_of zb_X5_drawingAt dX5_drawingAt_33) zo_X5_drawingAt (by decide +kernel)
theorem E_X5_drawingAt_33n : AW X d 64 33 [l0, l1] (.null :: S) st P = AW X d 64 36 [l0, l1] (.null :: S) st P := zAW_st (zd_of zb_X5_drawingAt dX5_drawingAt_33) rfl rfl
theorem E_X5_drawingAt_36 : AW X d 64 36 [l0, l1] ([.ref a]) st P = P (.inl (some (.ref a))) st := zAW_ret (w := (.inl (some (.ref a)), st)) (zd_of zb_X5_drawingAt dX5_drawingAt_36) rfl rfl (by simp only [zfin, zr_X5_drawingAt])
theorem E_X5_drawingAt_36n : AW X d 64 36 [l0, l1] [.null] st P = P (.inl (some .null)) st := zAW_ret (w := (.inl (some .null), st)) (zd_of zb_X5_drawingAt dX5_drawingAt_36) rfl rfl (by simp only [zfin, zr_X5_drawingAt])
theorem A_X5_drawingAt : AC X (d + 1) 64 [.ref a, .int x] st P = AW X d 64 0 [.ref a, .int x] [] st P := AC_eq ⟨⟨(show 2 ≤ zml 64 by decide +kernel), by decide +kernel⟩, by simp [zc1_int, zc1_ref, zc1_float]⟩
theorem E_X5_jobAt_0 : AW X d 65 0 [l0, .int x] S st P = AW X d 65 1 [l0, .int x] (.int x :: S) st P := zAW_st (zd_of zb_X5_jobAt dX5_jobAt_0) rfl rfl
theorem E_X5_jobAt_1 : AW X d 65 1 [l0, l1] (.int x :: S) st P = if x < 0 then AW X d 65 15 [l0, l1] S st P else AW X d 65 4 [l0, l1] S st P := zq_if (c := x < 0) (zd_of zb_X5_jobAt dX5_jobAt_1) (by decide) rfl
theorem E_X5_jobAt_4 : AW X d 65 4 [l0, .int x] S st P = AW X d 65 5 [l0, .int x] (.int x :: S) st P := zAW_st (zd_of zb_X5_jobAt dX5_jobAt_4) rfl rfl
theorem E_X5_jobAt_5 : AW X d 65 5 [.ref a, l1] S st P = AW X d 65 6 [.ref a, l1] (.ref a :: S) st P := zAW_st (zd_of zb_X5_jobAt dX5_jobAt_5) rfl rfl
theorem E_X5_jobAt_5n : AW X d 65 5 [.null, l1] S st P = AW X d 65 6 [.null, l1] (.null :: S) st P := zAW_st (zd_of zb_X5_jobAt dX5_jobAt_5) rfl rfl
theorem E_X5_jobAt_6 : AW X d 65 6 [l0, l1] (.ref a :: S) st P = zwith (zget st a 6 1) fun v => AW X d 65 9 [l0, l1] (v :: S) st P := zq_getfield (zd_of zb_X5_jobAt dX5_jobAt_6) zo_X5_jobAt zf_5_16
theorem E_X5_jobAt_9 : AW X d 65 9 [l0, l1] (.ref a :: S) st P = zif (zis st a 0 = true) (zif (S.length ≤ 4) (AC X d 115 [.ref a] st (zaft X d 65 9 [l0, l1] S P))) := zq_callV (B := []) (zd_of zb_X5_jobAt dX5_jobAt_9) zo_X5_jobAt (by decide) zl_5_29 zn_115 rfl rfl rfl
theorem E_X5_jobAt_12 : AW X d 65 12 [l0, l1] (.int y :: .int x :: S) st P = if x < y then AW X d 65 25 [l0, l1] S st P else AW X d 65 15 [l0, l1] S st P := zq_icmp (c := x < y) (zd_of zb_X5_jobAt dX5_jobAt_12) (by decide) rfl
theorem E_X5_jobAt_15 : AW X d 65 15 [l0, l1] S st P = zif (5 ≤ d) (zif (S.length ≤ 4) (P (.inr "java/lang/IndexOutOfBoundsException") (st.1 + 7, st.2))) := zq_throw (zd_of zb_X5_jobAt dX5_jobAt_15) zo_X5_jobAt (by decide +kernel) zh_X5_jobAt (by decide +kernel)
theorem E_X5_jobAt_25 : AW X d 65 25 [.ref a, l1] S st P = AW X d 65 26 [.ref a, l1] (.ref a :: S) st P := zAW_st (zd_of zb_X5_jobAt dX5_jobAt_25) rfl rfl
theorem E_X5_jobAt_25n : AW X d 65 25 [.null, l1] S st P = AW X d 65 26 [.null, l1] (.null :: S) st P := zAW_st (zd_of zb_X5_jobAt dX5_jobAt_25) rfl rfl
theorem E_X5_jobAt_26 : AW X d 65 26 [l0, l1] (.ref a :: S) st P = zwith (zget st a 6 1) fun v => AW X d 65 29 [l0, l1] (v :: S) st P := zq_getfield (zd_of zb_X5_jobAt dX5_jobAt_26) zo_X5_jobAt zf_5_16
theorem E_X5_jobAt_29 : AW X d 65 29 [l0, .int x] S st P = AW X d 65 30 [l0, .int x] (.int x :: S) st P := zAW_st (zd_of zb_X5_jobAt dX5_jobAt_29) rfl rfl
theorem E_X5_jobAt_30 : AW X d 65 30 [l0, l1] (.int x :: .ref a :: S) st P = zif (zis st a 0 = true) (zif (S.length ≤ 4) (AC X d 117 [.ref a, .int x] st (zaft X d 65 30 [l0, l1] S P))) := zq_callV (B := [.int x]) (zd_of zb_X5_jobAt dX5_jobAt_30) zo_X5_jobAt (by decide) zl_5_199 zn_117 rfl rfl rfl
theorem E_X5_jobAt_33 : AW X d 65 33 [l0, l1] (.ref a :: S) st P = zif (zis st a 2 = true) (AW X d 65 36 [l0, l1] (.ref a :: S) st P) := zq_cast (zd_of zb_X5_jobAt dX5_jobAt_33) zo_X5_jobAt (by decide +kernel)
theorem E_X5_jobAt_33n : AW X d 65 33 [l0, l1] (.null :: S) st P = AW X d 65 36 [l0, l1] (.null :: S) st P := zAW_st (zd_of zb_X5_jobAt dX5_jobAt_33) rfl rfl
theorem E_X5_jobAt_36 : AW X d 65 36 [l0, l1] ([.ref a]) st P = P (.inl (some (.ref a))) st := zAW_ret (w := (.inl (some (.ref a)), st)) (zd_of zb_X5_jobAt dX5_jobAt_36) rfl rfl (by simp only [zfin, zr_X5_jobAt])
theorem E_X5_jobAt_36n : AW X d 65 36 [l0, l1] [.null] st P = P (.inl (some .null)) st := zAW_ret (w := (.inl (some .null), st)) (zd_of zb_X5_jobAt dX5_jobAt_36) rfl rfl (by simp only [zfin, zr_X5_jobAt])
theorem A_X5_jobAt : AC X (d + 1) 65 [.ref a, .int x] st P = AW X d 65 0 [.ref a, .int x] [] st P := AC_eq ⟨⟨(show 2 ≤ zml 65 by decide +kernel), by decide +kernel⟩, by simp [zc1_int, zc1_ref, zc1_float]⟩
theorem E_X5_isPoint_0 : AW X d 66 0 [.int x] S st P = AW X d 66 1 [.int x] (.int x :: S) st P := zAW_st (zd_of zb_X5_isPoint dX5_isPoint_0) rfl rfl
theorem E_X5_isPoint_1 : AW X d 66 1 [l0] (.int x :: S) st P = if x < 0 then AW X d 66 15 [l0] S st P else AW X d 66 4 [l0] S st P := zq_if (c := x < 0) (zd_of zb_X5_isPoint dX5_isPoint_1) (by decide) rfl
theorem E_X5_isPoint_4 : AW X d 66 4 [.int x] S st P = AW X d 66 5 [.int x] (.int x :: S) st P := zAW_st (zd_of zb_X5_isPoint dX5_isPoint_4) rfl rfl
theorem E_X5_isPoint_5 : AW X d 66 5 [l0] S st P = AW X d 66 8 [l0] (.int 1024 :: S) st P := zq_sipush (zd_of zb_X5_isPoint dX5_isPoint_5) (by decide)
theorem E_X5_isPoint_8 : AW X d 66 8 [l0] (.int y :: .int x :: S) st P = if y ≤ x then AW X d 66 15 [l0] S st P else AW X d 66 11 [l0] S st P := zq_icmp (c := y ≤ x) (zd_of zb_X5_isPoint dX5_isPoint_8) (by decide) rfl
theorem E_X5_isPoint_11 : AW X d 66 11 [l0] S st P = AW X d 66 12 [l0] (.int 1 :: S) st P := zq_iconst (zd_of zb_X5_isPoint dX5_isPoint_11) (by decide)
theorem E_X5_isPoint_12 : AW X d 66 12 [l0] S st P = AW X d 66 16 [l0] S st P := zq_goto (zd_of zb_X5_isPoint dX5_isPoint_12) (by decide)
theorem E_X5_isPoint_15 : AW X d 66 15 [l0] S st P = AW X d 66 16 [l0] (.int 0 :: S) st P := zq_iconst (zd_of zb_X5_isPoint dX5_isPoint_15) (by decide)
theorem E_X5_isPoint_16 : AW X d 66 16 [l0] ([.int x]) st P = zif (x &&& 1 = x) (P (.inl (some (.int x))) st) := by
  by_cases h : x &&& 1 = x
  · rw [zif_of h]; exact zAW_ret (w := (.inl (some (.int x)), st)) (zd_of zb_X5_isPoint dX5_isPoint_16) rfl rfl (by simp only [zfin, zr_X5_isPoint]; rw [if_pos h])
  · rw [zAW_stuck (zd_of zb_X5_isPoint dX5_isPoint_16) rfl (by simp only [zfin, zr_X5_isPoint]; rw [if_neg h]) rfl]; exact propext ⟨fun z => z.elim, fun z => h z.1⟩
theorem A_X5_isPoint : AC X (d + 1) 66 [.int x] st P = AW X d 66 0 [.int x] [] st P := AC_eq ⟨⟨(show 1 ≤ zml 66 by decide +kernel), by decide +kernel⟩, by simp [zc1_int, zc1_ref, zc1_float]⟩
theorem E_X5_isSide_0 : AW X d 67 0 [.int x] S st P = AW X d 67 1 [.int x] (.int x :: S) st P := zAW_st (zd_of zb_X5_isSide dX5_isSide_0) rfl rfl
theorem E_X5_isSide_1 : AW X d 67 1 [l0] S st P = AW X d 67 2 [l0] (.int 1 :: S) st P := zq_iconst (zd_of zb_X5_isSide dX5_isSide_1) (by decide)
theorem E_X5_isSide_2 : AW X d 67 2 [l0] (.int y :: .int x :: S) st P = if x < y then AW X d 67 15 [l0] S st P else AW X d 67 5 [l0] S st P := zq_icmp (c := x < y) (zd_of zb_X5_isSide dX5_isSide_2) (by decide) rfl
theorem E_X5_isSide_5 : AW X d 67 5 [.int x] S st P = AW X d 67 6 [.int x] (.int x :: S) st P := zAW_st (zd_of zb_X5_isSide dX5_isSide_5) rfl rfl
theorem E_X5_isSide_6 : AW X d 67 6 [l0] S st P = AW X d 67 8 [l0] (.int 64 :: S) st P := zq_bipush (zd_of zb_X5_isSide dX5_isSide_6) (by decide)
theorem E_X5_isSide_8 : AW X d 67 8 [l0] (.int y :: .int x :: S) st P = if y < x then AW X d 67 15 [l0] S st P else AW X d 67 11 [l0] S st P := zq_icmp (c := y < x) (zd_of zb_X5_isSide dX5_isSide_8) (by decide) rfl
theorem E_X5_isSide_11 : AW X d 67 11 [l0] S st P = AW X d 67 12 [l0] (.int 1 :: S) st P := zq_iconst (zd_of zb_X5_isSide dX5_isSide_11) (by decide)
theorem E_X5_isSide_12 : AW X d 67 12 [l0] S st P = AW X d 67 16 [l0] S st P := zq_goto (zd_of zb_X5_isSide dX5_isSide_12) (by decide)
theorem E_X5_isSide_15 : AW X d 67 15 [l0] S st P = AW X d 67 16 [l0] (.int 0 :: S) st P := zq_iconst (zd_of zb_X5_isSide dX5_isSide_15) (by decide)
theorem E_X5_isSide_16 : AW X d 67 16 [l0] ([.int x]) st P = zif (x &&& 1 = x) (P (.inl (some (.int x))) st) := by
  by_cases h : x &&& 1 = x
  · rw [zif_of h]; exact zAW_ret (w := (.inl (some (.int x)), st)) (zd_of zb_X5_isSide dX5_isSide_16) rfl rfl (by simp only [zfin, zr_X5_isSide]; rw [if_pos h])
  · rw [zAW_stuck (zd_of zb_X5_isSide dX5_isSide_16) rfl (by simp only [zfin, zr_X5_isSide]; rw [if_neg h]) rfl]; exact propext ⟨fun z => z.elim, fun z => h z.1⟩
theorem A_X5_isSide : AC X (d + 1) 67 [.int x] st P = AW X d 67 0 [.int x] [] st P := AC_eq ⟨⟨(show 1 ≤ zml 67 by decide +kernel), by decide +kernel⟩, by simp [zc1_int, zc1_ref, zc1_float]⟩
theorem E_X5_addedForCopies_0 : AW X d 68 0 [.float u, l1, l2, l3, l4] S st P = AW X d 68 1 [.float u, l1, l2, l3, l4] (.float u :: S) st P := zAW_st (zd_of zb_X5_addedForCopies dX5_addedForCopies_0) rfl rfl
theorem E_X5_addedForCopies_1 : AW X d 68 1 [l0, l1, l2, l3, l4] (.float u :: S) st P = AW X d 68 2 [l0, l1, l2, .float u, l4] S st P := zAW_st (zd_of zb_X5_addedForCopies dX5_addedForCopies_1) rfl rfl
theorem E_X5_addedForCopies_2 : AW X d 68 2 [l0, l1, l2, l3, l4] S st P = AW X d 68 3 [l0, l1, l2, l3, l4] (.int 0 :: S) st P := zq_iconst (zd_of zb_X5_addedForCopies dX5_addedForCopies_2) (by decide)
theorem E_X5_addedForCopies_3 : AW X d 68 3 [l0, l1, l2, l3, l4] (.int x :: S) st P = AW X d 68 5 [l0, l1, l2, l3, .int x] S st P := zAW_st (zd_of zb_X5_addedForCopies dX5_addedForCopies_3) rfl rfl
theorem E_X5_addedForCopies_5 : AW X d 68 5 [l0, l1, l2, l3, .int x] S st P = AW X d 68 7 [l0, l1, l2, l3, .int x] (.int x :: S) st P := zAW_st (zd_of zb_X5_addedForCopies dX5_addedForCopies_5) rfl rfl
theorem E_X5_addedForCopies_7 : AW X d 68 7 [l0, l1, .int x, l3, l4] S st P = AW X d 68 8 [l0, l1, .int x, l3, l4] (.int x :: S) st P := zAW_st (zd_of zb_X5_addedForCopies dX5_addedForCopies_7) rfl rfl
theorem E_X5_addedForCopies_8 : AW X d 68 8 [l0, l1, l2, l3, l4] (.int y :: .int x :: S) st P = if y ≤ x then AW X d 68 21 [l0, l1, l2, l3, l4] S st P else AW X d 68 11 [l0, l1, l2, l3, l4] S st P := zq_icmp (c := y ≤ x) (zd_of zb_X5_addedForCopies dX5_addedForCopies_8) (by decide) rfl
theorem E_X5_addedForCopies_11 : AW X d 68 11 [l0, l1, l2, .float u, l4] S st P = AW X d 68 12 [l0, l1, l2, .float u, l4] (.float u :: S) st P := zAW_st (zd_of zb_X5_addedForCopies dX5_addedForCopies_11) rfl rfl
theorem E_X5_addedForCopies_12 : AW X d 68 12 [l0, .float u, l2, l3, l4] S st P = AW X d 68 13 [l0, .float u, l2, l3, l4] (.float u :: S) st P := zAW_st (zd_of zb_X5_addedForCopies dX5_addedForCopies_12) rfl rfl
theorem E_X5_addedForCopies_13 : AW X d 68 13 [l0, l1, l2, l3, l4] (.float u2 :: .float u :: S) st P = zif (zn32 (FP.fadd u u2) = true) (AW X d 68 14 [l0, l1, l2, l3, l4] (.float (FP.fadd u u2) :: S) st P) := zq_fadd (zd_of zb_X5_addedForCopies dX5_addedForCopies_13)
theorem E_X5_addedForCopies_14 : AW X d 68 14 [l0, l1, l2, l3, l4] (.float u :: S) st P = AW X d 68 15 [l0, l1, l2, .float u, l4] S st P := zAW_st (zd_of zb_X5_addedForCopies dX5_addedForCopies_14) rfl rfl
theorem E_X5_addedForCopies_15 : AW X d 68 15 [l0, l1, l2, l3, .int x] S st P = AW X d 68 18 [l0, l1, l2, l3, .int (x + 1)] S st P := zq_iinc (zd_of zb_X5_addedForCopies dX5_addedForCopies_15) rfl (by decide)
theorem E_X5_addedForCopies_18 : AW X d 68 18 [l0, l1, l2, l3, l4] S st P = AW X d 68 5 [l0, l1, l2, l3, l4] S st P := zq_goto (zd_of zb_X5_addedForCopies dX5_addedForCopies_18) (by decide)
theorem E_X5_addedForCopies_21 : AW X d 68 21 [l0, l1, l2, .float u, l4] S st P = AW X d 68 22 [l0, l1, l2, .float u, l4] (.float u :: S) st P := zAW_st (zd_of zb_X5_addedForCopies dX5_addedForCopies_21) rfl rfl
theorem E_X5_addedForCopies_22 : AW X d 68 22 [l0, l1, l2, l3, l4] ([.float u]) st P = P (.inl (some (.float u))) st := zAW_ret (w := (.inl (some (.float u)), st)) (zd_of zb_X5_addedForCopies dX5_addedForCopies_22) rfl rfl (by simp only [zfin, zr_X5_addedForCopies])
theorem A_X5_addedForCopies : AC X (d + 1) 68 [.float u, .float u2, .int x] st P = AW X d 68 0 [.float u, .float u2, .int x, .retAddr 0, .retAddr 0] [] st P := AC_eq ⟨⟨(show 3 ≤ zml 68 by decide +kernel), by decide +kernel⟩, by simp [zc1_int, zc1_ref, zc1_float]⟩
theorem E_X5_tryWaiting_0 : AW X d 69 0 [l0, l1, l2] S st P = AW X d 69 1 [l0, l1, l2] (.int 0 :: S) st P := zq_iconst (zd_of zb_X5_tryWaiting dX5_tryWaiting_0) (by decide)
theorem E_X5_tryWaiting_1 : AW X d 69 1 [l0, l1, l2] (.int x :: S) st P = AW X d 69 2 [l0, .int x, l2] S st P := zAW_st (zd_of zb_X5_tryWaiting dX5_tryWaiting_1) rfl rfl
theorem E_X5_tryWaiting_2 : AW X d 69 2 [l0, .int x, l2] S st P = AW X d 69 3 [l0, .int x, l2] (.int x :: S) st P := zAW_st (zd_of zb_X5_tryWaiting dX5_tryWaiting_2) rfl rfl
theorem E_X5_tryWaiting_3 : AW X d 69 3 [.ref a, l1, l2] S st P = AW X d 69 4 [.ref a, l1, l2] (.ref a :: S) st P := zAW_st (zd_of zb_X5_tryWaiting dX5_tryWaiting_3) rfl rfl
theorem E_X5_tryWaiting_3n : AW X d 69 3 [.null, l1, l2] S st P = AW X d 69 4 [.null, l1, l2] (.null :: S) st P := zAW_st (zd_of zb_X5_tryWaiting dX5_tryWaiting_3) rfl rfl
theorem E_X5_tryWaiting_4 : AW X d 69 4 [l0, l1, l2] (.ref a :: S) st P = zwith (zget st a 6 1) fun v => AW X d 69 7 [l0, l1, l2] (v :: S) st P := zq_getfield (zd_of zb_X5_tryWaiting dX5_tryWaiting_4) zo_X5_tryWaiting zf_5_16
theorem E_X5_tryWaiting_7 : AW X d 69 7 [l0, l1, l2] (.ref a :: S) st P = zif (zis st a 0 = true) (zif (S.length ≤ 4) (AC X d 115 [.ref a] st (zaft X d 69 7 [l0, l1, l2] S P))) := zq_callV (B := []) (zd_of zb_X5_tryWaiting dX5_tryWaiting_7) zo_X5_tryWaiting (by decide) zl_5_29 zn_115 rfl rfl rfl
theorem E_X5_tryWaiting_10 : AW X d 69 10 [l0, l1, l2] (.int y :: .int x :: S) st P = if y ≤ x then AW X d 69 57 [l0, l1, l2] S st P else AW X d 69 13 [l0, l1, l2] S st P := zq_icmp (c := y ≤ x) (zd_of zb_X5_tryWaiting dX5_tryWaiting_10) (by decide) rfl
theorem E_X5_tryWaiting_13 : AW X d 69 13 [.ref a, l1, l2] S st P = AW X d 69 14 [.ref a, l1, l2] (.ref a :: S) st P := zAW_st (zd_of zb_X5_tryWaiting dX5_tryWaiting_13) rfl rfl
theorem E_X5_tryWaiting_13n : AW X d 69 13 [.null, l1, l2] S st P = AW X d 69 14 [.null, l1, l2] (.null :: S) st P := zAW_st (zd_of zb_X5_tryWaiting dX5_tryWaiting_13) rfl rfl
theorem E_X5_tryWaiting_14 : AW X d 69 14 [l0, l1, l2] (.ref a :: S) st P = zwith (zget st a 6 1) fun v => AW X d 69 17 [l0, l1, l2] (v :: S) st P := zq_getfield (zd_of zb_X5_tryWaiting dX5_tryWaiting_14) zo_X5_tryWaiting zf_5_16
theorem E_X5_tryWaiting_17 : AW X d 69 17 [l0, .int x, l2] S st P = AW X d 69 18 [l0, .int x, l2] (.int x :: S) st P := zAW_st (zd_of zb_X5_tryWaiting dX5_tryWaiting_17) rfl rfl
theorem E_X5_tryWaiting_18 : AW X d 69 18 [l0, l1, l2] (.int x :: .ref a :: S) st P = zif (zis st a 0 = true) (zif (S.length ≤ 4) (AC X d 117 [.ref a, .int x] st (zaft X d 69 18 [l0, l1, l2] S P))) := zq_callV (B := [.int x]) (zd_of zb_X5_tryWaiting dX5_tryWaiting_18) zo_X5_tryWaiting (by decide) zl_5_199 zn_117 rfl rfl rfl
theorem E_X5_tryWaiting_21 : AW X d 69 21 [l0, l1, l2] (.ref a :: S) st P = zif (zis st a 2 = true) (AW X d 69 24 [l0, l1, l2] (.ref a :: S) st P) := zq_cast (zd_of zb_X5_tryWaiting dX5_tryWaiting_21) zo_X5_tryWaiting (by decide +kernel)
theorem E_X5_tryWaiting_21n : AW X d 69 21 [l0, l1, l2] (.null :: S) st P = AW X d 69 24 [l0, l1, l2] (.null :: S) st P := zAW_st (zd_of zb_X5_tryWaiting dX5_tryWaiting_21) rfl rfl
theorem E_X5_tryWaiting_24 : AW X d 69 24 [l0, l1, l2] (.ref a :: S) st P = AW X d 69 25 [l0, l1, .ref a] S st P := zAW_st (zd_of zb_X5_tryWaiting dX5_tryWaiting_24) rfl rfl
theorem E_X5_tryWaiting_24n : AW X d 69 24 [l0, l1, l2] (.null :: S) st P = AW X d 69 25 [l0, l1, .null] S st P := zAW_st (zd_of zb_X5_tryWaiting dX5_tryWaiting_24) rfl rfl
theorem E_X5_tryWaiting_25 : AW X d 69 25 [l0, l1, .ref a] S st P = AW X d 69 26 [l0, l1, .ref a] (.ref a :: S) st P := zAW_st (zd_of zb_X5_tryWaiting dX5_tryWaiting_25) rfl rfl
theorem E_X5_tryWaiting_25n : AW X d 69 25 [l0, l1, .null] S st P = AW X d 69 26 [l0, l1, .null] (.null :: S) st P := zAW_st (zd_of zb_X5_tryWaiting dX5_tryWaiting_25) rfl rfl
theorem E_X5_tryWaiting_26 : AW X d 69 26 [l0, l1, l2] (.ref a :: S) st P = zwith (zget st a 2 2) fun v => AW X d 69 29 [l0, l1, l2] (v :: S) st P := zq_getfield (zd_of zb_X5_tryWaiting dX5_tryWaiting_26) zo_X5_tryWaiting zf_5_157
theorem E_X5_tryWaiting_29 : AW X d 69 29 [l0, l1, l2] (.int x :: S) st P = if ¬ x = 0 then AW X d 69 51 [l0, l1, l2] S st P else AW X d 69 32 [l0, l1, l2] S st P := zq_if (c := ¬ x = 0) (zd_of zb_X5_tryWaiting dX5_tryWaiting_29) (by decide) rfl
theorem E_X5_tryWaiting_32 : AW X d 69 32 [l0, l1, .ref a] S st P = AW X d 69 33 [l0, l1, .ref a] (.ref a :: S) st P := zAW_st (zd_of zb_X5_tryWaiting dX5_tryWaiting_32) rfl rfl
theorem E_X5_tryWaiting_32n : AW X d 69 32 [l0, l1, .null] S st P = AW X d 69 33 [l0, l1, .null] (.null :: S) st P := zAW_st (zd_of zb_X5_tryWaiting dX5_tryWaiting_32) rfl rfl
theorem E_X5_tryWaiting_33 : AW X d 69 33 [l0, l1, l2] (.ref a :: S) st P = zwith (zget st a 2 0) fun v => AW X d 69 36 [l0, l1, l2] (v :: S) st P := zq_getfield (zd_of zb_X5_tryWaiting dX5_tryWaiting_33) zo_X5_tryWaiting zf_5_165
theorem E_X5_tryWaiting_36 : AW X d 69 36 [l0, l1, l2] (.ref a :: S) st P = zwith (zget st a 1 2) fun v => AW X d 69 39 [l0, l1, l2] (v :: S) st P := zq_getfield (zd_of zb_X5_tryWaiting dX5_tryWaiting_36) zo_X5_tryWaiting zf_5_67
theorem E_X5_tryWaiting_39 : AW X d 69 39 [l0, l1, l2] S st P = AW X d 69 40 [l0, l1, l2] (.int 1 :: S) st P := zq_iconst (zd_of zb_X5_tryWaiting dX5_tryWaiting_39) (by decide)
theorem E_X5_tryWaiting_40 : AW X d 69 40 [l0, l1, l2] (.int y :: .int x :: S) st P = if ¬ x = y then AW X d 69 51 [l0, l1, l2] S st P else AW X d 69 43 [l0, l1, l2] S st P := zq_icmp (c := ¬ x = y) (zd_of zb_X5_tryWaiting dX5_tryWaiting_40) (by decide) rfl
theorem E_X5_tryWaiting_43 : AW X d 69 43 [l0, l1, .ref a] S st P = AW X d 69 44 [l0, l1, .ref a] (.ref a :: S) st P := zAW_st (zd_of zb_X5_tryWaiting dX5_tryWaiting_43) rfl rfl
theorem E_X5_tryWaiting_43n : AW X d 69 43 [l0, l1, .null] S st P = AW X d 69 44 [l0, l1, .null] (.null :: S) st P := zAW_st (zd_of zb_X5_tryWaiting dX5_tryWaiting_43) rfl rfl
theorem E_X5_tryWaiting_44 : AW X d 69 44 [.ref a, l1, l2] S st P = AW X d 69 45 [.ref a, l1, l2] (.ref a :: S) st P := zAW_st (zd_of zb_X5_tryWaiting dX5_tryWaiting_44) rfl rfl
theorem E_X5_tryWaiting_44n : AW X d 69 44 [.null, l1, l2] S st P = AW X d 69 45 [.null, l1, l2] (.null :: S) st P := zAW_st (zd_of zb_X5_tryWaiting dX5_tryWaiting_44) rfl rfl
theorem E_X5_tryWaiting_45 : AW X d 69 45 [l0, l1, l2] (.ref a :: S) st P = zwith (zget st a 6 3) fun v => AW X d 69 48 [l0, l1, l2] (v :: S) st P := zq_getfield (zd_of zb_X5_tryWaiting dX5_tryWaiting_45) zo_X5_tryWaiting zf_5_25
theorem E_X5_tryWaiting_48 : AW X d 69 48 [l0, l1, l2] (v1 :: .ref a :: S) st P = zif (zis st a 2 = true) (zif (S.length ≤ 4) (AC X d 3 [.ref a, v1] st (zaft X d 69 48 [l0, l1, l2] S P))) := zq_callV (B := [v1]) (zd_of zb_X5_tryWaiting dX5_tryWaiting_48) zo_X5_tryWaiting (by decide) zl_5_149 zn_3 rfl rfl rfl
theorem E_X5_tryWaiting_51 : AW X d 69 51 [l0, .int x, l2] S st P = AW X d 69 54 [l0, .int (x + 1), l2] S st P := zq_iinc (zd_of zb_X5_tryWaiting dX5_tryWaiting_51) rfl (by decide)
theorem E_X5_tryWaiting_54 : AW X d 69 54 [l0, l1, l2] S st P = AW X d 69 2 [l0, l1, l2] S st P := zq_goto (zd_of zb_X5_tryWaiting dX5_tryWaiting_54) (by decide)
theorem E_X5_tryWaiting_57 : AW X d 69 57 [l0, l1, l2] [] st P = P (.inl none) st := zAW_ret (w := (.inl none, st)) (zd_of zb_X5_tryWaiting dX5_tryWaiting_57) rfl rfl (by simp only [zfin, zr_X5_tryWaiting])
theorem A_X5_tryWaiting : AC X (d + 1) 69 [.ref a] st P = AW X d 69 0 [.ref a, .retAddr 0, .retAddr 0] [] st P := AC_eq ⟨⟨(show 1 ≤ zml 69 by decide +kernel), by decide +kernel⟩, by simp [zc1_int, zc1_ref, zc1_float]⟩
theorem E_X5_sheetsUnder_0 : AW X d 70 0 [l0, l1, l2, l3, l4] S st P = AW X d 70 1 [l0, l1, l2, l3, l4] (.int 0 :: S) st P := zq_iconst (zd_of zb_X5_sheetsUnder dX5_sheetsUnder_0) (by decide)
theorem E_X5_sheetsUnder_1 : AW X d 70 1 [l0, l1, l2, l3, l4] (.int x :: S) st P = AW X d 70 2 [l0, l1, .int x, l3, l4] S st P := zAW_st (zd_of zb_X5_sheetsUnder dX5_sheetsUnder_1) rfl rfl
theorem E_X5_sheetsUnder_2 : AW X d 70 2 [l0, l1, l2, l3, l4] S st P = AW X d 70 3 [l0, l1, l2, l3, l4] (.int 0 :: S) st P := zq_iconst (zd_of zb_X5_sheetsUnder dX5_sheetsUnder_2) (by decide)
theorem E_X5_sheetsUnder_3 : AW X d 70 3 [l0, l1, l2, l3, l4] (.int x :: S) st P = AW X d 70 4 [l0, l1, l2, .int x, l4] S st P := zAW_st (zd_of zb_X5_sheetsUnder dX5_sheetsUnder_3) rfl rfl
theorem E_X5_sheetsUnder_4 : AW X d 70 4 [l0, l1, l2, .int x, l4] S st P = AW X d 70 5 [l0, l1, l2, .int x, l4] (.int x :: S) st P := zAW_st (zd_of zb_X5_sheetsUnder dX5_sheetsUnder_4) rfl rfl
theorem E_X5_sheetsUnder_5 : AW X d 70 5 [.ref a, l1, l2, l3, l4] S st P = AW X d 70 6 [.ref a, l1, l2, l3, l4] (.ref a :: S) st P := zAW_st (zd_of zb_X5_sheetsUnder dX5_sheetsUnder_5) rfl rfl
theorem E_X5_sheetsUnder_5n : AW X d 70 5 [.null, l1, l2, l3, l4] S st P = AW X d 70 6 [.null, l1, l2, l3, l4] (.null :: S) st P := zAW_st (zd_of zb_X5_sheetsUnder dX5_sheetsUnder_5) rfl rfl
theorem E_X5_sheetsUnder_6 : AW X d 70 6 [l0, l1, l2, l3, l4] (.ref a :: S) st P = zwith (zget st a 6 1) fun v => AW X d 70 9 [l0, l1, l2, l3, l4] (v :: S) st P := zq_getfield (zd_of zb_X5_sheetsUnder dX5_sheetsUnder_6) zo_X5_sheetsUnder zf_5_16
theorem E_X5_sheetsUnder_9 : AW X d 70 9 [l0, l1, l2, l3, l4] (.ref a :: S) st P = zif (zis st a 0 = true) (zif (S.length ≤ 4) (AC X d 115 [.ref a] st (zaft X d 70 9 [l0, l1, l2, l3, l4] S P))) := zq_callV (B := []) (zd_of zb_X5_sheetsUnder dX5_sheetsUnder_9) zo_X5_sheetsUnder (by decide) zl_5_29 zn_115 rfl rfl rfl
theorem E_X5_sheetsUnder_12 : AW X d 70 12 [l0, l1, l2, l3, l4] (.int y :: .int x :: S) st P = if y ≤ x then AW X d 70 60 [l0, l1, l2, l3, l4] S st P else AW X d 70 15 [l0, l1, l2, l3, l4] S st P := zq_icmp (c := y ≤ x) (zd_of zb_X5_sheetsUnder dX5_sheetsUnder_12) (by decide) rfl
theorem E_X5_sheetsUnder_15 : AW X d 70 15 [.ref a, l1, l2, l3, l4] S st P = AW X d 70 16 [.ref a, l1, l2, l3, l4] (.ref a :: S) st P := zAW_st (zd_of zb_X5_sheetsUnder dX5_sheetsUnder_15) rfl rfl
theorem E_X5_sheetsUnder_15n : AW X d 70 15 [.null, l1, l2, l3, l4] S st P = AW X d 70 16 [.null, l1, l2, l3, l4] (.null :: S) st P := zAW_st (zd_of zb_X5_sheetsUnder dX5_sheetsUnder_15) rfl rfl
theorem E_X5_sheetsUnder_16 : AW X d 70 16 [l0, l1, l2, l3, l4] (.ref a :: S) st P = zwith (zget st a 6 1) fun v => AW X d 70 19 [l0, l1, l2, l3, l4] (v :: S) st P := zq_getfield (zd_of zb_X5_sheetsUnder dX5_sheetsUnder_16) zo_X5_sheetsUnder zf_5_16
theorem E_X5_sheetsUnder_19 : AW X d 70 19 [l0, l1, l2, .int x, l4] S st P = AW X d 70 20 [l0, l1, l2, .int x, l4] (.int x :: S) st P := zAW_st (zd_of zb_X5_sheetsUnder dX5_sheetsUnder_19) rfl rfl
theorem E_X5_sheetsUnder_20 : AW X d 70 20 [l0, l1, l2, l3, l4] (.int x :: .ref a :: S) st P = zif (zis st a 0 = true) (zif (S.length ≤ 4) (AC X d 117 [.ref a, .int x] st (zaft X d 70 20 [l0, l1, l2, l3, l4] S P))) := zq_callV (B := [.int x]) (zd_of zb_X5_sheetsUnder dX5_sheetsUnder_20) zo_X5_sheetsUnder (by decide) zl_5_199 zn_117 rfl rfl rfl
theorem E_X5_sheetsUnder_23 : AW X d 70 23 [l0, l1, l2, l3, l4] (.ref a :: S) st P = zif (zis st a 2 = true) (AW X d 70 26 [l0, l1, l2, l3, l4] (.ref a :: S) st P) := zq_cast (zd_of zb_X5_sheetsUnder dX5_sheetsUnder_23) zo_X5_sheetsUnder (by decide +kernel)
theorem E_X5_sheetsUnder_23n : AW X d 70 23 [l0, l1, l2, l3, l4] (.null :: S) st P = AW X d 70 26 [l0, l1, l2, l3, l4] (.null :: S) st P := zAW_st (zd_of zb_X5_sheetsUnder dX5_sheetsUnder_23) rfl rfl
theorem E_X5_sheetsUnder_26 : AW X d 70 26 [l0, l1, l2, l3, l4] (.ref a :: S) st P = AW X d 70 28 [l0, l1, l2, l3, .ref a] S st P := zAW_st (zd_of zb_X5_sheetsUnder dX5_sheetsUnder_26) rfl rfl
theorem E_X5_sheetsUnder_26n : AW X d 70 26 [l0, l1, l2, l3, l4] (.null :: S) st P = AW X d 70 28 [l0, l1, l2, l3, .null] S st P := zAW_st (zd_of zb_X5_sheetsUnder dX5_sheetsUnder_26) rfl rfl
theorem E_X5_sheetsUnder_28 : AW X d 70 28 [l0, l1, l2, l3, .ref a] S st P = AW X d 70 30 [l0, l1, l2, l3, .ref a] (.ref a :: S) st P := zAW_st (zd_of zb_X5_sheetsUnder dX5_sheetsUnder_28) rfl rfl
theorem E_X5_sheetsUnder_28n : AW X d 70 28 [l0, l1, l2, l3, .null] S st P = AW X d 70 30 [l0, l1, l2, l3, .null] (.null :: S) st P := zAW_st (zd_of zb_X5_sheetsUnder dX5_sheetsUnder_28) rfl rfl
theorem E_X5_sheetsUnder_30 : AW X d 70 30 [l0, l1, l2, l3, l4] (.ref a :: S) st P = zwith (zget st a 2 2) fun v => AW X d 70 33 [l0, l1, l2, l3, l4] (v :: S) st P := zq_getfield (zd_of zb_X5_sheetsUnder dX5_sheetsUnder_30) zo_X5_sheetsUnder zf_5_157
theorem E_X5_sheetsUnder_33 : AW X d 70 33 [l0, l1, l2, l3, l4] S st P = AW X d 70 34 [l0, l1, l2, l3, l4] (.int 1 :: S) st P := zq_iconst (zd_of zb_X5_sheetsUnder dX5_sheetsUnder_33) (by decide)
theorem E_X5_sheetsUnder_34 : AW X d 70 34 [l0, l1, l2, l3, l4] (.int y :: .int x :: S) st P = if ¬ x = y then AW X d 70 54 [l0, l1, l2, l3, l4] S st P else AW X d 70 37 [l0, l1, l2, l3, l4] S st P := zq_icmp (c := ¬ x = y) (zd_of zb_X5_sheetsUnder dX5_sheetsUnder_34) (by decide) rfl
theorem E_X5_sheetsUnder_37 : AW X d 70 37 [l0, l1, l2, l3, .ref a] S st P = AW X d 70 39 [l0, l1, l2, l3, .ref a] (.ref a :: S) st P := zAW_st (zd_of zb_X5_sheetsUnder dX5_sheetsUnder_37) rfl rfl
theorem E_X5_sheetsUnder_37n : AW X d 70 37 [l0, l1, l2, l3, .null] S st P = AW X d 70 39 [l0, l1, l2, l3, .null] (.null :: S) st P := zAW_st (zd_of zb_X5_sheetsUnder dX5_sheetsUnder_37) rfl rfl
theorem E_X5_sheetsUnder_39 : AW X d 70 39 [l0, l1, l2, l3, l4] (.ref a :: S) st P = zwith (zget st a 2 0) fun v => AW X d 70 42 [l0, l1, l2, l3, l4] (v :: S) st P := zq_getfield (zd_of zb_X5_sheetsUnder dX5_sheetsUnder_39) zo_X5_sheetsUnder zf_5_165
theorem E_X5_sheetsUnder_42 : AW X d 70 42 [l0, .ref a, l2, l3, l4] S st P = AW X d 70 43 [l0, .ref a, l2, l3, l4] (.ref a :: S) st P := zAW_st (zd_of zb_X5_sheetsUnder dX5_sheetsUnder_42) rfl rfl
theorem E_X5_sheetsUnder_42n : AW X d 70 42 [l0, .null, l2, l3, l4] S st P = AW X d 70 43 [l0, .null, l2, l3, l4] (.null :: S) st P := zAW_st (zd_of zb_X5_sheetsUnder dX5_sheetsUnder_42) rfl rfl
theorem E_X5_sheetsUnder_43 : AW X d 70 43 [l0, l1, l2, l3, l4] (.ref b :: .ref a :: S) st P = zif (a = b ∨ (a ≠ 1 ∧ a ≠ 2 ∧ b ≠ 1 ∧ b ≠ 2)) (if a = b then AW X d 70 46 [l0, l1, l2, l3, l4] S st P else AW X d 70 54 [l0, l1, l2, l3, l4] S st P) := zq_acmp_ne (zd_of zb_X5_sheetsUnder dX5_sheetsUnder_43) (by decide)
theorem E_X5_sheetsUnder_46 : AW X d 70 46 [l0, l1, .int x, l3, l4] S st P = AW X d 70 47 [l0, l1, .int x, l3, l4] (.int x :: S) st P := zAW_st (zd_of zb_X5_sheetsUnder dX5_sheetsUnder_46) rfl rfl
theorem E_X5_sheetsUnder_47 : AW X d 70 47 [l0, l1, l2, l3, .ref a] S st P = AW X d 70 49 [l0, l1, l2, l3, .ref a] (.ref a :: S) st P := zAW_st (zd_of zb_X5_sheetsUnder dX5_sheetsUnder_47) rfl rfl
theorem E_X5_sheetsUnder_47n : AW X d 70 47 [l0, l1, l2, l3, .null] S st P = AW X d 70 49 [l0, l1, l2, l3, .null] (.null :: S) st P := zAW_st (zd_of zb_X5_sheetsUnder dX5_sheetsUnder_47) rfl rfl
theorem E_X5_sheetsUnder_49 : AW X d 70 49 [l0, l1, l2, l3, l4] (.ref a :: S) st P = zif (zis st a 2 = true) (zif (S.length ≤ 4) (AC X d 5 [.ref a] st (zaft X d 70 49 [l0, l1, l2, l3, l4] S P))) := zq_callV (B := []) (zd_of zb_X5_sheetsUnder dX5_sheetsUnder_49) zo_X5_sheetsUnder (by decide) zl_5_232 zn_5 rfl rfl rfl
theorem E_X5_sheetsUnder_52 : AW X d 70 52 [l0, l1, l2, l3, l4] (.int y :: .int x :: S) st P = AW X d 70 53 [l0, l1, l2, l3, l4] (.int (x ||| y) :: S) st P := zAW_st (zd_of zb_X5_sheetsUnder dX5_sheetsUnder_52) rfl rfl
theorem E_X5_sheetsUnder_53 : AW X d 70 53 [l0, l1, l2, l3, l4] (.int x :: S) st P = AW X d 70 54 [l0, l1, .int x, l3, l4] S st P := zAW_st (zd_of zb_X5_sheetsUnder dX5_sheetsUnder_53) rfl rfl
theorem E_X5_sheetsUnder_54 : AW X d 70 54 [l0, l1, l2, .int x, l4] S st P = AW X d 70 57 [l0, l1, l2, .int (x + 1), l4] S st P := zq_iinc (zd_of zb_X5_sheetsUnder dX5_sheetsUnder_54) rfl (by decide)
theorem E_X5_sheetsUnder_57 : AW X d 70 57 [l0, l1, l2, l3, l4] S st P = AW X d 70 4 [l0, l1, l2, l3, l4] S st P := zq_goto (zd_of zb_X5_sheetsUnder dX5_sheetsUnder_57) (by decide)
theorem E_X5_sheetsUnder_60 : AW X d 70 60 [l0, l1, .int x, l3, l4] S st P = AW X d 70 61 [l0, l1, .int x, l3, l4] (.int x :: S) st P := zAW_st (zd_of zb_X5_sheetsUnder dX5_sheetsUnder_60) rfl rfl
theorem E_X5_sheetsUnder_61 : AW X d 70 61 [l0, l1, l2, l3, l4] ([.int x]) st P = P (.inl (some (.int x))) st := zAW_ret (w := (.inl (some (.int x)), st)) (zd_of zb_X5_sheetsUnder dX5_sheetsUnder_61) rfl rfl (by simp only [zfin, zr_X5_sheetsUnder])
theorem A_X5_sheetsUnder (h1 : zc1 v1 = true) : AC X (d + 1) 70 [.ref a, v1] st P = AW X d 70 0 [.ref a, v1, .retAddr 0, .retAddr 0, .retAddr 0] [] st P := AC_eq ⟨⟨(show 2 ≤ zml 70 by decide +kernel), by decide +kernel⟩, by simp [zc1_int, zc1_ref, zc1_float, h1]⟩
theorem E_X5_clearSheets_0 : AW X d 71 0 [l0, l1, l2, l3, l4] S st P = AW X d 71 1 [l0, l1, l2, l3, l4] (.int 0 :: S) st P := zq_iconst (zd_of zb_X5_clearSheets dX5_clearSheets_0) (by decide)
theorem E_X5_clearSheets_1 : AW X d 71 1 [l0, l1, l2, l3, l4] (.int x :: S) st P = AW X d 71 2 [l0, l1, .int x, l3, l4] S st P := zAW_st (zd_of zb_X5_clearSheets dX5_clearSheets_1) rfl rfl
theorem E_X5_clearSheets_2 : AW X d 71 2 [.ref a, l1, l2, l3, l4] S st P = AW X d 71 3 [.ref a, l1, l2, l3, l4] (.ref a :: S) st P := zAW_st (zd_of zb_X5_clearSheets dX5_clearSheets_2) rfl rfl
theorem E_X5_clearSheets_2n : AW X d 71 2 [.null, l1, l2, l3, l4] S st P = AW X d 71 3 [.null, l1, l2, l3, l4] (.null :: S) st P := zAW_st (zd_of zb_X5_clearSheets dX5_clearSheets_2) rfl rfl
theorem E_X5_clearSheets_3 : AW X d 71 3 [l0, l1, l2, l3, l4] (.ref a :: S) st P = zwith (zget st a 6 1) fun v => AW X d 71 6 [l0, l1, l2, l3, l4] (v :: S) st P := zq_getfield (zd_of zb_X5_clearSheets dX5_clearSheets_3) zo_X5_clearSheets zf_5_16
theorem E_X5_clearSheets_6 : AW X d 71 6 [l0, l1, l2, l3, l4] (.ref a :: S) st P = zif (zis st a 0 = true) (zif (S.length ≤ 4) (AC X d 115 [.ref a] st (zaft X d 71 6 [l0, l1, l2, l3, l4] S P))) := zq_callV (B := []) (zd_of zb_X5_clearSheets dX5_clearSheets_6) zo_X5_clearSheets (by decide) zl_5_29 zn_115 rfl rfl rfl
theorem E_X5_clearSheets_9 : AW X d 71 9 [l0, l1, l2, l3, l4] S st P = AW X d 71 10 [l0, l1, l2, l3, l4] (.int 1 :: S) st P := zq_iconst (zd_of zb_X5_clearSheets dX5_clearSheets_9) (by decide)
theorem E_X5_clearSheets_10 : AW X d 71 10 [l0, l1, l2, l3, l4] (.int y :: .int x :: S) st P = AW X d 71 11 [l0, l1, l2, l3, l4] (.int (x - y) :: S) st P := zAW_st (zd_of zb_X5_clearSheets dX5_clearSheets_10) rfl rfl
theorem E_X5_clearSheets_11 : AW X d 71 11 [l0, l1, l2, l3, l4] (.int x :: S) st P = AW X d 71 12 [l0, l1, l2, .int x, l4] S st P := zAW_st (zd_of zb_X5_clearSheets dX5_clearSheets_11) rfl rfl
theorem E_X5_clearSheets_12 : AW X d 71 12 [l0, l1, l2, .int x, l4] S st P = AW X d 71 13 [l0, l1, l2, .int x, l4] (.int x :: S) st P := zAW_st (zd_of zb_X5_clearSheets dX5_clearSheets_12) rfl rfl
theorem E_X5_clearSheets_13 : AW X d 71 13 [l0, l1, l2, l3, l4] (.int x :: S) st P = if x < 0 then AW X d 71 62 [l0, l1, l2, l3, l4] S st P else AW X d 71 16 [l0, l1, l2, l3, l4] S st P := zq_if (c := x < 0) (zd_of zb_X5_clearSheets dX5_clearSheets_13) (by decide) rfl
theorem E_X5_clearSheets_16 : AW X d 71 16 [.ref a, l1, l2, l3, l4] S st P = AW X d 71 17 [.ref a, l1, l2, l3, l4] (.ref a :: S) st P := zAW_st (zd_of zb_X5_clearSheets dX5_clearSheets_16) rfl rfl
theorem E_X5_clearSheets_16n : AW X d 71 16 [.null, l1, l2, l3, l4] S st P = AW X d 71 17 [.null, l1, l2, l3, l4] (.null :: S) st P := zAW_st (zd_of zb_X5_clearSheets dX5_clearSheets_16) rfl rfl
theorem E_X5_clearSheets_17 : AW X d 71 17 [l0, l1, l2, l3, l4] (.ref a :: S) st P = zwith (zget st a 6 1) fun v => AW X d 71 20 [l0, l1, l2, l3, l4] (v :: S) st P := zq_getfield (zd_of zb_X5_clearSheets dX5_clearSheets_17) zo_X5_clearSheets zf_5_16
theorem E_X5_clearSheets_20 : AW X d 71 20 [l0, l1, l2, .int x, l4] S st P = AW X d 71 21 [l0, l1, l2, .int x, l4] (.int x :: S) st P := zAW_st (zd_of zb_X5_clearSheets dX5_clearSheets_20) rfl rfl
theorem E_X5_clearSheets_21 : AW X d 71 21 [l0, l1, l2, l3, l4] (.int x :: .ref a :: S) st P = zif (zis st a 0 = true) (zif (S.length ≤ 4) (AC X d 117 [.ref a, .int x] st (zaft X d 71 21 [l0, l1, l2, l3, l4] S P))) := zq_callV (B := [.int x]) (zd_of zb_X5_clearSheets dX5_clearSheets_21) zo_X5_clearSheets (by decide) zl_5_199 zn_117 rfl rfl rfl
theorem E_X5_clearSheets_24 : AW X d 71 24 [l0, l1, l2, l3, l4] (.ref a :: S) st P = zif (zis st a 2 = true) (AW X d 71 27 [l0, l1, l2, l3, l4] (.ref a :: S) st P) := zq_cast (zd_of zb_X5_clearSheets dX5_clearSheets_24) zo_X5_clearSheets (by decide +kernel)
theorem E_X5_clearSheets_24n : AW X d 71 24 [l0, l1, l2, l3, l4] (.null :: S) st P = AW X d 71 27 [l0, l1, l2, l3, l4] (.null :: S) st P := zAW_st (zd_of zb_X5_clearSheets dX5_clearSheets_24) rfl rfl
theorem E_X5_clearSheets_27 : AW X d 71 27 [l0, l1, l2, l3, l4] (.ref a :: S) st P = AW X d 71 29 [l0, l1, l2, l3, .ref a] S st P := zAW_st (zd_of zb_X5_clearSheets dX5_clearSheets_27) rfl rfl
theorem E_X5_clearSheets_27n : AW X d 71 27 [l0, l1, l2, l3, l4] (.null :: S) st P = AW X d 71 29 [l0, l1, l2, l3, .null] S st P := zAW_st (zd_of zb_X5_clearSheets dX5_clearSheets_27) rfl rfl
theorem E_X5_clearSheets_29 : AW X d 71 29 [l0, l1, l2, l3, .ref a] S st P = AW X d 71 31 [l0, l1, l2, l3, .ref a] (.ref a :: S) st P := zAW_st (zd_of zb_X5_clearSheets dX5_clearSheets_29) rfl rfl
theorem E_X5_clearSheets_29n : AW X d 71 29 [l0, l1, l2, l3, .null] S st P = AW X d 71 31 [l0, l1, l2, l3, .null] (.null :: S) st P := zAW_st (zd_of zb_X5_clearSheets dX5_clearSheets_29) rfl rfl
theorem E_X5_clearSheets_31 : AW X d 71 31 [l0, l1, l2, l3, l4] (.ref a :: S) st P = zwith (zget st a 2 2) fun v => AW X d 71 34 [l0, l1, l2, l3, l4] (v :: S) st P := zq_getfield (zd_of zb_X5_clearSheets dX5_clearSheets_31) zo_X5_clearSheets zf_5_157
theorem E_X5_clearSheets_34 : AW X d 71 34 [l0, l1, l2, l3, l4] S st P = AW X d 71 35 [l0, l1, l2, l3, l4] (.int 1 :: S) st P := zq_iconst (zd_of zb_X5_clearSheets dX5_clearSheets_34) (by decide)
theorem E_X5_clearSheets_35 : AW X d 71 35 [l0, l1, l2, l3, l4] (.int y :: .int x :: S) st P = if ¬ x = y then AW X d 71 56 [l0, l1, l2, l3, l4] S st P else AW X d 71 38 [l0, l1, l2, l3, l4] S st P := zq_icmp (c := ¬ x = y) (zd_of zb_X5_clearSheets dX5_clearSheets_35) (by decide) rfl
theorem E_X5_clearSheets_38 : AW X d 71 38 [l0, l1, l2, l3, .ref a] S st P = AW X d 71 40 [l0, l1, l2, l3, .ref a] (.ref a :: S) st P := zAW_st (zd_of zb_X5_clearSheets dX5_clearSheets_38) rfl rfl
theorem E_X5_clearSheets_38n : AW X d 71 38 [l0, l1, l2, l3, .null] S st P = AW X d 71 40 [l0, l1, l2, l3, .null] (.null :: S) st P := zAW_st (zd_of zb_X5_clearSheets dX5_clearSheets_38) rfl rfl
theorem E_X5_clearSheets_40 : AW X d 71 40 [l0, l1, l2, l3, l4] (.ref a :: S) st P = zif (zis st a 2 = true) (zif (S.length ≤ 4) (AC X d 5 [.ref a] st (zaft X d 71 40 [l0, l1, l2, l3, l4] S P))) := zq_callV (B := []) (zd_of zb_X5_clearSheets dX5_clearSheets_40) zo_X5_clearSheets (by decide) zl_5_232 zn_5 rfl rfl rfl
theorem E_X5_clearSheets_43 : AW X d 71 43 [l0, .int x, l2, l3, l4] S st P = AW X d 71 44 [l0, .int x, l2, l3, l4] (.int x :: S) st P := zAW_st (zd_of zb_X5_clearSheets dX5_clearSheets_43) rfl rfl
theorem E_X5_clearSheets_44 : AW X d 71 44 [l0, l1, l2, l3, l4] (.int y :: .int x :: S) st P = AW X d 71 45 [l0, l1, l2, l3, l4] (.int (x &&& y) :: S) st P := zAW_st (zd_of zb_X5_clearSheets dX5_clearSheets_44) rfl rfl
theorem E_X5_clearSheets_45 : AW X d 71 45 [l0, l1, l2, l3, l4] (.int x :: S) st P = if x = 0 then AW X d 71 56 [l0, l1, l2, l3, l4] S st P else AW X d 71 48 [l0, l1, l2, l3, l4] S st P := zq_if (c := x = 0) (zd_of zb_X5_clearSheets dX5_clearSheets_45) (by decide) rfl
theorem E_X5_clearSheets_48 : AW X d 71 48 [l0, l1, l2, l3, .ref a] S st P = AW X d 71 50 [l0, l1, l2, l3, .ref a] (.ref a :: S) st P := zAW_st (zd_of zb_X5_clearSheets dX5_clearSheets_48) rfl rfl
theorem E_X5_clearSheets_48n : AW X d 71 48 [l0, l1, l2, l3, .null] S st P = AW X d 71 50 [l0, l1, l2, l3, .null] (.null :: S) st P := zAW_st (zd_of zb_X5_clearSheets dX5_clearSheets_48) rfl rfl
theorem E_X5_clearSheets_50 : AW X d 71 50 [l0, l1, l2, l3, l4] (.ref a :: S) st P = zif (zis st a 2 = true) (zif (S.length ≤ 4) (AC X d 4 [.ref a] st (zaft X d 71 50 [l0, l1, l2, l3, l4] S P))) := zq_callV (B := []) (zd_of zb_X5_clearSheets dX5_clearSheets_50) zo_X5_clearSheets (by decide) zl_5_160 zn_4 rfl rfl rfl
theorem E_X5_clearSheets_53 : AW X d 71 53 [l0, l1, .int x, l3, l4] S st P = AW X d 71 56 [l0, l1, .int (x + 1), l3, l4] S st P := zq_iinc (zd_of zb_X5_clearSheets dX5_clearSheets_53) rfl (by decide)
theorem E_X5_clearSheets_56 : AW X d 71 56 [l0, l1, l2, .int x, l4] S st P = AW X d 71 59 [l0, l1, l2, .int (x + (-1)), l4] S st P := zq_iinc (zd_of zb_X5_clearSheets dX5_clearSheets_56) rfl (by decide)
theorem E_X5_clearSheets_59 : AW X d 71 59 [l0, l1, l2, l3, l4] S st P = AW X d 71 12 [l0, l1, l2, l3, l4] S st P := zq_goto (zd_of zb_X5_clearSheets dX5_clearSheets_59) (by decide)
theorem E_X5_clearSheets_62 : AW X d 71 62 [l0, l1, .int x, l3, l4] S st P = AW X d 71 63 [l0, l1, .int x, l3, l4] (.int x :: S) st P := zAW_st (zd_of zb_X5_clearSheets dX5_clearSheets_62) rfl rfl
theorem E_X5_clearSheets_63 : AW X d 71 63 [l0, l1, l2, l3, l4] ([.int x]) st P = P (.inl (some (.int x))) st := zAW_ret (w := (.inl (some (.int x)), st)) (zd_of zb_X5_clearSheets dX5_clearSheets_63) rfl rfl (by simp only [zfin, zr_X5_clearSheets])
theorem A_X5_clearSheets : AC X (d + 1) 71 [.ref a, .int x] st P = AW X d 71 0 [.ref a, .int x, .retAddr 0, .retAddr 0, .retAddr 0] [] st P := AC_eq ⟨⟨(show 2 ≤ zml 71 by decide +kernel), by decide +kernel⟩, by simp [zc1_int, zc1_ref, zc1_float]⟩
end ZEQ1
