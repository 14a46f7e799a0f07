/-! equations of the instructions (made by gen21.py) -/
theorem zb_L_drawing : zby 126 = cL_drawing := rfl
theorem zo_L_drawing : zoc 126 = 15 := rfl
theorem zr_L_drawing : zrt 126 = some (.int) := rfl
theorem zl_15_7 : zCL.lookup (15, 7) = some (0, 48) := by decide +kernel
theorem zn_48 : znp 48 = 0 := rfl
theorem zb_L_stroke : zby 127 = cL_stroke := rfl
theorem zo_L_stroke : zoc 127 = 15 := rfl
theorem zr_L_stroke : zrt 127 = some (.int) := rfl
theorem zl_15_15 : zCL.lookup (15, 15) = some (0, 49) := by decide +kernel
theorem zn_49 : znp 49 = 3 := rfl
theorem zb_L_finish : zby 128 = cL_finish := rfl
theorem zo_L_finish : zoc 128 = 15 := rfl
theorem zr_L_finish : zrt 128 = some (.int) := rfl
theorem zl_15_23 : zCL.lookup (15, 23) = some (0, 50) := by decide +kernel
theorem zn_50 : znp 50 = 1 := rfl
theorem zb_L_redraw : zby 129 = cL_redraw := rfl
theorem zo_L_redraw : zoc 129 = 15 := rfl
theorem zr_L_redraw : zrt 129 = some (.int) := rfl
theorem zl_15_27 : zCL.lookup (15, 27) = some (0, 51) := by decide +kernel
theorem zn_51 : znp 51 = 1 := rfl
theorem zb_L_ofDrawing : zby 130 = cL_ofDrawing := rfl
theorem zo_L_ofDrawing : zoc 130 = 15 := rfl
theorem zr_L_ofDrawing : zrt 130 = some (.int) := rfl
theorem zl_15_30 : zCL.lookup (15, 30) = some (0, 52) := by decide +kernel
theorem zn_52 : znp 52 = 2 := rfl
theorem zb_L_length : zby 131 = cL_length := rfl
theorem zo_L_length : zoc 131 = 15 := rfl
theorem zr_L_length : zrt 131 = some (.int) := rfl
theorem zl_15_34 : zCL.lookup (15, 34) = some (0, 53) := by decide +kernel
theorem zn_53 : znp 53 = 1 := rfl
theorem zb_L_sheet : zby 132 = cL_sheet := rfl
theorem zo_L_sheet : zoc 132 = 15 := rfl
theorem zr_L_sheet : zrt 132 = some (.int) := rfl
theorem zl_15_38 : zCL.lookup (15, 38) = some (0, 54) := by decide +kernel
theorem zn_54 : znp 54 = 2 := rfl
theorem zb_L_job : zby 133 = cL_job := rfl
theorem zo_L_job : zoc 133 = 15 := rfl
theorem zr_L_job : zrt 133 = some (.int) := rfl
theorem zl_15_41 : zCL.lookup (15, 41) = some (0, 55) := by decide +kernel
theorem zn_55 : znp 55 = 2 := rfl
theorem zb_L_cancel : zby 134 = cL_cancel := rfl
theorem zo_L_cancel : zoc 134 = 15 := rfl
theorem zr_L_cancel : zrt 134 = some (.int) := rfl
theorem zl_15_44 : zCL.lookup (15, 44) = some (0, 56) := by decide +kernel
theorem zn_56 : znp 56 = 1 := rfl
theorem zb_L_cut : zby 135 = cL_cut := rfl
theorem zo_L_cut : zoc 135 = 15 := rfl
theorem zr_L_cut : zrt 135 = some (.int) := rfl
theorem zl_15_47 : zCL.lookup (15, 47) = some (0, 57) := by decide +kernel
theorem zn_57 : znp 57 = 1 := rfl
theorem zb_L_ofJob : zby 136 = cL_ofJob := rfl
theorem zo_L_ofJob : zoc 136 = 15 := rfl
theorem zr_L_ofJob : zrt 136 = some (.int) := rfl
theorem zl_15_50 : zCL.lookup (15, 50) = some (0, 58) := by decide +kernel
theorem zn_58 : znp 58 = 2 := rfl
theorem zb_L_where : zby 137 = cL_where := rfl
theorem zo_L_where : zoc 137 = 15 := rfl
theorem zr_L_where : zrt 137 = some (.int) := rfl
theorem zl_15_53 : zCL.lookup (15, 53) = some (0, 59) := by decide +kernel
theorem zn_59 : znp 59 = 3 := rfl
theorem zb_L_free : zby 138 = cL_free := rfl
theorem zo_L_free : zoc 138 = 15 := rfl
theorem zr_L_free : zrt 138 = some (.int) := rfl
theorem zl_15_56 : zCL.lookup (15, 56) = some (0, 60) := by decide +kernel
theorem zn_60 : znp 60 = 1 := rfl
theorem zb_L_law : zby 139 = cL_law := rfl
theorem zo_L_law : zoc 139 = 15 := rfl
theorem zr_L_law : zrt 139 = some (.boolean) := rfl
theorem zh_L_law : zhh 139 = [] := rfl
theorem zl_15_59 : zCL.lookup (15, 59) = some (2, 47) := by decide +kernel
theorem zn_47 : znp 47 = 0 := rfl
theorem zl_15_62 : zCL.lookup (15, 62) = some (2, 72) := by decide +kernel
theorem zn_72 : znp 72 = 0 := rfl
theorem zl_15_63 : zCL.lookup (15, 63) = some (1, 126) := by decide +kernel
theorem zn_126 : znp 126 = 2 := rfl
theorem zl_15_68 : zCL.lookup (15, 68) = some (0, 77) := by decide +kernel
theorem zn_77 : znp 77 = 0 := rfl
theorem zl_15_69 : zCL.lookup (15, 69) = some (0, 73) := by decide +kernel
theorem zn_73 : znp 73 = 0 := rfl
theorem zl_15_72 : zCL.lookup (15, 72) = some (1, 127) := by decide +kernel
theorem zn_127 : znp 127 = 5 := rfl
theorem zl_15_75 : zCL.lookup (15, 75) = some (0, 78) := by decide +kernel
theorem zn_78 : znp 78 = 3 := rfl
theorem zl_15_76 : zCL.lookup (15, 76) = some (1, 128) := by decide +kernel
theorem zn_128 : znp 128 = 3 := rfl
theorem zl_15_79 : zCL.lookup (15, 79) = some (0, 82) := by decide +kernel
theorem zn_82 : znp 82 = 1 := rfl
theorem zl_15_80 : zCL.lookup (15, 80) = some (1, 129) := by decide +kernel
theorem zn_129 : znp 129 = 3 := rfl
theorem zl_15_82 : zCL.lookup (15, 82) = some (0, 101) := by decide +kernel
theorem zn_101 : znp 101 = 1 := rfl
theorem zl_15_83 : zCL.lookup (15, 83) = some (1, 130) := by decide +kernel
theorem zn_130 : znp 130 = 4 := rfl
theorem zl_15_86 : zCL.lookup (15, 86) = some (0, 84) := by decide +kernel
theorem zn_84 : znp 84 = 2 := rfl
theorem zl_15_87 : zCL.lookup (15, 87) = some (1, 131) := by decide +kernel
theorem zn_131 : znp 131 = 3 := rfl
theorem zl_15_90 : zCL.lookup (15, 90) = some (0, 87) := by decide +kernel
theorem zn_87 : znp 87 = 1 := rfl
theorem zl_15_91 : zCL.lookup (15, 91) = some (1, 132) := by decide +kernel
theorem zn_132 : znp 132 = 4 := rfl
theorem zl_15_93 : zCL.lookup (15, 93) = some (0, 89) := by decide +kernel
theorem zn_89 : znp 89 = 2 := rfl
theorem zl_15_94 : zCL.lookup (15, 94) = some (1, 133) := by decide +kernel
theorem zn_133 : znp 133 = 4 := rfl
theorem zl_15_96 : zCL.lookup (15, 96) = some (0, 98) := by decide +kernel
theorem zn_98 : znp 98 = 2 := rfl
theorem zl_15_97 : zCL.lookup (15, 97) = some (1, 134) := by decide +kernel
theorem zn_134 : znp 134 = 3 := rfl
theorem zl_15_99 : zCL.lookup (15, 99) = some (0, 99) := by decide +kernel
theorem zn_99 : znp 99 = 1 := rfl
theorem zl_15_100 : zCL.lookup (15, 100) = some (1, 135) := by decide +kernel
theorem zn_135 : znp 135 = 3 := rfl
theorem zl_15_102 : zCL.lookup (15, 102) = some (0, 103) := by decide +kernel
theorem zn_103 : znp 103 = 1 := rfl
theorem zl_15_103 : zCL.lookup (15, 103) = some (1, 136) := by decide +kernel
theorem zn_136 : znp 136 = 4 := rfl
theorem zl_15_105 : zCL.lookup (15, 105) = some (0, 104) := by decide +kernel
theorem zn_104 : znp 104 = 2 := rfl
theorem zl_15_106 : zCL.lookup (15, 106) = some (1, 137) := by decide +kernel
theorem zn_137 : znp 137 = 5 := rfl
theorem zl_15_108 : zCL.lookup (15, 108) = some (0, 105) := by decide +kernel
theorem zn_105 : znp 105 = 3 := rfl
theorem zl_15_109 : zCL.lookup (15, 109) = some (1, 138) := by decide +kernel
theorem zn_138 : znp 138 = 3 := rfl
theorem zl_15_111 : zCL.lookup (15, 111) = some (0, 106) := by decide +kernel
theorem zn_106 : znp 106 = 1 := rfl
theorem zl_15_112 : zCL.lookup (15, 112) = some (0, 61) := by decide +kernel
theorem zn_61 : znp 61 = 0 := rfl
theorem zl_15_115 : zCL.lookup (15, 115) = some (0, 107) := by decide +kernel
theorem zn_107 : znp 107 = 0 := rfl
theorem zl_15_116 : zCL.lookup (15, 116) = some (0, 62) := by decide +kernel
theorem zn_62 : znp 62 = 0 := rfl
theorem zl_15_120 : zCL.lookup (15, 120) = some (0, 108) := by decide +kernel
theorem zn_108 : znp 108 = 0 := rfl
theorem zl_15_121 : zCL.lookup (15, 121) = some (0, 63) := by decide +kernel
theorem zn_63 : znp 63 = 0 := rfl
theorem zl_15_124 : zCL.lookup (15, 124) = some (0, 109) := by decide +kernel
theorem zn_109 : znp 109 = 0 := rfl
section ZEQ3
variable {X : ZX} {d a b : Nat} {l0 l1 l2 l3 l4 l5 l6 l7 l8 l9 l10 l11 v v1 v2 v3 v4 v5 v6 v7 : Value} {S : List Value} {st : ZS} {P : ZO → ZS → Prop} {x y x3 x4 x5 x6 x7 : Int32} {u u2 : UInt32} {w w2 : UInt64} {q1 q2 : Int64}
theorem E_L_drawing_0 : AW X d 126 0 [l0, .ref a, l2] S st P = AW X d 126 1 [l0, .ref a, l2] (.ref a :: S) st P := zAW_st (zd_of zb_L_drawing dL_drawing_0) rfl rfl
theorem E_L_drawing_0n : AW X d 126 0 [l0, .null, l2] S st P = AW X d 126 1 [l0, .null, l2] (.null :: S) st P := zAW_st (zd_of zb_L_drawing dL_drawing_0) rfl rfl
theorem E_L_drawing_1 : AW X d 126 1 [l0, l1, l2] S st P = AW X d 126 2 [l0, l1, l2] (.int 0 :: S) st P := zq_iconst (zd_of zb_L_drawing dL_drawing_1) (by decide)
theorem E_L_drawing_2 : AW X d 126 2 [.ref a, l1, l2] S st P = AW X d 126 3 [.ref a, l1, l2] (.ref a :: S) st P := zAW_st (zd_of zb_L_drawing dL_drawing_2) rfl rfl
theorem E_L_drawing_2n : AW X d 126 2 [.null, l1, l2] S st P = AW X d 126 3 [.null, l1, l2] (.null :: S) st P := zAW_st (zd_of zb_L_drawing dL_drawing_2) rfl rfl
theorem E_L_drawing_3 : AW X d 126 3 [l0, l1, l2] (.ref a :: S) st P = zif (zis st a 6 = true) (zif (S.length ≤ 4) (AC X d 48 [.ref a] st (zaft X d 126 3 [l0, l1, l2] S P))) := zq_callV (B := []) (zd_of zb_L_drawing dL_drawing_3) zo_L_drawing (by decide) zl_15_7 zn_48 rfl rfl rfl
theorem E_L_drawing_6 : AW X d 126 6 [l0, l1, l2] (.int x :: S) st P = AW X d 126 7 [l0, l1, l2] (.long x.toInt64 :: S) st P := zAW_st (zd_of zb_L_drawing dL_drawing_6) rfl rfl
theorem E_L_drawing_7 : AW X d 126 7 [l0, l1, l2] (.long q1 :: .int x :: .ref a :: S) st P = zwith (zaL st a) fun q => zwith (zix x q.1) fun j => AW X d 126 8 [l0, l1, l2] S (zsta st a (q.1, .inr (.inl (vp_updL q.2 j q1)))) P := zq_lastore (zd_of zb_L_drawing dL_drawing_7)
theorem E_L_drawing_8 : AW X d 126 8 [l0, l1, l2] S st P = AW X d 126 14 [l0, l1, l2] S st P := zq_goto (zd_of zb_L_drawing dL_drawing_8) (by decide)
theorem E_L_drawing_11 : AW X d 126 11 [l0, l1, l2] (.ref a :: S) st P = AW X d 126 12 [l0, l1, .ref a] S st P := zAW_st (zd_of zb_L_drawing dL_drawing_11) rfl rfl
theorem E_L_drawing_11n : AW X d 126 11 [l0, l1, l2] (.null :: S) st P = AW X d 126 12 [l0, l1, .null] S st P := zAW_st (zd_of zb_L_drawing dL_drawing_11) rfl rfl
theorem E_L_drawing_12 : AW X d 126 12 [l0, l1, l2] S st P = AW X d 126 13 [l0, l1, l2] (.int 1 :: S) st P := zq_iconst (zd_of zb_L_drawing dL_drawing_12) (by decide)
theorem E_L_drawing_13 : AW X d 126 13 [l0, l1, l2] ([.int x]) st P = P (.inl (some (.int x))) st := zAW_ret (w := (.inl (some (.int x)), st)) (zd_of zb_L_drawing dL_drawing_13) rfl rfl (by simp only [zfin, zr_L_drawing])
theorem E_L_drawing_14 : AW X d 126 14 [l0, l1, l2] S st P = AW X d 126 15 [l0, l1, l2] (.int 0 :: S) st P := zq_iconst (zd_of zb_L_drawing dL_drawing_14) (by decide)
theorem E_L_drawing_15 : AW X d 126 15 [l0, l1, l2] ([.int x]) st P = P (.inl (some (.int x))) st := zAW_ret (w := (.inl (some (.int x)), st)) (zd_of zb_L_drawing dL_drawing_15) rfl rfl (by simp only [zfin, zr_L_drawing])
theorem A_L_drawing (h1 : zc1 v1 = true) (h2 : zc1 v2 = true) : AC X (d + 1) 126 [v1, v2] st P = AW X d 126 0 [v1, v2, .retAddr 0] [] st P := AC_eq ⟨⟨(show 2 ≤ zml 126 by decide +kernel), by decide +kernel⟩, by simp [zc1_int, zc1_ref, zc1_float, h1, h2]⟩
theorem E_L_stroke_0 : AW X d 127 0 [l0, l1, l2, l3, .ref a, l5] S st P = AW X d 127 2 [l0, l1, l2, l3, .ref a, l5] (.ref a :: S) st P := zAW_st (zd_of zb_L_stroke dL_stroke_0) rfl rfl
theorem E_L_stroke_0n : AW X d 127 0 [l0, l1, l2, l3, .null, l5] S st P = AW X d 127 2 [l0, l1, l2, l3, .null, l5] (.null :: S) st P := zAW_st (zd_of zb_L_stroke dL_stroke_0) rfl rfl
theorem E_L_stroke_2 : AW X d 127 2 [l0, l1, l2, l3, l4, l5] S st P = AW X d 127 3 [l0, l1, l2, l3, l4, l5] (.int 0 :: S) st P := zq_iconst (zd_of zb_L_stroke dL_stroke_2) (by decide)
theorem E_L_stroke_3 : AW X d 127 3 [.ref a, l1, l2, l3, l4, l5] S st P = AW X d 127 4 [.ref a, l1, l2, l3, l4, l5] (.ref a :: S) st P := zAW_st (zd_of zb_L_stroke dL_stroke_3) rfl rfl
theorem E_L_stroke_3n : AW X d 127 3 [.null, l1, l2, l3, l4, l5] S st P = AW X d 127 4 [.null, l1, l2, l3, l4, l5] (.null :: S) st P := zAW_st (zd_of zb_L_stroke dL_stroke_3) rfl rfl
theorem E_L_stroke_4 : AW X d 127 4 [l0, .int x, l2, l3, l4, l5] S st P = AW X d 127 5 [l0, .int x, l2, l3, l4, l5] (.int x :: S) st P := zAW_st (zd_of zb_L_stroke dL_stroke_4) rfl rfl
theorem E_L_stroke_5 : AW X d 127 5 [l0, l1, .int x, l3, l4, l5] S st P = AW X d 127 6 [l0, l1, .int x, l3, l4, l5] (.int x :: S) st P := zAW_st (zd_of zb_L_stroke dL_stroke_5) rfl rfl
theorem E_L_stroke_6 : AW X d 127 6 [l0, l1, l2, .int x, l4, l5] S st P = AW X d 127 7 [l0, l1, l2, .int x, l4, l5] (.int x :: S) st P := zAW_st (zd_of zb_L_stroke dL_stroke_6) rfl rfl
theorem E_L_stroke_7 : AW X d 127 7 [l0, l1, l2, l3, l4, l5] (.int x3 :: .int y :: .int x :: .ref a :: S) st P = zif (zis st a 6 = true) (zif (S.length ≤ 4) (AC X d 49 [.ref a, .int x, .int y, .int x3] st (zaft X d 127 7 [l0, l1, l2, l3, l4, l5] S P))) := zq_callV (B := [.int x, .int y, .int x3]) (zd_of zb_L_stroke dL_stroke_7) zo_L_stroke (by decide) zl_15_15 zn_49 rfl rfl rfl
theorem E_L_stroke_10 : AW X d 127 10 [l0, l1, l2, l3, l4, l5] (.int x :: S) st P = AW X d 127 11 [l0, l1, l2, l3, l4, l5] (.long x.toInt64 :: S) st P := zAW_st (zd_of zb_L_stroke dL_stroke_10) rfl rfl
theorem E_L_stroke_11 : AW X d 127 11 [l0, l1, l2, l3, l4, l5] (.long q1 :: .int x :: .ref a :: S) st P = zwith (zaL st a) fun q => zwith (zix x q.1) fun j => AW X d 127 12 [l0, l1, l2, l3, l4, l5] S (zsta st a (q.1, .inr (.inl (vp_updL q.2 j q1)))) P := zq_lastore (zd_of zb_L_stroke dL_stroke_11)
theorem E_L_stroke_12 : AW X d 127 12 [l0, l1, l2, l3, l4, l5] S st P = AW X d 127 27 [l0, l1, l2, l3, l4, l5] S st P := zq_goto (zd_of zb_L_stroke dL_stroke_12) (by decide)
theorem E_L_stroke_15 : AW X d 127 15 [l0, l1, l2, l3, l4, l5] (.ref a :: S) st P = AW X d 127 17 [l0, l1, l2, l3, l4, .ref a] S st P := zAW_st (zd_of zb_L_stroke dL_stroke_15) rfl rfl
theorem E_L_stroke_15n : AW X d 127 15 [l0, l1, l2, l3, l4, l5] (.null :: S) st P = AW X d 127 17 [l0, l1, l2, l3, l4, .null] S st P := zAW_st (zd_of zb_L_stroke dL_stroke_15) rfl rfl
theorem E_L_stroke_17 : AW X d 127 17 [l0, l1, l2, l3, l4, l5] S st P = AW X d 127 18 [l0, l1, l2, l3, l4, l5] (.int 1 :: S) st P := zq_iconst (zd_of zb_L_stroke dL_stroke_17) (by decide)
theorem E_L_stroke_18 : AW X d 127 18 [l0, l1, l2, l3, l4, l5] ([.int x]) st P = P (.inl (some (.int x))) st := zAW_ret (w := (.inl (some (.int x)), st)) (zd_of zb_L_stroke dL_stroke_18) rfl rfl (by simp only [zfin, zr_L_stroke])
theorem E_L_stroke_19 : AW X d 127 19 [l0, l1, l2, l3, l4, l5] (.ref a :: S) st P = AW X d 127 21 [l0, l1, l2, l3, l4, .ref a] S st P := zAW_st (zd_of zb_L_stroke dL_stroke_19) rfl rfl
theorem E_L_stroke_19n : AW X d 127 19 [l0, l1, l2, l3, l4, l5] (.null :: S) st P = AW X d 127 21 [l0, l1, l2, l3, l4, .null] S st P := zAW_st (zd_of zb_L_stroke dL_stroke_19) rfl rfl
theorem E_L_stroke_21 : AW X d 127 21 [l0, l1, l2, l3, l4, l5] S st P = AW X d 127 22 [l0, l1, l2, l3, l4, l5] (.int 2 :: S) st P := zq_iconst (zd_of zb_L_stroke dL_stroke_21) (by decide)
theorem E_L_stroke_22 : AW X d 127 22 [l0, l1, l2, l3, l4, l5] ([.int x]) st P = P (.inl (some (.int x))) st := zAW_ret (w := (.inl (some (.int x)), st)) (zd_of zb_L_stroke dL_stroke_22) rfl rfl (by simp only [zfin, zr_L_stroke])
theorem E_L_stroke_23 : AW X d 127 23 [l0, l1, l2, l3, l4, l5] (.ref a :: S) st P = AW X d 127 25 [l0, l1, l2, l3, l4, .ref a] S st P := zAW_st (zd_of zb_L_stroke dL_stroke_23) rfl rfl
theorem E_L_stroke_23n : AW X d 127 23 [l0, l1, l2, l3, l4, l5] (.null :: S) st P = AW X d 127 25 [l0, l1, l2, l3, l4, .null] S st P := zAW_st (zd_of zb_L_stroke dL_stroke_23) rfl rfl
theorem E_L_stroke_25 : AW X d 127 25 [l0, l1, l2, l3, l4, l5] S st P = AW X d 127 26 [l0, l1, l2, l3, l4, l5] (.int 3 :: S) st P := zq_iconst (zd_of zb_L_stroke dL_stroke_25) (by decide)
theorem E_L_stroke_26 : AW X d 127 26 [l0, l1, l2, l3, l4, l5] ([.int x]) st P = P (.inl (some (.int x))) st := zAW_ret (w := (.inl (some (.int x)), st)) (zd_of zb_L_stroke dL_stroke_26) rfl rfl (by simp only [zfin, zr_L_stroke])
theorem E_L_stroke_27 : AW X d 127 27 [l0, l1, l2, l3, l4, l5] S st P = AW X d 127 28 [l0, l1, l2, l3, l4, l5] (.int 0 :: S) st P := zq_iconst (zd_of zb_L_stroke dL_stroke_27) (by decide)
theorem E_L_stroke_28 : AW X d 127 28 [l0, l1, l2, l3, l4, l5] ([.int x]) st P = P (.inl (some (.int x))) st := zAW_ret (w := (.inl (some (.int x)), st)) (zd_of zb_L_stroke dL_stroke_28) rfl rfl (by simp only [zfin, zr_L_stroke])
theorem A_L_stroke (h1 : zc1 v1 = true) (h2 : zc1 v2 = true) : AC X (d + 1) 127 [v1, .int x, .int y, .int x3, v2] st P = AW X d 127 0 [v1, .int x, .int y, .int x3, v2, .retAddr 0] [] st P := AC_eq ⟨⟨(show 5 ≤ zml 127 by decide +kernel), by decide +kernel⟩, by simp [zc1_int, zc1_ref, zc1_float, h1, h2]⟩
theorem E_L_finish_0 : AW X d 128 0 [l0, l1, .ref a, l3] S st P = AW X d 128 1 [l0, l1, .ref a, l3] (.ref a :: S) st P := zAW_st (zd_of zb_L_finish dL_finish_0) rfl rfl
theorem E_L_finish_0n : AW X d 128 0 [l0, l1, .null, l3] S st P = AW X d 128 1 [l0, l1, .null, l3] (.null :: S) st P := zAW_st (zd_of zb_L_finish dL_finish_0) rfl rfl
theorem E_L_finish_1 : AW X d 128 1 [l0, l1, l2, l3] S st P = AW X d 128 2 [l0, l1, l2, l3] (.int 0 :: S) st P := zq_iconst (zd_of zb_L_finish dL_finish_1) (by decide)
theorem E_L_finish_2 : AW X d 128 2 [.ref a, l1, l2, l3] S st P = AW X d 128 3 [.ref a, l1, l2, l3] (.ref a :: S) st P := zAW_st (zd_of zb_L_finish dL_finish_2) rfl rfl
theorem E_L_finish_2n : AW X d 128 2 [.null, l1, l2, l3] S st P = AW X d 128 3 [.null, l1, l2, l3] (.null :: S) st P := zAW_st (zd_of zb_L_finish dL_finish_2) rfl rfl
theorem E_L_finish_3 : AW X d 128 3 [l0, .int x, l2, l3] S st P = AW X d 128 4 [l0, .int x, l2, l3] (.int x :: S) st P := zAW_st (zd_of zb_L_finish dL_finish_3) rfl rfl
theorem E_L_finish_4 : AW X d 128 4 [l0, l1, l2, l3] (.int x :: .ref a :: S) st P = zif (zis st a 6 = true) (zif (S.length ≤ 4) (AC X d 50 [.ref a, .int x] st (zaft X d 128 4 [l0, l1, l2, l3] S P))) := zq_callV (B := [.int x]) (zd_of zb_L_finish dL_finish_4) zo_L_finish (by decide) zl_15_23 zn_50 rfl rfl rfl
theorem E_L_finish_7 : AW X d 128 7 [l0, l1, l2, l3] (.int x :: S) st P = AW X d 128 8 [l0, l1, l2, l3] (.long x.toInt64 :: S) st P := zAW_st (zd_of zb_L_finish dL_finish_7) rfl rfl
theorem E_L_finish_8 : AW X d 128 8 [l0, l1, l2, l3] (.long q1 :: .int x :: .ref a :: S) st P = zwith (zaL st a) fun q => zwith (zix x q.1) fun j => AW X d 128 9 [l0, l1, l2, l3] S (zsta st a (q.1, .inr (.inl (vp_updL q.2 j q1)))) P := zq_lastore (zd_of zb_L_finish dL_finish_8)
theorem E_L_finish_9 : AW X d 128 9 [l0, l1, l2, l3] S st P = AW X d 128 18 [l0, l1, l2, l3] S st P := zq_goto (zd_of zb_L_finish dL_finish_9) (by decide)
theorem E_L_finish_12 : AW X d 128 12 [l0, l1, l2, l3] (.ref a :: S) st P = AW X d 128 13 [l0, l1, l2, .ref a] S st P := zAW_st (zd_of zb_L_finish dL_finish_12) rfl rfl
theorem E_L_finish_12n : AW X d 128 12 [l0, l1, l2, l3] (.null :: S) st P = AW X d 128 13 [l0, l1, l2, .null] S st P := zAW_st (zd_of zb_L_finish dL_finish_12) rfl rfl
theorem E_L_finish_13 : AW X d 128 13 [l0, l1, l2, l3] S st P = AW X d 128 14 [l0, l1, l2, l3] (.int 1 :: S) st P := zq_iconst (zd_of zb_L_finish dL_finish_13) (by decide)
theorem E_L_finish_14 : AW X d 128 14 [l0, l1, l2, l3] ([.int x]) st P = P (.inl (some (.int x))) st := zAW_ret (w := (.inl (some (.int x)), st)) (zd_of zb_L_finish dL_finish_14) rfl rfl (by simp only [zfin, zr_L_finish])
theorem E_L_finish_15 : AW X d 128 15 [l0, l1, l2, l3] (.ref a :: S) st P = AW X d 128 16 [l0, l1, l2, .ref a] S st P := zAW_st (zd_of zb_L_finish dL_finish_15) rfl rfl
theorem E_L_finish_15n : AW X d 128 15 [l0, l1, l2, l3] (.null :: S) st P = AW X d 128 16 [l0, l1, l2, .null] S st P := zAW_st (zd_of zb_L_finish dL_finish_15) rfl rfl
theorem E_L_finish_16 : AW X d 128 16 [l0, l1, l2, l3] S st P = AW X d 128 17 [l0, l1, l2, l3] (.int 2 :: S) st P := zq_iconst (zd_of zb_L_finish dL_finish_16) (by decide)
theorem E_L_finish_17 : AW X d 128 17 [l0, l1, l2, l3] ([.int x]) st P = P (.inl (some (.int x))) st := zAW_ret (w := (.inl (some (.int x)), st)) (zd_of zb_L_finish dL_finish_17) rfl rfl (by simp only [zfin, zr_L_finish])
theorem E_L_finish_18 : AW X d 128 18 [l0, l1, l2, l3] S st P = AW X d 128 19 [l0, l1, l2, l3] (.int 0 :: S) st P := zq_iconst (zd_of zb_L_finish dL_finish_18) (by decide)
theorem E_L_finish_19 : AW X d 128 19 [l0, l1, l2, l3] ([.int x]) st P = P (.inl (some (.int x))) st := zAW_ret (w := (.inl (some (.int x)), st)) (zd_of zb_L_finish dL_finish_19) rfl rfl (by simp only [zfin, zr_L_finish])
theorem A_L_finish (h1 : zc1 v1 = true) (h2 : zc1 v2 = true) : AC X (d + 1) 128 [v1, .int x, v2] st P = AW X d 128 0 [v1, .int x, v2, .retAddr 0] [] st P := AC_eq ⟨⟨(show 3 ≤ zml 128 by decide +kernel), by decide +kernel⟩, by simp [zc1_int, zc1_ref, zc1_float, h1, h2]⟩
theorem E_L_redraw_0 : AW X d 129 0 [l0, l1, .ref a, l3] S st P = AW X d 129 1 [l0, l1, .ref a, l3] (.ref a :: S) st P := zAW_st (zd_of zb_L_redraw dL_redraw_0) rfl rfl
theorem E_L_redraw_0n : AW X d 129 0 [l0, l1, .null, l3] S st P = AW X d 129 1 [l0, l1, .null, l3] (.null :: S) st P := zAW_st (zd_of zb_L_redraw dL_redraw_0) rfl rfl
theorem E_L_redraw_1 : AW X d 129 1 [l0, l1, l2, l3] S st P = AW X d 129 2 [l0, l1, l2, l3] (.int 0 :: S) st P := zq_iconst (zd_of zb_L_redraw dL_redraw_1) (by decide)
theorem E_L_redraw_2 : AW X d 129 2 [.ref a, l1, l2, l3] S st P = AW X d 129 3 [.ref a, l1, l2, l3] (.ref a :: S) st P := zAW_st (zd_of zb_L_redraw dL_redraw_2) rfl rfl
theorem E_L_redraw_2n : AW X d 129 2 [.null, l1, l2, l3] S st P = AW X d 129 3 [.null, l1, l2, l3] (.null :: S) st P := zAW_st (zd_of zb_L_redraw dL_redraw_2) rfl rfl
theorem E_L_redraw_3 : AW X d 129 3 [l0, .int x, l2, l3] S st P = AW X d 129 4 [l0, .int x, l2, l3] (.int x :: S) st P := zAW_st (zd_of zb_L_redraw dL_redraw_3) rfl rfl
theorem E_L_redraw_4 : AW X d 129 4 [l0, l1, l2, l3] (.int x :: .ref a :: S) st P = zif (zis st a 6 = true) (zif (S.length ≤ 4) (AC X d 51 [.ref a, .int x] st (zaft X d 129 4 [l0, l1, l2, l3] S P))) := zq_callV (B := [.int x]) (zd_of zb_L_redraw dL_redraw_4) zo_L_redraw (by decide) zl_15_27 zn_51 rfl rfl rfl
theorem E_L_redraw_7 : AW X d 129 7 [l0, l1, l2, l3] (.int x :: S) st P = AW X d 129 8 [l0, l1, l2, l3] (.long x.toInt64 :: S) st P := zAW_st (zd_of zb_L_redraw dL_redraw_7) rfl rfl
theorem E_L_redraw_8 : AW X d 129 8 [l0, l1, l2, l3] (.long q1 :: .int x :: .ref a :: S) st P = zwith (zaL st a) fun q => zwith (zix x q.1) fun j => AW X d 129 9 [l0, l1, l2, l3] S (zsta st a (q.1, .inr (.inl (vp_updL q.2 j q1)))) P := zq_lastore (zd_of zb_L_redraw dL_redraw_8)
theorem E_L_redraw_9 : AW X d 129 9 [l0, l1, l2, l3] S st P = AW X d 129 18 [l0, l1, l2, l3] S st P := zq_goto (zd_of zb_L_redraw dL_redraw_9) (by decide)
theorem E_L_redraw_12 : AW X d 129 12 [l0, l1, l2, l3] (.ref a :: S) st P = AW X d 129 13 [l0, l1, l2, .ref a] S st P := zAW_st (zd_of zb_L_redraw dL_redraw_12) rfl rfl
theorem E_L_redraw_12n : AW X d 129 12 [l0, l1, l2, l3] (.null :: S) st P = AW X d 129 13 [l0, l1, l2, .null] S st P := zAW_st (zd_of zb_L_redraw dL_redraw_12) rfl rfl
theorem E_L_redraw_13 : AW X d 129 13 [l0, l1, l2, l3] S st P = AW X d 129 14 [l0, l1, l2, l3] (.int 1 :: S) st P := zq_iconst (zd_of zb_L_redraw dL_redraw_13) (by decide)
theorem E_L_redraw_14 : AW X d 129 14 [l0, l1, l2, l3] ([.int x]) st P = P (.inl (some (.int x))) st := zAW_ret (w := (.inl (some (.int x)), st)) (zd_of zb_L_redraw dL_redraw_14) rfl rfl (by simp only [zfin, zr_L_redraw])
theorem E_L_redraw_15 : AW X d 129 15 [l0, l1, l2, l3] (.ref a :: S) st P = AW X d 129 16 [l0, l1, l2, .ref a] S st P := zAW_st (zd_of zb_L_redraw dL_redraw_15) rfl rfl
theorem E_L_redraw_15n : AW X d 129 15 [l0, l1, l2, l3] (.null :: S) st P = AW X d 129 16 [l0, l1, l2, .null] S st P := zAW_st (zd_of zb_L_redraw dL_redraw_15) rfl rfl
theorem E_L_redraw_16 : AW X d 129 16 [l0, l1, l2, l3] S st P = AW X d 129 17 [l0, l1, l2, l3] (.int 2 :: S) st P := zq_iconst (zd_of zb_L_redraw dL_redraw_16) (by decide)
theorem E_L_redraw_17 : AW X d 129 17 [l0, l1, l2, l3] ([.int x]) st P = P (.inl (some (.int x))) st := zAW_ret (w := (.inl (some (.int x)), st)) (zd_of zb_L_redraw dL_redraw_17) rfl rfl (by simp only [zfin, zr_L_redraw])
theorem E_L_redraw_18 : AW X d 129 18 [l0, l1, l2, l3] S st P = AW X d 129 19 [l0, l1, l2, l3] (.int 0 :: S) st P := zq_iconst (zd_of zb_L_redraw dL_redraw_18) (by decide)
theorem E_L_redraw_19 : AW X d 129 19 [l0, l1, l2, l3] ([.int x]) st P = P (.inl (some (.int x))) st := zAW_ret (w := (.inl (some (.int x)), st)) (zd_of zb_L_redraw dL_redraw_19) rfl rfl (by simp only [zfin, zr_L_redraw])
theorem A_L_redraw (h1 : zc1 v1 = true) (h2 : zc1 v2 = true) : AC X (d + 1) 129 [v1, .int x, v2] st P = AW X d 129 0 [v1, .int x, v2, .retAddr 0] [] st P := AC_eq ⟨⟨(show 3 ≤ zml 129 by decide +kernel), by decide +kernel⟩, by simp [zc1_int, zc1_ref, zc1_float, h1, h2]⟩
theorem E_L_ofDrawing_0 : AW X d 130 0 [l0, l1, l2, .ref a, l4] S st P = AW X d 130 1 [l0, l1, l2, .ref a, l4] (.ref a :: S) st P := zAW_st (zd_of zb_L_ofDrawing dL_ofDrawing_0) rfl rfl
theorem E_L_ofDrawing_0n : AW X d 130 0 [l0, l1, l2, .null, l4] S st P = AW X d 130 1 [l0, l1, l2, .null, l4] (.null :: S) st P := zAW_st (zd_of zb_L_ofDrawing dL_ofDrawing_0) rfl rfl
theorem E_L_ofDrawing_1 : AW X d 130 1 [l0, l1, l2, l3, l4] S st P = AW X d 130 2 [l0, l1, l2, l3, l4] (.int 0 :: S) st P := zq_iconst (zd_of zb_L_ofDrawing dL_ofDrawing_1) (by decide)
theorem E_L_ofDrawing_2 : AW X d 130 2 [.ref a, l1, l2, l3, l4] S st P = AW X d 130 3 [.ref a, l1, l2, l3, l4] (.ref a :: S) st P := zAW_st (zd_of zb_L_ofDrawing dL_ofDrawing_2) rfl rfl
theorem E_L_ofDrawing_2n : AW X d 130 2 [.null, l1, l2, l3, l4] S st P = AW X d 130 3 [.null, l1, l2, l3, l4] (.null :: S) st P := zAW_st (zd_of zb_L_ofDrawing dL_ofDrawing_2) rfl rfl
theorem E_L_ofDrawing_3 : AW X d 130 3 [l0, .int x, l2, l3, l4] S st P = AW X d 130 4 [l0, .int x, l2, l3, l4] (.int x :: S) st P := zAW_st (zd_of zb_L_ofDrawing dL_ofDrawing_3) rfl rfl
theorem E_L_ofDrawing_4 : AW X d 130 4 [l0, l1, .int x, l3, l4] S st P = AW X d 130 5 [l0, l1, .int x, l3, l4] (.int x :: S) st P := zAW_st (zd_of zb_L_ofDrawing dL_ofDrawing_4) rfl rfl
theorem E_L_ofDrawing_5 : AW X d 130 5 [l0, l1, l2, l3, l4] (.int y :: .int x :: .ref a :: S) st P = zif (zis st a 6 = true) (zif (S.length ≤ 4) (AC X d 52 [.ref a, .int x, .int y] st (zaft X d 130 5 [l0, l1, l2, l3, l4] S P))) := zq_callV (B := [.int x, .int y]) (zd_of zb_L_ofDrawing dL_ofDrawing_5) zo_L_ofDrawing (by decide) zl_15_30 zn_52 rfl rfl rfl
theorem E_L_ofDrawing_8 : AW X d 130 8 [l0, l1, l2, l3, l4] (.int x :: S) st P = AW X d 130 9 [l0, l1, l2, l3, l4] (.long x.toInt64 :: S) st P := zAW_st (zd_of zb_L_ofDrawing dL_ofDrawing_8) rfl rfl
theorem E_L_ofDrawing_9 : AW X d 130 9 [l0, l1, l2, l3, l4] (.long q1 :: .int x :: .ref a :: S) st P = zwith (zaL st a) fun q => zwith (zix x q.1) fun j => AW X d 130 10 [l0, l1, l2, l3, l4] S (zsta st a (q.1, .inr (.inl (vp_updL q.2 j q1)))) P := zq_lastore (zd_of zb_L_ofDrawing dL_ofDrawing_9)
theorem E_L_ofDrawing_10 : AW X d 130 10 [l0, l1, l2, l3, l4] S st P = AW X d 130 21 [l0, l1, l2, l3, l4] S st P := zq_goto (zd_of zb_L_ofDrawing dL_ofDrawing_10) (by decide)
theorem E_L_ofDrawing_13 : AW X d 130 13 [l0, l1, l2, l3, l4] (.ref a :: S) st P = AW X d 130 15 [l0, l1, l2, l3, .ref a] S st P := zAW_st (zd_of zb_L_ofDrawing dL_ofDrawing_13) rfl rfl
theorem E_L_ofDrawing_13n : AW X d 130 13 [l0, l1, l2, l3, l4] (.null :: S) st P = AW X d 130 15 [l0, l1, l2, l3, .null] S st P := zAW_st (zd_of zb_L_ofDrawing dL_ofDrawing_13) rfl rfl
theorem E_L_ofDrawing_15 : AW X d 130 15 [l0, l1, l2, l3, l4] S st P = AW X d 130 16 [l0, l1, l2, l3, l4] (.int 1 :: S) st P := zq_iconst (zd_of zb_L_ofDrawing dL_ofDrawing_15) (by decide)
theorem E_L_ofDrawing_16 : AW X d 130 16 [l0, l1, l2, l3, l4] ([.int x]) st P = P (.inl (some (.int x))) st := zAW_ret (w := (.inl (some (.int x)), st)) (zd_of zb_L_ofDrawing dL_ofDrawing_16) rfl rfl (by simp only [zfin, zr_L_ofDrawing])
theorem E_L_ofDrawing_17 : AW X d 130 17 [l0, l1, l2, l3, l4] (.ref a :: S) st P = AW X d 130 19 [l0, l1, l2, l3, .ref a] S st P := zAW_st (zd_of zb_L_ofDrawing dL_ofDrawing_17) rfl rfl
theorem E_L_ofDrawing_17n : AW X d 130 17 [l0, l1, l2, l3, l4] (.null :: S) st P = AW X d 130 19 [l0, l1, l2, l3, .null] S st P := zAW_st (zd_of zb_L_ofDrawing dL_ofDrawing_17) rfl rfl
theorem E_L_ofDrawing_19 : AW X d 130 19 [l0, l1, l2, l3, l4] S st P = AW X d 130 20 [l0, l1, l2, l3, l4] (.int 2 :: S) st P := zq_iconst (zd_of zb_L_ofDrawing dL_ofDrawing_19) (by decide)
theorem E_L_ofDrawing_20 : AW X d 130 20 [l0, l1, l2, l3, l4] ([.int x]) st P = P (.inl (some (.int x))) st := zAW_ret (w := (.inl (some (.int x)), st)) (zd_of zb_L_ofDrawing dL_ofDrawing_20) rfl rfl (by simp only [zfin, zr_L_ofDrawing])
theorem E_L_ofDrawing_21 : AW X d 130 21 [l0, l1, l2, l3, l4] S st P = AW X d 130 22 [l0, l1, l2, l3, l4] (.int 0 :: S) st P := zq_iconst (zd_of zb_L_ofDrawing dL_ofDrawing_21) (by decide)
theorem E_L_ofDrawing_22 : AW X d 130 22 [l0, l1, l2, l3, l4] ([.int x]) st P = P (.inl (some (.int x))) st := zAW_ret (w := (.inl (some (.int x)), st)) (zd_of zb_L_ofDrawing dL_ofDrawing_22) rfl rfl (by simp only [zfin, zr_L_ofDrawing])
theorem A_L_ofDrawing (h1 : zc1 v1 = true) (h2 : zc1 v2 = true) : AC X (d + 1) 130 [v1, .int x, .int y, v2] st P = AW X d 130 0 [v1, .int x, .int y, v2, .retAddr 0] [] st P := AC_eq ⟨⟨(show 4 ≤ zml 130 by decide +kernel), by decide +kernel⟩, by simp [zc1_int, zc1_ref, zc1_float, h1, h2]⟩
theorem E_L_length_0 : AW X d 131 0 [l0, l1, .ref a, l3] S st P = AW X d 131 1 [l0, l1, .ref a, l3] (.ref a :: S) st P := zAW_st (zd_of zb_L_length dL_length_0) rfl rfl
theorem E_L_length_0n : AW X d 131 0 [l0, l1, .null, l3] S st P = AW X d 131 1 [l0, l1, .null, l3] (.null :: S) st P := zAW_st (zd_of zb_L_length dL_length_0) rfl rfl
theorem E_L_length_1 : AW X d 131 1 [l0, l1, l2, l3] S st P = AW X d 131 2 [l0, l1, l2, l3] (.int 0 :: S) st P := zq_iconst (zd_of zb_L_length dL_length_1) (by decide)
theorem E_L_length_2 : AW X d 131 2 [.ref a, l1, l2, l3] S st P = AW X d 131 3 [.ref a, l1, l2, l3] (.ref a :: S) st P := zAW_st (zd_of zb_L_length dL_length_2) rfl rfl
theorem E_L_length_2n : AW X d 131 2 [.null, l1, l2, l3] S st P = AW X d 131 3 [.null, l1, l2, l3] (.null :: S) st P := zAW_st (zd_of zb_L_length dL_length_2) rfl rfl
theorem E_L_length_3 : AW X d 131 3 [l0, .int x, l2, l3] S st P = AW X d 131 4 [l0, .int x, l2, l3] (.int x :: S) st P := zAW_st (zd_of zb_L_length dL_length_3) rfl rfl
theorem E_L_length_4 : AW X d 131 4 [l0, l1, l2, l3] (.int x :: .ref a :: S) st P = zif (zis st a 6 = true) (zif (S.length ≤ 4) (AC X d 53 [.ref a, .int x] st (zaft X d 131 4 [l0, l1, l2, l3] S P))) := zq_callV (B := [.int x]) (zd_of zb_L_length dL_length_4) zo_L_length (by decide) zl_15_34 zn_53 rfl rfl rfl
theorem E_L_length_7 : AW X d 131 7 [l0, l1, l2, l3] (.float u :: S) st P = zif (zn64 (FP.f2d u) = true) (AW X d 131 8 [l0, l1, l2, l3] (.double (FP.f2d u) :: S) st P) := zq_f2d (zd_of zb_L_length dL_length_7)
theorem E_L_length_8 : AW X d 131 8 [l0, l1, l2, l3] (.double w :: .int x :: .ref a :: S) st P = zwith (zaD st a) fun q => zwith (zix x q.1) fun j => AW X d 131 9 [l0, l1, l2, l3] S (zsta st a (q.1, .inr (.inr (.inr (.inl (vf_upd q.2 j w)))))) P := zq_dastore (zd_of zb_L_length dL_length_8)
theorem E_L_length_9 : AW X d 131 9 [l0, l1, l2, l3] S st P = AW X d 131 15 [l0, l1, l2, l3] S st P := zq_goto (zd_of zb_L_length dL_length_9) (by decide)
theorem E_L_length_12 : AW X d 131 12 [l0, l1, l2, l3] (.ref a :: S) st P = AW X d 131 13 [l0, l1, l2, .ref a] S st P := zAW_st (zd_of zb_L_length dL_length_12) rfl rfl
theorem E_L_length_12n : AW X d 131 12 [l0, l1, l2, l3] (.null :: S) st P = AW X d 131 13 [l0, l1, l2, .null] S st P := zAW_st (zd_of zb_L_length dL_length_12) rfl rfl
theorem E_L_length_13 : AW X d 131 13 [l0, l1, l2, l3] S st P = AW X d 131 14 [l0, l1, l2, l3] (.int 1 :: S) st P := zq_iconst (zd_of zb_L_length dL_length_13) (by decide)
theorem E_L_length_14 : AW X d 131 14 [l0, l1, l2, l3] ([.int x]) st P = P (.inl (some (.int x))) st := zAW_ret (w := (.inl (some (.int x)), st)) (zd_of zb_L_length dL_length_14) rfl rfl (by simp only [zfin, zr_L_length])
theorem E_L_length_15 : AW X d 131 15 [l0, l1, l2, l3] S st P = AW X d 131 16 [l0, l1, l2, l3] (.int 0 :: S) st P := zq_iconst (zd_of zb_L_length dL_length_15) (by decide)
theorem E_L_length_16 : AW X d 131 16 [l0, l1, l2, l3] ([.int x]) st P = P (.inl (some (.int x))) st := zAW_ret (w := (.inl (some (.int x)), st)) (zd_of zb_L_length dL_length_16) rfl rfl (by simp only [zfin, zr_L_length])
theorem A_L_length (h1 : zc1 v1 = true) (h2 : zc1 v2 = true) : AC X (d + 1) 131 [v1, .int x, v2] st P = AW X d 131 0 [v1, .int x, v2, .retAddr 0] [] st P := AC_eq ⟨⟨(show 3 ≤ zml 131 by decide +kernel), by decide +kernel⟩, by simp [zc1_int, zc1_ref, zc1_float, h1, h2]⟩
theorem E_L_sheet_0 : AW X d 132 0 [l0, l1, l2, .ref a, l4] S st P = AW X d 132 1 [l0, l1, l2, .ref a, l4] (.ref a :: S) st P := zAW_st (zd_of zb_L_sheet dL_sheet_0) rfl rfl
theorem E_L_sheet_0n : AW X d 132 0 [l0, l1, l2, .null, l4] S st P = AW X d 132 1 [l0, l1, l2, .null, l4] (.null :: S) st P := zAW_st (zd_of zb_L_sheet dL_sheet_0) rfl rfl
theorem E_L_sheet_1 : AW X d 132 1 [l0, l1, l2, l3, l4] S st P = AW X d 132 2 [l0, l1, l2, l3, l4] (.int 0 :: S) st P := zq_iconst (zd_of zb_L_sheet dL_sheet_1) (by decide)
theorem E_L_sheet_2 : AW X d 132 2 [.ref a, l1, l2, l3, l4] S st P = AW X d 132 3 [.ref a, l1, l2, l3, l4] (.ref a :: S) st P := zAW_st (zd_of zb_L_sheet dL_sheet_2) rfl rfl
theorem E_L_sheet_2n : AW X d 132 2 [.null, l1, l2, l3, l4] S st P = AW X d 132 3 [.null, l1, l2, l3, l4] (.null :: S) st P := zAW_st (zd_of zb_L_sheet dL_sheet_2) rfl rfl
theorem E_L_sheet_3 : AW X d 132 3 [l0, .int x, l2, l3, l4] S st P = AW X d 132 4 [l0, .int x, l2, l3, l4] (.int x :: S) st P := zAW_st (zd_of zb_L_sheet dL_sheet_3) rfl rfl
theorem E_L_sheet_4 : AW X d 132 4 [l0, l1, .int x, l3, l4] S st P = AW X d 132 5 [l0, l1, .int x, l3, l4] (.int x :: S) st P := zAW_st (zd_of zb_L_sheet dL_sheet_4) rfl rfl
theorem E_L_sheet_5 : AW X d 132 5 [l0, l1, l2, l3, l4] (.int y :: .int x :: .ref a :: S) st P = zif (zis st a 6 = true) (zif (S.length ≤ 4) (AC X d 54 [.ref a, .int x, .int y] st (zaft X d 132 5 [l0, l1, l2, l3, l4] S P))) := zq_callV (B := [.int x, .int y]) (zd_of zb_L_sheet dL_sheet_5) zo_L_sheet (by decide) zl_15_38 zn_54 rfl rfl rfl
theorem E_L_sheet_8 : AW X d 132 8 [l0, l1, l2, l3, l4] (.int x :: S) st P = AW X d 132 9 [l0, l1, l2, l3, l4] (.long x.toInt64 :: S) st P := zAW_st (zd_of zb_L_sheet dL_sheet_8) rfl rfl
theorem E_L_sheet_9 : AW X d 132 9 [l0, l1, l2, l3, l4] (.long q1 :: .int x :: .ref a :: S) st P = zwith (zaL st a) fun q => zwith (zix x q.1) fun j => AW X d 132 10 [l0, l1, l2, l3, l4] S (zsta st a (q.1, .inr (.inl (vp_updL q.2 j q1)))) P := zq_lastore (zd_of zb_L_sheet dL_sheet_9)
theorem E_L_sheet_10 : AW X d 132 10 [l0, l1, l2, l3, l4] S st P = AW X d 132 21 [l0, l1, l2, l3, l4] S st P := zq_goto (zd_of zb_L_sheet dL_sheet_10) (by decide)
theorem E_L_sheet_13 : AW X d 132 13 [l0, l1, l2, l3, l4] (.ref a :: S) st P = AW X d 132 15 [l0, l1, l2, l3, .ref a] S st P := zAW_st (zd_of zb_L_sheet dL_sheet_13) rfl rfl
theorem E_L_sheet_13n : AW X d 132 13 [l0, l1, l2, l3, l4] (.null :: S) st P = AW X d 132 15 [l0, l1, l2, l3, .null] S st P := zAW_st (zd_of zb_L_sheet dL_sheet_13) rfl rfl
theorem E_L_sheet_15 : AW X d 132 15 [l0, l1, l2, l3, l4] S st P = AW X d 132 16 [l0, l1, l2, l3, l4] (.int 1 :: S) st P := zq_iconst (zd_of zb_L_sheet dL_sheet_15) (by decide)
theorem E_L_sheet_16 : AW X d 132 16 [l0, l1, l2, l3, l4] ([.int x]) st P = P (.inl (some (.int x))) st := zAW_ret (w := (.inl (some (.int x)), st)) (zd_of zb_L_sheet dL_sheet_16) rfl rfl (by simp only [zfin, zr_L_sheet])
theorem E_L_sheet_17 : AW X d 132 17 [l0, l1, l2, l3, l4] (.ref a :: S) st P = AW X d 132 19 [l0, l1, l2, l3, .ref a] S st P := zAW_st (zd_of zb_L_sheet dL_sheet_17) rfl rfl
theorem E_L_sheet_17n : AW X d 132 17 [l0, l1, l2, l3, l4] (.null :: S) st P = AW X d 132 19 [l0, l1, l2, l3, .null] S st P := zAW_st (zd_of zb_L_sheet dL_sheet_17) rfl rfl
theorem E_L_sheet_19 : AW X d 132 19 [l0, l1, l2, l3, l4] S st P = AW X d 132 20 [l0, l1, l2, l3, l4] (.int 2 :: S) st P := zq_iconst (zd_of zb_L_sheet dL_sheet_19) (by decide)
theorem E_L_sheet_20 : AW X d 132 20 [l0, l1, l2, l3, l4] ([.int x]) st P = P (.inl (some (.int x))) st := zAW_ret (w := (.inl (some (.int x)), st)) (zd_of zb_L_sheet dL_sheet_20) rfl rfl (by simp only [zfin, zr_L_sheet])
theorem E_L_sheet_21 : AW X d 132 21 [l0, l1, l2, l3, l4] S st P = AW X d 132 22 [l0, l1, l2, l3, l4] (.int 0 :: S) st P := zq_iconst (zd_of zb_L_sheet dL_sheet_21) (by decide)
theorem E_L_sheet_22 : AW X d 132 22 [l0, l1, l2, l3, l4] ([.int x]) st P = P (.inl (some (.int x))) st := zAW_ret (w := (.inl (some (.int x)), st)) (zd_of zb_L_sheet dL_sheet_22) rfl rfl (by simp only [zfin, zr_L_sheet])
theorem A_L_sheet (h1 : zc1 v1 = true) (h2 : zc1 v2 = true) : AC X (d + 1) 132 [v1, .int x, .int y, v2] st P = AW X d 132 0 [v1, .int x, .int y, v2, .retAddr 0] [] st P := AC_eq ⟨⟨(show 4 ≤ zml 132 by decide +kernel), by decide +kernel⟩, by simp [zc1_int, zc1_ref, zc1_float, h1, h2]⟩
theorem E_L_job_0 : AW X d 133 0 [l0, l1, l2, .ref a, l4] S st P = AW X d 133 1 [l0, l1, l2, .ref a, l4] (.ref a :: S) st P := zAW_st (zd_of zb_L_job dL_job_0) rfl rfl
theorem E_L_job_0n : AW X d 133 0 [l0, l1, l2, .null, l4] S st P = AW X d 133 1 [l0, l1, l2, .null, l4] (.null :: S) st P := zAW_st (zd_of zb_L_job dL_job_0) rfl rfl
theorem E_L_job_1 : AW X d 133 1 [l0, l1, l2, l3, l4] S st P = AW X d 133 2 [l0, l1, l2, l3, l4] (.int 0 :: S) st P := zq_iconst (zd_of zb_L_job dL_job_1) (by decide)
theorem E_L_job_2 : AW X d 133 2 [.ref a, l1, l2, l3, l4] S st P = AW X d 133 3 [.ref a, l1, l2, l3, l4] (.ref a :: S) st P := zAW_st (zd_of zb_L_job dL_job_2) rfl rfl
theorem E_L_job_2n : AW X d 133 2 [.null, l1, l2, l3, l4] S st P = AW X d 133 3 [.null, l1, l2, l3, l4] (.null :: S) st P := zAW_st (zd_of zb_L_job dL_job_2) rfl rfl
theorem E_L_job_3 : AW X d 133 3 [l0, .int x, l2, l3, l4] S st P = AW X d 133 4 [l0, .int x, l2, l3, l4] (.int x :: S) st P := zAW_st (zd_of zb_L_job dL_job_3) rfl rfl
theorem E_L_job_4 : AW X d 133 4 [l0, l1, .int x, l3, l4] S st P = AW X d 133 5 [l0, l1, .int x, l3, l4] (.int x :: S) st P := zAW_st (zd_of zb_L_job dL_job_4) rfl rfl
theorem E_L_job_5 : AW X d 133 5 [l0, l1, l2, l3, l4] (.int y :: .int x :: .ref a :: S) st P = zif (zis st a 6 = true) (zif (S.length ≤ 4) (AC X d 55 [.ref a, .int x, .int y] st (zaft X d 133 5 [l0, l1, l2, l3, l4] S P))) := zq_callV (B := [.int x, .int y]) (zd_of zb_L_job dL_job_5) zo_L_job (by decide) zl_15_41 zn_55 rfl rfl rfl
theorem E_L_job_8 : AW X d 133 8 [l0, l1, l2, l3, l4] (.int x :: S) st P = AW X d 133 9 [l0, l1, l2, l3, l4] (.long x.toInt64 :: S) st P := zAW_st (zd_of zb_L_job dL_job_8) rfl rfl
theorem E_L_job_9 : AW X d 133 9 [l0, l1, l2, l3, l4] (.long q1 :: .int x :: .ref a :: S) st P = zwith (zaL st a) fun q => zwith (zix x q.1) fun j => AW X d 133 10 [l0, l1, l2, l3, l4] S (zsta st a (q.1, .inr (.inl (vp_updL q.2 j q1)))) P := zq_lastore (zd_of zb_L_job dL_job_9)
theorem E_L_job_10 : AW X d 133 10 [l0, l1, l2, l3, l4] S st P = AW X d 133 25 [l0, l1, l2, l3, l4] S st P := zq_goto (zd_of zb_L_job dL_job_10) (by decide)
theorem E_L_job_13 : AW X d 133 13 [l0, l1, l2, l3, l4] (.ref a :: S) st P = AW X d 133 15 [l0, l1, l2, l3, .ref a] S st P := zAW_st (zd_of zb_L_job dL_job_13) rfl rfl
theorem E_L_job_13n : AW X d 133 13 [l0, l1, l2, l3, l4] (.null :: S) st P = AW X d 133 15 [l0, l1, l2, l3, .null] S st P := zAW_st (zd_of zb_L_job dL_job_13) rfl rfl
theorem E_L_job_15 : AW X d 133 15 [l0, l1, l2, l3, l4] S st P = AW X d 133 16 [l0, l1, l2, l3, l4] (.int 1 :: S) st P := zq_iconst (zd_of zb_L_job dL_job_15) (by decide)
theorem E_L_job_16 : AW X d 133 16 [l0, l1, l2, l3, l4] ([.int x]) st P = P (.inl (some (.int x))) st := zAW_ret (w := (.inl (some (.int x)), st)) (zd_of zb_L_job dL_job_16) rfl rfl (by simp only [zfin, zr_L_job])
theorem E_L_job_17 : AW X d 133 17 [l0, l1, l2, l3, l4] (.ref a :: S) st P = AW X d 133 19 [l0, l1, l2, l3, .ref a] S st P := zAW_st (zd_of zb_L_job dL_job_17) rfl rfl
theorem E_L_job_17n : AW X d 133 17 [l0, l1, l2, l3, l4] (.null :: S) st P = AW X d 133 19 [l0, l1, l2, l3, .null] S st P := zAW_st (zd_of zb_L_job dL_job_17) rfl rfl
theorem E_L_job_19 : AW X d 133 19 [l0, l1, l2, l3, l4] S st P = AW X d 133 20 [l0, l1, l2, l3, l4] (.int 2 :: S) st P := zq_iconst (zd_of zb_L_job dL_job_19) (by decide)
theorem E_L_job_20 : AW X d 133 20 [l0, l1, l2, l3, l4] ([.int x]) st P = P (.inl (some (.int x))) st := zAW_ret (w := (.inl (some (.int x)), st)) (zd_of zb_L_job dL_job_20) rfl rfl (by simp only [zfin, zr_L_job])
theorem E_L_job_21 : AW X d 133 21 [l0, l1, l2, l3, l4] (.ref a :: S) st P = AW X d 133 23 [l0, l1, l2, l3, .ref a] S st P := zAW_st (zd_of zb_L_job dL_job_21) rfl rfl
theorem E_L_job_21n : AW X d 133 21 [l0, l1, l2, l3, l4] (.null :: S) st P = AW X d 133 23 [l0, l1, l2, l3, .null] S st P := zAW_st (zd_of zb_L_job dL_job_21) rfl rfl
theorem E_L_job_23 : AW X d 133 23 [l0, l1, l2, l3, l4] S st P = AW X d 133 24 [l0, l1, l2, l3, l4] (.int 3 :: S) st P := zq_iconst (zd_of zb_L_job dL_job_23) (by decide)
theorem E_L_job_24 : AW X d 133 24 [l0, l1, l2, l3, l4] ([.int x]) st P = P (.inl (some (.int x))) st := zAW_ret (w := (.inl (some (.int x)), st)) (zd_of zb_L_job dL_job_24) rfl rfl (by simp only [zfin, zr_L_job])
theorem E_L_job_25 : AW X d 133 25 [l0, l1, l2, l3, l4] S st P = AW X d 133 26 [l0, l1, l2, l3, l4] (.int 0 :: S) st P := zq_iconst (zd_of zb_L_job dL_job_25) (by decide)
theorem E_L_job_26 : AW X d 133 26 [l0, l1, l2, l3, l4] ([.int x]) st P = P (.inl (some (.int x))) st := zAW_ret (w := (.inl (some (.int x)), st)) (zd_of zb_L_job dL_job_26) rfl rfl (by simp only [zfin, zr_L_job])
theorem A_L_job (h1 : zc1 v1 = true) (h2 : zc1 v2 = true) : AC X (d + 1) 133 [v1, .int x, .int y, v2] st P = AW X d 133 0 [v1, .int x, .int y, v2, .retAddr 0] [] st P := AC_eq ⟨⟨(show 4 ≤ zml 133 by decide +kernel), by decide +kernel⟩, by simp [zc1_int, zc1_ref, zc1_float, h1, h2]⟩
theorem E_L_cancel_0 : AW X d 134 0 [l0, l1, .ref a, l3] S st P = AW X d 134 1 [l0, l1, .ref a, l3] (.ref a :: S) st P := zAW_st (zd_of zb_L_cancel dL_cancel_0) rfl rfl
theorem E_L_cancel_0n : AW X d 134 0 [l0, l1, .null, l3] S st P = AW X d 134 1 [l0, l1, .null, l3] (.null :: S) st P := zAW_st (zd_of zb_L_cancel dL_cancel_0) rfl rfl
theorem E_L_cancel_1 : AW X d 134 1 [l0, l1, l2, l3] S st P = AW X d 134 2 [l0, l1, l2, l3] (.int 0 :: S) st P := zq_iconst (zd_of zb_L_cancel dL_cancel_1) (by decide)
theorem E_L_cancel_2 : AW X d 134 2 [.ref a, l1, l2, l3] S st P = AW X d 134 3 [.ref a, l1, l2, l3] (.ref a :: S) st P := zAW_st (zd_of zb_L_cancel dL_cancel_2) rfl rfl
theorem E_L_cancel_2n : AW X d 134 2 [.null, l1, l2, l3] S st P = AW X d 134 3 [.null, l1, l2, l3] (.null :: S) st P := zAW_st (zd_of zb_L_cancel dL_cancel_2) rfl rfl
theorem E_L_cancel_3 : AW X d 134 3 [l0, .int x, l2, l3] S st P = AW X d 134 4 [l0, .int x, l2, l3] (.int x :: S) st P := zAW_st (zd_of zb_L_cancel dL_cancel_3) rfl rfl
theorem E_L_cancel_4 : AW X d 134 4 [l0, l1, l2, l3] (.int x :: .ref a :: S) st P = zif (zis st a 6 = true) (zif (S.length ≤ 4) (AC X d 56 [.ref a, .int x] st (zaft X d 134 4 [l0, l1, l2, l3] S P))) := zq_callV (B := [.int x]) (zd_of zb_L_cancel dL_cancel_4) zo_L_cancel (by decide) zl_15_44 zn_56 rfl rfl rfl
theorem E_L_cancel_7 : AW X d 134 7 [l0, l1, l2, l3] (.int x :: S) st P = AW X d 134 8 [l0, l1, l2, l3] (.long x.toInt64 :: S) st P := zAW_st (zd_of zb_L_cancel dL_cancel_7) rfl rfl
theorem E_L_cancel_8 : AW X d 134 8 [l0, l1, l2, l3] (.long q1 :: .int x :: .ref a :: S) st P = zwith (zaL st a) fun q => zwith (zix x q.1) fun j => AW X d 134 9 [l0, l1, l2, l3] S (zsta st a (q.1, .inr (.inl (vp_updL q.2 j q1)))) P := zq_lastore (zd_of zb_L_cancel dL_cancel_8)
theorem E_L_cancel_9 : AW X d 134 9 [l0, l1, l2, l3] S st P = AW X d 134 18 [l0, l1, l2, l3] S st P := zq_goto (zd_of zb_L_cancel dL_cancel_9) (by decide)
theorem E_L_cancel_12 : AW X d 134 12 [l0, l1, l2, l3] (.ref a :: S) st P = AW X d 134 13 [l0, l1, l2, .ref a] S st P := zAW_st (zd_of zb_L_cancel dL_cancel_12) rfl rfl
theorem E_L_cancel_12n : AW X d 134 12 [l0, l1, l2, l3] (.null :: S) st P = AW X d 134 13 [l0, l1, l2, .null] S st P := zAW_st (zd_of zb_L_cancel dL_cancel_12) rfl rfl
theorem E_L_cancel_13 : AW X d 134 13 [l0, l1, l2, l3] S st P = AW X d 134 14 [l0, l1, l2, l3] (.int 1 :: S) st P := zq_iconst (zd_of zb_L_cancel dL_cancel_13) (by decide)
theorem E_L_cancel_14 : AW X d 134 14 [l0, l1, l2, l3] ([.int x]) st P = P (.inl (some (.int x))) st := zAW_ret (w := (.inl (some (.int x)), st)) (zd_of zb_L_cancel dL_cancel_14) rfl rfl (by simp only [zfin, zr_L_cancel])
theorem E_L_cancel_15 : AW X d 134 15 [l0, l1, l2, l3] (.ref a :: S) st P = AW X d 134 16 [l0, l1, l2, .ref a] S st P := zAW_st (zd_of zb_L_cancel dL_cancel_15) rfl rfl
theorem E_L_cancel_15n : AW X d 134 15 [l0, l1, l2, l3] (.null :: S) st P = AW X d 134 16 [l0, l1, l2, .null] S st P := zAW_st (zd_of zb_L_cancel dL_cancel_15) rfl rfl
theorem E_L_cancel_16 : AW X d 134 16 [l0, l1, l2, l3] S st P = AW X d 134 17 [l0, l1, l2, l3] (.int 2 :: S) st P := zq_iconst (zd_of zb_L_cancel dL_cancel_16) (by decide)
theorem E_L_cancel_17 : AW X d 134 17 [l0, l1, l2, l3] ([.int x]) st P = P (.inl (some (.int x))) st := zAW_ret (w := (.inl (some (.int x)), st)) (zd_of zb_L_cancel dL_cancel_17) rfl rfl (by simp only [zfin, zr_L_cancel])
theorem E_L_cancel_18 : AW X d 134 18 [l0, l1, l2, l3] S st P = AW X d 134 19 [l0, l1, l2, l3] (.int 0 :: S) st P := zq_iconst (zd_of zb_L_cancel dL_cancel_18) (by decide)
theorem E_L_cancel_19 : AW X d 134 19 [l0, l1, l2, l3] ([.int x]) st P = P (.inl (some (.int x))) st := zAW_ret (w := (.inl (some (.int x)), st)) (zd_of zb_L_cancel dL_cancel_19) rfl rfl (by simp only [zfin, zr_L_cancel])
theorem A_L_cancel (h1 : zc1 v1 = true) (h2 : zc1 v2 = true) : AC X (d + 1) 134 [v1, .int x, v2] st P = AW X d 134 0 [v1, .int x, v2, .retAddr 0] [] st P := AC_eq ⟨⟨(show 3 ≤ zml 134 by decide +kernel), by decide +kernel⟩, by simp [zc1_int, zc1_ref, zc1_float, h1, h2]⟩
theorem E_L_cut_0 : AW X d 135 0 [l0, l1, .ref a, l3] S st P = AW X d 135 1 [l0, l1, .ref a, l3] (.ref a :: S) st P := zAW_st (zd_of zb_L_cut dL_cut_0) rfl rfl
theorem E_L_cut_0n : AW X d 135 0 [l0, l1, .null, l3] S st P = AW X d 135 1 [l0, l1, .null, l3] (.null :: S) st P := zAW_st (zd_of zb_L_cut dL_cut_0) rfl rfl
theorem E_L_cut_1 : AW X d 135 1 [l0, l1, l2, l3] S st P = AW X d 135 2 [l0, l1, l2, l3] (.int 0 :: S) st P := zq_iconst (zd_of zb_L_cut dL_cut_1) (by decide)
theorem E_L_cut_2 : AW X d 135 2 [.ref a, l1, l2, l3] S st P = AW X d 135 3 [.ref a, l1, l2, l3] (.ref a :: S) st P := zAW_st (zd_of zb_L_cut dL_cut_2) rfl rfl
theorem E_L_cut_2n : AW X d 135 2 [.null, l1, l2, l3] S st P = AW X d 135 3 [.null, l1, l2, l3] (.null :: S) st P := zAW_st (zd_of zb_L_cut dL_cut_2) rfl rfl
theorem E_L_cut_3 : AW X d 135 3 [l0, .int x, l2, l3] S st P = AW X d 135 4 [l0, .int x, l2, l3] (.int x :: S) st P := zAW_st (zd_of zb_L_cut dL_cut_3) rfl rfl
theorem E_L_cut_4 : AW X d 135 4 [l0, l1, l2, l3] (.int x :: .ref a :: S) st P = zif (zis st a 6 = true) (zif (S.length ≤ 4) (AC X d 57 [.ref a, .int x] st (zaft X d 135 4 [l0, l1, l2, l3] S P))) := zq_callV (B := [.int x]) (zd_of zb_L_cut dL_cut_4) zo_L_cut (by decide) zl_15_47 zn_57 rfl rfl rfl
theorem E_L_cut_7 : AW X d 135 7 [l0, l1, l2, l3] (.int x :: S) st P = AW X d 135 8 [l0, l1, l2, l3] (.long x.toInt64 :: S) st P := zAW_st (zd_of zb_L_cut dL_cut_7) rfl rfl
theorem E_L_cut_8 : AW X d 135 8 [l0, l1, l2, l3] (.long q1 :: .int x :: .ref a :: S) st P = zwith (zaL st a) fun q => zwith (zix x q.1) fun j => AW X d 135 9 [l0, l1, l2, l3] S (zsta st a (q.1, .inr (.inl (vp_updL q.2 j q1)))) P := zq_lastore (zd_of zb_L_cut dL_cut_8)
theorem E_L_cut_9 : AW X d 135 9 [l0, l1, l2, l3] S st P = AW X d 135 18 [l0, l1, l2, l3] S st P := zq_goto (zd_of zb_L_cut dL_cut_9) (by decide)
theorem E_L_cut_12 : AW X d 135 12 [l0, l1, l2, l3] (.ref a :: S) st P = AW X d 135 13 [l0, l1, l2, .ref a] S st P := zAW_st (zd_of zb_L_cut dL_cut_12) rfl rfl
theorem E_L_cut_12n : AW X d 135 12 [l0, l1, l2, l3] (.null :: S) st P = AW X d 135 13 [l0, l1, l2, .null] S st P := zAW_st (zd_of zb_L_cut dL_cut_12) rfl rfl
theorem E_L_cut_13 : AW X d 135 13 [l0, l1, l2, l3] S st P = AW X d 135 14 [l0, l1, l2, l3] (.int 1 :: S) st P := zq_iconst (zd_of zb_L_cut dL_cut_13) (by decide)
theorem E_L_cut_14 : AW X d 135 14 [l0, l1, l2, l3] ([.int x]) st P = P (.inl (some (.int x))) st := zAW_ret (w := (.inl (some (.int x)), st)) (zd_of zb_L_cut dL_cut_14) rfl rfl (by simp only [zfin, zr_L_cut])
theorem E_L_cut_15 : AW X d 135 15 [l0, l1, l2, l3] (.ref a :: S) st P = AW X d 135 16 [l0, l1, l2, .ref a] S st P := zAW_st (zd_of zb_L_cut dL_cut_15) rfl rfl
theorem E_L_cut_15n : AW X d 135 15 [l0, l1, l2, l3] (.null :: S) st P = AW X d 135 16 [l0, l1, l2, .null] S st P := zAW_st (zd_of zb_L_cut dL_cut_15) rfl rfl
theorem E_L_cut_16 : AW X d 135 16 [l0, l1, l2, l3] S st P = AW X d 135 17 [l0, l1, l2, l3] (.int 2 :: S) st P := zq_iconst (zd_of zb_L_cut dL_cut_16) (by decide)
theorem E_L_cut_17 : AW X d 135 17 [l0, l1, l2, l3] ([.int x]) st P = P (.inl (some (.int x))) st := zAW_ret (w := (.inl (some (.int x)), st)) (zd_of zb_L_cut dL_cut_17) rfl rfl (by simp only [zfin, zr_L_cut])
theorem E_L_cut_18 : AW X d 135 18 [l0, l1, l2, l3] S st P = AW X d 135 19 [l0, l1, l2, l3] (.int 0 :: S) st P := zq_iconst (zd_of zb_L_cut dL_cut_18) (by decide)
theorem E_L_cut_19 : AW X d 135 19 [l0, l1, l2, l3] ([.int x]) st P = P (.inl (some (.int x))) st := zAW_ret (w := (.inl (some (.int x)), st)) (zd_of zb_L_cut dL_cut_19) rfl rfl (by simp only [zfin, zr_L_cut])
theorem A_L_cut (h1 : zc1 v1 = true) (h2 : zc1 v2 = true) : AC X (d + 1) 135 [v1, .int x, v2] st P = AW X d 135 0 [v1, .int x, v2, .retAddr 0] [] st P := AC_eq ⟨⟨(show 3 ≤ zml 135 by decide +kernel), by decide +kernel⟩, by simp [zc1_int, zc1_ref, zc1_float, h1, h2]⟩
theorem E_L_ofJob_0 : AW X d 136 0 [l0, l1, l2, .ref a, l4] S st P = AW X d 136 1 [l0, l1, l2, .ref a, l4] (.ref a :: S) st P := zAW_st (zd_of zb_L_ofJob dL_ofJob_0) rfl rfl
theorem E_L_ofJob_0n : AW X d 136 0 [l0, l1, l2, .null, l4] S st P = AW X d 136 1 [l0, l1, l2, .null, l4] (.null :: S) st P := zAW_st (zd_of zb_L_ofJob dL_ofJob_0) rfl rfl
theorem E_L_ofJob_1 : AW X d 136 1 [l0, l1, l2, l3, l4] S st P = AW X d 136 2 [l0, l1, l2, l3, l4] (.int 0 :: S) st P := zq_iconst (zd_of zb_L_ofJob dL_ofJob_1) (by decide)
theorem E_L_ofJob_2 : AW X d 136 2 [.ref a, l1, l2, l3, l4] S st P = AW X d 136 3 [.ref a, l1, l2, l3, l4] (.ref a :: S) st P := zAW_st (zd_of zb_L_ofJob dL_ofJob_2) rfl rfl
theorem E_L_ofJob_2n : AW X d 136 2 [.null, l1, l2, l3, l4] S st P = AW X d 136 3 [.null, l1, l2, l3, l4] (.null :: S) st P := zAW_st (zd_of zb_L_ofJob dL_ofJob_2) rfl rfl
theorem E_L_ofJob_3 : AW X d 136 3 [l0, .int x, l2, l3, l4] S st P = AW X d 136 4 [l0, .int x, l2, l3, l4] (.int x :: S) st P := zAW_st (zd_of zb_L_ofJob dL_ofJob_3) rfl rfl
theorem E_L_ofJob_4 : AW X d 136 4 [l0, l1, .int x, l3, l4] S st P = AW X d 136 5 [l0, l1, .int x, l3, l4] (.int x :: S) st P := zAW_st (zd_of zb_L_ofJob dL_ofJob_4) rfl rfl
theorem E_L_ofJob_5 : AW X d 136 5 [l0, l1, l2, l3, l4] (.int y :: .int x :: .ref a :: S) st P = zif (zis st a 6 = true) (zif (S.length ≤ 4) (AC X d 58 [.ref a, .int x, .int y] st (zaft X d 136 5 [l0, l1, l2, l3, l4] S P))) := zq_callV (B := [.int x, .int y]) (zd_of zb_L_ofJob dL_ofJob_5) zo_L_ofJob (by decide) zl_15_50 zn_58 rfl rfl rfl
theorem E_L_ofJob_8 : AW X d 136 8 [l0, l1, l2, l3, l4] (.int x :: S) st P = AW X d 136 9 [l0, l1, l2, l3, l4] (.long x.toInt64 :: S) st P := zAW_st (zd_of zb_L_ofJob dL_ofJob_8) rfl rfl
theorem E_L_ofJob_9 : AW X d 136 9 [l0, l1, l2, l3, l4] (.long q1 :: .int x :: .ref a :: S) st P = zwith (zaL st a) fun q => zwith (zix x q.1) fun j => AW X d 136 10 [l0, l1, l2, l3, l4] S (zsta st a (q.1, .inr (.inl (vp_updL q.2 j q1)))) P := zq_lastore (zd_of zb_L_ofJob dL_ofJob_9)
theorem E_L_ofJob_10 : AW X d 136 10 [l0, l1, l2, l3, l4] S st P = AW X d 136 21 [l0, l1, l2, l3, l4] S st P := zq_goto (zd_of zb_L_ofJob dL_ofJob_10) (by decide)
theorem E_L_ofJob_13 : AW X d 136 13 [l0, l1, l2, l3, l4] (.ref a :: S) st P = AW X d 136 15 [l0, l1, l2, l3, .ref a] S st P := zAW_st (zd_of zb_L_ofJob dL_ofJob_13) rfl rfl
theorem E_L_ofJob_13n : AW X d 136 13 [l0, l1, l2, l3, l4] (.null :: S) st P = AW X d 136 15 [l0, l1, l2, l3, .null] S st P := zAW_st (zd_of zb_L_ofJob dL_ofJob_13) rfl rfl
theorem E_L_ofJob_15 : AW X d 136 15 [l0, l1, l2, l3, l4] S st P = AW X d 136 16 [l0, l1, l2, l3, l4] (.int 1 :: S) st P := zq_iconst (zd_of zb_L_ofJob dL_ofJob_15) (by decide)
theorem E_L_ofJob_16 : AW X d 136 16 [l0, l1, l2, l3, l4] ([.int x]) st P = P (.inl (some (.int x))) st := zAW_ret (w := (.inl (some (.int x)), st)) (zd_of zb_L_ofJob dL_ofJob_16) rfl rfl (by simp only [zfin, zr_L_ofJob])
theorem E_L_ofJob_17 : AW X d 136 17 [l0, l1, l2, l3, l4] (.ref a :: S) st P = AW X d 136 19 [l0, l1, l2, l3, .ref a] S st P := zAW_st (zd_of zb_L_ofJob dL_ofJob_17) rfl rfl
theorem E_L_ofJob_17n : AW X d 136 17 [l0, l1, l2, l3, l4] (.null :: S) st P = AW X d 136 19 [l0, l1, l2, l3, .null] S st P := zAW_st (zd_of zb_L_ofJob dL_ofJob_17) rfl rfl
theorem E_L_ofJob_19 : AW X d 136 19 [l0, l1, l2, l3, l4] S st P = AW X d 136 20 [l0, l1, l2, l3, l4] (.int 2 :: S) st P := zq_iconst (zd_of zb_L_ofJob dL_ofJob_19) (by decide)
theorem E_L_ofJob_20 : AW X d 136 20 [l0, l1, l2, l3, l4] ([.int x]) st P = P (.inl (some (.int x))) st := zAW_ret (w := (.inl (some (.int x)), st)) (zd_of zb_L_ofJob dL_ofJob_20) rfl rfl (by simp only [zfin, zr_L_ofJob])
theorem E_L_ofJob_21 : AW X d 136 21 [l0, l1, l2, l3, l4] S st P = AW X d 136 22 [l0, l1, l2, l3, l4] (.int 0 :: S) st P := zq_iconst (zd_of zb_L_ofJob dL_ofJob_21) (by decide)
theorem E_L_ofJob_22 : AW X d 136 22 [l0, l1, l2, l3, l4] ([.int x]) st P = P (.inl (some (.int x))) st := zAW_ret (w := (.inl (some (.int x)), st)) (zd_of zb_L_ofJob dL_ofJob_22) rfl rfl (by simp only [zfin, zr_L_ofJob])
theorem A_L_ofJob (h1 : zc1 v1 = true) (h2 : zc1 v2 = true) : AC X (d + 1) 136 [v1, .int x, .int y, v2] st P = AW X d 136 0 [v1, .int x, .int y, v2, .retAddr 0] [] st P := AC_eq ⟨⟨(show 4 ≤ zml 136 by decide +kernel), by decide +kernel⟩, by simp [zc1_int, zc1_ref, zc1_float, h1, h2]⟩
theorem E_L_where_0 : AW X d 137 0 [l0, l1, l2, l3, .ref a, l5] S st P = AW X d 137 2 [l0, l1, l2, l3, .ref a, l5] (.ref a :: S) st P := zAW_st (zd_of zb_L_where dL_where_0) rfl rfl
theorem E_L_where_0n : AW X d 137 0 [l0, l1, l2, l3, .null, l5] S st P = AW X d 137 2 [l0, l1, l2, l3, .null, l5] (.null :: S) st P := zAW_st (zd_of zb_L_where dL_where_0) rfl rfl
theorem E_L_where_2 : AW X d 137 2 [l0, l1, l2, l3, l4, l5] S st P = AW X d 137 3 [l0, l1, l2, l3, l4, l5] (.int 0 :: S) st P := zq_iconst (zd_of zb_L_where dL_where_2) (by decide)
theorem E_L_where_3 : AW X d 137 3 [.ref a, l1, l2, l3, l4, l5] S st P = AW X d 137 4 [.ref a, l1, l2, l3, l4, l5] (.ref a :: S) st P := zAW_st (zd_of zb_L_where dL_where_3) rfl rfl
theorem E_L_where_3n : AW X d 137 3 [.null, l1, l2, l3, l4, l5] S st P = AW X d 137 4 [.null, l1, l2, l3, l4, l5] (.null :: S) st P := zAW_st (zd_of zb_L_where dL_where_3) rfl rfl
theorem E_L_where_4 : AW X d 137 4 [l0, .int x, l2, l3, l4, l5] S st P = AW X d 137 5 [l0, .int x, l2, l3, l4, l5] (.int x :: S) st P := zAW_st (zd_of zb_L_where dL_where_4) rfl rfl
theorem E_L_where_5 : AW X d 137 5 [l0, l1, .int x, l3, l4, l5] S st P = AW X d 137 6 [l0, l1, .int x, l3, l4, l5] (.int x :: S) st P := zAW_st (zd_of zb_L_where dL_where_5) rfl rfl
theorem E_L_where_6 : AW X d 137 6 [l0, l1, l2, .int x, l4, l5] S st P = AW X d 137 7 [l0, l1, l2, .int x, l4, l5] (.int x :: S) st P := zAW_st (zd_of zb_L_where dL_where_6) rfl rfl
theorem E_L_where_7 : AW X d 137 7 [l0, l1, l2, l3, l4, l5] (.int x3 :: .int y :: .int x :: .ref a :: S) st P = zif (zis st a 6 = true) (zif (S.length ≤ 4) (AC X d 59 [.ref a, .int x, .int y, .int x3] st (zaft X d 137 7 [l0, l1, l2, l3, l4, l5] S P))) := zq_callV (B := [.int x, .int y, .int x3]) (zd_of zb_L_where dL_where_7) zo_L_where (by decide) zl_15_53 zn_59 rfl rfl rfl
theorem E_L_where_10 : AW X d 137 10 [l0, l1, l2, l3, l4, l5] (.int x :: S) st P = AW X d 137 11 [l0, l1, l2, l3, l4, l5] (.long x.toInt64 :: S) st P := zAW_st (zd_of zb_L_where dL_where_10) rfl rfl
theorem E_L_where_11 : AW X d 137 11 [l0, l1, l2, l3, l4, l5] (.long q1 :: .int x :: .ref a :: S) st P = zwith (zaL st a) fun q => zwith (zix x q.1) fun j => AW X d 137 12 [l0, l1, l2, l3, l4, l5] S (zsta st a (q.1, .inr (.inl (vp_updL q.2 j q1)))) P := zq_lastore (zd_of zb_L_where dL_where_11)
theorem E_L_where_12 : AW X d 137 12 [l0, l1, l2, l3, l4, l5] S st P = AW X d 137 23 [l0, l1, l2, l3, l4, l5] S st P := zq_goto (zd_of zb_L_where dL_where_12) (by decide)
theorem E_L_where_15 : AW X d 137 15 [l0, l1, l2, l3, l4, l5] (.ref a :: S) st P = AW X d 137 17 [l0, l1, l2, l3, l4, .ref a] S st P := zAW_st (zd_of zb_L_where dL_where_15) rfl rfl
theorem E_L_where_15n : AW X d 137 15 [l0, l1, l2, l3, l4, l5] (.null :: S) st P = AW X d 137 17 [l0, l1, l2, l3, l4, .null] S st P := zAW_st (zd_of zb_L_where dL_where_15) rfl rfl
theorem E_L_where_17 : AW X d 137 17 [l0, l1, l2, l3, l4, l5] S st P = AW X d 137 18 [l0, l1, l2, l3, l4, l5] (.int 1 :: S) st P := zq_iconst (zd_of zb_L_where dL_where_17) (by decide)
theorem E_L_where_18 : AW X d 137 18 [l0, l1, l2, l3, l4, l5] ([.int x]) st P = P (.inl (some (.int x))) st := zAW_ret (w := (.inl (some (.int x)), st)) (zd_of zb_L_where dL_where_18) rfl rfl (by simp only [zfin, zr_L_where])
theorem E_L_where_19 : AW X d 137 19 [l0, l1, l2, l3, l4, l5] (.ref a :: S) st P = AW X d 137 21 [l0, l1, l2, l3, l4, .ref a] S st P := zAW_st (zd_of zb_L_where dL_where_19) rfl rfl
theorem E_L_where_19n : AW X d 137 19 [l0, l1, l2, l3, l4, l5] (.null :: S) st P = AW X d 137 21 [l0, l1, l2, l3, l4, .null] S st P := zAW_st (zd_of zb_L_where dL_where_19) rfl rfl
theorem E_L_where_21 : AW X d 137 21 [l0, l1, l2, l3, l4, l5] S st P = AW X d 137 22 [l0, l1, l2, l3, l4, l5] (.int 2 :: S) st P := zq_iconst (zd_of zb_L_where dL_where_21) (by decide)
theorem E_L_where_22 : AW X d 137 22 [l0, l1, l2, l3, l4, l5] ([.int x]) st P = P (.inl (some (.int x))) st := zAW_ret (w := (.inl (some (.int x)), st)) (zd_of zb_L_where dL_where_22) rfl rfl (by simp only [zfin, zr_L_where])
theorem E_L_where_23 : AW X d 137 23 [l0, l1, l2, l3, l4, l5] S st P = AW X d 137 24 [l0, l1, l2, l3, l4, l5] (.int 0 :: S) st P := zq_iconst (zd_of zb_L_where dL_where_23) (by decide)
theorem E_L_where_24 : AW X d 137 24 [l0, l1, l2, l3, l4, l5] ([.int x]) st P = P (.inl (some (.int x))) st := zAW_ret (w := (.inl (some (.int x)), st)) (zd_of zb_L_where dL_where_24) rfl rfl (by simp only [zfin, zr_L_where])
theorem A_L_where (h1 : zc1 v1 = true) (h2 : zc1 v2 = true) : AC X (d + 1) 137 [v1, .int x, .int y, .int x3, v2] st P = AW X d 137 0 [v1, .int x, .int y, .int x3, v2, .retAddr 0] [] st P := AC_eq ⟨⟨(show 5 ≤ zml 137 by decide +kernel), by decide +kernel⟩, by simp [zc1_int, zc1_ref, zc1_float, h1, h2]⟩
theorem E_L_free_0 : AW X d 138 0 [l0, l1, .ref a, l3] S st P = AW X d 138 1 [l0, l1, .ref a, l3] (.ref a :: S) st P := zAW_st (zd_of zb_L_free dL_free_0) rfl rfl
theorem E_L_free_0n : AW X d 138 0 [l0, l1, .null, l3] S st P = AW X d 138 1 [l0, l1, .null, l3] (.null :: S) st P := zAW_st (zd_of zb_L_free dL_free_0) rfl rfl
theorem E_L_free_1 : AW X d 138 1 [l0, l1, l2, l3] S st P = AW X d 138 2 [l0, l1, l2, l3] (.int 0 :: S) st P := zq_iconst (zd_of zb_L_free dL_free_1) (by decide)
theorem E_L_free_2 : AW X d 138 2 [.ref a, l1, l2, l3] S st P = AW X d 138 3 [.ref a, l1, l2, l3] (.ref a :: S) st P := zAW_st (zd_of zb_L_free dL_free_2) rfl rfl
theorem E_L_free_2n : AW X d 138 2 [.null, l1, l2, l3] S st P = AW X d 138 3 [.null, l1, l2, l3] (.null :: S) st P := zAW_st (zd_of zb_L_free dL_free_2) rfl rfl
theorem E_L_free_3 : AW X d 138 3 [l0, .int x, l2, l3] S st P = AW X d 138 4 [l0, .int x, l2, l3] (.int x :: S) st P := zAW_st (zd_of zb_L_free dL_free_3) rfl rfl
theorem E_L_free_4 : AW X d 138 4 [l0, l1, l2, l3] (.int x :: .ref a :: S) st P = zif (zis st a 6 = true) (zif (S.length ≤ 4) (AC X d 60 [.ref a, .int x] st (zaft X d 138 4 [l0, l1, l2, l3] S P))) := zq_callV (B := [.int x]) (zd_of zb_L_free dL_free_4) zo_L_free (by decide) zl_15_56 zn_60 rfl rfl rfl
theorem E_L_free_7 : AW X d 138 7 [l0, l1, l2, l3] (.int x :: S) st P = AW X d 138 8 [l0, l1, l2, l3] (.long x.toInt64 :: S) st P := zAW_st (zd_of zb_L_free dL_free_7) rfl rfl
theorem E_L_free_8 : AW X d 138 8 [l0, l1, l2, l3] (.long q1 :: .int x :: .ref a :: S) st P = zwith (zaL st a) fun q => zwith (zix x q.1) fun j => AW X d 138 9 [l0, l1, l2, l3] S (zsta st a (q.1, .inr (.inl (vp_updL q.2 j q1)))) P := zq_lastore (zd_of zb_L_free dL_free_8)
theorem E_L_free_9 : AW X d 138 9 [l0, l1, l2, l3] S st P = AW X d 138 15 [l0, l1, l2, l3] S st P := zq_goto (zd_of zb_L_free dL_free_9) (by decide)
theorem E_L_free_12 : AW X d 138 12 [l0, l1, l2, l3] (.ref a :: S) st P = AW X d 138 13 [l0, l1, l2, .ref a] S st P := zAW_st (zd_of zb_L_free dL_free_12) rfl rfl
theorem E_L_free_12n : AW X d 138 12 [l0, l1, l2, l3] (.null :: S) st P = AW X d 138 13 [l0, l1, l2, .null] S st P := zAW_st (zd_of zb_L_free dL_free_12) rfl rfl
theorem E_L_free_13 : AW X d 138 13 [l0, l1, l2, l3] S st P = AW X d 138 14 [l0, l1, l2, l3] (.int 1 :: S) st P := zq_iconst (zd_of zb_L_free dL_free_13) (by decide)
theorem E_L_free_14 : AW X d 138 14 [l0, l1, l2, l3] ([.int x]) st P = P (.inl (some (.int x))) st := zAW_ret (w := (.inl (some (.int x)), st)) (zd_of zb_L_free dL_free_14) rfl rfl (by simp only [zfin, zr_L_free])
theorem E_L_free_15 : AW X d 138 15 [l0, l1, l2, l3] S st P = AW X d 138 16 [l0, l1, l2, l3] (.int 0 :: S) st P := zq_iconst (zd_of zb_L_free dL_free_15) (by decide)
theorem E_L_free_16 : AW X d 138 16 [l0, l1, l2, l3] ([.int x]) st P = P (.inl (some (.int x))) st := zAW_ret (w := (.inl (some (.int x)), st)) (zd_of zb_L_free dL_free_16) rfl rfl (by simp only [zfin, zr_L_free])
theorem A_L_free (h1 : zc1 v1 = true) (h2 : zc1 v2 = true) : AC X (d + 1) 138 [v1, .int x, v2] st P = AW X d 138 0 [v1, .int x, v2, .retAddr 0] [] st P := AC_eq ⟨⟨(show 3 ≤ zml 138 by decide +kernel), by decide +kernel⟩, by simp [zc1_int, zc1_ref, zc1_float, h1, h2]⟩
theorem E_L_law_0 : AW X d 139 0 [l0, l1, l2, l3, l4, l5, l6, l7, l8, l9] S st P = AW X d 139 3 [l0, l1, l2, l3, l4, l5, l6, l7, l8, l9] (.ref st.2.length :: S) (znew st 6) P := zq_new (zd_of zb_L_law dL_law_0) zo_L_law (by decide +kernel)
theorem E_L_law_3 : AW X d 139 3 [l0, l1, l2, l3, l4, l5, l6, l7, l8, l9] (.ref a :: S) st P = AW X d 139 4 [l0, l1, l2, l3, l4, l5, l6, l7, l8, l9] (.ref a :: .ref a :: S) st P := zq_dup (zd_of zb_L_law dL_law_3) rfl
theorem E_L_law_3n : AW X d 139 3 [l0, l1, l2, l3, l4, l5, l6, l7, l8, l9] (.null :: S) st P = AW X d 139 4 [l0, l1, l2, l3, l4, l5, l6, l7, l8, l9] (.null :: .null :: S) st P := zq_dup (zd_of zb_L_law dL_law_3) rfl
theorem E_L_law_3i : AW X d 139 3 [l0, l1, l2, l3, l4, l5, l6, l7, l8, l9] (.int x :: S) st P = AW X d 139 4 [l0, l1, l2, l3, l4, l5, l6, l7, l8, l9] (.int x :: .int x :: S) st P := zq_dup (zd_of zb_L_law dL_law_3) rfl
theorem E_L_law_3f : AW X d 139 3 [l0, l1, l2, l3, l4, l5, l6, l7, l8, l9] (.float u :: S) st P = AW X d 139 4 [l0, l1, l2, l3, l4, l5, l6, l7, l8, l9] (.float u :: .float u :: S) st P := zq_dup (zd_of zb_L_law dL_law_3) rfl
theorem E_L_law_4 : AW X d 139 4 [l0, l1, l2, l3, l4, l5, l6, l7, l8, l9] (.ref a :: S) st P = zif (S.length ≤ 4) (AC X d 47 [.ref a] st (zaft X d 139 4 [l0, l1, l2, l3, l4, l5, l6, l7, l8, l9] S P)) := zq_callI (B := []) (zd_of zb_L_law dL_law_4) zo_L_law zl_15_59 (by decide) (by decide) zn_47 rfl rfl
theorem E_L_law_7 : AW X d 139 7 [l0, l1, l2, l3, l4, l5, l6, l7, l8, l9] (.ref a :: S) st P = AW X d 139 8 [l0, .ref a, l2, l3, l4, l5, l6, l7, l8, l9] S st P := zAW_st (zd_of zb_L_law dL_law_7) rfl rfl
theorem E_L_law_7n : AW X d 139 7 [l0, l1, l2, l3, l4, l5, l6, l7, l8, l9] (.null :: S) st P = AW X d 139 8 [l0, .null, l2, l3, l4, l5, l6, l7, l8, l9] S st P := zAW_st (zd_of zb_L_law dL_law_7) rfl rfl
theorem E_L_law_8 : AW X d 139 8 [l0, l1, l2, l3, l4, l5, l6, l7, l8, l9] S st P = AW X d 139 11 [l0, l1, l2, l3, l4, l5, l6, l7, l8, l9] (.ref st.2.length :: S) (znew st 7) P := zq_new (zd_of zb_L_law dL_law_8) zo_L_law (by decide +kernel)
theorem E_L_law_11 : AW X d 139 11 [l0, l1, l2, l3, l4, l5, l6, l7, l8, l9] (.ref a :: S) st P = AW X d 139 12 [l0, l1, l2, l3, l4, l5, l6, l7, l8, l9] (.ref a :: .ref a :: S) st P := zq_dup (zd_of zb_L_law dL_law_11) rfl
theorem E_L_law_11n : AW X d 139 11 [l0, l1, l2, l3, l4, l5, l6, l7, l8, l9] (.null :: S) st P = AW X d 139 12 [l0, l1, l2, l3, l4, l5, l6, l7, l8, l9] (.null :: .null :: S) st P := zq_dup (zd_of zb_L_law dL_law_11) rfl
theorem E_L_law_11i : AW X d 139 11 [l0, l1, l2, l3, l4, l5, l6, l7, l8, l9] (.int x :: S) st P = AW X d 139 12 [l0, l1, l2, l3, l4, l5, l6, l7, l8, l9] (.int x :: .int x :: S) st P := zq_dup (zd_of zb_L_law dL_law_11) rfl
theorem E_L_law_11f : AW X d 139 11 [l0, l1, l2, l3, l4, l5, l6, l7, l8, l9] (.float u :: S) st P = AW X d 139 12 [l0, l1, l2, l3, l4, l5, l6, l7, l8, l9] (.float u :: .float u :: S) st P := zq_dup (zd_of zb_L_law dL_law_11) rfl
theorem E_L_law_12 : AW X d 139 12 [l0, l1, l2, l3, l4, l5, l6, l7, l8, l9] (.ref a :: S) st P = zif (S.length ≤ 4) (AC X d 72 [.ref a] st (zaft X d 139 12 [l0, l1, l2, l3, l4, l5, l6, l7, l8, l9] S P)) := zq_callI (B := []) (zd_of zb_L_law dL_law_12) zo_L_law zl_15_62 (by decide) (by decide) zn_72 rfl rfl
theorem E_L_law_15 : AW X d 139 15 [l0, l1, l2, l3, l4, l5, l6, l7, l8, l9] (.ref a :: S) st P = AW X d 139 16 [l0, l1, .ref a, l3, l4, l5, l6, l7, l8, l9] S st P := zAW_st (zd_of zb_L_law dL_law_15) rfl rfl
theorem E_L_law_15n : AW X d 139 15 [l0, l1, l2, l3, l4, l5, l6, l7, l8, l9] (.null :: S) st P = AW X d 139 16 [l0, l1, .null, l3, l4, l5, l6, l7, l8, l9] S st P := zAW_st (zd_of zb_L_law dL_law_15) rfl rfl
theorem E_L_law_16 : AW X d 139 16 [l0, l1, l2, l3, l4, l5, l6, l7, l8, l9] S st P = AW X d 139 17 [l0, l1, l2, l3, l4, l5, l6, l7, l8, l9] (.int 1 :: S) st P := zq_iconst (zd_of zb_L_law dL_law_16) (by decide)
theorem E_L_law_17 : AW X d 139 17 [l0, l1, l2, l3, l4, l5, l6, l7, l8, l9] (.int 1 :: S) st P = AW X d 139 19 [l0, l1, l2, l3, l4, l5, l6, l7, l8, l9] (.ref st.2.length :: S) (znwa st 1 (.inr (.inl fun _ => 0))) P := zq_newL (zd_of zb_L_law dL_law_17) (by decide) (by decide)
theorem E_L_law_19 : AW X d 139 19 [l0, l1, l2, l3, l4, l5, l6, l7, l8, l9] (.ref a :: S) st P = AW X d 139 20 [l0, l1, l2, .ref a, l4, l5, l6, l7, l8, l9] S st P := zAW_st (zd_of zb_L_law dL_law_19) rfl rfl
theorem E_L_law_19n : AW X d 139 19 [l0, l1, l2, l3, l4, l5, l6, l7, l8, l9] (.null :: S) st P = AW X d 139 20 [l0, l1, l2, .null, l4, l5, l6, l7, l8, l9] S st P := zAW_st (zd_of zb_L_law dL_law_19) rfl rfl
theorem E_L_law_20 : AW X d 139 20 [l0, l1, l2, l3, l4, l5, l6, l7, l8, l9] S st P = AW X d 139 21 [l0, l1, l2, l3, l4, l5, l6, l7, l8, l9] (.int 1 :: S) st P := zq_iconst (zd_of zb_L_law dL_law_20) (by decide)
theorem E_L_law_21 : AW X d 139 21 [l0, l1, l2, l3, l4, l5, l6, l7, l8, l9] (.int 1 :: S) st P = AW X d 139 23 [l0, l1, l2, l3, l4, l5, l6, l7, l8, l9] (.ref st.2.length :: S) (znwa st 1 (.inr (.inr (.inr (.inl fun _ => 0))))) P := zq_newD (zd_of zb_L_law dL_law_21) (by decide) (by decide)
theorem E_L_law_23 : AW X d 139 23 [l0, l1, l2, l3, l4, l5, l6, l7, l8, l9] (.ref a :: S) st P = AW X d 139 25 [l0, l1, l2, l3, .ref a, l5, l6, l7, l8, l9] S st P := zAW_st (zd_of zb_L_law dL_law_23) rfl rfl
theorem E_L_law_23n : AW X d 139 23 [l0, l1, l2, l3, l4, l5, l6, l7, l8, l9] (.null :: S) st P = AW X d 139 25 [l0, l1, l2, l3, .null, l5, l6, l7, l8, l9] S st P := zAW_st (zd_of zb_L_law dL_law_23) rfl rfl
theorem E_L_law_25 : AW X d 139 25 [l0, l1, l2, l3, l4, l5, l6, l7, l8, l9] S st P = AW X d 139 26 [l0, l1, l2, l3, l4, l5, l6, l7, l8, l9] (.int 0 :: S) st P := zq_iconst (zd_of zb_L_law dL_law_25) (by decide)
theorem E_L_law_26 : AW X d 139 26 [l0, l1, l2, l3, l4, l5, l6, l7, l8, l9] (.int x :: S) st P = AW X d 139 28 [l0, l1, l2, l3, l4, .int x, l6, l7, l8, l9] S st P := zAW_st (zd_of zb_L_law dL_law_26) rfl rfl
theorem E_L_law_28 : AW X d 139 28 [l0, l1, l2, l3, l4, .int x, l6, l7, l8, l9] S st P = AW X d 139 30 [l0, l1, l2, l3, l4, .int x, l6, l7, l8, l9] (.int x :: S) st P := zAW_st (zd_of zb_L_law dL_law_28) rfl rfl
theorem E_L_law_30 : AW X d 139 30 [.ref a, l1, l2, l3, l4, l5, l6, l7, l8, l9] S st P = AW X d 139 31 [.ref a, l1, l2, l3, l4, l5, l6, l7, l8, l9] (.ref a :: S) st P := zAW_st (zd_of zb_L_law dL_law_30) rfl rfl
theorem E_L_law_30n : AW X d 139 30 [.null, l1, l2, l3, l4, l5, l6, l7, l8, l9] S st P = AW X d 139 31 [.null, l1, l2, l3, l4, l5, l6, l7, l8, l9] (.null :: S) st P := zAW_st (zd_of zb_L_law dL_law_30) rfl rfl
theorem E_L_law_31 : AW X d 139 31 [l0, l1, l2, l3, l4, l5, l6, l7, l8, l9] (.ref a :: S) st P = zwith (zlen X st a) fun n => AW X d 139 32 [l0, l1, l2, l3, l4, l5, l6, l7, l8, l9] (.int (Int32.ofNat n) :: S) st P := zq_alen (zd_of zb_L_law dL_law_31)
theorem E_L_law_32 : AW X d 139 32 [l0, l1, l2, l3, l4, l5, l6, l7, l8, l9] S st P = AW X d 139 33 [l0, l1, l2, l3, l4, l5, l6, l7, l8, l9] (.int 4 :: S) st P := zq_iconst (zd_of zb_L_law dL_law_32) (by decide)
theorem E_L_law_33 : AW X d 139 33 [l0, l1, l2, l3, l4, l5, l6, l7, l8, l9] (.int y :: .int x :: S) st P = AW X d 139 34 [l0, l1, l2, l3, l4, l5, l6, l7, l8, l9] (.int (x - y) :: S) st P := zAW_st (zd_of zb_L_law dL_law_33) rfl rfl
theorem E_L_law_34 : AW X d 139 34 [l0, l1, l2, l3, l4, l5, l6, l7, l8, l9] (.int y :: .int x :: S) st P = if y < x then AW X d 139 1063 [l0, l1, l2, l3, l4, l5, l6, l7, l8, l9] S st P else AW X d 139 37 [l0, l1, l2, l3, l4, l5, l6, l7, l8, l9] S st P := zq_icmp (c := y < x) (zd_of zb_L_law dL_law_34) (by decide) rfl
theorem E_L_law_37 : AW X d 139 37 [.ref a, l1, l2, l3, l4, l5, l6, l7, l8, l9] S st P = AW X d 139 38 [.ref a, l1, l2, l3, l4, l5, l6, l7, l8, l9] (.ref a :: S) st P := zAW_st (zd_of zb_L_law dL_law_37) rfl rfl
theorem E_L_law_37n : AW X d 139 37 [.null, l1, l2, l3, l4, l5, l6, l7, l8, l9] S st P = AW X d 139 38 [.null, l1, l2, l3, l4, l5, l6, l7, l8, l9] (.null :: S) st P := zAW_st (zd_of zb_L_law dL_law_37) rfl rfl
theorem E_L_law_38 : AW X d 139 38 [l0, l1, l2, l3, l4, .int x, l6, l7, l8, l9] S st P = AW X d 139 40 [l0, l1, l2, l3, l4, .int x, l6, l7, l8, l9] (.int x :: S) st P := zAW_st (zd_of zb_L_law dL_law_38) rfl rfl
theorem E_L_law_40 : AW X d 139 40 [l0, l1, l2, l3, l4, l5, l6, l7, l8, l9] (.int x :: .ref a :: S) st P = zwith (zai X st a) fun q => zwith (zix x q.1) fun j => AW X d 139 41 [l0, l1, l2, l3, l4, l5, l6, l7, l8, l9] (.int (q.2 j) :: S) st P := zq_iaload (zd_of zb_L_law dL_law_40)
theorem E_L_law_41 : AW X d 139 41 [l0, l1, l2, l3, l4, l5, l6, l7, l8, l9] S st P = AW X d 139 43 [l0, l1, l2, l3, l4, l5, l6, l7, l8, l9] (.int 15 :: S) st P := zq_bipush (zd_of zb_L_law dL_law_41) (by decide)
theorem E_L_law_43 : AW X d 139 43 [l0, l1, l2, l3, l4, l5, l6, l7, l8, l9] (.int y :: .int x :: S) st P = AW X d 139 44 [l0, l1, l2, l3, l4, l5, l6, l7, l8, l9] (.int (x &&& y) :: S) st P := zAW_st (zd_of zb_L_law dL_law_43) rfl rfl
theorem E_L_law_44_0 : AW X d 139 44 [l0, l1, l2, l3, l4, l5, l6, l7, l8, l9] (.int 0 :: S) st P = AW X d 139 124 [l0, l1, l2, l3, l4, l5, l6, l7, l8, l9] S st P := zq_tabIn (zd_of zb_L_law dL_law_44) (by decide) rfl (by decide)
theorem E_L_law_44_1 : AW X d 139 44 [l0, l1, l2, l3, l4, l5, l6, l7, l8, l9] (.int 1 :: S) st P = AW X d 139 168 [l0, l1, l2, l3, l4, l5, l6, l7, l8, l9] S st P := zq_tabIn (zd_of zb_L_law dL_law_44) (by decide) rfl (by decide)
theorem E_L_law_44_2 : AW X d 139 44 [l0, l1, l2, l3, l4, l5, l6, l7, l8, l9] (.int 2 :: S) st P = AW X d 139 248 [l0, l1, l2, l3, l4, l5, l6, l7, l8, l9] S st P := zq_tabIn (zd_of zb_L_law dL_law_44) (by decide) rfl (by decide)
theorem E_L_law_44_3 : AW X d 139 44 [l0, l1, l2, l3, l4, l5, l6, l7, l8, l9] (.int 3 :: S) st P = AW X d 139 304 [l0, l1, l2, l3, l4, l5, l6, l7, l8, l9] S st P := zq_tabIn (zd_of zb_L_law dL_law_44) (by decide) rfl (by decide)
theorem E_L_law_44_4 : AW X d 139 44 [l0, l1, l2, l3, l4, l5, l6, l7, l8, l9] (.int 4 :: S) st P = AW X d 139 360 [l0, l1, l2, l3, l4, l5, l6, l7, l8, l9] S st P := zq_tabIn (zd_of zb_L_law dL_law_44) (by decide) rfl (by decide)
theorem E_L_law_44_5 : AW X d 139 44 [l0, l1, l2, l3, l4, l5, l6, l7, l8, l9] (.int 5 :: S) st P = AW X d 139 428 [l0, l1, l2, l3, l4, l5, l6, l7, l8, l9] S st P := zq_tabIn (zd_of zb_L_law dL_law_44) (by decide) rfl (by decide)
theorem E_L_law_44_6 : AW X d 139 44 [l0, l1, l2, l3, l4, l5, l6, l7, l8, l9] (.int 6 :: S) st P = AW X d 139 506 [l0, l1, l2, l3, l4, l5, l6, l7, l8, l9] S st P := zq_tabIn (zd_of zb_L_law dL_law_44) (by decide) rfl (by decide)
theorem E_L_law_44_7 : AW X d 139 44 [l0, l1, l2, l3, l4, l5, l6, l7, l8, l9] (.int 7 :: S) st P = AW X d 139 574 [l0, l1, l2, l3, l4, l5, l6, l7, l8, l9] S st P := zq_tabIn (zd_of zb_L_law dL_law_44) (by decide) rfl (by decide)
theorem E_L_law_44_8 : AW X d 139 44 [l0, l1, l2, l3, l4, l5, l6, l7, l8, l9] (.int 8 :: S) st P = AW X d 139 642 [l0, l1, l2, l3, l4, l5, l6, l7, l8, l9] S st P := zq_tabIn (zd_of zb_L_law dL_law_44) (by decide) rfl (by decide)
theorem E_L_law_44_9 : AW X d 139 44 [l0, l1, l2, l3, l4, l5, l6, l7, l8, l9] (.int 9 :: S) st P = AW X d 139 698 [l0, l1, l2, l3, l4, l5, l6, l7, l8, l9] S st P := zq_tabIn (zd_of zb_L_law dL_law_44) (by decide) rfl (by decide)
theorem E_L_law_44_10 : AW X d 139 44 [l0, l1, l2, l3, l4, l5, l6, l7, l8, l9] (.int 10 :: S) st P = AW X d 139 754 [l0, l1, l2, l3, l4, l5, l6, l7, l8, l9] S st P := zq_tabIn (zd_of zb_L_law dL_law_44) (by decide) rfl (by decide)
theorem E_L_law_44_11 : AW X d 139 44 [l0, l1, l2, l3, l4, l5, l6, l7, l8, l9] (.int 11 :: S) st P = AW X d 139 822 [l0, l1, l2, l3, l4, l5, l6, l7, l8, l9] S st P := zq_tabIn (zd_of zb_L_law dL_law_44) (by decide) rfl (by decide)
theorem E_L_law_44_12 : AW X d 139 44 [l0, l1, l2, l3, l4, l5, l6, l7, l8, l9] (.int 12 :: S) st P = AW X d 139 902 [l0, l1, l2, l3, l4, l5, l6, l7, l8, l9] S st P := zq_tabIn (zd_of zb_L_law dL_law_44) (by decide) rfl (by decide)
theorem E_L_law_44_13 : AW X d 139 44 [l0, l1, l2, l3, l4, l5, l6, l7, l8, l9] (.int 13 :: S) st P = AW X d 139 958 [l0, l1, l2, l3, l4, l5, l6, l7, l8, l9] S st P := zq_tabIn (zd_of zb_L_law dL_law_44) (by decide) rfl (by decide)
theorem E_L_law_44_14 : AW X d 139 44 [l0, l1, l2, l3, l4, l5, l6, l7, l8, l9] (.int 14 :: S) st P = AW X d 139 971 [l0, l1, l2, l3, l4, l5, l6, l7, l8, l9] S st P := zq_tabIn (zd_of zb_L_law dL_law_44) (by decide) rfl (by decide)
theorem E_L_law_44_15 : AW X d 139 44 [l0, l1, l2, l3, l4, l5, l6, l7, l8, l9] (.int 15 :: S) st P = AW X d 139 1014 [l0, l1, l2, l3, l4, l5, l6, l7, l8, l9] S st P := zq_tabIn (zd_of zb_L_law dL_law_44) (by decide) rfl (by decide)
theorem E_L_law_44_o (h1 : x.toInt < 0 ∨ 15 < x.toInt) : AW X d 139 44 [l0, l1, l2, l3, l4, l5, l6, l7, l8, l9] (.int x :: S) st P = AW X d 139 1057 [l0, l1, l2, l3, l4, l5, l6, l7, l8, l9] S st P := zq_tabOut (zd_of zb_L_law dL_law_44) (by decide) h1
theorem E_L_law_124 : AW X d 139 124 [l0, .ref a, l2, l3, l4, l5, l6, l7, l8, l9] S st P = AW X d 139 125 [l0, .ref a, l2, l3, l4, l5, l6, l7, l8, l9] (.ref a :: S) st P := zAW_st (zd_of zb_L_law dL_law_124) rfl rfl
theorem E_L_law_124n : AW X d 139 124 [l0, .null, l2, l3, l4, l5, l6, l7, l8, l9] S st P = AW X d 139 125 [l0, .null, l2, l3, l4, l5, l6, l7, l8, l9] (.null :: S) st P := zAW_st (zd_of zb_L_law dL_law_124) rfl rfl
theorem E_L_law_125 : AW X d 139 125 [l0, l1, l2, .ref a, l4, l5, l6, l7, l8, l9] S st P = AW X d 139 126 [l0, l1, l2, .ref a, l4, l5, l6, l7, l8, l9] (.ref a :: S) st P := zAW_st (zd_of zb_L_law dL_law_125) rfl rfl
theorem E_L_law_125n : AW X d 139 125 [l0, l1, l2, .null, l4, l5, l6, l7, l8, l9] S st P = AW X d 139 126 [l0, l1, l2, .null, l4, l5, l6, l7, l8, l9] (.null :: S) st P := zAW_st (zd_of zb_L_law dL_law_125) rfl rfl
theorem E_L_law_126 : AW X d 139 126 [l0, l1, l2, l3, l4, l5, l6, l7, l8, l9] (v2 :: v1 :: S) st P = zif (S.length ≤ 4) (AC X d 126 [v1, v2] st (zaft X d 139 126 [l0, l1, l2, l3, l4, l5, l6, l7, l8, l9] S P)) := zq_callS (B := [v1, v2]) (S2 := S) (zd_of zb_L_law dL_law_126) zo_L_law (by decide) (by decide) (by decide) zl_15_63 zn_126 (by simp only [List.length_cons]; omega) rfl rfl
theorem E_L_law_129 : AW X d 139 129 [l0, l1, l2, l3, l4, l5, l6, l7, l8, l9] (.int x :: S) st P = AW X d 139 131 [l0, l1, l2, l3, l4, l5, .int x, l7, l8, l9] S st P := zAW_st (zd_of zb_L_law dL_law_129) rfl rfl
theorem E_L_law_131 : AW X d 139 131 [l0, l1, .ref a, l3, l4, l5, l6, l7, l8, l9] S st P = AW X d 139 132 [l0, l1, .ref a, l3, l4, l5, l6, l7, l8, l9] (.ref a :: S) st P := zAW_st (zd_of zb_L_law dL_law_131) rfl rfl
theorem E_L_law_131n : AW X d 139 131 [l0, l1, .null, l3, l4, l5, l6, l7, l8, l9] S st P = AW X d 139 132 [l0, l1, .null, l3, l4, l5, l6, l7, l8, l9] (.null :: S) st P := zAW_st (zd_of zb_L_law dL_law_131) rfl rfl
theorem E_L_law_132 : AW X d 139 132 [l0, l1, l2, l3, l4, l5, l6, l7, l8, l9] (.ref a :: S) st P = zif (zis st a 7 = true) (zif (S.length ≤ 4) (AC X d 77 [.ref a] st (zaft X d 139 132 [l0, l1, l2, l3, l4, l5, l6, l7, l8, l9] S P))) := zq_callV (B := []) (zd_of zb_L_law dL_law_132) zo_L_law (by decide) zl_15_68 zn_77 rfl rfl rfl
theorem E_L_law_135 : AW X d 139 135 [l0, l1, l2, l3, l4, l5, l6, l7, l8, l9] (.int x :: S) st P = AW X d 139 137 [l0, l1, l2, l3, l4, l5, l6, .int x, l8, l9] S st P := zAW_st (zd_of zb_L_law dL_law_135) rfl rfl
theorem E_L_law_137 : AW X d 139 137 [l0, l1, .ref a, l3, l4, l5, l6, l7, l8, l9] S st P = AW X d 139 138 [l0, l1, .ref a, l3, l4, l5, l6, l7, l8, l9] (.ref a :: S) st P := zAW_st (zd_of zb_L_law dL_law_137) rfl rfl
theorem E_L_law_137n : AW X d 139 137 [l0, l1, .null, l3, l4, l5, l6, l7, l8, l9] S st P = AW X d 139 138 [l0, l1, .null, l3, l4, l5, l6, l7, l8, l9] (.null :: S) st P := zAW_st (zd_of zb_L_law dL_law_137) rfl rfl
theorem E_L_law_138 : AW X d 139 138 [l0, l1, l2, l3, l4, l5, l6, l7, l8, l9] (.ref a :: S) st P = zif (zis st a 7 = true) (zif (S.length ≤ 4) (AC X d 73 [.ref a] st (zaft X d 139 138 [l0, l1, l2, l3, l4, l5, l6, l7, l8, l9] S P))) := zq_callV (B := []) (zd_of zb_L_law dL_law_138) zo_L_law (by decide) zl_15_69 zn_73 rfl rfl rfl
theorem E_L_law_141 : AW X d 139 141 [l0, l1, l2, l3, l4, l5, .int x, l7, l8, l9] S st P = AW X d 139 143 [l0, l1, l2, l3, l4, l5, .int x, l7, l8, l9] (.int x :: S) st P := zAW_st (zd_of zb_L_law dL_law_141) rfl rfl
theorem E_L_law_143 : AW X d 139 143 [l0, l1, l2, l3, l4, l5, l6, l7, l8, l9] (.int y :: .int x :: S) st P = if x = y then AW X d 139 148 [l0, l1, l2, l3, l4, l5, l6, l7, l8, l9] S st P else AW X d 139 146 [l0, l1, l2, l3, l4, l5, l6, l7, l8, l9] S st P := zq_icmp (c := x = y) (zd_of zb_L_law dL_law_143) (by decide) rfl
theorem E_L_law_146 : AW X d 139 146 [l0, l1, l2, l3, l4, l5, l6, l7, l8, l9] S st P = AW X d 139 147 [l0, l1, l2, l3, l4, l5, l6, l7, l8, l9] (.int 0 :: S) st P := zq_iconst (zd_of zb_L_law dL_law_146) (by decide)
theorem E_L_law_147 : AW X d 139 147 [l0, l1, l2, l3, l4, l5, l6, l7, l8, l9] ([.int x]) st P = zif (x &&& 1 = x) (P (.inl (some (.int x))) st) := by
  by_cases h : x &&& 1 = x
  · rw [zif_of h]; exact zAW_ret (w := (.inl (some (.int x)), st)) (zd_of zb_L_law dL_law_147) rfl rfl (by simp only [zfin, zr_L_law]; rw [if_pos h])
  · rw [zAW_stuck (zd_of zb_L_law dL_law_147) rfl (by simp only [zfin, zr_L_law]; rw [if_neg h]) rfl]; exact propext ⟨fun z => z.elim, fun z => h z.1⟩
theorem E_L_law_148 : AW X d 139 148 [l0, l1, l2, l3, l4, l5, .int x, l7, l8, l9] S st P = AW X d 139 150 [l0, l1, l2, l3, l4, l5, .int x, l7, l8, l9] (.int x :: S) st P := zAW_st (zd_of zb_L_law dL_law_148) rfl rfl
theorem E_L_law_150 : AW X d 139 150 [l0, l1, l2, l3, l4, l5, l6, l7, l8, l9] (.int x :: S) st P = if ¬ x = 0 then AW X d 139 165 [l0, l1, l2, l3, l4, l5, l6, l7, l8, l9] S st P else AW X d 139 153 [l0, l1, l2, l3, l4, l5, l6, l7, l8, l9] S st P := zq_if (c := ¬ x = 0) (zd_of zb_L_law dL_law_150) (by decide) rfl
theorem E_L_law_153 : AW X d 139 153 [l0, l1, l2, .ref a, l4, l5, l6, l7, l8, l9] S st P = AW X d 139 154 [l0, l1, l2, .ref a, l4, l5, l6, l7, l8, l9] (.ref a :: S) st P := zAW_st (zd_of zb_L_law dL_law_153) rfl rfl
theorem E_L_law_153n : AW X d 139 153 [l0, l1, l2, .null, l4, l5, l6, l7, l8, l9] S st P = AW X d 139 154 [l0, l1, l2, .null, l4, l5, l6, l7, l8, l9] (.null :: S) st P := zAW_st (zd_of zb_L_law dL_law_153) rfl rfl
theorem E_L_law_154 : AW X d 139 154 [l0, l1, l2, l3, l4, l5, l6, l7, l8, l9] S st P = AW X d 139 155 [l0, l1, l2, l3, l4, l5, l6, l7, l8, l9] (.int 0 :: S) st P := zq_iconst (zd_of zb_L_law dL_law_154) (by decide)
theorem E_L_law_155 : AW X d 139 155 [l0, l1, l2, l3, l4, l5, l6, l7, l8, l9] (.int x :: .ref a :: S) st P = zwith (zaL st a) fun q => zwith (zix x q.1) fun j => AW X d 139 156 [l0, l1, l2, l3, l4, l5, l6, l7, l8, l9] (.long (q.2 j) :: S) st P := zq_laload (zd_of zb_L_law dL_law_155)
theorem E_L_law_156 : AW X d 139 156 [l0, l1, l2, l3, l4, l5, l6, .int x, l8, l9] S st P = AW X d 139 158 [l0, l1, l2, l3, l4, l5, l6, .int x, l8, l9] (.int x :: S) st P := zAW_st (zd_of zb_L_law dL_law_156) rfl rfl
theorem E_L_law_158 : AW X d 139 158 [l0, l1, l2, l3, l4, l5, l6, l7, l8, l9] (.int x :: S) st P = AW X d 139 159 [l0, l1, l2, l3, l4, l5, l6, l7, l8, l9] (.long x.toInt64 :: S) st P := zAW_st (zd_of zb_L_law dL_law_158) rfl rfl
theorem E_L_law_159 : AW X d 139 159 [l0, l1, l2, l3, l4, l5, l6, l7, l8, l9] (.long q2 :: .long q1 :: S) st P = AW X d 139 160 [l0, l1, l2, l3, l4, l5, l6, l7, l8, l9] (.int (lg_cmp q1 q2) :: S) st P := zAW_st (zd_of zb_L_law dL_law_159) rfl rfl
theorem E_L_law_160 : AW X d 139 160 [l0, l1, l2, l3, l4, l5, l6, l7, l8, l9] (.int x :: S) st P = if x = 0 then AW X d 139 165 [l0, l1, l2, l3, l4, l5, l6, l7, l8, l9] S st P else AW X d 139 163 [l0, l1, l2, l3, l4, l5, l6, l7, l8, l9] S st P := zq_if (c := x = 0) (zd_of zb_L_law dL_law_160) (by decide) rfl
theorem E_L_law_163 : AW X d 139 163 [l0, l1, l2, l3, l4, l5, l6, l7, l8, l9] S st P = AW X d 139 164 [l0, l1, l2, l3, l4, l5, l6, l7, l8, l9] (.int 0 :: S) st P := zq_iconst (zd_of zb_L_law dL_law_163) (by decide)
theorem E_L_law_164 : AW X d 139 164 [l0, l1, l2, l3, l4, l5, l6, l7, l8, l9] ([.int x]) st P = zif (x &&& 1 = x) (P (.inl (some (.int x))) st) := by
  by_cases h : x &&& 1 = x
  · rw [zif_of h]; exact zAW_ret (w := (.inl (some (.int x)), st)) (zd_of zb_L_law dL_law_164) rfl rfl (by simp only [zfin, zr_L_law]; rw [if_pos h])
  · rw [zAW_stuck (zd_of zb_L_law dL_law_164) rfl (by simp only [zfin, zr_L_law]; rw [if_neg h]) rfl]; exact propext ⟨fun z => z.elim, fun z => h z.1⟩
theorem E_L_law_165 : AW X d 139 165 [l0, l1, l2, l3, l4, l5, l6, l7, l8, l9] S st P = AW X d 139 1057 [l0, l1, l2, l3, l4, l5, l6, l7, l8, l9] S st P := zq_goto (zd_of zb_L_law dL_law_165) (by decide)
theorem E_L_law_168 : AW X d 139 168 [l0, .ref a, l2, l3, l4, l5, l6, l7, l8, l9] S st P = AW X d 139 169 [l0, .ref a, l2, l3, l4, l5, l6, l7, l8, l9] (.ref a :: S) st P := zAW_st (zd_of zb_L_law dL_law_168) rfl rfl
theorem E_L_law_168n : AW X d 139 168 [l0, .null, l2, l3, l4, l5, l6, l7, l8, l9] S st P = AW X d 139 169 [l0, .null, l2, l3, l4, l5, l6, l7, l8, l9] (.null :: S) st P := zAW_st (zd_of zb_L_law dL_law_168) rfl rfl
theorem E_L_law_169 : AW X d 139 169 [.ref a, l1, l2, l3, l4, l5, l6, l7, l8, l9] S st P = AW X d 139 170 [.ref a, l1, l2, l3, l4, l5, l6, l7, l8, l9] (.ref a :: S) st P := zAW_st (zd_of zb_L_law dL_law_169) rfl rfl
theorem E_L_law_169n : AW X d 139 169 [.null, l1, l2, l3, l4, l5, l6, l7, l8, l9] S st P = AW X d 139 170 [.null, l1, l2, l3, l4, l5, l6, l7, l8, l9] (.null :: S) st P := zAW_st (zd_of zb_L_law dL_law_169) rfl rfl
theorem E_L_law_170 : AW X d 139 170 [l0, l1, l2, l3, l4, .int x, l6, l7, l8, l9] S st P = AW X d 139 172 [l0, l1, l2, l3, l4, .int x, l6, l7, l8, l9] (.int x :: S) st P := zAW_st (zd_of zb_L_law dL_law_170) rfl rfl
theorem E_L_law_172 : AW X d 139 172 [l0, l1, l2, l3, l4, l5, l6, l7, l8, l9] S st P = AW X d 139 173 [l0, l1, l2, l3, l4, l5, l6, l7, l8, l9] (.int 1 :: S) st P := zq_iconst (zd_of zb_L_law dL_law_172) (by decide)
theorem E_L_law_173 : AW X d 139 173 [l0, l1, l2, l3, l4, l5, l6, l7, l8, l9] (.int y :: .int x :: S) st P = AW X d 139 174 [l0, l1, l2, l3, l4, l5, l6, l7, l8, l9] (.int (x + y) :: S) st P := zAW_st (zd_of zb_L_law dL_law_173) rfl rfl
theorem E_L_law_174 : AW X d 139 174 [l0, l1, l2, l3, l4, l5, l6, l7, l8, l9] (.int x :: .ref a :: S) st P = zwith (zai X st a) fun q => zwith (zix x q.1) fun j => AW X d 139 175 [l0, l1, l2, l3, l4, l5, l6, l7, l8, l9] (.int (q.2 j) :: S) st P := zq_iaload (zd_of zb_L_law dL_law_174)
theorem E_L_law_175 : AW X d 139 175 [.ref a, l1, l2, l3, l4, l5, l6, l7, l8, l9] S st P = AW X d 139 176 [.ref a, l1, l2, l3, l4, l5, l6, l7, l8, l9] (.ref a :: S) st P := zAW_st (zd_of zb_L_law dL_law_175) rfl rfl
theorem E_L_law_175n : AW X d 139 175 [.null, l1, l2, l3, l4, l5, l6, l7, l8, l9] S st P = AW X d 139 176 [.null, l1, l2, l3, l4, l5, l6, l7, l8, l9] (.null :: S) st P := zAW_st (zd_of zb_L_law dL_law_175) rfl rfl
theorem E_L_law_176 : AW X d 139 176 [l0, l1, l2, l3, l4, .int x, l6, l7, l8, l9] S st P = AW X d 139 178 [l0, l1, l2, l3, l4, .int x, l6, l7, l8, l9] (.int x :: S) st P := zAW_st (zd_of zb_L_law dL_law_176) rfl rfl
theorem E_L_law_178 : AW X d 139 178 [l0, l1, l2, l3, l4, l5, l6, l7, l8, l9] S st P = AW X d 139 179 [l0, l1, l2, l3, l4, l5, l6, l7, l8, l9] (.int 2 :: S) st P := zq_iconst (zd_of zb_L_law dL_law_178) (by decide)
theorem E_L_law_179 : AW X d 139 179 [l0, l1, l2, l3, l4, l5, l6, l7, l8, l9] (.int y :: .int x :: S) st P = AW X d 139 180 [l0, l1, l2, l3, l4, l5, l6, l7, l8, l9] (.int (x + y) :: S) st P := zAW_st (zd_of zb_L_law dL_law_179) rfl rfl
theorem E_L_law_180 : AW X d 139 180 [l0, l1, l2, l3, l4, l5, l6, l7, l8, l9] (.int x :: .ref a :: S) st P = zwith (zai X st a) fun q => zwith (zix x q.1) fun j => AW X d 139 181 [l0, l1, l2, l3, l4, l5, l6, l7, l8, l9] (.int (q.2 j) :: S) st P := zq_iaload (zd_of zb_L_law dL_law_180)
theorem E_L_law_181 : AW X d 139 181 [.ref a, l1, l2, l3, l4, l5, l6, l7, l8, l9] S st P = AW X d 139 182 [.ref a, l1, l2, l3, l4, l5, l6, l7, l8, l9] (.ref a :: S) st P := zAW_st (zd_of zb_L_law dL_law_181) rfl rfl
theorem E_L_law_181n : AW X d 139 181 [.null, l1, l2, l3, l4, l5, l6, l7, l8, l9] S st P = AW X d 139 182 [.null, l1, l2, l3, l4, l5, l6, l7, l8, l9] (.null :: S) st P := zAW_st (zd_of zb_L_law dL_law_181) rfl rfl
theorem E_L_law_182 : AW X d 139 182 [l0, l1, l2, l3, l4, .int x, l6, l7, l8, l9] S st P = AW X d 139 184 [l0, l1, l2, l3, l4, .int x, l6, l7, l8, l9] (.int x :: S) st P := zAW_st (zd_of zb_L_law dL_law_182) rfl rfl
theorem E_L_law_184 : AW X d 139 184 [l0, l1, l2, l3, l4, l5, l6, l7, l8, l9] S st P = AW X d 139 185 [l0, l1, l2, l3, l4, l5, l6, l7, l8, l9] (.int 3 :: S) st P := zq_iconst (zd_of zb_L_law dL_law_184) (by decide)
theorem E_L_law_185 : AW X d 139 185 [l0, l1, l2, l3, l4, l5, l6, l7, l8, l9] (.int y :: .int x :: S) st P = AW X d 139 186 [l0, l1, l2, l3, l4, l5, l6, l7, l8, l9] (.int (x + y) :: S) st P := zAW_st (zd_of zb_L_law dL_law_185) rfl rfl
theorem E_L_law_186 : AW X d 139 186 [l0, l1, l2, l3, l4, l5, l6, l7, l8, l9] (.int x :: .ref a :: S) st P = zwith (zai X st a) fun q => zwith (zix x q.1) fun j => AW X d 139 187 [l0, l1, l2, l3, l4, l5, l6, l7, l8, l9] (.int (q.2 j) :: S) st P := zq_iaload (zd_of zb_L_law dL_law_186)
theorem E_L_law_187 : AW X d 139 187 [l0, l1, l2, .ref a, l4, l5, l6, l7, l8, l9] S st P = AW X d 139 188 [l0, l1, l2, .ref a, l4, l5, l6, l7, l8, l9] (.ref a :: S) st P := zAW_st (zd_of zb_L_law dL_law_187) rfl rfl
theorem E_L_law_187n : AW X d 139 187 [l0, l1, l2, .null, l4, l5, l6, l7, l8, l9] S st P = AW X d 139 188 [l0, l1, l2, .null, l4, l5, l6, l7, l8, l9] (.null :: S) st P := zAW_st (zd_of zb_L_law dL_law_187) rfl rfl
theorem E_L_law_188 : AW X d 139 188 [l0, l1, l2, l3, l4, l5, l6, l7, l8, l9] (v2 :: .int x3 :: .int y :: .int x :: v1 :: S) st P = zif (S.length ≤ 4) (AC X d 127 [v1, .int x, .int y, .int x3, v2] st (zaft X d 139 188 [l0, l1, l2, l3, l4, l5, l6, l7, l8, l9] S P)) := zq_callS (B := [v1, .int x, .int y, .int x3, v2]) (S2 := S) (zd_of zb_L_law dL_law_188) zo_L_law (by decide) (by decide) (by decide) zl_15_72 zn_127 (by simp only [List.length_cons]; omega) rfl rfl
theorem E_L_law_191 : AW X d 139 191 [l0, l1, l2, l3, l4, l5, l6, l7, l8, l9] (.int x :: S) st P = AW X d 139 193 [l0, l1, l2, l3, l4, l5, .int x, l7, l8, l9] S st P := zAW_st (zd_of zb_L_law dL_law_191) rfl rfl
theorem E_L_law_193 : AW X d 139 193 [l0, l1, .ref a, l3, l4, l5, l6, l7, l8, l9] S st P = AW X d 139 194 [l0, l1, .ref a, l3, l4, l5, l6, l7, l8, l9] (.ref a :: S) st P := zAW_st (zd_of zb_L_law dL_law_193) rfl rfl
theorem E_L_law_193n : AW X d 139 193 [l0, l1, .null, l3, l4, l5, l6, l7, l8, l9] S st P = AW X d 139 194 [l0, l1, .null, l3, l4, l5, l6, l7, l8, l9] (.null :: S) st P := zAW_st (zd_of zb_L_law dL_law_193) rfl rfl
theorem E_L_law_194 : AW X d 139 194 [.ref a, l1, l2, l3, l4, l5, l6, l7, l8, l9] S st P = AW X d 139 195 [.ref a, l1, l2, l3, l4, l5, l6, l7, l8, l9] (.ref a :: S) st P := zAW_st (zd_of zb_L_law dL_law_194) rfl rfl
theorem E_L_law_194n : AW X d 139 194 [.null, l1, l2, l3, l4, l5, l6, l7, l8, l9] S st P = AW X d 139 195 [.null, l1, l2, l3, l4, l5, l6, l7, l8, l9] (.null :: S) st P := zAW_st (zd_of zb_L_law dL_law_194) rfl rfl
theorem E_L_law_195 : AW X d 139 195 [l0, l1, l2, l3, l4, .int x, l6, l7, l8, l9] S st P = AW X d 139 197 [l0, l1, l2, l3, l4, .int x, l6, l7, l8, l9] (.int x :: S) st P := zAW_st (zd_of zb_L_law dL_law_195) rfl rfl
theorem E_L_law_197 : AW X d 139 197 [l0, l1, l2, l3, l4, l5, l6, l7, l8, l9] S st P = AW X d 139 198 [l0, l1, l2, l3, l4, l5, l6, l7, l8, l9] (.int 1 :: S) st P := zq_iconst (zd_of zb_L_law dL_law_197) (by decide)
theorem E_L_law_198 : AW X d 139 198 [l0, l1, l2, l3, l4, l5, l6, l7, l8, l9] (.int y :: .int x :: S) st P = AW X d 139 199 [l0, l1, l2, l3, l4, l5, l6, l7, l8, l9] (.int (x + y) :: S) st P := zAW_st (zd_of zb_L_law dL_law_198) rfl rfl
theorem E_L_law_199 : AW X d 139 199 [l0, l1, l2, l3, l4, l5, l6, l7, l8, l9] (.int x :: .ref a :: S) st P = zwith (zai X st a) fun q => zwith (zix x q.1) fun j => AW X d 139 200 [l0, l1, l2, l3, l4, l5, l6, l7, l8, l9] (.int (q.2 j) :: S) st P := zq_iaload (zd_of zb_L_law dL_law_199)
theorem E_L_law_200 : AW X d 139 200 [.ref a, l1, l2, l3, l4, l5, l6, l7, l8, l9] S st P = AW X d 139 201 [.ref a, l1, l2, l3, l4, l5, l6, l7, l8, l9] (.ref a :: S) st P := zAW_st (zd_of zb_L_law dL_law_200) rfl rfl
theorem E_L_law_200n : AW X d 139 200 [.null, l1, l2, l3, l4, l5, l6, l7, l8, l9] S st P = AW X d 139 201 [.null, l1, l2, l3, l4, l5, l6, l7, l8, l9] (.null :: S) st P := zAW_st (zd_of zb_L_law dL_law_200) rfl rfl
theorem E_L_law_201 : AW X d 139 201 [l0, l1, l2, l3, l4, .int x, l6, l7, l8, l9] S st P = AW X d 139 203 [l0, l1, l2, l3, l4, .int x, l6, l7, l8, l9] (.int x :: S) st P := zAW_st (zd_of zb_L_law dL_law_201) rfl rfl
theorem E_L_law_203 : AW X d 139 203 [l0, l1, l2, l3, l4, l5, l6, l7, l8, l9] S st P = AW X d 139 204 [l0, l1, l2, l3, l4, l5, l6, l7, l8, l9] (.int 2 :: S) st P := zq_iconst (zd_of zb_L_law dL_law_203) (by decide)
theorem E_L_law_204 : AW X d 139 204 [l0, l1, l2, l3, l4, l5, l6, l7, l8, l9] (.int y :: .int x :: S) st P = AW X d 139 205 [l0, l1, l2, l3, l4, l5, l6, l7, l8, l9] (.int (x + y) :: S) st P := zAW_st (zd_of zb_L_law dL_law_204) rfl rfl
theorem E_L_law_205 : AW X d 139 205 [l0, l1, l2, l3, l4, l5, l6, l7, l8, l9] (.int x :: .ref a :: S) st P = zwith (zai X st a) fun q => zwith (zix x q.1) fun j => AW X d 139 206 [l0, l1, l2, l3, l4, l5, l6, l7, l8, l9] (.int (q.2 j) :: S) st P := zq_iaload (zd_of zb_L_law dL_law_205)
theorem E_L_law_206 : AW X d 139 206 [.ref a, l1, l2, l3, l4, l5, l6, l7, l8, l9] S st P = AW X d 139 207 [.ref a, l1, l2, l3, l4, l5, l6, l7, l8, l9] (.ref a :: S) st P := zAW_st (zd_of zb_L_law dL_law_206) rfl rfl
theorem E_L_law_206n : AW X d 139 206 [.null, l1, l2, l3, l4, l5, l6, l7, l8, l9] S st P = AW X d 139 207 [.null, l1, l2, l3, l4, l5, l6, l7, l8, l9] (.null :: S) st P := zAW_st (zd_of zb_L_law dL_law_206) rfl rfl
theorem E_L_law_207 : AW X d 139 207 [l0, l1, l2, l3, l4, .int x, l6, l7, l8, l9] S st P = AW X d 139 209 [l0, l1, l2, l3, l4, .int x, l6, l7, l8, l9] (.int x :: S) st P := zAW_st (zd_of zb_L_law dL_law_207) rfl rfl
theorem E_L_law_209 : AW X d 139 209 [l0, l1, l2, l3, l4, l5, l6, l7, l8, l9] S st P = AW X d 139 210 [l0, l1, l2, l3, l4, l5, l6, l7, l8, l9] (.int 3 :: S) st P := zq_iconst (zd_of zb_L_law dL_law_209) (by decide)
theorem E_L_law_210 : AW X d 139 210 [l0, l1, l2, l3, l4, l5, l6, l7, l8, l9] (.int y :: .int x :: S) st P = AW X d 139 211 [l0, l1, l2, l3, l4, l5, l6, l7, l8, l9] (.int (x + y) :: S) st P := zAW_st (zd_of zb_L_law dL_law_210) rfl rfl
theorem E_L_law_211 : AW X d 139 211 [l0, l1, l2, l3, l4, l5, l6, l7, l8, l9] (.int x :: .ref a :: S) st P = zwith (zai X st a) fun q => zwith (zix x q.1) fun j => AW X d 139 212 [l0, l1, l2, l3, l4, l5, l6, l7, l8, l9] (.int (q.2 j) :: S) st P := zq_iaload (zd_of zb_L_law dL_law_211)
theorem E_L_law_212 : AW X d 139 212 [l0, l1, l2, l3, l4, l5, l6, l7, l8, l9] (.int x3 :: .int y :: .int x :: .ref a :: S) st P = zif (zis st a 7 = true) (zif (S.length ≤ 4) (AC X d 78 [.ref a, .int x, .int y, .int x3] st (zaft X d 139 212 [l0, l1, l2, l3, l4, l5, l6, l7, l8, l9] S P))) := zq_callV (B := [.int x, .int y, .int x3]) (zd_of zb_L_law dL_law_212) zo_L_law (by decide) zl_15_75 zn_78 rfl rfl rfl
theorem E_L_law_215 : AW X d 139 215 [l0, l1, l2, l3, l4, l5, l6, l7, l8, l9] (.int x :: S) st P = AW X d 139 217 [l0, l1, l2, l3, l4, l5, l6, .int x, l8, l9] S st P := zAW_st (zd_of zb_L_law dL_law_215) rfl rfl
theorem E_L_law_217 : AW X d 139 217 [l0, l1, .ref a, l3, l4, l5, l6, l7, l8, l9] S st P = AW X d 139 218 [l0, l1, .ref a, l3, l4, l5, l6, l7, l8, l9] (.ref a :: S) st P := zAW_st (zd_of zb_L_law dL_law_217) rfl rfl
theorem E_L_law_217n : AW X d 139 217 [l0, l1, .null, l3, l4, l5, l6, l7, l8, l9] S st P = AW X d 139 218 [l0, l1, .null, l3, l4, l5, l6, l7, l8, l9] (.null :: S) st P := zAW_st (zd_of zb_L_law dL_law_217) rfl rfl
theorem E_L_law_218 : AW X d 139 218 [l0, l1, l2, l3, l4, l5, l6, l7, l8, l9] (.ref a :: S) st P = zif (zis st a 7 = true) (zif (S.length ≤ 4) (AC X d 73 [.ref a] st (zaft X d 139 218 [l0, l1, l2, l3, l4, l5, l6, l7, l8, l9] S P))) := zq_callV (B := []) (zd_of zb_L_law dL_law_218) zo_L_law (by decide) zl_15_69 zn_73 rfl rfl rfl
theorem E_L_law_221 : AW X d 139 221 [l0, l1, l2, l3, l4, l5, .int x, l7, l8, l9] S st P = AW X d 139 223 [l0, l1, l2, l3, l4, l5, .int x, l7, l8, l9] (.int x :: S) st P := zAW_st (zd_of zb_L_law dL_law_221) rfl rfl
theorem E_L_law_223 : AW X d 139 223 [l0, l1, l2, l3, l4, l5, l6, l7, l8, l9] (.int y :: .int x :: S) st P = if x = y then AW X d 139 228 [l0, l1, l2, l3, l4, l5, l6, l7, l8, l9] S st P else AW X d 139 226 [l0, l1, l2, l3, l4, l5, l6, l7, l8, l9] S st P := zq_icmp (c := x = y) (zd_of zb_L_law dL_law_223) (by decide) rfl
theorem E_L_law_226 : AW X d 139 226 [l0, l1, l2, l3, l4, l5, l6, l7, l8, l9] S st P = AW X d 139 227 [l0, l1, l2, l3, l4, l5, l6, l7, l8, l9] (.int 0 :: S) st P := zq_iconst (zd_of zb_L_law dL_law_226) (by decide)
theorem E_L_law_227 : AW X d 139 227 [l0, l1, l2, l3, l4, l5, l6, l7, l8, l9] ([.int x]) st P = zif (x &&& 1 = x) (P (.inl (some (.int x))) st) := by
  by_cases h : x &&& 1 = x
  · rw [zif_of h]; exact zAW_ret (w := (.inl (some (.int x)), st)) (zd_of zb_L_law dL_law_227) rfl rfl (by simp only [zfin, zr_L_law]; rw [if_pos h])
  · rw [zAW_stuck (zd_of zb_L_law dL_law_227) rfl (by simp only [zfin, zr_L_law]; rw [if_neg h]) rfl]; exact propext ⟨fun z => z.elim, fun z => h z.1⟩
theorem E_L_law_228 : AW X d 139 228 [l0, l1, l2, l3, l4, l5, .int x, l7, l8, l9] S st P = AW X d 139 230 [l0, l1, l2, l3, l4, l5, .int x, l7, l8, l9] (.int x :: S) st P := zAW_st (zd_of zb_L_law dL_law_228) rfl rfl
theorem E_L_law_230 : AW X d 139 230 [l0, l1, l2, l3, l4, l5, l6, l7, l8, l9] (.int x :: S) st P = if ¬ x = 0 then AW X d 139 245 [l0, l1, l2, l3, l4, l5, l6, l7, l8, l9] S st P else AW X d 139 233 [l0, l1, l2, l3, l4, l5, l6, l7, l8, l9] S st P := zq_if (c := ¬ x = 0) (zd_of zb_L_law dL_law_230) (by decide) rfl
theorem E_L_law_233 : AW X d 139 233 [l0, l1, l2, .ref a, l4, l5, l6, l7, l8, l9] S st P = AW X d 139 234 [l0, l1, l2, .ref a, l4, l5, l6, l7, l8, l9] (.ref a :: S) st P := zAW_st (zd_of zb_L_law dL_law_233) rfl rfl
theorem E_L_law_233n : AW X d 139 233 [l0, l1, l2, .null, l4, l5, l6, l7, l8, l9] S st P = AW X d 139 234 [l0, l1, l2, .null, l4, l5, l6, l7, l8, l9] (.null :: S) st P := zAW_st (zd_of zb_L_law dL_law_233) rfl rfl
theorem E_L_law_234 : AW X d 139 234 [l0, l1, l2, l3, l4, l5, l6, l7, l8, l9] S st P = AW X d 139 235 [l0, l1, l2, l3, l4, l5, l6, l7, l8, l9] (.int 0 :: S) st P := zq_iconst (zd_of zb_L_law dL_law_234) (by decide)
theorem E_L_law_235 : AW X d 139 235 [l0, l1, l2, l3, l4, l5, l6, l7, l8, l9] (.int x :: .ref a :: S) st P = zwith (zaL st a) fun q => zwith (zix x q.1) fun j => AW X d 139 236 [l0, l1, l2, l3, l4, l5, l6, l7, l8, l9] (.long (q.2 j) :: S) st P := zq_laload (zd_of zb_L_law dL_law_235)
theorem E_L_law_236 : AW X d 139 236 [l0, l1, l2, l3, l4, l5, l6, .int x, l8, l9] S st P = AW X d 139 238 [l0, l1, l2, l3, l4, l5, l6, .int x, l8, l9] (.int x :: S) st P := zAW_st (zd_of zb_L_law dL_law_236) rfl rfl
theorem E_L_law_238 : AW X d 139 238 [l0, l1, l2, l3, l4, l5, l6, l7, l8, l9] (.int x :: S) st P = AW X d 139 239 [l0, l1, l2, l3, l4, l5, l6, l7, l8, l9] (.long x.toInt64 :: S) st P := zAW_st (zd_of zb_L_law dL_law_238) rfl rfl
theorem E_L_law_239 : AW X d 139 239 [l0, l1, l2, l3, l4, l5, l6, l7, l8, l9] (.long q2 :: .long q1 :: S) st P = AW X d 139 240 [l0, l1, l2, l3, l4, l5, l6, l7, l8, l9] (.int (lg_cmp q1 q2) :: S) st P := zAW_st (zd_of zb_L_law dL_law_239) rfl rfl
theorem E_L_law_240 : AW X d 139 240 [l0, l1, l2, l3, l4, l5, l6, l7, l8, l9] (.int x :: S) st P = if x = 0 then AW X d 139 245 [l0, l1, l2, l3, l4, l5, l6, l7, l8, l9] S st P else AW X d 139 243 [l0, l1, l2, l3, l4, l5, l6, l7, l8, l9] S st P := zq_if (c := x = 0) (zd_of zb_L_law dL_law_240) (by decide) rfl
theorem E_L_law_243 : AW X d 139 243 [l0, l1, l2, l3, l4, l5, l6, l7, l8, l9] S st P = AW X d 139 244 [l0, l1, l2, l3, l4, l5, l6, l7, l8, l9] (.int 0 :: S) st P := zq_iconst (zd_of zb_L_law dL_law_243) (by decide)
theorem E_L_law_244 : AW X d 139 244 [l0, l1, l2, l3, l4, l5, l6, l7, l8, l9] ([.int x]) st P = zif (x &&& 1 = x) (P (.inl (some (.int x))) st) := by
  by_cases h : x &&& 1 = x
  · rw [zif_of h]; exact zAW_ret (w := (.inl (some (.int x)), st)) (zd_of zb_L_law dL_law_244) rfl rfl (by simp only [zfin, zr_L_law]; rw [if_pos h])
  · rw [zAW_stuck (zd_of zb_L_law dL_law_244) rfl (by simp only [zfin, zr_L_law]; rw [if_neg h]) rfl]; exact propext ⟨fun z => z.elim, fun z => h z.1⟩
theorem E_L_law_245 : AW X d 139 245 [l0, l1, l2, l3, l4, l5, l6, l7, l8, l9] S st P = AW X d 139 1057 [l0, l1, l2, l3, l4, l5, l6, l7, l8, l9] S st P := zq_goto (zd_of zb_L_law dL_law_245) (by decide)
theorem E_L_law_248 : AW X d 139 248 [l0, .ref a, l2, l3, l4, l5, l6, l7, l8, l9] S st P = AW X d 139 249 [l0, .ref a, l2, l3, l4, l5, l6, l7, l8, l9] (.ref a :: S) st P := zAW_st (zd_of zb_L_law dL_law_248) rfl rfl
theorem E_L_law_248n : AW X d 139 248 [l0, .null, l2, l3, l4, l5, l6, l7, l8, l9] S st P = AW X d 139 249 [l0, .null, l2, l3, l4, l5, l6, l7, l8, l9] (.null :: S) st P := zAW_st (zd_of zb_L_law dL_law_248) rfl rfl
theorem E_L_law_249 : AW X d 139 249 [.ref a, l1, l2, l3, l4, l5, l6, l7, l8, l9] S st P = AW X d 139 250 [.ref a, l1, l2, l3, l4, l5, l6, l7, l8, l9] (.ref a :: S) st P := zAW_st (zd_of zb_L_law dL_law_249) rfl rfl
theorem E_L_law_249n : AW X d 139 249 [.null, l1, l2, l3, l4, l5, l6, l7, l8, l9] S st P = AW X d 139 250 [.null, l1, l2, l3, l4, l5, l6, l7, l8, l9] (.null :: S) st P := zAW_st (zd_of zb_L_law dL_law_249) rfl rfl
theorem E_L_law_250 : AW X d 139 250 [l0, l1, l2, l3, l4, .int x, l6, l7, l8, l9] S st P = AW X d 139 252 [l0, l1, l2, l3, l4, .int x, l6, l7, l8, l9] (.int x :: S) st P := zAW_st (zd_of zb_L_law dL_law_250) rfl rfl
theorem E_L_law_252 : AW X d 139 252 [l0, l1, l2, l3, l4, l5, l6, l7, l8, l9] S st P = AW X d 139 253 [l0, l1, l2, l3, l4, l5, l6, l7, l8, l9] (.int 1 :: S) st P := zq_iconst (zd_of zb_L_law dL_law_252) (by decide)
theorem E_L_law_253 : AW X d 139 253 [l0, l1, l2, l3, l4, l5, l6, l7, l8, l9] (.int y :: .int x :: S) st P = AW X d 139 254 [l0, l1, l2, l3, l4, l5, l6, l7, l8, l9] (.int (x + y) :: S) st P := zAW_st (zd_of zb_L_law dL_law_253) rfl rfl
theorem E_L_law_254 : AW X d 139 254 [l0, l1, l2, l3, l4, l5, l6, l7, l8, l9] (.int x :: .ref a :: S) st P = zwith (zai X st a) fun q => zwith (zix x q.1) fun j => AW X d 139 255 [l0, l1, l2, l3, l4, l5, l6, l7, l8, l9] (.int (q.2 j) :: S) st P := zq_iaload (zd_of zb_L_law dL_law_254)
theorem E_L_law_255 : AW X d 139 255 [l0, l1, l2, .ref a, l4, l5, l6, l7, l8, l9] S st P = AW X d 139 256 [l0, l1, l2, .ref a, l4, l5, l6, l7, l8, l9] (.ref a :: S) st P := zAW_st (zd_of zb_L_law dL_law_255) rfl rfl
theorem E_L_law_255n : AW X d 139 255 [l0, l1, l2, .null, l4, l5, l6, l7, l8, l9] S st P = AW X d 139 256 [l0, l1, l2, .null, l4, l5, l6, l7, l8, l9] (.null :: S) st P := zAW_st (zd_of zb_L_law dL_law_255) rfl rfl
theorem E_L_law_256 : AW X d 139 256 [l0, l1, l2, l3, l4, l5, l6, l7, l8, l9] (v2 :: .int x :: v1 :: S) st P = zif (S.length ≤ 4) (AC X d 128 [v1, .int x, v2] st (zaft X d 139 256 [l0, l1, l2, l3, l4, l5, l6, l7, l8, l9] S P)) := zq_callS (B := [v1, .int x, v2]) (S2 := S) (zd_of zb_L_law dL_law_256) zo_L_law (by decide) (by decide) (by decide) zl_15_76 zn_128 (by simp only [List.length_cons]; omega) rfl rfl
theorem E_L_law_259 : AW X d 139 259 [l0, l1, l2, l3, l4, l5, l6, l7, l8, l9] (.int x :: S) st P = AW X d 139 261 [l0, l1, l2, l3, l4, l5, .int x, l7, l8, l9] S st P := zAW_st (zd_of zb_L_law dL_law_259) rfl rfl
theorem E_L_law_261 : AW X d 139 261 [l0, l1, .ref a, l3, l4, l5, l6, l7, l8, l9] S st P = AW X d 139 262 [l0, l1, .ref a, l3, l4, l5, l6, l7, l8, l9] (.ref a :: S) st P := zAW_st (zd_of zb_L_law dL_law_261) rfl rfl
theorem E_L_law_261n : AW X d 139 261 [l0, l1, .null, l3, l4, l5, l6, l7, l8, l9] S st P = AW X d 139 262 [l0, l1, .null, l3, l4, l5, l6, l7, l8, l9] (.null :: S) st P := zAW_st (zd_of zb_L_law dL_law_261) rfl rfl
theorem E_L_law_262 : AW X d 139 262 [.ref a, l1, l2, l3, l4, l5, l6, l7, l8, l9] S st P = AW X d 139 263 [.ref a, l1, l2, l3, l4, l5, l6, l7, l8, l9] (.ref a :: S) st P := zAW_st (zd_of zb_L_law dL_law_262) rfl rfl
theorem E_L_law_262n : AW X d 139 262 [.null, l1, l2, l3, l4, l5, l6, l7, l8, l9] S st P = AW X d 139 263 [.null, l1, l2, l3, l4, l5, l6, l7, l8, l9] (.null :: S) st P := zAW_st (zd_of zb_L_law dL_law_262) rfl rfl
theorem E_L_law_263 : AW X d 139 263 [l0, l1, l2, l3, l4, .int x, l6, l7, l8, l9] S st P = AW X d 139 265 [l0, l1, l2, l3, l4, .int x, l6, l7, l8, l9] (.int x :: S) st P := zAW_st (zd_of zb_L_law dL_law_263) rfl rfl
theorem E_L_law_265 : AW X d 139 265 [l0, l1, l2, l3, l4, l5, l6, l7, l8, l9] S st P = AW X d 139 266 [l0, l1, l2, l3, l4, l5, l6, l7, l8, l9] (.int 1 :: S) st P := zq_iconst (zd_of zb_L_law dL_law_265) (by decide)
theorem E_L_law_266 : AW X d 139 266 [l0, l1, l2, l3, l4, l5, l6, l7, l8, l9] (.int y :: .int x :: S) st P = AW X d 139 267 [l0, l1, l2, l3, l4, l5, l6, l7, l8, l9] (.int (x + y) :: S) st P := zAW_st (zd_of zb_L_law dL_law_266) rfl rfl
theorem E_L_law_267 : AW X d 139 267 [l0, l1, l2, l3, l4, l5, l6, l7, l8, l9] (.int x :: .ref a :: S) st P = zwith (zai X st a) fun q => zwith (zix x q.1) fun j => AW X d 139 268 [l0, l1, l2, l3, l4, l5, l6, l7, l8, l9] (.int (q.2 j) :: S) st P := zq_iaload (zd_of zb_L_law dL_law_267)
theorem E_L_law_268 : AW X d 139 268 [l0, l1, l2, l3, l4, l5, l6, l7, l8, l9] (.int x :: .ref a :: S) st P = zif (zis st a 7 = true) (zif (S.length ≤ 4) (AC X d 82 [.ref a, .int x] st (zaft X d 139 268 [l0, l1, l2, l3, l4, l5, l6, l7, l8, l9] S P))) := zq_callV (B := [.int x]) (zd_of zb_L_law dL_law_268) zo_L_law (by decide) zl_15_79 zn_82 rfl rfl rfl
theorem E_L_law_271 : AW X d 139 271 [l0, l1, l2, l3, l4, l5, l6, l7, l8, l9] (.int x :: S) st P = AW X d 139 273 [l0, l1, l2, l3, l4, l5, l6, .int x, l8, l9] S st P := zAW_st (zd_of zb_L_law dL_law_271) rfl rfl
theorem E_L_law_273 : AW X d 139 273 [l0, l1, .ref a, l3, l4, l5, l6, l7, l8, l9] S st P = AW X d 139 274 [l0, l1, .ref a, l3, l4, l5, l6, l7, l8, l9] (.ref a :: S) st P := zAW_st (zd_of zb_L_law dL_law_273) rfl rfl
theorem E_L_law_273n : AW X d 139 273 [l0, l1, .null, l3, l4, l5, l6, l7, l8, l9] S st P = AW X d 139 274 [l0, l1, .null, l3, l4, l5, l6, l7, l8, l9] (.null :: S) st P := zAW_st (zd_of zb_L_law dL_law_273) rfl rfl
theorem E_L_law_274 : AW X d 139 274 [l0, l1, l2, l3, l4, l5, l6, l7, l8, l9] (.ref a :: S) st P = zif (zis st a 7 = true) (zif (S.length ≤ 4) (AC X d 73 [.ref a] st (zaft X d 139 274 [l0, l1, l2, l3, l4, l5, l6, l7, l8, l9] S P))) := zq_callV (B := []) (zd_of zb_L_law dL_law_274) zo_L_law (by decide) zl_15_69 zn_73 rfl rfl rfl
theorem E_L_law_277 : AW X d 139 277 [l0, l1, l2, l3, l4, l5, .int x, l7, l8, l9] S st P = AW X d 139 279 [l0, l1, l2, l3, l4, l5, .int x, l7, l8, l9] (.int x :: S) st P := zAW_st (zd_of zb_L_law dL_law_277) rfl rfl
theorem E_L_law_279 : AW X d 139 279 [l0, l1, l2, l3, l4, l5, l6, l7, l8, l9] (.int y :: .int x :: S) st P = if x = y then AW X d 139 284 [l0, l1, l2, l3, l4, l5, l6, l7, l8, l9] S st P else AW X d 139 282 [l0, l1, l2, l3, l4, l5, l6, l7, l8, l9] S st P := zq_icmp (c := x = y) (zd_of zb_L_law dL_law_279) (by decide) rfl
theorem E_L_law_282 : AW X d 139 282 [l0, l1, l2, l3, l4, l5, l6, l7, l8, l9] S st P = AW X d 139 283 [l0, l1, l2, l3, l4, l5, l6, l7, l8, l9] (.int 0 :: S) st P := zq_iconst (zd_of zb_L_law dL_law_282) (by decide)
theorem E_L_law_283 : AW X d 139 283 [l0, l1, l2, l3, l4, l5, l6, l7, l8, l9] ([.int x]) st P = zif (x &&& 1 = x) (P (.inl (some (.int x))) st) := by
  by_cases h : x &&& 1 = x
  · rw [zif_of h]; exact zAW_ret (w := (.inl (some (.int x)), st)) (zd_of zb_L_law dL_law_283) rfl rfl (by simp only [zfin, zr_L_law]; rw [if_pos h])
  · rw [zAW_stuck (zd_of zb_L_law dL_law_283) rfl (by simp only [zfin, zr_L_law]; rw [if_neg h]) rfl]; exact propext ⟨fun z => z.elim, fun z => h z.1⟩
theorem E_L_law_284 : AW X d 139 284 [l0, l1, l2, l3, l4, l5, .int x, l7, l8, l9] S st P = AW X d 139 286 [l0, l1, l2, l3, l4, l5, .int x, l7, l8, l9] (.int x :: S) st P := zAW_st (zd_of zb_L_law dL_law_284) rfl rfl
theorem E_L_law_286 : AW X d 139 286 [l0, l1, l2, l3, l4, l5, l6, l7, l8, l9] (.int x :: S) st P = if ¬ x = 0 then AW X d 139 301 [l0, l1, l2, l3, l4, l5, l6, l7, l8, l9] S st P else AW X d 139 289 [l0, l1, l2, l3, l4, l5, l6, l7, l8, l9] S st P := zq_if (c := ¬ x = 0) (zd_of zb_L_law dL_law_286) (by decide) rfl
theorem E_L_law_289 : AW X d 139 289 [l0, l1, l2, .ref a, l4, l5, l6, l7, l8, l9] S st P = AW X d 139 290 [l0, l1, l2, .ref a, l4, l5, l6, l7, l8, l9] (.ref a :: S) st P := zAW_st (zd_of zb_L_law dL_law_289) rfl rfl
theorem E_L_law_289n : AW X d 139 289 [l0, l1, l2, .null, l4, l5, l6, l7, l8, l9] S st P = AW X d 139 290 [l0, l1, l2, .null, l4, l5, l6, l7, l8, l9] (.null :: S) st P := zAW_st (zd_of zb_L_law dL_law_289) rfl rfl
theorem E_L_law_290 : AW X d 139 290 [l0, l1, l2, l3, l4, l5, l6, l7, l8, l9] S st P = AW X d 139 291 [l0, l1, l2, l3, l4, l5, l6, l7, l8, l9] (.int 0 :: S) st P := zq_iconst (zd_of zb_L_law dL_law_290) (by decide)
theorem E_L_law_291 : AW X d 139 291 [l0, l1, l2, l3, l4, l5, l6, l7, l8, l9] (.int x :: .ref a :: S) st P = zwith (zaL st a) fun q => zwith (zix x q.1) fun j => AW X d 139 292 [l0, l1, l2, l3, l4, l5, l6, l7, l8, l9] (.long (q.2 j) :: S) st P := zq_laload (zd_of zb_L_law dL_law_291)
theorem E_L_law_292 : AW X d 139 292 [l0, l1, l2, l3, l4, l5, l6, .int x, l8, l9] S st P = AW X d 139 294 [l0, l1, l2, l3, l4, l5, l6, .int x, l8, l9] (.int x :: S) st P := zAW_st (zd_of zb_L_law dL_law_292) rfl rfl
theorem E_L_law_294 : AW X d 139 294 [l0, l1, l2, l3, l4, l5, l6, l7, l8, l9] (.int x :: S) st P = AW X d 139 295 [l0, l1, l2, l3, l4, l5, l6, l7, l8, l9] (.long x.toInt64 :: S) st P := zAW_st (zd_of zb_L_law dL_law_294) rfl rfl
theorem E_L_law_295 : AW X d 139 295 [l0, l1, l2, l3, l4, l5, l6, l7, l8, l9] (.long q2 :: .long q1 :: S) st P = AW X d 139 296 [l0, l1, l2, l3, l4, l5, l6, l7, l8, l9] (.int (lg_cmp q1 q2) :: S) st P := zAW_st (zd_of zb_L_law dL_law_295) rfl rfl
theorem E_L_law_296 : AW X d 139 296 [l0, l1, l2, l3, l4, l5, l6, l7, l8, l9] (.int x :: S) st P = if x = 0 then AW X d 139 301 [l0, l1, l2, l3, l4, l5, l6, l7, l8, l9] S st P else AW X d 139 299 [l0, l1, l2, l3, l4, l5, l6, l7, l8, l9] S st P := zq_if (c := x = 0) (zd_of zb_L_law dL_law_296) (by decide) rfl
theorem E_L_law_299 : AW X d 139 299 [l0, l1, l2, l3, l4, l5, l6, l7, l8, l9] S st P = AW X d 139 300 [l0, l1, l2, l3, l4, l5, l6, l7, l8, l9] (.int 0 :: S) st P := zq_iconst (zd_of zb_L_law dL_law_299) (by decide)
theorem E_L_law_300 : AW X d 139 300 [l0, l1, l2, l3, l4, l5, l6, l7, l8, l9] ([.int x]) st P = zif (x &&& 1 = x) (P (.inl (some (.int x))) st) := by
  by_cases h : x &&& 1 = x
  · rw [zif_of h]; exact zAW_ret (w := (.inl (some (.int x)), st)) (zd_of zb_L_law dL_law_300) rfl rfl (by simp only [zfin, zr_L_law]; rw [if_pos h])
  · rw [zAW_stuck (zd_of zb_L_law dL_law_300) rfl (by simp only [zfin, zr_L_law]; rw [if_neg h]) rfl]; exact propext ⟨fun z => z.elim, fun z => h z.1⟩
theorem E_L_law_301 : AW X d 139 301 [l0, l1, l2, l3, l4, l5, l6, l7, l8, l9] S st P = AW X d 139 1057 [l0, l1, l2, l3, l4, l5, l6, l7, l8, l9] S st P := zq_goto (zd_of zb_L_law dL_law_301) (by decide)
theorem E_L_law_304 : AW X d 139 304 [l0, .ref a, l2, l3, l4, l5, l6, l7, l8, l9] S st P = AW X d 139 305 [l0, .ref a, l2, l3, l4, l5, l6, l7, l8, l9] (.ref a :: S) st P := zAW_st (zd_of zb_L_law dL_law_304) rfl rfl
theorem E_L_law_304n : AW X d 139 304 [l0, .null, l2, l3, l4, l5, l6, l7, l8, l9] S st P = AW X d 139 305 [l0, .null, l2, l3, l4, l5, l6, l7, l8, l9] (.null :: S) st P := zAW_st (zd_of zb_L_law dL_law_304) rfl rfl
theorem E_L_law_305 : AW X d 139 305 [.ref a, l1, l2, l3, l4, l5, l6, l7, l8, l9] S st P = AW X d 139 306 [.ref a, l1, l2, l3, l4, l5, l6, l7, l8, l9] (.ref a :: S) st P := zAW_st (zd_of zb_L_law dL_law_305) rfl rfl
theorem E_L_law_305n : AW X d 139 305 [.null, l1, l2, l3, l4, l5, l6, l7, l8, l9] S st P = AW X d 139 306 [.null, l1, l2, l3, l4, l5, l6, l7, l8, l9] (.null :: S) st P := zAW_st (zd_of zb_L_law dL_law_305) rfl rfl
theorem E_L_law_306 : AW X d 139 306 [l0, l1, l2, l3, l4, .int x, l6, l7, l8, l9] S st P = AW X d 139 308 [l0, l1, l2, l3, l4, .int x, l6, l7, l8, l9] (.int x :: S) st P := zAW_st (zd_of zb_L_law dL_law_306) rfl rfl
theorem E_L_law_308 : AW X d 139 308 [l0, l1, l2, l3, l4, l5, l6, l7, l8, l9] S st P = AW X d 139 309 [l0, l1, l2, l3, l4, l5, l6, l7, l8, l9] (.int 1 :: S) st P := zq_iconst (zd_of zb_L_law dL_law_308) (by decide)
theorem E_L_law_309 : AW X d 139 309 [l0, l1, l2, l3, l4, l5, l6, l7, l8, l9] (.int y :: .int x :: S) st P = AW X d 139 310 [l0, l1, l2, l3, l4, l5, l6, l7, l8, l9] (.int (x + y) :: S) st P := zAW_st (zd_of zb_L_law dL_law_309) rfl rfl
theorem E_L_law_310 : AW X d 139 310 [l0, l1, l2, l3, l4, l5, l6, l7, l8, l9] (.int x :: .ref a :: S) st P = zwith (zai X st a) fun q => zwith (zix x q.1) fun j => AW X d 139 311 [l0, l1, l2, l3, l4, l5, l6, l7, l8, l9] (.int (q.2 j) :: S) st P := zq_iaload (zd_of zb_L_law dL_law_310)
theorem E_L_law_311 : AW X d 139 311 [l0, l1, l2, .ref a, l4, l5, l6, l7, l8, l9] S st P = AW X d 139 312 [l0, l1, l2, .ref a, l4, l5, l6, l7, l8, l9] (.ref a :: S) st P := zAW_st (zd_of zb_L_law dL_law_311) rfl rfl
theorem E_L_law_311n : AW X d 139 311 [l0, l1, l2, .null, l4, l5, l6, l7, l8, l9] S st P = AW X d 139 312 [l0, l1, l2, .null, l4, l5, l6, l7, l8, l9] (.null :: S) st P := zAW_st (zd_of zb_L_law dL_law_311) rfl rfl
theorem E_L_law_312 : AW X d 139 312 [l0, l1, l2, l3, l4, l5, l6, l7, l8, l9] (v2 :: .int x :: v1 :: S) st P = zif (S.length ≤ 4) (AC X d 129 [v1, .int x, v2] st (zaft X d 139 312 [l0, l1, l2, l3, l4, l5, l6, l7, l8, l9] S P)) := zq_callS (B := [v1, .int x, v2]) (S2 := S) (zd_of zb_L_law dL_law_312) zo_L_law (by decide) (by decide) (by decide) zl_15_80 zn_129 (by simp only [List.length_cons]; omega) rfl rfl
theorem E_L_law_315 : AW X d 139 315 [l0, l1, l2, l3, l4, l5, l6, l7, l8, l9] (.int x :: S) st P = AW X d 139 317 [l0, l1, l2, l3, l4, l5, .int x, l7, l8, l9] S st P := zAW_st (zd_of zb_L_law dL_law_315) rfl rfl
theorem E_L_law_317 : AW X d 139 317 [l0, l1, .ref a, l3, l4, l5, l6, l7, l8, l9] S st P = AW X d 139 318 [l0, l1, .ref a, l3, l4, l5, l6, l7, l8, l9] (.ref a :: S) st P := zAW_st (zd_of zb_L_law dL_law_317) rfl rfl
theorem E_L_law_317n : AW X d 139 317 [l0, l1, .null, l3, l4, l5, l6, l7, l8, l9] S st P = AW X d 139 318 [l0, l1, .null, l3, l4, l5, l6, l7, l8, l9] (.null :: S) st P := zAW_st (zd_of zb_L_law dL_law_317) rfl rfl
theorem E_L_law_318 : AW X d 139 318 [.ref a, l1, l2, l3, l4, l5, l6, l7, l8, l9] S st P = AW X d 139 319 [.ref a, l1, l2, l3, l4, l5, l6, l7, l8, l9] (.ref a :: S) st P := zAW_st (zd_of zb_L_law dL_law_318) rfl rfl
theorem E_L_law_318n : AW X d 139 318 [.null, l1, l2, l3, l4, l5, l6, l7, l8, l9] S st P = AW X d 139 319 [.null, l1, l2, l3, l4, l5, l6, l7, l8, l9] (.null :: S) st P := zAW_st (zd_of zb_L_law dL_law_318) rfl rfl
theorem E_L_law_319 : AW X d 139 319 [l0, l1, l2, l3, l4, .int x, l6, l7, l8, l9] S st P = AW X d 139 321 [l0, l1, l2, l3, l4, .int x, l6, l7, l8, l9] (.int x :: S) st P := zAW_st (zd_of zb_L_law dL_law_319) rfl rfl
theorem E_L_law_321 : AW X d 139 321 [l0, l1, l2, l3, l4, l5, l6, l7, l8, l9] S st P = AW X d 139 322 [l0, l1, l2, l3, l4, l5, l6, l7, l8, l9] (.int 1 :: S) st P := zq_iconst (zd_of zb_L_law dL_law_321) (by decide)
theorem E_L_law_322 : AW X d 139 322 [l0, l1, l2, l3, l4, l5, l6, l7, l8, l9] (.int y :: .int x :: S) st P = AW X d 139 323 [l0, l1, l2, l3, l4, l5, l6, l7, l8, l9] (.int (x + y) :: S) st P := zAW_st (zd_of zb_L_law dL_law_322) rfl rfl
theorem E_L_law_323 : AW X d 139 323 [l0, l1, l2, l3, l4, l5, l6, l7, l8, l9] (.int x :: .ref a :: S) st P = zwith (zai X st a) fun q => zwith (zix x q.1) fun j => AW X d 139 324 [l0, l1, l2, l3, l4, l5, l6, l7, l8, l9] (.int (q.2 j) :: S) st P := zq_iaload (zd_of zb_L_law dL_law_323)
theorem E_L_law_324 : AW X d 139 324 [l0, l1, l2, l3, l4, l5, l6, l7, l8, l9] (.int x :: .ref a :: S) st P = zif (zis st a 7 = true) (zif (S.length ≤ 4) (AC X d 101 [.ref a, .int x] st (zaft X d 139 324 [l0, l1, l2, l3, l4, l5, l6, l7, l8, l9] S P))) := zq_callV (B := [.int x]) (zd_of zb_L_law dL_law_324) zo_L_law (by decide) zl_15_82 zn_101 rfl rfl rfl
theorem E_L_law_327 : AW X d 139 327 [l0, l1, l2, l3, l4, l5, l6, l7, l8, l9] (.int x :: S) st P = AW X d 139 329 [l0, l1, l2, l3, l4, l5, l6, .int x, l8, l9] S st P := zAW_st (zd_of zb_L_law dL_law_327) rfl rfl
theorem E_L_law_329 : AW X d 139 329 [l0, l1, .ref a, l3, l4, l5, l6, l7, l8, l9] S st P = AW X d 139 330 [l0, l1, .ref a, l3, l4, l5, l6, l7, l8, l9] (.ref a :: S) st P := zAW_st (zd_of zb_L_law dL_law_329) rfl rfl
theorem E_L_law_329n : AW X d 139 329 [l0, l1, .null, l3, l4, l5, l6, l7, l8, l9] S st P = AW X d 139 330 [l0, l1, .null, l3, l4, l5, l6, l7, l8, l9] (.null :: S) st P := zAW_st (zd_of zb_L_law dL_law_329) rfl rfl
theorem E_L_law_330 : AW X d 139 330 [l0, l1, l2, l3, l4, l5, l6, l7, l8, l9] (.ref a :: S) st P = zif (zis st a 7 = true) (zif (S.length ≤ 4) (AC X d 73 [.ref a] st (zaft X d 139 330 [l0, l1, l2, l3, l4, l5, l6, l7, l8, l9] S P))) := zq_callV (B := []) (zd_of zb_L_law dL_law_330) zo_L_law (by decide) zl_15_69 zn_73 rfl rfl rfl
theorem E_L_law_333 : AW X d 139 333 [l0, l1, l2, l3, l4, l5, .int x, l7, l8, l9] S st P = AW X d 139 335 [l0, l1, l2, l3, l4, l5, .int x, l7, l8, l9] (.int x :: S) st P := zAW_st (zd_of zb_L_law dL_law_333) rfl rfl
theorem E_L_law_335 : AW X d 139 335 [l0, l1, l2, l3, l4, l5, l6, l7, l8, l9] (.int y :: .int x :: S) st P = if x = y then AW X d 139 340 [l0, l1, l2, l3, l4, l5, l6, l7, l8, l9] S st P else AW X d 139 338 [l0, l1, l2, l3, l4, l5, l6, l7, l8, l9] S st P := zq_icmp (c := x = y) (zd_of zb_L_law dL_law_335) (by decide) rfl
theorem E_L_law_338 : AW X d 139 338 [l0, l1, l2, l3, l4, l5, l6, l7, l8, l9] S st P = AW X d 139 339 [l0, l1, l2, l3, l4, l5, l6, l7, l8, l9] (.int 0 :: S) st P := zq_iconst (zd_of zb_L_law dL_law_338) (by decide)
theorem E_L_law_339 : AW X d 139 339 [l0, l1, l2, l3, l4, l5, l6, l7, l8, l9] ([.int x]) st P = zif (x &&& 1 = x) (P (.inl (some (.int x))) st) := by
  by_cases h : x &&& 1 = x
  · rw [zif_of h]; exact zAW_ret (w := (.inl (some (.int x)), st)) (zd_of zb_L_law dL_law_339) rfl rfl (by simp only [zfin, zr_L_law]; rw [if_pos h])
  · rw [zAW_stuck (zd_of zb_L_law dL_law_339) rfl (by simp only [zfin, zr_L_law]; rw [if_neg h]) rfl]; exact propext ⟨fun z => z.elim, fun z => h z.1⟩
theorem E_L_law_340 : AW X d 139 340 [l0, l1, l2, l3, l4, l5, .int x, l7, l8, l9] S st P = AW X d 139 342 [l0, l1, l2, l3, l4, l5, .int x, l7, l8, l9] (.int x :: S) st P := zAW_st (zd_of zb_L_law dL_law_340) rfl rfl
theorem E_L_law_342 : AW X d 139 342 [l0, l1, l2, l3, l4, l5, l6, l7, l8, l9] (.int x :: S) st P = if ¬ x = 0 then AW X d 139 357 [l0, l1, l2, l3, l4, l5, l6, l7, l8, l9] S st P else AW X d 139 345 [l0, l1, l2, l3, l4, l5, l6, l7, l8, l9] S st P := zq_if (c := ¬ x = 0) (zd_of zb_L_law dL_law_342) (by decide) rfl
theorem E_L_law_345 : AW X d 139 345 [l0, l1, l2, .ref a, l4, l5, l6, l7, l8, l9] S st P = AW X d 139 346 [l0, l1, l2, .ref a, l4, l5, l6, l7, l8, l9] (.ref a :: S) st P := zAW_st (zd_of zb_L_law dL_law_345) rfl rfl
theorem E_L_law_345n : AW X d 139 345 [l0, l1, l2, .null, l4, l5, l6, l7, l8, l9] S st P = AW X d 139 346 [l0, l1, l2, .null, l4, l5, l6, l7, l8, l9] (.null :: S) st P := zAW_st (zd_of zb_L_law dL_law_345) rfl rfl
theorem E_L_law_346 : AW X d 139 346 [l0, l1, l2, l3, l4, l5, l6, l7, l8, l9] S st P = AW X d 139 347 [l0, l1, l2, l3, l4, l5, l6, l7, l8, l9] (.int 0 :: S) st P := zq_iconst (zd_of zb_L_law dL_law_346) (by decide)
theorem E_L_law_347 : AW X d 139 347 [l0, l1, l2, l3, l4, l5, l6, l7, l8, l9] (.int x :: .ref a :: S) st P = zwith (zaL st a) fun q => zwith (zix x q.1) fun j => AW X d 139 348 [l0, l1, l2, l3, l4, l5, l6, l7, l8, l9] (.long (q.2 j) :: S) st P := zq_laload (zd_of zb_L_law dL_law_347)
theorem E_L_law_348 : AW X d 139 348 [l0, l1, l2, l3, l4, l5, l6, .int x, l8, l9] S st P = AW X d 139 350 [l0, l1, l2, l3, l4, l5, l6, .int x, l8, l9] (.int x :: S) st P := zAW_st (zd_of zb_L_law dL_law_348) rfl rfl
theorem E_L_law_350 : AW X d 139 350 [l0, l1, l2, l3, l4, l5, l6, l7, l8, l9] (.int x :: S) st P = AW X d 139 351 [l0, l1, l2, l3, l4, l5, l6, l7, l8, l9] (.long x.toInt64 :: S) st P := zAW_st (zd_of zb_L_law dL_law_350) rfl rfl
theorem E_L_law_351 : AW X d 139 351 [l0, l1, l2, l3, l4, l5, l6, l7, l8, l9] (.long q2 :: .long q1 :: S) st P = AW X d 139 352 [l0, l1, l2, l3, l4, l5, l6, l7, l8, l9] (.int (lg_cmp q1 q2) :: S) st P := zAW_st (zd_of zb_L_law dL_law_351) rfl rfl
theorem E_L_law_352 : AW X d 139 352 [l0, l1, l2, l3, l4, l5, l6, l7, l8, l9] (.int x :: S) st P = if x = 0 then AW X d 139 357 [l0, l1, l2, l3, l4, l5, l6, l7, l8, l9] S st P else AW X d 139 355 [l0, l1, l2, l3, l4, l5, l6, l7, l8, l9] S st P := zq_if (c := x = 0) (zd_of zb_L_law dL_law_352) (by decide) rfl
theorem E_L_law_355 : AW X d 139 355 [l0, l1, l2, l3, l4, l5, l6, l7, l8, l9] S st P = AW X d 139 356 [l0, l1, l2, l3, l4, l5, l6, l7, l8, l9] (.int 0 :: S) st P := zq_iconst (zd_of zb_L_law dL_law_355) (by decide)
theorem E_L_law_356 : AW X d 139 356 [l0, l1, l2, l3, l4, l5, l6, l7, l8, l9] ([.int x]) st P = zif (x &&& 1 = x) (P (.inl (some (.int x))) st) := by
  by_cases h : x &&& 1 = x
  · rw [zif_of h]; exact zAW_ret (w := (.inl (some (.int x)), st)) (zd_of zb_L_law dL_law_356) rfl rfl (by simp only [zfin, zr_L_law]; rw [if_pos h])
  · rw [zAW_stuck (zd_of zb_L_law dL_law_356) rfl (by simp only [zfin, zr_L_law]; rw [if_neg h]) rfl]; exact propext ⟨fun z => z.elim, fun z => h z.1⟩
theorem E_L_law_357 : AW X d 139 357 [l0, l1, l2, l3, l4, l5, l6, l7, l8, l9] S st P = AW X d 139 1057 [l0, l1, l2, l3, l4, l5, l6, l7, l8, l9] S st P := zq_goto (zd_of zb_L_law dL_law_357) (by decide)
theorem E_L_law_360 : AW X d 139 360 [l0, .ref a, l2, l3, l4, l5, l6, l7, l8, l9] S st P = AW X d 139 361 [l0, .ref a, l2, l3, l4, l5, l6, l7, l8, l9] (.ref a :: S) st P := zAW_st (zd_of zb_L_law dL_law_360) rfl rfl
theorem E_L_law_360n : AW X d 139 360 [l0, .null, l2, l3, l4, l5, l6, l7, l8, l9] S st P = AW X d 139 361 [l0, .null, l2, l3, l4, l5, l6, l7, l8, l9] (.null :: S) st P := zAW_st (zd_of zb_L_law dL_law_360) rfl rfl
theorem E_L_law_361 : AW X d 139 361 [.ref a, l1, l2, l3, l4, l5, l6, l7, l8, l9] S st P = AW X d 139 362 [.ref a, l1, l2, l3, l4, l5, l6, l7, l8, l9] (.ref a :: S) st P := zAW_st (zd_of zb_L_law dL_law_361) rfl rfl
theorem E_L_law_361n : AW X d 139 361 [.null, l1, l2, l3, l4, l5, l6, l7, l8, l9] S st P = AW X d 139 362 [.null, l1, l2, l3, l4, l5, l6, l7, l8, l9] (.null :: S) st P := zAW_st (zd_of zb_L_law dL_law_361) rfl rfl
theorem E_L_law_362 : AW X d 139 362 [l0, l1, l2, l3, l4, .int x, l6, l7, l8, l9] S st P = AW X d 139 364 [l0, l1, l2, l3, l4, .int x, l6, l7, l8, l9] (.int x :: S) st P := zAW_st (zd_of zb_L_law dL_law_362) rfl rfl
theorem E_L_law_364 : AW X d 139 364 [l0, l1, l2, l3, l4, l5, l6, l7, l8, l9] S st P = AW X d 139 365 [l0, l1, l2, l3, l4, l5, l6, l7, l8, l9] (.int 1 :: S) st P := zq_iconst (zd_of zb_L_law dL_law_364) (by decide)
theorem E_L_law_365 : AW X d 139 365 [l0, l1, l2, l3, l4, l5, l6, l7, l8, l9] (.int y :: .int x :: S) st P = AW X d 139 366 [l0, l1, l2, l3, l4, l5, l6, l7, l8, l9] (.int (x + y) :: S) st P := zAW_st (zd_of zb_L_law dL_law_365) rfl rfl
theorem E_L_law_366 : AW X d 139 366 [l0, l1, l2, l3, l4, l5, l6, l7, l8, l9] (.int x :: .ref a :: S) st P = zwith (zai X st a) fun q => zwith (zix x q.1) fun j => AW X d 139 367 [l0, l1, l2, l3, l4, l5, l6, l7, l8, l9] (.int (q.2 j) :: S) st P := zq_iaload (zd_of zb_L_law dL_law_366)
theorem E_L_law_367 : AW X d 139 367 [.ref a, l1, l2, l3, l4, l5, l6, l7, l8, l9] S st P = AW X d 139 368 [.ref a, l1, l2, l3, l4, l5, l6, l7, l8, l9] (.ref a :: S) st P := zAW_st (zd_of zb_L_law dL_law_367) rfl rfl
theorem E_L_law_367n : AW X d 139 367 [.null, l1, l2, l3, l4, l5, l6, l7, l8, l9] S st P = AW X d 139 368 [.null, l1, l2, l3, l4, l5, l6, l7, l8, l9] (.null :: S) st P := zAW_st (zd_of zb_L_law dL_law_367) rfl rfl
theorem E_L_law_368 : AW X d 139 368 [l0, l1, l2, l3, l4, .int x, l6, l7, l8, l9] S st P = AW X d 139 370 [l0, l1, l2, l3, l4, .int x, l6, l7, l8, l9] (.int x :: S) st P := zAW_st (zd_of zb_L_law dL_law_368) rfl rfl
theorem E_L_law_370 : AW X d 139 370 [l0, l1, l2, l3, l4, l5, l6, l7, l8, l9] S st P = AW X d 139 371 [l0, l1, l2, l3, l4, l5, l6, l7, l8, l9] (.int 2 :: S) st P := zq_iconst (zd_of zb_L_law dL_law_370) (by decide)
theorem E_L_law_371 : AW X d 139 371 [l0, l1, l2, l3, l4, l5, l6, l7, l8, l9] (.int y :: .int x :: S) st P = AW X d 139 372 [l0, l1, l2, l3, l4, l5, l6, l7, l8, l9] (.int (x + y) :: S) st P := zAW_st (zd_of zb_L_law dL_law_371) rfl rfl
theorem E_L_law_372 : AW X d 139 372 [l0, l1, l2, l3, l4, l5, l6, l7, l8, l9] (.int x :: .ref a :: S) st P = zwith (zai X st a) fun q => zwith (zix x q.1) fun j => AW X d 139 373 [l0, l1, l2, l3, l4, l5, l6, l7, l8, l9] (.int (q.2 j) :: S) st P := zq_iaload (zd_of zb_L_law dL_law_372)
theorem E_L_law_373 : AW X d 139 373 [l0, l1, l2, .ref a, l4, l5, l6, l7, l8, l9] S st P = AW X d 139 374 [l0, l1, l2, .ref a, l4, l5, l6, l7, l8, l9] (.ref a :: S) st P := zAW_st (zd_of zb_L_law dL_law_373) rfl rfl
theorem E_L_law_373n : AW X d 139 373 [l0, l1, l2, .null, l4, l5, l6, l7, l8, l9] S st P = AW X d 139 374 [l0, l1, l2, .null, l4, l5, l6, l7, l8, l9] (.null :: S) st P := zAW_st (zd_of zb_L_law dL_law_373) rfl rfl
theorem E_L_law_374 : AW X d 139 374 [l0, l1, l2, l3, l4, l5, l6, l7, l8, l9] (v2 :: .int y :: .int x :: v1 :: S) st P = zif (S.length ≤ 4) (AC X d 130 [v1, .int x, .int y, v2] st (zaft X d 139 374 [l0, l1, l2, l3, l4, l5, l6, l7, l8, l9] S P)) := zq_callS (B := [v1, .int x, .int y, v2]) (S2 := S) (zd_of zb_L_law dL_law_374) zo_L_law (by decide) (by decide) (by decide) zl_15_83 zn_130 (by simp only [List.length_cons]; omega) rfl rfl
theorem E_L_law_377 : AW X d 139 377 [l0, l1, l2, l3, l4, l5, l6, l7, l8, l9] (.int x :: S) st P = AW X d 139 379 [l0, l1, l2, l3, l4, l5, .int x, l7, l8, l9] S st P := zAW_st (zd_of zb_L_law dL_law_377) rfl rfl
theorem E_L_law_379 : AW X d 139 379 [l0, l1, .ref a, l3, l4, l5, l6, l7, l8, l9] S st P = AW X d 139 380 [l0, l1, .ref a, l3, l4, l5, l6, l7, l8, l9] (.ref a :: S) st P := zAW_st (zd_of zb_L_law dL_law_379) rfl rfl
theorem E_L_law_379n : AW X d 139 379 [l0, l1, .null, l3, l4, l5, l6, l7, l8, l9] S st P = AW X d 139 380 [l0, l1, .null, l3, l4, l5, l6, l7, l8, l9] (.null :: S) st P := zAW_st (zd_of zb_L_law dL_law_379) rfl rfl
theorem E_L_law_380 : AW X d 139 380 [.ref a, l1, l2, l3, l4, l5, l6, l7, l8, l9] S st P = AW X d 139 381 [.ref a, l1, l2, l3, l4, l5, l6, l7, l8, l9] (.ref a :: S) st P := zAW_st (zd_of zb_L_law dL_law_380) rfl rfl
theorem E_L_law_380n : AW X d 139 380 [.null, l1, l2, l3, l4, l5, l6, l7, l8, l9] S st P = AW X d 139 381 [.null, l1, l2, l3, l4, l5, l6, l7, l8, l9] (.null :: S) st P := zAW_st (zd_of zb_L_law dL_law_380) rfl rfl
theorem E_L_law_381 : AW X d 139 381 [l0, l1, l2, l3, l4, .int x, l6, l7, l8, l9] S st P = AW X d 139 383 [l0, l1, l2, l3, l4, .int x, l6, l7, l8, l9] (.int x :: S) st P := zAW_st (zd_of zb_L_law dL_law_381) rfl rfl
theorem E_L_law_383 : AW X d 139 383 [l0, l1, l2, l3, l4, l5, l6, l7, l8, l9] S st P = AW X d 139 384 [l0, l1, l2, l3, l4, l5, l6, l7, l8, l9] (.int 1 :: S) st P := zq_iconst (zd_of zb_L_law dL_law_383) (by decide)
theorem E_L_law_384 : AW X d 139 384 [l0, l1, l2, l3, l4, l5, l6, l7, l8, l9] (.int y :: .int x :: S) st P = AW X d 139 385 [l0, l1, l2, l3, l4, l5, l6, l7, l8, l9] (.int (x + y) :: S) st P := zAW_st (zd_of zb_L_law dL_law_384) rfl rfl
theorem E_L_law_385 : AW X d 139 385 [l0, l1, l2, l3, l4, l5, l6, l7, l8, l9] (.int x :: .ref a :: S) st P = zwith (zai X st a) fun q => zwith (zix x q.1) fun j => AW X d 139 386 [l0, l1, l2, l3, l4, l5, l6, l7, l8, l9] (.int (q.2 j) :: S) st P := zq_iaload (zd_of zb_L_law dL_law_385)
theorem E_L_law_386 : AW X d 139 386 [.ref a, l1, l2, l3, l4, l5, l6, l7, l8, l9] S st P = AW X d 139 387 [.ref a, l1, l2, l3, l4, l5, l6, l7, l8, l9] (.ref a :: S) st P := zAW_st (zd_of zb_L_law dL_law_386) rfl rfl
theorem E_L_law_386n : AW X d 139 386 [.null, l1, l2, l3, l4, l5, l6, l7, l8, l9] S st P = AW X d 139 387 [.null, l1, l2, l3, l4, l5, l6, l7, l8, l9] (.null :: S) st P := zAW_st (zd_of zb_L_law dL_law_386) rfl rfl
theorem E_L_law_387 : AW X d 139 387 [l0, l1, l2, l3, l4, .int x, l6, l7, l8, l9] S st P = AW X d 139 389 [l0, l1, l2, l3, l4, .int x, l6, l7, l8, l9] (.int x :: S) st P := zAW_st (zd_of zb_L_law dL_law_387) rfl rfl
theorem E_L_law_389 : AW X d 139 389 [l0, l1, l2, l3, l4, l5, l6, l7, l8, l9] S st P = AW X d 139 390 [l0, l1, l2, l3, l4, l5, l6, l7, l8, l9] (.int 2 :: S) st P := zq_iconst (zd_of zb_L_law dL_law_389) (by decide)
theorem E_L_law_390 : AW X d 139 390 [l0, l1, l2, l3, l4, l5, l6, l7, l8, l9] (.int y :: .int x :: S) st P = AW X d 139 391 [l0, l1, l2, l3, l4, l5, l6, l7, l8, l9] (.int (x + y) :: S) st P := zAW_st (zd_of zb_L_law dL_law_390) rfl rfl
theorem E_L_law_391 : AW X d 139 391 [l0, l1, l2, l3, l4, l5, l6, l7, l8, l9] (.int x :: .ref a :: S) st P = zwith (zai X st a) fun q => zwith (zix x q.1) fun j => AW X d 139 392 [l0, l1, l2, l3, l4, l5, l6, l7, l8, l9] (.int (q.2 j) :: S) st P := zq_iaload (zd_of zb_L_law dL_law_391)
theorem E_L_law_392 : AW X d 139 392 [l0, l1, l2, l3, l4, l5, l6, l7, l8, l9] (.int y :: .int x :: .ref a :: S) st P = zif (zis st a 7 = true) (zif (S.length ≤ 4) (AC X d 84 [.ref a, .int x, .int y] st (zaft X d 139 392 [l0, l1, l2, l3, l4, l5, l6, l7, l8, l9] S P))) := zq_callV (B := [.int x, .int y]) (zd_of zb_L_law dL_law_392) zo_L_law (by decide) zl_15_86 zn_84 rfl rfl rfl
theorem E_L_law_395 : AW X d 139 395 [l0, l1, l2, l3, l4, l5, l6, l7, l8, l9] (.int x :: S) st P = AW X d 139 397 [l0, l1, l2, l3, l4, l5, l6, .int x, l8, l9] S st P := zAW_st (zd_of zb_L_law dL_law_395) rfl rfl
theorem E_L_law_397 : AW X d 139 397 [l0, l1, .ref a, l3, l4, l5, l6, l7, l8, l9] S st P = AW X d 139 398 [l0, l1, .ref a, l3, l4, l5, l6, l7, l8, l9] (.ref a :: S) st P := zAW_st (zd_of zb_L_law dL_law_397) rfl rfl
theorem E_L_law_397n : AW X d 139 397 [l0, l1, .null, l3, l4, l5, l6, l7, l8, l9] S st P = AW X d 139 398 [l0, l1, .null, l3, l4, l5, l6, l7, l8, l9] (.null :: S) st P := zAW_st (zd_of zb_L_law dL_law_397) rfl rfl
theorem E_L_law_398 : AW X d 139 398 [l0, l1, l2, l3, l4, l5, l6, l7, l8, l9] (.ref a :: S) st P = zif (zis st a 7 = true) (zif (S.length ≤ 4) (AC X d 73 [.ref a] st (zaft X d 139 398 [l0, l1, l2, l3, l4, l5, l6, l7, l8, l9] S P))) := zq_callV (B := []) (zd_of zb_L_law dL_law_398) zo_L_law (by decide) zl_15_69 zn_73 rfl rfl rfl
theorem E_L_law_401 : AW X d 139 401 [l0, l1, l2, l3, l4, l5, .int x, l7, l8, l9] S st P = AW X d 139 403 [l0, l1, l2, l3, l4, l5, .int x, l7, l8, l9] (.int x :: S) st P := zAW_st (zd_of zb_L_law dL_law_401) rfl rfl
theorem E_L_law_403 : AW X d 139 403 [l0, l1, l2, l3, l4, l5, l6, l7, l8, l9] (.int y :: .int x :: S) st P = if x = y then AW X d 139 408 [l0, l1, l2, l3, l4, l5, l6, l7, l8, l9] S st P else AW X d 139 406 [l0, l1, l2, l3, l4, l5, l6, l7, l8, l9] S st P := zq_icmp (c := x = y) (zd_of zb_L_law dL_law_403) (by decide) rfl
theorem E_L_law_406 : AW X d 139 406 [l0, l1, l2, l3, l4, l5, l6, l7, l8, l9] S st P = AW X d 139 407 [l0, l1, l2, l3, l4, l5, l6, l7, l8, l9] (.int 0 :: S) st P := zq_iconst (zd_of zb_L_law dL_law_406) (by decide)
theorem E_L_law_407 : AW X d 139 407 [l0, l1, l2, l3, l4, l5, l6, l7, l8, l9] ([.int x]) st P = zif (x &&& 1 = x) (P (.inl (some (.int x))) st) := by
  by_cases h : x &&& 1 = x
  · rw [zif_of h]; exact zAW_ret (w := (.inl (some (.int x)), st)) (zd_of zb_L_law dL_law_407) rfl rfl (by simp only [zfin, zr_L_law]; rw [if_pos h])
  · rw [zAW_stuck (zd_of zb_L_law dL_law_407) rfl (by simp only [zfin, zr_L_law]; rw [if_neg h]) rfl]; exact propext ⟨fun z => z.elim, fun z => h z.1⟩
theorem E_L_law_408 : AW X d 139 408 [l0, l1, l2, l3, l4, l5, .int x, l7, l8, l9] S st P = AW X d 139 410 [l0, l1, l2, l3, l4, l5, .int x, l7, l8, l9] (.int x :: S) st P := zAW_st (zd_of zb_L_law dL_law_408) rfl rfl
theorem E_L_law_410 : AW X d 139 410 [l0, l1, l2, l3, l4, l5, l6, l7, l8, l9] (.int x :: S) st P = if ¬ x = 0 then AW X d 139 425 [l0, l1, l2, l3, l4, l5, l6, l7, l8, l9] S st P else AW X d 139 413 [l0, l1, l2, l3, l4, l5, l6, l7, l8, l9] S st P := zq_if (c := ¬ x = 0) (zd_of zb_L_law dL_law_410) (by decide) rfl
theorem E_L_law_413 : AW X d 139 413 [l0, l1, l2, .ref a, l4, l5, l6, l7, l8, l9] S st P = AW X d 139 414 [l0, l1, l2, .ref a, l4, l5, l6, l7, l8, l9] (.ref a :: S) st P := zAW_st (zd_of zb_L_law dL_law_413) rfl rfl
theorem E_L_law_413n : AW X d 139 413 [l0, l1, l2, .null, l4, l5, l6, l7, l8, l9] S st P = AW X d 139 414 [l0, l1, l2, .null, l4, l5, l6, l7, l8, l9] (.null :: S) st P := zAW_st (zd_of zb_L_law dL_law_413) rfl rfl
theorem E_L_law_414 : AW X d 139 414 [l0, l1, l2, l3, l4, l5, l6, l7, l8, l9] S st P = AW X d 139 415 [l0, l1, l2, l3, l4, l5, l6, l7, l8, l9] (.int 0 :: S) st P := zq_iconst (zd_of zb_L_law dL_law_414) (by decide)
theorem E_L_law_415 : AW X d 139 415 [l0, l1, l2, l3, l4, l5, l6, l7, l8, l9] (.int x :: .ref a :: S) st P = zwith (zaL st a) fun q => zwith (zix x q.1) fun j => AW X d 139 416 [l0, l1, l2, l3, l4, l5, l6, l7, l8, l9] (.long (q.2 j) :: S) st P := zq_laload (zd_of zb_L_law dL_law_415)
theorem E_L_law_416 : AW X d 139 416 [l0, l1, l2, l3, l4, l5, l6, .int x, l8, l9] S st P = AW X d 139 418 [l0, l1, l2, l3, l4, l5, l6, .int x, l8, l9] (.int x :: S) st P := zAW_st (zd_of zb_L_law dL_law_416) rfl rfl
theorem E_L_law_418 : AW X d 139 418 [l0, l1, l2, l3, l4, l5, l6, l7, l8, l9] (.int x :: S) st P = AW X d 139 419 [l0, l1, l2, l3, l4, l5, l6, l7, l8, l9] (.long x.toInt64 :: S) st P := zAW_st (zd_of zb_L_law dL_law_418) rfl rfl
theorem E_L_law_419 : AW X d 139 419 [l0, l1, l2, l3, l4, l5, l6, l7, l8, l9] (.long q2 :: .long q1 :: S) st P = AW X d 139 420 [l0, l1, l2, l3, l4, l5, l6, l7, l8, l9] (.int (lg_cmp q1 q2) :: S) st P := zAW_st (zd_of zb_L_law dL_law_419) rfl rfl
theorem E_L_law_420 : AW X d 139 420 [l0, l1, l2, l3, l4, l5, l6, l7, l8, l9] (.int x :: S) st P = if x = 0 then AW X d 139 425 [l0, l1, l2, l3, l4, l5, l6, l7, l8, l9] S st P else AW X d 139 423 [l0, l1, l2, l3, l4, l5, l6, l7, l8, l9] S st P := zq_if (c := x = 0) (zd_of zb_L_law dL_law_420) (by decide) rfl
theorem E_L_law_423 : AW X d 139 423 [l0, l1, l2, l3, l4, l5, l6, l7, l8, l9] S st P = AW X d 139 424 [l0, l1, l2, l3, l4, l5, l6, l7, l8, l9] (.int 0 :: S) st P := zq_iconst (zd_of zb_L_law dL_law_423) (by decide)
theorem E_L_law_424 : AW X d 139 424 [l0, l1, l2, l3, l4, l5, l6, l7, l8, l9] ([.int x]) st P = zif (x &&& 1 = x) (P (.inl (some (.int x))) st) := by
  by_cases h : x &&& 1 = x
  · rw [zif_of h]; exact zAW_ret (w := (.inl (some (.int x)), st)) (zd_of zb_L_law dL_law_424) rfl rfl (by simp only [zfin, zr_L_law]; rw [if_pos h])
  · rw [zAW_stuck (zd_of zb_L_law dL_law_424) rfl (by simp only [zfin, zr_L_law]; rw [if_neg h]) rfl]; exact propext ⟨fun z => z.elim, fun z => h z.1⟩
theorem E_L_law_425 : AW X d 139 425 [l0, l1, l2, l3, l4, l5, l6, l7, l8, l9] S st P = AW X d 139 1057 [l0, l1, l2, l3, l4, l5, l6, l7, l8, l9] S st P := zq_goto (zd_of zb_L_law dL_law_425) (by decide)
theorem E_L_law_428 : AW X d 139 428 [l0, .ref a, l2, l3, l4, l5, l6, l7, l8, l9] S st P = AW X d 139 429 [l0, .ref a, l2, l3, l4, l5, l6, l7, l8, l9] (.ref a :: S) st P := zAW_st (zd_of zb_L_law dL_law_428) rfl rfl
theorem E_L_law_428n : AW X d 139 428 [l0, .null, l2, l3, l4, l5, l6, l7, l8, l9] S st P = AW X d 139 429 [l0, .null, l2, l3, l4, l5, l6, l7, l8, l9] (.null :: S) st P := zAW_st (zd_of zb_L_law dL_law_428) rfl rfl
theorem E_L_law_429 : AW X d 139 429 [.ref a, l1, l2, l3, l4, l5, l6, l7, l8, l9] S st P = AW X d 139 430 [.ref a, l1, l2, l3, l4, l5, l6, l7, l8, l9] (.ref a :: S) st P := zAW_st (zd_of zb_L_law dL_law_429) rfl rfl
theorem E_L_law_429n : AW X d 139 429 [.null, l1, l2, l3, l4, l5, l6, l7, l8, l9] S st P = AW X d 139 430 [.null, l1, l2, l3, l4, l5, l6, l7, l8, l9] (.null :: S) st P := zAW_st (zd_of zb_L_law dL_law_429) rfl rfl
theorem E_L_law_430 : AW X d 139 430 [l0, l1, l2, l3, l4, .int x, l6, l7, l8, l9] S st P = AW X d 139 432 [l0, l1, l2, l3, l4, .int x, l6, l7, l8, l9] (.int x :: S) st P := zAW_st (zd_of zb_L_law dL_law_430) rfl rfl
theorem E_L_law_432 : AW X d 139 432 [l0, l1, l2, l3, l4, l5, l6, l7, l8, l9] S st P = AW X d 139 433 [l0, l1, l2, l3, l4, l5, l6, l7, l8, l9] (.int 1 :: S) st P := zq_iconst (zd_of zb_L_law dL_law_432) (by decide)
theorem E_L_law_433 : AW X d 139 433 [l0, l1, l2, l3, l4, l5, l6, l7, l8, l9] (.int y :: .int x :: S) st P = AW X d 139 434 [l0, l1, l2, l3, l4, l5, l6, l7, l8, l9] (.int (x + y) :: S) st P := zAW_st (zd_of zb_L_law dL_law_433) rfl rfl
theorem E_L_law_434 : AW X d 139 434 [l0, l1, l2, l3, l4, l5, l6, l7, l8, l9] (.int x :: .ref a :: S) st P = zwith (zai X st a) fun q => zwith (zix x q.1) fun j => AW X d 139 435 [l0, l1, l2, l3, l4, l5, l6, l7, l8, l9] (.int (q.2 j) :: S) st P := zq_iaload (zd_of zb_L_law dL_law_434)
theorem E_L_law_435 : AW X d 139 435 [l0, l1, l2, l3, .ref a, l5, l6, l7, l8, l9] S st P = AW X d 139 437 [l0, l1, l2, l3, .ref a, l5, l6, l7, l8, l9] (.ref a :: S) st P := zAW_st (zd_of zb_L_law dL_law_435) rfl rfl
theorem E_L_law_435n : AW X d 139 435 [l0, l1, l2, l3, .null, l5, l6, l7, l8, l9] S st P = AW X d 139 437 [l0, l1, l2, l3, .null, l5, l6, l7, l8, l9] (.null :: S) st P := zAW_st (zd_of zb_L_law dL_law_435) rfl rfl
theorem E_L_law_437 : AW X d 139 437 [l0, l1, l2, l3, l4, l5, l6, l7, l8, l9] (v2 :: .int x :: v1 :: S) st P = zif (S.length ≤ 4) (AC X d 131 [v1, .int x, v2] st (zaft X d 139 437 [l0, l1, l2, l3, l4, l5, l6, l7, l8, l9] S P)) := zq_callS (B := [v1, .int x, v2]) (S2 := S) (zd_of zb_L_law dL_law_437) zo_L_law (by decide) (by decide) (by decide) zl_15_87 zn_131 (by simp only [List.length_cons]; omega) rfl rfl
theorem E_L_law_440 : AW X d 139 440 [l0, l1, l2, l3, l4, l5, l6, l7, l8, l9] (.int x :: S) st P = AW X d 139 442 [l0, l1, l2, l3, l4, l5, .int x, l7, l8, l9] S st P := zAW_st (zd_of zb_L_law dL_law_440) rfl rfl
theorem E_L_law_442 : AW X d 139 442 [l0, l1, .ref a, l3, l4, l5, l6, l7, l8, l9] S st P = AW X d 139 443 [l0, l1, .ref a, l3, l4, l5, l6, l7, l8, l9] (.ref a :: S) st P := zAW_st (zd_of zb_L_law dL_law_442) rfl rfl
theorem E_L_law_442n : AW X d 139 442 [l0, l1, .null, l3, l4, l5, l6, l7, l8, l9] S st P = AW X d 139 443 [l0, l1, .null, l3, l4, l5, l6, l7, l8, l9] (.null :: S) st P := zAW_st (zd_of zb_L_law dL_law_442) rfl rfl
theorem E_L_law_443 : AW X d 139 443 [.ref a, l1, l2, l3, l4, l5, l6, l7, l8, l9] S st P = AW X d 139 444 [.ref a, l1, l2, l3, l4, l5, l6, l7, l8, l9] (.ref a :: S) st P := zAW_st (zd_of zb_L_law dL_law_443) rfl rfl
theorem E_L_law_443n : AW X d 139 443 [.null, l1, l2, l3, l4, l5, l6, l7, l8, l9] S st P = AW X d 139 444 [.null, l1, l2, l3, l4, l5, l6, l7, l8, l9] (.null :: S) st P := zAW_st (zd_of zb_L_law dL_law_443) rfl rfl
theorem E_L_law_444 : AW X d 139 444 [l0, l1, l2, l3, l4, .int x, l6, l7, l8, l9] S st P = AW X d 139 446 [l0, l1, l2, l3, l4, .int x, l6, l7, l8, l9] (.int x :: S) st P := zAW_st (zd_of zb_L_law dL_law_444) rfl rfl
theorem E_L_law_446 : AW X d 139 446 [l0, l1, l2, l3, l4, l5, l6, l7, l8, l9] S st P = AW X d 139 447 [l0, l1, l2, l3, l4, l5, l6, l7, l8, l9] (.int 1 :: S) st P := zq_iconst (zd_of zb_L_law dL_law_446) (by decide)
theorem E_L_law_447 : AW X d 139 447 [l0, l1, l2, l3, l4, l5, l6, l7, l8, l9] (.int y :: .int x :: S) st P = AW X d 139 448 [l0, l1, l2, l3, l4, l5, l6, l7, l8, l9] (.int (x + y) :: S) st P := zAW_st (zd_of zb_L_law dL_law_447) rfl rfl
theorem E_L_law_448 : AW X d 139 448 [l0, l1, l2, l3, l4, l5, l6, l7, l8, l9] (.int x :: .ref a :: S) st P = zwith (zai X st a) fun q => zwith (zix x q.1) fun j => AW X d 139 449 [l0, l1, l2, l3, l4, l5, l6, l7, l8, l9] (.int (q.2 j) :: S) st P := zq_iaload (zd_of zb_L_law dL_law_448)
theorem E_L_law_449 : AW X d 139 449 [l0, l1, l2, l3, l4, l5, l6, l7, l8, l9] (.int x :: .ref a :: S) st P = zif (zis st a 7 = true) (zif (S.length ≤ 4) (AC X d 87 [.ref a, .int x] st (zaft X d 139 449 [l0, l1, l2, l3, l4, l5, l6, l7, l8, l9] S P))) := zq_callV (B := [.int x]) (zd_of zb_L_law dL_law_449) zo_L_law (by decide) zl_15_90 zn_87 rfl rfl rfl
theorem E_L_law_452 : AW X d 139 452 [l0, l1, l2, l3, l4, l5, l6, l7, l8, l9] (.float u :: S) st P = AW X d 139 454 [l0, l1, l2, l3, l4, l5, l6, .float u, l8, l9] S st P := zAW_st (zd_of zb_L_law dL_law_452) rfl rfl
theorem E_L_law_454 : AW X d 139 454 [l0, l1, .ref a, l3, l4, l5, l6, l7, l8, l9] S st P = AW X d 139 455 [l0, l1, .ref a, l3, l4, l5, l6, l7, l8, l9] (.ref a :: S) st P := zAW_st (zd_of zb_L_law dL_law_454) rfl rfl
theorem E_L_law_454n : AW X d 139 454 [l0, l1, .null, l3, l4, l5, l6, l7, l8, l9] S st P = AW X d 139 455 [l0, l1, .null, l3, l4, l5, l6, l7, l8, l9] (.null :: S) st P := zAW_st (zd_of zb_L_law dL_law_454) rfl rfl
theorem E_L_law_455 : AW X d 139 455 [l0, l1, l2, l3, l4, l5, l6, l7, l8, l9] (.ref a :: S) st P = zif (zis st a 7 = true) (zif (S.length ≤ 4) (AC X d 73 [.ref a] st (zaft X d 139 455 [l0, l1, l2, l3, l4, l5, l6, l7, l8, l9] S P))) := zq_callV (B := []) (zd_of zb_L_law dL_law_455) zo_L_law (by decide) zl_15_69 zn_73 rfl rfl rfl
theorem E_L_law_458 : AW X d 139 458 [l0, l1, l2, l3, l4, l5, .int x, l7, l8, l9] S st P = AW X d 139 460 [l0, l1, l2, l3, l4, l5, .int x, l7, l8, l9] (.int x :: S) st P := zAW_st (zd_of zb_L_law dL_law_458) rfl rfl
theorem E_L_law_460 : AW X d 139 460 [l0, l1, l2, l3, l4, l5, l6, l7, l8, l9] (.int y :: .int x :: S) st P = if x = y then AW X d 139 465 [l0, l1, l2, l3, l4, l5, l6, l7, l8, l9] S st P else AW X d 139 463 [l0, l1, l2, l3, l4, l5, l6, l7, l8, l9] S st P := zq_icmp (c := x = y) (zd_of zb_L_law dL_law_460) (by decide) rfl
theorem E_L_law_463 : AW X d 139 463 [l0, l1, l2, l3, l4, l5, l6, l7, l8, l9] S st P = AW X d 139 464 [l0, l1, l2, l3, l4, l5, l6, l7, l8, l9] (.int 0 :: S) st P := zq_iconst (zd_of zb_L_law dL_law_463) (by decide)
theorem E_L_law_464 : AW X d 139 464 [l0, l1, l2, l3, l4, l5, l6, l7, l8, l9] ([.int x]) st P = zif (x &&& 1 = x) (P (.inl (some (.int x))) st) := by
  by_cases h : x &&& 1 = x
  · rw [zif_of h]; exact zAW_ret (w := (.inl (some (.int x)), st)) (zd_of zb_L_law dL_law_464) rfl rfl (by simp only [zfin, zr_L_law]; rw [if_pos h])
  · rw [zAW_stuck (zd_of zb_L_law dL_law_464) rfl (by simp only [zfin, zr_L_law]; rw [if_neg h]) rfl]; exact propext ⟨fun z => z.elim, fun z => h z.1⟩
theorem E_L_law_465 : AW X d 139 465 [l0, l1, l2, l3, l4, l5, .int x, l7, l8, l9] S st P = AW X d 139 467 [l0, l1, l2, l3, l4, l5, .int x, l7, l8, l9] (.int x :: S) st P := zAW_st (zd_of zb_L_law dL_law_465) rfl rfl
theorem E_L_law_467 : AW X d 139 467 [l0, l1, l2, l3, l4, l5, l6, l7, l8, l9] (.int x :: S) st P = if ¬ x = 0 then AW X d 139 503 [l0, l1, l2, l3, l4, l5, l6, l7, l8, l9] S st P else AW X d 139 470 [l0, l1, l2, l3, l4, l5, l6, l7, l8, l9] S st P := zq_if (c := ¬ x = 0) (zd_of zb_L_law dL_law_467) (by decide) rfl
theorem E_L_law_470 : AW X d 139 470 [l0, l1, l2, l3, .ref a, l5, l6, l7, l8, l9] S st P = AW X d 139 472 [l0, l1, l2, l3, .ref a, l5, l6, l7, l8, l9] (.ref a :: S) st P := zAW_st (zd_of zb_L_law dL_law_470) rfl rfl
theorem E_L_law_470n : AW X d 139 470 [l0, l1, l2, l3, .null, l5, l6, l7, l8, l9] S st P = AW X d 139 472 [l0, l1, l2, l3, .null, l5, l6, l7, l8, l9] (.null :: S) st P := zAW_st (zd_of zb_L_law dL_law_470) rfl rfl
theorem E_L_law_472 : AW X d 139 472 [l0, l1, l2, l3, l4, l5, l6, l7, l8, l9] S st P = AW X d 139 473 [l0, l1, l2, l3, l4, l5, l6, l7, l8, l9] (.int 0 :: S) st P := zq_iconst (zd_of zb_L_law dL_law_472) (by decide)
theorem E_L_law_473 : AW X d 139 473 [l0, l1, l2, l3, l4, l5, l6, l7, l8, l9] (.int x :: .ref a :: S) st P = zwith (zaD st a) fun q => zwith (zix x q.1) fun j => AW X d 139 474 [l0, l1, l2, l3, l4, l5, l6, l7, l8, l9] (.double (q.2 j) :: S) st P := zq_daload (zd_of zb_L_law dL_law_473)
theorem E_L_law_474 : AW X d 139 474 [l0, l1, l2, l3, l4, l5, l6, .float u, l8, l9] S st P = AW X d 139 476 [l0, l1, l2, l3, l4, l5, l6, .float u, l8, l9] (.float u :: S) st P := zAW_st (zd_of zb_L_law dL_law_474) rfl rfl
theorem E_L_law_476 : AW X d 139 476 [l0, l1, l2, l3, l4, l5, l6, l7, l8, l9] (.float u :: S) st P = zif (zn64 (FP.f2d u) = true) (AW X d 139 477 [l0, l1, l2, l3, l4, l5, l6, l7, l8, l9] (.double (FP.f2d u) :: S) st P) := zq_f2d (zd_of zb_L_law dL_law_476)
theorem E_L_law_477 : AW X d 139 477 [l0, l1, l2, l3, l4, l5, l6, l7, l8, l9] (.double w2 :: .double w :: S) st P = AW X d 139 478 [l0, l1, l2, l3, l4, l5, l6, l7, l8, l9] (.int (Op.cmpValue (FP.dcmp w w2) .l) :: S) st P := zAW_st (zd_of zb_L_law dL_law_477) rfl rfl
theorem E_L_law_478 : AW X d 139 478 [l0, l1, l2, l3, l4, l5, l6, l7, l8, l9] (.int x :: S) st P = if x = 0 then AW X d 139 503 [l0, l1, l2, l3, l4, l5, l6, l7, l8, l9] S st P else AW X d 139 481 [l0, l1, l2, l3, l4, l5, l6, l7, l8, l9] S st P := zq_if (c := x = 0) (zd_of zb_L_law dL_law_478) (by decide) rfl
theorem E_L_law_481 : AW X d 139 481 [l0, l1, l2, l3, .ref a, l5, l6, l7, l8, l9] S st P = AW X d 139 483 [l0, l1, l2, l3, .ref a, l5, l6, l7, l8, l9] (.ref a :: S) st P := zAW_st (zd_of zb_L_law dL_law_481) rfl rfl
theorem E_L_law_481n : AW X d 139 481 [l0, l1, l2, l3, .null, l5, l6, l7, l8, l9] S st P = AW X d 139 483 [l0, l1, l2, l3, .null, l5, l6, l7, l8, l9] (.null :: S) st P := zAW_st (zd_of zb_L_law dL_law_481) rfl rfl
theorem E_L_law_483 : AW X d 139 483 [l0, l1, l2, l3, l4, l5, l6, l7, l8, l9] S st P = AW X d 139 484 [l0, l1, l2, l3, l4, l5, l6, l7, l8, l9] (.int 0 :: S) st P := zq_iconst (zd_of zb_L_law dL_law_483) (by decide)
theorem E_L_law_484 : AW X d 139 484 [l0, l1, l2, l3, l4, l5, l6, l7, l8, l9] (.int x :: .ref a :: S) st P = zwith (zaD st a) fun q => zwith (zix x q.1) fun j => AW X d 139 485 [l0, l1, l2, l3, l4, l5, l6, l7, l8, l9] (.double (q.2 j) :: S) st P := zq_daload (zd_of zb_L_law dL_law_484)
theorem E_L_law_485 : AW X d 139 485 [l0, l1, l2, l3, .ref a, l5, l6, l7, l8, l9] S st P = AW X d 139 487 [l0, l1, l2, l3, .ref a, l5, l6, l7, l8, l9] (.ref a :: S) st P := zAW_st (zd_of zb_L_law dL_law_485) rfl rfl
theorem E_L_law_485n : AW X d 139 485 [l0, l1, l2, l3, .null, l5, l6, l7, l8, l9] S st P = AW X d 139 487 [l0, l1, l2, l3, .null, l5, l6, l7, l8, l9] (.null :: S) st P := zAW_st (zd_of zb_L_law dL_law_485) rfl rfl
theorem E_L_law_487 : AW X d 139 487 [l0, l1, l2, l3, l4, l5, l6, l7, l8, l9] S st P = AW X d 139 488 [l0, l1, l2, l3, l4, l5, l6, l7, l8, l9] (.int 0 :: S) st P := zq_iconst (zd_of zb_L_law dL_law_487) (by decide)
theorem E_L_law_488 : AW X d 139 488 [l0, l1, l2, l3, l4, l5, l6, l7, l8, l9] (.int x :: .ref a :: S) st P = zwith (zaD st a) fun q => zwith (zix x q.1) fun j => AW X d 139 489 [l0, l1, l2, l3, l4, l5, l6, l7, l8, l9] (.double (q.2 j) :: S) st P := zq_daload (zd_of zb_L_law dL_law_488)
theorem E_L_law_489 : AW X d 139 489 [l0, l1, l2, l3, l4, l5, l6, l7, l8, l9] (.double w2 :: .double w :: S) st P = AW X d 139 490 [l0, l1, l2, l3, l4, l5, l6, l7, l8, l9] (.int (Op.cmpValue (FP.dcmp w w2) .l) :: S) st P := zAW_st (zd_of zb_L_law dL_law_489) rfl rfl
theorem E_L_law_490 : AW X d 139 490 [l0, l1, l2, l3, l4, l5, l6, l7, l8, l9] (.int x :: S) st P = if x = 0 then AW X d 139 501 [l0, l1, l2, l3, l4, l5, l6, l7, l8, l9] S st P else AW X d 139 493 [l0, l1, l2, l3, l4, l5, l6, l7, l8, l9] S st P := zq_if (c := x = 0) (zd_of zb_L_law dL_law_490) (by decide) rfl
theorem E_L_law_493 : AW X d 139 493 [l0, l1, l2, l3, l4, l5, l6, .float u, l8, l9] S st P = AW X d 139 495 [l0, l1, l2, l3, l4, l5, l6, .float u, l8, l9] (.float u :: S) st P := zAW_st (zd_of zb_L_law dL_law_493) rfl rfl
theorem E_L_law_495 : AW X d 139 495 [l0, l1, l2, l3, l4, l5, l6, .float u, l8, l9] S st P = AW X d 139 497 [l0, l1, l2, l3, l4, l5, l6, .float u, l8, l9] (.float u :: S) st P := zAW_st (zd_of zb_L_law dL_law_495) rfl rfl
theorem E_L_law_497 : AW X d 139 497 [l0, l1, l2, l3, l4, l5, l6, l7, l8, l9] (.float u2 :: .float u :: S) st P = AW X d 139 498 [l0, l1, l2, l3, l4, l5, l6, l7, l8, l9] (.int (Op.cmpValue (FP.fcmp u u2) .l) :: S) st P := zAW_st (zd_of zb_L_law dL_law_497) rfl rfl
theorem E_L_law_498 : AW X d 139 498 [l0, l1, l2, l3, l4, l5, l6, l7, l8, l9] (.int x :: S) st P = if ¬ x = 0 then AW X d 139 503 [l0, l1, l2, l3, l4, l5, l6, l7, l8, l9] S st P else AW X d 139 501 [l0, l1, l2, l3, l4, l5, l6, l7, l8, l9] S st P := zq_if (c := ¬ x = 0) (zd_of zb_L_law dL_law_498) (by decide) rfl
theorem E_L_law_501 : AW X d 139 501 [l0, l1, l2, l3, l4, l5, l6, l7, l8, l9] S st P = AW X d 139 502 [l0, l1, l2, l3, l4, l5, l6, l7, l8, l9] (.int 0 :: S) st P := zq_iconst (zd_of zb_L_law dL_law_501) (by decide)
theorem E_L_law_502 : AW X d 139 502 [l0, l1, l2, l3, l4, l5, l6, l7, l8, l9] ([.int x]) st P = zif (x &&& 1 = x) (P (.inl (some (.int x))) st) := by
  by_cases h : x &&& 1 = x
  · rw [zif_of h]; exact zAW_ret (w := (.inl (some (.int x)), st)) (zd_of zb_L_law dL_law_502) rfl rfl (by simp only [zfin, zr_L_law]; rw [if_pos h])
  · rw [zAW_stuck (zd_of zb_L_law dL_law_502) rfl (by simp only [zfin, zr_L_law]; rw [if_neg h]) rfl]; exact propext ⟨fun z => z.elim, fun z => h z.1⟩
theorem E_L_law_503 : AW X d 139 503 [l0, l1, l2, l3, l4, l5, l6, l7, l8, l9] S st P = AW X d 139 1057 [l0, l1, l2, l3, l4, l5, l6, l7, l8, l9] S st P := zq_goto (zd_of zb_L_law dL_law_503) (by decide)
theorem E_L_law_506 : AW X d 139 506 [l0, .ref a, l2, l3, l4, l5, l6, l7, l8, l9] S st P = AW X d 139 507 [l0, .ref a, l2, l3, l4, l5, l6, l7, l8, l9] (.ref a :: S) st P := zAW_st (zd_of zb_L_law dL_law_506) rfl rfl
theorem E_L_law_506n : AW X d 139 506 [l0, .null, l2, l3, l4, l5, l6, l7, l8, l9] S st P = AW X d 139 507 [l0, .null, l2, l3, l4, l5, l6, l7, l8, l9] (.null :: S) st P := zAW_st (zd_of zb_L_law dL_law_506) rfl rfl
theorem E_L_law_507 : AW X d 139 507 [.ref a, l1, l2, l3, l4, l5, l6, l7, l8, l9] S st P = AW X d 139 508 [.ref a, l1, l2, l3, l4, l5, l6, l7, l8, l9] (.ref a :: S) st P := zAW_st (zd_of zb_L_law dL_law_507) rfl rfl
theorem E_L_law_507n : AW X d 139 507 [.null, l1, l2, l3, l4, l5, l6, l7, l8, l9] S st P = AW X d 139 508 [.null, l1, l2, l3, l4, l5, l6, l7, l8, l9] (.null :: S) st P := zAW_st (zd_of zb_L_law dL_law_507) rfl rfl
theorem E_L_law_508 : AW X d 139 508 [l0, l1, l2, l3, l4, .int x, l6, l7, l8, l9] S st P = AW X d 139 510 [l0, l1, l2, l3, l4, .int x, l6, l7, l8, l9] (.int x :: S) st P := zAW_st (zd_of zb_L_law dL_law_508) rfl rfl
theorem E_L_law_510 : AW X d 139 510 [l0, l1, l2, l3, l4, l5, l6, l7, l8, l9] S st P = AW X d 139 511 [l0, l1, l2, l3, l4, l5, l6, l7, l8, l9] (.int 1 :: S) st P := zq_iconst (zd_of zb_L_law dL_law_510) (by decide)
theorem E_L_law_511 : AW X d 139 511 [l0, l1, l2, l3, l4, l5, l6, l7, l8, l9] (.int y :: .int x :: S) st P = AW X d 139 512 [l0, l1, l2, l3, l4, l5, l6, l7, l8, l9] (.int (x + y) :: S) st P := zAW_st (zd_of zb_L_law dL_law_511) rfl rfl
theorem E_L_law_512 : AW X d 139 512 [l0, l1, l2, l3, l4, l5, l6, l7, l8, l9] (.int x :: .ref a :: S) st P = zwith (zai X st a) fun q => zwith (zix x q.1) fun j => AW X d 139 513 [l0, l1, l2, l3, l4, l5, l6, l7, l8, l9] (.int (q.2 j) :: S) st P := zq_iaload (zd_of zb_L_law dL_law_512)
theorem E_L_law_513 : AW X d 139 513 [.ref a, l1, l2, l3, l4, l5, l6, l7, l8, l9] S st P = AW X d 139 514 [.ref a, l1, l2, l3, l4, l5, l6, l7, l8, l9] (.ref a :: S) st P := zAW_st (zd_of zb_L_law dL_law_513) rfl rfl
theorem E_L_law_513n : AW X d 139 513 [.null, l1, l2, l3, l4, l5, l6, l7, l8, l9] S st P = AW X d 139 514 [.null, l1, l2, l3, l4, l5, l6, l7, l8, l9] (.null :: S) st P := zAW_st (zd_of zb_L_law dL_law_513) rfl rfl
theorem E_L_law_514 : AW X d 139 514 [l0, l1, l2, l3, l4, .int x, l6, l7, l8, l9] S st P = AW X d 139 516 [l0, l1, l2, l3, l4, .int x, l6, l7, l8, l9] (.int x :: S) st P := zAW_st (zd_of zb_L_law dL_law_514) rfl rfl
theorem E_L_law_516 : AW X d 139 516 [l0, l1, l2, l3, l4, l5, l6, l7, l8, l9] S st P = AW X d 139 517 [l0, l1, l2, l3, l4, l5, l6, l7, l8, l9] (.int 2 :: S) st P := zq_iconst (zd_of zb_L_law dL_law_516) (by decide)
theorem E_L_law_517 : AW X d 139 517 [l0, l1, l2, l3, l4, l5, l6, l7, l8, l9] (.int y :: .int x :: S) st P = AW X d 139 518 [l0, l1, l2, l3, l4, l5, l6, l7, l8, l9] (.int (x + y) :: S) st P := zAW_st (zd_of zb_L_law dL_law_517) rfl rfl
theorem E_L_law_518 : AW X d 139 518 [l0, l1, l2, l3, l4, l5, l6, l7, l8, l9] (.int x :: .ref a :: S) st P = zwith (zai X st a) fun q => zwith (zix x q.1) fun j => AW X d 139 519 [l0, l1, l2, l3, l4, l5, l6, l7, l8, l9] (.int (q.2 j) :: S) st P := zq_iaload (zd_of zb_L_law dL_law_518)
theorem E_L_law_519 : AW X d 139 519 [l0, l1, l2, .ref a, l4, l5, l6, l7, l8, l9] S st P = AW X d 139 520 [l0, l1, l2, .ref a, l4, l5, l6, l7, l8, l9] (.ref a :: S) st P := zAW_st (zd_of zb_L_law dL_law_519) rfl rfl
theorem E_L_law_519n : AW X d 139 519 [l0, l1, l2, .null, l4, l5, l6, l7, l8, l9] S st P = AW X d 139 520 [l0, l1, l2, .null, l4, l5, l6, l7, l8, l9] (.null :: S) st P := zAW_st (zd_of zb_L_law dL_law_519) rfl rfl
theorem E_L_law_520 : AW X d 139 520 [l0, l1, l2, l3, l4, l5, l6, l7, l8, l9] (v2 :: .int y :: .int x :: v1 :: S) st P = zif (S.length ≤ 4) (AC X d 132 [v1, .int x, .int y, v2] st (zaft X d 139 520 [l0, l1, l2, l3, l4, l5, l6, l7, l8, l9] S P)) := zq_callS (B := [v1, .int x, .int y, v2]) (S2 := S) (zd_of zb_L_law dL_law_520) zo_L_law (by decide) (by decide) (by decide) zl_15_91 zn_132 (by simp only [List.length_cons]; omega) rfl rfl
theorem E_L_law_523 : AW X d 139 523 [l0, l1, l2, l3, l4, l5, l6, l7, l8, l9] (.int x :: S) st P = AW X d 139 525 [l0, l1, l2, l3, l4, l5, .int x, l7, l8, l9] S st P := zAW_st (zd_of zb_L_law dL_law_523) rfl rfl
theorem E_L_law_525 : AW X d 139 525 [l0, l1, .ref a, l3, l4, l5, l6, l7, l8, l9] S st P = AW X d 139 526 [l0, l1, .ref a, l3, l4, l5, l6, l7, l8, l9] (.ref a :: S) st P := zAW_st (zd_of zb_L_law dL_law_525) rfl rfl
theorem E_L_law_525n : AW X d 139 525 [l0, l1, .null, l3, l4, l5, l6, l7, l8, l9] S st P = AW X d 139 526 [l0, l1, .null, l3, l4, l5, l6, l7, l8, l9] (.null :: S) st P := zAW_st (zd_of zb_L_law dL_law_525) rfl rfl
theorem E_L_law_526 : AW X d 139 526 [.ref a, l1, l2, l3, l4, l5, l6, l7, l8, l9] S st P = AW X d 139 527 [.ref a, l1, l2, l3, l4, l5, l6, l7, l8, l9] (.ref a :: S) st P := zAW_st (zd_of zb_L_law dL_law_526) rfl rfl
theorem E_L_law_526n : AW X d 139 526 [.null, l1, l2, l3, l4, l5, l6, l7, l8, l9] S st P = AW X d 139 527 [.null, l1, l2, l3, l4, l5, l6, l7, l8, l9] (.null :: S) st P := zAW_st (zd_of zb_L_law dL_law_526) rfl rfl
theorem E_L_law_527 : AW X d 139 527 [l0, l1, l2, l3, l4, .int x, l6, l7, l8, l9] S st P = AW X d 139 529 [l0, l1, l2, l3, l4, .int x, l6, l7, l8, l9] (.int x :: S) st P := zAW_st (zd_of zb_L_law dL_law_527) rfl rfl
theorem E_L_law_529 : AW X d 139 529 [l0, l1, l2, l3, l4, l5, l6, l7, l8, l9] S st P = AW X d 139 530 [l0, l1, l2, l3, l4, l5, l6, l7, l8, l9] (.int 1 :: S) st P := zq_iconst (zd_of zb_L_law dL_law_529) (by decide)
theorem E_L_law_530 : AW X d 139 530 [l0, l1, l2, l3, l4, l5, l6, l7, l8, l9] (.int y :: .int x :: S) st P = AW X d 139 531 [l0, l1, l2, l3, l4, l5, l6, l7, l8, l9] (.int (x + y) :: S) st P := zAW_st (zd_of zb_L_law dL_law_530) rfl rfl
theorem E_L_law_531 : AW X d 139 531 [l0, l1, l2, l3, l4, l5, l6, l7, l8, l9] (.int x :: .ref a :: S) st P = zwith (zai X st a) fun q => zwith (zix x q.1) fun j => AW X d 139 532 [l0, l1, l2, l3, l4, l5, l6, l7, l8, l9] (.int (q.2 j) :: S) st P := zq_iaload (zd_of zb_L_law dL_law_531)
theorem E_L_law_532 : AW X d 139 532 [.ref a, l1, l2, l3, l4, l5, l6, l7, l8, l9] S st P = AW X d 139 533 [.ref a, l1, l2, l3, l4, l5, l6, l7, l8, l9] (.ref a :: S) st P := zAW_st (zd_of zb_L_law dL_law_532) rfl rfl
theorem E_L_law_532n : AW X d 139 532 [.null, l1, l2, l3, l4, l5, l6, l7, l8, l9] S st P = AW X d 139 533 [.null, l1, l2, l3, l4, l5, l6, l7, l8, l9] (.null :: S) st P := zAW_st (zd_of zb_L_law dL_law_532) rfl rfl
theorem E_L_law_533 : AW X d 139 533 [l0, l1, l2, l3, l4, .int x, l6, l7, l8, l9] S st P = AW X d 139 535 [l0, l1, l2, l3, l4, .int x, l6, l7, l8, l9] (.int x :: S) st P := zAW_st (zd_of zb_L_law dL_law_533) rfl rfl
theorem E_L_law_535 : AW X d 139 535 [l0, l1, l2, l3, l4, l5, l6, l7, l8, l9] S st P = AW X d 139 536 [l0, l1, l2, l3, l4, l5, l6, l7, l8, l9] (.int 2 :: S) st P := zq_iconst (zd_of zb_L_law dL_law_535) (by decide)
theorem E_L_law_536 : AW X d 139 536 [l0, l1, l2, l3, l4, l5, l6, l7, l8, l9] (.int y :: .int x :: S) st P = AW X d 139 537 [l0, l1, l2, l3, l4, l5, l6, l7, l8, l9] (.int (x + y) :: S) st P := zAW_st (zd_of zb_L_law dL_law_536) rfl rfl
theorem E_L_law_537 : AW X d 139 537 [l0, l1, l2, l3, l4, l5, l6, l7, l8, l9] (.int x :: .ref a :: S) st P = zwith (zai X st a) fun q => zwith (zix x q.1) fun j => AW X d 139 538 [l0, l1, l2, l3, l4, l5, l6, l7, l8, l9] (.int (q.2 j) :: S) st P := zq_iaload (zd_of zb_L_law dL_law_537)
theorem E_L_law_538 : AW X d 139 538 [l0, l1, l2, l3, l4, l5, l6, l7, l8, l9] (.int y :: .int x :: .ref a :: S) st P = zif (zis st a 7 = true) (zif (S.length ≤ 4) (AC X d 89 [.ref a, .int x, .int y] st (zaft X d 139 538 [l0, l1, l2, l3, l4, l5, l6, l7, l8, l9] S P))) := zq_callV (B := [.int x, .int y]) (zd_of zb_L_law dL_law_538) zo_L_law (by decide) zl_15_93 zn_89 rfl rfl rfl
theorem E_L_law_541 : AW X d 139 541 [l0, l1, l2, l3, l4, l5, l6, l7, l8, l9] (.int x :: S) st P = AW X d 139 543 [l0, l1, l2, l3, l4, l5, l6, .int x, l8, l9] S st P := zAW_st (zd_of zb_L_law dL_law_541) rfl rfl
theorem E_L_law_543 : AW X d 139 543 [l0, l1, .ref a, l3, l4, l5, l6, l7, l8, l9] S st P = AW X d 139 544 [l0, l1, .ref a, l3, l4, l5, l6, l7, l8, l9] (.ref a :: S) st P := zAW_st (zd_of zb_L_law dL_law_543) rfl rfl
theorem E_L_law_543n : AW X d 139 543 [l0, l1, .null, l3, l4, l5, l6, l7, l8, l9] S st P = AW X d 139 544 [l0, l1, .null, l3, l4, l5, l6, l7, l8, l9] (.null :: S) st P := zAW_st (zd_of zb_L_law dL_law_543) rfl rfl
theorem E_L_law_544 : AW X d 139 544 [l0, l1, l2, l3, l4, l5, l6, l7, l8, l9] (.ref a :: S) st P = zif (zis st a 7 = true) (zif (S.length ≤ 4) (AC X d 73 [.ref a] st (zaft X d 139 544 [l0, l1, l2, l3, l4, l5, l6, l7, l8, l9] S P))) := zq_callV (B := []) (zd_of zb_L_law dL_law_544) zo_L_law (by decide) zl_15_69 zn_73 rfl rfl rfl
theorem E_L_law_547 : AW X d 139 547 [l0, l1, l2, l3, l4, l5, .int x, l7, l8, l9] S st P = AW X d 139 549 [l0, l1, l2, l3, l4, l5, .int x, l7, l8, l9] (.int x :: S) st P := zAW_st (zd_of zb_L_law dL_law_547) rfl rfl
theorem E_L_law_549 : AW X d 139 549 [l0, l1, l2, l3, l4, l5, l6, l7, l8, l9] (.int y :: .int x :: S) st P = if x = y then AW X d 139 554 [l0, l1, l2, l3, l4, l5, l6, l7, l8, l9] S st P else AW X d 139 552 [l0, l1, l2, l3, l4, l5, l6, l7, l8, l9] S st P := zq_icmp (c := x = y) (zd_of zb_L_law dL_law_549) (by decide) rfl
theorem E_L_law_552 : AW X d 139 552 [l0, l1, l2, l3, l4, l5, l6, l7, l8, l9] S st P = AW X d 139 553 [l0, l1, l2, l3, l4, l5, l6, l7, l8, l9] (.int 0 :: S) st P := zq_iconst (zd_of zb_L_law dL_law_552) (by decide)
theorem E_L_law_553 : AW X d 139 553 [l0, l1, l2, l3, l4, l5, l6, l7, l8, l9] ([.int x]) st P = zif (x &&& 1 = x) (P (.inl (some (.int x))) st) := by
  by_cases h : x &&& 1 = x
  · rw [zif_of h]; exact zAW_ret (w := (.inl (some (.int x)), st)) (zd_of zb_L_law dL_law_553) rfl rfl (by simp only [zfin, zr_L_law]; rw [if_pos h])
  · rw [zAW_stuck (zd_of zb_L_law dL_law_553) rfl (by simp only [zfin, zr_L_law]; rw [if_neg h]) rfl]; exact propext ⟨fun z => z.elim, fun z => h z.1⟩
theorem E_L_law_554 : AW X d 139 554 [l0, l1, l2, l3, l4, l5, .int x, l7, l8, l9] S st P = AW X d 139 556 [l0, l1, l2, l3, l4, l5, .int x, l7, l8, l9] (.int x :: S) st P := zAW_st (zd_of zb_L_law dL_law_554) rfl rfl
theorem E_L_law_556 : AW X d 139 556 [l0, l1, l2, l3, l4, l5, l6, l7, l8, l9] (.int x :: S) st P = if ¬ x = 0 then AW X d 139 571 [l0, l1, l2, l3, l4, l5, l6, l7, l8, l9] S st P else AW X d 139 559 [l0, l1, l2, l3, l4, l5, l6, l7, l8, l9] S st P := zq_if (c := ¬ x = 0) (zd_of zb_L_law dL_law_556) (by decide) rfl
theorem E_L_law_559 : AW X d 139 559 [l0, l1, l2, .ref a, l4, l5, l6, l7, l8, l9] S st P = AW X d 139 560 [l0, l1, l2, .ref a, l4, l5, l6, l7, l8, l9] (.ref a :: S) st P := zAW_st (zd_of zb_L_law dL_law_559) rfl rfl
theorem E_L_law_559n : AW X d 139 559 [l0, l1, l2, .null, l4, l5, l6, l7, l8, l9] S st P = AW X d 139 560 [l0, l1, l2, .null, l4, l5, l6, l7, l8, l9] (.null :: S) st P := zAW_st (zd_of zb_L_law dL_law_559) rfl rfl
theorem E_L_law_560 : AW X d 139 560 [l0, l1, l2, l3, l4, l5, l6, l7, l8, l9] S st P = AW X d 139 561 [l0, l1, l2, l3, l4, l5, l6, l7, l8, l9] (.int 0 :: S) st P := zq_iconst (zd_of zb_L_law dL_law_560) (by decide)
theorem E_L_law_561 : AW X d 139 561 [l0, l1, l2, l3, l4, l5, l6, l7, l8, l9] (.int x :: .ref a :: S) st P = zwith (zaL st a) fun q => zwith (zix x q.1) fun j => AW X d 139 562 [l0, l1, l2, l3, l4, l5, l6, l7, l8, l9] (.long (q.2 j) :: S) st P := zq_laload (zd_of zb_L_law dL_law_561)
theorem E_L_law_562 : AW X d 139 562 [l0, l1, l2, l3, l4, l5, l6, .int x, l8, l9] S st P = AW X d 139 564 [l0, l1, l2, l3, l4, l5, l6, .int x, l8, l9] (.int x :: S) st P := zAW_st (zd_of zb_L_law dL_law_562) rfl rfl
theorem E_L_law_564 : AW X d 139 564 [l0, l1, l2, l3, l4, l5, l6, l7, l8, l9] (.int x :: S) st P = AW X d 139 565 [l0, l1, l2, l3, l4, l5, l6, l7, l8, l9] (.long x.toInt64 :: S) st P := zAW_st (zd_of zb_L_law dL_law_564) rfl rfl
theorem E_L_law_565 : AW X d 139 565 [l0, l1, l2, l3, l4, l5, l6, l7, l8, l9] (.long q2 :: .long q1 :: S) st P = AW X d 139 566 [l0, l1, l2, l3, l4, l5, l6, l7, l8, l9] (.int (lg_cmp q1 q2) :: S) st P := zAW_st (zd_of zb_L_law dL_law_565) rfl rfl
theorem E_L_law_566 : AW X d 139 566 [l0, l1, l2, l3, l4, l5, l6, l7, l8, l9] (.int x :: S) st P = if x = 0 then AW X d 139 571 [l0, l1, l2, l3, l4, l5, l6, l7, l8, l9] S st P else AW X d 139 569 [l0, l1, l2, l3, l4, l5, l6, l7, l8, l9] S st P := zq_if (c := x = 0) (zd_of zb_L_law dL_law_566) (by decide) rfl
theorem E_L_law_569 : AW X d 139 569 [l0, l1, l2, l3, l4, l5, l6, l7, l8, l9] S st P = AW X d 139 570 [l0, l1, l2, l3, l4, l5, l6, l7, l8, l9] (.int 0 :: S) st P := zq_iconst (zd_of zb_L_law dL_law_569) (by decide)
theorem E_L_law_570 : AW X d 139 570 [l0, l1, l2, l3, l4, l5, l6, l7, l8, l9] ([.int x]) st P = zif (x &&& 1 = x) (P (.inl (some (.int x))) st) := by
  by_cases h : x &&& 1 = x
  · rw [zif_of h]; exact zAW_ret (w := (.inl (some (.int x)), st)) (zd_of zb_L_law dL_law_570) rfl rfl (by simp only [zfin, zr_L_law]; rw [if_pos h])
  · rw [zAW_stuck (zd_of zb_L_law dL_law_570) rfl (by simp only [zfin, zr_L_law]; rw [if_neg h]) rfl]; exact propext ⟨fun z => z.elim, fun z => h z.1⟩
theorem E_L_law_571 : AW X d 139 571 [l0, l1, l2, l3, l4, l5, l6, l7, l8, l9] S st P = AW X d 139 1057 [l0, l1, l2, l3, l4, l5, l6, l7, l8, l9] S st P := zq_goto (zd_of zb_L_law dL_law_571) (by decide)
theorem E_L_law_574 : AW X d 139 574 [l0, .ref a, l2, l3, l4, l5, l6, l7, l8, l9] S st P = AW X d 139 575 [l0, .ref a, l2, l3, l4, l5, l6, l7, l8, l9] (.ref a :: S) st P := zAW_st (zd_of zb_L_law dL_law_574) rfl rfl
theorem E_L_law_574n : AW X d 139 574 [l0, .null, l2, l3, l4, l5, l6, l7, l8, l9] S st P = AW X d 139 575 [l0, .null, l2, l3, l4, l5, l6, l7, l8, l9] (.null :: S) st P := zAW_st (zd_of zb_L_law dL_law_574) rfl rfl
theorem E_L_law_575 : AW X d 139 575 [.ref a, l1, l2, l3, l4, l5, l6, l7, l8, l9] S st P = AW X d 139 576 [.ref a, l1, l2, l3, l4, l5, l6, l7, l8, l9] (.ref a :: S) st P := zAW_st (zd_of zb_L_law dL_law_575) rfl rfl
theorem E_L_law_575n : AW X d 139 575 [.null, l1, l2, l3, l4, l5, l6, l7, l8, l9] S st P = AW X d 139 576 [.null, l1, l2, l3, l4, l5, l6, l7, l8, l9] (.null :: S) st P := zAW_st (zd_of zb_L_law dL_law_575) rfl rfl
theorem E_L_law_576 : AW X d 139 576 [l0, l1, l2, l3, l4, .int x, l6, l7, l8, l9] S st P = AW X d 139 578 [l0, l1, l2, l3, l4, .int x, l6, l7, l8, l9] (.int x :: S) st P := zAW_st (zd_of zb_L_law dL_law_576) rfl rfl
theorem E_L_law_578 : AW X d 139 578 [l0, l1, l2, l3, l4, l5, l6, l7, l8, l9] S st P = AW X d 139 579 [l0, l1, l2, l3, l4, l5, l6, l7, l8, l9] (.int 1 :: S) st P := zq_iconst (zd_of zb_L_law dL_law_578) (by decide)
theorem E_L_law_579 : AW X d 139 579 [l0, l1, l2, l3, l4, l5, l6, l7, l8, l9] (.int y :: .int x :: S) st P = AW X d 139 580 [l0, l1, l2, l3, l4, l5, l6, l7, l8, l9] (.int (x + y) :: S) st P := zAW_st (zd_of zb_L_law dL_law_579) rfl rfl
theorem E_L_law_580 : AW X d 139 580 [l0, l1, l2, l3, l4, l5, l6, l7, l8, l9] (.int x :: .ref a :: S) st P = zwith (zai X st a) fun q => zwith (zix x q.1) fun j => AW X d 139 581 [l0, l1, l2, l3, l4, l5, l6, l7, l8, l9] (.int (q.2 j) :: S) st P := zq_iaload (zd_of zb_L_law dL_law_580)
theorem E_L_law_581 : AW X d 139 581 [.ref a, l1, l2, l3, l4, l5, l6, l7, l8, l9] S st P = AW X d 139 582 [.ref a, l1, l2, l3, l4, l5, l6, l7, l8, l9] (.ref a :: S) st P := zAW_st (zd_of zb_L_law dL_law_581) rfl rfl
theorem E_L_law_581n : AW X d 139 581 [.null, l1, l2, l3, l4, l5, l6, l7, l8, l9] S st P = AW X d 139 582 [.null, l1, l2, l3, l4, l5, l6, l7, l8, l9] (.null :: S) st P := zAW_st (zd_of zb_L_law dL_law_581) rfl rfl
theorem E_L_law_582 : AW X d 139 582 [l0, l1, l2, l3, l4, .int x, l6, l7, l8, l9] S st P = AW X d 139 584 [l0, l1, l2, l3, l4, .int x, l6, l7, l8, l9] (.int x :: S) st P := zAW_st (zd_of zb_L_law dL_law_582) rfl rfl
theorem E_L_law_584 : AW X d 139 584 [l0, l1, l2, l3, l4, l5, l6, l7, l8, l9] S st P = AW X d 139 585 [l0, l1, l2, l3, l4, l5, l6, l7, l8, l9] (.int 2 :: S) st P := zq_iconst (zd_of zb_L_law dL_law_584) (by decide)
theorem E_L_law_585 : AW X d 139 585 [l0, l1, l2, l3, l4, l5, l6, l7, l8, l9] (.int y :: .int x :: S) st P = AW X d 139 586 [l0, l1, l2, l3, l4, l5, l6, l7, l8, l9] (.int (x + y) :: S) st P := zAW_st (zd_of zb_L_law dL_law_585) rfl rfl
theorem E_L_law_586 : AW X d 139 586 [l0, l1, l2, l3, l4, l5, l6, l7, l8, l9] (.int x :: .ref a :: S) st P = zwith (zai X st a) fun q => zwith (zix x q.1) fun j => AW X d 139 587 [l0, l1, l2, l3, l4, l5, l6, l7, l8, l9] (.int (q.2 j) :: S) st P := zq_iaload (zd_of zb_L_law dL_law_586)
theorem E_L_law_587 : AW X d 139 587 [l0, l1, l2, .ref a, l4, l5, l6, l7, l8, l9] S st P = AW X d 139 588 [l0, l1, l2, .ref a, l4, l5, l6, l7, l8, l9] (.ref a :: S) st P := zAW_st (zd_of zb_L_law dL_law_587) rfl rfl
theorem E_L_law_587n : AW X d 139 587 [l0, l1, l2, .null, l4, l5, l6, l7, l8, l9] S st P = AW X d 139 588 [l0, l1, l2, .null, l4, l5, l6, l7, l8, l9] (.null :: S) st P := zAW_st (zd_of zb_L_law dL_law_587) rfl rfl
theorem E_L_law_588 : AW X d 139 588 [l0, l1, l2, l3, l4, l5, l6, l7, l8, l9] (v2 :: .int y :: .int x :: v1 :: S) st P = zif (S.length ≤ 4) (AC X d 133 [v1, .int x, .int y, v2] st (zaft X d 139 588 [l0, l1, l2, l3, l4, l5, l6, l7, l8, l9] S P)) := zq_callS (B := [v1, .int x, .int y, v2]) (S2 := S) (zd_of zb_L_law dL_law_588) zo_L_law (by decide) (by decide) (by decide) zl_15_94 zn_133 (by simp only [List.length_cons]; omega) rfl rfl
theorem E_L_law_591 : AW X d 139 591 [l0, l1, l2, l3, l4, l5, l6, l7, l8, l9] (.int x :: S) st P = AW X d 139 593 [l0, l1, l2, l3, l4, l5, .int x, l7, l8, l9] S st P := zAW_st (zd_of zb_L_law dL_law_591) rfl rfl
theorem E_L_law_593 : AW X d 139 593 [l0, l1, .ref a, l3, l4, l5, l6, l7, l8, l9] S st P = AW X d 139 594 [l0, l1, .ref a, l3, l4, l5, l6, l7, l8, l9] (.ref a :: S) st P := zAW_st (zd_of zb_L_law dL_law_593) rfl rfl
theorem E_L_law_593n : AW X d 139 593 [l0, l1, .null, l3, l4, l5, l6, l7, l8, l9] S st P = AW X d 139 594 [l0, l1, .null, l3, l4, l5, l6, l7, l8, l9] (.null :: S) st P := zAW_st (zd_of zb_L_law dL_law_593) rfl rfl
theorem E_L_law_594 : AW X d 139 594 [.ref a, l1, l2, l3, l4, l5, l6, l7, l8, l9] S st P = AW X d 139 595 [.ref a, l1, l2, l3, l4, l5, l6, l7, l8, l9] (.ref a :: S) st P := zAW_st (zd_of zb_L_law dL_law_594) rfl rfl
theorem E_L_law_594n : AW X d 139 594 [.null, l1, l2, l3, l4, l5, l6, l7, l8, l9] S st P = AW X d 139 595 [.null, l1, l2, l3, l4, l5, l6, l7, l8, l9] (.null :: S) st P := zAW_st (zd_of zb_L_law dL_law_594) rfl rfl
theorem E_L_law_595 : AW X d 139 595 [l0, l1, l2, l3, l4, .int x, l6, l7, l8, l9] S st P = AW X d 139 597 [l0, l1, l2, l3, l4, .int x, l6, l7, l8, l9] (.int x :: S) st P := zAW_st (zd_of zb_L_law dL_law_595) rfl rfl
theorem E_L_law_597 : AW X d 139 597 [l0, l1, l2, l3, l4, l5, l6, l7, l8, l9] S st P = AW X d 139 598 [l0, l1, l2, l3, l4, l5, l6, l7, l8, l9] (.int 1 :: S) st P := zq_iconst (zd_of zb_L_law dL_law_597) (by decide)
theorem E_L_law_598 : AW X d 139 598 [l0, l1, l2, l3, l4, l5, l6, l7, l8, l9] (.int y :: .int x :: S) st P = AW X d 139 599 [l0, l1, l2, l3, l4, l5, l6, l7, l8, l9] (.int (x + y) :: S) st P := zAW_st (zd_of zb_L_law dL_law_598) rfl rfl
theorem E_L_law_599 : AW X d 139 599 [l0, l1, l2, l3, l4, l5, l6, l7, l8, l9] (.int x :: .ref a :: S) st P = zwith (zai X st a) fun q => zwith (zix x q.1) fun j => AW X d 139 600 [l0, l1, l2, l3, l4, l5, l6, l7, l8, l9] (.int (q.2 j) :: S) st P := zq_iaload (zd_of zb_L_law dL_law_599)
theorem E_L_law_600 : AW X d 139 600 [.ref a, l1, l2, l3, l4, l5, l6, l7, l8, l9] S st P = AW X d 139 601 [.ref a, l1, l2, l3, l4, l5, l6, l7, l8, l9] (.ref a :: S) st P := zAW_st (zd_of zb_L_law dL_law_600) rfl rfl
theorem E_L_law_600n : AW X d 139 600 [.null, l1, l2, l3, l4, l5, l6, l7, l8, l9] S st P = AW X d 139 601 [.null, l1, l2, l3, l4, l5, l6, l7, l8, l9] (.null :: S) st P := zAW_st (zd_of zb_L_law dL_law_600) rfl rfl
theorem E_L_law_601 : AW X d 139 601 [l0, l1, l2, l3, l4, .int x, l6, l7, l8, l9] S st P = AW X d 139 603 [l0, l1, l2, l3, l4, .int x, l6, l7, l8, l9] (.int x :: S) st P := zAW_st (zd_of zb_L_law dL_law_601) rfl rfl
theorem E_L_law_603 : AW X d 139 603 [l0, l1, l2, l3, l4, l5, l6, l7, l8, l9] S st P = AW X d 139 604 [l0, l1, l2, l3, l4, l5, l6, l7, l8, l9] (.int 2 :: S) st P := zq_iconst (zd_of zb_L_law dL_law_603) (by decide)
theorem E_L_law_604 : AW X d 139 604 [l0, l1, l2, l3, l4, l5, l6, l7, l8, l9] (.int y :: .int x :: S) st P = AW X d 139 605 [l0, l1, l2, l3, l4, l5, l6, l7, l8, l9] (.int (x + y) :: S) st P := zAW_st (zd_of zb_L_law dL_law_604) rfl rfl
theorem E_L_law_605 : AW X d 139 605 [l0, l1, l2, l3, l4, l5, l6, l7, l8, l9] (.int x :: .ref a :: S) st P = zwith (zai X st a) fun q => zwith (zix x q.1) fun j => AW X d 139 606 [l0, l1, l2, l3, l4, l5, l6, l7, l8, l9] (.int (q.2 j) :: S) st P := zq_iaload (zd_of zb_L_law dL_law_605)
theorem E_L_law_606 : AW X d 139 606 [l0, l1, l2, l3, l4, l5, l6, l7, l8, l9] (.int y :: .int x :: .ref a :: S) st P = zif (zis st a 7 = true) (zif (S.length ≤ 4) (AC X d 98 [.ref a, .int x, .int y] st (zaft X d 139 606 [l0, l1, l2, l3, l4, l5, l6, l7, l8, l9] S P))) := zq_callV (B := [.int x, .int y]) (zd_of zb_L_law dL_law_606) zo_L_law (by decide) zl_15_96 zn_98 rfl rfl rfl
theorem E_L_law_609 : AW X d 139 609 [l0, l1, l2, l3, l4, l5, l6, l7, l8, l9] (.int x :: S) st P = AW X d 139 611 [l0, l1, l2, l3, l4, l5, l6, .int x, l8, l9] S st P := zAW_st (zd_of zb_L_law dL_law_609) rfl rfl
theorem E_L_law_611 : AW X d 139 611 [l0, l1, .ref a, l3, l4, l5, l6, l7, l8, l9] S st P = AW X d 139 612 [l0, l1, .ref a, l3, l4, l5, l6, l7, l8, l9] (.ref a :: S) st P := zAW_st (zd_of zb_L_law dL_law_611) rfl rfl
theorem E_L_law_611n : AW X d 139 611 [l0, l1, .null, l3, l4, l5, l6, l7, l8, l9] S st P = AW X d 139 612 [l0, l1, .null, l3, l4, l5, l6, l7, l8, l9] (.null :: S) st P := zAW_st (zd_of zb_L_law dL_law_611) rfl rfl
theorem E_L_law_612 : AW X d 139 612 [l0, l1, l2, l3, l4, l5, l6, l7, l8, l9] (.ref a :: S) st P = zif (zis st a 7 = true) (zif (S.length ≤ 4) (AC X d 73 [.ref a] st (zaft X d 139 612 [l0, l1, l2, l3, l4, l5, l6, l7, l8, l9] S P))) := zq_callV (B := []) (zd_of zb_L_law dL_law_612) zo_L_law (by decide) zl_15_69 zn_73 rfl rfl rfl
theorem E_L_law_615 : AW X d 139 615 [l0, l1, l2, l3, l4, l5, .int x, l7, l8, l9] S st P = AW X d 139 617 [l0, l1, l2, l3, l4, l5, .int x, l7, l8, l9] (.int x :: S) st P := zAW_st (zd_of zb_L_law dL_law_615) rfl rfl
theorem E_L_law_617 : AW X d 139 617 [l0, l1, l2, l3, l4, l5, l6, l7, l8, l9] (.int y :: .int x :: S) st P = if x = y then AW X d 139 622 [l0, l1, l2, l3, l4, l5, l6, l7, l8, l9] S st P else AW X d 139 620 [l0, l1, l2, l3, l4, l5, l6, l7, l8, l9] S st P := zq_icmp (c := x = y) (zd_of zb_L_law dL_law_617) (by decide) rfl
theorem E_L_law_620 : AW X d 139 620 [l0, l1, l2, l3, l4, l5, l6, l7, l8, l9] S st P = AW X d 139 621 [l0, l1, l2, l3, l4, l5, l6, l7, l8, l9] (.int 0 :: S) st P := zq_iconst (zd_of zb_L_law dL_law_620) (by decide)
theorem E_L_law_621 : AW X d 139 621 [l0, l1, l2, l3, l4, l5, l6, l7, l8, l9] ([.int x]) st P = zif (x &&& 1 = x) (P (.inl (some (.int x))) st) := by
  by_cases h : x &&& 1 = x
  · rw [zif_of h]; exact zAW_ret (w := (.inl (some (.int x)), st)) (zd_of zb_L_law dL_law_621) rfl rfl (by simp only [zfin, zr_L_law]; rw [if_pos h])
  · rw [zAW_stuck (zd_of zb_L_law dL_law_621) rfl (by simp only [zfin, zr_L_law]; rw [if_neg h]) rfl]; exact propext ⟨fun z => z.elim, fun z => h z.1⟩
theorem E_L_law_622 : AW X d 139 622 [l0, l1, l2, l3, l4, l5, .int x, l7, l8, l9] S st P = AW X d 139 624 [l0, l1, l2, l3, l4, l5, .int x, l7, l8, l9] (.int x :: S) st P := zAW_st (zd_of zb_L_law dL_law_622) rfl rfl
theorem E_L_law_624 : AW X d 139 624 [l0, l1, l2, l3, l4, l5, l6, l7, l8, l9] (.int x :: S) st P = if ¬ x = 0 then AW X d 139 639 [l0, l1, l2, l3, l4, l5, l6, l7, l8, l9] S st P else AW X d 139 627 [l0, l1, l2, l3, l4, l5, l6, l7, l8, l9] S st P := zq_if (c := ¬ x = 0) (zd_of zb_L_law dL_law_624) (by decide) rfl
theorem E_L_law_627 : AW X d 139 627 [l0, l1, l2, .ref a, l4, l5, l6, l7, l8, l9] S st P = AW X d 139 628 [l0, l1, l2, .ref a, l4, l5, l6, l7, l8, l9] (.ref a :: S) st P := zAW_st (zd_of zb_L_law dL_law_627) rfl rfl
theorem E_L_law_627n : AW X d 139 627 [l0, l1, l2, .null, l4, l5, l6, l7, l8, l9] S st P = AW X d 139 628 [l0, l1, l2, .null, l4, l5, l6, l7, l8, l9] (.null :: S) st P := zAW_st (zd_of zb_L_law dL_law_627) rfl rfl
theorem E_L_law_628 : AW X d 139 628 [l0, l1, l2, l3, l4, l5, l6, l7, l8, l9] S st P = AW X d 139 629 [l0, l1, l2, l3, l4, l5, l6, l7, l8, l9] (.int 0 :: S) st P := zq_iconst (zd_of zb_L_law dL_law_628) (by decide)
theorem E_L_law_629 : AW X d 139 629 [l0, l1, l2, l3, l4, l5, l6, l7, l8, l9] (.int x :: .ref a :: S) st P = zwith (zaL st a) fun q => zwith (zix x q.1) fun j => AW X d 139 630 [l0, l1, l2, l3, l4, l5, l6, l7, l8, l9] (.long (q.2 j) :: S) st P := zq_laload (zd_of zb_L_law dL_law_629)
theorem E_L_law_630 : AW X d 139 630 [l0, l1, l2, l3, l4, l5, l6, .int x, l8, l9] S st P = AW X d 139 632 [l0, l1, l2, l3, l4, l5, l6, .int x, l8, l9] (.int x :: S) st P := zAW_st (zd_of zb_L_law dL_law_630) rfl rfl
theorem E_L_law_632 : AW X d 139 632 [l0, l1, l2, l3, l4, l5, l6, l7, l8, l9] (.int x :: S) st P = AW X d 139 633 [l0, l1, l2, l3, l4, l5, l6, l7, l8, l9] (.long x.toInt64 :: S) st P := zAW_st (zd_of zb_L_law dL_law_632) rfl rfl
theorem E_L_law_633 : AW X d 139 633 [l0, l1, l2, l3, l4, l5, l6, l7, l8, l9] (.long q2 :: .long q1 :: S) st P = AW X d 139 634 [l0, l1, l2, l3, l4, l5, l6, l7, l8, l9] (.int (lg_cmp q1 q2) :: S) st P := zAW_st (zd_of zb_L_law dL_law_633) rfl rfl
theorem E_L_law_634 : AW X d 139 634 [l0, l1, l2, l3, l4, l5, l6, l7, l8, l9] (.int x :: S) st P = if x = 0 then AW X d 139 639 [l0, l1, l2, l3, l4, l5, l6, l7, l8, l9] S st P else AW X d 139 637 [l0, l1, l2, l3, l4, l5, l6, l7, l8, l9] S st P := zq_if (c := x = 0) (zd_of zb_L_law dL_law_634) (by decide) rfl
theorem E_L_law_637 : AW X d 139 637 [l0, l1, l2, l3, l4, l5, l6, l7, l8, l9] S st P = AW X d 139 638 [l0, l1, l2, l3, l4, l5, l6, l7, l8, l9] (.int 0 :: S) st P := zq_iconst (zd_of zb_L_law dL_law_637) (by decide)
theorem E_L_law_638 : AW X d 139 638 [l0, l1, l2, l3, l4, l5, l6, l7, l8, l9] ([.int x]) st P = zif (x &&& 1 = x) (P (.inl (some (.int x))) st) := by
  by_cases h : x &&& 1 = x
  · rw [zif_of h]; exact zAW_ret (w := (.inl (some (.int x)), st)) (zd_of zb_L_law dL_law_638) rfl rfl (by simp only [zfin, zr_L_law]; rw [if_pos h])
  · rw [zAW_stuck (zd_of zb_L_law dL_law_638) rfl (by simp only [zfin, zr_L_law]; rw [if_neg h]) rfl]; exact propext ⟨fun z => z.elim, fun z => h z.1⟩
theorem E_L_law_639 : AW X d 139 639 [l0, l1, l2, l3, l4, l5, l6, l7, l8, l9] S st P = AW X d 139 1057 [l0, l1, l2, l3, l4, l5, l6, l7, l8, l9] S st P := zq_goto (zd_of zb_L_law dL_law_639) (by decide)
theorem E_L_law_642 : AW X d 139 642 [l0, .ref a, l2, l3, l4, l5, l6, l7, l8, l9] S st P = AW X d 139 643 [l0, .ref a, l2, l3, l4, l5, l6, l7, l8, l9] (.ref a :: S) st P := zAW_st (zd_of zb_L_law dL_law_642) rfl rfl
theorem E_L_law_642n : AW X d 139 642 [l0, .null, l2, l3, l4, l5, l6, l7, l8, l9] S st P = AW X d 139 643 [l0, .null, l2, l3, l4, l5, l6, l7, l8, l9] (.null :: S) st P := zAW_st (zd_of zb_L_law dL_law_642) rfl rfl
theorem E_L_law_643 : AW X d 139 643 [.ref a, l1, l2, l3, l4, l5, l6, l7, l8, l9] S st P = AW X d 139 644 [.ref a, l1, l2, l3, l4, l5, l6, l7, l8, l9] (.ref a :: S) st P := zAW_st (zd_of zb_L_law dL_law_643) rfl rfl
theorem E_L_law_643n : AW X d 139 643 [.null, l1, l2, l3, l4, l5, l6, l7, l8, l9] S st P = AW X d 139 644 [.null, l1, l2, l3, l4, l5, l6, l7, l8, l9] (.null :: S) st P := zAW_st (zd_of zb_L_law dL_law_643) rfl rfl
theorem E_L_law_644 : AW X d 139 644 [l0, l1, l2, l3, l4, .int x, l6, l7, l8, l9] S st P = AW X d 139 646 [l0, l1, l2, l3, l4, .int x, l6, l7, l8, l9] (.int x :: S) st P := zAW_st (zd_of zb_L_law dL_law_644) rfl rfl
theorem E_L_law_646 : AW X d 139 646 [l0, l1, l2, l3, l4, l5, l6, l7, l8, l9] S st P = AW X d 139 647 [l0, l1, l2, l3, l4, l5, l6, l7, l8, l9] (.int 1 :: S) st P := zq_iconst (zd_of zb_L_law dL_law_646) (by decide)
theorem E_L_law_647 : AW X d 139 647 [l0, l1, l2, l3, l4, l5, l6, l7, l8, l9] (.int y :: .int x :: S) st P = AW X d 139 648 [l0, l1, l2, l3, l4, l5, l6, l7, l8, l9] (.int (x + y) :: S) st P := zAW_st (zd_of zb_L_law dL_law_647) rfl rfl
theorem E_L_law_648 : AW X d 139 648 [l0, l1, l2, l3, l4, l5, l6, l7, l8, l9] (.int x :: .ref a :: S) st P = zwith (zai X st a) fun q => zwith (zix x q.1) fun j => AW X d 139 649 [l0, l1, l2, l3, l4, l5, l6, l7, l8, l9] (.int (q.2 j) :: S) st P := zq_iaload (zd_of zb_L_law dL_law_648)
theorem E_L_law_649 : AW X d 139 649 [l0, l1, l2, .ref a, l4, l5, l6, l7, l8, l9] S st P = AW X d 139 650 [l0, l1, l2, .ref a, l4, l5, l6, l7, l8, l9] (.ref a :: S) st P := zAW_st (zd_of zb_L_law dL_law_649) rfl rfl
theorem E_L_law_649n : AW X d 139 649 [l0, l1, l2, .null, l4, l5, l6, l7, l8, l9] S st P = AW X d 139 650 [l0, l1, l2, .null, l4, l5, l6, l7, l8, l9] (.null :: S) st P := zAW_st (zd_of zb_L_law dL_law_649) rfl rfl
theorem E_L_law_650 : AW X d 139 650 [l0, l1, l2, l3, l4, l5, l6, l7, l8, l9] (v2 :: .int x :: v1 :: S) st P = zif (S.length ≤ 4) (AC X d 134 [v1, .int x, v2] st (zaft X d 139 650 [l0, l1, l2, l3, l4, l5, l6, l7, l8, l9] S P)) := zq_callS (B := [v1, .int x, v2]) (S2 := S) (zd_of zb_L_law dL_law_650) zo_L_law (by decide) (by decide) (by decide) zl_15_97 zn_134 (by simp only [List.length_cons]; omega) rfl rfl
theorem E_L_law_653 : AW X d 139 653 [l0, l1, l2, l3, l4, l5, l6, l7, l8, l9] (.int x :: S) st P = AW X d 139 655 [l0, l1, l2, l3, l4, l5, .int x, l7, l8, l9] S st P := zAW_st (zd_of zb_L_law dL_law_653) rfl rfl
theorem E_L_law_655 : AW X d 139 655 [l0, l1, .ref a, l3, l4, l5, l6, l7, l8, l9] S st P = AW X d 139 656 [l0, l1, .ref a, l3, l4, l5, l6, l7, l8, l9] (.ref a :: S) st P := zAW_st (zd_of zb_L_law dL_law_655) rfl rfl
theorem E_L_law_655n : AW X d 139 655 [l0, l1, .null, l3, l4, l5, l6, l7, l8, l9] S st P = AW X d 139 656 [l0, l1, .null, l3, l4, l5, l6, l7, l8, l9] (.null :: S) st P := zAW_st (zd_of zb_L_law dL_law_655) rfl rfl
theorem E_L_law_656 : AW X d 139 656 [.ref a, l1, l2, l3, l4, l5, l6, l7, l8, l9] S st P = AW X d 139 657 [.ref a, l1, l2, l3, l4, l5, l6, l7, l8, l9] (.ref a :: S) st P := zAW_st (zd_of zb_L_law dL_law_656) rfl rfl
theorem E_L_law_656n : AW X d 139 656 [.null, l1, l2, l3, l4, l5, l6, l7, l8, l9] S st P = AW X d 139 657 [.null, l1, l2, l3, l4, l5, l6, l7, l8, l9] (.null :: S) st P := zAW_st (zd_of zb_L_law dL_law_656) rfl rfl
theorem E_L_law_657 : AW X d 139 657 [l0, l1, l2, l3, l4, .int x, l6, l7, l8, l9] S st P = AW X d 139 659 [l0, l1, l2, l3, l4, .int x, l6, l7, l8, l9] (.int x :: S) st P := zAW_st (zd_of zb_L_law dL_law_657) rfl rfl
theorem E_L_law_659 : AW X d 139 659 [l0, l1, l2, l3, l4, l5, l6, l7, l8, l9] S st P = AW X d 139 660 [l0, l1, l2, l3, l4, l5, l6, l7, l8, l9] (.int 1 :: S) st P := zq_iconst (zd_of zb_L_law dL_law_659) (by decide)
theorem E_L_law_660 : AW X d 139 660 [l0, l1, l2, l3, l4, l5, l6, l7, l8, l9] (.int y :: .int x :: S) st P = AW X d 139 661 [l0, l1, l2, l3, l4, l5, l6, l7, l8, l9] (.int (x + y) :: S) st P := zAW_st (zd_of zb_L_law dL_law_660) rfl rfl
theorem E_L_law_661 : AW X d 139 661 [l0, l1, l2, l3, l4, l5, l6, l7, l8, l9] (.int x :: .ref a :: S) st P = zwith (zai X st a) fun q => zwith (zix x q.1) fun j => AW X d 139 662 [l0, l1, l2, l3, l4, l5, l6, l7, l8, l9] (.int (q.2 j) :: S) st P := zq_iaload (zd_of zb_L_law dL_law_661)
theorem E_L_law_662 : AW X d 139 662 [l0, l1, l2, l3, l4, l5, l6, l7, l8, l9] (.int x :: .ref a :: S) st P = zif (zis st a 7 = true) (zif (S.length ≤ 4) (AC X d 99 [.ref a, .int x] st (zaft X d 139 662 [l0, l1, l2, l3, l4, l5, l6, l7, l8, l9] S P))) := zq_callV (B := [.int x]) (zd_of zb_L_law dL_law_662) zo_L_law (by decide) zl_15_99 zn_99 rfl rfl rfl
theorem E_L_law_665 : AW X d 139 665 [l0, l1, l2, l3, l4, l5, l6, l7, l8, l9] (.int x :: S) st P = AW X d 139 667 [l0, l1, l2, l3, l4, l5, l6, .int x, l8, l9] S st P := zAW_st (zd_of zb_L_law dL_law_665) rfl rfl
theorem E_L_law_667 : AW X d 139 667 [l0, l1, .ref a, l3, l4, l5, l6, l7, l8, l9] S st P = AW X d 139 668 [l0, l1, .ref a, l3, l4, l5, l6, l7, l8, l9] (.ref a :: S) st P := zAW_st (zd_of zb_L_law dL_law_667) rfl rfl
theorem E_L_law_667n : AW X d 139 667 [l0, l1, .null, l3, l4, l5, l6, l7, l8, l9] S st P = AW X d 139 668 [l0, l1, .null, l3, l4, l5, l6, l7, l8, l9] (.null :: S) st P := zAW_st (zd_of zb_L_law dL_law_667) rfl rfl
theorem E_L_law_668 : AW X d 139 668 [l0, l1, l2, l3, l4, l5, l6, l7, l8, l9] (.ref a :: S) st P = zif (zis st a 7 = true) (zif (S.length ≤ 4) (AC X d 73 [.ref a] st (zaft X d 139 668 [l0, l1, l2, l3, l4, l5, l6, l7, l8, l9] S P))) := zq_callV (B := []) (zd_of zb_L_law dL_law_668) zo_L_law (by decide) zl_15_69 zn_73 rfl rfl rfl
theorem E_L_law_671 : AW X d 139 671 [l0, l1, l2, l3, l4, l5, .int x, l7, l8, l9] S st P = AW X d 139 673 [l0, l1, l2, l3, l4, l5, .int x, l7, l8, l9] (.int x :: S) st P := zAW_st (zd_of zb_L_law dL_law_671) rfl rfl
theorem E_L_law_673 : AW X d 139 673 [l0, l1, l2, l3, l4, l5, l6, l7, l8, l9] (.int y :: .int x :: S) st P = if x = y then AW X d 139 678 [l0, l1, l2, l3, l4, l5, l6, l7, l8, l9] S st P else AW X d 139 676 [l0, l1, l2, l3, l4, l5, l6, l7, l8, l9] S st P := zq_icmp (c := x = y) (zd_of zb_L_law dL_law_673) (by decide) rfl
theorem E_L_law_676 : AW X d 139 676 [l0, l1, l2, l3, l4, l5, l6, l7, l8, l9] S st P = AW X d 139 677 [l0, l1, l2, l3, l4, l5, l6, l7, l8, l9] (.int 0 :: S) st P := zq_iconst (zd_of zb_L_law dL_law_676) (by decide)
theorem E_L_law_677 : AW X d 139 677 [l0, l1, l2, l3, l4, l5, l6, l7, l8, l9] ([.int x]) st P = zif (x &&& 1 = x) (P (.inl (some (.int x))) st) := by
  by_cases h : x &&& 1 = x
  · rw [zif_of h]; exact zAW_ret (w := (.inl (some (.int x)), st)) (zd_of zb_L_law dL_law_677) rfl rfl (by simp only [zfin, zr_L_law]; rw [if_pos h])
  · rw [zAW_stuck (zd_of zb_L_law dL_law_677) rfl (by simp only [zfin, zr_L_law]; rw [if_neg h]) rfl]; exact propext ⟨fun z => z.elim, fun z => h z.1⟩
theorem E_L_law_678 : AW X d 139 678 [l0, l1, l2, l3, l4, l5, .int x, l7, l8, l9] S st P = AW X d 139 680 [l0, l1, l2, l3, l4, l5, .int x, l7, l8, l9] (.int x :: S) st P := zAW_st (zd_of zb_L_law dL_law_678) rfl rfl
theorem E_L_law_680 : AW X d 139 680 [l0, l1, l2, l3, l4, l5, l6, l7, l8, l9] (.int x :: S) st P = if ¬ x = 0 then AW X d 139 695 [l0, l1, l2, l3, l4, l5, l6, l7, l8, l9] S st P else AW X d 139 683 [l0, l1, l2, l3, l4, l5, l6, l7, l8, l9] S st P := zq_if (c := ¬ x = 0) (zd_of zb_L_law dL_law_680) (by decide) rfl
theorem E_L_law_683 : AW X d 139 683 [l0, l1, l2, .ref a, l4, l5, l6, l7, l8, l9] S st P = AW X d 139 684 [l0, l1, l2, .ref a, l4, l5, l6, l7, l8, l9] (.ref a :: S) st P := zAW_st (zd_of zb_L_law dL_law_683) rfl rfl
theorem E_L_law_683n : AW X d 139 683 [l0, l1, l2, .null, l4, l5, l6, l7, l8, l9] S st P = AW X d 139 684 [l0, l1, l2, .null, l4, l5, l6, l7, l8, l9] (.null :: S) st P := zAW_st (zd_of zb_L_law dL_law_683) rfl rfl
theorem E_L_law_684 : AW X d 139 684 [l0, l1, l2, l3, l4, l5, l6, l7, l8, l9] S st P = AW X d 139 685 [l0, l1, l2, l3, l4, l5, l6, l7, l8, l9] (.int 0 :: S) st P := zq_iconst (zd_of zb_L_law dL_law_684) (by decide)
theorem E_L_law_685 : AW X d 139 685 [l0, l1, l2, l3, l4, l5, l6, l7, l8, l9] (.int x :: .ref a :: S) st P = zwith (zaL st a) fun q => zwith (zix x q.1) fun j => AW X d 139 686 [l0, l1, l2, l3, l4, l5, l6, l7, l8, l9] (.long (q.2 j) :: S) st P := zq_laload (zd_of zb_L_law dL_law_685)
theorem E_L_law_686 : AW X d 139 686 [l0, l1, l2, l3, l4, l5, l6, .int x, l8, l9] S st P = AW X d 139 688 [l0, l1, l2, l3, l4, l5, l6, .int x, l8, l9] (.int x :: S) st P := zAW_st (zd_of zb_L_law dL_law_686) rfl rfl
theorem E_L_law_688 : AW X d 139 688 [l0, l1, l2, l3, l4, l5, l6, l7, l8, l9] (.int x :: S) st P = AW X d 139 689 [l0, l1, l2, l3, l4, l5, l6, l7, l8, l9] (.long x.toInt64 :: S) st P := zAW_st (zd_of zb_L_law dL_law_688) rfl rfl
theorem E_L_law_689 : AW X d 139 689 [l0, l1, l2, l3, l4, l5, l6, l7, l8, l9] (.long q2 :: .long q1 :: S) st P = AW X d 139 690 [l0, l1, l2, l3, l4, l5, l6, l7, l8, l9] (.int (lg_cmp q1 q2) :: S) st P := zAW_st (zd_of zb_L_law dL_law_689) rfl rfl
theorem E_L_law_690 : AW X d 139 690 [l0, l1, l2, l3, l4, l5, l6, l7, l8, l9] (.int x :: S) st P = if x = 0 then AW X d 139 695 [l0, l1, l2, l3, l4, l5, l6, l7, l8, l9] S st P else AW X d 139 693 [l0, l1, l2, l3, l4, l5, l6, l7, l8, l9] S st P := zq_if (c := x = 0) (zd_of zb_L_law dL_law_690) (by decide) rfl
theorem E_L_law_693 : AW X d 139 693 [l0, l1, l2, l3, l4, l5, l6, l7, l8, l9] S st P = AW X d 139 694 [l0, l1, l2, l3, l4, l5, l6, l7, l8, l9] (.int 0 :: S) st P := zq_iconst (zd_of zb_L_law dL_law_693) (by decide)
theorem E_L_law_694 : AW X d 139 694 [l0, l1, l2, l3, l4, l5, l6, l7, l8, l9] ([.int x]) st P = zif (x &&& 1 = x) (P (.inl (some (.int x))) st) := by
  by_cases h : x &&& 1 = x
  · rw [zif_of h]; exact zAW_ret (w := (.inl (some (.int x)), st)) (zd_of zb_L_law dL_law_694) rfl rfl (by simp only [zfin, zr_L_law]; rw [if_pos h])
  · rw [zAW_stuck (zd_of zb_L_law dL_law_694) rfl (by simp only [zfin, zr_L_law]; rw [if_neg h]) rfl]; exact propext ⟨fun z => z.elim, fun z => h z.1⟩
theorem E_L_law_695 : AW X d 139 695 [l0, l1, l2, l3, l4, l5, l6, l7, l8, l9] S st P = AW X d 139 1057 [l0, l1, l2, l3, l4, l5, l6, l7, l8, l9] S st P := zq_goto (zd_of zb_L_law dL_law_695) (by decide)
theorem E_L_law_698 : AW X d 139 698 [l0, .ref a, l2, l3, l4, l5, l6, l7, l8, l9] S st P = AW X d 139 699 [l0, .ref a, l2, l3, l4, l5, l6, l7, l8, l9] (.ref a :: S) st P := zAW_st (zd_of zb_L_law dL_law_698) rfl rfl
theorem E_L_law_698n : AW X d 139 698 [l0, .null, l2, l3, l4, l5, l6, l7, l8, l9] S st P = AW X d 139 699 [l0, .null, l2, l3, l4, l5, l6, l7, l8, l9] (.null :: S) st P := zAW_st (zd_of zb_L_law dL_law_698) rfl rfl
theorem E_L_law_699 : AW X d 139 699 [.ref a, l1, l2, l3, l4, l5, l6, l7, l8, l9] S st P = AW X d 139 700 [.ref a, l1, l2, l3, l4, l5, l6, l7, l8, l9] (.ref a :: S) st P := zAW_st (zd_of zb_L_law dL_law_699) rfl rfl
theorem E_L_law_699n : AW X d 139 699 [.null, l1, l2, l3, l4, l5, l6, l7, l8, l9] S st P = AW X d 139 700 [.null, l1, l2, l3, l4, l5, l6, l7, l8, l9] (.null :: S) st P := zAW_st (zd_of zb_L_law dL_law_699) rfl rfl
theorem E_L_law_700 : AW X d 139 700 [l0, l1, l2, l3, l4, .int x, l6, l7, l8, l9] S st P = AW X d 139 702 [l0, l1, l2, l3, l4, .int x, l6, l7, l8, l9] (.int x :: S) st P := zAW_st (zd_of zb_L_law dL_law_700) rfl rfl
theorem E_L_law_702 : AW X d 139 702 [l0, l1, l2, l3, l4, l5, l6, l7, l8, l9] S st P = AW X d 139 703 [l0, l1, l2, l3, l4, l5, l6, l7, l8, l9] (.int 1 :: S) st P := zq_iconst (zd_of zb_L_law dL_law_702) (by decide)
theorem E_L_law_703 : AW X d 139 703 [l0, l1, l2, l3, l4, l5, l6, l7, l8, l9] (.int y :: .int x :: S) st P = AW X d 139 704 [l0, l1, l2, l3, l4, l5, l6, l7, l8, l9] (.int (x + y) :: S) st P := zAW_st (zd_of zb_L_law dL_law_703) rfl rfl
theorem E_L_law_704 : AW X d 139 704 [l0, l1, l2, l3, l4, l5, l6, l7, l8, l9] (.int x :: .ref a :: S) st P = zwith (zai X st a) fun q => zwith (zix x q.1) fun j => AW X d 139 705 [l0, l1, l2, l3, l4, l5, l6, l7, l8, l9] (.int (q.2 j) :: S) st P := zq_iaload (zd_of zb_L_law dL_law_704)
theorem E_L_law_705 : AW X d 139 705 [l0, l1, l2, .ref a, l4, l5, l6, l7, l8, l9] S st P = AW X d 139 706 [l0, l1, l2, .ref a, l4, l5, l6, l7, l8, l9] (.ref a :: S) st P := zAW_st (zd_of zb_L_law dL_law_705) rfl rfl
theorem E_L_law_705n : AW X d 139 705 [l0, l1, l2, .null, l4, l5, l6, l7, l8, l9] S st P = AW X d 139 706 [l0, l1, l2, .null, l4, l5, l6, l7, l8, l9] (.null :: S) st P := zAW_st (zd_of zb_L_law dL_law_705) rfl rfl
theorem E_L_law_706 : AW X d 139 706 [l0, l1, l2, l3, l4, l5, l6, l7, l8, l9] (v2 :: .int x :: v1 :: S) st P = zif (S.length ≤ 4) (AC X d 135 [v1, .int x, v2] st (zaft X d 139 706 [l0, l1, l2, l3, l4, l5, l6, l7, l8, l9] S P)) := zq_callS (B := [v1, .int x, v2]) (S2 := S) (zd_of zb_L_law dL_law_706) zo_L_law (by decide) (by decide) (by decide) zl_15_100 zn_135 (by simp only [List.length_cons]; omega) rfl rfl
theorem E_L_law_709 : AW X d 139 709 [l0, l1, l2, l3, l4, l5, l6, l7, l8, l9] (.int x :: S) st P = AW X d 139 711 [l0, l1, l2, l3, l4, l5, .int x, l7, l8, l9] S st P := zAW_st (zd_of zb_L_law dL_law_709) rfl rfl
theorem E_L_law_711 : AW X d 139 711 [l0, l1, .ref a, l3, l4, l5, l6, l7, l8, l9] S st P = AW X d 139 712 [l0, l1, .ref a, l3, l4, l5, l6, l7, l8, l9] (.ref a :: S) st P := zAW_st (zd_of zb_L_law dL_law_711) rfl rfl
theorem E_L_law_711n : AW X d 139 711 [l0, l1, .null, l3, l4, l5, l6, l7, l8, l9] S st P = AW X d 139 712 [l0, l1, .null, l3, l4, l5, l6, l7, l8, l9] (.null :: S) st P := zAW_st (zd_of zb_L_law dL_law_711) rfl rfl
theorem E_L_law_712 : AW X d 139 712 [.ref a, l1, l2, l3, l4, l5, l6, l7, l8, l9] S st P = AW X d 139 713 [.ref a, l1, l2, l3, l4, l5, l6, l7, l8, l9] (.ref a :: S) st P := zAW_st (zd_of zb_L_law dL_law_712) rfl rfl
theorem E_L_law_712n : AW X d 139 712 [.null, l1, l2, l3, l4, l5, l6, l7, l8, l9] S st P = AW X d 139 713 [.null, l1, l2, l3, l4, l5, l6, l7, l8, l9] (.null :: S) st P := zAW_st (zd_of zb_L_law dL_law_712) rfl rfl
theorem E_L_law_713 : AW X d 139 713 [l0, l1, l2, l3, l4, .int x, l6, l7, l8, l9] S st P = AW X d 139 715 [l0, l1, l2, l3, l4, .int x, l6, l7, l8, l9] (.int x :: S) st P := zAW_st (zd_of zb_L_law dL_law_713) rfl rfl
theorem E_L_law_715 : AW X d 139 715 [l0, l1, l2, l3, l4, l5, l6, l7, l8, l9] S st P = AW X d 139 716 [l0, l1, l2, l3, l4, l5, l6, l7, l8, l9] (.int 1 :: S) st P := zq_iconst (zd_of zb_L_law dL_law_715) (by decide)
theorem E_L_law_716 : AW X d 139 716 [l0, l1, l2, l3, l4, l5, l6, l7, l8, l9] (.int y :: .int x :: S) st P = AW X d 139 717 [l0, l1, l2, l3, l4, l5, l6, l7, l8, l9] (.int (x + y) :: S) st P := zAW_st (zd_of zb_L_law dL_law_716) rfl rfl
theorem E_L_law_717 : AW X d 139 717 [l0, l1, l2, l3, l4, l5, l6, l7, l8, l9] (.int x :: .ref a :: S) st P = zwith (zai X st a) fun q => zwith (zix x q.1) fun j => AW X d 139 718 [l0, l1, l2, l3, l4, l5, l6, l7, l8, l9] (.int (q.2 j) :: S) st P := zq_iaload (zd_of zb_L_law dL_law_717)
theorem E_L_law_718 : AW X d 139 718 [l0, l1, l2, l3, l4, l5, l6, l7, l8, l9] (.int x :: .ref a :: S) st P = zif (zis st a 7 = true) (zif (S.length ≤ 4) (AC X d 103 [.ref a, .int x] st (zaft X d 139 718 [l0, l1, l2, l3, l4, l5, l6, l7, l8, l9] S P))) := zq_callV (B := [.int x]) (zd_of zb_L_law dL_law_718) zo_L_law (by decide) zl_15_102 zn_103 rfl rfl rfl
theorem E_L_law_721 : AW X d 139 721 [l0, l1, l2, l3, l4, l5, l6, l7, l8, l9] (.int x :: S) st P = AW X d 139 723 [l0, l1, l2, l3, l4, l5, l6, .int x, l8, l9] S st P := zAW_st (zd_of zb_L_law dL_law_721) rfl rfl
theorem E_L_law_723 : AW X d 139 723 [l0, l1, .ref a, l3, l4, l5, l6, l7, l8, l9] S st P = AW X d 139 724 [l0, l1, .ref a, l3, l4, l5, l6, l7, l8, l9] (.ref a :: S) st P := zAW_st (zd_of zb_L_law dL_law_723) rfl rfl
theorem E_L_law_723n : AW X d 139 723 [l0, l1, .null, l3, l4, l5, l6, l7, l8, l9] S st P = AW X d 139 724 [l0, l1, .null, l3, l4, l5, l6, l7, l8, l9] (.null :: S) st P := zAW_st (zd_of zb_L_law dL_law_723) rfl rfl
theorem E_L_law_724 : AW X d 139 724 [l0, l1, l2, l3, l4, l5, l6, l7, l8, l9] (.ref a :: S) st P = zif (zis st a 7 = true) (zif (S.length ≤ 4) (AC X d 73 [.ref a] st (zaft X d 139 724 [l0, l1, l2, l3, l4, l5, l6, l7, l8, l9] S P))) := zq_callV (B := []) (zd_of zb_L_law dL_law_724) zo_L_law (by decide) zl_15_69 zn_73 rfl rfl rfl
theorem E_L_law_727 : AW X d 139 727 [l0, l1, l2, l3, l4, l5, .int x, l7, l8, l9] S st P = AW X d 139 729 [l0, l1, l2, l3, l4, l5, .int x, l7, l8, l9] (.int x :: S) st P := zAW_st (zd_of zb_L_law dL_law_727) rfl rfl
theorem E_L_law_729 : AW X d 139 729 [l0, l1, l2, l3, l4, l5, l6, l7, l8, l9] (.int y :: .int x :: S) st P = if x = y then AW X d 139 734 [l0, l1, l2, l3, l4, l5, l6, l7, l8, l9] S st P else AW X d 139 732 [l0, l1, l2, l3, l4, l5, l6, l7, l8, l9] S st P := zq_icmp (c := x = y) (zd_of zb_L_law dL_law_729) (by decide) rfl
theorem E_L_law_732 : AW X d 139 732 [l0, l1, l2, l3, l4, l5, l6, l7, l8, l9] S st P = AW X d 139 733 [l0, l1, l2, l3, l4, l5, l6, l7, l8, l9] (.int 0 :: S) st P := zq_iconst (zd_of zb_L_law dL_law_732) (by decide)
theorem E_L_law_733 : AW X d 139 733 [l0, l1, l2, l3, l4, l5, l6, l7, l8, l9] ([.int x]) st P = zif (x &&& 1 = x) (P (.inl (some (.int x))) st) := by
  by_cases h : x &&& 1 = x
  · rw [zif_of h]; exact zAW_ret (w := (.inl (some (.int x)), st)) (zd_of zb_L_law dL_law_733) rfl rfl (by simp only [zfin, zr_L_law]; rw [if_pos h])
  · rw [zAW_stuck (zd_of zb_L_law dL_law_733) rfl (by simp only [zfin, zr_L_law]; rw [if_neg h]) rfl]; exact propext ⟨fun z => z.elim, fun z => h z.1⟩
theorem E_L_law_734 : AW X d 139 734 [l0, l1, l2, l3, l4, l5, .int x, l7, l8, l9] S st P = AW X d 139 736 [l0, l1, l2, l3, l4, l5, .int x, l7, l8, l9] (.int x :: S) st P := zAW_st (zd_of zb_L_law dL_law_734) rfl rfl
theorem E_L_law_736 : AW X d 139 736 [l0, l1, l2, l3, l4, l5, l6, l7, l8, l9] (.int x :: S) st P = if ¬ x = 0 then AW X d 139 751 [l0, l1, l2, l3, l4, l5, l6, l7, l8, l9] S st P else AW X d 139 739 [l0, l1, l2, l3, l4, l5, l6, l7, l8, l9] S st P := zq_if (c := ¬ x = 0) (zd_of zb_L_law dL_law_736) (by decide) rfl
theorem E_L_law_739 : AW X d 139 739 [l0, l1, l2, .ref a, l4, l5, l6, l7, l8, l9] S st P = AW X d 139 740 [l0, l1, l2, .ref a, l4, l5, l6, l7, l8, l9] (.ref a :: S) st P := zAW_st (zd_of zb_L_law dL_law_739) rfl rfl
theorem E_L_law_739n : AW X d 139 739 [l0, l1, l2, .null, l4, l5, l6, l7, l8, l9] S st P = AW X d 139 740 [l0, l1, l2, .null, l4, l5, l6, l7, l8, l9] (.null :: S) st P := zAW_st (zd_of zb_L_law dL_law_739) rfl rfl
theorem E_L_law_740 : AW X d 139 740 [l0, l1, l2, l3, l4, l5, l6, l7, l8, l9] S st P = AW X d 139 741 [l0, l1, l2, l3, l4, l5, l6, l7, l8, l9] (.int 0 :: S) st P := zq_iconst (zd_of zb_L_law dL_law_740) (by decide)
theorem E_L_law_741 : AW X d 139 741 [l0, l1, l2, l3, l4, l5, l6, l7, l8, l9] (.int x :: .ref a :: S) st P = zwith (zaL st a) fun q => zwith (zix x q.1) fun j => AW X d 139 742 [l0, l1, l2, l3, l4, l5, l6, l7, l8, l9] (.long (q.2 j) :: S) st P := zq_laload (zd_of zb_L_law dL_law_741)
theorem E_L_law_742 : AW X d 139 742 [l0, l1, l2, l3, l4, l5, l6, .int x, l8, l9] S st P = AW X d 139 744 [l0, l1, l2, l3, l4, l5, l6, .int x, l8, l9] (.int x :: S) st P := zAW_st (zd_of zb_L_law dL_law_742) rfl rfl
theorem E_L_law_744 : AW X d 139 744 [l0, l1, l2, l3, l4, l5, l6, l7, l8, l9] (.int x :: S) st P = AW X d 139 745 [l0, l1, l2, l3, l4, l5, l6, l7, l8, l9] (.long x.toInt64 :: S) st P := zAW_st (zd_of zb_L_law dL_law_744) rfl rfl
theorem E_L_law_745 : AW X d 139 745 [l0, l1, l2, l3, l4, l5, l6, l7, l8, l9] (.long q2 :: .long q1 :: S) st P = AW X d 139 746 [l0, l1, l2, l3, l4, l5, l6, l7, l8, l9] (.int (lg_cmp q1 q2) :: S) st P := zAW_st (zd_of zb_L_law dL_law_745) rfl rfl
theorem E_L_law_746 : AW X d 139 746 [l0, l1, l2, l3, l4, l5, l6, l7, l8, l9] (.int x :: S) st P = if x = 0 then AW X d 139 751 [l0, l1, l2, l3, l4, l5, l6, l7, l8, l9] S st P else AW X d 139 749 [l0, l1, l2, l3, l4, l5, l6, l7, l8, l9] S st P := zq_if (c := x = 0) (zd_of zb_L_law dL_law_746) (by decide) rfl
theorem E_L_law_749 : AW X d 139 749 [l0, l1, l2, l3, l4, l5, l6, l7, l8, l9] S st P = AW X d 139 750 [l0, l1, l2, l3, l4, l5, l6, l7, l8, l9] (.int 0 :: S) st P := zq_iconst (zd_of zb_L_law dL_law_749) (by decide)
theorem E_L_law_750 : AW X d 139 750 [l0, l1, l2, l3, l4, l5, l6, l7, l8, l9] ([.int x]) st P = zif (x &&& 1 = x) (P (.inl (some (.int x))) st) := by
  by_cases h : x &&& 1 = x
  · rw [zif_of h]; exact zAW_ret (w := (.inl (some (.int x)), st)) (zd_of zb_L_law dL_law_750) rfl rfl (by simp only [zfin, zr_L_law]; rw [if_pos h])
  · rw [zAW_stuck (zd_of zb_L_law dL_law_750) rfl (by simp only [zfin, zr_L_law]; rw [if_neg h]) rfl]; exact propext ⟨fun z => z.elim, fun z => h z.1⟩
theorem E_L_law_751 : AW X d 139 751 [l0, l1, l2, l3, l4, l5, l6, l7, l8, l9] S st P = AW X d 139 1057 [l0, l1, l2, l3, l4, l5, l6, l7, l8, l9] S st P := zq_goto (zd_of zb_L_law dL_law_751) (by decide)
theorem E_L_law_754 : AW X d 139 754 [l0, .ref a, l2, l3, l4, l5, l6, l7, l8, l9] S st P = AW X d 139 755 [l0, .ref a, l2, l3, l4, l5, l6, l7, l8, l9] (.ref a :: S) st P := zAW_st (zd_of zb_L_law dL_law_754) rfl rfl
theorem E_L_law_754n : AW X d 139 754 [l0, .null, l2, l3, l4, l5, l6, l7, l8, l9] S st P = AW X d 139 755 [l0, .null, l2, l3, l4, l5, l6, l7, l8, l9] (.null :: S) st P := zAW_st (zd_of zb_L_law dL_law_754) rfl rfl
theorem E_L_law_755 : AW X d 139 755 [.ref a, l1, l2, l3, l4, l5, l6, l7, l8, l9] S st P = AW X d 139 756 [.ref a, l1, l2, l3, l4, l5, l6, l7, l8, l9] (.ref a :: S) st P := zAW_st (zd_of zb_L_law dL_law_755) rfl rfl
theorem E_L_law_755n : AW X d 139 755 [.null, l1, l2, l3, l4, l5, l6, l7, l8, l9] S st P = AW X d 139 756 [.null, l1, l2, l3, l4, l5, l6, l7, l8, l9] (.null :: S) st P := zAW_st (zd_of zb_L_law dL_law_755) rfl rfl
theorem E_L_law_756 : AW X d 139 756 [l0, l1, l2, l3, l4, .int x, l6, l7, l8, l9] S st P = AW X d 139 758 [l0, l1, l2, l3, l4, .int x, l6, l7, l8, l9] (.int x :: S) st P := zAW_st (zd_of zb_L_law dL_law_756) rfl rfl
theorem E_L_law_758 : AW X d 139 758 [l0, l1, l2, l3, l4, l5, l6, l7, l8, l9] S st P = AW X d 139 759 [l0, l1, l2, l3, l4, l5, l6, l7, l8, l9] (.int 1 :: S) st P := zq_iconst (zd_of zb_L_law dL_law_758) (by decide)
theorem E_L_law_759 : AW X d 139 759 [l0, l1, l2, l3, l4, l5, l6, l7, l8, l9] (.int y :: .int x :: S) st P = AW X d 139 760 [l0, l1, l2, l3, l4, l5, l6, l7, l8, l9] (.int (x + y) :: S) st P := zAW_st (zd_of zb_L_law dL_law_759) rfl rfl
theorem E_L_law_760 : AW X d 139 760 [l0, l1, l2, l3, l4, l5, l6, l7, l8, l9] (.int x :: .ref a :: S) st P = zwith (zai X st a) fun q => zwith (zix x q.1) fun j => AW X d 139 761 [l0, l1, l2, l3, l4, l5, l6, l7, l8, l9] (.int (q.2 j) :: S) st P := zq_iaload (zd_of zb_L_law dL_law_760)
theorem E_L_law_761 : AW X d 139 761 [.ref a, l1, l2, l3, l4, l5, l6, l7, l8, l9] S st P = AW X d 139 762 [.ref a, l1, l2, l3, l4, l5, l6, l7, l8, l9] (.ref a :: S) st P := zAW_st (zd_of zb_L_law dL_law_761) rfl rfl
theorem E_L_law_761n : AW X d 139 761 [.null, l1, l2, l3, l4, l5, l6, l7, l8, l9] S st P = AW X d 139 762 [.null, l1, l2, l3, l4, l5, l6, l7, l8, l9] (.null :: S) st P := zAW_st (zd_of zb_L_law dL_law_761) rfl rfl
theorem E_L_law_762 : AW X d 139 762 [l0, l1, l2, l3, l4, .int x, l6, l7, l8, l9] S st P = AW X d 139 764 [l0, l1, l2, l3, l4, .int x, l6, l7, l8, l9] (.int x :: S) st P := zAW_st (zd_of zb_L_law dL_law_762) rfl rfl
theorem E_L_law_764 : AW X d 139 764 [l0, l1, l2, l3, l4, l5, l6, l7, l8, l9] S st P = AW X d 139 765 [l0, l1, l2, l3, l4, l5, l6, l7, l8, l9] (.int 2 :: S) st P := zq_iconst (zd_of zb_L_law dL_law_764) (by decide)
theorem E_L_law_765 : AW X d 139 765 [l0, l1, l2, l3, l4, l5, l6, l7, l8, l9] (.int y :: .int x :: S) st P = AW X d 139 766 [l0, l1, l2, l3, l4, l5, l6, l7, l8, l9] (.int (x + y) :: S) st P := zAW_st (zd_of zb_L_law dL_law_765) rfl rfl
theorem E_L_law_766 : AW X d 139 766 [l0, l1, l2, l3, l4, l5, l6, l7, l8, l9] (.int x :: .ref a :: S) st P = zwith (zai X st a) fun q => zwith (zix x q.1) fun j => AW X d 139 767 [l0, l1, l2, l3, l4, l5, l6, l7, l8, l9] (.int (q.2 j) :: S) st P := zq_iaload (zd_of zb_L_law dL_law_766)
theorem E_L_law_767 : AW X d 139 767 [l0, l1, l2, .ref a, l4, l5, l6, l7, l8, l9] S st P = AW X d 139 768 [l0, l1, l2, .ref a, l4, l5, l6, l7, l8, l9] (.ref a :: S) st P := zAW_st (zd_of zb_L_law dL_law_767) rfl rfl
theorem E_L_law_767n : AW X d 139 767 [l0, l1, l2, .null, l4, l5, l6, l7, l8, l9] S st P = AW X d 139 768 [l0, l1, l2, .null, l4, l5, l6, l7, l8, l9] (.null :: S) st P := zAW_st (zd_of zb_L_law dL_law_767) rfl rfl
theorem E_L_law_768 : AW X d 139 768 [l0, l1, l2, l3, l4, l5, l6, l7, l8, l9] (v2 :: .int y :: .int x :: v1 :: S) st P = zif (S.length ≤ 4) (AC X d 136 [v1, .int x, .int y, v2] st (zaft X d 139 768 [l0, l1, l2, l3, l4, l5, l6, l7, l8, l9] S P)) := zq_callS (B := [v1, .int x, .int y, v2]) (S2 := S) (zd_of zb_L_law dL_law_768) zo_L_law (by decide) (by decide) (by decide) zl_15_103 zn_136 (by simp only [List.length_cons]; omega) rfl rfl
theorem E_L_law_771 : AW X d 139 771 [l0, l1, l2, l3, l4, l5, l6, l7, l8, l9] (.int x :: S) st P = AW X d 139 773 [l0, l1, l2, l3, l4, l5, .int x, l7, l8, l9] S st P := zAW_st (zd_of zb_L_law dL_law_771) rfl rfl
theorem E_L_law_773 : AW X d 139 773 [l0, l1, .ref a, l3, l4, l5, l6, l7, l8, l9] S st P = AW X d 139 774 [l0, l1, .ref a, l3, l4, l5, l6, l7, l8, l9] (.ref a :: S) st P := zAW_st (zd_of zb_L_law dL_law_773) rfl rfl
theorem E_L_law_773n : AW X d 139 773 [l0, l1, .null, l3, l4, l5, l6, l7, l8, l9] S st P = AW X d 139 774 [l0, l1, .null, l3, l4, l5, l6, l7, l8, l9] (.null :: S) st P := zAW_st (zd_of zb_L_law dL_law_773) rfl rfl
theorem E_L_law_774 : AW X d 139 774 [.ref a, l1, l2, l3, l4, l5, l6, l7, l8, l9] S st P = AW X d 139 775 [.ref a, l1, l2, l3, l4, l5, l6, l7, l8, l9] (.ref a :: S) st P := zAW_st (zd_of zb_L_law dL_law_774) rfl rfl
theorem E_L_law_774n : AW X d 139 774 [.null, l1, l2, l3, l4, l5, l6, l7, l8, l9] S st P = AW X d 139 775 [.null, l1, l2, l3, l4, l5, l6, l7, l8, l9] (.null :: S) st P := zAW_st (zd_of zb_L_law dL_law_774) rfl rfl
theorem E_L_law_775 : AW X d 139 775 [l0, l1, l2, l3, l4, .int x, l6, l7, l8, l9] S st P = AW X d 139 777 [l0, l1, l2, l3, l4, .int x, l6, l7, l8, l9] (.int x :: S) st P := zAW_st (zd_of zb_L_law dL_law_775) rfl rfl
theorem E_L_law_777 : AW X d 139 777 [l0, l1, l2, l3, l4, l5, l6, l7, l8, l9] S st P = AW X d 139 778 [l0, l1, l2, l3, l4, l5, l6, l7, l8, l9] (.int 1 :: S) st P := zq_iconst (zd_of zb_L_law dL_law_777) (by decide)
theorem E_L_law_778 : AW X d 139 778 [l0, l1, l2, l3, l4, l5, l6, l7, l8, l9] (.int y :: .int x :: S) st P = AW X d 139 779 [l0, l1, l2, l3, l4, l5, l6, l7, l8, l9] (.int (x + y) :: S) st P := zAW_st (zd_of zb_L_law dL_law_778) rfl rfl
theorem E_L_law_779 : AW X d 139 779 [l0, l1, l2, l3, l4, l5, l6, l7, l8, l9] (.int x :: .ref a :: S) st P = zwith (zai X st a) fun q => zwith (zix x q.1) fun j => AW X d 139 780 [l0, l1, l2, l3, l4, l5, l6, l7, l8, l9] (.int (q.2 j) :: S) st P := zq_iaload (zd_of zb_L_law dL_law_779)
theorem E_L_law_780 : AW X d 139 780 [.ref a, l1, l2, l3, l4, l5, l6, l7, l8, l9] S st P = AW X d 139 781 [.ref a, l1, l2, l3, l4, l5, l6, l7, l8, l9] (.ref a :: S) st P := zAW_st (zd_of zb_L_law dL_law_780) rfl rfl
theorem E_L_law_780n : AW X d 139 780 [.null, l1, l2, l3, l4, l5, l6, l7, l8, l9] S st P = AW X d 139 781 [.null, l1, l2, l3, l4, l5, l6, l7, l8, l9] (.null :: S) st P := zAW_st (zd_of zb_L_law dL_law_780) rfl rfl
theorem E_L_law_781 : AW X d 139 781 [l0, l1, l2, l3, l4, .int x, l6, l7, l8, l9] S st P = AW X d 139 783 [l0, l1, l2, l3, l4, .int x, l6, l7, l8, l9] (.int x :: S) st P := zAW_st (zd_of zb_L_law dL_law_781) rfl rfl
theorem E_L_law_783 : AW X d 139 783 [l0, l1, l2, l3, l4, l5, l6, l7, l8, l9] S st P = AW X d 139 784 [l0, l1, l2, l3, l4, l5, l6, l7, l8, l9] (.int 2 :: S) st P := zq_iconst (zd_of zb_L_law dL_law_783) (by decide)
theorem E_L_law_784 : AW X d 139 784 [l0, l1, l2, l3, l4, l5, l6, l7, l8, l9] (.int y :: .int x :: S) st P = AW X d 139 785 [l0, l1, l2, l3, l4, l5, l6, l7, l8, l9] (.int (x + y) :: S) st P := zAW_st (zd_of zb_L_law dL_law_784) rfl rfl
theorem E_L_law_785 : AW X d 139 785 [l0, l1, l2, l3, l4, l5, l6, l7, l8, l9] (.int x :: .ref a :: S) st P = zwith (zai X st a) fun q => zwith (zix x q.1) fun j => AW X d 139 786 [l0, l1, l2, l3, l4, l5, l6, l7, l8, l9] (.int (q.2 j) :: S) st P := zq_iaload (zd_of zb_L_law dL_law_785)
theorem E_L_law_786 : AW X d 139 786 [l0, l1, l2, l3, l4, l5, l6, l7, l8, l9] (.int y :: .int x :: .ref a :: S) st P = zif (zis st a 7 = true) (zif (S.length ≤ 4) (AC X d 104 [.ref a, .int x, .int y] st (zaft X d 139 786 [l0, l1, l2, l3, l4, l5, l6, l7, l8, l9] S P))) := zq_callV (B := [.int x, .int y]) (zd_of zb_L_law dL_law_786) zo_L_law (by decide) zl_15_105 zn_104 rfl rfl rfl
theorem E_L_law_789 : AW X d 139 789 [l0, l1, l2, l3, l4, l5, l6, l7, l8, l9] (.int x :: S) st P = AW X d 139 791 [l0, l1, l2, l3, l4, l5, l6, .int x, l8, l9] S st P := zAW_st (zd_of zb_L_law dL_law_789) rfl rfl
theorem E_L_law_791 : AW X d 139 791 [l0, l1, .ref a, l3, l4, l5, l6, l7, l8, l9] S st P = AW X d 139 792 [l0, l1, .ref a, l3, l4, l5, l6, l7, l8, l9] (.ref a :: S) st P := zAW_st (zd_of zb_L_law dL_law_791) rfl rfl
theorem E_L_law_791n : AW X d 139 791 [l0, l1, .null, l3, l4, l5, l6, l7, l8, l9] S st P = AW X d 139 792 [l0, l1, .null, l3, l4, l5, l6, l7, l8, l9] (.null :: S) st P := zAW_st (zd_of zb_L_law dL_law_791) rfl rfl
theorem E_L_law_792 : AW X d 139 792 [l0, l1, l2, l3, l4, l5, l6, l7, l8, l9] (.ref a :: S) st P = zif (zis st a 7 = true) (zif (S.length ≤ 4) (AC X d 73 [.ref a] st (zaft X d 139 792 [l0, l1, l2, l3, l4, l5, l6, l7, l8, l9] S P))) := zq_callV (B := []) (zd_of zb_L_law dL_law_792) zo_L_law (by decide) zl_15_69 zn_73 rfl rfl rfl
theorem E_L_law_795 : AW X d 139 795 [l0, l1, l2, l3, l4, l5, .int x, l7, l8, l9] S st P = AW X d 139 797 [l0, l1, l2, l3, l4, l5, .int x, l7, l8, l9] (.int x :: S) st P := zAW_st (zd_of zb_L_law dL_law_795) rfl rfl
theorem E_L_law_797 : AW X d 139 797 [l0, l1, l2, l3, l4, l5, l6, l7, l8, l9] (.int y :: .int x :: S) st P = if x = y then AW X d 139 802 [l0, l1, l2, l3, l4, l5, l6, l7, l8, l9] S st P else AW X d 139 800 [l0, l1, l2, l3, l4, l5, l6, l7, l8, l9] S st P := zq_icmp (c := x = y) (zd_of zb_L_law dL_law_797) (by decide) rfl
theorem E_L_law_800 : AW X d 139 800 [l0, l1, l2, l3, l4, l5, l6, l7, l8, l9] S st P = AW X d 139 801 [l0, l1, l2, l3, l4, l5, l6, l7, l8, l9] (.int 0 :: S) st P := zq_iconst (zd_of zb_L_law dL_law_800) (by decide)
theorem E_L_law_801 : AW X d 139 801 [l0, l1, l2, l3, l4, l5, l6, l7, l8, l9] ([.int x]) st P = zif (x &&& 1 = x) (P (.inl (some (.int x))) st) := by
  by_cases h : x &&& 1 = x
  · rw [zif_of h]; exact zAW_ret (w := (.inl (some (.int x)), st)) (zd_of zb_L_law dL_law_801) rfl rfl (by simp only [zfin, zr_L_law]; rw [if_pos h])
  · rw [zAW_stuck (zd_of zb_L_law dL_law_801) rfl (by simp only [zfin, zr_L_law]; rw [if_neg h]) rfl]; exact propext ⟨fun z => z.elim, fun z => h z.1⟩
theorem E_L_law_802 : AW X d 139 802 [l0, l1, l2, l3, l4, l5, .int x, l7, l8, l9] S st P = AW X d 139 804 [l0, l1, l2, l3, l4, l5, .int x, l7, l8, l9] (.int x :: S) st P := zAW_st (zd_of zb_L_law dL_law_802) rfl rfl
theorem E_L_law_804 : AW X d 139 804 [l0, l1, l2, l3, l4, l5, l6, l7, l8, l9] (.int x :: S) st P = if ¬ x = 0 then AW X d 139 819 [l0, l1, l2, l3, l4, l5, l6, l7, l8, l9] S st P else AW X d 139 807 [l0, l1, l2, l3, l4, l5, l6, l7, l8, l9] S st P := zq_if (c := ¬ x = 0) (zd_of zb_L_law dL_law_804) (by decide) rfl
theorem E_L_law_807 : AW X d 139 807 [l0, l1, l2, .ref a, l4, l5, l6, l7, l8, l9] S st P = AW X d 139 808 [l0, l1, l2, .ref a, l4, l5, l6, l7, l8, l9] (.ref a :: S) st P := zAW_st (zd_of zb_L_law dL_law_807) rfl rfl
theorem E_L_law_807n : AW X d 139 807 [l0, l1, l2, .null, l4, l5, l6, l7, l8, l9] S st P = AW X d 139 808 [l0, l1, l2, .null, l4, l5, l6, l7, l8, l9] (.null :: S) st P := zAW_st (zd_of zb_L_law dL_law_807) rfl rfl
theorem E_L_law_808 : AW X d 139 808 [l0, l1, l2, l3, l4, l5, l6, l7, l8, l9] S st P = AW X d 139 809 [l0, l1, l2, l3, l4, l5, l6, l7, l8, l9] (.int 0 :: S) st P := zq_iconst (zd_of zb_L_law dL_law_808) (by decide)
theorem E_L_law_809 : AW X d 139 809 [l0, l1, l2, l3, l4, l5, l6, l7, l8, l9] (.int x :: .ref a :: S) st P = zwith (zaL st a) fun q => zwith (zix x q.1) fun j => AW X d 139 810 [l0, l1, l2, l3, l4, l5, l6, l7, l8, l9] (.long (q.2 j) :: S) st P := zq_laload (zd_of zb_L_law dL_law_809)
theorem E_L_law_810 : AW X d 139 810 [l0, l1, l2, l3, l4, l5, l6, .int x, l8, l9] S st P = AW X d 139 812 [l0, l1, l2, l3, l4, l5, l6, .int x, l8, l9] (.int x :: S) st P := zAW_st (zd_of zb_L_law dL_law_810) rfl rfl
theorem E_L_law_812 : AW X d 139 812 [l0, l1, l2, l3, l4, l5, l6, l7, l8, l9] (.int x :: S) st P = AW X d 139 813 [l0, l1, l2, l3, l4, l5, l6, l7, l8, l9] (.long x.toInt64 :: S) st P := zAW_st (zd_of zb_L_law dL_law_812) rfl rfl
theorem E_L_law_813 : AW X d 139 813 [l0, l1, l2, l3, l4, l5, l6, l7, l8, l9] (.long q2 :: .long q1 :: S) st P = AW X d 139 814 [l0, l1, l2, l3, l4, l5, l6, l7, l8, l9] (.int (lg_cmp q1 q2) :: S) st P := zAW_st (zd_of zb_L_law dL_law_813) rfl rfl
theorem E_L_law_814 : AW X d 139 814 [l0, l1, l2, l3, l4, l5, l6, l7, l8, l9] (.int x :: S) st P = if x = 0 then AW X d 139 819 [l0, l1, l2, l3, l4, l5, l6, l7, l8, l9] S st P else AW X d 139 817 [l0, l1, l2, l3, l4, l5, l6, l7, l8, l9] S st P := zq_if (c := x = 0) (zd_of zb_L_law dL_law_814) (by decide) rfl
theorem E_L_law_817 : AW X d 139 817 [l0, l1, l2, l3, l4, l5, l6, l7, l8, l9] S st P = AW X d 139 818 [l0, l1, l2, l3, l4, l5, l6, l7, l8, l9] (.int 0 :: S) st P := zq_iconst (zd_of zb_L_law dL_law_817) (by decide)
theorem E_L_law_818 : AW X d 139 818 [l0, l1, l2, l3, l4, l5, l6, l7, l8, l9] ([.int x]) st P = zif (x &&& 1 = x) (P (.inl (some (.int x))) st) := by
  by_cases h : x &&& 1 = x
  · rw [zif_of h]; exact zAW_ret (w := (.inl (some (.int x)), st)) (zd_of zb_L_law dL_law_818) rfl rfl (by simp only [zfin, zr_L_law]; rw [if_pos h])
  · rw [zAW_stuck (zd_of zb_L_law dL_law_818) rfl (by simp only [zfin, zr_L_law]; rw [if_neg h]) rfl]; exact propext ⟨fun z => z.elim, fun z => h z.1⟩
theorem E_L_law_819 : AW X d 139 819 [l0, l1, l2, l3, l4, l5, l6, l7, l8, l9] S st P = AW X d 139 1057 [l0, l1, l2, l3, l4, l5, l6, l7, l8, l9] S st P := zq_goto (zd_of zb_L_law dL_law_819) (by decide)
theorem E_L_law_822 : AW X d 139 822 [l0, .ref a, l2, l3, l4, l5, l6, l7, l8, l9] S st P = AW X d 139 823 [l0, .ref a, l2, l3, l4, l5, l6, l7, l8, l9] (.ref a :: S) st P := zAW_st (zd_of zb_L_law dL_law_822) rfl rfl
theorem E_L_law_822n : AW X d 139 822 [l0, .null, l2, l3, l4, l5, l6, l7, l8, l9] S st P = AW X d 139 823 [l0, .null, l2, l3, l4, l5, l6, l7, l8, l9] (.null :: S) st P := zAW_st (zd_of zb_L_law dL_law_822) rfl rfl
theorem E_L_law_823 : AW X d 139 823 [.ref a, l1, l2, l3, l4, l5, l6, l7, l8, l9] S st P = AW X d 139 824 [.ref a, l1, l2, l3, l4, l5, l6, l7, l8, l9] (.ref a :: S) st P := zAW_st (zd_of zb_L_law dL_law_823) rfl rfl
theorem E_L_law_823n : AW X d 139 823 [.null, l1, l2, l3, l4, l5, l6, l7, l8, l9] S st P = AW X d 139 824 [.null, l1, l2, l3, l4, l5, l6, l7, l8, l9] (.null :: S) st P := zAW_st (zd_of zb_L_law dL_law_823) rfl rfl
theorem E_L_law_824 : AW X d 139 824 [l0, l1, l2, l3, l4, .int x, l6, l7, l8, l9] S st P = AW X d 139 826 [l0, l1, l2, l3, l4, .int x, l6, l7, l8, l9] (.int x :: S) st P := zAW_st (zd_of zb_L_law dL_law_824) rfl rfl
theorem E_L_law_826 : AW X d 139 826 [l0, l1, l2, l3, l4, l5, l6, l7, l8, l9] S st P = AW X d 139 827 [l0, l1, l2, l3, l4, l5, l6, l7, l8, l9] (.int 1 :: S) st P := zq_iconst (zd_of zb_L_law dL_law_826) (by decide)
theorem E_L_law_827 : AW X d 139 827 [l0, l1, l2, l3, l4, l5, l6, l7, l8, l9] (.int y :: .int x :: S) st P = AW X d 139 828 [l0, l1, l2, l3, l4, l5, l6, l7, l8, l9] (.int (x + y) :: S) st P := zAW_st (zd_of zb_L_law dL_law_827) rfl rfl
theorem E_L_law_828 : AW X d 139 828 [l0, l1, l2, l3, l4, l5, l6, l7, l8, l9] (.int x :: .ref a :: S) st P = zwith (zai X st a) fun q => zwith (zix x q.1) fun j => AW X d 139 829 [l0, l1, l2, l3, l4, l5, l6, l7, l8, l9] (.int (q.2 j) :: S) st P := zq_iaload (zd_of zb_L_law dL_law_828)
theorem E_L_law_829 : AW X d 139 829 [.ref a, l1, l2, l3, l4, l5, l6, l7, l8, l9] S st P = AW X d 139 830 [.ref a, l1, l2, l3, l4, l5, l6, l7, l8, l9] (.ref a :: S) st P := zAW_st (zd_of zb_L_law dL_law_829) rfl rfl
theorem E_L_law_829n : AW X d 139 829 [.null, l1, l2, l3, l4, l5, l6, l7, l8, l9] S st P = AW X d 139 830 [.null, l1, l2, l3, l4, l5, l6, l7, l8, l9] (.null :: S) st P := zAW_st (zd_of zb_L_law dL_law_829) rfl rfl
theorem E_L_law_830 : AW X d 139 830 [l0, l1, l2, l3, l4, .int x, l6, l7, l8, l9] S st P = AW X d 139 832 [l0, l1, l2, l3, l4, .int x, l6, l7, l8, l9] (.int x :: S) st P := zAW_st (zd_of zb_L_law dL_law_830) rfl rfl
theorem E_L_law_832 : AW X d 139 832 [l0, l1, l2, l3, l4, l5, l6, l7, l8, l9] S st P = AW X d 139 833 [l0, l1, l2, l3, l4, l5, l6, l7, l8, l9] (.int 2 :: S) st P := zq_iconst (zd_of zb_L_law dL_law_832) (by decide)
theorem E_L_law_833 : AW X d 139 833 [l0, l1, l2, l3, l4, l5, l6, l7, l8, l9] (.int y :: .int x :: S) st P = AW X d 139 834 [l0, l1, l2, l3, l4, l5, l6, l7, l8, l9] (.int (x + y) :: S) st P := zAW_st (zd_of zb_L_law dL_law_833) rfl rfl
theorem E_L_law_834 : AW X d 139 834 [l0, l1, l2, l3, l4, l5, l6, l7, l8, l9] (.int x :: .ref a :: S) st P = zwith (zai X st a) fun q => zwith (zix x q.1) fun j => AW X d 139 835 [l0, l1, l2, l3, l4, l5, l6, l7, l8, l9] (.int (q.2 j) :: S) st P := zq_iaload (zd_of zb_L_law dL_law_834)
theorem E_L_law_835 : AW X d 139 835 [.ref a, l1, l2, l3, l4, l5, l6, l7, l8, l9] S st P = AW X d 139 836 [.ref a, l1, l2, l3, l4, l5, l6, l7, l8, l9] (.ref a :: S) st P := zAW_st (zd_of zb_L_law dL_law_835) rfl rfl
theorem E_L_law_835n : AW X d 139 835 [.null, l1, l2, l3, l4, l5, l6, l7, l8, l9] S st P = AW X d 139 836 [.null, l1, l2, l3, l4, l5, l6, l7, l8, l9] (.null :: S) st P := zAW_st (zd_of zb_L_law dL_law_835) rfl rfl
theorem E_L_law_836 : AW X d 139 836 [l0, l1, l2, l3, l4, .int x, l6, l7, l8, l9] S st P = AW X d 139 838 [l0, l1, l2, l3, l4, .int x, l6, l7, l8, l9] (.int x :: S) st P := zAW_st (zd_of zb_L_law dL_law_836) rfl rfl
theorem E_L_law_838 : AW X d 139 838 [l0, l1, l2, l3, l4, l5, l6, l7, l8, l9] S st P = AW X d 139 839 [l0, l1, l2, l3, l4, l5, l6, l7, l8, l9] (.int 3 :: S) st P := zq_iconst (zd_of zb_L_law dL_law_838) (by decide)
theorem E_L_law_839 : AW X d 139 839 [l0, l1, l2, l3, l4, l5, l6, l7, l8, l9] (.int y :: .int x :: S) st P = AW X d 139 840 [l0, l1, l2, l3, l4, l5, l6, l7, l8, l9] (.int (x + y) :: S) st P := zAW_st (zd_of zb_L_law dL_law_839) rfl rfl
theorem E_L_law_840 : AW X d 139 840 [l0, l1, l2, l3, l4, l5, l6, l7, l8, l9] (.int x :: .ref a :: S) st P = zwith (zai X st a) fun q => zwith (zix x q.1) fun j => AW X d 139 841 [l0, l1, l2, l3, l4, l5, l6, l7, l8, l9] (.int (q.2 j) :: S) st P := zq_iaload (zd_of zb_L_law dL_law_840)
theorem E_L_law_841 : AW X d 139 841 [l0, l1, l2, .ref a, l4, l5, l6, l7, l8, l9] S st P = AW X d 139 842 [l0, l1, l2, .ref a, l4, l5, l6, l7, l8, l9] (.ref a :: S) st P := zAW_st (zd_of zb_L_law dL_law_841) rfl rfl
theorem E_L_law_841n : AW X d 139 841 [l0, l1, l2, .null, l4, l5, l6, l7, l8, l9] S st P = AW X d 139 842 [l0, l1, l2, .null, l4, l5, l6, l7, l8, l9] (.null :: S) st P := zAW_st (zd_of zb_L_law dL_law_841) rfl rfl
theorem E_L_law_842 : AW X d 139 842 [l0, l1, l2, l3, l4, l5, l6, l7, l8, l9] (v2 :: .int x3 :: .int y :: .int x :: v1 :: S) st P = zif (S.length ≤ 4) (AC X d 137 [v1, .int x, .int y, .int x3, v2] st (zaft X d 139 842 [l0, l1, l2, l3, l4, l5, l6, l7, l8, l9] S P)) := zq_callS (B := [v1, .int x, .int y, .int x3, v2]) (S2 := S) (zd_of zb_L_law dL_law_842) zo_L_law (by decide) (by decide) (by decide) zl_15_106 zn_137 (by simp only [List.length_cons]; omega) rfl rfl
theorem E_L_law_845 : AW X d 139 845 [l0, l1, l2, l3, l4, l5, l6, l7, l8, l9] (.int x :: S) st P = AW X d 139 847 [l0, l1, l2, l3, l4, l5, .int x, l7, l8, l9] S st P := zAW_st (zd_of zb_L_law dL_law_845) rfl rfl
theorem E_L_law_847 : AW X d 139 847 [l0, l1, .ref a, l3, l4, l5, l6, l7, l8, l9] S st P = AW X d 139 848 [l0, l1, .ref a, l3, l4, l5, l6, l7, l8, l9] (.ref a :: S) st P := zAW_st (zd_of zb_L_law dL_law_847) rfl rfl
theorem E_L_law_847n : AW X d 139 847 [l0, l1, .null, l3, l4, l5, l6, l7, l8, l9] S st P = AW X d 139 848 [l0, l1, .null, l3, l4, l5, l6, l7, l8, l9] (.null :: S) st P := zAW_st (zd_of zb_L_law dL_law_847) rfl rfl
theorem E_L_law_848 : AW X d 139 848 [.ref a, l1, l2, l3, l4, l5, l6, l7, l8, l9] S st P = AW X d 139 849 [.ref a, l1, l2, l3, l4, l5, l6, l7, l8, l9] (.ref a :: S) st P := zAW_st (zd_of zb_L_law dL_law_848) rfl rfl
theorem E_L_law_848n : AW X d 139 848 [.null, l1, l2, l3, l4, l5, l6, l7, l8, l9] S st P = AW X d 139 849 [.null, l1, l2, l3, l4, l5, l6, l7, l8, l9] (.null :: S) st P := zAW_st (zd_of zb_L_law dL_law_848) rfl rfl
theorem E_L_law_849 : AW X d 139 849 [l0, l1, l2, l3, l4, .int x, l6, l7, l8, l9] S st P = AW X d 139 851 [l0, l1, l2, l3, l4, .int x, l6, l7, l8, l9] (.int x :: S) st P := zAW_st (zd_of zb_L_law dL_law_849) rfl rfl
theorem E_L_law_851 : AW X d 139 851 [l0, l1, l2, l3, l4, l5, l6, l7, l8, l9] S st P = AW X d 139 852 [l0, l1, l2, l3, l4, l5, l6, l7, l8, l9] (.int 1 :: S) st P := zq_iconst (zd_of zb_L_law dL_law_851) (by decide)
theorem E_L_law_852 : AW X d 139 852 [l0, l1, l2, l3, l4, l5, l6, l7, l8, l9] (.int y :: .int x :: S) st P = AW X d 139 853 [l0, l1, l2, l3, l4, l5, l6, l7, l8, l9] (.int (x + y) :: S) st P := zAW_st (zd_of zb_L_law dL_law_852) rfl rfl
theorem E_L_law_853 : AW X d 139 853 [l0, l1, l2, l3, l4, l5, l6, l7, l8, l9] (.int x :: .ref a :: S) st P = zwith (zai X st a) fun q => zwith (zix x q.1) fun j => AW X d 139 854 [l0, l1, l2, l3, l4, l5, l6, l7, l8, l9] (.int (q.2 j) :: S) st P := zq_iaload (zd_of zb_L_law dL_law_853)
theorem E_L_law_854 : AW X d 139 854 [.ref a, l1, l2, l3, l4, l5, l6, l7, l8, l9] S st P = AW X d 139 855 [.ref a, l1, l2, l3, l4, l5, l6, l7, l8, l9] (.ref a :: S) st P := zAW_st (zd_of zb_L_law dL_law_854) rfl rfl
theorem E_L_law_854n : AW X d 139 854 [.null, l1, l2, l3, l4, l5, l6, l7, l8, l9] S st P = AW X d 139 855 [.null, l1, l2, l3, l4, l5, l6, l7, l8, l9] (.null :: S) st P := zAW_st (zd_of zb_L_law dL_law_854) rfl rfl
theorem E_L_law_855 : AW X d 139 855 [l0, l1, l2, l3, l4, .int x, l6, l7, l8, l9] S st P = AW X d 139 857 [l0, l1, l2, l3, l4, .int x, l6, l7, l8, l9] (.int x :: S) st P := zAW_st (zd_of zb_L_law dL_law_855) rfl rfl
theorem E_L_law_857 : AW X d 139 857 [l0, l1, l2, l3, l4, l5, l6, l7, l8, l9] S st P = AW X d 139 858 [l0, l1, l2, l3, l4, l5, l6, l7, l8, l9] (.int 2 :: S) st P := zq_iconst (zd_of zb_L_law dL_law_857) (by decide)
theorem E_L_law_858 : AW X d 139 858 [l0, l1, l2, l3, l4, l5, l6, l7, l8, l9] (.int y :: .int x :: S) st P = AW X d 139 859 [l0, l1, l2, l3, l4, l5, l6, l7, l8, l9] (.int (x + y) :: S) st P := zAW_st (zd_of zb_L_law dL_law_858) rfl rfl
theorem E_L_law_859 : AW X d 139 859 [l0, l1, l2, l3, l4, l5, l6, l7, l8, l9] (.int x :: .ref a :: S) st P = zwith (zai X st a) fun q => zwith (zix x q.1) fun j => AW X d 139 860 [l0, l1, l2, l3, l4, l5, l6, l7, l8, l9] (.int (q.2 j) :: S) st P := zq_iaload (zd_of zb_L_law dL_law_859)
theorem E_L_law_860 : AW X d 139 860 [.ref a, l1, l2, l3, l4, l5, l6, l7, l8, l9] S st P = AW X d 139 861 [.ref a, l1, l2, l3, l4, l5, l6, l7, l8, l9] (.ref a :: S) st P := zAW_st (zd_of zb_L_law dL_law_860) rfl rfl
theorem E_L_law_860n : AW X d 139 860 [.null, l1, l2, l3, l4, l5, l6, l7, l8, l9] S st P = AW X d 139 861 [.null, l1, l2, l3, l4, l5, l6, l7, l8, l9] (.null :: S) st P := zAW_st (zd_of zb_L_law dL_law_860) rfl rfl
theorem E_L_law_861 : AW X d 139 861 [l0, l1, l2, l3, l4, .int x, l6, l7, l8, l9] S st P = AW X d 139 863 [l0, l1, l2, l3, l4, .int x, l6, l7, l8, l9] (.int x :: S) st P := zAW_st (zd_of zb_L_law dL_law_861) rfl rfl
theorem E_L_law_863 : AW X d 139 863 [l0, l1, l2, l3, l4, l5, l6, l7, l8, l9] S st P = AW X d 139 864 [l0, l1, l2, l3, l4, l5, l6, l7, l8, l9] (.int 3 :: S) st P := zq_iconst (zd_of zb_L_law dL_law_863) (by decide)
theorem E_L_law_864 : AW X d 139 864 [l0, l1, l2, l3, l4, l5, l6, l7, l8, l9] (.int y :: .int x :: S) st P = AW X d 139 865 [l0, l1, l2, l3, l4, l5, l6, l7, l8, l9] (.int (x + y) :: S) st P := zAW_st (zd_of zb_L_law dL_law_864) rfl rfl
theorem E_L_law_865 : AW X d 139 865 [l0, l1, l2, l3, l4, l5, l6, l7, l8, l9] (.int x :: .ref a :: S) st P = zwith (zai X st a) fun q => zwith (zix x q.1) fun j => AW X d 139 866 [l0, l1, l2, l3, l4, l5, l6, l7, l8, l9] (.int (q.2 j) :: S) st P := zq_iaload (zd_of zb_L_law dL_law_865)
theorem E_L_law_866 : AW X d 139 866 [l0, l1, l2, l3, l4, l5, l6, l7, l8, l9] (.int x3 :: .int y :: .int x :: .ref a :: S) st P = zif (zis st a 7 = true) (zif (S.length ≤ 4) (AC X d 105 [.ref a, .int x, .int y, .int x3] st (zaft X d 139 866 [l0, l1, l2, l3, l4, l5, l6, l7, l8, l9] S P))) := zq_callV (B := [.int x, .int y, .int x3]) (zd_of zb_L_law dL_law_866) zo_L_law (by decide) zl_15_108 zn_105 rfl rfl rfl
theorem E_L_law_869 : AW X d 139 869 [l0, l1, l2, l3, l4, l5, l6, l7, l8, l9] (.int x :: S) st P = AW X d 139 871 [l0, l1, l2, l3, l4, l5, l6, .int x, l8, l9] S st P := zAW_st (zd_of zb_L_law dL_law_869) rfl rfl
theorem E_L_law_871 : AW X d 139 871 [l0, l1, .ref a, l3, l4, l5, l6, l7, l8, l9] S st P = AW X d 139 872 [l0, l1, .ref a, l3, l4, l5, l6, l7, l8, l9] (.ref a :: S) st P := zAW_st (zd_of zb_L_law dL_law_871) rfl rfl
theorem E_L_law_871n : AW X d 139 871 [l0, l1, .null, l3, l4, l5, l6, l7, l8, l9] S st P = AW X d 139 872 [l0, l1, .null, l3, l4, l5, l6, l7, l8, l9] (.null :: S) st P := zAW_st (zd_of zb_L_law dL_law_871) rfl rfl
theorem E_L_law_872 : AW X d 139 872 [l0, l1, l2, l3, l4, l5, l6, l7, l8, l9] (.ref a :: S) st P = zif (zis st a 7 = true) (zif (S.length ≤ 4) (AC X d 73 [.ref a] st (zaft X d 139 872 [l0, l1, l2, l3, l4, l5, l6, l7, l8, l9] S P))) := zq_callV (B := []) (zd_of zb_L_law dL_law_872) zo_L_law (by decide) zl_15_69 zn_73 rfl rfl rfl
theorem E_L_law_875 : AW X d 139 875 [l0, l1, l2, l3, l4, l5, .int x, l7, l8, l9] S st P = AW X d 139 877 [l0, l1, l2, l3, l4, l5, .int x, l7, l8, l9] (.int x :: S) st P := zAW_st (zd_of zb_L_law dL_law_875) rfl rfl
theorem E_L_law_877 : AW X d 139 877 [l0, l1, l2, l3, l4, l5, l6, l7, l8, l9] (.int y :: .int x :: S) st P = if x = y then AW X d 139 882 [l0, l1, l2, l3, l4, l5, l6, l7, l8, l9] S st P else AW X d 139 880 [l0, l1, l2, l3, l4, l5, l6, l7, l8, l9] S st P := zq_icmp (c := x = y) (zd_of zb_L_law dL_law_877) (by decide) rfl
theorem E_L_law_880 : AW X d 139 880 [l0, l1, l2, l3, l4, l5, l6, l7, l8, l9] S st P = AW X d 139 881 [l0, l1, l2, l3, l4, l5, l6, l7, l8, l9] (.int 0 :: S) st P := zq_iconst (zd_of zb_L_law dL_law_880) (by decide)
theorem E_L_law_881 : AW X d 139 881 [l0, l1, l2, l3, l4, l5, l6, l7, l8, l9] ([.int x]) st P = zif (x &&& 1 = x) (P (.inl (some (.int x))) st) := by
  by_cases h : x &&& 1 = x
  · rw [zif_of h]; exact zAW_ret (w := (.inl (some (.int x)), st)) (zd_of zb_L_law dL_law_881) rfl rfl (by simp only [zfin, zr_L_law]; rw [if_pos h])
  · rw [zAW_stuck (zd_of zb_L_law dL_law_881) rfl (by simp only [zfin, zr_L_law]; rw [if_neg h]) rfl]; exact propext ⟨fun z => z.elim, fun z => h z.1⟩
theorem E_L_law_882 : AW X d 139 882 [l0, l1, l2, l3, l4, l5, .int x, l7, l8, l9] S st P = AW X d 139 884 [l0, l1, l2, l3, l4, l5, .int x, l7, l8, l9] (.int x :: S) st P := zAW_st (zd_of zb_L_law dL_law_882) rfl rfl
theorem E_L_law_884 : AW X d 139 884 [l0, l1, l2, l3, l4, l5, l6, l7, l8, l9] (.int x :: S) st P = if ¬ x = 0 then AW X d 139 899 [l0, l1, l2, l3, l4, l5, l6, l7, l8, l9] S st P else AW X d 139 887 [l0, l1, l2, l3, l4, l5, l6, l7, l8, l9] S st P := zq_if (c := ¬ x = 0) (zd_of zb_L_law dL_law_884) (by decide) rfl
theorem E_L_law_887 : AW X d 139 887 [l0, l1, l2, .ref a, l4, l5, l6, l7, l8, l9] S st P = AW X d 139 888 [l0, l1, l2, .ref a, l4, l5, l6, l7, l8, l9] (.ref a :: S) st P := zAW_st (zd_of zb_L_law dL_law_887) rfl rfl
theorem E_L_law_887n : AW X d 139 887 [l0, l1, l2, .null, l4, l5, l6, l7, l8, l9] S st P = AW X d 139 888 [l0, l1, l2, .null, l4, l5, l6, l7, l8, l9] (.null :: S) st P := zAW_st (zd_of zb_L_law dL_law_887) rfl rfl
theorem E_L_law_888 : AW X d 139 888 [l0, l1, l2, l3, l4, l5, l6, l7, l8, l9] S st P = AW X d 139 889 [l0, l1, l2, l3, l4, l5, l6, l7, l8, l9] (.int 0 :: S) st P := zq_iconst (zd_of zb_L_law dL_law_888) (by decide)
theorem E_L_law_889 : AW X d 139 889 [l0, l1, l2, l3, l4, l5, l6, l7, l8, l9] (.int x :: .ref a :: S) st P = zwith (zaL st a) fun q => zwith (zix x q.1) fun j => AW X d 139 890 [l0, l1, l2, l3, l4, l5, l6, l7, l8, l9] (.long (q.2 j) :: S) st P := zq_laload (zd_of zb_L_law dL_law_889)
theorem E_L_law_890 : AW X d 139 890 [l0, l1, l2, l3, l4, l5, l6, .int x, l8, l9] S st P = AW X d 139 892 [l0, l1, l2, l3, l4, l5, l6, .int x, l8, l9] (.int x :: S) st P := zAW_st (zd_of zb_L_law dL_law_890) rfl rfl
theorem E_L_law_892 : AW X d 139 892 [l0, l1, l2, l3, l4, l5, l6, l7, l8, l9] (.int x :: S) st P = AW X d 139 893 [l0, l1, l2, l3, l4, l5, l6, l7, l8, l9] (.long x.toInt64 :: S) st P := zAW_st (zd_of zb_L_law dL_law_892) rfl rfl
theorem E_L_law_893 : AW X d 139 893 [l0, l1, l2, l3, l4, l5, l6, l7, l8, l9] (.long q2 :: .long q1 :: S) st P = AW X d 139 894 [l0, l1, l2, l3, l4, l5, l6, l7, l8, l9] (.int (lg_cmp q1 q2) :: S) st P := zAW_st (zd_of zb_L_law dL_law_893) rfl rfl
theorem E_L_law_894 : AW X d 139 894 [l0, l1, l2, l3, l4, l5, l6, l7, l8, l9] (.int x :: S) st P = if x = 0 then AW X d 139 899 [l0, l1, l2, l3, l4, l5, l6, l7, l8, l9] S st P else AW X d 139 897 [l0, l1, l2, l3, l4, l5, l6, l7, l8, l9] S st P := zq_if (c := x = 0) (zd_of zb_L_law dL_law_894) (by decide) rfl
theorem E_L_law_897 : AW X d 139 897 [l0, l1, l2, l3, l4, l5, l6, l7, l8, l9] S st P = AW X d 139 898 [l0, l1, l2, l3, l4, l5, l6, l7, l8, l9] (.int 0 :: S) st P := zq_iconst (zd_of zb_L_law dL_law_897) (by decide)
theorem E_L_law_898 : AW X d 139 898 [l0, l1, l2, l3, l4, l5, l6, l7, l8, l9] ([.int x]) st P = zif (x &&& 1 = x) (P (.inl (some (.int x))) st) := by
  by_cases h : x &&& 1 = x
  · rw [zif_of h]; exact zAW_ret (w := (.inl (some (.int x)), st)) (zd_of zb_L_law dL_law_898) rfl rfl (by simp only [zfin, zr_L_law]; rw [if_pos h])
  · rw [zAW_stuck (zd_of zb_L_law dL_law_898) rfl (by simp only [zfin, zr_L_law]; rw [if_neg h]) rfl]; exact propext ⟨fun z => z.elim, fun z => h z.1⟩
theorem E_L_law_899 : AW X d 139 899 [l0, l1, l2, l3, l4, l5, l6, l7, l8, l9] S st P = AW X d 139 1057 [l0, l1, l2, l3, l4, l5, l6, l7, l8, l9] S st P := zq_goto (zd_of zb_L_law dL_law_899) (by decide)
theorem E_L_law_902 : AW X d 139 902 [l0, .ref a, l2, l3, l4, l5, l6, l7, l8, l9] S st P = AW X d 139 903 [l0, .ref a, l2, l3, l4, l5, l6, l7, l8, l9] (.ref a :: S) st P := zAW_st (zd_of zb_L_law dL_law_902) rfl rfl
theorem E_L_law_902n : AW X d 139 902 [l0, .null, l2, l3, l4, l5, l6, l7, l8, l9] S st P = AW X d 139 903 [l0, .null, l2, l3, l4, l5, l6, l7, l8, l9] (.null :: S) st P := zAW_st (zd_of zb_L_law dL_law_902) rfl rfl
theorem E_L_law_903 : AW X d 139 903 [.ref a, l1, l2, l3, l4, l5, l6, l7, l8, l9] S st P = AW X d 139 904 [.ref a, l1, l2, l3, l4, l5, l6, l7, l8, l9] (.ref a :: S) st P := zAW_st (zd_of zb_L_law dL_law_903) rfl rfl
theorem E_L_law_903n : AW X d 139 903 [.null, l1, l2, l3, l4, l5, l6, l7, l8, l9] S st P = AW X d 139 904 [.null, l1, l2, l3, l4, l5, l6, l7, l8, l9] (.null :: S) st P := zAW_st (zd_of zb_L_law dL_law_903) rfl rfl
theorem E_L_law_904 : AW X d 139 904 [l0, l1, l2, l3, l4, .int x, l6, l7, l8, l9] S st P = AW X d 139 906 [l0, l1, l2, l3, l4, .int x, l6, l7, l8, l9] (.int x :: S) st P := zAW_st (zd_of zb_L_law dL_law_904) rfl rfl
theorem E_L_law_906 : AW X d 139 906 [l0, l1, l2, l3, l4, l5, l6, l7, l8, l9] S st P = AW X d 139 907 [l0, l1, l2, l3, l4, l5, l6, l7, l8, l9] (.int 1 :: S) st P := zq_iconst (zd_of zb_L_law dL_law_906) (by decide)
theorem E_L_law_907 : AW X d 139 907 [l0, l1, l2, l3, l4, l5, l6, l7, l8, l9] (.int y :: .int x :: S) st P = AW X d 139 908 [l0, l1, l2, l3, l4, l5, l6, l7, l8, l9] (.int (x + y) :: S) st P := zAW_st (zd_of zb_L_law dL_law_907) rfl rfl
theorem E_L_law_908 : AW X d 139 908 [l0, l1, l2, l3, l4, l5, l6, l7, l8, l9] (.int x :: .ref a :: S) st P = zwith (zai X st a) fun q => zwith (zix x q.1) fun j => AW X d 139 909 [l0, l1, l2, l3, l4, l5, l6, l7, l8, l9] (.int (q.2 j) :: S) st P := zq_iaload (zd_of zb_L_law dL_law_908)
theorem E_L_law_909 : AW X d 139 909 [l0, l1, l2, .ref a, l4, l5, l6, l7, l8, l9] S st P = AW X d 139 910 [l0, l1, l2, .ref a, l4, l5, l6, l7, l8, l9] (.ref a :: S) st P := zAW_st (zd_of zb_L_law dL_law_909) rfl rfl
theorem E_L_law_909n : AW X d 139 909 [l0, l1, l2, .null, l4, l5, l6, l7, l8, l9] S st P = AW X d 139 910 [l0, l1, l2, .null, l4, l5, l6, l7, l8, l9] (.null :: S) st P := zAW_st (zd_of zb_L_law dL_law_909) rfl rfl
theorem E_L_law_910 : AW X d 139 910 [l0, l1, l2, l3, l4, l5, l6, l7, l8, l9] (v2 :: .int x :: v1 :: S) st P = zif (S.length ≤ 4) (AC X d 138 [v1, .int x, v2] st (zaft X d 139 910 [l0, l1, l2, l3, l4, l5, l6, l7, l8, l9] S P)) := zq_callS (B := [v1, .int x, v2]) (S2 := S) (zd_of zb_L_law dL_law_910) zo_L_law (by decide) (by decide) (by decide) zl_15_109 zn_138 (by simp only [List.length_cons]; omega) rfl rfl
theorem E_L_law_913 : AW X d 139 913 [l0, l1, l2, l3, l4, l5, l6, l7, l8, l9] (.int x :: S) st P = AW X d 139 915 [l0, l1, l2, l3, l4, l5, .int x, l7, l8, l9] S st P := zAW_st (zd_of zb_L_law dL_law_913) rfl rfl
theorem E_L_law_915 : AW X d 139 915 [l0, l1, .ref a, l3, l4, l5, l6, l7, l8, l9] S st P = AW X d 139 916 [l0, l1, .ref a, l3, l4, l5, l6, l7, l8, l9] (.ref a :: S) st P := zAW_st (zd_of zb_L_law dL_law_915) rfl rfl
theorem E_L_law_915n : AW X d 139 915 [l0, l1, .null, l3, l4, l5, l6, l7, l8, l9] S st P = AW X d 139 916 [l0, l1, .null, l3, l4, l5, l6, l7, l8, l9] (.null :: S) st P := zAW_st (zd_of zb_L_law dL_law_915) rfl rfl
theorem E_L_law_916 : AW X d 139 916 [.ref a, l1, l2, l3, l4, l5, l6, l7, l8, l9] S st P = AW X d 139 917 [.ref a, l1, l2, l3, l4, l5, l6, l7, l8, l9] (.ref a :: S) st P := zAW_st (zd_of zb_L_law dL_law_916) rfl rfl
theorem E_L_law_916n : AW X d 139 916 [.null, l1, l2, l3, l4, l5, l6, l7, l8, l9] S st P = AW X d 139 917 [.null, l1, l2, l3, l4, l5, l6, l7, l8, l9] (.null :: S) st P := zAW_st (zd_of zb_L_law dL_law_916) rfl rfl
theorem E_L_law_917 : AW X d 139 917 [l0, l1, l2, l3, l4, .int x, l6, l7, l8, l9] S st P = AW X d 139 919 [l0, l1, l2, l3, l4, .int x, l6, l7, l8, l9] (.int x :: S) st P := zAW_st (zd_of zb_L_law dL_law_917) rfl rfl
theorem E_L_law_919 : AW X d 139 919 [l0, l1, l2, l3, l4, l5, l6, l7, l8, l9] S st P = AW X d 139 920 [l0, l1, l2, l3, l4, l5, l6, l7, l8, l9] (.int 1 :: S) st P := zq_iconst (zd_of zb_L_law dL_law_919) (by decide)
theorem E_L_law_920 : AW X d 139 920 [l0, l1, l2, l3, l4, l5, l6, l7, l8, l9] (.int y :: .int x :: S) st P = AW X d 139 921 [l0, l1, l2, l3, l4, l5, l6, l7, l8, l9] (.int (x + y) :: S) st P := zAW_st (zd_of zb_L_law dL_law_920) rfl rfl
theorem E_L_law_921 : AW X d 139 921 [l0, l1, l2, l3, l4, l5, l6, l7, l8, l9] (.int x :: .ref a :: S) st P = zwith (zai X st a) fun q => zwith (zix x q.1) fun j => AW X d 139 922 [l0, l1, l2, l3, l4, l5, l6, l7, l8, l9] (.int (q.2 j) :: S) st P := zq_iaload (zd_of zb_L_law dL_law_921)
theorem E_L_law_922 : AW X d 139 922 [l0, l1, l2, l3, l4, l5, l6, l7, l8, l9] (.int x :: .ref a :: S) st P = zif (zis st a 7 = true) (zif (S.length ≤ 4) (AC X d 106 [.ref a, .int x] st (zaft X d 139 922 [l0, l1, l2, l3, l4, l5, l6, l7, l8, l9] S P))) := zq_callV (B := [.int x]) (zd_of zb_L_law dL_law_922) zo_L_law (by decide) zl_15_111 zn_106 rfl rfl rfl
theorem E_L_law_925 : AW X d 139 925 [l0, l1, l2, l3, l4, l5, l6, l7, l8, l9] (.int x :: S) st P = AW X d 139 927 [l0, l1, l2, l3, l4, l5, l6, .int x, l8, l9] S st P := zAW_st (zd_of zb_L_law dL_law_925) rfl rfl
theorem E_L_law_927 : AW X d 139 927 [l0, l1, .ref a, l3, l4, l5, l6, l7, l8, l9] S st P = AW X d 139 928 [l0, l1, .ref a, l3, l4, l5, l6, l7, l8, l9] (.ref a :: S) st P := zAW_st (zd_of zb_L_law dL_law_927) rfl rfl
theorem E_L_law_927n : AW X d 139 927 [l0, l1, .null, l3, l4, l5, l6, l7, l8, l9] S st P = AW X d 139 928 [l0, l1, .null, l3, l4, l5, l6, l7, l8, l9] (.null :: S) st P := zAW_st (zd_of zb_L_law dL_law_927) rfl rfl
theorem E_L_law_928 : AW X d 139 928 [l0, l1, l2, l3, l4, l5, l6, l7, l8, l9] (.ref a :: S) st P = zif (zis st a 7 = true) (zif (S.length ≤ 4) (AC X d 73 [.ref a] st (zaft X d 139 928 [l0, l1, l2, l3, l4, l5, l6, l7, l8, l9] S P))) := zq_callV (B := []) (zd_of zb_L_law dL_law_928) zo_L_law (by decide) zl_15_69 zn_73 rfl rfl rfl
theorem E_L_law_931 : AW X d 139 931 [l0, l1, l2, l3, l4, l5, .int x, l7, l8, l9] S st P = AW X d 139 933 [l0, l1, l2, l3, l4, l5, .int x, l7, l8, l9] (.int x :: S) st P := zAW_st (zd_of zb_L_law dL_law_931) rfl rfl
theorem E_L_law_933 : AW X d 139 933 [l0, l1, l2, l3, l4, l5, l6, l7, l8, l9] (.int y :: .int x :: S) st P = if x = y then AW X d 139 938 [l0, l1, l2, l3, l4, l5, l6, l7, l8, l9] S st P else AW X d 139 936 [l0, l1, l2, l3, l4, l5, l6, l7, l8, l9] S st P := zq_icmp (c := x = y) (zd_of zb_L_law dL_law_933) (by decide) rfl
theorem E_L_law_936 : AW X d 139 936 [l0, l1, l2, l3, l4, l5, l6, l7, l8, l9] S st P = AW X d 139 937 [l0, l1, l2, l3, l4, l5, l6, l7, l8, l9] (.int 0 :: S) st P := zq_iconst (zd_of zb_L_law dL_law_936) (by decide)
theorem E_L_law_937 : AW X d 139 937 [l0, l1, l2, l3, l4, l5, l6, l7, l8, l9] ([.int x]) st P = zif (x &&& 1 = x) (P (.inl (some (.int x))) st) := by
  by_cases h : x &&& 1 = x
  · rw [zif_of h]; exact zAW_ret (w := (.inl (some (.int x)), st)) (zd_of zb_L_law dL_law_937) rfl rfl (by simp only [zfin, zr_L_law]; rw [if_pos h])
  · rw [zAW_stuck (zd_of zb_L_law dL_law_937) rfl (by simp only [zfin, zr_L_law]; rw [if_neg h]) rfl]; exact propext ⟨fun z => z.elim, fun z => h z.1⟩
theorem E_L_law_938 : AW X d 139 938 [l0, l1, l2, l3, l4, l5, .int x, l7, l8, l9] S st P = AW X d 139 940 [l0, l1, l2, l3, l4, l5, .int x, l7, l8, l9] (.int x :: S) st P := zAW_st (zd_of zb_L_law dL_law_938) rfl rfl
theorem E_L_law_940 : AW X d 139 940 [l0, l1, l2, l3, l4, l5, l6, l7, l8, l9] (.int x :: S) st P = if ¬ x = 0 then AW X d 139 955 [l0, l1, l2, l3, l4, l5, l6, l7, l8, l9] S st P else AW X d 139 943 [l0, l1, l2, l3, l4, l5, l6, l7, l8, l9] S st P := zq_if (c := ¬ x = 0) (zd_of zb_L_law dL_law_940) (by decide) rfl
theorem E_L_law_943 : AW X d 139 943 [l0, l1, l2, .ref a, l4, l5, l6, l7, l8, l9] S st P = AW X d 139 944 [l0, l1, l2, .ref a, l4, l5, l6, l7, l8, l9] (.ref a :: S) st P := zAW_st (zd_of zb_L_law dL_law_943) rfl rfl
theorem E_L_law_943n : AW X d 139 943 [l0, l1, l2, .null, l4, l5, l6, l7, l8, l9] S st P = AW X d 139 944 [l0, l1, l2, .null, l4, l5, l6, l7, l8, l9] (.null :: S) st P := zAW_st (zd_of zb_L_law dL_law_943) rfl rfl
theorem E_L_law_944 : AW X d 139 944 [l0, l1, l2, l3, l4, l5, l6, l7, l8, l9] S st P = AW X d 139 945 [l0, l1, l2, l3, l4, l5, l6, l7, l8, l9] (.int 0 :: S) st P := zq_iconst (zd_of zb_L_law dL_law_944) (by decide)
theorem E_L_law_945 : AW X d 139 945 [l0, l1, l2, l3, l4, l5, l6, l7, l8, l9] (.int x :: .ref a :: S) st P = zwith (zaL st a) fun q => zwith (zix x q.1) fun j => AW X d 139 946 [l0, l1, l2, l3, l4, l5, l6, l7, l8, l9] (.long (q.2 j) :: S) st P := zq_laload (zd_of zb_L_law dL_law_945)
theorem E_L_law_946 : AW X d 139 946 [l0, l1, l2, l3, l4, l5, l6, .int x, l8, l9] S st P = AW X d 139 948 [l0, l1, l2, l3, l4, l5, l6, .int x, l8, l9] (.int x :: S) st P := zAW_st (zd_of zb_L_law dL_law_946) rfl rfl
theorem E_L_law_948 : AW X d 139 948 [l0, l1, l2, l3, l4, l5, l6, l7, l8, l9] (.int x :: S) st P = AW X d 139 949 [l0, l1, l2, l3, l4, l5, l6, l7, l8, l9] (.long x.toInt64 :: S) st P := zAW_st (zd_of zb_L_law dL_law_948) rfl rfl
theorem E_L_law_949 : AW X d 139 949 [l0, l1, l2, l3, l4, l5, l6, l7, l8, l9] (.long q2 :: .long q1 :: S) st P = AW X d 139 950 [l0, l1, l2, l3, l4, l5, l6, l7, l8, l9] (.int (lg_cmp q1 q2) :: S) st P := zAW_st (zd_of zb_L_law dL_law_949) rfl rfl
theorem E_L_law_950 : AW X d 139 950 [l0, l1, l2, l3, l4, l5, l6, l7, l8, l9] (.int x :: S) st P = if x = 0 then AW X d 139 955 [l0, l1, l2, l3, l4, l5, l6, l7, l8, l9] S st P else AW X d 139 953 [l0, l1, l2, l3, l4, l5, l6, l7, l8, l9] S st P := zq_if (c := x = 0) (zd_of zb_L_law dL_law_950) (by decide) rfl
theorem E_L_law_953 : AW X d 139 953 [l0, l1, l2, l3, l4, l5, l6, l7, l8, l9] S st P = AW X d 139 954 [l0, l1, l2, l3, l4, l5, l6, l7, l8, l9] (.int 0 :: S) st P := zq_iconst (zd_of zb_L_law dL_law_953) (by decide)
theorem E_L_law_954 : AW X d 139 954 [l0, l1, l2, l3, l4, l5, l6, l7, l8, l9] ([.int x]) st P = zif (x &&& 1 = x) (P (.inl (some (.int x))) st) := by
  by_cases h : x &&& 1 = x
  · rw [zif_of h]; exact zAW_ret (w := (.inl (some (.int x)), st)) (zd_of zb_L_law dL_law_954) rfl rfl (by simp only [zfin, zr_L_law]; rw [if_pos h])
  · rw [zAW_stuck (zd_of zb_L_law dL_law_954) rfl (by simp only [zfin, zr_L_law]; rw [if_neg h]) rfl]; exact propext ⟨fun z => z.elim, fun z => h z.1⟩
theorem E_L_law_955 : AW X d 139 955 [l0, l1, l2, l3, l4, l5, l6, l7, l8, l9] S st P = AW X d 139 1057 [l0, l1, l2, l3, l4, l5, l6, l7, l8, l9] S st P := zq_goto (zd_of zb_L_law dL_law_955) (by decide)
theorem E_L_law_958 : AW X d 139 958 [l0, .ref a, l2, l3, l4, l5, l6, l7, l8, l9] S st P = AW X d 139 959 [l0, .ref a, l2, l3, l4, l5, l6, l7, l8, l9] (.ref a :: S) st P := zAW_st (zd_of zb_L_law dL_law_958) rfl rfl
theorem E_L_law_958n : AW X d 139 958 [l0, .null, l2, l3, l4, l5, l6, l7, l8, l9] S st P = AW X d 139 959 [l0, .null, l2, l3, l4, l5, l6, l7, l8, l9] (.null :: S) st P := zAW_st (zd_of zb_L_law dL_law_958) rfl rfl
theorem E_L_law_959 : AW X d 139 959 [l0, l1, l2, l3, l4, l5, l6, l7, l8, l9] (.ref a :: S) st P = zif (zis st a 6 = true) (zif (S.length ≤ 4) (AC X d 61 [.ref a] st (zaft X d 139 959 [l0, l1, l2, l3, l4, l5, l6, l7, l8, l9] S P))) := zq_callV (B := []) (zd_of zb_L_law dL_law_959) zo_L_law (by decide) zl_15_112 zn_61 rfl rfl rfl
theorem E_L_law_962 : AW X d 139 962 [l0, l1, .ref a, l3, l4, l5, l6, l7, l8, l9] S st P = AW X d 139 963 [l0, l1, .ref a, l3, l4, l5, l6, l7, l8, l9] (.ref a :: S) st P := zAW_st (zd_of zb_L_law dL_law_962) rfl rfl
theorem E_L_law_962n : AW X d 139 962 [l0, l1, .null, l3, l4, l5, l6, l7, l8, l9] S st P = AW X d 139 963 [l0, l1, .null, l3, l4, l5, l6, l7, l8, l9] (.null :: S) st P := zAW_st (zd_of zb_L_law dL_law_962) rfl rfl
theorem E_L_law_963 : AW X d 139 963 [l0, l1, l2, l3, l4, l5, l6, l7, l8, l9] (.ref a :: S) st P = zif (zis st a 7 = true) (zif (S.length ≤ 4) (AC X d 107 [.ref a] st (zaft X d 139 963 [l0, l1, l2, l3, l4, l5, l6, l7, l8, l9] S P))) := zq_callV (B := []) (zd_of zb_L_law dL_law_963) zo_L_law (by decide) zl_15_115 zn_107 rfl rfl rfl
theorem E_L_law_966 : AW X d 139 966 [l0, l1, l2, l3, l4, l5, l6, l7, l8, l9] (.int y :: .int x :: S) st P = if x = y then AW X d 139 1057 [l0, l1, l2, l3, l4, l5, l6, l7, l8, l9] S st P else AW X d 139 969 [l0, l1, l2, l3, l4, l5, l6, l7, l8, l9] S st P := zq_icmp (c := x = y) (zd_of zb_L_law dL_law_966) (by decide) rfl
theorem E_L_law_969 : AW X d 139 969 [l0, l1, l2, l3, l4, l5, l6, l7, l8, l9] S st P = AW X d 139 970 [l0, l1, l2, l3, l4, l5, l6, l7, l8, l9] (.int 0 :: S) st P := zq_iconst (zd_of zb_L_law dL_law_969) (by decide)
theorem E_L_law_970 : AW X d 139 970 [l0, l1, l2, l3, l4, l5, l6, l7, l8, l9] ([.int x]) st P = zif (x &&& 1 = x) (P (.inl (some (.int x))) st) := by
  by_cases h : x &&& 1 = x
  · rw [zif_of h]; exact zAW_ret (w := (.inl (some (.int x)), st)) (zd_of zb_L_law dL_law_970) rfl rfl (by simp only [zfin, zr_L_law]; rw [if_pos h])
  · rw [zAW_stuck (zd_of zb_L_law dL_law_970) rfl (by simp only [zfin, zr_L_law]; rw [if_neg h]) rfl]; exact propext ⟨fun z => z.elim, fun z => h z.1⟩
theorem E_L_law_971 : AW X d 139 971 [l0, .ref a, l2, l3, l4, l5, l6, l7, l8, l9] S st P = AW X d 139 972 [l0, .ref a, l2, l3, l4, l5, l6, l7, l8, l9] (.ref a :: S) st P := zAW_st (zd_of zb_L_law dL_law_971) rfl rfl
theorem E_L_law_971n : AW X d 139 971 [l0, .null, l2, l3, l4, l5, l6, l7, l8, l9] S st P = AW X d 139 972 [l0, .null, l2, l3, l4, l5, l6, l7, l8, l9] (.null :: S) st P := zAW_st (zd_of zb_L_law dL_law_971) rfl rfl
theorem E_L_law_972 : AW X d 139 972 [l0, l1, l2, l3, l4, l5, l6, l7, l8, l9] (.ref a :: S) st P = zif (zis st a 6 = true) (zif (S.length ≤ 4) (AC X d 62 [.ref a] st (zaft X d 139 972 [l0, l1, l2, l3, l4, l5, l6, l7, l8, l9] S P))) := zq_callV (B := []) (zd_of zb_L_law dL_law_972) zo_L_law (by decide) zl_15_116 zn_62 rfl rfl rfl
theorem E_L_law_975 : AW X d 139 975 [l0, l1, l2, l3, l4, l5, l6, l7, l8, l9] (.float u :: S) st P = zif (zn64 (FP.f2d u) = true) (AW X d 139 976 [l0, l1, l2, l3, l4, l5, l6, l7, l8, l9] (.double (FP.f2d u) :: S) st P) := zq_f2d (zd_of zb_L_law dL_law_975)
theorem E_L_law_976 : AW X d 139 976 [l0, l1, l2, l3, l4, l5, l6, l7, l8, l9] (.double w :: S) st P = AW X d 139 978 [l0, l1, l2, l3, l4, l5, .double w, .retAddr 1, l8, l9] S st P := zAW_st (zd_of zb_L_law dL_law_976) rfl rfl
theorem E_L_law_978 : AW X d 139 978 [l0, l1, .ref a, l3, l4, l5, l6, l7, l8, l9] S st P = AW X d 139 979 [l0, l1, .ref a, l3, l4, l5, l6, l7, l8, l9] (.ref a :: S) st P := zAW_st (zd_of zb_L_law dL_law_978) rfl rfl
theorem E_L_law_978n : AW X d 139 978 [l0, l1, .null, l3, l4, l5, l6, l7, l8, l9] S st P = AW X d 139 979 [l0, l1, .null, l3, l4, l5, l6, l7, l8, l9] (.null :: S) st P := zAW_st (zd_of zb_L_law dL_law_978) rfl rfl
theorem E_L_law_979 : AW X d 139 979 [l0, l1, l2, l3, l4, l5, l6, l7, l8, l9] (.ref a :: S) st P = zif (zis st a 7 = true) (zif (S.length ≤ 4) (AC X d 108 [.ref a] st (zaft X d 139 979 [l0, l1, l2, l3, l4, l5, l6, l7, l8, l9] S P))) := zq_callV (B := []) (zd_of zb_L_law dL_law_979) zo_L_law (by decide) zl_15_120 zn_108 rfl rfl rfl
theorem E_L_law_982 : AW X d 139 982 [l0, l1, l2, l3, l4, l5, l6, l7, l8, l9] (.float u :: S) st P = zif (zn64 (FP.f2d u) = true) (AW X d 139 983 [l0, l1, l2, l3, l4, l5, l6, l7, l8, l9] (.double (FP.f2d u) :: S) st P) := zq_f2d (zd_of zb_L_law dL_law_982)
theorem E_L_law_983 : AW X d 139 983 [l0, l1, l2, l3, l4, l5, l6, l7, l8, l9] (.double w :: S) st P = AW X d 139 985 [l0, l1, l2, l3, l4, l5, l6, l7, .double w, .retAddr 1] S st P := zAW_st (zd_of zb_L_law dL_law_983) rfl rfl
theorem E_L_law_985 : AW X d 139 985 [l0, l1, l2, l3, l4, l5, .double w, .retAddr 1, l8, l9] S st P = AW X d 139 987 [l0, l1, l2, l3, l4, l5, .double w, .retAddr 1, l8, l9] (.double w :: S) st P := zAW_st (zd_of zb_L_law dL_law_985) rfl rfl
theorem E_L_law_987 : AW X d 139 987 [l0, l1, l2, l3, l4, l5, l6, l7, .double w, .retAddr 1] S st P = AW X d 139 989 [l0, l1, l2, l3, l4, l5, l6, l7, .double w, .retAddr 1] (.double w :: S) st P := zAW_st (zd_of zb_L_law dL_law_987) rfl rfl
theorem E_L_law_989 : AW X d 139 989 [l0, l1, l2, l3, l4, l5, l6, l7, l8, l9] (.double w2 :: .double w :: S) st P = AW X d 139 990 [l0, l1, l2, l3, l4, l5, l6, l7, l8, l9] (.int (Op.cmpValue (FP.dcmp w w2) .l) :: S) st P := zAW_st (zd_of zb_L_law dL_law_989) rfl rfl
theorem E_L_law_990 : AW X d 139 990 [l0, l1, l2, l3, l4, l5, l6, l7, l8, l9] (.int x :: S) st P = if x = 0 then AW X d 139 1011 [l0, l1, l2, l3, l4, l5, l6, l7, l8, l9] S st P else AW X d 139 993 [l0, l1, l2, l3, l4, l5, l6, l7, l8, l9] S st P := zq_if (c := x = 0) (zd_of zb_L_law dL_law_990) (by decide) rfl
theorem E_L_law_993 : AW X d 139 993 [l0, l1, l2, l3, l4, l5, .double w, .retAddr 1, l8, l9] S st P = AW X d 139 995 [l0, l1, l2, l3, l4, l5, .double w, .retAddr 1, l8, l9] (.double w :: S) st P := zAW_st (zd_of zb_L_law dL_law_993) rfl rfl
theorem E_L_law_995 : AW X d 139 995 [l0, l1, l2, l3, l4, l5, .double w, .retAddr 1, l8, l9] S st P = AW X d 139 997 [l0, l1, l2, l3, l4, l5, .double w, .retAddr 1, l8, l9] (.double w :: S) st P := zAW_st (zd_of zb_L_law dL_law_995) rfl rfl
theorem E_L_law_997 : AW X d 139 997 [l0, l1, l2, l3, l4, l5, l6, l7, l8, l9] (.double w2 :: .double w :: S) st P = AW X d 139 998 [l0, l1, l2, l3, l4, l5, l6, l7, l8, l9] (.int (Op.cmpValue (FP.dcmp w w2) .l) :: S) st P := zAW_st (zd_of zb_L_law dL_law_997) rfl rfl
theorem E_L_law_998 : AW X d 139 998 [l0, l1, l2, l3, l4, l5, l6, l7, l8, l9] (.int x :: S) st P = if x = 0 then AW X d 139 1009 [l0, l1, l2, l3, l4, l5, l6, l7, l8, l9] S st P else AW X d 139 1001 [l0, l1, l2, l3, l4, l5, l6, l7, l8, l9] S st P := zq_if (c := x = 0) (zd_of zb_L_law dL_law_998) (by decide) rfl
theorem E_L_law_1001 : AW X d 139 1001 [l0, l1, l2, l3, l4, l5, l6, l7, .double w, .retAddr 1] S st P = AW X d 139 1003 [l0, l1, l2, l3, l4, l5, l6, l7, .double w, .retAddr 1] (.double w :: S) st P := zAW_st (zd_of zb_L_law dL_law_1001) rfl rfl
theorem E_L_law_1003 : AW X d 139 1003 [l0, l1, l2, l3, l4, l5, l6, l7, .double w, .retAddr 1] S st P = AW X d 139 1005 [l0, l1, l2, l3, l4, l5, l6, l7, .double w, .retAddr 1] (.double w :: S) st P := zAW_st (zd_of zb_L_law dL_law_1003) rfl rfl
theorem E_L_law_1005 : AW X d 139 1005 [l0, l1, l2, l3, l4, l5, l6, l7, l8, l9] (.double w2 :: .double w :: S) st P = AW X d 139 1006 [l0, l1, l2, l3, l4, l5, l6, l7, l8, l9] (.int (Op.cmpValue (FP.dcmp w w2) .l) :: S) st P := zAW_st (zd_of zb_L_law dL_law_1005) rfl rfl
theorem E_L_law_1006 : AW X d 139 1006 [l0, l1, l2, l3, l4, l5, l6, l7, l8, l9] (.int x :: S) st P = if ¬ x = 0 then AW X d 139 1011 [l0, l1, l2, l3, l4, l5, l6, l7, l8, l9] S st P else AW X d 139 1009 [l0, l1, l2, l3, l4, l5, l6, l7, l8, l9] S st P := zq_if (c := ¬ x = 0) (zd_of zb_L_law dL_law_1006) (by decide) rfl
theorem E_L_law_1009 : AW X d 139 1009 [l0, l1, l2, l3, l4, l5, l6, l7, l8, l9] S st P = AW X d 139 1010 [l0, l1, l2, l3, l4, l5, l6, l7, l8, l9] (.int 0 :: S) st P := zq_iconst (zd_of zb_L_law dL_law_1009) (by decide)
theorem E_L_law_1010 : AW X d 139 1010 [l0, l1, l2, l3, l4, l5, l6, l7, l8, l9] ([.int x]) st P = zif (x &&& 1 = x) (P (.inl (some (.int x))) st) := by
  by_cases h : x &&& 1 = x
  · rw [zif_of h]; exact zAW_ret (w := (.inl (some (.int x)), st)) (zd_of zb_L_law dL_law_1010) rfl rfl (by simp only [zfin, zr_L_law]; rw [if_pos h])
  · rw [zAW_stuck (zd_of zb_L_law dL_law_1010) rfl (by simp only [zfin, zr_L_law]; rw [if_neg h]) rfl]; exact propext ⟨fun z => z.elim, fun z => h z.1⟩
theorem E_L_law_1011 : AW X d 139 1011 [l0, l1, l2, l3, l4, l5, l6, l7, l8, l9] S st P = AW X d 139 1057 [l0, l1, l2, l3, l4, l5, l6, l7, l8, l9] S st P := zq_goto (zd_of zb_L_law dL_law_1011) (by decide)
theorem E_L_law_1014 : AW X d 139 1014 [l0, .ref a, l2, l3, l4, l5, l6, l7, l8, l9] S st P = AW X d 139 1015 [l0, .ref a, l2, l3, l4, l5, l6, l7, l8, l9] (.ref a :: S) st P := zAW_st (zd_of zb_L_law dL_law_1014) rfl rfl
theorem E_L_law_1014n : AW X d 139 1014 [l0, .null, l2, l3, l4, l5, l6, l7, l8, l9] S st P = AW X d 139 1015 [l0, .null, l2, l3, l4, l5, l6, l7, l8, l9] (.null :: S) st P := zAW_st (zd_of zb_L_law dL_law_1014) rfl rfl
theorem E_L_law_1015 : AW X d 139 1015 [l0, l1, l2, l3, l4, l5, l6, l7, l8, l9] (.ref a :: S) st P = zif (zis st a 6 = true) (zif (S.length ≤ 4) (AC X d 63 [.ref a] st (zaft X d 139 1015 [l0, l1, l2, l3, l4, l5, l6, l7, l8, l9] S P))) := zq_callV (B := []) (zd_of zb_L_law dL_law_1015) zo_L_law (by decide) zl_15_121 zn_63 rfl rfl rfl
theorem E_L_law_1018 : AW X d 139 1018 [l0, l1, l2, l3, l4, l5, l6, l7, l8, l9] (.float u :: S) st P = zif (zn64 (FP.f2d u) = true) (AW X d 139 1019 [l0, l1, l2, l3, l4, l5, l6, l7, l8, l9] (.double (FP.f2d u) :: S) st P) := zq_f2d (zd_of zb_L_law dL_law_1018)
theorem E_L_law_1019 : AW X d 139 1019 [l0, l1, l2, l3, l4, l5, l6, l7, l8, l9] (.double w :: S) st P = AW X d 139 1021 [l0, l1, l2, l3, l4, l5, .double w, .retAddr 1, l8, l9] S st P := zAW_st (zd_of zb_L_law dL_law_1019) rfl rfl
theorem E_L_law_1021 : AW X d 139 1021 [l0, l1, .ref a, l3, l4, l5, l6, l7, l8, l9] S st P = AW X d 139 1022 [l0, l1, .ref a, l3, l4, l5, l6, l7, l8, l9] (.ref a :: S) st P := zAW_st (zd_of zb_L_law dL_law_1021) rfl rfl
theorem E_L_law_1021n : AW X d 139 1021 [l0, l1, .null, l3, l4, l5, l6, l7, l8, l9] S st P = AW X d 139 1022 [l0, l1, .null, l3, l4, l5, l6, l7, l8, l9] (.null :: S) st P := zAW_st (zd_of zb_L_law dL_law_1021) rfl rfl
theorem E_L_law_1022 : AW X d 139 1022 [l0, l1, l2, l3, l4, l5, l6, l7, l8, l9] (.ref a :: S) st P = zif (zis st a 7 = true) (zif (S.length ≤ 4) (AC X d 109 [.ref a] st (zaft X d 139 1022 [l0, l1, l2, l3, l4, l5, l6, l7, l8, l9] S P))) := zq_callV (B := []) (zd_of zb_L_law dL_law_1022) zo_L_law (by decide) zl_15_124 zn_109 rfl rfl rfl
theorem E_L_law_1025 : AW X d 139 1025 [l0, l1, l2, l3, l4, l5, l6, l7, l8, l9] (.float u :: S) st P = zif (zn64 (FP.f2d u) = true) (AW X d 139 1026 [l0, l1, l2, l3, l4, l5, l6, l7, l8, l9] (.double (FP.f2d u) :: S) st P) := zq_f2d (zd_of zb_L_law dL_law_1025)
theorem E_L_law_1026 : AW X d 139 1026 [l0, l1, l2, l3, l4, l5, l6, l7, l8, l9] (.double w :: S) st P = AW X d 139 1028 [l0, l1, l2, l3, l4, l5, l6, l7, .double w, .retAddr 1] S st P := zAW_st (zd_of zb_L_law dL_law_1026) rfl rfl
theorem E_L_law_1028 : AW X d 139 1028 [l0, l1, l2, l3, l4, l5, .double w, .retAddr 1, l8, l9] S st P = AW X d 139 1030 [l0, l1, l2, l3, l4, l5, .double w, .retAddr 1, l8, l9] (.double w :: S) st P := zAW_st (zd_of zb_L_law dL_law_1028) rfl rfl
theorem E_L_law_1030 : AW X d 139 1030 [l0, l1, l2, l3, l4, l5, l6, l7, .double w, .retAddr 1] S st P = AW X d 139 1032 [l0, l1, l2, l3, l4, l5, l6, l7, .double w, .retAddr 1] (.double w :: S) st P := zAW_st (zd_of zb_L_law dL_law_1030) rfl rfl
theorem E_L_law_1032 : AW X d 139 1032 [l0, l1, l2, l3, l4, l5, l6, l7, l8, l9] (.double w2 :: .double w :: S) st P = AW X d 139 1033 [l0, l1, l2, l3, l4, l5, l6, l7, l8, l9] (.int (Op.cmpValue (FP.dcmp w w2) .l) :: S) st P := zAW_st (zd_of zb_L_law dL_law_1032) rfl rfl
theorem E_L_law_1033 : AW X d 139 1033 [l0, l1, l2, l3, l4, l5, l6, l7, l8, l9] (.int x :: S) st P = if x = 0 then AW X d 139 1054 [l0, l1, l2, l3, l4, l5, l6, l7, l8, l9] S st P else AW X d 139 1036 [l0, l1, l2, l3, l4, l5, l6, l7, l8, l9] S st P := zq_if (c := x = 0) (zd_of zb_L_law dL_law_1033) (by decide) rfl
theorem E_L_law_1036 : AW X d 139 1036 [l0, l1, l2, l3, l4, l5, .double w, .retAddr 1, l8, l9] S st P = AW X d 139 1038 [l0, l1, l2, l3, l4, l5, .double w, .retAddr 1, l8, l9] (.double w :: S) st P := zAW_st (zd_of zb_L_law dL_law_1036) rfl rfl
theorem E_L_law_1038 : AW X d 139 1038 [l0, l1, l2, l3, l4, l5, .double w, .retAddr 1, l8, l9] S st P = AW X d 139 1040 [l0, l1, l2, l3, l4, l5, .double w, .retAddr 1, l8, l9] (.double w :: S) st P := zAW_st (zd_of zb_L_law dL_law_1038) rfl rfl
theorem E_L_law_1040 : AW X d 139 1040 [l0, l1, l2, l3, l4, l5, l6, l7, l8, l9] (.double w2 :: .double w :: S) st P = AW X d 139 1041 [l0, l1, l2, l3, l4, l5, l6, l7, l8, l9] (.int (Op.cmpValue (FP.dcmp w w2) .l) :: S) st P := zAW_st (zd_of zb_L_law dL_law_1040) rfl rfl
theorem E_L_law_1041 : AW X d 139 1041 [l0, l1, l2, l3, l4, l5, l6, l7, l8, l9] (.int x :: S) st P = if x = 0 then AW X d 139 1052 [l0, l1, l2, l3, l4, l5, l6, l7, l8, l9] S st P else AW X d 139 1044 [l0, l1, l2, l3, l4, l5, l6, l7, l8, l9] S st P := zq_if (c := x = 0) (zd_of zb_L_law dL_law_1041) (by decide) rfl
theorem E_L_law_1044 : AW X d 139 1044 [l0, l1, l2, l3, l4, l5, l6, l7, .double w, .retAddr 1] S st P = AW X d 139 1046 [l0, l1, l2, l3, l4, l5, l6, l7, .double w, .retAddr 1] (.double w :: S) st P := zAW_st (zd_of zb_L_law dL_law_1044) rfl rfl
theorem E_L_law_1046 : AW X d 139 1046 [l0, l1, l2, l3, l4, l5, l6, l7, .double w, .retAddr 1] S st P = AW X d 139 1048 [l0, l1, l2, l3, l4, l5, l6, l7, .double w, .retAddr 1] (.double w :: S) st P := zAW_st (zd_of zb_L_law dL_law_1046) rfl rfl
theorem E_L_law_1048 : AW X d 139 1048 [l0, l1, l2, l3, l4, l5, l6, l7, l8, l9] (.double w2 :: .double w :: S) st P = AW X d 139 1049 [l0, l1, l2, l3, l4, l5, l6, l7, l8, l9] (.int (Op.cmpValue (FP.dcmp w w2) .l) :: S) st P := zAW_st (zd_of zb_L_law dL_law_1048) rfl rfl
theorem E_L_law_1049 : AW X d 139 1049 [l0, l1, l2, l3, l4, l5, l6, l7, l8, l9] (.int x :: S) st P = if ¬ x = 0 then AW X d 139 1054 [l0, l1, l2, l3, l4, l5, l6, l7, l8, l9] S st P else AW X d 139 1052 [l0, l1, l2, l3, l4, l5, l6, l7, l8, l9] S st P := zq_if (c := ¬ x = 0) (zd_of zb_L_law dL_law_1049) (by decide) rfl
theorem E_L_law_1052 : AW X d 139 1052 [l0, l1, l2, l3, l4, l5, l6, l7, l8, l9] S st P = AW X d 139 1053 [l0, l1, l2, l3, l4, l5, l6, l7, l8, l9] (.int 0 :: S) st P := zq_iconst (zd_of zb_L_law dL_law_1052) (by decide)
theorem E_L_law_1053 : AW X d 139 1053 [l0, l1, l2, l3, l4, l5, l6, l7, l8, l9] ([.int x]) st P = zif (x &&& 1 = x) (P (.inl (some (.int x))) st) := by
  by_cases h : x &&& 1 = x
  · rw [zif_of h]; exact zAW_ret (w := (.inl (some (.int x)), st)) (zd_of zb_L_law dL_law_1053) rfl rfl (by simp only [zfin, zr_L_law]; rw [if_pos h])
  · rw [zAW_stuck (zd_of zb_L_law dL_law_1053) rfl (by simp only [zfin, zr_L_law]; rw [if_neg h]) rfl]; exact propext ⟨fun z => z.elim, fun z => h z.1⟩
theorem E_L_law_1054 : AW X d 139 1054 [l0, l1, l2, l3, l4, l5, l6, l7, l8, l9] S st P = AW X d 139 1057 [l0, l1, l2, l3, l4, l5, l6, l7, l8, l9] S st P := zq_goto (zd_of zb_L_law dL_law_1054) (by decide)
theorem E_L_law_1057 : AW X d 139 1057 [l0, l1, l2, l3, l4, .int x, l6, l7, l8, l9] S st P = AW X d 139 1060 [l0, l1, l2, l3, l4, .int (x + 4), l6, l7, l8, l9] S st P := zq_iinc (zd_of zb_L_law dL_law_1057) rfl (by decide)
theorem E_L_law_1060 : AW X d 139 1060 [l0, l1, l2, l3, l4, l5, l6, l7, l8, l9] S st P = AW X d 139 28 [l0, l1, l2, l3, l4, l5, l6, l7, l8, l9] S st P := zq_goto (zd_of zb_L_law dL_law_1060) (by decide)
theorem E_L_law_1063 : AW X d 139 1063 [l0, l1, l2, l3, l4, l5, l6, l7, l8, l9] S st P = AW X d 139 1064 [l0, l1, l2, l3, l4, l5, l6, l7, l8, l9] (.int 1 :: S) st P := zq_iconst (zd_of zb_L_law dL_law_1063) (by decide)
theorem E_L_law_1064 : AW X d 139 1064 [l0, l1, l2, l3, l4, l5, l6, l7, l8, l9] ([.int x]) st P = zif (x &&& 1 = x) (P (.inl (some (.int x))) st) := by
  by_cases h : x &&& 1 = x
  · rw [zif_of h]; exact zAW_ret (w := (.inl (some (.int x)), st)) (zd_of zb_L_law dL_law_1064) rfl rfl (by simp only [zfin, zr_L_law]; rw [if_pos h])
  · rw [zAW_stuck (zd_of zb_L_law dL_law_1064) rfl (by simp only [zfin, zr_L_law]; rw [if_neg h]) rfl]; exact propext ⟨fun z => z.elim, fun z => h z.1⟩
theorem A_L_law (h1 : zc1 v1 = true) : AC X (d + 1) 139 [v1] st P = AW X d 139 0 [v1, .retAddr 0, .retAddr 0, .retAddr 0, .retAddr 0, .retAddr 0, .retAddr 0, .retAddr 0, .retAddr 0, .retAddr 0] [] st P := AC_eq ⟨⟨(show 1 ≤ zml 139 by decide +kernel), by decide +kernel⟩, by simp [zc1_int, zc1_ref, zc1_float, h1]⟩
end ZEQ3
