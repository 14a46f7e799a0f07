theorem dX6_redraw_27 : decode cX6_redraw 27 = .ok (.invokevirtual 78, 3) := by decide +kernel
theorem dX6_redraw_30 : decode cX6_redraw 30 = .ok (.ifCond .eq 5, 3) := by decide +kernel
theorem dX6_redraw_33 : decode cX6_redraw 33 = .ok (.iconst (-1), 1) := by decide +kernel
theorem dX6_redraw_34 : decode cX6_redraw 34 = .ok (.ireturn, 1) := by decide +kernel
theorem dX6_redraw_35 : decode cX6_redraw 35 = .ok (.iconst 0, 1) := by decide +kernel
theorem dX6_redraw_36 : decode cX6_redraw 36 = .ok (.istore_n 2, 1) := by decide +kernel
theorem dX6_redraw_37 : decode cX6_redraw 37 = .ok (.iload_n 2, 1) := by decide +kernel
theorem dX6_redraw_38 : decode cX6_redraw 38 = .ok (.aload_n 0, 1) := by decide +kernel
theorem dX6_redraw_39 : decode cX6_redraw 39 = .ok (.getfield 132, 3) := by decide +kernel
theorem dX6_redraw_42 : decode cX6_redraw 42 = .ok (.if_icmp .ge 97, 3) := by decide +kernel
theorem dX6_redraw_45 : decode cX6_redraw 45 = .ok (.aload_n 0, 1) := by decide +kernel
theorem dX6_redraw_46 : decode cX6_redraw 46 = .ok (.getfield 64, 3) := by decide +kernel
theorem dX6_redraw_49 : decode cX6_redraw 49 = .ok (.iload_n 2, 1) := by decide +kernel
theorem dX6_redraw_50 : decode cX6_redraw 50 = .ok (.iconst 0, 1) := by decide +kernel
theorem dX6_redraw_51 : decode cX6_redraw 51 = .ok (.iastore, 1) := by decide +kernel
theorem dX6_redraw_52 : decode cX6_redraw 52 = .ok (.iconst 0, 1) := by decide +kernel
theorem dX6_redraw_53 : decode cX6_redraw 53 = .ok (.istore_n 3, 1) := by decide +kernel
theorem dX6_redraw_54 : decode cX6_redraw 54 = .ok (.iload_n 3, 1) := by decide +kernel
theorem dX6_redraw_55 : decode cX6_redraw 55 = .ok (.aload_n 0, 1) := by decide +kernel
theorem dX6_redraw_56 : decode cX6_redraw 56 = .ok (.getfield 132, 3) := by decide +kernel
theorem dX6_redraw_59 : decode cX6_redraw 59 = .ok (.if_icmp .ge 74, 3) := by decide +kernel
theorem dX6_redraw_62 : decode cX6_redraw 62 = .ok (.aload_n 0, 1) := by decide +kernel
theorem dX6_redraw_63 : decode cX6_redraw 63 = .ok (.getfield 55, 3) := by decide +kernel
theorem dX6_redraw_66 : decode cX6_redraw 66 = .ok (.iload_n 3, 1) := by decide +kernel
theorem dX6_redraw_67 : decode cX6_redraw 67 = .ok (.iaload, 1) := by decide +kernel
theorem dX6_redraw_68 : decode cX6_redraw 68 = .ok (.iconst 1, 1) := by decide +kernel
theorem dX6_redraw_69 : decode cX6_redraw 69 = .ok (.if_icmp .ne 17, 3) := by decide +kernel
theorem dX6_redraw_72 : decode cX6_redraw 72 = .ok (.aload_n 0, 1) := by decide +kernel
theorem dX6_redraw_73 : decode cX6_redraw 73 = .ok (.getfield 49, 3) := by decide +kernel
theorem dX6_redraw_76 : decode cX6_redraw 76 = .ok (.iload_n 3, 1) := by decide +kernel
theorem dX6_redraw_77 : decode cX6_redraw 77 = .ok (.iaload, 1) := by decide +kernel
theorem dX6_redraw_78 : decode cX6_redraw 78 = .ok (.iload_n 1, 1) := by decide +kernel
theorem dX6_redraw_79 : decode cX6_redraw 79 = .ok (.if_icmp .ne 7, 3) := by decide +kernel
theorem dX6_redraw_82 : decode cX6_redraw 82 = .ok (.iconst 1, 1) := by decide +kernel
theorem dX6_redraw_83 : decode cX6_redraw 83 = .ok (.goto 4, 3) := by decide +kernel
theorem dX6_redraw_86 : decode cX6_redraw 86 = .ok (.iconst 0, 1) := by decide +kernel
theorem dX6_redraw_87 : decode cX6_redraw 87 = .ok (.istore 4, 2) := by decide +kernel
theorem dX6_redraw_89 : decode cX6_redraw 89 = .ok (.aload_n 0, 1) := by decide +kernel
theorem dX6_redraw_90 : decode cX6_redraw 90 = .ok (.getfield 64, 3) := by decide +kernel
theorem dX6_redraw_93 : decode cX6_redraw 93 = .ok (.iload_n 2, 1) := by decide +kernel
theorem dX6_redraw_94 : decode cX6_redraw 94 = .ok (.dup2, 1) := by decide +kernel
theorem dX6_redraw_95 : decode cX6_redraw 95 = .ok (.iaload, 1) := by decide +kernel
theorem dX6_redraw_96 : decode cX6_redraw 96 = .ok (.aload_n 0, 1) := by decide +kernel
theorem dX6_redraw_97 : decode cX6_redraw 97 = .ok (.getfield 55, 3) := by decide +kernel
theorem dX6_redraw_100 : decode cX6_redraw 100 = .ok (.iload_n 2, 1) := by decide +kernel
theorem dX6_redraw_101 : decode cX6_redraw 101 = .ok (.iaload, 1) := by decide +kernel
theorem dX6_redraw_102 : decode cX6_redraw 102 = .ok (.iconst 1, 1) := by decide +kernel
theorem dX6_redraw_103 : decode cX6_redraw 103 = .ok (.if_icmp .ne 21, 3) := by decide +kernel
theorem dX6_redraw_106 : decode cX6_redraw 106 = .ok (.iload 4, 2) := by decide +kernel
theorem dX6_redraw_108 : decode cX6_redraw 108 = .ok (.ifCond .eq 16, 3) := by decide +kernel
theorem dX6_redraw_111 : decode cX6_redraw 111 = .ok (.aload_n 0, 1) := by decide +kernel
theorem dX6_redraw_112 : decode cX6_redraw 112 = .ok (.iload_n 2, 1) := by decide +kernel
theorem dX6_redraw_113 : decode cX6_redraw 113 = .ok (.iload_n 3, 1) := by decide +kernel
theorem dX6_redraw_114 : decode cX6_redraw 114 = .ok (.invokevirtual 151, 3) := by decide +kernel
theorem dX6_redraw_117 : decode cX6_redraw 117 = .ok (.ifCond .eq 7, 3) := by decide +kernel
theorem dX6_redraw_120 : decode cX6_redraw 120 = .ok (.iconst 1, 1) := by decide +kernel
theorem dX6_redraw_121 : decode cX6_redraw 121 = .ok (.goto 4, 3) := by decide +kernel
theorem dX6_redraw_124 : decode cX6_redraw 124 = .ok (.iconst 0, 1) := by decide +kernel
theorem dX6_redraw_125 : decode cX6_redraw 125 = .ok (.ior, 1) := by decide +kernel
theorem dX6_redraw_126 : decode cX6_redraw 126 = .ok (.iastore, 1) := by decide +kernel
theorem dX6_redraw_127 : decode cX6_redraw 127 = .ok (.iinc 3 1, 3) := by decide +kernel
theorem dX6_redraw_130 : decode cX6_redraw 130 = .ok (.goto (-76), 3) := by decide +kernel
theorem dX6_redraw_133 : decode cX6_redraw 133 = .ok (.iinc 2 1, 3) := by decide +kernel
theorem dX6_redraw_136 : decode cX6_redraw 136 = .ok (.goto (-99), 3) := by decide +kernel
theorem dX6_redraw_139 : decode cX6_redraw 139 = .ok (.iconst 0, 1) := by decide +kernel
theorem dX6_redraw_140 : decode cX6_redraw 140 = .ok (.istore_n 2, 1) := by decide +kernel
theorem dX6_redraw_141 : decode cX6_redraw 141 = .ok (.aload_n 0, 1) := by decide +kernel
theorem dX6_redraw_142 : decode cX6_redraw 142 = .ok (.getfield 132, 3) := by decide +kernel
theorem dX6_redraw_145 : decode cX6_redraw 145 = .ok (.iconst 1, 1) := by decide +kernel
theorem dX6_redraw_146 : decode cX6_redraw 146 = .ok (.isub, 1) := by decide +kernel
theorem dX6_redraw_147 : decode cX6_redraw 147 = .ok (.istore_n 3, 1) := by decide +kernel
theorem dX6_redraw_148 : decode cX6_redraw 148 = .ok (.iload_n 3, 1) := by decide +kernel
theorem dX6_redraw_149 : decode cX6_redraw 149 = .ok (.ifCond .lt 33, 3) := by decide +kernel
theorem dX6_redraw_152 : decode cX6_redraw 152 = .ok (.aload_n 0, 1) := by decide +kernel
theorem dX6_redraw_153 : decode cX6_redraw 153 = .ok (.getfield 64, 3) := by decide +kernel
theorem dX6_redraw_156 : decode cX6_redraw 156 = .ok (.iload_n 3, 1) := by decide +kernel
theorem dX6_redraw_157 : decode cX6_redraw 157 = .ok (.iaload, 1) := by decide +kernel
theorem dX6_redraw_158 : decode cX6_redraw 158 = .ok (.iconst 1, 1) := by decide +kernel
theorem dX6_redraw_159 : decode cX6_redraw 159 = .ok (.if_icmp .ne 17, 3) := by decide +kernel
theorem dX6_redraw_162 : decode cX6_redraw 162 = .ok (.aload_n 0, 1) := by decide +kernel
theorem dX6_redraw_163 : decode cX6_redraw 163 = .ok (.iload_n 3, 1) := by decide +kernel
theorem dX6_redraw_164 : decode cX6_redraw 164 = .ok (.aload_n 0, 1) := by decide +kernel
theorem dX6_redraw_165 : decode cX6_redraw 165 = .ok (.getfield 52, 3) := by decide +kernel
theorem dX6_redraw_168 : decode cX6_redraw 168 = .ok (.iload_n 3, 1) := by decide +kernel
theorem dX6_redraw_169 : decode cX6_redraw 169 = .ok (.iaload, 1) := by decide +kernel
theorem dX6_redraw_170 : decode cX6_redraw 170 = .ok (.invokevirtual 141, 3) := by decide +kernel
theorem dX6_redraw_173 : decode cX6_redraw 173 = .ok (.iinc 2 1, 3) := by decide +kernel
theorem dX6_redraw_176 : decode cX6_redraw 176 = .ok (.iinc 3 (-1), 3) := by decide +kernel
theorem dX6_redraw_179 : decode cX6_redraw 179 = .ok (.goto (-31), 3) := by decide +kernel
theorem dX6_redraw_182 : decode cX6_redraw 182 = .ok (.aload_n 0, 1) := by decide +kernel
theorem dX6_redraw_183 : decode cX6_redraw 183 = .ok (.getfield 7, 3) := by decide +kernel
theorem dX6_redraw_186 : decode cX6_redraw 186 = .ok (.iload_n 1, 1) := by decide +kernel
theorem dX6_redraw_187 : decode cX6_redraw 187 = .ok (.iconst 0, 1) := by decide +kernel
theorem dX6_redraw_188 : decode cX6_redraw 188 = .ok (.iastore, 1) := by decide +kernel
theorem dX6_redraw_189 : decode cX6_redraw 189 = .ok (.aload_n 0, 1) := by decide +kernel
theorem dX6_redraw_190 : decode cX6_redraw 190 = .ok (.getfield 13, 3) := by decide +kernel
theorem dX6_redraw_193 : decode cX6_redraw 193 = .ok (.iload_n 1, 1) := by decide +kernel
theorem dX6_redraw_194 : decode cX6_redraw 194 = .ok (.iconst 0, 1) := by decide +kernel
theorem dX6_redraw_195 : decode cX6_redraw 195 = .ok (.iastore, 1) := by decide +kernel
theorem dX6_redraw_196 : decode cX6_redraw 196 = .ok (.aload_n 0, 1) := by decide +kernel
theorem dX6_redraw_197 : decode cX6_redraw 197 = .ok (.getfield 16, 3) := by decide +kernel
theorem dX6_redraw_200 : decode cX6_redraw 200 = .ok (.iload_n 1, 1) := by decide +kernel
theorem dX6_redraw_201 : decode cX6_redraw 201 = .ok (.dup2, 1) := by decide +kernel
theorem dX6_redraw_202 : decode cX6_redraw 202 = .ok (.iaload, 1) := by decide +kernel
theorem dX6_redraw_203 : decode cX6_redraw 203 = .ok (.iconst 1, 1) := by decide +kernel
theorem dX6_redraw_204 : decode cX6_redraw 204 = .ok (.iadd, 1) := by decide +kernel
theorem dX6_redraw_205 : decode cX6_redraw 205 = .ok (.iastore, 1) := by decide +kernel
theorem dX6_redraw_206 : decode cX6_redraw 206 = .ok (.aload_n 0, 1) := by decide +kernel
theorem dX6_redraw_207 : decode cX6_redraw 207 = .ok (.invokevirtual 97, 3) := by decide +kernel
theorem dX6_redraw_210 : decode cX6_redraw 210 = .ok (.iload_n 2, 1) := by decide +kernel
theorem dX6_redraw_211 : decode cX6_redraw 211 = .ok (.ireturn, 1) := by decide +kernel
theorem dX6_touches_0 : decode cX6_touches 0 = .ok (.aload_n 0, 1) := by decide +kernel
theorem dX6_touches_1 : decode cX6_touches 1 = .ok (.getfield 28, 3) := by decide +kernel
theorem dX6_touches_4 : decode cX6_touches 4 = .ok (.iload_n 1, 1) := by decide +kernel
theorem dX6_touches_5 : decode cX6_touches 5 = .ok (.iaload, 1) := by decide +kernel
theorem dX6_touches_6 : decode cX6_touches 6 = .ok (.aload_n 0, 1) := by decide +kernel
theorem dX6_touches_7 : decode cX6_touches 7 = .ok (.getfield 28, 3) := by decide +kernel
theorem dX6_touches_10 : decode cX6_touches 10 = .ok (.iload_n 2, 1) := by decide +kernel
theorem dX6_touches_11 : decode cX6_touches 11 = .ok (.iaload, 1) := by decide +kernel
theorem dX6_touches_12 : decode cX6_touches 12 = .ok (.if_icmp .ne 95, 3) := by decide +kernel
theorem dX6_touches_15 : decode cX6_touches 15 = .ok (.aload_n 0, 1) := by decide +kernel
theorem dX6_touches_16 : decode cX6_touches 16 = .ok (.getfield 31, 3) := by decide +kernel
theorem dX6_touches_19 : decode cX6_touches 19 = .ok (.iload_n 1, 1) := by decide +kernel
theorem dX6_touches_20 : decode cX6_touches 20 = .ok (.iaload, 1) := by decide +kernel
theorem dX6_touches_21 : decode cX6_touches 21 = .ok (.aload_n 0, 1) := by decide +kernel
theorem dX6_touches_22 : decode cX6_touches 22 = .ok (.getfield 31, 3) := by decide +kernel
theorem dX6_touches_25 : decode cX6_touches 25 = .ok (.iload_n 2, 1) := by decide +kernel
theorem dX6_touches_26 : decode cX6_touches 26 = .ok (.iaload, 1) := by decide +kernel
theorem dX6_touches_27 : decode cX6_touches 27 = .ok (.aload_n 0, 1) := by decide +kernel
theorem dX6_touches_28 : decode cX6_touches 28 = .ok (.getfield 37, 3) := by decide +kernel
theorem dX6_touches_31 : decode cX6_touches 31 = .ok (.iload_n 2, 1) := by decide +kernel
theorem dX6_touches_32 : decode cX6_touches 32 = .ok (.iaload, 1) := by decide +kernel
theorem dX6_touches_33 : decode cX6_touches 33 = .ok (.iadd, 1) := by decide +kernel
theorem dX6_touches_34 : decode cX6_touches 34 = .ok (.if_icmp .gt 73, 3) := by decide +kernel
theorem dX6_touches_37 : decode cX6_touches 37 = .ok (.aload_n 0, 1) := by decide +kernel
theorem dX6_touches_38 : decode cX6_touches 38 = .ok (.getfield 31, 3) := by decide +kernel
theorem dX6_touches_41 : decode cX6_touches 41 = .ok (.iload_n 2, 1) := by decide +kernel
theorem dX6_touches_42 : decode cX6_touches 42 = .ok (.iaload, 1) := by decide +kernel
theorem dX6_touches_43 : decode cX6_touches 43 = .ok (.aload_n 0, 1) := by decide +kernel
theorem dX6_touches_44 : decode cX6_touches 44 = .ok (.getfield 31, 3) := by decide +kernel
theorem dX6_touches_47 : decode cX6_touches 47 = .ok (.iload_n 1, 1) := by decide +kernel
theorem dX6_touches_48 : decode cX6_touches 48 = .ok (.iaload, 1) := by decide +kernel
theorem dX6_touches_49 : decode cX6_touches 49 = .ok (.aload_n 0, 1) := by decide +kernel
theorem dX6_touches_50 : decode cX6_touches 50 = .ok (.getfield 37, 3) := by decide +kernel
theorem dX6_touches_53 : decode cX6_touches 53 = .ok (.iload_n 1, 1) := by decide +kernel
theorem dX6_touches_54 : decode cX6_touches 54 = .ok (.iaload, 1) := by decide +kernel
theorem dX6_touches_55 : decode cX6_touches 55 = .ok (.iadd, 1) := by decide +kernel
theorem dX6_touches_56 : decode cX6_touches 56 = .ok (.if_icmp .gt 51, 3) := by decide +kernel
theorem dX6_touches_59 : decode cX6_touches 59 = .ok (.aload_n 0, 1) := by decide +kernel
theorem dX6_touches_60 : decode cX6_touches 60 = .ok (.getfield 34, 3) := by decide +kernel
theorem dX6_touches_63 : decode cX6_touches 63 = .ok (.iload_n 1, 1) := by decide +kernel
theorem dX6_touches_64 : decode cX6_touches 64 = .ok (.iaload, 1) := by decide +kernel
theorem dX6_touches_65 : decode cX6_touches 65 = .ok (.aload_n 0, 1) := by decide +kernel
theorem dX6_touches_66 : decode cX6_touches 66 = .ok (.getfield 34, 3) := by decide +kernel
theorem dX6_touches_69 : decode cX6_touches 69 = .ok (.iload_n 2, 1) := by decide +kernel
theorem dX6_touches_70 : decode cX6_touches 70 = .ok (.iaload, 1) := by decide +kernel
theorem dX6_touches_71 : decode cX6_touches 71 = .ok (.aload_n 0, 1) := by decide +kernel
theorem dX6_touches_72 : decode cX6_touches 72 = .ok (.getfield 40, 3) := by decide +kernel
theorem dX6_touches_75 : decode cX6_touches 75 = .ok (.iload_n 2, 1) := by decide +kernel
theorem dX6_touches_76 : decode cX6_touches 76 = .ok (.iaload, 1) := by decide +kernel
theorem dX6_touches_77 : decode cX6_touches 77 = .ok (.iadd, 1) := by decide +kernel
theorem dX6_touches_78 : decode cX6_touches 78 = .ok (.if_icmp .gt 29, 3) := by decide +kernel
theorem dX6_touches_81 : decode cX6_touches 81 = .ok (.aload_n 0, 1) := by decide +kernel
theorem dX6_touches_82 : decode cX6_touches 82 = .ok (.getfield 34, 3) := by decide +kernel
theorem dX6_touches_85 : decode cX6_touches 85 = .ok (.iload_n 2, 1) := by decide +kernel
theorem dX6_touches_86 : decode cX6_touches 86 = .ok (.iaload, 1) := by decide +kernel
theorem dX6_touches_87 : decode cX6_touches 87 = .ok (.aload_n 0, 1) := by decide +kernel
theorem dX6_touches_88 : decode cX6_touches 88 = .ok (.getfield 34, 3) := by decide +kernel
theorem dX6_touches_91 : decode cX6_touches 91 = .ok (.iload_n 1, 1) := by decide +kernel
theorem dX6_touches_92 : decode cX6_touches 92 = .ok (.iaload, 1) := by decide +kernel
theorem dX6_touches_93 : decode cX6_touches 93 = .ok (.aload_n 0, 1) := by decide +kernel
theorem dX6_touches_94 : decode cX6_touches 94 = .ok (.getfield 40, 3) := by decide +kernel
theorem dX6_touches_97 : decode cX6_touches 97 = .ok (.iload_n 1, 1) := by decide +kernel
theorem dX6_touches_98 : decode cX6_touches 98 = .ok (.iaload, 1) := by decide +kernel
theorem dX6_touches_99 : decode cX6_touches 99 = .ok (.iadd, 1) := by decide +kernel
theorem dX6_touches_100 : decode cX6_touches 100 = .ok (.if_icmp .gt 7, 3) := by decide +kernel
theorem dX6_touches_103 : decode cX6_touches 103 = .ok (.iconst 1, 1) := by decide +kernel
theorem dX6_touches_104 : decode cX6_touches 104 = .ok (.goto 4, 3) := by decide +kernel
theorem dX6_touches_107 : decode cX6_touches 107 = .ok (.iconst 0, 1) := by decide +kernel
theorem dX6_touches_108 : decode cX6_touches 108 = .ok (.ireturn, 1) := by decide +kernel
theorem dX6_cut_0 : decode cX6_cut 0 = .ok (.aload_n 0, 1) := by decide +kernel
theorem dX6_cut_1 : decode cX6_cut 1 = .ok (.aload_n 0, 1) := by decide +kernel
theorem dX6_cut_2 : decode cX6_cut 2 = .ok (.iload_n 1, 1) := by decide +kernel
theorem dX6_cut_3 : decode cX6_cut 3 = .ok (.invokevirtual 148, 3) := by decide +kernel
theorem dX6_cut_6 : decode cX6_cut 6 = .ok (.ifCond .ne 7, 3) := by decide +kernel
theorem dX6_cut_9 : decode cX6_cut 9 = .ok (.iconst 1, 1) := by decide +kernel
theorem dX6_cut_10 : decode cX6_cut 10 = .ok (.goto 18, 3) := by decide +kernel
theorem dX6_cut_13 : decode cX6_cut 13 = .ok (.aload_n 0, 1) := by decide +kernel
theorem dX6_cut_14 : decode cX6_cut 14 = .ok (.getfield 55, 3) := by decide +kernel
theorem dX6_cut_17 : decode cX6_cut 17 = .ok (.iload_n 1, 1) := by decide +kernel
theorem dX6_cut_18 : decode cX6_cut 18 = .ok (.iaload, 1) := by decide +kernel
theorem dX6_cut_19 : decode cX6_cut 19 = .ok (.iconst 1, 1) := by decide +kernel
theorem dX6_cut_20 : decode cX6_cut 20 = .ok (.if_icmp .eq 7, 3) := by decide +kernel
theorem dX6_cut_23 : decode cX6_cut 23 = .ok (.iconst 2, 1) := by decide +kernel
theorem dX6_cut_24 : decode cX6_cut 24 = .ok (.goto 4, 3) := by decide +kernel
theorem dX6_cut_27 : decode cX6_cut 27 = .ok (.iconst 0, 1) := by decide +kernel
theorem dX6_cut_28 : decode cX6_cut 28 = .ok (.invokevirtual 78, 3) := by decide +kernel
theorem dX6_cut_31 : decode cX6_cut 31 = .ok (.ifCond .eq 5, 3) := by decide +kernel
theorem dX6_cut_34 : decode cX6_cut 34 = .ok (.iconst (-1), 1) := by decide +kernel
theorem dX6_cut_35 : decode cX6_cut 35 = .ok (.ireturn, 1) := by decide +kernel
theorem dX6_cut_36 : decode cX6_cut 36 = .ok (.aload_n 0, 1) := by decide +kernel
theorem dX6_cut_37 : decode cX6_cut 37 = .ok (.aload_n 0, 1) := by decide +kernel
theorem dX6_cut_38 : decode cX6_cut 38 = .ok (.getfield 49, 3) := by decide +kernel
theorem dX6_cut_41 : decode cX6_cut 41 = .ok (.iload_n 1, 1) := by decide +kernel
theorem dX6_cut_42 : decode cX6_cut 42 = .ok (.iaload, 1) := by decide +kernel
theorem dX6_cut_43 : decode cX6_cut 43 = .ok (.invokevirtual 111, 3) := by decide +kernel
theorem dX6_cut_46 : decode cX6_cut 46 = .ok (.fstore_n 2, 1) := by decide +kernel
theorem dX6_cut_47 : decode cX6_cut 47 = .ok (.iconst 0, 1) := by decide +kernel
theorem dX6_cut_48 : decode cX6_cut 48 = .ok (.istore_n 3, 1) := by decide +kernel
theorem dX6_cut_49 : decode cX6_cut 49 = .ok (.iconst 0, 1) := by decide +kernel
theorem dX6_cut_50 : decode cX6_cut 50 = .ok (.istore 4, 2) := by decide +kernel
theorem dX6_cut_52 : decode cX6_cut 52 = .ok (.iload 4, 2) := by decide +kernel
theorem dX6_cut_54 : decode cX6_cut 54 = .ok (.aload_n 0, 1) := by decide +kernel
theorem dX6_cut_55 : decode cX6_cut 55 = .ok (.getfield 52, 3) := by decide +kernel
theorem dX6_cut_58 : decode cX6_cut 58 = .ok (.iload_n 1, 1) := by decide +kernel
theorem dX6_cut_59 : decode cX6_cut 59 = .ok (.iaload, 1) := by decide +kernel
theorem dX6_cut_60 : decode cX6_cut 60 = .ok (.if_icmp .ge 92, 3) := by decide +kernel
theorem dX6_cut_63 : decode cX6_cut 63 = .ok (.iconst 0, 1) := by decide +kernel
theorem dX6_cut_64 : decode cX6_cut 64 = .ok (.istore 5, 2) := by decide +kernel
theorem dX6_cut_66 : decode cX6_cut 66 = .ok (.iconst 0, 1) := by decide +kernel
theorem dX6_cut_67 : decode cX6_cut 67 = .ok (.istore 6, 2) := by decide +kernel
theorem dX6_cut_69 : decode cX6_cut 69 = .ok (.iload 6, 2) := by decide +kernel
theorem dX6_cut_71 : decode cX6_cut 71 = .ok (.iload 4, 2) := by decide +kernel
theorem dX6_cut_73 : decode cX6_cut 73 = .ok (.if_icmp .ge 42, 3) := by decide +kernel
theorem dX6_cut_76 : decode cX6_cut 76 = .ok (.iload 5, 2) := by decide +kernel
theorem dX6_cut_78 : decode cX6_cut 78 = .ok (.aload_n 0, 1) := by decide +kernel
theorem dX6_cut_79 : decode cX6_cut 79 = .ok (.aload_n 0, 1) := by decide +kernel
theorem dX6_cut_80 : decode cX6_cut 80 = .ok (.getfield 61, 3) := by decide +kernel
theorem dX6_cut_83 : decode cX6_cut 83 = .ok (.bipush 6, 2) := by decide +kernel
theorem dX6_cut_85 : decode cX6_cut 85 = .ok (.iload_n 1, 1) := by decide +kernel
theorem dX6_cut_86 : decode cX6_cut 86 = .ok (.imul, 1) := by decide +kernel
theorem dX6_cut_87 : decode cX6_cut 87 = .ok (.iload 4, 2) := by decide +kernel
theorem dX6_cut_89 : decode cX6_cut 89 = .ok (.iadd, 1) := by decide +kernel
theorem dX6_cut_90 : decode cX6_cut 90 = .ok (.iaload, 1) := by decide +kernel
theorem dX6_cut_91 : decode cX6_cut 91 = .ok (.aload_n 0, 1) := by decide +kernel
theorem dX6_cut_92 : decode cX6_cut 92 = .ok (.getfield 61, 3) := by decide +kernel
theorem dX6_cut_95 : decode cX6_cut 95 = .ok (.bipush 6, 2) := by decide +kernel
theorem dX6_cut_97 : decode cX6_cut 97 = .ok (.iload_n 1, 1) := by decide +kernel
theorem dX6_cut_98 : decode cX6_cut 98 = .ok (.imul, 1) := by decide +kernel
theorem dX6_cut_99 : decode cX6_cut 99 = .ok (.iload 6, 2) := by decide +kernel
theorem dX6_cut_101 : decode cX6_cut 101 = .ok (.iadd, 1) := by decide +kernel
theorem dX6_cut_102 : decode cX6_cut 102 = .ok (.iaload, 1) := by decide +kernel
theorem dX6_cut_103 : decode cX6_cut 103 = .ok (.invokevirtual 154, 3) := by decide +kernel
theorem dX6_cut_106 : decode cX6_cut 106 = .ok (.ior, 1) := by decide +kernel
theorem dX6_cut_107 : decode cX6_cut 107 = .ok (.istore 5, 2) := by decide +kernel
theorem dX6_cut_109 : decode cX6_cut 109 = .ok (.iinc 6 1, 3) := by decide +kernel
theorem dX6_cut_112 : decode cX6_cut 112 = .ok (.goto (-43), 3) := by decide +kernel
theorem dX6_cut_115 : decode cX6_cut 115 = .ok (.iload_n 3, 1) := by decide +kernel
theorem dX6_cut_116 : decode cX6_cut 116 = .ok (.fload_n 2, 1) := by decide +kernel
theorem dX6_cut_117 : decode cX6_cut 117 = .ok (.ldc 157, 2) := by decide +kernel
theorem dX6_cut_119 : decode cX6_cut 119 = .ok (.fdiv, 1) := by decide +kernel
theorem dX6_cut_120 : decode cX6_cut 120 = .ok (.f2i, 1) := by decide +kernel
theorem dX6_cut_121 : decode cX6_cut 121 = .ok (.iconst 1, 1) := by decide +kernel
theorem dX6_cut_122 : decode cX6_cut 122 = .ok (.iadd, 1) := by decide +kernel
theorem dX6_cut_123 : decode cX6_cut 123 = .ok (.iload 5, 2) := by decide +kernel
theorem dX6_cut_125 : decode cX6_cut 125 = .ok (.ifCond .eq 7, 3) := by decide +kernel
theorem dX6_cut_128 : decode cX6_cut 128 = .ok (.iconst 3, 1) := by decide +kernel
theorem dX6_cut_129 : decode cX6_cut 129 = .ok (.goto 4, 3) := by decide +kernel
theorem dX6_cut_132 : decode cX6_cut 132 = .ok (.iconst 0, 1) := by decide +kernel
theorem dX6_cut_133 : decode cX6_cut 133 = .ok (.iadd, 1) := by decide +kernel
theorem dX6_cut_134 : decode cX6_cut 134 = .ok (.iadd, 1) := by decide +kernel
theorem dX6_cut_135 : decode cX6_cut 135 = .ok (.istore_n 3, 1) := by decide +kernel
theorem dX6_cut_136 : decode cX6_cut 136 = .ok (.aload_n 0, 1) := by decide +kernel
theorem dX6_cut_137 : decode cX6_cut 137 = .ok (.dup, 1) := by decide +kernel
theorem dX6_cut_138 : decode cX6_cut 138 = .ok (.getfield 158, 3) := by decide +kernel
theorem dX6_cut_141 : decode cX6_cut 141 = .ok (.fload_n 2, 1) := by decide +kernel
theorem dX6_cut_142 : decode cX6_cut 142 = .ok (.fadd, 1) := by decide +kernel
theorem dX6_cut_143 : decode cX6_cut 143 = .ok (.putfield 158, 3) := by decide +kernel
theorem dX6_cut_146 : decode cX6_cut 146 = .ok (.iinc 4 1, 3) := by decide +kernel
theorem dX6_cut_149 : decode cX6_cut 149 = .ok (.goto (-97), 3) := by decide +kernel
theorem dX6_cut_152 : decode cX6_cut 152 = .ok (.aload_n 0, 1) := by decide +kernel
theorem dX6_cut_153 : decode cX6_cut 153 = .ok (.getfield 55, 3) := by decide +kernel
theorem dX6_cut_156 : decode cX6_cut 156 = .ok (.iload_n 1, 1) := by decide +kernel
theorem dX6_cut_157 : decode cX6_cut 157 = .ok (.iconst 2, 1) := by decide +kernel
theorem dX6_cut_158 : decode cX6_cut 158 = .ok (.iastore, 1) := by decide +kernel
theorem dX6_cut_159 : decode cX6_cut 159 = .ok (.aload_n 0, 1) := by decide +kernel
theorem dX6_cut_160 : decode cX6_cut 160 = .ok (.dup, 1) := by decide +kernel
theorem dX6_cut_161 : decode cX6_cut 161 = .ok (.getfield 162, 3) := by decide +kernel
theorem dX6_cut_164 : decode cX6_cut 164 = .ok (.iload_n 3, 1) := by decide +kernel
theorem dX6_cut_165 : decode cX6_cut 165 = .ok (.iadd, 1) := by decide +kernel
theorem dX6_cut_166 : decode cX6_cut 166 = .ok (.putfield 162, 3) := by decide +kernel
theorem dX6_cut_169 : decode cX6_cut 169 = .ok (.iload_n 3, 1) := by decide +kernel
theorem dX6_cut_170 : decode cX6_cut 170 = .ok (.ireturn, 1) := by decide +kernel
theorem dX6_ofJob_0 : decode cX6_ofJob 0 = .ok (.aload_n 0, 1) := by decide +kernel
theorem dX6_ofJob_1 : decode cX6_ofJob 1 = .ok (.aload_n 0, 1) := by decide +kernel
theorem dX6_ofJob_2 : decode cX6_ofJob 2 = .ok (.iload_n 1, 1) := by decide +kernel
theorem dX6_ofJob_3 : decode cX6_ofJob 3 = .ok (.invokevirtual 148, 3) := by decide +kernel
theorem dX6_ofJob_6 : decode cX6_ofJob 6 = .ok (.ifCond .ne 7, 3) := by decide +kernel
theorem dX6_ofJob_9 : decode cX6_ofJob 9 = .ok (.iconst 1, 1) := by decide +kernel
theorem dX6_ofJob_10 : decode cX6_ofJob 10 = .ok (.goto 18, 3) := by decide +kernel
theorem dX6_ofJob_13 : decode cX6_ofJob 13 = .ok (.aload_n 0, 1) := by decide +kernel
theorem dX6_ofJob_14 : decode cX6_ofJob 14 = .ok (.iload_n 2, 1) := by decide +kernel
theorem dX6_ofJob_15 : decode cX6_ofJob 15 = .ok (.iconst 0, 1) := by decide +kernel
theorem dX6_ofJob_16 : decode cX6_ofJob 16 = .ok (.iconst 3, 1) := by decide +kernel
theorem dX6_ofJob_17 : decode cX6_ofJob 17 = .ok (.invokevirtual 74, 3) := by decide +kernel
theorem dX6_ofJob_20 : decode cX6_ofJob 20 = .ok (.ifCond .eq 7, 3) := by decide +kernel
theorem dX6_ofJob_23 : decode cX6_ofJob 23 = .ok (.iconst 0, 1) := by decide +kernel
theorem dX6_ofJob_24 : decode cX6_ofJob 24 = .ok (.goto 4, 3) := by decide +kernel
theorem dX6_ofJob_27 : decode cX6_ofJob 27 = .ok (.iconst 2, 1) := by decide +kernel
theorem dX6_ofJob_28 : decode cX6_ofJob 28 = .ok (.invokevirtual 78, 3) := by decide +kernel
theorem dX6_ofJob_31 : decode cX6_ofJob 31 = .ok (.ifCond .eq 5, 3) := by decide +kernel
theorem dX6_ofJob_34 : decode cX6_ofJob 34 = .ok (.iconst (-1), 1) := by decide +kernel
theorem dX6_ofJob_35 : decode cX6_ofJob 35 = .ok (.ireturn, 1) := by decide +kernel
theorem dX6_ofJob_36 : decode cX6_ofJob 36 = .ok (.iload_n 2, 1) := by decide +kernel
theorem dX6_ofJob_37 : decode cX6_ofJob 37 = .ok (.tableswitch 48 0 2 #[27, 34, 41], 27) := by decide +kernel
theorem dX6_ofJob_64 : decode cX6_ofJob 64 = .ok (.aload_n 0, 1) := by decide +kernel
theorem dX6_ofJob_65 : decode cX6_ofJob 65 = .ok (.getfield 55, 3) := by decide +kernel
theorem dX6_ofJob_68 : decode cX6_ofJob 68 = .ok (.iload_n 1, 1) := by decide +kernel
theorem dX6_ofJob_69 : decode cX6_ofJob 69 = .ok (.iaload, 1) := by decide +kernel
theorem dX6_ofJob_70 : decode cX6_ofJob 70 = .ok (.ireturn, 1) := by decide +kernel
theorem dX6_ofJob_71 : decode cX6_ofJob 71 = .ok (.aload_n 0, 1) := by decide +kernel
theorem dX6_ofJob_72 : decode cX6_ofJob 72 = .ok (.getfield 49, 3) := by decide +kernel
theorem dX6_ofJob_75 : decode cX6_ofJob 75 = .ok (.iload_n 1, 1) := by decide +kernel
theorem dX6_ofJob_76 : decode cX6_ofJob 76 = .ok (.iaload, 1) := by decide +kernel
theorem dX6_ofJob_77 : decode cX6_ofJob 77 = .ok (.ireturn, 1) := by decide +kernel
theorem dX6_ofJob_78 : decode cX6_ofJob 78 = .ok (.aload_n 0, 1) := by decide +kernel
theorem dX6_ofJob_79 : decode cX6_ofJob 79 = .ok (.getfield 52, 3) := by decide +kernel
theorem dX6_ofJob_82 : decode cX6_ofJob 82 = .ok (.iload_n 1, 1) := by decide +kernel
theorem dX6_ofJob_83 : decode cX6_ofJob 83 = .ok (.iaload, 1) := by decide +kernel
theorem dX6_ofJob_84 : decode cX6_ofJob 84 = .ok (.ireturn, 1) := by decide +kernel
theorem dX6_ofJob_85 : decode cX6_ofJob 85 = .ok (.aload_n 0, 1) := by decide +kernel
theorem dX6_ofJob_86 : decode cX6_ofJob 86 = .ok (.getfield 55, 3) := by decide +kernel
theorem dX6_ofJob_89 : decode cX6_ofJob 89 = .ok (.iload_n 1, 1) := by decide +kernel
theorem dX6_ofJob_90 : decode cX6_ofJob 90 = .ok (.iaload, 1) := by decide +kernel
theorem dX6_ofJob_91 : decode cX6_ofJob 91 = .ok (.iconst 1, 1) := by decide +kernel
theorem dX6_ofJob_92 : decode cX6_ofJob 92 = .ok (.if_icmp .eq 13, 3) := by decide +kernel
theorem dX6_ofJob_95 : decode cX6_ofJob 95 = .ok (.aload_n 0, 1) := by decide +kernel
theorem dX6_ofJob_96 : decode cX6_ofJob 96 = .ok (.getfield 55, 3) := by decide +kernel
theorem dX6_ofJob_99 : decode cX6_ofJob 99 = .ok (.iload_n 1, 1) := by decide +kernel
theorem dX6_ofJob_100 : decode cX6_ofJob 100 = .ok (.iaload, 1) := by decide +kernel
theorem dX6_ofJob_101 : decode cX6_ofJob 101 = .ok (.iconst 2, 1) := by decide +kernel
theorem dX6_ofJob_102 : decode cX6_ofJob 102 = .ok (.if_icmp .ne 12, 3) := by decide +kernel
theorem dX6_ofJob_105 : decode cX6_ofJob 105 = .ok (.aload_n 0, 1) := by decide +kernel
theorem dX6_ofJob_106 : decode cX6_ofJob 106 = .ok (.getfield 58, 3) := by decide +kernel
theorem dX6_ofJob_109 : decode cX6_ofJob 109 = .ok (.iload_n 1, 1) := by decide +kernel
theorem dX6_ofJob_110 : decode cX6_ofJob 110 = .ok (.iaload, 1) := by decide +kernel
theorem dX6_ofJob_111 : decode cX6_ofJob 111 = .ok (.goto 4, 3) := by decide +kernel
theorem dX6_ofJob_114 : decode cX6_ofJob 114 = .ok (.iconst (-1), 1) := by decide +kernel
theorem dX6_ofJob_115 : decode cX6_ofJob 115 = .ok (.ireturn, 1) := by decide +kernel
theorem dX6_where_0 : decode cX6_where 0 = .ok (.aload_n 0, 1) := by decide +kernel
theorem dX6_where_1 : decode cX6_where 1 = .ok (.iload_n 1, 1) := by decide +kernel
theorem dX6_where_2 : decode cX6_where 2 = .ok (.invokevirtual 148, 3) := by decide +kernel
theorem dX6_where_5 : decode cX6_where 5 = .ok (.ifCond .eq 24, 3) := by decide +kernel
theorem dX6_where_8 : decode cX6_where 8 = .ok (.aload_n 0, 1) := by decide +kernel
theorem dX6_where_9 : decode cX6_where 9 = .ok (.iload_n 2, 1) := by decide +kernel
theorem dX6_where_10 : decode cX6_where 10 = .ok (.iconst 0, 1) := by decide +kernel
theorem dX6_where_11 : decode cX6_where 11 = .ok (.aload_n 0, 1) := by decide +kernel
theorem dX6_where_12 : decode cX6_where 12 = .ok (.getfield 52, 3) := by decide +kernel
theorem dX6_where_15 : decode cX6_where 15 = .ok (.iload_n 1, 1) := by decide +kernel
theorem dX6_where_16 : decode cX6_where 16 = .ok (.iaload, 1) := by decide +kernel
theorem dX6_where_17 : decode cX6_where 17 = .ok (.iconst 1, 1) := by decide +kernel
theorem dX6_where_18 : decode cX6_where 18 = .ok (.isub, 1) := by decide +kernel
theorem dX6_where_19 : decode cX6_where 19 = .ok (.invokevirtual 74, 3) := by decide +kernel
theorem dX6_where_22 : decode cX6_where 22 = .ok (.ifCond .eq 7, 3) := by decide +kernel
theorem dX6_where_25 : decode cX6_where 25 = .ok (.iconst 1, 1) := by decide +kernel
theorem dX6_where_26 : decode cX6_where 26 = .ok (.goto 4, 3) := by decide +kernel
theorem dX6_where_29 : decode cX6_where 29 = .ok (.iconst 0, 1) := by decide +kernel
theorem dX6_where_30 : decode cX6_where 30 = .ok (.istore 4, 2) := by decide +kernel
theorem dX6_where_32 : decode cX6_where 32 = .ok (.aload_n 0, 1) := by decide +kernel
theorem dX6_where_33 : decode cX6_where 33 = .ok (.iload 4, 2) := by decide +kernel
theorem dX6_where_35 : decode cX6_where 35 = .ok (.ifCond .ne 7, 3) := by decide +kernel
theorem dX6_where_38 : decode cX6_where 38 = .ok (.iconst 1, 1) := by decide +kernel
theorem dX6_where_39 : decode cX6_where 39 = .ok (.goto 18, 3) := by decide +kernel
theorem dX6_where_42 : decode cX6_where 42 = .ok (.aload_n 0, 1) := by decide +kernel
theorem dX6_where_43 : decode cX6_where 43 = .ok (.iload_n 3, 1) := by decide +kernel
theorem dX6_where_44 : decode cX6_where 44 = .ok (.iconst 0, 1) := by decide +kernel
theorem dX6_where_45 : decode cX6_where 45 = .ok (.iconst 3, 1) := by decide +kernel
theorem dX6_where_46 : decode cX6_where 46 = .ok (.invokevirtual 74, 3) := by decide +kernel
theorem dX6_where_49 : decode cX6_where 49 = .ok (.ifCond .eq 7, 3) := by decide +kernel
theorem dX6_where_52 : decode cX6_where 52 = .ok (.iconst 0, 1) := by decide +kernel
theorem dX6_where_53 : decode cX6_where 53 = .ok (.goto 4, 3) := by decide +kernel
theorem dX6_where_56 : decode cX6_where 56 = .ok (.iconst 2, 1) := by decide +kernel
theorem dX6_where_57 : decode cX6_where 57 = .ok (.invokevirtual 78, 3) := by decide +kernel
theorem dX6_where_60 : decode cX6_where 60 = .ok (.ifCond .eq 5, 3) := by decide +kernel
theorem dX6_where_63 : decode cX6_where 63 = .ok (.iconst (-1), 1) := by decide +kernel
theorem dX6_where_64 : decode cX6_where 64 = .ok (.ireturn, 1) := by decide +kernel
theorem dX6_where_65 : decode cX6_where 65 = .ok (.aload_n 0, 1) := by decide +kernel
theorem dX6_where_66 : decode cX6_where 66 = .ok (.getfield 55, 3) := by decide +kernel
theorem dX6_where_69 : decode cX6_where 69 = .ok (.iload_n 1, 1) := by decide +kernel
theorem dX6_where_70 : decode cX6_where 70 = .ok (.iaload, 1) := by decide +kernel
theorem dX6_where_71 : decode cX6_where 71 = .ok (.iconst 1, 1) := by decide +kernel
theorem dX6_where_72 : decode cX6_where 72 = .ok (.if_icmp .eq 13, 3) := by decide +kernel
theorem dX6_where_75 : decode cX6_where 75 = .ok (.aload_n 0, 1) := by decide +kernel
theorem dX6_where_76 : decode cX6_where 76 = .ok (.getfield 55, 3) := by decide +kernel
theorem dX6_where_79 : decode cX6_where 79 = .ok (.iload_n 1, 1) := by decide +kernel
theorem dX6_where_80 : decode cX6_where 80 = .ok (.iaload, 1) := by decide +kernel
theorem dX6_where_81 : decode cX6_where 81 = .ok (.iconst 2, 1) := by decide +kernel
theorem dX6_where_82 : decode cX6_where 82 = .ok (.if_icmp .ne 17, 3) := by decide +kernel
theorem dX6_where_85 : decode cX6_where 85 = .ok (.aload_n 0, 1) := by decide +kernel
theorem dX6_where_86 : decode cX6_where 86 = .ok (.getfield 61, 3) := by decide +kernel
theorem dX6_where_89 : decode cX6_where 89 = .ok (.bipush 6, 2) := by decide +kernel
theorem dX6_where_91 : decode cX6_where 91 = .ok (.iload_n 1, 1) := by decide +kernel
theorem dX6_where_92 : decode cX6_where 92 = .ok (.imul, 1) := by decide +kernel
theorem dX6_where_93 : decode cX6_where 93 = .ok (.iload_n 2, 1) := by decide +kernel
theorem dX6_where_94 : decode cX6_where 94 = .ok (.iadd, 1) := by decide +kernel
theorem dX6_where_95 : decode cX6_where 95 = .ok (.iaload, 1) := by decide +kernel
theorem dX6_where_96 : decode cX6_where 96 = .ok (.goto 4, 3) := by decide +kernel
theorem dX6_where_99 : decode cX6_where 99 = .ok (.iconst (-1), 1) := by decide +kernel
theorem dX6_where_100 : decode cX6_where 100 = .ok (.istore 5, 2) := by decide +kernel
theorem dX6_where_102 : decode cX6_where 102 = .ok (.iload 5, 2) := by decide +kernel
theorem dX6_where_104 : decode cX6_where 104 = .ok (.ifCond .ge 7, 3) := by decide +kernel
theorem dX6_where_107 : decode cX6_where 107 = .ok (.iconst (-1), 1) := by decide +kernel
theorem dX6_where_108 : decode cX6_where 108 = .ok (.goto 49, 3) := by decide +kernel
theorem dX6_where_111 : decode cX6_where 111 = .ok (.iload_n 3, 1) := by decide +kernel
theorem dX6_where_112 : decode cX6_where 112 = .ok (.ifCond .ne 13, 3) := by decide +kernel
theorem dX6_where_115 : decode cX6_where 115 = .ok (.aload_n 0, 1) := by decide +kernel
theorem dX6_where_116 : decode cX6_where 116 = .ok (.getfield 28, 3) := by decide +kernel
theorem dX6_where_119 : decode cX6_where 119 = .ok (.iload 5, 2) := by decide +kernel
theorem dX6_where_121 : decode cX6_where 121 = .ok (.iaload, 1) := by decide +kernel
theorem dX6_where_122 : decode cX6_where 122 = .ok (.goto 35, 3) := by decide +kernel
theorem dX6_where_125 : decode cX6_where 125 = .ok (.iload_n 3, 1) := by decide +kernel
theorem dX6_where_126 : decode cX6_where 126 = .ok (.iconst 1, 1) := by decide +kernel
theorem dX6_where_127 : decode cX6_where 127 = .ok (.if_icmp .ne 13, 3) := by decide +kernel
theorem dX6_where_130 : decode cX6_where 130 = .ok (.aload_n 0, 1) := by decide +kernel
theorem dX6_where_131 : decode cX6_where 131 = .ok (.getfield 31, 3) := by decide +kernel
theorem dX6_where_134 : decode cX6_where 134 = .ok (.iload 5, 2) := by decide +kernel
theorem dX6_where_136 : decode cX6_where 136 = .ok (.iaload, 1) := by decide +kernel
theorem dX6_where_137 : decode cX6_where 137 = .ok (.goto 20, 3) := by decide +kernel
theorem dX6_where_140 : decode cX6_where 140 = .ok (.iload_n 3, 1) := by decide +kernel
theorem dX6_where_141 : decode cX6_where 141 = .ok (.iconst 2, 1) := by decide +kernel
theorem dX6_where_142 : decode cX6_where 142 = .ok (.if_icmp .ne 13, 3) := by decide +kernel
theorem dX6_where_145 : decode cX6_where 145 = .ok (.aload_n 0, 1) := by decide +kernel
theorem dX6_where_146 : decode cX6_where 146 = .ok (.getfield 34, 3) := by decide +kernel
theorem dX6_where_149 : decode cX6_where 149 = .ok (.iload 5, 2) := by decide +kernel
theorem dX6_where_151 : decode cX6_where 151 = .ok (.iaload, 1) := by decide +kernel
theorem dX6_where_152 : decode cX6_where 152 = .ok (.goto 5, 3) := by decide +kernel
theorem dX6_where_155 : decode cX6_where 155 = .ok (.iload 5, 2) := by decide +kernel
theorem dX6_where_157 : decode cX6_where 157 = .ok (.ireturn, 1) := by decide +kernel
theorem dX6_free_0 : decode cX6_free 0 = .ok (.aload_n 0, 1) := by decide +kernel
theorem dX6_free_1 : decode cX6_free 1 = .ok (.iload_n 1, 1) := by decide +kernel
theorem dX6_free_2 : decode cX6_free 2 = .ok (.ifCond .ge 7, 3) := by decide +kernel
theorem dX6_free_5 : decode cX6_free 5 = .ok (.iconst 1, 1) := by decide +kernel
theorem dX6_free_6 : decode cX6_free 6 = .ok (.goto 4, 3) := by decide +kernel
theorem dX6_free_9 : decode cX6_free 9 = .ok (.iconst 0, 1) := by decide +kernel
theorem dX6_free_10 : decode cX6_free 10 = .ok (.invokevirtual 78, 3) := by decide +kernel
theorem dX6_free_13 : decode cX6_free 13 = .ok (.ifCond .eq 5, 3) := by decide +kernel
theorem dX6_free_16 : decode cX6_free 16 = .ok (.iconst (-1), 1) := by decide +kernel
theorem dX6_free_17 : decode cX6_free 17 = .ok (.ireturn, 1) := by decide +kernel
theorem dX6_free_18 : decode cX6_free 18 = .ok (.iconst 0, 1) := by decide +kernel
theorem dX6_free_19 : decode cX6_free 19 = .ok (.istore_n 2, 1) := by decide +kernel
theorem dX6_free_20 : decode cX6_free 20 = .ok (.iconst 0, 1) := by decide +kernel
theorem dX6_free_21 : decode cX6_free 21 = .ok (.istore_n 3, 1) := by decide +kernel
theorem dX6_free_22 : decode cX6_free 22 = .ok (.iload_n 3, 1) := by decide +kernel
theorem dX6_free_23 : decode cX6_free 23 = .ok (.aload_n 0, 1) := by decide +kernel
theorem dX6_free_24 : decode cX6_free 24 = .ok (.getfield 115, 3) := by decide +kernel
theorem dX6_free_27 : decode cX6_free 27 = .ok (.if_icmp .ge 54, 3) := by decide +kernel
theorem dX6_free_30 : decode cX6_free 30 = .ok (.aload_n 0, 1) := by decide +kernel
theorem dX6_free_31 : decode cX6_free 31 = .ok (.getfield 43, 3) := by decide +kernel
theorem dX6_free_34 : decode cX6_free 34 = .ok (.iload_n 3, 1) := by decide +kernel
theorem dX6_free_35 : decode cX6_free 35 = .ok (.iaload, 1) := by decide +kernel
theorem dX6_free_36 : decode cX6_free 36 = .ok (.ifCond .ne 39, 3) := by decide +kernel
theorem dX6_free_39 : decode cX6_free 39 = .ok (.iload_n 2, 1) := by decide +kernel
theorem dX6_free_40 : decode cX6_free 40 = .ok (.iload_n 1, 1) := by decide +kernel
theorem dX6_free_41 : decode cX6_free 41 = .ok (.if_icmp .ne 31, 3) := by decide +kernel
theorem dX6_free_44 : decode cX6_free 44 = .ok (.sipush 10000, 3) := by decide +kernel
theorem dX6_free_47 : decode cX6_free 47 = .ok (.aload_n 0, 1) := by decide +kernel
theorem dX6_free_48 : decode cX6_free 48 = .ok (.getfield 28, 3) := by decide +kernel
theorem dX6_free_51 : decode cX6_free 51 = .ok (.iload_n 3, 1) := by decide +kernel
theorem dX6_free_52 : decode cX6_free 52 = .ok (.iaload, 1) := by decide +kernel
theorem dX6_free_53 : decode cX6_free 53 = .ok (.imul, 1) := by decide +kernel
theorem dX6_free_54 : decode cX6_free 54 = .ok (.bipush 100, 2) := by decide +kernel
theorem dX6_free_56 : decode cX6_free 56 = .ok (.aload_n 0, 1) := by decide +kernel
theorem dX6_free_57 : decode cX6_free 57 = .ok (.getfield 37, 3) := by decide +kernel
theorem dX6_free_60 : decode cX6_free 60 = .ok (.iload_n 3, 1) := by decide +kernel
theorem dX6_free_61 : decode cX6_free 61 = .ok (.iaload, 1) := by decide +kernel
theorem dX6_free_62 : decode cX6_free 62 = .ok (.imul, 1) := by decide +kernel
theorem dX6_free_63 : decode cX6_free 63 = .ok (.iadd, 1) := by decide +kernel
theorem dX6_free_64 : decode cX6_free 64 = .ok (.aload_n 0, 1) := by decide +kernel
theorem dX6_free_65 : decode cX6_free 65 = .ok (.getfield 40, 3) := by decide +kernel
theorem dX6_free_68 : decode cX6_free 68 = .ok (.iload_n 3, 1) := by decide +kernel
theorem dX6_free_69 : decode cX6_free 69 = .ok (.iaload, 1) := by decide +kernel
theorem dX6_free_70 : decode cX6_free 70 = .ok (.iadd, 1) := by decide +kernel
theorem dX6_free_71 : decode cX6_free 71 = .ok (.ireturn, 1) := by decide +kernel
theorem dX6_free_72 : decode cX6_free 72 = .ok (.iinc 2 1, 3) := by decide +kernel
theorem dX6_free_75 : decode cX6_free 75 = .ok (.iinc 3 1, 3) := by decide +kernel
theorem dX6_free_78 : decode cX6_free 78 = .ok (.goto (-56), 3) := by decide +kernel
theorem dX6_free_81 : decode cX6_free 81 = .ok (.iconst (-1), 1) := by decide +kernel
theorem dX6_free_82 : decode cX6_free 82 = .ok (.ireturn, 1) := by decide +kernel
theorem dX6_minutes_0 : decode cX6_minutes 0 = .ok (.aload_n 0, 1) := by decide +kernel
theorem dX6_minutes_1 : decode cX6_minutes 1 = .ok (.iconst 0, 1) := by decide +kernel
theorem dX6_minutes_2 : decode cX6_minutes 2 = .ok (.invokevirtual 78, 3) := by decide +kernel
theorem dX6_minutes_5 : decode cX6_minutes 5 = .ok (.pop, 1) := by decide +kernel
theorem dX6_minutes_6 : decode cX6_minutes 6 = .ok (.aload_n 0, 1) := by decide +kernel
theorem dX6_minutes_7 : decode cX6_minutes 7 = .ok (.getfield 162, 3) := by decide +kernel
theorem dX6_minutes_10 : decode cX6_minutes 10 = .ok (.ireturn, 1) := by decide +kernel
theorem dX6_cutLength_0 : decode cX6_cutLength 0 = .ok (.aload_n 0, 1) := by decide +kernel
theorem dX6_cutLength_1 : decode cX6_cutLength 1 = .ok (.iconst 0, 1) := by decide +kernel
theorem dX6_cutLength_2 : decode cX6_cutLength 2 = .ok (.invokevirtual 78, 3) := by decide +kernel
theorem dX6_cutLength_5 : decode cX6_cutLength 5 = .ok (.pop, 1) := by decide +kernel
theorem dX6_cutLength_6 : decode cX6_cutLength 6 = .ok (.aload_n 0, 1) := by decide +kernel
theorem dX6_cutLength_7 : decode cX6_cutLength 7 = .ok (.getfield 158, 3) := by decide +kernel
theorem dX6_cutLength_10 : decode cX6_cutLength 10 = .ok (.freturn, 1) := by decide +kernel
theorem dX6_cutAnew_0 : decode cX6_cutAnew 0 = .ok (.aload_n 0, 1) := by decide +kernel
theorem dX6_cutAnew_1 : decode cX6_cutAnew 1 = .ok (.iconst 0, 1) := by decide +kernel
theorem dX6_cutAnew_2 : decode cX6_cutAnew 2 = .ok (.invokevirtual 78, 3) := by decide +kernel
theorem dX6_cutAnew_5 : decode cX6_cutAnew 5 = .ok (.pop, 1) := by decide +kernel
theorem dX6_cutAnew_6 : decode cX6_cutAnew 6 = .ok (.aload_n 0, 1) := by decide +kernel
theorem dX6_cutAnew_7 : decode cX6_cutAnew 7 = .ok (.getfield 158, 3) := by decide +kernel
theorem dX6_cutAnew_10 : decode cX6_cutAnew 10 = .ok (.freturn, 1) := by decide +kernel
theorem dJ9_max_7cf53_0 : decode cJ9_max_7cf53 0 = .ok (.iload_n 0, 1) := by decide +kernel
theorem dJ9_max_7cf53_1 : decode cJ9_max_7cf53 1 = .ok (.iload_n 1, 1) := by decide +kernel
theorem dJ9_max_7cf53_2 : decode cJ9_max_7cf53 2 = .ok (.if_icmp .lt 7, 3) := by decide +kernel
theorem dJ9_max_7cf53_5 : decode cJ9_max_7cf53 5 = .ok (.iload_n 0, 1) := by decide +kernel
theorem dJ9_max_7cf53_6 : decode cJ9_max_7cf53 6 = .ok (.goto 4, 3) := by decide +kernel
theorem dJ9_max_7cf53_9 : decode cJ9_max_7cf53 9 = .ok (.iload_n 1, 1) := by decide +kernel
theorem dJ9_max_7cf53_10 : decode cJ9_max_7cf53 10 = .ok (.ireturn, 1) := by decide +kernel
theorem dJ9_min_7cf53_0 : decode cJ9_min_7cf53 0 = .ok (.iload_n 0, 1) := by decide +kernel
theorem dJ9_min_7cf53_1 : decode cJ9_min_7cf53 1 = .ok (.iload_n 1, 1) := by decide +kernel
theorem dJ9_min_7cf53_2 : decode cJ9_min_7cf53 2 = .ok (.if_icmp .gt 7, 3) := by decide +kernel
theorem dJ9_min_7cf53_5 : decode cJ9_min_7cf53 5 = .ok (.iload_n 0, 1) := by decide +kernel
theorem dJ9_min_7cf53_6 : decode cJ9_min_7cf53 6 = .ok (.goto 4, 3) := by decide +kernel
theorem dJ9_min_7cf53_9 : decode cJ9_min_7cf53 9 = .ok (.iload_n 1, 1) := by decide +kernel
theorem dJ9_min_7cf53_10 : decode cJ9_min_7cf53 10 = .ok (.ireturn, 1) := by decide +kernel
theorem dJxa1e45_init_da8c8_0 : decode cJxa1e45_init_da8c8 0 = .ok (.aload_n 0, 1) := by decide +kernel
theorem dJxa1e45_init_da8c8_1 : decode cJxa1e45_init_da8c8 1 = .ok (.invokespecial 1, 3) := by decide +kernel
theorem dJxa1e45_init_da8c8_4 : decode cJxa1e45_init_da8c8 4 = .ok (.return_, 1) := by decide +kernel
theorem dJxc12de_init_da8c8_0 : decode cJxc12de_init_da8c8 0 = .ok (.aload_n 0, 1) := by decide +kernel
theorem dJxc12de_init_da8c8_1 : decode cJxc12de_init_da8c8 1 = .ok (.invokespecial 1, 3) := by decide +kernel
theorem dJxc12de_init_da8c8_4 : decode cJxc12de_init_da8c8 4 = .ok (.aload_n 0, 1) := by decide +kernel
theorem dJxc12de_init_da8c8_5 : decode cJxc12de_init_da8c8 5 = .ok (.iconst 0, 1) := by decide +kernel
theorem dJxc12de_init_da8c8_6 : decode cJxc12de_init_da8c8 6 = .ok (.putfield 7, 3) := by decide +kernel
theorem dJxc12de_init_da8c8_9 : decode cJxc12de_init_da8c8 9 = .ok (.return_, 1) := by decide +kernel
theorem dJx4a65c_init_da8c8_0 : decode cJx4a65c_init_da8c8 0 = .ok (.aload_n 0, 1) := by decide +kernel
theorem dJx4a65c_init_da8c8_1 : decode cJx4a65c_init_da8c8 1 = .ok (.invokespecial 1, 3) := by decide +kernel
theorem dJx4a65c_init_da8c8_4 : decode cJx4a65c_init_da8c8 4 = .ok (.aload_n 0, 1) := by decide +kernel
theorem dJx4a65c_init_da8c8_5 : decode cJx4a65c_init_da8c8 5 = .ok (.getstatic 39, 3) := by decide +kernel
theorem dJx4a65c_init_da8c8_8 : decode cJx4a65c_init_da8c8 8 = .ok (.putfield 9, 3) := by decide +kernel
theorem dJx4a65c_init_da8c8_11 : decode cJx4a65c_init_da8c8 11 = .ok (.return_, 1) := by decide +kernel
theorem dJx4a65c_grow_92f84_0 : decode cJx4a65c_grow_92f84 0 = .ok (.aload_n 0, 1) := by decide +kernel
theorem dJx4a65c_grow_92f84_1 : decode cJx4a65c_grow_92f84 1 = .ok (.getfield 9, 3) := by decide +kernel
theorem dJx4a65c_grow_92f84_4 : decode cJx4a65c_grow_92f84 4 = .ok (.arraylength, 1) := by decide +kernel
theorem dJx4a65c_grow_92f84_5 : decode cJx4a65c_grow_92f84 5 = .ok (.istore_n 2, 1) := by decide +kernel
theorem dJx4a65c_grow_92f84_6 : decode cJx4a65c_grow_92f84 6 = .ok (.iload_n 2, 1) := by decide +kernel
theorem dJx4a65c_grow_92f84_7 : decode cJx4a65c_grow_92f84 7 = .ok (.ifCond .gt 13, 3) := by decide +kernel
theorem dJx4a65c_grow_92f84_10 : decode cJx4a65c_grow_92f84 10 = .ok (.aload_n 0, 1) := by decide +kernel
theorem dJx4a65c_grow_92f84_11 : decode cJx4a65c_grow_92f84 11 = .ok (.getfield 9, 3) := by decide +kernel
theorem dJx4a65c_grow_92f84_14 : decode cJx4a65c_grow_92f84 14 = .ok (.getstatic 39, 3) := by decide +kernel
theorem dJx4a65c_grow_92f84_17 : decode cJx4a65c_grow_92f84 17 = .ok (.if_acmp .eq 28, 3) := by decide +kernel
theorem dJx4a65c_grow_92f84_20 : decode cJx4a65c_grow_92f84 20 = .ok (.iload_n 2, 1) := by decide +kernel
theorem dJx4a65c_grow_92f84_21 : decode cJx4a65c_grow_92f84 21 = .ok (.iload_n 1, 1) := by decide +kernel
theorem dJx4a65c_grow_92f84_22 : decode cJx4a65c_grow_92f84 22 = .ok (.iload_n 2, 1) := by decide +kernel
theorem dJx4a65c_grow_92f84_23 : decode cJx4a65c_grow_92f84 23 = .ok (.isub, 1) := by decide +kernel
theorem dJx4a65c_grow_92f84_24 : decode cJx4a65c_grow_92f84 24 = .ok (.iload_n 2, 1) := by decide +kernel
theorem dJx4a65c_grow_92f84_25 : decode cJx4a65c_grow_92f84 25 = .ok (.iconst 1, 1) := by decide +kernel
theorem dJx4a65c_grow_92f84_26 : decode cJx4a65c_grow_92f84 26 = .ok (.ishr, 1) := by decide +kernel
theorem dJx4a65c_grow_92f84_27 : decode cJx4a65c_grow_92f84 27 = .ok (.invokestatic 73, 3) := by decide +kernel
theorem dJx4a65c_grow_92f84_30 : decode cJx4a65c_grow_92f84 30 = .ok (.istore_n 3, 1) := by decide +kernel
theorem dJx4a65c_grow_92f84_31 : decode cJx4a65c_grow_92f84 31 = .ok (.aload_n 0, 1) := by decide +kernel
theorem dJx4a65c_grow_92f84_32 : decode cJx4a65c_grow_92f84 32 = .ok (.aload_n 0, 1) := by decide +kernel
theorem dJx4a65c_grow_92f84_33 : decode cJx4a65c_grow_92f84 33 = .ok (.getfield 9, 3) := by decide +kernel
theorem dJx4a65c_grow_92f84_36 : decode cJx4a65c_grow_92f84 36 = .ok (.iload_n 3, 1) := by decide +kernel
theorem dJx4a65c_grow_92f84_37 : decode cJx4a65c_grow_92f84 37 = .ok (.invokestatic 66, 3) := by decide +kernel
theorem dJx4a65c_grow_92f84_40 : decode cJx4a65c_grow_92f84 40 = .ok (.dup_x1, 1) := by decide +kernel
theorem dJx4a65c_grow_92f84_41 : decode cJx4a65c_grow_92f84 41 = .ok (.putfield 9, 3) := by decide +kernel
theorem dJx4a65c_grow_92f84_44 : decode cJx4a65c_grow_92f84 44 = .ok (.areturn, 1) := by decide +kernel
theorem dJx4a65c_grow_92f84_45 : decode cJx4a65c_grow_92f84 45 = .ok (.aload_n 0, 1) := by decide +kernel
theorem dJx4a65c_grow_92f84_46 : decode cJx4a65c_grow_92f84 46 = .ok (.bipush 10, 2) := by decide +kernel
theorem dJx4a65c_grow_92f84_48 : decode cJx4a65c_grow_92f84 48 = .ok (.iload_n 1, 1) := by decide +kernel
theorem dJx4a65c_grow_92f84_49 : decode cJx4a65c_grow_92f84 49 = .ok (.invokestatic 79, 3) := by decide +kernel
theorem dJx4a65c_grow_92f84_52 : decode cJx4a65c_grow_92f84 52 = .ok (.anewarray 7, 3) := by decide +kernel
theorem dJx4a65c_grow_92f84_55 : decode cJx4a65c_grow_92f84 55 = .ok (.dup_x1, 1) := by decide +kernel
theorem dJx4a65c_grow_92f84_56 : decode cJx4a65c_grow_92f84 56 = .ok (.putfield 9, 3) := by decide +kernel
theorem dJx4a65c_grow_92f84_59 : decode cJx4a65c_grow_92f84 59 = .ok (.areturn, 1) := by decide +kernel
theorem dJx4a65c_grow_d5877_0 : decode cJx4a65c_grow_d5877 0 = .ok (.aload_n 0, 1) := by decide +kernel
theorem dJx4a65c_grow_d5877_1 : decode cJx4a65c_grow_d5877 1 = .ok (.aload_n 0, 1) := by decide +kernel
theorem dJx4a65c_grow_d5877_2 : decode cJx4a65c_grow_d5877 2 = .ok (.getfield 48, 3) := by decide +kernel
theorem dJx4a65c_grow_d5877_5 : decode cJx4a65c_grow_d5877 5 = .ok (.iconst 1, 1) := by decide +kernel
theorem dJx4a65c_grow_d5877_6 : decode cJx4a65c_grow_d5877 6 = .ok (.iadd, 1) := by decide +kernel
theorem dJx4a65c_grow_d5877_7 : decode cJx4a65c_grow_d5877 7 = .ok (.invokevirtual 69, 3) := by decide +kernel
theorem dJx4a65c_grow_d5877_10 : decode cJx4a65c_grow_d5877 10 = .ok (.areturn, 1) := by decide +kernel
theorem dJx4a65c_size_8abf5_0 : decode cJx4a65c_size_8abf5 0 = .ok (.aload_n 0, 1) := by decide +kernel
theorem dJx4a65c_size_8abf5_1 : decode cJx4a65c_size_8abf5 1 = .ok (.getfield 48, 3) := by decide +kernel
theorem dJx4a65c_size_8abf5_4 : decode cJx4a65c_size_8abf5 4 = .ok (.ireturn, 1) := by decide +kernel
theorem dJx4a65c_elementData_915e3_0 : decode cJx4a65c_elementData_915e3 0 = .ok (.aload_n 0, 1) := by decide +kernel
theorem dJx4a65c_elementData_915e3_1 : decode cJx4a65c_elementData_915e3 1 = .ok (.getfield 9, 3) := by decide +kernel
theorem dJx4a65c_elementData_915e3_4 : decode cJx4a65c_elementData_915e3 4 = .ok (.iload_n 1, 1) := by decide +kernel
theorem dJx4a65c_elementData_915e3_5 : decode cJx4a65c_elementData_915e3 5 = .ok (.aaload, 1) := by decide +kernel
theorem dJx4a65c_elementData_915e3_6 : decode cJx4a65c_elementData_915e3 6 = .ok (.areturn, 1) := by decide +kernel
theorem dJx4a65c_get_915e3_0 : decode cJx4a65c_get_915e3 0 = .ok (.iload_n 1, 1) := by decide +kernel
theorem dJx4a65c_get_915e3_1 : decode cJx4a65c_get_915e3 1 = .ok (.aload_n 0, 1) := by decide +kernel
theorem dJx4a65c_get_915e3_2 : decode cJx4a65c_get_915e3 2 = .ok (.getfield 48, 3) := by decide +kernel
theorem dJx4a65c_get_915e3_5 : decode cJx4a65c_get_915e3 5 = .ok (.invokestatic 118, 3) := by decide +kernel
theorem dJx4a65c_get_915e3_8 : decode cJx4a65c_get_915e3 8 = .ok (.pop, 1) := by decide +kernel
theorem dJx4a65c_get_915e3_9 : decode cJx4a65c_get_915e3 9 = .ok (.aload_n 0, 1) := by decide +kernel
theorem dJx4a65c_get_915e3_10 : decode cJx4a65c_get_915e3 10 = .ok (.iload_n 1, 1) := by decide +kernel
theorem dJx4a65c_get_915e3_11 : decode cJx4a65c_get_915e3 11 = .ok (.invokevirtual 123, 3) := by decide +kernel
theorem dJx4a65c_get_915e3_14 : decode cJx4a65c_get_915e3 14 = .ok (.areturn, 1) := by decide +kernel
theorem dJx4a65c_add_72be8_0 : decode cJx4a65c_add_72be8 0 = .ok (.iload_n 3, 1) := by decide +kernel
theorem dJx4a65c_add_72be8_1 : decode cJx4a65c_add_72be8 1 = .ok (.aload_n 2, 1) := by decide +kernel
theorem dJx4a65c_add_72be8_2 : decode cJx4a65c_add_72be8 2 = .ok (.arraylength, 1) := by decide +kernel
theorem dJx4a65c_add_72be8_3 : decode cJx4a65c_add_72be8 3 = .ok (.if_icmp .ne 8, 3) := by decide +kernel
theorem dJx4a65c_add_72be8_6 : decode cJx4a65c_add_72be8 6 = .ok (.aload_n 0, 1) := by decide +kernel
theorem dJx4a65c_add_72be8_7 : decode cJx4a65c_add_72be8 7 = .ok (.invokevirtual 129, 3) := by decide +kernel
theorem dJx4a65c_add_72be8_10 : decode cJx4a65c_add_72be8 10 = .ok (.astore_n 2, 1) := by decide +kernel
theorem dJx4a65c_add_72be8_11 : decode cJx4a65c_add_72be8 11 = .ok (.aload_n 2, 1) := by decide +kernel
theorem dJx4a65c_add_72be8_12 : decode cJx4a65c_add_72be8 12 = .ok (.iload_n 3, 1) := by decide +kernel
theorem dJx4a65c_add_72be8_13 : decode cJx4a65c_add_72be8 13 = .ok (.aload_n 1, 1) := by decide +kernel
theorem dJx4a65c_add_72be8_14 : decode cJx4a65c_add_72be8 14 = .ok (.aastore, 1) := by decide +kernel
theorem dJx4a65c_add_72be8_15 : decode cJx4a65c_add_72be8 15 = .ok (.aload_n 0, 1) := by decide +kernel
theorem dJx4a65c_add_72be8_16 : decode cJx4a65c_add_72be8 16 = .ok (.iload_n 3, 1) := by decide +kernel
theorem dJx4a65c_add_72be8_17 : decode cJx4a65c_add_72be8 17 = .ok (.iconst 1, 1) := by decide +kernel
theorem dJx4a65c_add_72be8_18 : decode cJx4a65c_add_72be8 18 = .ok (.iadd, 1) := by decide +kernel
theorem dJx4a65c_add_72be8_19 : decode cJx4a65c_add_72be8 19 = .ok (.putfield 48, 3) := by decide +kernel
theorem dJx4a65c_add_72be8_22 : decode cJx4a65c_add_72be8 22 = .ok (.return_, 1) := by decide +kernel
theorem dJx4a65c_add_9ea2d_0 : decode cJx4a65c_add_9ea2d 0 = .ok (.aload_n 0, 1) := by decide +kernel
theorem dJx4a65c_add_9ea2d_1 : decode cJx4a65c_add_9ea2d 1 = .ok (.dup, 1) := by decide +kernel
theorem dJx4a65c_add_9ea2d_2 : decode cJx4a65c_add_9ea2d 2 = .ok (.getfield 63, 3) := by decide +kernel
theorem dJx4a65c_add_9ea2d_5 : decode cJx4a65c_add_9ea2d 5 = .ok (.iconst 1, 1) := by decide +kernel
theorem dJx4a65c_add_9ea2d_6 : decode cJx4a65c_add_9ea2d 6 = .ok (.iadd, 1) := by decide +kernel
theorem dJx4a65c_add_9ea2d_7 : decode cJx4a65c_add_9ea2d 7 = .ok (.putfield 63, 3) := by decide +kernel
theorem dJx4a65c_add_9ea2d_10 : decode cJx4a65c_add_9ea2d 10 = .ok (.aload_n 0, 1) := by decide +kernel
theorem dJx4a65c_add_9ea2d_11 : decode cJx4a65c_add_9ea2d 11 = .ok (.aload_n 1, 1) := by decide +kernel
theorem dJx4a65c_add_9ea2d_12 : decode cJx4a65c_add_9ea2d 12 = .ok (.aload_n 0, 1) := by decide +kernel
theorem dJx4a65c_add_9ea2d_13 : decode cJx4a65c_add_9ea2d 13 = .ok (.getfield 9, 3) := by decide +kernel
theorem dJx4a65c_add_9ea2d_16 : decode cJx4a65c_add_9ea2d 16 = .ok (.aload_n 0, 1) := by decide +kernel
theorem dJx4a65c_add_9ea2d_17 : decode cJx4a65c_add_9ea2d 17 = .ok (.getfield 48, 3) := by decide +kernel
theorem dJx4a65c_add_9ea2d_20 : decode cJx4a65c_add_9ea2d 20 = .ok (.invokevirtual 131, 3) := by decide +kernel
theorem dJx4a65c_add_9ea2d_23 : decode cJx4a65c_add_9ea2d 23 = .ok (.iconst 1, 1) := by decide +kernel
theorem dJx4a65c_add_9ea2d_24 : decode cJx4a65c_add_9ea2d 24 = .ok (.ireturn, 1) := by decide +kernel
theorem dJx4a65c_clear_da8c8_0 : decode cJx4a65c_clear_da8c8 0 = .ok (.aload_n 0, 1) := by decide +kernel
theorem dJx4a65c_clear_da8c8_1 : decode cJx4a65c_clear_da8c8 1 = .ok (.dup, 1) := by decide +kernel
theorem dJx4a65c_clear_da8c8_2 : decode cJx4a65c_clear_da8c8 2 = .ok (.getfield 63, 3) := by decide +kernel
theorem dJx4a65c_clear_da8c8_5 : decode cJx4a65c_clear_da8c8 5 = .ok (.iconst 1, 1) := by decide +kernel
theorem dJx4a65c_clear_da8c8_6 : decode cJx4a65c_clear_da8c8 6 = .ok (.iadd, 1) := by decide +kernel
theorem dJx4a65c_clear_da8c8_7 : decode cJx4a65c_clear_da8c8 7 = .ok (.putfield 63, 3) := by decide +kernel
theorem dJx4a65c_clear_da8c8_10 : decode cJx4a65c_clear_da8c8 10 = .ok (.aload_n 0, 1) := by decide +kernel
theorem dJx4a65c_clear_da8c8_11 : decode cJx4a65c_clear_da8c8 11 = .ok (.getfield 9, 3) := by decide +kernel
theorem dJx4a65c_clear_da8c8_14 : decode cJx4a65c_clear_da8c8 14 = .ok (.astore_n 1, 1) := by decide +kernel
theorem dJx4a65c_clear_da8c8_15 : decode cJx4a65c_clear_da8c8 15 = .ok (.aload_n 0, 1) := by decide +kernel
theorem dJx4a65c_clear_da8c8_16 : decode cJx4a65c_clear_da8c8 16 = .ok (.getfield 48, 3) := by decide +kernel
theorem dJx4a65c_clear_da8c8_19 : decode cJx4a65c_clear_da8c8 19 = .ok (.istore_n 2, 1) := by decide +kernel
theorem dJx4a65c_clear_da8c8_20 : decode cJx4a65c_clear_da8c8 20 = .ok (.aload_n 0, 1) := by decide +kernel
theorem dJx4a65c_clear_da8c8_21 : decode cJx4a65c_clear_da8c8 21 = .ok (.iconst 0, 1) := by decide +kernel
theorem dJx4a65c_clear_da8c8_22 : decode cJx4a65c_clear_da8c8 22 = .ok (.dup_x1, 1) := by decide +kernel
theorem dJx4a65c_clear_da8c8_23 : decode cJx4a65c_clear_da8c8 23 = .ok (.putfield 48, 3) := by decide +kernel
theorem dJx4a65c_clear_da8c8_26 : decode cJx4a65c_clear_da8c8 26 = .ok (.istore_n 3, 1) := by decide +kernel
theorem dJx4a65c_clear_da8c8_27 : decode cJx4a65c_clear_da8c8 27 = .ok (.iload_n 3, 1) := by decide +kernel
theorem dJx4a65c_clear_da8c8_28 : decode cJx4a65c_clear_da8c8 28 = .ok (.iload_n 2, 1) := by decide +kernel
theorem dJx4a65c_clear_da8c8_29 : decode cJx4a65c_clear_da8c8 29 = .ok (.if_icmp .ge 13, 3) := by decide +kernel
theorem dJx4a65c_clear_da8c8_32 : decode cJx4a65c_clear_da8c8 32 = .ok (.aload_n 1, 1) := by decide +kernel
theorem dJx4a65c_clear_da8c8_33 : decode cJx4a65c_clear_da8c8 33 = .ok (.iload_n 3, 1) := by decide +kernel
theorem dJx4a65c_clear_da8c8_34 : decode cJx4a65c_clear_da8c8 34 = .ok (.aconst_null, 1) := by decide +kernel
theorem dJx4a65c_clear_da8c8_35 : decode cJx4a65c_clear_da8c8 35 = .ok (.aastore, 1) := by decide +kernel
theorem dJx4a65c_clear_da8c8_36 : decode cJx4a65c_clear_da8c8 36 = .ok (.iinc 3 1, 3) := by decide +kernel
theorem dJx4a65c_clear_da8c8_39 : decode cJx4a65c_clear_da8c8 39 = .ok (.goto (-12), 3) := by decide +kernel
theorem dJx4a65c_clear_da8c8_42 : decode cJx4a65c_clear_da8c8 42 = .ok (.return_, 1) := by decide +kernel
theorem dJ7_copyOf_1904c_0 : decode cJ7_copyOf_1904c 0 = .ok (.aload_n 0, 1) := by decide +kernel
theorem dJ7_copyOf_1904c_1 : decode cJ7_copyOf_1904c 1 = .ok (.iload_n 1, 1) := by decide +kernel
theorem dJ7_copyOf_1904c_2 : decode cJ7_copyOf_1904c 2 = .ok (.aload_n 0, 1) := by decide +kernel
theorem dJ7_copyOf_1904c_3 : decode cJ7_copyOf_1904c 3 = .ok (.invokevirtual 86, 3) := by decide +kernel
theorem dJ7_copyOf_1904c_6 : decode cJ7_copyOf_1904c 6 = .ok (.invokestatic 300, 3) := by decide +kernel
theorem dJ7_copyOf_1904c_9 : decode cJ7_copyOf_1904c 9 = .ok (.areturn, 1) := by decide +kernel
theorem dJ7_copyOf_6403c_0 : decode cJ7_copyOf_6403c 0 = .ok (.aload_n 2, 1) := by decide +kernel
theorem dJ7_copyOf_6403c_1 : decode cJ7_copyOf_6403c 1 = .ok (.ldc 110, 2) := by decide +kernel
theorem dJ7_copyOf_6403c_3 : decode cJ7_copyOf_6403c 3 = .ok (.if_acmp .ne 10, 3) := by decide +kernel
theorem dJ7_copyOf_6403c_6 : decode cJ7_copyOf_6403c 6 = .ok (.iload_n 1, 1) := by decide +kernel
theorem dJ7_copyOf_6403c_7 : decode cJ7_copyOf_6403c 7 = .ok (.anewarray 2, 3) := by decide +kernel
theorem dJ7_copyOf_6403c_10 : decode cJ7_copyOf_6403c 10 = .ok (.goto 14, 3) := by decide +kernel
theorem dJ7_copyOf_6403c_13 : decode cJ7_copyOf_6403c 13 = .ok (.aload_n 2, 1) := by decide +kernel
theorem dJ7_copyOf_6403c_14 : decode cJ7_copyOf_6403c 14 = .ok (.invokevirtual 90, 3) := by decide +kernel
theorem dJ7_copyOf_6403c_17 : decode cJ7_copyOf_6403c 17 = .ok (.iload_n 1, 1) := by decide +kernel
theorem dJ7_copyOf_6403c_18 : decode cJ7_copyOf_6403c 18 = .ok (.invokestatic 95, 3) := by decide +kernel
theorem dJ7_copyOf_6403c_21 : decode cJ7_copyOf_6403c 21 = .ok (.checkcast 110, 3) := by decide +kernel
theorem dJ7_copyOf_6403c_24 : decode cJ7_copyOf_6403c 24 = .ok (.astore_n 3, 1) := by decide +kernel
theorem dJ7_copyOf_6403c_25 : decode cJ7_copyOf_6403c 25 = .ok (.aload_n 0, 1) := by decide +kernel
theorem dJ7_copyOf_6403c_26 : decode cJ7_copyOf_6403c 26 = .ok (.iconst 0, 1) := by decide +kernel
theorem dJ7_copyOf_6403c_27 : decode cJ7_copyOf_6403c 27 = .ok (.aload_n 3, 1) := by decide +kernel
theorem dJ7_copyOf_6403c_28 : decode cJ7_copyOf_6403c 28 = .ok (.iconst 0, 1) := by decide +kernel
theorem dJ7_copyOf_6403c_29 : decode cJ7_copyOf_6403c 29 = .ok (.aload_n 0, 1) := by decide +kernel
theorem dJ7_copyOf_6403c_30 : decode cJ7_copyOf_6403c 30 = .ok (.arraylength, 1) := by decide +kernel
theorem dJ7_copyOf_6403c_31 : decode cJ7_copyOf_6403c 31 = .ok (.iload_n 1, 1) := by decide +kernel
theorem dJ7_copyOf_6403c_32 : decode cJ7_copyOf_6403c 32 = .ok (.invokestatic 304, 3) := by decide +kernel
theorem dJ7_copyOf_6403c_35 : decode cJ7_copyOf_6403c 35 = .ok (.invokestatic 150, 3) := by decide +kernel
theorem dJ7_copyOf_6403c_38 : decode cJ7_copyOf_6403c 38 = .ok (.aload_n 3, 1) := by decide +kernel
theorem dJ7_copyOf_6403c_39 : decode cJ7_copyOf_6403c 39 = .ok (.areturn, 1) := by decide +kernel
theorem dJ15_checkIndex_7cf53_0 : decode cJ15_checkIndex_7cf53 0 = .ok (.iload_n 0, 1) := by decide +kernel
theorem dJ15_checkIndex_7cf53_1 : decode cJ15_checkIndex_7cf53 1 = .ok (.iload_n 1, 1) := by decide +kernel
theorem dJ15_checkIndex_7cf53_2 : decode cJ15_checkIndex_7cf53 2 = .ok (.aconst_null, 1) := by decide +kernel
theorem dJ15_checkIndex_7cf53_3 : decode cJ15_checkIndex_7cf53 3 = .ok (.invokestatic 105, 3) := by decide +kernel
theorem dJ15_checkIndex_7cf53_6 : decode cJ15_checkIndex_7cf53 6 = .ok (.ireturn, 1) := by decide +kernel
theorem dJ8_newLength_cabcc_0 : decode cJ8_newLength_cabcc 0 = .ok (.iload_n 0, 1) := by decide +kernel
theorem dJ8_newLength_cabcc_1 : decode cJ8_newLength_cabcc 1 = .ok (.iload_n 1, 1) := by decide +kernel
theorem dJ8_newLength_cabcc_2 : decode cJ8_newLength_cabcc 2 = .ok (.iload_n 2, 1) := by decide +kernel
theorem dJ8_newLength_cabcc_3 : decode cJ8_newLength_cabcc 3 = .ok (.invokestatic 194, 3) := by decide +kernel
theorem dJ8_newLength_cabcc_6 : decode cJ8_newLength_cabcc 6 = .ok (.iadd, 1) := by decide +kernel
theorem dJ8_newLength_cabcc_7 : decode cJ8_newLength_cabcc 7 = .ok (.istore_n 3, 1) := by decide +kernel
theorem dJ8_newLength_cabcc_8 : decode cJ8_newLength_cabcc 8 = .ok (.iconst 0, 1) := by decide +kernel
theorem dJ8_newLength_cabcc_9 : decode cJ8_newLength_cabcc 9 = .ok (.iload_n 3, 1) := by decide +kernel
theorem dJ8_newLength_cabcc_10 : decode cJ8_newLength_cabcc 10 = .ok (.if_icmp .ge 11, 3) := by decide +kernel
theorem dJ8_newLength_cabcc_13 : decode cJ8_newLength_cabcc 13 = .ok (.iload_n 3, 1) := by decide +kernel
theorem dJ8_newLength_cabcc_14 : decode cJ8_newLength_cabcc 14 = .ok (.ldc 200, 2) := by decide +kernel
theorem dJ8_newLength_cabcc_16 : decode cJ8_newLength_cabcc 16 = .ok (.if_icmp .gt 5, 3) := by decide +kernel
theorem dJ8_newLength_cabcc_19 : decode cJ8_newLength_cabcc 19 = .ok (.iload_n 3, 1) := by decide +kernel
theorem dJ8_newLength_cabcc_20 : decode cJ8_newLength_cabcc 20 = .ok (.ireturn, 1) := by decide +kernel
theorem dJ8_newLength_cabcc_21 : decode cJ8_newLength_cabcc 21 = .ok (.iload_n 0, 1) := by decide +kernel
theorem dJ8_newLength_cabcc_22 : decode cJ8_newLength_cabcc 22 = .ok (.iload_n 1, 1) := by decide +kernel
theorem dJ8_newLength_cabcc_23 : decode cJ8_newLength_cabcc 23 = .ok (.invokestatic 201, 3) := by decide +kernel
theorem dJ8_newLength_cabcc_26 : decode cJ8_newLength_cabcc 26 = .ok (.ireturn, 1) := by decide +kernel
theorem dJ8_hugeLength_7cf53_0 : decode cJ8_hugeLength_7cf53 0 = .ok (.iload_n 0, 1) := by decide +kernel
theorem dJ8_hugeLength_7cf53_1 : decode cJ8_hugeLength_7cf53 1 = .ok (.iload_n 1, 1) := by decide +kernel
theorem dJ8_hugeLength_7cf53_2 : decode cJ8_hugeLength_7cf53 2 = .ok (.iadd, 1) := by decide +kernel
theorem dJ8_hugeLength_7cf53_3 : decode cJ8_hugeLength_7cf53 3 = .ok (.istore_n 2, 1) := by decide +kernel
theorem dJ8_hugeLength_7cf53_4 : decode cJ8_hugeLength_7cf53 4 = .ok (.iload_n 2, 1) := by decide +kernel
theorem dJ8_hugeLength_7cf53_5 : decode cJ8_hugeLength_7cf53 5 = .ok (.ifCond .ge 44, 3) := by decide +kernel
theorem dJ8_hugeLength_7cf53_8 : decode cJ8_hugeLength_7cf53 8 = .ok (.new 204, 3) := by decide +kernel
theorem dJ8_hugeLength_7cf53_11 : decode cJ8_hugeLength_7cf53 11 = .ok (.dup, 1) := by decide +kernel
theorem dJ8_hugeLength_7cf53_12 : decode cJ8_hugeLength_7cf53 12 = .ok (.new 89, 3) := by decide +kernel
theorem dJ8_hugeLength_7cf53_15 : decode cJ8_hugeLength_7cf53 15 = .ok (.dup, 1) := by decide +kernel
theorem dJ8_hugeLength_7cf53_16 : decode cJ8_hugeLength_7cf53 16 = .ok (.invokespecial 91, 3) := by decide +kernel
theorem dJ8_hugeLength_7cf53_19 : decode cJ8_hugeLength_7cf53 19 = .ok (.ldc 206, 2) := by decide +kernel
theorem dJ8_hugeLength_7cf53_21 : decode cJ8_hugeLength_7cf53 21 = .ok (.invokevirtual 94, 3) := by decide +kernel
theorem dJ8_hugeLength_7cf53_24 : decode cJ8_hugeLength_7cf53 24 = .ok (.iload_n 0, 1) := by decide +kernel
theorem dJ8_hugeLength_7cf53_25 : decode cJ8_hugeLength_7cf53 25 = .ok (.invokevirtual 98, 3) := by decide +kernel
theorem dJ8_hugeLength_7cf53_28 : decode cJ8_hugeLength_7cf53 28 = .ok (.ldc 208, 2) := by decide +kernel
theorem dJ8_hugeLength_7cf53_30 : decode cJ8_hugeLength_7cf53 30 = .ok (.invokevirtual 94, 3) := by decide +kernel
theorem dJ8_hugeLength_7cf53_33 : decode cJ8_hugeLength_7cf53 33 = .ok (.iload_n 1, 1) := by decide +kernel
theorem dJ8_hugeLength_7cf53_34 : decode cJ8_hugeLength_7cf53 34 = .ok (.invokevirtual 98, 3) := by decide +kernel
theorem dJ8_hugeLength_7cf53_37 : decode cJ8_hugeLength_7cf53 37 = .ok (.ldc 210, 2) := by decide +kernel
theorem dJ8_hugeLength_7cf53_39 : decode cJ8_hugeLength_7cf53 39 = .ok (.invokevirtual 94, 3) := by decide +kernel
theorem dJ8_hugeLength_7cf53_42 : decode cJ8_hugeLength_7cf53 42 = .ok (.invokevirtual 101, 3) := by decide +kernel
theorem dJ8_hugeLength_7cf53_45 : decode cJ8_hugeLength_7cf53 45 = .ok (.invokespecial 212, 3) := by decide +kernel
theorem dJ8_hugeLength_7cf53_48 : decode cJ8_hugeLength_7cf53 48 = .ok (.athrow, 1) := by decide +kernel
theorem dJ8_hugeLength_7cf53_49 : decode cJ8_hugeLength_7cf53 49 = .ok (.iload_n 2, 1) := by decide +kernel
theorem dJ8_hugeLength_7cf53_50 : decode cJ8_hugeLength_7cf53 50 = .ok (.ldc 200, 2) := by decide +kernel
theorem dJ8_hugeLength_7cf53_52 : decode cJ8_hugeLength_7cf53 52 = .ok (.if_icmp .gt 6, 3) := by decide +kernel
theorem dJ8_hugeLength_7cf53_55 : decode cJ8_hugeLength_7cf53 55 = .ok (.ldc 200, 2) := by decide +kernel
theorem dJ8_hugeLength_7cf53_57 : decode cJ8_hugeLength_7cf53 57 = .ok (.ireturn, 1) := by decide +kernel
theorem dJ8_hugeLength_7cf53_58 : decode cJ8_hugeLength_7cf53 58 = .ok (.iload_n 2, 1) := by decide +kernel
theorem dJ8_hugeLength_7cf53_59 : decode cJ8_hugeLength_7cf53 59 = .ok (.ireturn, 1) := by decide +kernel
theorem dJ3_checkIndex_8e157_0 : decode cJ3_checkIndex_8e157 0 = .ok (.iload_n 0, 1) := by decide +kernel
theorem dJ3_checkIndex_8e157_1 : decode cJ3_checkIndex_8e157 1 = .ok (.ifCond .lt 8, 3) := by decide +kernel
theorem dJ3_checkIndex_8e157_4 : decode cJ3_checkIndex_8e157 4 = .ok (.iload_n 0, 1) := by decide +kernel
theorem dJ3_checkIndex_8e157_5 : decode cJ3_checkIndex_8e157 5 = .ok (.iload_n 1, 1) := by decide +kernel
theorem dJ3_checkIndex_8e157_6 : decode cJ3_checkIndex_8e157 6 = .ok (.if_icmp .lt 10, 3) := by decide +kernel
theorem dJ3_checkIndex_8e157_9 : decode cJ3_checkIndex_8e157 9 = .ok (.aload_n 2, 1) := by decide +kernel
theorem dJ3_checkIndex_8e157_10 : decode cJ3_checkIndex_8e157 10 = .ok (.iload_n 0, 1) := by decide +kernel
theorem dJ3_checkIndex_8e157_11 : decode cJ3_checkIndex_8e157 11 = .ok (.iload_n 1, 1) := by decide +kernel
theorem dJ3_checkIndex_8e157_12 : decode cJ3_checkIndex_8e157 12 = .ok (.invokestatic 95, 3) := by decide +kernel
theorem dJ3_checkIndex_8e157_15 : decode cJ3_checkIndex_8e157 15 = .ok (.athrow, 1) := by decide +kernel
theorem dJ3_checkIndex_8e157_16 : decode cJ3_checkIndex_8e157 16 = .ok (.iload_n 0, 1) := by decide +kernel
theorem dJ3_checkIndex_8e157_17 : decode cJ3_checkIndex_8e157 17 = .ok (.ireturn, 1) := by decide +kernel
theorem dL_drawing_0 : decode cL_drawing 0 = .ok (.aload_n 1, 1) := by decide +kernel
theorem dL_drawing_1 : decode cL_drawing 1 = .ok (.iconst 0, 1) := by decide +kernel
theorem dL_drawing_2 : decode cL_drawing 2 = .ok (.aload_n 0, 1) := by decide +kernel
theorem dL_drawing_3 : decode cL_drawing 3 = .ok (.invokevirtual 7, 3) := by decide +kernel
theorem dL_drawing_6 : decode cL_drawing 6 = .ok (.i2l, 1) := by decide +kernel
theorem dL_drawing_7 : decode cL_drawing 7 = .ok (.lastore, 1) := by decide +kernel
theorem dL_drawing_8 : decode cL_drawing 8 = .ok (.goto 6, 3) := by decide +kernel
theorem dL_drawing_11 : decode cL_drawing 11 = .ok (.astore_n 2, 1) := by decide +kernel
theorem dL_drawing_12 : decode cL_drawing 12 = .ok (.iconst 1, 1) := by decide +kernel
theorem dL_drawing_13 : decode cL_drawing 13 = .ok (.ireturn, 1) := by decide +kernel
theorem dL_drawing_14 : decode cL_drawing 14 = .ok (.iconst 0, 1) := by decide +kernel
theorem dL_drawing_15 : decode cL_drawing 15 = .ok (.ireturn, 1) := by decide +kernel
theorem dL_stroke_0 : decode cL_stroke 0 = .ok (.aload 4, 2) := by decide +kernel
theorem dL_stroke_2 : decode cL_stroke 2 = .ok (.iconst 0, 1) := by decide +kernel
theorem dL_stroke_3 : decode cL_stroke 3 = .ok (.aload_n 0, 1) := by decide +kernel
theorem dL_stroke_4 : decode cL_stroke 4 = .ok (.iload_n 1, 1) := by decide +kernel
theorem dL_stroke_5 : decode cL_stroke 5 = .ok (.iload_n 2, 1) := by decide +kernel
theorem dL_stroke_6 : decode cL_stroke 6 = .ok (.iload_n 3, 1) := by decide +kernel
theorem dL_stroke_7 : decode cL_stroke 7 = .ok (.invokevirtual 15, 3) := by decide +kernel
theorem dL_stroke_10 : decode cL_stroke 10 = .ok (.i2l, 1) := by decide +kernel
theorem dL_stroke_11 : decode cL_stroke 11 = .ok (.lastore, 1) := by decide +kernel
theorem dL_stroke_12 : decode cL_stroke 12 = .ok (.goto 15, 3) := by decide +kernel
theorem dL_stroke_15 : decode cL_stroke 15 = .ok (.astore 5, 2) := by decide +kernel
theorem dL_stroke_17 : decode cL_stroke 17 = .ok (.iconst 1, 1) := by decide +kernel
theorem dL_stroke_18 : decode cL_stroke 18 = .ok (.ireturn, 1) := by decide +kernel
theorem dL_stroke_19 : decode cL_stroke 19 = .ok (.astore 5, 2) := by decide +kernel
theorem dL_stroke_21 : decode cL_stroke 21 = .ok (.iconst 2, 1) := by decide +kernel
theorem dL_stroke_22 : decode cL_stroke 22 = .ok (.ireturn, 1) := by decide +kernel
theorem dL_stroke_23 : decode cL_stroke 23 = .ok (.astore 5, 2) := by decide +kernel
theorem dL_stroke_25 : decode cL_stroke 25 = .ok (.iconst 3, 1) := by decide +kernel
theorem dL_stroke_26 : decode cL_stroke 26 = .ok (.ireturn, 1) := by decide +kernel
theorem dL_stroke_27 : decode cL_stroke 27 = .ok (.iconst 0, 1) := by decide +kernel
theorem dL_stroke_28 : decode cL_stroke 28 = .ok (.ireturn, 1) := by decide +kernel
theorem dL_finish_0 : decode cL_finish 0 = .ok (.aload_n 2, 1) := by decide +kernel
theorem dL_finish_1 : decode cL_finish 1 = .ok (.iconst 0, 1) := by decide +kernel
theorem dL_finish_2 : decode cL_finish 2 = .ok (.aload_n 0, 1) := by decide +kernel
theorem dL_finish_3 : decode cL_finish 3 = .ok (.iload_n 1, 1) := by decide +kernel
theorem dL_finish_4 : decode cL_finish 4 = .ok (.invokevirtual 23, 3) := by decide +kernel
theorem dL_finish_7 : decode cL_finish 7 = .ok (.i2l, 1) := by decide +kernel
theorem dL_finish_8 : decode cL_finish 8 = .ok (.lastore, 1) := by decide +kernel
theorem dL_finish_9 : decode cL_finish 9 = .ok (.goto 9, 3) := by decide +kernel
theorem dL_finish_12 : decode cL_finish 12 = .ok (.astore_n 3, 1) := by decide +kernel
theorem dL_finish_13 : decode cL_finish 13 = .ok (.iconst 1, 1) := by decide +kernel
theorem dL_finish_14 : decode cL_finish 14 = .ok (.ireturn, 1) := by decide +kernel
theorem dL_finish_15 : decode cL_finish 15 = .ok (.astore_n 3, 1) := by decide +kernel
theorem dL_finish_16 : decode cL_finish 16 = .ok (.iconst 2, 1) := by decide +kernel
theorem dL_finish_17 : decode cL_finish 17 = .ok (.ireturn, 1) := by decide +kernel
theorem dL_finish_18 : decode cL_finish 18 = .ok (.iconst 0, 1) := by decide +kernel
theorem dL_finish_19 : decode cL_finish 19 = .ok (.ireturn, 1) := by decide +kernel
theorem dL_redraw_0 : decode cL_redraw 0 = .ok (.aload_n 2, 1) := by decide +kernel
theorem dL_redraw_1 : decode cL_redraw 1 = .ok (.iconst 0, 1) := by decide +kernel
theorem dL_redraw_2 : decode cL_redraw 2 = .ok (.aload_n 0, 1) := by decide +kernel
theorem dL_redraw_3 : decode cL_redraw 3 = .ok (.iload_n 1, 1) := by decide +kernel
theorem dL_redraw_4 : decode cL_redraw 4 = .ok (.invokevirtual 27, 3) := by decide +kernel
theorem dL_redraw_7 : decode cL_redraw 7 = .ok (.i2l, 1) := by decide +kernel
theorem dL_redraw_8 : decode cL_redraw 8 = .ok (.lastore, 1) := by decide +kernel
theorem dL_redraw_9 : decode cL_redraw 9 = .ok (.goto 9, 3) := by decide +kernel
theorem dL_redraw_12 : decode cL_redraw 12 = .ok (.astore_n 3, 1) := by decide +kernel
theorem dL_redraw_13 : decode cL_redraw 13 = .ok (.iconst 1, 1) := by decide +kernel
theorem dL_redraw_14 : decode cL_redraw 14 = .ok (.ireturn, 1) := by decide +kernel
theorem dL_redraw_15 : decode cL_redraw 15 = .ok (.astore_n 3, 1) := by decide +kernel
theorem dL_redraw_16 : decode cL_redraw 16 = .ok (.iconst 2, 1) := by decide +kernel
theorem dL_redraw_17 : decode cL_redraw 17 = .ok (.ireturn, 1) := by decide +kernel
theorem dL_redraw_18 : decode cL_redraw 18 = .ok (.iconst 0, 1) := by decide +kernel
theorem dL_redraw_19 : decode cL_redraw 19 = .ok (.ireturn, 1) := by decide +kernel
theorem dL_ofDrawing_0 : decode cL_ofDrawing 0 = .ok (.aload_n 3, 1) := by decide +kernel
theorem dL_ofDrawing_1 : decode cL_ofDrawing 1 = .ok (.iconst 0, 1) := by decide +kernel
theorem dL_ofDrawing_2 : decode cL_ofDrawing 2 = .ok (.aload_n 0, 1) := by decide +kernel
theorem dL_ofDrawing_3 : decode cL_ofDrawing 3 = .ok (.iload_n 1, 1) := by decide +kernel
theorem dL_ofDrawing_4 : decode cL_ofDrawing 4 = .ok (.iload_n 2, 1) := by decide +kernel
theorem dL_ofDrawing_5 : decode cL_ofDrawing 5 = .ok (.invokevirtual 30, 3) := by decide +kernel
theorem dL_ofDrawing_8 : decode cL_ofDrawing 8 = .ok (.i2l, 1) := by decide +kernel
theorem dL_ofDrawing_9 : decode cL_ofDrawing 9 = .ok (.lastore, 1) := by decide +kernel
theorem dL_ofDrawing_10 : decode cL_ofDrawing 10 = .ok (.goto 11, 3) := by decide +kernel
theorem dL_ofDrawing_13 : decode cL_ofDrawing 13 = .ok (.astore 4, 2) := by decide +kernel
theorem dL_ofDrawing_15 : decode cL_ofDrawing 15 = .ok (.iconst 1, 1) := by decide +kernel
theorem dL_ofDrawing_16 : decode cL_ofDrawing 16 = .ok (.ireturn, 1) := by decide +kernel
theorem dL_ofDrawing_17 : decode cL_ofDrawing 17 = .ok (.astore 4, 2) := by decide +kernel
theorem dL_ofDrawing_19 : decode cL_ofDrawing 19 = .ok (.iconst 2, 1) := by decide +kernel
theorem dL_ofDrawing_20 : decode cL_ofDrawing 20 = .ok (.ireturn, 1) := by decide +kernel
theorem dL_ofDrawing_21 : decode cL_ofDrawing 21 = .ok (.iconst 0, 1) := by decide +kernel
theorem dL_ofDrawing_22 : decode cL_ofDrawing 22 = .ok (.ireturn, 1) := by decide +kernel
theorem dL_length_0 : decode cL_length 0 = .ok (.aload_n 2, 1) := by decide +kernel
theorem dL_length_1 : decode cL_length 1 = .ok (.iconst 0, 1) := by decide +kernel
theorem dL_length_2 : decode cL_length 2 = .ok (.aload_n 0, 1) := by decide +kernel
theorem dL_length_3 : decode cL_length 3 = .ok (.iload_n 1, 1) := by decide +kernel
theorem dL_length_4 : decode cL_length 4 = .ok (.invokevirtual 34, 3) := by decide +kernel
theorem dL_length_7 : decode cL_length 7 = .ok (.f2d, 1) := by decide +kernel
theorem dL_length_8 : decode cL_length 8 = .ok (.dastore, 1) := by decide +kernel
theorem dL_length_9 : decode cL_length 9 = .ok (.goto 6, 3) := by decide +kernel
theorem dL_length_12 : decode cL_length 12 = .ok (.astore_n 3, 1) := by decide +kernel
theorem dL_length_13 : decode cL_length 13 = .ok (.iconst 1, 1) := by decide +kernel
theorem dL_length_14 : decode cL_length 14 = .ok (.ireturn, 1) := by decide +kernel
theorem dL_length_15 : decode cL_length 15 = .ok (.iconst 0, 1) := by decide +kernel
theorem dL_length_16 : decode cL_length 16 = .ok (.ireturn, 1) := by decide +kernel
theorem dL_sheet_0 : decode cL_sheet 0 = .ok (.aload_n 3, 1) := by decide +kernel
theorem dL_sheet_1 : decode cL_sheet 1 = .ok (.iconst 0, 1) := by decide +kernel
theorem dL_sheet_2 : decode cL_sheet 2 = .ok (.aload_n 0, 1) := by decide +kernel
theorem dL_sheet_3 : decode cL_sheet 3 = .ok (.iload_n 1, 1) := by decide +kernel
theorem dL_sheet_4 : decode cL_sheet 4 = .ok (.iload_n 2, 1) := by decide +kernel
theorem dL_sheet_5 : decode cL_sheet 5 = .ok (.invokevirtual 38, 3) := by decide +kernel
theorem dL_sheet_8 : decode cL_sheet 8 = .ok (.i2l, 1) := by decide +kernel
theorem dL_sheet_9 : decode cL_sheet 9 = .ok (.lastore, 1) := by decide +kernel
theorem dL_sheet_10 : decode cL_sheet 10 = .ok (.goto 11, 3) := by decide +kernel
theorem dL_sheet_13 : decode cL_sheet 13 = .ok (.astore 4, 2) := by decide +kernel
theorem dL_sheet_15 : decode cL_sheet 15 = .ok (.iconst 1, 1) := by decide +kernel
theorem dL_sheet_16 : decode cL_sheet 16 = .ok (.ireturn, 1) := by decide +kernel
theorem dL_sheet_17 : decode cL_sheet 17 = .ok (.astore 4, 2) := by decide +kernel
theorem dL_sheet_19 : decode cL_sheet 19 = .ok (.iconst 2, 1) := by decide +kernel
theorem dL_sheet_20 : decode cL_sheet 20 = .ok (.ireturn, 1) := by decide +kernel
theorem dL_sheet_21 : decode cL_sheet 21 = .ok (.iconst 0, 1) := by decide +kernel
theorem dL_sheet_22 : decode cL_sheet 22 = .ok (.ireturn, 1) := by decide +kernel
theorem dL_job_0 : decode cL_job 0 = .ok (.aload_n 3, 1) := by decide +kernel
theorem dL_job_1 : decode cL_job 1 = .ok (.iconst 0, 1) := by decide +kernel
theorem dL_job_2 : decode cL_job 2 = .ok (.aload_n 0, 1) := by decide +kernel
theorem dL_job_3 : decode cL_job 3 = .ok (.iload_n 1, 1) := by decide +kernel
theorem dL_job_4 : decode cL_job 4 = .ok (.iload_n 2, 1) := by decide +kernel
theorem dL_job_5 : decode cL_job 5 = .ok (.invokevirtual 41, 3) := by decide +kernel
theorem dL_job_8 : decode cL_job 8 = .ok (.i2l, 1) := by decide +kernel
theorem dL_job_9 : decode cL_job 9 = .ok (.lastore, 1) := by decide +kernel
theorem dL_job_10 : decode cL_job 10 = .ok (.goto 15, 3) := by decide +kernel
theorem dL_job_13 : decode cL_job 13 = .ok (.astore 4, 2) := by decide +kernel
theorem dL_job_15 : decode cL_job 15 = .ok (.iconst 1, 1) := by decide +kernel
theorem dL_job_16 : decode cL_job 16 = .ok (.ireturn, 1) := by decide +kernel
theorem dL_job_17 : decode cL_job 17 = .ok (.astore 4, 2) := by decide +kernel
theorem dL_job_19 : decode cL_job 19 = .ok (.iconst 2, 1) := by decide +kernel
theorem dL_job_20 : decode cL_job 20 = .ok (.ireturn, 1) := by decide +kernel
theorem dL_job_21 : decode cL_job 21 = .ok (.astore 4, 2) := by decide +kernel
theorem dL_job_23 : decode cL_job 23 = .ok (.iconst 3, 1) := by decide +kernel
theorem dL_job_24 : decode cL_job 24 = .ok (.ireturn, 1) := by decide +kernel
theorem dL_job_25 : decode cL_job 25 = .ok (.iconst 0, 1) := by decide +kernel
theorem dL_job_26 : decode cL_job 26 = .ok (.ireturn, 1) := by decide +kernel
theorem dL_cancel_0 : decode cL_cancel 0 = .ok (.aload_n 2, 1) := by decide +kernel
theorem dL_cancel_1 : decode cL_cancel 1 = .ok (.iconst 0, 1) := by decide +kernel
theorem dL_cancel_2 : decode cL_cancel 2 = .ok (.aload_n 0, 1) := by decide +kernel
theorem dL_cancel_3 : decode cL_cancel 3 = .ok (.iload_n 1, 1) := by decide +kernel
theorem dL_cancel_4 : decode cL_cancel 4 = .ok (.invokevirtual 44, 3) := by decide +kernel
theorem dL_cancel_7 : decode cL_cancel 7 = .ok (.i2l, 1) := by decide +kernel
theorem dL_cancel_8 : decode cL_cancel 8 = .ok (.lastore, 1) := by decide +kernel
theorem dL_cancel_9 : decode cL_cancel 9 = .ok (.goto 9, 3) := by decide +kernel
theorem dL_cancel_12 : decode cL_cancel 12 = .ok (.astore_n 3, 1) := by decide +kernel
theorem dL_cancel_13 : decode cL_cancel 13 = .ok (.iconst 1, 1) := by decide +kernel
theorem dL_cancel_14 : decode cL_cancel 14 = .ok (.ireturn, 1) := by decide +kernel
theorem dL_cancel_15 : decode cL_cancel 15 = .ok (.astore_n 3, 1) := by decide +kernel
theorem dL_cancel_16 : decode cL_cancel 16 = .ok (.iconst 2, 1) := by decide +kernel
theorem dL_cancel_17 : decode cL_cancel 17 = .ok (.ireturn, 1) := by decide +kernel
theorem dL_cancel_18 : decode cL_cancel 18 = .ok (.iconst 0, 1) := by decide +kernel
theorem dL_cancel_19 : decode cL_cancel 19 = .ok (.ireturn, 1) := by decide +kernel
theorem dL_cut_0 : decode cL_cut 0 = .ok (.aload_n 2, 1) := by decide +kernel
theorem dL_cut_1 : decode cL_cut 1 = .ok (.iconst 0, 1) := by decide +kernel
theorem dL_cut_2 : decode cL_cut 2 = .ok (.aload_n 0, 1) := by decide +kernel
theorem dL_cut_3 : decode cL_cut 3 = .ok (.iload_n 1, 1) := by decide +kernel
theorem dL_cut_4 : decode cL_cut 4 = .ok (.invokevirtual 47, 3) := by decide +kernel
theorem dL_cut_7 : decode cL_cut 7 = .ok (.i2l, 1) := by decide +kernel
theorem dL_cut_8 : decode cL_cut 8 = .ok (.lastore, 1) := by decide +kernel
theorem dL_cut_9 : decode cL_cut 9 = .ok (.goto 9, 3) := by decide +kernel
theorem dL_cut_12 : decode cL_cut 12 = .ok (.astore_n 3, 1) := by decide +kernel
theorem dL_cut_13 : decode cL_cut 13 = .ok (.iconst 1, 1) := by decide +kernel
theorem dL_cut_14 : decode cL_cut 14 = .ok (.ireturn, 1) := by decide +kernel
theorem dL_cut_15 : decode cL_cut 15 = .ok (.astore_n 3, 1) := by decide +kernel
theorem dL_cut_16 : decode cL_cut 16 = .ok (.iconst 2, 1) := by decide +kernel
theorem dL_cut_17 : decode cL_cut 17 = .ok (.ireturn, 1) := by decide +kernel
theorem dL_cut_18 : decode cL_cut 18 = .ok (.iconst 0, 1) := by decide +kernel
theorem dL_cut_19 : decode cL_cut 19 = .ok (.ireturn, 1) := by decide +kernel
theorem dL_ofJob_0 : decode cL_ofJob 0 = .ok (.aload_n 3, 1) := by decide +kernel
theorem dL_ofJob_1 : decode cL_ofJob 1 = .ok (.iconst 0, 1) := by decide +kernel
theorem dL_ofJob_2 : decode cL_ofJob 2 = .ok (.aload_n 0, 1) := by decide +kernel
theorem dL_ofJob_3 : decode cL_ofJob 3 = .ok (.iload_n 1, 1) := by decide +kernel
theorem dL_ofJob_4 : decode cL_ofJob 4 = .ok (.iload_n 2, 1) := by decide +kernel
theorem dL_ofJob_5 : decode cL_ofJob 5 = .ok (.invokevirtual 50, 3) := by decide +kernel
theorem dL_ofJob_8 : decode cL_ofJob 8 = .ok (.i2l, 1) := by decide +kernel
theorem dL_ofJob_9 : decode cL_ofJob 9 = .ok (.lastore, 1) := by decide +kernel
theorem dL_ofJob_10 : decode cL_ofJob 10 = .ok (.goto 11, 3) := by decide +kernel
theorem dL_ofJob_13 : decode cL_ofJob 13 = .ok (.astore 4, 2) := by decide +kernel
theorem dL_ofJob_15 : decode cL_ofJob 15 = .ok (.iconst 1, 1) := by decide +kernel
theorem dL_ofJob_16 : decode cL_ofJob 16 = .ok (.ireturn, 1) := by decide +kernel
theorem dL_ofJob_17 : decode cL_ofJob 17 = .ok (.astore 4, 2) := by decide +kernel
theorem dL_ofJob_19 : decode cL_ofJob 19 = .ok (.iconst 2, 1) := by decide +kernel
theorem dL_ofJob_20 : decode cL_ofJob 20 = .ok (.ireturn, 1) := by decide +kernel
theorem dL_ofJob_21 : decode cL_ofJob 21 = .ok (.iconst 0, 1) := by decide +kernel
theorem dL_ofJob_22 : decode cL_ofJob 22 = .ok (.ireturn, 1) := by decide +kernel
theorem dL_where_0 : decode cL_where 0 = .ok (.aload 4, 2) := by decide +kernel
theorem dL_where_2 : decode cL_where 2 = .ok (.iconst 0, 1) := by decide +kernel
theorem dL_where_3 : decode cL_where 3 = .ok (.aload_n 0, 1) := by decide +kernel
theorem dL_where_4 : decode cL_where 4 = .ok (.iload_n 1, 1) := by decide +kernel
theorem dL_where_5 : decode cL_where 5 = .ok (.iload_n 2, 1) := by decide +kernel
theorem dL_where_6 : decode cL_where 6 = .ok (.iload_n 3, 1) := by decide +kernel
theorem dL_where_7 : decode cL_where 7 = .ok (.invokevirtual 53, 3) := by decide +kernel
theorem dL_where_10 : decode cL_where 10 = .ok (.i2l, 1) := by decide +kernel
theorem dL_where_11 : decode cL_where 11 = .ok (.lastore, 1) := by decide +kernel
theorem dL_where_12 : decode cL_where 12 = .ok (.goto 11, 3) := by decide +kernel
theorem dL_where_15 : decode cL_where 15 = .ok (.astore 5, 2) := by decide +kernel
theorem dL_where_17 : decode cL_where 17 = .ok (.iconst 1, 1) := by decide +kernel
theorem dL_where_18 : decode cL_where 18 = .ok (.ireturn, 1) := by decide +kernel
theorem dL_where_19 : decode cL_where 19 = .ok (.astore 5, 2) := by decide +kernel
theorem dL_where_21 : decode cL_where 21 = .ok (.iconst 2, 1) := by decide +kernel
theorem dL_where_22 : decode cL_where 22 = .ok (.ireturn, 1) := by decide +kernel
theorem dL_where_23 : decode cL_where 23 = .ok (.iconst 0, 1) := by decide +kernel
theorem dL_where_24 : decode cL_where 24 = .ok (.ireturn, 1) := by decide +kernel
theorem dL_free_0 : decode cL_free 0 = .ok (.aload_n 2, 1) := by decide +kernel
theorem dL_free_1 : decode cL_free 1 = .ok (.iconst 0, 1) := by decide +kernel
theorem dL_free_2 : decode cL_free 2 = .ok (.aload_n 0, 1) := by decide +kernel
theorem dL_free_3 : decode cL_free 3 = .ok (.iload_n 1, 1) := by decide +kernel
theorem dL_free_4 : decode cL_free 4 = .ok (.invokevirtual 56, 3) := by decide +kernel
theorem dL_free_7 : decode cL_free 7 = .ok (.i2l, 1) := by decide +kernel
theorem dL_free_8 : decode cL_free 8 = .ok (.lastore, 1) := by decide +kernel
theorem dL_free_9 : decode cL_free 9 = .ok (.goto 6, 3) := by decide +kernel
theorem dL_free_12 : decode cL_free 12 = .ok (.astore_n 3, 1) := by decide +kernel
theorem dL_free_13 : decode cL_free 13 = .ok (.iconst 1, 1) := by decide +kernel
theorem dL_free_14 : decode cL_free 14 = .ok (.ireturn, 1) := by decide +kernel
theorem dL_free_15 : decode cL_free 15 = .ok (.iconst 0, 1) := by decide +kernel
theorem dL_free_16 : decode cL_free 16 = .ok (.ireturn, 1) := by decide +kernel
theorem dL_law_0 : decode cL_law 0 = .ok (.new 8, 3) := by decide +kernel
theorem dL_law_3 : decode cL_law 3 = .ok (.dup, 1) := by decide +kernel
theorem dL_law_4 : decode cL_law 4 = .ok (.invokespecial 59, 3) := by decide +kernel
theorem dL_law_7 : decode cL_law 7 = .ok (.astore_n 1, 1) := by decide +kernel
theorem dL_law_8 : decode cL_law 8 = .ok (.new 60, 3) := by decide +kernel
theorem dL_law_11 : decode cL_law 11 = .ok (.dup, 1) := by decide +kernel
theorem dL_law_12 : decode cL_law 12 = .ok (.invokespecial 62, 3) := by decide +kernel
theorem dL_law_15 : decode cL_law 15 = .ok (.astore_n 2, 1) := by decide +kernel
theorem dL_law_16 : decode cL_law 16 = .ok (.iconst 1, 1) := by decide +kernel
theorem dL_law_17 : decode cL_law 17 = .ok (.newarray .long, 2) := by decide +kernel
theorem dL_law_19 : decode cL_law 19 = .ok (.astore_n 3, 1) := by decide +kernel
theorem dL_law_20 : decode cL_law 20 = .ok (.iconst 1, 1) := by decide +kernel
theorem dL_law_21 : decode cL_law 21 = .ok (.newarray .double, 2) := by decide +kernel
theorem dL_law_23 : decode cL_law 23 = .ok (.astore 4, 2) := by decide +kernel
theorem dL_law_25 : decode cL_law 25 = .ok (.iconst 0, 1) := by decide +kernel
theorem dL_law_26 : decode cL_law 26 = .ok (.istore 5, 2) := by decide +kernel
theorem dL_law_28 : decode cL_law 28 = .ok (.iload 5, 2) := by decide +kernel
theorem dL_law_30 : decode cL_law 30 = .ok (.aload_n 0, 1) := by decide +kernel
theorem dL_law_31 : decode cL_law 31 = .ok (.arraylength, 1) := by decide +kernel
theorem dL_law_32 : decode cL_law 32 = .ok (.iconst 4, 1) := by decide +kernel
theorem dL_law_33 : decode cL_law 33 = .ok (.isub, 1) := by decide +kernel
theorem dL_law_34 : decode cL_law 34 = .ok (.if_icmp .gt 1029, 3) := by decide +kernel
theorem dL_law_37 : decode cL_law 37 = .ok (.aload_n 0, 1) := by decide +kernel
theorem dL_law_38 : decode cL_law 38 = .ok (.iload 5, 2) := by decide +kernel
theorem dL_law_40 : decode cL_law 40 = .ok (.iaload, 1) := by decide +kernel
theorem dL_law_41 : decode cL_law 41 = .ok (.bipush 15, 2) := by decide +kernel
theorem dL_law_43 : decode cL_law 43 = .ok (.iand, 1) := by decide +kernel
theorem dL_law_44 : decode cL_law 44 = .ok (.tableswitch 1013 0 15 #[80, 124, 204, 260, 316, 384, 462, 530, 598, 654, 710, 778, 858, 914, 927, 970], 80) := by decide +kernel
theorem dL_law_124 : decode cL_law 124 = .ok (.aload_n 1, 1) := by decide +kernel
theorem dL_law_125 : decode cL_law 125 = .ok (.aload_n 3, 1) := by decide +kernel
theorem dL_law_126 : decode cL_law 126 = .ok (.invokestatic 63, 3) := by decide +kernel
theorem dL_law_129 : decode cL_law 129 = .ok (.istore 6, 2) := by decide +kernel
theorem dL_law_131 : decode cL_law 131 = .ok (.aload_n 2, 1) := by decide +kernel
theorem dL_law_132 : decode cL_law 132 = .ok (.invokevirtual 68, 3) := by decide +kernel
theorem dL_law_135 : decode cL_law 135 = .ok (.istore 7, 2) := by decide +kernel
theorem dL_law_137 : decode cL_law 137 = .ok (.aload_n 2, 1) := by decide +kernel
theorem dL_law_138 : decode cL_law 138 = .ok (.invokevirtual 69, 3) := by decide +kernel
theorem dL_law_141 : decode cL_law 141 = .ok (.iload 6, 2) := by decide +kernel
theorem dL_law_143 : decode cL_law 143 = .ok (.if_icmp .eq 5, 3) := by decide +kernel
theorem dL_law_146 : decode cL_law 146 = .ok (.iconst 0, 1) := by decide +kernel
theorem dL_law_147 : decode cL_law 147 = .ok (.ireturn, 1) := by decide +kernel
theorem dL_law_148 : decode cL_law 148 = .ok (.iload 6, 2) := by decide +kernel
theorem dL_law_150 : decode cL_law 150 = .ok (.ifCond .ne 15, 3) := by decide +kernel
theorem dL_law_153 : decode cL_law 153 = .ok (.aload_n 3, 1) := by decide +kernel
theorem dL_law_154 : decode cL_law 154 = .ok (.iconst 0, 1) := by decide +kernel
theorem dL_law_155 : decode cL_law 155 = .ok (.laload, 1) := by decide +kernel
theorem dL_law_156 : decode cL_law 156 = .ok (.iload 7, 2) := by decide +kernel
theorem dL_law_158 : decode cL_law 158 = .ok (.i2l, 1) := by decide +kernel
theorem dL_law_159 : decode cL_law 159 = .ok (.lcmp, 1) := by decide +kernel
theorem dL_law_160 : decode cL_law 160 = .ok (.ifCond .eq 5, 3) := by decide +kernel
theorem dL_law_163 : decode cL_law 163 = .ok (.iconst 0, 1) := by decide +kernel
theorem dL_law_164 : decode cL_law 164 = .ok (.ireturn, 1) := by decide +kernel
theorem dL_law_165 : decode cL_law 165 = .ok (.goto 892, 3) := by decide +kernel
theorem dL_law_168 : decode cL_law 168 = .ok (.aload_n 1, 1) := by decide +kernel
theorem dL_law_169 : decode cL_law 169 = .ok (.aload_n 0, 1) := by decide +kernel
theorem dL_law_170 : decode cL_law 170 = .ok (.iload 5, 2) := by decide +kernel
theorem dL_law_172 : decode cL_law 172 = .ok (.iconst 1, 1) := by decide +kernel
theorem dL_law_173 : decode cL_law 173 = .ok (.iadd, 1) := by decide +kernel
theorem dL_law_174 : decode cL_law 174 = .ok (.iaload, 1) := by decide +kernel
theorem dL_law_175 : decode cL_law 175 = .ok (.aload_n 0, 1) := by decide +kernel
theorem dL_law_176 : decode cL_law 176 = .ok (.iload 5, 2) := by decide +kernel
theorem dL_law_178 : decode cL_law 178 = .ok (.iconst 2, 1) := by decide +kernel
theorem dL_law_179 : decode cL_law 179 = .ok (.iadd, 1) := by decide +kernel
theorem dL_law_180 : decode cL_law 180 = .ok (.iaload, 1) := by decide +kernel
theorem dL_law_181 : decode cL_law 181 = .ok (.aload_n 0, 1) := by decide +kernel
theorem dL_law_182 : decode cL_law 182 = .ok (.iload 5, 2) := by decide +kernel
theorem dL_law_184 : decode cL_law 184 = .ok (.iconst 3, 1) := by decide +kernel
theorem dL_law_185 : decode cL_law 185 = .ok (.iadd, 1) := by decide +kernel
theorem dL_law_186 : decode cL_law 186 = .ok (.iaload, 1) := by decide +kernel
theorem dL_law_187 : decode cL_law 187 = .ok (.aload_n 3, 1) := by decide +kernel
theorem dL_law_188 : decode cL_law 188 = .ok (.invokestatic 72, 3) := by decide +kernel
theorem dL_law_191 : decode cL_law 191 = .ok (.istore 6, 2) := by decide +kernel
theorem dL_law_193 : decode cL_law 193 = .ok (.aload_n 2, 1) := by decide +kernel
theorem dL_law_194 : decode cL_law 194 = .ok (.aload_n 0, 1) := by decide +kernel
theorem dL_law_195 : decode cL_law 195 = .ok (.iload 5, 2) := by decide +kernel
theorem dL_law_197 : decode cL_law 197 = .ok (.iconst 1, 1) := by decide +kernel
theorem dL_law_198 : decode cL_law 198 = .ok (.iadd, 1) := by decide +kernel
theorem dL_law_199 : decode cL_law 199 = .ok (.iaload, 1) := by decide +kernel
theorem dL_law_200 : decode cL_law 200 = .ok (.aload_n 0, 1) := by decide +kernel
theorem dL_law_201 : decode cL_law 201 = .ok (.iload 5, 2) := by decide +kernel
theorem dL_law_203 : decode cL_law 203 = .ok (.iconst 2, 1) := by decide +kernel
theorem dL_law_204 : decode cL_law 204 = .ok (.iadd, 1) := by decide +kernel
theorem dL_law_205 : decode cL_law 205 = .ok (.iaload, 1) := by decide +kernel
theorem dL_law_206 : decode cL_law 206 = .ok (.aload_n 0, 1) := by decide +kernel
theorem dL_law_207 : decode cL_law 207 = .ok (.iload 5, 2) := by decide +kernel
theorem dL_law_209 : decode cL_law 209 = .ok (.iconst 3, 1) := by decide +kernel
theorem dL_law_210 : decode cL_law 210 = .ok (.iadd, 1) := by decide +kernel
theorem dL_law_211 : decode cL_law 211 = .ok (.iaload, 1) := by decide +kernel
theorem dL_law_212 : decode cL_law 212 = .ok (.invokevirtual 75, 3) := by decide +kernel
theorem dL_law_215 : decode cL_law 215 = .ok (.istore 7, 2) := by decide +kernel
theorem dL_law_217 : decode cL_law 217 = .ok (.aload_n 2, 1) := by decide +kernel
theorem dL_law_218 : decode cL_law 218 = .ok (.invokevirtual 69, 3) := by decide +kernel
theorem dL_law_221 : decode cL_law 221 = .ok (.iload 6, 2) := by decide +kernel
theorem dL_law_223 : decode cL_law 223 = .ok (.if_icmp .eq 5, 3) := by decide +kernel
theorem dL_law_226 : decode cL_law 226 = .ok (.iconst 0, 1) := by decide +kernel
theorem dL_law_227 : decode cL_law 227 = .ok (.ireturn, 1) := by decide +kernel
theorem dL_law_228 : decode cL_law 228 = .ok (.iload 6, 2) := by decide +kernel
theorem dL_law_230 : decode cL_law 230 = .ok (.ifCond .ne 15, 3) := by decide +kernel
theorem dL_law_233 : decode cL_law 233 = .ok (.aload_n 3, 1) := by decide +kernel
theorem dL_law_234 : decode cL_law 234 = .ok (.iconst 0, 1) := by decide +kernel
theorem dL_law_235 : decode cL_law 235 = .ok (.laload, 1) := by decide +kernel
theorem dL_law_236 : decode cL_law 236 = .ok (.iload 7, 2) := by decide +kernel
theorem dL_law_238 : decode cL_law 238 = .ok (.i2l, 1) := by decide +kernel
theorem dL_law_239 : decode cL_law 239 = .ok (.lcmp, 1) := by decide +kernel
theorem dL_law_240 : decode cL_law 240 = .ok (.ifCond .eq 5, 3) := by decide +kernel
theorem dL_law_243 : decode cL_law 243 = .ok (.iconst 0, 1) := by decide +kernel
theorem dL_law_244 : decode cL_law 244 = .ok (.ireturn, 1) := by decide +kernel
theorem dL_law_245 : decode cL_law 245 = .ok (.goto 812, 3) := by decide +kernel
theorem dL_law_248 : decode cL_law 248 = .ok (.aload_n 1, 1) := by decide +kernel
theorem dL_law_249 : decode cL_law 249 = .ok (.aload_n 0, 1) := by decide +kernel
theorem dL_law_250 : decode cL_law 250 = .ok (.iload 5, 2) := by decide +kernel
theorem dL_law_252 : decode cL_law 252 = .ok (.iconst 1, 1) := by decide +kernel
theorem dL_law_253 : decode cL_law 253 = .ok (.iadd, 1) := by decide +kernel
theorem dL_law_254 : decode cL_law 254 = .ok (.iaload, 1) := by decide +kernel
theorem dL_law_255 : decode cL_law 255 = .ok (.aload_n 3, 1) := by decide +kernel
theorem dL_law_256 : decode cL_law 256 = .ok (.invokestatic 76, 3) := by decide +kernel
theorem dL_law_259 : decode cL_law 259 = .ok (.istore 6, 2) := by decide +kernel
theorem dL_law_261 : decode cL_law 261 = .ok (.aload_n 2, 1) := by decide +kernel
theorem dL_law_262 : decode cL_law 262 = .ok (.aload_n 0, 1) := by decide +kernel
theorem dL_law_263 : decode cL_law 263 = .ok (.iload 5, 2) := by decide +kernel
theorem dL_law_265 : decode cL_law 265 = .ok (.iconst 1, 1) := by decide +kernel
theorem dL_law_266 : decode cL_law 266 = .ok (.iadd, 1) := by decide +kernel
theorem dL_law_267 : decode cL_law 267 = .ok (.iaload, 1) := by decide +kernel
theorem dL_law_268 : decode cL_law 268 = .ok (.invokevirtual 79, 3) := by decide +kernel
theorem dL_law_271 : decode cL_law 271 = .ok (.istore 7, 2) := by decide +kernel
theorem dL_law_273 : decode cL_law 273 = .ok (.aload_n 2, 1) := by decide +kernel
theorem dL_law_274 : decode cL_law 274 = .ok (.invokevirtual 69, 3) := by decide +kernel
theorem dL_law_277 : decode cL_law 277 = .ok (.iload 6, 2) := by decide +kernel
theorem dL_law_279 : decode cL_law 279 = .ok (.if_icmp .eq 5, 3) := by decide +kernel
theorem dL_law_282 : decode cL_law 282 = .ok (.iconst 0, 1) := by decide +kernel
theorem dL_law_283 : decode cL_law 283 = .ok (.ireturn, 1) := by decide +kernel
theorem dL_law_284 : decode cL_law 284 = .ok (.iload 6, 2) := by decide +kernel
theorem dL_law_286 : decode cL_law 286 = .ok (.ifCond .ne 15, 3) := by decide +kernel
theorem dL_law_289 : decode cL_law 289 = .ok (.aload_n 3, 1) := by decide +kernel
theorem dL_law_290 : decode cL_law 290 = .ok (.iconst 0, 1) := by decide +kernel
theorem dL_law_291 : decode cL_law 291 = .ok (.laload, 1) := by decide +kernel
theorem dL_law_292 : decode cL_law 292 = .ok (.iload 7, 2) := by decide +kernel
theorem dL_law_294 : decode cL_law 294 = .ok (.i2l, 1) := by decide +kernel
theorem dL_law_295 : decode cL_law 295 = .ok (.lcmp, 1) := by decide +kernel
theorem dL_law_296 : decode cL_law 296 = .ok (.ifCond .eq 5, 3) := by decide +kernel
theorem dL_law_299 : decode cL_law 299 = .ok (.iconst 0, 1) := by decide +kernel
theorem dL_law_300 : decode cL_law 300 = .ok (.ireturn, 1) := by decide +kernel
theorem dL_law_301 : decode cL_law 301 = .ok (.goto 756, 3) := by decide +kernel
theorem dL_law_304 : decode cL_law 304 = .ok (.aload_n 1, 1) := by decide +kernel
theorem dL_law_305 : decode cL_law 305 = .ok (.aload_n 0, 1) := by decide +kernel
theorem dL_law_306 : decode cL_law 306 = .ok (.iload 5, 2) := by decide +kernel
theorem dL_law_308 : decode cL_law 308 = .ok (.iconst 1, 1) := by decide +kernel
theorem dL_law_309 : decode cL_law 309 = .ok (.iadd, 1) := by decide +kernel
theorem dL_law_310 : decode cL_law 310 = .ok (.iaload, 1) := by decide +kernel
theorem dL_law_311 : decode cL_law 311 = .ok (.aload_n 3, 1) := by decide +kernel
theorem dL_law_312 : decode cL_law 312 = .ok (.invokestatic 80, 3) := by decide +kernel
theorem dL_law_315 : decode cL_law 315 = .ok (.istore 6, 2) := by decide +kernel
theorem dL_law_317 : decode cL_law 317 = .ok (.aload_n 2, 1) := by decide +kernel
theorem dL_law_318 : decode cL_law 318 = .ok (.aload_n 0, 1) := by decide +kernel
theorem dL_law_319 : decode cL_law 319 = .ok (.iload 5, 2) := by decide +kernel
theorem dL_law_321 : decode cL_law 321 = .ok (.iconst 1, 1) := by decide +kernel
theorem dL_law_322 : decode cL_law 322 = .ok (.iadd, 1) := by decide +kernel
theorem dL_law_323 : decode cL_law 323 = .ok (.iaload, 1) := by decide +kernel
theorem dL_law_324 : decode cL_law 324 = .ok (.invokevirtual 82, 3) := by decide +kernel
theorem dL_law_327 : decode cL_law 327 = .ok (.istore 7, 2) := by decide +kernel
theorem dL_law_329 : decode cL_law 329 = .ok (.aload_n 2, 1) := by decide +kernel
theorem dL_law_330 : decode cL_law 330 = .ok (.invokevirtual 69, 3) := by decide +kernel
theorem dL_law_333 : decode cL_law 333 = .ok (.iload 6, 2) := by decide +kernel
theorem dL_law_335 : decode cL_law 335 = .ok (.if_icmp .eq 5, 3) := by decide +kernel
theorem dL_law_338 : decode cL_law 338 = .ok (.iconst 0, 1) := by decide +kernel
theorem dL_law_339 : decode cL_law 339 = .ok (.ireturn, 1) := by decide +kernel
theorem dL_law_340 : decode cL_law 340 = .ok (.iload 6, 2) := by decide +kernel
theorem dL_law_342 : decode cL_law 342 = .ok (.ifCond .ne 15, 3) := by decide +kernel
theorem dL_law_345 : decode cL_law 345 = .ok (.aload_n 3, 1) := by decide +kernel
theorem dL_law_346 : decode cL_law 346 = .ok (.iconst 0, 1) := by decide +kernel
theorem dL_law_347 : decode cL_law 347 = .ok (.laload, 1) := by decide +kernel
theorem dL_law_348 : decode cL_law 348 = .ok (.iload 7, 2) := by decide +kernel
theorem dL_law_350 : decode cL_law 350 = .ok (.i2l, 1) := by decide +kernel
theorem dL_law_351 : decode cL_law 351 = .ok (.lcmp, 1) := by decide +kernel
theorem dL_law_352 : decode cL_law 352 = .ok (.ifCond .eq 5, 3) := by decide +kernel
theorem dL_law_355 : decode cL_law 355 = .ok (.iconst 0, 1) := by decide +kernel
theorem dL_law_356 : decode cL_law 356 = .ok (.ireturn, 1) := by decide +kernel
theorem dL_law_357 : decode cL_law 357 = .ok (.goto 700, 3) := by decide +kernel
theorem dL_law_360 : decode cL_law 360 = .ok (.aload_n 1, 1) := by decide +kernel
theorem dL_law_361 : decode cL_law 361 = .ok (.aload_n 0, 1) := by decide +kernel
theorem dL_law_362 : decode cL_law 362 = .ok (.iload 5, 2) := by decide +kernel
theorem dL_law_364 : decode cL_law 364 = .ok (.iconst 1, 1) := by decide +kernel
theorem dL_law_365 : decode cL_law 365 = .ok (.iadd, 1) := by decide +kernel
theorem dL_law_366 : decode cL_law 366 = .ok (.iaload, 1) := by decide +kernel
theorem dL_law_367 : decode cL_law 367 = .ok (.aload_n 0, 1) := by decide +kernel
theorem dL_law_368 : decode cL_law 368 = .ok (.iload 5, 2) := by decide +kernel
theorem dL_law_370 : decode cL_law 370 = .ok (.iconst 2, 1) := by decide +kernel
theorem dL_law_371 : decode cL_law 371 = .ok (.iadd, 1) := by decide +kernel
theorem dL_law_372 : decode cL_law 372 = .ok (.iaload, 1) := by decide +kernel
theorem dL_law_373 : decode cL_law 373 = .ok (.aload_n 3, 1) := by decide +kernel
theorem dL_law_374 : decode cL_law 374 = .ok (.invokestatic 83, 3) := by decide +kernel
theorem dL_law_377 : decode cL_law 377 = .ok (.istore 6, 2) := by decide +kernel
theorem dL_law_379 : decode cL_law 379 = .ok (.aload_n 2, 1) := by decide +kernel
theorem dL_law_380 : decode cL_law 380 = .ok (.aload_n 0, 1) := by decide +kernel
theorem dL_law_381 : decode cL_law 381 = .ok (.iload 5, 2) := by decide +kernel
theorem dL_law_383 : decode cL_law 383 = .ok (.iconst 1, 1) := by decide +kernel
theorem dL_law_384 : decode cL_law 384 = .ok (.iadd, 1) := by decide +kernel
theorem dL_law_385 : decode cL_law 385 = .ok (.iaload, 1) := by decide +kernel
theorem dL_law_386 : decode cL_law 386 = .ok (.aload_n 0, 1) := by decide +kernel
theorem dL_law_387 : decode cL_law 387 = .ok (.iload 5, 2) := by decide +kernel
theorem dL_law_389 : decode cL_law 389 = .ok (.iconst 2, 1) := by decide +kernel
theorem dL_law_390 : decode cL_law 390 = .ok (.iadd, 1) := by decide +kernel
theorem dL_law_391 : decode cL_law 391 = .ok (.iaload, 1) := by decide +kernel
theorem dL_law_392 : decode cL_law 392 = .ok (.invokevirtual 86, 3) := by decide +kernel
theorem dL_law_395 : decode cL_law 395 = .ok (.istore 7, 2) := by decide +kernel
theorem dL_law_397 : decode cL_law 397 = .ok (.aload_n 2, 1) := by decide +kernel
theorem dL_law_398 : decode cL_law 398 = .ok (.invokevirtual 69, 3) := by decide +kernel
theorem dL_law_401 : decode cL_law 401 = .ok (.iload 6, 2) := by decide +kernel
theorem dL_law_403 : decode cL_law 403 = .ok (.if_icmp .eq 5, 3) := by decide +kernel
theorem dL_law_406 : decode cL_law 406 = .ok (.iconst 0, 1) := by decide +kernel
theorem dL_law_407 : decode cL_law 407 = .ok (.ireturn, 1) := by decide +kernel
theorem dL_law_408 : decode cL_law 408 = .ok (.iload 6, 2) := by decide +kernel
theorem dL_law_410 : decode cL_law 410 = .ok (.ifCond .ne 15, 3) := by decide +kernel
theorem dL_law_413 : decode cL_law 413 = .ok (.aload_n 3, 1) := by decide +kernel
theorem dL_law_414 : decode cL_law 414 = .ok (.iconst 0, 1) := by decide +kernel
theorem dL_law_415 : decode cL_law 415 = .ok (.laload, 1) := by decide +kernel
theorem dL_law_416 : decode cL_law 416 = .ok (.iload 7, 2) := by decide +kernel
theorem dL_law_418 : decode cL_law 418 = .ok (.i2l, 1) := by decide +kernel
theorem dL_law_419 : decode cL_law 419 = .ok (.lcmp, 1) := by decide +kernel
theorem dL_law_420 : decode cL_law 420 = .ok (.ifCond .eq 5, 3) := by decide +kernel
theorem dL_law_423 : decode cL_law 423 = .ok (.iconst 0, 1) := by decide +kernel
theorem dL_law_424 : decode cL_law 424 = .ok (.ireturn, 1) := by decide +kernel
theorem dL_law_425 : decode cL_law 425 = .ok (.goto 632, 3) := by decide +kernel
theorem dL_law_428 : decode cL_law 428 = .ok (.aload_n 1, 1) := by decide +kernel
theorem dL_law_429 : decode cL_law 429 = .ok (.aload_n 0, 1) := by decide +kernel
theorem dL_law_430 : decode cL_law 430 = .ok (.iload 5, 2) := by decide +kernel
theorem dL_law_432 : decode cL_law 432 = .ok (.iconst 1, 1) := by decide +kernel
theorem dL_law_433 : decode cL_law 433 = .ok (.iadd, 1) := by decide +kernel
theorem dL_law_434 : decode cL_law 434 = .ok (.iaload, 1) := by decide +kernel
theorem dL_law_435 : decode cL_law 435 = .ok (.aload 4, 2) := by decide +kernel
theorem dL_law_437 : decode cL_law 437 = .ok (.invokestatic 87, 3) := by decide +kernel
theorem dL_law_440 : decode cL_law 440 = .ok (.istore 6, 2) := by decide +kernel
theorem dL_law_442 : decode cL_law 442 = .ok (.aload_n 2, 1) := by decide +kernel
theorem dL_law_443 : decode cL_law 443 = .ok (.aload_n 0, 1) := by decide +kernel
theorem dL_law_444 : decode cL_law 444 = .ok (.iload 5, 2) := by decide +kernel
theorem dL_law_446 : decode cL_law 446 = .ok (.iconst 1, 1) := by decide +kernel
theorem dL_law_447 : decode cL_law 447 = .ok (.iadd, 1) := by decide +kernel
theorem dL_law_448 : decode cL_law 448 = .ok (.iaload, 1) := by decide +kernel
theorem dL_law_449 : decode cL_law 449 = .ok (.invokevirtual 90, 3) := by decide +kernel
theorem dL_law_452 : decode cL_law 452 = .ok (.fstore 7, 2) := by decide +kernel
theorem dL_law_454 : decode cL_law 454 = .ok (.aload_n 2, 1) := by decide +kernel
theorem dL_law_455 : decode cL_law 455 = .ok (.invokevirtual 69, 3) := by decide +kernel
theorem dL_law_458 : decode cL_law 458 = .ok (.iload 6, 2) := by decide +kernel
theorem dL_law_460 : decode cL_law 460 = .ok (.if_icmp .eq 5, 3) := by decide +kernel
theorem dL_law_463 : decode cL_law 463 = .ok (.iconst 0, 1) := by decide +kernel
theorem dL_law_464 : decode cL_law 464 = .ok (.ireturn, 1) := by decide +kernel
theorem dL_law_465 : decode cL_law 465 = .ok (.iload 6, 2) := by decide +kernel
theorem dL_law_467 : decode cL_law 467 = .ok (.ifCond .ne 36, 3) := by decide +kernel
theorem dL_law_470 : decode cL_law 470 = .ok (.aload 4, 2) := by decide +kernel
theorem dL_law_472 : decode cL_law 472 = .ok (.iconst 0, 1) := by decide +kernel
theorem dL_law_473 : decode cL_law 473 = .ok (.daload, 1) := by decide +kernel
theorem dL_law_474 : decode cL_law 474 = .ok (.fload 7, 2) := by decide +kernel
theorem dL_law_476 : decode cL_law 476 = .ok (.f2d, 1) := by decide +kernel
theorem dL_law_477 : decode cL_law 477 = .ok (.dcmp .l, 1) := by decide +kernel
theorem dL_law_478 : decode cL_law 478 = .ok (.ifCond .eq 25, 3) := by decide +kernel
theorem dL_law_481 : decode cL_law 481 = .ok (.aload 4, 2) := by decide +kernel
theorem dL_law_483 : decode cL_law 483 = .ok (.iconst 0, 1) := by decide +kernel
theorem dL_law_484 : decode cL_law 484 = .ok (.daload, 1) := by decide +kernel
theorem dL_law_485 : decode cL_law 485 = .ok (.aload 4, 2) := by decide +kernel
theorem dL_law_487 : decode cL_law 487 = .ok (.iconst 0, 1) := by decide +kernel
theorem dL_law_488 : decode cL_law 488 = .ok (.daload, 1) := by decide +kernel
theorem dL_law_489 : decode cL_law 489 = .ok (.dcmp .l, 1) := by decide +kernel
theorem dL_law_490 : decode cL_law 490 = .ok (.ifCond .eq 11, 3) := by decide +kernel
theorem dL_law_493 : decode cL_law 493 = .ok (.fload 7, 2) := by decide +kernel
theorem dL_law_495 : decode cL_law 495 = .ok (.fload 7, 2) := by decide +kernel
theorem dL_law_497 : decode cL_law 497 = .ok (.fcmp .l, 1) := by decide +kernel
theorem dL_law_498 : decode cL_law 498 = .ok (.ifCond .ne 5, 3) := by decide +kernel
theorem dL_law_501 : decode cL_law 501 = .ok (.iconst 0, 1) := by decide +kernel
theorem dL_law_502 : decode cL_law 502 = .ok (.ireturn, 1) := by decide +kernel
theorem dL_law_503 : decode cL_law 503 = .ok (.goto 554, 3) := by decide +kernel
theorem dL_law_506 : decode cL_law 506 = .ok (.aload_n 1, 1) := by decide +kernel
theorem dL_law_507 : decode cL_law 507 = .ok (.aload_n 0, 1) := by decide +kernel
theorem dL_law_508 : decode cL_law 508 = .ok (.iload 5, 2) := by decide +kernel
theorem dL_law_510 : decode cL_law 510 = .ok (.iconst 1, 1) := by decide +kernel
theorem dL_law_511 : decode cL_law 511 = .ok (.iadd, 1) := by decide +kernel
theorem dL_law_512 : decode cL_law 512 = .ok (.iaload, 1) := by decide +kernel
theorem dL_law_513 : decode cL_law 513 = .ok (.aload_n 0, 1) := by decide +kernel
theorem dL_law_514 : decode cL_law 514 = .ok (.iload 5, 2) := by decide +kernel
theorem dL_law_516 : decode cL_law 516 = .ok (.iconst 2, 1) := by decide +kernel
theorem dL_law_517 : decode cL_law 517 = .ok (.iadd, 1) := by decide +kernel
theorem dL_law_518 : decode cL_law 518 = .ok (.iaload, 1) := by decide +kernel
theorem dL_law_519 : decode cL_law 519 = .ok (.aload_n 3, 1) := by decide +kernel
theorem dL_law_520 : decode cL_law 520 = .ok (.invokestatic 91, 3) := by decide +kernel
theorem dL_law_523 : decode cL_law 523 = .ok (.istore 6, 2) := by decide +kernel
theorem dL_law_525 : decode cL_law 525 = .ok (.aload_n 2, 1) := by decide +kernel
theorem dL_law_526 : decode cL_law 526 = .ok (.aload_n 0, 1) := by decide +kernel
theorem dL_law_527 : decode cL_law 527 = .ok (.iload 5, 2) := by decide +kernel
theorem dL_law_529 : decode cL_law 529 = .ok (.iconst 1, 1) := by decide +kernel
theorem dL_law_530 : decode cL_law 530 = .ok (.iadd, 1) := by decide +kernel
theorem dL_law_531 : decode cL_law 531 = .ok (.iaload, 1) := by decide +kernel
theorem dL_law_532 : decode cL_law 532 = .ok (.aload_n 0, 1) := by decide +kernel
theorem dL_law_533 : decode cL_law 533 = .ok (.iload 5, 2) := by decide +kernel
theorem dL_law_535 : decode cL_law 535 = .ok (.iconst 2, 1) := by decide +kernel
theorem dL_law_536 : decode cL_law 536 = .ok (.iadd, 1) := by decide +kernel
theorem dL_law_537 : decode cL_law 537 = .ok (.iaload, 1) := by decide +kernel
theorem dL_law_538 : decode cL_law 538 = .ok (.invokevirtual 93, 3) := by decide +kernel
theorem dL_law_541 : decode cL_law 541 = .ok (.istore 7, 2) := by decide +kernel
theorem dL_law_543 : decode cL_law 543 = .ok (.aload_n 2, 1) := by decide +kernel
theorem dL_law_544 : decode cL_law 544 = .ok (.invokevirtual 69, 3) := by decide +kernel
theorem dL_law_547 : decode cL_law 547 = .ok (.iload 6, 2) := by decide +kernel
theorem dL_law_549 : decode cL_law 549 = .ok (.if_icmp .eq 5, 3) := by decide +kernel
theorem dL_law_552 : decode cL_law 552 = .ok (.iconst 0, 1) := by decide +kernel
theorem dL_law_553 : decode cL_law 553 = .ok (.ireturn, 1) := by decide +kernel
theorem dL_law_554 : decode cL_law 554 = .ok (.iload 6, 2) := by decide +kernel
theorem dL_law_556 : decode cL_law 556 = .ok (.ifCond .ne 15, 3) := by decide +kernel
theorem dL_law_559 : decode cL_law 559 = .ok (.aload_n 3, 1) := by decide +kernel
theorem dL_law_560 : decode cL_law 560 = .ok (.iconst 0, 1) := by decide +kernel
theorem dL_law_561 : decode cL_law 561 = .ok (.laload, 1) := by decide +kernel
theorem dL_law_562 : decode cL_law 562 = .ok (.iload 7, 2) := by decide +kernel
theorem dL_law_564 : decode cL_law 564 = .ok (.i2l, 1) := by decide +kernel
theorem dL_law_565 : decode cL_law 565 = .ok (.lcmp, 1) := by decide +kernel
theorem dL_law_566 : decode cL_law 566 = .ok (.ifCond .eq 5, 3) := by decide +kernel
theorem dL_law_569 : decode cL_law 569 = .ok (.iconst 0, 1) := by decide +kernel
theorem dL_law_570 : decode cL_law 570 = .ok (.ireturn, 1) := by decide +kernel
theorem dL_law_571 : decode cL_law 571 = .ok (.goto 486, 3) := by decide +kernel
theorem dL_law_574 : decode cL_law 574 = .ok (.aload_n 1, 1) := by decide +kernel
theorem dL_law_575 : decode cL_law 575 = .ok (.aload_n 0, 1) := by decide +kernel
theorem dL_law_576 : decode cL_law 576 = .ok (.iload 5, 2) := by decide +kernel
theorem dL_law_578 : decode cL_law 578 = .ok (.iconst 1, 1) := by decide +kernel
theorem dL_law_579 : decode cL_law 579 = .ok (.iadd, 1) := by decide +kernel
theorem dL_law_580 : decode cL_law 580 = .ok (.iaload, 1) := by decide +kernel
theorem dL_law_581 : decode cL_law 581 = .ok (.aload_n 0, 1) := by decide +kernel
theorem dL_law_582 : decode cL_law 582 = .ok (.iload 5, 2) := by decide +kernel
theorem dL_law_584 : decode cL_law 584 = .ok (.iconst 2, 1) := by decide +kernel
theorem dL_law_585 : decode cL_law 585 = .ok (.iadd, 1) := by decide +kernel
theorem dL_law_586 : decode cL_law 586 = .ok (.iaload, 1) := by decide +kernel
theorem dL_law_587 : decode cL_law 587 = .ok (.aload_n 3, 1) := by decide +kernel
theorem dL_law_588 : decode cL_law 588 = .ok (.invokestatic 94, 3) := by decide +kernel
theorem dL_law_591 : decode cL_law 591 = .ok (.istore 6, 2) := by decide +kernel
theorem dL_law_593 : decode cL_law 593 = .ok (.aload_n 2, 1) := by decide +kernel
theorem dL_law_594 : decode cL_law 594 = .ok (.aload_n 0, 1) := by decide +kernel
theorem dL_law_595 : decode cL_law 595 = .ok (.iload 5, 2) := by decide +kernel
theorem dL_law_597 : decode cL_law 597 = .ok (.iconst 1, 1) := by decide +kernel
theorem dL_law_598 : decode cL_law 598 = .ok (.iadd, 1) := by decide +kernel
theorem dL_law_599 : decode cL_law 599 = .ok (.iaload, 1) := by decide +kernel
theorem dL_law_600 : decode cL_law 600 = .ok (.aload_n 0, 1) := by decide +kernel
theorem dL_law_601 : decode cL_law 601 = .ok (.iload 5, 2) := by decide +kernel
theorem dL_law_603 : decode cL_law 603 = .ok (.iconst 2, 1) := by decide +kernel
theorem dL_law_604 : decode cL_law 604 = .ok (.iadd, 1) := by decide +kernel
theorem dL_law_605 : decode cL_law 605 = .ok (.iaload, 1) := by decide +kernel
theorem dL_law_606 : decode cL_law 606 = .ok (.invokevirtual 96, 3) := by decide +kernel
theorem dL_law_609 : decode cL_law 609 = .ok (.istore 7, 2) := by decide +kernel
theorem dL_law_611 : decode cL_law 611 = .ok (.aload_n 2, 1) := by decide +kernel
theorem dL_law_612 : decode cL_law 612 = .ok (.invokevirtual 69, 3) := by decide +kernel
theorem dL_law_615 : decode cL_law 615 = .ok (.iload 6, 2) := by decide +kernel
theorem dL_law_617 : decode cL_law 617 = .ok (.if_icmp .eq 5, 3) := by decide +kernel
theorem dL_law_620 : decode cL_law 620 = .ok (.iconst 0, 1) := by decide +kernel
theorem dL_law_621 : decode cL_law 621 = .ok (.ireturn, 1) := by decide +kernel
theorem dL_law_622 : decode cL_law 622 = .ok (.iload 6, 2) := by decide +kernel
theorem dL_law_624 : decode cL_law 624 = .ok (.ifCond .ne 15, 3) := by decide +kernel
theorem dL_law_627 : decode cL_law 627 = .ok (.aload_n 3, 1) := by decide +kernel
theorem dL_law_628 : decode cL_law 628 = .ok (.iconst 0, 1) := by decide +kernel
theorem dL_law_629 : decode cL_law 629 = .ok (.laload, 1) := by decide +kernel
theorem dL_law_630 : decode cL_law 630 = .ok (.iload 7, 2) := by decide +kernel
theorem dL_law_632 : decode cL_law 632 = .ok (.i2l, 1) := by decide +kernel
theorem dL_law_633 : decode cL_law 633 = .ok (.lcmp, 1) := by decide +kernel
theorem dL_law_634 : decode cL_law 634 = .ok (.ifCond .eq 5, 3) := by decide +kernel
theorem dL_law_637 : decode cL_law 637 = .ok (.iconst 0, 1) := by decide +kernel
theorem dL_law_638 : decode cL_law 638 = .ok (.ireturn, 1) := by decide +kernel
theorem dL_law_639 : decode cL_law 639 = .ok (.goto 418, 3) := by decide +kernel
theorem dL_law_642 : decode cL_law 642 = .ok (.aload_n 1, 1) := by decide +kernel
theorem dL_law_643 : decode cL_law 643 = .ok (.aload_n 0, 1) := by decide +kernel
theorem dL_law_644 : decode cL_law 644 = .ok (.iload 5, 2) := by decide +kernel
theorem dL_law_646 : decode cL_law 646 = .ok (.iconst 1, 1) := by decide +kernel
theorem dL_law_647 : decode cL_law 647 = .ok (.iadd, 1) := by decide +kernel
theorem dL_law_648 : decode cL_law 648 = .ok (.iaload, 1) := by decide +kernel
theorem dL_law_649 : decode cL_law 649 = .ok (.aload_n 3, 1) := by decide +kernel
theorem dL_law_650 : decode cL_law 650 = .ok (.invokestatic 97, 3) := by decide +kernel
theorem dL_law_653 : decode cL_law 653 = .ok (.istore 6, 2) := by decide +kernel
theorem dL_law_655 : decode cL_law 655 = .ok (.aload_n 2, 1) := by decide +kernel
theorem dL_law_656 : decode cL_law 656 = .ok (.aload_n 0, 1) := by decide +kernel
theorem dL_law_657 : decode cL_law 657 = .ok (.iload 5, 2) := by decide +kernel
theorem dL_law_659 : decode cL_law 659 = .ok (.iconst 1, 1) := by decide +kernel
theorem dL_law_660 : decode cL_law 660 = .ok (.iadd, 1) := by decide +kernel
theorem dL_law_661 : decode cL_law 661 = .ok (.iaload, 1) := by decide +kernel
theorem dL_law_662 : decode cL_law 662 = .ok (.invokevirtual 99, 3) := by decide +kernel
theorem dL_law_665 : decode cL_law 665 = .ok (.istore 7, 2) := by decide +kernel
theorem dL_law_667 : decode cL_law 667 = .ok (.aload_n 2, 1) := by decide +kernel
theorem dL_law_668 : decode cL_law 668 = .ok (.invokevirtual 69, 3) := by decide +kernel
theorem dL_law_671 : decode cL_law 671 = .ok (.iload 6, 2) := by decide +kernel
theorem dL_law_673 : decode cL_law 673 = .ok (.if_icmp .eq 5, 3) := by decide +kernel
theorem dL_law_676 : decode cL_law 676 = .ok (.iconst 0, 1) := by decide +kernel
theorem dL_law_677 : decode cL_law 677 = .ok (.ireturn, 1) := by decide +kernel
theorem dL_law_678 : decode cL_law 678 = .ok (.iload 6, 2) := by decide +kernel
theorem dL_law_680 : decode cL_law 680 = .ok (.ifCond .ne 15, 3) := by decide +kernel
theorem dL_law_683 : decode cL_law 683 = .ok (.aload_n 3, 1) := by decide +kernel
theorem dL_law_684 : decode cL_law 684 = .ok (.iconst 0, 1) := by decide +kernel
theorem dL_law_685 : decode cL_law 685 = .ok (.laload, 1) := by decide +kernel
theorem dL_law_686 : decode cL_law 686 = .ok (.iload 7, 2) := by decide +kernel
theorem dL_law_688 : decode cL_law 688 = .ok (.i2l, 1) := by decide +kernel
theorem dL_law_689 : decode cL_law 689 = .ok (.lcmp, 1) := by decide +kernel
theorem dL_law_690 : decode cL_law 690 = .ok (.ifCond .eq 5, 3) := by decide +kernel
theorem dL_law_693 : decode cL_law 693 = .ok (.iconst 0, 1) := by decide +kernel
theorem dL_law_694 : decode cL_law 694 = .ok (.ireturn, 1) := by decide +kernel
theorem dL_law_695 : decode cL_law 695 = .ok (.goto 362, 3) := by decide +kernel
theorem dL_law_698 : decode cL_law 698 = .ok (.aload_n 1, 1) := by decide +kernel
theorem dL_law_699 : decode cL_law 699 = .ok (.aload_n 0, 1) := by decide +kernel
theorem dL_law_700 : decode cL_law 700 = .ok (.iload 5, 2) := by decide +kernel
theorem dL_law_702 : decode cL_law 702 = .ok (.iconst 1, 1) := by decide +kernel
theorem dL_law_703 : decode cL_law 703 = .ok (.iadd, 1) := by decide +kernel
theorem dL_law_704 : decode cL_law 704 = .ok (.iaload, 1) := by decide +kernel
theorem dL_law_705 : decode cL_law 705 = .ok (.aload_n 3, 1) := by decide +kernel
theorem dL_law_706 : decode cL_law 706 = .ok (.invokestatic 100, 3) := by decide +kernel
theorem dL_law_709 : decode cL_law 709 = .ok (.istore 6, 2) := by decide +kernel
theorem dL_law_711 : decode cL_law 711 = .ok (.aload_n 2, 1) := by decide +kernel
theorem dL_law_712 : decode cL_law 712 = .ok (.aload_n 0, 1) := by decide +kernel
theorem dL_law_713 : decode cL_law 713 = .ok (.iload 5, 2) := by decide +kernel
theorem dL_law_715 : decode cL_law 715 = .ok (.iconst 1, 1) := by decide +kernel
theorem dL_law_716 : decode cL_law 716 = .ok (.iadd, 1) := by decide +kernel
theorem dL_law_717 : decode cL_law 717 = .ok (.iaload, 1) := by decide +kernel
theorem dL_law_718 : decode cL_law 718 = .ok (.invokevirtual 102, 3) := by decide +kernel
theorem dL_law_721 : decode cL_law 721 = .ok (.istore 7, 2) := by decide +kernel
theorem dL_law_723 : decode cL_law 723 = .ok (.aload_n 2, 1) := by decide +kernel
theorem dL_law_724 : decode cL_law 724 = .ok (.invokevirtual 69, 3) := by decide +kernel
theorem dL_law_727 : decode cL_law 727 = .ok (.iload 6, 2) := by decide +kernel
theorem dL_law_729 : decode cL_law 729 = .ok (.if_icmp .eq 5, 3) := by decide +kernel
theorem dL_law_732 : decode cL_law 732 = .ok (.iconst 0, 1) := by decide +kernel
theorem dL_law_733 : decode cL_law 733 = .ok (.ireturn, 1) := by decide +kernel
theorem dL_law_734 : decode cL_law 734 = .ok (.iload 6, 2) := by decide +kernel
theorem dL_law_736 : decode cL_law 736 = .ok (.ifCond .ne 15, 3) := by decide +kernel
theorem dL_law_739 : decode cL_law 739 = .ok (.aload_n 3, 1) := by decide +kernel
theorem dL_law_740 : decode cL_law 740 = .ok (.iconst 0, 1) := by decide +kernel
theorem dL_law_741 : decode cL_law 741 = .ok (.laload, 1) := by decide +kernel
theorem dL_law_742 : decode cL_law 742 = .ok (.iload 7, 2) := by decide +kernel
theorem dL_law_744 : decode cL_law 744 = .ok (.i2l, 1) := by decide +kernel
theorem dL_law_745 : decode cL_law 745 = .ok (.lcmp, 1) := by decide +kernel
theorem dL_law_746 : decode cL_law 746 = .ok (.ifCond .eq 5, 3) := by decide +kernel
theorem dL_law_749 : decode cL_law 749 = .ok (.iconst 0, 1) := by decide +kernel
theorem dL_law_750 : decode cL_law 750 = .ok (.ireturn, 1) := by decide +kernel
theorem dL_law_751 : decode cL_law 751 = .ok (.goto 306, 3) := by decide +kernel
theorem dL_law_754 : decode cL_law 754 = .ok (.aload_n 1, 1) := by decide +kernel
theorem dL_law_755 : decode cL_law 755 = .ok (.aload_n 0, 1) := by decide +kernel
theorem dL_law_756 : decode cL_law 756 = .ok (.iload 5, 2) := by decide +kernel
theorem dL_law_758 : decode cL_law 758 = .ok (.iconst 1, 1) := by decide +kernel
theorem dL_law_759 : decode cL_law 759 = .ok (.iadd, 1) := by decide +kernel
theorem dL_law_760 : decode cL_law 760 = .ok (.iaload, 1) := by decide +kernel
theorem dL_law_761 : decode cL_law 761 = .ok (.aload_n 0, 1) := by decide +kernel
theorem dL_law_762 : decode cL_law 762 = .ok (.iload 5, 2) := by decide +kernel
theorem dL_law_764 : decode cL_law 764 = .ok (.iconst 2, 1) := by decide +kernel
theorem dL_law_765 : decode cL_law 765 = .ok (.iadd, 1) := by decide +kernel
theorem dL_law_766 : decode cL_law 766 = .ok (.iaload, 1) := by decide +kernel
theorem dL_law_767 : decode cL_law 767 = .ok (.aload_n 3, 1) := by decide +kernel
theorem dL_law_768 : decode cL_law 768 = .ok (.invokestatic 103, 3) := by decide +kernel
theorem dL_law_771 : decode cL_law 771 = .ok (.istore 6, 2) := by decide +kernel
theorem dL_law_773 : decode cL_law 773 = .ok (.aload_n 2, 1) := by decide +kernel
theorem dL_law_774 : decode cL_law 774 = .ok (.aload_n 0, 1) := by decide +kernel
theorem dL_law_775 : decode cL_law 775 = .ok (.iload 5, 2) := by decide +kernel
theorem dL_law_777 : decode cL_law 777 = .ok (.iconst 1, 1) := by decide +kernel
theorem dL_law_778 : decode cL_law 778 = .ok (.iadd, 1) := by decide +kernel
theorem dL_law_779 : decode cL_law 779 = .ok (.iaload, 1) := by decide +kernel
theorem dL_law_780 : decode cL_law 780 = .ok (.aload_n 0, 1) := by decide +kernel
theorem dL_law_781 : decode cL_law 781 = .ok (.iload 5, 2) := by decide +kernel
theorem dL_law_783 : decode cL_law 783 = .ok (.iconst 2, 1) := by decide +kernel
theorem dL_law_784 : decode cL_law 784 = .ok (.iadd, 1) := by decide +kernel
theorem dL_law_785 : decode cL_law 785 = .ok (.iaload, 1) := by decide +kernel
theorem dL_law_786 : decode cL_law 786 = .ok (.invokevirtual 105, 3) := by decide +kernel
theorem dL_law_789 : decode cL_law 789 = .ok (.istore 7, 2) := by decide +kernel
theorem dL_law_791 : decode cL_law 791 = .ok (.aload_n 2, 1) := by decide +kernel
theorem dL_law_792 : decode cL_law 792 = .ok (.invokevirtual 69, 3) := by decide +kernel
theorem dL_law_795 : decode cL_law 795 = .ok (.iload 6, 2) := by decide +kernel
theorem dL_law_797 : decode cL_law 797 = .ok (.if_icmp .eq 5, 3) := by decide +kernel
theorem dL_law_800 : decode cL_law 800 = .ok (.iconst 0, 1) := by decide +kernel
theorem dL_law_801 : decode cL_law 801 = .ok (.ireturn, 1) := by decide +kernel
theorem dL_law_802 : decode cL_law 802 = .ok (.iload 6, 2) := by decide +kernel
theorem dL_law_804 : decode cL_law 804 = .ok (.ifCond .ne 15, 3) := by decide +kernel
theorem dL_law_807 : decode cL_law 807 = .ok (.aload_n 3, 1) := by decide +kernel
theorem dL_law_808 : decode cL_law 808 = .ok (.iconst 0, 1) := by decide +kernel
theorem dL_law_809 : decode cL_law 809 = .ok (.laload, 1) := by decide +kernel
theorem dL_law_810 : decode cL_law 810 = .ok (.iload 7, 2) := by decide +kernel
theorem dL_law_812 : decode cL_law 812 = .ok (.i2l, 1) := by decide +kernel
theorem dL_law_813 : decode cL_law 813 = .ok (.lcmp, 1) := by decide +kernel
theorem dL_law_814 : decode cL_law 814 = .ok (.ifCond .eq 5, 3) := by decide +kernel
theorem dL_law_817 : decode cL_law 817 = .ok (.iconst 0, 1) := by decide +kernel
theorem dL_law_818 : decode cL_law 818 = .ok (.ireturn, 1) := by decide +kernel
theorem dL_law_819 : decode cL_law 819 = .ok (.goto 238, 3) := by decide +kernel
theorem dL_law_822 : decode cL_law 822 = .ok (.aload_n 1, 1) := by decide +kernel
theorem dL_law_823 : decode cL_law 823 = .ok (.aload_n 0, 1) := by decide +kernel
theorem dL_law_824 : decode cL_law 824 = .ok (.iload 5, 2) := by decide +kernel
theorem dL_law_826 : decode cL_law 826 = .ok (.iconst 1, 1) := by decide +kernel
theorem dL_law_827 : decode cL_law 827 = .ok (.iadd, 1) := by decide +kernel
theorem dL_law_828 : decode cL_law 828 = .ok (.iaload, 1) := by decide +kernel
theorem dL_law_829 : decode cL_law 829 = .ok (.aload_n 0, 1) := by decide +kernel
theorem dL_law_830 : decode cL_law 830 = .ok (.iload 5, 2) := by decide +kernel
theorem dL_law_832 : decode cL_law 832 = .ok (.iconst 2, 1) := by decide +kernel
theorem dL_law_833 : decode cL_law 833 = .ok (.iadd, 1) := by decide +kernel
theorem dL_law_834 : decode cL_law 834 = .ok (.iaload, 1) := by decide +kernel
theorem dL_law_835 : decode cL_law 835 = .ok (.aload_n 0, 1) := by decide +kernel
theorem dL_law_836 : decode cL_law 836 = .ok (.iload 5, 2) := by decide +kernel
theorem dL_law_838 : decode cL_law 838 = .ok (.iconst 3, 1) := by decide +kernel
theorem dL_law_839 : decode cL_law 839 = .ok (.iadd, 1) := by decide +kernel
theorem dL_law_840 : decode cL_law 840 = .ok (.iaload, 1) := by decide +kernel
theorem dL_law_841 : decode cL_law 841 = .ok (.aload_n 3, 1) := by decide +kernel
theorem dL_law_842 : decode cL_law 842 = .ok (.invokestatic 106, 3) := by decide +kernel
theorem dL_law_845 : decode cL_law 845 = .ok (.istore 6, 2) := by decide +kernel
theorem dL_law_847 : decode cL_law 847 = .ok (.aload_n 2, 1) := by decide +kernel
theorem dL_law_848 : decode cL_law 848 = .ok (.aload_n 0, 1) := by decide +kernel
theorem dL_law_849 : decode cL_law 849 = .ok (.iload 5, 2) := by decide +kernel
theorem dL_law_851 : decode cL_law 851 = .ok (.iconst 1, 1) := by decide +kernel
theorem dL_law_852 : decode cL_law 852 = .ok (.iadd, 1) := by decide +kernel
theorem dL_law_853 : decode cL_law 853 = .ok (.iaload, 1) := by decide +kernel
theorem dL_law_854 : decode cL_law 854 = .ok (.aload_n 0, 1) := by decide +kernel
theorem dL_law_855 : decode cL_law 855 = .ok (.iload 5, 2) := by decide +kernel
theorem dL_law_857 : decode cL_law 857 = .ok (.iconst 2, 1) := by decide +kernel
theorem dL_law_858 : decode cL_law 858 = .ok (.iadd, 1) := by decide +kernel
theorem dL_law_859 : decode cL_law 859 = .ok (.iaload, 1) := by decide +kernel
theorem dL_law_860 : decode cL_law 860 = .ok (.aload_n 0, 1) := by decide +kernel
theorem dL_law_861 : decode cL_law 861 = .ok (.iload 5, 2) := by decide +kernel
theorem dL_law_863 : decode cL_law 863 = .ok (.iconst 3, 1) := by decide +kernel
theorem dL_law_864 : decode cL_law 864 = .ok (.iadd, 1) := by decide +kernel
theorem dL_law_865 : decode cL_law 865 = .ok (.iaload, 1) := by decide +kernel
theorem dL_law_866 : decode cL_law 866 = .ok (.invokevirtual 108, 3) := by decide +kernel
theorem dL_law_869 : decode cL_law 869 = .ok (.istore 7, 2) := by decide +kernel
theorem dL_law_871 : decode cL_law 871 = .ok (.aload_n 2, 1) := by decide +kernel
theorem dL_law_872 : decode cL_law 872 = .ok (.invokevirtual 69, 3) := by decide +kernel
theorem dL_law_875 : decode cL_law 875 = .ok (.iload 6, 2) := by decide +kernel
theorem dL_law_877 : decode cL_law 877 = .ok (.if_icmp .eq 5, 3) := by decide +kernel
theorem dL_law_880 : decode cL_law 880 = .ok (.iconst 0, 1) := by decide +kernel
theorem dL_law_881 : decode cL_law 881 = .ok (.ireturn, 1) := by decide +kernel
theorem dL_law_882 : decode cL_law 882 = .ok (.iload 6, 2) := by decide +kernel
theorem dL_law_884 : decode cL_law 884 = .ok (.ifCond .ne 15, 3) := by decide +kernel
theorem dL_law_887 : decode cL_law 887 = .ok (.aload_n 3, 1) := by decide +kernel
theorem dL_law_888 : decode cL_law 888 = .ok (.iconst 0, 1) := by decide +kernel
theorem dL_law_889 : decode cL_law 889 = .ok (.laload, 1) := by decide +kernel
theorem dL_law_890 : decode cL_law 890 = .ok (.iload 7, 2) := by decide +kernel
theorem dL_law_892 : decode cL_law 892 = .ok (.i2l, 1) := by decide +kernel
theorem dL_law_893 : decode cL_law 893 = .ok (.lcmp, 1) := by decide +kernel
theorem dL_law_894 : decode cL_law 894 = .ok (.ifCond .eq 5, 3) := by decide +kernel
theorem dL_law_897 : decode cL_law 897 = .ok (.iconst 0, 1) := by decide +kernel
theorem dL_law_898 : decode cL_law 898 = .ok (.ireturn, 1) := by decide +kernel
theorem dL_law_899 : decode cL_law 899 = .ok (.goto 158, 3) := by decide +kernel
theorem dL_law_902 : decode cL_law 902 = .ok (.aload_n 1, 1) := by decide +kernel
theorem dL_law_903 : decode cL_law 903 = .ok (.aload_n 0, 1) := by decide +kernel
theorem dL_law_904 : decode cL_law 904 = .ok (.iload 5, 2) := by decide +kernel
theorem dL_law_906 : decode cL_law 906 = .ok (.iconst 1, 1) := by decide +kernel
theorem dL_law_907 : decode cL_law 907 = .ok (.iadd, 1) := by decide +kernel
theorem dL_law_908 : decode cL_law 908 = .ok (.iaload, 1) := by decide +kernel
theorem dL_law_909 : decode cL_law 909 = .ok (.aload_n 3, 1) := by decide +kernel
theorem dL_law_910 : decode cL_law 910 = .ok (.invokestatic 109, 3) := by decide +kernel
theorem dL_law_913 : decode cL_law 913 = .ok (.istore 6, 2) := by decide +kernel
theorem dL_law_915 : decode cL_law 915 = .ok (.aload_n 2, 1) := by decide +kernel
theorem dL_law_916 : decode cL_law 916 = .ok (.aload_n 0, 1) := by decide +kernel
theorem dL_law_917 : decode cL_law 917 = .ok (.iload 5, 2) := by decide +kernel
theorem dL_law_919 : decode cL_law 919 = .ok (.iconst 1, 1) := by decide +kernel
theorem dL_law_920 : decode cL_law 920 = .ok (.iadd, 1) := by decide +kernel
theorem dL_law_921 : decode cL_law 921 = .ok (.iaload, 1) := by decide +kernel
theorem dL_law_922 : decode cL_law 922 = .ok (.invokevirtual 111, 3) := by decide +kernel
theorem dL_law_925 : decode cL_law 925 = .ok (.istore 7, 2) := by decide +kernel
theorem dL_law_927 : decode cL_law 927 = .ok (.aload_n 2, 1) := by decide +kernel
theorem dL_law_928 : decode cL_law 928 = .ok (.invokevirtual 69, 3) := by decide +kernel
theorem dL_law_931 : decode cL_law 931 = .ok (.iload 6, 2) := by decide +kernel
theorem dL_law_933 : decode cL_law 933 = .ok (.if_icmp .eq 5, 3) := by decide +kernel
theorem dL_law_936 : decode cL_law 936 = .ok (.iconst 0, 1) := by decide +kernel
theorem dL_law_937 : decode cL_law 937 = .ok (.ireturn, 1) := by decide +kernel
theorem dL_law_938 : decode cL_law 938 = .ok (.iload 6, 2) := by decide +kernel
theorem dL_law_940 : decode cL_law 940 = .ok (.ifCond .ne 15, 3) := by decide +kernel
theorem dL_law_943 : decode cL_law 943 = .ok (.aload_n 3, 1) := by decide +kernel
theorem dL_law_944 : decode cL_law 944 = .ok (.iconst 0, 1) := by decide +kernel
theorem dL_law_945 : decode cL_law 945 = .ok (.laload, 1) := by decide +kernel
theorem dL_law_946 : decode cL_law 946 = .ok (.iload 7, 2) := by decide +kernel
theorem dL_law_948 : decode cL_law 948 = .ok (.i2l, 1) := by decide +kernel
theorem dL_law_949 : decode cL_law 949 = .ok (.lcmp, 1) := by decide +kernel
theorem dL_law_950 : decode cL_law 950 = .ok (.ifCond .eq 5, 3) := by decide +kernel
theorem dL_law_953 : decode cL_law 953 = .ok (.iconst 0, 1) := by decide +kernel
theorem dL_law_954 : decode cL_law 954 = .ok (.ireturn, 1) := by decide +kernel
theorem dL_law_955 : decode cL_law 955 = .ok (.goto 102, 3) := by decide +kernel
theorem dL_law_958 : decode cL_law 958 = .ok (.aload_n 1, 1) := by decide +kernel
theorem dL_law_959 : decode cL_law 959 = .ok (.invokevirtual 112, 3) := by decide +kernel
theorem dL_law_962 : decode cL_law 962 = .ok (.aload_n 2, 1) := by decide +kernel
theorem dL_law_963 : decode cL_law 963 = .ok (.invokevirtual 115, 3) := by decide +kernel
theorem dL_law_966 : decode cL_law 966 = .ok (.if_icmp .eq 91, 3) := by decide +kernel
theorem dL_law_969 : decode cL_law 969 = .ok (.iconst 0, 1) := by decide +kernel
theorem dL_law_970 : decode cL_law 970 = .ok (.ireturn, 1) := by decide +kernel
theorem dL_law_971 : decode cL_law 971 = .ok (.aload_n 1, 1) := by decide +kernel
theorem dL_law_972 : decode cL_law 972 = .ok (.invokevirtual 116, 3) := by decide +kernel
theorem dL_law_975 : decode cL_law 975 = .ok (.f2d, 1) := by decide +kernel
theorem dL_law_976 : decode cL_law 976 = .ok (.dstore 6, 2) := by decide +kernel
theorem dL_law_978 : decode cL_law 978 = .ok (.aload_n 2, 1) := by decide +kernel
theorem dL_law_979 : decode cL_law 979 = .ok (.invokevirtual 120, 3) := by decide +kernel
theorem dL_law_982 : decode cL_law 982 = .ok (.f2d, 1) := by decide +kernel
theorem dL_law_983 : decode cL_law 983 = .ok (.dstore 8, 2) := by decide +kernel
theorem dL_law_985 : decode cL_law 985 = .ok (.dload 6, 2) := by decide +kernel
theorem dL_law_987 : decode cL_law 987 = .ok (.dload 8, 2) := by decide +kernel
theorem dL_law_989 : decode cL_law 989 = .ok (.dcmp .l, 1) := by decide +kernel
theorem dL_law_990 : decode cL_law 990 = .ok (.ifCond .eq 21, 3) := by decide +kernel
theorem dL_law_993 : decode cL_law 993 = .ok (.dload 6, 2) := by decide +kernel
theorem dL_law_995 : decode cL_law 995 = .ok (.dload 6, 2) := by decide +kernel
theorem dL_law_997 : decode cL_law 997 = .ok (.dcmp .l, 1) := by decide +kernel
theorem dL_law_998 : decode cL_law 998 = .ok (.ifCond .eq 11, 3) := by decide +kernel
theorem dL_law_1001 : decode cL_law 1001 = .ok (.dload 8, 2) := by decide +kernel
theorem dL_law_1003 : decode cL_law 1003 = .ok (.dload 8, 2) := by decide +kernel
theorem dL_law_1005 : decode cL_law 1005 = .ok (.dcmp .l, 1) := by decide +kernel
theorem dL_law_1006 : decode cL_law 1006 = .ok (.ifCond .ne 5, 3) := by decide +kernel
theorem dL_law_1009 : decode cL_law 1009 = .ok (.iconst 0, 1) := by decide +kernel
theorem dL_law_1010 : decode cL_law 1010 = .ok (.ireturn, 1) := by decide +kernel
theorem dL_law_1011 : decode cL_law 1011 = .ok (.goto 46, 3) := by decide +kernel
theorem dL_law_1014 : decode cL_law 1014 = .ok (.aload_n 1, 1) := by decide +kernel
theorem dL_law_1015 : decode cL_law 1015 = .ok (.invokevirtual 121, 3) := by decide +kernel
theorem dL_law_1018 : decode cL_law 1018 = .ok (.f2d, 1) := by decide +kernel
theorem dL_law_1019 : decode cL_law 1019 = .ok (.dstore 6, 2) := by decide +kernel
theorem dL_law_1021 : decode cL_law 1021 = .ok (.aload_n 2, 1) := by decide +kernel
theorem dL_law_1022 : decode cL_law 1022 = .ok (.invokevirtual 124, 3) := by decide +kernel
theorem dL_law_1025 : decode cL_law 1025 = .ok (.f2d, 1) := by decide +kernel
theorem dL_law_1026 : decode cL_law 1026 = .ok (.dstore 8, 2) := by decide +kernel
theorem dL_law_1028 : decode cL_law 1028 = .ok (.dload 6, 2) := by decide +kernel
theorem dL_law_1030 : decode cL_law 1030 = .ok (.dload 8, 2) := by decide +kernel
theorem dL_law_1032 : decode cL_law 1032 = .ok (.dcmp .l, 1) := by decide +kernel
theorem dL_law_1033 : decode cL_law 1033 = .ok (.ifCond .eq 21, 3) := by decide +kernel
theorem dL_law_1036 : decode cL_law 1036 = .ok (.dload 6, 2) := by decide +kernel
theorem dL_law_1038 : decode cL_law 1038 = .ok (.dload 6, 2) := by decide +kernel
theorem dL_law_1040 : decode cL_law 1040 = .ok (.dcmp .l, 1) := by decide +kernel
theorem dL_law_1041 : decode cL_law 1041 = .ok (.ifCond .eq 11, 3) := by decide +kernel
theorem dL_law_1044 : decode cL_law 1044 = .ok (.dload 8, 2) := by decide +kernel
theorem dL_law_1046 : decode cL_law 1046 = .ok (.dload 8, 2) := by decide +kernel
theorem dL_law_1048 : decode cL_law 1048 = .ok (.dcmp .l, 1) := by decide +kernel
theorem dL_law_1049 : decode cL_law 1049 = .ok (.ifCond .ne 5, 3) := by decide +kernel
theorem dL_law_1052 : decode cL_law 1052 = .ok (.iconst 0, 1) := by decide +kernel
theorem dL_law_1053 : decode cL_law 1053 = .ok (.ireturn, 1) := by decide +kernel
theorem dL_law_1054 : decode cL_law 1054 = .ok (.goto 3, 3) := by decide +kernel
theorem dL_law_1057 : decode cL_law 1057 = .ok (.iinc 5 4, 3) := by decide +kernel
theorem dL_law_1060 : decode cL_law 1060 = .ok (.goto (-1032), 3) := by decide +kernel
theorem dL_law_1063 : decode cL_law 1063 = .ok (.iconst 1, 1) := by decide +kernel
theorem dL_law_1064 : decode cL_law 1064 = .ok (.ireturn, 1) := by decide +kernel
