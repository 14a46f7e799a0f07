theorem dX5_drawingAt_29 : decode cX5_drawingAt 29 = .ok (.iload_n 1, 1) := by decide +kernel
theorem dX5_drawingAt_30 : decode cX5_drawingAt 30 = .ok (.invokevirtual 199, 3) := by decide +kernel
theorem dX5_drawingAt_33 : decode cX5_drawingAt 33 = .ok (.checkcast 40, 3) := by decide +kernel
theorem dX5_drawingAt_36 : decode cX5_drawingAt 36 = .ok (.areturn, 1) := by decide +kernel
theorem dX5_jobAt_0 : decode cX5_jobAt 0 = .ok (.iload_n 1, 1) := by decide +kernel
theorem dX5_jobAt_1 : decode cX5_jobAt 1 = .ok (.ifCond .lt 14, 3) := by decide +kernel
theorem dX5_jobAt_4 : decode cX5_jobAt 4 = .ok (.iload_n 1, 1) := by decide +kernel
theorem dX5_jobAt_5 : decode cX5_jobAt 5 = .ok (.aload_n 0, 1) := by decide +kernel
theorem dX5_jobAt_6 : decode cX5_jobAt 6 = .ok (.getfield 16, 3) := by decide +kernel
theorem dX5_jobAt_9 : decode cX5_jobAt 9 = .ok (.invokevirtual 29, 3) := by decide +kernel
theorem dX5_jobAt_12 : decode cX5_jobAt 12 = .ok (.if_icmp .lt 13, 3) := by decide +kernel
theorem dX5_jobAt_15 : decode cX5_jobAt 15 = .ok (.new 57, 3) := by decide +kernel
theorem dX5_jobAt_18 : decode cX5_jobAt 18 = .ok (.dup, 1) := by decide +kernel
theorem dX5_jobAt_19 : decode cX5_jobAt 19 = .ok (.ldc 230, 2) := by decide +kernel
theorem dX5_jobAt_21 : decode cX5_jobAt 21 = .ok (.invokespecial 61, 3) := by decide +kernel
theorem dX5_jobAt_24 : decode cX5_jobAt 24 = .ok (.athrow, 1) := by decide +kernel
theorem dX5_jobAt_25 : decode cX5_jobAt 25 = .ok (.aload_n 0, 1) := by decide +kernel
theorem dX5_jobAt_26 : decode cX5_jobAt 26 = .ok (.getfield 16, 3) := by decide +kernel
theorem dX5_jobAt_29 : decode cX5_jobAt 29 = .ok (.iload_n 1, 1) := by decide +kernel
theorem dX5_jobAt_30 : decode cX5_jobAt 30 = .ok (.invokevirtual 199, 3) := by decide +kernel
theorem dX5_jobAt_33 : decode cX5_jobAt 33 = .ok (.checkcast 144, 3) := by decide +kernel
theorem dX5_jobAt_36 : decode cX5_jobAt 36 = .ok (.areturn, 1) := by decide +kernel
theorem dX5_isPoint_0 : decode cX5_isPoint 0 = .ok (.iload_n 0, 1) := by decide +kernel
theorem dX5_isPoint_1 : decode cX5_isPoint 1 = .ok (.ifCond .lt 14, 3) := by decide +kernel
theorem dX5_isPoint_4 : decode cX5_isPoint 4 = .ok (.iload_n 0, 1) := by decide +kernel
theorem dX5_isPoint_5 : decode cX5_isPoint 5 = .ok (.sipush 1024, 3) := by decide +kernel
theorem dX5_isPoint_8 : decode cX5_isPoint 8 = .ok (.if_icmp .ge 7, 3) := by decide +kernel
theorem dX5_isPoint_11 : decode cX5_isPoint 11 = .ok (.iconst 1, 1) := by decide +kernel
theorem dX5_isPoint_12 : decode cX5_isPoint 12 = .ok (.goto 4, 3) := by decide +kernel
theorem dX5_isPoint_15 : decode cX5_isPoint 15 = .ok (.iconst 0, 1) := by decide +kernel
theorem dX5_isPoint_16 : decode cX5_isPoint 16 = .ok (.ireturn, 1) := by decide +kernel
theorem dX5_isSide_0 : decode cX5_isSide 0 = .ok (.iload_n 0, 1) := by decide +kernel
theorem dX5_isSide_1 : decode cX5_isSide 1 = .ok (.iconst 1, 1) := by decide +kernel
theorem dX5_isSide_2 : decode cX5_isSide 2 = .ok (.if_icmp .lt 13, 3) := by decide +kernel
theorem dX5_isSide_5 : decode cX5_isSide 5 = .ok (.iload_n 0, 1) := by decide +kernel
theorem dX5_isSide_6 : decode cX5_isSide 6 = .ok (.bipush 64, 2) := by decide +kernel
theorem dX5_isSide_8 : decode cX5_isSide 8 = .ok (.if_icmp .gt 7, 3) := by decide +kernel
theorem dX5_isSide_11 : decode cX5_isSide 11 = .ok (.iconst 1, 1) := by decide +kernel
theorem dX5_isSide_12 : decode cX5_isSide 12 = .ok (.goto 4, 3) := by decide +kernel
theorem dX5_isSide_15 : decode cX5_isSide 15 = .ok (.iconst 0, 1) := by decide +kernel
theorem dX5_isSide_16 : decode cX5_isSide 16 = .ok (.ireturn, 1) := by decide +kernel
theorem dX5_addedForCopies_0 : decode cX5_addedForCopies 0 = .ok (.fload_n 0, 1) := by decide +kernel
theorem dX5_addedForCopies_1 : decode cX5_addedForCopies 1 = .ok (.fstore_n 3, 1) := by decide +kernel
theorem dX5_addedForCopies_2 : decode cX5_addedForCopies 2 = .ok (.iconst 0, 1) := by decide +kernel
theorem dX5_addedForCopies_3 : decode cX5_addedForCopies 3 = .ok (.istore 4, 2) := by decide +kernel
theorem dX5_addedForCopies_5 : decode cX5_addedForCopies 5 = .ok (.iload 4, 2) := by decide +kernel
theorem dX5_addedForCopies_7 : decode cX5_addedForCopies 7 = .ok (.iload_n 2, 1) := by decide +kernel
theorem dX5_addedForCopies_8 : decode cX5_addedForCopies 8 = .ok (.if_icmp .ge 13, 3) := by decide +kernel
theorem dX5_addedForCopies_11 : decode cX5_addedForCopies 11 = .ok (.fload_n 3, 1) := by decide +kernel
theorem dX5_addedForCopies_12 : decode cX5_addedForCopies 12 = .ok (.fload_n 1, 1) := by decide +kernel
theorem dX5_addedForCopies_13 : decode cX5_addedForCopies 13 = .ok (.fadd, 1) := by decide +kernel
theorem dX5_addedForCopies_14 : decode cX5_addedForCopies 14 = .ok (.fstore_n 3, 1) := by decide +kernel
theorem dX5_addedForCopies_15 : decode cX5_addedForCopies 15 = .ok (.iinc 4 1, 3) := by decide +kernel
theorem dX5_addedForCopies_18 : decode cX5_addedForCopies 18 = .ok (.goto (-13), 3) := by decide +kernel
theorem dX5_addedForCopies_21 : decode cX5_addedForCopies 21 = .ok (.fload_n 3, 1) := by decide +kernel
theorem dX5_addedForCopies_22 : decode cX5_addedForCopies 22 = .ok (.freturn, 1) := by decide +kernel
theorem dX5_tryWaiting_0 : decode cX5_tryWaiting 0 = .ok (.iconst 0, 1) := by decide +kernel
theorem dX5_tryWaiting_1 : decode cX5_tryWaiting 1 = .ok (.istore_n 1, 1) := by decide +kernel
theorem dX5_tryWaiting_2 : decode cX5_tryWaiting 2 = .ok (.iload_n 1, 1) := by decide +kernel
theorem dX5_tryWaiting_3 : decode cX5_tryWaiting 3 = .ok (.aload_n 0, 1) := by decide +kernel
theorem dX5_tryWaiting_4 : decode cX5_tryWaiting 4 = .ok (.getfield 16, 3) := by decide +kernel
theorem dX5_tryWaiting_7 : decode cX5_tryWaiting 7 = .ok (.invokevirtual 29, 3) := by decide +kernel
theorem dX5_tryWaiting_10 : decode cX5_tryWaiting 10 = .ok (.if_icmp .ge 47, 3) := by decide +kernel
theorem dX5_tryWaiting_13 : decode cX5_tryWaiting 13 = .ok (.aload_n 0, 1) := by decide +kernel
theorem dX5_tryWaiting_14 : decode cX5_tryWaiting 14 = .ok (.getfield 16, 3) := by decide +kernel
theorem dX5_tryWaiting_17 : decode cX5_tryWaiting 17 = .ok (.iload_n 1, 1) := by decide +kernel
theorem dX5_tryWaiting_18 : decode cX5_tryWaiting 18 = .ok (.invokevirtual 199, 3) := by decide +kernel
theorem dX5_tryWaiting_21 : decode cX5_tryWaiting 21 = .ok (.checkcast 144, 3) := by decide +kernel
theorem dX5_tryWaiting_24 : decode cX5_tryWaiting 24 = .ok (.astore_n 2, 1) := by decide +kernel
theorem dX5_tryWaiting_25 : decode cX5_tryWaiting 25 = .ok (.aload_n 2, 1) := by decide +kernel
theorem dX5_tryWaiting_26 : decode cX5_tryWaiting 26 = .ok (.getfield 157, 3) := by decide +kernel
theorem dX5_tryWaiting_29 : decode cX5_tryWaiting 29 = .ok (.ifCond .ne 22, 3) := by decide +kernel
theorem dX5_tryWaiting_32 : decode cX5_tryWaiting 32 = .ok (.aload_n 2, 1) := by decide +kernel
theorem dX5_tryWaiting_33 : decode cX5_tryWaiting 33 = .ok (.getfield 165, 3) := by decide +kernel
theorem dX5_tryWaiting_36 : decode cX5_tryWaiting 36 = .ok (.getfield 67, 3) := by decide +kernel
theorem dX5_tryWaiting_39 : decode cX5_tryWaiting 39 = .ok (.iconst 1, 1) := by decide +kernel
theorem dX5_tryWaiting_40 : decode cX5_tryWaiting 40 = .ok (.if_icmp .ne 11, 3) := by decide +kernel
theorem dX5_tryWaiting_43 : decode cX5_tryWaiting 43 = .ok (.aload_n 2, 1) := by decide +kernel
theorem dX5_tryWaiting_44 : decode cX5_tryWaiting 44 = .ok (.aload_n 0, 1) := by decide +kernel
theorem dX5_tryWaiting_45 : decode cX5_tryWaiting 45 = .ok (.getfield 25, 3) := by decide +kernel
theorem dX5_tryWaiting_48 : decode cX5_tryWaiting 48 = .ok (.invokevirtual 149, 3) := by decide +kernel
theorem dX5_tryWaiting_51 : decode cX5_tryWaiting 51 = .ok (.iinc 1 1, 3) := by decide +kernel
theorem dX5_tryWaiting_54 : decode cX5_tryWaiting 54 = .ok (.goto (-52), 3) := by decide +kernel
theorem dX5_tryWaiting_57 : decode cX5_tryWaiting 57 = .ok (.return_, 1) := by decide +kernel
theorem dX5_sheetsUnder_0 : decode cX5_sheetsUnder 0 = .ok (.iconst 0, 1) := by decide +kernel
theorem dX5_sheetsUnder_1 : decode cX5_sheetsUnder 1 = .ok (.istore_n 2, 1) := by decide +kernel
theorem dX5_sheetsUnder_2 : decode cX5_sheetsUnder 2 = .ok (.iconst 0, 1) := by decide +kernel
theorem dX5_sheetsUnder_3 : decode cX5_sheetsUnder 3 = .ok (.istore_n 3, 1) := by decide +kernel
theorem dX5_sheetsUnder_4 : decode cX5_sheetsUnder 4 = .ok (.iload_n 3, 1) := by decide +kernel
theorem dX5_sheetsUnder_5 : decode cX5_sheetsUnder 5 = .ok (.aload_n 0, 1) := by decide +kernel
theorem dX5_sheetsUnder_6 : decode cX5_sheetsUnder 6 = .ok (.getfield 16, 3) := by decide +kernel
theorem dX5_sheetsUnder_9 : decode cX5_sheetsUnder 9 = .ok (.invokevirtual 29, 3) := by decide +kernel
theorem dX5_sheetsUnder_12 : decode cX5_sheetsUnder 12 = .ok (.if_icmp .ge 48, 3) := by decide +kernel
theorem dX5_sheetsUnder_15 : decode cX5_sheetsUnder 15 = .ok (.aload_n 0, 1) := by decide +kernel
theorem dX5_sheetsUnder_16 : decode cX5_sheetsUnder 16 = .ok (.getfield 16, 3) := by decide +kernel
theorem dX5_sheetsUnder_19 : decode cX5_sheetsUnder 19 = .ok (.iload_n 3, 1) := by decide +kernel
theorem dX5_sheetsUnder_20 : decode cX5_sheetsUnder 20 = .ok (.invokevirtual 199, 3) := by decide +kernel
theorem dX5_sheetsUnder_23 : decode cX5_sheetsUnder 23 = .ok (.checkcast 144, 3) := by decide +kernel
theorem dX5_sheetsUnder_26 : decode cX5_sheetsUnder 26 = .ok (.astore 4, 2) := by decide +kernel
theorem dX5_sheetsUnder_28 : decode cX5_sheetsUnder 28 = .ok (.aload 4, 2) := by decide +kernel
theorem dX5_sheetsUnder_30 : decode cX5_sheetsUnder 30 = .ok (.getfield 157, 3) := by decide +kernel
theorem dX5_sheetsUnder_33 : decode cX5_sheetsUnder 33 = .ok (.iconst 1, 1) := by decide +kernel
theorem dX5_sheetsUnder_34 : decode cX5_sheetsUnder 34 = .ok (.if_icmp .ne 20, 3) := by decide +kernel
theorem dX5_sheetsUnder_37 : decode cX5_sheetsUnder 37 = .ok (.aload 4, 2) := by decide +kernel
theorem dX5_sheetsUnder_39 : decode cX5_sheetsUnder 39 = .ok (.getfield 165, 3) := by decide +kernel
theorem dX5_sheetsUnder_42 : decode cX5_sheetsUnder 42 = .ok (.aload_n 1, 1) := by decide +kernel
theorem dX5_sheetsUnder_43 : decode cX5_sheetsUnder 43 = .ok (.if_acmp .ne 11, 3) := by decide +kernel
theorem dX5_sheetsUnder_46 : decode cX5_sheetsUnder 46 = .ok (.iload_n 2, 1) := by decide +kernel
theorem dX5_sheetsUnder_47 : decode cX5_sheetsUnder 47 = .ok (.aload 4, 2) := by decide +kernel
theorem dX5_sheetsUnder_49 : decode cX5_sheetsUnder 49 = .ok (.invokevirtual 232, 3) := by decide +kernel
theorem dX5_sheetsUnder_52 : decode cX5_sheetsUnder 52 = .ok (.ior, 1) := by decide +kernel
theorem dX5_sheetsUnder_53 : decode cX5_sheetsUnder 53 = .ok (.istore_n 2, 1) := by decide +kernel
theorem dX5_sheetsUnder_54 : decode cX5_sheetsUnder 54 = .ok (.iinc 3 1, 3) := by decide +kernel
theorem dX5_sheetsUnder_57 : decode cX5_sheetsUnder 57 = .ok (.goto (-53), 3) := by decide +kernel
theorem dX5_sheetsUnder_60 : decode cX5_sheetsUnder 60 = .ok (.iload_n 2, 1) := by decide +kernel
theorem dX5_sheetsUnder_61 : decode cX5_sheetsUnder 61 = .ok (.ireturn, 1) := by decide +kernel
theorem dX5_clearSheets_0 : decode cX5_clearSheets 0 = .ok (.iconst 0, 1) := by decide +kernel
theorem dX5_clearSheets_1 : decode cX5_clearSheets 1 = .ok (.istore_n 2, 1) := by decide +kernel
theorem dX5_clearSheets_2 : decode cX5_clearSheets 2 = .ok (.aload_n 0, 1) := by decide +kernel
theorem dX5_clearSheets_3 : decode cX5_clearSheets 3 = .ok (.getfield 16, 3) := by decide +kernel
theorem dX5_clearSheets_6 : decode cX5_clearSheets 6 = .ok (.invokevirtual 29, 3) := by decide +kernel
theorem dX5_clearSheets_9 : decode cX5_clearSheets 9 = .ok (.iconst 1, 1) := by decide +kernel
theorem dX5_clearSheets_10 : decode cX5_clearSheets 10 = .ok (.isub, 1) := by decide +kernel
theorem dX5_clearSheets_11 : decode cX5_clearSheets 11 = .ok (.istore_n 3, 1) := by decide +kernel
theorem dX5_clearSheets_12 : decode cX5_clearSheets 12 = .ok (.iload_n 3, 1) := by decide +kernel
theorem dX5_clearSheets_13 : decode cX5_clearSheets 13 = .ok (.ifCond .lt 49, 3) := by decide +kernel
theorem dX5_clearSheets_16 : decode cX5_clearSheets 16 = .ok (.aload_n 0, 1) := by decide +kernel
theorem dX5_clearSheets_17 : decode cX5_clearSheets 17 = .ok (.getfield 16, 3) := by decide +kernel
theorem dX5_clearSheets_20 : decode cX5_clearSheets 20 = .ok (.iload_n 3, 1) := by decide +kernel
theorem dX5_clearSheets_21 : decode cX5_clearSheets 21 = .ok (.invokevirtual 199, 3) := by decide +kernel
theorem dX5_clearSheets_24 : decode cX5_clearSheets 24 = .ok (.checkcast 144, 3) := by decide +kernel
theorem dX5_clearSheets_27 : decode cX5_clearSheets 27 = .ok (.astore 4, 2) := by decide +kernel
theorem dX5_clearSheets_29 : decode cX5_clearSheets 29 = .ok (.aload 4, 2) := by decide +kernel
theorem dX5_clearSheets_31 : decode cX5_clearSheets 31 = .ok (.getfield 157, 3) := by decide +kernel
theorem dX5_clearSheets_34 : decode cX5_clearSheets 34 = .ok (.iconst 1, 1) := by decide +kernel
theorem dX5_clearSheets_35 : decode cX5_clearSheets 35 = .ok (.if_icmp .ne 21, 3) := by decide +kernel
theorem dX5_clearSheets_38 : decode cX5_clearSheets 38 = .ok (.aload 4, 2) := by decide +kernel
theorem dX5_clearSheets_40 : decode cX5_clearSheets 40 = .ok (.invokevirtual 232, 3) := by decide +kernel
theorem dX5_clearSheets_43 : decode cX5_clearSheets 43 = .ok (.iload_n 1, 1) := by decide +kernel
theorem dX5_clearSheets_44 : decode cX5_clearSheets 44 = .ok (.iand, 1) := by decide +kernel
theorem dX5_clearSheets_45 : decode cX5_clearSheets 45 = .ok (.ifCond .eq 11, 3) := by decide +kernel
theorem dX5_clearSheets_48 : decode cX5_clearSheets 48 = .ok (.aload 4, 2) := by decide +kernel
theorem dX5_clearSheets_50 : decode cX5_clearSheets 50 = .ok (.invokevirtual 160, 3) := by decide +kernel
theorem dX5_clearSheets_53 : decode cX5_clearSheets 53 = .ok (.iinc 2 1, 3) := by decide +kernel
theorem dX5_clearSheets_56 : decode cX5_clearSheets 56 = .ok (.iinc 3 (-1), 3) := by decide +kernel
theorem dX5_clearSheets_59 : decode cX5_clearSheets 59 = .ok (.goto (-47), 3) := by decide +kernel
theorem dX5_clearSheets_62 : decode cX5_clearSheets 62 = .ok (.iload_n 2, 1) := by decide +kernel
theorem dX5_clearSheets_63 : decode cX5_clearSheets 63 = .ok (.ireturn, 1) := by decide +kernel
theorem dX6_init_0 : decode cX6_init 0 = .ok (.aload_n 0, 1) := by decide +kernel
theorem dX6_init_1 : decode cX6_init 1 = .ok (.invokespecial 1, 3) := by decide +kernel
theorem dX6_init_4 : decode cX6_init 4 = .ok (.aload_n 0, 1) := by decide +kernel
theorem dX6_init_5 : decode cX6_init 5 = .ok (.bipush 12, 2) := by decide +kernel
theorem dX6_init_7 : decode cX6_init 7 = .ok (.newarray .int, 2) := by decide +kernel
theorem dX6_init_9 : decode cX6_init 9 = .ok (.putfield 7, 3) := by decide +kernel
theorem dX6_init_12 : decode cX6_init 12 = .ok (.aload_n 0, 1) := by decide +kernel
theorem dX6_init_13 : decode cX6_init 13 = .ok (.bipush 12, 2) := by decide +kernel
theorem dX6_init_15 : decode cX6_init 15 = .ok (.newarray .int, 2) := by decide +kernel
theorem dX6_init_17 : decode cX6_init 17 = .ok (.putfield 13, 3) := by decide +kernel
theorem dX6_init_20 : decode cX6_init 20 = .ok (.aload_n 0, 1) := by decide +kernel
theorem dX6_init_21 : decode cX6_init 21 = .ok (.bipush 12, 2) := by decide +kernel
theorem dX6_init_23 : decode cX6_init 23 = .ok (.newarray .int, 2) := by decide +kernel
theorem dX6_init_25 : decode cX6_init 25 = .ok (.putfield 16, 3) := by decide +kernel
theorem dX6_init_28 : decode cX6_init 28 = .ok (.aload_n 0, 1) := by decide +kernel
theorem dX6_init_29 : decode cX6_init 29 = .ok (.sipush 288, 3) := by decide +kernel
theorem dX6_init_32 : decode cX6_init 32 = .ok (.newarray .int, 2) := by decide +kernel
theorem dX6_init_34 : decode cX6_init 34 = .ok (.putfield 19, 3) := by decide +kernel
theorem dX6_init_37 : decode cX6_init 37 = .ok (.aload_n 0, 1) := by decide +kernel
theorem dX6_init_38 : decode cX6_init 38 = .ok (.sipush 288, 3) := by decide +kernel
theorem dX6_init_41 : decode cX6_init 41 = .ok (.newarray .int, 2) := by decide +kernel
theorem dX6_init_43 : decode cX6_init 43 = .ok (.putfield 22, 3) := by decide +kernel
theorem dX6_init_46 : decode cX6_init 46 = .ok (.aload_n 0, 1) := by decide +kernel
theorem dX6_init_47 : decode cX6_init 47 = .ok (.sipush 1024, 3) := by decide +kernel
theorem dX6_init_50 : decode cX6_init 50 = .ok (.newarray .int, 2) := by decide +kernel
theorem dX6_init_52 : decode cX6_init 52 = .ok (.putfield 25, 3) := by decide +kernel
theorem dX6_init_55 : decode cX6_init 55 = .ok (.aload_n 0, 1) := by decide +kernel
theorem dX6_init_56 : decode cX6_init 56 = .ok (.sipush 400, 3) := by decide +kernel
theorem dX6_init_59 : decode cX6_init 59 = .ok (.newarray .int, 2) := by decide +kernel
theorem dX6_init_61 : decode cX6_init 61 = .ok (.putfield 28, 3) := by decide +kernel
theorem dX6_init_64 : decode cX6_init 64 = .ok (.aload_n 0, 1) := by decide +kernel
theorem dX6_init_65 : decode cX6_init 65 = .ok (.sipush 400, 3) := by decide +kernel
theorem dX6_init_68 : decode cX6_init 68 = .ok (.newarray .int, 2) := by decide +kernel
theorem dX6_init_70 : decode cX6_init 70 = .ok (.putfield 31, 3) := by decide +kernel
theorem dX6_init_73 : decode cX6_init 73 = .ok (.aload_n 0, 1) := by decide +kernel
theorem dX6_init_74 : decode cX6_init 74 = .ok (.sipush 400, 3) := by decide +kernel
theorem dX6_init_77 : decode cX6_init 77 = .ok (.newarray .int, 2) := by decide +kernel
theorem dX6_init_79 : decode cX6_init 79 = .ok (.putfield 34, 3) := by decide +kernel
theorem dX6_init_82 : decode cX6_init 82 = .ok (.aload_n 0, 1) := by decide +kernel
theorem dX6_init_83 : decode cX6_init 83 = .ok (.sipush 400, 3) := by decide +kernel
theorem dX6_init_86 : decode cX6_init 86 = .ok (.newarray .int, 2) := by decide +kernel
theorem dX6_init_88 : decode cX6_init 88 = .ok (.putfield 37, 3) := by decide +kernel
theorem dX6_init_91 : decode cX6_init 91 = .ok (.aload_n 0, 1) := by decide +kernel
theorem dX6_init_92 : decode cX6_init 92 = .ok (.sipush 400, 3) := by decide +kernel
theorem dX6_init_95 : decode cX6_init 95 = .ok (.newarray .int, 2) := by decide +kernel
theorem dX6_init_97 : decode cX6_init 97 = .ok (.putfield 40, 3) := by decide +kernel
theorem dX6_init_100 : decode cX6_init 100 = .ok (.aload_n 0, 1) := by decide +kernel
theorem dX6_init_101 : decode cX6_init 101 = .ok (.sipush 400, 3) := by decide +kernel
theorem dX6_init_104 : decode cX6_init 104 = .ok (.newarray .int, 2) := by decide +kernel
theorem dX6_init_106 : decode cX6_init 106 = .ok (.putfield 43, 3) := by decide +kernel
theorem dX6_init_109 : decode cX6_init 109 = .ok (.aload_n 0, 1) := by decide +kernel
theorem dX6_init_110 : decode cX6_init 110 = .ok (.sipush 400, 3) := by decide +kernel
theorem dX6_init_113 : decode cX6_init 113 = .ok (.newarray .int, 2) := by decide +kernel
theorem dX6_init_115 : decode cX6_init 115 = .ok (.putfield 46, 3) := by decide +kernel
theorem dX6_init_118 : decode cX6_init 118 = .ok (.aload_n 0, 1) := by decide +kernel
theorem dX6_init_119 : decode cX6_init 119 = .ok (.bipush 30, 2) := by decide +kernel
theorem dX6_init_121 : decode cX6_init 121 = .ok (.newarray .int, 2) := by decide +kernel
theorem dX6_init_123 : decode cX6_init 123 = .ok (.putfield 49, 3) := by decide +kernel
theorem dX6_init_126 : decode cX6_init 126 = .ok (.aload_n 0, 1) := by decide +kernel
theorem dX6_init_127 : decode cX6_init 127 = .ok (.bipush 30, 2) := by decide +kernel
theorem dX6_init_129 : decode cX6_init 129 = .ok (.newarray .int, 2) := by decide +kernel
theorem dX6_init_131 : decode cX6_init 131 = .ok (.putfield 52, 3) := by decide +kernel
theorem dX6_init_134 : decode cX6_init 134 = .ok (.aload_n 0, 1) := by decide +kernel
theorem dX6_init_135 : decode cX6_init 135 = .ok (.bipush 30, 2) := by decide +kernel
theorem dX6_init_137 : decode cX6_init 137 = .ok (.newarray .int, 2) := by decide +kernel
theorem dX6_init_139 : decode cX6_init 139 = .ok (.putfield 55, 3) := by decide +kernel
theorem dX6_init_142 : decode cX6_init 142 = .ok (.aload_n 0, 1) := by decide +kernel
theorem dX6_init_143 : decode cX6_init 143 = .ok (.bipush 30, 2) := by decide +kernel
theorem dX6_init_145 : decode cX6_init 145 = .ok (.newarray .int, 2) := by decide +kernel
theorem dX6_init_147 : decode cX6_init 147 = .ok (.putfield 58, 3) := by decide +kernel
theorem dX6_init_150 : decode cX6_init 150 = .ok (.aload_n 0, 1) := by decide +kernel
theorem dX6_init_151 : decode cX6_init 151 = .ok (.sipush 180, 3) := by decide +kernel
theorem dX6_init_154 : decode cX6_init 154 = .ok (.newarray .int, 2) := by decide +kernel
theorem dX6_init_156 : decode cX6_init 156 = .ok (.putfield 61, 3) := by decide +kernel
theorem dX6_init_159 : decode cX6_init 159 = .ok (.aload_n 0, 1) := by decide +kernel
theorem dX6_init_160 : decode cX6_init 160 = .ok (.bipush 30, 2) := by decide +kernel
theorem dX6_init_162 : decode cX6_init 162 = .ok (.newarray .int, 2) := by decide +kernel
theorem dX6_init_164 : decode cX6_init 164 = .ok (.putfield 64, 3) := by decide +kernel
theorem dX6_init_167 : decode cX6_init 167 = .ok (.return_, 1) := by decide +kernel
theorem dX6_thrown_0 : decode cX6_thrown 0 = .ok (.aload_n 0, 1) := by decide +kernel
theorem dX6_thrown_1 : decode cX6_thrown 1 = .ok (.getfield 67, 3) := by decide +kernel
theorem dX6_thrown_4 : decode cX6_thrown 4 = .ok (.ireturn, 1) := by decide +kernel
theorem dX6_holds_0 : decode cX6_holds 0 = .ok (.aload_n 0, 1) := by decide +kernel
theorem dX6_holds_1 : decode cX6_holds 1 = .ok (.iload_n 1, 1) := by decide +kernel
theorem dX6_holds_2 : decode cX6_holds 2 = .ok (.putfield 67, 3) := by decide +kernel
theorem dX6_holds_5 : decode cX6_holds 5 = .ok (.iload_n 1, 1) := by decide +kernel
theorem dX6_holds_6 : decode cX6_holds 6 = .ok (.ifCond .le 7, 3) := by decide +kernel
theorem dX6_holds_9 : decode cX6_holds 9 = .ok (.iconst 1, 1) := by decide +kernel
theorem dX6_holds_10 : decode cX6_holds 10 = .ok (.goto 4, 3) := by decide +kernel
theorem dX6_holds_13 : decode cX6_holds 13 = .ok (.iconst 0, 1) := by decide +kernel
theorem dX6_holds_14 : decode cX6_holds 14 = .ok (.ireturn, 1) := by decide +kernel
theorem dX6_in_0 : decode cX6_in 0 = .ok (.iload_n 1, 1) := by decide +kernel
theorem dX6_in_1 : decode cX6_in 1 = .ok (.iload_n 2, 1) := by decide +kernel
theorem dX6_in_2 : decode cX6_in 2 = .ok (.if_icmp .lt 12, 3) := by decide +kernel
theorem dX6_in_5 : decode cX6_in 5 = .ok (.iload_n 1, 1) := by decide +kernel
theorem dX6_in_6 : decode cX6_in 6 = .ok (.iload_n 3, 1) := by decide +kernel
theorem dX6_in_7 : decode cX6_in 7 = .ok (.if_icmp .gt 7, 3) := by decide +kernel
theorem dX6_in_10 : decode cX6_in 10 = .ok (.iconst 1, 1) := by decide +kernel
theorem dX6_in_11 : decode cX6_in 11 = .ok (.goto 4, 3) := by decide +kernel
theorem dX6_in_14 : decode cX6_in 14 = .ok (.iconst 0, 1) := by decide +kernel
theorem dX6_in_15 : decode cX6_in 15 = .ok (.ireturn, 1) := by decide +kernel
theorem dX6_isDrawing_0 : decode cX6_isDrawing 0 = .ok (.aload_n 0, 1) := by decide +kernel
theorem dX6_isDrawing_1 : decode cX6_isDrawing 1 = .ok (.iload_n 1, 1) := by decide +kernel
theorem dX6_isDrawing_2 : decode cX6_isDrawing 2 = .ok (.iconst 0, 1) := by decide +kernel
theorem dX6_isDrawing_3 : decode cX6_isDrawing 3 = .ok (.aload_n 0, 1) := by decide +kernel
theorem dX6_isDrawing_4 : decode cX6_isDrawing 4 = .ok (.getfield 71, 3) := by decide +kernel
theorem dX6_isDrawing_7 : decode cX6_isDrawing 7 = .ok (.iconst 1, 1) := by decide +kernel
theorem dX6_isDrawing_8 : decode cX6_isDrawing 8 = .ok (.isub, 1) := by decide +kernel
theorem dX6_isDrawing_9 : decode cX6_isDrawing 9 = .ok (.invokevirtual 74, 3) := by decide +kernel
theorem dX6_isDrawing_12 : decode cX6_isDrawing 12 = .ok (.ireturn, 1) := by decide +kernel
theorem dX6_drawing_0 : decode cX6_drawing 0 = .ok (.aload_n 0, 1) := by decide +kernel
theorem dX6_drawing_1 : decode cX6_drawing 1 = .ok (.aload_n 0, 1) := by decide +kernel
theorem dX6_drawing_2 : decode cX6_drawing 2 = .ok (.getfield 71, 3) := by decide +kernel
theorem dX6_drawing_5 : decode cX6_drawing 5 = .ok (.bipush 12, 2) := by decide +kernel
theorem dX6_drawing_7 : decode cX6_drawing 7 = .ok (.if_icmp .ne 7, 3) := by decide +kernel
theorem dX6_drawing_10 : decode cX6_drawing 10 = .ok (.iconst 1, 1) := by decide +kernel
theorem dX6_drawing_11 : decode cX6_drawing 11 = .ok (.goto 4, 3) := by decide +kernel
theorem dX6_drawing_14 : decode cX6_drawing 14 = .ok (.iconst 0, 1) := by decide +kernel
theorem dX6_drawing_15 : decode cX6_drawing 15 = .ok (.invokevirtual 78, 3) := by decide +kernel
theorem dX6_drawing_18 : decode cX6_drawing 18 = .ok (.ifCond .eq 5, 3) := by decide +kernel
theorem dX6_drawing_21 : decode cX6_drawing 21 = .ok (.iconst (-1), 1) := by decide +kernel
theorem dX6_drawing_22 : decode cX6_drawing 22 = .ok (.ireturn, 1) := by decide +kernel
theorem dX6_drawing_23 : decode cX6_drawing 23 = .ok (.aload_n 0, 1) := by decide +kernel
theorem dX6_drawing_24 : decode cX6_drawing 24 = .ok (.dup, 1) := by decide +kernel
theorem dX6_drawing_25 : decode cX6_drawing 25 = .ok (.getfield 71, 3) := by decide +kernel
theorem dX6_drawing_28 : decode cX6_drawing 28 = .ok (.iconst 1, 1) := by decide +kernel
theorem dX6_drawing_29 : decode cX6_drawing 29 = .ok (.iadd, 1) := by decide +kernel
theorem dX6_drawing_30 : decode cX6_drawing 30 = .ok (.putfield 71, 3) := by decide +kernel
theorem dX6_drawing_33 : decode cX6_drawing 33 = .ok (.aload_n 0, 1) := by decide +kernel
theorem dX6_drawing_34 : decode cX6_drawing 34 = .ok (.getfield 71, 3) := by decide +kernel
theorem dX6_drawing_37 : decode cX6_drawing 37 = .ok (.iconst 1, 1) := by decide +kernel
theorem dX6_drawing_38 : decode cX6_drawing 38 = .ok (.isub, 1) := by decide +kernel
theorem dX6_drawing_39 : decode cX6_drawing 39 = .ok (.ireturn, 1) := by decide +kernel
theorem dX6_stroke_0 : decode cX6_stroke 0 = .ok (.aload_n 0, 1) := by decide +kernel
theorem dX6_stroke_1 : decode cX6_stroke 1 = .ok (.iload_n 1, 1) := by decide +kernel
theorem dX6_stroke_2 : decode cX6_stroke 2 = .ok (.invokevirtual 82, 3) := by decide +kernel
theorem dX6_stroke_5 : decode cX6_stroke 5 = .ok (.ifCond .eq 31, 3) := by decide +kernel
theorem dX6_stroke_8 : decode cX6_stroke 8 = .ok (.aload_n 0, 1) := by decide +kernel
theorem dX6_stroke_9 : decode cX6_stroke 9 = .ok (.iload_n 2, 1) := by decide +kernel
theorem dX6_stroke_10 : decode cX6_stroke 10 = .ok (.iconst 0, 1) := by decide +kernel
theorem dX6_stroke_11 : decode cX6_stroke 11 = .ok (.sipush 1023, 3) := by decide +kernel
theorem dX6_stroke_14 : decode cX6_stroke 14 = .ok (.invokevirtual 74, 3) := by decide +kernel
theorem dX6_stroke_17 : decode cX6_stroke 17 = .ok (.ifCond .eq 19, 3) := by decide +kernel
theorem dX6_stroke_20 : decode cX6_stroke 20 = .ok (.aload_n 0, 1) := by decide +kernel
theorem dX6_stroke_21 : decode cX6_stroke 21 = .ok (.iload_n 3, 1) := by decide +kernel
theorem dX6_stroke_22 : decode cX6_stroke 22 = .ok (.iconst 0, 1) := by decide +kernel
theorem dX6_stroke_23 : decode cX6_stroke 23 = .ok (.sipush 1023, 3) := by decide +kernel
theorem dX6_stroke_26 : decode cX6_stroke 26 = .ok (.invokevirtual 74, 3) := by decide +kernel
theorem dX6_stroke_29 : decode cX6_stroke 29 = .ok (.ifCond .eq 7, 3) := by decide +kernel
theorem dX6_stroke_32 : decode cX6_stroke 32 = .ok (.iconst 1, 1) := by decide +kernel
theorem dX6_stroke_33 : decode cX6_stroke 33 = .ok (.goto 4, 3) := by decide +kernel
theorem dX6_stroke_36 : decode cX6_stroke 36 = .ok (.iconst 0, 1) := by decide +kernel
theorem dX6_stroke_37 : decode cX6_stroke 37 = .ok (.istore 4, 2) := by decide +kernel
theorem dX6_stroke_39 : decode cX6_stroke 39 = .ok (.aload_n 0, 1) := by decide +kernel
theorem dX6_stroke_40 : decode cX6_stroke 40 = .ok (.iload 4, 2) := by decide +kernel
theorem dX6_stroke_42 : decode cX6_stroke 42 = .ok (.ifCond .ne 7, 3) := by decide +kernel
theorem dX6_stroke_45 : decode cX6_stroke 45 = .ok (.iconst 1, 1) := by decide +kernel
theorem dX6_stroke_46 : decode cX6_stroke 46 = .ok (.goto 38, 3) := by decide +kernel
theorem dX6_stroke_49 : decode cX6_stroke 49 = .ok (.iload_n 2, 1) := by decide +kernel
theorem dX6_stroke_50 : decode cX6_stroke 50 = .ok (.iload_n 3, 1) := by decide +kernel
theorem dX6_stroke_51 : decode cX6_stroke 51 = .ok (.if_icmp .ne 7, 3) := by decide +kernel
theorem dX6_stroke_54 : decode cX6_stroke 54 = .ok (.iconst 2, 1) := by decide +kernel
theorem dX6_stroke_55 : decode cX6_stroke 55 = .ok (.goto 29, 3) := by decide +kernel
theorem dX6_stroke_58 : decode cX6_stroke 58 = .ok (.aload_n 0, 1) := by decide +kernel
theorem dX6_stroke_59 : decode cX6_stroke 59 = .ok (.getfield 7, 3) := by decide +kernel
theorem dX6_stroke_62 : decode cX6_stroke 62 = .ok (.iload_n 1, 1) := by decide +kernel
theorem dX6_stroke_63 : decode cX6_stroke 63 = .ok (.iaload, 1) := by decide +kernel
theorem dX6_stroke_64 : decode cX6_stroke 64 = .ok (.iconst 1, 1) := by decide +kernel
theorem dX6_stroke_65 : decode cX6_stroke 65 = .ok (.if_icmp .eq 14, 3) := by decide +kernel
theorem dX6_stroke_68 : decode cX6_stroke 68 = .ok (.aload_n 0, 1) := by decide +kernel
theorem dX6_stroke_69 : decode cX6_stroke 69 = .ok (.getfield 13, 3) := by decide +kernel
theorem dX6_stroke_72 : decode cX6_stroke 72 = .ok (.iload_n 1, 1) := by decide +kernel
theorem dX6_stroke_73 : decode cX6_stroke 73 = .ok (.iaload, 1) := by decide +kernel
theorem dX6_stroke_74 : decode cX6_stroke 74 = .ok (.bipush 24, 2) := by decide +kernel
theorem dX6_stroke_76 : decode cX6_stroke 76 = .ok (.if_icmp .ne 7, 3) := by decide +kernel
theorem dX6_stroke_79 : decode cX6_stroke 79 = .ok (.iconst 3, 1) := by decide +kernel
theorem dX6_stroke_80 : decode cX6_stroke 80 = .ok (.goto 4, 3) := by decide +kernel
theorem dX6_stroke_83 : decode cX6_stroke 83 = .ok (.iconst 0, 1) := by decide +kernel
theorem dX6_stroke_84 : decode cX6_stroke 84 = .ok (.invokevirtual 78, 3) := by decide +kernel
theorem dX6_stroke_87 : decode cX6_stroke 87 = .ok (.ifCond .eq 5, 3) := by decide +kernel
theorem dX6_stroke_90 : decode cX6_stroke 90 = .ok (.iconst (-1), 1) := by decide +kernel
theorem dX6_stroke_91 : decode cX6_stroke 91 = .ok (.ireturn, 1) := by decide +kernel
theorem dX6_stroke_92 : decode cX6_stroke 92 = .ok (.aload_n 0, 1) := by decide +kernel
theorem dX6_stroke_93 : decode cX6_stroke 93 = .ok (.getfield 19, 3) := by decide +kernel
theorem dX6_stroke_96 : decode cX6_stroke 96 = .ok (.bipush 24, 2) := by decide +kernel
theorem dX6_stroke_98 : decode cX6_stroke 98 = .ok (.iload_n 1, 1) := by decide +kernel
theorem dX6_stroke_99 : decode cX6_stroke 99 = .ok (.imul, 1) := by decide +kernel
theorem dX6_stroke_100 : decode cX6_stroke 100 = .ok (.aload_n 0, 1) := by decide +kernel
theorem dX6_stroke_101 : decode cX6_stroke 101 = .ok (.getfield 13, 3) := by decide +kernel
theorem dX6_stroke_104 : decode cX6_stroke 104 = .ok (.iload_n 1, 1) := by decide +kernel
theorem dX6_stroke_105 : decode cX6_stroke 105 = .ok (.iaload, 1) := by decide +kernel
theorem dX6_stroke_106 : decode cX6_stroke 106 = .ok (.iadd, 1) := by decide +kernel
theorem dX6_stroke_107 : decode cX6_stroke 107 = .ok (.iload_n 2, 1) := by decide +kernel
theorem dX6_stroke_108 : decode cX6_stroke 108 = .ok (.iastore, 1) := by decide +kernel
theorem dX6_stroke_109 : decode cX6_stroke 109 = .ok (.aload_n 0, 1) := by decide +kernel
theorem dX6_stroke_110 : decode cX6_stroke 110 = .ok (.getfield 22, 3) := by decide +kernel
theorem dX6_stroke_113 : decode cX6_stroke 113 = .ok (.bipush 24, 2) := by decide +kernel
theorem dX6_stroke_115 : decode cX6_stroke 115 = .ok (.iload_n 1, 1) := by decide +kernel
theorem dX6_stroke_116 : decode cX6_stroke 116 = .ok (.imul, 1) := by decide +kernel
theorem dX6_stroke_117 : decode cX6_stroke 117 = .ok (.aload_n 0, 1) := by decide +kernel
theorem dX6_stroke_118 : decode cX6_stroke 118 = .ok (.getfield 13, 3) := by decide +kernel
theorem dX6_stroke_121 : decode cX6_stroke 121 = .ok (.iload_n 1, 1) := by decide +kernel
theorem dX6_stroke_122 : decode cX6_stroke 122 = .ok (.iaload, 1) := by decide +kernel
theorem dX6_stroke_123 : decode cX6_stroke 123 = .ok (.iadd, 1) := by decide +kernel
theorem dX6_stroke_124 : decode cX6_stroke 124 = .ok (.iload_n 3, 1) := by decide +kernel
theorem dX6_stroke_125 : decode cX6_stroke 125 = .ok (.iastore, 1) := by decide +kernel
theorem dX6_stroke_126 : decode cX6_stroke 126 = .ok (.aload_n 0, 1) := by decide +kernel
theorem dX6_stroke_127 : decode cX6_stroke 127 = .ok (.getfield 13, 3) := by decide +kernel
theorem dX6_stroke_130 : decode cX6_stroke 130 = .ok (.iload_n 1, 1) := by decide +kernel
theorem dX6_stroke_131 : decode cX6_stroke 131 = .ok (.dup2, 1) := by decide +kernel
theorem dX6_stroke_132 : decode cX6_stroke 132 = .ok (.iaload, 1) := by decide +kernel
theorem dX6_stroke_133 : decode cX6_stroke 133 = .ok (.iconst 1, 1) := by decide +kernel
theorem dX6_stroke_134 : decode cX6_stroke 134 = .ok (.iadd, 1) := by decide +kernel
theorem dX6_stroke_135 : decode cX6_stroke 135 = .ok (.iastore, 1) := by decide +kernel
theorem dX6_stroke_136 : decode cX6_stroke 136 = .ok (.aload_n 0, 1) := by decide +kernel
theorem dX6_stroke_137 : decode cX6_stroke 137 = .ok (.getfield 13, 3) := by decide +kernel
theorem dX6_stroke_140 : decode cX6_stroke 140 = .ok (.iload_n 1, 1) := by decide +kernel
theorem dX6_stroke_141 : decode cX6_stroke 141 = .ok (.iaload, 1) := by decide +kernel
theorem dX6_stroke_142 : decode cX6_stroke 142 = .ok (.ireturn, 1) := by decide +kernel
theorem dX6_isDoubled_0 : decode cX6_isDoubled 0 = .ok (.iconst 0, 1) := by decide +kernel
theorem dX6_isDoubled_1 : decode cX6_isDoubled 1 = .ok (.istore_n 3, 1) := by decide +kernel
theorem dX6_isDoubled_2 : decode cX6_isDoubled 2 = .ok (.aload_n 0, 1) := by decide +kernel
theorem dX6_isDoubled_3 : decode cX6_isDoubled 3 = .ok (.getfield 19, 3) := by decide +kernel
theorem dX6_isDoubled_6 : decode cX6_isDoubled 6 = .ok (.bipush 24, 2) := by decide +kernel
theorem dX6_isDoubled_8 : decode cX6_isDoubled 8 = .ok (.iload_n 1, 1) := by decide +kernel
theorem dX6_isDoubled_9 : decode cX6_isDoubled 9 = .ok (.imul, 1) := by decide +kernel
theorem dX6_isDoubled_10 : decode cX6_isDoubled 10 = .ok (.iload_n 2, 1) := by decide +kernel
theorem dX6_isDoubled_11 : decode cX6_isDoubled 11 = .ok (.iadd, 1) := by decide +kernel
theorem dX6_isDoubled_12 : decode cX6_isDoubled 12 = .ok (.iaload, 1) := by decide +kernel
theorem dX6_isDoubled_13 : decode cX6_isDoubled 13 = .ok (.istore 4, 2) := by decide +kernel
theorem dX6_isDoubled_15 : decode cX6_isDoubled 15 = .ok (.aload_n 0, 1) := by decide +kernel
theorem dX6_isDoubled_16 : decode cX6_isDoubled 16 = .ok (.getfield 22, 3) := by decide +kernel
theorem dX6_isDoubled_19 : decode cX6_isDoubled 19 = .ok (.bipush 24, 2) := by decide +kernel
theorem dX6_isDoubled_21 : decode cX6_isDoubled 21 = .ok (.iload_n 1, 1) := by decide +kernel
theorem dX6_isDoubled_22 : decode cX6_isDoubled 22 = .ok (.imul, 1) := by decide +kernel
theorem dX6_isDoubled_23 : decode cX6_isDoubled 23 = .ok (.iload_n 2, 1) := by decide +kernel
theorem dX6_isDoubled_24 : decode cX6_isDoubled 24 = .ok (.iadd, 1) := by decide +kernel
theorem dX6_isDoubled_25 : decode cX6_isDoubled 25 = .ok (.iaload, 1) := by decide +kernel
theorem dX6_isDoubled_26 : decode cX6_isDoubled 26 = .ok (.istore 5, 2) := by decide +kernel
theorem dX6_isDoubled_28 : decode cX6_isDoubled 28 = .ok (.bipush 24, 2) := by decide +kernel
theorem dX6_isDoubled_30 : decode cX6_isDoubled 30 = .ok (.iload_n 1, 1) := by decide +kernel
theorem dX6_isDoubled_31 : decode cX6_isDoubled 31 = .ok (.imul, 1) := by decide +kernel
theorem dX6_isDoubled_32 : decode cX6_isDoubled 32 = .ok (.istore 6, 2) := by decide +kernel
theorem dX6_isDoubled_34 : decode cX6_isDoubled 34 = .ok (.iload 6, 2) := by decide +kernel
theorem dX6_isDoubled_36 : decode cX6_isDoubled 36 = .ok (.bipush 24, 2) := by decide +kernel
theorem dX6_isDoubled_38 : decode cX6_isDoubled 38 = .ok (.iload_n 1, 1) := by decide +kernel
theorem dX6_isDoubled_39 : decode cX6_isDoubled 39 = .ok (.imul, 1) := by decide +kernel
theorem dX6_isDoubled_40 : decode cX6_isDoubled 40 = .ok (.iload_n 2, 1) := by decide +kernel
theorem dX6_isDoubled_41 : decode cX6_isDoubled 41 = .ok (.iadd, 1) := by decide +kernel
theorem dX6_isDoubled_42 : decode cX6_isDoubled 42 = .ok (.if_icmp .ge 65, 3) := by decide +kernel
theorem dX6_isDoubled_45 : decode cX6_isDoubled 45 = .ok (.iload_n 3, 1) := by decide +kernel
theorem dX6_isDoubled_46 : decode cX6_isDoubled 46 = .ok (.aload_n 0, 1) := by decide +kernel
theorem dX6_isDoubled_47 : decode cX6_isDoubled 47 = .ok (.getfield 19, 3) := by decide +kernel
theorem dX6_isDoubled_50 : decode cX6_isDoubled 50 = .ok (.iload 6, 2) := by decide +kernel
theorem dX6_isDoubled_52 : decode cX6_isDoubled 52 = .ok (.iaload, 1) := by decide +kernel
theorem dX6_isDoubled_53 : decode cX6_isDoubled 53 = .ok (.iload 4, 2) := by decide +kernel
theorem dX6_isDoubled_55 : decode cX6_isDoubled 55 = .ok (.if_icmp .ne 15, 3) := by decide +kernel
theorem dX6_isDoubled_58 : decode cX6_isDoubled 58 = .ok (.aload_n 0, 1) := by decide +kernel
theorem dX6_isDoubled_59 : decode cX6_isDoubled 59 = .ok (.getfield 22, 3) := by decide +kernel
theorem dX6_isDoubled_62 : decode cX6_isDoubled 62 = .ok (.iload 6, 2) := by decide +kernel
theorem dX6_isDoubled_64 : decode cX6_isDoubled 64 = .ok (.iaload, 1) := by decide +kernel
theorem dX6_isDoubled_65 : decode cX6_isDoubled 65 = .ok (.iload 5, 2) := by decide +kernel
theorem dX6_isDoubled_67 : decode cX6_isDoubled 67 = .ok (.if_icmp .eq 27, 3) := by decide +kernel
theorem dX6_isDoubled_70 : decode cX6_isDoubled 70 = .ok (.aload_n 0, 1) := by decide +kernel
theorem dX6_isDoubled_71 : decode cX6_isDoubled 71 = .ok (.getfield 19, 3) := by decide +kernel
theorem dX6_isDoubled_74 : decode cX6_isDoubled 74 = .ok (.iload 6, 2) := by decide +kernel
theorem dX6_isDoubled_76 : decode cX6_isDoubled 76 = .ok (.iaload, 1) := by decide +kernel
theorem dX6_isDoubled_77 : decode cX6_isDoubled 77 = .ok (.iload 5, 2) := by decide +kernel
theorem dX6_isDoubled_79 : decode cX6_isDoubled 79 = .ok (.if_icmp .ne 19, 3) := by decide +kernel
theorem dX6_isDoubled_82 : decode cX6_isDoubled 82 = .ok (.aload_n 0, 1) := by decide +kernel
theorem dX6_isDoubled_83 : decode cX6_isDoubled 83 = .ok (.getfield 22, 3) := by decide +kernel
theorem dX6_isDoubled_86 : decode cX6_isDoubled 86 = .ok (.iload 6, 2) := by decide +kernel
theorem dX6_isDoubled_88 : decode cX6_isDoubled 88 = .ok (.iaload, 1) := by decide +kernel
theorem dX6_isDoubled_89 : decode cX6_isDoubled 89 = .ok (.iload 4, 2) := by decide +kernel
theorem dX6_isDoubled_91 : decode cX6_isDoubled 91 = .ok (.if_icmp .ne 7, 3) := by decide +kernel
theorem dX6_isDoubled_94 : decode cX6_isDoubled 94 = .ok (.iconst 1, 1) := by decide +kernel
theorem dX6_isDoubled_95 : decode cX6_isDoubled 95 = .ok (.goto 4, 3) := by decide +kernel
theorem dX6_isDoubled_98 : decode cX6_isDoubled 98 = .ok (.iconst 0, 1) := by decide +kernel
theorem dX6_isDoubled_99 : decode cX6_isDoubled 99 = .ok (.ior, 1) := by decide +kernel
theorem dX6_isDoubled_100 : decode cX6_isDoubled 100 = .ok (.istore_n 3, 1) := by decide +kernel
theorem dX6_isDoubled_101 : decode cX6_isDoubled 101 = .ok (.iinc 6 1, 3) := by decide +kernel
theorem dX6_isDoubled_104 : decode cX6_isDoubled 104 = .ok (.goto (-70), 3) := by decide +kernel
theorem dX6_isDoubled_107 : decode cX6_isDoubled 107 = .ok (.iload_n 3, 1) := by decide +kernel
theorem dX6_isDoubled_108 : decode cX6_isDoubled 108 = .ok (.ireturn, 1) := by decide +kernel
theorem dX6_mends_0 : decode cX6_mends 0 = .ok (.iconst 0, 1) := by decide +kernel
theorem dX6_mends_1 : decode cX6_mends 1 = .ok (.istore_n 2, 1) := by decide +kernel
theorem dX6_mends_2 : decode cX6_mends 2 = .ok (.iload_n 2, 1) := by decide +kernel
theorem dX6_mends_3 : decode cX6_mends 3 = .ok (.aload_n 0, 1) := by decide +kernel
theorem dX6_mends_4 : decode cX6_mends 4 = .ok (.getfield 13, 3) := by decide +kernel
theorem dX6_mends_7 : decode cX6_mends 7 = .ok (.iload_n 1, 1) := by decide +kernel
theorem dX6_mends_8 : decode cX6_mends 8 = .ok (.iaload, 1) := by decide +kernel
theorem dX6_mends_9 : decode cX6_mends 9 = .ok (.if_icmp .ge 87, 3) := by decide +kernel
theorem dX6_mends_12 : decode cX6_mends 12 = .ok (.aload_n 0, 1) := by decide +kernel
theorem dX6_mends_13 : decode cX6_mends 13 = .ok (.iload_n 1, 1) := by decide +kernel
theorem dX6_mends_14 : decode cX6_mends 14 = .ok (.iload_n 2, 1) := by decide +kernel
theorem dX6_mends_15 : decode cX6_mends 15 = .ok (.invokevirtual 85, 3) := by decide +kernel
theorem dX6_mends_18 : decode cX6_mends 18 = .ok (.ifCond .eq 72, 3) := by decide +kernel
theorem dX6_mends_21 : decode cX6_mends 21 = .ok (.aload_n 0, 1) := by decide +kernel
theorem dX6_mends_22 : decode cX6_mends 22 = .ok (.getfield 13, 3) := by decide +kernel
theorem dX6_mends_25 : decode cX6_mends 25 = .ok (.iload_n 1, 1) := by decide +kernel
theorem dX6_mends_26 : decode cX6_mends 26 = .ok (.dup2, 1) := by decide +kernel
theorem dX6_mends_27 : decode cX6_mends 27 = .ok (.iaload, 1) := by decide +kernel
theorem dX6_mends_28 : decode cX6_mends 28 = .ok (.iconst 1, 1) := by decide +kernel
theorem dX6_mends_29 : decode cX6_mends 29 = .ok (.isub, 1) := by decide +kernel
theorem dX6_mends_30 : decode cX6_mends 30 = .ok (.iastore, 1) := by decide +kernel
theorem dX6_mends_31 : decode cX6_mends 31 = .ok (.bipush 24, 2) := by decide +kernel
theorem dX6_mends_33 : decode cX6_mends 33 = .ok (.iload_n 1, 1) := by decide +kernel
theorem dX6_mends_34 : decode cX6_mends 34 = .ok (.imul, 1) := by decide +kernel
theorem dX6_mends_35 : decode cX6_mends 35 = .ok (.iload_n 2, 1) := by decide +kernel
theorem dX6_mends_36 : decode cX6_mends 36 = .ok (.iadd, 1) := by decide +kernel
theorem dX6_mends_37 : decode cX6_mends 37 = .ok (.istore_n 3, 1) := by decide +kernel
theorem dX6_mends_38 : decode cX6_mends 38 = .ok (.iload_n 3, 1) := by decide +kernel
theorem dX6_mends_39 : decode cX6_mends 39 = .ok (.bipush 24, 2) := by decide +kernel
theorem dX6_mends_41 : decode cX6_mends 41 = .ok (.iload_n 1, 1) := by decide +kernel
theorem dX6_mends_42 : decode cX6_mends 42 = .ok (.imul, 1) := by decide +kernel
theorem dX6_mends_43 : decode cX6_mends 43 = .ok (.aload_n 0, 1) := by decide +kernel
theorem dX6_mends_44 : decode cX6_mends 44 = .ok (.getfield 13, 3) := by decide +kernel
theorem dX6_mends_47 : decode cX6_mends 47 = .ok (.iload_n 1, 1) := by decide +kernel
theorem dX6_mends_48 : decode cX6_mends 48 = .ok (.iaload, 1) := by decide +kernel
theorem dX6_mends_49 : decode cX6_mends 49 = .ok (.iadd, 1) := by decide +kernel
theorem dX6_mends_50 : decode cX6_mends 50 = .ok (.if_icmp .ge 37, 3) := by decide +kernel
theorem dX6_mends_53 : decode cX6_mends 53 = .ok (.aload_n 0, 1) := by decide +kernel
theorem dX6_mends_54 : decode cX6_mends 54 = .ok (.getfield 19, 3) := by decide +kernel
theorem dX6_mends_57 : decode cX6_mends 57 = .ok (.iload_n 3, 1) := by decide +kernel
theorem dX6_mends_58 : decode cX6_mends 58 = .ok (.aload_n 0, 1) := by decide +kernel
theorem dX6_mends_59 : decode cX6_mends 59 = .ok (.getfield 19, 3) := by decide +kernel
theorem dX6_mends_62 : decode cX6_mends 62 = .ok (.iload_n 3, 1) := by decide +kernel
theorem dX6_mends_63 : decode cX6_mends 63 = .ok (.iconst 1, 1) := by decide +kernel
theorem dX6_mends_64 : decode cX6_mends 64 = .ok (.iadd, 1) := by decide +kernel
theorem dX6_mends_65 : decode cX6_mends 65 = .ok (.iaload, 1) := by decide +kernel
theorem dX6_mends_66 : decode cX6_mends 66 = .ok (.iastore, 1) := by decide +kernel
theorem dX6_mends_67 : decode cX6_mends 67 = .ok (.aload_n 0, 1) := by decide +kernel
theorem dX6_mends_68 : decode cX6_mends 68 = .ok (.getfield 22, 3) := by decide +kernel
theorem dX6_mends_71 : decode cX6_mends 71 = .ok (.iload_n 3, 1) := by decide +kernel
theorem dX6_mends_72 : decode cX6_mends 72 = .ok (.aload_n 0, 1) := by decide +kernel
theorem dX6_mends_73 : decode cX6_mends 73 = .ok (.getfield 22, 3) := by decide +kernel
theorem dX6_mends_76 : decode cX6_mends 76 = .ok (.iload_n 3, 1) := by decide +kernel
theorem dX6_mends_77 : decode cX6_mends 77 = .ok (.iconst 1, 1) := by decide +kernel
theorem dX6_mends_78 : decode cX6_mends 78 = .ok (.iadd, 1) := by decide +kernel
theorem dX6_mends_79 : decode cX6_mends 79 = .ok (.iaload, 1) := by decide +kernel
theorem dX6_mends_80 : decode cX6_mends 80 = .ok (.iastore, 1) := by decide +kernel
theorem dX6_mends_81 : decode cX6_mends 81 = .ok (.iinc 3 1, 3) := by decide +kernel
theorem dX6_mends_84 : decode cX6_mends 84 = .ok (.goto (-46), 3) := by decide +kernel
theorem dX6_mends_87 : decode cX6_mends 87 = .ok (.goto (-85), 3) := by decide +kernel
theorem dX6_mends_90 : decode cX6_mends 90 = .ok (.iinc 2 1, 3) := by decide +kernel
theorem dX6_mends_93 : decode cX6_mends 93 = .ok (.goto (-91), 3) := by decide +kernel
theorem dX6_mends_96 : decode cX6_mends 96 = .ok (.return_, 1) := by decide +kernel
theorem dX6_fault_0 : decode cX6_fault 0 = .ok (.iconst 0, 1) := by decide +kernel
theorem dX6_fault_1 : decode cX6_fault 1 = .ok (.istore_n 2, 1) := by decide +kernel
theorem dX6_fault_2 : decode cX6_fault 2 = .ok (.iload_n 2, 1) := by decide +kernel
theorem dX6_fault_3 : decode cX6_fault 3 = .ok (.sipush 1024, 3) := by decide +kernel
theorem dX6_fault_6 : decode cX6_fault 6 = .ok (.if_icmp .ge 16, 3) := by decide +kernel
theorem dX6_fault_9 : decode cX6_fault 9 = .ok (.aload_n 0, 1) := by decide +kernel
theorem dX6_fault_10 : decode cX6_fault 10 = .ok (.getfield 25, 3) := by decide +kernel
theorem dX6_fault_13 : decode cX6_fault 13 = .ok (.iload_n 2, 1) := by decide +kernel
theorem dX6_fault_14 : decode cX6_fault 14 = .ok (.iconst 0, 1) := by decide +kernel
theorem dX6_fault_15 : decode cX6_fault 15 = .ok (.iastore, 1) := by decide +kernel
theorem dX6_fault_16 : decode cX6_fault 16 = .ok (.iinc 2 1, 3) := by decide +kernel
theorem dX6_fault_19 : decode cX6_fault 19 = .ok (.goto (-17), 3) := by decide +kernel
theorem dX6_fault_22 : decode cX6_fault 22 = .ok (.bipush 24, 2) := by decide +kernel
theorem dX6_fault_24 : decode cX6_fault 24 = .ok (.iload_n 1, 1) := by decide +kernel
theorem dX6_fault_25 : decode cX6_fault 25 = .ok (.imul, 1) := by decide +kernel
theorem dX6_fault_26 : decode cX6_fault 26 = .ok (.istore_n 2, 1) := by decide +kernel
theorem dX6_fault_27 : decode cX6_fault 27 = .ok (.iload_n 2, 1) := by decide +kernel
theorem dX6_fault_28 : decode cX6_fault 28 = .ok (.bipush 24, 2) := by decide +kernel
theorem dX6_fault_30 : decode cX6_fault 30 = .ok (.iload_n 1, 1) := by decide +kernel
theorem dX6_fault_31 : decode cX6_fault 31 = .ok (.imul, 1) := by decide +kernel
theorem dX6_fault_32 : decode cX6_fault 32 = .ok (.aload_n 0, 1) := by decide +kernel
theorem dX6_fault_33 : decode cX6_fault 33 = .ok (.getfield 13, 3) := by decide +kernel
theorem dX6_fault_36 : decode cX6_fault 36 = .ok (.iload_n 1, 1) := by decide +kernel
theorem dX6_fault_37 : decode cX6_fault 37 = .ok (.iaload, 1) := by decide +kernel
theorem dX6_fault_38 : decode cX6_fault 38 = .ok (.iadd, 1) := by decide +kernel
theorem dX6_fault_39 : decode cX6_fault 39 = .ok (.if_icmp .ge 39, 3) := by decide +kernel
theorem dX6_fault_42 : decode cX6_fault 42 = .ok (.aload_n 0, 1) := by decide +kernel
theorem dX6_fault_43 : decode cX6_fault 43 = .ok (.getfield 25, 3) := by decide +kernel
theorem dX6_fault_46 : decode cX6_fault 46 = .ok (.aload_n 0, 1) := by decide +kernel
theorem dX6_fault_47 : decode cX6_fault 47 = .ok (.getfield 19, 3) := by decide +kernel
theorem dX6_fault_50 : decode cX6_fault 50 = .ok (.iload_n 2, 1) := by decide +kernel
theorem dX6_fault_51 : decode cX6_fault 51 = .ok (.iaload, 1) := by decide +kernel
theorem dX6_fault_52 : decode cX6_fault 52 = .ok (.dup2, 1) := by decide +kernel
theorem dX6_fault_53 : decode cX6_fault 53 = .ok (.iaload, 1) := by decide +kernel
theorem dX6_fault_54 : decode cX6_fault 54 = .ok (.iconst 1, 1) := by decide +kernel
theorem dX6_fault_55 : decode cX6_fault 55 = .ok (.iadd, 1) := by decide +kernel
theorem dX6_fault_56 : decode cX6_fault 56 = .ok (.iastore, 1) := by decide +kernel
theorem dX6_fault_57 : decode cX6_fault 57 = .ok (.aload_n 0, 1) := by decide +kernel
theorem dX6_fault_58 : decode cX6_fault 58 = .ok (.getfield 25, 3) := by decide +kernel
theorem dX6_fault_61 : decode cX6_fault 61 = .ok (.aload_n 0, 1) := by decide +kernel
theorem dX6_fault_62 : decode cX6_fault 62 = .ok (.getfield 22, 3) := by decide +kernel
theorem dX6_fault_65 : decode cX6_fault 65 = .ok (.iload_n 2, 1) := by decide +kernel
theorem dX6_fault_66 : decode cX6_fault 66 = .ok (.iaload, 1) := by decide +kernel
theorem dX6_fault_67 : decode cX6_fault 67 = .ok (.dup2, 1) := by decide +kernel
theorem dX6_fault_68 : decode cX6_fault 68 = .ok (.iaload, 1) := by decide +kernel
theorem dX6_fault_69 : decode cX6_fault 69 = .ok (.iconst 1, 1) := by decide +kernel
theorem dX6_fault_70 : decode cX6_fault 70 = .ok (.iadd, 1) := by decide +kernel
theorem dX6_fault_71 : decode cX6_fault 71 = .ok (.iastore, 1) := by decide +kernel
theorem dX6_fault_72 : decode cX6_fault 72 = .ok (.iinc 2 1, 3) := by decide +kernel
theorem dX6_fault_75 : decode cX6_fault 75 = .ok (.goto (-48), 3) := by decide +kernel
theorem dX6_fault_78 : decode cX6_fault 78 = .ok (.iconst 0, 1) := by decide +kernel
theorem dX6_fault_79 : decode cX6_fault 79 = .ok (.istore_n 2, 1) := by decide +kernel
theorem dX6_fault_80 : decode cX6_fault 80 = .ok (.iload_n 2, 1) := by decide +kernel
theorem dX6_fault_81 : decode cX6_fault 81 = .ok (.sipush 1024, 3) := by decide +kernel
theorem dX6_fault_84 : decode cX6_fault 84 = .ok (.if_icmp .ge 30, 3) := by decide +kernel
theorem dX6_fault_87 : decode cX6_fault 87 = .ok (.aload_n 0, 1) := by decide +kernel
theorem dX6_fault_88 : decode cX6_fault 88 = .ok (.getfield 25, 3) := by decide +kernel
theorem dX6_fault_91 : decode cX6_fault 91 = .ok (.iload_n 2, 1) := by decide +kernel
theorem dX6_fault_92 : decode cX6_fault 92 = .ok (.iaload, 1) := by decide +kernel
theorem dX6_fault_93 : decode cX6_fault 93 = .ok (.ifCond .eq 15, 3) := by decide +kernel
theorem dX6_fault_96 : decode cX6_fault 96 = .ok (.aload_n 0, 1) := by decide +kernel
theorem dX6_fault_97 : decode cX6_fault 97 = .ok (.getfield 25, 3) := by decide +kernel
theorem dX6_fault_100 : decode cX6_fault 100 = .ok (.iload_n 2, 1) := by decide +kernel
theorem dX6_fault_101 : decode cX6_fault 101 = .ok (.iaload, 1) := by decide +kernel
theorem dX6_fault_102 : decode cX6_fault 102 = .ok (.iconst 2, 1) := by decide +kernel
theorem dX6_fault_103 : decode cX6_fault 103 = .ok (.if_icmp .eq 5, 3) := by decide +kernel
theorem dX6_fault_106 : decode cX6_fault 106 = .ok (.iload_n 2, 1) := by decide +kernel
theorem dX6_fault_107 : decode cX6_fault 107 = .ok (.ireturn, 1) := by decide +kernel
theorem dX6_fault_108 : decode cX6_fault 108 = .ok (.iinc 2 1, 3) := by decide +kernel
theorem dX6_fault_111 : decode cX6_fault 111 = .ok (.goto (-31), 3) := by decide +kernel
theorem dX6_fault_114 : decode cX6_fault 114 = .ok (.aload_n 0, 1) := by decide +kernel
theorem dX6_fault_115 : decode cX6_fault 115 = .ok (.getfield 13, 3) := by decide +kernel
theorem dX6_fault_118 : decode cX6_fault 118 = .ok (.iload_n 1, 1) := by decide +kernel
theorem dX6_fault_119 : decode cX6_fault 119 = .ok (.iaload, 1) := by decide +kernel
theorem dX6_fault_120 : decode cX6_fault 120 = .ok (.ifCond .ne 9, 3) := by decide +kernel
theorem dX6_fault_123 : decode cX6_fault 123 = .ok (.sipush 1024, 3) := by decide +kernel
theorem dX6_fault_126 : decode cX6_fault 126 = .ok (.goto 4, 3) := by decide +kernel
theorem dX6_fault_129 : decode cX6_fault 129 = .ok (.iconst (-1), 1) := by decide +kernel
theorem dX6_fault_130 : decode cX6_fault 130 = .ok (.ireturn, 1) := by decide +kernel
theorem dX6_finish_0 : decode cX6_finish 0 = .ok (.aload_n 0, 1) := by decide +kernel
theorem dX6_finish_1 : decode cX6_finish 1 = .ok (.aload_n 0, 1) := by decide +kernel
theorem dX6_finish_2 : decode cX6_finish 2 = .ok (.iload_n 1, 1) := by decide +kernel
theorem dX6_finish_3 : decode cX6_finish 3 = .ok (.invokevirtual 82, 3) := by decide +kernel
theorem dX6_finish_6 : decode cX6_finish 6 = .ok (.ifCond .ne 7, 3) := by decide +kernel
theorem dX6_finish_9 : decode cX6_finish 9 = .ok (.iconst 1, 1) := by decide +kernel
theorem dX6_finish_10 : decode cX6_finish 10 = .ok (.goto 18, 3) := by decide +kernel
theorem dX6_finish_13 : decode cX6_finish 13 = .ok (.aload_n 0, 1) := by decide +kernel
theorem dX6_finish_14 : decode cX6_finish 14 = .ok (.getfield 7, 3) := by decide +kernel
theorem dX6_finish_17 : decode cX6_finish 17 = .ok (.iload_n 1, 1) := by decide +kernel
theorem dX6_finish_18 : decode cX6_finish 18 = .ok (.iaload, 1) := by decide +kernel
theorem dX6_finish_19 : decode cX6_finish 19 = .ok (.iconst 1, 1) := by decide +kernel
theorem dX6_finish_20 : decode cX6_finish 20 = .ok (.if_icmp .ne 7, 3) := by decide +kernel
theorem dX6_finish_23 : decode cX6_finish 23 = .ok (.iconst 2, 1) := by decide +kernel
theorem dX6_finish_24 : decode cX6_finish 24 = .ok (.goto 4, 3) := by decide +kernel
theorem dX6_finish_27 : decode cX6_finish 27 = .ok (.iconst 0, 1) := by decide +kernel
theorem dX6_finish_28 : decode cX6_finish 28 = .ok (.invokevirtual 78, 3) := by decide +kernel
theorem dX6_finish_31 : decode cX6_finish 31 = .ok (.ifCond .eq 5, 3) := by decide +kernel
theorem dX6_finish_34 : decode cX6_finish 34 = .ok (.iconst (-1), 1) := by decide +kernel
theorem dX6_finish_35 : decode cX6_finish 35 = .ok (.ireturn, 1) := by decide +kernel
theorem dX6_finish_36 : decode cX6_finish 36 = .ok (.aload_n 0, 1) := by decide +kernel
theorem dX6_finish_37 : decode cX6_finish 37 = .ok (.iload_n 1, 1) := by decide +kernel
theorem dX6_finish_38 : decode cX6_finish 38 = .ok (.invokevirtual 89, 3) := by decide +kernel
theorem dX6_finish_41 : decode cX6_finish 41 = .ok (.aload_n 0, 1) := by decide +kernel
theorem dX6_finish_42 : decode cX6_finish 42 = .ok (.iload_n 1, 1) := by decide +kernel
theorem dX6_finish_43 : decode cX6_finish 43 = .ok (.invokevirtual 93, 3) := by decide +kernel
theorem dX6_finish_46 : decode cX6_finish 46 = .ok (.istore_n 2, 1) := by decide +kernel
theorem dX6_finish_47 : decode cX6_finish 47 = .ok (.iload_n 2, 1) := by decide +kernel
theorem dX6_finish_48 : decode cX6_finish 48 = .ok (.ifCond .ge 14, 3) := by decide +kernel
theorem dX6_finish_51 : decode cX6_finish 51 = .ok (.aload_n 0, 1) := by decide +kernel
theorem dX6_finish_52 : decode cX6_finish 52 = .ok (.getfield 7, 3) := by decide +kernel
theorem dX6_finish_55 : decode cX6_finish 55 = .ok (.iload_n 1, 1) := by decide +kernel
theorem dX6_finish_56 : decode cX6_finish 56 = .ok (.iconst 1, 1) := by decide +kernel
theorem dX6_finish_57 : decode cX6_finish 57 = .ok (.iastore, 1) := by decide +kernel
theorem dX6_finish_58 : decode cX6_finish 58 = .ok (.aload_n 0, 1) := by decide +kernel
theorem dX6_finish_59 : decode cX6_finish 59 = .ok (.invokevirtual 97, 3) := by decide +kernel
theorem dX6_finish_62 : decode cX6_finish 62 = .ok (.iload_n 2, 1) := by decide +kernel
theorem dX6_finish_63 : decode cX6_finish 63 = .ok (.ireturn, 1) := by decide +kernel
theorem dX6_size_0 : decode cX6_size 0 = .ok (.bipush 32, 2) := by decide +kernel
theorem dX6_size_2 : decode cX6_size 2 = .ok (.istore_n 3, 1) := by decide +kernel
theorem dX6_size_3 : decode cX6_size 3 = .ok (.iconst (-1), 1) := by decide +kernel
theorem dX6_size_4 : decode cX6_size 4 = .ok (.istore 4, 2) := by decide +kernel
theorem dX6_size_6 : decode cX6_size 6 = .ok (.bipush 24, 2) := by decide +kernel
theorem dX6_size_8 : decode cX6_size 8 = .ok (.iload_n 1, 1) := by decide +kernel
theorem dX6_size_9 : decode cX6_size 9 = .ok (.imul, 1) := by decide +kernel
theorem dX6_size_10 : decode cX6_size 10 = .ok (.istore 5, 2) := by decide +kernel
theorem dX6_size_12 : decode cX6_size 12 = .ok (.iload 5, 2) := by decide +kernel
theorem dX6_size_14 : decode cX6_size 14 = .ok (.bipush 24, 2) := by decide +kernel
theorem dX6_size_16 : decode cX6_size 16 = .ok (.iload_n 1, 1) := by decide +kernel
theorem dX6_size_17 : decode cX6_size 17 = .ok (.imul, 1) := by decide +kernel
theorem dX6_size_18 : decode cX6_size 18 = .ok (.aload_n 0, 1) := by decide +kernel
theorem dX6_size_19 : decode cX6_size 19 = .ok (.getfield 13, 3) := by decide +kernel
theorem dX6_size_22 : decode cX6_size 22 = .ok (.iload_n 1, 1) := by decide +kernel
theorem dX6_size_23 : decode cX6_size 23 = .ok (.iaload, 1) := by decide +kernel
theorem dX6_size_24 : decode cX6_size 24 = .ok (.iadd, 1) := by decide +kernel
theorem dX6_size_25 : decode cX6_size 25 = .ok (.if_icmp .ge 125, 3) := by decide +kernel
theorem dX6_size_28 : decode cX6_size 28 = .ok (.iload_n 2, 1) := by decide +kernel
theorem dX6_size_29 : decode cX6_size 29 = .ok (.ifCond .eq 16, 3) := by decide +kernel
theorem dX6_size_32 : decode cX6_size 32 = .ok (.aload_n 0, 1) := by decide +kernel
theorem dX6_size_33 : decode cX6_size 33 = .ok (.getfield 19, 3) := by decide +kernel
theorem dX6_size_36 : decode cX6_size 36 = .ok (.iload 5, 2) := by decide +kernel
theorem dX6_size_38 : decode cX6_size 38 = .ok (.iaload, 1) := by decide +kernel
theorem dX6_size_39 : decode cX6_size 39 = .ok (.bipush 32, 2) := by decide +kernel
theorem dX6_size_41 : decode cX6_size 41 = .ok (.irem, 1) := by decide +kernel
theorem dX6_size_42 : decode cX6_size 42 = .ok (.goto 13, 3) := by decide +kernel
theorem dX6_size_45 : decode cX6_size 45 = .ok (.aload_n 0, 1) := by decide +kernel
theorem dX6_size_46 : decode cX6_size 46 = .ok (.getfield 19, 3) := by decide +kernel
theorem dX6_size_49 : decode cX6_size 49 = .ok (.iload 5, 2) := by decide +kernel
theorem dX6_size_51 : decode cX6_size 51 = .ok (.iaload, 1) := by decide +kernel
theorem dX6_size_52 : decode cX6_size 52 = .ok (.bipush 32, 2) := by decide +kernel
theorem dX6_size_54 : decode cX6_size 54 = .ok (.idiv, 1) := by decide +kernel
theorem dX6_size_55 : decode cX6_size 55 = .ok (.istore 6, 2) := by decide +kernel
theorem dX6_size_57 : decode cX6_size 57 = .ok (.iload_n 2, 1) := by decide +kernel
theorem dX6_size_58 : decode cX6_size 58 = .ok (.ifCond .eq 16, 3) := by decide +kernel
theorem dX6_size_61 : decode cX6_size 61 = .ok (.aload_n 0, 1) := by decide +kernel
theorem dX6_size_62 : decode cX6_size 62 = .ok (.getfield 22, 3) := by decide +kernel
theorem dX6_size_65 : decode cX6_size 65 = .ok (.iload 5, 2) := by decide +kernel
theorem dX6_size_67 : decode cX6_size 67 = .ok (.iaload, 1) := by decide +kernel
theorem dX6_size_68 : decode cX6_size 68 = .ok (.bipush 32, 2) := by decide +kernel
theorem dX6_size_70 : decode cX6_size 70 = .ok (.irem, 1) := by decide +kernel
theorem dX6_size_71 : decode cX6_size 71 = .ok (.goto 13, 3) := by decide +kernel
theorem dX6_size_74 : decode cX6_size 74 = .ok (.aload_n 0, 1) := by decide +kernel
theorem dX6_size_75 : decode cX6_size 75 = .ok (.getfield 22, 3) := by decide +kernel
theorem dX6_size_78 : decode cX6_size 78 = .ok (.iload 5, 2) := by decide +kernel
theorem dX6_size_80 : decode cX6_size 80 = .ok (.iaload, 1) := by decide +kernel
theorem dX6_size_81 : decode cX6_size 81 = .ok (.bipush 32, 2) := by decide +kernel
theorem dX6_size_83 : decode cX6_size 83 = .ok (.idiv, 1) := by decide +kernel
theorem dX6_size_84 : decode cX6_size 84 = .ok (.istore 7, 2) := by decide +kernel
theorem dX6_size_86 : decode cX6_size 86 = .ok (.iload 6, 2) := by decide +kernel
theorem dX6_size_88 : decode cX6_size 88 = .ok (.iload_n 3, 1) := by decide +kernel
theorem dX6_size_89 : decode cX6_size 89 = .ok (.if_icmp .ge 8, 3) := by decide +kernel
theorem dX6_size_92 : decode cX6_size 92 = .ok (.iload 6, 2) := by decide +kernel
theorem dX6_size_94 : decode cX6_size 94 = .ok (.goto 4, 3) := by decide +kernel
theorem dX6_size_97 : decode cX6_size 97 = .ok (.iload_n 3, 1) := by decide +kernel
theorem dX6_size_98 : decode cX6_size 98 = .ok (.istore_n 3, 1) := by decide +kernel
theorem dX6_size_99 : decode cX6_size 99 = .ok (.iload 7, 2) := by decide +kernel
theorem dX6_size_101 : decode cX6_size 101 = .ok (.iload_n 3, 1) := by decide +kernel
theorem dX6_size_102 : decode cX6_size 102 = .ok (.if_icmp .ge 8, 3) := by decide +kernel
theorem dX6_size_105 : decode cX6_size 105 = .ok (.iload 7, 2) := by decide +kernel
theorem dX6_size_107 : decode cX6_size 107 = .ok (.goto 4, 3) := by decide +kernel
theorem dX6_size_110 : decode cX6_size 110 = .ok (.iload_n 3, 1) := by decide +kernel
theorem dX6_size_111 : decode cX6_size 111 = .ok (.istore_n 3, 1) := by decide +kernel
theorem dX6_size_112 : decode cX6_size 112 = .ok (.iload 6, 2) := by decide +kernel
theorem dX6_size_114 : decode cX6_size 114 = .ok (.iload 4, 2) := by decide +kernel
theorem dX6_size_116 : decode cX6_size 116 = .ok (.if_icmp .le 8, 3) := by decide +kernel
theorem dX6_size_119 : decode cX6_size 119 = .ok (.iload 6, 2) := by decide +kernel
theorem dX6_size_121 : decode cX6_size 121 = .ok (.goto 5, 3) := by decide +kernel
theorem dX6_size_124 : decode cX6_size 124 = .ok (.iload 4, 2) := by decide +kernel
theorem dX6_size_126 : decode cX6_size 126 = .ok (.istore 4, 2) := by decide +kernel
theorem dX6_size_128 : decode cX6_size 128 = .ok (.iload 7, 2) := by decide +kernel
theorem dX6_size_130 : decode cX6_size 130 = .ok (.iload 4, 2) := by decide +kernel
theorem dX6_size_132 : decode cX6_size 132 = .ok (.if_icmp .le 8, 3) := by decide +kernel
theorem dX6_size_135 : decode cX6_size 135 = .ok (.iload 7, 2) := by decide +kernel
theorem dX6_size_137 : decode cX6_size 137 = .ok (.goto 5, 3) := by decide +kernel
theorem dX6_size_140 : decode cX6_size 140 = .ok (.iload 4, 2) := by decide +kernel
theorem dX6_size_142 : decode cX6_size 142 = .ok (.istore 4, 2) := by decide +kernel
theorem dX6_size_144 : decode cX6_size 144 = .ok (.iinc 5 1, 3) := by decide +kernel
theorem dX6_size_147 : decode cX6_size 147 = .ok (.goto (-135), 3) := by decide +kernel
theorem dX6_size_150 : decode cX6_size 150 = .ok (.iload 4, 2) := by decide +kernel
theorem dX6_size_152 : decode cX6_size 152 = .ok (.ifCond .ge 7, 3) := by decide +kernel
theorem dX6_size_155 : decode cX6_size 155 = .ok (.iconst 0, 1) := by decide +kernel
theorem dX6_size_156 : decode cX6_size 156 = .ok (.goto 9, 3) := by decide +kernel
theorem dX6_size_159 : decode cX6_size 159 = .ok (.iload 4, 2) := by decide +kernel
theorem dX6_size_161 : decode cX6_size 161 = .ok (.iload_n 3, 1) := by decide +kernel
theorem dX6_size_162 : decode cX6_size 162 = .ok (.isub, 1) := by decide +kernel
theorem dX6_size_163 : decode cX6_size 163 = .ok (.iconst 1, 1) := by decide +kernel
theorem dX6_size_164 : decode cX6_size 164 = .ok (.iadd, 1) := by decide +kernel
theorem dX6_size_165 : decode cX6_size 165 = .ok (.ireturn, 1) := by decide +kernel
theorem dX6_ofDrawing_0 : decode cX6_ofDrawing 0 = .ok (.aload_n 0, 1) := by decide +kernel
theorem dX6_ofDrawing_1 : decode cX6_ofDrawing 1 = .ok (.aload_n 0, 1) := by decide +kernel
theorem dX6_ofDrawing_2 : decode cX6_ofDrawing 2 = .ok (.iload_n 1, 1) := by decide +kernel
theorem dX6_ofDrawing_3 : decode cX6_ofDrawing 3 = .ok (.invokevirtual 82, 3) := by decide +kernel
theorem dX6_ofDrawing_6 : decode cX6_ofDrawing 6 = .ok (.ifCond .ne 7, 3) := by decide +kernel
theorem dX6_ofDrawing_9 : decode cX6_ofDrawing 9 = .ok (.iconst 1, 1) := by decide +kernel
theorem dX6_ofDrawing_10 : decode cX6_ofDrawing 10 = .ok (.goto 18, 3) := by decide +kernel
theorem dX6_ofDrawing_13 : decode cX6_ofDrawing 13 = .ok (.aload_n 0, 1) := by decide +kernel
theorem dX6_ofDrawing_14 : decode cX6_ofDrawing 14 = .ok (.iload_n 2, 1) := by decide +kernel
theorem dX6_ofDrawing_15 : decode cX6_ofDrawing 15 = .ok (.iconst 0, 1) := by decide +kernel
theorem dX6_ofDrawing_16 : decode cX6_ofDrawing 16 = .ok (.iconst 4, 1) := by decide +kernel
theorem dX6_ofDrawing_17 : decode cX6_ofDrawing 17 = .ok (.invokevirtual 74, 3) := by decide +kernel
theorem dX6_ofDrawing_20 : decode cX6_ofDrawing 20 = .ok (.ifCond .eq 7, 3) := by decide +kernel
theorem dX6_ofDrawing_23 : decode cX6_ofDrawing 23 = .ok (.iconst 0, 1) := by decide +kernel
theorem dX6_ofDrawing_24 : decode cX6_ofDrawing 24 = .ok (.goto 4, 3) := by decide +kernel
theorem dX6_ofDrawing_27 : decode cX6_ofDrawing 27 = .ok (.iconst 2, 1) := by decide +kernel
theorem dX6_ofDrawing_28 : decode cX6_ofDrawing 28 = .ok (.invokevirtual 78, 3) := by decide +kernel
theorem dX6_ofDrawing_31 : decode cX6_ofDrawing 31 = .ok (.ifCond .eq 5, 3) := by decide +kernel
theorem dX6_ofDrawing_34 : decode cX6_ofDrawing 34 = .ok (.iconst (-1), 1) := by decide +kernel
theorem dX6_ofDrawing_35 : decode cX6_ofDrawing 35 = .ok (.ireturn, 1) := by decide +kernel
theorem dX6_ofDrawing_36 : decode cX6_ofDrawing 36 = .ok (.iload_n 2, 1) := by decide +kernel
theorem dX6_ofDrawing_37 : decode cX6_ofDrawing 37 = .ok (.tableswitch 59 0 3 #[31, 38, 45, 52], 31) := by decide +kernel
theorem dX6_ofDrawing_68 : decode cX6_ofDrawing 68 = .ok (.aload_n 0, 1) := by decide +kernel
theorem dX6_ofDrawing_69 : decode cX6_ofDrawing 69 = .ok (.getfield 7, 3) := by decide +kernel
theorem dX6_ofDrawing_72 : decode cX6_ofDrawing 72 = .ok (.iload_n 1, 1) := by decide +kernel
theorem dX6_ofDrawing_73 : decode cX6_ofDrawing 73 = .ok (.iaload, 1) := by decide +kernel
theorem dX6_ofDrawing_74 : decode cX6_ofDrawing 74 = .ok (.ireturn, 1) := by decide +kernel
theorem dX6_ofDrawing_75 : decode cX6_ofDrawing 75 = .ok (.aload_n 0, 1) := by decide +kernel
theorem dX6_ofDrawing_76 : decode cX6_ofDrawing 76 = .ok (.getfield 13, 3) := by decide +kernel
theorem dX6_ofDrawing_79 : decode cX6_ofDrawing 79 = .ok (.iload_n 1, 1) := by decide +kernel
theorem dX6_ofDrawing_80 : decode cX6_ofDrawing 80 = .ok (.iaload, 1) := by decide +kernel
theorem dX6_ofDrawing_81 : decode cX6_ofDrawing 81 = .ok (.ireturn, 1) := by decide +kernel
theorem dX6_ofDrawing_82 : decode cX6_ofDrawing 82 = .ok (.aload_n 0, 1) := by decide +kernel
theorem dX6_ofDrawing_83 : decode cX6_ofDrawing 83 = .ok (.iload_n 1, 1) := by decide +kernel
theorem dX6_ofDrawing_84 : decode cX6_ofDrawing 84 = .ok (.iconst 1, 1) := by decide +kernel
theorem dX6_ofDrawing_85 : decode cX6_ofDrawing 85 = .ok (.invokevirtual 100, 3) := by decide +kernel
theorem dX6_ofDrawing_88 : decode cX6_ofDrawing 88 = .ok (.ireturn, 1) := by decide +kernel
theorem dX6_ofDrawing_89 : decode cX6_ofDrawing 89 = .ok (.aload_n 0, 1) := by decide +kernel
theorem dX6_ofDrawing_90 : decode cX6_ofDrawing 90 = .ok (.iload_n 1, 1) := by decide +kernel
theorem dX6_ofDrawing_91 : decode cX6_ofDrawing 91 = .ok (.iconst 0, 1) := by decide +kernel
theorem dX6_ofDrawing_92 : decode cX6_ofDrawing 92 = .ok (.invokevirtual 100, 3) := by decide +kernel
theorem dX6_ofDrawing_95 : decode cX6_ofDrawing 95 = .ok (.ireturn, 1) := by decide +kernel
theorem dX6_ofDrawing_96 : decode cX6_ofDrawing 96 = .ok (.aload_n 0, 1) := by decide +kernel
theorem dX6_ofDrawing_97 : decode cX6_ofDrawing 97 = .ok (.getfield 16, 3) := by decide +kernel
theorem dX6_ofDrawing_100 : decode cX6_ofDrawing 100 = .ok (.iload_n 1, 1) := by decide +kernel
theorem dX6_ofDrawing_101 : decode cX6_ofDrawing 101 = .ok (.iaload, 1) := by decide +kernel
theorem dX6_ofDrawing_102 : decode cX6_ofDrawing 102 = .ok (.ireturn, 1) := by decide +kernel
theorem dX6_root_0 : decode cX6_root 0 = .ok (.iload_n 1, 1) := by decide +kernel
theorem dX6_root_1 : decode cX6_root 1 = .ok (.i2d, 1) := by decide +kernel
theorem dX6_root_2 : decode cX6_root 2 = .ok (.dstore_n 2, 1) := by decide +kernel
theorem dX6_root_3 : decode cX6_root 3 = .ok (.iconst 0, 1) := by decide +kernel
theorem dX6_root_4 : decode cX6_root 4 = .ok (.istore 4, 2) := by decide +kernel
theorem dX6_root_6 : decode cX6_root 6 = .ok (.iload 4, 2) := by decide +kernel
theorem dX6_root_8 : decode cX6_root 8 = .ok (.bipush 24, 2) := by decide +kernel
theorem dX6_root_10 : decode cX6_root 10 = .ok (.if_icmp .ge 20, 3) := by decide +kernel
theorem dX6_root_13 : decode cX6_root 13 = .ok (.dload_n 2, 1) := by decide +kernel
theorem dX6_root_14 : decode cX6_root 14 = .ok (.iload_n 1, 1) := by decide +kernel
theorem dX6_root_15 : decode cX6_root 15 = .ok (.i2d, 1) := by decide +kernel
theorem dX6_root_16 : decode cX6_root 16 = .ok (.dload_n 2, 1) := by decide +kernel
theorem dX6_root_17 : decode cX6_root 17 = .ok (.ddiv, 1) := by decide +kernel
theorem dX6_root_18 : decode cX6_root 18 = .ok (.dadd, 1) := by decide +kernel
theorem dX6_root_19 : decode cX6_root 19 = .ok (.ldc2_w 104, 3) := by decide +kernel
theorem dX6_root_22 : decode cX6_root 22 = .ok (.ddiv, 1) := by decide +kernel
theorem dX6_root_23 : decode cX6_root 23 = .ok (.dstore_n 2, 1) := by decide +kernel
theorem dX6_root_24 : decode cX6_root 24 = .ok (.iinc 4 1, 3) := by decide +kernel
theorem dX6_root_27 : decode cX6_root 27 = .ok (.goto (-21), 3) := by decide +kernel
theorem dX6_root_30 : decode cX6_root 30 = .ok (.dload_n 2, 1) := by decide +kernel
theorem dX6_root_31 : decode cX6_root 31 = .ok (.dreturn, 1) := by decide +kernel
theorem dX6_lengthOf_0 : decode cX6_lengthOf 0 = .ok (.fconst 0, 1) := by decide +kernel
theorem dX6_lengthOf_1 : decode cX6_lengthOf 1 = .ok (.fstore_n 2, 1) := by decide +kernel
theorem dX6_lengthOf_2 : decode cX6_lengthOf 2 = .ok (.bipush 24, 2) := by decide +kernel
theorem dX6_lengthOf_4 : decode cX6_lengthOf 4 = .ok (.iload_n 1, 1) := by decide +kernel
theorem dX6_lengthOf_5 : decode cX6_lengthOf 5 = .ok (.imul, 1) := by decide +kernel
theorem dX6_lengthOf_6 : decode cX6_lengthOf 6 = .ok (.istore_n 3, 1) := by decide +kernel
theorem dX6_lengthOf_7 : decode cX6_lengthOf 7 = .ok (.iload_n 3, 1) := by decide +kernel
theorem dX6_lengthOf_8 : decode cX6_lengthOf 8 = .ok (.bipush 24, 2) := by decide +kernel
theorem dX6_lengthOf_10 : decode cX6_lengthOf 10 = .ok (.iload_n 1, 1) := by decide +kernel
theorem dX6_lengthOf_11 : decode cX6_lengthOf 11 = .ok (.imul, 1) := by decide +kernel
theorem dX6_lengthOf_12 : decode cX6_lengthOf 12 = .ok (.aload_n 0, 1) := by decide +kernel
theorem dX6_lengthOf_13 : decode cX6_lengthOf 13 = .ok (.getfield 13, 3) := by decide +kernel
theorem dX6_lengthOf_16 : decode cX6_lengthOf 16 = .ok (.iload_n 1, 1) := by decide +kernel
theorem dX6_lengthOf_17 : decode cX6_lengthOf 17 = .ok (.iaload, 1) := by decide +kernel
theorem dX6_lengthOf_18 : decode cX6_lengthOf 18 = .ok (.iadd, 1) := by decide +kernel
theorem dX6_lengthOf_19 : decode cX6_lengthOf 19 = .ok (.if_icmp .ge 70, 3) := by decide +kernel
theorem dX6_lengthOf_22 : decode cX6_lengthOf 22 = .ok (.aload_n 0, 1) := by decide +kernel
theorem dX6_lengthOf_23 : decode cX6_lengthOf 23 = .ok (.getfield 19, 3) := by decide +kernel
theorem dX6_lengthOf_26 : decode cX6_lengthOf 26 = .ok (.iload_n 3, 1) := by decide +kernel
theorem dX6_lengthOf_27 : decode cX6_lengthOf 27 = .ok (.iaload, 1) := by decide +kernel
theorem dX6_lengthOf_28 : decode cX6_lengthOf 28 = .ok (.bipush 32, 2) := by decide +kernel
theorem dX6_lengthOf_30 : decode cX6_lengthOf 30 = .ok (.irem, 1) := by decide +kernel
theorem dX6_lengthOf_31 : decode cX6_lengthOf 31 = .ok (.aload_n 0, 1) := by decide +kernel
theorem dX6_lengthOf_32 : decode cX6_lengthOf 32 = .ok (.getfield 22, 3) := by decide +kernel
theorem dX6_lengthOf_35 : decode cX6_lengthOf 35 = .ok (.iload_n 3, 1) := by decide +kernel
theorem dX6_lengthOf_36 : decode cX6_lengthOf 36 = .ok (.iaload, 1) := by decide +kernel
theorem dX6_lengthOf_37 : decode cX6_lengthOf 37 = .ok (.bipush 32, 2) := by decide +kernel
theorem dX6_lengthOf_39 : decode cX6_lengthOf 39 = .ok (.irem, 1) := by decide +kernel
theorem dX6_lengthOf_40 : decode cX6_lengthOf 40 = .ok (.isub, 1) := by decide +kernel
theorem dX6_lengthOf_41 : decode cX6_lengthOf 41 = .ok (.istore 4, 2) := by decide +kernel
theorem dX6_lengthOf_43 : decode cX6_lengthOf 43 = .ok (.aload_n 0, 1) := by decide +kernel
theorem dX6_lengthOf_44 : decode cX6_lengthOf 44 = .ok (.getfield 19, 3) := by decide +kernel
theorem dX6_lengthOf_47 : decode cX6_lengthOf 47 = .ok (.iload_n 3, 1) := by decide +kernel
theorem dX6_lengthOf_48 : decode cX6_lengthOf 48 = .ok (.iaload, 1) := by decide +kernel
theorem dX6_lengthOf_49 : decode cX6_lengthOf 49 = .ok (.bipush 32, 2) := by decide +kernel
theorem dX6_lengthOf_51 : decode cX6_lengthOf 51 = .ok (.idiv, 1) := by decide +kernel
theorem dX6_lengthOf_52 : decode cX6_lengthOf 52 = .ok (.aload_n 0, 1) := by decide +kernel
theorem dX6_lengthOf_53 : decode cX6_lengthOf 53 = .ok (.getfield 22, 3) := by decide +kernel
theorem dX6_lengthOf_56 : decode cX6_lengthOf 56 = .ok (.iload_n 3, 1) := by decide +kernel
theorem dX6_lengthOf_57 : decode cX6_lengthOf 57 = .ok (.iaload, 1) := by decide +kernel
theorem dX6_lengthOf_58 : decode cX6_lengthOf 58 = .ok (.bipush 32, 2) := by decide +kernel
theorem dX6_lengthOf_60 : decode cX6_lengthOf 60 = .ok (.idiv, 1) := by decide +kernel
theorem dX6_lengthOf_61 : decode cX6_lengthOf 61 = .ok (.isub, 1) := by decide +kernel
theorem dX6_lengthOf_62 : decode cX6_lengthOf 62 = .ok (.istore 5, 2) := by decide +kernel
theorem dX6_lengthOf_64 : decode cX6_lengthOf 64 = .ok (.fload_n 2, 1) := by decide +kernel
theorem dX6_lengthOf_65 : decode cX6_lengthOf 65 = .ok (.aload_n 0, 1) := by decide +kernel
theorem dX6_lengthOf_66 : decode cX6_lengthOf 66 = .ok (.iload 4, 2) := by decide +kernel
theorem dX6_lengthOf_68 : decode cX6_lengthOf 68 = .ok (.iload 4, 2) := by decide +kernel
theorem dX6_lengthOf_70 : decode cX6_lengthOf 70 = .ok (.imul, 1) := by decide +kernel
theorem dX6_lengthOf_71 : decode cX6_lengthOf 71 = .ok (.iload 5, 2) := by decide +kernel
theorem dX6_lengthOf_73 : decode cX6_lengthOf 73 = .ok (.iload 5, 2) := by decide +kernel
theorem dX6_lengthOf_75 : decode cX6_lengthOf 75 = .ok (.imul, 1) := by decide +kernel
theorem dX6_lengthOf_76 : decode cX6_lengthOf 76 = .ok (.iadd, 1) := by decide +kernel
theorem dX6_lengthOf_77 : decode cX6_lengthOf 77 = .ok (.invokevirtual 106, 3) := by decide +kernel
theorem dX6_lengthOf_80 : decode cX6_lengthOf 80 = .ok (.d2f, 1) := by decide +kernel
theorem dX6_lengthOf_81 : decode cX6_lengthOf 81 = .ok (.fadd, 1) := by decide +kernel
theorem dX6_lengthOf_82 : decode cX6_lengthOf 82 = .ok (.fstore_n 2, 1) := by decide +kernel
theorem dX6_lengthOf_83 : decode cX6_lengthOf 83 = .ok (.iinc 3 1, 3) := by decide +kernel
theorem dX6_lengthOf_86 : decode cX6_lengthOf 86 = .ok (.goto (-79), 3) := by decide +kernel
theorem dX6_lengthOf_89 : decode cX6_lengthOf 89 = .ok (.fload_n 2, 1) := by decide +kernel
theorem dX6_lengthOf_90 : decode cX6_lengthOf 90 = .ok (.freturn, 1) := by decide +kernel
theorem dX6_length_0 : decode cX6_length 0 = .ok (.aload_n 0, 1) := by decide +kernel
theorem dX6_length_1 : decode cX6_length 1 = .ok (.aload_n 0, 1) := by decide +kernel
theorem dX6_length_2 : decode cX6_length 2 = .ok (.iload_n 1, 1) := by decide +kernel
theorem dX6_length_3 : decode cX6_length 3 = .ok (.invokevirtual 82, 3) := by decide +kernel
theorem dX6_length_6 : decode cX6_length 6 = .ok (.ifCond .eq 7, 3) := by decide +kernel
theorem dX6_length_9 : decode cX6_length 9 = .ok (.iconst 0, 1) := by decide +kernel
theorem dX6_length_10 : decode cX6_length 10 = .ok (.goto 4, 3) := by decide +kernel
theorem dX6_length_13 : decode cX6_length 13 = .ok (.iconst 1, 1) := by decide +kernel
theorem dX6_length_14 : decode cX6_length 14 = .ok (.invokevirtual 78, 3) := by decide +kernel
theorem dX6_length_17 : decode cX6_length 17 = .ok (.ifCond .eq 8, 3) := by decide +kernel
theorem dX6_length_20 : decode cX6_length 20 = .ok (.ldc 110, 2) := by decide +kernel
theorem dX6_length_22 : decode cX6_length 22 = .ok (.goto 8, 3) := by decide +kernel
theorem dX6_length_25 : decode cX6_length 25 = .ok (.aload_n 0, 1) := by decide +kernel
theorem dX6_length_26 : decode cX6_length 26 = .ok (.iload_n 1, 1) := by decide +kernel
theorem dX6_length_27 : decode cX6_length 27 = .ok (.invokevirtual 111, 3) := by decide +kernel
theorem dX6_length_30 : decode cX6_length 30 = .ok (.freturn, 1) := by decide +kernel
theorem dX6_adds_0 : decode cX6_adds 0 = .ok (.aload_n 0, 1) := by decide +kernel
theorem dX6_adds_1 : decode cX6_adds 1 = .ok (.getfield 28, 3) := by decide +kernel
theorem dX6_adds_4 : decode cX6_adds 4 = .ok (.aload_n 0, 1) := by decide +kernel
theorem dX6_adds_5 : decode cX6_adds 5 = .ok (.getfield 115, 3) := by decide +kernel
theorem dX6_adds_8 : decode cX6_adds 8 = .ok (.iload_n 1, 1) := by decide +kernel
theorem dX6_adds_9 : decode cX6_adds 9 = .ok (.iastore, 1) := by decide +kernel
theorem dX6_adds_10 : decode cX6_adds 10 = .ok (.aload_n 0, 1) := by decide +kernel
theorem dX6_adds_11 : decode cX6_adds 11 = .ok (.getfield 31, 3) := by decide +kernel
theorem dX6_adds_14 : decode cX6_adds 14 = .ok (.aload_n 0, 1) := by decide +kernel
theorem dX6_adds_15 : decode cX6_adds 15 = .ok (.getfield 115, 3) := by decide +kernel
theorem dX6_adds_18 : decode cX6_adds 18 = .ok (.iload_n 2, 1) := by decide +kernel
theorem dX6_adds_19 : decode cX6_adds 19 = .ok (.iastore, 1) := by decide +kernel
theorem dX6_adds_20 : decode cX6_adds 20 = .ok (.aload_n 0, 1) := by decide +kernel
theorem dX6_adds_21 : decode cX6_adds 21 = .ok (.getfield 34, 3) := by decide +kernel
theorem dX6_adds_24 : decode cX6_adds 24 = .ok (.aload_n 0, 1) := by decide +kernel
theorem dX6_adds_25 : decode cX6_adds 25 = .ok (.getfield 115, 3) := by decide +kernel
theorem dX6_adds_28 : decode cX6_adds 28 = .ok (.iload_n 3, 1) := by decide +kernel
theorem dX6_adds_29 : decode cX6_adds 29 = .ok (.iastore, 1) := by decide +kernel
theorem dX6_adds_30 : decode cX6_adds 30 = .ok (.aload_n 0, 1) := by decide +kernel
theorem dX6_adds_31 : decode cX6_adds 31 = .ok (.getfield 37, 3) := by decide +kernel
theorem dX6_adds_34 : decode cX6_adds 34 = .ok (.aload_n 0, 1) := by decide +kernel
theorem dX6_adds_35 : decode cX6_adds 35 = .ok (.getfield 115, 3) := by decide +kernel
theorem dX6_adds_38 : decode cX6_adds 38 = .ok (.iload 4, 2) := by decide +kernel
theorem dX6_adds_40 : decode cX6_adds 40 = .ok (.iastore, 1) := by decide +kernel
theorem dX6_adds_41 : decode cX6_adds 41 = .ok (.aload_n 0, 1) := by decide +kernel
theorem dX6_adds_42 : decode cX6_adds 42 = .ok (.getfield 40, 3) := by decide +kernel
theorem dX6_adds_45 : decode cX6_adds 45 = .ok (.aload_n 0, 1) := by decide +kernel
theorem dX6_adds_46 : decode cX6_adds 46 = .ok (.getfield 115, 3) := by decide +kernel
theorem dX6_adds_49 : decode cX6_adds 49 = .ok (.iload 5, 2) := by decide +kernel
theorem dX6_adds_51 : decode cX6_adds 51 = .ok (.iastore, 1) := by decide +kernel
theorem dX6_adds_52 : decode cX6_adds 52 = .ok (.aload_n 0, 1) := by decide +kernel
theorem dX6_adds_53 : decode cX6_adds 53 = .ok (.getfield 43, 3) := by decide +kernel
theorem dX6_adds_56 : decode cX6_adds 56 = .ok (.aload_n 0, 1) := by decide +kernel
theorem dX6_adds_57 : decode cX6_adds 57 = .ok (.getfield 115, 3) := by decide +kernel
theorem dX6_adds_60 : decode cX6_adds 60 = .ok (.iload 6, 2) := by decide +kernel
theorem dX6_adds_62 : decode cX6_adds 62 = .ok (.iastore, 1) := by decide +kernel
theorem dX6_adds_63 : decode cX6_adds 63 = .ok (.aload_n 0, 1) := by decide +kernel
theorem dX6_adds_64 : decode cX6_adds 64 = .ok (.getfield 46, 3) := by decide +kernel
theorem dX6_adds_67 : decode cX6_adds 67 = .ok (.aload_n 0, 1) := by decide +kernel
theorem dX6_adds_68 : decode cX6_adds 68 = .ok (.getfield 115, 3) := by decide +kernel
theorem dX6_adds_71 : decode cX6_adds 71 = .ok (.iload 7, 2) := by decide +kernel
theorem dX6_adds_73 : decode cX6_adds 73 = .ok (.iastore, 1) := by decide +kernel
theorem dX6_adds_74 : decode cX6_adds 74 = .ok (.aload_n 0, 1) := by decide +kernel
theorem dX6_adds_75 : decode cX6_adds 75 = .ok (.dup, 1) := by decide +kernel
theorem dX6_adds_76 : decode cX6_adds 76 = .ok (.getfield 115, 3) := by decide +kernel
theorem dX6_adds_79 : decode cX6_adds 79 = .ok (.iconst 1, 1) := by decide +kernel
theorem dX6_adds_80 : decode cX6_adds 80 = .ok (.iadd, 1) := by decide +kernel
theorem dX6_adds_81 : decode cX6_adds 81 = .ok (.putfield 115, 3) := by decide +kernel
theorem dX6_adds_84 : decode cX6_adds 84 = .ok (.aload_n 0, 1) := by decide +kernel
theorem dX6_adds_85 : decode cX6_adds 85 = .ok (.getfield 115, 3) := by decide +kernel
theorem dX6_adds_88 : decode cX6_adds 88 = .ok (.iconst 1, 1) := by decide +kernel
theorem dX6_adds_89 : decode cX6_adds 89 = .ok (.isub, 1) := by decide +kernel
theorem dX6_adds_90 : decode cX6_adds 90 = .ok (.ireturn, 1) := by decide +kernel
theorem dX6_sheet_0 : decode cX6_sheet 0 = .ok (.aload_n 0, 1) := by decide +kernel
theorem dX6_sheet_1 : decode cX6_sheet 1 = .ok (.iload_n 1, 1) := by decide +kernel
theorem dX6_sheet_2 : decode cX6_sheet 2 = .ok (.iconst 1, 1) := by decide +kernel
theorem dX6_sheet_3 : decode cX6_sheet 3 = .ok (.bipush 64, 2) := by decide +kernel
theorem dX6_sheet_5 : decode cX6_sheet 5 = .ok (.invokevirtual 74, 3) := by decide +kernel
theorem dX6_sheet_8 : decode cX6_sheet 8 = .ok (.ifCond .eq 18, 3) := by decide +kernel
theorem dX6_sheet_11 : decode cX6_sheet 11 = .ok (.aload_n 0, 1) := by decide +kernel
theorem dX6_sheet_12 : decode cX6_sheet 12 = .ok (.iload_n 2, 1) := by decide +kernel
theorem dX6_sheet_13 : decode cX6_sheet 13 = .ok (.iconst 1, 1) := by decide +kernel
theorem dX6_sheet_14 : decode cX6_sheet 14 = .ok (.bipush 64, 2) := by decide +kernel
theorem dX6_sheet_16 : decode cX6_sheet 16 = .ok (.invokevirtual 74, 3) := by decide +kernel
theorem dX6_sheet_19 : decode cX6_sheet 19 = .ok (.ifCond .eq 7, 3) := by decide +kernel
theorem dX6_sheet_22 : decode cX6_sheet 22 = .ok (.iconst 1, 1) := by decide +kernel
theorem dX6_sheet_23 : decode cX6_sheet 23 = .ok (.goto 4, 3) := by decide +kernel
theorem dX6_sheet_26 : decode cX6_sheet 26 = .ok (.iconst 0, 1) := by decide +kernel
theorem dX6_sheet_27 : decode cX6_sheet 27 = .ok (.istore_n 3, 1) := by decide +kernel
theorem dX6_sheet_28 : decode cX6_sheet 28 = .ok (.aload_n 0, 1) := by decide +kernel
theorem dX6_sheet_29 : decode cX6_sheet 29 = .ok (.iload_n 3, 1) := by decide +kernel
theorem dX6_sheet_30 : decode cX6_sheet 30 = .ok (.ifCond .ne 7, 3) := by decide +kernel
theorem dX6_sheet_33 : decode cX6_sheet 33 = .ok (.iconst 1, 1) := by decide +kernel
theorem dX6_sheet_34 : decode cX6_sheet 34 = .ok (.goto 27, 3) := by decide +kernel
theorem dX6_sheet_37 : decode cX6_sheet 37 = .ok (.aload_n 0, 1) := by decide +kernel
theorem dX6_sheet_38 : decode cX6_sheet 38 = .ok (.getfield 118, 3) := by decide +kernel
theorem dX6_sheet_41 : decode cX6_sheet 41 = .ok (.bipush 8, 2) := by decide +kernel
theorem dX6_sheet_43 : decode cX6_sheet 43 = .ok (.if_icmp .eq 13, 3) := by decide +kernel
theorem dX6_sheet_46 : decode cX6_sheet 46 = .ok (.aload_n 0, 1) := by decide +kernel
theorem dX6_sheet_47 : decode cX6_sheet 47 = .ok (.getfield 115, 3) := by decide +kernel
theorem dX6_sheet_50 : decode cX6_sheet 50 = .ok (.sipush 400, 3) := by decide +kernel
theorem dX6_sheet_53 : decode cX6_sheet 53 = .ok (.if_icmp .ne 7, 3) := by decide +kernel
theorem dX6_sheet_56 : decode cX6_sheet 56 = .ok (.iconst 2, 1) := by decide +kernel
theorem dX6_sheet_57 : decode cX6_sheet 57 = .ok (.goto 4, 3) := by decide +kernel
theorem dX6_sheet_60 : decode cX6_sheet 60 = .ok (.iconst 0, 1) := by decide +kernel
theorem dX6_sheet_61 : decode cX6_sheet 61 = .ok (.invokevirtual 78, 3) := by decide +kernel
theorem dX6_sheet_64 : decode cX6_sheet 64 = .ok (.ifCond .eq 5, 3) := by decide +kernel
theorem dX6_sheet_67 : decode cX6_sheet 67 = .ok (.iconst (-1), 1) := by decide +kernel
theorem dX6_sheet_68 : decode cX6_sheet 68 = .ok (.ireturn, 1) := by decide +kernel
theorem dX6_sheet_69 : decode cX6_sheet 69 = .ok (.aload_n 0, 1) := by decide +kernel
theorem dX6_sheet_70 : decode cX6_sheet 70 = .ok (.aload_n 0, 1) := by decide +kernel
theorem dX6_sheet_71 : decode cX6_sheet 71 = .ok (.getfield 118, 3) := by decide +kernel
theorem dX6_sheet_74 : decode cX6_sheet 74 = .ok (.iconst 0, 1) := by decide +kernel
theorem dX6_sheet_75 : decode cX6_sheet 75 = .ok (.iconst 0, 1) := by decide +kernel
theorem dX6_sheet_76 : decode cX6_sheet 76 = .ok (.iload_n 1, 1) := by decide +kernel
theorem dX6_sheet_77 : decode cX6_sheet 77 = .ok (.iload_n 2, 1) := by decide +kernel
theorem dX6_sheet_78 : decode cX6_sheet 78 = .ok (.iconst 0, 1) := by decide +kernel
theorem dX6_sheet_79 : decode cX6_sheet 79 = .ok (.iconst (-1), 1) := by decide +kernel
theorem dX6_sheet_80 : decode cX6_sheet 80 = .ok (.invokevirtual 121, 3) := by decide +kernel
theorem dX6_sheet_83 : decode cX6_sheet 83 = .ok (.istore 4, 2) := by decide +kernel
theorem dX6_sheet_85 : decode cX6_sheet 85 = .ok (.aload_n 0, 1) := by decide +kernel
theorem dX6_sheet_86 : decode cX6_sheet 86 = .ok (.dup, 1) := by decide +kernel
theorem dX6_sheet_87 : decode cX6_sheet 87 = .ok (.getfield 118, 3) := by decide +kernel
theorem dX6_sheet_90 : decode cX6_sheet 90 = .ok (.iconst 1, 1) := by decide +kernel
theorem dX6_sheet_91 : decode cX6_sheet 91 = .ok (.iadd, 1) := by decide +kernel
theorem dX6_sheet_92 : decode cX6_sheet 92 = .ok (.putfield 118, 3) := by decide +kernel
theorem dX6_sheet_95 : decode cX6_sheet 95 = .ok (.aload_n 0, 1) := by decide +kernel
theorem dX6_sheet_96 : decode cX6_sheet 96 = .ok (.invokevirtual 97, 3) := by decide +kernel
theorem dX6_sheet_99 : decode cX6_sheet 99 = .ok (.aload_n 0, 1) := by decide +kernel
theorem dX6_sheet_100 : decode cX6_sheet 100 = .ok (.getfield 118, 3) := by decide +kernel
theorem dX6_sheet_103 : decode cX6_sheet 103 = .ok (.iconst 1, 1) := by decide +kernel
theorem dX6_sheet_104 : decode cX6_sheet 104 = .ok (.isub, 1) := by decide +kernel
theorem dX6_sheet_105 : decode cX6_sheet 105 = .ok (.ireturn, 1) := by decide +kernel
theorem dX6_bestFor_0 : decode cX6_bestFor 0 = .ok (.iconst (-1), 1) := by decide +kernel
theorem dX6_bestFor_1 : decode cX6_bestFor 1 = .ok (.istore_n 3, 1) := by decide +kernel
theorem dX6_bestFor_2 : decode cX6_bestFor 2 = .ok (.iconst 0, 1) := by decide +kernel
theorem dX6_bestFor_3 : decode cX6_bestFor 3 = .ok (.istore 4, 2) := by decide +kernel
theorem dX6_bestFor_5 : decode cX6_bestFor 5 = .ok (.iload 4, 2) := by decide +kernel
theorem dX6_bestFor_7 : decode cX6_bestFor 7 = .ok (.aload_n 0, 1) := by decide +kernel
theorem dX6_bestFor_8 : decode cX6_bestFor 8 = .ok (.getfield 115, 3) := by decide +kernel
theorem dX6_bestFor_11 : decode cX6_bestFor 11 = .ok (.if_icmp .ge 95, 3) := by decide +kernel
theorem dX6_bestFor_14 : decode cX6_bestFor 14 = .ok (.aload_n 0, 1) := by decide +kernel
theorem dX6_bestFor_15 : decode cX6_bestFor 15 = .ok (.getfield 43, 3) := by decide +kernel
theorem dX6_bestFor_18 : decode cX6_bestFor 18 = .ok (.iload 4, 2) := by decide +kernel
theorem dX6_bestFor_20 : decode cX6_bestFor 20 = .ok (.iaload, 1) := by decide +kernel
theorem dX6_bestFor_21 : decode cX6_bestFor 21 = .ok (.ifCond .ne 29, 3) := by decide +kernel
theorem dX6_bestFor_24 : decode cX6_bestFor 24 = .ok (.aload_n 0, 1) := by decide +kernel
theorem dX6_bestFor_25 : decode cX6_bestFor 25 = .ok (.getfield 37, 3) := by decide +kernel
theorem dX6_bestFor_28 : decode cX6_bestFor 28 = .ok (.iload 4, 2) := by decide +kernel
theorem dX6_bestFor_30 : decode cX6_bestFor 30 = .ok (.iaload, 1) := by decide +kernel
theorem dX6_bestFor_31 : decode cX6_bestFor 31 = .ok (.iload_n 1, 1) := by decide +kernel
theorem dX6_bestFor_32 : decode cX6_bestFor 32 = .ok (.if_icmp .lt 18, 3) := by decide +kernel
theorem dX6_bestFor_35 : decode cX6_bestFor 35 = .ok (.aload_n 0, 1) := by decide +kernel
theorem dX6_bestFor_36 : decode cX6_bestFor 36 = .ok (.getfield 40, 3) := by decide +kernel
theorem dX6_bestFor_39 : decode cX6_bestFor 39 = .ok (.iload 4, 2) := by decide +kernel
theorem dX6_bestFor_41 : decode cX6_bestFor 41 = .ok (.iaload, 1) := by decide +kernel
theorem dX6_bestFor_42 : decode cX6_bestFor 42 = .ok (.iload_n 2, 1) := by decide +kernel
theorem dX6_bestFor_43 : decode cX6_bestFor 43 = .ok (.if_icmp .lt 7, 3) := by decide +kernel
theorem dX6_bestFor_46 : decode cX6_bestFor 46 = .ok (.iconst 1, 1) := by decide +kernel
theorem dX6_bestFor_47 : decode cX6_bestFor 47 = .ok (.goto 4, 3) := by decide +kernel
theorem dX6_bestFor_50 : decode cX6_bestFor 50 = .ok (.iconst 0, 1) := by decide +kernel
theorem dX6_bestFor_51 : decode cX6_bestFor 51 = .ok (.istore 5, 2) := by decide +kernel
theorem dX6_bestFor_53 : decode cX6_bestFor 53 = .ok (.iload 5, 2) := by decide +kernel
theorem dX6_bestFor_55 : decode cX6_bestFor 55 = .ok (.ifCond .eq 43, 3) := by decide +kernel
theorem dX6_bestFor_58 : decode cX6_bestFor 58 = .ok (.iload_n 3, 1) := by decide +kernel
theorem dX6_bestFor_59 : decode cX6_bestFor 59 = .ok (.ifCond .lt 34, 3) := by decide +kernel
theorem dX6_bestFor_62 : decode cX6_bestFor 62 = .ok (.aload_n 0, 1) := by decide +kernel
theorem dX6_bestFor_63 : decode cX6_bestFor 63 = .ok (.getfield 37, 3) := by decide +kernel
theorem dX6_bestFor_66 : decode cX6_bestFor 66 = .ok (.iload 4, 2) := by decide +kernel
theorem dX6_bestFor_68 : decode cX6_bestFor 68 = .ok (.iaload, 1) := by decide +kernel
theorem dX6_bestFor_69 : decode cX6_bestFor 69 = .ok (.aload_n 0, 1) := by decide +kernel
theorem dX6_bestFor_70 : decode cX6_bestFor 70 = .ok (.getfield 40, 3) := by decide +kernel
theorem dX6_bestFor_73 : decode cX6_bestFor 73 = .ok (.iload 4, 2) := by decide +kernel
theorem dX6_bestFor_75 : decode cX6_bestFor 75 = .ok (.iaload, 1) := by decide +kernel
theorem dX6_bestFor_76 : decode cX6_bestFor 76 = .ok (.imul, 1) := by decide +kernel
theorem dX6_bestFor_77 : decode cX6_bestFor 77 = .ok (.aload_n 0, 1) := by decide +kernel
theorem dX6_bestFor_78 : decode cX6_bestFor 78 = .ok (.getfield 37, 3) := by decide +kernel
theorem dX6_bestFor_81 : decode cX6_bestFor 81 = .ok (.iload_n 3, 1) := by decide +kernel
theorem dX6_bestFor_82 : decode cX6_bestFor 82 = .ok (.iaload, 1) := by decide +kernel
theorem dX6_bestFor_83 : decode cX6_bestFor 83 = .ok (.aload_n 0, 1) := by decide +kernel
theorem dX6_bestFor_84 : decode cX6_bestFor 84 = .ok (.getfield 40, 3) := by decide +kernel
theorem dX6_bestFor_87 : decode cX6_bestFor 87 = .ok (.iload_n 3, 1) := by decide +kernel
theorem dX6_bestFor_88 : decode cX6_bestFor 88 = .ok (.iaload, 1) := by decide +kernel
theorem dX6_bestFor_89 : decode cX6_bestFor 89 = .ok (.imul, 1) := by decide +kernel
theorem dX6_bestFor_90 : decode cX6_bestFor 90 = .ok (.if_icmp .ge 8, 3) := by decide +kernel
theorem dX6_bestFor_93 : decode cX6_bestFor 93 = .ok (.iload 4, 2) := by decide +kernel
theorem dX6_bestFor_95 : decode cX6_bestFor 95 = .ok (.goto 4, 3) := by decide +kernel
theorem dX6_bestFor_98 : decode cX6_bestFor 98 = .ok (.iload_n 3, 1) := by decide +kernel
theorem dX6_bestFor_99 : decode cX6_bestFor 99 = .ok (.istore_n 3, 1) := by decide +kernel
theorem dX6_bestFor_100 : decode cX6_bestFor 100 = .ok (.iinc 4 1, 3) := by decide +kernel
theorem dX6_bestFor_103 : decode cX6_bestFor 103 = .ok (.goto (-98), 3) := by decide +kernel
theorem dX6_bestFor_106 : decode cX6_bestFor 106 = .ok (.iload_n 3, 1) := by decide +kernel
theorem dX6_bestFor_107 : decode cX6_bestFor 107 = .ok (.ireturn, 1) := by decide +kernel
theorem dX6_lays_0 : decode cX6_lays 0 = .ok (.aload_n 0, 1) := by decide +kernel
theorem dX6_lays_1 : decode cX6_lays 1 = .ok (.iload_n 1, 1) := by decide +kernel
theorem dX6_lays_2 : decode cX6_lays 2 = .ok (.iload_n 2, 1) := by decide +kernel
theorem dX6_lays_3 : decode cX6_lays 3 = .ok (.invokevirtual 125, 3) := by decide +kernel
theorem dX6_lays_6 : decode cX6_lays 6 = .ok (.istore_n 3, 1) := by decide +kernel
theorem dX6_lays_7 : decode cX6_lays 7 = .ok (.iload_n 3, 1) := by decide +kernel
theorem dX6_lays_8 : decode cX6_lays 8 = .ok (.ifCond .ge 5, 3) := by decide +kernel
theorem dX6_lays_11 : decode cX6_lays 11 = .ok (.iconst (-1), 1) := by decide +kernel
theorem dX6_lays_12 : decode cX6_lays 12 = .ok (.ireturn, 1) := by decide +kernel
theorem dX6_lays_13 : decode cX6_lays 13 = .ok (.aload_n 0, 1) := by decide +kernel
theorem dX6_lays_14 : decode cX6_lays 14 = .ok (.getfield 37, 3) := by decide +kernel
theorem dX6_lays_17 : decode cX6_lays 17 = .ok (.iload_n 3, 1) := by decide +kernel
theorem dX6_lays_18 : decode cX6_lays 18 = .ok (.iaload, 1) := by decide +kernel
theorem dX6_lays_19 : decode cX6_lays 19 = .ok (.iload_n 1, 1) := by decide +kernel
theorem dX6_lays_20 : decode cX6_lays 20 = .ok (.if_icmp .le 7, 3) := by decide +kernel
theorem dX6_lays_23 : decode cX6_lays 23 = .ok (.iconst 1, 1) := by decide +kernel
theorem dX6_lays_24 : decode cX6_lays 24 = .ok (.goto 4, 3) := by decide +kernel
theorem dX6_lays_27 : decode cX6_lays 27 = .ok (.iconst 0, 1) := by decide +kernel
theorem dX6_lays_28 : decode cX6_lays 28 = .ok (.istore 4, 2) := by decide +kernel
theorem dX6_lays_30 : decode cX6_lays 30 = .ok (.aload_n 0, 1) := by decide +kernel
theorem dX6_lays_31 : decode cX6_lays 31 = .ok (.getfield 40, 3) := by decide +kernel
theorem dX6_lays_34 : decode cX6_lays 34 = .ok (.iload_n 3, 1) := by decide +kernel
theorem dX6_lays_35 : decode cX6_lays 35 = .ok (.iaload, 1) := by decide +kernel
theorem dX6_lays_36 : decode cX6_lays 36 = .ok (.iload_n 2, 1) := by decide +kernel
theorem dX6_lays_37 : decode cX6_lays 37 = .ok (.if_icmp .le 7, 3) := by decide +kernel
theorem dX6_lays_40 : decode cX6_lays 40 = .ok (.iconst 1, 1) := by decide +kernel
theorem dX6_lays_41 : decode cX6_lays 41 = .ok (.goto 4, 3) := by decide +kernel
theorem dX6_lays_44 : decode cX6_lays 44 = .ok (.iconst 0, 1) := by decide +kernel
theorem dX6_lays_45 : decode cX6_lays 45 = .ok (.istore 5, 2) := by decide +kernel
theorem dX6_lays_47 : decode cX6_lays 47 = .ok (.aload_n 0, 1) := by decide +kernel
theorem dX6_lays_48 : decode cX6_lays 48 = .ok (.getfield 115, 3) := by decide +kernel
theorem dX6_lays_51 : decode cX6_lays 51 = .ok (.iconst 1, 1) := by decide +kernel
theorem dX6_lays_52 : decode cX6_lays 52 = .ok (.iadd, 1) := by decide +kernel
theorem dX6_lays_53 : decode cX6_lays 53 = .ok (.iload 4, 2) := by decide +kernel
theorem dX6_lays_55 : decode cX6_lays 55 = .ok (.ifCond .eq 7, 3) := by decide +kernel
theorem dX6_lays_58 : decode cX6_lays 58 = .ok (.iconst 1, 1) := by decide +kernel
theorem dX6_lays_59 : decode cX6_lays 59 = .ok (.goto 4, 3) := by decide +kernel
theorem dX6_lays_62 : decode cX6_lays 62 = .ok (.iconst 0, 1) := by decide +kernel
theorem dX6_lays_63 : decode cX6_lays 63 = .ok (.iadd, 1) := by decide +kernel
theorem dX6_lays_64 : decode cX6_lays 64 = .ok (.iload 5, 2) := by decide +kernel
theorem dX6_lays_66 : decode cX6_lays 66 = .ok (.ifCond .eq 7, 3) := by decide +kernel
theorem dX6_lays_69 : decode cX6_lays 69 = .ok (.iconst 1, 1) := by decide +kernel
theorem dX6_lays_70 : decode cX6_lays 70 = .ok (.goto 4, 3) := by decide +kernel
theorem dX6_lays_73 : decode cX6_lays 73 = .ok (.iconst 0, 1) := by decide +kernel
theorem dX6_lays_74 : decode cX6_lays 74 = .ok (.iadd, 1) := by decide +kernel
theorem dX6_lays_75 : decode cX6_lays 75 = .ok (.sipush 400, 3) := by decide +kernel
theorem dX6_lays_78 : decode cX6_lays 78 = .ok (.if_icmp .le 5, 3) := by decide +kernel
theorem dX6_lays_81 : decode cX6_lays 81 = .ok (.iconst (-1), 1) := by decide +kernel
theorem dX6_lays_82 : decode cX6_lays 82 = .ok (.ireturn, 1) := by decide +kernel
theorem dX6_lays_83 : decode cX6_lays 83 = .ok (.aload_n 0, 1) := by decide +kernel
theorem dX6_lays_84 : decode cX6_lays 84 = .ok (.getfield 43, 3) := by decide +kernel
theorem dX6_lays_87 : decode cX6_lays 87 = .ok (.iload_n 3, 1) := by decide +kernel
theorem dX6_lays_88 : decode cX6_lays 88 = .ok (.iconst 2, 1) := by decide +kernel
theorem dX6_lays_89 : decode cX6_lays 89 = .ok (.iastore, 1) := by decide +kernel
theorem dX6_lays_90 : decode cX6_lays 90 = .ok (.aload_n 0, 1) := by decide +kernel
theorem dX6_lays_91 : decode cX6_lays 91 = .ok (.aload_n 0, 1) := by decide +kernel
theorem dX6_lays_92 : decode cX6_lays 92 = .ok (.getfield 28, 3) := by decide +kernel
theorem dX6_lays_95 : decode cX6_lays 95 = .ok (.iload_n 3, 1) := by decide +kernel
theorem dX6_lays_96 : decode cX6_lays 96 = .ok (.iaload, 1) := by decide +kernel
theorem dX6_lays_97 : decode cX6_lays 97 = .ok (.aload_n 0, 1) := by decide +kernel
theorem dX6_lays_98 : decode cX6_lays 98 = .ok (.getfield 31, 3) := by decide +kernel
theorem dX6_lays_101 : decode cX6_lays 101 = .ok (.iload_n 3, 1) := by decide +kernel
theorem dX6_lays_102 : decode cX6_lays 102 = .ok (.iaload, 1) := by decide +kernel
theorem dX6_lays_103 : decode cX6_lays 103 = .ok (.aload_n 0, 1) := by decide +kernel
theorem dX6_lays_104 : decode cX6_lays 104 = .ok (.getfield 34, 3) := by decide +kernel
theorem dX6_lays_107 : decode cX6_lays 107 = .ok (.iload_n 3, 1) := by decide +kernel
theorem dX6_lays_108 : decode cX6_lays 108 = .ok (.iaload, 1) := by decide +kernel
theorem dX6_lays_109 : decode cX6_lays 109 = .ok (.iload_n 1, 1) := by decide +kernel
theorem dX6_lays_110 : decode cX6_lays 110 = .ok (.iload_n 2, 1) := by decide +kernel
theorem dX6_lays_111 : decode cX6_lays 111 = .ok (.iconst 1, 1) := by decide +kernel
theorem dX6_lays_112 : decode cX6_lays 112 = .ok (.iload_n 3, 1) := by decide +kernel
theorem dX6_lays_113 : decode cX6_lays 113 = .ok (.invokevirtual 121, 3) := by decide +kernel
theorem dX6_lays_116 : decode cX6_lays 116 = .ok (.istore 6, 2) := by decide +kernel
theorem dX6_lays_118 : decode cX6_lays 118 = .ok (.iload 4, 2) := by decide +kernel
theorem dX6_lays_120 : decode cX6_lays 120 = .ok (.ifCond .eq 42, 3) := by decide +kernel
theorem dX6_lays_123 : decode cX6_lays 123 = .ok (.aload_n 0, 1) := by decide +kernel
theorem dX6_lays_124 : decode cX6_lays 124 = .ok (.aload_n 0, 1) := by decide +kernel
theorem dX6_lays_125 : decode cX6_lays 125 = .ok (.getfield 28, 3) := by decide +kernel
theorem dX6_lays_128 : decode cX6_lays 128 = .ok (.iload_n 3, 1) := by decide +kernel
theorem dX6_lays_129 : decode cX6_lays 129 = .ok (.iaload, 1) := by decide +kernel
theorem dX6_lays_130 : decode cX6_lays 130 = .ok (.aload_n 0, 1) := by decide +kernel
theorem dX6_lays_131 : decode cX6_lays 131 = .ok (.getfield 31, 3) := by decide +kernel
theorem dX6_lays_134 : decode cX6_lays 134 = .ok (.iload_n 3, 1) := by decide +kernel
theorem dX6_lays_135 : decode cX6_lays 135 = .ok (.iaload, 1) := by decide +kernel
theorem dX6_lays_136 : decode cX6_lays 136 = .ok (.iload_n 1, 1) := by decide +kernel
theorem dX6_lays_137 : decode cX6_lays 137 = .ok (.iadd, 1) := by decide +kernel
theorem dX6_lays_138 : decode cX6_lays 138 = .ok (.aload_n 0, 1) := by decide +kernel
theorem dX6_lays_139 : decode cX6_lays 139 = .ok (.getfield 34, 3) := by decide +kernel
theorem dX6_lays_142 : decode cX6_lays 142 = .ok (.iload_n 3, 1) := by decide +kernel
theorem dX6_lays_143 : decode cX6_lays 143 = .ok (.iaload, 1) := by decide +kernel
theorem dX6_lays_144 : decode cX6_lays 144 = .ok (.aload_n 0, 1) := by decide +kernel
theorem dX6_lays_145 : decode cX6_lays 145 = .ok (.getfield 37, 3) := by decide +kernel
theorem dX6_lays_148 : decode cX6_lays 148 = .ok (.iload_n 3, 1) := by decide +kernel
theorem dX6_lays_149 : decode cX6_lays 149 = .ok (.iaload, 1) := by decide +kernel
theorem dX6_lays_150 : decode cX6_lays 150 = .ok (.iload_n 1, 1) := by decide +kernel
theorem dX6_lays_151 : decode cX6_lays 151 = .ok (.isub, 1) := by decide +kernel
theorem dX6_lays_152 : decode cX6_lays 152 = .ok (.iload_n 2, 1) := by decide +kernel
theorem dX6_lays_153 : decode cX6_lays 153 = .ok (.iconst 0, 1) := by decide +kernel
theorem dX6_lays_154 : decode cX6_lays 154 = .ok (.iload_n 3, 1) := by decide +kernel
theorem dX6_lays_155 : decode cX6_lays 155 = .ok (.invokevirtual 121, 3) := by decide +kernel
theorem dX6_lays_158 : decode cX6_lays 158 = .ok (.iconst 1, 1) := by decide +kernel
theorem dX6_lays_159 : decode cX6_lays 159 = .ok (.isub, 1) := by decide +kernel
theorem dX6_lays_160 : decode cX6_lays 160 = .ok (.istore 6, 2) := by decide +kernel
theorem dX6_lays_162 : decode cX6_lays 162 = .ok (.iload 5, 2) := by decide +kernel
theorem dX6_lays_164 : decode cX6_lays 164 = .ok (.ifCond .eq 46, 3) := by decide +kernel
theorem dX6_lays_167 : decode cX6_lays 167 = .ok (.aload_n 0, 1) := by decide +kernel
theorem dX6_lays_168 : decode cX6_lays 168 = .ok (.aload_n 0, 1) := by decide +kernel
theorem dX6_lays_169 : decode cX6_lays 169 = .ok (.getfield 28, 3) := by decide +kernel
theorem dX6_lays_172 : decode cX6_lays 172 = .ok (.iload_n 3, 1) := by decide +kernel
theorem dX6_lays_173 : decode cX6_lays 173 = .ok (.iaload, 1) := by decide +kernel
theorem dX6_lays_174 : decode cX6_lays 174 = .ok (.aload_n 0, 1) := by decide +kernel
theorem dX6_lays_175 : decode cX6_lays 175 = .ok (.getfield 31, 3) := by decide +kernel
theorem dX6_lays_178 : decode cX6_lays 178 = .ok (.iload_n 3, 1) := by decide +kernel
theorem dX6_lays_179 : decode cX6_lays 179 = .ok (.iaload, 1) := by decide +kernel
theorem dX6_lays_180 : decode cX6_lays 180 = .ok (.aload_n 0, 1) := by decide +kernel
theorem dX6_lays_181 : decode cX6_lays 181 = .ok (.getfield 34, 3) := by decide +kernel
theorem dX6_lays_184 : decode cX6_lays 184 = .ok (.iload_n 3, 1) := by decide +kernel
theorem dX6_lays_185 : decode cX6_lays 185 = .ok (.iaload, 1) := by decide +kernel
theorem dX6_lays_186 : decode cX6_lays 186 = .ok (.iload_n 2, 1) := by decide +kernel
theorem dX6_lays_187 : decode cX6_lays 187 = .ok (.iadd, 1) := by decide +kernel
theorem dX6_lays_188 : decode cX6_lays 188 = .ok (.aload_n 0, 1) := by decide +kernel
theorem dX6_lays_189 : decode cX6_lays 189 = .ok (.getfield 37, 3) := by decide +kernel
theorem dX6_lays_192 : decode cX6_lays 192 = .ok (.iload_n 3, 1) := by decide +kernel
theorem dX6_lays_193 : decode cX6_lays 193 = .ok (.iaload, 1) := by decide +kernel
theorem dX6_lays_194 : decode cX6_lays 194 = .ok (.aload_n 0, 1) := by decide +kernel
theorem dX6_lays_195 : decode cX6_lays 195 = .ok (.getfield 40, 3) := by decide +kernel
theorem dX6_lays_198 : decode cX6_lays 198 = .ok (.iload_n 3, 1) := by decide +kernel
theorem dX6_lays_199 : decode cX6_lays 199 = .ok (.iaload, 1) := by decide +kernel
theorem dX6_lays_200 : decode cX6_lays 200 = .ok (.iload_n 2, 1) := by decide +kernel
theorem dX6_lays_201 : decode cX6_lays 201 = .ok (.isub, 1) := by decide +kernel
theorem dX6_lays_202 : decode cX6_lays 202 = .ok (.iconst 0, 1) := by decide +kernel
theorem dX6_lays_203 : decode cX6_lays 203 = .ok (.iload_n 3, 1) := by decide +kernel
theorem dX6_lays_204 : decode cX6_lays 204 = .ok (.invokevirtual 121, 3) := by decide +kernel
theorem dX6_lays_207 : decode cX6_lays 207 = .ok (.goto 4, 3) := by decide +kernel
theorem dX6_lays_210 : decode cX6_lays 210 = .ok (.iconst 0, 1) := by decide +kernel
theorem dX6_lays_211 : decode cX6_lays 211 = .ok (.istore 7, 2) := by decide +kernel
theorem dX6_lays_213 : decode cX6_lays 213 = .ok (.iload 6, 2) := by decide +kernel
theorem dX6_lays_215 : decode cX6_lays 215 = .ok (.ireturn, 1) := by decide +kernel
theorem dX6_allFree_0 : decode cX6_allFree 0 = .ok (.iconst 1, 1) := by decide +kernel
theorem dX6_allFree_1 : decode cX6_allFree 1 = .ok (.istore_n 2, 1) := by decide +kernel
theorem dX6_allFree_2 : decode cX6_allFree 2 = .ok (.iconst 0, 1) := by decide +kernel
theorem dX6_allFree_3 : decode cX6_allFree 3 = .ok (.istore_n 3, 1) := by decide +kernel
theorem dX6_allFree_4 : decode cX6_allFree 4 = .ok (.iload_n 3, 1) := by decide +kernel
theorem dX6_allFree_5 : decode cX6_allFree 5 = .ok (.aload_n 0, 1) := by decide +kernel
theorem dX6_allFree_6 : decode cX6_allFree 6 = .ok (.getfield 115, 3) := by decide +kernel
theorem dX6_allFree_9 : decode cX6_allFree 9 = .ok (.if_icmp .ge 46, 3) := by decide +kernel
theorem dX6_allFree_12 : decode cX6_allFree 12 = .ok (.iload_n 2, 1) := by decide +kernel
theorem dX6_allFree_13 : decode cX6_allFree 13 = .ok (.aload_n 0, 1) := by decide +kernel
theorem dX6_allFree_14 : decode cX6_allFree 14 = .ok (.getfield 46, 3) := by decide +kernel
theorem dX6_allFree_17 : decode cX6_allFree 17 = .ok (.iload_n 3, 1) := by decide +kernel
theorem dX6_allFree_18 : decode cX6_allFree 18 = .ok (.iaload, 1) := by decide +kernel
theorem dX6_allFree_19 : decode cX6_allFree 19 = .ok (.iload_n 1, 1) := by decide +kernel
theorem dX6_allFree_20 : decode cX6_allFree 20 = .ok (.if_icmp .ne 22, 3) := by decide +kernel
theorem dX6_allFree_23 : decode cX6_allFree 23 = .ok (.aload_n 0, 1) := by decide +kernel
theorem dX6_allFree_24 : decode cX6_allFree 24 = .ok (.getfield 43, 3) := by decide +kernel
theorem dX6_allFree_27 : decode cX6_allFree 27 = .ok (.iload_n 3, 1) := by decide +kernel
theorem dX6_allFree_28 : decode cX6_allFree 28 = .ok (.iaload, 1) := by decide +kernel
theorem dX6_allFree_29 : decode cX6_allFree 29 = .ok (.ifCond .eq 13, 3) := by decide +kernel
theorem dX6_allFree_32 : decode cX6_allFree 32 = .ok (.aload_n 0, 1) := by decide +kernel
theorem dX6_allFree_33 : decode cX6_allFree 33 = .ok (.getfield 43, 3) := by decide +kernel
theorem dX6_allFree_36 : decode cX6_allFree 36 = .ok (.iload_n 3, 1) := by decide +kernel
theorem dX6_allFree_37 : decode cX6_allFree 37 = .ok (.iaload, 1) := by decide +kernel
theorem dX6_allFree_38 : decode cX6_allFree 38 = .ok (.iconst 3, 1) := by decide +kernel
theorem dX6_allFree_39 : decode cX6_allFree 39 = .ok (.if_icmp .ne 7, 3) := by decide +kernel
theorem dX6_allFree_42 : decode cX6_allFree 42 = .ok (.iconst 1, 1) := by decide +kernel
theorem dX6_allFree_43 : decode cX6_allFree 43 = .ok (.goto 4, 3) := by decide +kernel
theorem dX6_allFree_46 : decode cX6_allFree 46 = .ok (.iconst 0, 1) := by decide +kernel
theorem dX6_allFree_47 : decode cX6_allFree 47 = .ok (.iand, 1) := by decide +kernel
theorem dX6_allFree_48 : decode cX6_allFree 48 = .ok (.istore_n 2, 1) := by decide +kernel
theorem dX6_allFree_49 : decode cX6_allFree 49 = .ok (.iinc 3 1, 3) := by decide +kernel
theorem dX6_allFree_52 : decode cX6_allFree 52 = .ok (.goto (-48), 3) := by decide +kernel
theorem dX6_allFree_55 : decode cX6_allFree 55 = .ok (.iload_n 2, 1) := by decide +kernel
theorem dX6_allFree_56 : decode cX6_allFree 56 = .ok (.ireturn, 1) := by decide +kernel
theorem dX6_frees_0 : decode cX6_frees 0 = .ok (.aload_n 0, 1) := by decide +kernel
theorem dX6_frees_1 : decode cX6_frees 1 = .ok (.getfield 43, 3) := by decide +kernel
theorem dX6_frees_4 : decode cX6_frees 4 = .ok (.iload_n 1, 1) := by decide +kernel
theorem dX6_frees_5 : decode cX6_frees 5 = .ok (.iconst 0, 1) := by decide +kernel
theorem dX6_frees_6 : decode cX6_frees 6 = .ok (.iastore, 1) := by decide +kernel
theorem dX6_frees_7 : decode cX6_frees 7 = .ok (.aload_n 0, 1) := by decide +kernel
theorem dX6_frees_8 : decode cX6_frees 8 = .ok (.getfield 46, 3) := by decide +kernel
theorem dX6_frees_11 : decode cX6_frees 11 = .ok (.iload_n 1, 1) := by decide +kernel
theorem dX6_frees_12 : decode cX6_frees 12 = .ok (.iaload, 1) := by decide +kernel
theorem dX6_frees_13 : decode cX6_frees 13 = .ok (.istore_n 2, 1) := by decide +kernel
theorem dX6_frees_14 : decode cX6_frees 14 = .ok (.iload_n 2, 1) := by decide +kernel
theorem dX6_frees_15 : decode cX6_frees 15 = .ok (.ifCond .lt 70, 3) := by decide +kernel
theorem dX6_frees_18 : decode cX6_frees 18 = .ok (.aload_n 0, 1) := by decide +kernel
theorem dX6_frees_19 : decode cX6_frees 19 = .ok (.iload_n 2, 1) := by decide +kernel
theorem dX6_frees_20 : decode cX6_frees 20 = .ok (.invokevirtual 129, 3) := by decide +kernel
theorem dX6_frees_23 : decode cX6_frees 23 = .ok (.ifCond .eq 62, 3) := by decide +kernel
theorem dX6_frees_26 : decode cX6_frees 26 = .ok (.iconst 0, 1) := by decide +kernel
theorem dX6_frees_27 : decode cX6_frees 27 = .ok (.istore_n 3, 1) := by decide +kernel
theorem dX6_frees_28 : decode cX6_frees 28 = .ok (.iload_n 3, 1) := by decide +kernel
theorem dX6_frees_29 : decode cX6_frees 29 = .ok (.aload_n 0, 1) := by decide +kernel
theorem dX6_frees_30 : decode cX6_frees 30 = .ok (.getfield 115, 3) := by decide +kernel
theorem dX6_frees_33 : decode cX6_frees 33 = .ok (.if_icmp .ge 35, 3) := by decide +kernel
theorem dX6_frees_36 : decode cX6_frees 36 = .ok (.aload_n 0, 1) := by decide +kernel
theorem dX6_frees_37 : decode cX6_frees 37 = .ok (.getfield 43, 3) := by decide +kernel
theorem dX6_frees_40 : decode cX6_frees 40 = .ok (.iload_n 3, 1) := by decide +kernel
theorem dX6_frees_41 : decode cX6_frees 41 = .ok (.aload_n 0, 1) := by decide +kernel
theorem dX6_frees_42 : decode cX6_frees 42 = .ok (.getfield 46, 3) := by decide +kernel
theorem dX6_frees_45 : decode cX6_frees 45 = .ok (.iload_n 3, 1) := by decide +kernel
theorem dX6_frees_46 : decode cX6_frees 46 = .ok (.iaload, 1) := by decide +kernel
theorem dX6_frees_47 : decode cX6_frees 47 = .ok (.iload_n 2, 1) := by decide +kernel
theorem dX6_frees_48 : decode cX6_frees 48 = .ok (.if_icmp .ne 7, 3) := by decide +kernel
theorem dX6_frees_51 : decode cX6_frees 51 = .ok (.iconst 3, 1) := by decide +kernel
theorem dX6_frees_52 : decode cX6_frees 52 = .ok (.goto 9, 3) := by decide +kernel
theorem dX6_frees_55 : decode cX6_frees 55 = .ok (.aload_n 0, 1) := by decide +kernel
theorem dX6_frees_56 : decode cX6_frees 56 = .ok (.getfield 43, 3) := by decide +kernel
theorem dX6_frees_59 : decode cX6_frees 59 = .ok (.iload_n 3, 1) := by decide +kernel
theorem dX6_frees_60 : decode cX6_frees 60 = .ok (.iaload, 1) := by decide +kernel
theorem dX6_frees_61 : decode cX6_frees 61 = .ok (.iastore, 1) := by decide +kernel
theorem dX6_frees_62 : decode cX6_frees 62 = .ok (.iinc 3 1, 3) := by decide +kernel
theorem dX6_frees_65 : decode cX6_frees 65 = .ok (.goto (-37), 3) := by decide +kernel
theorem dX6_frees_68 : decode cX6_frees 68 = .ok (.aload_n 0, 1) := by decide +kernel
theorem dX6_frees_69 : decode cX6_frees 69 = .ok (.getfield 43, 3) := by decide +kernel
theorem dX6_frees_72 : decode cX6_frees 72 = .ok (.iload_n 2, 1) := by decide +kernel
theorem dX6_frees_73 : decode cX6_frees 73 = .ok (.iconst 0, 1) := by decide +kernel
theorem dX6_frees_74 : decode cX6_frees 74 = .ok (.iastore, 1) := by decide +kernel
theorem dX6_frees_75 : decode cX6_frees 75 = .ok (.aload_n 0, 1) := by decide +kernel
theorem dX6_frees_76 : decode cX6_frees 76 = .ok (.getfield 46, 3) := by decide +kernel
theorem dX6_frees_79 : decode cX6_frees 79 = .ok (.iload_n 2, 1) := by decide +kernel
theorem dX6_frees_80 : decode cX6_frees 80 = .ok (.iaload, 1) := by decide +kernel
theorem dX6_frees_81 : decode cX6_frees 81 = .ok (.istore_n 2, 1) := by decide +kernel
theorem dX6_frees_82 : decode cX6_frees 82 = .ok (.goto (-68), 3) := by decide +kernel
theorem dX6_frees_85 : decode cX6_frees 85 = .ok (.return_, 1) := by decide +kernel
theorem dX6_isJob_0 : decode cX6_isJob 0 = .ok (.aload_n 0, 1) := by decide +kernel
theorem dX6_isJob_1 : decode cX6_isJob 1 = .ok (.iload_n 1, 1) := by decide +kernel
theorem dX6_isJob_2 : decode cX6_isJob 2 = .ok (.iconst 0, 1) := by decide +kernel
theorem dX6_isJob_3 : decode cX6_isJob 3 = .ok (.aload_n 0, 1) := by decide +kernel
theorem dX6_isJob_4 : decode cX6_isJob 4 = .ok (.getfield 132, 3) := by decide +kernel
theorem dX6_isJob_7 : decode cX6_isJob 7 = .ok (.iconst 1, 1) := by decide +kernel
theorem dX6_isJob_8 : decode cX6_isJob 8 = .ok (.isub, 1) := by decide +kernel
theorem dX6_isJob_9 : decode cX6_isJob 9 = .ok (.invokevirtual 74, 3) := by decide +kernel
theorem dX6_isJob_12 : decode cX6_isJob 12 = .ok (.ireturn, 1) := by decide +kernel
theorem dX6_takesOff_0 : decode cX6_takesOff 0 = .ok (.iload_n 2, 1) := by decide +kernel
theorem dX6_takesOff_1 : decode cX6_takesOff 1 = .ok (.iconst 1, 1) := by decide +kernel
theorem dX6_takesOff_2 : decode cX6_takesOff 2 = .ok (.isub, 1) := by decide +kernel
theorem dX6_takesOff_3 : decode cX6_takesOff 3 = .ok (.istore_n 3, 1) := by decide +kernel
theorem dX6_takesOff_4 : decode cX6_takesOff 4 = .ok (.iload_n 3, 1) := by decide +kernel
theorem dX6_takesOff_5 : decode cX6_takesOff 5 = .ok (.ifCond .lt 24, 3) := by decide +kernel
theorem dX6_takesOff_8 : decode cX6_takesOff 8 = .ok (.aload_n 0, 1) := by decide +kernel
theorem dX6_takesOff_9 : decode cX6_takesOff 9 = .ok (.aload_n 0, 1) := by decide +kernel
theorem dX6_takesOff_10 : decode cX6_takesOff 10 = .ok (.getfield 61, 3) := by decide +kernel
theorem dX6_takesOff_13 : decode cX6_takesOff 13 = .ok (.bipush 6, 2) := by decide +kernel
theorem dX6_takesOff_15 : decode cX6_takesOff 15 = .ok (.iload_n 1, 1) := by decide +kernel
theorem dX6_takesOff_16 : decode cX6_takesOff 16 = .ok (.imul, 1) := by decide +kernel
theorem dX6_takesOff_17 : decode cX6_takesOff 17 = .ok (.iload_n 3, 1) := by decide +kernel
theorem dX6_takesOff_18 : decode cX6_takesOff 18 = .ok (.iadd, 1) := by decide +kernel
theorem dX6_takesOff_19 : decode cX6_takesOff 19 = .ok (.iaload, 1) := by decide +kernel
theorem dX6_takesOff_20 : decode cX6_takesOff 20 = .ok (.invokevirtual 135, 3) := by decide +kernel
theorem dX6_takesOff_23 : decode cX6_takesOff 23 = .ok (.iinc 3 (-1), 3) := by decide +kernel
theorem dX6_takesOff_26 : decode cX6_takesOff 26 = .ok (.goto (-22), 3) := by decide +kernel
theorem dX6_takesOff_29 : decode cX6_takesOff 29 = .ok (.aload_n 0, 1) := by decide +kernel
theorem dX6_takesOff_30 : decode cX6_takesOff 30 = .ok (.getfield 55, 3) := by decide +kernel
theorem dX6_takesOff_33 : decode cX6_takesOff 33 = .ok (.iload_n 1, 1) := by decide +kernel
theorem dX6_takesOff_34 : decode cX6_takesOff 34 = .ok (.iconst 0, 1) := by decide +kernel
theorem dX6_takesOff_35 : decode cX6_takesOff 35 = .ok (.iastore, 1) := by decide +kernel
theorem dX6_takesOff_36 : decode cX6_takesOff 36 = .ok (.return_, 1) := by decide +kernel
theorem dX6_nests_0 : decode cX6_nests 0 = .ok (.aload_n 0, 1) := by decide +kernel
theorem dX6_nests_1 : decode cX6_nests 1 = .ok (.getfield 115, 3) := by decide +kernel
theorem dX6_nests_4 : decode cX6_nests 4 = .ok (.istore_n 2, 1) := by decide +kernel
theorem dX6_nests_5 : decode cX6_nests 5 = .ok (.aload_n 0, 1) := by decide +kernel
theorem dX6_nests_6 : decode cX6_nests 6 = .ok (.aload_n 0, 1) := by decide +kernel
theorem dX6_nests_7 : decode cX6_nests 7 = .ok (.getfield 49, 3) := by decide +kernel
theorem dX6_nests_10 : decode cX6_nests 10 = .ok (.iload_n 1, 1) := by decide +kernel
theorem dX6_nests_11 : decode cX6_nests 11 = .ok (.iaload, 1) := by decide +kernel
theorem dX6_nests_12 : decode cX6_nests 12 = .ok (.iconst 1, 1) := by decide +kernel
theorem dX6_nests_13 : decode cX6_nests 13 = .ok (.invokevirtual 100, 3) := by decide +kernel
theorem dX6_nests_16 : decode cX6_nests 16 = .ok (.iconst 1, 1) := by decide +kernel
theorem dX6_nests_17 : decode cX6_nests 17 = .ok (.iadd, 1) := by decide +kernel
theorem dX6_nests_18 : decode cX6_nests 18 = .ok (.istore_n 3, 1) := by decide +kernel
theorem dX6_nests_19 : decode cX6_nests 19 = .ok (.aload_n 0, 1) := by decide +kernel
theorem dX6_nests_20 : decode cX6_nests 20 = .ok (.aload_n 0, 1) := by decide +kernel
theorem dX6_nests_21 : decode cX6_nests 21 = .ok (.getfield 49, 3) := by decide +kernel
theorem dX6_nests_24 : decode cX6_nests 24 = .ok (.iload_n 1, 1) := by decide +kernel
theorem dX6_nests_25 : decode cX6_nests 25 = .ok (.iaload, 1) := by decide +kernel
theorem dX6_nests_26 : decode cX6_nests 26 = .ok (.iconst 0, 1) := by decide +kernel
theorem dX6_nests_27 : decode cX6_nests 27 = .ok (.invokevirtual 100, 3) := by decide +kernel
theorem dX6_nests_30 : decode cX6_nests 30 = .ok (.iconst 1, 1) := by decide +kernel
theorem dX6_nests_31 : decode cX6_nests 31 = .ok (.iadd, 1) := by decide +kernel
theorem dX6_nests_32 : decode cX6_nests 32 = .ok (.istore 4, 2) := by decide +kernel
theorem dX6_nests_34 : decode cX6_nests 34 = .ok (.iconst 0, 1) := by decide +kernel
theorem dX6_nests_35 : decode cX6_nests 35 = .ok (.istore 5, 2) := by decide +kernel
theorem dX6_nests_37 : decode cX6_nests 37 = .ok (.iconst 1, 1) := by decide +kernel
theorem dX6_nests_38 : decode cX6_nests 38 = .ok (.istore 6, 2) := by decide +kernel
theorem dX6_nests_40 : decode cX6_nests 40 = .ok (.iload 6, 2) := by decide +kernel
theorem dX6_nests_42 : decode cX6_nests 42 = .ok (.ifCond .eq 67, 3) := by decide +kernel
theorem dX6_nests_45 : decode cX6_nests 45 = .ok (.iload 5, 2) := by decide +kernel
theorem dX6_nests_47 : decode cX6_nests 47 = .ok (.aload_n 0, 1) := by decide +kernel
theorem dX6_nests_48 : decode cX6_nests 48 = .ok (.getfield 52, 3) := by decide +kernel
theorem dX6_nests_51 : decode cX6_nests 51 = .ok (.iload_n 1, 1) := by decide +kernel
theorem dX6_nests_52 : decode cX6_nests 52 = .ok (.iaload, 1) := by decide +kernel
theorem dX6_nests_53 : decode cX6_nests 53 = .ok (.if_icmp .ge 56, 3) := by decide +kernel
theorem dX6_nests_56 : decode cX6_nests 56 = .ok (.aload_n 0, 1) := by decide +kernel
theorem dX6_nests_57 : decode cX6_nests 57 = .ok (.iload_n 3, 1) := by decide +kernel
theorem dX6_nests_58 : decode cX6_nests 58 = .ok (.iload 4, 2) := by decide +kernel
theorem dX6_nests_60 : decode cX6_nests 60 = .ok (.invokevirtual 138, 3) := by decide +kernel
theorem dX6_nests_63 : decode cX6_nests 63 = .ok (.istore 7, 2) := by decide +kernel
theorem dX6_nests_65 : decode cX6_nests 65 = .ok (.iload 7, 2) := by decide +kernel
theorem dX6_nests_67 : decode cX6_nests 67 = .ok (.ifCond .lt 7, 3) := by decide +kernel
theorem dX6_nests_70 : decode cX6_nests 70 = .ok (.iconst 1, 1) := by decide +kernel
theorem dX6_nests_71 : decode cX6_nests 71 = .ok (.goto 4, 3) := by decide +kernel
theorem dX6_nests_74 : decode cX6_nests 74 = .ok (.iconst 0, 1) := by decide +kernel
theorem dX6_nests_75 : decode cX6_nests 75 = .ok (.istore 6, 2) := by decide +kernel
theorem dX6_nests_77 : decode cX6_nests 77 = .ok (.aload_n 0, 1) := by decide +kernel
theorem dX6_nests_78 : decode cX6_nests 78 = .ok (.getfield 61, 3) := by decide +kernel
theorem dX6_nests_81 : decode cX6_nests 81 = .ok (.bipush 6, 2) := by decide +kernel
theorem dX6_nests_83 : decode cX6_nests 83 = .ok (.iload_n 1, 1) := by decide +kernel
theorem dX6_nests_84 : decode cX6_nests 84 = .ok (.imul, 1) := by decide +kernel
theorem dX6_nests_85 : decode cX6_nests 85 = .ok (.iload 5, 2) := by decide +kernel
theorem dX6_nests_87 : decode cX6_nests 87 = .ok (.iadd, 1) := by decide +kernel
theorem dX6_nests_88 : decode cX6_nests 88 = .ok (.iload 7, 2) := by decide +kernel
theorem dX6_nests_90 : decode cX6_nests 90 = .ok (.iastore, 1) := by decide +kernel
theorem dX6_nests_91 : decode cX6_nests 91 = .ok (.iload 5, 2) := by decide +kernel
theorem dX6_nests_93 : decode cX6_nests 93 = .ok (.iload 6, 2) := by decide +kernel
theorem dX6_nests_95 : decode cX6_nests 95 = .ok (.ifCond .eq 7, 3) := by decide +kernel
theorem dX6_nests_98 : decode cX6_nests 98 = .ok (.iconst 1, 1) := by decide +kernel
theorem dX6_nests_99 : decode cX6_nests 99 = .ok (.goto 4, 3) := by decide +kernel
theorem dX6_nests_102 : decode cX6_nests 102 = .ok (.iconst 0, 1) := by decide +kernel
theorem dX6_nests_103 : decode cX6_nests 103 = .ok (.iadd, 1) := by decide +kernel
theorem dX6_nests_104 : decode cX6_nests 104 = .ok (.istore 5, 2) := by decide +kernel
theorem dX6_nests_106 : decode cX6_nests 106 = .ok (.goto (-66), 3) := by decide +kernel
theorem dX6_nests_109 : decode cX6_nests 109 = .ok (.iload 6, 2) := by decide +kernel
theorem dX6_nests_111 : decode cX6_nests 111 = .ok (.ifCond .eq 30, 3) := by decide +kernel
theorem dX6_nests_114 : decode cX6_nests 114 = .ok (.aload_n 0, 1) := by decide +kernel
theorem dX6_nests_115 : decode cX6_nests 115 = .ok (.getfield 55, 3) := by decide +kernel
theorem dX6_nests_118 : decode cX6_nests 118 = .ok (.iload_n 1, 1) := by decide +kernel
theorem dX6_nests_119 : decode cX6_nests 119 = .ok (.iconst 1, 1) := by decide +kernel
theorem dX6_nests_120 : decode cX6_nests 120 = .ok (.iastore, 1) := by decide +kernel
theorem dX6_nests_121 : decode cX6_nests 121 = .ok (.aload_n 0, 1) := by decide +kernel
theorem dX6_nests_122 : decode cX6_nests 122 = .ok (.getfield 58, 3) := by decide +kernel
theorem dX6_nests_125 : decode cX6_nests 125 = .ok (.iload_n 1, 1) := by decide +kernel
theorem dX6_nests_126 : decode cX6_nests 126 = .ok (.aload_n 0, 1) := by decide +kernel
theorem dX6_nests_127 : decode cX6_nests 127 = .ok (.getfield 16, 3) := by decide +kernel
theorem dX6_nests_130 : decode cX6_nests 130 = .ok (.aload_n 0, 1) := by decide +kernel
theorem dX6_nests_131 : decode cX6_nests 131 = .ok (.getfield 49, 3) := by decide +kernel
theorem dX6_nests_134 : decode cX6_nests 134 = .ok (.iload_n 1, 1) := by decide +kernel
theorem dX6_nests_135 : decode cX6_nests 135 = .ok (.iaload, 1) := by decide +kernel
theorem dX6_nests_136 : decode cX6_nests 136 = .ok (.iaload, 1) := by decide +kernel
theorem dX6_nests_137 : decode cX6_nests 137 = .ok (.iastore, 1) := by decide +kernel
theorem dX6_nests_138 : decode cX6_nests 138 = .ok (.goto 15, 3) := by decide +kernel
theorem dX6_nests_141 : decode cX6_nests 141 = .ok (.aload_n 0, 1) := by decide +kernel
theorem dX6_nests_142 : decode cX6_nests 142 = .ok (.iload_n 1, 1) := by decide +kernel
theorem dX6_nests_143 : decode cX6_nests 143 = .ok (.iload 5, 2) := by decide +kernel
theorem dX6_nests_145 : decode cX6_nests 145 = .ok (.invokevirtual 141, 3) := by decide +kernel
theorem dX6_nests_148 : decode cX6_nests 148 = .ok (.aload_n 0, 1) := by decide +kernel
theorem dX6_nests_149 : decode cX6_nests 149 = .ok (.iload_n 2, 1) := by decide +kernel
theorem dX6_nests_150 : decode cX6_nests 150 = .ok (.putfield 115, 3) := by decide +kernel
theorem dX6_nests_153 : decode cX6_nests 153 = .ok (.return_, 1) := by decide +kernel
theorem dX6_tries_0 : decode cX6_tries 0 = .ok (.iconst 0, 1) := by decide +kernel
theorem dX6_tries_1 : decode cX6_tries 1 = .ok (.istore_n 1, 1) := by decide +kernel
theorem dX6_tries_2 : decode cX6_tries 2 = .ok (.iload_n 1, 1) := by decide +kernel
theorem dX6_tries_3 : decode cX6_tries 3 = .ok (.aload_n 0, 1) := by decide +kernel
theorem dX6_tries_4 : decode cX6_tries 4 = .ok (.getfield 132, 3) := by decide +kernel
theorem dX6_tries_7 : decode cX6_tries 7 = .ok (.if_icmp .ge 38, 3) := by decide +kernel
theorem dX6_tries_10 : decode cX6_tries 10 = .ok (.aload_n 0, 1) := by decide +kernel
theorem dX6_tries_11 : decode cX6_tries 11 = .ok (.getfield 55, 3) := by decide +kernel
theorem dX6_tries_14 : decode cX6_tries 14 = .ok (.iload_n 1, 1) := by decide +kernel
theorem dX6_tries_15 : decode cX6_tries 15 = .ok (.iaload, 1) := by decide +kernel
theorem dX6_tries_16 : decode cX6_tries 16 = .ok (.ifCond .ne 23, 3) := by decide +kernel
theorem dX6_tries_19 : decode cX6_tries 19 = .ok (.aload_n 0, 1) := by decide +kernel
theorem dX6_tries_20 : decode cX6_tries 20 = .ok (.getfield 7, 3) := by decide +kernel
theorem dX6_tries_23 : decode cX6_tries 23 = .ok (.aload_n 0, 1) := by decide +kernel
theorem dX6_tries_24 : decode cX6_tries 24 = .ok (.getfield 49, 3) := by decide +kernel
theorem dX6_tries_27 : decode cX6_tries 27 = .ok (.iload_n 1, 1) := by decide +kernel
theorem dX6_tries_28 : decode cX6_tries 28 = .ok (.iaload, 1) := by decide +kernel
theorem dX6_tries_29 : decode cX6_tries 29 = .ok (.iaload, 1) := by decide +kernel
theorem dX6_tries_30 : decode cX6_tries 30 = .ok (.iconst 1, 1) := by decide +kernel
theorem dX6_tries_31 : decode cX6_tries 31 = .ok (.if_icmp .ne 8, 3) := by decide +kernel
theorem dX6_tries_34 : decode cX6_tries 34 = .ok (.aload_n 0, 1) := by decide +kernel
theorem dX6_tries_35 : decode cX6_tries 35 = .ok (.iload_n 1, 1) := by decide +kernel
theorem dX6_tries_36 : decode cX6_tries 36 = .ok (.invokevirtual 145, 3) := by decide +kernel
theorem dX6_tries_39 : decode cX6_tries 39 = .ok (.iinc 1 1, 3) := by decide +kernel
theorem dX6_tries_42 : decode cX6_tries 42 = .ok (.goto (-40), 3) := by decide +kernel
theorem dX6_tries_45 : decode cX6_tries 45 = .ok (.return_, 1) := by decide +kernel
theorem dX6_job_0 : decode cX6_job 0 = .ok (.aload_n 0, 1) := by decide +kernel
theorem dX6_job_1 : decode cX6_job 1 = .ok (.iload_n 1, 1) := by decide +kernel
theorem dX6_job_2 : decode cX6_job 2 = .ok (.invokevirtual 82, 3) := by decide +kernel
theorem dX6_job_5 : decode cX6_job 5 = .ok (.istore_n 3, 1) := by decide +kernel
theorem dX6_job_6 : decode cX6_job 6 = .ok (.aload_n 0, 1) := by decide +kernel
theorem dX6_job_7 : decode cX6_job 7 = .ok (.iload_n 3, 1) := by decide +kernel
theorem dX6_job_8 : decode cX6_job 8 = .ok (.ifCond .ne 7, 3) := by decide +kernel
theorem dX6_job_11 : decode cX6_job 11 = .ok (.iconst 1, 1) := by decide +kernel
theorem dX6_job_12 : decode cX6_job 12 = .ok (.goto 41, 3) := by decide +kernel
theorem dX6_job_15 : decode cX6_job 15 = .ok (.aload_n 0, 1) := by decide +kernel
theorem dX6_job_16 : decode cX6_job 16 = .ok (.iload_n 2, 1) := by decide +kernel
theorem dX6_job_17 : decode cX6_job 17 = .ok (.iconst 1, 1) := by decide +kernel
theorem dX6_job_18 : decode cX6_job 18 = .ok (.bipush 6, 2) := by decide +kernel
theorem dX6_job_20 : decode cX6_job 20 = .ok (.invokevirtual 74, 3) := by decide +kernel
theorem dX6_job_23 : decode cX6_job 23 = .ok (.ifCond .ne 7, 3) := by decide +kernel
theorem dX6_job_26 : decode cX6_job 26 = .ok (.iconst 2, 1) := by decide +kernel
theorem dX6_job_27 : decode cX6_job 27 = .ok (.goto 26, 3) := by decide +kernel
theorem dX6_job_30 : decode cX6_job 30 = .ok (.aload_n 0, 1) := by decide +kernel
theorem dX6_job_31 : decode cX6_job 31 = .ok (.getfield 7, 3) := by decide +kernel
theorem dX6_job_34 : decode cX6_job 34 = .ok (.iload_n 1, 1) := by decide +kernel
theorem dX6_job_35 : decode cX6_job 35 = .ok (.iaload, 1) := by decide +kernel
theorem dX6_job_36 : decode cX6_job 36 = .ok (.ifCond .eq 12, 3) := by decide +kernel
theorem dX6_job_39 : decode cX6_job 39 = .ok (.aload_n 0, 1) := by decide +kernel
theorem dX6_job_40 : decode cX6_job 40 = .ok (.getfield 132, 3) := by decide +kernel
theorem dX6_job_43 : decode cX6_job 43 = .ok (.bipush 30, 2) := by decide +kernel
theorem dX6_job_45 : decode cX6_job 45 = .ok (.if_icmp .ne 7, 3) := by decide +kernel
theorem dX6_job_48 : decode cX6_job 48 = .ok (.iconst 3, 1) := by decide +kernel
theorem dX6_job_49 : decode cX6_job 49 = .ok (.goto 4, 3) := by decide +kernel
theorem dX6_job_52 : decode cX6_job 52 = .ok (.iconst 0, 1) := by decide +kernel
theorem dX6_job_53 : decode cX6_job 53 = .ok (.invokevirtual 78, 3) := by decide +kernel
theorem dX6_job_56 : decode cX6_job 56 = .ok (.ifCond .eq 5, 3) := by decide +kernel
theorem dX6_job_59 : decode cX6_job 59 = .ok (.iconst (-1), 1) := by decide +kernel
theorem dX6_job_60 : decode cX6_job 60 = .ok (.ireturn, 1) := by decide +kernel
theorem dX6_job_61 : decode cX6_job 61 = .ok (.aload_n 0, 1) := by decide +kernel
theorem dX6_job_62 : decode cX6_job 62 = .ok (.getfield 49, 3) := by decide +kernel
theorem dX6_job_65 : decode cX6_job 65 = .ok (.aload_n 0, 1) := by decide +kernel
theorem dX6_job_66 : decode cX6_job 66 = .ok (.getfield 132, 3) := by decide +kernel
theorem dX6_job_69 : decode cX6_job 69 = .ok (.iload_n 1, 1) := by decide +kernel
theorem dX6_job_70 : decode cX6_job 70 = .ok (.iastore, 1) := by decide +kernel
theorem dX6_job_71 : decode cX6_job 71 = .ok (.aload_n 0, 1) := by decide +kernel
theorem dX6_job_72 : decode cX6_job 72 = .ok (.getfield 52, 3) := by decide +kernel
theorem dX6_job_75 : decode cX6_job 75 = .ok (.aload_n 0, 1) := by decide +kernel
theorem dX6_job_76 : decode cX6_job 76 = .ok (.getfield 132, 3) := by decide +kernel
theorem dX6_job_79 : decode cX6_job 79 = .ok (.iload_n 2, 1) := by decide +kernel
theorem dX6_job_80 : decode cX6_job 80 = .ok (.iastore, 1) := by decide +kernel
theorem dX6_job_81 : decode cX6_job 81 = .ok (.aload_n 0, 1) := by decide +kernel
theorem dX6_job_82 : decode cX6_job 82 = .ok (.dup, 1) := by decide +kernel
theorem dX6_job_83 : decode cX6_job 83 = .ok (.getfield 132, 3) := by decide +kernel
theorem dX6_job_86 : decode cX6_job 86 = .ok (.iconst 1, 1) := by decide +kernel
theorem dX6_job_87 : decode cX6_job 87 = .ok (.iadd, 1) := by decide +kernel
theorem dX6_job_88 : decode cX6_job 88 = .ok (.putfield 132, 3) := by decide +kernel
theorem dX6_job_91 : decode cX6_job 91 = .ok (.aload_n 0, 1) := by decide +kernel
theorem dX6_job_92 : decode cX6_job 92 = .ok (.aload_n 0, 1) := by decide +kernel
theorem dX6_job_93 : decode cX6_job 93 = .ok (.getfield 132, 3) := by decide +kernel
theorem dX6_job_96 : decode cX6_job 96 = .ok (.iconst 1, 1) := by decide +kernel
theorem dX6_job_97 : decode cX6_job 97 = .ok (.isub, 1) := by decide +kernel
theorem dX6_job_98 : decode cX6_job 98 = .ok (.invokevirtual 145, 3) := by decide +kernel
theorem dX6_job_101 : decode cX6_job 101 = .ok (.aload_n 0, 1) := by decide +kernel
theorem dX6_job_102 : decode cX6_job 102 = .ok (.getfield 132, 3) := by decide +kernel
theorem dX6_job_105 : decode cX6_job 105 = .ok (.iconst 1, 1) := by decide +kernel
theorem dX6_job_106 : decode cX6_job 106 = .ok (.isub, 1) := by decide +kernel
theorem dX6_job_107 : decode cX6_job 107 = .ok (.ireturn, 1) := by decide +kernel
theorem dX6_cancel_0 : decode cX6_cancel 0 = .ok (.aload_n 0, 1) := by decide +kernel
theorem dX6_cancel_1 : decode cX6_cancel 1 = .ok (.aload_n 0, 1) := by decide +kernel
theorem dX6_cancel_2 : decode cX6_cancel 2 = .ok (.iload_n 1, 1) := by decide +kernel
theorem dX6_cancel_3 : decode cX6_cancel 3 = .ok (.invokevirtual 148, 3) := by decide +kernel
theorem dX6_cancel_6 : decode cX6_cancel 6 = .ok (.ifCond .ne 7, 3) := by decide +kernel
theorem dX6_cancel_9 : decode cX6_cancel 9 = .ok (.iconst 1, 1) := by decide +kernel
theorem dX6_cancel_10 : decode cX6_cancel 10 = .ok (.goto 18, 3) := by decide +kernel
theorem dX6_cancel_13 : decode cX6_cancel 13 = .ok (.aload_n 0, 1) := by decide +kernel
theorem dX6_cancel_14 : decode cX6_cancel 14 = .ok (.getfield 55, 3) := by decide +kernel
theorem dX6_cancel_17 : decode cX6_cancel 17 = .ok (.iload_n 1, 1) := by decide +kernel
theorem dX6_cancel_18 : decode cX6_cancel 18 = .ok (.iaload, 1) := by decide +kernel
theorem dX6_cancel_19 : decode cX6_cancel 19 = .ok (.iconst 1, 1) := by decide +kernel
theorem dX6_cancel_20 : decode cX6_cancel 20 = .ok (.if_icmp .le 7, 3) := by decide +kernel
theorem dX6_cancel_23 : decode cX6_cancel 23 = .ok (.iconst 2, 1) := by decide +kernel
theorem dX6_cancel_24 : decode cX6_cancel 24 = .ok (.goto 4, 3) := by decide +kernel
theorem dX6_cancel_27 : decode cX6_cancel 27 = .ok (.iconst 0, 1) := by decide +kernel
theorem dX6_cancel_28 : decode cX6_cancel 28 = .ok (.invokevirtual 78, 3) := by decide +kernel
theorem dX6_cancel_31 : decode cX6_cancel 31 = .ok (.ifCond .eq 5, 3) := by decide +kernel
theorem dX6_cancel_34 : decode cX6_cancel 34 = .ok (.iconst (-1), 1) := by decide +kernel
theorem dX6_cancel_35 : decode cX6_cancel 35 = .ok (.ireturn, 1) := by decide +kernel
theorem dX6_cancel_36 : decode cX6_cancel 36 = .ok (.aload_n 0, 1) := by decide +kernel
theorem dX6_cancel_37 : decode cX6_cancel 37 = .ok (.getfield 55, 3) := by decide +kernel
theorem dX6_cancel_40 : decode cX6_cancel 40 = .ok (.iload_n 1, 1) := by decide +kernel
theorem dX6_cancel_41 : decode cX6_cancel 41 = .ok (.iaload, 1) := by decide +kernel
theorem dX6_cancel_42 : decode cX6_cancel 42 = .ok (.istore_n 2, 1) := by decide +kernel
theorem dX6_cancel_43 : decode cX6_cancel 43 = .ok (.iload_n 2, 1) := by decide +kernel
theorem dX6_cancel_44 : decode cX6_cancel 44 = .ok (.iconst 1, 1) := by decide +kernel
theorem dX6_cancel_45 : decode cX6_cancel 45 = .ok (.if_icmp .ne 14, 3) := by decide +kernel
theorem dX6_cancel_48 : decode cX6_cancel 48 = .ok (.aload_n 0, 1) := by decide +kernel
theorem dX6_cancel_49 : decode cX6_cancel 49 = .ok (.iload_n 1, 1) := by decide +kernel
theorem dX6_cancel_50 : decode cX6_cancel 50 = .ok (.aload_n 0, 1) := by decide +kernel
theorem dX6_cancel_51 : decode cX6_cancel 51 = .ok (.getfield 52, 3) := by decide +kernel
theorem dX6_cancel_54 : decode cX6_cancel 54 = .ok (.iload_n 1, 1) := by decide +kernel
theorem dX6_cancel_55 : decode cX6_cancel 55 = .ok (.iaload, 1) := by decide +kernel
theorem dX6_cancel_56 : decode cX6_cancel 56 = .ok (.invokevirtual 141, 3) := by decide +kernel
theorem dX6_cancel_59 : decode cX6_cancel 59 = .ok (.aload_n 0, 1) := by decide +kernel
theorem dX6_cancel_60 : decode cX6_cancel 60 = .ok (.getfield 55, 3) := by decide +kernel
theorem dX6_cancel_63 : decode cX6_cancel 63 = .ok (.iload_n 1, 1) := by decide +kernel
theorem dX6_cancel_64 : decode cX6_cancel 64 = .ok (.iconst 3, 1) := by decide +kernel
theorem dX6_cancel_65 : decode cX6_cancel 65 = .ok (.iastore, 1) := by decide +kernel
theorem dX6_cancel_66 : decode cX6_cancel 66 = .ok (.aload_n 0, 1) := by decide +kernel
theorem dX6_cancel_67 : decode cX6_cancel 67 = .ok (.invokevirtual 97, 3) := by decide +kernel
theorem dX6_cancel_70 : decode cX6_cancel 70 = .ok (.iload_n 2, 1) := by decide +kernel
theorem dX6_cancel_71 : decode cX6_cancel 71 = .ok (.ireturn, 1) := by decide +kernel
theorem dX6_shares_0 : decode cX6_shares 0 = .ok (.iconst 0, 1) := by decide +kernel
theorem dX6_shares_1 : decode cX6_shares 1 = .ok (.istore_n 3, 1) := by decide +kernel
theorem dX6_shares_2 : decode cX6_shares 2 = .ok (.iconst 0, 1) := by decide +kernel
theorem dX6_shares_3 : decode cX6_shares 3 = .ok (.istore 4, 2) := by decide +kernel
theorem dX6_shares_5 : decode cX6_shares 5 = .ok (.iload 4, 2) := by decide +kernel
theorem dX6_shares_7 : decode cX6_shares 7 = .ok (.aload_n 0, 1) := by decide +kernel
theorem dX6_shares_8 : decode cX6_shares 8 = .ok (.getfield 52, 3) := by decide +kernel
theorem dX6_shares_11 : decode cX6_shares 11 = .ok (.iload_n 1, 1) := by decide +kernel
theorem dX6_shares_12 : decode cX6_shares 12 = .ok (.iaload, 1) := by decide +kernel
theorem dX6_shares_13 : decode cX6_shares 13 = .ok (.aload_n 0, 1) := by decide +kernel
theorem dX6_shares_14 : decode cX6_shares 14 = .ok (.getfield 52, 3) := by decide +kernel
theorem dX6_shares_17 : decode cX6_shares 17 = .ok (.iload_n 2, 1) := by decide +kernel
theorem dX6_shares_18 : decode cX6_shares 18 = .ok (.iaload, 1) := by decide +kernel
theorem dX6_shares_19 : decode cX6_shares 19 = .ok (.imul, 1) := by decide +kernel
theorem dX6_shares_20 : decode cX6_shares 20 = .ok (.if_icmp .ge 68, 3) := by decide +kernel
theorem dX6_shares_23 : decode cX6_shares 23 = .ok (.iload_n 3, 1) := by decide +kernel
theorem dX6_shares_24 : decode cX6_shares 24 = .ok (.aload_n 0, 1) := by decide +kernel
theorem dX6_shares_25 : decode cX6_shares 25 = .ok (.getfield 28, 3) := by decide +kernel
theorem dX6_shares_28 : decode cX6_shares 28 = .ok (.aload_n 0, 1) := by decide +kernel
theorem dX6_shares_29 : decode cX6_shares 29 = .ok (.getfield 61, 3) := by decide +kernel
theorem dX6_shares_32 : decode cX6_shares 32 = .ok (.bipush 6, 2) := by decide +kernel
theorem dX6_shares_34 : decode cX6_shares 34 = .ok (.iload_n 1, 1) := by decide +kernel
theorem dX6_shares_35 : decode cX6_shares 35 = .ok (.imul, 1) := by decide +kernel
theorem dX6_shares_36 : decode cX6_shares 36 = .ok (.iload 4, 2) := by decide +kernel
theorem dX6_shares_38 : decode cX6_shares 38 = .ok (.aload_n 0, 1) := by decide +kernel
theorem dX6_shares_39 : decode cX6_shares 39 = .ok (.getfield 52, 3) := by decide +kernel
theorem dX6_shares_42 : decode cX6_shares 42 = .ok (.iload_n 2, 1) := by decide +kernel
theorem dX6_shares_43 : decode cX6_shares 43 = .ok (.iaload, 1) := by decide +kernel
theorem dX6_shares_44 : decode cX6_shares 44 = .ok (.idiv, 1) := by decide +kernel
theorem dX6_shares_45 : decode cX6_shares 45 = .ok (.iadd, 1) := by decide +kernel
theorem dX6_shares_46 : decode cX6_shares 46 = .ok (.iaload, 1) := by decide +kernel
theorem dX6_shares_47 : decode cX6_shares 47 = .ok (.iaload, 1) := by decide +kernel
theorem dX6_shares_48 : decode cX6_shares 48 = .ok (.aload_n 0, 1) := by decide +kernel
theorem dX6_shares_49 : decode cX6_shares 49 = .ok (.getfield 28, 3) := by decide +kernel
theorem dX6_shares_52 : decode cX6_shares 52 = .ok (.aload_n 0, 1) := by decide +kernel
theorem dX6_shares_53 : decode cX6_shares 53 = .ok (.getfield 61, 3) := by decide +kernel
theorem dX6_shares_56 : decode cX6_shares 56 = .ok (.bipush 6, 2) := by decide +kernel
theorem dX6_shares_58 : decode cX6_shares 58 = .ok (.iload_n 2, 1) := by decide +kernel
theorem dX6_shares_59 : decode cX6_shares 59 = .ok (.imul, 1) := by decide +kernel
theorem dX6_shares_60 : decode cX6_shares 60 = .ok (.iload 4, 2) := by decide +kernel
theorem dX6_shares_62 : decode cX6_shares 62 = .ok (.aload_n 0, 1) := by decide +kernel
theorem dX6_shares_63 : decode cX6_shares 63 = .ok (.getfield 52, 3) := by decide +kernel
theorem dX6_shares_66 : decode cX6_shares 66 = .ok (.iload_n 2, 1) := by decide +kernel
theorem dX6_shares_67 : decode cX6_shares 67 = .ok (.iaload, 1) := by decide +kernel
theorem dX6_shares_68 : decode cX6_shares 68 = .ok (.irem, 1) := by decide +kernel
theorem dX6_shares_69 : decode cX6_shares 69 = .ok (.iadd, 1) := by decide +kernel
theorem dX6_shares_70 : decode cX6_shares 70 = .ok (.iaload, 1) := by decide +kernel
theorem dX6_shares_71 : decode cX6_shares 71 = .ok (.iaload, 1) := by decide +kernel
theorem dX6_shares_72 : decode cX6_shares 72 = .ok (.if_icmp .ne 7, 3) := by decide +kernel
theorem dX6_shares_75 : decode cX6_shares 75 = .ok (.iconst 1, 1) := by decide +kernel
theorem dX6_shares_76 : decode cX6_shares 76 = .ok (.goto 4, 3) := by decide +kernel
theorem dX6_shares_79 : decode cX6_shares 79 = .ok (.iconst 0, 1) := by decide +kernel
theorem dX6_shares_80 : decode cX6_shares 80 = .ok (.ior, 1) := by decide +kernel
theorem dX6_shares_81 : decode cX6_shares 81 = .ok (.istore_n 3, 1) := by decide +kernel
theorem dX6_shares_82 : decode cX6_shares 82 = .ok (.iinc 4 1, 3) := by decide +kernel
theorem dX6_shares_85 : decode cX6_shares 85 = .ok (.goto (-80), 3) := by decide +kernel
theorem dX6_shares_88 : decode cX6_shares 88 = .ok (.iload_n 3, 1) := by decide +kernel
theorem dX6_shares_89 : decode cX6_shares 89 = .ok (.ireturn, 1) := by decide +kernel
theorem dX6_redraw_0 : decode cX6_redraw 0 = .ok (.aload_n 0, 1) := by decide +kernel
theorem dX6_redraw_1 : decode cX6_redraw 1 = .ok (.aload_n 0, 1) := by decide +kernel
theorem dX6_redraw_2 : decode cX6_redraw 2 = .ok (.iload_n 1, 1) := by decide +kernel
theorem dX6_redraw_3 : decode cX6_redraw 3 = .ok (.invokevirtual 82, 3) := by decide +kernel
theorem dX6_redraw_6 : decode cX6_redraw 6 = .ok (.ifCond .ne 7, 3) := by decide +kernel
theorem dX6_redraw_9 : decode cX6_redraw 9 = .ok (.iconst 1, 1) := by decide +kernel
theorem dX6_redraw_10 : decode cX6_redraw 10 = .ok (.goto 17, 3) := by decide +kernel
theorem dX6_redraw_13 : decode cX6_redraw 13 = .ok (.aload_n 0, 1) := by decide +kernel
theorem dX6_redraw_14 : decode cX6_redraw 14 = .ok (.getfield 7, 3) := by decide +kernel
theorem dX6_redraw_17 : decode cX6_redraw 17 = .ok (.iload_n 1, 1) := by decide +kernel
theorem dX6_redraw_18 : decode cX6_redraw 18 = .ok (.iaload, 1) := by decide +kernel
theorem dX6_redraw_19 : decode cX6_redraw 19 = .ok (.ifCond .ne 7, 3) := by decide +kernel
theorem dX6_redraw_22 : decode cX6_redraw 22 = .ok (.iconst 2, 1) := by decide +kernel
theorem dX6_redraw_23 : decode cX6_redraw 23 = .ok (.goto 4, 3) := by decide +kernel
theorem dX6_redraw_26 : decode cX6_redraw 26 = .ok (.iconst 0, 1) := by decide +kernel
