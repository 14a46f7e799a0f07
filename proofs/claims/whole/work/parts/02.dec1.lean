theorem dX0_init_0 : decode cX0_init 0 = .ok (.aload_n 0, 1) := by decide +kernel
theorem dX0_init_1 : decode cX0_init 1 = .ok (.invokespecial 3, 3) := by decide +kernel
theorem dX0_init_4 : decode cX0_init 4 = .ok (.aload_n 0, 1) := by decide +kernel
theorem dX0_init_5 : decode cX0_init 5 = .ok (.new 9, 3) := by decide +kernel
theorem dX0_init_8 : decode cX0_init 8 = .ok (.dup, 1) := by decide +kernel
theorem dX0_init_9 : decode cX0_init 9 = .ok (.invokespecial 11, 3) := by decide +kernel
theorem dX0_init_12 : decode cX0_init 12 = .ok (.putfield 12, 3) := by decide +kernel
theorem dX0_init_15 : decode cX0_init 15 = .ok (.aload_n 0, 1) := by decide +kernel
theorem dX0_init_16 : decode cX0_init 16 = .ok (.iconst 0, 1) := by decide +kernel
theorem dX0_init_17 : decode cX0_init 17 = .ok (.putfield 18, 3) := by decide +kernel
theorem dX0_init_20 : decode cX0_init 20 = .ok (.aload_n 0, 1) := by decide +kernel
theorem dX0_init_21 : decode cX0_init 21 = .ok (.iload_n 1, 1) := by decide +kernel
theorem dX0_init_22 : decode cX0_init 22 = .ok (.putfield 22, 3) := by decide +kernel
theorem dX0_init_25 : decode cX0_init 25 = .ok (.return_, 1) := by decide +kernel
theorem dX0_openAgain_0 : decode cX0_openAgain 0 = .ok (.aload_n 0, 1) := by decide +kernel
theorem dX0_openAgain_1 : decode cX0_openAgain 1 = .ok (.getfield 12, 3) := by decide +kernel
theorem dX0_openAgain_4 : decode cX0_openAgain 4 = .ok (.invokevirtual 25, 3) := by decide +kernel
theorem dX0_openAgain_7 : decode cX0_openAgain 7 = .ok (.aload_n 0, 1) := by decide +kernel
theorem dX0_openAgain_8 : decode cX0_openAgain 8 = .ok (.iconst 0, 1) := by decide +kernel
theorem dX0_openAgain_9 : decode cX0_openAgain 9 = .ok (.putfield 18, 3) := by decide +kernel
theorem dX0_openAgain_12 : decode cX0_openAgain 12 = .ok (.aload_n 0, 1) := by decide +kernel
theorem dX0_openAgain_13 : decode cX0_openAgain 13 = .ok (.dup, 1) := by decide +kernel
theorem dX0_openAgain_14 : decode cX0_openAgain 14 = .ok (.getfield 28, 3) := by decide +kernel
theorem dX0_openAgain_17 : decode cX0_openAgain 17 = .ok (.iconst 1, 1) := by decide +kernel
theorem dX0_openAgain_18 : decode cX0_openAgain 18 = .ok (.iadd, 1) := by decide +kernel
theorem dX0_openAgain_19 : decode cX0_openAgain 19 = .ok (.putfield 28, 3) := by decide +kernel
theorem dX0_openAgain_22 : decode cX0_openAgain 22 = .ok (.return_, 1) := by decide +kernel
theorem dX1_init_0 : decode cX1_init 0 = .ok (.aload_n 0, 1) := by decide +kernel
theorem dX1_init_1 : decode cX1_init 1 = .ok (.invokespecial 3, 3) := by decide +kernel
theorem dX1_init_4 : decode cX1_init 4 = .ok (.aload_n 0, 1) := by decide +kernel
theorem dX1_init_5 : decode cX1_init 5 = .ok (.iconst 0, 1) := by decide +kernel
theorem dX1_init_6 : decode cX1_init 6 = .ok (.putfield 9, 3) := by decide +kernel
theorem dX1_init_9 : decode cX1_init 9 = .ok (.aload_n 0, 1) := by decide +kernel
theorem dX1_init_10 : decode cX1_init 10 = .ok (.iconst (-1), 1) := by decide +kernel
theorem dX1_init_11 : decode cX1_init 11 = .ok (.putfield 15, 3) := by decide +kernel
theorem dX1_init_14 : decode cX1_init 14 = .ok (.aload_n 0, 1) := by decide +kernel
theorem dX1_init_15 : decode cX1_init 15 = .ok (.new 18, 3) := by decide +kernel
theorem dX1_init_18 : decode cX1_init 18 = .ok (.dup, 1) := by decide +kernel
theorem dX1_init_19 : decode cX1_init 19 = .ok (.invokespecial 20, 3) := by decide +kernel
theorem dX1_init_22 : decode cX1_init 22 = .ok (.putfield 21, 3) := by decide +kernel
theorem dX1_init_25 : decode cX1_init 25 = .ok (.aload_n 0, 1) := by decide +kernel
theorem dX1_init_26 : decode cX1_init 26 = .ok (.new 25, 3) := by decide +kernel
theorem dX1_init_29 : decode cX1_init 29 = .ok (.dup, 1) := by decide +kernel
theorem dX1_init_30 : decode cX1_init 30 = .ok (.invokespecial 27, 3) := by decide +kernel
theorem dX1_init_33 : decode cX1_init 33 = .ok (.putfield 28, 3) := by decide +kernel
theorem dX1_init_36 : decode cX1_init 36 = .ok (.aload_n 0, 1) := by decide +kernel
theorem dX1_init_37 : decode cX1_init 37 = .ok (.aload_n 1, 1) := by decide +kernel
theorem dX1_init_38 : decode cX1_init 38 = .ok (.putfield 32, 3) := by decide +kernel
theorem dX1_init_41 : decode cX1_init 41 = .ok (.aload_n 0, 1) := by decide +kernel
theorem dX1_init_42 : decode cX1_init 42 = .ok (.iload_n 2, 1) := by decide +kernel
theorem dX1_init_43 : decode cX1_init 43 = .ok (.putfield 36, 3) := by decide +kernel
theorem dX1_init_46 : decode cX1_init 46 = .ok (.return_, 1) := by decide +kernel
theorem dX1_nestOn_0 : decode cX1_nestOn 0 = .ok (.aload_n 1, 1) := by decide +kernel
theorem dX1_nestOn_1 : decode cX1_nestOn 1 = .ok (.getfield 39, 3) := by decide +kernel
theorem dX1_nestOn_4 : decode cX1_nestOn 4 = .ok (.istore_n 2, 1) := by decide +kernel
theorem dX1_nestOn_5 : decode cX1_nestOn 5 = .ok (.aload_n 0, 1) := by decide +kernel
theorem dX1_nestOn_6 : decode cX1_nestOn 6 = .ok (.getfield 32, 3) := by decide +kernel
theorem dX1_nestOn_9 : decode cX1_nestOn 9 = .ok (.getfield 44, 3) := by decide +kernel
theorem dX1_nestOn_12 : decode cX1_nestOn 12 = .ok (.invokevirtual 49, 3) := by decide +kernel
theorem dX1_nestOn_15 : decode cX1_nestOn 15 = .ok (.iconst 1, 1) := by decide +kernel
theorem dX1_nestOn_16 : decode cX1_nestOn 16 = .ok (.iadd, 1) := by decide +kernel
theorem dX1_nestOn_17 : decode cX1_nestOn 17 = .ok (.istore_n 3, 1) := by decide +kernel
theorem dX1_nestOn_18 : decode cX1_nestOn 18 = .ok (.aload_n 0, 1) := by decide +kernel
theorem dX1_nestOn_19 : decode cX1_nestOn 19 = .ok (.getfield 32, 3) := by decide +kernel
theorem dX1_nestOn_22 : decode cX1_nestOn 22 = .ok (.getfield 44, 3) := by decide +kernel
theorem dX1_nestOn_25 : decode cX1_nestOn 25 = .ok (.invokevirtual 53, 3) := by decide +kernel
theorem dX1_nestOn_28 : decode cX1_nestOn 28 = .ok (.iconst 1, 1) := by decide +kernel
theorem dX1_nestOn_29 : decode cX1_nestOn 29 = .ok (.iadd, 1) := by decide +kernel
theorem dX1_nestOn_30 : decode cX1_nestOn 30 = .ok (.istore 4, 2) := by decide +kernel
theorem dX1_nestOn_32 : decode cX1_nestOn 32 = .ok (.iconst 0, 1) := by decide +kernel
theorem dX1_nestOn_33 : decode cX1_nestOn 33 = .ok (.istore 5, 2) := by decide +kernel
theorem dX1_nestOn_35 : decode cX1_nestOn 35 = .ok (.iload 5, 2) := by decide +kernel
theorem dX1_nestOn_37 : decode cX1_nestOn 37 = .ok (.aload_n 0, 1) := by decide +kernel
theorem dX1_nestOn_38 : decode cX1_nestOn 38 = .ok (.getfield 36, 3) := by decide +kernel
theorem dX1_nestOn_41 : decode cX1_nestOn 41 = .ok (.if_icmp .ge 50, 3) := by decide +kernel
theorem dX1_nestOn_44 : decode cX1_nestOn 44 = .ok (.aload_n 1, 1) := by decide +kernel
theorem dX1_nestOn_45 : decode cX1_nestOn 45 = .ok (.iload_n 3, 1) := by decide +kernel
theorem dX1_nestOn_46 : decode cX1_nestOn 46 = .ok (.iload 4, 2) := by decide +kernel
theorem dX1_nestOn_48 : decode cX1_nestOn 48 = .ok (.invokevirtual 56, 3) := by decide +kernel
theorem dX1_nestOn_51 : decode cX1_nestOn 51 = .ok (.astore 6, 2) := by decide +kernel
theorem dX1_nestOn_53 : decode cX1_nestOn 53 = .ok (.aload 6, 2) := by decide +kernel
theorem dX1_nestOn_55 : decode cX1_nestOn 55 = .ok (.ifnonnull 20, 3) := by decide +kernel
theorem dX1_nestOn_58 : decode cX1_nestOn 58 = .ok (.aload_n 1, 1) := by decide +kernel
theorem dX1_nestOn_59 : decode cX1_nestOn 59 = .ok (.aload_n 0, 1) := by decide +kernel
theorem dX1_nestOn_60 : decode cX1_nestOn 60 = .ok (.getfield 21, 3) := by decide +kernel
theorem dX1_nestOn_63 : decode cX1_nestOn 63 = .ok (.iload_n 2, 1) := by decide +kernel
theorem dX1_nestOn_64 : decode cX1_nestOn 64 = .ok (.invokevirtual 60, 3) := by decide +kernel
theorem dX1_nestOn_67 : decode cX1_nestOn 67 = .ok (.aload_n 0, 1) := by decide +kernel
theorem dX1_nestOn_68 : decode cX1_nestOn 68 = .ok (.getfield 21, 3) := by decide +kernel
theorem dX1_nestOn_71 : decode cX1_nestOn 71 = .ok (.invokevirtual 64, 3) := by decide +kernel
theorem dX1_nestOn_74 : decode cX1_nestOn 74 = .ok (.return_, 1) := by decide +kernel
theorem dX1_nestOn_75 : decode cX1_nestOn 75 = .ok (.aload_n 0, 1) := by decide +kernel
theorem dX1_nestOn_76 : decode cX1_nestOn 76 = .ok (.getfield 21, 3) := by decide +kernel
theorem dX1_nestOn_79 : decode cX1_nestOn 79 = .ok (.aload 6, 2) := by decide +kernel
theorem dX1_nestOn_81 : decode cX1_nestOn 81 = .ok (.invokevirtual 67, 3) := by decide +kernel
theorem dX1_nestOn_84 : decode cX1_nestOn 84 = .ok (.pop, 1) := by decide +kernel
theorem dX1_nestOn_85 : decode cX1_nestOn 85 = .ok (.iinc 5 1, 3) := by decide +kernel
theorem dX1_nestOn_88 : decode cX1_nestOn 88 = .ok (.goto (-53), 3) := by decide +kernel
theorem dX1_nestOn_91 : decode cX1_nestOn 91 = .ok (.aload_n 0, 1) := by decide +kernel
theorem dX1_nestOn_92 : decode cX1_nestOn 92 = .ok (.iconst 1, 1) := by decide +kernel
theorem dX1_nestOn_93 : decode cX1_nestOn 93 = .ok (.putfield 9, 3) := by decide +kernel
theorem dX1_nestOn_96 : decode cX1_nestOn 96 = .ok (.aload_n 0, 1) := by decide +kernel
theorem dX1_nestOn_97 : decode cX1_nestOn 97 = .ok (.aload_n 0, 1) := by decide +kernel
theorem dX1_nestOn_98 : decode cX1_nestOn 98 = .ok (.getfield 32, 3) := by decide +kernel
theorem dX1_nestOn_101 : decode cX1_nestOn 101 = .ok (.getfield 71, 3) := by decide +kernel
theorem dX1_nestOn_104 : decode cX1_nestOn 104 = .ok (.putfield 15, 3) := by decide +kernel
theorem dX1_nestOn_107 : decode cX1_nestOn 107 = .ok (.return_, 1) := by decide +kernel
theorem dX1_takeOff_0 : decode cX1_takeOff 0 = .ok (.iconst 0, 1) := by decide +kernel
theorem dX1_takeOff_1 : decode cX1_takeOff 1 = .ok (.istore_n 1, 1) := by decide +kernel
theorem dX1_takeOff_2 : decode cX1_takeOff 2 = .ok (.iload_n 1, 1) := by decide +kernel
theorem dX1_takeOff_3 : decode cX1_takeOff 3 = .ok (.aload_n 0, 1) := by decide +kernel
theorem dX1_takeOff_4 : decode cX1_takeOff 4 = .ok (.getfield 21, 3) := by decide +kernel
theorem dX1_takeOff_7 : decode cX1_takeOff 7 = .ok (.invokevirtual 72, 3) := by decide +kernel
theorem dX1_takeOff_10 : decode cX1_takeOff 10 = .ok (.if_icmp .ge 23, 3) := by decide +kernel
theorem dX1_takeOff_13 : decode cX1_takeOff 13 = .ok (.aload_n 0, 1) := by decide +kernel
theorem dX1_takeOff_14 : decode cX1_takeOff 14 = .ok (.getfield 21, 3) := by decide +kernel
theorem dX1_takeOff_17 : decode cX1_takeOff 17 = .ok (.iload_n 1, 1) := by decide +kernel
theorem dX1_takeOff_18 : decode cX1_takeOff 18 = .ok (.invokevirtual 75, 3) := by decide +kernel
theorem dX1_takeOff_21 : decode cX1_takeOff 21 = .ok (.checkcast 79, 3) := by decide +kernel
theorem dX1_takeOff_24 : decode cX1_takeOff 24 = .ok (.invokevirtual 81, 3) := by decide +kernel
theorem dX1_takeOff_27 : decode cX1_takeOff 27 = .ok (.iinc 1 1, 3) := by decide +kernel
theorem dX1_takeOff_30 : decode cX1_takeOff 30 = .ok (.goto (-28), 3) := by decide +kernel
theorem dX1_takeOff_33 : decode cX1_takeOff 33 = .ok (.aload_n 0, 1) := by decide +kernel
theorem dX1_takeOff_34 : decode cX1_takeOff 34 = .ok (.getfield 21, 3) := by decide +kernel
theorem dX1_takeOff_37 : decode cX1_takeOff 37 = .ok (.invokevirtual 64, 3) := by decide +kernel
theorem dX1_takeOff_40 : decode cX1_takeOff 40 = .ok (.aload_n 0, 1) := by decide +kernel
theorem dX1_takeOff_41 : decode cX1_takeOff 41 = .ok (.iconst 0, 1) := by decide +kernel
theorem dX1_takeOff_42 : decode cX1_takeOff 42 = .ok (.putfield 9, 3) := by decide +kernel
theorem dX1_takeOff_45 : decode cX1_takeOff 45 = .ok (.aload_n 0, 1) := by decide +kernel
theorem dX1_takeOff_46 : decode cX1_takeOff 46 = .ok (.iconst (-1), 1) := by decide +kernel
theorem dX1_takeOff_47 : decode cX1_takeOff 47 = .ok (.putfield 15, 3) := by decide +kernel
theorem dX1_takeOff_50 : decode cX1_takeOff 50 = .ok (.return_, 1) := by decide +kernel
theorem dX1_sheetsUsed_0 : decode cX1_sheetsUsed 0 = .ok (.iconst 0, 1) := by decide +kernel
theorem dX1_sheetsUsed_1 : decode cX1_sheetsUsed 1 = .ok (.istore_n 1, 1) := by decide +kernel
theorem dX1_sheetsUsed_2 : decode cX1_sheetsUsed 2 = .ok (.iconst 0, 1) := by decide +kernel
theorem dX1_sheetsUsed_3 : decode cX1_sheetsUsed 3 = .ok (.istore_n 2, 1) := by decide +kernel
theorem dX1_sheetsUsed_4 : decode cX1_sheetsUsed 4 = .ok (.iload_n 2, 1) := by decide +kernel
theorem dX1_sheetsUsed_5 : decode cX1_sheetsUsed 5 = .ok (.aload_n 0, 1) := by decide +kernel
theorem dX1_sheetsUsed_6 : decode cX1_sheetsUsed 6 = .ok (.getfield 21, 3) := by decide +kernel
theorem dX1_sheetsUsed_9 : decode cX1_sheetsUsed 9 = .ok (.invokevirtual 72, 3) := by decide +kernel
theorem dX1_sheetsUsed_12 : decode cX1_sheetsUsed 12 = .ok (.if_icmp .ge 28, 3) := by decide +kernel
theorem dX1_sheetsUsed_15 : decode cX1_sheetsUsed 15 = .ok (.iload_n 1, 1) := by decide +kernel
theorem dX1_sheetsUsed_16 : decode cX1_sheetsUsed 16 = .ok (.iconst 1, 1) := by decide +kernel
theorem dX1_sheetsUsed_17 : decode cX1_sheetsUsed 17 = .ok (.aload_n 0, 1) := by decide +kernel
theorem dX1_sheetsUsed_18 : decode cX1_sheetsUsed 18 = .ok (.getfield 21, 3) := by decide +kernel
theorem dX1_sheetsUsed_21 : decode cX1_sheetsUsed 21 = .ok (.iload_n 2, 1) := by decide +kernel
theorem dX1_sheetsUsed_22 : decode cX1_sheetsUsed 22 = .ok (.invokevirtual 75, 3) := by decide +kernel
theorem dX1_sheetsUsed_25 : decode cX1_sheetsUsed 25 = .ok (.checkcast 79, 3) := by decide +kernel
theorem dX1_sheetsUsed_28 : decode cX1_sheetsUsed 28 = .ok (.getfield 84, 3) := by decide +kernel
theorem dX1_sheetsUsed_31 : decode cX1_sheetsUsed 31 = .ok (.ishl, 1) := by decide +kernel
theorem dX1_sheetsUsed_32 : decode cX1_sheetsUsed 32 = .ok (.ior, 1) := by decide +kernel
theorem dX1_sheetsUsed_33 : decode cX1_sheetsUsed 33 = .ok (.istore_n 1, 1) := by decide +kernel
theorem dX1_sheetsUsed_34 : decode cX1_sheetsUsed 34 = .ok (.iinc 2 1, 3) := by decide +kernel
theorem dX1_sheetsUsed_37 : decode cX1_sheetsUsed 37 = .ok (.goto (-33), 3) := by decide +kernel
theorem dX1_sheetsUsed_40 : decode cX1_sheetsUsed 40 = .ok (.iload_n 1, 1) := by decide +kernel
theorem dX1_sheetsUsed_41 : decode cX1_sheetsUsed 41 = .ok (.ireturn, 1) := by decide +kernel
theorem dX1_keepStrokes_0 : decode cX1_keepStrokes 0 = .ok (.aload_n 0, 1) := by decide +kernel
theorem dX1_keepStrokes_1 : decode cX1_keepStrokes 1 = .ok (.getfield 28, 3) := by decide +kernel
theorem dX1_keepStrokes_4 : decode cX1_keepStrokes 4 = .ok (.aload_n 0, 1) := by decide +kernel
theorem dX1_keepStrokes_5 : decode cX1_keepStrokes 5 = .ok (.getfield 32, 3) := by decide +kernel
theorem dX1_keepStrokes_8 : decode cX1_keepStrokes 8 = .ok (.getfield 44, 3) := by decide +kernel
theorem dX1_keepStrokes_11 : decode cX1_keepStrokes 11 = .ok (.invokevirtual 87, 3) := by decide +kernel
theorem dX1_keepStrokes_14 : decode cX1_keepStrokes 14 = .ok (.return_, 1) := by decide +kernel
theorem dX1_minutesFor_0 : decode cX1_minutesFor 0 = .ok (.aload_n 0, 1) := by decide +kernel
theorem dX1_minutesFor_1 : decode cX1_minutesFor 1 = .ok (.getfield 36, 3) := by decide +kernel
theorem dX1_minutesFor_4 : decode cX1_minutesFor 4 = .ok (.fload_n 1, 1) := by decide +kernel
theorem dX1_minutesFor_5 : decode cX1_minutesFor 5 = .ok (.ldc 91, 2) := by decide +kernel
theorem dX1_minutesFor_7 : decode cX1_minutesFor 7 = .ok (.fdiv, 1) := by decide +kernel
theorem dX1_minutesFor_8 : decode cX1_minutesFor 8 = .ok (.f2i, 1) := by decide +kernel
theorem dX1_minutesFor_9 : decode cX1_minutesFor 9 = .ok (.iconst 1, 1) := by decide +kernel
theorem dX1_minutesFor_10 : decode cX1_minutesFor 10 = .ok (.iadd, 1) := by decide +kernel
theorem dX1_minutesFor_11 : decode cX1_minutesFor 11 = .ok (.imul, 1) := by decide +kernel
theorem dX1_minutesFor_12 : decode cX1_minutesFor 12 = .ok (.istore_n 2, 1) := by decide +kernel
theorem dX1_minutesFor_13 : decode cX1_minutesFor 13 = .ok (.iconst 0, 1) := by decide +kernel
theorem dX1_minutesFor_14 : decode cX1_minutesFor 14 = .ok (.istore_n 3, 1) := by decide +kernel
theorem dX1_minutesFor_15 : decode cX1_minutesFor 15 = .ok (.iload_n 3, 1) := by decide +kernel
theorem dX1_minutesFor_16 : decode cX1_minutesFor 16 = .ok (.aload_n 0, 1) := by decide +kernel
theorem dX1_minutesFor_17 : decode cX1_minutesFor 17 = .ok (.getfield 21, 3) := by decide +kernel
theorem dX1_minutesFor_20 : decode cX1_minutesFor 20 = .ok (.invokevirtual 72, 3) := by decide +kernel
theorem dX1_minutesFor_23 : decode cX1_minutesFor 23 = .ok (.if_icmp .ge 31, 3) := by decide +kernel
theorem dX1_minutesFor_26 : decode cX1_minutesFor 26 = .ok (.aload_n 0, 1) := by decide +kernel
theorem dX1_minutesFor_27 : decode cX1_minutesFor 27 = .ok (.aload_n 0, 1) := by decide +kernel
theorem dX1_minutesFor_28 : decode cX1_minutesFor 28 = .ok (.getfield 21, 3) := by decide +kernel
theorem dX1_minutesFor_31 : decode cX1_minutesFor 31 = .ok (.iload_n 3, 1) := by decide +kernel
theorem dX1_minutesFor_32 : decode cX1_minutesFor 32 = .ok (.invokevirtual 75, 3) := by decide +kernel
theorem dX1_minutesFor_35 : decode cX1_minutesFor 35 = .ok (.checkcast 79, 3) := by decide +kernel
theorem dX1_minutesFor_38 : decode cX1_minutesFor 38 = .ok (.iload_n 3, 1) := by decide +kernel
theorem dX1_minutesFor_39 : decode cX1_minutesFor 39 = .ok (.invokevirtual 92, 3) := by decide +kernel
theorem dX1_minutesFor_42 : decode cX1_minutesFor 42 = .ok (.ifCond .eq 6, 3) := by decide +kernel
theorem dX1_minutesFor_45 : decode cX1_minutesFor 45 = .ok (.iinc 2 3, 3) := by decide +kernel
theorem dX1_minutesFor_48 : decode cX1_minutesFor 48 = .ok (.iinc 3 1, 3) := by decide +kernel
theorem dX1_minutesFor_51 : decode cX1_minutesFor 51 = .ok (.goto (-36), 3) := by decide +kernel
theorem dX1_minutesFor_54 : decode cX1_minutesFor 54 = .ok (.iload_n 2, 1) := by decide +kernel
theorem dX1_minutesFor_55 : decode cX1_minutesFor 55 = .ok (.ireturn, 1) := by decide +kernel
theorem dX1_touchesEarlier_0 : decode cX1_touchesEarlier 0 = .ok (.iconst 0, 1) := by decide +kernel
theorem dX1_touchesEarlier_1 : decode cX1_touchesEarlier 1 = .ok (.istore_n 3, 1) := by decide +kernel
theorem dX1_touchesEarlier_2 : decode cX1_touchesEarlier 2 = .ok (.iload_n 3, 1) := by decide +kernel
theorem dX1_touchesEarlier_3 : decode cX1_touchesEarlier 3 = .ok (.iload_n 2, 1) := by decide +kernel
theorem dX1_touchesEarlier_4 : decode cX1_touchesEarlier 4 = .ok (.if_icmp .ge 40, 3) := by decide +kernel
theorem dX1_touchesEarlier_7 : decode cX1_touchesEarlier 7 = .ok (.iload_n 3, 1) := by decide +kernel
theorem dX1_touchesEarlier_8 : decode cX1_touchesEarlier 8 = .ok (.aload_n 0, 1) := by decide +kernel
theorem dX1_touchesEarlier_9 : decode cX1_touchesEarlier 9 = .ok (.getfield 21, 3) := by decide +kernel
theorem dX1_touchesEarlier_12 : decode cX1_touchesEarlier 12 = .ok (.invokevirtual 72, 3) := by decide +kernel
theorem dX1_touchesEarlier_15 : decode cX1_touchesEarlier 15 = .ok (.if_icmp .ge 29, 3) := by decide +kernel
theorem dX1_touchesEarlier_18 : decode cX1_touchesEarlier 18 = .ok (.aload_n 1, 1) := by decide +kernel
theorem dX1_touchesEarlier_19 : decode cX1_touchesEarlier 19 = .ok (.aload_n 0, 1) := by decide +kernel
theorem dX1_touchesEarlier_20 : decode cX1_touchesEarlier 20 = .ok (.getfield 21, 3) := by decide +kernel
theorem dX1_touchesEarlier_23 : decode cX1_touchesEarlier 23 = .ok (.iload_n 3, 1) := by decide +kernel
theorem dX1_touchesEarlier_24 : decode cX1_touchesEarlier 24 = .ok (.invokevirtual 75, 3) := by decide +kernel
theorem dX1_touchesEarlier_27 : decode cX1_touchesEarlier 27 = .ok (.checkcast 79, 3) := by decide +kernel
theorem dX1_touchesEarlier_30 : decode cX1_touchesEarlier 30 = .ok (.invokevirtual 96, 3) := by decide +kernel
theorem dX1_touchesEarlier_33 : decode cX1_touchesEarlier 33 = .ok (.ifCond .eq 5, 3) := by decide +kernel
theorem dX1_touchesEarlier_36 : decode cX1_touchesEarlier 36 = .ok (.iconst 1, 1) := by decide +kernel
theorem dX1_touchesEarlier_37 : decode cX1_touchesEarlier 37 = .ok (.ireturn, 1) := by decide +kernel
theorem dX1_touchesEarlier_38 : decode cX1_touchesEarlier 38 = .ok (.iinc 3 1, 3) := by decide +kernel
theorem dX1_touchesEarlier_41 : decode cX1_touchesEarlier 41 = .ok (.goto (-39), 3) := by decide +kernel
theorem dX1_touchesEarlier_44 : decode cX1_touchesEarlier 44 = .ok (.iconst 0, 1) := by decide +kernel
theorem dX1_touchesEarlier_45 : decode cX1_touchesEarlier 45 = .ok (.ireturn, 1) := by decide +kernel
theorem dX2_init_0 : decode cX2_init 0 = .ok (.aload_n 0, 1) := by decide +kernel
theorem dX2_init_1 : decode cX2_init 1 = .ok (.invokespecial 3, 3) := by decide +kernel
theorem dX2_init_4 : decode cX2_init 4 = .ok (.aload_n 0, 1) := by decide +kernel
theorem dX2_init_5 : decode cX2_init 5 = .ok (.bipush 24, 2) := by decide +kernel
theorem dX2_init_7 : decode cX2_init 7 = .ok (.newarray .int, 2) := by decide +kernel
theorem dX2_init_9 : decode cX2_init 9 = .ok (.putfield 9, 3) := by decide +kernel
theorem dX2_init_12 : decode cX2_init 12 = .ok (.return_, 1) := by decide +kernel
theorem dX2_add_0 : decode cX2_add 0 = .ok (.aload_n 0, 1) := by decide +kernel
theorem dX2_add_1 : decode cX2_add 1 = .ok (.getfield 15, 3) := by decide +kernel
theorem dX2_add_4 : decode cX2_add 4 = .ok (.ifCond .lt 41, 3) := by decide +kernel
theorem dX2_add_7 : decode cX2_add 7 = .ok (.aload_n 0, 1) := by decide +kernel
theorem dX2_add_8 : decode cX2_add 8 = .ok (.getfield 15, 3) := by decide +kernel
theorem dX2_add_11 : decode cX2_add 11 = .ok (.aload_n 0, 1) := by decide +kernel
theorem dX2_add_12 : decode cX2_add 12 = .ok (.getfield 9, 3) := by decide +kernel
theorem dX2_add_15 : decode cX2_add 15 = .ok (.arraylength, 1) := by decide +kernel
theorem dX2_add_16 : decode cX2_add 16 = .ok (.if_icmp .ge 29, 3) := by decide +kernel
theorem dX2_add_19 : decode cX2_add 19 = .ok (.aload_n 0, 1) := by decide +kernel
theorem dX2_add_20 : decode cX2_add 20 = .ok (.getfield 9, 3) := by decide +kernel
theorem dX2_add_23 : decode cX2_add 23 = .ok (.aload_n 0, 1) := by decide +kernel
theorem dX2_add_24 : decode cX2_add 24 = .ok (.getfield 15, 3) := by decide +kernel
theorem dX2_add_27 : decode cX2_add 27 = .ok (.sipush 1024, 3) := by decide +kernel
theorem dX2_add_30 : decode cX2_add 30 = .ok (.iload_n 1, 1) := by decide +kernel
theorem dX2_add_31 : decode cX2_add 31 = .ok (.imul, 1) := by decide +kernel
theorem dX2_add_32 : decode cX2_add 32 = .ok (.iload_n 2, 1) := by decide +kernel
theorem dX2_add_33 : decode cX2_add 33 = .ok (.iadd, 1) := by decide +kernel
theorem dX2_add_34 : decode cX2_add 34 = .ok (.iastore, 1) := by decide +kernel
theorem dX2_add_35 : decode cX2_add 35 = .ok (.aload_n 0, 1) := by decide +kernel
theorem dX2_add_36 : decode cX2_add 36 = .ok (.dup, 1) := by decide +kernel
theorem dX2_add_37 : decode cX2_add 37 = .ok (.getfield 15, 3) := by decide +kernel
theorem dX2_add_40 : decode cX2_add 40 = .ok (.iconst 1, 1) := by decide +kernel
theorem dX2_add_41 : decode cX2_add 41 = .ok (.iadd, 1) := by decide +kernel
theorem dX2_add_42 : decode cX2_add 42 = .ok (.putfield 15, 3) := by decide +kernel
theorem dX2_add_45 : decode cX2_add 45 = .ok (.return_, 1) := by decide +kernel
theorem dX2_clear_0 : decode cX2_clear 0 = .ok (.aload_n 0, 1) := by decide +kernel
theorem dX2_clear_1 : decode cX2_clear 1 = .ok (.iconst 0, 1) := by decide +kernel
theorem dX2_clear_2 : decode cX2_clear 2 = .ok (.putfield 15, 3) := by decide +kernel
theorem dX2_clear_5 : decode cX2_clear 5 = .ok (.return_, 1) := by decide +kernel
theorem dX2_copy_0 : decode cX2_copy 0 = .ok (.aload_n 1, 1) := by decide +kernel
theorem dX2_copy_1 : decode cX2_copy 1 = .ok (.getfield 9, 3) := by decide +kernel
theorem dX2_copy_4 : decode cX2_copy 4 = .ok (.iconst 0, 1) := by decide +kernel
theorem dX2_copy_5 : decode cX2_copy 5 = .ok (.aload_n 0, 1) := by decide +kernel
theorem dX2_copy_6 : decode cX2_copy 6 = .ok (.getfield 9, 3) := by decide +kernel
theorem dX2_copy_9 : decode cX2_copy 9 = .ok (.iconst 0, 1) := by decide +kernel
theorem dX2_copy_10 : decode cX2_copy 10 = .ok (.bipush 24, 2) := by decide +kernel
theorem dX2_copy_12 : decode cX2_copy 12 = .ok (.invokestatic 19, 3) := by decide +kernel
theorem dX2_copy_15 : decode cX2_copy 15 = .ok (.aload_n 0, 1) := by decide +kernel
theorem dX2_copy_16 : decode cX2_copy 16 = .ok (.aload_n 1, 1) := by decide +kernel
theorem dX2_copy_17 : decode cX2_copy 17 = .ok (.getfield 15, 3) := by decide +kernel
theorem dX2_copy_20 : decode cX2_copy 20 = .ok (.putfield 15, 3) := by decide +kernel
theorem dX2_copy_23 : decode cX2_copy 23 = .ok (.return_, 1) := by decide +kernel
theorem dX2_dropDoubled_0 : decode cX2_dropDoubled 0 = .ok (.aload_n 0, 1) := by decide +kernel
theorem dX2_dropDoubled_1 : decode cX2_dropDoubled 1 = .ok (.getfield 15, 3) := by decide +kernel
theorem dX2_dropDoubled_4 : decode cX2_dropDoubled 4 = .ok (.istore_n 1, 1) := by decide +kernel
theorem dX2_dropDoubled_5 : decode cX2_dropDoubled 5 = .ok (.aload_n 0, 1) := by decide +kernel
theorem dX2_dropDoubled_6 : decode cX2_dropDoubled 6 = .ok (.iconst 0, 1) := by decide +kernel
theorem dX2_dropDoubled_7 : decode cX2_dropDoubled 7 = .ok (.putfield 15, 3) := by decide +kernel
theorem dX2_dropDoubled_10 : decode cX2_dropDoubled 10 = .ok (.iconst 0, 1) := by decide +kernel
theorem dX2_dropDoubled_11 : decode cX2_dropDoubled 11 = .ok (.istore_n 2, 1) := by decide +kernel
theorem dX2_dropDoubled_12 : decode cX2_dropDoubled 12 = .ok (.iload_n 2, 1) := by decide +kernel
theorem dX2_dropDoubled_13 : decode cX2_dropDoubled 13 = .ok (.iload_n 1, 1) := by decide +kernel
theorem dX2_dropDoubled_14 : decode cX2_dropDoubled 14 = .ok (.if_icmp .ge 56, 3) := by decide +kernel
theorem dX2_dropDoubled_17 : decode cX2_dropDoubled 17 = .ok (.iload_n 2, 1) := by decide +kernel
theorem dX2_dropDoubled_18 : decode cX2_dropDoubled 18 = .ok (.aload_n 0, 1) := by decide +kernel
theorem dX2_dropDoubled_19 : decode cX2_dropDoubled 19 = .ok (.getfield 9, 3) := by decide +kernel
theorem dX2_dropDoubled_22 : decode cX2_dropDoubled 22 = .ok (.arraylength, 1) := by decide +kernel
theorem dX2_dropDoubled_23 : decode cX2_dropDoubled 23 = .ok (.if_icmp .ge 47, 3) := by decide +kernel
theorem dX2_dropDoubled_26 : decode cX2_dropDoubled 26 = .ok (.aload_n 0, 1) := by decide +kernel
theorem dX2_dropDoubled_27 : decode cX2_dropDoubled 27 = .ok (.getfield 9, 3) := by decide +kernel
theorem dX2_dropDoubled_30 : decode cX2_dropDoubled 30 = .ok (.iload_n 2, 1) := by decide +kernel
theorem dX2_dropDoubled_31 : decode cX2_dropDoubled 31 = .ok (.iaload, 1) := by decide +kernel
theorem dX2_dropDoubled_32 : decode cX2_dropDoubled 32 = .ok (.invokestatic 25, 3) := by decide +kernel
theorem dX2_dropDoubled_35 : decode cX2_dropDoubled 35 = .ok (.istore_n 3, 1) := by decide +kernel
theorem dX2_dropDoubled_36 : decode cX2_dropDoubled 36 = .ok (.aload_n 0, 1) := by decide +kernel
theorem dX2_dropDoubled_37 : decode cX2_dropDoubled 37 = .ok (.getfield 9, 3) := by decide +kernel
theorem dX2_dropDoubled_40 : decode cX2_dropDoubled 40 = .ok (.iload_n 2, 1) := by decide +kernel
theorem dX2_dropDoubled_41 : decode cX2_dropDoubled 41 = .ok (.iaload, 1) := by decide +kernel
theorem dX2_dropDoubled_42 : decode cX2_dropDoubled 42 = .ok (.invokestatic 29, 3) := by decide +kernel
theorem dX2_dropDoubled_45 : decode cX2_dropDoubled 45 = .ok (.istore 4, 2) := by decide +kernel
theorem dX2_dropDoubled_47 : decode cX2_dropDoubled 47 = .ok (.aload_n 0, 1) := by decide +kernel
theorem dX2_dropDoubled_48 : decode cX2_dropDoubled 48 = .ok (.iload_n 3, 1) := by decide +kernel
theorem dX2_dropDoubled_49 : decode cX2_dropDoubled 49 = .ok (.iload 4, 2) := by decide +kernel
theorem dX2_dropDoubled_51 : decode cX2_dropDoubled 51 = .ok (.invokevirtual 32, 3) := by decide +kernel
theorem dX2_dropDoubled_54 : decode cX2_dropDoubled 54 = .ok (.ifCond .ne 10, 3) := by decide +kernel
theorem dX2_dropDoubled_57 : decode cX2_dropDoubled 57 = .ok (.aload_n 0, 1) := by decide +kernel
theorem dX2_dropDoubled_58 : decode cX2_dropDoubled 58 = .ok (.iload_n 3, 1) := by decide +kernel
theorem dX2_dropDoubled_59 : decode cX2_dropDoubled 59 = .ok (.iload 4, 2) := by decide +kernel
theorem dX2_dropDoubled_61 : decode cX2_dropDoubled 61 = .ok (.invokevirtual 36, 3) := by decide +kernel
theorem dX2_dropDoubled_64 : decode cX2_dropDoubled 64 = .ok (.iinc 2 1, 3) := by decide +kernel
theorem dX2_dropDoubled_67 : decode cX2_dropDoubled 67 = .ok (.goto (-55), 3) := by decide +kernel
theorem dX2_dropDoubled_70 : decode cX2_dropDoubled 70 = .ok (.return_, 1) := by decide +kernel
theorem dX2_has_0 : decode cX2_has 0 = .ok (.iconst 0, 1) := by decide +kernel
theorem dX2_has_1 : decode cX2_has 1 = .ok (.istore_n 3, 1) := by decide +kernel
theorem dX2_has_2 : decode cX2_has 2 = .ok (.iload_n 3, 1) := by decide +kernel
theorem dX2_has_3 : decode cX2_has 3 = .ok (.aload_n 0, 1) := by decide +kernel
theorem dX2_has_4 : decode cX2_has 4 = .ok (.getfield 15, 3) := by decide +kernel
theorem dX2_has_7 : decode cX2_has 7 = .ok (.if_icmp .ge 66, 3) := by decide +kernel
theorem dX2_has_10 : decode cX2_has 10 = .ok (.iload_n 3, 1) := by decide +kernel
theorem dX2_has_11 : decode cX2_has 11 = .ok (.aload_n 0, 1) := by decide +kernel
theorem dX2_has_12 : decode cX2_has 12 = .ok (.getfield 9, 3) := by decide +kernel
theorem dX2_has_15 : decode cX2_has 15 = .ok (.arraylength, 1) := by decide +kernel
theorem dX2_has_16 : decode cX2_has 16 = .ok (.if_icmp .ge 57, 3) := by decide +kernel
theorem dX2_has_19 : decode cX2_has 19 = .ok (.aload_n 0, 1) := by decide +kernel
theorem dX2_has_20 : decode cX2_has 20 = .ok (.getfield 9, 3) := by decide +kernel
theorem dX2_has_23 : decode cX2_has 23 = .ok (.iload_n 3, 1) := by decide +kernel
theorem dX2_has_24 : decode cX2_has 24 = .ok (.iaload, 1) := by decide +kernel
theorem dX2_has_25 : decode cX2_has 25 = .ok (.invokestatic 25, 3) := by decide +kernel
theorem dX2_has_28 : decode cX2_has 28 = .ok (.istore 4, 2) := by decide +kernel
theorem dX2_has_30 : decode cX2_has 30 = .ok (.aload_n 0, 1) := by decide +kernel
theorem dX2_has_31 : decode cX2_has 31 = .ok (.getfield 9, 3) := by decide +kernel
theorem dX2_has_34 : decode cX2_has 34 = .ok (.iload_n 3, 1) := by decide +kernel
theorem dX2_has_35 : decode cX2_has 35 = .ok (.iaload, 1) := by decide +kernel
theorem dX2_has_36 : decode cX2_has 36 = .ok (.invokestatic 29, 3) := by decide +kernel
theorem dX2_has_39 : decode cX2_has 39 = .ok (.istore 5, 2) := by decide +kernel
theorem dX2_has_41 : decode cX2_has 41 = .ok (.iload 4, 2) := by decide +kernel
theorem dX2_has_43 : decode cX2_has 43 = .ok (.iload_n 1, 1) := by decide +kernel
theorem dX2_has_44 : decode cX2_has 44 = .ok (.if_icmp .ne 9, 3) := by decide +kernel
theorem dX2_has_47 : decode cX2_has 47 = .ok (.iload 5, 2) := by decide +kernel
theorem dX2_has_49 : decode cX2_has 49 = .ok (.iload_n 2, 1) := by decide +kernel
theorem dX2_has_50 : decode cX2_has 50 = .ok (.if_icmp .eq 15, 3) := by decide +kernel
theorem dX2_has_53 : decode cX2_has 53 = .ok (.iload 4, 2) := by decide +kernel
theorem dX2_has_55 : decode cX2_has 55 = .ok (.iload_n 2, 1) := by decide +kernel
theorem dX2_has_56 : decode cX2_has 56 = .ok (.if_icmp .ne 11, 3) := by decide +kernel
theorem dX2_has_59 : decode cX2_has 59 = .ok (.iload 5, 2) := by decide +kernel
theorem dX2_has_61 : decode cX2_has 61 = .ok (.iload_n 1, 1) := by decide +kernel
theorem dX2_has_62 : decode cX2_has 62 = .ok (.if_icmp .ne 5, 3) := by decide +kernel
theorem dX2_has_65 : decode cX2_has 65 = .ok (.iconst 1, 1) := by decide +kernel
theorem dX2_has_66 : decode cX2_has 66 = .ok (.ireturn, 1) := by decide +kernel
theorem dX2_has_67 : decode cX2_has 67 = .ok (.iinc 3 1, 3) := by decide +kernel
theorem dX2_has_70 : decode cX2_has 70 = .ok (.goto (-68), 3) := by decide +kernel
theorem dX2_has_73 : decode cX2_has 73 = .ok (.iconst 0, 1) := by decide +kernel
theorem dX2_has_74 : decode cX2_has 74 = .ok (.ireturn, 1) := by decide +kernel
theorem dX2_firstWrongPoint_0 : decode cX2_firstWrongPoint 0 = .ok (.aload_n 0, 1) := by decide +kernel
theorem dX2_firstWrongPoint_1 : decode cX2_firstWrongPoint 1 = .ok (.getfield 15, 3) := by decide +kernel
theorem dX2_firstWrongPoint_4 : decode cX2_firstWrongPoint 4 = .ok (.ifCond .ne 7, 3) := by decide +kernel
theorem dX2_firstWrongPoint_7 : decode cX2_firstWrongPoint 7 = .ok (.sipush 1024, 3) := by decide +kernel
theorem dX2_firstWrongPoint_10 : decode cX2_firstWrongPoint 10 = .ok (.ireturn, 1) := by decide +kernel
theorem dX2_firstWrongPoint_11 : decode cX2_firstWrongPoint 11 = .ok (.sipush 1024, 3) := by decide +kernel
theorem dX2_firstWrongPoint_14 : decode cX2_firstWrongPoint 14 = .ok (.istore_n 1, 1) := by decide +kernel
theorem dX2_firstWrongPoint_15 : decode cX2_firstWrongPoint 15 = .ok (.iconst 0, 1) := by decide +kernel
theorem dX2_firstWrongPoint_16 : decode cX2_firstWrongPoint 16 = .ok (.istore_n 2, 1) := by decide +kernel
theorem dX2_firstWrongPoint_17 : decode cX2_firstWrongPoint 17 = .ok (.iload_n 2, 1) := by decide +kernel
theorem dX2_firstWrongPoint_18 : decode cX2_firstWrongPoint 18 = .ok (.aload_n 0, 1) := by decide +kernel
theorem dX2_firstWrongPoint_19 : decode cX2_firstWrongPoint 19 = .ok (.getfield 15, 3) := by decide +kernel
theorem dX2_firstWrongPoint_22 : decode cX2_firstWrongPoint 22 = .ok (.if_icmp .ge 54, 3) := by decide +kernel
theorem dX2_firstWrongPoint_25 : decode cX2_firstWrongPoint 25 = .ok (.iload_n 2, 1) := by decide +kernel
theorem dX2_firstWrongPoint_26 : decode cX2_firstWrongPoint 26 = .ok (.aload_n 0, 1) := by decide +kernel
theorem dX2_firstWrongPoint_27 : decode cX2_firstWrongPoint 27 = .ok (.getfield 9, 3) := by decide +kernel
theorem dX2_firstWrongPoint_30 : decode cX2_firstWrongPoint 30 = .ok (.arraylength, 1) := by decide +kernel
theorem dX2_firstWrongPoint_31 : decode cX2_firstWrongPoint 31 = .ok (.if_icmp .ge 45, 3) := by decide +kernel
theorem dX2_firstWrongPoint_34 : decode cX2_firstWrongPoint 34 = .ok (.iload_n 1, 1) := by decide +kernel
theorem dX2_firstWrongPoint_35 : decode cX2_firstWrongPoint 35 = .ok (.aload_n 0, 1) := by decide +kernel
theorem dX2_firstWrongPoint_36 : decode cX2_firstWrongPoint 36 = .ok (.aload_n 0, 1) := by decide +kernel
theorem dX2_firstWrongPoint_37 : decode cX2_firstWrongPoint 37 = .ok (.getfield 9, 3) := by decide +kernel
theorem dX2_firstWrongPoint_40 : decode cX2_firstWrongPoint 40 = .ok (.iload_n 2, 1) := by decide +kernel
theorem dX2_firstWrongPoint_41 : decode cX2_firstWrongPoint 41 = .ok (.iaload, 1) := by decide +kernel
theorem dX2_firstWrongPoint_42 : decode cX2_firstWrongPoint 42 = .ok (.invokestatic 25, 3) := by decide +kernel
theorem dX2_firstWrongPoint_45 : decode cX2_firstWrongPoint 45 = .ok (.invokevirtual 40, 3) := by decide +kernel
theorem dX2_firstWrongPoint_48 : decode cX2_firstWrongPoint 48 = .ok (.invokestatic 43, 3) := by decide +kernel
theorem dX2_firstWrongPoint_51 : decode cX2_firstWrongPoint 51 = .ok (.istore_n 1, 1) := by decide +kernel
theorem dX2_firstWrongPoint_52 : decode cX2_firstWrongPoint 52 = .ok (.iload_n 1, 1) := by decide +kernel
theorem dX2_firstWrongPoint_53 : decode cX2_firstWrongPoint 53 = .ok (.aload_n 0, 1) := by decide +kernel
theorem dX2_firstWrongPoint_54 : decode cX2_firstWrongPoint 54 = .ok (.aload_n 0, 1) := by decide +kernel
theorem dX2_firstWrongPoint_55 : decode cX2_firstWrongPoint 55 = .ok (.getfield 9, 3) := by decide +kernel
theorem dX2_firstWrongPoint_58 : decode cX2_firstWrongPoint 58 = .ok (.iload_n 2, 1) := by decide +kernel
theorem dX2_firstWrongPoint_59 : decode cX2_firstWrongPoint 59 = .ok (.iaload, 1) := by decide +kernel
theorem dX2_firstWrongPoint_60 : decode cX2_firstWrongPoint 60 = .ok (.invokestatic 29, 3) := by decide +kernel
theorem dX2_firstWrongPoint_63 : decode cX2_firstWrongPoint 63 = .ok (.invokevirtual 40, 3) := by decide +kernel
theorem dX2_firstWrongPoint_66 : decode cX2_firstWrongPoint 66 = .ok (.invokestatic 43, 3) := by decide +kernel
theorem dX2_firstWrongPoint_69 : decode cX2_firstWrongPoint 69 = .ok (.istore_n 1, 1) := by decide +kernel
theorem dX2_firstWrongPoint_70 : decode cX2_firstWrongPoint 70 = .ok (.iinc 2 1, 3) := by decide +kernel
theorem dX2_firstWrongPoint_73 : decode cX2_firstWrongPoint 73 = .ok (.goto (-56), 3) := by decide +kernel
theorem dX2_firstWrongPoint_76 : decode cX2_firstWrongPoint 76 = .ok (.iload_n 1, 1) := by decide +kernel
theorem dX2_firstWrongPoint_77 : decode cX2_firstWrongPoint 77 = .ok (.sipush 1024, 3) := by decide +kernel
theorem dX2_firstWrongPoint_80 : decode cX2_firstWrongPoint 80 = .ok (.if_icmp .ne 7, 3) := by decide +kernel
theorem dX2_firstWrongPoint_83 : decode cX2_firstWrongPoint 83 = .ok (.iconst (-1), 1) := by decide +kernel
theorem dX2_firstWrongPoint_84 : decode cX2_firstWrongPoint 84 = .ok (.goto 4, 3) := by decide +kernel
theorem dX2_firstWrongPoint_87 : decode cX2_firstWrongPoint 87 = .ok (.iload_n 1, 1) := by decide +kernel
theorem dX2_firstWrongPoint_88 : decode cX2_firstWrongPoint 88 = .ok (.ireturn, 1) := by decide +kernel
theorem dX2_wrongOrNoPoint_0 : decode cX2_wrongOrNoPoint 0 = .ok (.aload_n 0, 1) := by decide +kernel
theorem dX2_wrongOrNoPoint_1 : decode cX2_wrongOrNoPoint 1 = .ok (.iload_n 1, 1) := by decide +kernel
theorem dX2_wrongOrNoPoint_2 : decode cX2_wrongOrNoPoint 2 = .ok (.invokevirtual 49, 3) := by decide +kernel
theorem dX2_wrongOrNoPoint_5 : decode cX2_wrongOrNoPoint 5 = .ok (.iconst 2, 1) := by decide +kernel
theorem dX2_wrongOrNoPoint_6 : decode cX2_wrongOrNoPoint 6 = .ok (.if_icmp .ne 9, 3) := by decide +kernel
theorem dX2_wrongOrNoPoint_9 : decode cX2_wrongOrNoPoint 9 = .ok (.sipush 1024, 3) := by decide +kernel
theorem dX2_wrongOrNoPoint_12 : decode cX2_wrongOrNoPoint 12 = .ok (.goto 4, 3) := by decide +kernel
theorem dX2_wrongOrNoPoint_15 : decode cX2_wrongOrNoPoint 15 = .ok (.iload_n 1, 1) := by decide +kernel
theorem dX2_wrongOrNoPoint_16 : decode cX2_wrongOrNoPoint 16 = .ok (.ireturn, 1) := by decide +kernel
theorem dX2_strokesAt_0 : decode cX2_strokesAt 0 = .ok (.iconst 0, 1) := by decide +kernel
theorem dX2_strokesAt_1 : decode cX2_strokesAt 1 = .ok (.istore_n 2, 1) := by decide +kernel
theorem dX2_strokesAt_2 : decode cX2_strokesAt 2 = .ok (.iconst 0, 1) := by decide +kernel
theorem dX2_strokesAt_3 : decode cX2_strokesAt 3 = .ok (.istore_n 3, 1) := by decide +kernel
theorem dX2_strokesAt_4 : decode cX2_strokesAt 4 = .ok (.iload_n 3, 1) := by decide +kernel
theorem dX2_strokesAt_5 : decode cX2_strokesAt 5 = .ok (.aload_n 0, 1) := by decide +kernel
theorem dX2_strokesAt_6 : decode cX2_strokesAt 6 = .ok (.getfield 15, 3) := by decide +kernel
theorem dX2_strokesAt_9 : decode cX2_strokesAt 9 = .ok (.if_icmp .ge 47, 3) := by decide +kernel
theorem dX2_strokesAt_12 : decode cX2_strokesAt 12 = .ok (.iload_n 3, 1) := by decide +kernel
theorem dX2_strokesAt_13 : decode cX2_strokesAt 13 = .ok (.aload_n 0, 1) := by decide +kernel
theorem dX2_strokesAt_14 : decode cX2_strokesAt 14 = .ok (.getfield 9, 3) := by decide +kernel
theorem dX2_strokesAt_17 : decode cX2_strokesAt 17 = .ok (.arraylength, 1) := by decide +kernel
theorem dX2_strokesAt_18 : decode cX2_strokesAt 18 = .ok (.if_icmp .ge 38, 3) := by decide +kernel
theorem dX2_strokesAt_21 : decode cX2_strokesAt 21 = .ok (.aload_n 0, 1) := by decide +kernel
theorem dX2_strokesAt_22 : decode cX2_strokesAt 22 = .ok (.getfield 9, 3) := by decide +kernel
theorem dX2_strokesAt_25 : decode cX2_strokesAt 25 = .ok (.iload_n 3, 1) := by decide +kernel
theorem dX2_strokesAt_26 : decode cX2_strokesAt 26 = .ok (.iaload, 1) := by decide +kernel
theorem dX2_strokesAt_27 : decode cX2_strokesAt 27 = .ok (.invokestatic 25, 3) := by decide +kernel
theorem dX2_strokesAt_30 : decode cX2_strokesAt 30 = .ok (.iload_n 1, 1) := by decide +kernel
theorem dX2_strokesAt_31 : decode cX2_strokesAt 31 = .ok (.if_icmp .eq 16, 3) := by decide +kernel
theorem dX2_strokesAt_34 : decode cX2_strokesAt 34 = .ok (.aload_n 0, 1) := by decide +kernel
theorem dX2_strokesAt_35 : decode cX2_strokesAt 35 = .ok (.getfield 9, 3) := by decide +kernel
theorem dX2_strokesAt_38 : decode cX2_strokesAt 38 = .ok (.iload_n 3, 1) := by decide +kernel
theorem dX2_strokesAt_39 : decode cX2_strokesAt 39 = .ok (.iaload, 1) := by decide +kernel
theorem dX2_strokesAt_40 : decode cX2_strokesAt 40 = .ok (.invokestatic 29, 3) := by decide +kernel
theorem dX2_strokesAt_43 : decode cX2_strokesAt 43 = .ok (.iload_n 1, 1) := by decide +kernel
theorem dX2_strokesAt_44 : decode cX2_strokesAt 44 = .ok (.if_icmp .ne 6, 3) := by decide +kernel
theorem dX2_strokesAt_47 : decode cX2_strokesAt 47 = .ok (.iinc 2 1, 3) := by decide +kernel
theorem dX2_strokesAt_50 : decode cX2_strokesAt 50 = .ok (.iinc 3 1, 3) := by decide +kernel
theorem dX2_strokesAt_53 : decode cX2_strokesAt 53 = .ok (.goto (-49), 3) := by decide +kernel
theorem dX2_strokesAt_56 : decode cX2_strokesAt 56 = .ok (.iload_n 2, 1) := by decide +kernel
theorem dX2_strokesAt_57 : decode cX2_strokesAt 57 = .ok (.ireturn, 1) := by decide +kernel
theorem dX2_wide_0 : decode cX2_wide 0 = .ok (.bipush 32, 2) := by decide +kernel
theorem dX2_wide_2 : decode cX2_wide 2 = .ok (.istore_n 1, 1) := by decide +kernel
theorem dX2_wide_3 : decode cX2_wide 3 = .ok (.iconst (-1), 1) := by decide +kernel
theorem dX2_wide_4 : decode cX2_wide 4 = .ok (.istore_n 2, 1) := by decide +kernel
theorem dX2_wide_5 : decode cX2_wide 5 = .ok (.iconst 0, 1) := by decide +kernel
theorem dX2_wide_6 : decode cX2_wide 6 = .ok (.istore_n 3, 1) := by decide +kernel
theorem dX2_wide_7 : decode cX2_wide 7 = .ok (.iload_n 3, 1) := by decide +kernel
theorem dX2_wide_8 : decode cX2_wide 8 = .ok (.aload_n 0, 1) := by decide +kernel
theorem dX2_wide_9 : decode cX2_wide 9 = .ok (.getfield 15, 3) := by decide +kernel
theorem dX2_wide_12 : decode cX2_wide 12 = .ok (.if_icmp .ge 70, 3) := by decide +kernel
theorem dX2_wide_15 : decode cX2_wide 15 = .ok (.iload_n 3, 1) := by decide +kernel
theorem dX2_wide_16 : decode cX2_wide 16 = .ok (.aload_n 0, 1) := by decide +kernel
theorem dX2_wide_17 : decode cX2_wide 17 = .ok (.getfield 9, 3) := by decide +kernel
theorem dX2_wide_20 : decode cX2_wide 20 = .ok (.arraylength, 1) := by decide +kernel
theorem dX2_wide_21 : decode cX2_wide 21 = .ok (.if_icmp .ge 61, 3) := by decide +kernel
theorem dX2_wide_24 : decode cX2_wide 24 = .ok (.aload_n 0, 1) := by decide +kernel
theorem dX2_wide_25 : decode cX2_wide 25 = .ok (.getfield 9, 3) := by decide +kernel
theorem dX2_wide_28 : decode cX2_wide 28 = .ok (.iload_n 3, 1) := by decide +kernel
theorem dX2_wide_29 : decode cX2_wide 29 = .ok (.iaload, 1) := by decide +kernel
theorem dX2_wide_30 : decode cX2_wide 30 = .ok (.invokestatic 25, 3) := by decide +kernel
theorem dX2_wide_33 : decode cX2_wide 33 = .ok (.invokestatic 52, 3) := by decide +kernel
theorem dX2_wide_36 : decode cX2_wide 36 = .ok (.istore 4, 2) := by decide +kernel
theorem dX2_wide_38 : decode cX2_wide 38 = .ok (.aload_n 0, 1) := by decide +kernel
theorem dX2_wide_39 : decode cX2_wide 39 = .ok (.getfield 9, 3) := by decide +kernel
theorem dX2_wide_42 : decode cX2_wide 42 = .ok (.iload_n 3, 1) := by decide +kernel
theorem dX2_wide_43 : decode cX2_wide 43 = .ok (.iaload, 1) := by decide +kernel
theorem dX2_wide_44 : decode cX2_wide 44 = .ok (.invokestatic 29, 3) := by decide +kernel
theorem dX2_wide_47 : decode cX2_wide 47 = .ok (.invokestatic 52, 3) := by decide +kernel
theorem dX2_wide_50 : decode cX2_wide 50 = .ok (.istore 5, 2) := by decide +kernel
theorem dX2_wide_52 : decode cX2_wide 52 = .ok (.iload_n 1, 1) := by decide +kernel
theorem dX2_wide_53 : decode cX2_wide 53 = .ok (.iload 4, 2) := by decide +kernel
theorem dX2_wide_55 : decode cX2_wide 55 = .ok (.iload 5, 2) := by decide +kernel
theorem dX2_wide_57 : decode cX2_wide 57 = .ok (.invokestatic 43, 3) := by decide +kernel
theorem dX2_wide_60 : decode cX2_wide 60 = .ok (.invokestatic 43, 3) := by decide +kernel
theorem dX2_wide_63 : decode cX2_wide 63 = .ok (.istore_n 1, 1) := by decide +kernel
theorem dX2_wide_64 : decode cX2_wide 64 = .ok (.iload_n 2, 1) := by decide +kernel
theorem dX2_wide_65 : decode cX2_wide 65 = .ok (.iload 4, 2) := by decide +kernel
theorem dX2_wide_67 : decode cX2_wide 67 = .ok (.iload 5, 2) := by decide +kernel
theorem dX2_wide_69 : decode cX2_wide 69 = .ok (.invokestatic 55, 3) := by decide +kernel
theorem dX2_wide_72 : decode cX2_wide 72 = .ok (.invokestatic 55, 3) := by decide +kernel
theorem dX2_wide_75 : decode cX2_wide 75 = .ok (.istore_n 2, 1) := by decide +kernel
theorem dX2_wide_76 : decode cX2_wide 76 = .ok (.iinc 3 1, 3) := by decide +kernel
theorem dX2_wide_79 : decode cX2_wide 79 = .ok (.goto (-72), 3) := by decide +kernel
theorem dX2_wide_82 : decode cX2_wide 82 = .ok (.aload_n 0, 1) := by decide +kernel
theorem dX2_wide_83 : decode cX2_wide 83 = .ok (.getfield 15, 3) := by decide +kernel
theorem dX2_wide_86 : decode cX2_wide 86 = .ok (.ifCond .ne 7, 3) := by decide +kernel
theorem dX2_wide_89 : decode cX2_wide 89 = .ok (.iconst 0, 1) := by decide +kernel
theorem dX2_wide_90 : decode cX2_wide 90 = .ok (.goto 8, 3) := by decide +kernel
theorem dX2_wide_93 : decode cX2_wide 93 = .ok (.iload_n 2, 1) := by decide +kernel
theorem dX2_wide_94 : decode cX2_wide 94 = .ok (.iload_n 1, 1) := by decide +kernel
theorem dX2_wide_95 : decode cX2_wide 95 = .ok (.isub, 1) := by decide +kernel
theorem dX2_wide_96 : decode cX2_wide 96 = .ok (.iconst 1, 1) := by decide +kernel
theorem dX2_wide_97 : decode cX2_wide 97 = .ok (.iadd, 1) := by decide +kernel
theorem dX2_wide_98 : decode cX2_wide 98 = .ok (.ireturn, 1) := by decide +kernel
theorem dX2_high_0 : decode cX2_high 0 = .ok (.bipush 32, 2) := by decide +kernel
theorem dX2_high_2 : decode cX2_high 2 = .ok (.istore_n 1, 1) := by decide +kernel
theorem dX2_high_3 : decode cX2_high 3 = .ok (.iconst (-1), 1) := by decide +kernel
theorem dX2_high_4 : decode cX2_high 4 = .ok (.istore_n 2, 1) := by decide +kernel
theorem dX2_high_5 : decode cX2_high 5 = .ok (.iconst 0, 1) := by decide +kernel
theorem dX2_high_6 : decode cX2_high 6 = .ok (.istore_n 3, 1) := by decide +kernel
theorem dX2_high_7 : decode cX2_high 7 = .ok (.iload_n 3, 1) := by decide +kernel
theorem dX2_high_8 : decode cX2_high 8 = .ok (.aload_n 0, 1) := by decide +kernel
theorem dX2_high_9 : decode cX2_high 9 = .ok (.getfield 15, 3) := by decide +kernel
theorem dX2_high_12 : decode cX2_high 12 = .ok (.if_icmp .ge 70, 3) := by decide +kernel
theorem dX2_high_15 : decode cX2_high 15 = .ok (.iload_n 3, 1) := by decide +kernel
theorem dX2_high_16 : decode cX2_high 16 = .ok (.aload_n 0, 1) := by decide +kernel
theorem dX2_high_17 : decode cX2_high 17 = .ok (.getfield 9, 3) := by decide +kernel
theorem dX2_high_20 : decode cX2_high 20 = .ok (.arraylength, 1) := by decide +kernel
theorem dX2_high_21 : decode cX2_high 21 = .ok (.if_icmp .ge 61, 3) := by decide +kernel
theorem dX2_high_24 : decode cX2_high 24 = .ok (.aload_n 0, 1) := by decide +kernel
theorem dX2_high_25 : decode cX2_high 25 = .ok (.getfield 9, 3) := by decide +kernel
theorem dX2_high_28 : decode cX2_high 28 = .ok (.iload_n 3, 1) := by decide +kernel
theorem dX2_high_29 : decode cX2_high 29 = .ok (.iaload, 1) := by decide +kernel
theorem dX2_high_30 : decode cX2_high 30 = .ok (.invokestatic 25, 3) := by decide +kernel
theorem dX2_high_33 : decode cX2_high 33 = .ok (.invokestatic 58, 3) := by decide +kernel
theorem dX2_high_36 : decode cX2_high 36 = .ok (.istore 4, 2) := by decide +kernel
theorem dX2_high_38 : decode cX2_high 38 = .ok (.aload_n 0, 1) := by decide +kernel
theorem dX2_high_39 : decode cX2_high 39 = .ok (.getfield 9, 3) := by decide +kernel
theorem dX2_high_42 : decode cX2_high 42 = .ok (.iload_n 3, 1) := by decide +kernel
theorem dX2_high_43 : decode cX2_high 43 = .ok (.iaload, 1) := by decide +kernel
theorem dX2_high_44 : decode cX2_high 44 = .ok (.invokestatic 29, 3) := by decide +kernel
theorem dX2_high_47 : decode cX2_high 47 = .ok (.invokestatic 58, 3) := by decide +kernel
theorem dX2_high_50 : decode cX2_high 50 = .ok (.istore 5, 2) := by decide +kernel
theorem dX2_high_52 : decode cX2_high 52 = .ok (.iload_n 1, 1) := by decide +kernel
theorem dX2_high_53 : decode cX2_high 53 = .ok (.iload 4, 2) := by decide +kernel
theorem dX2_high_55 : decode cX2_high 55 = .ok (.iload 5, 2) := by decide +kernel
theorem dX2_high_57 : decode cX2_high 57 = .ok (.invokestatic 43, 3) := by decide +kernel
theorem dX2_high_60 : decode cX2_high 60 = .ok (.invokestatic 43, 3) := by decide +kernel
theorem dX2_high_63 : decode cX2_high 63 = .ok (.istore_n 1, 1) := by decide +kernel
theorem dX2_high_64 : decode cX2_high 64 = .ok (.iload_n 2, 1) := by decide +kernel
theorem dX2_high_65 : decode cX2_high 65 = .ok (.iload 4, 2) := by decide +kernel
theorem dX2_high_67 : decode cX2_high 67 = .ok (.iload 5, 2) := by decide +kernel
theorem dX2_high_69 : decode cX2_high 69 = .ok (.invokestatic 55, 3) := by decide +kernel
theorem dX2_high_72 : decode cX2_high 72 = .ok (.invokestatic 55, 3) := by decide +kernel
theorem dX2_high_75 : decode cX2_high 75 = .ok (.istore_n 2, 1) := by decide +kernel
theorem dX2_high_76 : decode cX2_high 76 = .ok (.iinc 3 1, 3) := by decide +kernel
theorem dX2_high_79 : decode cX2_high 79 = .ok (.goto (-72), 3) := by decide +kernel
theorem dX2_high_82 : decode cX2_high 82 = .ok (.aload_n 0, 1) := by decide +kernel
theorem dX2_high_83 : decode cX2_high 83 = .ok (.getfield 15, 3) := by decide +kernel
theorem dX2_high_86 : decode cX2_high 86 = .ok (.ifCond .ne 7, 3) := by decide +kernel
theorem dX2_high_89 : decode cX2_high 89 = .ok (.iconst 0, 1) := by decide +kernel
theorem dX2_high_90 : decode cX2_high 90 = .ok (.goto 8, 3) := by decide +kernel
theorem dX2_high_93 : decode cX2_high 93 = .ok (.iload_n 2, 1) := by decide +kernel
theorem dX2_high_94 : decode cX2_high 94 = .ok (.iload_n 1, 1) := by decide +kernel
theorem dX2_high_95 : decode cX2_high 95 = .ok (.isub, 1) := by decide +kernel
theorem dX2_high_96 : decode cX2_high 96 = .ok (.iconst 1, 1) := by decide +kernel
theorem dX2_high_97 : decode cX2_high 97 = .ok (.iadd, 1) := by decide +kernel
theorem dX2_high_98 : decode cX2_high 98 = .ok (.ireturn, 1) := by decide +kernel
theorem dX2_sumOfStrokes_0 : decode cX2_sumOfStrokes 0 = .ok (.fconst 0, 1) := by decide +kernel
theorem dX2_sumOfStrokes_1 : decode cX2_sumOfStrokes 1 = .ok (.fstore_n 1, 1) := by decide +kernel
theorem dX2_sumOfStrokes_2 : decode cX2_sumOfStrokes 2 = .ok (.iconst 0, 1) := by decide +kernel
theorem dX2_sumOfStrokes_3 : decode cX2_sumOfStrokes 3 = .ok (.istore_n 2, 1) := by decide +kernel
theorem dX2_sumOfStrokes_4 : decode cX2_sumOfStrokes 4 = .ok (.iload_n 2, 1) := by decide +kernel
theorem dX2_sumOfStrokes_5 : decode cX2_sumOfStrokes 5 = .ok (.aload_n 0, 1) := by decide +kernel
theorem dX2_sumOfStrokes_6 : decode cX2_sumOfStrokes 6 = .ok (.getfield 15, 3) := by decide +kernel
theorem dX2_sumOfStrokes_9 : decode cX2_sumOfStrokes 9 = .ok (.if_icmp .ge 42, 3) := by decide +kernel
theorem dX2_sumOfStrokes_12 : decode cX2_sumOfStrokes 12 = .ok (.iload_n 2, 1) := by decide +kernel
theorem dX2_sumOfStrokes_13 : decode cX2_sumOfStrokes 13 = .ok (.aload_n 0, 1) := by decide +kernel
theorem dX2_sumOfStrokes_14 : decode cX2_sumOfStrokes 14 = .ok (.getfield 9, 3) := by decide +kernel
theorem dX2_sumOfStrokes_17 : decode cX2_sumOfStrokes 17 = .ok (.arraylength, 1) := by decide +kernel
theorem dX2_sumOfStrokes_18 : decode cX2_sumOfStrokes 18 = .ok (.if_icmp .ge 33, 3) := by decide +kernel
theorem dX2_sumOfStrokes_21 : decode cX2_sumOfStrokes 21 = .ok (.fload_n 1, 1) := by decide +kernel
theorem dX2_sumOfStrokes_22 : decode cX2_sumOfStrokes 22 = .ok (.aload_n 0, 1) := by decide +kernel
theorem dX2_sumOfStrokes_23 : decode cX2_sumOfStrokes 23 = .ok (.getfield 9, 3) := by decide +kernel
theorem dX2_sumOfStrokes_26 : decode cX2_sumOfStrokes 26 = .ok (.iload_n 2, 1) := by decide +kernel
theorem dX2_sumOfStrokes_27 : decode cX2_sumOfStrokes 27 = .ok (.iaload, 1) := by decide +kernel
theorem dX2_sumOfStrokes_28 : decode cX2_sumOfStrokes 28 = .ok (.invokestatic 25, 3) := by decide +kernel
theorem dX2_sumOfStrokes_31 : decode cX2_sumOfStrokes 31 = .ok (.aload_n 0, 1) := by decide +kernel
theorem dX2_sumOfStrokes_32 : decode cX2_sumOfStrokes 32 = .ok (.getfield 9, 3) := by decide +kernel
theorem dX2_sumOfStrokes_35 : decode cX2_sumOfStrokes 35 = .ok (.iload_n 2, 1) := by decide +kernel
theorem dX2_sumOfStrokes_36 : decode cX2_sumOfStrokes 36 = .ok (.iaload, 1) := by decide +kernel
theorem dX2_sumOfStrokes_37 : decode cX2_sumOfStrokes 37 = .ok (.invokestatic 29, 3) := by decide +kernel
theorem dX2_sumOfStrokes_40 : decode cX2_sumOfStrokes 40 = .ok (.invokestatic 61, 3) := by decide +kernel
theorem dX2_sumOfStrokes_43 : decode cX2_sumOfStrokes 43 = .ok (.fadd, 1) := by decide +kernel
theorem dX2_sumOfStrokes_44 : decode cX2_sumOfStrokes 44 = .ok (.fstore_n 1, 1) := by decide +kernel
theorem dX2_sumOfStrokes_45 : decode cX2_sumOfStrokes 45 = .ok (.iinc 2 1, 3) := by decide +kernel
theorem dX2_sumOfStrokes_48 : decode cX2_sumOfStrokes 48 = .ok (.goto (-44), 3) := by decide +kernel
theorem dX2_sumOfStrokes_51 : decode cX2_sumOfStrokes 51 = .ok (.fload_n 1, 1) := by decide +kernel
theorem dX2_sumOfStrokes_52 : decode cX2_sumOfStrokes 52 = .ok (.freturn, 1) := by decide +kernel
theorem dX2_fromOf_0 : decode cX2_fromOf 0 = .ok (.iload_n 0, 1) := by decide +kernel
theorem dX2_fromOf_1 : decode cX2_fromOf 1 = .ok (.sipush 1024, 3) := by decide +kernel
theorem dX2_fromOf_4 : decode cX2_fromOf 4 = .ok (.idiv, 1) := by decide +kernel
theorem dX2_fromOf_5 : decode cX2_fromOf 5 = .ok (.ireturn, 1) := by decide +kernel
theorem dX2_toOf_0 : decode cX2_toOf 0 = .ok (.iload_n 0, 1) := by decide +kernel
theorem dX2_toOf_1 : decode cX2_toOf 1 = .ok (.sipush 1024, 3) := by decide +kernel
theorem dX2_toOf_4 : decode cX2_toOf 4 = .ok (.irem, 1) := by decide +kernel
theorem dX2_toOf_5 : decode cX2_toOf 5 = .ok (.ireturn, 1) := by decide +kernel
theorem dX2_xOf_0 : decode cX2_xOf 0 = .ok (.iload_n 0, 1) := by decide +kernel
theorem dX2_xOf_1 : decode cX2_xOf 1 = .ok (.bipush 32, 2) := by decide +kernel
theorem dX2_xOf_3 : decode cX2_xOf 3 = .ok (.irem, 1) := by decide +kernel
theorem dX2_xOf_4 : decode cX2_xOf 4 = .ok (.ireturn, 1) := by decide +kernel
theorem dX2_yOf_0 : decode cX2_yOf 0 = .ok (.iload_n 0, 1) := by decide +kernel
theorem dX2_yOf_1 : decode cX2_yOf 1 = .ok (.bipush 32, 2) := by decide +kernel
theorem dX2_yOf_3 : decode cX2_yOf 3 = .ok (.idiv, 1) := by decide +kernel
theorem dX2_yOf_4 : decode cX2_yOf 4 = .ok (.ireturn, 1) := by decide +kernel
theorem dX2_distance_0 : decode cX2_distance 0 = .ok (.iload_n 0, 1) := by decide +kernel
theorem dX2_distance_1 : decode cX2_distance 1 = .ok (.invokestatic 52, 3) := by decide +kernel
theorem dX2_distance_4 : decode cX2_distance 4 = .ok (.iload_n 1, 1) := by decide +kernel
theorem dX2_distance_5 : decode cX2_distance 5 = .ok (.invokestatic 52, 3) := by decide +kernel
theorem dX2_distance_8 : decode cX2_distance 8 = .ok (.isub, 1) := by decide +kernel
theorem dX2_distance_9 : decode cX2_distance 9 = .ok (.istore_n 2, 1) := by decide +kernel
theorem dX2_distance_10 : decode cX2_distance 10 = .ok (.iload_n 0, 1) := by decide +kernel
theorem dX2_distance_11 : decode cX2_distance 11 = .ok (.invokestatic 58, 3) := by decide +kernel
theorem dX2_distance_14 : decode cX2_distance 14 = .ok (.iload_n 1, 1) := by decide +kernel
theorem dX2_distance_15 : decode cX2_distance 15 = .ok (.invokestatic 58, 3) := by decide +kernel
theorem dX2_distance_18 : decode cX2_distance 18 = .ok (.isub, 1) := by decide +kernel
theorem dX2_distance_19 : decode cX2_distance 19 = .ok (.istore_n 3, 1) := by decide +kernel
theorem dX2_distance_20 : decode cX2_distance 20 = .ok (.iload_n 2, 1) := by decide +kernel
theorem dX2_distance_21 : decode cX2_distance 21 = .ok (.iload_n 2, 1) := by decide +kernel
theorem dX2_distance_22 : decode cX2_distance 22 = .ok (.imul, 1) := by decide +kernel
theorem dX2_distance_23 : decode cX2_distance 23 = .ok (.iload_n 3, 1) := by decide +kernel
theorem dX2_distance_24 : decode cX2_distance 24 = .ok (.iload_n 3, 1) := by decide +kernel
theorem dX2_distance_25 : decode cX2_distance 25 = .ok (.imul, 1) := by decide +kernel
theorem dX2_distance_26 : decode cX2_distance 26 = .ok (.iadd, 1) := by decide +kernel
theorem dX2_distance_27 : decode cX2_distance 27 = .ok (.invokestatic 65, 3) := by decide +kernel
theorem dX2_distance_30 : decode cX2_distance 30 = .ok (.d2f, 1) := by decide +kernel
theorem dX2_distance_31 : decode cX2_distance 31 = .ok (.freturn, 1) := by decide +kernel
theorem dX2_root_0 : decode cX2_root 0 = .ok (.iload_n 0, 1) := by decide +kernel
theorem dX2_root_1 : decode cX2_root 1 = .ok (.ifCond .gt 5, 3) := by decide +kernel
theorem dX2_root_4 : decode cX2_root 4 = .ok (.dconst 0, 1) := by decide +kernel
theorem dX2_root_5 : decode cX2_root 5 = .ok (.dreturn, 1) := by decide +kernel
theorem dX2_root_6 : decode cX2_root 6 = .ok (.iload_n 0, 1) := by decide +kernel
theorem dX2_root_7 : decode cX2_root 7 = .ok (.i2d, 1) := by decide +kernel
theorem dX2_root_8 : decode cX2_root 8 = .ok (.dstore_n 1, 1) := by decide +kernel
theorem dX2_root_9 : decode cX2_root 9 = .ok (.iconst 0, 1) := by decide +kernel
theorem dX2_root_10 : decode cX2_root 10 = .ok (.istore_n 3, 1) := by decide +kernel
theorem dX2_root_11 : decode cX2_root 11 = .ok (.iload_n 3, 1) := by decide +kernel
theorem dX2_root_12 : decode cX2_root 12 = .ok (.bipush 16, 2) := by decide +kernel
theorem dX2_root_14 : decode cX2_root 14 = .ok (.if_icmp .ge 26, 3) := by decide +kernel
theorem dX2_root_17 : decode cX2_root 17 = .ok (.dload_n 1, 1) := by decide +kernel
theorem dX2_root_18 : decode cX2_root 18 = .ok (.dconst 0, 1) := by decide +kernel
theorem dX2_root_19 : decode cX2_root 19 = .ok (.dcmp .l, 1) := by decide +kernel
theorem dX2_root_20 : decode cX2_root 20 = .ok (.ifCond .le 20, 3) := by decide +kernel
theorem dX2_root_23 : decode cX2_root 23 = .ok (.dload_n 1, 1) := by decide +kernel
theorem dX2_root_24 : decode cX2_root 24 = .ok (.iload_n 0, 1) := by decide +kernel
theorem dX2_root_25 : decode cX2_root 25 = .ok (.i2d, 1) := by decide +kernel
theorem dX2_root_26 : decode cX2_root 26 = .ok (.dload_n 1, 1) := by decide +kernel
theorem dX2_root_27 : decode cX2_root 27 = .ok (.ddiv, 1) := by decide +kernel
theorem dX2_root_28 : decode cX2_root 28 = .ok (.dadd, 1) := by decide +kernel
theorem dX2_root_29 : decode cX2_root 29 = .ok (.ldc2_w 69, 3) := by decide +kernel
theorem dX2_root_32 : decode cX2_root 32 = .ok (.ddiv, 1) := by decide +kernel
theorem dX2_root_33 : decode cX2_root 33 = .ok (.dstore_n 1, 1) := by decide +kernel
theorem dX2_root_34 : decode cX2_root 34 = .ok (.iinc 3 1, 3) := by decide +kernel
theorem dX2_root_37 : decode cX2_root 37 = .ok (.goto (-26), 3) := by decide +kernel
theorem dX2_root_40 : decode cX2_root 40 = .ok (.dload_n 1, 1) := by decide +kernel
theorem dX2_root_41 : decode cX2_root 41 = .ok (.dreturn, 1) := by decide +kernel
theorem dX3_init_0 : decode cX3_init 0 = .ok (.aload_n 0, 1) := by decide +kernel
theorem dX3_init_1 : decode cX3_init 1 = .ok (.invokespecial 1, 3) := by decide +kernel
theorem dX3_init_4 : decode cX3_init 4 = .ok (.aload_n 0, 1) := by decide +kernel
theorem dX3_init_5 : decode cX3_init 5 = .ok (.iload_n 1, 1) := by decide +kernel
theorem dX3_init_6 : decode cX3_init 6 = .ok (.putfield 7, 3) := by decide +kernel
theorem dX3_init_9 : decode cX3_init 9 = .ok (.return_, 1) := by decide +kernel
theorem dX3_begin_0 : decode cX3_begin 0 = .ok (.aload_n 0, 1) := by decide +kernel
theorem dX3_begin_1 : decode cX3_begin 1 = .ok (.aload_n 1, 1) := by decide +kernel
theorem dX3_begin_2 : decode cX3_begin 2 = .ok (.putfield 13, 3) := by decide +kernel
theorem dX3_begin_5 : decode cX3_begin 5 = .ok (.aload_n 0, 1) := by decide +kernel
theorem dX3_begin_6 : decode cX3_begin 6 = .ok (.iload_n 2, 1) := by decide +kernel
theorem dX3_begin_7 : decode cX3_begin 7 = .ok (.putfield 17, 3) := by decide +kernel
theorem dX3_begin_10 : decode cX3_begin 10 = .ok (.aload_n 0, 1) := by decide +kernel
theorem dX3_begin_11 : decode cX3_begin 11 = .ok (.iload_n 3, 1) := by decide +kernel
theorem dX3_begin_12 : decode cX3_begin 12 = .ok (.putfield 20, 3) := by decide +kernel
theorem dX3_begin_15 : decode cX3_begin 15 = .ok (.aload_n 0, 1) := by decide +kernel
theorem dX3_begin_16 : decode cX3_begin 16 = .ok (.iload 4, 2) := by decide +kernel
theorem dX3_begin_18 : decode cX3_begin 18 = .ok (.putfield 23, 3) := by decide +kernel
theorem dX3_begin_21 : decode cX3_begin 21 = .ok (.aload_n 0, 1) := by decide +kernel
theorem dX3_begin_22 : decode cX3_begin 22 = .ok (.iload 5, 2) := by decide +kernel
theorem dX3_begin_24 : decode cX3_begin 24 = .ok (.putfield 26, 3) := by decide +kernel
theorem dX3_begin_27 : decode cX3_begin 27 = .ok (.aload_n 0, 1) := by decide +kernel
theorem dX3_begin_28 : decode cX3_begin 28 = .ok (.iload 6, 2) := by decide +kernel
theorem dX3_begin_30 : decode cX3_begin 30 = .ok (.putfield 29, 3) := by decide +kernel
theorem dX3_begin_33 : decode cX3_begin 33 = .ok (.aload_n 0, 1) := by decide +kernel
theorem dX3_begin_34 : decode cX3_begin 34 = .ok (.iconst 0, 1) := by decide +kernel
theorem dX3_begin_35 : decode cX3_begin 35 = .ok (.putfield 32, 3) := by decide +kernel
theorem dX3_begin_38 : decode cX3_begin 38 = .ok (.aload_n 0, 1) := by decide +kernel
theorem dX3_begin_39 : decode cX3_begin 39 = .ok (.invokevirtual 35, 3) := by decide +kernel
theorem dX3_begin_42 : decode cX3_begin 42 = .ok (.return_, 1) := by decide +kernel
theorem dX3_holds_0 : decode cX3_holds 0 = .ok (.aload_n 0, 1) := by decide +kernel
theorem dX3_holds_1 : decode cX3_holds 1 = .ok (.getfield 32, 3) := by decide +kernel
theorem dX3_holds_4 : decode cX3_holds 4 = .ok (.ifCond .ne 23, 3) := by decide +kernel
theorem dX3_holds_7 : decode cX3_holds 7 = .ok (.aload_n 0, 1) := by decide +kernel
theorem dX3_holds_8 : decode cX3_holds 8 = .ok (.getfield 26, 3) := by decide +kernel
theorem dX3_holds_11 : decode cX3_holds 11 = .ok (.iload_n 1, 1) := by decide +kernel
theorem dX3_holds_12 : decode cX3_holds 12 = .ok (.if_icmp .lt 15, 3) := by decide +kernel
theorem dX3_holds_15 : decode cX3_holds 15 = .ok (.aload_n 0, 1) := by decide +kernel
theorem dX3_holds_16 : decode cX3_holds 16 = .ok (.getfield 29, 3) := by decide +kernel
theorem dX3_holds_19 : decode cX3_holds 19 = .ok (.iload_n 2, 1) := by decide +kernel
theorem dX3_holds_20 : decode cX3_holds 20 = .ok (.if_icmp .lt 7, 3) := by decide +kernel
theorem dX3_holds_23 : decode cX3_holds 23 = .ok (.iconst 1, 1) := by decide +kernel
theorem dX3_holds_24 : decode cX3_holds 24 = .ok (.goto 4, 3) := by decide +kernel
theorem dX3_holds_27 : decode cX3_holds 27 = .ok (.iconst 0, 1) := by decide +kernel
theorem dX3_holds_28 : decode cX3_holds 28 = .ok (.ireturn, 1) := by decide +kernel
theorem dX3_area_0 : decode cX3_area 0 = .ok (.aload_n 0, 1) := by decide +kernel
theorem dX3_area_1 : decode cX3_area 1 = .ok (.getfield 26, 3) := by decide +kernel
theorem dX3_area_4 : decode cX3_area 4 = .ok (.aload_n 0, 1) := by decide +kernel
theorem dX3_area_5 : decode cX3_area 5 = .ok (.getfield 29, 3) := by decide +kernel
theorem dX3_area_8 : decode cX3_area 8 = .ok (.imul, 1) := by decide +kernel
theorem dX3_area_9 : decode cX3_area 9 = .ok (.ireturn, 1) := by decide +kernel
theorem dX3_touches_0 : decode cX3_touches 0 = .ok (.aload_n 0, 1) := by decide +kernel
theorem dX3_touches_1 : decode cX3_touches 1 = .ok (.getfield 17, 3) := by decide +kernel
theorem dX3_touches_4 : decode cX3_touches 4 = .ok (.aload_n 1, 1) := by decide +kernel
theorem dX3_touches_5 : decode cX3_touches 5 = .ok (.getfield 17, 3) := by decide +kernel
theorem dX3_touches_8 : decode cX3_touches 8 = .ok (.if_icmp .ne 71, 3) := by decide +kernel
theorem dX3_touches_11 : decode cX3_touches 11 = .ok (.aload_n 0, 1) := by decide +kernel
theorem dX3_touches_12 : decode cX3_touches 12 = .ok (.getfield 20, 3) := by decide +kernel
theorem dX3_touches_15 : decode cX3_touches 15 = .ok (.aload_n 1, 1) := by decide +kernel
theorem dX3_touches_16 : decode cX3_touches 16 = .ok (.getfield 20, 3) := by decide +kernel
theorem dX3_touches_19 : decode cX3_touches 19 = .ok (.aload_n 1, 1) := by decide +kernel
theorem dX3_touches_20 : decode cX3_touches 20 = .ok (.getfield 26, 3) := by decide +kernel
theorem dX3_touches_23 : decode cX3_touches 23 = .ok (.iadd, 1) := by decide +kernel
theorem dX3_touches_24 : decode cX3_touches 24 = .ok (.if_icmp .gt 55, 3) := by decide +kernel
theorem dX3_touches_27 : decode cX3_touches 27 = .ok (.aload_n 1, 1) := by decide +kernel
theorem dX3_touches_28 : decode cX3_touches 28 = .ok (.getfield 20, 3) := by decide +kernel
theorem dX3_touches_31 : decode cX3_touches 31 = .ok (.aload_n 0, 1) := by decide +kernel
theorem dX3_touches_32 : decode cX3_touches 32 = .ok (.getfield 20, 3) := by decide +kernel
theorem dX3_touches_35 : decode cX3_touches 35 = .ok (.aload_n 0, 1) := by decide +kernel
theorem dX3_touches_36 : decode cX3_touches 36 = .ok (.getfield 26, 3) := by decide +kernel
theorem dX3_touches_39 : decode cX3_touches 39 = .ok (.iadd, 1) := by decide +kernel
theorem dX3_touches_40 : decode cX3_touches 40 = .ok (.if_icmp .gt 39, 3) := by decide +kernel
theorem dX3_touches_43 : decode cX3_touches 43 = .ok (.aload_n 0, 1) := by decide +kernel
theorem dX3_touches_44 : decode cX3_touches 44 = .ok (.getfield 23, 3) := by decide +kernel
theorem dX3_touches_47 : decode cX3_touches 47 = .ok (.aload_n 1, 1) := by decide +kernel
theorem dX3_touches_48 : decode cX3_touches 48 = .ok (.getfield 23, 3) := by decide +kernel
theorem dX3_touches_51 : decode cX3_touches 51 = .ok (.aload_n 1, 1) := by decide +kernel
theorem dX3_touches_52 : decode cX3_touches 52 = .ok (.getfield 29, 3) := by decide +kernel
theorem dX3_touches_55 : decode cX3_touches 55 = .ok (.iadd, 1) := by decide +kernel
theorem dX3_touches_56 : decode cX3_touches 56 = .ok (.if_icmp .gt 23, 3) := by decide +kernel
theorem dX3_touches_59 : decode cX3_touches 59 = .ok (.aload_n 1, 1) := by decide +kernel
theorem dX3_touches_60 : decode cX3_touches 60 = .ok (.getfield 23, 3) := by decide +kernel
theorem dX3_touches_63 : decode cX3_touches 63 = .ok (.aload_n 0, 1) := by decide +kernel
theorem dX3_touches_64 : decode cX3_touches 64 = .ok (.getfield 23, 3) := by decide +kernel
theorem dX3_touches_67 : decode cX3_touches 67 = .ok (.aload_n 0, 1) := by decide +kernel
theorem dX3_touches_68 : decode cX3_touches 68 = .ok (.getfield 29, 3) := by decide +kernel
theorem dX3_touches_71 : decode cX3_touches 71 = .ok (.iadd, 1) := by decide +kernel
theorem dX3_touches_72 : decode cX3_touches 72 = .ok (.if_icmp .gt 7, 3) := by decide +kernel
theorem dX3_touches_75 : decode cX3_touches 75 = .ok (.iconst 1, 1) := by decide +kernel
theorem dX3_touches_76 : decode cX3_touches 76 = .ok (.goto 4, 3) := by decide +kernel
theorem dX3_touches_79 : decode cX3_touches 79 = .ok (.iconst 0, 1) := by decide +kernel
theorem dX3_touches_80 : decode cX3_touches 80 = .ok (.ireturn, 1) := by decide +kernel
theorem dX3_release_0 : decode cX3_release 0 = .ok (.aload_n 0, 1) := by decide +kernel
theorem dX3_release_1 : decode cX3_release 1 = .ok (.iconst 0, 1) := by decide +kernel
theorem dX3_release_2 : decode cX3_release 2 = .ok (.putfield 32, 3) := by decide +kernel
theorem dX3_release_5 : decode cX3_release 5 = .ok (.aload_n 0, 1) := by decide +kernel
theorem dX3_release_6 : decode cX3_release 6 = .ok (.getfield 13, 3) := by decide +kernel
theorem dX3_release_9 : decode cX3_release 9 = .ok (.astore_n 1, 1) := by decide +kernel
theorem dX3_release_10 : decode cX3_release 10 = .ok (.aload_n 1, 1) := by decide +kernel
theorem dX3_release_11 : decode cX3_release 11 = .ok (.ifnull 27, 3) := by decide +kernel
theorem dX3_release_14 : decode cX3_release 14 = .ok (.aload_n 1, 1) := by decide +kernel
theorem dX3_release_15 : decode cX3_release 15 = .ok (.invokevirtual 38, 3) := by decide +kernel
theorem dX3_release_18 : decode cX3_release 18 = .ok (.ifCond .eq 20, 3) := by decide +kernel
theorem dX3_release_21 : decode cX3_release 21 = .ok (.aload_n 1, 1) := by decide +kernel
theorem dX3_release_22 : decode cX3_release 22 = .ok (.invokevirtual 42, 3) := by decide +kernel
theorem dX3_release_25 : decode cX3_release 25 = .ok (.aload_n 1, 1) := by decide +kernel
theorem dX3_release_26 : decode cX3_release 26 = .ok (.iconst 0, 1) := by decide +kernel
theorem dX3_release_27 : decode cX3_release 27 = .ok (.putfield 32, 3) := by decide +kernel
theorem dX3_release_30 : decode cX3_release 30 = .ok (.aload_n 1, 1) := by decide +kernel
theorem dX3_release_31 : decode cX3_release 31 = .ok (.getfield 13, 3) := by decide +kernel
theorem dX3_release_34 : decode cX3_release 34 = .ok (.astore_n 1, 1) := by decide +kernel
theorem dX3_release_35 : decode cX3_release 35 = .ok (.goto (-25), 3) := by decide +kernel
theorem dX3_release_38 : decode cX3_release 38 = .ok (.return_, 1) := by decide +kernel
theorem dX3_hasAllFree_0 : decode cX3_hasAllFree 0 = .ok (.aload_n 0, 1) := by decide +kernel
theorem dX3_hasAllFree_1 : decode cX3_hasAllFree 1 = .ok (.getfield 45, 3) := by decide +kernel
theorem dX3_hasAllFree_4 : decode cX3_hasAllFree 4 = .ok (.invokestatic 48, 3) := by decide +kernel
theorem dX3_hasAllFree_7 : decode cX3_hasAllFree 7 = .ok (.ifCond .eq 27, 3) := by decide +kernel
theorem dX3_hasAllFree_10 : decode cX3_hasAllFree 10 = .ok (.aload_n 0, 1) := by decide +kernel
theorem dX3_hasAllFree_11 : decode cX3_hasAllFree 11 = .ok (.getfield 52, 3) := by decide +kernel
theorem dX3_hasAllFree_14 : decode cX3_hasAllFree 14 = .ok (.invokestatic 48, 3) := by decide +kernel
theorem dX3_hasAllFree_17 : decode cX3_hasAllFree 17 = .ok (.ifCond .eq 17, 3) := by decide +kernel
theorem dX3_hasAllFree_20 : decode cX3_hasAllFree 20 = .ok (.aload_n 0, 1) := by decide +kernel
theorem dX3_hasAllFree_21 : decode cX3_hasAllFree 21 = .ok (.getfield 55, 3) := by decide +kernel
theorem dX3_hasAllFree_24 : decode cX3_hasAllFree 24 = .ok (.invokestatic 48, 3) := by decide +kernel
theorem dX3_hasAllFree_27 : decode cX3_hasAllFree 27 = .ok (.ifCond .eq 7, 3) := by decide +kernel
theorem dX3_hasAllFree_30 : decode cX3_hasAllFree 30 = .ok (.iconst 1, 1) := by decide +kernel
theorem dX3_hasAllFree_31 : decode cX3_hasAllFree 31 = .ok (.goto 4, 3) := by decide +kernel
theorem dX3_hasAllFree_34 : decode cX3_hasAllFree 34 = .ok (.iconst 0, 1) := by decide +kernel
theorem dX3_hasAllFree_35 : decode cX3_hasAllFree 35 = .ok (.ireturn, 1) := by decide +kernel
theorem dX3_isFreeOrNone_0 : decode cX3_isFreeOrNone 0 = .ok (.aload_n 0, 1) := by decide +kernel
theorem dX3_isFreeOrNone_1 : decode cX3_isFreeOrNone 1 = .ok (.ifnull 10, 3) := by decide +kernel
theorem dX3_isFreeOrNone_4 : decode cX3_isFreeOrNone 4 = .ok (.aload_n 0, 1) := by decide +kernel
theorem dX3_isFreeOrNone_5 : decode cX3_isFreeOrNone 5 = .ok (.getfield 32, 3) := by decide +kernel
theorem dX3_isFreeOrNone_8 : decode cX3_isFreeOrNone 8 = .ok (.ifCond .ne 7, 3) := by decide +kernel
theorem dX3_isFreeOrNone_11 : decode cX3_isFreeOrNone 11 = .ok (.iconst 1, 1) := by decide +kernel
theorem dX3_isFreeOrNone_12 : decode cX3_isFreeOrNone 12 = .ok (.goto 4, 3) := by decide +kernel
theorem dX3_isFreeOrNone_15 : decode cX3_isFreeOrNone 15 = .ok (.iconst 0, 1) := by decide +kernel
theorem dX3_isFreeOrNone_16 : decode cX3_isFreeOrNone 16 = .ok (.ireturn, 1) := by decide +kernel
theorem dX3_endPieces_0 : decode cX3_endPieces 0 = .ok (.aload_n 0, 1) := by decide +kernel
theorem dX3_endPieces_1 : decode cX3_endPieces 1 = .ok (.getfield 45, 3) := by decide +kernel
theorem dX3_endPieces_4 : decode cX3_endPieces 4 = .ok (.invokestatic 58, 3) := by decide +kernel
theorem dX3_endPieces_7 : decode cX3_endPieces 7 = .ok (.aload_n 0, 1) := by decide +kernel
theorem dX3_endPieces_8 : decode cX3_endPieces 8 = .ok (.getfield 52, 3) := by decide +kernel
theorem dX3_endPieces_11 : decode cX3_endPieces 11 = .ok (.invokestatic 58, 3) := by decide +kernel
theorem dX3_endPieces_14 : decode cX3_endPieces 14 = .ok (.aload_n 0, 1) := by decide +kernel
theorem dX3_endPieces_15 : decode cX3_endPieces 15 = .ok (.getfield 55, 3) := by decide +kernel
theorem dX3_endPieces_18 : decode cX3_endPieces 18 = .ok (.invokestatic 58, 3) := by decide +kernel
theorem dX3_endPieces_21 : decode cX3_endPieces 21 = .ok (.aload_n 0, 1) := by decide +kernel
theorem dX3_endPieces_22 : decode cX3_endPieces 22 = .ok (.invokevirtual 35, 3) := by decide +kernel
theorem dX3_endPieces_25 : decode cX3_endPieces 25 = .ok (.return_, 1) := by decide +kernel
theorem dX3_end_0 : decode cX3_end 0 = .ok (.aload_n 0, 1) := by decide +kernel
theorem dX3_end_1 : decode cX3_end 1 = .ok (.ifnull 8, 3) := by decide +kernel
theorem dX3_end_4 : decode cX3_end 4 = .ok (.aload_n 0, 1) := by decide +kernel
theorem dX3_end_5 : decode cX3_end 5 = .ok (.iconst 3, 1) := by decide +kernel
theorem dX3_end_6 : decode cX3_end 6 = .ok (.putfield 32, 3) := by decide +kernel
theorem dX3_end_9 : decode cX3_end 9 = .ok (.return_, 1) := by decide +kernel
theorem dX3_joinPieces_0 : decode cX3_joinPieces 0 = .ok (.aload_n 0, 1) := by decide +kernel
theorem dX3_joinPieces_1 : decode cX3_joinPieces 1 = .ok (.aconst_null, 1) := by decide +kernel
theorem dX3_joinPieces_2 : decode cX3_joinPieces 2 = .ok (.putfield 45, 3) := by decide +kernel
theorem dX3_joinPieces_5 : decode cX3_joinPieces 5 = .ok (.aload_n 0, 1) := by decide +kernel
theorem dX3_joinPieces_6 : decode cX3_joinPieces 6 = .ok (.aconst_null, 1) := by decide +kernel
theorem dX3_joinPieces_7 : decode cX3_joinPieces 7 = .ok (.putfield 52, 3) := by decide +kernel
theorem dX3_joinPieces_10 : decode cX3_joinPieces 10 = .ok (.aload_n 0, 1) := by decide +kernel
theorem dX3_joinPieces_11 : decode cX3_joinPieces 11 = .ok (.aconst_null, 1) := by decide +kernel
theorem dX3_joinPieces_12 : decode cX3_joinPieces 12 = .ok (.putfield 55, 3) := by decide +kernel
theorem dX3_joinPieces_15 : decode cX3_joinPieces 15 = .ok (.return_, 1) := by decide +kernel
theorem dX4_init_0 : decode cX4_init 0 = .ok (.aload_n 0, 1) := by decide +kernel
theorem dX4_init_1 : decode cX4_init 1 = .ok (.invokespecial 3, 3) := by decide +kernel
theorem dX4_init_4 : decode cX4_init 4 = .ok (.aload_n 0, 1) := by decide +kernel
theorem dX4_init_5 : decode cX4_init 5 = .ok (.new 9, 3) := by decide +kernel
theorem dX4_init_8 : decode cX4_init 8 = .ok (.dup, 1) := by decide +kernel
theorem dX4_init_9 : decode cX4_init 9 = .ok (.invokespecial 11, 3) := by decide +kernel
theorem dX4_init_12 : decode cX4_init 12 = .ok (.putfield 12, 3) := by decide +kernel
theorem dX4_init_15 : decode cX4_init 15 = .ok (.return_, 1) := by decide +kernel
theorem dX4_bring_0 : decode cX4_bring 0 = .ok (.aload_n 0, 1) := by decide +kernel
theorem dX4_bring_1 : decode cX4_bring 1 = .ok (.getfield 18, 3) := by decide +kernel
theorem dX4_bring_4 : decode cX4_bring 4 = .ok (.istore_n 3, 1) := by decide +kernel
theorem dX4_bring_5 : decode cX4_bring 5 = .ok (.aload_n 0, 1) := by decide +kernel
theorem dX4_bring_6 : decode cX4_bring 6 = .ok (.invokevirtual 22, 3) := by decide +kernel
theorem dX4_bring_9 : decode cX4_bring 9 = .ok (.aconst_null, 1) := by decide +kernel
theorem dX4_bring_10 : decode cX4_bring 10 = .ok (.iload_n 3, 1) := by decide +kernel
theorem dX4_bring_11 : decode cX4_bring 11 = .ok (.iconst 0, 1) := by decide +kernel
theorem dX4_bring_12 : decode cX4_bring 12 = .ok (.iconst 0, 1) := by decide +kernel
theorem dX4_bring_13 : decode cX4_bring 13 = .ok (.iload_n 1, 1) := by decide +kernel
theorem dX4_bring_14 : decode cX4_bring 14 = .ok (.iload_n 2, 1) := by decide +kernel
theorem dX4_bring_15 : decode cX4_bring 15 = .ok (.invokevirtual 26, 3) := by decide +kernel
theorem dX4_bring_18 : decode cX4_bring 18 = .ok (.aload_n 0, 1) := by decide +kernel
theorem dX4_bring_19 : decode cX4_bring 19 = .ok (.dup, 1) := by decide +kernel
theorem dX4_bring_20 : decode cX4_bring 20 = .ok (.getfield 18, 3) := by decide +kernel
theorem dX4_bring_23 : decode cX4_bring 23 = .ok (.iconst 1, 1) := by decide +kernel
theorem dX4_bring_24 : decode cX4_bring 24 = .ok (.iadd, 1) := by decide +kernel
theorem dX4_bring_25 : decode cX4_bring 25 = .ok (.putfield 18, 3) := by decide +kernel
theorem dX4_bring_28 : decode cX4_bring 28 = .ok (.iload_n 3, 1) := by decide +kernel
theorem dX4_bring_29 : decode cX4_bring 29 = .ok (.ireturn, 1) := by decide +kernel
theorem dX4_next_0 : decode cX4_next 0 = .ok (.aload_n 0, 1) := by decide +kernel
theorem dX4_next_1 : decode cX4_next 1 = .ok (.getfield 32, 3) := by decide +kernel
theorem dX4_next_4 : decode cX4_next 4 = .ok (.istore_n 1, 1) := by decide +kernel
theorem dX4_next_5 : decode cX4_next 5 = .ok (.aload_n 0, 1) := by decide +kernel
theorem dX4_next_6 : decode cX4_next 6 = .ok (.dup, 1) := by decide +kernel
theorem dX4_next_7 : decode cX4_next 7 = .ok (.getfield 32, 3) := by decide +kernel
theorem dX4_next_10 : decode cX4_next 10 = .ok (.iconst 1, 1) := by decide +kernel
theorem dX4_next_11 : decode cX4_next 11 = .ok (.iadd, 1) := by decide +kernel
theorem dX4_next_12 : decode cX4_next 12 = .ok (.putfield 32, 3) := by decide +kernel
theorem dX4_next_15 : decode cX4_next 15 = .ok (.iload_n 1, 1) := by decide +kernel
theorem dX4_next_16 : decode cX4_next 16 = .ok (.ifCond .lt 26, 3) := by decide +kernel
theorem dX4_next_19 : decode cX4_next 19 = .ok (.iload_n 1, 1) := by decide +kernel
theorem dX4_next_20 : decode cX4_next 20 = .ok (.aload_n 0, 1) := by decide +kernel
theorem dX4_next_21 : decode cX4_next 21 = .ok (.getfield 12, 3) := by decide +kernel
theorem dX4_next_24 : decode cX4_next 24 = .ok (.invokevirtual 35, 3) := by decide +kernel
theorem dX4_next_27 : decode cX4_next 27 = .ok (.if_icmp .ge 15, 3) := by decide +kernel
theorem dX4_next_30 : decode cX4_next 30 = .ok (.aload_n 0, 1) := by decide +kernel
theorem dX4_next_31 : decode cX4_next 31 = .ok (.getfield 12, 3) := by decide +kernel
theorem dX4_next_34 : decode cX4_next 34 = .ok (.iload_n 1, 1) := by decide +kernel
theorem dX4_next_35 : decode cX4_next 35 = .ok (.invokevirtual 39, 3) := by decide +kernel
theorem dX4_next_38 : decode cX4_next 38 = .ok (.checkcast 27, 3) := by decide +kernel
theorem dX4_next_41 : decode cX4_next 41 = .ok (.areturn, 1) := by decide +kernel
theorem dX4_next_42 : decode cX4_next 42 = .ok (.new 27, 3) := by decide +kernel
theorem dX4_next_45 : decode cX4_next 45 = .ok (.dup, 1) := by decide +kernel
theorem dX4_next_46 : decode cX4_next 46 = .ok (.iload_n 1, 1) := by decide +kernel
theorem dX4_next_47 : decode cX4_next 47 = .ok (.invokespecial 43, 3) := by decide +kernel
theorem dX4_next_50 : decode cX4_next 50 = .ok (.astore_n 2, 1) := by decide +kernel
theorem dX4_next_51 : decode cX4_next 51 = .ok (.aload_n 0, 1) := by decide +kernel
theorem dX4_next_52 : decode cX4_next 52 = .ok (.getfield 12, 3) := by decide +kernel
theorem dX4_next_55 : decode cX4_next 55 = .ok (.aload_n 2, 1) := by decide +kernel
theorem dX4_next_56 : decode cX4_next 56 = .ok (.invokevirtual 46, 3) := by decide +kernel
theorem dX4_next_59 : decode cX4_next 59 = .ok (.pop, 1) := by decide +kernel
theorem dX4_next_60 : decode cX4_next 60 = .ok (.aload_n 2, 1) := by decide +kernel
theorem dX4_next_61 : decode cX4_next 61 = .ok (.areturn, 1) := by decide +kernel
theorem dX4_lay_0 : decode cX4_lay 0 = .ok (.aload_n 0, 1) := by decide +kernel
theorem dX4_lay_1 : decode cX4_lay 1 = .ok (.iload_n 1, 1) := by decide +kernel
theorem dX4_lay_2 : decode cX4_lay 2 = .ok (.iload_n 2, 1) := by decide +kernel
theorem dX4_lay_3 : decode cX4_lay 3 = .ok (.invokevirtual 50, 3) := by decide +kernel
theorem dX4_lay_6 : decode cX4_lay 6 = .ok (.astore_n 3, 1) := by decide +kernel
theorem dX4_lay_7 : decode cX4_lay 7 = .ok (.aload_n 3, 1) := by decide +kernel
theorem dX4_lay_8 : decode cX4_lay 8 = .ok (.ifnull 20, 3) := by decide +kernel
theorem dX4_lay_11 : decode cX4_lay 11 = .ok (.aload_n 0, 1) := by decide +kernel
theorem dX4_lay_12 : decode cX4_lay 12 = .ok (.getfield 32, 3) := by decide +kernel
theorem dX4_lay_15 : decode cX4_lay 15 = .ok (.aload_n 3, 1) := by decide +kernel
theorem dX4_lay_16 : decode cX4_lay 16 = .ok (.iload_n 1, 1) := by decide +kernel
theorem dX4_lay_17 : decode cX4_lay 17 = .ok (.iload_n 2, 1) := by decide +kernel
theorem dX4_lay_18 : decode cX4_lay 18 = .ok (.invokestatic 54, 3) := by decide +kernel
theorem dX4_lay_21 : decode cX4_lay 21 = .ok (.iadd, 1) := by decide +kernel
theorem dX4_lay_22 : decode cX4_lay 22 = .ok (.sipush 400, 3) := by decide +kernel
theorem dX4_lay_25 : decode cX4_lay 25 = .ok (.if_icmp .le 5, 3) := by decide +kernel
theorem dX4_lay_28 : decode cX4_lay 28 = .ok (.aconst_null, 1) := by decide +kernel
theorem dX4_lay_29 : decode cX4_lay 29 = .ok (.areturn, 1) := by decide +kernel
theorem dX4_lay_30 : decode cX4_lay 30 = .ok (.aload_n 0, 1) := by decide +kernel
theorem dX4_lay_31 : decode cX4_lay 31 = .ok (.aload_n 3, 1) := by decide +kernel
theorem dX4_lay_32 : decode cX4_lay 32 = .ok (.aload_n 3, 1) := by decide +kernel
theorem dX4_lay_33 : decode cX4_lay 33 = .ok (.getfield 58, 3) := by decide +kernel
theorem dX4_lay_36 : decode cX4_lay 36 = .ok (.aload_n 3, 1) := by decide +kernel
theorem dX4_lay_37 : decode cX4_lay 37 = .ok (.getfield 61, 3) := by decide +kernel
theorem dX4_lay_40 : decode cX4_lay 40 = .ok (.iload_n 1, 1) := by decide +kernel
theorem dX4_lay_41 : decode cX4_lay 41 = .ok (.iload_n 2, 1) := by decide +kernel
theorem dX4_lay_42 : decode cX4_lay 42 = .ok (.invokevirtual 64, 3) := by decide +kernel
theorem dX4_lay_45 : decode cX4_lay 45 = .ok (.astore 4, 2) := by decide +kernel
theorem dX4_lay_47 : decode cX4_lay 47 = .ok (.aload 4, 2) := by decide +kernel
theorem dX4_lay_49 : decode cX4_lay 49 = .ok (.iconst 1, 1) := by decide +kernel
theorem dX4_lay_50 : decode cX4_lay 50 = .ok (.putfield 68, 3) := by decide +kernel
theorem dX4_lay_53 : decode cX4_lay 53 = .ok (.aload_n 3, 1) := by decide +kernel
theorem dX4_lay_54 : decode cX4_lay 54 = .ok (.iconst 2, 1) := by decide +kernel
theorem dX4_lay_55 : decode cX4_lay 55 = .ok (.putfield 68, 3) := by decide +kernel
theorem dX4_lay_58 : decode cX4_lay 58 = .ok (.aload_n 3, 1) := by decide +kernel
theorem dX4_lay_59 : decode cX4_lay 59 = .ok (.aload 4, 2) := by decide +kernel
theorem dX4_lay_61 : decode cX4_lay 61 = .ok (.putfield 71, 3) := by decide +kernel
theorem dX4_lay_64 : decode cX4_lay 64 = .ok (.aload_n 3, 1) := by decide +kernel
theorem dX4_lay_65 : decode cX4_lay 65 = .ok (.getfield 75, 3) := by decide +kernel
theorem dX4_lay_68 : decode cX4_lay 68 = .ok (.iload_n 1, 1) := by decide +kernel
theorem dX4_lay_69 : decode cX4_lay 69 = .ok (.if_icmp .le 29, 3) := by decide +kernel
theorem dX4_lay_72 : decode cX4_lay 72 = .ok (.aload_n 3, 1) := by decide +kernel
theorem dX4_lay_73 : decode cX4_lay 73 = .ok (.aload_n 0, 1) := by decide +kernel
theorem dX4_lay_74 : decode cX4_lay 74 = .ok (.aload_n 3, 1) := by decide +kernel
theorem dX4_lay_75 : decode cX4_lay 75 = .ok (.aload_n 3, 1) := by decide +kernel
theorem dX4_lay_76 : decode cX4_lay 76 = .ok (.getfield 58, 3) := by decide +kernel
theorem dX4_lay_79 : decode cX4_lay 79 = .ok (.iload_n 1, 1) := by decide +kernel
theorem dX4_lay_80 : decode cX4_lay 80 = .ok (.iadd, 1) := by decide +kernel
theorem dX4_lay_81 : decode cX4_lay 81 = .ok (.aload_n 3, 1) := by decide +kernel
theorem dX4_lay_82 : decode cX4_lay 82 = .ok (.getfield 61, 3) := by decide +kernel
theorem dX4_lay_85 : decode cX4_lay 85 = .ok (.aload_n 3, 1) := by decide +kernel
theorem dX4_lay_86 : decode cX4_lay 86 = .ok (.getfield 75, 3) := by decide +kernel
theorem dX4_lay_89 : decode cX4_lay 89 = .ok (.iload_n 1, 1) := by decide +kernel
theorem dX4_lay_90 : decode cX4_lay 90 = .ok (.isub, 1) := by decide +kernel
theorem dX4_lay_91 : decode cX4_lay 91 = .ok (.iload_n 2, 1) := by decide +kernel
theorem dX4_lay_92 : decode cX4_lay 92 = .ok (.invokevirtual 64, 3) := by decide +kernel
theorem dX4_lay_95 : decode cX4_lay 95 = .ok (.putfield 78, 3) := by decide +kernel
theorem dX4_lay_98 : decode cX4_lay 98 = .ok (.aload_n 3, 1) := by decide +kernel
theorem dX4_lay_99 : decode cX4_lay 99 = .ok (.getfield 81, 3) := by decide +kernel
theorem dX4_lay_102 : decode cX4_lay 102 = .ok (.iload_n 2, 1) := by decide +kernel
theorem dX4_lay_103 : decode cX4_lay 103 = .ok (.if_icmp .le 32, 3) := by decide +kernel
theorem dX4_lay_106 : decode cX4_lay 106 = .ok (.aload_n 3, 1) := by decide +kernel
theorem dX4_lay_107 : decode cX4_lay 107 = .ok (.aload_n 0, 1) := by decide +kernel
theorem dX4_lay_108 : decode cX4_lay 108 = .ok (.aload_n 3, 1) := by decide +kernel
theorem dX4_lay_109 : decode cX4_lay 109 = .ok (.aload_n 3, 1) := by decide +kernel
theorem dX4_lay_110 : decode cX4_lay 110 = .ok (.getfield 58, 3) := by decide +kernel
theorem dX4_lay_113 : decode cX4_lay 113 = .ok (.aload_n 3, 1) := by decide +kernel
theorem dX4_lay_114 : decode cX4_lay 114 = .ok (.getfield 61, 3) := by decide +kernel
theorem dX4_lay_117 : decode cX4_lay 117 = .ok (.iload_n 2, 1) := by decide +kernel
theorem dX4_lay_118 : decode cX4_lay 118 = .ok (.iadd, 1) := by decide +kernel
theorem dX4_lay_119 : decode cX4_lay 119 = .ok (.aload_n 3, 1) := by decide +kernel
theorem dX4_lay_120 : decode cX4_lay 120 = .ok (.getfield 75, 3) := by decide +kernel
theorem dX4_lay_123 : decode cX4_lay 123 = .ok (.aload_n 3, 1) := by decide +kernel
theorem dX4_lay_124 : decode cX4_lay 124 = .ok (.getfield 81, 3) := by decide +kernel
theorem dX4_lay_127 : decode cX4_lay 127 = .ok (.iload_n 2, 1) := by decide +kernel
theorem dX4_lay_128 : decode cX4_lay 128 = .ok (.isub, 1) := by decide +kernel
theorem dX4_lay_129 : decode cX4_lay 129 = .ok (.invokevirtual 64, 3) := by decide +kernel
theorem dX4_lay_132 : decode cX4_lay 132 = .ok (.putfield 84, 3) := by decide +kernel
theorem dX4_lay_135 : decode cX4_lay 135 = .ok (.aload 4, 2) := by decide +kernel
theorem dX4_lay_137 : decode cX4_lay 137 = .ok (.areturn, 1) := by decide +kernel
theorem dX4_piecesOf_0 : decode cX4_piecesOf 0 = .ok (.iconst 1, 1) := by decide +kernel
theorem dX4_piecesOf_1 : decode cX4_piecesOf 1 = .ok (.aload_n 0, 1) := by decide +kernel
theorem dX4_piecesOf_2 : decode cX4_piecesOf 2 = .ok (.getfield 75, 3) := by decide +kernel
theorem dX4_piecesOf_5 : decode cX4_piecesOf 5 = .ok (.iload_n 1, 1) := by decide +kernel
theorem dX4_piecesOf_6 : decode cX4_piecesOf 6 = .ok (.if_icmp .le 7, 3) := by decide +kernel
theorem dX4_piecesOf_9 : decode cX4_piecesOf 9 = .ok (.iconst 1, 1) := by decide +kernel
theorem dX4_piecesOf_10 : decode cX4_piecesOf 10 = .ok (.goto 4, 3) := by decide +kernel
theorem dX4_piecesOf_13 : decode cX4_piecesOf 13 = .ok (.iconst 0, 1) := by decide +kernel
theorem dX4_piecesOf_14 : decode cX4_piecesOf 14 = .ok (.iadd, 1) := by decide +kernel
theorem dX4_piecesOf_15 : decode cX4_piecesOf 15 = .ok (.aload_n 0, 1) := by decide +kernel
theorem dX4_piecesOf_16 : decode cX4_piecesOf 16 = .ok (.getfield 81, 3) := by decide +kernel
theorem dX4_piecesOf_19 : decode cX4_piecesOf 19 = .ok (.iload_n 2, 1) := by decide +kernel
theorem dX4_piecesOf_20 : decode cX4_piecesOf 20 = .ok (.if_icmp .le 7, 3) := by decide +kernel
theorem dX4_piecesOf_23 : decode cX4_piecesOf 23 = .ok (.iconst 1, 1) := by decide +kernel
theorem dX4_piecesOf_24 : decode cX4_piecesOf 24 = .ok (.goto 4, 3) := by decide +kernel
theorem dX4_piecesOf_27 : decode cX4_piecesOf 27 = .ok (.iconst 0, 1) := by decide +kernel
theorem dX4_piecesOf_28 : decode cX4_piecesOf 28 = .ok (.iadd, 1) := by decide +kernel
theorem dX4_piecesOf_29 : decode cX4_piecesOf 29 = .ok (.ireturn, 1) := by decide +kernel
theorem dX4_pieceOf_0 : decode cX4_pieceOf 0 = .ok (.aload_n 0, 1) := by decide +kernel
theorem dX4_pieceOf_1 : decode cX4_pieceOf 1 = .ok (.invokevirtual 22, 3) := by decide +kernel
theorem dX4_pieceOf_4 : decode cX4_pieceOf 4 = .ok (.astore 6, 2) := by decide +kernel
theorem dX4_pieceOf_6 : decode cX4_pieceOf 6 = .ok (.aload 6, 2) := by decide +kernel
theorem dX4_pieceOf_8 : decode cX4_pieceOf 8 = .ok (.aload_n 1, 1) := by decide +kernel
theorem dX4_pieceOf_9 : decode cX4_pieceOf 9 = .ok (.aload_n 1, 1) := by decide +kernel
theorem dX4_pieceOf_10 : decode cX4_pieceOf 10 = .ok (.getfield 87, 3) := by decide +kernel
theorem dX4_pieceOf_13 : decode cX4_pieceOf 13 = .ok (.iload_n 2, 1) := by decide +kernel
theorem dX4_pieceOf_14 : decode cX4_pieceOf 14 = .ok (.iload_n 3, 1) := by decide +kernel
theorem dX4_pieceOf_15 : decode cX4_pieceOf 15 = .ok (.iload 4, 2) := by decide +kernel
theorem dX4_pieceOf_17 : decode cX4_pieceOf 17 = .ok (.iload 5, 2) := by decide +kernel
theorem dX4_pieceOf_19 : decode cX4_pieceOf 19 = .ok (.invokevirtual 26, 3) := by decide +kernel
theorem dX4_pieceOf_22 : decode cX4_pieceOf 22 = .ok (.aload 6, 2) := by decide +kernel
theorem dX4_pieceOf_24 : decode cX4_pieceOf 24 = .ok (.areturn, 1) := by decide +kernel
theorem dX4_bestFor_0 : decode cX4_bestFor 0 = .ok (.aconst_null, 1) := by decide +kernel
theorem dX4_bestFor_1 : decode cX4_bestFor 1 = .ok (.astore_n 3, 1) := by decide +kernel
theorem dX4_bestFor_2 : decode cX4_bestFor 2 = .ok (.iconst 0, 1) := by decide +kernel
theorem dX4_bestFor_3 : decode cX4_bestFor 3 = .ok (.istore 4, 2) := by decide +kernel
theorem dX4_bestFor_5 : decode cX4_bestFor 5 = .ok (.iload 4, 2) := by decide +kernel
theorem dX4_bestFor_7 : decode cX4_bestFor 7 = .ok (.aload_n 0, 1) := by decide +kernel
theorem dX4_bestFor_8 : decode cX4_bestFor 8 = .ok (.getfield 32, 3) := by decide +kernel
theorem dX4_bestFor_11 : decode cX4_bestFor 11 = .ok (.if_icmp .ge 64, 3) := by decide +kernel
theorem dX4_bestFor_14 : decode cX4_bestFor 14 = .ok (.iload 4, 2) := by decide +kernel
theorem dX4_bestFor_16 : decode cX4_bestFor 16 = .ok (.aload_n 0, 1) := by decide +kernel
theorem dX4_bestFor_17 : decode cX4_bestFor 17 = .ok (.getfield 12, 3) := by decide +kernel
theorem dX4_bestFor_20 : decode cX4_bestFor 20 = .ok (.invokevirtual 35, 3) := by decide +kernel
theorem dX4_bestFor_23 : decode cX4_bestFor 23 = .ok (.if_icmp .ge 52, 3) := by decide +kernel
theorem dX4_bestFor_26 : decode cX4_bestFor 26 = .ok (.aload_n 0, 1) := by decide +kernel
theorem dX4_bestFor_27 : decode cX4_bestFor 27 = .ok (.getfield 12, 3) := by decide +kernel
theorem dX4_bestFor_30 : decode cX4_bestFor 30 = .ok (.iload 4, 2) := by decide +kernel
theorem dX4_bestFor_32 : decode cX4_bestFor 32 = .ok (.invokevirtual 39, 3) := by decide +kernel
theorem dX4_bestFor_35 : decode cX4_bestFor 35 = .ok (.checkcast 27, 3) := by decide +kernel
theorem dX4_bestFor_38 : decode cX4_bestFor 38 = .ok (.astore 5, 2) := by decide +kernel
theorem dX4_bestFor_40 : decode cX4_bestFor 40 = .ok (.aload 5, 2) := by decide +kernel
theorem dX4_bestFor_42 : decode cX4_bestFor 42 = .ok (.iload_n 1, 1) := by decide +kernel
theorem dX4_bestFor_43 : decode cX4_bestFor 43 = .ok (.iload_n 2, 1) := by decide +kernel
theorem dX4_bestFor_44 : decode cX4_bestFor 44 = .ok (.invokevirtual 90, 3) := by decide +kernel
theorem dX4_bestFor_47 : decode cX4_bestFor 47 = .ok (.ifCond .eq 22, 3) := by decide +kernel
theorem dX4_bestFor_50 : decode cX4_bestFor 50 = .ok (.aload_n 3, 1) := by decide +kernel
theorem dX4_bestFor_51 : decode cX4_bestFor 51 = .ok (.ifnull 15, 3) := by decide +kernel
theorem dX4_bestFor_54 : decode cX4_bestFor 54 = .ok (.aload 5, 2) := by decide +kernel
theorem dX4_bestFor_56 : decode cX4_bestFor 56 = .ok (.invokevirtual 94, 3) := by decide +kernel
theorem dX4_bestFor_59 : decode cX4_bestFor 59 = .ok (.aload_n 3, 1) := by decide +kernel
theorem dX4_bestFor_60 : decode cX4_bestFor 60 = .ok (.invokevirtual 94, 3) := by decide +kernel
theorem dX4_bestFor_63 : decode cX4_bestFor 63 = .ok (.if_icmp .ge 6, 3) := by decide +kernel
theorem dX4_bestFor_66 : decode cX4_bestFor 66 = .ok (.aload 5, 2) := by decide +kernel
theorem dX4_bestFor_68 : decode cX4_bestFor 68 = .ok (.astore_n 3, 1) := by decide +kernel
theorem dX4_bestFor_69 : decode cX4_bestFor 69 = .ok (.iinc 4 1, 3) := by decide +kernel
theorem dX4_bestFor_72 : decode cX4_bestFor 72 = .ok (.goto (-67), 3) := by decide +kernel
theorem dX4_bestFor_75 : decode cX4_bestFor 75 = .ok (.aload_n 3, 1) := by decide +kernel
theorem dX4_bestFor_76 : decode cX4_bestFor 76 = .ok (.areturn, 1) := by decide +kernel
theorem dX4_undo_0 : decode cX4_undo 0 = .ok (.aload_n 1, 1) := by decide +kernel
theorem dX4_undo_1 : decode cX4_undo 1 = .ok (.invokevirtual 35, 3) := by decide +kernel
theorem dX4_undo_4 : decode cX4_undo 4 = .ok (.iconst 1, 1) := by decide +kernel
theorem dX4_undo_5 : decode cX4_undo 5 = .ok (.isub, 1) := by decide +kernel
theorem dX4_undo_6 : decode cX4_undo 6 = .ok (.istore_n 3, 1) := by decide +kernel
theorem dX4_undo_7 : decode cX4_undo 7 = .ok (.iload_n 3, 1) := by decide +kernel
theorem dX4_undo_8 : decode cX4_undo 8 = .ok (.ifCond .lt 38, 3) := by decide +kernel
theorem dX4_undo_11 : decode cX4_undo 11 = .ok (.aload_n 1, 1) := by decide +kernel
theorem dX4_undo_12 : decode cX4_undo 12 = .ok (.iload_n 3, 1) := by decide +kernel
theorem dX4_undo_13 : decode cX4_undo 13 = .ok (.invokevirtual 39, 3) := by decide +kernel
theorem dX4_undo_16 : decode cX4_undo 16 = .ok (.checkcast 27, 3) := by decide +kernel
theorem dX4_undo_19 : decode cX4_undo 19 = .ok (.getfield 97, 3) := by decide +kernel
theorem dX4_undo_22 : decode cX4_undo 22 = .ok (.astore 4, 2) := by decide +kernel
theorem dX4_undo_24 : decode cX4_undo 24 = .ok (.aload 4, 2) := by decide +kernel
theorem dX4_undo_26 : decode cX4_undo 26 = .ok (.ifnull 14, 3) := by decide +kernel
theorem dX4_undo_29 : decode cX4_undo 29 = .ok (.aload 4, 2) := by decide +kernel
theorem dX4_undo_31 : decode cX4_undo 31 = .ok (.invokevirtual 100, 3) := by decide +kernel
theorem dX4_undo_34 : decode cX4_undo 34 = .ok (.aload 4, 2) := by decide +kernel
theorem dX4_undo_36 : decode cX4_undo 36 = .ok (.iconst 0, 1) := by decide +kernel
theorem dX4_undo_37 : decode cX4_undo 37 = .ok (.putfield 68, 3) := by decide +kernel
theorem dX4_undo_40 : decode cX4_undo 40 = .ok (.iinc 3 (-1), 3) := by decide +kernel
theorem dX4_undo_43 : decode cX4_undo 43 = .ok (.goto (-36), 3) := by decide +kernel
theorem dX4_undo_46 : decode cX4_undo 46 = .ok (.aload_n 0, 1) := by decide +kernel
theorem dX4_undo_47 : decode cX4_undo 47 = .ok (.iload_n 2, 1) := by decide +kernel
theorem dX4_undo_48 : decode cX4_undo 48 = .ok (.putfield 32, 3) := by decide +kernel
theorem dX4_undo_51 : decode cX4_undo 51 = .ok (.return_, 1) := by decide +kernel
theorem dX4_freeAt_0 : decode cX4_freeAt 0 = .ok (.iconst 0, 1) := by decide +kernel
theorem dX4_freeAt_1 : decode cX4_freeAt 1 = .ok (.istore_n 2, 1) := by decide +kernel
theorem dX4_freeAt_2 : decode cX4_freeAt 2 = .ok (.iconst 0, 1) := by decide +kernel
theorem dX4_freeAt_3 : decode cX4_freeAt 3 = .ok (.istore_n 3, 1) := by decide +kernel
theorem dX4_freeAt_4 : decode cX4_freeAt 4 = .ok (.iload_n 3, 1) := by decide +kernel
theorem dX4_freeAt_5 : decode cX4_freeAt 5 = .ok (.aload_n 0, 1) := by decide +kernel
theorem dX4_freeAt_6 : decode cX4_freeAt 6 = .ok (.getfield 32, 3) := by decide +kernel
theorem dX4_freeAt_9 : decode cX4_freeAt 9 = .ok (.if_icmp .ge 52, 3) := by decide +kernel
theorem dX4_freeAt_12 : decode cX4_freeAt 12 = .ok (.iload_n 3, 1) := by decide +kernel
theorem dX4_freeAt_13 : decode cX4_freeAt 13 = .ok (.aload_n 0, 1) := by decide +kernel
theorem dX4_freeAt_14 : decode cX4_freeAt 14 = .ok (.getfield 12, 3) := by decide +kernel
theorem dX4_freeAt_17 : decode cX4_freeAt 17 = .ok (.invokevirtual 35, 3) := by decide +kernel
theorem dX4_freeAt_20 : decode cX4_freeAt 20 = .ok (.if_icmp .ge 41, 3) := by decide +kernel
theorem dX4_freeAt_23 : decode cX4_freeAt 23 = .ok (.aload_n 0, 1) := by decide +kernel
theorem dX4_freeAt_24 : decode cX4_freeAt 24 = .ok (.getfield 12, 3) := by decide +kernel
theorem dX4_freeAt_27 : decode cX4_freeAt 27 = .ok (.iload_n 3, 1) := by decide +kernel
theorem dX4_freeAt_28 : decode cX4_freeAt 28 = .ok (.invokevirtual 39, 3) := by decide +kernel
theorem dX4_freeAt_31 : decode cX4_freeAt 31 = .ok (.checkcast 27, 3) := by decide +kernel
theorem dX4_freeAt_34 : decode cX4_freeAt 34 = .ok (.astore 4, 2) := by decide +kernel
theorem dX4_freeAt_36 : decode cX4_freeAt 36 = .ok (.aload 4, 2) := by decide +kernel
theorem dX4_freeAt_38 : decode cX4_freeAt 38 = .ok (.getfield 68, 3) := by decide +kernel
theorem dX4_freeAt_41 : decode cX4_freeAt 41 = .ok (.ifCond .ne 14, 3) := by decide +kernel
theorem dX4_freeAt_44 : decode cX4_freeAt 44 = .ok (.iload_n 2, 1) := by decide +kernel
theorem dX4_freeAt_45 : decode cX4_freeAt 45 = .ok (.iload_n 1, 1) := by decide +kernel
theorem dX4_freeAt_46 : decode cX4_freeAt 46 = .ok (.if_icmp .ne 6, 3) := by decide +kernel
theorem dX4_freeAt_49 : decode cX4_freeAt 49 = .ok (.aload 4, 2) := by decide +kernel
theorem dX4_freeAt_51 : decode cX4_freeAt 51 = .ok (.areturn, 1) := by decide +kernel
theorem dX4_freeAt_52 : decode cX4_freeAt 52 = .ok (.iinc 2 1, 3) := by decide +kernel
theorem dX4_freeAt_55 : decode cX4_freeAt 55 = .ok (.iinc 3 1, 3) := by decide +kernel
theorem dX4_freeAt_58 : decode cX4_freeAt 58 = .ok (.goto (-54), 3) := by decide +kernel
theorem dX4_freeAt_61 : decode cX4_freeAt 61 = .ok (.aconst_null, 1) := by decide +kernel
theorem dX4_freeAt_62 : decode cX4_freeAt 62 = .ok (.areturn, 1) := by decide +kernel
theorem dX5_init_0 : decode cX5_init 0 = .ok (.aload_n 0, 1) := by decide +kernel
theorem dX5_init_1 : decode cX5_init 1 = .ok (.invokespecial 3, 3) := by decide +kernel
theorem dX5_init_4 : decode cX5_init 4 = .ok (.aload_n 0, 1) := by decide +kernel
theorem dX5_init_5 : decode cX5_init 5 = .ok (.new 9, 3) := by decide +kernel
theorem dX5_init_8 : decode cX5_init 8 = .ok (.dup, 1) := by decide +kernel
theorem dX5_init_9 : decode cX5_init 9 = .ok (.invokespecial 11, 3) := by decide +kernel
theorem dX5_init_12 : decode cX5_init 12 = .ok (.putfield 12, 3) := by decide +kernel
theorem dX5_init_15 : decode cX5_init 15 = .ok (.aload_n 0, 1) := by decide +kernel
theorem dX5_init_16 : decode cX5_init 16 = .ok (.new 9, 3) := by decide +kernel
theorem dX5_init_19 : decode cX5_init 19 = .ok (.dup, 1) := by decide +kernel
theorem dX5_init_20 : decode cX5_init 20 = .ok (.invokespecial 11, 3) := by decide +kernel
theorem dX5_init_23 : decode cX5_init 23 = .ok (.putfield 16, 3) := by decide +kernel
theorem dX5_init_26 : decode cX5_init 26 = .ok (.aload_n 0, 1) := by decide +kernel
theorem dX5_init_27 : decode cX5_init 27 = .ok (.new 9, 3) := by decide +kernel
theorem dX5_init_30 : decode cX5_init 30 = .ok (.dup, 1) := by decide +kernel
theorem dX5_init_31 : decode cX5_init 31 = .ok (.invokespecial 11, 3) := by decide +kernel
theorem dX5_init_34 : decode cX5_init 34 = .ok (.putfield 19, 3) := by decide +kernel
theorem dX5_init_37 : decode cX5_init 37 = .ok (.aload_n 0, 1) := by decide +kernel
theorem dX5_init_38 : decode cX5_init 38 = .ok (.new 22, 3) := by decide +kernel
theorem dX5_init_41 : decode cX5_init 41 = .ok (.dup, 1) := by decide +kernel
theorem dX5_init_42 : decode cX5_init 42 = .ok (.invokespecial 24, 3) := by decide +kernel
theorem dX5_init_45 : decode cX5_init 45 = .ok (.putfield 25, 3) := by decide +kernel
theorem dX5_init_48 : decode cX5_init 48 = .ok (.return_, 1) := by decide +kernel
theorem dX5_drawing_0 : decode cX5_drawing 0 = .ok (.aload_n 0, 1) := by decide +kernel
theorem dX5_drawing_1 : decode cX5_drawing 1 = .ok (.getfield 12, 3) := by decide +kernel
theorem dX5_drawing_4 : decode cX5_drawing 4 = .ok (.invokevirtual 29, 3) := by decide +kernel
theorem dX5_drawing_7 : decode cX5_drawing 7 = .ok (.bipush 12, 2) := by decide +kernel
theorem dX5_drawing_9 : decode cX5_drawing 9 = .ok (.if_icmp .lt 13, 3) := by decide +kernel
theorem dX5_drawing_12 : decode cX5_drawing 12 = .ok (.new 33, 3) := by decide +kernel
theorem dX5_drawing_15 : decode cX5_drawing 15 = .ok (.dup, 1) := by decide +kernel
theorem dX5_drawing_16 : decode cX5_drawing 16 = .ok (.ldc 35, 2) := by decide +kernel
theorem dX5_drawing_18 : decode cX5_drawing 18 = .ok (.invokespecial 37, 3) := by decide +kernel
theorem dX5_drawing_21 : decode cX5_drawing 21 = .ok (.athrow, 1) := by decide +kernel
theorem dX5_drawing_22 : decode cX5_drawing 22 = .ok (.aload_n 0, 1) := by decide +kernel
theorem dX5_drawing_23 : decode cX5_drawing 23 = .ok (.getfield 12, 3) := by decide +kernel
theorem dX5_drawing_26 : decode cX5_drawing 26 = .ok (.invokevirtual 29, 3) := by decide +kernel
theorem dX5_drawing_29 : decode cX5_drawing 29 = .ok (.istore_n 1, 1) := by decide +kernel
theorem dX5_drawing_30 : decode cX5_drawing 30 = .ok (.aload_n 0, 1) := by decide +kernel
theorem dX5_drawing_31 : decode cX5_drawing 31 = .ok (.getfield 12, 3) := by decide +kernel
theorem dX5_drawing_34 : decode cX5_drawing 34 = .ok (.new 40, 3) := by decide +kernel
theorem dX5_drawing_37 : decode cX5_drawing 37 = .ok (.dup, 1) := by decide +kernel
theorem dX5_drawing_38 : decode cX5_drawing 38 = .ok (.iload_n 1, 1) := by decide +kernel
theorem dX5_drawing_39 : decode cX5_drawing 39 = .ok (.invokespecial 42, 3) := by decide +kernel
theorem dX5_drawing_42 : decode cX5_drawing 42 = .ok (.invokevirtual 45, 3) := by decide +kernel
theorem dX5_drawing_45 : decode cX5_drawing 45 = .ok (.pop, 1) := by decide +kernel
theorem dX5_drawing_46 : decode cX5_drawing 46 = .ok (.iload_n 1, 1) := by decide +kernel
theorem dX5_drawing_47 : decode cX5_drawing 47 = .ok (.ireturn, 1) := by decide +kernel
theorem dX5_stroke_0 : decode cX5_stroke 0 = .ok (.aload_n 0, 1) := by decide +kernel
theorem dX5_stroke_1 : decode cX5_stroke 1 = .ok (.iload_n 1, 1) := by decide +kernel
theorem dX5_stroke_2 : decode cX5_stroke 2 = .ok (.invokevirtual 49, 3) := by decide +kernel
theorem dX5_stroke_5 : decode cX5_stroke 5 = .ok (.astore 4, 2) := by decide +kernel
theorem dX5_stroke_7 : decode cX5_stroke 7 = .ok (.iload_n 2, 1) := by decide +kernel
theorem dX5_stroke_8 : decode cX5_stroke 8 = .ok (.invokestatic 53, 3) := by decide +kernel
theorem dX5_stroke_11 : decode cX5_stroke 11 = .ok (.ifCond .eq 10, 3) := by decide +kernel
theorem dX5_stroke_14 : decode cX5_stroke 14 = .ok (.iload_n 3, 1) := by decide +kernel
theorem dX5_stroke_15 : decode cX5_stroke 15 = .ok (.invokestatic 53, 3) := by decide +kernel
theorem dX5_stroke_18 : decode cX5_stroke 18 = .ok (.ifCond .ne 13, 3) := by decide +kernel
theorem dX5_stroke_21 : decode cX5_stroke 21 = .ok (.new 57, 3) := by decide +kernel
theorem dX5_stroke_24 : decode cX5_stroke 24 = .ok (.dup, 1) := by decide +kernel
theorem dX5_stroke_25 : decode cX5_stroke 25 = .ok (.ldc 59, 2) := by decide +kernel
theorem dX5_stroke_27 : decode cX5_stroke 27 = .ok (.invokespecial 61, 3) := by decide +kernel
theorem dX5_stroke_30 : decode cX5_stroke 30 = .ok (.athrow, 1) := by decide +kernel
theorem dX5_stroke_31 : decode cX5_stroke 31 = .ok (.iload_n 2, 1) := by decide +kernel
theorem dX5_stroke_32 : decode cX5_stroke 32 = .ok (.iload_n 3, 1) := by decide +kernel
theorem dX5_stroke_33 : decode cX5_stroke 33 = .ok (.if_icmp .ne 13, 3) := by decide +kernel
theorem dX5_stroke_36 : decode cX5_stroke 36 = .ok (.new 62, 3) := by decide +kernel
theorem dX5_stroke_39 : decode cX5_stroke 39 = .ok (.dup, 1) := by decide +kernel
theorem dX5_stroke_40 : decode cX5_stroke 40 = .ok (.ldc 64, 2) := by decide +kernel
theorem dX5_stroke_42 : decode cX5_stroke 42 = .ok (.invokespecial 66, 3) := by decide +kernel
theorem dX5_stroke_45 : decode cX5_stroke 45 = .ok (.athrow, 1) := by decide +kernel
theorem dX5_stroke_46 : decode cX5_stroke 46 = .ok (.aload 4, 2) := by decide +kernel
theorem dX5_stroke_48 : decode cX5_stroke 48 = .ok (.getfield 67, 3) := by decide +kernel
theorem dX5_stroke_51 : decode cX5_stroke 51 = .ok (.ifCond .ne 16, 3) := by decide +kernel
theorem dX5_stroke_54 : decode cX5_stroke 54 = .ok (.aload 4, 2) := by decide +kernel
theorem dX5_stroke_56 : decode cX5_stroke 56 = .ok (.getfield 71, 3) := by decide +kernel
theorem dX5_stroke_59 : decode cX5_stroke 59 = .ok (.getfield 75, 3) := by decide +kernel
theorem dX5_stroke_62 : decode cX5_stroke 62 = .ok (.bipush 24, 2) := by decide +kernel
theorem dX5_stroke_64 : decode cX5_stroke 64 = .ok (.if_icmp .lt 13, 3) := by decide +kernel
theorem dX5_stroke_67 : decode cX5_stroke 67 = .ok (.new 33, 3) := by decide +kernel
theorem dX5_stroke_70 : decode cX5_stroke 70 = .ok (.dup, 1) := by decide +kernel
theorem dX5_stroke_71 : decode cX5_stroke 71 = .ok (.ldc 79, 2) := by decide +kernel
theorem dX5_stroke_73 : decode cX5_stroke 73 = .ok (.invokespecial 37, 3) := by decide +kernel
theorem dX5_stroke_76 : decode cX5_stroke 76 = .ok (.athrow, 1) := by decide +kernel
theorem dX5_stroke_77 : decode cX5_stroke 77 = .ok (.aload 4, 2) := by decide +kernel
theorem dX5_stroke_79 : decode cX5_stroke 79 = .ok (.getfield 71, 3) := by decide +kernel
theorem dX5_stroke_82 : decode cX5_stroke 82 = .ok (.iload_n 2, 1) := by decide +kernel
theorem dX5_stroke_83 : decode cX5_stroke 83 = .ok (.iload_n 3, 1) := by decide +kernel
theorem dX5_stroke_84 : decode cX5_stroke 84 = .ok (.invokevirtual 81, 3) := by decide +kernel
theorem dX5_stroke_87 : decode cX5_stroke 87 = .ok (.aload 4, 2) := by decide +kernel
theorem dX5_stroke_89 : decode cX5_stroke 89 = .ok (.getfield 71, 3) := by decide +kernel
theorem dX5_stroke_92 : decode cX5_stroke 92 = .ok (.getfield 75, 3) := by decide +kernel
theorem dX5_stroke_95 : decode cX5_stroke 95 = .ok (.ireturn, 1) := by decide +kernel
theorem dX5_finish_0 : decode cX5_finish 0 = .ok (.aload_n 0, 1) := by decide +kernel
theorem dX5_finish_1 : decode cX5_finish 1 = .ok (.iload_n 1, 1) := by decide +kernel
theorem dX5_finish_2 : decode cX5_finish 2 = .ok (.invokevirtual 49, 3) := by decide +kernel
theorem dX5_finish_5 : decode cX5_finish 5 = .ok (.astore_n 2, 1) := by decide +kernel
theorem dX5_finish_6 : decode cX5_finish 6 = .ok (.aload_n 2, 1) := by decide +kernel
theorem dX5_finish_7 : decode cX5_finish 7 = .ok (.getfield 67, 3) := by decide +kernel
theorem dX5_finish_10 : decode cX5_finish 10 = .ok (.ifCond .eq 13, 3) := by decide +kernel
theorem dX5_finish_13 : decode cX5_finish 13 = .ok (.new 33, 3) := by decide +kernel
theorem dX5_finish_16 : decode cX5_finish 16 = .ok (.dup, 1) := by decide +kernel
theorem dX5_finish_17 : decode cX5_finish 17 = .ok (.ldc 84, 2) := by decide +kernel
theorem dX5_finish_19 : decode cX5_finish 19 = .ok (.invokespecial 37, 3) := by decide +kernel
theorem dX5_finish_22 : decode cX5_finish 22 = .ok (.athrow, 1) := by decide +kernel
theorem dX5_finish_23 : decode cX5_finish 23 = .ok (.aload_n 2, 1) := by decide +kernel
theorem dX5_finish_24 : decode cX5_finish 24 = .ok (.getfield 71, 3) := by decide +kernel
theorem dX5_finish_27 : decode cX5_finish 27 = .ok (.invokevirtual 86, 3) := by decide +kernel
theorem dX5_finish_30 : decode cX5_finish 30 = .ok (.aload_n 2, 1) := by decide +kernel
theorem dX5_finish_31 : decode cX5_finish 31 = .ok (.getfield 71, 3) := by decide +kernel
theorem dX5_finish_34 : decode cX5_finish 34 = .ok (.invokevirtual 89, 3) := by decide +kernel
theorem dX5_finish_37 : decode cX5_finish 37 = .ok (.istore_n 3, 1) := by decide +kernel
theorem dX5_finish_38 : decode cX5_finish 38 = .ok (.iload_n 3, 1) := by decide +kernel
theorem dX5_finish_39 : decode cX5_finish 39 = .ok (.iconst (-1), 1) := by decide +kernel
theorem dX5_finish_40 : decode cX5_finish 40 = .ok (.if_icmp .ne 12, 3) := by decide +kernel
theorem dX5_finish_43 : decode cX5_finish 43 = .ok (.aload_n 2, 1) := by decide +kernel
theorem dX5_finish_44 : decode cX5_finish 44 = .ok (.iconst 1, 1) := by decide +kernel
theorem dX5_finish_45 : decode cX5_finish 45 = .ok (.putfield 67, 3) := by decide +kernel
theorem dX5_finish_48 : decode cX5_finish 48 = .ok (.aload_n 0, 1) := by decide +kernel
theorem dX5_finish_49 : decode cX5_finish 49 = .ok (.invokevirtual 92, 3) := by decide +kernel
theorem dX5_finish_52 : decode cX5_finish 52 = .ok (.iload_n 3, 1) := by decide +kernel
theorem dX5_finish_53 : decode cX5_finish 53 = .ok (.ireturn, 1) := by decide +kernel
theorem dX5_redraw_0 : decode cX5_redraw 0 = .ok (.aload_n 0, 1) := by decide +kernel
theorem dX5_redraw_1 : decode cX5_redraw 1 = .ok (.iload_n 1, 1) := by decide +kernel
theorem dX5_redraw_2 : decode cX5_redraw 2 = .ok (.invokevirtual 49, 3) := by decide +kernel
theorem dX5_redraw_5 : decode cX5_redraw 5 = .ok (.astore_n 2, 1) := by decide +kernel
theorem dX5_redraw_6 : decode cX5_redraw 6 = .ok (.aload_n 2, 1) := by decide +kernel
theorem dX5_redraw_7 : decode cX5_redraw 7 = .ok (.getfield 67, 3) := by decide +kernel
theorem dX5_redraw_10 : decode cX5_redraw 10 = .ok (.iconst 1, 1) := by decide +kernel
theorem dX5_redraw_11 : decode cX5_redraw 11 = .ok (.if_icmp .eq 13, 3) := by decide +kernel
theorem dX5_redraw_14 : decode cX5_redraw 14 = .ok (.new 33, 3) := by decide +kernel
theorem dX5_redraw_17 : decode cX5_redraw 17 = .ok (.dup, 1) := by decide +kernel
theorem dX5_redraw_18 : decode cX5_redraw 18 = .ok (.ldc 95, 2) := by decide +kernel
theorem dX5_redraw_20 : decode cX5_redraw 20 = .ok (.invokespecial 37, 3) := by decide +kernel
theorem dX5_redraw_23 : decode cX5_redraw 23 = .ok (.athrow, 1) := by decide +kernel
theorem dX5_redraw_24 : decode cX5_redraw 24 = .ok (.aload_n 0, 1) := by decide +kernel
theorem dX5_redraw_25 : decode cX5_redraw 25 = .ok (.aload_n 2, 1) := by decide +kernel
theorem dX5_redraw_26 : decode cX5_redraw 26 = .ok (.invokevirtual 97, 3) := by decide +kernel
theorem dX5_redraw_29 : decode cX5_redraw 29 = .ok (.istore_n 3, 1) := by decide +kernel
theorem dX5_redraw_30 : decode cX5_redraw 30 = .ok (.aload_n 2, 1) := by decide +kernel
theorem dX5_redraw_31 : decode cX5_redraw 31 = .ok (.invokevirtual 101, 3) := by decide +kernel
theorem dX5_redraw_34 : decode cX5_redraw 34 = .ok (.aload_n 0, 1) := by decide +kernel
theorem dX5_redraw_35 : decode cX5_redraw 35 = .ok (.iload_n 3, 1) := by decide +kernel
theorem dX5_redraw_36 : decode cX5_redraw 36 = .ok (.invokevirtual 104, 3) := by decide +kernel
theorem dX5_redraw_39 : decode cX5_redraw 39 = .ok (.istore 4, 2) := by decide +kernel
theorem dX5_redraw_41 : decode cX5_redraw 41 = .ok (.aload_n 0, 1) := by decide +kernel
theorem dX5_redraw_42 : decode cX5_redraw 42 = .ok (.invokevirtual 92, 3) := by decide +kernel
theorem dX5_redraw_45 : decode cX5_redraw 45 = .ok (.iload 4, 2) := by decide +kernel
theorem dX5_redraw_47 : decode cX5_redraw 47 = .ok (.ireturn, 1) := by decide +kernel
theorem dX5_ofDrawing_0 : decode cX5_ofDrawing 0 = .ok (.aload_n 0, 1) := by decide +kernel
theorem dX5_ofDrawing_1 : decode cX5_ofDrawing 1 = .ok (.iload_n 1, 1) := by decide +kernel
theorem dX5_ofDrawing_2 : decode cX5_ofDrawing 2 = .ok (.invokevirtual 49, 3) := by decide +kernel
theorem dX5_ofDrawing_5 : decode cX5_ofDrawing 5 = .ok (.astore_n 3, 1) := by decide +kernel
theorem dX5_ofDrawing_6 : decode cX5_ofDrawing 6 = .ok (.iload_n 2, 1) := by decide +kernel
theorem dX5_ofDrawing_7 : decode cX5_ofDrawing 7 = .ok (.tableswitch 67 0 4 #[33, 38, 46, 54, 62], 33) := by decide +kernel
theorem dX5_ofDrawing_40 : decode cX5_ofDrawing 40 = .ok (.aload_n 3, 1) := by decide +kernel
theorem dX5_ofDrawing_41 : decode cX5_ofDrawing 41 = .ok (.getfield 67, 3) := by decide +kernel
theorem dX5_ofDrawing_44 : decode cX5_ofDrawing 44 = .ok (.ireturn, 1) := by decide +kernel
theorem dX5_ofDrawing_45 : decode cX5_ofDrawing 45 = .ok (.aload_n 3, 1) := by decide +kernel
theorem dX5_ofDrawing_46 : decode cX5_ofDrawing 46 = .ok (.getfield 71, 3) := by decide +kernel
theorem dX5_ofDrawing_49 : decode cX5_ofDrawing 49 = .ok (.getfield 75, 3) := by decide +kernel
theorem dX5_ofDrawing_52 : decode cX5_ofDrawing 52 = .ok (.ireturn, 1) := by decide +kernel
theorem dX5_ofDrawing_53 : decode cX5_ofDrawing 53 = .ok (.aload_n 3, 1) := by decide +kernel
theorem dX5_ofDrawing_54 : decode cX5_ofDrawing 54 = .ok (.getfield 71, 3) := by decide +kernel
theorem dX5_ofDrawing_57 : decode cX5_ofDrawing 57 = .ok (.invokevirtual 108, 3) := by decide +kernel
theorem dX5_ofDrawing_60 : decode cX5_ofDrawing 60 = .ok (.ireturn, 1) := by decide +kernel
theorem dX5_ofDrawing_61 : decode cX5_ofDrawing 61 = .ok (.aload_n 3, 1) := by decide +kernel
theorem dX5_ofDrawing_62 : decode cX5_ofDrawing 62 = .ok (.getfield 71, 3) := by decide +kernel
theorem dX5_ofDrawing_65 : decode cX5_ofDrawing 65 = .ok (.invokevirtual 111, 3) := by decide +kernel
theorem dX5_ofDrawing_68 : decode cX5_ofDrawing 68 = .ok (.ireturn, 1) := by decide +kernel
theorem dX5_ofDrawing_69 : decode cX5_ofDrawing 69 = .ok (.aload_n 3, 1) := by decide +kernel
theorem dX5_ofDrawing_70 : decode cX5_ofDrawing 70 = .ok (.getfield 114, 3) := by decide +kernel
theorem dX5_ofDrawing_73 : decode cX5_ofDrawing 73 = .ok (.ireturn, 1) := by decide +kernel
theorem dX5_ofDrawing_74 : decode cX5_ofDrawing 74 = .ok (.new 62, 3) := by decide +kernel
theorem dX5_ofDrawing_77 : decode cX5_ofDrawing 77 = .ok (.dup, 1) := by decide +kernel
theorem dX5_ofDrawing_78 : decode cX5_ofDrawing 78 = .ok (.ldc 117, 2) := by decide +kernel
theorem dX5_ofDrawing_80 : decode cX5_ofDrawing 80 = .ok (.invokespecial 66, 3) := by decide +kernel
theorem dX5_ofDrawing_83 : decode cX5_ofDrawing 83 = .ok (.athrow, 1) := by decide +kernel
theorem dX5_length_0 : decode cX5_length 0 = .ok (.aload_n 0, 1) := by decide +kernel
theorem dX5_length_1 : decode cX5_length 1 = .ok (.iload_n 1, 1) := by decide +kernel
theorem dX5_length_2 : decode cX5_length 2 = .ok (.invokevirtual 49, 3) := by decide +kernel
theorem dX5_length_5 : decode cX5_length 5 = .ok (.getfield 71, 3) := by decide +kernel
theorem dX5_length_8 : decode cX5_length 8 = .ok (.invokevirtual 119, 3) := by decide +kernel
theorem dX5_length_11 : decode cX5_length 11 = .ok (.freturn, 1) := by decide +kernel
theorem dX5_sheet_0 : decode cX5_sheet 0 = .ok (.iload_n 1, 1) := by decide +kernel
theorem dX5_sheet_1 : decode cX5_sheet 1 = .ok (.invokestatic 123, 3) := by decide +kernel
theorem dX5_sheet_4 : decode cX5_sheet 4 = .ok (.ifCond .eq 10, 3) := by decide +kernel
theorem dX5_sheet_7 : decode cX5_sheet 7 = .ok (.iload_n 2, 1) := by decide +kernel
theorem dX5_sheet_8 : decode cX5_sheet 8 = .ok (.invokestatic 123, 3) := by decide +kernel
theorem dX5_sheet_11 : decode cX5_sheet 11 = .ok (.ifCond .ne 13, 3) := by decide +kernel
theorem dX5_sheet_14 : decode cX5_sheet 14 = .ok (.new 62, 3) := by decide +kernel
theorem dX5_sheet_17 : decode cX5_sheet 17 = .ok (.dup, 1) := by decide +kernel
theorem dX5_sheet_18 : decode cX5_sheet 18 = .ok (.ldc 126, 2) := by decide +kernel
theorem dX5_sheet_20 : decode cX5_sheet 20 = .ok (.invokespecial 66, 3) := by decide +kernel
theorem dX5_sheet_23 : decode cX5_sheet 23 = .ok (.athrow, 1) := by decide +kernel
theorem dX5_sheet_24 : decode cX5_sheet 24 = .ok (.aload_n 0, 1) := by decide +kernel
theorem dX5_sheet_25 : decode cX5_sheet 25 = .ok (.getfield 25, 3) := by decide +kernel
theorem dX5_sheet_28 : decode cX5_sheet 28 = .ok (.getfield 128, 3) := by decide +kernel
theorem dX5_sheet_31 : decode cX5_sheet 31 = .ok (.bipush 8, 2) := by decide +kernel
theorem dX5_sheet_33 : decode cX5_sheet 33 = .ok (.if_icmp .ge 16, 3) := by decide +kernel
theorem dX5_sheet_36 : decode cX5_sheet 36 = .ok (.aload_n 0, 1) := by decide +kernel
theorem dX5_sheet_37 : decode cX5_sheet 37 = .ok (.getfield 25, 3) := by decide +kernel
theorem dX5_sheet_40 : decode cX5_sheet 40 = .ok (.getfield 131, 3) := by decide +kernel
theorem dX5_sheet_43 : decode cX5_sheet 43 = .ok (.sipush 400, 3) := by decide +kernel
theorem dX5_sheet_46 : decode cX5_sheet 46 = .ok (.if_icmp .lt 13, 3) := by decide +kernel
theorem dX5_sheet_49 : decode cX5_sheet 49 = .ok (.new 33, 3) := by decide +kernel
theorem dX5_sheet_52 : decode cX5_sheet 52 = .ok (.dup, 1) := by decide +kernel
theorem dX5_sheet_53 : decode cX5_sheet 53 = .ok (.ldc 134, 2) := by decide +kernel
theorem dX5_sheet_55 : decode cX5_sheet 55 = .ok (.invokespecial 37, 3) := by decide +kernel
theorem dX5_sheet_58 : decode cX5_sheet 58 = .ok (.athrow, 1) := by decide +kernel
theorem dX5_sheet_59 : decode cX5_sheet 59 = .ok (.aload_n 0, 1) := by decide +kernel
theorem dX5_sheet_60 : decode cX5_sheet 60 = .ok (.getfield 25, 3) := by decide +kernel
theorem dX5_sheet_63 : decode cX5_sheet 63 = .ok (.iload_n 1, 1) := by decide +kernel
theorem dX5_sheet_64 : decode cX5_sheet 64 = .ok (.iload_n 2, 1) := by decide +kernel
theorem dX5_sheet_65 : decode cX5_sheet 65 = .ok (.invokevirtual 136, 3) := by decide +kernel
theorem dX5_sheet_68 : decode cX5_sheet 68 = .ok (.istore_n 3, 1) := by decide +kernel
theorem dX5_sheet_69 : decode cX5_sheet 69 = .ok (.aload_n 0, 1) := by decide +kernel
theorem dX5_sheet_70 : decode cX5_sheet 70 = .ok (.invokevirtual 92, 3) := by decide +kernel
theorem dX5_sheet_73 : decode cX5_sheet 73 = .ok (.iload_n 3, 1) := by decide +kernel
theorem dX5_sheet_74 : decode cX5_sheet 74 = .ok (.ireturn, 1) := by decide +kernel
theorem dX5_job_0 : decode cX5_job 0 = .ok (.aload_n 0, 1) := by decide +kernel
theorem dX5_job_1 : decode cX5_job 1 = .ok (.iload_n 1, 1) := by decide +kernel
theorem dX5_job_2 : decode cX5_job 2 = .ok (.invokevirtual 49, 3) := by decide +kernel
theorem dX5_job_5 : decode cX5_job 5 = .ok (.astore_n 3, 1) := by decide +kernel
theorem dX5_job_6 : decode cX5_job 6 = .ok (.iload_n 2, 1) := by decide +kernel
theorem dX5_job_7 : decode cX5_job 7 = .ok (.iconst 1, 1) := by decide +kernel
theorem dX5_job_8 : decode cX5_job 8 = .ok (.if_icmp .lt 9, 3) := by decide +kernel
theorem dX5_job_11 : decode cX5_job 11 = .ok (.iload_n 2, 1) := by decide +kernel
theorem dX5_job_12 : decode cX5_job 12 = .ok (.bipush 6, 2) := by decide +kernel
theorem dX5_job_14 : decode cX5_job 14 = .ok (.if_icmp .le 13, 3) := by decide +kernel
theorem dX5_job_17 : decode cX5_job 17 = .ok (.new 62, 3) := by decide +kernel
theorem dX5_job_20 : decode cX5_job 20 = .ok (.dup, 1) := by decide +kernel
theorem dX5_job_21 : decode cX5_job 21 = .ok (.ldc 140, 2) := by decide +kernel
theorem dX5_job_23 : decode cX5_job 23 = .ok (.invokespecial 66, 3) := by decide +kernel
theorem dX5_job_26 : decode cX5_job 26 = .ok (.athrow, 1) := by decide +kernel
theorem dX5_job_27 : decode cX5_job 27 = .ok (.aload_n 3, 1) := by decide +kernel
theorem dX5_job_28 : decode cX5_job 28 = .ok (.getfield 67, 3) := by decide +kernel
theorem dX5_job_31 : decode cX5_job 31 = .ok (.iconst 1, 1) := by decide +kernel
theorem dX5_job_32 : decode cX5_job 32 = .ok (.if_icmp .ne 15, 3) := by decide +kernel
theorem dX5_job_35 : decode cX5_job 35 = .ok (.aload_n 0, 1) := by decide +kernel
theorem dX5_job_36 : decode cX5_job 36 = .ok (.getfield 16, 3) := by decide +kernel
theorem dX5_job_39 : decode cX5_job 39 = .ok (.invokevirtual 29, 3) := by decide +kernel
theorem dX5_job_42 : decode cX5_job 42 = .ok (.bipush 30, 2) := by decide +kernel
theorem dX5_job_44 : decode cX5_job 44 = .ok (.if_icmp .lt 13, 3) := by decide +kernel
theorem dX5_job_47 : decode cX5_job 47 = .ok (.new 33, 3) := by decide +kernel
theorem dX5_job_50 : decode cX5_job 50 = .ok (.dup, 1) := by decide +kernel
theorem dX5_job_51 : decode cX5_job 51 = .ok (.ldc 142, 2) := by decide +kernel
theorem dX5_job_53 : decode cX5_job 53 = .ok (.invokespecial 37, 3) := by decide +kernel
theorem dX5_job_56 : decode cX5_job 56 = .ok (.athrow, 1) := by decide +kernel
theorem dX5_job_57 : decode cX5_job 57 = .ok (.aload_n 0, 1) := by decide +kernel
theorem dX5_job_58 : decode cX5_job 58 = .ok (.getfield 16, 3) := by decide +kernel
theorem dX5_job_61 : decode cX5_job 61 = .ok (.invokevirtual 29, 3) := by decide +kernel
theorem dX5_job_64 : decode cX5_job 64 = .ok (.istore 4, 2) := by decide +kernel
theorem dX5_job_66 : decode cX5_job 66 = .ok (.new 144, 3) := by decide +kernel
theorem dX5_job_69 : decode cX5_job 69 = .ok (.dup, 1) := by decide +kernel
theorem dX5_job_70 : decode cX5_job 70 = .ok (.aload_n 3, 1) := by decide +kernel
theorem dX5_job_71 : decode cX5_job 71 = .ok (.iload_n 2, 1) := by decide +kernel
theorem dX5_job_72 : decode cX5_job 72 = .ok (.invokespecial 146, 3) := by decide +kernel
theorem dX5_job_75 : decode cX5_job 75 = .ok (.astore 5, 2) := by decide +kernel
theorem dX5_job_77 : decode cX5_job 77 = .ok (.aload_n 0, 1) := by decide +kernel
theorem dX5_job_78 : decode cX5_job 78 = .ok (.getfield 16, 3) := by decide +kernel
theorem dX5_job_81 : decode cX5_job 81 = .ok (.aload 5, 2) := by decide +kernel
theorem dX5_job_83 : decode cX5_job 83 = .ok (.invokevirtual 45, 3) := by decide +kernel
theorem dX5_job_86 : decode cX5_job 86 = .ok (.pop, 1) := by decide +kernel
theorem dX5_job_87 : decode cX5_job 87 = .ok (.aload 5, 2) := by decide +kernel
theorem dX5_job_89 : decode cX5_job 89 = .ok (.aload_n 0, 1) := by decide +kernel
theorem dX5_job_90 : decode cX5_job 90 = .ok (.getfield 25, 3) := by decide +kernel
theorem dX5_job_93 : decode cX5_job 93 = .ok (.invokevirtual 149, 3) := by decide +kernel
theorem dX5_job_96 : decode cX5_job 96 = .ok (.iload 4, 2) := by decide +kernel
theorem dX5_job_98 : decode cX5_job 98 = .ok (.ireturn, 1) := by decide +kernel
theorem dX5_cancel_0 : decode cX5_cancel 0 = .ok (.aload_n 0, 1) := by decide +kernel
theorem dX5_cancel_1 : decode cX5_cancel 1 = .ok (.iload_n 1, 1) := by decide +kernel
theorem dX5_cancel_2 : decode cX5_cancel 2 = .ok (.invokevirtual 153, 3) := by decide +kernel
theorem dX5_cancel_5 : decode cX5_cancel 5 = .ok (.astore_n 2, 1) := by decide +kernel
theorem dX5_cancel_6 : decode cX5_cancel 6 = .ok (.aload_n 2, 1) := by decide +kernel
theorem dX5_cancel_7 : decode cX5_cancel 7 = .ok (.getfield 157, 3) := by decide +kernel
theorem dX5_cancel_10 : decode cX5_cancel 10 = .ok (.istore_n 3, 1) := by decide +kernel
theorem dX5_cancel_11 : decode cX5_cancel 11 = .ok (.iload_n 3, 1) := by decide +kernel
theorem dX5_cancel_12 : decode cX5_cancel 12 = .ok (.iconst 2, 1) := by decide +kernel
theorem dX5_cancel_13 : decode cX5_cancel 13 = .ok (.if_icmp .eq 8, 3) := by decide +kernel
theorem dX5_cancel_16 : decode cX5_cancel 16 = .ok (.iload_n 3, 1) := by decide +kernel
theorem dX5_cancel_17 : decode cX5_cancel 17 = .ok (.iconst 3, 1) := by decide +kernel
theorem dX5_cancel_18 : decode cX5_cancel 18 = .ok (.if_icmp .ne 13, 3) := by decide +kernel
theorem dX5_cancel_21 : decode cX5_cancel 21 = .ok (.new 33, 3) := by decide +kernel
theorem dX5_cancel_24 : decode cX5_cancel 24 = .ok (.dup, 1) := by decide +kernel
theorem dX5_cancel_25 : decode cX5_cancel 25 = .ok (.ldc 158, 2) := by decide +kernel
theorem dX5_cancel_27 : decode cX5_cancel 27 = .ok (.invokespecial 37, 3) := by decide +kernel
theorem dX5_cancel_30 : decode cX5_cancel 30 = .ok (.athrow, 1) := by decide +kernel
theorem dX5_cancel_31 : decode cX5_cancel 31 = .ok (.aload_n 2, 1) := by decide +kernel
theorem dX5_cancel_32 : decode cX5_cancel 32 = .ok (.invokevirtual 160, 3) := by decide +kernel
theorem dX5_cancel_35 : decode cX5_cancel 35 = .ok (.aload_n 2, 1) := by decide +kernel
theorem dX5_cancel_36 : decode cX5_cancel 36 = .ok (.iconst 3, 1) := by decide +kernel
theorem dX5_cancel_37 : decode cX5_cancel 37 = .ok (.putfield 157, 3) := by decide +kernel
theorem dX5_cancel_40 : decode cX5_cancel 40 = .ok (.aload_n 0, 1) := by decide +kernel
theorem dX5_cancel_41 : decode cX5_cancel 41 = .ok (.invokevirtual 92, 3) := by decide +kernel
theorem dX5_cancel_44 : decode cX5_cancel 44 = .ok (.iload_n 3, 1) := by decide +kernel
theorem dX5_cancel_45 : decode cX5_cancel 45 = .ok (.ireturn, 1) := by decide +kernel
theorem dX5_cut_0 : decode cX5_cut 0 = .ok (.aload_n 0, 1) := by decide +kernel
theorem dX5_cut_1 : decode cX5_cut 1 = .ok (.iload_n 1, 1) := by decide +kernel
theorem dX5_cut_2 : decode cX5_cut 2 = .ok (.invokevirtual 153, 3) := by decide +kernel
theorem dX5_cut_5 : decode cX5_cut 5 = .ok (.astore_n 2, 1) := by decide +kernel
theorem dX5_cut_6 : decode cX5_cut 6 = .ok (.aload_n 2, 1) := by decide +kernel
theorem dX5_cut_7 : decode cX5_cut 7 = .ok (.getfield 157, 3) := by decide +kernel
theorem dX5_cut_10 : decode cX5_cut 10 = .ok (.iconst 1, 1) := by decide +kernel
theorem dX5_cut_11 : decode cX5_cut 11 = .ok (.if_icmp .eq 13, 3) := by decide +kernel
theorem dX5_cut_14 : decode cX5_cut 14 = .ok (.new 33, 3) := by decide +kernel
theorem dX5_cut_17 : decode cX5_cut 17 = .ok (.dup, 1) := by decide +kernel
theorem dX5_cut_18 : decode cX5_cut 18 = .ok (.ldc 163, 2) := by decide +kernel
theorem dX5_cut_20 : decode cX5_cut 20 = .ok (.invokespecial 37, 3) := by decide +kernel
theorem dX5_cut_23 : decode cX5_cut 23 = .ok (.athrow, 1) := by decide +kernel
theorem dX5_cut_24 : decode cX5_cut 24 = .ok (.aload_n 2, 1) := by decide +kernel
theorem dX5_cut_25 : decode cX5_cut 25 = .ok (.getfield 165, 3) := by decide +kernel
theorem dX5_cut_28 : decode cX5_cut 28 = .ok (.getfield 71, 3) := by decide +kernel
theorem dX5_cut_31 : decode cX5_cut 31 = .ok (.invokevirtual 119, 3) := by decide +kernel
theorem dX5_cut_34 : decode cX5_cut 34 = .ok (.fstore_n 3, 1) := by decide +kernel
theorem dX5_cut_35 : decode cX5_cut 35 = .ok (.aload_n 2, 1) := by decide +kernel
theorem dX5_cut_36 : decode cX5_cut 36 = .ok (.fload_n 3, 1) := by decide +kernel
theorem dX5_cut_37 : decode cX5_cut 37 = .ok (.invokevirtual 169, 3) := by decide +kernel
theorem dX5_cut_40 : decode cX5_cut 40 = .ok (.istore 4, 2) := by decide +kernel
theorem dX5_cut_42 : decode cX5_cut 42 = .ok (.aload_n 2, 1) := by decide +kernel
theorem dX5_cut_43 : decode cX5_cut 43 = .ok (.invokevirtual 173, 3) := by decide +kernel
theorem dX5_cut_46 : decode cX5_cut 46 = .ok (.aload_n 2, 1) := by decide +kernel
theorem dX5_cut_47 : decode cX5_cut 47 = .ok (.iconst 2, 1) := by decide +kernel
theorem dX5_cut_48 : decode cX5_cut 48 = .ok (.putfield 157, 3) := by decide +kernel
theorem dX5_cut_51 : decode cX5_cut 51 = .ok (.aload_n 0, 1) := by decide +kernel
theorem dX5_cut_52 : decode cX5_cut 52 = .ok (.getfield 19, 3) := by decide +kernel
theorem dX5_cut_55 : decode cX5_cut 55 = .ok (.aload_n 2, 1) := by decide +kernel
theorem dX5_cut_56 : decode cX5_cut 56 = .ok (.invokevirtual 45, 3) := by decide +kernel
theorem dX5_cut_59 : decode cX5_cut 59 = .ok (.pop, 1) := by decide +kernel
theorem dX5_cut_60 : decode cX5_cut 60 = .ok (.aload_n 0, 1) := by decide +kernel
theorem dX5_cut_61 : decode cX5_cut 61 = .ok (.dup, 1) := by decide +kernel
theorem dX5_cut_62 : decode cX5_cut 62 = .ok (.getfield 176, 3) := by decide +kernel
theorem dX5_cut_65 : decode cX5_cut 65 = .ok (.iload 4, 2) := by decide +kernel
theorem dX5_cut_67 : decode cX5_cut 67 = .ok (.iadd, 1) := by decide +kernel
theorem dX5_cut_68 : decode cX5_cut 68 = .ok (.putfield 176, 3) := by decide +kernel
theorem dX5_cut_71 : decode cX5_cut 71 = .ok (.aload_n 0, 1) := by decide +kernel
theorem dX5_cut_72 : decode cX5_cut 72 = .ok (.aload_n 0, 1) := by decide +kernel
theorem dX5_cut_73 : decode cX5_cut 73 = .ok (.getfield 179, 3) := by decide +kernel
theorem dX5_cut_76 : decode cX5_cut 76 = .ok (.fload_n 3, 1) := by decide +kernel
theorem dX5_cut_77 : decode cX5_cut 77 = .ok (.aload_n 2, 1) := by decide +kernel
theorem dX5_cut_78 : decode cX5_cut 78 = .ok (.getfield 183, 3) := by decide +kernel
theorem dX5_cut_81 : decode cX5_cut 81 = .ok (.invokestatic 186, 3) := by decide +kernel
theorem dX5_cut_84 : decode cX5_cut 84 = .ok (.putfield 179, 3) := by decide +kernel
theorem dX5_cut_87 : decode cX5_cut 87 = .ok (.iload 4, 2) := by decide +kernel
theorem dX5_cut_89 : decode cX5_cut 89 = .ok (.ireturn, 1) := by decide +kernel
theorem dX5_ofJob_0 : decode cX5_ofJob 0 = .ok (.aload_n 0, 1) := by decide +kernel
theorem dX5_ofJob_1 : decode cX5_ofJob 1 = .ok (.iload_n 1, 1) := by decide +kernel
theorem dX5_ofJob_2 : decode cX5_ofJob 2 = .ok (.invokevirtual 153, 3) := by decide +kernel
theorem dX5_ofJob_5 : decode cX5_ofJob 5 = .ok (.astore_n 3, 1) := by decide +kernel
theorem dX5_ofJob_6 : decode cX5_ofJob 6 = .ok (.iload_n 2, 1) := by decide +kernel
theorem dX5_ofJob_7 : decode cX5_ofJob 7 = .ok (.tableswitch 52 0 3 #[29, 34, 42, 47], 29) := by decide +kernel
theorem dX5_ofJob_36 : decode cX5_ofJob 36 = .ok (.aload_n 3, 1) := by decide +kernel
theorem dX5_ofJob_37 : decode cX5_ofJob 37 = .ok (.getfield 157, 3) := by decide +kernel
theorem dX5_ofJob_40 : decode cX5_ofJob 40 = .ok (.ireturn, 1) := by decide +kernel
theorem dX5_ofJob_41 : decode cX5_ofJob 41 = .ok (.aload_n 3, 1) := by decide +kernel
theorem dX5_ofJob_42 : decode cX5_ofJob 42 = .ok (.getfield 165, 3) := by decide +kernel
theorem dX5_ofJob_45 : decode cX5_ofJob 45 = .ok (.getfield 190, 3) := by decide +kernel
theorem dX5_ofJob_48 : decode cX5_ofJob 48 = .ok (.ireturn, 1) := by decide +kernel
theorem dX5_ofJob_49 : decode cX5_ofJob 49 = .ok (.aload_n 3, 1) := by decide +kernel
theorem dX5_ofJob_50 : decode cX5_ofJob 50 = .ok (.getfield 183, 3) := by decide +kernel
theorem dX5_ofJob_53 : decode cX5_ofJob 53 = .ok (.ireturn, 1) := by decide +kernel
theorem dX5_ofJob_54 : decode cX5_ofJob 54 = .ok (.aload_n 3, 1) := by decide +kernel
theorem dX5_ofJob_55 : decode cX5_ofJob 55 = .ok (.getfield 193, 3) := by decide +kernel
theorem dX5_ofJob_58 : decode cX5_ofJob 58 = .ok (.ireturn, 1) := by decide +kernel
theorem dX5_ofJob_59 : decode cX5_ofJob 59 = .ok (.new 62, 3) := by decide +kernel
theorem dX5_ofJob_62 : decode cX5_ofJob 62 = .ok (.dup, 1) := by decide +kernel
theorem dX5_ofJob_63 : decode cX5_ofJob 63 = .ok (.ldc 117, 2) := by decide +kernel
theorem dX5_ofJob_65 : decode cX5_ofJob 65 = .ok (.invokespecial 66, 3) := by decide +kernel
theorem dX5_ofJob_68 : decode cX5_ofJob 68 = .ok (.athrow, 1) := by decide +kernel
theorem dX5_where_0 : decode cX5_where 0 = .ok (.aload_n 0, 1) := by decide +kernel
theorem dX5_where_1 : decode cX5_where 1 = .ok (.iload_n 1, 1) := by decide +kernel
theorem dX5_where_2 : decode cX5_where 2 = .ok (.invokevirtual 153, 3) := by decide +kernel
theorem dX5_where_5 : decode cX5_where 5 = .ok (.astore 4, 2) := by decide +kernel
theorem dX5_where_7 : decode cX5_where 7 = .ok (.iload_n 2, 1) := by decide +kernel
theorem dX5_where_8 : decode cX5_where 8 = .ok (.ifCond .lt 12, 3) := by decide +kernel
theorem dX5_where_11 : decode cX5_where 11 = .ok (.iload_n 2, 1) := by decide +kernel
theorem dX5_where_12 : decode cX5_where 12 = .ok (.aload 4, 2) := by decide +kernel
theorem dX5_where_14 : decode cX5_where 14 = .ok (.getfield 183, 3) := by decide +kernel
theorem dX5_where_17 : decode cX5_where 17 = .ok (.if_icmp .lt 13, 3) := by decide +kernel
theorem dX5_where_20 : decode cX5_where 20 = .ok (.new 57, 3) := by decide +kernel
theorem dX5_where_23 : decode cX5_where 23 = .ok (.dup, 1) := by decide +kernel
theorem dX5_where_24 : decode cX5_where 24 = .ok (.ldc 194, 2) := by decide +kernel
theorem dX5_where_26 : decode cX5_where 26 = .ok (.invokespecial 61, 3) := by decide +kernel
theorem dX5_where_29 : decode cX5_where 29 = .ok (.athrow, 1) := by decide +kernel
theorem dX5_where_30 : decode cX5_where 30 = .ok (.iload_n 3, 1) := by decide +kernel
theorem dX5_where_31 : decode cX5_where 31 = .ok (.ifCond .lt 8, 3) := by decide +kernel
theorem dX5_where_34 : decode cX5_where 34 = .ok (.iload_n 3, 1) := by decide +kernel
theorem dX5_where_35 : decode cX5_where 35 = .ok (.iconst 3, 1) := by decide +kernel
theorem dX5_where_36 : decode cX5_where 36 = .ok (.if_icmp .le 13, 3) := by decide +kernel
theorem dX5_where_39 : decode cX5_where 39 = .ok (.new 62, 3) := by decide +kernel
theorem dX5_where_42 : decode cX5_where 42 = .ok (.dup, 1) := by decide +kernel
theorem dX5_where_43 : decode cX5_where 43 = .ok (.ldc 117, 2) := by decide +kernel
theorem dX5_where_45 : decode cX5_where 45 = .ok (.invokespecial 66, 3) := by decide +kernel
theorem dX5_where_48 : decode cX5_where 48 = .ok (.athrow, 1) := by decide +kernel
theorem dX5_where_49 : decode cX5_where 49 = .ok (.iload_n 2, 1) := by decide +kernel
theorem dX5_where_50 : decode cX5_where 50 = .ok (.aload 4, 2) := by decide +kernel
theorem dX5_where_52 : decode cX5_where 52 = .ok (.getfield 196, 3) := by decide +kernel
theorem dX5_where_55 : decode cX5_where 55 = .ok (.invokevirtual 29, 3) := by decide +kernel
theorem dX5_where_58 : decode cX5_where 58 = .ok (.if_icmp .lt 5, 3) := by decide +kernel
theorem dX5_where_61 : decode cX5_where 61 = .ok (.iconst (-1), 1) := by decide +kernel
theorem dX5_where_62 : decode cX5_where 62 = .ok (.ireturn, 1) := by decide +kernel
theorem dX5_where_63 : decode cX5_where 63 = .ok (.aload 4, 2) := by decide +kernel
theorem dX5_where_65 : decode cX5_where 65 = .ok (.getfield 196, 3) := by decide +kernel
theorem dX5_where_68 : decode cX5_where 68 = .ok (.iload_n 2, 1) := by decide +kernel
theorem dX5_where_69 : decode cX5_where 69 = .ok (.invokevirtual 199, 3) := by decide +kernel
theorem dX5_where_72 : decode cX5_where 72 = .ok (.checkcast 203, 3) := by decide +kernel
theorem dX5_where_75 : decode cX5_where 75 = .ok (.astore 5, 2) := by decide +kernel
theorem dX5_where_77 : decode cX5_where 77 = .ok (.iload_n 3, 1) := by decide +kernel
theorem dX5_where_78 : decode cX5_where 78 = .ok (.tableswitch 44 0 2 #[26, 32, 38], 26) := by decide +kernel
theorem dX5_where_104 : decode cX5_where 104 = .ok (.aload 5, 2) := by decide +kernel
theorem dX5_where_106 : decode cX5_where 106 = .ok (.getfield 205, 3) := by decide +kernel
theorem dX5_where_109 : decode cX5_where 109 = .ok (.ireturn, 1) := by decide +kernel
theorem dX5_where_110 : decode cX5_where 110 = .ok (.aload 5, 2) := by decide +kernel
theorem dX5_where_112 : decode cX5_where 112 = .ok (.getfield 208, 3) := by decide +kernel
theorem dX5_where_115 : decode cX5_where 115 = .ok (.ireturn, 1) := by decide +kernel
theorem dX5_where_116 : decode cX5_where 116 = .ok (.aload 5, 2) := by decide +kernel
theorem dX5_where_118 : decode cX5_where 118 = .ok (.getfield 211, 3) := by decide +kernel
theorem dX5_where_121 : decode cX5_where 121 = .ok (.ireturn, 1) := by decide +kernel
theorem dX5_where_122 : decode cX5_where 122 = .ok (.aload 5, 2) := by decide +kernel
theorem dX5_where_124 : decode cX5_where 124 = .ok (.getfield 214, 3) := by decide +kernel
theorem dX5_where_127 : decode cX5_where 127 = .ok (.ireturn, 1) := by decide +kernel
theorem dX5_free_0 : decode cX5_free 0 = .ok (.iload_n 1, 1) := by decide +kernel
theorem dX5_free_1 : decode cX5_free 1 = .ok (.ifCond .ge 13, 3) := by decide +kernel
theorem dX5_free_4 : decode cX5_free 4 = .ok (.new 57, 3) := by decide +kernel
theorem dX5_free_7 : decode cX5_free 7 = .ok (.dup, 1) := by decide +kernel
theorem dX5_free_8 : decode cX5_free 8 = .ok (.ldc 215, 2) := by decide +kernel
theorem dX5_free_10 : decode cX5_free 10 = .ok (.invokespecial 61, 3) := by decide +kernel
theorem dX5_free_13 : decode cX5_free 13 = .ok (.athrow, 1) := by decide +kernel
theorem dX5_free_14 : decode cX5_free 14 = .ok (.aload_n 0, 1) := by decide +kernel
theorem dX5_free_15 : decode cX5_free 15 = .ok (.getfield 25, 3) := by decide +kernel
theorem dX5_free_18 : decode cX5_free 18 = .ok (.iload_n 1, 1) := by decide +kernel
theorem dX5_free_19 : decode cX5_free 19 = .ok (.invokevirtual 217, 3) := by decide +kernel
theorem dX5_free_22 : decode cX5_free 22 = .ok (.astore_n 2, 1) := by decide +kernel
theorem dX5_free_23 : decode cX5_free 23 = .ok (.aload_n 2, 1) := by decide +kernel
theorem dX5_free_24 : decode cX5_free 24 = .ok (.ifnonnull 7, 3) := by decide +kernel
theorem dX5_free_27 : decode cX5_free 27 = .ok (.iconst (-1), 1) := by decide +kernel
theorem dX5_free_28 : decode cX5_free 28 = .ok (.goto 24, 3) := by decide +kernel
theorem dX5_free_31 : decode cX5_free 31 = .ok (.sipush 10000, 3) := by decide +kernel
theorem dX5_free_34 : decode cX5_free 34 = .ok (.aload_n 2, 1) := by decide +kernel
theorem dX5_free_35 : decode cX5_free 35 = .ok (.getfield 205, 3) := by decide +kernel
theorem dX5_free_38 : decode cX5_free 38 = .ok (.imul, 1) := by decide +kernel
theorem dX5_free_39 : decode cX5_free 39 = .ok (.bipush 100, 2) := by decide +kernel
theorem dX5_free_41 : decode cX5_free 41 = .ok (.aload_n 2, 1) := by decide +kernel
theorem dX5_free_42 : decode cX5_free 42 = .ok (.getfield 221, 3) := by decide +kernel
theorem dX5_free_45 : decode cX5_free 45 = .ok (.imul, 1) := by decide +kernel
theorem dX5_free_46 : decode cX5_free 46 = .ok (.iadd, 1) := by decide +kernel
theorem dX5_free_47 : decode cX5_free 47 = .ok (.aload_n 2, 1) := by decide +kernel
theorem dX5_free_48 : decode cX5_free 48 = .ok (.getfield 223, 3) := by decide +kernel
theorem dX5_free_51 : decode cX5_free 51 = .ok (.iadd, 1) := by decide +kernel
theorem dX5_free_52 : decode cX5_free 52 = .ok (.ireturn, 1) := by decide +kernel
theorem dX5_minutes_0 : decode cX5_minutes 0 = .ok (.aload_n 0, 1) := by decide +kernel
theorem dX5_minutes_1 : decode cX5_minutes 1 = .ok (.getfield 176, 3) := by decide +kernel
theorem dX5_minutes_4 : decode cX5_minutes 4 = .ok (.ireturn, 1) := by decide +kernel
theorem dX5_cutLength_0 : decode cX5_cutLength 0 = .ok (.aload_n 0, 1) := by decide +kernel
theorem dX5_cutLength_1 : decode cX5_cutLength 1 = .ok (.getfield 179, 3) := by decide +kernel
theorem dX5_cutLength_4 : decode cX5_cutLength 4 = .ok (.freturn, 1) := by decide +kernel
theorem dX5_cutAnew_0 : decode cX5_cutAnew 0 = .ok (.fconst 0, 1) := by decide +kernel
theorem dX5_cutAnew_1 : decode cX5_cutAnew 1 = .ok (.fstore_n 1, 1) := by decide +kernel
theorem dX5_cutAnew_2 : decode cX5_cutAnew 2 = .ok (.iconst 0, 1) := by decide +kernel
theorem dX5_cutAnew_3 : decode cX5_cutAnew 3 = .ok (.istore_n 2, 1) := by decide +kernel
theorem dX5_cutAnew_4 : decode cX5_cutAnew 4 = .ok (.iload_n 2, 1) := by decide +kernel
theorem dX5_cutAnew_5 : decode cX5_cutAnew 5 = .ok (.aload_n 0, 1) := by decide +kernel
theorem dX5_cutAnew_6 : decode cX5_cutAnew 6 = .ok (.getfield 19, 3) := by decide +kernel
theorem dX5_cutAnew_9 : decode cX5_cutAnew 9 = .ok (.invokevirtual 29, 3) := by decide +kernel
theorem dX5_cutAnew_12 : decode cX5_cutAnew 12 = .ok (.if_icmp .ge 37, 3) := by decide +kernel
theorem dX5_cutAnew_15 : decode cX5_cutAnew 15 = .ok (.aload_n 0, 1) := by decide +kernel
theorem dX5_cutAnew_16 : decode cX5_cutAnew 16 = .ok (.getfield 19, 3) := by decide +kernel
theorem dX5_cutAnew_19 : decode cX5_cutAnew 19 = .ok (.iload_n 2, 1) := by decide +kernel
theorem dX5_cutAnew_20 : decode cX5_cutAnew 20 = .ok (.invokevirtual 199, 3) := by decide +kernel
theorem dX5_cutAnew_23 : decode cX5_cutAnew 23 = .ok (.checkcast 144, 3) := by decide +kernel
theorem dX5_cutAnew_26 : decode cX5_cutAnew 26 = .ok (.astore_n 3, 1) := by decide +kernel
theorem dX5_cutAnew_27 : decode cX5_cutAnew 27 = .ok (.fload_n 1, 1) := by decide +kernel
theorem dX5_cutAnew_28 : decode cX5_cutAnew 28 = .ok (.aload_n 3, 1) := by decide +kernel
theorem dX5_cutAnew_29 : decode cX5_cutAnew 29 = .ok (.getfield 225, 3) := by decide +kernel
theorem dX5_cutAnew_32 : decode cX5_cutAnew 32 = .ok (.invokevirtual 119, 3) := by decide +kernel
theorem dX5_cutAnew_35 : decode cX5_cutAnew 35 = .ok (.aload_n 3, 1) := by decide +kernel
theorem dX5_cutAnew_36 : decode cX5_cutAnew 36 = .ok (.getfield 183, 3) := by decide +kernel
theorem dX5_cutAnew_39 : decode cX5_cutAnew 39 = .ok (.invokestatic 186, 3) := by decide +kernel
theorem dX5_cutAnew_42 : decode cX5_cutAnew 42 = .ok (.fstore_n 1, 1) := by decide +kernel
theorem dX5_cutAnew_43 : decode cX5_cutAnew 43 = .ok (.iinc 2 1, 3) := by decide +kernel
theorem dX5_cutAnew_46 : decode cX5_cutAnew 46 = .ok (.goto (-42), 3) := by decide +kernel
theorem dX5_cutAnew_49 : decode cX5_cutAnew 49 = .ok (.fload_n 1, 1) := by decide +kernel
theorem dX5_cutAnew_50 : decode cX5_cutAnew 50 = .ok (.freturn, 1) := by decide +kernel
theorem dX5_drawingAt_0 : decode cX5_drawingAt 0 = .ok (.iload_n 1, 1) := by decide +kernel
theorem dX5_drawingAt_1 : decode cX5_drawingAt 1 = .ok (.ifCond .lt 14, 3) := by decide +kernel
theorem dX5_drawingAt_4 : decode cX5_drawingAt 4 = .ok (.iload_n 1, 1) := by decide +kernel
theorem dX5_drawingAt_5 : decode cX5_drawingAt 5 = .ok (.aload_n 0, 1) := by decide +kernel
theorem dX5_drawingAt_6 : decode cX5_drawingAt 6 = .ok (.getfield 12, 3) := by decide +kernel
theorem dX5_drawingAt_9 : decode cX5_drawingAt 9 = .ok (.invokevirtual 29, 3) := by decide +kernel
theorem dX5_drawingAt_12 : decode cX5_drawingAt 12 = .ok (.if_icmp .lt 13, 3) := by decide +kernel
theorem dX5_drawingAt_15 : decode cX5_drawingAt 15 = .ok (.new 57, 3) := by decide +kernel
theorem dX5_drawingAt_18 : decode cX5_drawingAt 18 = .ok (.dup, 1) := by decide +kernel
theorem dX5_drawingAt_19 : decode cX5_drawingAt 19 = .ok (.ldc 228, 2) := by decide +kernel
theorem dX5_drawingAt_21 : decode cX5_drawingAt 21 = .ok (.invokespecial 61, 3) := by decide +kernel
theorem dX5_drawingAt_24 : decode cX5_drawingAt 24 = .ok (.athrow, 1) := by decide +kernel
theorem dX5_drawingAt_25 : decode cX5_drawingAt 25 = .ok (.aload_n 0, 1) := by decide +kernel
theorem dX5_drawingAt_26 : decode cX5_drawingAt 26 = .ok (.getfield 12, 3) := by decide +kernel
