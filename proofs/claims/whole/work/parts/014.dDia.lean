theorem d_Dia_init_0 : decode b_Dia_init 0 = .ok (.aload_n 0, 1) := by decide +kernel
theorem d_Dia_init_1 : decode b_Dia_init 1 = .ok (.invokespecial 3, 3) := by decide +kernel
theorem d_Dia_init_4 : decode b_Dia_init 4 = .ok (.aload_n 0, 1) := by decide +kernel
theorem d_Dia_init_5 : decode b_Dia_init 5 = .ok (.new 9, 3) := by decide +kernel
theorem d_Dia_init_8 : decode b_Dia_init 8 = .ok (.dup, 1) := by decide +kernel
theorem d_Dia_init_9 : decode b_Dia_init 9 = .ok (.invokespecial 11, 3) := by decide +kernel
theorem d_Dia_init_12 : decode b_Dia_init 12 = .ok (.putfield 12, 3) := by decide +kernel
theorem d_Dia_init_15 : decode b_Dia_init 15 = .ok (.aload_n 0, 1) := by decide +kernel
theorem d_Dia_init_16 : decode b_Dia_init 16 = .ok (.new 18, 3) := by decide +kernel
theorem d_Dia_init_19 : decode b_Dia_init 19 = .ok (.dup, 1) := by decide +kernel
theorem d_Dia_init_20 : decode b_Dia_init 20 = .ok (.invokespecial 20, 3) := by decide +kernel
theorem d_Dia_init_23 : decode b_Dia_init 23 = .ok (.putfield 21, 3) := by decide +kernel
theorem d_Dia_init_26 : decode b_Dia_init 26 = .ok (.aload_n 0, 1) := by decide +kernel
theorem d_Dia_init_27 : decode b_Dia_init 27 = .ok (.new 25, 3) := by decide +kernel
theorem d_Dia_init_30 : decode b_Dia_init 30 = .ok (.dup, 1) := by decide +kernel
theorem d_Dia_init_31 : decode b_Dia_init 31 = .ok (.invokespecial 27, 3) := by decide +kernel
theorem d_Dia_init_34 : decode b_Dia_init 34 = .ok (.putfield 28, 3) := by decide +kernel
theorem d_Dia_init_37 : decode b_Dia_init 37 = .ok (.aload_n 0, 1) := by decide +kernel
theorem d_Dia_init_38 : decode b_Dia_init 38 = .ok (.new 32, 3) := by decide +kernel
theorem d_Dia_init_41 : decode b_Dia_init 41 = .ok (.dup, 1) := by decide +kernel
theorem d_Dia_init_42 : decode b_Dia_init 42 = .ok (.invokespecial 34, 3) := by decide +kernel
theorem d_Dia_init_45 : decode b_Dia_init 45 = .ok (.putfield 35, 3) := by decide +kernel
theorem d_Dia_init_48 : decode b_Dia_init 48 = .ok (.aload_n 0, 1) := by decide +kernel
theorem d_Dia_init_49 : decode b_Dia_init 49 = .ok (.bipush 80, 2) := by decide +kernel
theorem d_Dia_init_51 : decode b_Dia_init 51 = .ok (.newarray .int, 2) := by decide +kernel
theorem d_Dia_init_53 : decode b_Dia_init 53 = .ok (.putfield 39, 3) := by decide +kernel
theorem d_Dia_init_56 : decode b_Dia_init 56 = .ok (.return_, 1) := by decide +kernel
theorem d_Dia_chart_0 : decode b_Dia_chart 0 = .ok (.aload_n 0, 1) := by decide +kernel
theorem d_Dia_chart_1 : decode b_Dia_chart 1 = .ok (.getfield 21, 3) := by decide +kernel
theorem d_Dia_chart_4 : decode b_Dia_chart 4 = .ok (.aload_n 0, 1) := by decide +kernel
theorem d_Dia_chart_5 : decode b_Dia_chart 5 = .ok (.getfield 12, 3) := by decide +kernel
theorem d_Dia_chart_8 : decode b_Dia_chart 8 = .ok (.invokevirtual 43, 3) := by decide +kernel
theorem d_Dia_chart_11 : decode b_Dia_chart 11 = .ok (.istore_n 1, 1) := by decide +kernel
theorem d_Dia_chart_12 : decode b_Dia_chart 12 = .ok (.iload_n 1, 1) := by decide +kernel
theorem d_Dia_chart_13 : decode b_Dia_chart 13 = .ok (.ifCond .eq 5, 3) := by decide +kernel
theorem d_Dia_chart_16 : decode b_Dia_chart 16 = .ok (.iload_n 1, 1) := by decide +kernel
theorem d_Dia_chart_17 : decode b_Dia_chart 17 = .ok (.ireturn, 1) := by decide +kernel
theorem d_Dia_chart_18 : decode b_Dia_chart 18 = .ok (.aload_n 0, 1) := by decide +kernel
theorem d_Dia_chart_19 : decode b_Dia_chart 19 = .ok (.getfield 28, 3) := by decide +kernel
theorem d_Dia_chart_22 : decode b_Dia_chart 22 = .ok (.aload_n 0, 1) := by decide +kernel
theorem d_Dia_chart_23 : decode b_Dia_chart 23 = .ok (.getfield 21, 3) := by decide +kernel
theorem d_Dia_chart_26 : decode b_Dia_chart 26 = .ok (.invokevirtual 47, 3) := by decide +kernel
theorem d_Dia_chart_29 : decode b_Dia_chart 29 = .ok (.aload_n 0, 1) := by decide +kernel
theorem d_Dia_chart_30 : decode b_Dia_chart 30 = .ok (.getfield 35, 3) := by decide +kernel
theorem d_Dia_chart_33 : decode b_Dia_chart 33 = .ok (.aload_n 0, 1) := by decide +kernel
theorem d_Dia_chart_34 : decode b_Dia_chart 34 = .ok (.getfield 12, 3) := by decide +kernel
theorem d_Dia_chart_37 : decode b_Dia_chart 37 = .ok (.getfield 50, 3) := by decide +kernel
theorem d_Dia_chart_40 : decode b_Dia_chart 40 = .ok (.aload_n 0, 1) := by decide +kernel
theorem d_Dia_chart_41 : decode b_Dia_chart 41 = .ok (.getfield 21, 3) := by decide +kernel
theorem d_Dia_chart_44 : decode b_Dia_chart 44 = .ok (.invokevirtual 54, 3) := by decide +kernel
theorem d_Dia_chart_47 : decode b_Dia_chart 47 = .ok (.aload_n 0, 1) := by decide +kernel
theorem d_Dia_chart_48 : decode b_Dia_chart 48 = .ok (.getfield 28, 3) := by decide +kernel
theorem d_Dia_chart_51 : decode b_Dia_chart 51 = .ok (.getfield 57, 3) := by decide +kernel
theorem d_Dia_chart_54 : decode b_Dia_chart 54 = .ok (.aload_n 0, 1) := by decide +kernel
theorem d_Dia_chart_55 : decode b_Dia_chart 55 = .ok (.getfield 12, 3) := by decide +kernel
theorem d_Dia_chart_58 : decode b_Dia_chart 58 = .ok (.getfield 50, 3) := by decide +kernel
theorem d_Dia_chart_61 : decode b_Dia_chart 61 = .ok (.iconst 2, 1) := by decide +kernel
theorem d_Dia_chart_62 : decode b_Dia_chart 62 = .ok (.aload_n 0, 1) := by decide +kernel
theorem d_Dia_chart_63 : decode b_Dia_chart 63 = .ok (.getfield 35, 3) := by decide +kernel
theorem d_Dia_chart_66 : decode b_Dia_chart 66 = .ok (.getfield 58, 3) := by decide +kernel
theorem d_Dia_chart_69 : decode b_Dia_chart 69 = .ok (.imul, 1) := by decide +kernel
theorem d_Dia_chart_70 : decode b_Dia_chart 70 = .ok (.iadd, 1) := by decide +kernel
theorem d_Dia_chart_71 : decode b_Dia_chart 71 = .ok (.if_icmp .ne 7, 3) := by decide +kernel
theorem d_Dia_chart_74 : decode b_Dia_chart 74 = .ok (.iconst 0, 1) := by decide +kernel
theorem d_Dia_chart_75 : decode b_Dia_chart 75 = .ok (.goto 4, 3) := by decide +kernel
theorem d_Dia_chart_78 : decode b_Dia_chart 78 = .ok (.iconst 3, 1) := by decide +kernel
theorem d_Dia_chart_79 : decode b_Dia_chart 79 = .ok (.ireturn, 1) := by decide +kernel
theorem d_Dia_patternAt_0 : decode b_Dia_patternAt 0 = .ok (.aload_n 0, 1) := by decide +kernel
theorem d_Dia_patternAt_1 : decode b_Dia_patternAt 1 = .ok (.getfield 28, 3) := by decide +kernel
theorem d_Dia_patternAt_4 : decode b_Dia_patternAt 4 = .ok (.iload_n 1, 1) := by decide +kernel
theorem d_Dia_patternAt_5 : decode b_Dia_patternAt 5 = .ok (.invokevirtual 59, 3) := by decide +kernel
theorem d_Dia_patternAt_8 : decode b_Dia_patternAt 8 = .ok (.tableswitch 75 1 3 #[28, 30, 61], 28) := by decide +kernel
theorem d_Dia_patternAt_36 : decode b_Dia_patternAt 36 = .ok (.iconst 1, 1) := by decide +kernel
theorem d_Dia_patternAt_37 : decode b_Dia_patternAt 37 = .ok (.ireturn, 1) := by decide +kernel
theorem d_Dia_patternAt_38 : decode b_Dia_patternAt 38 = .ok (.aload_n 0, 1) := by decide +kernel
theorem d_Dia_patternAt_39 : decode b_Dia_patternAt 39 = .ok (.aload_n 0, 1) := by decide +kernel
theorem d_Dia_patternAt_40 : decode b_Dia_patternAt 40 = .ok (.getfield 28, 3) := by decide +kernel
theorem d_Dia_patternAt_43 : decode b_Dia_patternAt 43 = .ok (.iload_n 1, 1) := by decide +kernel
theorem d_Dia_patternAt_44 : decode b_Dia_patternAt 44 = .ok (.iconst 0, 1) := by decide +kernel
theorem d_Dia_patternAt_45 : decode b_Dia_patternAt 45 = .ok (.invokevirtual 63, 3) := by decide +kernel
theorem d_Dia_patternAt_48 : decode b_Dia_patternAt 48 = .ok (.aload_n 0, 1) := by decide +kernel
theorem d_Dia_patternAt_49 : decode b_Dia_patternAt 49 = .ok (.getfield 28, 3) := by decide +kernel
theorem d_Dia_patternAt_52 : decode b_Dia_patternAt 52 = .ok (.iload_n 1, 1) := by decide +kernel
theorem d_Dia_patternAt_53 : decode b_Dia_patternAt 53 = .ok (.iconst 1, 1) := by decide +kernel
theorem d_Dia_patternAt_54 : decode b_Dia_patternAt 54 = .ok (.invokevirtual 63, 3) := by decide +kernel
theorem d_Dia_patternAt_57 : decode b_Dia_patternAt 57 = .ok (.invokevirtual 67, 3) := by decide +kernel
theorem d_Dia_patternAt_60 : decode b_Dia_patternAt 60 = .ok (.ifCond .eq 7, 3) := by decide +kernel
theorem d_Dia_patternAt_63 : decode b_Dia_patternAt 63 = .ok (.iconst 2, 1) := by decide +kernel
theorem d_Dia_patternAt_64 : decode b_Dia_patternAt 64 = .ok (.goto 4, 3) := by decide +kernel
theorem d_Dia_patternAt_67 : decode b_Dia_patternAt 67 = .ok (.iconst 0, 1) := by decide +kernel
theorem d_Dia_patternAt_68 : decode b_Dia_patternAt 68 = .ok (.ireturn, 1) := by decide +kernel
theorem d_Dia_patternAt_69 : decode b_Dia_patternAt 69 = .ok (.aload_n 0, 1) := by decide +kernel
theorem d_Dia_patternAt_70 : decode b_Dia_patternAt 70 = .ok (.iload_n 1, 1) := by decide +kernel
theorem d_Dia_patternAt_71 : decode b_Dia_patternAt 71 = .ok (.invokevirtual 71, 3) := by decide +kernel
theorem d_Dia_patternAt_74 : decode b_Dia_patternAt 74 = .ok (.ifCond .eq 7, 3) := by decide +kernel
theorem d_Dia_patternAt_77 : decode b_Dia_patternAt 77 = .ok (.iconst 3, 1) := by decide +kernel
theorem d_Dia_patternAt_78 : decode b_Dia_patternAt 78 = .ok (.goto 4, 3) := by decide +kernel
theorem d_Dia_patternAt_81 : decode b_Dia_patternAt 81 = .ok (.iconst 0, 1) := by decide +kernel
theorem d_Dia_patternAt_82 : decode b_Dia_patternAt 82 = .ok (.ireturn, 1) := by decide +kernel
theorem d_Dia_patternAt_83 : decode b_Dia_patternAt 83 = .ok (.iconst 0, 1) := by decide +kernel
theorem d_Dia_patternAt_84 : decode b_Dia_patternAt 84 = .ok (.ireturn, 1) := by decide +kernel
theorem d_Dia_isFinger_0 : decode b_Dia_isFinger 0 = .ok (.aload_n 0, 1) := by decide +kernel
theorem d_Dia_isFinger_1 : decode b_Dia_isFinger 1 = .ok (.getfield 21, 3) := by decide +kernel
theorem d_Dia_isFinger_4 : decode b_Dia_isFinger 4 = .ok (.iload_n 1, 1) := by decide +kernel
theorem d_Dia_isFinger_5 : decode b_Dia_isFinger 5 = .ok (.iconst 1, 1) := by decide +kernel
theorem d_Dia_isFinger_6 : decode b_Dia_isFinger 6 = .ok (.ishr, 1) := by decide +kernel
theorem d_Dia_isFinger_7 : decode b_Dia_isFinger 7 = .ok (.invokevirtual 75, 3) := by decide +kernel
theorem d_Dia_isFinger_10 : decode b_Dia_isFinger 10 = .ok (.istore_n 3, 1) := by decide +kernel
theorem d_Dia_isFinger_11 : decode b_Dia_isFinger 11 = .ok (.aload_n 0, 1) := by decide +kernel
theorem d_Dia_isFinger_12 : decode b_Dia_isFinger 12 = .ok (.iload_n 1, 1) := by decide +kernel
theorem d_Dia_isFinger_13 : decode b_Dia_isFinger 13 = .ok (.invokevirtual 78, 3) := by decide +kernel
theorem d_Dia_isFinger_16 : decode b_Dia_isFinger 16 = .ok (.aload_n 0, 1) := by decide +kernel
theorem d_Dia_isFinger_17 : decode b_Dia_isFinger 17 = .ok (.iload_n 2, 1) := by decide +kernel
theorem d_Dia_isFinger_18 : decode b_Dia_isFinger 18 = .ok (.invokevirtual 78, 3) := by decide +kernel
theorem d_Dia_isFinger_21 : decode b_Dia_isFinger 21 = .ok (.if_icmp .eq 28, 3) := by decide +kernel
theorem d_Dia_isFinger_24 : decode b_Dia_isFinger 24 = .ok (.iload_n 3, 1) := by decide +kernel
theorem d_Dia_isFinger_25 : decode b_Dia_isFinger 25 = .ok (.iconst 1, 1) := by decide +kernel
theorem d_Dia_isFinger_26 : decode b_Dia_isFinger 26 = .ok (.if_icmp .eq 23, 3) := by decide +kernel
theorem d_Dia_isFinger_29 : decode b_Dia_isFinger 29 = .ok (.aload_n 0, 1) := by decide +kernel
theorem d_Dia_isFinger_30 : decode b_Dia_isFinger 30 = .ok (.getfield 21, 3) := by decide +kernel
theorem d_Dia_isFinger_33 : decode b_Dia_isFinger 33 = .ok (.iload_n 2, 1) := by decide +kernel
theorem d_Dia_isFinger_34 : decode b_Dia_isFinger 34 = .ok (.iconst 1, 1) := by decide +kernel
theorem d_Dia_isFinger_35 : decode b_Dia_isFinger 35 = .ok (.ishr, 1) := by decide +kernel
theorem d_Dia_isFinger_36 : decode b_Dia_isFinger 36 = .ok (.invokevirtual 75, 3) := by decide +kernel
theorem d_Dia_isFinger_39 : decode b_Dia_isFinger 39 = .ok (.iconst 2, 1) := by decide +kernel
theorem d_Dia_isFinger_40 : decode b_Dia_isFinger 40 = .ok (.iload_n 3, 1) := by decide +kernel
theorem d_Dia_isFinger_41 : decode b_Dia_isFinger 41 = .ok (.isub, 1) := by decide +kernel
theorem d_Dia_isFinger_42 : decode b_Dia_isFinger 42 = .ok (.if_icmp .ne 7, 3) := by decide +kernel
theorem d_Dia_isFinger_45 : decode b_Dia_isFinger 45 = .ok (.iconst 1, 1) := by decide +kernel
theorem d_Dia_isFinger_46 : decode b_Dia_isFinger 46 = .ok (.goto 4, 3) := by decide +kernel
theorem d_Dia_isFinger_49 : decode b_Dia_isFinger 49 = .ok (.iconst 0, 1) := by decide +kernel
theorem d_Dia_isFinger_50 : decode b_Dia_isFinger 50 = .ok (.ireturn, 1) := by decide +kernel
theorem d_Dia_isTriangle_0 : decode b_Dia_isTriangle 0 = .ok (.iconst 0, 1) := by decide +kernel
theorem d_Dia_isTriangle_1 : decode b_Dia_isTriangle 1 = .ok (.istore_n 2, 1) := by decide +kernel
theorem d_Dia_isTriangle_2 : decode b_Dia_isTriangle 2 = .ok (.iconst 0, 1) := by decide +kernel
theorem d_Dia_isTriangle_3 : decode b_Dia_isTriangle 3 = .ok (.istore_n 3, 1) := by decide +kernel
theorem d_Dia_isTriangle_4 : decode b_Dia_isTriangle 4 = .ok (.iconst 0, 1) := by decide +kernel
theorem d_Dia_isTriangle_5 : decode b_Dia_isTriangle 5 = .ok (.istore 4, 2) := by decide +kernel
theorem d_Dia_isTriangle_7 : decode b_Dia_isTriangle 7 = .ok (.iload 4, 2) := by decide +kernel
theorem d_Dia_isTriangle_9 : decode b_Dia_isTriangle 9 = .ok (.iconst 3, 1) := by decide +kernel
theorem d_Dia_isTriangle_10 : decode b_Dia_isTriangle 10 = .ok (.if_icmp .ge 48, 3) := by decide +kernel
theorem d_Dia_isTriangle_13 : decode b_Dia_isTriangle 13 = .ok (.aload_n 0, 1) := by decide +kernel
theorem d_Dia_isTriangle_14 : decode b_Dia_isTriangle 14 = .ok (.getfield 28, 3) := by decide +kernel
theorem d_Dia_isTriangle_17 : decode b_Dia_isTriangle 17 = .ok (.iload_n 1, 1) := by decide +kernel
theorem d_Dia_isTriangle_18 : decode b_Dia_isTriangle 18 = .ok (.iload 4, 2) := by decide +kernel
theorem d_Dia_isTriangle_20 : decode b_Dia_isTriangle 20 = .ok (.invokevirtual 63, 3) := by decide +kernel
theorem d_Dia_isTriangle_23 : decode b_Dia_isTriangle 23 = .ok (.istore 5, 2) := by decide +kernel
theorem d_Dia_isTriangle_25 : decode b_Dia_isTriangle 25 = .ok (.iload_n 2, 1) := by decide +kernel
theorem d_Dia_isTriangle_26 : decode b_Dia_isTriangle 26 = .ok (.iconst 1, 1) := by decide +kernel
theorem d_Dia_isTriangle_27 : decode b_Dia_isTriangle 27 = .ok (.aload_n 0, 1) := by decide +kernel
theorem d_Dia_isTriangle_28 : decode b_Dia_isTriangle 28 = .ok (.iload 5, 2) := by decide +kernel
theorem d_Dia_isTriangle_30 : decode b_Dia_isTriangle 30 = .ok (.invokevirtual 78, 3) := by decide +kernel
theorem d_Dia_isTriangle_33 : decode b_Dia_isTriangle 33 = .ok (.ishl, 1) := by decide +kernel
theorem d_Dia_isTriangle_34 : decode b_Dia_isTriangle 34 = .ok (.ior, 1) := by decide +kernel
theorem d_Dia_isTriangle_35 : decode b_Dia_isTriangle 35 = .ok (.istore_n 2, 1) := by decide +kernel
theorem d_Dia_isTriangle_36 : decode b_Dia_isTriangle 36 = .ok (.iload_n 3, 1) := by decide +kernel
theorem d_Dia_isTriangle_37 : decode b_Dia_isTriangle 37 = .ok (.iconst 1, 1) := by decide +kernel
theorem d_Dia_isTriangle_38 : decode b_Dia_isTriangle 38 = .ok (.aload_n 0, 1) := by decide +kernel
theorem d_Dia_isTriangle_39 : decode b_Dia_isTriangle 39 = .ok (.getfield 21, 3) := by decide +kernel
theorem d_Dia_isTriangle_42 : decode b_Dia_isTriangle 42 = .ok (.iload 5, 2) := by decide +kernel
theorem d_Dia_isTriangle_44 : decode b_Dia_isTriangle 44 = .ok (.iconst 1, 1) := by decide +kernel
theorem d_Dia_isTriangle_45 : decode b_Dia_isTriangle 45 = .ok (.ishr, 1) := by decide +kernel
theorem d_Dia_isTriangle_46 : decode b_Dia_isTriangle 46 = .ok (.invokevirtual 75, 3) := by decide +kernel
theorem d_Dia_isTriangle_49 : decode b_Dia_isTriangle 49 = .ok (.ishl, 1) := by decide +kernel
theorem d_Dia_isTriangle_50 : decode b_Dia_isTriangle 50 = .ok (.ior, 1) := by decide +kernel
theorem d_Dia_isTriangle_51 : decode b_Dia_isTriangle 51 = .ok (.istore_n 3, 1) := by decide +kernel
theorem d_Dia_isTriangle_52 : decode b_Dia_isTriangle 52 = .ok (.iinc 4 1, 3) := by decide +kernel
theorem d_Dia_isTriangle_55 : decode b_Dia_isTriangle 55 = .ok (.goto (-48), 3) := by decide +kernel
theorem d_Dia_isTriangle_58 : decode b_Dia_isTriangle 58 = .ok (.iload_n 2, 1) := by decide +kernel
theorem d_Dia_isTriangle_59 : decode b_Dia_isTriangle 59 = .ok (.invokestatic 81, 3) := by decide +kernel
theorem d_Dia_isTriangle_62 : decode b_Dia_isTriangle 62 = .ok (.iconst 3, 1) := by decide +kernel
theorem d_Dia_isTriangle_63 : decode b_Dia_isTriangle 63 = .ok (.if_icmp .ne 13, 3) := by decide +kernel
theorem d_Dia_isTriangle_66 : decode b_Dia_isTriangle 66 = .ok (.iload_n 3, 1) := by decide +kernel
theorem d_Dia_isTriangle_67 : decode b_Dia_isTriangle 67 = .ok (.bipush 7, 2) := by decide +kernel
theorem d_Dia_isTriangle_69 : decode b_Dia_isTriangle 69 = .ok (.if_icmp .ne 7, 3) := by decide +kernel
theorem d_Dia_isTriangle_72 : decode b_Dia_isTriangle 72 = .ok (.iconst 1, 1) := by decide +kernel
theorem d_Dia_isTriangle_73 : decode b_Dia_isTriangle 73 = .ok (.goto 4, 3) := by decide +kernel
theorem d_Dia_isTriangle_76 : decode b_Dia_isTriangle 76 = .ok (.iconst 0, 1) := by decide +kernel
theorem d_Dia_isTriangle_77 : decode b_Dia_isTriangle 77 = .ok (.ireturn, 1) := by decide +kernel
theorem d_Dia_crossingAhead_0 : decode b_Dia_crossingAhead 0 = .ok (.aload_n 0, 1) := by decide +kernel
theorem d_Dia_crossingAhead_1 : decode b_Dia_crossingAhead 1 = .ok (.getfield 21, 3) := by decide +kernel
theorem d_Dia_crossingAhead_4 : decode b_Dia_crossingAhead 4 = .ok (.iload_n 1, 1) := by decide +kernel
theorem d_Dia_crossingAhead_5 : decode b_Dia_crossingAhead 5 = .ok (.invokevirtual 86, 3) := by decide +kernel
theorem d_Dia_crossingAhead_8 : decode b_Dia_crossingAhead 8 = .ok (.iconst 2, 1) := by decide +kernel
theorem d_Dia_crossingAhead_9 : decode b_Dia_crossingAhead 9 = .ok (.ishr, 1) := by decide +kernel
theorem d_Dia_crossingAhead_10 : decode b_Dia_crossingAhead 10 = .ok (.ireturn, 1) := by decide +kernel
theorem d_Dia_leastFaceToUndo_0 : decode b_Dia_leastFaceToUndo 0 = .ok (.iconst 0, 1) := by decide +kernel
theorem d_Dia_leastFaceToUndo_1 : decode b_Dia_leastFaceToUndo 1 = .ok (.istore_n 1, 1) := by decide +kernel
theorem d_Dia_leastFaceToUndo_2 : decode b_Dia_leastFaceToUndo 2 = .ok (.iload_n 1, 1) := by decide +kernel
theorem d_Dia_leastFaceToUndo_3 : decode b_Dia_leastFaceToUndo 3 = .ok (.aload_n 0, 1) := by decide +kernel
theorem d_Dia_leastFaceToUndo_4 : decode b_Dia_leastFaceToUndo 4 = .ok (.getfield 28, 3) := by decide +kernel
theorem d_Dia_leastFaceToUndo_7 : decode b_Dia_leastFaceToUndo 7 = .ok (.getfield 57, 3) := by decide +kernel
theorem d_Dia_leastFaceToUndo_10 : decode b_Dia_leastFaceToUndo 10 = .ok (.if_icmp .ge 27, 3) := by decide +kernel
theorem d_Dia_leastFaceToUndo_13 : decode b_Dia_leastFaceToUndo 13 = .ok (.aload_n 0, 1) := by decide +kernel
theorem d_Dia_leastFaceToUndo_14 : decode b_Dia_leastFaceToUndo 14 = .ok (.iload_n 1, 1) := by decide +kernel
theorem d_Dia_leastFaceToUndo_15 : decode b_Dia_leastFaceToUndo 15 = .ok (.invokevirtual 89, 3) := by decide +kernel
theorem d_Dia_leastFaceToUndo_18 : decode b_Dia_leastFaceToUndo 18 = .ok (.istore_n 2, 1) := by decide +kernel
theorem d_Dia_leastFaceToUndo_19 : decode b_Dia_leastFaceToUndo 19 = .ok (.iload_n 2, 1) := by decide +kernel
theorem d_Dia_leastFaceToUndo_20 : decode b_Dia_leastFaceToUndo 20 = .ok (.iconst 1, 1) := by decide +kernel
theorem d_Dia_leastFaceToUndo_21 : decode b_Dia_leastFaceToUndo 21 = .ok (.if_icmp .eq 8, 3) := by decide +kernel
theorem d_Dia_leastFaceToUndo_24 : decode b_Dia_leastFaceToUndo 24 = .ok (.iload_n 2, 1) := by decide +kernel
theorem d_Dia_leastFaceToUndo_25 : decode b_Dia_leastFaceToUndo 25 = .ok (.iconst 2, 1) := by decide +kernel
theorem d_Dia_leastFaceToUndo_26 : decode b_Dia_leastFaceToUndo 26 = .ok (.if_icmp .ne 5, 3) := by decide +kernel
theorem d_Dia_leastFaceToUndo_29 : decode b_Dia_leastFaceToUndo 29 = .ok (.iload_n 1, 1) := by decide +kernel
theorem d_Dia_leastFaceToUndo_30 : decode b_Dia_leastFaceToUndo 30 = .ok (.ireturn, 1) := by decide +kernel
theorem d_Dia_leastFaceToUndo_31 : decode b_Dia_leastFaceToUndo 31 = .ok (.iinc 1 1, 3) := by decide +kernel
theorem d_Dia_leastFaceToUndo_34 : decode b_Dia_leastFaceToUndo 34 = .ok (.goto (-32), 3) := by decide +kernel
theorem d_Dia_leastFaceToUndo_37 : decode b_Dia_leastFaceToUndo 37 = .ok (.iconst (-1), 1) := by decide +kernel
theorem d_Dia_leastFaceToUndo_38 : decode b_Dia_leastFaceToUndo 38 = .ok (.ireturn, 1) := by decide +kernel
theorem d_Dia_undoAt_0 : decode b_Dia_undoAt 0 = .ok (.aload_n 0, 1) := by decide +kernel
theorem d_Dia_undoAt_1 : decode b_Dia_undoAt 1 = .ok (.iload_n 1, 1) := by decide +kernel
theorem d_Dia_undoAt_2 : decode b_Dia_undoAt 2 = .ok (.invokevirtual 89, 3) := by decide +kernel
theorem d_Dia_undoAt_5 : decode b_Dia_undoAt 5 = .ok (.istore_n 2, 1) := by decide +kernel
theorem d_Dia_undoAt_6 : decode b_Dia_undoAt 6 = .ok (.iload_n 2, 1) := by decide +kernel
theorem d_Dia_undoAt_7 : decode b_Dia_undoAt 7 = .ok (.iconst 1, 1) := by decide +kernel
theorem d_Dia_undoAt_8 : decode b_Dia_undoAt 8 = .ok (.if_icmp .eq 10, 3) := by decide +kernel
theorem d_Dia_undoAt_11 : decode b_Dia_undoAt 11 = .ok (.iload_n 2, 1) := by decide +kernel
theorem d_Dia_undoAt_12 : decode b_Dia_undoAt 12 = .ok (.iconst 2, 1) := by decide +kernel
theorem d_Dia_undoAt_13 : decode b_Dia_undoAt 13 = .ok (.if_icmp .eq 5, 3) := by decide +kernel
theorem d_Dia_undoAt_16 : decode b_Dia_undoAt 16 = .ok (.iconst 0, 1) := by decide +kernel
theorem d_Dia_undoAt_17 : decode b_Dia_undoAt 17 = .ok (.ireturn, 1) := by decide +kernel
theorem d_Dia_undoAt_18 : decode b_Dia_undoAt 18 = .ok (.aload_n 0, 1) := by decide +kernel
theorem d_Dia_undoAt_19 : decode b_Dia_undoAt 19 = .ok (.aload_n 0, 1) := by decide +kernel
theorem d_Dia_undoAt_20 : decode b_Dia_undoAt 20 = .ok (.getfield 28, 3) := by decide +kernel
theorem d_Dia_undoAt_23 : decode b_Dia_undoAt 23 = .ok (.iload_n 1, 1) := by decide +kernel
theorem d_Dia_undoAt_24 : decode b_Dia_undoAt 24 = .ok (.iconst 0, 1) := by decide +kernel
theorem d_Dia_undoAt_25 : decode b_Dia_undoAt 25 = .ok (.invokevirtual 63, 3) := by decide +kernel
theorem d_Dia_undoAt_28 : decode b_Dia_undoAt 28 = .ok (.invokevirtual 78, 3) := by decide +kernel
theorem d_Dia_undoAt_31 : decode b_Dia_undoAt 31 = .ok (.istore_n 3, 1) := by decide +kernel
theorem d_Dia_undoAt_32 : decode b_Dia_undoAt 32 = .ok (.iload_n 2, 1) := by decide +kernel
theorem d_Dia_undoAt_33 : decode b_Dia_undoAt 33 = .ok (.iconst 1, 1) := by decide +kernel
theorem d_Dia_undoAt_34 : decode b_Dia_undoAt 34 = .ok (.if_icmp .ne 11, 3) := by decide +kernel
theorem d_Dia_undoAt_37 : decode b_Dia_undoAt 37 = .ok (.aload_n 0, 1) := by decide +kernel
theorem d_Dia_undoAt_38 : decode b_Dia_undoAt 38 = .ok (.iload_n 3, 1) := by decide +kernel
theorem d_Dia_undoAt_39 : decode b_Dia_undoAt 39 = .ok (.invokevirtual 92, 3) := by decide +kernel
theorem d_Dia_undoAt_42 : decode b_Dia_undoAt 42 = .ok (.goto 40, 3) := by decide +kernel
theorem d_Dia_undoAt_45 : decode b_Dia_undoAt 45 = .ok (.aload_n 0, 1) := by decide +kernel
theorem d_Dia_undoAt_46 : decode b_Dia_undoAt 46 = .ok (.aload_n 0, 1) := by decide +kernel
theorem d_Dia_undoAt_47 : decode b_Dia_undoAt 47 = .ok (.getfield 28, 3) := by decide +kernel
theorem d_Dia_undoAt_50 : decode b_Dia_undoAt 50 = .ok (.iload_n 1, 1) := by decide +kernel
theorem d_Dia_undoAt_51 : decode b_Dia_undoAt 51 = .ok (.iconst 1, 1) := by decide +kernel
theorem d_Dia_undoAt_52 : decode b_Dia_undoAt 52 = .ok (.invokevirtual 63, 3) := by decide +kernel
theorem d_Dia_undoAt_55 : decode b_Dia_undoAt 55 = .ok (.invokevirtual 78, 3) := by decide +kernel
theorem d_Dia_undoAt_58 : decode b_Dia_undoAt 58 = .ok (.istore 4, 2) := by decide +kernel
theorem d_Dia_undoAt_60 : decode b_Dia_undoAt 60 = .ok (.aload_n 0, 1) := by decide +kernel
theorem d_Dia_undoAt_61 : decode b_Dia_undoAt 61 = .ok (.iload_n 3, 1) := by decide +kernel
theorem d_Dia_undoAt_62 : decode b_Dia_undoAt 62 = .ok (.iload 4, 2) := by decide +kernel
theorem d_Dia_undoAt_64 : decode b_Dia_undoAt 64 = .ok (.invokestatic 96, 3) := by decide +kernel
theorem d_Dia_undoAt_67 : decode b_Dia_undoAt 67 = .ok (.invokevirtual 92, 3) := by decide +kernel
theorem d_Dia_undoAt_70 : decode b_Dia_undoAt 70 = .ok (.aload_n 0, 1) := by decide +kernel
theorem d_Dia_undoAt_71 : decode b_Dia_undoAt 71 = .ok (.iload_n 3, 1) := by decide +kernel
theorem d_Dia_undoAt_72 : decode b_Dia_undoAt 72 = .ok (.iload 4, 2) := by decide +kernel
theorem d_Dia_undoAt_74 : decode b_Dia_undoAt 74 = .ok (.invokestatic 101, 3) := by decide +kernel
theorem d_Dia_undoAt_77 : decode b_Dia_undoAt 77 = .ok (.iconst 1, 1) := by decide +kernel
theorem d_Dia_undoAt_78 : decode b_Dia_undoAt 78 = .ok (.isub, 1) := by decide +kernel
theorem d_Dia_undoAt_79 : decode b_Dia_undoAt 79 = .ok (.invokevirtual 92, 3) := by decide +kernel
theorem d_Dia_undoAt_82 : decode b_Dia_undoAt 82 = .ok (.aload_n 0, 1) := by decide +kernel
theorem d_Dia_undoAt_83 : decode b_Dia_undoAt 83 = .ok (.invokevirtual 104, 3) := by decide +kernel
theorem d_Dia_undoAt_86 : decode b_Dia_undoAt 86 = .ok (.pop, 1) := by decide +kernel
theorem d_Dia_undoAt_87 : decode b_Dia_undoAt 87 = .ok (.iload_n 2, 1) := by decide +kernel
theorem d_Dia_undoAt_88 : decode b_Dia_undoAt 88 = .ok (.ireturn, 1) := by decide +kernel
theorem d_Dia_lift_0 : decode b_Dia_lift 0 = .ok (.aload_n 0, 1) := by decide +kernel
theorem d_Dia_lift_1 : decode b_Dia_lift 1 = .ok (.getfield 12, 3) := by decide +kernel
theorem d_Dia_lift_4 : decode b_Dia_lift 4 = .ok (.iload_n 1, 1) := by decide +kernel
theorem d_Dia_lift_5 : decode b_Dia_lift 5 = .ok (.invokevirtual 108, 3) := by decide +kernel
theorem d_Dia_lift_8 : decode b_Dia_lift 8 = .ok (.istore_n 2, 1) := by decide +kernel
theorem d_Dia_lift_9 : decode b_Dia_lift 9 = .ok (.aload_n 0, 1) := by decide +kernel
theorem d_Dia_lift_10 : decode b_Dia_lift 10 = .ok (.iconst 4, 1) := by decide +kernel
theorem d_Dia_lift_11 : decode b_Dia_lift 11 = .ok (.iload_n 1, 1) := by decide +kernel
theorem d_Dia_lift_12 : decode b_Dia_lift 12 = .ok (.imul, 1) := by decide +kernel
theorem d_Dia_lift_13 : decode b_Dia_lift 13 = .ok (.iconst 4, 1) := by decide +kernel
theorem d_Dia_lift_14 : decode b_Dia_lift 14 = .ok (.iload_n 1, 1) := by decide +kernel
theorem d_Dia_lift_15 : decode b_Dia_lift 15 = .ok (.imul, 1) := by decide +kernel
theorem d_Dia_lift_16 : decode b_Dia_lift 16 = .ok (.iconst 2, 1) := by decide +kernel
theorem d_Dia_lift_17 : decode b_Dia_lift 17 = .ok (.iadd, 1) := by decide +kernel
theorem d_Dia_lift_18 : decode b_Dia_lift 18 = .ok (.invokevirtual 111, 3) := by decide +kernel
theorem d_Dia_lift_21 : decode b_Dia_lift 21 = .ok (.aload_n 0, 1) := by decide +kernel
theorem d_Dia_lift_22 : decode b_Dia_lift 22 = .ok (.iload_n 2, 1) := by decide +kernel
theorem d_Dia_lift_23 : decode b_Dia_lift 23 = .ok (.iload_n 2, 1) := by decide +kernel
theorem d_Dia_lift_24 : decode b_Dia_lift 24 = .ok (.iconst 2, 1) := by decide +kernel
theorem d_Dia_lift_25 : decode b_Dia_lift 25 = .ok (.ixor, 1) := by decide +kernel
theorem d_Dia_lift_26 : decode b_Dia_lift 26 = .ok (.invokevirtual 111, 3) := by decide +kernel
theorem d_Dia_lift_29 : decode b_Dia_lift 29 = .ok (.aload_n 0, 1) := by decide +kernel
theorem d_Dia_lift_30 : decode b_Dia_lift 30 = .ok (.getfield 12, 3) := by decide +kernel
theorem d_Dia_lift_33 : decode b_Dia_lift 33 = .ok (.iload_n 1, 1) := by decide +kernel
theorem d_Dia_lift_34 : decode b_Dia_lift 34 = .ok (.invokevirtual 115, 3) := by decide +kernel
theorem d_Dia_lift_37 : decode b_Dia_lift 37 = .ok (.return_, 1) := by decide +kernel
theorem d_Dia_joinEdges_0 : decode b_Dia_joinEdges 0 = .ok (.aload_n 0, 1) := by decide +kernel
theorem d_Dia_joinEdges_1 : decode b_Dia_joinEdges 1 = .ok (.getfield 12, 3) := by decide +kernel
theorem d_Dia_joinEdges_4 : decode b_Dia_joinEdges 4 = .ok (.iload_n 1, 1) := by decide +kernel
theorem d_Dia_joinEdges_5 : decode b_Dia_joinEdges 5 = .ok (.iload_n 2, 1) := by decide +kernel
theorem d_Dia_joinEdges_6 : decode b_Dia_joinEdges 6 = .ok (.invokevirtual 118, 3) := by decide +kernel
theorem d_Dia_joinEdges_9 : decode b_Dia_joinEdges 9 = .ok (.ifCond .ne 13, 3) := by decide +kernel
theorem d_Dia_joinEdges_12 : decode b_Dia_joinEdges 12 = .ok (.aload_n 0, 1) := by decide +kernel
theorem d_Dia_joinEdges_13 : decode b_Dia_joinEdges 13 = .ok (.dup, 1) := by decide +kernel
theorem d_Dia_joinEdges_14 : decode b_Dia_joinEdges 14 = .ok (.getfield 121, 3) := by decide +kernel
theorem d_Dia_joinEdges_17 : decode b_Dia_joinEdges 17 = .ok (.iconst 1, 1) := by decide +kernel
theorem d_Dia_joinEdges_18 : decode b_Dia_joinEdges 18 = .ok (.iadd, 1) := by decide +kernel
theorem d_Dia_joinEdges_19 : decode b_Dia_joinEdges 19 = .ok (.putfield 121, 3) := by decide +kernel
theorem d_Dia_joinEdges_22 : decode b_Dia_joinEdges 22 = .ok (.return_, 1) := by decide +kernel
theorem d_Dia_slideAt_0 : decode b_Dia_slideAt 0 = .ok (.aload_n 0, 1) := by decide +kernel
theorem d_Dia_slideAt_1 : decode b_Dia_slideAt 1 = .ok (.iload_n 1, 1) := by decide +kernel
theorem d_Dia_slideAt_2 : decode b_Dia_slideAt 2 = .ok (.invokevirtual 89, 3) := by decide +kernel
theorem d_Dia_slideAt_5 : decode b_Dia_slideAt 5 = .ok (.iconst 3, 1) := by decide +kernel
theorem d_Dia_slideAt_6 : decode b_Dia_slideAt 6 = .ok (.if_icmp .eq 5, 3) := by decide +kernel
theorem d_Dia_slideAt_9 : decode b_Dia_slideAt 9 = .ok (.iconst 0, 1) := by decide +kernel
theorem d_Dia_slideAt_10 : decode b_Dia_slideAt 10 = .ok (.ireturn, 1) := by decide +kernel
theorem d_Dia_slideAt_11 : decode b_Dia_slideAt 11 = .ok (.aload_n 0, 1) := by decide +kernel
theorem d_Dia_slideAt_12 : decode b_Dia_slideAt 12 = .ok (.getfield 12, 3) := by decide +kernel
theorem d_Dia_slideAt_15 : decode b_Dia_slideAt 15 = .ok (.getfield 124, 3) := by decide +kernel
theorem d_Dia_slideAt_18 : decode b_Dia_slideAt 18 = .ok (.iconst 0, 1) := by decide +kernel
theorem d_Dia_slideAt_19 : decode b_Dia_slideAt 19 = .ok (.aload_n 0, 1) := by decide +kernel
theorem d_Dia_slideAt_20 : decode b_Dia_slideAt 20 = .ok (.getfield 39, 3) := by decide +kernel
theorem d_Dia_slideAt_23 : decode b_Dia_slideAt 23 = .ok (.iconst 0, 1) := by decide +kernel
theorem d_Dia_slideAt_24 : decode b_Dia_slideAt 24 = .ok (.bipush 80, 2) := by decide +kernel
theorem d_Dia_slideAt_26 : decode b_Dia_slideAt 26 = .ok (.invokestatic 127, 3) := by decide +kernel
theorem d_Dia_slideAt_29 : decode b_Dia_slideAt 29 = .ok (.iconst 0, 1) := by decide +kernel
theorem d_Dia_slideAt_30 : decode b_Dia_slideAt 30 = .ok (.istore_n 2, 1) := by decide +kernel
theorem d_Dia_slideAt_31 : decode b_Dia_slideAt 31 = .ok (.iload_n 2, 1) := by decide +kernel
theorem d_Dia_slideAt_32 : decode b_Dia_slideAt 32 = .ok (.iconst 3, 1) := by decide +kernel
theorem d_Dia_slideAt_33 : decode b_Dia_slideAt 33 = .ok (.if_icmp .ge 24, 3) := by decide +kernel
theorem d_Dia_slideAt_36 : decode b_Dia_slideAt 36 = .ok (.aload_n 0, 1) := by decide +kernel
theorem d_Dia_slideAt_37 : decode b_Dia_slideAt 37 = .ok (.aload_n 0, 1) := by decide +kernel
theorem d_Dia_slideAt_38 : decode b_Dia_slideAt 38 = .ok (.getfield 28, 3) := by decide +kernel
theorem d_Dia_slideAt_41 : decode b_Dia_slideAt 41 = .ok (.iload_n 1, 1) := by decide +kernel
theorem d_Dia_slideAt_42 : decode b_Dia_slideAt 42 = .ok (.iload_n 2, 1) := by decide +kernel
theorem d_Dia_slideAt_43 : decode b_Dia_slideAt 43 = .ok (.invokevirtual 63, 3) := by decide +kernel
theorem d_Dia_slideAt_46 : decode b_Dia_slideAt 46 = .ok (.iconst 1, 1) := by decide +kernel
theorem d_Dia_slideAt_47 : decode b_Dia_slideAt 47 = .ok (.ishr, 1) := by decide +kernel
theorem d_Dia_slideAt_48 : decode b_Dia_slideAt 48 = .ok (.invokevirtual 133, 3) := by decide +kernel
theorem d_Dia_slideAt_51 : decode b_Dia_slideAt 51 = .ok (.iinc 2 1, 3) := by decide +kernel
theorem d_Dia_slideAt_54 : decode b_Dia_slideAt 54 = .ok (.goto (-23), 3) := by decide +kernel
theorem d_Dia_slideAt_57 : decode b_Dia_slideAt 57 = .ok (.aload_n 0, 1) := by decide +kernel
theorem d_Dia_slideAt_58 : decode b_Dia_slideAt 58 = .ok (.getfield 39, 3) := by decide +kernel
theorem d_Dia_slideAt_61 : decode b_Dia_slideAt 61 = .ok (.iconst 0, 1) := by decide +kernel
theorem d_Dia_slideAt_62 : decode b_Dia_slideAt 62 = .ok (.aload_n 0, 1) := by decide +kernel
theorem d_Dia_slideAt_63 : decode b_Dia_slideAt 63 = .ok (.getfield 12, 3) := by decide +kernel
theorem d_Dia_slideAt_66 : decode b_Dia_slideAt 66 = .ok (.getfield 124, 3) := by decide +kernel
theorem d_Dia_slideAt_69 : decode b_Dia_slideAt 69 = .ok (.iconst 0, 1) := by decide +kernel
theorem d_Dia_slideAt_70 : decode b_Dia_slideAt 70 = .ok (.bipush 80, 2) := by decide +kernel
theorem d_Dia_slideAt_72 : decode b_Dia_slideAt 72 = .ok (.invokestatic 127, 3) := by decide +kernel
theorem d_Dia_slideAt_75 : decode b_Dia_slideAt 75 = .ok (.aload_n 0, 1) := by decide +kernel
theorem d_Dia_slideAt_76 : decode b_Dia_slideAt 76 = .ok (.invokevirtual 104, 3) := by decide +kernel
theorem d_Dia_slideAt_79 : decode b_Dia_slideAt 79 = .ok (.pop, 1) := by decide +kernel
theorem d_Dia_slideAt_80 : decode b_Dia_slideAt 80 = .ok (.iconst 1, 1) := by decide +kernel
theorem d_Dia_slideAt_81 : decode b_Dia_slideAt 81 = .ok (.ireturn, 1) := by decide +kernel
theorem d_Dia_slideEdge_0 : decode b_Dia_slideEdge 0 = .ok (.aload_n 0, 1) := by decide +kernel
theorem d_Dia_slideEdge_1 : decode b_Dia_slideEdge 1 = .ok (.getfield 21, 3) := by decide +kernel
theorem d_Dia_slideEdge_4 : decode b_Dia_slideEdge 4 = .ok (.getfield 136, 3) := by decide +kernel
theorem d_Dia_slideEdge_7 : decode b_Dia_slideEdge 7 = .ok (.iload_n 1, 1) := by decide +kernel
theorem d_Dia_slideEdge_8 : decode b_Dia_slideEdge 8 = .ok (.iaload, 1) := by decide +kernel
theorem d_Dia_slideEdge_9 : decode b_Dia_slideEdge 9 = .ok (.istore_n 2, 1) := by decide +kernel
theorem d_Dia_slideEdge_10 : decode b_Dia_slideEdge 10 = .ok (.aload_n 0, 1) := by decide +kernel
theorem d_Dia_slideEdge_11 : decode b_Dia_slideEdge 11 = .ok (.getfield 21, 3) := by decide +kernel
theorem d_Dia_slideEdge_14 : decode b_Dia_slideEdge 14 = .ok (.getfield 139, 3) := by decide +kernel
theorem d_Dia_slideEdge_17 : decode b_Dia_slideEdge 17 = .ok (.iload_n 1, 1) := by decide +kernel
theorem d_Dia_slideEdge_18 : decode b_Dia_slideEdge 18 = .ok (.iaload, 1) := by decide +kernel
theorem d_Dia_slideEdge_19 : decode b_Dia_slideEdge 19 = .ok (.istore_n 3, 1) := by decide +kernel
theorem d_Dia_slideEdge_20 : decode b_Dia_slideEdge 20 = .ok (.aload_n 0, 1) := by decide +kernel
theorem d_Dia_slideEdge_21 : decode b_Dia_slideEdge 21 = .ok (.getfield 12, 3) := by decide +kernel
theorem d_Dia_slideEdge_24 : decode b_Dia_slideEdge 24 = .ok (.getfield 124, 3) := by decide +kernel
theorem d_Dia_slideEdge_27 : decode b_Dia_slideEdge 27 = .ok (.iload_n 2, 1) := by decide +kernel
theorem d_Dia_slideEdge_28 : decode b_Dia_slideEdge 28 = .ok (.iconst 2, 1) := by decide +kernel
theorem d_Dia_slideEdge_29 : decode b_Dia_slideEdge 29 = .ok (.ixor, 1) := by decide +kernel
theorem d_Dia_slideEdge_30 : decode b_Dia_slideEdge 30 = .ok (.iaload, 1) := by decide +kernel
theorem d_Dia_slideEdge_31 : decode b_Dia_slideEdge 31 = .ok (.istore 4, 2) := by decide +kernel
theorem d_Dia_slideEdge_33 : decode b_Dia_slideEdge 33 = .ok (.aload_n 0, 1) := by decide +kernel
theorem d_Dia_slideEdge_34 : decode b_Dia_slideEdge 34 = .ok (.getfield 12, 3) := by decide +kernel
theorem d_Dia_slideEdge_37 : decode b_Dia_slideEdge 37 = .ok (.getfield 124, 3) := by decide +kernel
theorem d_Dia_slideEdge_40 : decode b_Dia_slideEdge 40 = .ok (.iload_n 3, 1) := by decide +kernel
theorem d_Dia_slideEdge_41 : decode b_Dia_slideEdge 41 = .ok (.iconst 2, 1) := by decide +kernel
theorem d_Dia_slideEdge_42 : decode b_Dia_slideEdge 42 = .ok (.ixor, 1) := by decide +kernel
theorem d_Dia_slideEdge_43 : decode b_Dia_slideEdge 43 = .ok (.iaload, 1) := by decide +kernel
theorem d_Dia_slideEdge_44 : decode b_Dia_slideEdge 44 = .ok (.istore 5, 2) := by decide +kernel
theorem d_Dia_slideEdge_46 : decode b_Dia_slideEdge 46 = .ok (.aload_n 0, 1) := by decide +kernel
theorem d_Dia_slideEdge_47 : decode b_Dia_slideEdge 47 = .ok (.getfield 39, 3) := by decide +kernel
theorem d_Dia_slideEdge_50 : decode b_Dia_slideEdge 50 = .ok (.iload_n 2, 1) := by decide +kernel
theorem d_Dia_slideEdge_51 : decode b_Dia_slideEdge 51 = .ok (.iconst 2, 1) := by decide +kernel
theorem d_Dia_slideEdge_52 : decode b_Dia_slideEdge 52 = .ok (.ixor, 1) := by decide +kernel
theorem d_Dia_slideEdge_53 : decode b_Dia_slideEdge 53 = .ok (.aload_n 0, 1) := by decide +kernel
theorem d_Dia_slideEdge_54 : decode b_Dia_slideEdge 54 = .ok (.getfield 21, 3) := by decide +kernel
theorem d_Dia_slideEdge_57 : decode b_Dia_slideEdge 57 = .ok (.getfield 142, 3) := by decide +kernel
theorem d_Dia_slideEdge_60 : decode b_Dia_slideEdge 60 = .ok (.iload_n 1, 1) := by decide +kernel
theorem d_Dia_slideEdge_61 : decode b_Dia_slideEdge 61 = .ok (.iaload, 1) := by decide +kernel
theorem d_Dia_slideEdge_62 : decode b_Dia_slideEdge 62 = .ok (.iastore, 1) := by decide +kernel
theorem d_Dia_slideEdge_63 : decode b_Dia_slideEdge 63 = .ok (.aload_n 0, 1) := by decide +kernel
theorem d_Dia_slideEdge_64 : decode b_Dia_slideEdge 64 = .ok (.getfield 39, 3) := by decide +kernel
theorem d_Dia_slideEdge_67 : decode b_Dia_slideEdge 67 = .ok (.iload_n 2, 1) := by decide +kernel
theorem d_Dia_slideEdge_68 : decode b_Dia_slideEdge 68 = .ok (.iload 5, 2) := by decide +kernel
theorem d_Dia_slideEdge_70 : decode b_Dia_slideEdge 70 = .ok (.iastore, 1) := by decide +kernel
theorem d_Dia_slideEdge_71 : decode b_Dia_slideEdge 71 = .ok (.aload_n 0, 1) := by decide +kernel
theorem d_Dia_slideEdge_72 : decode b_Dia_slideEdge 72 = .ok (.getfield 39, 3) := by decide +kernel
theorem d_Dia_slideEdge_75 : decode b_Dia_slideEdge 75 = .ok (.iload_n 3, 1) := by decide +kernel
theorem d_Dia_slideEdge_76 : decode b_Dia_slideEdge 76 = .ok (.iload 4, 2) := by decide +kernel
theorem d_Dia_slideEdge_78 : decode b_Dia_slideEdge 78 = .ok (.iastore, 1) := by decide +kernel
theorem d_Dia_slideEdge_79 : decode b_Dia_slideEdge 79 = .ok (.aload_n 0, 1) := by decide +kernel
theorem d_Dia_slideEdge_80 : decode b_Dia_slideEdge 80 = .ok (.getfield 39, 3) := by decide +kernel
theorem d_Dia_slideEdge_83 : decode b_Dia_slideEdge 83 = .ok (.iload_n 3, 1) := by decide +kernel
theorem d_Dia_slideEdge_84 : decode b_Dia_slideEdge 84 = .ok (.iconst 2, 1) := by decide +kernel
theorem d_Dia_slideEdge_85 : decode b_Dia_slideEdge 85 = .ok (.ixor, 1) := by decide +kernel
theorem d_Dia_slideEdge_86 : decode b_Dia_slideEdge 86 = .ok (.aload_n 0, 1) := by decide +kernel
theorem d_Dia_slideEdge_87 : decode b_Dia_slideEdge 87 = .ok (.getfield 21, 3) := by decide +kernel
theorem d_Dia_slideEdge_90 : decode b_Dia_slideEdge 90 = .ok (.getfield 142, 3) := by decide +kernel
theorem d_Dia_slideEdge_93 : decode b_Dia_slideEdge 93 = .ok (.iload_n 1, 1) := by decide +kernel
theorem d_Dia_slideEdge_94 : decode b_Dia_slideEdge 94 = .ok (.iaload, 1) := by decide +kernel
theorem d_Dia_slideEdge_95 : decode b_Dia_slideEdge 95 = .ok (.iastore, 1) := by decide +kernel
theorem d_Dia_slideEdge_96 : decode b_Dia_slideEdge 96 = .ok (.return_, 1) := by decide +kernel
theorem d_Dia_twistCircle_0 : decode b_Dia_twistCircle 0 = .ok (.aload_n 0, 1) := by decide +kernel
theorem d_Dia_twistCircle_1 : decode b_Dia_twistCircle 1 = .ok (.getfield 121, 3) := by decide +kernel
theorem d_Dia_twistCircle_4 : decode b_Dia_twistCircle 4 = .ok (.ifCond .gt 5, 3) := by decide +kernel
theorem d_Dia_twistCircle_7 : decode b_Dia_twistCircle 7 = .ok (.iconst 0, 1) := by decide +kernel
theorem d_Dia_twistCircle_8 : decode b_Dia_twistCircle 8 = .ok (.ireturn, 1) := by decide +kernel
theorem d_Dia_twistCircle_9 : decode b_Dia_twistCircle 9 = .ok (.aload_n 0, 1) := by decide +kernel
theorem d_Dia_twistCircle_10 : decode b_Dia_twistCircle 10 = .ok (.dup, 1) := by decide +kernel
theorem d_Dia_twistCircle_11 : decode b_Dia_twistCircle 11 = .ok (.getfield 121, 3) := by decide +kernel
theorem d_Dia_twistCircle_14 : decode b_Dia_twistCircle 14 = .ok (.iconst 1, 1) := by decide +kernel
theorem d_Dia_twistCircle_15 : decode b_Dia_twistCircle 15 = .ok (.isub, 1) := by decide +kernel
theorem d_Dia_twistCircle_16 : decode b_Dia_twistCircle 16 = .ok (.putfield 121, 3) := by decide +kernel
theorem d_Dia_twistCircle_19 : decode b_Dia_twistCircle 19 = .ok (.aload_n 0, 1) := by decide +kernel
theorem d_Dia_twistCircle_20 : decode b_Dia_twistCircle 20 = .ok (.getfield 21, 3) := by decide +kernel
theorem d_Dia_twistCircle_23 : decode b_Dia_twistCircle 23 = .ok (.iconst 0, 1) := by decide +kernel
theorem d_Dia_twistCircle_24 : decode b_Dia_twistCircle 24 = .ok (.invokevirtual 143, 3) := by decide +kernel
theorem d_Dia_twistCircle_27 : decode b_Dia_twistCircle 27 = .ok (.istore_n 3, 1) := by decide +kernel
theorem d_Dia_twistCircle_28 : decode b_Dia_twistCircle 28 = .ok (.aload_n 0, 1) := by decide +kernel
theorem d_Dia_twistCircle_29 : decode b_Dia_twistCircle 29 = .ok (.getfield 21, 3) := by decide +kernel
theorem d_Dia_twistCircle_32 : decode b_Dia_twistCircle 32 = .ok (.iload_n 3, 1) := by decide +kernel
theorem d_Dia_twistCircle_33 : decode b_Dia_twistCircle 33 = .ok (.invokevirtual 143, 3) := by decide +kernel
theorem d_Dia_twistCircle_36 : decode b_Dia_twistCircle 36 = .ok (.istore 4, 2) := by decide +kernel
theorem d_Dia_twistCircle_38 : decode b_Dia_twistCircle 38 = .ok (.aload_n 0, 1) := by decide +kernel
theorem d_Dia_twistCircle_39 : decode b_Dia_twistCircle 39 = .ok (.new 146, 3) := by decide +kernel
theorem d_Dia_twistCircle_42 : decode b_Dia_twistCircle 42 = .ok (.dup, 1) := by decide +kernel
theorem d_Dia_twistCircle_43 : decode b_Dia_twistCircle 43 = .ok (.iload 4, 2) := by decide +kernel
theorem d_Dia_twistCircle_45 : decode b_Dia_twistCircle 45 = .ok (.iload_n 3, 1) := by decide +kernel
theorem d_Dia_twistCircle_46 : decode b_Dia_twistCircle 46 = .ok (.iload 4, 2) := by decide +kernel
theorem d_Dia_twistCircle_48 : decode b_Dia_twistCircle 48 = .ok (.invokespecial 148, 3) := by decide +kernel
theorem d_Dia_twistCircle_51 : decode b_Dia_twistCircle 51 = .ok (.iload_n 1, 1) := by decide +kernel
theorem d_Dia_twistCircle_52 : decode b_Dia_twistCircle 52 = .ok (.iload_n 2, 1) := by decide +kernel
theorem d_Dia_twistCircle_53 : decode b_Dia_twistCircle 53 = .ok (.invokevirtual 151, 3) := by decide +kernel
theorem d_Dia_twistCircle_56 : decode b_Dia_twistCircle 56 = .ok (.iconst 1, 1) := by decide +kernel
theorem d_Dia_twistCircle_57 : decode b_Dia_twistCircle 57 = .ok (.ireturn, 1) := by decide +kernel
theorem d_Dia_twistEdge_0 : decode b_Dia_twistEdge 0 = .ok (.aload_n 0, 1) := by decide +kernel
theorem d_Dia_twistEdge_1 : decode b_Dia_twistEdge 1 = .ok (.getfield 21, 3) := by decide +kernel
theorem d_Dia_twistEdge_4 : decode b_Dia_twistEdge 4 = .ok (.iload_n 1, 1) := by decide +kernel
theorem d_Dia_twistEdge_5 : decode b_Dia_twistEdge 5 = .ok (.invokevirtual 155, 3) := by decide +kernel
theorem d_Dia_twistEdge_8 : decode b_Dia_twistEdge 8 = .ok (.istore 4, 2) := by decide +kernel
theorem d_Dia_twistEdge_10 : decode b_Dia_twistEdge 10 = .ok (.iload 4, 2) := by decide +kernel
theorem d_Dia_twistEdge_12 : decode b_Dia_twistEdge 12 = .ok (.ifCond .ge 5, 3) := by decide +kernel
theorem d_Dia_twistEdge_15 : decode b_Dia_twistEdge 15 = .ok (.iconst 0, 1) := by decide +kernel
theorem d_Dia_twistEdge_16 : decode b_Dia_twistEdge 16 = .ok (.ireturn, 1) := by decide +kernel
theorem d_Dia_twistEdge_17 : decode b_Dia_twistEdge 17 = .ok (.aload_n 0, 1) := by decide +kernel
theorem d_Dia_twistEdge_18 : decode b_Dia_twistEdge 18 = .ok (.aload_n 0, 1) := by decide +kernel
theorem d_Dia_twistEdge_19 : decode b_Dia_twistEdge 19 = .ok (.iload 4, 2) := by decide +kernel
theorem d_Dia_twistEdge_21 : decode b_Dia_twistEdge 21 = .ok (.iconst 0, 1) := by decide +kernel
theorem d_Dia_twistEdge_22 : decode b_Dia_twistEdge 22 = .ok (.invokevirtual 158, 3) := by decide +kernel
theorem d_Dia_twistEdge_25 : decode b_Dia_twistEdge 25 = .ok (.iload_n 2, 1) := by decide +kernel
theorem d_Dia_twistEdge_26 : decode b_Dia_twistEdge 26 = .ok (.iload_n 3, 1) := by decide +kernel
theorem d_Dia_twistEdge_27 : decode b_Dia_twistEdge 27 = .ok (.invokevirtual 151, 3) := by decide +kernel
theorem d_Dia_twistEdge_30 : decode b_Dia_twistEdge 30 = .ok (.iconst 1, 1) := by decide +kernel
theorem d_Dia_twistEdge_31 : decode b_Dia_twistEdge 31 = .ok (.ireturn, 1) := by decide +kernel
theorem d_Dia_addKink_0 : decode b_Dia_addKink 0 = .ok (.aload_n 0, 1) := by decide +kernel
theorem d_Dia_addKink_1 : decode b_Dia_addKink 1 = .ok (.iload_n 2, 1) := by decide +kernel
theorem d_Dia_addKink_2 : decode b_Dia_addKink 2 = .ok (.aload_n 1, 1) := by decide +kernel
theorem d_Dia_addKink_3 : decode b_Dia_addKink 3 = .ok (.iload_n 3, 1) := by decide +kernel
theorem d_Dia_addKink_4 : decode b_Dia_addKink 4 = .ok (.aload_n 1, 1) := by decide +kernel
theorem d_Dia_addKink_5 : decode b_Dia_addKink 5 = .ok (.iload_n 3, 1) := by decide +kernel
theorem d_Dia_addKink_6 : decode b_Dia_addKink 6 = .ok (.ifCond .ne 7, 3) := by decide +kernel
theorem d_Dia_addKink_9 : decode b_Dia_addKink 9 = .ok (.iconst 1, 1) := by decide +kernel
theorem d_Dia_addKink_10 : decode b_Dia_addKink 10 = .ok (.goto 4, 3) := by decide +kernel
theorem d_Dia_addKink_13 : decode b_Dia_addKink 13 = .ok (.iconst 0, 1) := by decide +kernel
theorem d_Dia_addKink_14 : decode b_Dia_addKink 14 = .ok (.invokevirtual 162, 3) := by decide +kernel
theorem d_Dia_addKink_17 : decode b_Dia_addKink 17 = .ok (.aload_n 0, 1) := by decide +kernel
theorem d_Dia_addKink_18 : decode b_Dia_addKink 18 = .ok (.invokevirtual 104, 3) := by decide +kernel
theorem d_Dia_addKink_21 : decode b_Dia_addKink 21 = .ok (.pop, 1) := by decide +kernel
theorem d_Dia_addKink_22 : decode b_Dia_addKink 22 = .ok (.return_, 1) := by decide +kernel
theorem d_Dia_cutEdge_0 : decode b_Dia_cutEdge 0 = .ok (.aload_n 0, 1) := by decide +kernel
theorem d_Dia_cutEdge_1 : decode b_Dia_cutEdge 1 = .ok (.getfield 21, 3) := by decide +kernel
theorem d_Dia_cutEdge_4 : decode b_Dia_cutEdge 4 = .ok (.iload_n 2, 1) := by decide +kernel
theorem d_Dia_cutEdge_5 : decode b_Dia_cutEdge 5 = .ok (.invokevirtual 143, 3) := by decide +kernel
theorem d_Dia_cutEdge_8 : decode b_Dia_cutEdge 8 = .ok (.istore_n 3, 1) := by decide +kernel
theorem d_Dia_cutEdge_9 : decode b_Dia_cutEdge 9 = .ok (.aload_n 0, 1) := by decide +kernel
theorem d_Dia_cutEdge_10 : decode b_Dia_cutEdge 10 = .ok (.getfield 21, 3) := by decide +kernel
theorem d_Dia_cutEdge_13 : decode b_Dia_cutEdge 13 = .ok (.iload_n 3, 1) := by decide +kernel
theorem d_Dia_cutEdge_14 : decode b_Dia_cutEdge 14 = .ok (.invokevirtual 143, 3) := by decide +kernel
theorem d_Dia_cutEdge_17 : decode b_Dia_cutEdge 17 = .ok (.istore 4, 2) := by decide +kernel
theorem d_Dia_cutEdge_19 : decode b_Dia_cutEdge 19 = .ok (.aload_n 0, 1) := by decide +kernel
theorem d_Dia_cutEdge_20 : decode b_Dia_cutEdge 20 = .ok (.getfield 12, 3) := by decide +kernel
theorem d_Dia_cutEdge_23 : decode b_Dia_cutEdge 23 = .ok (.getfield 124, 3) := by decide +kernel
theorem d_Dia_cutEdge_26 : decode b_Dia_cutEdge 26 = .ok (.aload_n 0, 1) := by decide +kernel
theorem d_Dia_cutEdge_27 : decode b_Dia_cutEdge 27 = .ok (.getfield 21, 3) := by decide +kernel
theorem d_Dia_cutEdge_30 : decode b_Dia_cutEdge 30 = .ok (.getfield 139, 3) := by decide +kernel
theorem d_Dia_cutEdge_33 : decode b_Dia_cutEdge 33 = .ok (.iload_n 1, 1) := by decide +kernel
theorem d_Dia_cutEdge_34 : decode b_Dia_cutEdge 34 = .ok (.iaload, 1) := by decide +kernel
theorem d_Dia_cutEdge_35 : decode b_Dia_cutEdge 35 = .ok (.iload 4, 2) := by decide +kernel
theorem d_Dia_cutEdge_37 : decode b_Dia_cutEdge 37 = .ok (.iastore, 1) := by decide +kernel
theorem d_Dia_cutEdge_38 : decode b_Dia_cutEdge 38 = .ok (.new 146, 3) := by decide +kernel
theorem d_Dia_cutEdge_41 : decode b_Dia_cutEdge 41 = .ok (.dup, 1) := by decide +kernel
theorem d_Dia_cutEdge_42 : decode b_Dia_cutEdge 42 = .ok (.aload_n 0, 1) := by decide +kernel
theorem d_Dia_cutEdge_43 : decode b_Dia_cutEdge 43 = .ok (.getfield 21, 3) := by decide +kernel
theorem d_Dia_cutEdge_46 : decode b_Dia_cutEdge 46 = .ok (.getfield 142, 3) := by decide +kernel
theorem d_Dia_cutEdge_49 : decode b_Dia_cutEdge 49 = .ok (.iload_n 1, 1) := by decide +kernel
theorem d_Dia_cutEdge_50 : decode b_Dia_cutEdge 50 = .ok (.iaload, 1) := by decide +kernel
theorem d_Dia_cutEdge_51 : decode b_Dia_cutEdge 51 = .ok (.iload_n 3, 1) := by decide +kernel
theorem d_Dia_cutEdge_52 : decode b_Dia_cutEdge 52 = .ok (.iload 4, 2) := by decide +kernel
theorem d_Dia_cutEdge_54 : decode b_Dia_cutEdge 54 = .ok (.invokespecial 148, 3) := by decide +kernel
theorem d_Dia_cutEdge_57 : decode b_Dia_cutEdge 57 = .ok (.areturn, 1) := by decide +kernel
theorem d_Dia_addCrossing_0 : decode b_Dia_addCrossing 0 = .ok (.aload_n 2, 1) := by decide +kernel
theorem d_Dia_addCrossing_1 : decode b_Dia_addCrossing 1 = .ok (.iload_n 3, 1) := by decide +kernel
theorem d_Dia_addCrossing_2 : decode b_Dia_addCrossing 2 = .ok (.invokevirtual 166, 3) := by decide +kernel
theorem d_Dia_addCrossing_5 : decode b_Dia_addCrossing 5 = .ok (.istore 6, 2) := by decide +kernel
theorem d_Dia_addCrossing_7 : decode b_Dia_addCrossing 7 = .ok (.aload_n 2, 1) := by decide +kernel
theorem d_Dia_addCrossing_8 : decode b_Dia_addCrossing 8 = .ok (.iload_n 3, 1) := by decide +kernel
theorem d_Dia_addCrossing_9 : decode b_Dia_addCrossing 9 = .ok (.invokevirtual 170, 3) := by decide +kernel
theorem d_Dia_addCrossing_12 : decode b_Dia_addCrossing 12 = .ok (.istore 7, 2) := by decide +kernel
theorem d_Dia_addCrossing_14 : decode b_Dia_addCrossing 14 = .ok (.iload_n 1, 1) := by decide +kernel
theorem d_Dia_addCrossing_15 : decode b_Dia_addCrossing 15 = .ok (.iconst 1, 1) := by decide +kernel
theorem d_Dia_addCrossing_16 : decode b_Dia_addCrossing 16 = .ok (.if_icmp .ne 8, 3) := by decide +kernel
theorem d_Dia_addCrossing_19 : decode b_Dia_addCrossing 19 = .ok (.iload 7, 2) := by decide +kernel
theorem d_Dia_addCrossing_21 : decode b_Dia_addCrossing 21 = .ok (.goto 5, 3) := by decide +kernel
theorem d_Dia_addCrossing_24 : decode b_Dia_addCrossing 24 = .ok (.iload 6, 2) := by decide +kernel
theorem d_Dia_addCrossing_26 : decode b_Dia_addCrossing 26 = .ok (.istore 8, 2) := by decide +kernel
theorem d_Dia_addCrossing_28 : decode b_Dia_addCrossing 28 = .ok (.iload_n 1, 1) := by decide +kernel
theorem d_Dia_addCrossing_29 : decode b_Dia_addCrossing 29 = .ok (.iconst 1, 1) := by decide +kernel
theorem d_Dia_addCrossing_30 : decode b_Dia_addCrossing 30 = .ok (.if_icmp .ne 8, 3) := by decide +kernel
theorem d_Dia_addCrossing_33 : decode b_Dia_addCrossing 33 = .ok (.iload 6, 2) := by decide +kernel
theorem d_Dia_addCrossing_35 : decode b_Dia_addCrossing 35 = .ok (.goto 5, 3) := by decide +kernel
theorem d_Dia_addCrossing_38 : decode b_Dia_addCrossing 38 = .ok (.iload 7, 2) := by decide +kernel
theorem d_Dia_addCrossing_40 : decode b_Dia_addCrossing 40 = .ok (.istore 9, 2) := by decide +kernel
theorem d_Dia_addCrossing_42 : decode b_Dia_addCrossing 42 = .ok (.aload_n 0, 1) := by decide +kernel
theorem d_Dia_addCrossing_43 : decode b_Dia_addCrossing 43 = .ok (.getfield 12, 3) := by decide +kernel
theorem d_Dia_addCrossing_46 : decode b_Dia_addCrossing 46 = .ok (.iload_n 1, 1) := by decide +kernel
theorem d_Dia_addCrossing_47 : decode b_Dia_addCrossing 47 = .ok (.aload 4, 2) := by decide +kernel
theorem d_Dia_addCrossing_49 : decode b_Dia_addCrossing 49 = .ok (.iload 5, 2) := by decide +kernel
theorem d_Dia_addCrossing_51 : decode b_Dia_addCrossing 51 = .ok (.invokevirtual 166, 3) := by decide +kernel
theorem d_Dia_addCrossing_54 : decode b_Dia_addCrossing 54 = .ok (.iload 8, 2) := by decide +kernel
theorem d_Dia_addCrossing_56 : decode b_Dia_addCrossing 56 = .ok (.aload 4, 2) := by decide +kernel
theorem d_Dia_addCrossing_58 : decode b_Dia_addCrossing 58 = .ok (.iload 5, 2) := by decide +kernel
theorem d_Dia_addCrossing_60 : decode b_Dia_addCrossing 60 = .ok (.invokevirtual 170, 3) := by decide +kernel
theorem d_Dia_addCrossing_63 : decode b_Dia_addCrossing 63 = .ok (.iload 9, 2) := by decide +kernel
theorem d_Dia_addCrossing_65 : decode b_Dia_addCrossing 65 = .ok (.invokevirtual 173, 3) := by decide +kernel
theorem d_Dia_addCrossing_68 : decode b_Dia_addCrossing 68 = .ok (.return_, 1) := by decide +kernel
theorem d_Dia_pushDart_0 : decode b_Dia_pushDart 0 = .ok (.aload_n 0, 1) := by decide +kernel
theorem d_Dia_pushDart_1 : decode b_Dia_pushDart 1 = .ok (.iload_n 1, 1) := by decide +kernel
theorem d_Dia_pushDart_2 : decode b_Dia_pushDart 2 = .ok (.iload_n 2, 1) := by decide +kernel
theorem d_Dia_pushDart_3 : decode b_Dia_pushDart 3 = .ok (.invokevirtual 177, 3) := by decide +kernel
theorem d_Dia_pushDart_6 : decode b_Dia_pushDart 6 = .ok (.ifCond .ne 5, 3) := by decide +kernel
theorem d_Dia_pushDart_9 : decode b_Dia_pushDart 9 = .ok (.iconst 0, 1) := by decide +kernel
theorem d_Dia_pushDart_10 : decode b_Dia_pushDart 10 = .ok (.ireturn, 1) := by decide +kernel
theorem d_Dia_pushDart_11 : decode b_Dia_pushDart 11 = .ok (.iload_n 1, 1) := by decide +kernel
theorem d_Dia_pushDart_12 : decode b_Dia_pushDart 12 = .ok (.iconst 1, 1) := by decide +kernel
theorem d_Dia_pushDart_13 : decode b_Dia_pushDart 13 = .ok (.iand, 1) := by decide +kernel
theorem d_Dia_pushDart_14 : decode b_Dia_pushDart 14 = .ok (.ifCond .ne 7, 3) := by decide +kernel
theorem d_Dia_pushDart_17 : decode b_Dia_pushDart 17 = .ok (.iconst 1, 1) := by decide +kernel
theorem d_Dia_pushDart_18 : decode b_Dia_pushDart 18 = .ok (.goto 4, 3) := by decide +kernel
theorem d_Dia_pushDart_21 : decode b_Dia_pushDart 21 = .ok (.iconst 0, 1) := by decide +kernel
theorem d_Dia_pushDart_22 : decode b_Dia_pushDart 22 = .ok (.istore 4, 2) := by decide +kernel
theorem d_Dia_pushDart_24 : decode b_Dia_pushDart 24 = .ok (.iload_n 2, 1) := by decide +kernel
theorem d_Dia_pushDart_25 : decode b_Dia_pushDart 25 = .ok (.iconst 1, 1) := by decide +kernel
theorem d_Dia_pushDart_26 : decode b_Dia_pushDart 26 = .ok (.iand, 1) := by decide +kernel
theorem d_Dia_pushDart_27 : decode b_Dia_pushDart 27 = .ok (.ifCond .ne 7, 3) := by decide +kernel
theorem d_Dia_pushDart_30 : decode b_Dia_pushDart 30 = .ok (.iconst 1, 1) := by decide +kernel
theorem d_Dia_pushDart_31 : decode b_Dia_pushDart 31 = .ok (.goto 4, 3) := by decide +kernel
theorem d_Dia_pushDart_34 : decode b_Dia_pushDart 34 = .ok (.iconst 0, 1) := by decide +kernel
theorem d_Dia_pushDart_35 : decode b_Dia_pushDart 35 = .ok (.istore 5, 2) := by decide +kernel
theorem d_Dia_pushDart_37 : decode b_Dia_pushDart 37 = .ok (.aload_n 0, 1) := by decide +kernel
theorem d_Dia_pushDart_38 : decode b_Dia_pushDart 38 = .ok (.iload_n 1, 1) := by decide +kernel
theorem d_Dia_pushDart_39 : decode b_Dia_pushDart 39 = .ok (.iconst 1, 1) := by decide +kernel
theorem d_Dia_pushDart_40 : decode b_Dia_pushDart 40 = .ok (.ishr, 1) := by decide +kernel
theorem d_Dia_pushDart_41 : decode b_Dia_pushDart 41 = .ok (.iconst 0, 1) := by decide +kernel
theorem d_Dia_pushDart_42 : decode b_Dia_pushDart 42 = .ok (.invokevirtual 158, 3) := by decide +kernel
theorem d_Dia_pushDart_45 : decode b_Dia_pushDart 45 = .ok (.astore 6, 2) := by decide +kernel
theorem d_Dia_pushDart_47 : decode b_Dia_pushDart 47 = .ok (.aload_n 0, 1) := by decide +kernel
theorem d_Dia_pushDart_48 : decode b_Dia_pushDart 48 = .ok (.iload_n 2, 1) := by decide +kernel
theorem d_Dia_pushDart_49 : decode b_Dia_pushDart 49 = .ok (.iconst 1, 1) := by decide +kernel
theorem d_Dia_pushDart_50 : decode b_Dia_pushDart 50 = .ok (.ishr, 1) := by decide +kernel
theorem d_Dia_pushDart_51 : decode b_Dia_pushDart 51 = .ok (.aload 6, 2) := by decide +kernel
theorem d_Dia_pushDart_53 : decode b_Dia_pushDart 53 = .ok (.getfield 180, 3) := by decide +kernel
theorem d_Dia_pushDart_56 : decode b_Dia_pushDart 56 = .ok (.invokevirtual 158, 3) := by decide +kernel
theorem d_Dia_pushDart_59 : decode b_Dia_pushDart 59 = .ok (.astore 7, 2) := by decide +kernel
theorem d_Dia_pushDart_61 : decode b_Dia_pushDart 61 = .ok (.iload_n 3, 1) := by decide +kernel
theorem d_Dia_pushDart_62 : decode b_Dia_pushDart 62 = .ok (.iload 4, 2) := by decide +kernel
theorem d_Dia_pushDart_64 : decode b_Dia_pushDart 64 = .ok (.iload 5, 2) := by decide +kernel
theorem d_Dia_pushDart_66 : decode b_Dia_pushDart 66 = .ok (.if_icmp .ne 7, 3) := by decide +kernel
theorem d_Dia_pushDart_69 : decode b_Dia_pushDart 69 = .ok (.iconst 1, 1) := by decide +kernel
theorem d_Dia_pushDart_70 : decode b_Dia_pushDart 70 = .ok (.goto 4, 3) := by decide +kernel
theorem d_Dia_pushDart_73 : decode b_Dia_pushDart 73 = .ok (.iconst 0, 1) := by decide +kernel
theorem d_Dia_pushDart_74 : decode b_Dia_pushDart 74 = .ok (.if_icmp .ne 7, 3) := by decide +kernel
theorem d_Dia_pushDart_77 : decode b_Dia_pushDart 77 = .ok (.iconst 1, 1) := by decide +kernel
theorem d_Dia_pushDart_78 : decode b_Dia_pushDart 78 = .ok (.goto 4, 3) := by decide +kernel
theorem d_Dia_pushDart_81 : decode b_Dia_pushDart 81 = .ok (.iconst (-1), 1) := by decide +kernel
theorem d_Dia_pushDart_82 : decode b_Dia_pushDart 82 = .ok (.istore 8, 2) := by decide +kernel
theorem d_Dia_pushDart_84 : decode b_Dia_pushDart 84 = .ok (.iload_n 3, 1) := by decide +kernel
theorem d_Dia_pushDart_85 : decode b_Dia_pushDart 85 = .ok (.ifCond .eq 51, 3) := by decide +kernel
theorem d_Dia_pushDart_88 : decode b_Dia_pushDart 88 = .ok (.aload_n 0, 1) := by decide +kernel
theorem d_Dia_pushDart_89 : decode b_Dia_pushDart 89 = .ok (.iload 8, 2) := by decide +kernel
theorem d_Dia_pushDart_91 : decode b_Dia_pushDart 91 = .ok (.aload 6, 2) := by decide +kernel
theorem d_Dia_pushDart_93 : decode b_Dia_pushDart 93 = .ok (.iload 4, 2) := by decide +kernel
theorem d_Dia_pushDart_95 : decode b_Dia_pushDart 95 = .ok (.aload 7, 2) := by decide +kernel
theorem d_Dia_pushDart_97 : decode b_Dia_pushDart 97 = .ok (.iload 5, 2) := by decide +kernel
theorem d_Dia_pushDart_99 : decode b_Dia_pushDart 99 = .ok (.ifCond .ne 7, 3) := by decide +kernel
theorem d_Dia_pushDart_102 : decode b_Dia_pushDart 102 = .ok (.iconst 1, 1) := by decide +kernel
theorem d_Dia_pushDart_103 : decode b_Dia_pushDart 103 = .ok (.goto 4, 3) := by decide +kernel
theorem d_Dia_pushDart_106 : decode b_Dia_pushDart 106 = .ok (.iconst 0, 1) := by decide +kernel
theorem d_Dia_pushDart_107 : decode b_Dia_pushDart 107 = .ok (.invokevirtual 162, 3) := by decide +kernel
theorem d_Dia_pushDart_110 : decode b_Dia_pushDart 110 = .ok (.aload_n 0, 1) := by decide +kernel
theorem d_Dia_pushDart_111 : decode b_Dia_pushDart 111 = .ok (.iload 8, 2) := by decide +kernel
theorem d_Dia_pushDart_113 : decode b_Dia_pushDart 113 = .ok (.ineg, 1) := by decide +kernel
theorem d_Dia_pushDart_114 : decode b_Dia_pushDart 114 = .ok (.aload 6, 2) := by decide +kernel
theorem d_Dia_pushDart_116 : decode b_Dia_pushDart 116 = .ok (.iload 4, 2) := by decide +kernel
theorem d_Dia_pushDart_118 : decode b_Dia_pushDart 118 = .ok (.ifCond .ne 7, 3) := by decide +kernel
theorem d_Dia_pushDart_121 : decode b_Dia_pushDart 121 = .ok (.iconst 1, 1) := by decide +kernel
theorem d_Dia_pushDart_122 : decode b_Dia_pushDart 122 = .ok (.goto 4, 3) := by decide +kernel
theorem d_Dia_pushDart_125 : decode b_Dia_pushDart 125 = .ok (.iconst 0, 1) := by decide +kernel
theorem d_Dia_pushDart_126 : decode b_Dia_pushDart 126 = .ok (.aload 7, 2) := by decide +kernel
theorem d_Dia_pushDart_128 : decode b_Dia_pushDart 128 = .ok (.iload 5, 2) := by decide +kernel
theorem d_Dia_pushDart_130 : decode b_Dia_pushDart 130 = .ok (.invokevirtual 162, 3) := by decide +kernel
theorem d_Dia_pushDart_133 : decode b_Dia_pushDart 133 = .ok (.goto 48, 3) := by decide +kernel
theorem d_Dia_pushDart_136 : decode b_Dia_pushDart 136 = .ok (.aload_n 0, 1) := by decide +kernel
theorem d_Dia_pushDart_137 : decode b_Dia_pushDart 137 = .ok (.iload 8, 2) := by decide +kernel
theorem d_Dia_pushDart_139 : decode b_Dia_pushDart 139 = .ok (.aload 7, 2) := by decide +kernel
theorem d_Dia_pushDart_141 : decode b_Dia_pushDart 141 = .ok (.iload 5, 2) := by decide +kernel
theorem d_Dia_pushDart_143 : decode b_Dia_pushDart 143 = .ok (.ifCond .ne 7, 3) := by decide +kernel
theorem d_Dia_pushDart_146 : decode b_Dia_pushDart 146 = .ok (.iconst 1, 1) := by decide +kernel
theorem d_Dia_pushDart_147 : decode b_Dia_pushDart 147 = .ok (.goto 4, 3) := by decide +kernel
theorem d_Dia_pushDart_150 : decode b_Dia_pushDart 150 = .ok (.iconst 0, 1) := by decide +kernel
theorem d_Dia_pushDart_151 : decode b_Dia_pushDart 151 = .ok (.aload 6, 2) := by decide +kernel
theorem d_Dia_pushDart_153 : decode b_Dia_pushDart 153 = .ok (.iload 4, 2) := by decide +kernel
theorem d_Dia_pushDart_155 : decode b_Dia_pushDart 155 = .ok (.invokevirtual 162, 3) := by decide +kernel
theorem d_Dia_pushDart_158 : decode b_Dia_pushDart 158 = .ok (.aload_n 0, 1) := by decide +kernel
theorem d_Dia_pushDart_159 : decode b_Dia_pushDart 159 = .ok (.iload 8, 2) := by decide +kernel
theorem d_Dia_pushDart_161 : decode b_Dia_pushDart 161 = .ok (.ineg, 1) := by decide +kernel
theorem d_Dia_pushDart_162 : decode b_Dia_pushDart 162 = .ok (.aload 7, 2) := by decide +kernel
theorem d_Dia_pushDart_164 : decode b_Dia_pushDart 164 = .ok (.iload 5, 2) := by decide +kernel
theorem d_Dia_pushDart_166 : decode b_Dia_pushDart 166 = .ok (.aload 6, 2) := by decide +kernel
theorem d_Dia_pushDart_168 : decode b_Dia_pushDart 168 = .ok (.iload 4, 2) := by decide +kernel
theorem d_Dia_pushDart_170 : decode b_Dia_pushDart 170 = .ok (.ifCond .ne 7, 3) := by decide +kernel
theorem d_Dia_pushDart_173 : decode b_Dia_pushDart 173 = .ok (.iconst 1, 1) := by decide +kernel
theorem d_Dia_pushDart_174 : decode b_Dia_pushDart 174 = .ok (.goto 4, 3) := by decide +kernel
theorem d_Dia_pushDart_177 : decode b_Dia_pushDart 177 = .ok (.iconst 0, 1) := by decide +kernel
theorem d_Dia_pushDart_178 : decode b_Dia_pushDart 178 = .ok (.invokevirtual 162, 3) := by decide +kernel
theorem d_Dia_pushDart_181 : decode b_Dia_pushDart 181 = .ok (.aload_n 0, 1) := by decide +kernel
theorem d_Dia_pushDart_182 : decode b_Dia_pushDart 182 = .ok (.invokevirtual 104, 3) := by decide +kernel
theorem d_Dia_pushDart_185 : decode b_Dia_pushDart 185 = .ok (.pop, 1) := by decide +kernel
theorem d_Dia_pushDart_186 : decode b_Dia_pushDart 186 = .ok (.iconst 1, 1) := by decide +kernel
theorem d_Dia_pushDart_187 : decode b_Dia_pushDart 187 = .ok (.ireturn, 1) := by decide +kernel
theorem d_Dia_canMeet_0 : decode b_Dia_canMeet 0 = .ok (.aload_n 0, 1) := by decide +kernel
theorem d_Dia_canMeet_1 : decode b_Dia_canMeet 1 = .ok (.getfield 35, 3) := by decide +kernel
theorem d_Dia_canMeet_4 : decode b_Dia_canMeet 4 = .ok (.getfield 183, 3) := by decide +kernel
theorem d_Dia_canMeet_7 : decode b_Dia_canMeet 7 = .ok (.aload_n 0, 1) := by decide +kernel
theorem d_Dia_canMeet_8 : decode b_Dia_canMeet 8 = .ok (.iload_n 1, 1) := by decide +kernel
theorem d_Dia_canMeet_9 : decode b_Dia_canMeet 9 = .ok (.invokevirtual 78, 3) := by decide +kernel
theorem d_Dia_canMeet_12 : decode b_Dia_canMeet 12 = .ok (.iaload, 1) := by decide +kernel
theorem d_Dia_canMeet_13 : decode b_Dia_canMeet 13 = .ok (.istore_n 3, 1) := by decide +kernel
theorem d_Dia_canMeet_14 : decode b_Dia_canMeet 14 = .ok (.aload_n 0, 1) := by decide +kernel
theorem d_Dia_canMeet_15 : decode b_Dia_canMeet 15 = .ok (.getfield 35, 3) := by decide +kernel
theorem d_Dia_canMeet_18 : decode b_Dia_canMeet 18 = .ok (.getfield 183, 3) := by decide +kernel
theorem d_Dia_canMeet_21 : decode b_Dia_canMeet 21 = .ok (.aload_n 0, 1) := by decide +kernel
theorem d_Dia_canMeet_22 : decode b_Dia_canMeet 22 = .ok (.iload_n 2, 1) := by decide +kernel
theorem d_Dia_canMeet_23 : decode b_Dia_canMeet 23 = .ok (.invokevirtual 78, 3) := by decide +kernel
theorem d_Dia_canMeet_26 : decode b_Dia_canMeet 26 = .ok (.iaload, 1) := by decide +kernel
theorem d_Dia_canMeet_27 : decode b_Dia_canMeet 27 = .ok (.istore 4, 2) := by decide +kernel
theorem d_Dia_canMeet_29 : decode b_Dia_canMeet 29 = .ok (.iload_n 3, 1) := by decide +kernel
theorem d_Dia_canMeet_30 : decode b_Dia_canMeet 30 = .ok (.iload 4, 2) := by decide +kernel
theorem d_Dia_canMeet_32 : decode b_Dia_canMeet 32 = .ok (.if_icmp .ne 24, 3) := by decide +kernel
theorem d_Dia_canMeet_35 : decode b_Dia_canMeet 35 = .ok (.aload_n 0, 1) := by decide +kernel
theorem d_Dia_canMeet_36 : decode b_Dia_canMeet 36 = .ok (.getfield 28, 3) := by decide +kernel
theorem d_Dia_canMeet_39 : decode b_Dia_canMeet 39 = .ok (.getfield 186, 3) := by decide +kernel
theorem d_Dia_canMeet_42 : decode b_Dia_canMeet 42 = .ok (.iload_n 1, 1) := by decide +kernel
theorem d_Dia_canMeet_43 : decode b_Dia_canMeet 43 = .ok (.iaload, 1) := by decide +kernel
theorem d_Dia_canMeet_44 : decode b_Dia_canMeet 44 = .ok (.aload_n 0, 1) := by decide +kernel
theorem d_Dia_canMeet_45 : decode b_Dia_canMeet 45 = .ok (.getfield 28, 3) := by decide +kernel
theorem d_Dia_canMeet_48 : decode b_Dia_canMeet 48 = .ok (.getfield 186, 3) := by decide +kernel
theorem d_Dia_canMeet_51 : decode b_Dia_canMeet 51 = .ok (.iload_n 2, 1) := by decide +kernel
theorem d_Dia_canMeet_52 : decode b_Dia_canMeet 52 = .ok (.iaload, 1) := by decide +kernel
theorem d_Dia_canMeet_53 : decode b_Dia_canMeet 53 = .ok (.if_icmp .ne 7, 3) := by decide +kernel
theorem d_Dia_canMeet_56 : decode b_Dia_canMeet 56 = .ok (.iconst 1, 1) := by decide +kernel
theorem d_Dia_canMeet_57 : decode b_Dia_canMeet 57 = .ok (.goto 4, 3) := by decide +kernel
theorem d_Dia_canMeet_60 : decode b_Dia_canMeet 60 = .ok (.iconst 0, 1) := by decide +kernel
theorem d_Dia_canMeet_61 : decode b_Dia_canMeet 61 = .ok (.ireturn, 1) := by decide +kernel
