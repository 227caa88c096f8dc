theorem d_Mod_init_0 : decode b_Mod_init 0 = .ok (.aload_n 0, 1) := by decide +kernel
theorem d_Mod_init_1 : decode b_Mod_init 1 = .ok (.invokespecial 1, 3) := by decide +kernel
theorem d_Mod_init_4 : decode b_Mod_init 4 = .ok (.aload_n 0, 1) := by decide +kernel
theorem d_Mod_init_5 : decode b_Mod_init 5 = .ok (.iconst (-1), 1) := by decide +kernel
theorem d_Mod_init_6 : decode b_Mod_init 6 = .ok (.putfield 7, 3) := by decide +kernel
theorem d_Mod_init_9 : decode b_Mod_init 9 = .ok (.aload_n 0, 1) := by decide +kernel
theorem d_Mod_init_10 : decode b_Mod_init 10 = .ok (.bipush 20, 2) := by decide +kernel
theorem d_Mod_init_12 : decode b_Mod_init 12 = .ok (.newarray .int, 2) := by decide +kernel
theorem d_Mod_init_14 : decode b_Mod_init 14 = .ok (.putfield 13, 3) := by decide +kernel
theorem d_Mod_init_17 : decode b_Mod_init 17 = .ok (.aload_n 0, 1) := by decide +kernel
theorem d_Mod_init_18 : decode b_Mod_init 18 = .ok (.bipush 80, 2) := by decide +kernel
theorem d_Mod_init_20 : decode b_Mod_init 20 = .ok (.newarray .int, 2) := by decide +kernel
theorem d_Mod_init_22 : decode b_Mod_init 22 = .ok (.putfield 17, 3) := by decide +kernel
theorem d_Mod_init_25 : decode b_Mod_init 25 = .ok (.aload_n 0, 1) := by decide +kernel
theorem d_Mod_init_26 : decode b_Mod_init 26 = .ok (.bipush 20, 2) := by decide +kernel
theorem d_Mod_init_28 : decode b_Mod_init 28 = .ok (.newarray .int, 2) := by decide +kernel
theorem d_Mod_init_30 : decode b_Mod_init 30 = .ok (.putfield 20, 3) := by decide +kernel
theorem d_Mod_init_33 : decode b_Mod_init 33 = .ok (.aload_n 0, 1) := by decide +kernel
theorem d_Mod_init_34 : decode b_Mod_init 34 = .ok (.bipush 80, 2) := by decide +kernel
theorem d_Mod_init_36 : decode b_Mod_init 36 = .ok (.newarray .int, 2) := by decide +kernel
theorem d_Mod_init_38 : decode b_Mod_init 38 = .ok (.putfield 23, 3) := by decide +kernel
theorem d_Mod_init_41 : decode b_Mod_init 41 = .ok (.aload_n 0, 1) := by decide +kernel
theorem d_Mod_init_42 : decode b_Mod_init 42 = .ok (.bipush 20, 2) := by decide +kernel
theorem d_Mod_init_44 : decode b_Mod_init 44 = .ok (.newarray .int, 2) := by decide +kernel
theorem d_Mod_init_46 : decode b_Mod_init 46 = .ok (.putfield 26, 3) := by decide +kernel
theorem d_Mod_init_49 : decode b_Mod_init 49 = .ok (.aload_n 0, 1) := by decide +kernel
theorem d_Mod_init_50 : decode b_Mod_init 50 = .ok (.bipush 80, 2) := by decide +kernel
theorem d_Mod_init_52 : decode b_Mod_init 52 = .ok (.newarray .int, 2) := by decide +kernel
theorem d_Mod_init_54 : decode b_Mod_init 54 = .ok (.putfield 29, 3) := by decide +kernel
theorem d_Mod_init_57 : decode b_Mod_init 57 = .ok (.aload_n 0, 1) := by decide +kernel
theorem d_Mod_init_58 : decode b_Mod_init 58 = .ok (.bipush 80, 2) := by decide +kernel
theorem d_Mod_init_60 : decode b_Mod_init 60 = .ok (.newarray .int, 2) := by decide +kernel
theorem d_Mod_init_62 : decode b_Mod_init 62 = .ok (.putfield 32, 3) := by decide +kernel
theorem d_Mod_init_65 : decode b_Mod_init 65 = .ok (.aload_n 0, 1) := by decide +kernel
theorem d_Mod_init_66 : decode b_Mod_init 66 = .ok (.bipush 80, 2) := by decide +kernel
theorem d_Mod_init_68 : decode b_Mod_init 68 = .ok (.newarray .int, 2) := by decide +kernel
theorem d_Mod_init_70 : decode b_Mod_init 70 = .ok (.putfield 35, 3) := by decide +kernel
theorem d_Mod_init_73 : decode b_Mod_init 73 = .ok (.aload_n 0, 1) := by decide +kernel
theorem d_Mod_init_74 : decode b_Mod_init 74 = .ok (.bipush 20, 2) := by decide +kernel
theorem d_Mod_init_76 : decode b_Mod_init 76 = .ok (.newarray .int, 2) := by decide +kernel
theorem d_Mod_init_78 : decode b_Mod_init 78 = .ok (.putfield 38, 3) := by decide +kernel
theorem d_Mod_init_81 : decode b_Mod_init 81 = .ok (.aload_n 0, 1) := by decide +kernel
theorem d_Mod_init_82 : decode b_Mod_init 82 = .ok (.bipush 80, 2) := by decide +kernel
theorem d_Mod_init_84 : decode b_Mod_init 84 = .ok (.newarray .int, 2) := by decide +kernel
theorem d_Mod_init_86 : decode b_Mod_init 86 = .ok (.putfield 41, 3) := by decide +kernel
theorem d_Mod_init_89 : decode b_Mod_init 89 = .ok (.aload_n 0, 1) := by decide +kernel
theorem d_Mod_init_90 : decode b_Mod_init 90 = .ok (.bipush 80, 2) := by decide +kernel
theorem d_Mod_init_92 : decode b_Mod_init 92 = .ok (.newarray .int, 2) := by decide +kernel
theorem d_Mod_init_94 : decode b_Mod_init 94 = .ok (.putfield 44, 3) := by decide +kernel
theorem d_Mod_init_97 : decode b_Mod_init 97 = .ok (.aload_n 0, 1) := by decide +kernel
theorem d_Mod_init_98 : decode b_Mod_init 98 = .ok (.bipush 80, 2) := by decide +kernel
theorem d_Mod_init_100 : decode b_Mod_init 100 = .ok (.newarray .int, 2) := by decide +kernel
theorem d_Mod_init_102 : decode b_Mod_init 102 = .ok (.putfield 47, 3) := by decide +kernel
theorem d_Mod_init_105 : decode b_Mod_init 105 = .ok (.aload_n 0, 1) := by decide +kernel
theorem d_Mod_init_106 : decode b_Mod_init 106 = .ok (.iconst 4, 1) := by decide +kernel
theorem d_Mod_init_107 : decode b_Mod_init 107 = .ok (.newarray .int, 2) := by decide +kernel
theorem d_Mod_init_109 : decode b_Mod_init 109 = .ok (.putfield 50, 3) := by decide +kernel
theorem d_Mod_init_112 : decode b_Mod_init 112 = .ok (.aload_n 0, 1) := by decide +kernel
theorem d_Mod_init_113 : decode b_Mod_init 113 = .ok (.iconst 4, 1) := by decide +kernel
theorem d_Mod_init_114 : decode b_Mod_init 114 = .ok (.newarray .int, 2) := by decide +kernel
theorem d_Mod_init_116 : decode b_Mod_init 116 = .ok (.putfield 53, 3) := by decide +kernel
theorem d_Mod_init_119 : decode b_Mod_init 119 = .ok (.return_, 1) := by decide +kernel
theorem d_Mod_isOut_0 : decode b_Mod_isOut 0 = .ok (.iload_n 1, 1) := by decide +kernel
theorem d_Mod_isOut_1 : decode b_Mod_isOut 1 = .ok (.iconst 4, 1) := by decide +kernel
theorem d_Mod_isOut_2 : decode b_Mod_isOut 2 = .ok (.irem, 1) := by decide +kernel
theorem d_Mod_isOut_3 : decode b_Mod_isOut 3 = .ok (.istore_n 2, 1) := by decide +kernel
theorem d_Mod_isOut_4 : decode b_Mod_isOut 4 = .ok (.iload_n 2, 1) := by decide +kernel
theorem d_Mod_isOut_5 : decode b_Mod_isOut 5 = .ok (.iconst 2, 1) := by decide +kernel
theorem d_Mod_isOut_6 : decode b_Mod_isOut 6 = .ok (.if_icmp .eq 23, 3) := by decide +kernel
theorem d_Mod_isOut_9 : decode b_Mod_isOut 9 = .ok (.iload_n 2, 1) := by decide +kernel
theorem d_Mod_isOut_10 : decode b_Mod_isOut 10 = .ok (.aload_n 0, 1) := by decide +kernel
theorem d_Mod_isOut_11 : decode b_Mod_isOut 11 = .ok (.getfield 20, 3) := by decide +kernel
theorem d_Mod_isOut_14 : decode b_Mod_isOut 14 = .ok (.iload_n 1, 1) := by decide +kernel
theorem d_Mod_isOut_15 : decode b_Mod_isOut 15 = .ok (.iconst 4, 1) := by decide +kernel
theorem d_Mod_isOut_16 : decode b_Mod_isOut 16 = .ok (.idiv, 1) := by decide +kernel
theorem d_Mod_isOut_17 : decode b_Mod_isOut 17 = .ok (.iaload, 1) := by decide +kernel
theorem d_Mod_isOut_18 : decode b_Mod_isOut 18 = .ok (.ifCond .le 7, 3) := by decide +kernel
theorem d_Mod_isOut_21 : decode b_Mod_isOut 21 = .ok (.iconst 1, 1) := by decide +kernel
theorem d_Mod_isOut_22 : decode b_Mod_isOut 22 = .ok (.goto 4, 3) := by decide +kernel
theorem d_Mod_isOut_25 : decode b_Mod_isOut 25 = .ok (.iconst 3, 1) := by decide +kernel
theorem d_Mod_isOut_26 : decode b_Mod_isOut 26 = .ok (.if_icmp .ne 7, 3) := by decide +kernel
theorem d_Mod_isOut_29 : decode b_Mod_isOut 29 = .ok (.iconst 1, 1) := by decide +kernel
theorem d_Mod_isOut_30 : decode b_Mod_isOut 30 = .ok (.goto 4, 3) := by decide +kernel
theorem d_Mod_isOut_33 : decode b_Mod_isOut 33 = .ok (.iconst 0, 1) := by decide +kernel
theorem d_Mod_isOut_34 : decode b_Mod_isOut 34 = .ok (.ireturn, 1) := by decide +kernel
theorem d_Mod_isUpper_0 : decode b_Mod_isUpper 0 = .ok (.iload_n 0, 1) := by decide +kernel
theorem d_Mod_isUpper_1 : decode b_Mod_isUpper 1 = .ok (.iconst 2, 1) := by decide +kernel
theorem d_Mod_isUpper_2 : decode b_Mod_isUpper 2 = .ok (.irem, 1) := by decide +kernel
theorem d_Mod_isUpper_3 : decode b_Mod_isUpper 3 = .ok (.iconst 1, 1) := by decide +kernel
theorem d_Mod_isUpper_4 : decode b_Mod_isUpper 4 = .ok (.if_icmp .ne 7, 3) := by decide +kernel
theorem d_Mod_isUpper_7 : decode b_Mod_isUpper 7 = .ok (.iconst 1, 1) := by decide +kernel
theorem d_Mod_isUpper_8 : decode b_Mod_isUpper 8 = .ok (.goto 4, 3) := by decide +kernel
theorem d_Mod_isUpper_11 : decode b_Mod_isUpper 11 = .ok (.iconst 0, 1) := by decide +kernel
theorem d_Mod_isUpper_12 : decode b_Mod_isUpper 12 = .ok (.ireturn, 1) := by decide +kernel
theorem d_Mod_placeOf_0 : decode b_Mod_placeOf 0 = .ok (.iconst (-1), 1) := by decide +kernel
theorem d_Mod_placeOf_1 : decode b_Mod_placeOf 1 = .ok (.istore_n 3, 1) := by decide +kernel
theorem d_Mod_placeOf_2 : decode b_Mod_placeOf 2 = .ok (.iconst 0, 1) := by decide +kernel
theorem d_Mod_placeOf_3 : decode b_Mod_placeOf 3 = .ok (.istore 4, 2) := by decide +kernel
theorem d_Mod_placeOf_5 : decode b_Mod_placeOf 5 = .ok (.iload 4, 2) := by decide +kernel
theorem d_Mod_placeOf_7 : decode b_Mod_placeOf 7 = .ok (.iconst 4, 1) := by decide +kernel
theorem d_Mod_placeOf_8 : decode b_Mod_placeOf 8 = .ok (.aload_n 0, 1) := by decide +kernel
theorem d_Mod_placeOf_9 : decode b_Mod_placeOf 9 = .ok (.getfield 59, 3) := by decide +kernel
theorem d_Mod_placeOf_12 : decode b_Mod_placeOf 12 = .ok (.imul, 1) := by decide +kernel
theorem d_Mod_placeOf_13 : decode b_Mod_placeOf 13 = .ok (.if_icmp .ge 37, 3) := by decide +kernel
theorem d_Mod_placeOf_16 : decode b_Mod_placeOf 16 = .ok (.aload_n 0, 1) := by decide +kernel
theorem d_Mod_placeOf_17 : decode b_Mod_placeOf 17 = .ok (.getfield 23, 3) := by decide +kernel
theorem d_Mod_placeOf_20 : decode b_Mod_placeOf 20 = .ok (.iload 4, 2) := by decide +kernel
theorem d_Mod_placeOf_22 : decode b_Mod_placeOf 22 = .ok (.iaload, 1) := by decide +kernel
theorem d_Mod_placeOf_23 : decode b_Mod_placeOf 23 = .ok (.iload_n 1, 1) := by decide +kernel
theorem d_Mod_placeOf_24 : decode b_Mod_placeOf 24 = .ok (.if_icmp .ne 18, 3) := by decide +kernel
theorem d_Mod_placeOf_27 : decode b_Mod_placeOf 27 = .ok (.aload_n 0, 1) := by decide +kernel
theorem d_Mod_placeOf_28 : decode b_Mod_placeOf 28 = .ok (.iload 4, 2) := by decide +kernel
theorem d_Mod_placeOf_30 : decode b_Mod_placeOf 30 = .ok (.invokevirtual 62, 3) := by decide +kernel
theorem d_Mod_placeOf_33 : decode b_Mod_placeOf 33 = .ok (.iload_n 2, 1) := by decide +kernel
theorem d_Mod_placeOf_34 : decode b_Mod_placeOf 34 = .ok (.if_icmp .ne 8, 3) := by decide +kernel
theorem d_Mod_placeOf_37 : decode b_Mod_placeOf 37 = .ok (.iload 4, 2) := by decide +kernel
theorem d_Mod_placeOf_39 : decode b_Mod_placeOf 39 = .ok (.goto 4, 3) := by decide +kernel
theorem d_Mod_placeOf_42 : decode b_Mod_placeOf 42 = .ok (.iload_n 3, 1) := by decide +kernel
theorem d_Mod_placeOf_43 : decode b_Mod_placeOf 43 = .ok (.istore_n 3, 1) := by decide +kernel
theorem d_Mod_placeOf_44 : decode b_Mod_placeOf 44 = .ok (.iinc 4 1, 3) := by decide +kernel
theorem d_Mod_placeOf_47 : decode b_Mod_placeOf 47 = .ok (.goto (-42), 3) := by decide +kernel
theorem d_Mod_placeOf_50 : decode b_Mod_placeOf 50 = .ok (.iload_n 3, 1) := by decide +kernel
theorem d_Mod_placeOf_51 : decode b_Mod_placeOf 51 = .ok (.ireturn, 1) := by decide +kernel
theorem d_Mod_across_0 : decode b_Mod_across 0 = .ok (.iload_n 0, 1) := by decide +kernel
theorem d_Mod_across_1 : decode b_Mod_across 1 = .ok (.iconst 4, 1) := by decide +kernel
theorem d_Mod_across_2 : decode b_Mod_across 2 = .ok (.idiv, 1) := by decide +kernel
theorem d_Mod_across_3 : decode b_Mod_across 3 = .ok (.iconst 4, 1) := by decide +kernel
theorem d_Mod_across_4 : decode b_Mod_across 4 = .ok (.imul, 1) := by decide +kernel
theorem d_Mod_across_5 : decode b_Mod_across 5 = .ok (.iload_n 0, 1) := by decide +kernel
theorem d_Mod_across_6 : decode b_Mod_across 6 = .ok (.iconst 2, 1) := by decide +kernel
theorem d_Mod_across_7 : decode b_Mod_across 7 = .ok (.iadd, 1) := by decide +kernel
theorem d_Mod_across_8 : decode b_Mod_across 8 = .ok (.iconst 4, 1) := by decide +kernel
theorem d_Mod_across_9 : decode b_Mod_across 9 = .ok (.irem, 1) := by decide +kernel
theorem d_Mod_across_10 : decode b_Mod_across 10 = .ok (.iadd, 1) := by decide +kernel
theorem d_Mod_across_11 : decode b_Mod_across 11 = .ok (.ireturn, 1) := by decide +kernel
theorem d_Mod_next_0 : decode b_Mod_next 0 = .ok (.aload_n 0, 1) := by decide +kernel
theorem d_Mod_next_1 : decode b_Mod_next 1 = .ok (.getfield 23, 3) := by decide +kernel
theorem d_Mod_next_4 : decode b_Mod_next 4 = .ok (.aload_n 0, 1) := by decide +kernel
theorem d_Mod_next_5 : decode b_Mod_next 5 = .ok (.iload_n 1, 1) := by decide +kernel
theorem d_Mod_next_6 : decode b_Mod_next 6 = .ok (.iconst 0, 1) := by decide +kernel
theorem d_Mod_next_7 : decode b_Mod_next 7 = .ok (.invokevirtual 66, 3) := by decide +kernel
theorem d_Mod_next_10 : decode b_Mod_next 10 = .ok (.invokestatic 70, 3) := by decide +kernel
theorem d_Mod_next_13 : decode b_Mod_next 13 = .ok (.iaload, 1) := by decide +kernel
theorem d_Mod_next_14 : decode b_Mod_next 14 = .ok (.ireturn, 1) := by decide +kernel
theorem d_Mod_sort_0 : decode b_Mod_sort 0 = .ok (.aload_n 0, 1) := by decide +kernel
theorem d_Mod_sort_1 : decode b_Mod_sort 1 = .ok (.iconst 0, 1) := by decide +kernel
theorem d_Mod_sort_2 : decode b_Mod_sort 2 = .ok (.putfield 74, 3) := by decide +kernel
theorem d_Mod_sort_5 : decode b_Mod_sort 5 = .ok (.iconst 0, 1) := by decide +kernel
theorem d_Mod_sort_6 : decode b_Mod_sort 6 = .ok (.istore_n 1, 1) := by decide +kernel
theorem d_Mod_sort_7 : decode b_Mod_sort 7 = .ok (.iload_n 1, 1) := by decide +kernel
theorem d_Mod_sort_8 : decode b_Mod_sort 8 = .ok (.iconst 4, 1) := by decide +kernel
theorem d_Mod_sort_9 : decode b_Mod_sort 9 = .ok (.aload_n 0, 1) := by decide +kernel
theorem d_Mod_sort_10 : decode b_Mod_sort 10 = .ok (.getfield 59, 3) := by decide +kernel
theorem d_Mod_sort_13 : decode b_Mod_sort 13 = .ok (.imul, 1) := by decide +kernel
theorem d_Mod_sort_14 : decode b_Mod_sort 14 = .ok (.if_icmp .ge 124, 3) := by decide +kernel
theorem d_Mod_sort_17 : decode b_Mod_sort 17 = .ok (.iconst 0, 1) := by decide +kernel
theorem d_Mod_sort_18 : decode b_Mod_sort 18 = .ok (.istore_n 2, 1) := by decide +kernel
theorem d_Mod_sort_19 : decode b_Mod_sort 19 = .ok (.iconst 0, 1) := by decide +kernel
theorem d_Mod_sort_20 : decode b_Mod_sort 20 = .ok (.istore_n 3, 1) := by decide +kernel
theorem d_Mod_sort_21 : decode b_Mod_sort 21 = .ok (.iload_n 3, 1) := by decide +kernel
theorem d_Mod_sort_22 : decode b_Mod_sort 22 = .ok (.aload_n 0, 1) := by decide +kernel
theorem d_Mod_sort_23 : decode b_Mod_sort 23 = .ok (.getfield 74, 3) := by decide +kernel
theorem d_Mod_sort_26 : decode b_Mod_sort 26 = .ok (.if_icmp .ge 34, 3) := by decide +kernel
theorem d_Mod_sort_29 : decode b_Mod_sort 29 = .ok (.iload_n 2, 1) := by decide +kernel
theorem d_Mod_sort_30 : decode b_Mod_sort 30 = .ok (.ifCond .ne 18, 3) := by decide +kernel
theorem d_Mod_sort_33 : decode b_Mod_sort 33 = .ok (.aload_n 0, 1) := by decide +kernel
theorem d_Mod_sort_34 : decode b_Mod_sort 34 = .ok (.getfield 32, 3) := by decide +kernel
theorem d_Mod_sort_37 : decode b_Mod_sort 37 = .ok (.iload_n 3, 1) := by decide +kernel
theorem d_Mod_sort_38 : decode b_Mod_sort 38 = .ok (.iaload, 1) := by decide +kernel
theorem d_Mod_sort_39 : decode b_Mod_sort 39 = .ok (.aload_n 0, 1) := by decide +kernel
theorem d_Mod_sort_40 : decode b_Mod_sort 40 = .ok (.getfield 23, 3) := by decide +kernel
theorem d_Mod_sort_43 : decode b_Mod_sort 43 = .ok (.iload_n 1, 1) := by decide +kernel
theorem d_Mod_sort_44 : decode b_Mod_sort 44 = .ok (.iaload, 1) := by decide +kernel
theorem d_Mod_sort_45 : decode b_Mod_sort 45 = .ok (.if_icmp .ne 7, 3) := by decide +kernel
theorem d_Mod_sort_48 : decode b_Mod_sort 48 = .ok (.iconst 1, 1) := by decide +kernel
theorem d_Mod_sort_49 : decode b_Mod_sort 49 = .ok (.goto 4, 3) := by decide +kernel
theorem d_Mod_sort_52 : decode b_Mod_sort 52 = .ok (.iconst 0, 1) := by decide +kernel
theorem d_Mod_sort_53 : decode b_Mod_sort 53 = .ok (.istore_n 2, 1) := by decide +kernel
theorem d_Mod_sort_54 : decode b_Mod_sort 54 = .ok (.iinc 3 1, 3) := by decide +kernel
theorem d_Mod_sort_57 : decode b_Mod_sort 57 = .ok (.goto (-36), 3) := by decide +kernel
theorem d_Mod_sort_60 : decode b_Mod_sort 60 = .ok (.iload_n 2, 1) := by decide +kernel
theorem d_Mod_sort_61 : decode b_Mod_sort 61 = .ok (.ifCond .ne 71, 3) := by decide +kernel
theorem d_Mod_sort_64 : decode b_Mod_sort 64 = .ok (.aload_n 0, 1) := by decide +kernel
theorem d_Mod_sort_65 : decode b_Mod_sort 65 = .ok (.getfield 74, 3) := by decide +kernel
theorem d_Mod_sort_68 : decode b_Mod_sort 68 = .ok (.istore_n 3, 1) := by decide +kernel
theorem d_Mod_sort_69 : decode b_Mod_sort 69 = .ok (.iload_n 3, 1) := by decide +kernel
theorem d_Mod_sort_70 : decode b_Mod_sort 70 = .ok (.ifCond .le 40, 3) := by decide +kernel
theorem d_Mod_sort_73 : decode b_Mod_sort 73 = .ok (.aload_n 0, 1) := by decide +kernel
theorem d_Mod_sort_74 : decode b_Mod_sort 74 = .ok (.getfield 32, 3) := by decide +kernel
theorem d_Mod_sort_77 : decode b_Mod_sort 77 = .ok (.iload_n 3, 1) := by decide +kernel
theorem d_Mod_sort_78 : decode b_Mod_sort 78 = .ok (.iconst 1, 1) := by decide +kernel
theorem d_Mod_sort_79 : decode b_Mod_sort 79 = .ok (.isub, 1) := by decide +kernel
theorem d_Mod_sort_80 : decode b_Mod_sort 80 = .ok (.iaload, 1) := by decide +kernel
theorem d_Mod_sort_81 : decode b_Mod_sort 81 = .ok (.aload_n 0, 1) := by decide +kernel
theorem d_Mod_sort_82 : decode b_Mod_sort 82 = .ok (.getfield 23, 3) := by decide +kernel
theorem d_Mod_sort_85 : decode b_Mod_sort 85 = .ok (.iload_n 1, 1) := by decide +kernel
theorem d_Mod_sort_86 : decode b_Mod_sort 86 = .ok (.iaload, 1) := by decide +kernel
theorem d_Mod_sort_87 : decode b_Mod_sort 87 = .ok (.if_icmp .le 23, 3) := by decide +kernel
theorem d_Mod_sort_90 : decode b_Mod_sort 90 = .ok (.aload_n 0, 1) := by decide +kernel
theorem d_Mod_sort_91 : decode b_Mod_sort 91 = .ok (.getfield 32, 3) := by decide +kernel
theorem d_Mod_sort_94 : decode b_Mod_sort 94 = .ok (.iload_n 3, 1) := by decide +kernel
theorem d_Mod_sort_95 : decode b_Mod_sort 95 = .ok (.aload_n 0, 1) := by decide +kernel
theorem d_Mod_sort_96 : decode b_Mod_sort 96 = .ok (.getfield 32, 3) := by decide +kernel
theorem d_Mod_sort_99 : decode b_Mod_sort 99 = .ok (.iload_n 3, 1) := by decide +kernel
theorem d_Mod_sort_100 : decode b_Mod_sort 100 = .ok (.iconst 1, 1) := by decide +kernel
theorem d_Mod_sort_101 : decode b_Mod_sort 101 = .ok (.isub, 1) := by decide +kernel
theorem d_Mod_sort_102 : decode b_Mod_sort 102 = .ok (.iaload, 1) := by decide +kernel
theorem d_Mod_sort_103 : decode b_Mod_sort 103 = .ok (.iastore, 1) := by decide +kernel
theorem d_Mod_sort_104 : decode b_Mod_sort 104 = .ok (.iinc 3 (-1), 3) := by decide +kernel
theorem d_Mod_sort_107 : decode b_Mod_sort 107 = .ok (.goto (-38), 3) := by decide +kernel
theorem d_Mod_sort_110 : decode b_Mod_sort 110 = .ok (.aload_n 0, 1) := by decide +kernel
theorem d_Mod_sort_111 : decode b_Mod_sort 111 = .ok (.getfield 32, 3) := by decide +kernel
theorem d_Mod_sort_114 : decode b_Mod_sort 114 = .ok (.iload_n 3, 1) := by decide +kernel
theorem d_Mod_sort_115 : decode b_Mod_sort 115 = .ok (.aload_n 0, 1) := by decide +kernel
theorem d_Mod_sort_116 : decode b_Mod_sort 116 = .ok (.getfield 23, 3) := by decide +kernel
theorem d_Mod_sort_119 : decode b_Mod_sort 119 = .ok (.iload_n 1, 1) := by decide +kernel
theorem d_Mod_sort_120 : decode b_Mod_sort 120 = .ok (.iaload, 1) := by decide +kernel
theorem d_Mod_sort_121 : decode b_Mod_sort 121 = .ok (.iastore, 1) := by decide +kernel
theorem d_Mod_sort_122 : decode b_Mod_sort 122 = .ok (.aload_n 0, 1) := by decide +kernel
theorem d_Mod_sort_123 : decode b_Mod_sort 123 = .ok (.dup, 1) := by decide +kernel
theorem d_Mod_sort_124 : decode b_Mod_sort 124 = .ok (.getfield 74, 3) := by decide +kernel
theorem d_Mod_sort_127 : decode b_Mod_sort 127 = .ok (.iconst 1, 1) := by decide +kernel
theorem d_Mod_sort_128 : decode b_Mod_sort 128 = .ok (.iadd, 1) := by decide +kernel
theorem d_Mod_sort_129 : decode b_Mod_sort 129 = .ok (.putfield 74, 3) := by decide +kernel
theorem d_Mod_sort_132 : decode b_Mod_sort 132 = .ok (.iinc 1 1, 3) := by decide +kernel
theorem d_Mod_sort_135 : decode b_Mod_sort 135 = .ok (.goto (-128), 3) := by decide +kernel
theorem d_Mod_sort_138 : decode b_Mod_sort 138 = .ok (.return_, 1) := by decide +kernel
theorem d_Mod_components_0 : decode b_Mod_components 0 = .ok (.iconst 0, 1) := by decide +kernel
theorem d_Mod_components_1 : decode b_Mod_components 1 = .ok (.istore_n 1, 1) := by decide +kernel
theorem d_Mod_components_2 : decode b_Mod_components 2 = .ok (.iload_n 1, 1) := by decide +kernel
theorem d_Mod_components_3 : decode b_Mod_components 3 = .ok (.bipush 80, 2) := by decide +kernel
theorem d_Mod_components_5 : decode b_Mod_components 5 = .ok (.if_icmp .ge 16, 3) := by decide +kernel
theorem d_Mod_components_8 : decode b_Mod_components 8 = .ok (.aload_n 0, 1) := by decide +kernel
theorem d_Mod_components_9 : decode b_Mod_components 9 = .ok (.getfield 41, 3) := by decide +kernel
theorem d_Mod_components_12 : decode b_Mod_components 12 = .ok (.iload_n 1, 1) := by decide +kernel
theorem d_Mod_components_13 : decode b_Mod_components 13 = .ok (.iconst (-1), 1) := by decide +kernel
theorem d_Mod_components_14 : decode b_Mod_components 14 = .ok (.iastore, 1) := by decide +kernel
theorem d_Mod_components_15 : decode b_Mod_components 15 = .ok (.iinc 1 1, 3) := by decide +kernel
theorem d_Mod_components_18 : decode b_Mod_components 18 = .ok (.goto (-16), 3) := by decide +kernel
theorem d_Mod_components_21 : decode b_Mod_components 21 = .ok (.aload_n 0, 1) := by decide +kernel
theorem d_Mod_components_22 : decode b_Mod_components 22 = .ok (.iconst 0, 1) := by decide +kernel
theorem d_Mod_components_23 : decode b_Mod_components 23 = .ok (.putfield 77, 3) := by decide +kernel
theorem d_Mod_components_26 : decode b_Mod_components 26 = .ok (.aload_n 0, 1) := by decide +kernel
theorem d_Mod_components_27 : decode b_Mod_components 27 = .ok (.invokevirtual 80, 3) := by decide +kernel
theorem d_Mod_components_30 : decode b_Mod_components 30 = .ok (.iconst 0, 1) := by decide +kernel
theorem d_Mod_components_31 : decode b_Mod_components 31 = .ok (.istore_n 1, 1) := by decide +kernel
theorem d_Mod_components_32 : decode b_Mod_components 32 = .ok (.iload_n 1, 1) := by decide +kernel
theorem d_Mod_components_33 : decode b_Mod_components 33 = .ok (.aload_n 0, 1) := by decide +kernel
theorem d_Mod_components_34 : decode b_Mod_components 34 = .ok (.getfield 74, 3) := by decide +kernel
theorem d_Mod_components_37 : decode b_Mod_components 37 = .ok (.if_icmp .ge 111, 3) := by decide +kernel
theorem d_Mod_components_40 : decode b_Mod_components 40 = .ok (.aload_n 0, 1) := by decide +kernel
theorem d_Mod_components_41 : decode b_Mod_components 41 = .ok (.getfield 32, 3) := by decide +kernel
theorem d_Mod_components_44 : decode b_Mod_components 44 = .ok (.iload_n 1, 1) := by decide +kernel
theorem d_Mod_components_45 : decode b_Mod_components 45 = .ok (.iaload, 1) := by decide +kernel
theorem d_Mod_components_46 : decode b_Mod_components 46 = .ok (.istore_n 2, 1) := by decide +kernel
theorem d_Mod_components_47 : decode b_Mod_components 47 = .ok (.aload_n 0, 1) := by decide +kernel
theorem d_Mod_components_48 : decode b_Mod_components 48 = .ok (.getfield 41, 3) := by decide +kernel
theorem d_Mod_components_51 : decode b_Mod_components 51 = .ok (.aload_n 0, 1) := by decide +kernel
theorem d_Mod_components_52 : decode b_Mod_components 52 = .ok (.iload_n 2, 1) := by decide +kernel
theorem d_Mod_components_53 : decode b_Mod_components 53 = .ok (.iconst 1, 1) := by decide +kernel
theorem d_Mod_components_54 : decode b_Mod_components 54 = .ok (.invokevirtual 66, 3) := by decide +kernel
theorem d_Mod_components_57 : decode b_Mod_components 57 = .ok (.iaload, 1) := by decide +kernel
theorem d_Mod_components_58 : decode b_Mod_components 58 = .ok (.ifCond .ge 7, 3) := by decide +kernel
theorem d_Mod_components_61 : decode b_Mod_components 61 = .ok (.iconst 1, 1) := by decide +kernel
theorem d_Mod_components_62 : decode b_Mod_components 62 = .ok (.goto 4, 3) := by decide +kernel
theorem d_Mod_components_65 : decode b_Mod_components 65 = .ok (.iconst 0, 1) := by decide +kernel
theorem d_Mod_components_66 : decode b_Mod_components 66 = .ok (.istore_n 3, 1) := by decide +kernel
theorem d_Mod_components_67 : decode b_Mod_components 67 = .ok (.iload_n 3, 1) := by decide +kernel
theorem d_Mod_components_68 : decode b_Mod_components 68 = .ok (.ifCond .eq 56, 3) := by decide +kernel
theorem d_Mod_components_71 : decode b_Mod_components 71 = .ok (.aload_n 0, 1) := by decide +kernel
theorem d_Mod_components_72 : decode b_Mod_components 72 = .ok (.getfield 41, 3) := by decide +kernel
theorem d_Mod_components_75 : decode b_Mod_components 75 = .ok (.aload_n 0, 1) := by decide +kernel
theorem d_Mod_components_76 : decode b_Mod_components 76 = .ok (.iload_n 2, 1) := by decide +kernel
theorem d_Mod_components_77 : decode b_Mod_components 77 = .ok (.iconst 1, 1) := by decide +kernel
theorem d_Mod_components_78 : decode b_Mod_components 78 = .ok (.invokevirtual 66, 3) := by decide +kernel
theorem d_Mod_components_81 : decode b_Mod_components 81 = .ok (.iaload, 1) := by decide +kernel
theorem d_Mod_components_82 : decode b_Mod_components 82 = .ok (.ifCond .ge 42, 3) := by decide +kernel
theorem d_Mod_components_85 : decode b_Mod_components 85 = .ok (.aload_n 0, 1) := by decide +kernel
theorem d_Mod_components_86 : decode b_Mod_components 86 = .ok (.getfield 41, 3) := by decide +kernel
theorem d_Mod_components_89 : decode b_Mod_components 89 = .ok (.aload_n 0, 1) := by decide +kernel
theorem d_Mod_components_90 : decode b_Mod_components 90 = .ok (.iload_n 2, 1) := by decide +kernel
theorem d_Mod_components_91 : decode b_Mod_components 91 = .ok (.iconst 1, 1) := by decide +kernel
theorem d_Mod_components_92 : decode b_Mod_components 92 = .ok (.invokevirtual 66, 3) := by decide +kernel
theorem d_Mod_components_95 : decode b_Mod_components 95 = .ok (.aload_n 0, 1) := by decide +kernel
theorem d_Mod_components_96 : decode b_Mod_components 96 = .ok (.getfield 77, 3) := by decide +kernel
theorem d_Mod_components_99 : decode b_Mod_components 99 = .ok (.iastore, 1) := by decide +kernel
theorem d_Mod_components_100 : decode b_Mod_components 100 = .ok (.aload_n 0, 1) := by decide +kernel
theorem d_Mod_components_101 : decode b_Mod_components 101 = .ok (.getfield 41, 3) := by decide +kernel
theorem d_Mod_components_104 : decode b_Mod_components 104 = .ok (.aload_n 0, 1) := by decide +kernel
theorem d_Mod_components_105 : decode b_Mod_components 105 = .ok (.iload_n 2, 1) := by decide +kernel
theorem d_Mod_components_106 : decode b_Mod_components 106 = .ok (.iconst 0, 1) := by decide +kernel
theorem d_Mod_components_107 : decode b_Mod_components 107 = .ok (.invokevirtual 66, 3) := by decide +kernel
theorem d_Mod_components_110 : decode b_Mod_components 110 = .ok (.aload_n 0, 1) := by decide +kernel
theorem d_Mod_components_111 : decode b_Mod_components 111 = .ok (.getfield 77, 3) := by decide +kernel
theorem d_Mod_components_114 : decode b_Mod_components 114 = .ok (.iastore, 1) := by decide +kernel
theorem d_Mod_components_115 : decode b_Mod_components 115 = .ok (.aload_n 0, 1) := by decide +kernel
theorem d_Mod_components_116 : decode b_Mod_components 116 = .ok (.iload_n 2, 1) := by decide +kernel
theorem d_Mod_components_117 : decode b_Mod_components 117 = .ok (.invokevirtual 83, 3) := by decide +kernel
theorem d_Mod_components_120 : decode b_Mod_components 120 = .ok (.istore_n 2, 1) := by decide +kernel
theorem d_Mod_components_121 : decode b_Mod_components 121 = .ok (.goto (-54), 3) := by decide +kernel
theorem d_Mod_components_124 : decode b_Mod_components 124 = .ok (.aload_n 0, 1) := by decide +kernel
theorem d_Mod_components_125 : decode b_Mod_components 125 = .ok (.dup, 1) := by decide +kernel
theorem d_Mod_components_126 : decode b_Mod_components 126 = .ok (.getfield 77, 3) := by decide +kernel
theorem d_Mod_components_129 : decode b_Mod_components 129 = .ok (.iload_n 3, 1) := by decide +kernel
theorem d_Mod_components_130 : decode b_Mod_components 130 = .ok (.ifCond .eq 7, 3) := by decide +kernel
theorem d_Mod_components_133 : decode b_Mod_components 133 = .ok (.iconst 1, 1) := by decide +kernel
theorem d_Mod_components_134 : decode b_Mod_components 134 = .ok (.goto 4, 3) := by decide +kernel
theorem d_Mod_components_137 : decode b_Mod_components 137 = .ok (.iconst 0, 1) := by decide +kernel
theorem d_Mod_components_138 : decode b_Mod_components 138 = .ok (.iadd, 1) := by decide +kernel
theorem d_Mod_components_139 : decode b_Mod_components 139 = .ok (.putfield 77, 3) := by decide +kernel
theorem d_Mod_components_142 : decode b_Mod_components 142 = .ok (.iinc 1 1, 3) := by decide +kernel
theorem d_Mod_components_145 : decode b_Mod_components 145 = .ok (.goto (-113), 3) := by decide +kernel
theorem d_Mod_components_148 : decode b_Mod_components 148 = .ok (.return_, 1) := by decide +kernel
theorem d_Mod_hang_0 : decode b_Mod_hang 0 = .ok (.iconst 0, 1) := by decide +kernel
theorem d_Mod_hang_1 : decode b_Mod_hang 1 = .ok (.istore_n 1, 1) := by decide +kernel
theorem d_Mod_hang_2 : decode b_Mod_hang 2 = .ok (.iload_n 1, 1) := by decide +kernel
theorem d_Mod_hang_3 : decode b_Mod_hang 3 = .ok (.aload_n 0, 1) := by decide +kernel
theorem d_Mod_hang_4 : decode b_Mod_hang 4 = .ok (.getfield 59, 3) := by decide +kernel
theorem d_Mod_hang_7 : decode b_Mod_hang 7 = .ok (.if_icmp .ge 16, 3) := by decide +kernel
theorem d_Mod_hang_10 : decode b_Mod_hang 10 = .ok (.aload_n 0, 1) := by decide +kernel
theorem d_Mod_hang_11 : decode b_Mod_hang 11 = .ok (.getfield 38, 3) := by decide +kernel
theorem d_Mod_hang_14 : decode b_Mod_hang 14 = .ok (.iload_n 1, 1) := by decide +kernel
theorem d_Mod_hang_15 : decode b_Mod_hang 15 = .ok (.iload_n 1, 1) := by decide +kernel
theorem d_Mod_hang_16 : decode b_Mod_hang 16 = .ok (.iastore, 1) := by decide +kernel
theorem d_Mod_hang_17 : decode b_Mod_hang 17 = .ok (.iinc 1 1, 3) := by decide +kernel
theorem d_Mod_hang_20 : decode b_Mod_hang 20 = .ok (.goto (-18), 3) := by decide +kernel
theorem d_Mod_hang_23 : decode b_Mod_hang 23 = .ok (.iconst 1, 1) := by decide +kernel
theorem d_Mod_hang_24 : decode b_Mod_hang 24 = .ok (.istore_n 1, 1) := by decide +kernel
theorem d_Mod_hang_25 : decode b_Mod_hang 25 = .ok (.iload_n 1, 1) := by decide +kernel
theorem d_Mod_hang_26 : decode b_Mod_hang 26 = .ok (.ifCond .eq 96, 3) := by decide +kernel
theorem d_Mod_hang_29 : decode b_Mod_hang 29 = .ok (.iconst 0, 1) := by decide +kernel
theorem d_Mod_hang_30 : decode b_Mod_hang 30 = .ok (.istore_n 1, 1) := by decide +kernel
theorem d_Mod_hang_31 : decode b_Mod_hang 31 = .ok (.iconst 0, 1) := by decide +kernel
theorem d_Mod_hang_32 : decode b_Mod_hang 32 = .ok (.istore_n 2, 1) := by decide +kernel
theorem d_Mod_hang_33 : decode b_Mod_hang 33 = .ok (.iload_n 2, 1) := by decide +kernel
theorem d_Mod_hang_34 : decode b_Mod_hang 34 = .ok (.iconst 4, 1) := by decide +kernel
theorem d_Mod_hang_35 : decode b_Mod_hang 35 = .ok (.aload_n 0, 1) := by decide +kernel
theorem d_Mod_hang_36 : decode b_Mod_hang 36 = .ok (.getfield 59, 3) := by decide +kernel
theorem d_Mod_hang_39 : decode b_Mod_hang 39 = .ok (.imul, 1) := by decide +kernel
theorem d_Mod_hang_40 : decode b_Mod_hang 40 = .ok (.if_icmp .ge 79, 3) := by decide +kernel
theorem d_Mod_hang_43 : decode b_Mod_hang 43 = .ok (.iconst 0, 1) := by decide +kernel
theorem d_Mod_hang_44 : decode b_Mod_hang 44 = .ok (.istore_n 3, 1) := by decide +kernel
theorem d_Mod_hang_45 : decode b_Mod_hang 45 = .ok (.iload_n 3, 1) := by decide +kernel
theorem d_Mod_hang_46 : decode b_Mod_hang 46 = .ok (.iconst 4, 1) := by decide +kernel
theorem d_Mod_hang_47 : decode b_Mod_hang 47 = .ok (.aload_n 0, 1) := by decide +kernel
theorem d_Mod_hang_48 : decode b_Mod_hang 48 = .ok (.getfield 59, 3) := by decide +kernel
theorem d_Mod_hang_51 : decode b_Mod_hang 51 = .ok (.imul, 1) := by decide +kernel
theorem d_Mod_hang_52 : decode b_Mod_hang 52 = .ok (.if_icmp .ge 61, 3) := by decide +kernel
theorem d_Mod_hang_55 : decode b_Mod_hang 55 = .ok (.aload_n 0, 1) := by decide +kernel
theorem d_Mod_hang_56 : decode b_Mod_hang 56 = .ok (.getfield 23, 3) := by decide +kernel
theorem d_Mod_hang_59 : decode b_Mod_hang 59 = .ok (.iload_n 2, 1) := by decide +kernel
theorem d_Mod_hang_60 : decode b_Mod_hang 60 = .ok (.iaload, 1) := by decide +kernel
theorem d_Mod_hang_61 : decode b_Mod_hang 61 = .ok (.aload_n 0, 1) := by decide +kernel
theorem d_Mod_hang_62 : decode b_Mod_hang 62 = .ok (.getfield 23, 3) := by decide +kernel
theorem d_Mod_hang_65 : decode b_Mod_hang 65 = .ok (.iload_n 3, 1) := by decide +kernel
theorem d_Mod_hang_66 : decode b_Mod_hang 66 = .ok (.iaload, 1) := by decide +kernel
theorem d_Mod_hang_67 : decode b_Mod_hang 67 = .ok (.if_icmp .ne 40, 3) := by decide +kernel
theorem d_Mod_hang_70 : decode b_Mod_hang 70 = .ok (.aload_n 0, 1) := by decide +kernel
theorem d_Mod_hang_71 : decode b_Mod_hang 71 = .ok (.getfield 38, 3) := by decide +kernel
theorem d_Mod_hang_74 : decode b_Mod_hang 74 = .ok (.iload_n 2, 1) := by decide +kernel
theorem d_Mod_hang_75 : decode b_Mod_hang 75 = .ok (.iconst 4, 1) := by decide +kernel
theorem d_Mod_hang_76 : decode b_Mod_hang 76 = .ok (.idiv, 1) := by decide +kernel
theorem d_Mod_hang_77 : decode b_Mod_hang 77 = .ok (.iaload, 1) := by decide +kernel
theorem d_Mod_hang_78 : decode b_Mod_hang 78 = .ok (.aload_n 0, 1) := by decide +kernel
theorem d_Mod_hang_79 : decode b_Mod_hang 79 = .ok (.getfield 38, 3) := by decide +kernel
theorem d_Mod_hang_82 : decode b_Mod_hang 82 = .ok (.iload_n 3, 1) := by decide +kernel
theorem d_Mod_hang_83 : decode b_Mod_hang 83 = .ok (.iconst 4, 1) := by decide +kernel
theorem d_Mod_hang_84 : decode b_Mod_hang 84 = .ok (.idiv, 1) := by decide +kernel
theorem d_Mod_hang_85 : decode b_Mod_hang 85 = .ok (.iaload, 1) := by decide +kernel
theorem d_Mod_hang_86 : decode b_Mod_hang 86 = .ok (.if_icmp .ge 21, 3) := by decide +kernel
theorem d_Mod_hang_89 : decode b_Mod_hang 89 = .ok (.aload_n 0, 1) := by decide +kernel
theorem d_Mod_hang_90 : decode b_Mod_hang 90 = .ok (.getfield 38, 3) := by decide +kernel
theorem d_Mod_hang_93 : decode b_Mod_hang 93 = .ok (.iload_n 3, 1) := by decide +kernel
theorem d_Mod_hang_94 : decode b_Mod_hang 94 = .ok (.iconst 4, 1) := by decide +kernel
theorem d_Mod_hang_95 : decode b_Mod_hang 95 = .ok (.idiv, 1) := by decide +kernel
theorem d_Mod_hang_96 : decode b_Mod_hang 96 = .ok (.aload_n 0, 1) := by decide +kernel
theorem d_Mod_hang_97 : decode b_Mod_hang 97 = .ok (.getfield 38, 3) := by decide +kernel
theorem d_Mod_hang_100 : decode b_Mod_hang 100 = .ok (.iload_n 2, 1) := by decide +kernel
theorem d_Mod_hang_101 : decode b_Mod_hang 101 = .ok (.iconst 4, 1) := by decide +kernel
theorem d_Mod_hang_102 : decode b_Mod_hang 102 = .ok (.idiv, 1) := by decide +kernel
theorem d_Mod_hang_103 : decode b_Mod_hang 103 = .ok (.iaload, 1) := by decide +kernel
theorem d_Mod_hang_104 : decode b_Mod_hang 104 = .ok (.iastore, 1) := by decide +kernel
theorem d_Mod_hang_105 : decode b_Mod_hang 105 = .ok (.iconst 1, 1) := by decide +kernel
theorem d_Mod_hang_106 : decode b_Mod_hang 106 = .ok (.istore_n 1, 1) := by decide +kernel
theorem d_Mod_hang_107 : decode b_Mod_hang 107 = .ok (.iinc 3 1, 3) := by decide +kernel
theorem d_Mod_hang_110 : decode b_Mod_hang 110 = .ok (.goto (-65), 3) := by decide +kernel
theorem d_Mod_hang_113 : decode b_Mod_hang 113 = .ok (.iinc 2 1, 3) := by decide +kernel
theorem d_Mod_hang_116 : decode b_Mod_hang 116 = .ok (.goto (-83), 3) := by decide +kernel
theorem d_Mod_hang_119 : decode b_Mod_hang 119 = .ok (.goto (-94), 3) := by decide +kernel
theorem d_Mod_hang_122 : decode b_Mod_hang 122 = .ok (.return_, 1) := by decide +kernel
theorem d_Mod_pieces_0 : decode b_Mod_pieces 0 = .ok (.aload_n 0, 1) := by decide +kernel
theorem d_Mod_pieces_1 : decode b_Mod_pieces 1 = .ok (.invokevirtual 86, 3) := by decide +kernel
theorem d_Mod_pieces_4 : decode b_Mod_pieces 4 = .ok (.iconst 0, 1) := by decide +kernel
theorem d_Mod_pieces_5 : decode b_Mod_pieces 5 = .ok (.istore_n 1, 1) := by decide +kernel
theorem d_Mod_pieces_6 : decode b_Mod_pieces 6 = .ok (.iconst 0, 1) := by decide +kernel
theorem d_Mod_pieces_7 : decode b_Mod_pieces 7 = .ok (.istore_n 2, 1) := by decide +kernel
theorem d_Mod_pieces_8 : decode b_Mod_pieces 8 = .ok (.iload_n 2, 1) := by decide +kernel
theorem d_Mod_pieces_9 : decode b_Mod_pieces 9 = .ok (.aload_n 0, 1) := by decide +kernel
theorem d_Mod_pieces_10 : decode b_Mod_pieces 10 = .ok (.getfield 59, 3) := by decide +kernel
theorem d_Mod_pieces_13 : decode b_Mod_pieces 13 = .ok (.if_icmp .ge 27, 3) := by decide +kernel
theorem d_Mod_pieces_16 : decode b_Mod_pieces 16 = .ok (.iload_n 1, 1) := by decide +kernel
theorem d_Mod_pieces_17 : decode b_Mod_pieces 17 = .ok (.aload_n 0, 1) := by decide +kernel
theorem d_Mod_pieces_18 : decode b_Mod_pieces 18 = .ok (.getfield 38, 3) := by decide +kernel
theorem d_Mod_pieces_21 : decode b_Mod_pieces 21 = .ok (.iload_n 2, 1) := by decide +kernel
theorem d_Mod_pieces_22 : decode b_Mod_pieces 22 = .ok (.iaload, 1) := by decide +kernel
theorem d_Mod_pieces_23 : decode b_Mod_pieces 23 = .ok (.iload_n 2, 1) := by decide +kernel
theorem d_Mod_pieces_24 : decode b_Mod_pieces 24 = .ok (.if_icmp .ne 7, 3) := by decide +kernel
theorem d_Mod_pieces_27 : decode b_Mod_pieces 27 = .ok (.iconst 1, 1) := by decide +kernel
theorem d_Mod_pieces_28 : decode b_Mod_pieces 28 = .ok (.goto 4, 3) := by decide +kernel
theorem d_Mod_pieces_31 : decode b_Mod_pieces 31 = .ok (.iconst 0, 1) := by decide +kernel
theorem d_Mod_pieces_32 : decode b_Mod_pieces 32 = .ok (.iadd, 1) := by decide +kernel
theorem d_Mod_pieces_33 : decode b_Mod_pieces 33 = .ok (.istore_n 1, 1) := by decide +kernel
theorem d_Mod_pieces_34 : decode b_Mod_pieces 34 = .ok (.iinc 2 1, 3) := by decide +kernel
theorem d_Mod_pieces_37 : decode b_Mod_pieces 37 = .ok (.goto (-29), 3) := by decide +kernel
theorem d_Mod_pieces_40 : decode b_Mod_pieces 40 = .ok (.iload_n 1, 1) := by decide +kernel
theorem d_Mod_pieces_41 : decode b_Mod_pieces 41 = .ok (.ireturn, 1) := by decide +kernel
theorem d_Mod_turn_0 : decode b_Mod_turn 0 = .ok (.aload_n 0, 1) := by decide +kernel
theorem d_Mod_turn_1 : decode b_Mod_turn 1 = .ok (.iload_n 1, 1) := by decide +kernel
theorem d_Mod_turn_2 : decode b_Mod_turn 2 = .ok (.iconst 2, 1) := by decide +kernel
theorem d_Mod_turn_3 : decode b_Mod_turn 3 = .ok (.idiv, 1) := by decide +kernel
theorem d_Mod_turn_4 : decode b_Mod_turn 4 = .ok (.iload_n 1, 1) := by decide +kernel
theorem d_Mod_turn_5 : decode b_Mod_turn 5 = .ok (.iconst 2, 1) := by decide +kernel
theorem d_Mod_turn_6 : decode b_Mod_turn 6 = .ok (.irem, 1) := by decide +kernel
theorem d_Mod_turn_7 : decode b_Mod_turn 7 = .ok (.iconst 1, 1) := by decide +kernel
theorem d_Mod_turn_8 : decode b_Mod_turn 8 = .ok (.if_icmp .ne 7, 3) := by decide +kernel
theorem d_Mod_turn_11 : decode b_Mod_turn 11 = .ok (.iconst 1, 1) := by decide +kernel
theorem d_Mod_turn_12 : decode b_Mod_turn 12 = .ok (.goto 4, 3) := by decide +kernel
theorem d_Mod_turn_15 : decode b_Mod_turn 15 = .ok (.iconst 0, 1) := by decide +kernel
theorem d_Mod_turn_16 : decode b_Mod_turn 16 = .ok (.invokevirtual 66, 3) := by decide +kernel
theorem d_Mod_turn_19 : decode b_Mod_turn 19 = .ok (.istore_n 2, 1) := by decide +kernel
theorem d_Mod_turn_20 : decode b_Mod_turn 20 = .ok (.iload_n 2, 1) := by decide +kernel
theorem d_Mod_turn_21 : decode b_Mod_turn 21 = .ok (.iconst 4, 1) := by decide +kernel
theorem d_Mod_turn_22 : decode b_Mod_turn 22 = .ok (.idiv, 1) := by decide +kernel
theorem d_Mod_turn_23 : decode b_Mod_turn 23 = .ok (.iconst 4, 1) := by decide +kernel
theorem d_Mod_turn_24 : decode b_Mod_turn 24 = .ok (.imul, 1) := by decide +kernel
theorem d_Mod_turn_25 : decode b_Mod_turn 25 = .ok (.iload_n 2, 1) := by decide +kernel
theorem d_Mod_turn_26 : decode b_Mod_turn 26 = .ok (.iconst 3, 1) := by decide +kernel
theorem d_Mod_turn_27 : decode b_Mod_turn 27 = .ok (.iadd, 1) := by decide +kernel
theorem d_Mod_turn_28 : decode b_Mod_turn 28 = .ok (.iconst 4, 1) := by decide +kernel
theorem d_Mod_turn_29 : decode b_Mod_turn 29 = .ok (.irem, 1) := by decide +kernel
theorem d_Mod_turn_30 : decode b_Mod_turn 30 = .ok (.iadd, 1) := by decide +kernel
theorem d_Mod_turn_31 : decode b_Mod_turn 31 = .ok (.istore_n 3, 1) := by decide +kernel
theorem d_Mod_turn_32 : decode b_Mod_turn 32 = .ok (.iconst 2, 1) := by decide +kernel
theorem d_Mod_turn_33 : decode b_Mod_turn 33 = .ok (.aload_n 0, 1) := by decide +kernel
theorem d_Mod_turn_34 : decode b_Mod_turn 34 = .ok (.getfield 23, 3) := by decide +kernel
theorem d_Mod_turn_37 : decode b_Mod_turn 37 = .ok (.iload_n 3, 1) := by decide +kernel
theorem d_Mod_turn_38 : decode b_Mod_turn 38 = .ok (.iaload, 1) := by decide +kernel
theorem d_Mod_turn_39 : decode b_Mod_turn 39 = .ok (.imul, 1) := by decide +kernel
theorem d_Mod_turn_40 : decode b_Mod_turn 40 = .ok (.aload_n 0, 1) := by decide +kernel
theorem d_Mod_turn_41 : decode b_Mod_turn 41 = .ok (.iload_n 3, 1) := by decide +kernel
theorem d_Mod_turn_42 : decode b_Mod_turn 42 = .ok (.invokevirtual 62, 3) := by decide +kernel
theorem d_Mod_turn_45 : decode b_Mod_turn 45 = .ok (.ifCond .eq 7, 3) := by decide +kernel
theorem d_Mod_turn_48 : decode b_Mod_turn 48 = .ok (.iconst 0, 1) := by decide +kernel
theorem d_Mod_turn_49 : decode b_Mod_turn 49 = .ok (.goto 4, 3) := by decide +kernel
theorem d_Mod_turn_52 : decode b_Mod_turn 52 = .ok (.iconst 1, 1) := by decide +kernel
theorem d_Mod_turn_53 : decode b_Mod_turn 53 = .ok (.iadd, 1) := by decide +kernel
theorem d_Mod_turn_54 : decode b_Mod_turn 54 = .ok (.ireturn, 1) := by decide +kernel
theorem d_Mod_rowOf_0 : decode b_Mod_rowOf 0 = .ok (.iconst 0, 1) := by decide +kernel
theorem d_Mod_rowOf_1 : decode b_Mod_rowOf 1 = .ok (.istore_n 2, 1) := by decide +kernel
theorem d_Mod_rowOf_2 : decode b_Mod_rowOf 2 = .ok (.aload_n 0, 1) := by decide +kernel
theorem d_Mod_rowOf_3 : decode b_Mod_rowOf 3 = .ok (.getfield 32, 3) := by decide +kernel
theorem d_Mod_rowOf_6 : decode b_Mod_rowOf 6 = .ok (.iload_n 2, 1) := by decide +kernel
theorem d_Mod_rowOf_7 : decode b_Mod_rowOf 7 = .ok (.iaload, 1) := by decide +kernel
theorem d_Mod_rowOf_8 : decode b_Mod_rowOf 8 = .ok (.iload_n 1, 1) := by decide +kernel
theorem d_Mod_rowOf_9 : decode b_Mod_rowOf 9 = .ok (.if_icmp .eq 9, 3) := by decide +kernel
theorem d_Mod_rowOf_12 : decode b_Mod_rowOf 12 = .ok (.iinc 2 1, 3) := by decide +kernel
theorem d_Mod_rowOf_15 : decode b_Mod_rowOf 15 = .ok (.goto (-13), 3) := by decide +kernel
theorem d_Mod_rowOf_18 : decode b_Mod_rowOf 18 = .ok (.iload_n 2, 1) := by decide +kernel
theorem d_Mod_rowOf_19 : decode b_Mod_rowOf 19 = .ok (.ireturn, 1) := by decide +kernel
theorem d_Mod_findFaces_0 : decode b_Mod_findFaces 0 = .ok (.aload_n 0, 1) := by decide +kernel
theorem d_Mod_findFaces_1 : decode b_Mod_findFaces 1 = .ok (.invokevirtual 80, 3) := by decide +kernel
theorem d_Mod_findFaces_4 : decode b_Mod_findFaces 4 = .ok (.iconst 0, 1) := by decide +kernel
theorem d_Mod_findFaces_5 : decode b_Mod_findFaces 5 = .ok (.istore_n 1, 1) := by decide +kernel
theorem d_Mod_findFaces_6 : decode b_Mod_findFaces 6 = .ok (.iload_n 1, 1) := by decide +kernel
theorem d_Mod_findFaces_7 : decode b_Mod_findFaces 7 = .ok (.bipush 80, 2) := by decide +kernel
theorem d_Mod_findFaces_9 : decode b_Mod_findFaces 9 = .ok (.if_icmp .ge 16, 3) := by decide +kernel
theorem d_Mod_findFaces_12 : decode b_Mod_findFaces 12 = .ok (.aload_n 0, 1) := by decide +kernel
theorem d_Mod_findFaces_13 : decode b_Mod_findFaces 13 = .ok (.getfield 44, 3) := by decide +kernel
theorem d_Mod_findFaces_16 : decode b_Mod_findFaces 16 = .ok (.iload_n 1, 1) := by decide +kernel
theorem d_Mod_findFaces_17 : decode b_Mod_findFaces 17 = .ok (.iconst (-1), 1) := by decide +kernel
theorem d_Mod_findFaces_18 : decode b_Mod_findFaces 18 = .ok (.iastore, 1) := by decide +kernel
theorem d_Mod_findFaces_19 : decode b_Mod_findFaces 19 = .ok (.iinc 1 1, 3) := by decide +kernel
theorem d_Mod_findFaces_22 : decode b_Mod_findFaces 22 = .ok (.goto (-16), 3) := by decide +kernel
theorem d_Mod_findFaces_25 : decode b_Mod_findFaces 25 = .ok (.aload_n 0, 1) := by decide +kernel
theorem d_Mod_findFaces_26 : decode b_Mod_findFaces 26 = .ok (.iconst 0, 1) := by decide +kernel
theorem d_Mod_findFaces_27 : decode b_Mod_findFaces 27 = .ok (.putfield 89, 3) := by decide +kernel
theorem d_Mod_findFaces_30 : decode b_Mod_findFaces 30 = .ok (.iconst 0, 1) := by decide +kernel
theorem d_Mod_findFaces_31 : decode b_Mod_findFaces 31 = .ok (.istore_n 1, 1) := by decide +kernel
theorem d_Mod_findFaces_32 : decode b_Mod_findFaces 32 = .ok (.iload_n 1, 1) := by decide +kernel
theorem d_Mod_findFaces_33 : decode b_Mod_findFaces 33 = .ok (.iconst 2, 1) := by decide +kernel
theorem d_Mod_findFaces_34 : decode b_Mod_findFaces 34 = .ok (.aload_n 0, 1) := by decide +kernel
theorem d_Mod_findFaces_35 : decode b_Mod_findFaces 35 = .ok (.getfield 74, 3) := by decide +kernel
theorem d_Mod_findFaces_38 : decode b_Mod_findFaces 38 = .ok (.imul, 1) := by decide +kernel
theorem d_Mod_findFaces_39 : decode b_Mod_findFaces 39 = .ok (.if_icmp .ge 113, 3) := by decide +kernel
theorem d_Mod_findFaces_42 : decode b_Mod_findFaces 42 = .ok (.iconst 2, 1) := by decide +kernel
theorem d_Mod_findFaces_43 : decode b_Mod_findFaces 43 = .ok (.aload_n 0, 1) := by decide +kernel
theorem d_Mod_findFaces_44 : decode b_Mod_findFaces 44 = .ok (.getfield 32, 3) := by decide +kernel
theorem d_Mod_findFaces_47 : decode b_Mod_findFaces 47 = .ok (.iload_n 1, 1) := by decide +kernel
theorem d_Mod_findFaces_48 : decode b_Mod_findFaces 48 = .ok (.iconst 2, 1) := by decide +kernel
theorem d_Mod_findFaces_49 : decode b_Mod_findFaces 49 = .ok (.idiv, 1) := by decide +kernel
theorem d_Mod_findFaces_50 : decode b_Mod_findFaces 50 = .ok (.iaload, 1) := by decide +kernel
theorem d_Mod_findFaces_51 : decode b_Mod_findFaces 51 = .ok (.imul, 1) := by decide +kernel
theorem d_Mod_findFaces_52 : decode b_Mod_findFaces 52 = .ok (.iload_n 1, 1) := by decide +kernel
theorem d_Mod_findFaces_53 : decode b_Mod_findFaces 53 = .ok (.iconst 2, 1) := by decide +kernel
theorem d_Mod_findFaces_54 : decode b_Mod_findFaces 54 = .ok (.irem, 1) := by decide +kernel
theorem d_Mod_findFaces_55 : decode b_Mod_findFaces 55 = .ok (.iadd, 1) := by decide +kernel
theorem d_Mod_findFaces_56 : decode b_Mod_findFaces 56 = .ok (.istore_n 2, 1) := by decide +kernel
theorem d_Mod_findFaces_57 : decode b_Mod_findFaces 57 = .ok (.aload_n 0, 1) := by decide +kernel
theorem d_Mod_findFaces_58 : decode b_Mod_findFaces 58 = .ok (.getfield 44, 3) := by decide +kernel
theorem d_Mod_findFaces_61 : decode b_Mod_findFaces 61 = .ok (.iload_n 1, 1) := by decide +kernel
theorem d_Mod_findFaces_62 : decode b_Mod_findFaces 62 = .ok (.iaload, 1) := by decide +kernel
theorem d_Mod_findFaces_63 : decode b_Mod_findFaces 63 = .ok (.ifCond .ge 7, 3) := by decide +kernel
theorem d_Mod_findFaces_66 : decode b_Mod_findFaces 66 = .ok (.iconst 1, 1) := by decide +kernel
theorem d_Mod_findFaces_67 : decode b_Mod_findFaces 67 = .ok (.goto 4, 3) := by decide +kernel
theorem d_Mod_findFaces_70 : decode b_Mod_findFaces 70 = .ok (.iconst 0, 1) := by decide +kernel
theorem d_Mod_findFaces_71 : decode b_Mod_findFaces 71 = .ok (.istore_n 3, 1) := by decide +kernel
theorem d_Mod_findFaces_72 : decode b_Mod_findFaces 72 = .ok (.iload_n 3, 1) := by decide +kernel
theorem d_Mod_findFaces_73 : decode b_Mod_findFaces 73 = .ok (.ifCond .eq 55, 3) := by decide +kernel
theorem d_Mod_findFaces_76 : decode b_Mod_findFaces 76 = .ok (.aload_n 0, 1) := by decide +kernel
theorem d_Mod_findFaces_77 : decode b_Mod_findFaces 77 = .ok (.getfield 44, 3) := by decide +kernel
theorem d_Mod_findFaces_80 : decode b_Mod_findFaces 80 = .ok (.iconst 2, 1) := by decide +kernel
theorem d_Mod_findFaces_81 : decode b_Mod_findFaces 81 = .ok (.aload_n 0, 1) := by decide +kernel
theorem d_Mod_findFaces_82 : decode b_Mod_findFaces 82 = .ok (.iload_n 2, 1) := by decide +kernel
theorem d_Mod_findFaces_83 : decode b_Mod_findFaces 83 = .ok (.iconst 2, 1) := by decide +kernel
theorem d_Mod_findFaces_84 : decode b_Mod_findFaces 84 = .ok (.idiv, 1) := by decide +kernel
theorem d_Mod_findFaces_85 : decode b_Mod_findFaces 85 = .ok (.invokevirtual 92, 3) := by decide +kernel
theorem d_Mod_findFaces_88 : decode b_Mod_findFaces 88 = .ok (.imul, 1) := by decide +kernel
theorem d_Mod_findFaces_89 : decode b_Mod_findFaces 89 = .ok (.iload_n 2, 1) := by decide +kernel
theorem d_Mod_findFaces_90 : decode b_Mod_findFaces 90 = .ok (.iconst 2, 1) := by decide +kernel
theorem d_Mod_findFaces_91 : decode b_Mod_findFaces 91 = .ok (.irem, 1) := by decide +kernel
theorem d_Mod_findFaces_92 : decode b_Mod_findFaces 92 = .ok (.iadd, 1) := by decide +kernel
theorem d_Mod_findFaces_93 : decode b_Mod_findFaces 93 = .ok (.iaload, 1) := by decide +kernel
theorem d_Mod_findFaces_94 : decode b_Mod_findFaces 94 = .ok (.ifCond .ge 34, 3) := by decide +kernel
theorem d_Mod_findFaces_97 : decode b_Mod_findFaces 97 = .ok (.aload_n 0, 1) := by decide +kernel
theorem d_Mod_findFaces_98 : decode b_Mod_findFaces 98 = .ok (.getfield 44, 3) := by decide +kernel
theorem d_Mod_findFaces_101 : decode b_Mod_findFaces 101 = .ok (.iconst 2, 1) := by decide +kernel
theorem d_Mod_findFaces_102 : decode b_Mod_findFaces 102 = .ok (.aload_n 0, 1) := by decide +kernel
theorem d_Mod_findFaces_103 : decode b_Mod_findFaces 103 = .ok (.iload_n 2, 1) := by decide +kernel
theorem d_Mod_findFaces_104 : decode b_Mod_findFaces 104 = .ok (.iconst 2, 1) := by decide +kernel
theorem d_Mod_findFaces_105 : decode b_Mod_findFaces 105 = .ok (.idiv, 1) := by decide +kernel
theorem d_Mod_findFaces_106 : decode b_Mod_findFaces 106 = .ok (.invokevirtual 92, 3) := by decide +kernel
theorem d_Mod_findFaces_109 : decode b_Mod_findFaces 109 = .ok (.imul, 1) := by decide +kernel
theorem d_Mod_findFaces_110 : decode b_Mod_findFaces 110 = .ok (.iload_n 2, 1) := by decide +kernel
theorem d_Mod_findFaces_111 : decode b_Mod_findFaces 111 = .ok (.iconst 2, 1) := by decide +kernel
theorem d_Mod_findFaces_112 : decode b_Mod_findFaces 112 = .ok (.irem, 1) := by decide +kernel
theorem d_Mod_findFaces_113 : decode b_Mod_findFaces 113 = .ok (.iadd, 1) := by decide +kernel
theorem d_Mod_findFaces_114 : decode b_Mod_findFaces 114 = .ok (.aload_n 0, 1) := by decide +kernel
theorem d_Mod_findFaces_115 : decode b_Mod_findFaces 115 = .ok (.getfield 89, 3) := by decide +kernel
theorem d_Mod_findFaces_118 : decode b_Mod_findFaces 118 = .ok (.iastore, 1) := by decide +kernel
theorem d_Mod_findFaces_119 : decode b_Mod_findFaces 119 = .ok (.aload_n 0, 1) := by decide +kernel
theorem d_Mod_findFaces_120 : decode b_Mod_findFaces 120 = .ok (.iload_n 2, 1) := by decide +kernel
theorem d_Mod_findFaces_121 : decode b_Mod_findFaces 121 = .ok (.invokevirtual 95, 3) := by decide +kernel
theorem d_Mod_findFaces_124 : decode b_Mod_findFaces 124 = .ok (.istore_n 2, 1) := by decide +kernel
theorem d_Mod_findFaces_125 : decode b_Mod_findFaces 125 = .ok (.goto (-53), 3) := by decide +kernel
theorem d_Mod_findFaces_128 : decode b_Mod_findFaces 128 = .ok (.aload_n 0, 1) := by decide +kernel
theorem d_Mod_findFaces_129 : decode b_Mod_findFaces 129 = .ok (.dup, 1) := by decide +kernel
theorem d_Mod_findFaces_130 : decode b_Mod_findFaces 130 = .ok (.getfield 89, 3) := by decide +kernel
theorem d_Mod_findFaces_133 : decode b_Mod_findFaces 133 = .ok (.iload_n 3, 1) := by decide +kernel
theorem d_Mod_findFaces_134 : decode b_Mod_findFaces 134 = .ok (.ifCond .eq 7, 3) := by decide +kernel
theorem d_Mod_findFaces_137 : decode b_Mod_findFaces 137 = .ok (.iconst 1, 1) := by decide +kernel
theorem d_Mod_findFaces_138 : decode b_Mod_findFaces 138 = .ok (.goto 4, 3) := by decide +kernel
theorem d_Mod_findFaces_141 : decode b_Mod_findFaces 141 = .ok (.iconst 0, 1) := by decide +kernel
theorem d_Mod_findFaces_142 : decode b_Mod_findFaces 142 = .ok (.iadd, 1) := by decide +kernel
theorem d_Mod_findFaces_143 : decode b_Mod_findFaces 143 = .ok (.putfield 89, 3) := by decide +kernel
theorem d_Mod_findFaces_146 : decode b_Mod_findFaces 146 = .ok (.iinc 1 1, 3) := by decide +kernel
theorem d_Mod_findFaces_149 : decode b_Mod_findFaces 149 = .ok (.goto (-117), 3) := by decide +kernel
theorem d_Mod_findFaces_152 : decode b_Mod_findFaces 152 = .ok (.return_, 1) := by decide +kernel
theorem d_Mod_facesAt_0 : decode b_Mod_facesAt 0 = .ok (.iconst 0, 1) := by decide +kernel
theorem d_Mod_facesAt_1 : decode b_Mod_facesAt 1 = .ok (.istore_n 2, 1) := by decide +kernel
theorem d_Mod_facesAt_2 : decode b_Mod_facesAt 2 = .ok (.iconst (-1), 1) := by decide +kernel
theorem d_Mod_facesAt_3 : decode b_Mod_facesAt 3 = .ok (.istore_n 3, 1) := by decide +kernel
theorem d_Mod_facesAt_4 : decode b_Mod_facesAt 4 = .ok (.iconst 0, 1) := by decide +kernel
theorem d_Mod_facesAt_5 : decode b_Mod_facesAt 5 = .ok (.istore 4, 2) := by decide +kernel
theorem d_Mod_facesAt_7 : decode b_Mod_facesAt 7 = .ok (.iload 4, 2) := by decide +kernel
theorem d_Mod_facesAt_9 : decode b_Mod_facesAt 9 = .ok (.iconst 2, 1) := by decide +kernel
theorem d_Mod_facesAt_10 : decode b_Mod_facesAt 10 = .ok (.aload_n 0, 1) := by decide +kernel
theorem d_Mod_facesAt_11 : decode b_Mod_facesAt 11 = .ok (.getfield 74, 3) := by decide +kernel
theorem d_Mod_facesAt_14 : decode b_Mod_facesAt 14 = .ok (.imul, 1) := by decide +kernel
theorem d_Mod_facesAt_15 : decode b_Mod_facesAt 15 = .ok (.if_icmp .ge 82, 3) := by decide +kernel
theorem d_Mod_facesAt_18 : decode b_Mod_facesAt 18 = .ok (.aload_n 0, 1) := by decide +kernel
theorem d_Mod_facesAt_19 : decode b_Mod_facesAt 19 = .ok (.getfield 44, 3) := by decide +kernel
theorem d_Mod_facesAt_22 : decode b_Mod_facesAt 22 = .ok (.iload 4, 2) := by decide +kernel
theorem d_Mod_facesAt_24 : decode b_Mod_facesAt 24 = .ok (.iaload, 1) := by decide +kernel
theorem d_Mod_facesAt_25 : decode b_Mod_facesAt 25 = .ok (.iload_n 3, 1) := by decide +kernel
theorem d_Mod_facesAt_26 : decode b_Mod_facesAt 26 = .ok (.if_icmp .le 7, 3) := by decide +kernel
theorem d_Mod_facesAt_29 : decode b_Mod_facesAt 29 = .ok (.iconst 1, 1) := by decide +kernel
theorem d_Mod_facesAt_30 : decode b_Mod_facesAt 30 = .ok (.goto 4, 3) := by decide +kernel
theorem d_Mod_facesAt_33 : decode b_Mod_facesAt 33 = .ok (.iconst 0, 1) := by decide +kernel
theorem d_Mod_facesAt_34 : decode b_Mod_facesAt 34 = .ok (.istore 5, 2) := by decide +kernel
theorem d_Mod_facesAt_36 : decode b_Mod_facesAt 36 = .ok (.iload_n 2, 1) := by decide +kernel
theorem d_Mod_facesAt_37 : decode b_Mod_facesAt 37 = .ok (.iload 5, 2) := by decide +kernel
theorem d_Mod_facesAt_39 : decode b_Mod_facesAt 39 = .ok (.ifCond .eq 32, 3) := by decide +kernel
theorem d_Mod_facesAt_42 : decode b_Mod_facesAt 42 = .ok (.aload_n 0, 1) := by decide +kernel
theorem d_Mod_facesAt_43 : decode b_Mod_facesAt 43 = .ok (.getfield 38, 3) := by decide +kernel
theorem d_Mod_facesAt_46 : decode b_Mod_facesAt 46 = .ok (.aload_n 0, 1) := by decide +kernel
theorem d_Mod_facesAt_47 : decode b_Mod_facesAt 47 = .ok (.aload_n 0, 1) := by decide +kernel
theorem d_Mod_facesAt_48 : decode b_Mod_facesAt 48 = .ok (.getfield 32, 3) := by decide +kernel
theorem d_Mod_facesAt_51 : decode b_Mod_facesAt 51 = .ok (.iload 4, 2) := by decide +kernel
theorem d_Mod_facesAt_53 : decode b_Mod_facesAt 53 = .ok (.iconst 2, 1) := by decide +kernel
theorem d_Mod_facesAt_54 : decode b_Mod_facesAt 54 = .ok (.idiv, 1) := by decide +kernel
theorem d_Mod_facesAt_55 : decode b_Mod_facesAt 55 = .ok (.iaload, 1) := by decide +kernel
theorem d_Mod_facesAt_56 : decode b_Mod_facesAt 56 = .ok (.iconst 1, 1) := by decide +kernel
theorem d_Mod_facesAt_57 : decode b_Mod_facesAt 57 = .ok (.invokevirtual 66, 3) := by decide +kernel
theorem d_Mod_facesAt_60 : decode b_Mod_facesAt 60 = .ok (.iconst 4, 1) := by decide +kernel
theorem d_Mod_facesAt_61 : decode b_Mod_facesAt 61 = .ok (.idiv, 1) := by decide +kernel
theorem d_Mod_facesAt_62 : decode b_Mod_facesAt 62 = .ok (.iaload, 1) := by decide +kernel
theorem d_Mod_facesAt_63 : decode b_Mod_facesAt 63 = .ok (.iload_n 1, 1) := by decide +kernel
theorem d_Mod_facesAt_64 : decode b_Mod_facesAt 64 = .ok (.if_icmp .ne 7, 3) := by decide +kernel
theorem d_Mod_facesAt_67 : decode b_Mod_facesAt 67 = .ok (.iconst 1, 1) := by decide +kernel
theorem d_Mod_facesAt_68 : decode b_Mod_facesAt 68 = .ok (.goto 4, 3) := by decide +kernel
theorem d_Mod_facesAt_71 : decode b_Mod_facesAt 71 = .ok (.iconst 0, 1) := by decide +kernel
theorem d_Mod_facesAt_72 : decode b_Mod_facesAt 72 = .ok (.iadd, 1) := by decide +kernel
theorem d_Mod_facesAt_73 : decode b_Mod_facesAt 73 = .ok (.istore_n 2, 1) := by decide +kernel
theorem d_Mod_facesAt_74 : decode b_Mod_facesAt 74 = .ok (.iload 5, 2) := by decide +kernel
theorem d_Mod_facesAt_76 : decode b_Mod_facesAt 76 = .ok (.ifCond .eq 13, 3) := by decide +kernel
theorem d_Mod_facesAt_79 : decode b_Mod_facesAt 79 = .ok (.aload_n 0, 1) := by decide +kernel
theorem d_Mod_facesAt_80 : decode b_Mod_facesAt 80 = .ok (.getfield 44, 3) := by decide +kernel
theorem d_Mod_facesAt_83 : decode b_Mod_facesAt 83 = .ok (.iload 4, 2) := by decide +kernel
theorem d_Mod_facesAt_85 : decode b_Mod_facesAt 85 = .ok (.iaload, 1) := by decide +kernel
theorem d_Mod_facesAt_86 : decode b_Mod_facesAt 86 = .ok (.goto 4, 3) := by decide +kernel
theorem d_Mod_facesAt_89 : decode b_Mod_facesAt 89 = .ok (.iload_n 3, 1) := by decide +kernel
theorem d_Mod_facesAt_90 : decode b_Mod_facesAt 90 = .ok (.istore_n 3, 1) := by decide +kernel
theorem d_Mod_facesAt_91 : decode b_Mod_facesAt 91 = .ok (.iinc 4 1, 3) := by decide +kernel
theorem d_Mod_facesAt_94 : decode b_Mod_facesAt 94 = .ok (.goto (-87), 3) := by decide +kernel
theorem d_Mod_facesAt_97 : decode b_Mod_facesAt 97 = .ok (.iload_n 2, 1) := by decide +kernel
theorem d_Mod_facesAt_98 : decode b_Mod_facesAt 98 = .ok (.ireturn, 1) := by decide +kernel
theorem d_Mod_crossing_0 : decode b_Mod_crossing 0 = .ok (.iload_n 2, 1) := by decide +kernel
theorem d_Mod_crossing_1 : decode b_Mod_crossing 1 = .ok (.ifCond .le 51, 3) := by decide +kernel
theorem d_Mod_crossing_4 : decode b_Mod_crossing 4 = .ok (.iload_n 3, 1) := by decide +kernel
theorem d_Mod_crossing_5 : decode b_Mod_crossing 5 = .ok (.ifCond .le 47, 3) := by decide +kernel
theorem d_Mod_crossing_8 : decode b_Mod_crossing 8 = .ok (.iload 4, 2) := by decide +kernel
theorem d_Mod_crossing_10 : decode b_Mod_crossing 10 = .ok (.ifCond .le 42, 3) := by decide +kernel
theorem d_Mod_crossing_13 : decode b_Mod_crossing 13 = .ok (.iload 5, 2) := by decide +kernel
theorem d_Mod_crossing_15 : decode b_Mod_crossing 15 = .ok (.ifCond .le 37, 3) := by decide +kernel
theorem d_Mod_crossing_18 : decode b_Mod_crossing 18 = .ok (.iload_n 2, 1) := by decide +kernel
theorem d_Mod_crossing_19 : decode b_Mod_crossing 19 = .ok (.sipush 10000, 3) := by decide +kernel
theorem d_Mod_crossing_22 : decode b_Mod_crossing 22 = .ok (.if_icmp .ge 30, 3) := by decide +kernel
theorem d_Mod_crossing_25 : decode b_Mod_crossing 25 = .ok (.iload_n 3, 1) := by decide +kernel
theorem d_Mod_crossing_26 : decode b_Mod_crossing 26 = .ok (.sipush 10000, 3) := by decide +kernel
theorem d_Mod_crossing_29 : decode b_Mod_crossing 29 = .ok (.if_icmp .ge 23, 3) := by decide +kernel
theorem d_Mod_crossing_32 : decode b_Mod_crossing 32 = .ok (.iload 4, 2) := by decide +kernel
theorem d_Mod_crossing_34 : decode b_Mod_crossing 34 = .ok (.sipush 10000, 3) := by decide +kernel
theorem d_Mod_crossing_37 : decode b_Mod_crossing 37 = .ok (.if_icmp .ge 15, 3) := by decide +kernel
theorem d_Mod_crossing_40 : decode b_Mod_crossing 40 = .ok (.iload 5, 2) := by decide +kernel
theorem d_Mod_crossing_42 : decode b_Mod_crossing 42 = .ok (.sipush 10000, 3) := by decide +kernel
theorem d_Mod_crossing_45 : decode b_Mod_crossing 45 = .ok (.if_icmp .ge 7, 3) := by decide +kernel
theorem d_Mod_crossing_48 : decode b_Mod_crossing 48 = .ok (.iconst 1, 1) := by decide +kernel
theorem d_Mod_crossing_49 : decode b_Mod_crossing 49 = .ok (.goto 4, 3) := by decide +kernel
theorem d_Mod_crossing_52 : decode b_Mod_crossing 52 = .ok (.iconst 0, 1) := by decide +kernel
theorem d_Mod_crossing_53 : decode b_Mod_crossing 53 = .ok (.istore 6, 2) := by decide +kernel
theorem d_Mod_crossing_55 : decode b_Mod_crossing 55 = .ok (.iload_n 1, 1) := by decide +kernel
theorem d_Mod_crossing_56 : decode b_Mod_crossing 56 = .ok (.iconst 1, 1) := by decide +kernel
theorem d_Mod_crossing_57 : decode b_Mod_crossing 57 = .ok (.if_icmp .eq 8, 3) := by decide +kernel
theorem d_Mod_crossing_60 : decode b_Mod_crossing 60 = .ok (.iload_n 1, 1) := by decide +kernel
theorem d_Mod_crossing_61 : decode b_Mod_crossing 61 = .ok (.iconst (-1), 1) := by decide +kernel
theorem d_Mod_crossing_62 : decode b_Mod_crossing 62 = .ok (.if_icmp .ne 17, 3) := by decide +kernel
theorem d_Mod_crossing_65 : decode b_Mod_crossing 65 = .ok (.iload 6, 2) := by decide +kernel
theorem d_Mod_crossing_67 : decode b_Mod_crossing 67 = .ok (.ifCond .eq 12, 3) := by decide +kernel
theorem d_Mod_crossing_70 : decode b_Mod_crossing 70 = .ok (.aload_n 0, 1) := by decide +kernel
theorem d_Mod_crossing_71 : decode b_Mod_crossing 71 = .ok (.getfield 98, 3) := by decide +kernel
theorem d_Mod_crossing_74 : decode b_Mod_crossing 74 = .ok (.bipush 20, 2) := by decide +kernel
theorem d_Mod_crossing_76 : decode b_Mod_crossing 76 = .ok (.if_icmp .ne 5, 3) := by decide +kernel
theorem d_Mod_crossing_79 : decode b_Mod_crossing 79 = .ok (.iconst (-1), 1) := by decide +kernel
theorem d_Mod_crossing_80 : decode b_Mod_crossing 80 = .ok (.ireturn, 1) := by decide +kernel
theorem d_Mod_crossing_81 : decode b_Mod_crossing 81 = .ok (.aload_n 0, 1) := by decide +kernel
theorem d_Mod_crossing_82 : decode b_Mod_crossing 82 = .ok (.getfield 13, 3) := by decide +kernel
theorem d_Mod_crossing_85 : decode b_Mod_crossing 85 = .ok (.aload_n 0, 1) := by decide +kernel
theorem d_Mod_crossing_86 : decode b_Mod_crossing 86 = .ok (.getfield 98, 3) := by decide +kernel
theorem d_Mod_crossing_89 : decode b_Mod_crossing 89 = .ok (.iload_n 1, 1) := by decide +kernel
theorem d_Mod_crossing_90 : decode b_Mod_crossing 90 = .ok (.iastore, 1) := by decide +kernel
theorem d_Mod_crossing_91 : decode b_Mod_crossing 91 = .ok (.aload_n 0, 1) := by decide +kernel
theorem d_Mod_crossing_92 : decode b_Mod_crossing 92 = .ok (.getfield 17, 3) := by decide +kernel
theorem d_Mod_crossing_95 : decode b_Mod_crossing 95 = .ok (.iconst 4, 1) := by decide +kernel
theorem d_Mod_crossing_96 : decode b_Mod_crossing 96 = .ok (.aload_n 0, 1) := by decide +kernel
theorem d_Mod_crossing_97 : decode b_Mod_crossing 97 = .ok (.getfield 98, 3) := by decide +kernel
theorem d_Mod_crossing_100 : decode b_Mod_crossing 100 = .ok (.imul, 1) := by decide +kernel
theorem d_Mod_crossing_101 : decode b_Mod_crossing 101 = .ok (.iload_n 2, 1) := by decide +kernel
theorem d_Mod_crossing_102 : decode b_Mod_crossing 102 = .ok (.iastore, 1) := by decide +kernel
theorem d_Mod_crossing_103 : decode b_Mod_crossing 103 = .ok (.aload_n 0, 1) := by decide +kernel
theorem d_Mod_crossing_104 : decode b_Mod_crossing 104 = .ok (.getfield 17, 3) := by decide +kernel
theorem d_Mod_crossing_107 : decode b_Mod_crossing 107 = .ok (.iconst 4, 1) := by decide +kernel
theorem d_Mod_crossing_108 : decode b_Mod_crossing 108 = .ok (.aload_n 0, 1) := by decide +kernel
theorem d_Mod_crossing_109 : decode b_Mod_crossing 109 = .ok (.getfield 98, 3) := by decide +kernel
theorem d_Mod_crossing_112 : decode b_Mod_crossing 112 = .ok (.imul, 1) := by decide +kernel
theorem d_Mod_crossing_113 : decode b_Mod_crossing 113 = .ok (.iconst 1, 1) := by decide +kernel
theorem d_Mod_crossing_114 : decode b_Mod_crossing 114 = .ok (.iadd, 1) := by decide +kernel
theorem d_Mod_crossing_115 : decode b_Mod_crossing 115 = .ok (.iload_n 3, 1) := by decide +kernel
theorem d_Mod_crossing_116 : decode b_Mod_crossing 116 = .ok (.iastore, 1) := by decide +kernel
theorem d_Mod_crossing_117 : decode b_Mod_crossing 117 = .ok (.aload_n 0, 1) := by decide +kernel
theorem d_Mod_crossing_118 : decode b_Mod_crossing 118 = .ok (.getfield 17, 3) := by decide +kernel
theorem d_Mod_crossing_121 : decode b_Mod_crossing 121 = .ok (.iconst 4, 1) := by decide +kernel
theorem d_Mod_crossing_122 : decode b_Mod_crossing 122 = .ok (.aload_n 0, 1) := by decide +kernel
theorem d_Mod_crossing_123 : decode b_Mod_crossing 123 = .ok (.getfield 98, 3) := by decide +kernel
theorem d_Mod_crossing_126 : decode b_Mod_crossing 126 = .ok (.imul, 1) := by decide +kernel
theorem d_Mod_crossing_127 : decode b_Mod_crossing 127 = .ok (.iconst 2, 1) := by decide +kernel
theorem d_Mod_crossing_128 : decode b_Mod_crossing 128 = .ok (.iadd, 1) := by decide +kernel
theorem d_Mod_crossing_129 : decode b_Mod_crossing 129 = .ok (.iload 4, 2) := by decide +kernel
theorem d_Mod_crossing_131 : decode b_Mod_crossing 131 = .ok (.iastore, 1) := by decide +kernel
theorem d_Mod_crossing_132 : decode b_Mod_crossing 132 = .ok (.aload_n 0, 1) := by decide +kernel
theorem d_Mod_crossing_133 : decode b_Mod_crossing 133 = .ok (.getfield 17, 3) := by decide +kernel
theorem d_Mod_crossing_136 : decode b_Mod_crossing 136 = .ok (.iconst 4, 1) := by decide +kernel
theorem d_Mod_crossing_137 : decode b_Mod_crossing 137 = .ok (.aload_n 0, 1) := by decide +kernel
theorem d_Mod_crossing_138 : decode b_Mod_crossing 138 = .ok (.getfield 98, 3) := by decide +kernel
theorem d_Mod_crossing_141 : decode b_Mod_crossing 141 = .ok (.imul, 1) := by decide +kernel
theorem d_Mod_crossing_142 : decode b_Mod_crossing 142 = .ok (.iconst 3, 1) := by decide +kernel
theorem d_Mod_crossing_143 : decode b_Mod_crossing 143 = .ok (.iadd, 1) := by decide +kernel
theorem d_Mod_crossing_144 : decode b_Mod_crossing 144 = .ok (.iload 5, 2) := by decide +kernel
theorem d_Mod_crossing_146 : decode b_Mod_crossing 146 = .ok (.iastore, 1) := by decide +kernel
theorem d_Mod_crossing_147 : decode b_Mod_crossing 147 = .ok (.aload_n 0, 1) := by decide +kernel
theorem d_Mod_crossing_148 : decode b_Mod_crossing 148 = .ok (.dup, 1) := by decide +kernel
theorem d_Mod_crossing_149 : decode b_Mod_crossing 149 = .ok (.getfield 98, 3) := by decide +kernel
theorem d_Mod_crossing_152 : decode b_Mod_crossing 152 = .ok (.iconst 1, 1) := by decide +kernel
theorem d_Mod_crossing_153 : decode b_Mod_crossing 153 = .ok (.iadd, 1) := by decide +kernel
theorem d_Mod_crossing_154 : decode b_Mod_crossing 154 = .ok (.putfield 98, 3) := by decide +kernel
theorem d_Mod_crossing_157 : decode b_Mod_crossing 157 = .ok (.aload_n 0, 1) := by decide +kernel
theorem d_Mod_crossing_158 : decode b_Mod_crossing 158 = .ok (.getfield 98, 3) := by decide +kernel
theorem d_Mod_crossing_161 : decode b_Mod_crossing 161 = .ok (.ireturn, 1) := by decide +kernel
theorem d_Mod_take_0 : decode b_Mod_take 0 = .ok (.aload_n 0, 1) := by decide +kernel
theorem d_Mod_take_1 : decode b_Mod_take 1 = .ok (.aload_n 0, 1) := by decide +kernel
theorem d_Mod_take_2 : decode b_Mod_take 2 = .ok (.getfield 59, 3) := by decide +kernel
theorem d_Mod_take_5 : decode b_Mod_take 5 = .ok (.putfield 101, 3) := by decide +kernel
theorem d_Mod_take_8 : decode b_Mod_take 8 = .ok (.aload_n 0, 1) := by decide +kernel
theorem d_Mod_take_9 : decode b_Mod_take 9 = .ok (.aload_n 0, 1) := by decide +kernel
theorem d_Mod_take_10 : decode b_Mod_take 10 = .ok (.getfield 104, 3) := by decide +kernel
theorem d_Mod_take_13 : decode b_Mod_take 13 = .ok (.putfield 107, 3) := by decide +kernel
theorem d_Mod_take_16 : decode b_Mod_take 16 = .ok (.iconst 0, 1) := by decide +kernel
theorem d_Mod_take_17 : decode b_Mod_take 17 = .ok (.istore_n 1, 1) := by decide +kernel
theorem d_Mod_take_18 : decode b_Mod_take 18 = .ok (.iload_n 1, 1) := by decide +kernel
theorem d_Mod_take_19 : decode b_Mod_take 19 = .ok (.bipush 20, 2) := by decide +kernel
theorem d_Mod_take_21 : decode b_Mod_take 21 = .ok (.if_icmp .ge 21, 3) := by decide +kernel
theorem d_Mod_take_24 : decode b_Mod_take 24 = .ok (.aload_n 0, 1) := by decide +kernel
theorem d_Mod_take_25 : decode b_Mod_take 25 = .ok (.getfield 26, 3) := by decide +kernel
theorem d_Mod_take_28 : decode b_Mod_take 28 = .ok (.iload_n 1, 1) := by decide +kernel
theorem d_Mod_take_29 : decode b_Mod_take 29 = .ok (.aload_n 0, 1) := by decide +kernel
theorem d_Mod_take_30 : decode b_Mod_take 30 = .ok (.getfield 20, 3) := by decide +kernel
theorem d_Mod_take_33 : decode b_Mod_take 33 = .ok (.iload_n 1, 1) := by decide +kernel
theorem d_Mod_take_34 : decode b_Mod_take 34 = .ok (.iaload, 1) := by decide +kernel
theorem d_Mod_take_35 : decode b_Mod_take 35 = .ok (.iastore, 1) := by decide +kernel
theorem d_Mod_take_36 : decode b_Mod_take 36 = .ok (.iinc 1 1, 3) := by decide +kernel
theorem d_Mod_take_39 : decode b_Mod_take 39 = .ok (.goto (-21), 3) := by decide +kernel
theorem d_Mod_take_42 : decode b_Mod_take 42 = .ok (.iconst 0, 1) := by decide +kernel
theorem d_Mod_take_43 : decode b_Mod_take 43 = .ok (.istore_n 1, 1) := by decide +kernel
theorem d_Mod_take_44 : decode b_Mod_take 44 = .ok (.iload_n 1, 1) := by decide +kernel
theorem d_Mod_take_45 : decode b_Mod_take 45 = .ok (.bipush 80, 2) := by decide +kernel
theorem d_Mod_take_47 : decode b_Mod_take 47 = .ok (.if_icmp .ge 21, 3) := by decide +kernel
theorem d_Mod_take_50 : decode b_Mod_take 50 = .ok (.aload_n 0, 1) := by decide +kernel
theorem d_Mod_take_51 : decode b_Mod_take 51 = .ok (.getfield 29, 3) := by decide +kernel
theorem d_Mod_take_54 : decode b_Mod_take 54 = .ok (.iload_n 1, 1) := by decide +kernel
theorem d_Mod_take_55 : decode b_Mod_take 55 = .ok (.aload_n 0, 1) := by decide +kernel
theorem d_Mod_take_56 : decode b_Mod_take 56 = .ok (.getfield 23, 3) := by decide +kernel
theorem d_Mod_take_59 : decode b_Mod_take 59 = .ok (.iload_n 1, 1) := by decide +kernel
theorem d_Mod_take_60 : decode b_Mod_take 60 = .ok (.iaload, 1) := by decide +kernel
theorem d_Mod_take_61 : decode b_Mod_take 61 = .ok (.iastore, 1) := by decide +kernel
theorem d_Mod_take_62 : decode b_Mod_take 62 = .ok (.iinc 1 1, 3) := by decide +kernel
theorem d_Mod_take_65 : decode b_Mod_take 65 = .ok (.goto (-21), 3) := by decide +kernel
theorem d_Mod_take_68 : decode b_Mod_take 68 = .ok (.aload_n 0, 1) := by decide +kernel
theorem d_Mod_take_69 : decode b_Mod_take 69 = .ok (.aload_n 0, 1) := by decide +kernel
theorem d_Mod_take_70 : decode b_Mod_take 70 = .ok (.getfield 98, 3) := by decide +kernel
theorem d_Mod_take_73 : decode b_Mod_take 73 = .ok (.putfield 59, 3) := by decide +kernel
theorem d_Mod_take_76 : decode b_Mod_take 76 = .ok (.iconst 0, 1) := by decide +kernel
theorem d_Mod_take_77 : decode b_Mod_take 77 = .ok (.istore_n 1, 1) := by decide +kernel
theorem d_Mod_take_78 : decode b_Mod_take 78 = .ok (.iload_n 1, 1) := by decide +kernel
theorem d_Mod_take_79 : decode b_Mod_take 79 = .ok (.aload_n 0, 1) := by decide +kernel
theorem d_Mod_take_80 : decode b_Mod_take 80 = .ok (.getfield 59, 3) := by decide +kernel
theorem d_Mod_take_83 : decode b_Mod_take 83 = .ok (.if_icmp .ge 21, 3) := by decide +kernel
theorem d_Mod_take_86 : decode b_Mod_take 86 = .ok (.aload_n 0, 1) := by decide +kernel
theorem d_Mod_take_87 : decode b_Mod_take 87 = .ok (.getfield 20, 3) := by decide +kernel
theorem d_Mod_take_90 : decode b_Mod_take 90 = .ok (.iload_n 1, 1) := by decide +kernel
theorem d_Mod_take_91 : decode b_Mod_take 91 = .ok (.aload_n 0, 1) := by decide +kernel
theorem d_Mod_take_92 : decode b_Mod_take 92 = .ok (.getfield 13, 3) := by decide +kernel
theorem d_Mod_take_95 : decode b_Mod_take 95 = .ok (.iload_n 1, 1) := by decide +kernel
theorem d_Mod_take_96 : decode b_Mod_take 96 = .ok (.iaload, 1) := by decide +kernel
theorem d_Mod_take_97 : decode b_Mod_take 97 = .ok (.iastore, 1) := by decide +kernel
theorem d_Mod_take_98 : decode b_Mod_take 98 = .ok (.iinc 1 1, 3) := by decide +kernel
theorem d_Mod_take_101 : decode b_Mod_take 101 = .ok (.goto (-23), 3) := by decide +kernel
theorem d_Mod_take_104 : decode b_Mod_take 104 = .ok (.iconst 0, 1) := by decide +kernel
theorem d_Mod_take_105 : decode b_Mod_take 105 = .ok (.istore_n 1, 1) := by decide +kernel
theorem d_Mod_take_106 : decode b_Mod_take 106 = .ok (.iload_n 1, 1) := by decide +kernel
theorem d_Mod_take_107 : decode b_Mod_take 107 = .ok (.iconst 4, 1) := by decide +kernel
theorem d_Mod_take_108 : decode b_Mod_take 108 = .ok (.aload_n 0, 1) := by decide +kernel
theorem d_Mod_take_109 : decode b_Mod_take 109 = .ok (.getfield 59, 3) := by decide +kernel
theorem d_Mod_take_112 : decode b_Mod_take 112 = .ok (.imul, 1) := by decide +kernel
theorem d_Mod_take_113 : decode b_Mod_take 113 = .ok (.if_icmp .ge 21, 3) := by decide +kernel
theorem d_Mod_take_116 : decode b_Mod_take 116 = .ok (.aload_n 0, 1) := by decide +kernel
theorem d_Mod_take_117 : decode b_Mod_take 117 = .ok (.getfield 23, 3) := by decide +kernel
theorem d_Mod_take_120 : decode b_Mod_take 120 = .ok (.iload_n 1, 1) := by decide +kernel
theorem d_Mod_take_121 : decode b_Mod_take 121 = .ok (.aload_n 0, 1) := by decide +kernel
theorem d_Mod_take_122 : decode b_Mod_take 122 = .ok (.getfield 17, 3) := by decide +kernel
theorem d_Mod_take_125 : decode b_Mod_take 125 = .ok (.iload_n 1, 1) := by decide +kernel
theorem d_Mod_take_126 : decode b_Mod_take 126 = .ok (.iaload, 1) := by decide +kernel
theorem d_Mod_take_127 : decode b_Mod_take 127 = .ok (.iastore, 1) := by decide +kernel
theorem d_Mod_take_128 : decode b_Mod_take 128 = .ok (.iinc 1 1, 3) := by decide +kernel
theorem d_Mod_take_131 : decode b_Mod_take 131 = .ok (.goto (-25), 3) := by decide +kernel
theorem d_Mod_take_134 : decode b_Mod_take 134 = .ok (.aload_n 0, 1) := by decide +kernel
theorem d_Mod_take_135 : decode b_Mod_take 135 = .ok (.iconst 0, 1) := by decide +kernel
theorem d_Mod_take_136 : decode b_Mod_take 136 = .ok (.putfield 98, 3) := by decide +kernel
theorem d_Mod_take_139 : decode b_Mod_take 139 = .ok (.return_, 1) := by decide +kernel
