theorem d_Mod_back_0 : decode b_Mod_back 0 = .ok (.aload_n 0, 1) := by decide +kernel
theorem d_Mod_back_1 : decode b_Mod_back 1 = .ok (.aload_n 0, 1) := by decide +kernel
theorem d_Mod_back_2 : decode b_Mod_back 2 = .ok (.getfield 101, 3) := by decide +kernel
theorem d_Mod_back_5 : decode b_Mod_back 5 = .ok (.putfield 59, 3) := by decide +kernel
theorem d_Mod_back_8 : decode b_Mod_back 8 = .ok (.aload_n 0, 1) := by decide +kernel
theorem d_Mod_back_9 : decode b_Mod_back 9 = .ok (.aload_n 0, 1) := by decide +kernel
theorem d_Mod_back_10 : decode b_Mod_back 10 = .ok (.getfield 107, 3) := by decide +kernel
theorem d_Mod_back_13 : decode b_Mod_back 13 = .ok (.putfield 104, 3) := by decide +kernel
theorem d_Mod_back_16 : decode b_Mod_back 16 = .ok (.iconst 0, 1) := by decide +kernel
theorem d_Mod_back_17 : decode b_Mod_back 17 = .ok (.istore_n 1, 1) := by decide +kernel
theorem d_Mod_back_18 : decode b_Mod_back 18 = .ok (.iload_n 1, 1) := by decide +kernel
theorem d_Mod_back_19 : decode b_Mod_back 19 = .ok (.bipush 20, 2) := by decide +kernel
theorem d_Mod_back_21 : decode b_Mod_back 21 = .ok (.if_icmp .ge 21, 3) := by decide +kernel
theorem d_Mod_back_24 : decode b_Mod_back 24 = .ok (.aload_n 0, 1) := by decide +kernel
theorem d_Mod_back_25 : decode b_Mod_back 25 = .ok (.getfield 20, 3) := by decide +kernel
theorem d_Mod_back_28 : decode b_Mod_back 28 = .ok (.iload_n 1, 1) := by decide +kernel
theorem d_Mod_back_29 : decode b_Mod_back 29 = .ok (.aload_n 0, 1) := by decide +kernel
theorem d_Mod_back_30 : decode b_Mod_back 30 = .ok (.getfield 26, 3) := by decide +kernel
theorem d_Mod_back_33 : decode b_Mod_back 33 = .ok (.iload_n 1, 1) := by decide +kernel
theorem d_Mod_back_34 : decode b_Mod_back 34 = .ok (.iaload, 1) := by decide +kernel
theorem d_Mod_back_35 : decode b_Mod_back 35 = .ok (.iastore, 1) := by decide +kernel
theorem d_Mod_back_36 : decode b_Mod_back 36 = .ok (.iinc 1 1, 3) := by decide +kernel
theorem d_Mod_back_39 : decode b_Mod_back 39 = .ok (.goto (-21), 3) := by decide +kernel
theorem d_Mod_back_42 : decode b_Mod_back 42 = .ok (.iconst 0, 1) := by decide +kernel
theorem d_Mod_back_43 : decode b_Mod_back 43 = .ok (.istore_n 1, 1) := by decide +kernel
theorem d_Mod_back_44 : decode b_Mod_back 44 = .ok (.iload_n 1, 1) := by decide +kernel
theorem d_Mod_back_45 : decode b_Mod_back 45 = .ok (.bipush 80, 2) := by decide +kernel
theorem d_Mod_back_47 : decode b_Mod_back 47 = .ok (.if_icmp .ge 21, 3) := by decide +kernel
theorem d_Mod_back_50 : decode b_Mod_back 50 = .ok (.aload_n 0, 1) := by decide +kernel
theorem d_Mod_back_51 : decode b_Mod_back 51 = .ok (.getfield 23, 3) := by decide +kernel
theorem d_Mod_back_54 : decode b_Mod_back 54 = .ok (.iload_n 1, 1) := by decide +kernel
theorem d_Mod_back_55 : decode b_Mod_back 55 = .ok (.aload_n 0, 1) := by decide +kernel
theorem d_Mod_back_56 : decode b_Mod_back 56 = .ok (.getfield 29, 3) := by decide +kernel
theorem d_Mod_back_59 : decode b_Mod_back 59 = .ok (.iload_n 1, 1) := by decide +kernel
theorem d_Mod_back_60 : decode b_Mod_back 60 = .ok (.iaload, 1) := by decide +kernel
theorem d_Mod_back_61 : decode b_Mod_back 61 = .ok (.iastore, 1) := by decide +kernel
theorem d_Mod_back_62 : decode b_Mod_back 62 = .ok (.iinc 1 1, 3) := by decide +kernel
theorem d_Mod_back_65 : decode b_Mod_back 65 = .ok (.goto (-21), 3) := by decide +kernel
theorem d_Mod_back_68 : decode b_Mod_back 68 = .ok (.return_, 1) := by decide +kernel
theorem d_Mod_badLabel_0 : decode b_Mod_badLabel 0 = .ok (.aload_n 0, 1) := by decide +kernel
theorem d_Mod_badLabel_1 : decode b_Mod_badLabel 1 = .ok (.invokevirtual 80, 3) := by decide +kernel
theorem d_Mod_badLabel_4 : decode b_Mod_badLabel 4 = .ok (.iconst 0, 1) := by decide +kernel
theorem d_Mod_badLabel_5 : decode b_Mod_badLabel 5 = .ok (.istore_n 2, 1) := by decide +kernel
theorem d_Mod_badLabel_6 : decode b_Mod_badLabel 6 = .ok (.iload_n 2, 1) := by decide +kernel
theorem d_Mod_badLabel_7 : decode b_Mod_badLabel 7 = .ok (.aload_n 0, 1) := by decide +kernel
theorem d_Mod_badLabel_8 : decode b_Mod_badLabel 8 = .ok (.getfield 74, 3) := by decide +kernel
theorem d_Mod_badLabel_11 : decode b_Mod_badLabel 11 = .ok (.if_icmp .ge 119, 3) := by decide +kernel
theorem d_Mod_badLabel_14 : decode b_Mod_badLabel 14 = .ok (.iconst 0, 1) := by decide +kernel
theorem d_Mod_badLabel_15 : decode b_Mod_badLabel 15 = .ok (.istore_n 3, 1) := by decide +kernel
theorem d_Mod_badLabel_16 : decode b_Mod_badLabel 16 = .ok (.iconst 0, 1) := by decide +kernel
theorem d_Mod_badLabel_17 : decode b_Mod_badLabel 17 = .ok (.istore 4, 2) := by decide +kernel
theorem d_Mod_badLabel_19 : decode b_Mod_badLabel 19 = .ok (.iload 4, 2) := by decide +kernel
theorem d_Mod_badLabel_21 : decode b_Mod_badLabel 21 = .ok (.iconst 4, 1) := by decide +kernel
theorem d_Mod_badLabel_22 : decode b_Mod_badLabel 22 = .ok (.aload_n 0, 1) := by decide +kernel
theorem d_Mod_badLabel_23 : decode b_Mod_badLabel 23 = .ok (.getfield 59, 3) := by decide +kernel
theorem d_Mod_badLabel_26 : decode b_Mod_badLabel 26 = .ok (.imul, 1) := by decide +kernel
theorem d_Mod_badLabel_27 : decode b_Mod_badLabel 27 = .ok (.if_icmp .ge 33, 3) := by decide +kernel
theorem d_Mod_badLabel_30 : decode b_Mod_badLabel 30 = .ok (.iload_n 3, 1) := by decide +kernel
theorem d_Mod_badLabel_31 : decode b_Mod_badLabel 31 = .ok (.aload_n 0, 1) := by decide +kernel
theorem d_Mod_badLabel_32 : decode b_Mod_badLabel 32 = .ok (.getfield 23, 3) := by decide +kernel
theorem d_Mod_badLabel_35 : decode b_Mod_badLabel 35 = .ok (.iload 4, 2) := by decide +kernel
theorem d_Mod_badLabel_37 : decode b_Mod_badLabel 37 = .ok (.iaload, 1) := by decide +kernel
theorem d_Mod_badLabel_38 : decode b_Mod_badLabel 38 = .ok (.aload_n 0, 1) := by decide +kernel
theorem d_Mod_badLabel_39 : decode b_Mod_badLabel 39 = .ok (.getfield 32, 3) := by decide +kernel
theorem d_Mod_badLabel_42 : decode b_Mod_badLabel 42 = .ok (.iload_n 2, 1) := by decide +kernel
theorem d_Mod_badLabel_43 : decode b_Mod_badLabel 43 = .ok (.iaload, 1) := by decide +kernel
theorem d_Mod_badLabel_44 : decode b_Mod_badLabel 44 = .ok (.if_icmp .ne 7, 3) := by decide +kernel
theorem d_Mod_badLabel_47 : decode b_Mod_badLabel 47 = .ok (.iconst 1, 1) := by decide +kernel
theorem d_Mod_badLabel_48 : decode b_Mod_badLabel 48 = .ok (.goto 4, 3) := by decide +kernel
theorem d_Mod_badLabel_51 : decode b_Mod_badLabel 51 = .ok (.iconst 0, 1) := by decide +kernel
theorem d_Mod_badLabel_52 : decode b_Mod_badLabel 52 = .ok (.iadd, 1) := by decide +kernel
theorem d_Mod_badLabel_53 : decode b_Mod_badLabel 53 = .ok (.istore_n 3, 1) := by decide +kernel
theorem d_Mod_badLabel_54 : decode b_Mod_badLabel 54 = .ok (.iinc 4 1, 3) := by decide +kernel
theorem d_Mod_badLabel_57 : decode b_Mod_badLabel 57 = .ok (.goto (-38), 3) := by decide +kernel
theorem d_Mod_badLabel_60 : decode b_Mod_badLabel 60 = .ok (.iload_n 1, 1) := by decide +kernel
theorem d_Mod_badLabel_61 : decode b_Mod_badLabel 61 = .ok (.ifCond .eq 39, 3) := by decide +kernel
theorem d_Mod_badLabel_64 : decode b_Mod_badLabel 64 = .ok (.aload_n 0, 1) := by decide +kernel
theorem d_Mod_badLabel_65 : decode b_Mod_badLabel 65 = .ok (.aload_n 0, 1) := by decide +kernel
theorem d_Mod_badLabel_66 : decode b_Mod_badLabel 66 = .ok (.getfield 32, 3) := by decide +kernel
theorem d_Mod_badLabel_69 : decode b_Mod_badLabel 69 = .ok (.iload_n 2, 1) := by decide +kernel
theorem d_Mod_badLabel_70 : decode b_Mod_badLabel 70 = .ok (.iaload, 1) := by decide +kernel
theorem d_Mod_badLabel_71 : decode b_Mod_badLabel 71 = .ok (.iconst 1, 1) := by decide +kernel
theorem d_Mod_badLabel_72 : decode b_Mod_badLabel 72 = .ok (.invokevirtual 66, 3) := by decide +kernel
theorem d_Mod_badLabel_75 : decode b_Mod_badLabel 75 = .ok (.ifCond .lt 21, 3) := by decide +kernel
theorem d_Mod_badLabel_78 : decode b_Mod_badLabel 78 = .ok (.aload_n 0, 1) := by decide +kernel
theorem d_Mod_badLabel_79 : decode b_Mod_badLabel 79 = .ok (.aload_n 0, 1) := by decide +kernel
theorem d_Mod_badLabel_80 : decode b_Mod_badLabel 80 = .ok (.getfield 32, 3) := by decide +kernel
theorem d_Mod_badLabel_83 : decode b_Mod_badLabel 83 = .ok (.iload_n 2, 1) := by decide +kernel
theorem d_Mod_badLabel_84 : decode b_Mod_badLabel 84 = .ok (.iaload, 1) := by decide +kernel
theorem d_Mod_badLabel_85 : decode b_Mod_badLabel 85 = .ok (.iconst 0, 1) := by decide +kernel
theorem d_Mod_badLabel_86 : decode b_Mod_badLabel 86 = .ok (.invokevirtual 66, 3) := by decide +kernel
theorem d_Mod_badLabel_89 : decode b_Mod_badLabel 89 = .ok (.ifCond .lt 7, 3) := by decide +kernel
theorem d_Mod_badLabel_92 : decode b_Mod_badLabel 92 = .ok (.iconst 1, 1) := by decide +kernel
theorem d_Mod_badLabel_93 : decode b_Mod_badLabel 93 = .ok (.goto 17, 3) := by decide +kernel
theorem d_Mod_badLabel_96 : decode b_Mod_badLabel 96 = .ok (.iconst 0, 1) := by decide +kernel
theorem d_Mod_badLabel_97 : decode b_Mod_badLabel 97 = .ok (.goto 13, 3) := by decide +kernel
theorem d_Mod_badLabel_100 : decode b_Mod_badLabel 100 = .ok (.iload_n 3, 1) := by decide +kernel
theorem d_Mod_badLabel_101 : decode b_Mod_badLabel 101 = .ok (.iconst 2, 1) := by decide +kernel
theorem d_Mod_badLabel_102 : decode b_Mod_badLabel 102 = .ok (.if_icmp .ne 7, 3) := by decide +kernel
theorem d_Mod_badLabel_105 : decode b_Mod_badLabel 105 = .ok (.iconst 1, 1) := by decide +kernel
theorem d_Mod_badLabel_106 : decode b_Mod_badLabel 106 = .ok (.goto 4, 3) := by decide +kernel
theorem d_Mod_badLabel_109 : decode b_Mod_badLabel 109 = .ok (.iconst 0, 1) := by decide +kernel
theorem d_Mod_badLabel_110 : decode b_Mod_badLabel 110 = .ok (.istore 4, 2) := by decide +kernel
theorem d_Mod_badLabel_112 : decode b_Mod_badLabel 112 = .ok (.iload 4, 2) := by decide +kernel
theorem d_Mod_badLabel_114 : decode b_Mod_badLabel 114 = .ok (.ifCond .ne 10, 3) := by decide +kernel
theorem d_Mod_badLabel_117 : decode b_Mod_badLabel 117 = .ok (.aload_n 0, 1) := by decide +kernel
theorem d_Mod_badLabel_118 : decode b_Mod_badLabel 118 = .ok (.getfield 32, 3) := by decide +kernel
theorem d_Mod_badLabel_121 : decode b_Mod_badLabel 121 = .ok (.iload_n 2, 1) := by decide +kernel
theorem d_Mod_badLabel_122 : decode b_Mod_badLabel 122 = .ok (.iaload, 1) := by decide +kernel
theorem d_Mod_badLabel_123 : decode b_Mod_badLabel 123 = .ok (.ireturn, 1) := by decide +kernel
theorem d_Mod_badLabel_124 : decode b_Mod_badLabel 124 = .ok (.iinc 2 1, 3) := by decide +kernel
theorem d_Mod_badLabel_127 : decode b_Mod_badLabel 127 = .ok (.goto (-121), 3) := by decide +kernel
theorem d_Mod_badLabel_130 : decode b_Mod_badLabel 130 = .ok (.iconst (-1), 1) := by decide +kernel
theorem d_Mod_badLabel_131 : decode b_Mod_badLabel 131 = .ok (.ireturn, 1) := by decide +kernel
theorem d_Mod_badPiece_0 : decode b_Mod_badPiece 0 = .ok (.aload_n 0, 1) := by decide +kernel
theorem d_Mod_badPiece_1 : decode b_Mod_badPiece 1 = .ok (.invokevirtual 86, 3) := by decide +kernel
theorem d_Mod_badPiece_4 : decode b_Mod_badPiece 4 = .ok (.aload_n 0, 1) := by decide +kernel
theorem d_Mod_badPiece_5 : decode b_Mod_badPiece 5 = .ok (.invokevirtual 110, 3) := by decide +kernel
theorem d_Mod_badPiece_8 : decode b_Mod_badPiece 8 = .ok (.iconst (-1), 1) := by decide +kernel
theorem d_Mod_badPiece_9 : decode b_Mod_badPiece 9 = .ok (.istore_n 1, 1) := by decide +kernel
theorem d_Mod_badPiece_10 : decode b_Mod_badPiece 10 = .ok (.aload_n 0, 1) := by decide +kernel
theorem d_Mod_badPiece_11 : decode b_Mod_badPiece 11 = .ok (.getfield 59, 3) := by decide +kernel
theorem d_Mod_badPiece_14 : decode b_Mod_badPiece 14 = .ok (.iconst 1, 1) := by decide +kernel
theorem d_Mod_badPiece_15 : decode b_Mod_badPiece 15 = .ok (.isub, 1) := by decide +kernel
theorem d_Mod_badPiece_16 : decode b_Mod_badPiece 16 = .ok (.istore_n 2, 1) := by decide +kernel
theorem d_Mod_badPiece_17 : decode b_Mod_badPiece 17 = .ok (.iload_n 2, 1) := by decide +kernel
theorem d_Mod_badPiece_18 : decode b_Mod_badPiece 18 = .ok (.ifCond .lt 75, 3) := by decide +kernel
theorem d_Mod_badPiece_21 : decode b_Mod_badPiece 21 = .ok (.iconst 0, 1) := by decide +kernel
theorem d_Mod_badPiece_22 : decode b_Mod_badPiece 22 = .ok (.istore_n 3, 1) := by decide +kernel
theorem d_Mod_badPiece_23 : decode b_Mod_badPiece 23 = .ok (.iconst 0, 1) := by decide +kernel
theorem d_Mod_badPiece_24 : decode b_Mod_badPiece 24 = .ok (.istore 4, 2) := by decide +kernel
theorem d_Mod_badPiece_26 : decode b_Mod_badPiece 26 = .ok (.iload 4, 2) := by decide +kernel
theorem d_Mod_badPiece_28 : decode b_Mod_badPiece 28 = .ok (.aload_n 0, 1) := by decide +kernel
theorem d_Mod_badPiece_29 : decode b_Mod_badPiece 29 = .ok (.getfield 59, 3) := by decide +kernel
theorem d_Mod_badPiece_32 : decode b_Mod_badPiece 32 = .ok (.if_icmp .ge 28, 3) := by decide +kernel
theorem d_Mod_badPiece_35 : decode b_Mod_badPiece 35 = .ok (.iload_n 3, 1) := by decide +kernel
theorem d_Mod_badPiece_36 : decode b_Mod_badPiece 36 = .ok (.aload_n 0, 1) := by decide +kernel
theorem d_Mod_badPiece_37 : decode b_Mod_badPiece 37 = .ok (.getfield 38, 3) := by decide +kernel
theorem d_Mod_badPiece_40 : decode b_Mod_badPiece 40 = .ok (.iload 4, 2) := by decide +kernel
theorem d_Mod_badPiece_42 : decode b_Mod_badPiece 42 = .ok (.iaload, 1) := by decide +kernel
theorem d_Mod_badPiece_43 : decode b_Mod_badPiece 43 = .ok (.iload_n 2, 1) := by decide +kernel
theorem d_Mod_badPiece_44 : decode b_Mod_badPiece 44 = .ok (.if_icmp .ne 7, 3) := by decide +kernel
theorem d_Mod_badPiece_47 : decode b_Mod_badPiece 47 = .ok (.iconst 1, 1) := by decide +kernel
theorem d_Mod_badPiece_48 : decode b_Mod_badPiece 48 = .ok (.goto 4, 3) := by decide +kernel
theorem d_Mod_badPiece_51 : decode b_Mod_badPiece 51 = .ok (.iconst 0, 1) := by decide +kernel
theorem d_Mod_badPiece_52 : decode b_Mod_badPiece 52 = .ok (.iadd, 1) := by decide +kernel
theorem d_Mod_badPiece_53 : decode b_Mod_badPiece 53 = .ok (.istore_n 3, 1) := by decide +kernel
theorem d_Mod_badPiece_54 : decode b_Mod_badPiece 54 = .ok (.iinc 4 1, 3) := by decide +kernel
theorem d_Mod_badPiece_57 : decode b_Mod_badPiece 57 = .ok (.goto (-31), 3) := by decide +kernel
theorem d_Mod_badPiece_60 : decode b_Mod_badPiece 60 = .ok (.aload_n 0, 1) := by decide +kernel
theorem d_Mod_badPiece_61 : decode b_Mod_badPiece 61 = .ok (.getfield 38, 3) := by decide +kernel
theorem d_Mod_badPiece_64 : decode b_Mod_badPiece 64 = .ok (.iload_n 2, 1) := by decide +kernel
theorem d_Mod_badPiece_65 : decode b_Mod_badPiece 65 = .ok (.iaload, 1) := by decide +kernel
theorem d_Mod_badPiece_66 : decode b_Mod_badPiece 66 = .ok (.iload_n 2, 1) := by decide +kernel
theorem d_Mod_badPiece_67 : decode b_Mod_badPiece 67 = .ok (.if_icmp .ne 18, 3) := by decide +kernel
theorem d_Mod_badPiece_70 : decode b_Mod_badPiece 70 = .ok (.aload_n 0, 1) := by decide +kernel
theorem d_Mod_badPiece_71 : decode b_Mod_badPiece 71 = .ok (.iload_n 2, 1) := by decide +kernel
theorem d_Mod_badPiece_72 : decode b_Mod_badPiece 72 = .ok (.invokevirtual 113, 3) := by decide +kernel
theorem d_Mod_badPiece_75 : decode b_Mod_badPiece 75 = .ok (.iload_n 3, 1) := by decide +kernel
theorem d_Mod_badPiece_76 : decode b_Mod_badPiece 76 = .ok (.iconst 2, 1) := by decide +kernel
theorem d_Mod_badPiece_77 : decode b_Mod_badPiece 77 = .ok (.iadd, 1) := by decide +kernel
theorem d_Mod_badPiece_78 : decode b_Mod_badPiece 78 = .ok (.if_icmp .eq 7, 3) := by decide +kernel
theorem d_Mod_badPiece_81 : decode b_Mod_badPiece 81 = .ok (.iload_n 2, 1) := by decide +kernel
theorem d_Mod_badPiece_82 : decode b_Mod_badPiece 82 = .ok (.goto 4, 3) := by decide +kernel
theorem d_Mod_badPiece_85 : decode b_Mod_badPiece 85 = .ok (.iload_n 1, 1) := by decide +kernel
theorem d_Mod_badPiece_86 : decode b_Mod_badPiece 86 = .ok (.istore_n 1, 1) := by decide +kernel
theorem d_Mod_badPiece_87 : decode b_Mod_badPiece 87 = .ok (.iinc 2 (-1), 3) := by decide +kernel
theorem d_Mod_badPiece_90 : decode b_Mod_badPiece 90 = .ok (.goto (-73), 3) := by decide +kernel
theorem d_Mod_badPiece_93 : decode b_Mod_badPiece 93 = .ok (.iload_n 1, 1) := by decide +kernel
theorem d_Mod_badPiece_94 : decode b_Mod_badPiece 94 = .ok (.ireturn, 1) := by decide +kernel
theorem d_Mod_fault_0 : decode b_Mod_fault 0 = .ok (.aload_n 0, 1) := by decide +kernel
theorem d_Mod_fault_1 : decode b_Mod_fault 1 = .ok (.aload_n 0, 1) := by decide +kernel
theorem d_Mod_fault_2 : decode b_Mod_fault 2 = .ok (.iconst 0, 1) := by decide +kernel
theorem d_Mod_fault_3 : decode b_Mod_fault 3 = .ok (.invokevirtual 116, 3) := by decide +kernel
theorem d_Mod_fault_6 : decode b_Mod_fault 6 = .ok (.putfield 7, 3) := by decide +kernel
theorem d_Mod_fault_9 : decode b_Mod_fault 9 = .ok (.aload_n 0, 1) := by decide +kernel
theorem d_Mod_fault_10 : decode b_Mod_fault 10 = .ok (.getfield 7, 3) := by decide +kernel
theorem d_Mod_fault_13 : decode b_Mod_fault 13 = .ok (.ifCond .lt 5, 3) := by decide +kernel
theorem d_Mod_fault_16 : decode b_Mod_fault 16 = .ok (.iconst 1, 1) := by decide +kernel
theorem d_Mod_fault_17 : decode b_Mod_fault 17 = .ok (.ireturn, 1) := by decide +kernel
theorem d_Mod_fault_18 : decode b_Mod_fault 18 = .ok (.aload_n 0, 1) := by decide +kernel
theorem d_Mod_fault_19 : decode b_Mod_fault 19 = .ok (.aload_n 0, 1) := by decide +kernel
theorem d_Mod_fault_20 : decode b_Mod_fault 20 = .ok (.iconst 1, 1) := by decide +kernel
theorem d_Mod_fault_21 : decode b_Mod_fault 21 = .ok (.invokevirtual 116, 3) := by decide +kernel
theorem d_Mod_fault_24 : decode b_Mod_fault 24 = .ok (.putfield 7, 3) := by decide +kernel
theorem d_Mod_fault_27 : decode b_Mod_fault 27 = .ok (.aload_n 0, 1) := by decide +kernel
theorem d_Mod_fault_28 : decode b_Mod_fault 28 = .ok (.getfield 7, 3) := by decide +kernel
theorem d_Mod_fault_31 : decode b_Mod_fault 31 = .ok (.ifCond .lt 5, 3) := by decide +kernel
theorem d_Mod_fault_34 : decode b_Mod_fault 34 = .ok (.iconst 2, 1) := by decide +kernel
theorem d_Mod_fault_35 : decode b_Mod_fault 35 = .ok (.ireturn, 1) := by decide +kernel
theorem d_Mod_fault_36 : decode b_Mod_fault 36 = .ok (.aload_n 0, 1) := by decide +kernel
theorem d_Mod_fault_37 : decode b_Mod_fault 37 = .ok (.aload_n 0, 1) := by decide +kernel
theorem d_Mod_fault_38 : decode b_Mod_fault 38 = .ok (.invokevirtual 120, 3) := by decide +kernel
theorem d_Mod_fault_41 : decode b_Mod_fault 41 = .ok (.putfield 7, 3) := by decide +kernel
theorem d_Mod_fault_44 : decode b_Mod_fault 44 = .ok (.aload_n 0, 1) := by decide +kernel
theorem d_Mod_fault_45 : decode b_Mod_fault 45 = .ok (.getfield 7, 3) := by decide +kernel
theorem d_Mod_fault_48 : decode b_Mod_fault 48 = .ok (.ifCond .lt 7, 3) := by decide +kernel
theorem d_Mod_fault_51 : decode b_Mod_fault 51 = .ok (.iconst 3, 1) := by decide +kernel
theorem d_Mod_fault_52 : decode b_Mod_fault 52 = .ok (.goto 4, 3) := by decide +kernel
theorem d_Mod_fault_55 : decode b_Mod_fault 55 = .ok (.iconst 0, 1) := by decide +kernel
theorem d_Mod_fault_56 : decode b_Mod_fault 56 = .ok (.ireturn, 1) := by decide +kernel
theorem d_Mod_check_0 : decode b_Mod_check 0 = .ok (.iload_n 1, 1) := by decide +kernel
theorem d_Mod_check_1 : decode b_Mod_check 1 = .ok (.ifCond .lt 9, 3) := by decide +kernel
theorem d_Mod_check_4 : decode b_Mod_check 4 = .ok (.iload_n 1, 1) := by decide +kernel
theorem d_Mod_check_5 : decode b_Mod_check 5 = .ok (.bipush 20, 2) := by decide +kernel
theorem d_Mod_check_7 : decode b_Mod_check 7 = .ok (.if_icmp .le 5, 3) := by decide +kernel
theorem d_Mod_check_10 : decode b_Mod_check 10 = .ok (.iconst (-1), 1) := by decide +kernel
theorem d_Mod_check_11 : decode b_Mod_check 11 = .ok (.ireturn, 1) := by decide +kernel
theorem d_Mod_check_12 : decode b_Mod_check 12 = .ok (.aload_n 0, 1) := by decide +kernel
theorem d_Mod_check_13 : decode b_Mod_check 13 = .ok (.invokevirtual 124, 3) := by decide +kernel
theorem d_Mod_check_16 : decode b_Mod_check 16 = .ok (.aload_n 0, 1) := by decide +kernel
theorem d_Mod_check_17 : decode b_Mod_check 17 = .ok (.iload_n 1, 1) := by decide +kernel
theorem d_Mod_check_18 : decode b_Mod_check 18 = .ok (.putfield 104, 3) := by decide +kernel
theorem d_Mod_check_21 : decode b_Mod_check 21 = .ok (.aload_n 0, 1) := by decide +kernel
theorem d_Mod_check_22 : decode b_Mod_check 22 = .ok (.invokevirtual 127, 3) := by decide +kernel
theorem d_Mod_check_25 : decode b_Mod_check 25 = .ok (.istore_n 2, 1) := by decide +kernel
theorem d_Mod_check_26 : decode b_Mod_check 26 = .ok (.iload_n 2, 1) := by decide +kernel
theorem d_Mod_check_27 : decode b_Mod_check 27 = .ok (.ifCond .le 7, 3) := by decide +kernel
theorem d_Mod_check_30 : decode b_Mod_check 30 = .ok (.aload_n 0, 1) := by decide +kernel
theorem d_Mod_check_31 : decode b_Mod_check 31 = .ok (.invokevirtual 130, 3) := by decide +kernel
theorem d_Mod_check_34 : decode b_Mod_check 34 = .ok (.iload_n 2, 1) := by decide +kernel
theorem d_Mod_check_35 : decode b_Mod_check 35 = .ok (.ireturn, 1) := by decide +kernel
theorem d_Mod_signs_0 : decode b_Mod_signs 0 = .ok (.iconst 0, 1) := by decide +kernel
theorem d_Mod_signs_1 : decode b_Mod_signs 1 = .ok (.istore_n 1, 1) := by decide +kernel
theorem d_Mod_signs_2 : decode b_Mod_signs 2 = .ok (.iconst 0, 1) := by decide +kernel
theorem d_Mod_signs_3 : decode b_Mod_signs 3 = .ok (.istore_n 2, 1) := by decide +kernel
theorem d_Mod_signs_4 : decode b_Mod_signs 4 = .ok (.iload_n 2, 1) := by decide +kernel
theorem d_Mod_signs_5 : decode b_Mod_signs 5 = .ok (.aload_n 0, 1) := by decide +kernel
theorem d_Mod_signs_6 : decode b_Mod_signs 6 = .ok (.getfield 59, 3) := by decide +kernel
theorem d_Mod_signs_9 : decode b_Mod_signs 9 = .ok (.if_icmp .ge 18, 3) := by decide +kernel
theorem d_Mod_signs_12 : decode b_Mod_signs 12 = .ok (.iload_n 1, 1) := by decide +kernel
theorem d_Mod_signs_13 : decode b_Mod_signs 13 = .ok (.aload_n 0, 1) := by decide +kernel
theorem d_Mod_signs_14 : decode b_Mod_signs 14 = .ok (.getfield 20, 3) := by decide +kernel
theorem d_Mod_signs_17 : decode b_Mod_signs 17 = .ok (.iload_n 2, 1) := by decide +kernel
theorem d_Mod_signs_18 : decode b_Mod_signs 18 = .ok (.iaload, 1) := by decide +kernel
theorem d_Mod_signs_19 : decode b_Mod_signs 19 = .ok (.iadd, 1) := by decide +kernel
theorem d_Mod_signs_20 : decode b_Mod_signs 20 = .ok (.istore_n 1, 1) := by decide +kernel
theorem d_Mod_signs_21 : decode b_Mod_signs 21 = .ok (.iinc 2 1, 3) := by decide +kernel
theorem d_Mod_signs_24 : decode b_Mod_signs 24 = .ok (.goto (-20), 3) := by decide +kernel
theorem d_Mod_signs_27 : decode b_Mod_signs 27 = .ok (.iload_n 1, 1) := by decide +kernel
theorem d_Mod_signs_28 : decode b_Mod_signs 28 = .ok (.ireturn, 1) := by decide +kernel
theorem d_Mod_allFaces_0 : decode b_Mod_allFaces 0 = .ok (.aload_n 0, 1) := by decide +kernel
theorem d_Mod_allFaces_1 : decode b_Mod_allFaces 1 = .ok (.invokevirtual 110, 3) := by decide +kernel
theorem d_Mod_allFaces_4 : decode b_Mod_allFaces 4 = .ok (.aload_n 0, 1) := by decide +kernel
theorem d_Mod_allFaces_5 : decode b_Mod_allFaces 5 = .ok (.getfield 89, 3) := by decide +kernel
theorem d_Mod_allFaces_8 : decode b_Mod_allFaces 8 = .ok (.ireturn, 1) := by decide +kernel
theorem d_Mod_allComponents_0 : decode b_Mod_allComponents 0 = .ok (.aload_n 0, 1) := by decide +kernel
theorem d_Mod_allComponents_1 : decode b_Mod_allComponents 1 = .ok (.invokevirtual 133, 3) := by decide +kernel
theorem d_Mod_allComponents_4 : decode b_Mod_allComponents 4 = .ok (.aload_n 0, 1) := by decide +kernel
theorem d_Mod_allComponents_5 : decode b_Mod_allComponents 5 = .ok (.getfield 77, 3) := by decide +kernel
theorem d_Mod_allComponents_8 : decode b_Mod_allComponents 8 = .ok (.aload_n 0, 1) := by decide +kernel
theorem d_Mod_allComponents_9 : decode b_Mod_allComponents 9 = .ok (.getfield 104, 3) := by decide +kernel
theorem d_Mod_allComponents_12 : decode b_Mod_allComponents 12 = .ok (.iadd, 1) := by decide +kernel
theorem d_Mod_allComponents_13 : decode b_Mod_allComponents 13 = .ok (.ireturn, 1) := by decide +kernel
theorem d_Mod_findFree_0 : decode b_Mod_findFree 0 = .ok (.aload_n 0, 1) := by decide +kernel
theorem d_Mod_findFree_1 : decode b_Mod_findFree 1 = .ok (.invokevirtual 80, 3) := by decide +kernel
theorem d_Mod_findFree_4 : decode b_Mod_findFree 4 = .ok (.iconst 0, 1) := by decide +kernel
theorem d_Mod_findFree_5 : decode b_Mod_findFree 5 = .ok (.istore_n 1, 1) := by decide +kernel
theorem d_Mod_findFree_6 : decode b_Mod_findFree 6 = .ok (.iconst 1, 1) := by decide +kernel
theorem d_Mod_findFree_7 : decode b_Mod_findFree 7 = .ok (.istore_n 2, 1) := by decide +kernel
theorem d_Mod_findFree_8 : decode b_Mod_findFree 8 = .ok (.iload_n 1, 1) := by decide +kernel
theorem d_Mod_findFree_9 : decode b_Mod_findFree 9 = .ok (.iconst 4, 1) := by decide +kernel
theorem d_Mod_findFree_10 : decode b_Mod_findFree 10 = .ok (.if_icmp .ge 64, 3) := by decide +kernel
theorem d_Mod_findFree_13 : decode b_Mod_findFree 13 = .ok (.iconst 0, 1) := by decide +kernel
theorem d_Mod_findFree_14 : decode b_Mod_findFree 14 = .ok (.istore_n 3, 1) := by decide +kernel
theorem d_Mod_findFree_15 : decode b_Mod_findFree 15 = .ok (.iconst 0, 1) := by decide +kernel
theorem d_Mod_findFree_16 : decode b_Mod_findFree 16 = .ok (.istore 4, 2) := by decide +kernel
theorem d_Mod_findFree_18 : decode b_Mod_findFree 18 = .ok (.iload 4, 2) := by decide +kernel
theorem d_Mod_findFree_20 : decode b_Mod_findFree 20 = .ok (.aload_n 0, 1) := by decide +kernel
theorem d_Mod_findFree_21 : decode b_Mod_findFree 21 = .ok (.getfield 74, 3) := by decide +kernel
theorem d_Mod_findFree_24 : decode b_Mod_findFree 24 = .ok (.if_icmp .ge 30, 3) := by decide +kernel
theorem d_Mod_findFree_27 : decode b_Mod_findFree 27 = .ok (.iload_n 3, 1) := by decide +kernel
theorem d_Mod_findFree_28 : decode b_Mod_findFree 28 = .ok (.ifCond .ne 14, 3) := by decide +kernel
theorem d_Mod_findFree_31 : decode b_Mod_findFree 31 = .ok (.aload_n 0, 1) := by decide +kernel
theorem d_Mod_findFree_32 : decode b_Mod_findFree 32 = .ok (.getfield 32, 3) := by decide +kernel
theorem d_Mod_findFree_35 : decode b_Mod_findFree 35 = .ok (.iload 4, 2) := by decide +kernel
theorem d_Mod_findFree_37 : decode b_Mod_findFree 37 = .ok (.iaload, 1) := by decide +kernel
theorem d_Mod_findFree_38 : decode b_Mod_findFree 38 = .ok (.iload_n 2, 1) := by decide +kernel
theorem d_Mod_findFree_39 : decode b_Mod_findFree 39 = .ok (.if_icmp .ne 7, 3) := by decide +kernel
theorem d_Mod_findFree_42 : decode b_Mod_findFree 42 = .ok (.iconst 1, 1) := by decide +kernel
theorem d_Mod_findFree_43 : decode b_Mod_findFree 43 = .ok (.goto 4, 3) := by decide +kernel
theorem d_Mod_findFree_46 : decode b_Mod_findFree 46 = .ok (.iconst 0, 1) := by decide +kernel
theorem d_Mod_findFree_47 : decode b_Mod_findFree 47 = .ok (.istore_n 3, 1) := by decide +kernel
theorem d_Mod_findFree_48 : decode b_Mod_findFree 48 = .ok (.iinc 4 1, 3) := by decide +kernel
theorem d_Mod_findFree_51 : decode b_Mod_findFree 51 = .ok (.goto (-33), 3) := by decide +kernel
theorem d_Mod_findFree_54 : decode b_Mod_findFree 54 = .ok (.iload_n 3, 1) := by decide +kernel
theorem d_Mod_findFree_55 : decode b_Mod_findFree 55 = .ok (.ifCond .ne 13, 3) := by decide +kernel
theorem d_Mod_findFree_58 : decode b_Mod_findFree 58 = .ok (.aload_n 0, 1) := by decide +kernel
theorem d_Mod_findFree_59 : decode b_Mod_findFree 59 = .ok (.getfield 50, 3) := by decide +kernel
theorem d_Mod_findFree_62 : decode b_Mod_findFree 62 = .ok (.iload_n 1, 1) := by decide +kernel
theorem d_Mod_findFree_63 : decode b_Mod_findFree 63 = .ok (.iload_n 2, 1) := by decide +kernel
theorem d_Mod_findFree_64 : decode b_Mod_findFree 64 = .ok (.iastore, 1) := by decide +kernel
theorem d_Mod_findFree_65 : decode b_Mod_findFree 65 = .ok (.iinc 1 1, 3) := by decide +kernel
theorem d_Mod_findFree_68 : decode b_Mod_findFree 68 = .ok (.iinc 2 1, 3) := by decide +kernel
theorem d_Mod_findFree_71 : decode b_Mod_findFree 71 = .ok (.goto (-63), 3) := by decide +kernel
theorem d_Mod_findFree_74 : decode b_Mod_findFree 74 = .ok (.return_, 1) := by decide +kernel
theorem d_Mod_leastFree_0 : decode b_Mod_leastFree 0 = .ok (.aload_n 0, 1) := by decide +kernel
theorem d_Mod_leastFree_1 : decode b_Mod_leastFree 1 = .ok (.invokevirtual 136, 3) := by decide +kernel
theorem d_Mod_leastFree_4 : decode b_Mod_leastFree 4 = .ok (.aload_n 0, 1) := by decide +kernel
theorem d_Mod_leastFree_5 : decode b_Mod_leastFree 5 = .ok (.getfield 50, 3) := by decide +kernel
theorem d_Mod_leastFree_8 : decode b_Mod_leastFree 8 = .ok (.iconst 0, 1) := by decide +kernel
theorem d_Mod_leastFree_9 : decode b_Mod_leastFree 9 = .ok (.iaload, 1) := by decide +kernel
theorem d_Mod_leastFree_10 : decode b_Mod_leastFree 10 = .ok (.ireturn, 1) := by decide +kernel
theorem d_Mod_many_0 : decode b_Mod_many 0 = .ok (.iload_n 1, 1) := by decide +kernel
theorem d_Mod_many_1 : decode b_Mod_many 1 = .ok (.tableswitch 92 0 7 #[47, 52, 57, 62, 67, 72, 82, 87], 47) := by decide +kernel
theorem d_Mod_many_48 : decode b_Mod_many 48 = .ok (.aload_n 0, 1) := by decide +kernel
theorem d_Mod_many_49 : decode b_Mod_many 49 = .ok (.getfield 59, 3) := by decide +kernel
theorem d_Mod_many_52 : decode b_Mod_many 52 = .ok (.ireturn, 1) := by decide +kernel
theorem d_Mod_many_53 : decode b_Mod_many 53 = .ok (.aload_n 0, 1) := by decide +kernel
theorem d_Mod_many_54 : decode b_Mod_many 54 = .ok (.getfield 104, 3) := by decide +kernel
theorem d_Mod_many_57 : decode b_Mod_many 57 = .ok (.ireturn, 1) := by decide +kernel
theorem d_Mod_many_58 : decode b_Mod_many 58 = .ok (.aload_n 0, 1) := by decide +kernel
theorem d_Mod_many_59 : decode b_Mod_many 59 = .ok (.invokevirtual 139, 3) := by decide +kernel
theorem d_Mod_many_62 : decode b_Mod_many 62 = .ok (.ireturn, 1) := by decide +kernel
theorem d_Mod_many_63 : decode b_Mod_many 63 = .ok (.aload_n 0, 1) := by decide +kernel
theorem d_Mod_many_64 : decode b_Mod_many 64 = .ok (.invokevirtual 142, 3) := by decide +kernel
theorem d_Mod_many_67 : decode b_Mod_many 67 = .ok (.ireturn, 1) := by decide +kernel
theorem d_Mod_many_68 : decode b_Mod_many 68 = .ok (.aload_n 0, 1) := by decide +kernel
theorem d_Mod_many_69 : decode b_Mod_many 69 = .ok (.invokevirtual 145, 3) := by decide +kernel
theorem d_Mod_many_72 : decode b_Mod_many 72 = .ok (.ireturn, 1) := by decide +kernel
theorem d_Mod_many_73 : decode b_Mod_many 73 = .ok (.aload_n 0, 1) := by decide +kernel
theorem d_Mod_many_74 : decode b_Mod_many 74 = .ok (.invokevirtual 148, 3) := by decide +kernel
theorem d_Mod_many_77 : decode b_Mod_many 77 = .ok (.aload_n 0, 1) := by decide +kernel
theorem d_Mod_many_78 : decode b_Mod_many 78 = .ok (.getfield 104, 3) := by decide +kernel
theorem d_Mod_many_81 : decode b_Mod_many 81 = .ok (.iadd, 1) := by decide +kernel
theorem d_Mod_many_82 : decode b_Mod_many 82 = .ok (.ireturn, 1) := by decide +kernel
theorem d_Mod_many_83 : decode b_Mod_many 83 = .ok (.aload_n 0, 1) := by decide +kernel
theorem d_Mod_many_84 : decode b_Mod_many 84 = .ok (.getfield 98, 3) := by decide +kernel
theorem d_Mod_many_87 : decode b_Mod_many 87 = .ok (.ireturn, 1) := by decide +kernel
theorem d_Mod_many_88 : decode b_Mod_many 88 = .ok (.aload_n 0, 1) := by decide +kernel
theorem d_Mod_many_89 : decode b_Mod_many 89 = .ok (.invokevirtual 151, 3) := by decide +kernel
theorem d_Mod_many_92 : decode b_Mod_many 92 = .ok (.ireturn, 1) := by decide +kernel
theorem d_Mod_many_93 : decode b_Mod_many 93 = .ok (.sipush (-1000), 3) := by decide +kernel
theorem d_Mod_many_96 : decode b_Mod_many 96 = .ok (.ireturn, 1) := by decide +kernel
theorem d_Mod_look_0 : decode b_Mod_look 0 = .ok (.iload_n 1, 1) := by decide +kernel
theorem d_Mod_look_1 : decode b_Mod_look 1 = .ok (.ifCond .lt 20, 3) := by decide +kernel
theorem d_Mod_look_4 : decode b_Mod_look 4 = .ok (.iload_n 1, 1) := by decide +kernel
theorem d_Mod_look_5 : decode b_Mod_look 5 = .ok (.aload_n 0, 1) := by decide +kernel
theorem d_Mod_look_6 : decode b_Mod_look 6 = .ok (.getfield 59, 3) := by decide +kernel
theorem d_Mod_look_9 : decode b_Mod_look 9 = .ok (.if_icmp .ge 12, 3) := by decide +kernel
theorem d_Mod_look_12 : decode b_Mod_look 12 = .ok (.iload_n 2, 1) := by decide +kernel
theorem d_Mod_look_13 : decode b_Mod_look 13 = .ok (.ifCond .lt 8, 3) := by decide +kernel
theorem d_Mod_look_16 : decode b_Mod_look 16 = .ok (.iload_n 2, 1) := by decide +kernel
theorem d_Mod_look_17 : decode b_Mod_look 17 = .ok (.iconst 4, 1) := by decide +kernel
theorem d_Mod_look_18 : decode b_Mod_look 18 = .ok (.if_icmp .le 5, 3) := by decide +kernel
theorem d_Mod_look_21 : decode b_Mod_look 21 = .ok (.iconst 0, 1) := by decide +kernel
theorem d_Mod_look_22 : decode b_Mod_look 22 = .ok (.ireturn, 1) := by decide +kernel
theorem d_Mod_look_23 : decode b_Mod_look 23 = .ok (.iload_n 2, 1) := by decide +kernel
theorem d_Mod_look_24 : decode b_Mod_look 24 = .ok (.iconst 4, 1) := by decide +kernel
theorem d_Mod_look_25 : decode b_Mod_look 25 = .ok (.if_icmp .ne 12, 3) := by decide +kernel
theorem d_Mod_look_28 : decode b_Mod_look 28 = .ok (.aload_n 0, 1) := by decide +kernel
theorem d_Mod_look_29 : decode b_Mod_look 29 = .ok (.getfield 20, 3) := by decide +kernel
theorem d_Mod_look_32 : decode b_Mod_look 32 = .ok (.iload_n 1, 1) := by decide +kernel
theorem d_Mod_look_33 : decode b_Mod_look 33 = .ok (.iaload, 1) := by decide +kernel
theorem d_Mod_look_34 : decode b_Mod_look 34 = .ok (.goto 13, 3) := by decide +kernel
theorem d_Mod_look_37 : decode b_Mod_look 37 = .ok (.aload_n 0, 1) := by decide +kernel
theorem d_Mod_look_38 : decode b_Mod_look 38 = .ok (.getfield 23, 3) := by decide +kernel
theorem d_Mod_look_41 : decode b_Mod_look 41 = .ok (.iconst 4, 1) := by decide +kernel
theorem d_Mod_look_42 : decode b_Mod_look 42 = .ok (.iload_n 1, 1) := by decide +kernel
theorem d_Mod_look_43 : decode b_Mod_look 43 = .ok (.imul, 1) := by decide +kernel
theorem d_Mod_look_44 : decode b_Mod_look 44 = .ok (.iload_n 2, 1) := by decide +kernel
theorem d_Mod_look_45 : decode b_Mod_look 45 = .ok (.iadd, 1) := by decide +kernel
theorem d_Mod_look_46 : decode b_Mod_look 46 = .ok (.iaload, 1) := by decide +kernel
theorem d_Mod_look_47 : decode b_Mod_look 47 = .ok (.ireturn, 1) := by decide +kernel
theorem d_Mod_findSides_0 : decode b_Mod_findSides 0 = .ok (.aload_n 0, 1) := by decide +kernel
theorem d_Mod_findSides_1 : decode b_Mod_findSides 1 = .ok (.invokevirtual 110, 3) := by decide +kernel
theorem d_Mod_findSides_4 : decode b_Mod_findSides 4 = .ok (.aload_n 0, 1) := by decide +kernel
theorem d_Mod_findSides_5 : decode b_Mod_findSides 5 = .ok (.iconst 0, 1) := by decide +kernel
theorem d_Mod_findSides_6 : decode b_Mod_findSides 6 = .ok (.putfield 154, 3) := by decide +kernel
theorem d_Mod_findSides_9 : decode b_Mod_findSides 9 = .ok (.iload_n 1, 1) := by decide +kernel
theorem d_Mod_findSides_10 : decode b_Mod_findSides 10 = .ok (.ifCond .lt 11, 3) := by decide +kernel
theorem d_Mod_findSides_13 : decode b_Mod_findSides 13 = .ok (.iload_n 1, 1) := by decide +kernel
theorem d_Mod_findSides_14 : decode b_Mod_findSides 14 = .ok (.aload_n 0, 1) := by decide +kernel
theorem d_Mod_findSides_15 : decode b_Mod_findSides 15 = .ok (.getfield 89, 3) := by decide +kernel
theorem d_Mod_findSides_18 : decode b_Mod_findSides 18 = .ok (.if_icmp .lt 5, 3) := by decide +kernel
theorem d_Mod_findSides_21 : decode b_Mod_findSides 21 = .ok (.iconst 0, 1) := by decide +kernel
theorem d_Mod_findSides_22 : decode b_Mod_findSides 22 = .ok (.ireturn, 1) := by decide +kernel
theorem d_Mod_findSides_23 : decode b_Mod_findSides 23 = .ok (.iconst 0, 1) := by decide +kernel
theorem d_Mod_findSides_24 : decode b_Mod_findSides 24 = .ok (.istore_n 2, 1) := by decide +kernel
theorem d_Mod_findSides_25 : decode b_Mod_findSides 25 = .ok (.aload_n 0, 1) := by decide +kernel
theorem d_Mod_findSides_26 : decode b_Mod_findSides 26 = .ok (.getfield 44, 3) := by decide +kernel
theorem d_Mod_findSides_29 : decode b_Mod_findSides 29 = .ok (.iload_n 2, 1) := by decide +kernel
theorem d_Mod_findSides_30 : decode b_Mod_findSides 30 = .ok (.iaload, 1) := by decide +kernel
theorem d_Mod_findSides_31 : decode b_Mod_findSides 31 = .ok (.iload_n 1, 1) := by decide +kernel
theorem d_Mod_findSides_32 : decode b_Mod_findSides 32 = .ok (.if_icmp .eq 9, 3) := by decide +kernel
theorem d_Mod_findSides_35 : decode b_Mod_findSides 35 = .ok (.iinc 2 1, 3) := by decide +kernel
theorem d_Mod_findSides_38 : decode b_Mod_findSides 38 = .ok (.goto (-13), 3) := by decide +kernel
theorem d_Mod_findSides_41 : decode b_Mod_findSides 41 = .ok (.iconst 2, 1) := by decide +kernel
theorem d_Mod_findSides_42 : decode b_Mod_findSides 42 = .ok (.aload_n 0, 1) := by decide +kernel
theorem d_Mod_findSides_43 : decode b_Mod_findSides 43 = .ok (.getfield 32, 3) := by decide +kernel
theorem d_Mod_findSides_46 : decode b_Mod_findSides 46 = .ok (.iload_n 2, 1) := by decide +kernel
theorem d_Mod_findSides_47 : decode b_Mod_findSides 47 = .ok (.iconst 2, 1) := by decide +kernel
theorem d_Mod_findSides_48 : decode b_Mod_findSides 48 = .ok (.idiv, 1) := by decide +kernel
theorem d_Mod_findSides_49 : decode b_Mod_findSides 49 = .ok (.iaload, 1) := by decide +kernel
theorem d_Mod_findSides_50 : decode b_Mod_findSides 50 = .ok (.imul, 1) := by decide +kernel
theorem d_Mod_findSides_51 : decode b_Mod_findSides 51 = .ok (.iload_n 2, 1) := by decide +kernel
theorem d_Mod_findSides_52 : decode b_Mod_findSides 52 = .ok (.iconst 2, 1) := by decide +kernel
theorem d_Mod_findSides_53 : decode b_Mod_findSides 53 = .ok (.irem, 1) := by decide +kernel
theorem d_Mod_findSides_54 : decode b_Mod_findSides 54 = .ok (.iadd, 1) := by decide +kernel
theorem d_Mod_findSides_55 : decode b_Mod_findSides 55 = .ok (.istore_n 3, 1) := by decide +kernel
theorem d_Mod_findSides_56 : decode b_Mod_findSides 56 = .ok (.iload_n 3, 1) := by decide +kernel
theorem d_Mod_findSides_57 : decode b_Mod_findSides 57 = .ok (.istore 4, 2) := by decide +kernel
theorem d_Mod_findSides_59 : decode b_Mod_findSides 59 = .ok (.aload_n 0, 1) := by decide +kernel
theorem d_Mod_findSides_60 : decode b_Mod_findSides 60 = .ok (.getfield 154, 3) := by decide +kernel
theorem d_Mod_findSides_63 : decode b_Mod_findSides 63 = .ok (.ifCond .eq 9, 3) := by decide +kernel
theorem d_Mod_findSides_66 : decode b_Mod_findSides 66 = .ok (.iload 4, 2) := by decide +kernel
theorem d_Mod_findSides_68 : decode b_Mod_findSides 68 = .ok (.iload_n 3, 1) := by decide +kernel
theorem d_Mod_findSides_69 : decode b_Mod_findSides 69 = .ok (.if_icmp .eq 35, 3) := by decide +kernel
theorem d_Mod_findSides_72 : decode b_Mod_findSides 72 = .ok (.aload_n 0, 1) := by decide +kernel
theorem d_Mod_findSides_73 : decode b_Mod_findSides 73 = .ok (.getfield 47, 3) := by decide +kernel
theorem d_Mod_findSides_76 : decode b_Mod_findSides 76 = .ok (.aload_n 0, 1) := by decide +kernel
theorem d_Mod_findSides_77 : decode b_Mod_findSides 77 = .ok (.getfield 154, 3) := by decide +kernel
theorem d_Mod_findSides_80 : decode b_Mod_findSides 80 = .ok (.iload 4, 2) := by decide +kernel
theorem d_Mod_findSides_82 : decode b_Mod_findSides 82 = .ok (.iastore, 1) := by decide +kernel
theorem d_Mod_findSides_83 : decode b_Mod_findSides 83 = .ok (.aload_n 0, 1) := by decide +kernel
theorem d_Mod_findSides_84 : decode b_Mod_findSides 84 = .ok (.dup, 1) := by decide +kernel
theorem d_Mod_findSides_85 : decode b_Mod_findSides 85 = .ok (.getfield 154, 3) := by decide +kernel
theorem d_Mod_findSides_88 : decode b_Mod_findSides 88 = .ok (.iconst 1, 1) := by decide +kernel
theorem d_Mod_findSides_89 : decode b_Mod_findSides 89 = .ok (.iadd, 1) := by decide +kernel
theorem d_Mod_findSides_90 : decode b_Mod_findSides 90 = .ok (.putfield 154, 3) := by decide +kernel
theorem d_Mod_findSides_93 : decode b_Mod_findSides 93 = .ok (.aload_n 0, 1) := by decide +kernel
theorem d_Mod_findSides_94 : decode b_Mod_findSides 94 = .ok (.iload 4, 2) := by decide +kernel
theorem d_Mod_findSides_96 : decode b_Mod_findSides 96 = .ok (.invokevirtual 95, 3) := by decide +kernel
theorem d_Mod_findSides_99 : decode b_Mod_findSides 99 = .ok (.istore 4, 2) := by decide +kernel
theorem d_Mod_findSides_101 : decode b_Mod_findSides 101 = .ok (.goto (-42), 3) := by decide +kernel
theorem d_Mod_findSides_104 : decode b_Mod_findSides 104 = .ok (.iconst 1, 1) := by decide +kernel
theorem d_Mod_findSides_105 : decode b_Mod_findSides 105 = .ok (.ireturn, 1) := by decide +kernel
theorem d_Mod_face_0 : decode b_Mod_face 0 = .ok (.aload_n 0, 1) := by decide +kernel
theorem d_Mod_face_1 : decode b_Mod_face 1 = .ok (.iload_n 1, 1) := by decide +kernel
theorem d_Mod_face_2 : decode b_Mod_face 2 = .ok (.invokevirtual 157, 3) := by decide +kernel
theorem d_Mod_face_5 : decode b_Mod_face 5 = .ok (.ifCond .eq 16, 3) := by decide +kernel
theorem d_Mod_face_8 : decode b_Mod_face 8 = .ok (.iload_n 2, 1) := by decide +kernel
theorem d_Mod_face_9 : decode b_Mod_face 9 = .ok (.iconst (-1), 1) := by decide +kernel
theorem d_Mod_face_10 : decode b_Mod_face 10 = .ok (.if_icmp .lt 11, 3) := by decide +kernel
theorem d_Mod_face_13 : decode b_Mod_face 13 = .ok (.iload_n 2, 1) := by decide +kernel
theorem d_Mod_face_14 : decode b_Mod_face 14 = .ok (.aload_n 0, 1) := by decide +kernel
theorem d_Mod_face_15 : decode b_Mod_face 15 = .ok (.getfield 154, 3) := by decide +kernel
theorem d_Mod_face_18 : decode b_Mod_face 18 = .ok (.if_icmp .lt 5, 3) := by decide +kernel
theorem d_Mod_face_21 : decode b_Mod_face 21 = .ok (.iconst 0, 1) := by decide +kernel
theorem d_Mod_face_22 : decode b_Mod_face 22 = .ok (.ireturn, 1) := by decide +kernel
theorem d_Mod_face_23 : decode b_Mod_face 23 = .ok (.iload_n 2, 1) := by decide +kernel
theorem d_Mod_face_24 : decode b_Mod_face 24 = .ok (.ifCond .ge 8, 3) := by decide +kernel
theorem d_Mod_face_27 : decode b_Mod_face 27 = .ok (.aload_n 0, 1) := by decide +kernel
theorem d_Mod_face_28 : decode b_Mod_face 28 = .ok (.getfield 154, 3) := by decide +kernel
theorem d_Mod_face_31 : decode b_Mod_face 31 = .ok (.ireturn, 1) := by decide +kernel
theorem d_Mod_face_32 : decode b_Mod_face 32 = .ok (.aload_n 0, 1) := by decide +kernel
theorem d_Mod_face_33 : decode b_Mod_face 33 = .ok (.getfield 47, 3) := by decide +kernel
theorem d_Mod_face_36 : decode b_Mod_face 36 = .ok (.iload_n 2, 1) := by decide +kernel
theorem d_Mod_face_37 : decode b_Mod_face 37 = .ok (.iaload, 1) := by decide +kernel
theorem d_Mod_face_38 : decode b_Mod_face 38 = .ok (.iconst 2, 1) := by decide +kernel
theorem d_Mod_face_39 : decode b_Mod_face 39 = .ok (.irem, 1) := by decide +kernel
theorem d_Mod_face_40 : decode b_Mod_face 40 = .ok (.iconst 1, 1) := by decide +kernel
theorem d_Mod_face_41 : decode b_Mod_face 41 = .ok (.if_icmp .ne 15, 3) := by decide +kernel
theorem d_Mod_face_44 : decode b_Mod_face 44 = .ok (.aload_n 0, 1) := by decide +kernel
theorem d_Mod_face_45 : decode b_Mod_face 45 = .ok (.getfield 47, 3) := by decide +kernel
theorem d_Mod_face_48 : decode b_Mod_face 48 = .ok (.iload_n 2, 1) := by decide +kernel
theorem d_Mod_face_49 : decode b_Mod_face 49 = .ok (.iaload, 1) := by decide +kernel
theorem d_Mod_face_50 : decode b_Mod_face 50 = .ok (.iconst 2, 1) := by decide +kernel
theorem d_Mod_face_51 : decode b_Mod_face 51 = .ok (.idiv, 1) := by decide +kernel
theorem d_Mod_face_52 : decode b_Mod_face 52 = .ok (.ineg, 1) := by decide +kernel
theorem d_Mod_face_53 : decode b_Mod_face 53 = .ok (.goto 11, 3) := by decide +kernel
theorem d_Mod_face_56 : decode b_Mod_face 56 = .ok (.aload_n 0, 1) := by decide +kernel
theorem d_Mod_face_57 : decode b_Mod_face 57 = .ok (.getfield 47, 3) := by decide +kernel
theorem d_Mod_face_60 : decode b_Mod_face 60 = .ok (.iload_n 2, 1) := by decide +kernel
theorem d_Mod_face_61 : decode b_Mod_face 61 = .ok (.iaload, 1) := by decide +kernel
theorem d_Mod_face_62 : decode b_Mod_face 62 = .ok (.iconst 2, 1) := by decide +kernel
theorem d_Mod_face_63 : decode b_Mod_face 63 = .ok (.idiv, 1) := by decide +kernel
theorem d_Mod_face_64 : decode b_Mod_face 64 = .ok (.ireturn, 1) := by decide +kernel
theorem d_Mod_uppers_0 : decode b_Mod_uppers 0 = .ok (.aload_n 0, 1) := by decide +kernel
theorem d_Mod_uppers_1 : decode b_Mod_uppers 1 = .ok (.iload_n 1, 1) := by decide +kernel
theorem d_Mod_uppers_2 : decode b_Mod_uppers 2 = .ok (.iconst 1, 1) := by decide +kernel
theorem d_Mod_uppers_3 : decode b_Mod_uppers 3 = .ok (.invokevirtual 66, 3) := by decide +kernel
theorem d_Mod_uppers_6 : decode b_Mod_uppers 6 = .ok (.invokestatic 160, 3) := by decide +kernel
theorem d_Mod_uppers_9 : decode b_Mod_uppers 9 = .ok (.ifCond .eq 7, 3) := by decide +kernel
theorem d_Mod_uppers_12 : decode b_Mod_uppers 12 = .ok (.iconst 1, 1) := by decide +kernel
theorem d_Mod_uppers_13 : decode b_Mod_uppers 13 = .ok (.goto 4, 3) := by decide +kernel
theorem d_Mod_uppers_16 : decode b_Mod_uppers 16 = .ok (.iconst 0, 1) := by decide +kernel
theorem d_Mod_uppers_17 : decode b_Mod_uppers 17 = .ok (.aload_n 0, 1) := by decide +kernel
theorem d_Mod_uppers_18 : decode b_Mod_uppers 18 = .ok (.iload_n 1, 1) := by decide +kernel
theorem d_Mod_uppers_19 : decode b_Mod_uppers 19 = .ok (.iconst 0, 1) := by decide +kernel
theorem d_Mod_uppers_20 : decode b_Mod_uppers 20 = .ok (.invokevirtual 66, 3) := by decide +kernel
theorem d_Mod_uppers_23 : decode b_Mod_uppers 23 = .ok (.invokestatic 160, 3) := by decide +kernel
theorem d_Mod_uppers_26 : decode b_Mod_uppers 26 = .ok (.ifCond .eq 7, 3) := by decide +kernel
theorem d_Mod_uppers_29 : decode b_Mod_uppers 29 = .ok (.iconst 1, 1) := by decide +kernel
theorem d_Mod_uppers_30 : decode b_Mod_uppers 30 = .ok (.goto 4, 3) := by decide +kernel
theorem d_Mod_uppers_33 : decode b_Mod_uppers 33 = .ok (.iconst 0, 1) := by decide +kernel
theorem d_Mod_uppers_34 : decode b_Mod_uppers 34 = .ok (.iadd, 1) := by decide +kernel
theorem d_Mod_uppers_35 : decode b_Mod_uppers 35 = .ok (.ireturn, 1) := by decide +kernel
theorem d_Mod_corner_0 : decode b_Mod_corner 0 = .ok (.aload_n 0, 1) := by decide +kernel
theorem d_Mod_corner_1 : decode b_Mod_corner 1 = .ok (.iload_n 1, 1) := by decide +kernel
theorem d_Mod_corner_2 : decode b_Mod_corner 2 = .ok (.iconst 2, 1) := by decide +kernel
theorem d_Mod_corner_3 : decode b_Mod_corner 3 = .ok (.idiv, 1) := by decide +kernel
theorem d_Mod_corner_4 : decode b_Mod_corner 4 = .ok (.iload_n 1, 1) := by decide +kernel
theorem d_Mod_corner_5 : decode b_Mod_corner 5 = .ok (.iconst 2, 1) := by decide +kernel
theorem d_Mod_corner_6 : decode b_Mod_corner 6 = .ok (.irem, 1) := by decide +kernel
theorem d_Mod_corner_7 : decode b_Mod_corner 7 = .ok (.iconst 1, 1) := by decide +kernel
theorem d_Mod_corner_8 : decode b_Mod_corner 8 = .ok (.if_icmp .ne 7, 3) := by decide +kernel
theorem d_Mod_corner_11 : decode b_Mod_corner 11 = .ok (.iconst 1, 1) := by decide +kernel
theorem d_Mod_corner_12 : decode b_Mod_corner 12 = .ok (.goto 4, 3) := by decide +kernel
theorem d_Mod_corner_15 : decode b_Mod_corner 15 = .ok (.iconst 0, 1) := by decide +kernel
theorem d_Mod_corner_16 : decode b_Mod_corner 16 = .ok (.invokevirtual 66, 3) := by decide +kernel
theorem d_Mod_corner_19 : decode b_Mod_corner 19 = .ok (.iconst 4, 1) := by decide +kernel
theorem d_Mod_corner_20 : decode b_Mod_corner 20 = .ok (.idiv, 1) := by decide +kernel
theorem d_Mod_corner_21 : decode b_Mod_corner 21 = .ok (.ireturn, 1) := by decide +kernel
theorem d_Mod_pattern_0 : decode b_Mod_pattern 0 = .ok (.aload_n 0, 1) := by decide +kernel
theorem d_Mod_pattern_1 : decode b_Mod_pattern 1 = .ok (.iload_n 1, 1) := by decide +kernel
theorem d_Mod_pattern_2 : decode b_Mod_pattern 2 = .ok (.invokevirtual 157, 3) := by decide +kernel
theorem d_Mod_pattern_5 : decode b_Mod_pattern 5 = .ok (.ifCond .ne 5, 3) := by decide +kernel
theorem d_Mod_pattern_8 : decode b_Mod_pattern 8 = .ok (.iconst (-1), 1) := by decide +kernel
theorem d_Mod_pattern_9 : decode b_Mod_pattern 9 = .ok (.ireturn, 1) := by decide +kernel
theorem d_Mod_pattern_10 : decode b_Mod_pattern 10 = .ok (.aload_n 0, 1) := by decide +kernel
theorem d_Mod_pattern_11 : decode b_Mod_pattern 11 = .ok (.getfield 154, 3) := by decide +kernel
theorem d_Mod_pattern_14 : decode b_Mod_pattern 14 = .ok (.iconst 1, 1) := by decide +kernel
theorem d_Mod_pattern_15 : decode b_Mod_pattern 15 = .ok (.if_icmp .ne 5, 3) := by decide +kernel
theorem d_Mod_pattern_18 : decode b_Mod_pattern 18 = .ok (.iconst 1, 1) := by decide +kernel
theorem d_Mod_pattern_19 : decode b_Mod_pattern 19 = .ok (.ireturn, 1) := by decide +kernel
theorem d_Mod_pattern_20 : decode b_Mod_pattern 20 = .ok (.aload_n 0, 1) := by decide +kernel
theorem d_Mod_pattern_21 : decode b_Mod_pattern 21 = .ok (.getfield 154, 3) := by decide +kernel
theorem d_Mod_pattern_24 : decode b_Mod_pattern 24 = .ok (.iconst 2, 1) := by decide +kernel
theorem d_Mod_pattern_25 : decode b_Mod_pattern 25 = .ok (.if_icmp .ne 30, 3) := by decide +kernel
theorem d_Mod_pattern_28 : decode b_Mod_pattern 28 = .ok (.aload_n 0, 1) := by decide +kernel
theorem d_Mod_pattern_29 : decode b_Mod_pattern 29 = .ok (.aload_n 0, 1) := by decide +kernel
theorem d_Mod_pattern_30 : decode b_Mod_pattern 30 = .ok (.getfield 47, 3) := by decide +kernel
theorem d_Mod_pattern_33 : decode b_Mod_pattern 33 = .ok (.iconst 0, 1) := by decide +kernel
theorem d_Mod_pattern_34 : decode b_Mod_pattern 34 = .ok (.iaload, 1) := by decide +kernel
theorem d_Mod_pattern_35 : decode b_Mod_pattern 35 = .ok (.invokevirtual 163, 3) := by decide +kernel
theorem d_Mod_pattern_38 : decode b_Mod_pattern 38 = .ok (.aload_n 0, 1) := by decide +kernel
theorem d_Mod_pattern_39 : decode b_Mod_pattern 39 = .ok (.aload_n 0, 1) := by decide +kernel
theorem d_Mod_pattern_40 : decode b_Mod_pattern 40 = .ok (.getfield 47, 3) := by decide +kernel
theorem d_Mod_pattern_43 : decode b_Mod_pattern 43 = .ok (.iconst 1, 1) := by decide +kernel
theorem d_Mod_pattern_44 : decode b_Mod_pattern 44 = .ok (.iaload, 1) := by decide +kernel
theorem d_Mod_pattern_45 : decode b_Mod_pattern 45 = .ok (.invokevirtual 163, 3) := by decide +kernel
theorem d_Mod_pattern_48 : decode b_Mod_pattern 48 = .ok (.if_icmp .eq 7, 3) := by decide +kernel
theorem d_Mod_pattern_51 : decode b_Mod_pattern 51 = .ok (.iconst 1, 1) := by decide +kernel
theorem d_Mod_pattern_52 : decode b_Mod_pattern 52 = .ok (.goto 4, 3) := by decide +kernel
theorem d_Mod_pattern_55 : decode b_Mod_pattern 55 = .ok (.iconst 0, 1) := by decide +kernel
theorem d_Mod_pattern_56 : decode b_Mod_pattern 56 = .ok (.istore_n 2, 1) := by decide +kernel
theorem d_Mod_pattern_57 : decode b_Mod_pattern 57 = .ok (.iload_n 2, 1) := by decide +kernel
theorem d_Mod_pattern_58 : decode b_Mod_pattern 58 = .ok (.ifCond .eq 71, 3) := by decide +kernel
theorem d_Mod_pattern_61 : decode b_Mod_pattern 61 = .ok (.aload_n 0, 1) := by decide +kernel
theorem d_Mod_pattern_62 : decode b_Mod_pattern 62 = .ok (.aload_n 0, 1) := by decide +kernel
theorem d_Mod_pattern_63 : decode b_Mod_pattern 63 = .ok (.getfield 47, 3) := by decide +kernel
theorem d_Mod_pattern_66 : decode b_Mod_pattern 66 = .ok (.iconst 0, 1) := by decide +kernel
theorem d_Mod_pattern_67 : decode b_Mod_pattern 67 = .ok (.iaload, 1) := by decide +kernel
theorem d_Mod_pattern_68 : decode b_Mod_pattern 68 = .ok (.iconst 2, 1) := by decide +kernel
theorem d_Mod_pattern_69 : decode b_Mod_pattern 69 = .ok (.idiv, 1) := by decide +kernel
theorem d_Mod_pattern_70 : decode b_Mod_pattern 70 = .ok (.invokevirtual 166, 3) := by decide +kernel
theorem d_Mod_pattern_73 : decode b_Mod_pattern 73 = .ok (.iconst 2, 1) := by decide +kernel
theorem d_Mod_pattern_74 : decode b_Mod_pattern 74 = .ok (.if_icmp .ne 18, 3) := by decide +kernel
theorem d_Mod_pattern_77 : decode b_Mod_pattern 77 = .ok (.aload_n 0, 1) := by decide +kernel
theorem d_Mod_pattern_78 : decode b_Mod_pattern 78 = .ok (.aload_n 0, 1) := by decide +kernel
theorem d_Mod_pattern_79 : decode b_Mod_pattern 79 = .ok (.getfield 47, 3) := by decide +kernel
theorem d_Mod_pattern_82 : decode b_Mod_pattern 82 = .ok (.iconst 1, 1) := by decide +kernel
theorem d_Mod_pattern_83 : decode b_Mod_pattern 83 = .ok (.iaload, 1) := by decide +kernel
theorem d_Mod_pattern_84 : decode b_Mod_pattern 84 = .ok (.iconst 2, 1) := by decide +kernel
theorem d_Mod_pattern_85 : decode b_Mod_pattern 85 = .ok (.idiv, 1) := by decide +kernel
theorem d_Mod_pattern_86 : decode b_Mod_pattern 86 = .ok (.invokevirtual 166, 3) := by decide +kernel
theorem d_Mod_pattern_89 : decode b_Mod_pattern 89 = .ok (.ifCond .eq 34, 3) := by decide +kernel
theorem d_Mod_pattern_92 : decode b_Mod_pattern 92 = .ok (.aload_n 0, 1) := by decide +kernel
theorem d_Mod_pattern_93 : decode b_Mod_pattern 93 = .ok (.aload_n 0, 1) := by decide +kernel
theorem d_Mod_pattern_94 : decode b_Mod_pattern 94 = .ok (.getfield 47, 3) := by decide +kernel
theorem d_Mod_pattern_97 : decode b_Mod_pattern 97 = .ok (.iconst 0, 1) := by decide +kernel
theorem d_Mod_pattern_98 : decode b_Mod_pattern 98 = .ok (.iaload, 1) := by decide +kernel
theorem d_Mod_pattern_99 : decode b_Mod_pattern 99 = .ok (.iconst 2, 1) := by decide +kernel
theorem d_Mod_pattern_100 : decode b_Mod_pattern 100 = .ok (.idiv, 1) := by decide +kernel
theorem d_Mod_pattern_101 : decode b_Mod_pattern 101 = .ok (.invokevirtual 166, 3) := by decide +kernel
theorem d_Mod_pattern_104 : decode b_Mod_pattern 104 = .ok (.ifCond .ne 23, 3) := by decide +kernel
theorem d_Mod_pattern_107 : decode b_Mod_pattern 107 = .ok (.aload_n 0, 1) := by decide +kernel
theorem d_Mod_pattern_108 : decode b_Mod_pattern 108 = .ok (.aload_n 0, 1) := by decide +kernel
theorem d_Mod_pattern_109 : decode b_Mod_pattern 109 = .ok (.getfield 47, 3) := by decide +kernel
theorem d_Mod_pattern_112 : decode b_Mod_pattern 112 = .ok (.iconst 1, 1) := by decide +kernel
theorem d_Mod_pattern_113 : decode b_Mod_pattern 113 = .ok (.iaload, 1) := by decide +kernel
theorem d_Mod_pattern_114 : decode b_Mod_pattern 114 = .ok (.iconst 2, 1) := by decide +kernel
theorem d_Mod_pattern_115 : decode b_Mod_pattern 115 = .ok (.idiv, 1) := by decide +kernel
theorem d_Mod_pattern_116 : decode b_Mod_pattern 116 = .ok (.invokevirtual 166, 3) := by decide +kernel
theorem d_Mod_pattern_119 : decode b_Mod_pattern 119 = .ok (.iconst 2, 1) := by decide +kernel
theorem d_Mod_pattern_120 : decode b_Mod_pattern 120 = .ok (.if_icmp .ne 7, 3) := by decide +kernel
theorem d_Mod_pattern_123 : decode b_Mod_pattern 123 = .ok (.iconst 2, 1) := by decide +kernel
theorem d_Mod_pattern_124 : decode b_Mod_pattern 124 = .ok (.goto 4, 3) := by decide +kernel
theorem d_Mod_pattern_127 : decode b_Mod_pattern 127 = .ok (.iconst 0, 1) := by decide +kernel
theorem d_Mod_pattern_128 : decode b_Mod_pattern 128 = .ok (.ireturn, 1) := by decide +kernel
theorem d_Mod_pattern_129 : decode b_Mod_pattern 129 = .ok (.aload_n 0, 1) := by decide +kernel
theorem d_Mod_pattern_130 : decode b_Mod_pattern 130 = .ok (.getfield 154, 3) := by decide +kernel
theorem d_Mod_pattern_133 : decode b_Mod_pattern 133 = .ok (.iconst 3, 1) := by decide +kernel
theorem d_Mod_pattern_134 : decode b_Mod_pattern 134 = .ok (.if_icmp .ne 76, 3) := by decide +kernel
theorem d_Mod_pattern_137 : decode b_Mod_pattern 137 = .ok (.aload_n 0, 1) := by decide +kernel
theorem d_Mod_pattern_138 : decode b_Mod_pattern 138 = .ok (.aload_n 0, 1) := by decide +kernel
theorem d_Mod_pattern_139 : decode b_Mod_pattern 139 = .ok (.getfield 47, 3) := by decide +kernel
theorem d_Mod_pattern_142 : decode b_Mod_pattern 142 = .ok (.iconst 0, 1) := by decide +kernel
theorem d_Mod_pattern_143 : decode b_Mod_pattern 143 = .ok (.iaload, 1) := by decide +kernel
theorem d_Mod_pattern_144 : decode b_Mod_pattern 144 = .ok (.invokevirtual 163, 3) := by decide +kernel
theorem d_Mod_pattern_147 : decode b_Mod_pattern 147 = .ok (.aload_n 0, 1) := by decide +kernel
theorem d_Mod_pattern_148 : decode b_Mod_pattern 148 = .ok (.aload_n 0, 1) := by decide +kernel
theorem d_Mod_pattern_149 : decode b_Mod_pattern 149 = .ok (.getfield 47, 3) := by decide +kernel
theorem d_Mod_pattern_152 : decode b_Mod_pattern 152 = .ok (.iconst 1, 1) := by decide +kernel
theorem d_Mod_pattern_153 : decode b_Mod_pattern 153 = .ok (.iaload, 1) := by decide +kernel
theorem d_Mod_pattern_154 : decode b_Mod_pattern 154 = .ok (.invokevirtual 163, 3) := by decide +kernel
theorem d_Mod_pattern_157 : decode b_Mod_pattern 157 = .ok (.if_icmp .eq 53, 3) := by decide +kernel
theorem d_Mod_pattern_160 : decode b_Mod_pattern 160 = .ok (.aload_n 0, 1) := by decide +kernel
theorem d_Mod_pattern_161 : decode b_Mod_pattern 161 = .ok (.aload_n 0, 1) := by decide +kernel
theorem d_Mod_pattern_162 : decode b_Mod_pattern 162 = .ok (.getfield 47, 3) := by decide +kernel
theorem d_Mod_pattern_165 : decode b_Mod_pattern 165 = .ok (.iconst 1, 1) := by decide +kernel
theorem d_Mod_pattern_166 : decode b_Mod_pattern 166 = .ok (.iaload, 1) := by decide +kernel
theorem d_Mod_pattern_167 : decode b_Mod_pattern 167 = .ok (.invokevirtual 163, 3) := by decide +kernel
theorem d_Mod_pattern_170 : decode b_Mod_pattern 170 = .ok (.aload_n 0, 1) := by decide +kernel
theorem d_Mod_pattern_171 : decode b_Mod_pattern 171 = .ok (.aload_n 0, 1) := by decide +kernel
theorem d_Mod_pattern_172 : decode b_Mod_pattern 172 = .ok (.getfield 47, 3) := by decide +kernel
theorem d_Mod_pattern_175 : decode b_Mod_pattern 175 = .ok (.iconst 2, 1) := by decide +kernel
theorem d_Mod_pattern_176 : decode b_Mod_pattern 176 = .ok (.iaload, 1) := by decide +kernel
theorem d_Mod_pattern_177 : decode b_Mod_pattern 177 = .ok (.invokevirtual 163, 3) := by decide +kernel
theorem d_Mod_pattern_180 : decode b_Mod_pattern 180 = .ok (.if_icmp .eq 30, 3) := by decide +kernel
theorem d_Mod_pattern_183 : decode b_Mod_pattern 183 = .ok (.aload_n 0, 1) := by decide +kernel
theorem d_Mod_pattern_184 : decode b_Mod_pattern 184 = .ok (.aload_n 0, 1) := by decide +kernel
theorem d_Mod_pattern_185 : decode b_Mod_pattern 185 = .ok (.getfield 47, 3) := by decide +kernel
theorem d_Mod_pattern_188 : decode b_Mod_pattern 188 = .ok (.iconst 0, 1) := by decide +kernel
theorem d_Mod_pattern_189 : decode b_Mod_pattern 189 = .ok (.iaload, 1) := by decide +kernel
theorem d_Mod_pattern_190 : decode b_Mod_pattern 190 = .ok (.invokevirtual 163, 3) := by decide +kernel
theorem d_Mod_pattern_193 : decode b_Mod_pattern 193 = .ok (.aload_n 0, 1) := by decide +kernel
theorem d_Mod_pattern_194 : decode b_Mod_pattern 194 = .ok (.aload_n 0, 1) := by decide +kernel
theorem d_Mod_pattern_195 : decode b_Mod_pattern 195 = .ok (.getfield 47, 3) := by decide +kernel
theorem d_Mod_pattern_198 : decode b_Mod_pattern 198 = .ok (.iconst 2, 1) := by decide +kernel
theorem d_Mod_pattern_199 : decode b_Mod_pattern 199 = .ok (.iaload, 1) := by decide +kernel
theorem d_Mod_pattern_200 : decode b_Mod_pattern 200 = .ok (.invokevirtual 163, 3) := by decide +kernel
theorem d_Mod_pattern_203 : decode b_Mod_pattern 203 = .ok (.if_icmp .eq 7, 3) := by decide +kernel
theorem d_Mod_pattern_206 : decode b_Mod_pattern 206 = .ok (.iconst 1, 1) := by decide +kernel
theorem d_Mod_pattern_207 : decode b_Mod_pattern 207 = .ok (.goto 4, 3) := by decide +kernel
theorem d_Mod_pattern_210 : decode b_Mod_pattern 210 = .ok (.iconst 0, 1) := by decide +kernel
theorem d_Mod_pattern_211 : decode b_Mod_pattern 211 = .ok (.istore_n 3, 1) := by decide +kernel
theorem d_Mod_pattern_212 : decode b_Mod_pattern 212 = .ok (.iload_n 3, 1) := by decide +kernel
theorem d_Mod_pattern_213 : decode b_Mod_pattern 213 = .ok (.ifCond .ne 5, 3) := by decide +kernel
theorem d_Mod_pattern_216 : decode b_Mod_pattern 216 = .ok (.iconst 0, 1) := by decide +kernel
theorem d_Mod_pattern_217 : decode b_Mod_pattern 217 = .ok (.ireturn, 1) := by decide +kernel
theorem d_Mod_pattern_218 : decode b_Mod_pattern 218 = .ok (.aload_n 0, 1) := by decide +kernel
theorem d_Mod_pattern_219 : decode b_Mod_pattern 219 = .ok (.aload_n 0, 1) := by decide +kernel
theorem d_Mod_pattern_220 : decode b_Mod_pattern 220 = .ok (.getfield 47, 3) := by decide +kernel
theorem d_Mod_pattern_223 : decode b_Mod_pattern 223 = .ok (.iconst 0, 1) := by decide +kernel
theorem d_Mod_pattern_224 : decode b_Mod_pattern 224 = .ok (.iaload, 1) := by decide +kernel
theorem d_Mod_pattern_225 : decode b_Mod_pattern 225 = .ok (.iconst 2, 1) := by decide +kernel
theorem d_Mod_pattern_226 : decode b_Mod_pattern 226 = .ok (.idiv, 1) := by decide +kernel
theorem d_Mod_pattern_227 : decode b_Mod_pattern 227 = .ok (.invokevirtual 166, 3) := by decide +kernel
theorem d_Mod_pattern_230 : decode b_Mod_pattern 230 = .ok (.istore 4, 2) := by decide +kernel
theorem d_Mod_pattern_232 : decode b_Mod_pattern 232 = .ok (.aload_n 0, 1) := by decide +kernel
theorem d_Mod_pattern_233 : decode b_Mod_pattern 233 = .ok (.aload_n 0, 1) := by decide +kernel
theorem d_Mod_pattern_234 : decode b_Mod_pattern 234 = .ok (.getfield 47, 3) := by decide +kernel
theorem d_Mod_pattern_237 : decode b_Mod_pattern 237 = .ok (.iconst 1, 1) := by decide +kernel
theorem d_Mod_pattern_238 : decode b_Mod_pattern 238 = .ok (.iaload, 1) := by decide +kernel
theorem d_Mod_pattern_239 : decode b_Mod_pattern 239 = .ok (.iconst 2, 1) := by decide +kernel
theorem d_Mod_pattern_240 : decode b_Mod_pattern 240 = .ok (.idiv, 1) := by decide +kernel
theorem d_Mod_pattern_241 : decode b_Mod_pattern 241 = .ok (.invokevirtual 166, 3) := by decide +kernel
theorem d_Mod_pattern_244 : decode b_Mod_pattern 244 = .ok (.istore 5, 2) := by decide +kernel
theorem d_Mod_pattern_246 : decode b_Mod_pattern 246 = .ok (.aload_n 0, 1) := by decide +kernel
theorem d_Mod_pattern_247 : decode b_Mod_pattern 247 = .ok (.aload_n 0, 1) := by decide +kernel
theorem d_Mod_pattern_248 : decode b_Mod_pattern 248 = .ok (.getfield 47, 3) := by decide +kernel
theorem d_Mod_pattern_251 : decode b_Mod_pattern 251 = .ok (.iconst 2, 1) := by decide +kernel
theorem d_Mod_pattern_252 : decode b_Mod_pattern 252 = .ok (.iaload, 1) := by decide +kernel
theorem d_Mod_pattern_253 : decode b_Mod_pattern 253 = .ok (.iconst 2, 1) := by decide +kernel
theorem d_Mod_pattern_254 : decode b_Mod_pattern 254 = .ok (.idiv, 1) := by decide +kernel
theorem d_Mod_pattern_255 : decode b_Mod_pattern 255 = .ok (.invokevirtual 166, 3) := by decide +kernel
theorem d_Mod_pattern_258 : decode b_Mod_pattern 258 = .ok (.istore 6, 2) := by decide +kernel
theorem d_Mod_pattern_260 : decode b_Mod_pattern 260 = .ok (.iload 4, 2) := by decide +kernel
theorem d_Mod_pattern_262 : decode b_Mod_pattern 262 = .ok (.iload 5, 2) := by decide +kernel
theorem d_Mod_pattern_264 : decode b_Mod_pattern 264 = .ok (.if_icmp .eq 21, 3) := by decide +kernel
theorem d_Mod_pattern_267 : decode b_Mod_pattern 267 = .ok (.iload 5, 2) := by decide +kernel
theorem d_Mod_pattern_269 : decode b_Mod_pattern 269 = .ok (.iload 6, 2) := by decide +kernel
theorem d_Mod_pattern_271 : decode b_Mod_pattern 271 = .ok (.if_icmp .eq 14, 3) := by decide +kernel
theorem d_Mod_pattern_274 : decode b_Mod_pattern 274 = .ok (.iload 4, 2) := by decide +kernel
theorem d_Mod_pattern_276 : decode b_Mod_pattern 276 = .ok (.iload 6, 2) := by decide +kernel
theorem d_Mod_pattern_278 : decode b_Mod_pattern 278 = .ok (.if_icmp .eq 7, 3) := by decide +kernel
theorem d_Mod_pattern_281 : decode b_Mod_pattern 281 = .ok (.iconst 3, 1) := by decide +kernel
theorem d_Mod_pattern_282 : decode b_Mod_pattern 282 = .ok (.goto 4, 3) := by decide +kernel
theorem d_Mod_pattern_285 : decode b_Mod_pattern 285 = .ok (.iconst 0, 1) := by decide +kernel
theorem d_Mod_pattern_286 : decode b_Mod_pattern 286 = .ok (.ireturn, 1) := by decide +kernel
