theorem d_Fac_init_0 : decode b_Fac_init 0 = .ok (.aload_n 0, 1) := by decide +kernel
theorem d_Fac_init_1 : decode b_Fac_init 1 = .ok (.invokespecial 3, 3) := by decide +kernel
theorem d_Fac_init_4 : decode b_Fac_init 4 = .ok (.aload_n 0, 1) := by decide +kernel
theorem d_Fac_init_5 : decode b_Fac_init 5 = .ok (.bipush 80, 2) := by decide +kernel
theorem d_Fac_init_7 : decode b_Fac_init 7 = .ok (.newarray .int, 2) := by decide +kernel
theorem d_Fac_init_9 : decode b_Fac_init 9 = .ok (.putfield 9, 3) := by decide +kernel
theorem d_Fac_init_12 : decode b_Fac_init 12 = .ok (.aload_n 0, 1) := by decide +kernel
theorem d_Fac_init_13 : decode b_Fac_init 13 = .ok (.bipush 80, 2) := by decide +kernel
theorem d_Fac_init_15 : decode b_Fac_init 15 = .ok (.newarray .int, 2) := by decide +kernel
theorem d_Fac_init_17 : decode b_Fac_init 17 = .ok (.putfield 15, 3) := by decide +kernel
theorem d_Fac_init_20 : decode b_Fac_init 20 = .ok (.aload_n 0, 1) := by decide +kernel
theorem d_Fac_init_21 : decode b_Fac_init 21 = .ok (.bipush 81, 2) := by decide +kernel
theorem d_Fac_init_23 : decode b_Fac_init 23 = .ok (.newarray .int, 2) := by decide +kernel
theorem d_Fac_init_25 : decode b_Fac_init 25 = .ok (.putfield 18, 3) := by decide +kernel
theorem d_Fac_init_28 : decode b_Fac_init 28 = .ok (.return_, 1) := by decide +kernel
theorem d_Fac_find_0 : decode b_Fac_find 0 = .ok (.aload_n 0, 1) := by decide +kernel
theorem d_Fac_find_1 : decode b_Fac_find 1 = .ok (.getfield 9, 3) := by decide +kernel
theorem d_Fac_find_4 : decode b_Fac_find 4 = .ok (.iconst (-1), 1) := by decide +kernel
theorem d_Fac_find_5 : decode b_Fac_find 5 = .ok (.invokestatic 21, 3) := by decide +kernel
theorem d_Fac_find_8 : decode b_Fac_find 8 = .ok (.aload_n 0, 1) := by decide +kernel
theorem d_Fac_find_9 : decode b_Fac_find 9 = .ok (.iconst 0, 1) := by decide +kernel
theorem d_Fac_find_10 : decode b_Fac_find 10 = .ok (.putfield 27, 3) := by decide +kernel
theorem d_Fac_find_13 : decode b_Fac_find 13 = .ok (.iconst 0, 1) := by decide +kernel
theorem d_Fac_find_14 : decode b_Fac_find 14 = .ok (.istore_n 2, 1) := by decide +kernel
theorem d_Fac_find_15 : decode b_Fac_find 15 = .ok (.iload_n 2, 1) := by decide +kernel
theorem d_Fac_find_16 : decode b_Fac_find 16 = .ok (.iconst 2, 1) := by decide +kernel
theorem d_Fac_find_17 : decode b_Fac_find 17 = .ok (.aload_n 1, 1) := by decide +kernel
theorem d_Fac_find_18 : decode b_Fac_find 18 = .ok (.getfield 31, 3) := by decide +kernel
theorem d_Fac_find_21 : decode b_Fac_find 21 = .ok (.imul, 1) := by decide +kernel
theorem d_Fac_find_22 : decode b_Fac_find 22 = .ok (.if_icmp .ge 24, 3) := by decide +kernel
theorem d_Fac_find_25 : decode b_Fac_find 25 = .ok (.aload_n 0, 1) := by decide +kernel
theorem d_Fac_find_26 : decode b_Fac_find 26 = .ok (.getfield 9, 3) := by decide +kernel
theorem d_Fac_find_29 : decode b_Fac_find 29 = .ok (.iload_n 2, 1) := by decide +kernel
theorem d_Fac_find_30 : decode b_Fac_find 30 = .ok (.iaload, 1) := by decide +kernel
theorem d_Fac_find_31 : decode b_Fac_find 31 = .ok (.ifCond .ge 9, 3) := by decide +kernel
theorem d_Fac_find_34 : decode b_Fac_find 34 = .ok (.aload_n 0, 1) := by decide +kernel
theorem d_Fac_find_35 : decode b_Fac_find 35 = .ok (.aload_n 1, 1) := by decide +kernel
theorem d_Fac_find_36 : decode b_Fac_find 36 = .ok (.iload_n 2, 1) := by decide +kernel
theorem d_Fac_find_37 : decode b_Fac_find 37 = .ok (.invokevirtual 34, 3) := by decide +kernel
theorem d_Fac_find_40 : decode b_Fac_find 40 = .ok (.iinc 2 1, 3) := by decide +kernel
theorem d_Fac_find_43 : decode b_Fac_find 43 = .ok (.goto (-28), 3) := by decide +kernel
theorem d_Fac_find_46 : decode b_Fac_find 46 = .ok (.return_, 1) := by decide +kernel
theorem d_Fac_addRound_0 : decode b_Fac_addRound 0 = .ok (.aload_n 0, 1) := by decide +kernel
theorem d_Fac_addRound_1 : decode b_Fac_addRound 1 = .ok (.getfield 18, 3) := by decide +kernel
theorem d_Fac_addRound_4 : decode b_Fac_addRound 4 = .ok (.aload_n 0, 1) := by decide +kernel
theorem d_Fac_addRound_5 : decode b_Fac_addRound 5 = .ok (.getfield 27, 3) := by decide +kernel
theorem d_Fac_addRound_8 : decode b_Fac_addRound 8 = .ok (.iaload, 1) := by decide +kernel
theorem d_Fac_addRound_9 : decode b_Fac_addRound 9 = .ok (.istore_n 3, 1) := by decide +kernel
theorem d_Fac_addRound_10 : decode b_Fac_addRound 10 = .ok (.iload_n 2, 1) := by decide +kernel
theorem d_Fac_addRound_11 : decode b_Fac_addRound 11 = .ok (.istore 4, 2) := by decide +kernel
theorem d_Fac_addRound_13 : decode b_Fac_addRound 13 = .ok (.iload_n 3, 1) := by decide +kernel
theorem d_Fac_addRound_14 : decode b_Fac_addRound 14 = .ok (.bipush 80, 2) := by decide +kernel
theorem d_Fac_addRound_16 : decode b_Fac_addRound 16 = .ok (.if_icmp .ge 46, 3) := by decide +kernel
theorem d_Fac_addRound_19 : decode b_Fac_addRound 19 = .ok (.aload_n 0, 1) := by decide +kernel
theorem d_Fac_addRound_20 : decode b_Fac_addRound 20 = .ok (.getfield 9, 3) := by decide +kernel
theorem d_Fac_addRound_23 : decode b_Fac_addRound 23 = .ok (.iload 4, 2) := by decide +kernel
theorem d_Fac_addRound_25 : decode b_Fac_addRound 25 = .ok (.iaload, 1) := by decide +kernel
theorem d_Fac_addRound_26 : decode b_Fac_addRound 26 = .ok (.ifCond .ge 36, 3) := by decide +kernel
theorem d_Fac_addRound_29 : decode b_Fac_addRound 29 = .ok (.aload_n 0, 1) := by decide +kernel
theorem d_Fac_addRound_30 : decode b_Fac_addRound 30 = .ok (.getfield 9, 3) := by decide +kernel
theorem d_Fac_addRound_33 : decode b_Fac_addRound 33 = .ok (.iload 4, 2) := by decide +kernel
theorem d_Fac_addRound_35 : decode b_Fac_addRound 35 = .ok (.aload_n 0, 1) := by decide +kernel
theorem d_Fac_addRound_36 : decode b_Fac_addRound 36 = .ok (.getfield 27, 3) := by decide +kernel
theorem d_Fac_addRound_39 : decode b_Fac_addRound 39 = .ok (.iastore, 1) := by decide +kernel
theorem d_Fac_addRound_40 : decode b_Fac_addRound 40 = .ok (.aload_n 0, 1) := by decide +kernel
theorem d_Fac_addRound_41 : decode b_Fac_addRound 41 = .ok (.getfield 15, 3) := by decide +kernel
theorem d_Fac_addRound_44 : decode b_Fac_addRound 44 = .ok (.iload_n 3, 1) := by decide +kernel
theorem d_Fac_addRound_45 : decode b_Fac_addRound 45 = .ok (.iload 4, 2) := by decide +kernel
theorem d_Fac_addRound_47 : decode b_Fac_addRound 47 = .ok (.iastore, 1) := by decide +kernel
theorem d_Fac_addRound_48 : decode b_Fac_addRound 48 = .ok (.aload_n 1, 1) := by decide +kernel
theorem d_Fac_addRound_49 : decode b_Fac_addRound 49 = .ok (.iload 4, 2) := by decide +kernel
theorem d_Fac_addRound_51 : decode b_Fac_addRound 51 = .ok (.invokevirtual 38, 3) := by decide +kernel
theorem d_Fac_addRound_54 : decode b_Fac_addRound 54 = .ok (.istore 4, 2) := by decide +kernel
theorem d_Fac_addRound_56 : decode b_Fac_addRound 56 = .ok (.iinc 3 1, 3) := by decide +kernel
theorem d_Fac_addRound_59 : decode b_Fac_addRound 59 = .ok (.goto (-46), 3) := by decide +kernel
theorem d_Fac_addRound_62 : decode b_Fac_addRound 62 = .ok (.aload_n 0, 1) := by decide +kernel
theorem d_Fac_addRound_63 : decode b_Fac_addRound 63 = .ok (.dup, 1) := by decide +kernel
theorem d_Fac_addRound_64 : decode b_Fac_addRound 64 = .ok (.getfield 27, 3) := by decide +kernel
theorem d_Fac_addRound_67 : decode b_Fac_addRound 67 = .ok (.iconst 1, 1) := by decide +kernel
theorem d_Fac_addRound_68 : decode b_Fac_addRound 68 = .ok (.iadd, 1) := by decide +kernel
theorem d_Fac_addRound_69 : decode b_Fac_addRound 69 = .ok (.putfield 27, 3) := by decide +kernel
theorem d_Fac_addRound_72 : decode b_Fac_addRound 72 = .ok (.aload_n 0, 1) := by decide +kernel
theorem d_Fac_addRound_73 : decode b_Fac_addRound 73 = .ok (.getfield 18, 3) := by decide +kernel
theorem d_Fac_addRound_76 : decode b_Fac_addRound 76 = .ok (.aload_n 0, 1) := by decide +kernel
theorem d_Fac_addRound_77 : decode b_Fac_addRound 77 = .ok (.getfield 27, 3) := by decide +kernel
theorem d_Fac_addRound_80 : decode b_Fac_addRound 80 = .ok (.iload_n 3, 1) := by decide +kernel
theorem d_Fac_addRound_81 : decode b_Fac_addRound 81 = .ok (.iastore, 1) := by decide +kernel
theorem d_Fac_addRound_82 : decode b_Fac_addRound 82 = .ok (.return_, 1) := by decide +kernel
theorem d_Fac_has_0 : decode b_Fac_has 0 = .ok (.iload_n 1, 1) := by decide +kernel
theorem d_Fac_has_1 : decode b_Fac_has 1 = .ok (.ifCond .lt 15, 3) := by decide +kernel
theorem d_Fac_has_4 : decode b_Fac_has 4 = .ok (.iload_n 1, 1) := by decide +kernel
theorem d_Fac_has_5 : decode b_Fac_has 5 = .ok (.aload_n 0, 1) := by decide +kernel
theorem d_Fac_has_6 : decode b_Fac_has 6 = .ok (.getfield 27, 3) := by decide +kernel
theorem d_Fac_has_9 : decode b_Fac_has 9 = .ok (.if_icmp .ge 7, 3) := by decide +kernel
theorem d_Fac_has_12 : decode b_Fac_has 12 = .ok (.iconst 1, 1) := by decide +kernel
theorem d_Fac_has_13 : decode b_Fac_has 13 = .ok (.goto 4, 3) := by decide +kernel
theorem d_Fac_has_16 : decode b_Fac_has 16 = .ok (.iconst 0, 1) := by decide +kernel
theorem d_Fac_has_17 : decode b_Fac_has 17 = .ok (.ireturn, 1) := by decide +kernel
theorem d_Fac_size_0 : decode b_Fac_size 0 = .ok (.aload_n 0, 1) := by decide +kernel
theorem d_Fac_size_1 : decode b_Fac_size 1 = .ok (.getfield 18, 3) := by decide +kernel
theorem d_Fac_size_4 : decode b_Fac_size 4 = .ok (.iload_n 1, 1) := by decide +kernel
theorem d_Fac_size_5 : decode b_Fac_size 5 = .ok (.iconst 1, 1) := by decide +kernel
theorem d_Fac_size_6 : decode b_Fac_size 6 = .ok (.iadd, 1) := by decide +kernel
theorem d_Fac_size_7 : decode b_Fac_size 7 = .ok (.iaload, 1) := by decide +kernel
theorem d_Fac_size_8 : decode b_Fac_size 8 = .ok (.aload_n 0, 1) := by decide +kernel
theorem d_Fac_size_9 : decode b_Fac_size 9 = .ok (.getfield 18, 3) := by decide +kernel
theorem d_Fac_size_12 : decode b_Fac_size 12 = .ok (.iload_n 1, 1) := by decide +kernel
theorem d_Fac_size_13 : decode b_Fac_size 13 = .ok (.iaload, 1) := by decide +kernel
theorem d_Fac_size_14 : decode b_Fac_size 14 = .ok (.isub, 1) := by decide +kernel
theorem d_Fac_size_15 : decode b_Fac_size 15 = .ok (.ireturn, 1) := by decide +kernel
theorem d_Fac_dart_0 : decode b_Fac_dart 0 = .ok (.aload_n 0, 1) := by decide +kernel
theorem d_Fac_dart_1 : decode b_Fac_dart 1 = .ok (.getfield 15, 3) := by decide +kernel
theorem d_Fac_dart_4 : decode b_Fac_dart 4 = .ok (.aload_n 0, 1) := by decide +kernel
theorem d_Fac_dart_5 : decode b_Fac_dart 5 = .ok (.getfield 18, 3) := by decide +kernel
theorem d_Fac_dart_8 : decode b_Fac_dart 8 = .ok (.iload_n 1, 1) := by decide +kernel
theorem d_Fac_dart_9 : decode b_Fac_dart 9 = .ok (.iaload, 1) := by decide +kernel
theorem d_Fac_dart_10 : decode b_Fac_dart 10 = .ok (.iload_n 2, 1) := by decide +kernel
theorem d_Fac_dart_11 : decode b_Fac_dart 11 = .ok (.iadd, 1) := by decide +kernel
theorem d_Fac_dart_12 : decode b_Fac_dart 12 = .ok (.iaload, 1) := by decide +kernel
theorem d_Fac_dart_13 : decode b_Fac_dart 13 = .ok (.ireturn, 1) := by decide +kernel
theorem d_Pie_init_0 : decode b_Pie_init 0 = .ok (.aload_n 0, 1) := by decide +kernel
theorem d_Pie_init_1 : decode b_Pie_init 1 = .ok (.invokespecial 3, 3) := by decide +kernel
theorem d_Pie_init_4 : decode b_Pie_init 4 = .ok (.aload_n 0, 1) := by decide +kernel
theorem d_Pie_init_5 : decode b_Pie_init 5 = .ok (.bipush 20, 2) := by decide +kernel
theorem d_Pie_init_7 : decode b_Pie_init 7 = .ok (.newarray .int, 2) := by decide +kernel
theorem d_Pie_init_9 : decode b_Pie_init 9 = .ok (.putfield 9, 3) := by decide +kernel
theorem d_Pie_init_12 : decode b_Pie_init 12 = .ok (.aload_n 0, 1) := by decide +kernel
theorem d_Pie_init_13 : decode b_Pie_init 13 = .ok (.bipush 40, 2) := by decide +kernel
theorem d_Pie_init_15 : decode b_Pie_init 15 = .ok (.newarray .int, 2) := by decide +kernel
theorem d_Pie_init_17 : decode b_Pie_init 17 = .ok (.putfield 15, 3) := by decide +kernel
theorem d_Pie_init_20 : decode b_Pie_init 20 = .ok (.return_, 1) := by decide +kernel
theorem d_Pie_find_0 : decode b_Pie_find 0 = .ok (.aload_n 0, 1) := by decide +kernel
theorem d_Pie_find_1 : decode b_Pie_find 1 = .ok (.iload_n 1, 1) := by decide +kernel
theorem d_Pie_find_2 : decode b_Pie_find 2 = .ok (.aload_n 2, 1) := by decide +kernel
theorem d_Pie_find_3 : decode b_Pie_find 3 = .ok (.invokevirtual 18, 3) := by decide +kernel
theorem d_Pie_find_6 : decode b_Pie_find 6 = .ok (.aload_n 0, 1) := by decide +kernel
theorem d_Pie_find_7 : decode b_Pie_find 7 = .ok (.aload_n 2, 1) := by decide +kernel
theorem d_Pie_find_8 : decode b_Pie_find 8 = .ok (.invokevirtual 22, 3) := by decide +kernel
theorem d_Pie_find_11 : decode b_Pie_find 11 = .ok (.return_, 1) := by decide +kernel
theorem d_Pie_findPieces_0 : decode b_Pie_findPieces 0 = .ok (.iconst 0, 1) := by decide +kernel
theorem d_Pie_findPieces_1 : decode b_Pie_findPieces 1 = .ok (.istore_n 3, 1) := by decide +kernel
theorem d_Pie_findPieces_2 : decode b_Pie_findPieces 2 = .ok (.iload_n 3, 1) := by decide +kernel
theorem d_Pie_findPieces_3 : decode b_Pie_findPieces 3 = .ok (.iload_n 1, 1) := by decide +kernel
theorem d_Pie_findPieces_4 : decode b_Pie_findPieces 4 = .ok (.if_icmp .ge 16, 3) := by decide +kernel
theorem d_Pie_findPieces_7 : decode b_Pie_findPieces 7 = .ok (.aload_n 0, 1) := by decide +kernel
theorem d_Pie_findPieces_8 : decode b_Pie_findPieces 8 = .ok (.getfield 9, 3) := by decide +kernel
theorem d_Pie_findPieces_11 : decode b_Pie_findPieces 11 = .ok (.iload_n 3, 1) := by decide +kernel
theorem d_Pie_findPieces_12 : decode b_Pie_findPieces 12 = .ok (.iload_n 3, 1) := by decide +kernel
theorem d_Pie_findPieces_13 : decode b_Pie_findPieces 13 = .ok (.iastore, 1) := by decide +kernel
theorem d_Pie_findPieces_14 : decode b_Pie_findPieces 14 = .ok (.iinc 3 1, 3) := by decide +kernel
theorem d_Pie_findPieces_17 : decode b_Pie_findPieces 17 = .ok (.goto (-15), 3) := by decide +kernel
theorem d_Pie_findPieces_20 : decode b_Pie_findPieces 20 = .ok (.aload_n 0, 1) := by decide +kernel
theorem d_Pie_findPieces_21 : decode b_Pie_findPieces 21 = .ok (.iload_n 1, 1) := by decide +kernel
theorem d_Pie_findPieces_22 : decode b_Pie_findPieces 22 = .ok (.putfield 26, 3) := by decide +kernel
theorem d_Pie_findPieces_25 : decode b_Pie_findPieces 25 = .ok (.iconst 0, 1) := by decide +kernel
theorem d_Pie_findPieces_26 : decode b_Pie_findPieces 26 = .ok (.istore_n 3, 1) := by decide +kernel
theorem d_Pie_findPieces_27 : decode b_Pie_findPieces 27 = .ok (.iload_n 3, 1) := by decide +kernel
theorem d_Pie_findPieces_28 : decode b_Pie_findPieces 28 = .ok (.aload_n 2, 1) := by decide +kernel
theorem d_Pie_findPieces_29 : decode b_Pie_findPieces 29 = .ok (.getfield 30, 3) := by decide +kernel
theorem d_Pie_findPieces_32 : decode b_Pie_findPieces 32 = .ok (.if_icmp .ge 40, 3) := by decide +kernel
theorem d_Pie_findPieces_35 : decode b_Pie_findPieces 35 = .ok (.aload_n 0, 1) := by decide +kernel
theorem d_Pie_findPieces_36 : decode b_Pie_findPieces 36 = .ok (.aload_n 0, 1) := by decide +kernel
theorem d_Pie_findPieces_37 : decode b_Pie_findPieces 37 = .ok (.getfield 9, 3) := by decide +kernel
theorem d_Pie_findPieces_40 : decode b_Pie_findPieces 40 = .ok (.aload_n 2, 1) := by decide +kernel
theorem d_Pie_findPieces_41 : decode b_Pie_findPieces 41 = .ok (.getfield 33, 3) := by decide +kernel
theorem d_Pie_findPieces_44 : decode b_Pie_findPieces 44 = .ok (.iload_n 3, 1) := by decide +kernel
theorem d_Pie_findPieces_45 : decode b_Pie_findPieces 45 = .ok (.iaload, 1) := by decide +kernel
theorem d_Pie_findPieces_46 : decode b_Pie_findPieces 46 = .ok (.iconst 2, 1) := by decide +kernel
theorem d_Pie_findPieces_47 : decode b_Pie_findPieces 47 = .ok (.ishr, 1) := by decide +kernel
theorem d_Pie_findPieces_48 : decode b_Pie_findPieces 48 = .ok (.iaload, 1) := by decide +kernel
theorem d_Pie_findPieces_49 : decode b_Pie_findPieces 49 = .ok (.aload_n 0, 1) := by decide +kernel
theorem d_Pie_findPieces_50 : decode b_Pie_findPieces 50 = .ok (.getfield 9, 3) := by decide +kernel
theorem d_Pie_findPieces_53 : decode b_Pie_findPieces 53 = .ok (.aload_n 2, 1) := by decide +kernel
theorem d_Pie_findPieces_54 : decode b_Pie_findPieces 54 = .ok (.getfield 36, 3) := by decide +kernel
theorem d_Pie_findPieces_57 : decode b_Pie_findPieces 57 = .ok (.iload_n 3, 1) := by decide +kernel
theorem d_Pie_findPieces_58 : decode b_Pie_findPieces 58 = .ok (.iaload, 1) := by decide +kernel
theorem d_Pie_findPieces_59 : decode b_Pie_findPieces 59 = .ok (.iconst 2, 1) := by decide +kernel
theorem d_Pie_findPieces_60 : decode b_Pie_findPieces 60 = .ok (.ishr, 1) := by decide +kernel
theorem d_Pie_findPieces_61 : decode b_Pie_findPieces 61 = .ok (.iaload, 1) := by decide +kernel
theorem d_Pie_findPieces_62 : decode b_Pie_findPieces 62 = .ok (.iload_n 1, 1) := by decide +kernel
theorem d_Pie_findPieces_63 : decode b_Pie_findPieces 63 = .ok (.invokevirtual 39, 3) := by decide +kernel
theorem d_Pie_findPieces_66 : decode b_Pie_findPieces 66 = .ok (.iinc 3 1, 3) := by decide +kernel
theorem d_Pie_findPieces_69 : decode b_Pie_findPieces 69 = .ok (.goto (-42), 3) := by decide +kernel
theorem d_Pie_findPieces_72 : decode b_Pie_findPieces 72 = .ok (.return_, 1) := by decide +kernel
theorem d_Pie_unite_0 : decode b_Pie_unite 0 = .ok (.iload_n 1, 1) := by decide +kernel
theorem d_Pie_unite_1 : decode b_Pie_unite 1 = .ok (.iload_n 2, 1) := by decide +kernel
theorem d_Pie_unite_2 : decode b_Pie_unite 2 = .ok (.if_icmp .ne 4, 3) := by decide +kernel
theorem d_Pie_unite_5 : decode b_Pie_unite 5 = .ok (.return_, 1) := by decide +kernel
theorem d_Pie_unite_6 : decode b_Pie_unite 6 = .ok (.iload_n 1, 1) := by decide +kernel
theorem d_Pie_unite_7 : decode b_Pie_unite 7 = .ok (.iload_n 2, 1) := by decide +kernel
theorem d_Pie_unite_8 : decode b_Pie_unite 8 = .ok (.invokestatic 43, 3) := by decide +kernel
theorem d_Pie_unite_11 : decode b_Pie_unite 11 = .ok (.istore 4, 2) := by decide +kernel
theorem d_Pie_unite_13 : decode b_Pie_unite 13 = .ok (.iload_n 1, 1) := by decide +kernel
theorem d_Pie_unite_14 : decode b_Pie_unite 14 = .ok (.iload_n 2, 1) := by decide +kernel
theorem d_Pie_unite_15 : decode b_Pie_unite 15 = .ok (.invokestatic 49, 3) := by decide +kernel
theorem d_Pie_unite_18 : decode b_Pie_unite 18 = .ok (.istore 5, 2) := by decide +kernel
theorem d_Pie_unite_20 : decode b_Pie_unite 20 = .ok (.iload 5, 2) := by decide +kernel
theorem d_Pie_unite_22 : decode b_Pie_unite 22 = .ok (.istore 6, 2) := by decide +kernel
theorem d_Pie_unite_24 : decode b_Pie_unite 24 = .ok (.iload 6, 2) := by decide +kernel
theorem d_Pie_unite_26 : decode b_Pie_unite 26 = .ok (.iload_n 3, 1) := by decide +kernel
theorem d_Pie_unite_27 : decode b_Pie_unite 27 = .ok (.if_icmp .ge 30, 3) := by decide +kernel
theorem d_Pie_unite_30 : decode b_Pie_unite 30 = .ok (.aload_n 0, 1) := by decide +kernel
theorem d_Pie_unite_31 : decode b_Pie_unite 31 = .ok (.getfield 9, 3) := by decide +kernel
theorem d_Pie_unite_34 : decode b_Pie_unite 34 = .ok (.iload 6, 2) := by decide +kernel
theorem d_Pie_unite_36 : decode b_Pie_unite 36 = .ok (.iaload, 1) := by decide +kernel
theorem d_Pie_unite_37 : decode b_Pie_unite 37 = .ok (.iload 5, 2) := by decide +kernel
theorem d_Pie_unite_39 : decode b_Pie_unite 39 = .ok (.if_icmp .ne 12, 3) := by decide +kernel
theorem d_Pie_unite_42 : decode b_Pie_unite 42 = .ok (.aload_n 0, 1) := by decide +kernel
theorem d_Pie_unite_43 : decode b_Pie_unite 43 = .ok (.getfield 9, 3) := by decide +kernel
theorem d_Pie_unite_46 : decode b_Pie_unite 46 = .ok (.iload 6, 2) := by decide +kernel
theorem d_Pie_unite_48 : decode b_Pie_unite 48 = .ok (.iload 4, 2) := by decide +kernel
theorem d_Pie_unite_50 : decode b_Pie_unite 50 = .ok (.iastore, 1) := by decide +kernel
theorem d_Pie_unite_51 : decode b_Pie_unite 51 = .ok (.iinc 6 1, 3) := by decide +kernel
theorem d_Pie_unite_54 : decode b_Pie_unite 54 = .ok (.goto (-30), 3) := by decide +kernel
theorem d_Pie_unite_57 : decode b_Pie_unite 57 = .ok (.aload_n 0, 1) := by decide +kernel
theorem d_Pie_unite_58 : decode b_Pie_unite 58 = .ok (.dup, 1) := by decide +kernel
theorem d_Pie_unite_59 : decode b_Pie_unite 59 = .ok (.getfield 26, 3) := by decide +kernel
theorem d_Pie_unite_62 : decode b_Pie_unite 62 = .ok (.iconst 1, 1) := by decide +kernel
theorem d_Pie_unite_63 : decode b_Pie_unite 63 = .ok (.isub, 1) := by decide +kernel
theorem d_Pie_unite_64 : decode b_Pie_unite 64 = .ok (.putfield 26, 3) := by decide +kernel
theorem d_Pie_unite_67 : decode b_Pie_unite 67 = .ok (.return_, 1) := by decide +kernel
theorem d_Pie_countComponents_0 : decode b_Pie_countComponents 0 = .ok (.aload_n 0, 1) := by decide +kernel
theorem d_Pie_countComponents_1 : decode b_Pie_countComponents 1 = .ok (.getfield 15, 3) := by decide +kernel
theorem d_Pie_countComponents_4 : decode b_Pie_countComponents 4 = .ok (.iconst (-1), 1) := by decide +kernel
theorem d_Pie_countComponents_5 : decode b_Pie_countComponents 5 = .ok (.invokestatic 52, 3) := by decide +kernel
theorem d_Pie_countComponents_8 : decode b_Pie_countComponents 8 = .ok (.aload_n 0, 1) := by decide +kernel
theorem d_Pie_countComponents_9 : decode b_Pie_countComponents 9 = .ok (.iconst 0, 1) := by decide +kernel
theorem d_Pie_countComponents_10 : decode b_Pie_countComponents 10 = .ok (.putfield 58, 3) := by decide +kernel
theorem d_Pie_countComponents_13 : decode b_Pie_countComponents 13 = .ok (.iconst 0, 1) := by decide +kernel
theorem d_Pie_countComponents_14 : decode b_Pie_countComponents 14 = .ok (.istore_n 2, 1) := by decide +kernel
theorem d_Pie_countComponents_15 : decode b_Pie_countComponents 15 = .ok (.iload_n 2, 1) := by decide +kernel
theorem d_Pie_countComponents_16 : decode b_Pie_countComponents 16 = .ok (.aload_n 1, 1) := by decide +kernel
theorem d_Pie_countComponents_17 : decode b_Pie_countComponents 17 = .ok (.getfield 30, 3) := by decide +kernel
theorem d_Pie_countComponents_20 : decode b_Pie_countComponents 20 = .ok (.if_icmp .ge 34, 3) := by decide +kernel
theorem d_Pie_countComponents_23 : decode b_Pie_countComponents 23 = .ok (.aload_n 0, 1) := by decide +kernel
theorem d_Pie_countComponents_24 : decode b_Pie_countComponents 24 = .ok (.getfield 15, 3) := by decide +kernel
theorem d_Pie_countComponents_27 : decode b_Pie_countComponents 27 = .ok (.iload_n 2, 1) := by decide +kernel
theorem d_Pie_countComponents_28 : decode b_Pie_countComponents 28 = .ok (.iaload, 1) := by decide +kernel
theorem d_Pie_countComponents_29 : decode b_Pie_countComponents 29 = .ok (.ifCond .ge 19, 3) := by decide +kernel
theorem d_Pie_countComponents_32 : decode b_Pie_countComponents 32 = .ok (.aload_n 0, 1) := by decide +kernel
theorem d_Pie_countComponents_33 : decode b_Pie_countComponents 33 = .ok (.aload_n 1, 1) := by decide +kernel
theorem d_Pie_countComponents_34 : decode b_Pie_countComponents 34 = .ok (.iload_n 2, 1) := by decide +kernel
theorem d_Pie_countComponents_35 : decode b_Pie_countComponents 35 = .ok (.invokevirtual 61, 3) := by decide +kernel
theorem d_Pie_countComponents_38 : decode b_Pie_countComponents 38 = .ok (.aload_n 0, 1) := by decide +kernel
theorem d_Pie_countComponents_39 : decode b_Pie_countComponents 39 = .ok (.dup, 1) := by decide +kernel
theorem d_Pie_countComponents_40 : decode b_Pie_countComponents 40 = .ok (.getfield 58, 3) := by decide +kernel
theorem d_Pie_countComponents_43 : decode b_Pie_countComponents 43 = .ok (.iconst 1, 1) := by decide +kernel
theorem d_Pie_countComponents_44 : decode b_Pie_countComponents 44 = .ok (.iadd, 1) := by decide +kernel
theorem d_Pie_countComponents_45 : decode b_Pie_countComponents 45 = .ok (.putfield 58, 3) := by decide +kernel
theorem d_Pie_countComponents_48 : decode b_Pie_countComponents 48 = .ok (.iinc 2 1, 3) := by decide +kernel
theorem d_Pie_countComponents_51 : decode b_Pie_countComponents 51 = .ok (.goto (-36), 3) := by decide +kernel
theorem d_Pie_countComponents_54 : decode b_Pie_countComponents 54 = .ok (.return_, 1) := by decide +kernel
theorem d_Pie_followComponent_0 : decode b_Pie_followComponent 0 = .ok (.iload_n 2, 1) := by decide +kernel
theorem d_Pie_followComponent_1 : decode b_Pie_followComponent 1 = .ok (.istore_n 3, 1) := by decide +kernel
theorem d_Pie_followComponent_2 : decode b_Pie_followComponent 2 = .ok (.iconst 0, 1) := by decide +kernel
theorem d_Pie_followComponent_3 : decode b_Pie_followComponent 3 = .ok (.istore 4, 2) := by decide +kernel
theorem d_Pie_followComponent_5 : decode b_Pie_followComponent 5 = .ok (.iload 4, 2) := by decide +kernel
theorem d_Pie_followComponent_7 : decode b_Pie_followComponent 7 = .ok (.bipush 40, 2) := by decide +kernel
theorem d_Pie_followComponent_9 : decode b_Pie_followComponent 9 = .ok (.if_icmp .ge 42, 3) := by decide +kernel
theorem d_Pie_followComponent_12 : decode b_Pie_followComponent 12 = .ok (.aload_n 0, 1) := by decide +kernel
theorem d_Pie_followComponent_13 : decode b_Pie_followComponent 13 = .ok (.getfield 15, 3) := by decide +kernel
theorem d_Pie_followComponent_16 : decode b_Pie_followComponent 16 = .ok (.iload_n 3, 1) := by decide +kernel
theorem d_Pie_followComponent_17 : decode b_Pie_followComponent 17 = .ok (.iaload, 1) := by decide +kernel
theorem d_Pie_followComponent_18 : decode b_Pie_followComponent 18 = .ok (.ifCond .ge 33, 3) := by decide +kernel
theorem d_Pie_followComponent_21 : decode b_Pie_followComponent 21 = .ok (.aload_n 0, 1) := by decide +kernel
theorem d_Pie_followComponent_22 : decode b_Pie_followComponent 22 = .ok (.getfield 15, 3) := by decide +kernel
theorem d_Pie_followComponent_25 : decode b_Pie_followComponent 25 = .ok (.iload_n 3, 1) := by decide +kernel
theorem d_Pie_followComponent_26 : decode b_Pie_followComponent 26 = .ok (.aload_n 0, 1) := by decide +kernel
theorem d_Pie_followComponent_27 : decode b_Pie_followComponent 27 = .ok (.getfield 58, 3) := by decide +kernel
theorem d_Pie_followComponent_30 : decode b_Pie_followComponent 30 = .ok (.iastore, 1) := by decide +kernel
theorem d_Pie_followComponent_31 : decode b_Pie_followComponent 31 = .ok (.aload_n 1, 1) := by decide +kernel
theorem d_Pie_followComponent_32 : decode b_Pie_followComponent 32 = .ok (.getfield 65, 3) := by decide +kernel
theorem d_Pie_followComponent_35 : decode b_Pie_followComponent 35 = .ok (.aload_n 1, 1) := by decide +kernel
theorem d_Pie_followComponent_36 : decode b_Pie_followComponent 36 = .ok (.getfield 36, 3) := by decide +kernel
theorem d_Pie_followComponent_39 : decode b_Pie_followComponent 39 = .ok (.iload_n 3, 1) := by decide +kernel
theorem d_Pie_followComponent_40 : decode b_Pie_followComponent 40 = .ok (.iaload, 1) := by decide +kernel
theorem d_Pie_followComponent_41 : decode b_Pie_followComponent 41 = .ok (.iconst 2, 1) := by decide +kernel
theorem d_Pie_followComponent_42 : decode b_Pie_followComponent 42 = .ok (.ixor, 1) := by decide +kernel
theorem d_Pie_followComponent_43 : decode b_Pie_followComponent 43 = .ok (.iaload, 1) := by decide +kernel
theorem d_Pie_followComponent_44 : decode b_Pie_followComponent 44 = .ok (.istore_n 3, 1) := by decide +kernel
theorem d_Pie_followComponent_45 : decode b_Pie_followComponent 45 = .ok (.iinc 4 1, 3) := by decide +kernel
theorem d_Pie_followComponent_48 : decode b_Pie_followComponent 48 = .ok (.goto (-43), 3) := by decide +kernel
theorem d_Pie_followComponent_51 : decode b_Pie_followComponent 51 = .ok (.return_, 1) := by decide +kernel
