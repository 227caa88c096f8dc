theorem d_Edg_init_0 : decode b_Edg_init 0 = .ok (.aload_n 0, 1) := by decide +kernel
theorem d_Edg_init_1 : decode b_Edg_init 1 = .ok (.invokespecial 3, 3) := by decide +kernel
theorem d_Edg_init_4 : decode b_Edg_init 4 = .ok (.aload_n 0, 1) := by decide +kernel
theorem d_Edg_init_5 : decode b_Edg_init 5 = .ok (.bipush 80, 2) := by decide +kernel
theorem d_Edg_init_7 : decode b_Edg_init 7 = .ok (.newarray .int, 2) := by decide +kernel
theorem d_Edg_init_9 : decode b_Edg_init 9 = .ok (.putfield 9, 3) := by decide +kernel
theorem d_Edg_init_12 : decode b_Edg_init 12 = .ok (.aload_n 0, 1) := by decide +kernel
theorem d_Edg_init_13 : decode b_Edg_init 13 = .ok (.bipush 40, 2) := by decide +kernel
theorem d_Edg_init_15 : decode b_Edg_init 15 = .ok (.newarray .int, 2) := by decide +kernel
theorem d_Edg_init_17 : decode b_Edg_init 17 = .ok (.putfield 15, 3) := by decide +kernel
theorem d_Edg_init_20 : decode b_Edg_init 20 = .ok (.aload_n 0, 1) := by decide +kernel
theorem d_Edg_init_21 : decode b_Edg_init 21 = .ok (.bipush 40, 2) := by decide +kernel
theorem d_Edg_init_23 : decode b_Edg_init 23 = .ok (.newarray .int, 2) := by decide +kernel
theorem d_Edg_init_25 : decode b_Edg_init 25 = .ok (.putfield 18, 3) := by decide +kernel
theorem d_Edg_init_28 : decode b_Edg_init 28 = .ok (.aload_n 0, 1) := by decide +kernel
theorem d_Edg_init_29 : decode b_Edg_init 29 = .ok (.bipush 40, 2) := by decide +kernel
theorem d_Edg_init_31 : decode b_Edg_init 31 = .ok (.newarray .int, 2) := by decide +kernel
theorem d_Edg_init_33 : decode b_Edg_init 33 = .ok (.putfield 21, 3) := by decide +kernel
theorem d_Edg_init_36 : decode b_Edg_init 36 = .ok (.aload_n 0, 1) := by decide +kernel
theorem d_Edg_init_37 : decode b_Edg_init 37 = .ok (.bipush 80, 2) := by decide +kernel
theorem d_Edg_init_39 : decode b_Edg_init 39 = .ok (.newarray .int, 2) := by decide +kernel
theorem d_Edg_init_41 : decode b_Edg_init 41 = .ok (.putfield 24, 3) := by decide +kernel
theorem d_Edg_init_44 : decode b_Edg_init 44 = .ok (.return_, 1) := by decide +kernel
theorem d_Edg_find_0 : decode b_Edg_find 0 = .ok (.aload_n 0, 1) := by decide +kernel
theorem d_Edg_find_1 : decode b_Edg_find 1 = .ok (.aload_n 1, 1) := by decide +kernel
theorem d_Edg_find_2 : decode b_Edg_find 2 = .ok (.invokevirtual 27, 3) := by decide +kernel
theorem d_Edg_find_5 : decode b_Edg_find 5 = .ok (.aload_n 0, 1) := by decide +kernel
theorem d_Edg_find_6 : decode b_Edg_find 6 = .ok (.aload_n 1, 1) := by decide +kernel
theorem d_Edg_find_7 : decode b_Edg_find 7 = .ok (.invokevirtual 31, 3) := by decide +kernel
theorem d_Edg_find_10 : decode b_Edg_find 10 = .ok (.ifCond .ne 5, 3) := by decide +kernel
theorem d_Edg_find_13 : decode b_Edg_find 13 = .ok (.iconst 1, 1) := by decide +kernel
theorem d_Edg_find_14 : decode b_Edg_find 14 = .ok (.ireturn, 1) := by decide +kernel
theorem d_Edg_find_15 : decode b_Edg_find 15 = .ok (.aload_n 0, 1) := by decide +kernel
theorem d_Edg_find_16 : decode b_Edg_find 16 = .ok (.aload_n 1, 1) := by decide +kernel
theorem d_Edg_find_17 : decode b_Edg_find 17 = .ok (.invokevirtual 35, 3) := by decide +kernel
theorem d_Edg_find_20 : decode b_Edg_find 20 = .ok (.ifCond .eq 7, 3) := by decide +kernel
theorem d_Edg_find_23 : decode b_Edg_find 23 = .ok (.iconst 0, 1) := by decide +kernel
theorem d_Edg_find_24 : decode b_Edg_find 24 = .ok (.goto 4, 3) := by decide +kernel
theorem d_Edg_find_27 : decode b_Edg_find 27 = .ok (.iconst 2, 1) := by decide +kernel
theorem d_Edg_find_28 : decode b_Edg_find 28 = .ok (.ireturn, 1) := by decide +kernel
theorem d_Edg_sortPlaces_0 : decode b_Edg_sortPlaces 0 = .ok (.iconst 0, 1) := by decide +kernel
theorem d_Edg_sortPlaces_1 : decode b_Edg_sortPlaces 1 = .ok (.istore_n 2, 1) := by decide +kernel
theorem d_Edg_sortPlaces_2 : decode b_Edg_sortPlaces 2 = .ok (.iload_n 2, 1) := by decide +kernel
theorem d_Edg_sortPlaces_3 : decode b_Edg_sortPlaces 3 = .ok (.iconst 4, 1) := by decide +kernel
theorem d_Edg_sortPlaces_4 : decode b_Edg_sortPlaces 4 = .ok (.aload_n 1, 1) := by decide +kernel
theorem d_Edg_sortPlaces_5 : decode b_Edg_sortPlaces 5 = .ok (.getfield 38, 3) := by decide +kernel
theorem d_Edg_sortPlaces_8 : decode b_Edg_sortPlaces 8 = .ok (.imul, 1) := by decide +kernel
theorem d_Edg_sortPlaces_9 : decode b_Edg_sortPlaces 9 = .ok (.if_icmp .ge 72, 3) := by decide +kernel
theorem d_Edg_sortPlaces_12 : decode b_Edg_sortPlaces 12 = .ok (.aload_n 1, 1) := by decide +kernel
theorem d_Edg_sortPlaces_13 : decode b_Edg_sortPlaces 13 = .ok (.getfield 44, 3) := by decide +kernel
theorem d_Edg_sortPlaces_16 : decode b_Edg_sortPlaces 16 = .ok (.iload_n 2, 1) := by decide +kernel
theorem d_Edg_sortPlaces_17 : decode b_Edg_sortPlaces 17 = .ok (.iaload, 1) := by decide +kernel
theorem d_Edg_sortPlaces_18 : decode b_Edg_sortPlaces 18 = .ok (.istore_n 3, 1) := by decide +kernel
theorem d_Edg_sortPlaces_19 : decode b_Edg_sortPlaces 19 = .ok (.iload_n 2, 1) := by decide +kernel
theorem d_Edg_sortPlaces_20 : decode b_Edg_sortPlaces 20 = .ok (.istore 4, 2) := by decide +kernel
theorem d_Edg_sortPlaces_22 : decode b_Edg_sortPlaces 22 = .ok (.iload 4, 2) := by decide +kernel
theorem d_Edg_sortPlaces_24 : decode b_Edg_sortPlaces 24 = .ok (.ifCond .le 43, 3) := by decide +kernel
theorem d_Edg_sortPlaces_27 : decode b_Edg_sortPlaces 27 = .ok (.aload_n 1, 1) := by decide +kernel
theorem d_Edg_sortPlaces_28 : decode b_Edg_sortPlaces 28 = .ok (.getfield 44, 3) := by decide +kernel
theorem d_Edg_sortPlaces_31 : decode b_Edg_sortPlaces 31 = .ok (.aload_n 0, 1) := by decide +kernel
theorem d_Edg_sortPlaces_32 : decode b_Edg_sortPlaces 32 = .ok (.getfield 9, 3) := by decide +kernel
theorem d_Edg_sortPlaces_35 : decode b_Edg_sortPlaces 35 = .ok (.iload 4, 2) := by decide +kernel
theorem d_Edg_sortPlaces_37 : decode b_Edg_sortPlaces 37 = .ok (.iconst 1, 1) := by decide +kernel
theorem d_Edg_sortPlaces_38 : decode b_Edg_sortPlaces 38 = .ok (.isub, 1) := by decide +kernel
theorem d_Edg_sortPlaces_39 : decode b_Edg_sortPlaces 39 = .ok (.iaload, 1) := by decide +kernel
theorem d_Edg_sortPlaces_40 : decode b_Edg_sortPlaces 40 = .ok (.iaload, 1) := by decide +kernel
theorem d_Edg_sortPlaces_41 : decode b_Edg_sortPlaces 41 = .ok (.iload_n 3, 1) := by decide +kernel
theorem d_Edg_sortPlaces_42 : decode b_Edg_sortPlaces 42 = .ok (.if_icmp .le 25, 3) := by decide +kernel
theorem d_Edg_sortPlaces_45 : decode b_Edg_sortPlaces 45 = .ok (.aload_n 0, 1) := by decide +kernel
theorem d_Edg_sortPlaces_46 : decode b_Edg_sortPlaces 46 = .ok (.getfield 9, 3) := by decide +kernel
theorem d_Edg_sortPlaces_49 : decode b_Edg_sortPlaces 49 = .ok (.iload 4, 2) := by decide +kernel
theorem d_Edg_sortPlaces_51 : decode b_Edg_sortPlaces 51 = .ok (.aload_n 0, 1) := by decide +kernel
theorem d_Edg_sortPlaces_52 : decode b_Edg_sortPlaces 52 = .ok (.getfield 9, 3) := by decide +kernel
theorem d_Edg_sortPlaces_55 : decode b_Edg_sortPlaces 55 = .ok (.iload 4, 2) := by decide +kernel
theorem d_Edg_sortPlaces_57 : decode b_Edg_sortPlaces 57 = .ok (.iconst 1, 1) := by decide +kernel
theorem d_Edg_sortPlaces_58 : decode b_Edg_sortPlaces 58 = .ok (.isub, 1) := by decide +kernel
theorem d_Edg_sortPlaces_59 : decode b_Edg_sortPlaces 59 = .ok (.iaload, 1) := by decide +kernel
theorem d_Edg_sortPlaces_60 : decode b_Edg_sortPlaces 60 = .ok (.iastore, 1) := by decide +kernel
theorem d_Edg_sortPlaces_61 : decode b_Edg_sortPlaces 61 = .ok (.iinc 4 (-1), 3) := by decide +kernel
theorem d_Edg_sortPlaces_64 : decode b_Edg_sortPlaces 64 = .ok (.goto (-42), 3) := by decide +kernel
theorem d_Edg_sortPlaces_67 : decode b_Edg_sortPlaces 67 = .ok (.aload_n 0, 1) := by decide +kernel
theorem d_Edg_sortPlaces_68 : decode b_Edg_sortPlaces 68 = .ok (.getfield 9, 3) := by decide +kernel
theorem d_Edg_sortPlaces_71 : decode b_Edg_sortPlaces 71 = .ok (.iload 4, 2) := by decide +kernel
theorem d_Edg_sortPlaces_73 : decode b_Edg_sortPlaces 73 = .ok (.iload_n 2, 1) := by decide +kernel
theorem d_Edg_sortPlaces_74 : decode b_Edg_sortPlaces 74 = .ok (.iastore, 1) := by decide +kernel
theorem d_Edg_sortPlaces_75 : decode b_Edg_sortPlaces 75 = .ok (.iinc 2 1, 3) := by decide +kernel
theorem d_Edg_sortPlaces_78 : decode b_Edg_sortPlaces 78 = .ok (.goto (-76), 3) := by decide +kernel
theorem d_Edg_sortPlaces_81 : decode b_Edg_sortPlaces 81 = .ok (.return_, 1) := by decide +kernel
theorem d_Edg_everyLabelStandsTwice_0 : decode b_Edg_everyLabelStandsTwice 0 = .ok (.iconst 0, 1) := by decide +kernel
theorem d_Edg_everyLabelStandsTwice_1 : decode b_Edg_everyLabelStandsTwice 1 = .ok (.istore_n 2, 1) := by decide +kernel
theorem d_Edg_everyLabelStandsTwice_2 : decode b_Edg_everyLabelStandsTwice 2 = .ok (.iconst 0, 1) := by decide +kernel
theorem d_Edg_everyLabelStandsTwice_3 : decode b_Edg_everyLabelStandsTwice 3 = .ok (.istore_n 3, 1) := by decide +kernel
theorem d_Edg_everyLabelStandsTwice_4 : decode b_Edg_everyLabelStandsTwice 4 = .ok (.iload_n 3, 1) := by decide +kernel
theorem d_Edg_everyLabelStandsTwice_5 : decode b_Edg_everyLabelStandsTwice 5 = .ok (.iconst 1, 1) := by decide +kernel
theorem d_Edg_everyLabelStandsTwice_6 : decode b_Edg_everyLabelStandsTwice 6 = .ok (.iadd, 1) := by decide +kernel
theorem d_Edg_everyLabelStandsTwice_7 : decode b_Edg_everyLabelStandsTwice 7 = .ok (.iconst 4, 1) := by decide +kernel
theorem d_Edg_everyLabelStandsTwice_8 : decode b_Edg_everyLabelStandsTwice 8 = .ok (.aload_n 1, 1) := by decide +kernel
theorem d_Edg_everyLabelStandsTwice_9 : decode b_Edg_everyLabelStandsTwice 9 = .ok (.getfield 38, 3) := by decide +kernel
theorem d_Edg_everyLabelStandsTwice_12 : decode b_Edg_everyLabelStandsTwice 12 = .ok (.imul, 1) := by decide +kernel
theorem d_Edg_everyLabelStandsTwice_13 : decode b_Edg_everyLabelStandsTwice 13 = .ok (.if_icmp .ge 51, 3) := by decide +kernel
theorem d_Edg_everyLabelStandsTwice_16 : decode b_Edg_everyLabelStandsTwice 16 = .ok (.aload_n 1, 1) := by decide +kernel
theorem d_Edg_everyLabelStandsTwice_17 : decode b_Edg_everyLabelStandsTwice 17 = .ok (.getfield 44, 3) := by decide +kernel
theorem d_Edg_everyLabelStandsTwice_20 : decode b_Edg_everyLabelStandsTwice 20 = .ok (.aload_n 0, 1) := by decide +kernel
theorem d_Edg_everyLabelStandsTwice_21 : decode b_Edg_everyLabelStandsTwice 21 = .ok (.getfield 9, 3) := by decide +kernel
theorem d_Edg_everyLabelStandsTwice_24 : decode b_Edg_everyLabelStandsTwice 24 = .ok (.iload_n 3, 1) := by decide +kernel
theorem d_Edg_everyLabelStandsTwice_25 : decode b_Edg_everyLabelStandsTwice 25 = .ok (.iaload, 1) := by decide +kernel
theorem d_Edg_everyLabelStandsTwice_26 : decode b_Edg_everyLabelStandsTwice 26 = .ok (.iaload, 1) := by decide +kernel
theorem d_Edg_everyLabelStandsTwice_27 : decode b_Edg_everyLabelStandsTwice 27 = .ok (.istore 4, 2) := by decide +kernel
theorem d_Edg_everyLabelStandsTwice_29 : decode b_Edg_everyLabelStandsTwice 29 = .ok (.iload 4, 2) := by decide +kernel
theorem d_Edg_everyLabelStandsTwice_31 : decode b_Edg_everyLabelStandsTwice 31 = .ok (.iload_n 2, 1) := by decide +kernel
theorem d_Edg_everyLabelStandsTwice_32 : decode b_Edg_everyLabelStandsTwice 32 = .ok (.if_icmp .eq 21, 3) := by decide +kernel
theorem d_Edg_everyLabelStandsTwice_35 : decode b_Edg_everyLabelStandsTwice 35 = .ok (.iload 4, 2) := by decide +kernel
theorem d_Edg_everyLabelStandsTwice_37 : decode b_Edg_everyLabelStandsTwice 37 = .ok (.aload_n 1, 1) := by decide +kernel
theorem d_Edg_everyLabelStandsTwice_38 : decode b_Edg_everyLabelStandsTwice 38 = .ok (.getfield 44, 3) := by decide +kernel
theorem d_Edg_everyLabelStandsTwice_41 : decode b_Edg_everyLabelStandsTwice 41 = .ok (.aload_n 0, 1) := by decide +kernel
theorem d_Edg_everyLabelStandsTwice_42 : decode b_Edg_everyLabelStandsTwice 42 = .ok (.getfield 9, 3) := by decide +kernel
theorem d_Edg_everyLabelStandsTwice_45 : decode b_Edg_everyLabelStandsTwice 45 = .ok (.iload_n 3, 1) := by decide +kernel
theorem d_Edg_everyLabelStandsTwice_46 : decode b_Edg_everyLabelStandsTwice 46 = .ok (.iconst 1, 1) := by decide +kernel
theorem d_Edg_everyLabelStandsTwice_47 : decode b_Edg_everyLabelStandsTwice 47 = .ok (.iadd, 1) := by decide +kernel
theorem d_Edg_everyLabelStandsTwice_48 : decode b_Edg_everyLabelStandsTwice 48 = .ok (.iaload, 1) := by decide +kernel
theorem d_Edg_everyLabelStandsTwice_49 : decode b_Edg_everyLabelStandsTwice 49 = .ok (.iaload, 1) := by decide +kernel
theorem d_Edg_everyLabelStandsTwice_50 : decode b_Edg_everyLabelStandsTwice 50 = .ok (.if_icmp .eq 5, 3) := by decide +kernel
theorem d_Edg_everyLabelStandsTwice_53 : decode b_Edg_everyLabelStandsTwice 53 = .ok (.iconst 0, 1) := by decide +kernel
theorem d_Edg_everyLabelStandsTwice_54 : decode b_Edg_everyLabelStandsTwice 54 = .ok (.ireturn, 1) := by decide +kernel
theorem d_Edg_everyLabelStandsTwice_55 : decode b_Edg_everyLabelStandsTwice 55 = .ok (.iload 4, 2) := by decide +kernel
theorem d_Edg_everyLabelStandsTwice_57 : decode b_Edg_everyLabelStandsTwice 57 = .ok (.istore_n 2, 1) := by decide +kernel
theorem d_Edg_everyLabelStandsTwice_58 : decode b_Edg_everyLabelStandsTwice 58 = .ok (.iinc 3 2, 3) := by decide +kernel
theorem d_Edg_everyLabelStandsTwice_61 : decode b_Edg_everyLabelStandsTwice 61 = .ok (.goto (-57), 3) := by decide +kernel
theorem d_Edg_everyLabelStandsTwice_64 : decode b_Edg_everyLabelStandsTwice 64 = .ok (.iconst 1, 1) := by decide +kernel
theorem d_Edg_everyLabelStandsTwice_65 : decode b_Edg_everyLabelStandsTwice 65 = .ok (.ireturn, 1) := by decide +kernel
theorem d_Edg_pairPlaces_0 : decode b_Edg_pairPlaces 0 = .ok (.aload_n 0, 1) := by decide +kernel
theorem d_Edg_pairPlaces_1 : decode b_Edg_pairPlaces 1 = .ok (.iconst 2, 1) := by decide +kernel
theorem d_Edg_pairPlaces_2 : decode b_Edg_pairPlaces 2 = .ok (.aload_n 1, 1) := by decide +kernel
theorem d_Edg_pairPlaces_3 : decode b_Edg_pairPlaces 3 = .ok (.getfield 38, 3) := by decide +kernel
theorem d_Edg_pairPlaces_6 : decode b_Edg_pairPlaces 6 = .ok (.imul, 1) := by decide +kernel
theorem d_Edg_pairPlaces_7 : decode b_Edg_pairPlaces 7 = .ok (.putfield 45, 3) := by decide +kernel
theorem d_Edg_pairPlaces_10 : decode b_Edg_pairPlaces 10 = .ok (.iconst 0, 1) := by decide +kernel
theorem d_Edg_pairPlaces_11 : decode b_Edg_pairPlaces 11 = .ok (.istore_n 2, 1) := by decide +kernel
theorem d_Edg_pairPlaces_12 : decode b_Edg_pairPlaces 12 = .ok (.iload_n 2, 1) := by decide +kernel
theorem d_Edg_pairPlaces_13 : decode b_Edg_pairPlaces 13 = .ok (.aload_n 0, 1) := by decide +kernel
theorem d_Edg_pairPlaces_14 : decode b_Edg_pairPlaces 14 = .ok (.getfield 45, 3) := by decide +kernel
theorem d_Edg_pairPlaces_17 : decode b_Edg_pairPlaces 17 = .ok (.if_icmp .ge 111, 3) := by decide +kernel
theorem d_Edg_pairPlaces_20 : decode b_Edg_pairPlaces 20 = .ok (.aload_n 0, 1) := by decide +kernel
theorem d_Edg_pairPlaces_21 : decode b_Edg_pairPlaces 21 = .ok (.getfield 9, 3) := by decide +kernel
theorem d_Edg_pairPlaces_24 : decode b_Edg_pairPlaces 24 = .ok (.iconst 2, 1) := by decide +kernel
theorem d_Edg_pairPlaces_25 : decode b_Edg_pairPlaces 25 = .ok (.iload_n 2, 1) := by decide +kernel
theorem d_Edg_pairPlaces_26 : decode b_Edg_pairPlaces 26 = .ok (.imul, 1) := by decide +kernel
theorem d_Edg_pairPlaces_27 : decode b_Edg_pairPlaces 27 = .ok (.iaload, 1) := by decide +kernel
theorem d_Edg_pairPlaces_28 : decode b_Edg_pairPlaces 28 = .ok (.istore_n 3, 1) := by decide +kernel
theorem d_Edg_pairPlaces_29 : decode b_Edg_pairPlaces 29 = .ok (.aload_n 0, 1) := by decide +kernel
theorem d_Edg_pairPlaces_30 : decode b_Edg_pairPlaces 30 = .ok (.getfield 9, 3) := by decide +kernel
theorem d_Edg_pairPlaces_33 : decode b_Edg_pairPlaces 33 = .ok (.iconst 2, 1) := by decide +kernel
theorem d_Edg_pairPlaces_34 : decode b_Edg_pairPlaces 34 = .ok (.iload_n 2, 1) := by decide +kernel
theorem d_Edg_pairPlaces_35 : decode b_Edg_pairPlaces 35 = .ok (.imul, 1) := by decide +kernel
theorem d_Edg_pairPlaces_36 : decode b_Edg_pairPlaces 36 = .ok (.iconst 1, 1) := by decide +kernel
theorem d_Edg_pairPlaces_37 : decode b_Edg_pairPlaces 37 = .ok (.iadd, 1) := by decide +kernel
theorem d_Edg_pairPlaces_38 : decode b_Edg_pairPlaces 38 = .ok (.iaload, 1) := by decide +kernel
theorem d_Edg_pairPlaces_39 : decode b_Edg_pairPlaces 39 = .ok (.istore 4, 2) := by decide +kernel
theorem d_Edg_pairPlaces_41 : decode b_Edg_pairPlaces 41 = .ok (.aload_n 1, 1) := by decide +kernel
theorem d_Edg_pairPlaces_42 : decode b_Edg_pairPlaces 42 = .ok (.iload_n 3, 1) := by decide +kernel
theorem d_Edg_pairPlaces_43 : decode b_Edg_pairPlaces 43 = .ok (.invokevirtual 46, 3) := by decide +kernel
theorem d_Edg_pairPlaces_46 : decode b_Edg_pairPlaces 46 = .ok (.istore 5, 2) := by decide +kernel
theorem d_Edg_pairPlaces_48 : decode b_Edg_pairPlaces 48 = .ok (.iload 5, 2) := by decide +kernel
theorem d_Edg_pairPlaces_50 : decode b_Edg_pairPlaces 50 = .ok (.aload_n 1, 1) := by decide +kernel
theorem d_Edg_pairPlaces_51 : decode b_Edg_pairPlaces 51 = .ok (.iload 4, 2) := by decide +kernel
theorem d_Edg_pairPlaces_53 : decode b_Edg_pairPlaces 53 = .ok (.invokevirtual 46, 3) := by decide +kernel
theorem d_Edg_pairPlaces_56 : decode b_Edg_pairPlaces 56 = .ok (.if_icmp .ne 5, 3) := by decide +kernel
theorem d_Edg_pairPlaces_59 : decode b_Edg_pairPlaces 59 = .ok (.iconst 0, 1) := by decide +kernel
theorem d_Edg_pairPlaces_60 : decode b_Edg_pairPlaces 60 = .ok (.ireturn, 1) := by decide +kernel
theorem d_Edg_pairPlaces_61 : decode b_Edg_pairPlaces 61 = .ok (.aload_n 0, 1) := by decide +kernel
theorem d_Edg_pairPlaces_62 : decode b_Edg_pairPlaces 62 = .ok (.getfield 18, 3) := by decide +kernel
theorem d_Edg_pairPlaces_65 : decode b_Edg_pairPlaces 65 = .ok (.iload_n 2, 1) := by decide +kernel
theorem d_Edg_pairPlaces_66 : decode b_Edg_pairPlaces 66 = .ok (.iload 5, 2) := by decide +kernel
theorem d_Edg_pairPlaces_68 : decode b_Edg_pairPlaces 68 = .ok (.ifCond .eq 8, 3) := by decide +kernel
theorem d_Edg_pairPlaces_71 : decode b_Edg_pairPlaces 71 = .ok (.iload 4, 2) := by decide +kernel
theorem d_Edg_pairPlaces_73 : decode b_Edg_pairPlaces 73 = .ok (.goto 4, 3) := by decide +kernel
theorem d_Edg_pairPlaces_76 : decode b_Edg_pairPlaces 76 = .ok (.iload_n 3, 1) := by decide +kernel
theorem d_Edg_pairPlaces_77 : decode b_Edg_pairPlaces 77 = .ok (.iastore, 1) := by decide +kernel
theorem d_Edg_pairPlaces_78 : decode b_Edg_pairPlaces 78 = .ok (.aload_n 0, 1) := by decide +kernel
theorem d_Edg_pairPlaces_79 : decode b_Edg_pairPlaces 79 = .ok (.getfield 21, 3) := by decide +kernel
theorem d_Edg_pairPlaces_82 : decode b_Edg_pairPlaces 82 = .ok (.iload_n 2, 1) := by decide +kernel
theorem d_Edg_pairPlaces_83 : decode b_Edg_pairPlaces 83 = .ok (.iload 5, 2) := by decide +kernel
theorem d_Edg_pairPlaces_85 : decode b_Edg_pairPlaces 85 = .ok (.ifCond .eq 7, 3) := by decide +kernel
theorem d_Edg_pairPlaces_88 : decode b_Edg_pairPlaces 88 = .ok (.iload_n 3, 1) := by decide +kernel
theorem d_Edg_pairPlaces_89 : decode b_Edg_pairPlaces 89 = .ok (.goto 5, 3) := by decide +kernel
theorem d_Edg_pairPlaces_92 : decode b_Edg_pairPlaces 92 = .ok (.iload 4, 2) := by decide +kernel
theorem d_Edg_pairPlaces_94 : decode b_Edg_pairPlaces 94 = .ok (.iastore, 1) := by decide +kernel
theorem d_Edg_pairPlaces_95 : decode b_Edg_pairPlaces 95 = .ok (.aload_n 0, 1) := by decide +kernel
theorem d_Edg_pairPlaces_96 : decode b_Edg_pairPlaces 96 = .ok (.getfield 15, 3) := by decide +kernel
theorem d_Edg_pairPlaces_99 : decode b_Edg_pairPlaces 99 = .ok (.iload_n 2, 1) := by decide +kernel
theorem d_Edg_pairPlaces_100 : decode b_Edg_pairPlaces 100 = .ok (.aload_n 1, 1) := by decide +kernel
theorem d_Edg_pairPlaces_101 : decode b_Edg_pairPlaces 101 = .ok (.getfield 44, 3) := by decide +kernel
theorem d_Edg_pairPlaces_104 : decode b_Edg_pairPlaces 104 = .ok (.iload_n 3, 1) := by decide +kernel
theorem d_Edg_pairPlaces_105 : decode b_Edg_pairPlaces 105 = .ok (.iaload, 1) := by decide +kernel
theorem d_Edg_pairPlaces_106 : decode b_Edg_pairPlaces 106 = .ok (.iastore, 1) := by decide +kernel
theorem d_Edg_pairPlaces_107 : decode b_Edg_pairPlaces 107 = .ok (.aload_n 0, 1) := by decide +kernel
theorem d_Edg_pairPlaces_108 : decode b_Edg_pairPlaces 108 = .ok (.getfield 24, 3) := by decide +kernel
theorem d_Edg_pairPlaces_111 : decode b_Edg_pairPlaces 111 = .ok (.iload_n 3, 1) := by decide +kernel
theorem d_Edg_pairPlaces_112 : decode b_Edg_pairPlaces 112 = .ok (.iload_n 2, 1) := by decide +kernel
theorem d_Edg_pairPlaces_113 : decode b_Edg_pairPlaces 113 = .ok (.iastore, 1) := by decide +kernel
theorem d_Edg_pairPlaces_114 : decode b_Edg_pairPlaces 114 = .ok (.aload_n 0, 1) := by decide +kernel
theorem d_Edg_pairPlaces_115 : decode b_Edg_pairPlaces 115 = .ok (.getfield 24, 3) := by decide +kernel
theorem d_Edg_pairPlaces_118 : decode b_Edg_pairPlaces 118 = .ok (.iload 4, 2) := by decide +kernel
theorem d_Edg_pairPlaces_120 : decode b_Edg_pairPlaces 120 = .ok (.iload_n 2, 1) := by decide +kernel
theorem d_Edg_pairPlaces_121 : decode b_Edg_pairPlaces 121 = .ok (.iastore, 1) := by decide +kernel
theorem d_Edg_pairPlaces_122 : decode b_Edg_pairPlaces 122 = .ok (.iinc 2 1, 3) := by decide +kernel
theorem d_Edg_pairPlaces_125 : decode b_Edg_pairPlaces 125 = .ok (.goto (-113), 3) := by decide +kernel
theorem d_Edg_pairPlaces_128 : decode b_Edg_pairPlaces 128 = .ok (.iconst 1, 1) := by decide +kernel
theorem d_Edg_pairPlaces_129 : decode b_Edg_pairPlaces 129 = .ok (.ireturn, 1) := by decide +kernel
theorem d_Edg_withLabel_0 : decode b_Edg_withLabel 0 = .ok (.iconst 0, 1) := by decide +kernel
theorem d_Edg_withLabel_1 : decode b_Edg_withLabel 1 = .ok (.istore_n 2, 1) := by decide +kernel
theorem d_Edg_withLabel_2 : decode b_Edg_withLabel 2 = .ok (.iload_n 2, 1) := by decide +kernel
theorem d_Edg_withLabel_3 : decode b_Edg_withLabel 3 = .ok (.aload_n 0, 1) := by decide +kernel
theorem d_Edg_withLabel_4 : decode b_Edg_withLabel 4 = .ok (.getfield 45, 3) := by decide +kernel
theorem d_Edg_withLabel_7 : decode b_Edg_withLabel 7 = .ok (.if_icmp .ge 21, 3) := by decide +kernel
theorem d_Edg_withLabel_10 : decode b_Edg_withLabel 10 = .ok (.aload_n 0, 1) := by decide +kernel
theorem d_Edg_withLabel_11 : decode b_Edg_withLabel 11 = .ok (.getfield 15, 3) := by decide +kernel
theorem d_Edg_withLabel_14 : decode b_Edg_withLabel 14 = .ok (.iload_n 2, 1) := by decide +kernel
theorem d_Edg_withLabel_15 : decode b_Edg_withLabel 15 = .ok (.iaload, 1) := by decide +kernel
theorem d_Edg_withLabel_16 : decode b_Edg_withLabel 16 = .ok (.iload_n 1, 1) := by decide +kernel
theorem d_Edg_withLabel_17 : decode b_Edg_withLabel 17 = .ok (.if_icmp .ne 5, 3) := by decide +kernel
theorem d_Edg_withLabel_20 : decode b_Edg_withLabel 20 = .ok (.iload_n 2, 1) := by decide +kernel
theorem d_Edg_withLabel_21 : decode b_Edg_withLabel 21 = .ok (.ireturn, 1) := by decide +kernel
theorem d_Edg_withLabel_22 : decode b_Edg_withLabel 22 = .ok (.iinc 2 1, 3) := by decide +kernel
theorem d_Edg_withLabel_25 : decode b_Edg_withLabel 25 = .ok (.goto (-23), 3) := by decide +kernel
theorem d_Edg_withLabel_28 : decode b_Edg_withLabel 28 = .ok (.iconst (-1), 1) := by decide +kernel
theorem d_Edg_withLabel_29 : decode b_Edg_withLabel 29 = .ok (.ireturn, 1) := by decide +kernel
theorem d_Edg_freeAfter_0 : decode b_Edg_freeAfter 0 = .ok (.iload_n 1, 1) := by decide +kernel
theorem d_Edg_freeAfter_1 : decode b_Edg_freeAfter 1 = .ok (.iconst 1, 1) := by decide +kernel
theorem d_Edg_freeAfter_2 : decode b_Edg_freeAfter 2 = .ok (.iadd, 1) := by decide +kernel
theorem d_Edg_freeAfter_3 : decode b_Edg_freeAfter 3 = .ok (.istore_n 2, 1) := by decide +kernel
theorem d_Edg_freeAfter_4 : decode b_Edg_freeAfter 4 = .ok (.iconst 0, 1) := by decide +kernel
theorem d_Edg_freeAfter_5 : decode b_Edg_freeAfter 5 = .ok (.istore_n 3, 1) := by decide +kernel
theorem d_Edg_freeAfter_6 : decode b_Edg_freeAfter 6 = .ok (.iload_n 3, 1) := by decide +kernel
theorem d_Edg_freeAfter_7 : decode b_Edg_freeAfter 7 = .ok (.aload_n 0, 1) := by decide +kernel
theorem d_Edg_freeAfter_8 : decode b_Edg_freeAfter 8 = .ok (.getfield 45, 3) := by decide +kernel
theorem d_Edg_freeAfter_11 : decode b_Edg_freeAfter 11 = .ok (.if_icmp .ge 22, 3) := by decide +kernel
theorem d_Edg_freeAfter_14 : decode b_Edg_freeAfter 14 = .ok (.aload_n 0, 1) := by decide +kernel
theorem d_Edg_freeAfter_15 : decode b_Edg_freeAfter 15 = .ok (.getfield 15, 3) := by decide +kernel
theorem d_Edg_freeAfter_18 : decode b_Edg_freeAfter 18 = .ok (.iload_n 3, 1) := by decide +kernel
theorem d_Edg_freeAfter_19 : decode b_Edg_freeAfter 19 = .ok (.iaload, 1) := by decide +kernel
theorem d_Edg_freeAfter_20 : decode b_Edg_freeAfter 20 = .ok (.iload_n 2, 1) := by decide +kernel
theorem d_Edg_freeAfter_21 : decode b_Edg_freeAfter 21 = .ok (.if_icmp .ne 6, 3) := by decide +kernel
theorem d_Edg_freeAfter_24 : decode b_Edg_freeAfter 24 = .ok (.iinc 2 1, 3) := by decide +kernel
theorem d_Edg_freeAfter_27 : decode b_Edg_freeAfter 27 = .ok (.iinc 3 1, 3) := by decide +kernel
theorem d_Edg_freeAfter_30 : decode b_Edg_freeAfter 30 = .ok (.goto (-24), 3) := by decide +kernel
theorem d_Edg_freeAfter_33 : decode b_Edg_freeAfter 33 = .ok (.iload_n 2, 1) := by decide +kernel
theorem d_Edg_freeAfter_34 : decode b_Edg_freeAfter 34 = .ok (.ireturn, 1) := by decide +kernel
theorem d_Edg_signedLabel_0 : decode b_Edg_signedLabel 0 = .ok (.aload_n 0, 1) := by decide +kernel
theorem d_Edg_signedLabel_1 : decode b_Edg_signedLabel 1 = .ok (.getfield 15, 3) := by decide +kernel
theorem d_Edg_signedLabel_4 : decode b_Edg_signedLabel 4 = .ok (.iload_n 1, 1) := by decide +kernel
theorem d_Edg_signedLabel_5 : decode b_Edg_signedLabel 5 = .ok (.iconst 1, 1) := by decide +kernel
theorem d_Edg_signedLabel_6 : decode b_Edg_signedLabel 6 = .ok (.ishr, 1) := by decide +kernel
theorem d_Edg_signedLabel_7 : decode b_Edg_signedLabel 7 = .ok (.iaload, 1) := by decide +kernel
theorem d_Edg_signedLabel_8 : decode b_Edg_signedLabel 8 = .ok (.istore_n 2, 1) := by decide +kernel
theorem d_Edg_signedLabel_9 : decode b_Edg_signedLabel 9 = .ok (.iload_n 1, 1) := by decide +kernel
theorem d_Edg_signedLabel_10 : decode b_Edg_signedLabel 10 = .ok (.iconst 1, 1) := by decide +kernel
theorem d_Edg_signedLabel_11 : decode b_Edg_signedLabel 11 = .ok (.iand, 1) := by decide +kernel
theorem d_Edg_signedLabel_12 : decode b_Edg_signedLabel 12 = .ok (.ifCond .ne 7, 3) := by decide +kernel
theorem d_Edg_signedLabel_15 : decode b_Edg_signedLabel 15 = .ok (.iload_n 2, 1) := by decide +kernel
theorem d_Edg_signedLabel_16 : decode b_Edg_signedLabel 16 = .ok (.goto 5, 3) := by decide +kernel
theorem d_Edg_signedLabel_19 : decode b_Edg_signedLabel 19 = .ok (.iload_n 2, 1) := by decide +kernel
theorem d_Edg_signedLabel_20 : decode b_Edg_signedLabel 20 = .ok (.ineg, 1) := by decide +kernel
theorem d_Edg_signedLabel_21 : decode b_Edg_signedLabel 21 = .ok (.ireturn, 1) := by decide +kernel
theorem d_Edg_arrival_0 : decode b_Edg_arrival 0 = .ok (.iload_n 1, 1) := by decide +kernel
theorem d_Edg_arrival_1 : decode b_Edg_arrival 1 = .ok (.iconst 1, 1) := by decide +kernel
theorem d_Edg_arrival_2 : decode b_Edg_arrival 2 = .ok (.iand, 1) := by decide +kernel
theorem d_Edg_arrival_3 : decode b_Edg_arrival 3 = .ok (.ifCond .ne 14, 3) := by decide +kernel
theorem d_Edg_arrival_6 : decode b_Edg_arrival 6 = .ok (.aload_n 0, 1) := by decide +kernel
theorem d_Edg_arrival_7 : decode b_Edg_arrival 7 = .ok (.getfield 21, 3) := by decide +kernel
theorem d_Edg_arrival_10 : decode b_Edg_arrival 10 = .ok (.iload_n 1, 1) := by decide +kernel
theorem d_Edg_arrival_11 : decode b_Edg_arrival 11 = .ok (.iconst 1, 1) := by decide +kernel
theorem d_Edg_arrival_12 : decode b_Edg_arrival 12 = .ok (.ishr, 1) := by decide +kernel
theorem d_Edg_arrival_13 : decode b_Edg_arrival 13 = .ok (.iaload, 1) := by decide +kernel
theorem d_Edg_arrival_14 : decode b_Edg_arrival 14 = .ok (.goto 11, 3) := by decide +kernel
theorem d_Edg_arrival_17 : decode b_Edg_arrival 17 = .ok (.aload_n 0, 1) := by decide +kernel
theorem d_Edg_arrival_18 : decode b_Edg_arrival 18 = .ok (.getfield 18, 3) := by decide +kernel
theorem d_Edg_arrival_21 : decode b_Edg_arrival 21 = .ok (.iload_n 1, 1) := by decide +kernel
theorem d_Edg_arrival_22 : decode b_Edg_arrival 22 = .ok (.iconst 1, 1) := by decide +kernel
theorem d_Edg_arrival_23 : decode b_Edg_arrival 23 = .ok (.ishr, 1) := by decide +kernel
theorem d_Edg_arrival_24 : decode b_Edg_arrival 24 = .ok (.iaload, 1) := by decide +kernel
theorem d_Edg_arrival_25 : decode b_Edg_arrival 25 = .ok (.ireturn, 1) := by decide +kernel
theorem d_Edg_dartLeaving_0 : decode b_Edg_dartLeaving 0 = .ok (.aload_n 0, 1) := by decide +kernel
theorem d_Edg_dartLeaving_1 : decode b_Edg_dartLeaving 1 = .ok (.getfield 24, 3) := by decide +kernel
theorem d_Edg_dartLeaving_4 : decode b_Edg_dartLeaving 4 = .ok (.iload_n 1, 1) := by decide +kernel
theorem d_Edg_dartLeaving_5 : decode b_Edg_dartLeaving 5 = .ok (.iaload, 1) := by decide +kernel
theorem d_Edg_dartLeaving_6 : decode b_Edg_dartLeaving 6 = .ok (.istore_n 2, 1) := by decide +kernel
theorem d_Edg_dartLeaving_7 : decode b_Edg_dartLeaving 7 = .ok (.aload_n 0, 1) := by decide +kernel
theorem d_Edg_dartLeaving_8 : decode b_Edg_dartLeaving 8 = .ok (.getfield 18, 3) := by decide +kernel
theorem d_Edg_dartLeaving_11 : decode b_Edg_dartLeaving 11 = .ok (.iload_n 2, 1) := by decide +kernel
theorem d_Edg_dartLeaving_12 : decode b_Edg_dartLeaving 12 = .ok (.iaload, 1) := by decide +kernel
theorem d_Edg_dartLeaving_13 : decode b_Edg_dartLeaving 13 = .ok (.iload_n 1, 1) := by decide +kernel
theorem d_Edg_dartLeaving_14 : decode b_Edg_dartLeaving 14 = .ok (.if_icmp .ne 9, 3) := by decide +kernel
theorem d_Edg_dartLeaving_17 : decode b_Edg_dartLeaving 17 = .ok (.iconst 2, 1) := by decide +kernel
theorem d_Edg_dartLeaving_18 : decode b_Edg_dartLeaving 18 = .ok (.iload_n 2, 1) := by decide +kernel
theorem d_Edg_dartLeaving_19 : decode b_Edg_dartLeaving 19 = .ok (.imul, 1) := by decide +kernel
theorem d_Edg_dartLeaving_20 : decode b_Edg_dartLeaving 20 = .ok (.goto 8, 3) := by decide +kernel
theorem d_Edg_dartLeaving_23 : decode b_Edg_dartLeaving 23 = .ok (.iconst 2, 1) := by decide +kernel
theorem d_Edg_dartLeaving_24 : decode b_Edg_dartLeaving 24 = .ok (.iload_n 2, 1) := by decide +kernel
theorem d_Edg_dartLeaving_25 : decode b_Edg_dartLeaving 25 = .ok (.imul, 1) := by decide +kernel
theorem d_Edg_dartLeaving_26 : decode b_Edg_dartLeaving 26 = .ok (.iconst 1, 1) := by decide +kernel
theorem d_Edg_dartLeaving_27 : decode b_Edg_dartLeaving 27 = .ok (.iadd, 1) := by decide +kernel
theorem d_Edg_dartLeaving_28 : decode b_Edg_dartLeaving 28 = .ok (.ireturn, 1) := by decide +kernel
theorem d_Edg_nextDart_0 : decode b_Edg_nextDart 0 = .ok (.aload_n 0, 1) := by decide +kernel
theorem d_Edg_nextDart_1 : decode b_Edg_nextDart 1 = .ok (.iload_n 1, 1) := by decide +kernel
theorem d_Edg_nextDart_2 : decode b_Edg_nextDart 2 = .ok (.invokevirtual 50, 3) := by decide +kernel
theorem d_Edg_nextDart_5 : decode b_Edg_nextDart 5 = .ok (.istore_n 2, 1) := by decide +kernel
theorem d_Edg_nextDart_6 : decode b_Edg_nextDart 6 = .ok (.iload_n 2, 1) := by decide +kernel
theorem d_Edg_nextDart_7 : decode b_Edg_nextDart 7 = .ok (.iconst 2, 1) := by decide +kernel
theorem d_Edg_nextDart_8 : decode b_Edg_nextDart 8 = .ok (.ishr, 1) := by decide +kernel
theorem d_Edg_nextDart_9 : decode b_Edg_nextDart 9 = .ok (.istore_n 3, 1) := by decide +kernel
theorem d_Edg_nextDart_10 : decode b_Edg_nextDart 10 = .ok (.aload_n 0, 1) := by decide +kernel
theorem d_Edg_nextDart_11 : decode b_Edg_nextDart 11 = .ok (.iconst 4, 1) := by decide +kernel
theorem d_Edg_nextDart_12 : decode b_Edg_nextDart 12 = .ok (.iload_n 3, 1) := by decide +kernel
theorem d_Edg_nextDart_13 : decode b_Edg_nextDart 13 = .ok (.imul, 1) := by decide +kernel
theorem d_Edg_nextDart_14 : decode b_Edg_nextDart 14 = .ok (.iload_n 2, 1) := by decide +kernel
theorem d_Edg_nextDart_15 : decode b_Edg_nextDart 15 = .ok (.iconst 3, 1) := by decide +kernel
theorem d_Edg_nextDart_16 : decode b_Edg_nextDart 16 = .ok (.iadd, 1) := by decide +kernel
theorem d_Edg_nextDart_17 : decode b_Edg_nextDart 17 = .ok (.iconst 3, 1) := by decide +kernel
theorem d_Edg_nextDart_18 : decode b_Edg_nextDart 18 = .ok (.iand, 1) := by decide +kernel
theorem d_Edg_nextDart_19 : decode b_Edg_nextDart 19 = .ok (.iadd, 1) := by decide +kernel
theorem d_Edg_nextDart_20 : decode b_Edg_nextDart 20 = .ok (.invokevirtual 54, 3) := by decide +kernel
theorem d_Edg_nextDart_23 : decode b_Edg_nextDart 23 = .ok (.ireturn, 1) := by decide +kernel
theorem d_Edg_upperEnds_0 : decode b_Edg_upperEnds 0 = .ok (.aload_n 0, 1) := by decide +kernel
theorem d_Edg_upperEnds_1 : decode b_Edg_upperEnds 1 = .ok (.getfield 18, 3) := by decide +kernel
theorem d_Edg_upperEnds_4 : decode b_Edg_upperEnds 4 = .ok (.iload_n 1, 1) := by decide +kernel
theorem d_Edg_upperEnds_5 : decode b_Edg_upperEnds 5 = .ok (.iaload, 1) := by decide +kernel
theorem d_Edg_upperEnds_6 : decode b_Edg_upperEnds 6 = .ok (.iconst 1, 1) := by decide +kernel
theorem d_Edg_upperEnds_7 : decode b_Edg_upperEnds 7 = .ok (.iand, 1) := by decide +kernel
theorem d_Edg_upperEnds_8 : decode b_Edg_upperEnds 8 = .ok (.aload_n 0, 1) := by decide +kernel
theorem d_Edg_upperEnds_9 : decode b_Edg_upperEnds 9 = .ok (.getfield 21, 3) := by decide +kernel
theorem d_Edg_upperEnds_12 : decode b_Edg_upperEnds 12 = .ok (.iload_n 1, 1) := by decide +kernel
theorem d_Edg_upperEnds_13 : decode b_Edg_upperEnds 13 = .ok (.iaload, 1) := by decide +kernel
theorem d_Edg_upperEnds_14 : decode b_Edg_upperEnds 14 = .ok (.iconst 1, 1) := by decide +kernel
theorem d_Edg_upperEnds_15 : decode b_Edg_upperEnds 15 = .ok (.iand, 1) := by decide +kernel
theorem d_Edg_upperEnds_16 : decode b_Edg_upperEnds 16 = .ok (.iadd, 1) := by decide +kernel
theorem d_Edg_upperEnds_17 : decode b_Edg_upperEnds 17 = .ok (.ireturn, 1) := by decide +kernel
