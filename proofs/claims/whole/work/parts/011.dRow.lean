theorem d_Cut_init_0 : decode b_Cut_init 0 = .ok (.aload_n 0, 1) := by decide +kernel
theorem d_Cut_init_1 : decode b_Cut_init 1 = .ok (.invokespecial 1, 3) := by decide +kernel
theorem d_Cut_init_4 : decode b_Cut_init 4 = .ok (.aload_n 0, 1) := by decide +kernel
theorem d_Cut_init_5 : decode b_Cut_init 5 = .ok (.iload_n 1, 1) := by decide +kernel
theorem d_Cut_init_6 : decode b_Cut_init 6 = .ok (.putfield 7, 3) := by decide +kernel
theorem d_Cut_init_9 : decode b_Cut_init 9 = .ok (.aload_n 0, 1) := by decide +kernel
theorem d_Cut_init_10 : decode b_Cut_init 10 = .ok (.iload_n 2, 1) := by decide +kernel
theorem d_Cut_init_11 : decode b_Cut_init 11 = .ok (.putfield 13, 3) := by decide +kernel
theorem d_Cut_init_14 : decode b_Cut_init 14 = .ok (.aload_n 0, 1) := by decide +kernel
theorem d_Cut_init_15 : decode b_Cut_init 15 = .ok (.iload_n 3, 1) := by decide +kernel
theorem d_Cut_init_16 : decode b_Cut_init 16 = .ok (.putfield 16, 3) := by decide +kernel
theorem d_Cut_init_19 : decode b_Cut_init 19 = .ok (.return_, 1) := by decide +kernel
theorem d_Cut_in_0 : decode b_Cut_in 0 = .ok (.iload_n 1, 1) := by decide +kernel
theorem d_Cut_in_1 : decode b_Cut_in 1 = .ok (.ifCond .eq 10, 3) := by decide +kernel
theorem d_Cut_in_4 : decode b_Cut_in 4 = .ok (.aload_n 0, 1) := by decide +kernel
theorem d_Cut_in_5 : decode b_Cut_in 5 = .ok (.getfield 7, 3) := by decide +kernel
theorem d_Cut_in_8 : decode b_Cut_in 8 = .ok (.goto 7, 3) := by decide +kernel
theorem d_Cut_in_11 : decode b_Cut_in 11 = .ok (.aload_n 0, 1) := by decide +kernel
theorem d_Cut_in_12 : decode b_Cut_in 12 = .ok (.getfield 13, 3) := by decide +kernel
theorem d_Cut_in_15 : decode b_Cut_in 15 = .ok (.ireturn, 1) := by decide +kernel
theorem d_Cut_out_0 : decode b_Cut_out 0 = .ok (.iload_n 1, 1) := by decide +kernel
theorem d_Cut_out_1 : decode b_Cut_out 1 = .ok (.ifCond .eq 10, 3) := by decide +kernel
theorem d_Cut_out_4 : decode b_Cut_out 4 = .ok (.aload_n 0, 1) := by decide +kernel
theorem d_Cut_out_5 : decode b_Cut_out 5 = .ok (.getfield 13, 3) := by decide +kernel
theorem d_Cut_out_8 : decode b_Cut_out 8 = .ok (.goto 7, 3) := by decide +kernel
theorem d_Cut_out_11 : decode b_Cut_out 11 = .ok (.aload_n 0, 1) := by decide +kernel
theorem d_Cut_out_12 : decode b_Cut_out 12 = .ok (.getfield 16, 3) := by decide +kernel
theorem d_Cut_out_15 : decode b_Cut_out 15 = .ok (.ireturn, 1) := by decide +kernel
theorem d_Row_init_0 : decode b_Row_init 0 = .ok (.aload_n 0, 1) := by decide +kernel
theorem d_Row_init_1 : decode b_Row_init 1 = .ok (.invokespecial 3, 3) := by decide +kernel
theorem d_Row_init_4 : decode b_Row_init 4 = .ok (.aload_n 0, 1) := by decide +kernel
theorem d_Row_init_5 : decode b_Row_init 5 = .ok (.bipush 80, 2) := by decide +kernel
theorem d_Row_init_7 : decode b_Row_init 7 = .ok (.newarray .int, 2) := by decide +kernel
theorem d_Row_init_9 : decode b_Row_init 9 = .ok (.putfield 9, 3) := by decide +kernel
theorem d_Row_init_12 : decode b_Row_init 12 = .ok (.aload_n 0, 1) := by decide +kernel
theorem d_Row_init_13 : decode b_Row_init 13 = .ok (.bipush 20, 2) := by decide +kernel
theorem d_Row_init_15 : decode b_Row_init 15 = .ok (.newarray .int, 2) := by decide +kernel
theorem d_Row_init_17 : decode b_Row_init 17 = .ok (.putfield 15, 3) := by decide +kernel
theorem d_Row_init_20 : decode b_Row_init 20 = .ok (.return_, 1) := by decide +kernel
theorem d_Row_isFull_0 : decode b_Row_isFull 0 = .ok (.aload_n 0, 1) := by decide +kernel
theorem d_Row_isFull_1 : decode b_Row_isFull 1 = .ok (.getfield 18, 3) := by decide +kernel
theorem d_Row_isFull_4 : decode b_Row_isFull 4 = .ok (.bipush 20, 2) := by decide +kernel
theorem d_Row_isFull_6 : decode b_Row_isFull 6 = .ok (.if_icmp .lt 7, 3) := by decide +kernel
theorem d_Row_isFull_9 : decode b_Row_isFull 9 = .ok (.iconst 1, 1) := by decide +kernel
theorem d_Row_isFull_10 : decode b_Row_isFull 10 = .ok (.goto 4, 3) := by decide +kernel
theorem d_Row_isFull_13 : decode b_Row_isFull 13 = .ok (.iconst 0, 1) := by decide +kernel
theorem d_Row_isFull_14 : decode b_Row_isFull 14 = .ok (.ireturn, 1) := by decide +kernel
theorem d_Row_add_0 : decode b_Row_add 0 = .ok (.aload_n 0, 1) := by decide +kernel
theorem d_Row_add_1 : decode b_Row_add 1 = .ok (.invokevirtual 22, 3) := by decide +kernel
theorem d_Row_add_4 : decode b_Row_add 4 = .ok (.ifCond .eq 4, 3) := by decide +kernel
theorem d_Row_add_7 : decode b_Row_add 7 = .ok (.return_, 1) := by decide +kernel
theorem d_Row_add_8 : decode b_Row_add 8 = .ok (.iconst 4, 1) := by decide +kernel
theorem d_Row_add_9 : decode b_Row_add 9 = .ok (.aload_n 0, 1) := by decide +kernel
theorem d_Row_add_10 : decode b_Row_add 10 = .ok (.getfield 18, 3) := by decide +kernel
theorem d_Row_add_13 : decode b_Row_add 13 = .ok (.imul, 1) := by decide +kernel
theorem d_Row_add_14 : decode b_Row_add 14 = .ok (.istore 6, 2) := by decide +kernel
theorem d_Row_add_16 : decode b_Row_add 16 = .ok (.aload_n 0, 1) := by decide +kernel
theorem d_Row_add_17 : decode b_Row_add 17 = .ok (.getfield 9, 3) := by decide +kernel
theorem d_Row_add_20 : decode b_Row_add 20 = .ok (.iload 6, 2) := by decide +kernel
theorem d_Row_add_22 : decode b_Row_add 22 = .ok (.iload_n 2, 1) := by decide +kernel
theorem d_Row_add_23 : decode b_Row_add 23 = .ok (.iastore, 1) := by decide +kernel
theorem d_Row_add_24 : decode b_Row_add 24 = .ok (.aload_n 0, 1) := by decide +kernel
theorem d_Row_add_25 : decode b_Row_add 25 = .ok (.getfield 9, 3) := by decide +kernel
theorem d_Row_add_28 : decode b_Row_add 28 = .ok (.iload 6, 2) := by decide +kernel
theorem d_Row_add_30 : decode b_Row_add 30 = .ok (.iconst 1, 1) := by decide +kernel
theorem d_Row_add_31 : decode b_Row_add 31 = .ok (.iadd, 1) := by decide +kernel
theorem d_Row_add_32 : decode b_Row_add 32 = .ok (.iload_n 3, 1) := by decide +kernel
theorem d_Row_add_33 : decode b_Row_add 33 = .ok (.iastore, 1) := by decide +kernel
theorem d_Row_add_34 : decode b_Row_add 34 = .ok (.aload_n 0, 1) := by decide +kernel
theorem d_Row_add_35 : decode b_Row_add 35 = .ok (.getfield 9, 3) := by decide +kernel
theorem d_Row_add_38 : decode b_Row_add 38 = .ok (.iload 6, 2) := by decide +kernel
theorem d_Row_add_40 : decode b_Row_add 40 = .ok (.iconst 2, 1) := by decide +kernel
theorem d_Row_add_41 : decode b_Row_add 41 = .ok (.iadd, 1) := by decide +kernel
theorem d_Row_add_42 : decode b_Row_add 42 = .ok (.iload 4, 2) := by decide +kernel
theorem d_Row_add_44 : decode b_Row_add 44 = .ok (.iastore, 1) := by decide +kernel
theorem d_Row_add_45 : decode b_Row_add 45 = .ok (.aload_n 0, 1) := by decide +kernel
theorem d_Row_add_46 : decode b_Row_add 46 = .ok (.getfield 9, 3) := by decide +kernel
theorem d_Row_add_49 : decode b_Row_add 49 = .ok (.iload 6, 2) := by decide +kernel
theorem d_Row_add_51 : decode b_Row_add 51 = .ok (.iconst 3, 1) := by decide +kernel
theorem d_Row_add_52 : decode b_Row_add 52 = .ok (.iadd, 1) := by decide +kernel
theorem d_Row_add_53 : decode b_Row_add 53 = .ok (.iload 5, 2) := by decide +kernel
theorem d_Row_add_55 : decode b_Row_add 55 = .ok (.iastore, 1) := by decide +kernel
theorem d_Row_add_56 : decode b_Row_add 56 = .ok (.aload_n 0, 1) := by decide +kernel
theorem d_Row_add_57 : decode b_Row_add 57 = .ok (.getfield 15, 3) := by decide +kernel
theorem d_Row_add_60 : decode b_Row_add 60 = .ok (.aload_n 0, 1) := by decide +kernel
theorem d_Row_add_61 : decode b_Row_add 61 = .ok (.getfield 18, 3) := by decide +kernel
theorem d_Row_add_64 : decode b_Row_add 64 = .ok (.iload_n 1, 1) := by decide +kernel
theorem d_Row_add_65 : decode b_Row_add 65 = .ok (.iastore, 1) := by decide +kernel
theorem d_Row_add_66 : decode b_Row_add 66 = .ok (.aload_n 0, 1) := by decide +kernel
theorem d_Row_add_67 : decode b_Row_add 67 = .ok (.dup, 1) := by decide +kernel
theorem d_Row_add_68 : decode b_Row_add 68 = .ok (.getfield 18, 3) := by decide +kernel
theorem d_Row_add_71 : decode b_Row_add 71 = .ok (.iconst 1, 1) := by decide +kernel
theorem d_Row_add_72 : decode b_Row_add 72 = .ok (.iadd, 1) := by decide +kernel
theorem d_Row_add_73 : decode b_Row_add 73 = .ok (.putfield 18, 3) := by decide +kernel
theorem d_Row_add_76 : decode b_Row_add 76 = .ok (.return_, 1) := by decide +kernel
theorem d_Row_sumOfSigns_0 : decode b_Row_sumOfSigns 0 = .ok (.iconst 0, 1) := by decide +kernel
theorem d_Row_sumOfSigns_1 : decode b_Row_sumOfSigns 1 = .ok (.istore_n 1, 1) := by decide +kernel
theorem d_Row_sumOfSigns_2 : decode b_Row_sumOfSigns 2 = .ok (.iconst 0, 1) := by decide +kernel
theorem d_Row_sumOfSigns_3 : decode b_Row_sumOfSigns 3 = .ok (.istore_n 2, 1) := by decide +kernel
theorem d_Row_sumOfSigns_4 : decode b_Row_sumOfSigns 4 = .ok (.iload_n 2, 1) := by decide +kernel
theorem d_Row_sumOfSigns_5 : decode b_Row_sumOfSigns 5 = .ok (.aload_n 0, 1) := by decide +kernel
theorem d_Row_sumOfSigns_6 : decode b_Row_sumOfSigns 6 = .ok (.getfield 18, 3) := by decide +kernel
theorem d_Row_sumOfSigns_9 : decode b_Row_sumOfSigns 9 = .ok (.if_icmp .ge 18, 3) := by decide +kernel
theorem d_Row_sumOfSigns_12 : decode b_Row_sumOfSigns 12 = .ok (.iload_n 1, 1) := by decide +kernel
theorem d_Row_sumOfSigns_13 : decode b_Row_sumOfSigns 13 = .ok (.aload_n 0, 1) := by decide +kernel
theorem d_Row_sumOfSigns_14 : decode b_Row_sumOfSigns 14 = .ok (.getfield 15, 3) := by decide +kernel
theorem d_Row_sumOfSigns_17 : decode b_Row_sumOfSigns 17 = .ok (.iload_n 2, 1) := by decide +kernel
theorem d_Row_sumOfSigns_18 : decode b_Row_sumOfSigns 18 = .ok (.iaload, 1) := by decide +kernel
theorem d_Row_sumOfSigns_19 : decode b_Row_sumOfSigns 19 = .ok (.iadd, 1) := by decide +kernel
theorem d_Row_sumOfSigns_20 : decode b_Row_sumOfSigns 20 = .ok (.istore_n 1, 1) := by decide +kernel
theorem d_Row_sumOfSigns_21 : decode b_Row_sumOfSigns 21 = .ok (.iinc 2 1, 3) := by decide +kernel
theorem d_Row_sumOfSigns_24 : decode b_Row_sumOfSigns 24 = .ok (.goto (-20), 3) := by decide +kernel
theorem d_Row_sumOfSigns_27 : decode b_Row_sumOfSigns 27 = .ok (.iload_n 1, 1) := by decide +kernel
theorem d_Row_sumOfSigns_28 : decode b_Row_sumOfSigns 28 = .ok (.ireturn, 1) := by decide +kernel
theorem d_Row_upperIn_0 : decode b_Row_upperIn 0 = .ok (.iconst 4, 1) := by decide +kernel
theorem d_Row_upperIn_1 : decode b_Row_upperIn 1 = .ok (.iload_n 1, 1) := by decide +kernel
theorem d_Row_upperIn_2 : decode b_Row_upperIn 2 = .ok (.imul, 1) := by decide +kernel
theorem d_Row_upperIn_3 : decode b_Row_upperIn 3 = .ok (.aload_n 0, 1) := by decide +kernel
theorem d_Row_upperIn_4 : decode b_Row_upperIn 4 = .ok (.getfield 15, 3) := by decide +kernel
theorem d_Row_upperIn_7 : decode b_Row_upperIn 7 = .ok (.iload_n 1, 1) := by decide +kernel
theorem d_Row_upperIn_8 : decode b_Row_upperIn 8 = .ok (.iaload, 1) := by decide +kernel
theorem d_Row_upperIn_9 : decode b_Row_upperIn 9 = .ok (.iconst 1, 1) := by decide +kernel
theorem d_Row_upperIn_10 : decode b_Row_upperIn 10 = .ok (.if_icmp .ne 7, 3) := by decide +kernel
theorem d_Row_upperIn_13 : decode b_Row_upperIn 13 = .ok (.iconst 3, 1) := by decide +kernel
theorem d_Row_upperIn_14 : decode b_Row_upperIn 14 = .ok (.goto 4, 3) := by decide +kernel
theorem d_Row_upperIn_17 : decode b_Row_upperIn 17 = .ok (.iconst 1, 1) := by decide +kernel
theorem d_Row_upperIn_18 : decode b_Row_upperIn 18 = .ok (.iadd, 1) := by decide +kernel
theorem d_Row_upperIn_19 : decode b_Row_upperIn 19 = .ok (.ireturn, 1) := by decide +kernel
theorem d_Row_strandGoesIn_0 : decode b_Row_strandGoesIn 0 = .ok (.iload_n 1, 1) := by decide +kernel
theorem d_Row_strandGoesIn_1 : decode b_Row_strandGoesIn 1 = .ok (.iconst 2, 1) := by decide +kernel
theorem d_Row_strandGoesIn_2 : decode b_Row_strandGoesIn 2 = .ok (.ishr, 1) := by decide +kernel
theorem d_Row_strandGoesIn_3 : decode b_Row_strandGoesIn 3 = .ok (.istore_n 2, 1) := by decide +kernel
theorem d_Row_strandGoesIn_4 : decode b_Row_strandGoesIn 4 = .ok (.iload_n 1, 1) := by decide +kernel
theorem d_Row_strandGoesIn_5 : decode b_Row_strandGoesIn 5 = .ok (.iconst 4, 1) := by decide +kernel
theorem d_Row_strandGoesIn_6 : decode b_Row_strandGoesIn 6 = .ok (.iload_n 2, 1) := by decide +kernel
theorem d_Row_strandGoesIn_7 : decode b_Row_strandGoesIn 7 = .ok (.imul, 1) := by decide +kernel
theorem d_Row_strandGoesIn_8 : decode b_Row_strandGoesIn 8 = .ok (.if_icmp .eq 12, 3) := by decide +kernel
theorem d_Row_strandGoesIn_11 : decode b_Row_strandGoesIn 11 = .ok (.iload_n 1, 1) := by decide +kernel
theorem d_Row_strandGoesIn_12 : decode b_Row_strandGoesIn 12 = .ok (.aload_n 0, 1) := by decide +kernel
theorem d_Row_strandGoesIn_13 : decode b_Row_strandGoesIn 13 = .ok (.iload_n 2, 1) := by decide +kernel
theorem d_Row_strandGoesIn_14 : decode b_Row_strandGoesIn 14 = .ok (.invokevirtual 26, 3) := by decide +kernel
theorem d_Row_strandGoesIn_17 : decode b_Row_strandGoesIn 17 = .ok (.if_icmp .ne 7, 3) := by decide +kernel
theorem d_Row_strandGoesIn_20 : decode b_Row_strandGoesIn 20 = .ok (.iconst 1, 1) := by decide +kernel
theorem d_Row_strandGoesIn_21 : decode b_Row_strandGoesIn 21 = .ok (.goto 4, 3) := by decide +kernel
theorem d_Row_strandGoesIn_24 : decode b_Row_strandGoesIn 24 = .ok (.iconst 0, 1) := by decide +kernel
theorem d_Row_strandGoesIn_25 : decode b_Row_strandGoesIn 25 = .ok (.ireturn, 1) := by decide +kernel
theorem d_Row_joinLabels_0 : decode b_Row_joinLabels 0 = .ok (.aload_n 0, 1) := by decide +kernel
theorem d_Row_joinLabels_1 : decode b_Row_joinLabels 1 = .ok (.getfield 9, 3) := by decide +kernel
theorem d_Row_joinLabels_4 : decode b_Row_joinLabels 4 = .ok (.iload_n 1, 1) := by decide +kernel
theorem d_Row_joinLabels_5 : decode b_Row_joinLabels 5 = .ok (.iaload, 1) := by decide +kernel
theorem d_Row_joinLabels_6 : decode b_Row_joinLabels 6 = .ok (.aload_n 0, 1) := by decide +kernel
theorem d_Row_joinLabels_7 : decode b_Row_joinLabels 7 = .ok (.getfield 9, 3) := by decide +kernel
theorem d_Row_joinLabels_10 : decode b_Row_joinLabels 10 = .ok (.iload_n 2, 1) := by decide +kernel
theorem d_Row_joinLabels_11 : decode b_Row_joinLabels 11 = .ok (.iaload, 1) := by decide +kernel
theorem d_Row_joinLabels_12 : decode b_Row_joinLabels 12 = .ok (.invokestatic 30, 3) := by decide +kernel
theorem d_Row_joinLabels_15 : decode b_Row_joinLabels 15 = .ok (.istore_n 3, 1) := by decide +kernel
theorem d_Row_joinLabels_16 : decode b_Row_joinLabels 16 = .ok (.aload_n 0, 1) := by decide +kernel
theorem d_Row_joinLabels_17 : decode b_Row_joinLabels 17 = .ok (.getfield 9, 3) := by decide +kernel
theorem d_Row_joinLabels_20 : decode b_Row_joinLabels 20 = .ok (.iload_n 1, 1) := by decide +kernel
theorem d_Row_joinLabels_21 : decode b_Row_joinLabels 21 = .ok (.iaload, 1) := by decide +kernel
theorem d_Row_joinLabels_22 : decode b_Row_joinLabels 22 = .ok (.aload_n 0, 1) := by decide +kernel
theorem d_Row_joinLabels_23 : decode b_Row_joinLabels 23 = .ok (.getfield 9, 3) := by decide +kernel
theorem d_Row_joinLabels_26 : decode b_Row_joinLabels 26 = .ok (.iload_n 2, 1) := by decide +kernel
theorem d_Row_joinLabels_27 : decode b_Row_joinLabels 27 = .ok (.iaload, 1) := by decide +kernel
theorem d_Row_joinLabels_28 : decode b_Row_joinLabels 28 = .ok (.invokestatic 36, 3) := by decide +kernel
theorem d_Row_joinLabels_31 : decode b_Row_joinLabels 31 = .ok (.istore 4, 2) := by decide +kernel
theorem d_Row_joinLabels_33 : decode b_Row_joinLabels 33 = .ok (.iload_n 3, 1) := by decide +kernel
theorem d_Row_joinLabels_34 : decode b_Row_joinLabels 34 = .ok (.iload 4, 2) := by decide +kernel
theorem d_Row_joinLabels_36 : decode b_Row_joinLabels 36 = .ok (.if_icmp .ne 5, 3) := by decide +kernel
theorem d_Row_joinLabels_39 : decode b_Row_joinLabels 39 = .ok (.iconst 0, 1) := by decide +kernel
theorem d_Row_joinLabels_40 : decode b_Row_joinLabels 40 = .ok (.ireturn, 1) := by decide +kernel
theorem d_Row_joinLabels_41 : decode b_Row_joinLabels 41 = .ok (.iconst 0, 1) := by decide +kernel
theorem d_Row_joinLabels_42 : decode b_Row_joinLabels 42 = .ok (.istore 5, 2) := by decide +kernel
theorem d_Row_joinLabels_44 : decode b_Row_joinLabels 44 = .ok (.iload 5, 2) := by decide +kernel
theorem d_Row_joinLabels_46 : decode b_Row_joinLabels 46 = .ok (.iconst 4, 1) := by decide +kernel
theorem d_Row_joinLabels_47 : decode b_Row_joinLabels 47 = .ok (.aload_n 0, 1) := by decide +kernel
theorem d_Row_joinLabels_48 : decode b_Row_joinLabels 48 = .ok (.getfield 18, 3) := by decide +kernel
theorem d_Row_joinLabels_51 : decode b_Row_joinLabels 51 = .ok (.imul, 1) := by decide +kernel
theorem d_Row_joinLabels_52 : decode b_Row_joinLabels 52 = .ok (.if_icmp .ge 29, 3) := by decide +kernel
theorem d_Row_joinLabels_55 : decode b_Row_joinLabels 55 = .ok (.aload_n 0, 1) := by decide +kernel
theorem d_Row_joinLabels_56 : decode b_Row_joinLabels 56 = .ok (.getfield 9, 3) := by decide +kernel
theorem d_Row_joinLabels_59 : decode b_Row_joinLabels 59 = .ok (.iload 5, 2) := by decide +kernel
theorem d_Row_joinLabels_61 : decode b_Row_joinLabels 61 = .ok (.iaload, 1) := by decide +kernel
theorem d_Row_joinLabels_62 : decode b_Row_joinLabels 62 = .ok (.iload 4, 2) := by decide +kernel
theorem d_Row_joinLabels_64 : decode b_Row_joinLabels 64 = .ok (.if_icmp .ne 11, 3) := by decide +kernel
theorem d_Row_joinLabels_67 : decode b_Row_joinLabels 67 = .ok (.aload_n 0, 1) := by decide +kernel
theorem d_Row_joinLabels_68 : decode b_Row_joinLabels 68 = .ok (.getfield 9, 3) := by decide +kernel
theorem d_Row_joinLabels_71 : decode b_Row_joinLabels 71 = .ok (.iload 5, 2) := by decide +kernel
theorem d_Row_joinLabels_73 : decode b_Row_joinLabels 73 = .ok (.iload_n 3, 1) := by decide +kernel
theorem d_Row_joinLabels_74 : decode b_Row_joinLabels 74 = .ok (.iastore, 1) := by decide +kernel
theorem d_Row_joinLabels_75 : decode b_Row_joinLabels 75 = .ok (.iinc 5 1, 3) := by decide +kernel
theorem d_Row_joinLabels_78 : decode b_Row_joinLabels 78 = .ok (.goto (-34), 3) := by decide +kernel
theorem d_Row_joinLabels_81 : decode b_Row_joinLabels 81 = .ok (.iconst 1, 1) := by decide +kernel
theorem d_Row_joinLabels_82 : decode b_Row_joinLabels 82 = .ok (.ireturn, 1) := by decide +kernel
theorem d_Row_remove_0 : decode b_Row_remove 0 = .ok (.iload_n 1, 1) := by decide +kernel
theorem d_Row_remove_1 : decode b_Row_remove 1 = .ok (.ifCond .lt 11, 3) := by decide +kernel
theorem d_Row_remove_4 : decode b_Row_remove 4 = .ok (.iload_n 1, 1) := by decide +kernel
theorem d_Row_remove_5 : decode b_Row_remove 5 = .ok (.aload_n 0, 1) := by decide +kernel
theorem d_Row_remove_6 : decode b_Row_remove 6 = .ok (.getfield 18, 3) := by decide +kernel
theorem d_Row_remove_9 : decode b_Row_remove 9 = .ok (.if_icmp .lt 4, 3) := by decide +kernel
theorem d_Row_remove_12 : decode b_Row_remove 12 = .ok (.return_, 1) := by decide +kernel
theorem d_Row_remove_13 : decode b_Row_remove 13 = .ok (.aload_n 0, 1) := by decide +kernel
theorem d_Row_remove_14 : decode b_Row_remove 14 = .ok (.getfield 18, 3) := by decide +kernel
theorem d_Row_remove_17 : decode b_Row_remove 17 = .ok (.iload_n 1, 1) := by decide +kernel
theorem d_Row_remove_18 : decode b_Row_remove 18 = .ok (.isub, 1) := by decide +kernel
theorem d_Row_remove_19 : decode b_Row_remove 19 = .ok (.iconst 1, 1) := by decide +kernel
theorem d_Row_remove_20 : decode b_Row_remove 20 = .ok (.isub, 1) := by decide +kernel
theorem d_Row_remove_21 : decode b_Row_remove 21 = .ok (.istore_n 2, 1) := by decide +kernel
theorem d_Row_remove_22 : decode b_Row_remove 22 = .ok (.aload_n 0, 1) := by decide +kernel
theorem d_Row_remove_23 : decode b_Row_remove 23 = .ok (.getfield 9, 3) := by decide +kernel
theorem d_Row_remove_26 : decode b_Row_remove 26 = .ok (.iconst 4, 1) := by decide +kernel
theorem d_Row_remove_27 : decode b_Row_remove 27 = .ok (.iload_n 1, 1) := by decide +kernel
theorem d_Row_remove_28 : decode b_Row_remove 28 = .ok (.iconst 1, 1) := by decide +kernel
theorem d_Row_remove_29 : decode b_Row_remove 29 = .ok (.iadd, 1) := by decide +kernel
theorem d_Row_remove_30 : decode b_Row_remove 30 = .ok (.imul, 1) := by decide +kernel
theorem d_Row_remove_31 : decode b_Row_remove 31 = .ok (.aload_n 0, 1) := by decide +kernel
theorem d_Row_remove_32 : decode b_Row_remove 32 = .ok (.getfield 9, 3) := by decide +kernel
theorem d_Row_remove_35 : decode b_Row_remove 35 = .ok (.iconst 4, 1) := by decide +kernel
theorem d_Row_remove_36 : decode b_Row_remove 36 = .ok (.iload_n 1, 1) := by decide +kernel
theorem d_Row_remove_37 : decode b_Row_remove 37 = .ok (.imul, 1) := by decide +kernel
theorem d_Row_remove_38 : decode b_Row_remove 38 = .ok (.iconst 4, 1) := by decide +kernel
theorem d_Row_remove_39 : decode b_Row_remove 39 = .ok (.iload_n 2, 1) := by decide +kernel
theorem d_Row_remove_40 : decode b_Row_remove 40 = .ok (.imul, 1) := by decide +kernel
theorem d_Row_remove_41 : decode b_Row_remove 41 = .ok (.invokestatic 39, 3) := by decide +kernel
theorem d_Row_remove_44 : decode b_Row_remove 44 = .ok (.aload_n 0, 1) := by decide +kernel
theorem d_Row_remove_45 : decode b_Row_remove 45 = .ok (.getfield 15, 3) := by decide +kernel
theorem d_Row_remove_48 : decode b_Row_remove 48 = .ok (.iload_n 1, 1) := by decide +kernel
theorem d_Row_remove_49 : decode b_Row_remove 49 = .ok (.iconst 1, 1) := by decide +kernel
theorem d_Row_remove_50 : decode b_Row_remove 50 = .ok (.iadd, 1) := by decide +kernel
theorem d_Row_remove_51 : decode b_Row_remove 51 = .ok (.aload_n 0, 1) := by decide +kernel
theorem d_Row_remove_52 : decode b_Row_remove 52 = .ok (.getfield 15, 3) := by decide +kernel
theorem d_Row_remove_55 : decode b_Row_remove 55 = .ok (.iload_n 1, 1) := by decide +kernel
theorem d_Row_remove_56 : decode b_Row_remove 56 = .ok (.iload_n 2, 1) := by decide +kernel
theorem d_Row_remove_57 : decode b_Row_remove 57 = .ok (.invokestatic 39, 3) := by decide +kernel
theorem d_Row_remove_60 : decode b_Row_remove 60 = .ok (.aload_n 0, 1) := by decide +kernel
theorem d_Row_remove_61 : decode b_Row_remove 61 = .ok (.dup, 1) := by decide +kernel
theorem d_Row_remove_62 : decode b_Row_remove 62 = .ok (.getfield 18, 3) := by decide +kernel
theorem d_Row_remove_65 : decode b_Row_remove 65 = .ok (.iconst 1, 1) := by decide +kernel
theorem d_Row_remove_66 : decode b_Row_remove 66 = .ok (.isub, 1) := by decide +kernel
theorem d_Row_remove_67 : decode b_Row_remove 67 = .ok (.putfield 18, 3) := by decide +kernel
theorem d_Row_remove_70 : decode b_Row_remove 70 = .ok (.return_, 1) := by decide +kernel
theorem d_Math_max_0 : decode b_Math_max 0 = .ok (.iload_n 0, 1) := by decide +kernel
theorem d_Math_max_1 : decode b_Math_max 1 = .ok (.iload_n 1, 1) := by decide +kernel
theorem d_Math_max_2 : decode b_Math_max 2 = .ok (.if_icmp .lt 7, 3) := by decide +kernel
theorem d_Math_max_5 : decode b_Math_max 5 = .ok (.iload_n 0, 1) := by decide +kernel
theorem d_Math_max_6 : decode b_Math_max 6 = .ok (.goto 4, 3) := by decide +kernel
theorem d_Math_max_9 : decode b_Math_max 9 = .ok (.iload_n 1, 1) := by decide +kernel
theorem d_Math_max_10 : decode b_Math_max 10 = .ok (.ireturn, 1) := by decide +kernel
theorem d_Math_min_0 : decode b_Math_min 0 = .ok (.iload_n 0, 1) := by decide +kernel
theorem d_Math_min_1 : decode b_Math_min 1 = .ok (.iload_n 1, 1) := by decide +kernel
theorem d_Math_min_2 : decode b_Math_min 2 = .ok (.if_icmp .gt 7, 3) := by decide +kernel
theorem d_Math_min_5 : decode b_Math_min 5 = .ok (.iload_n 0, 1) := by decide +kernel
theorem d_Math_min_6 : decode b_Math_min 6 = .ok (.goto 4, 3) := by decide +kernel
theorem d_Math_min_9 : decode b_Math_min 9 = .ok (.iload_n 1, 1) := by decide +kernel
theorem d_Math_min_10 : decode b_Math_min 10 = .ok (.ireturn, 1) := by decide +kernel
theorem d_Arr_fill_0 : decode b_Arr_fill 0 = .ok (.iconst 0, 1) := by decide +kernel
theorem d_Arr_fill_1 : decode b_Arr_fill 1 = .ok (.istore_n 2, 1) := by decide +kernel
theorem d_Arr_fill_2 : decode b_Arr_fill 2 = .ok (.aload_n 0, 1) := by decide +kernel
theorem d_Arr_fill_3 : decode b_Arr_fill 3 = .ok (.arraylength, 1) := by decide +kernel
theorem d_Arr_fill_4 : decode b_Arr_fill 4 = .ok (.istore_n 3, 1) := by decide +kernel
theorem d_Arr_fill_5 : decode b_Arr_fill 5 = .ok (.iload_n 2, 1) := by decide +kernel
theorem d_Arr_fill_6 : decode b_Arr_fill 6 = .ok (.iload_n 3, 1) := by decide +kernel
theorem d_Arr_fill_7 : decode b_Arr_fill 7 = .ok (.if_icmp .ge 13, 3) := by decide +kernel
theorem d_Arr_fill_10 : decode b_Arr_fill 10 = .ok (.aload_n 0, 1) := by decide +kernel
theorem d_Arr_fill_11 : decode b_Arr_fill 11 = .ok (.iload_n 2, 1) := by decide +kernel
theorem d_Arr_fill_12 : decode b_Arr_fill 12 = .ok (.iload_n 1, 1) := by decide +kernel
theorem d_Arr_fill_13 : decode b_Arr_fill 13 = .ok (.iastore, 1) := by decide +kernel
theorem d_Arr_fill_14 : decode b_Arr_fill 14 = .ok (.iinc 2 1, 3) := by decide +kernel
theorem d_Arr_fill_17 : decode b_Arr_fill 17 = .ok (.goto (-12), 3) := by decide +kernel
theorem d_Arr_fill_20 : decode b_Arr_fill 20 = .ok (.return_, 1) := by decide +kernel
theorem d_Int_bitCount_0 : decode b_Int_bitCount 0 = .ok (.iload_n 0, 1) := by decide +kernel
theorem d_Int_bitCount_1 : decode b_Int_bitCount 1 = .ok (.iload_n 0, 1) := by decide +kernel
theorem d_Int_bitCount_2 : decode b_Int_bitCount 2 = .ok (.iconst 1, 1) := by decide +kernel
theorem d_Int_bitCount_3 : decode b_Int_bitCount 3 = .ok (.iushr, 1) := by decide +kernel
theorem d_Int_bitCount_4 : decode b_Int_bitCount 4 = .ok (.ldc_w 265, 3) := by decide +kernel
theorem d_Int_bitCount_7 : decode b_Int_bitCount 7 = .ok (.iand, 1) := by decide +kernel
theorem d_Int_bitCount_8 : decode b_Int_bitCount 8 = .ok (.isub, 1) := by decide +kernel
theorem d_Int_bitCount_9 : decode b_Int_bitCount 9 = .ok (.istore_n 0, 1) := by decide +kernel
theorem d_Int_bitCount_10 : decode b_Int_bitCount 10 = .ok (.iload_n 0, 1) := by decide +kernel
theorem d_Int_bitCount_11 : decode b_Int_bitCount 11 = .ok (.ldc_w 266, 3) := by decide +kernel
theorem d_Int_bitCount_14 : decode b_Int_bitCount 14 = .ok (.iand, 1) := by decide +kernel
theorem d_Int_bitCount_15 : decode b_Int_bitCount 15 = .ok (.iload_n 0, 1) := by decide +kernel
theorem d_Int_bitCount_16 : decode b_Int_bitCount 16 = .ok (.iconst 2, 1) := by decide +kernel
theorem d_Int_bitCount_17 : decode b_Int_bitCount 17 = .ok (.iushr, 1) := by decide +kernel
theorem d_Int_bitCount_18 : decode b_Int_bitCount 18 = .ok (.ldc_w 266, 3) := by decide +kernel
theorem d_Int_bitCount_21 : decode b_Int_bitCount 21 = .ok (.iand, 1) := by decide +kernel
theorem d_Int_bitCount_22 : decode b_Int_bitCount 22 = .ok (.iadd, 1) := by decide +kernel
theorem d_Int_bitCount_23 : decode b_Int_bitCount 23 = .ok (.istore_n 0, 1) := by decide +kernel
theorem d_Int_bitCount_24 : decode b_Int_bitCount 24 = .ok (.iload_n 0, 1) := by decide +kernel
theorem d_Int_bitCount_25 : decode b_Int_bitCount 25 = .ok (.iload_n 0, 1) := by decide +kernel
theorem d_Int_bitCount_26 : decode b_Int_bitCount 26 = .ok (.iconst 4, 1) := by decide +kernel
theorem d_Int_bitCount_27 : decode b_Int_bitCount 27 = .ok (.iushr, 1) := by decide +kernel
theorem d_Int_bitCount_28 : decode b_Int_bitCount 28 = .ok (.iadd, 1) := by decide +kernel
theorem d_Int_bitCount_29 : decode b_Int_bitCount 29 = .ok (.ldc_w 267, 3) := by decide +kernel
theorem d_Int_bitCount_32 : decode b_Int_bitCount 32 = .ok (.iand, 1) := by decide +kernel
theorem d_Int_bitCount_33 : decode b_Int_bitCount 33 = .ok (.istore_n 0, 1) := by decide +kernel
theorem d_Int_bitCount_34 : decode b_Int_bitCount 34 = .ok (.iload_n 0, 1) := by decide +kernel
theorem d_Int_bitCount_35 : decode b_Int_bitCount 35 = .ok (.iload_n 0, 1) := by decide +kernel
theorem d_Int_bitCount_36 : decode b_Int_bitCount 36 = .ok (.bipush 8, 2) := by decide +kernel
theorem d_Int_bitCount_38 : decode b_Int_bitCount 38 = .ok (.iushr, 1) := by decide +kernel
theorem d_Int_bitCount_39 : decode b_Int_bitCount 39 = .ok (.iadd, 1) := by decide +kernel
theorem d_Int_bitCount_40 : decode b_Int_bitCount 40 = .ok (.istore_n 0, 1) := by decide +kernel
theorem d_Int_bitCount_41 : decode b_Int_bitCount 41 = .ok (.iload_n 0, 1) := by decide +kernel
theorem d_Int_bitCount_42 : decode b_Int_bitCount 42 = .ok (.iload_n 0, 1) := by decide +kernel
theorem d_Int_bitCount_43 : decode b_Int_bitCount 43 = .ok (.bipush 16, 2) := by decide +kernel
theorem d_Int_bitCount_45 : decode b_Int_bitCount 45 = .ok (.iushr, 1) := by decide +kernel
theorem d_Int_bitCount_46 : decode b_Int_bitCount 46 = .ok (.iadd, 1) := by decide +kernel
theorem d_Int_bitCount_47 : decode b_Int_bitCount 47 = .ok (.istore_n 0, 1) := by decide +kernel
theorem d_Int_bitCount_48 : decode b_Int_bitCount 48 = .ok (.iload_n 0, 1) := by decide +kernel
theorem d_Int_bitCount_49 : decode b_Int_bitCount 49 = .ok (.bipush 63, 2) := by decide +kernel
theorem d_Int_bitCount_51 : decode b_Int_bitCount 51 = .ok (.iand, 1) := by decide +kernel
theorem d_Int_bitCount_52 : decode b_Int_bitCount 52 = .ok (.ireturn, 1) := by decide +kernel
