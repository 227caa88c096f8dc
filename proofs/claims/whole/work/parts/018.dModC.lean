theorem d_Mod_rename_0 : decode b_Mod_rename 0 = .ok (.iconst 0, 1) := by decide +kernel
theorem d_Mod_rename_1 : decode b_Mod_rename 1 = .ok (.istore_n 3, 1) := by decide +kernel
theorem d_Mod_rename_2 : decode b_Mod_rename 2 = .ok (.iload_n 3, 1) := by decide +kernel
theorem d_Mod_rename_3 : decode b_Mod_rename 3 = .ok (.iconst 4, 1) := by decide +kernel
theorem d_Mod_rename_4 : decode b_Mod_rename 4 = .ok (.aload_n 0, 1) := by decide +kernel
theorem d_Mod_rename_5 : decode b_Mod_rename 5 = .ok (.getfield 59, 3) := by decide +kernel
theorem d_Mod_rename_8 : decode b_Mod_rename 8 = .ok (.imul, 1) := by decide +kernel
theorem d_Mod_rename_9 : decode b_Mod_rename 9 = .ok (.if_icmp .ge 35, 3) := by decide +kernel
theorem d_Mod_rename_12 : decode b_Mod_rename 12 = .ok (.aload_n 0, 1) := by decide +kernel
theorem d_Mod_rename_13 : decode b_Mod_rename 13 = .ok (.getfield 23, 3) := by decide +kernel
theorem d_Mod_rename_16 : decode b_Mod_rename 16 = .ok (.iload_n 3, 1) := by decide +kernel
theorem d_Mod_rename_17 : decode b_Mod_rename 17 = .ok (.aload_n 0, 1) := by decide +kernel
theorem d_Mod_rename_18 : decode b_Mod_rename 18 = .ok (.getfield 23, 3) := by decide +kernel
theorem d_Mod_rename_21 : decode b_Mod_rename 21 = .ok (.iload_n 3, 1) := by decide +kernel
theorem d_Mod_rename_22 : decode b_Mod_rename 22 = .ok (.iaload, 1) := by decide +kernel
theorem d_Mod_rename_23 : decode b_Mod_rename 23 = .ok (.iload_n 1, 1) := by decide +kernel
theorem d_Mod_rename_24 : decode b_Mod_rename 24 = .ok (.if_icmp .ne 7, 3) := by decide +kernel
theorem d_Mod_rename_27 : decode b_Mod_rename 27 = .ok (.iload_n 2, 1) := by decide +kernel
theorem d_Mod_rename_28 : decode b_Mod_rename 28 = .ok (.goto 9, 3) := by decide +kernel
theorem d_Mod_rename_31 : decode b_Mod_rename 31 = .ok (.aload_n 0, 1) := by decide +kernel
theorem d_Mod_rename_32 : decode b_Mod_rename 32 = .ok (.getfield 23, 3) := by decide +kernel
theorem d_Mod_rename_35 : decode b_Mod_rename 35 = .ok (.iload_n 3, 1) := by decide +kernel
theorem d_Mod_rename_36 : decode b_Mod_rename 36 = .ok (.iaload, 1) := by decide +kernel
theorem d_Mod_rename_37 : decode b_Mod_rename 37 = .ok (.iastore, 1) := by decide +kernel
theorem d_Mod_rename_38 : decode b_Mod_rename 38 = .ok (.iinc 3 1, 3) := by decide +kernel
theorem d_Mod_rename_41 : decode b_Mod_rename 41 = .ok (.goto (-39), 3) := by decide +kernel
theorem d_Mod_rename_44 : decode b_Mod_rename 44 = .ok (.iconst 0, 1) := by decide +kernel
theorem d_Mod_rename_45 : decode b_Mod_rename 45 = .ok (.istore_n 3, 1) := by decide +kernel
theorem d_Mod_rename_46 : decode b_Mod_rename 46 = .ok (.iload_n 3, 1) := by decide +kernel
theorem d_Mod_rename_47 : decode b_Mod_rename 47 = .ok (.iconst 4, 1) := by decide +kernel
theorem d_Mod_rename_48 : decode b_Mod_rename 48 = .ok (.if_icmp .ge 35, 3) := by decide +kernel
theorem d_Mod_rename_51 : decode b_Mod_rename 51 = .ok (.aload_n 0, 1) := by decide +kernel
theorem d_Mod_rename_52 : decode b_Mod_rename 52 = .ok (.getfield 35, 3) := by decide +kernel
theorem d_Mod_rename_55 : decode b_Mod_rename 55 = .ok (.iload_n 3, 1) := by decide +kernel
theorem d_Mod_rename_56 : decode b_Mod_rename 56 = .ok (.aload_n 0, 1) := by decide +kernel
theorem d_Mod_rename_57 : decode b_Mod_rename 57 = .ok (.getfield 35, 3) := by decide +kernel
theorem d_Mod_rename_60 : decode b_Mod_rename 60 = .ok (.iload_n 3, 1) := by decide +kernel
theorem d_Mod_rename_61 : decode b_Mod_rename 61 = .ok (.iaload, 1) := by decide +kernel
theorem d_Mod_rename_62 : decode b_Mod_rename 62 = .ok (.iload_n 1, 1) := by decide +kernel
theorem d_Mod_rename_63 : decode b_Mod_rename 63 = .ok (.if_icmp .ne 7, 3) := by decide +kernel
theorem d_Mod_rename_66 : decode b_Mod_rename 66 = .ok (.iload_n 2, 1) := by decide +kernel
theorem d_Mod_rename_67 : decode b_Mod_rename 67 = .ok (.goto 9, 3) := by decide +kernel
theorem d_Mod_rename_70 : decode b_Mod_rename 70 = .ok (.aload_n 0, 1) := by decide +kernel
theorem d_Mod_rename_71 : decode b_Mod_rename 71 = .ok (.getfield 35, 3) := by decide +kernel
theorem d_Mod_rename_74 : decode b_Mod_rename 74 = .ok (.iload_n 3, 1) := by decide +kernel
theorem d_Mod_rename_75 : decode b_Mod_rename 75 = .ok (.iaload, 1) := by decide +kernel
theorem d_Mod_rename_76 : decode b_Mod_rename 76 = .ok (.iastore, 1) := by decide +kernel
theorem d_Mod_rename_77 : decode b_Mod_rename 77 = .ok (.iinc 3 1, 3) := by decide +kernel
theorem d_Mod_rename_80 : decode b_Mod_rename 80 = .ok (.goto (-34), 3) := by decide +kernel
theorem d_Mod_rename_83 : decode b_Mod_rename 83 = .ok (.return_, 1) := by decide +kernel
theorem d_Mod_join_0 : decode b_Mod_join 0 = .ok (.iload_n 1, 1) := by decide +kernel
theorem d_Mod_join_1 : decode b_Mod_join 1 = .ok (.iload_n 2, 1) := by decide +kernel
theorem d_Mod_join_2 : decode b_Mod_join 2 = .ok (.if_icmp .ne 16, 3) := by decide +kernel
theorem d_Mod_join_5 : decode b_Mod_join 5 = .ok (.aload_n 0, 1) := by decide +kernel
theorem d_Mod_join_6 : decode b_Mod_join 6 = .ok (.dup, 1) := by decide +kernel
theorem d_Mod_join_7 : decode b_Mod_join 7 = .ok (.getfield 104, 3) := by decide +kernel
theorem d_Mod_join_10 : decode b_Mod_join 10 = .ok (.iconst 1, 1) := by decide +kernel
theorem d_Mod_join_11 : decode b_Mod_join 11 = .ok (.iadd, 1) := by decide +kernel
theorem d_Mod_join_12 : decode b_Mod_join 12 = .ok (.putfield 104, 3) := by decide +kernel
theorem d_Mod_join_15 : decode b_Mod_join 15 = .ok (.goto 27, 3) := by decide +kernel
theorem d_Mod_join_18 : decode b_Mod_join 18 = .ok (.aload_n 0, 1) := by decide +kernel
theorem d_Mod_join_19 : decode b_Mod_join 19 = .ok (.iload_n 1, 1) := by decide +kernel
theorem d_Mod_join_20 : decode b_Mod_join 20 = .ok (.iload_n 2, 1) := by decide +kernel
theorem d_Mod_join_21 : decode b_Mod_join 21 = .ok (.if_icmp .ge 7, 3) := by decide +kernel
theorem d_Mod_join_24 : decode b_Mod_join 24 = .ok (.iload_n 2, 1) := by decide +kernel
theorem d_Mod_join_25 : decode b_Mod_join 25 = .ok (.goto 4, 3) := by decide +kernel
theorem d_Mod_join_28 : decode b_Mod_join 28 = .ok (.iload_n 1, 1) := by decide +kernel
theorem d_Mod_join_29 : decode b_Mod_join 29 = .ok (.iload_n 1, 1) := by decide +kernel
theorem d_Mod_join_30 : decode b_Mod_join 30 = .ok (.iload_n 2, 1) := by decide +kernel
theorem d_Mod_join_31 : decode b_Mod_join 31 = .ok (.if_icmp .ge 7, 3) := by decide +kernel
theorem d_Mod_join_34 : decode b_Mod_join 34 = .ok (.iload_n 1, 1) := by decide +kernel
theorem d_Mod_join_35 : decode b_Mod_join 35 = .ok (.goto 4, 3) := by decide +kernel
theorem d_Mod_join_38 : decode b_Mod_join 38 = .ok (.iload_n 2, 1) := by decide +kernel
theorem d_Mod_join_39 : decode b_Mod_join 39 = .ok (.invokevirtual 169, 3) := by decide +kernel
theorem d_Mod_join_42 : decode b_Mod_join 42 = .ok (.return_, 1) := by decide +kernel
theorem d_Mod_lift_0 : decode b_Mod_lift 0 = .ok (.iconst 0, 1) := by decide +kernel
theorem d_Mod_lift_1 : decode b_Mod_lift 1 = .ok (.istore_n 2, 1) := by decide +kernel
theorem d_Mod_lift_2 : decode b_Mod_lift 2 = .ok (.iload_n 2, 1) := by decide +kernel
theorem d_Mod_lift_3 : decode b_Mod_lift 3 = .ok (.iconst 4, 1) := by decide +kernel
theorem d_Mod_lift_4 : decode b_Mod_lift 4 = .ok (.if_icmp .ge 25, 3) := by decide +kernel
theorem d_Mod_lift_7 : decode b_Mod_lift 7 = .ok (.aload_n 0, 1) := by decide +kernel
theorem d_Mod_lift_8 : decode b_Mod_lift 8 = .ok (.getfield 35, 3) := by decide +kernel
theorem d_Mod_lift_11 : decode b_Mod_lift 11 = .ok (.iload_n 2, 1) := by decide +kernel
theorem d_Mod_lift_12 : decode b_Mod_lift 12 = .ok (.aload_n 0, 1) := by decide +kernel
theorem d_Mod_lift_13 : decode b_Mod_lift 13 = .ok (.getfield 23, 3) := by decide +kernel
theorem d_Mod_lift_16 : decode b_Mod_lift 16 = .ok (.iconst 4, 1) := by decide +kernel
theorem d_Mod_lift_17 : decode b_Mod_lift 17 = .ok (.iload_n 1, 1) := by decide +kernel
theorem d_Mod_lift_18 : decode b_Mod_lift 18 = .ok (.imul, 1) := by decide +kernel
theorem d_Mod_lift_19 : decode b_Mod_lift 19 = .ok (.iload_n 2, 1) := by decide +kernel
theorem d_Mod_lift_20 : decode b_Mod_lift 20 = .ok (.iadd, 1) := by decide +kernel
theorem d_Mod_lift_21 : decode b_Mod_lift 21 = .ok (.iaload, 1) := by decide +kernel
theorem d_Mod_lift_22 : decode b_Mod_lift 22 = .ok (.iastore, 1) := by decide +kernel
theorem d_Mod_lift_23 : decode b_Mod_lift 23 = .ok (.iinc 2 1, 3) := by decide +kernel
theorem d_Mod_lift_26 : decode b_Mod_lift 26 = .ok (.goto (-24), 3) := by decide +kernel
theorem d_Mod_lift_29 : decode b_Mod_lift 29 = .ok (.aload_n 0, 1) := by decide +kernel
theorem d_Mod_lift_30 : decode b_Mod_lift 30 = .ok (.dup, 1) := by decide +kernel
theorem d_Mod_lift_31 : decode b_Mod_lift 31 = .ok (.getfield 59, 3) := by decide +kernel
theorem d_Mod_lift_34 : decode b_Mod_lift 34 = .ok (.iconst 1, 1) := by decide +kernel
theorem d_Mod_lift_35 : decode b_Mod_lift 35 = .ok (.isub, 1) := by decide +kernel
theorem d_Mod_lift_36 : decode b_Mod_lift 36 = .ok (.putfield 59, 3) := by decide +kernel
theorem d_Mod_lift_39 : decode b_Mod_lift 39 = .ok (.iload_n 1, 1) := by decide +kernel
theorem d_Mod_lift_40 : decode b_Mod_lift 40 = .ok (.istore_n 2, 1) := by decide +kernel
theorem d_Mod_lift_41 : decode b_Mod_lift 41 = .ok (.iload_n 2, 1) := by decide +kernel
theorem d_Mod_lift_42 : decode b_Mod_lift 42 = .ok (.aload_n 0, 1) := by decide +kernel
theorem d_Mod_lift_43 : decode b_Mod_lift 43 = .ok (.getfield 59, 3) := by decide +kernel
theorem d_Mod_lift_46 : decode b_Mod_lift 46 = .ok (.if_icmp .ge 58, 3) := by decide +kernel
theorem d_Mod_lift_49 : decode b_Mod_lift 49 = .ok (.aload_n 0, 1) := by decide +kernel
theorem d_Mod_lift_50 : decode b_Mod_lift 50 = .ok (.getfield 20, 3) := by decide +kernel
theorem d_Mod_lift_53 : decode b_Mod_lift 53 = .ok (.iload_n 2, 1) := by decide +kernel
theorem d_Mod_lift_54 : decode b_Mod_lift 54 = .ok (.aload_n 0, 1) := by decide +kernel
theorem d_Mod_lift_55 : decode b_Mod_lift 55 = .ok (.getfield 20, 3) := by decide +kernel
theorem d_Mod_lift_58 : decode b_Mod_lift 58 = .ok (.iload_n 2, 1) := by decide +kernel
theorem d_Mod_lift_59 : decode b_Mod_lift 59 = .ok (.iconst 1, 1) := by decide +kernel
theorem d_Mod_lift_60 : decode b_Mod_lift 60 = .ok (.iadd, 1) := by decide +kernel
theorem d_Mod_lift_61 : decode b_Mod_lift 61 = .ok (.iaload, 1) := by decide +kernel
theorem d_Mod_lift_62 : decode b_Mod_lift 62 = .ok (.iastore, 1) := by decide +kernel
theorem d_Mod_lift_63 : decode b_Mod_lift 63 = .ok (.iconst 0, 1) := by decide +kernel
theorem d_Mod_lift_64 : decode b_Mod_lift 64 = .ok (.istore_n 3, 1) := by decide +kernel
theorem d_Mod_lift_65 : decode b_Mod_lift 65 = .ok (.iload_n 3, 1) := by decide +kernel
theorem d_Mod_lift_66 : decode b_Mod_lift 66 = .ok (.iconst 4, 1) := by decide +kernel
theorem d_Mod_lift_67 : decode b_Mod_lift 67 = .ok (.if_icmp .ge 31, 3) := by decide +kernel
theorem d_Mod_lift_70 : decode b_Mod_lift 70 = .ok (.aload_n 0, 1) := by decide +kernel
theorem d_Mod_lift_71 : decode b_Mod_lift 71 = .ok (.getfield 23, 3) := by decide +kernel
theorem d_Mod_lift_74 : decode b_Mod_lift 74 = .ok (.iconst 4, 1) := by decide +kernel
theorem d_Mod_lift_75 : decode b_Mod_lift 75 = .ok (.iload_n 2, 1) := by decide +kernel
theorem d_Mod_lift_76 : decode b_Mod_lift 76 = .ok (.imul, 1) := by decide +kernel
theorem d_Mod_lift_77 : decode b_Mod_lift 77 = .ok (.iload_n 3, 1) := by decide +kernel
theorem d_Mod_lift_78 : decode b_Mod_lift 78 = .ok (.iadd, 1) := by decide +kernel
theorem d_Mod_lift_79 : decode b_Mod_lift 79 = .ok (.aload_n 0, 1) := by decide +kernel
theorem d_Mod_lift_80 : decode b_Mod_lift 80 = .ok (.getfield 23, 3) := by decide +kernel
theorem d_Mod_lift_83 : decode b_Mod_lift 83 = .ok (.iconst 4, 1) := by decide +kernel
theorem d_Mod_lift_84 : decode b_Mod_lift 84 = .ok (.iload_n 2, 1) := by decide +kernel
theorem d_Mod_lift_85 : decode b_Mod_lift 85 = .ok (.imul, 1) := by decide +kernel
theorem d_Mod_lift_86 : decode b_Mod_lift 86 = .ok (.iconst 4, 1) := by decide +kernel
theorem d_Mod_lift_87 : decode b_Mod_lift 87 = .ok (.iadd, 1) := by decide +kernel
theorem d_Mod_lift_88 : decode b_Mod_lift 88 = .ok (.iload_n 3, 1) := by decide +kernel
theorem d_Mod_lift_89 : decode b_Mod_lift 89 = .ok (.iadd, 1) := by decide +kernel
theorem d_Mod_lift_90 : decode b_Mod_lift 90 = .ok (.iaload, 1) := by decide +kernel
theorem d_Mod_lift_91 : decode b_Mod_lift 91 = .ok (.iastore, 1) := by decide +kernel
theorem d_Mod_lift_92 : decode b_Mod_lift 92 = .ok (.iinc 3 1, 3) := by decide +kernel
theorem d_Mod_lift_95 : decode b_Mod_lift 95 = .ok (.goto (-30), 3) := by decide +kernel
theorem d_Mod_lift_98 : decode b_Mod_lift 98 = .ok (.iinc 2 1, 3) := by decide +kernel
theorem d_Mod_lift_101 : decode b_Mod_lift 101 = .ok (.goto (-60), 3) := by decide +kernel
theorem d_Mod_lift_104 : decode b_Mod_lift 104 = .ok (.aload_n 0, 1) := by decide +kernel
theorem d_Mod_lift_105 : decode b_Mod_lift 105 = .ok (.aload_n 0, 1) := by decide +kernel
theorem d_Mod_lift_106 : decode b_Mod_lift 106 = .ok (.getfield 35, 3) := by decide +kernel
theorem d_Mod_lift_109 : decode b_Mod_lift 109 = .ok (.iconst 0, 1) := by decide +kernel
theorem d_Mod_lift_110 : decode b_Mod_lift 110 = .ok (.iaload, 1) := by decide +kernel
theorem d_Mod_lift_111 : decode b_Mod_lift 111 = .ok (.aload_n 0, 1) := by decide +kernel
theorem d_Mod_lift_112 : decode b_Mod_lift 112 = .ok (.getfield 35, 3) := by decide +kernel
theorem d_Mod_lift_115 : decode b_Mod_lift 115 = .ok (.iconst 2, 1) := by decide +kernel
theorem d_Mod_lift_116 : decode b_Mod_lift 116 = .ok (.iaload, 1) := by decide +kernel
theorem d_Mod_lift_117 : decode b_Mod_lift 117 = .ok (.invokevirtual 173, 3) := by decide +kernel
theorem d_Mod_lift_120 : decode b_Mod_lift 120 = .ok (.aload_n 0, 1) := by decide +kernel
theorem d_Mod_lift_121 : decode b_Mod_lift 121 = .ok (.aload_n 0, 1) := by decide +kernel
theorem d_Mod_lift_122 : decode b_Mod_lift 122 = .ok (.getfield 35, 3) := by decide +kernel
theorem d_Mod_lift_125 : decode b_Mod_lift 125 = .ok (.iconst 1, 1) := by decide +kernel
theorem d_Mod_lift_126 : decode b_Mod_lift 126 = .ok (.iaload, 1) := by decide +kernel
theorem d_Mod_lift_127 : decode b_Mod_lift 127 = .ok (.aload_n 0, 1) := by decide +kernel
theorem d_Mod_lift_128 : decode b_Mod_lift 128 = .ok (.getfield 35, 3) := by decide +kernel
theorem d_Mod_lift_131 : decode b_Mod_lift 131 = .ok (.iconst 3, 1) := by decide +kernel
theorem d_Mod_lift_132 : decode b_Mod_lift 132 = .ok (.iaload, 1) := by decide +kernel
theorem d_Mod_lift_133 : decode b_Mod_lift 133 = .ok (.invokevirtual 173, 3) := by decide +kernel
theorem d_Mod_lift_136 : decode b_Mod_lift 136 = .ok (.return_, 1) := by decide +kernel
theorem d_Mod_undo_0 : decode b_Mod_undo 0 = .ok (.aload_n 0, 1) := by decide +kernel
theorem d_Mod_undo_1 : decode b_Mod_undo 1 = .ok (.iload_n 1, 1) := by decide +kernel
theorem d_Mod_undo_2 : decode b_Mod_undo 2 = .ok (.invokevirtual 176, 3) := by decide +kernel
theorem d_Mod_undo_5 : decode b_Mod_undo 5 = .ok (.istore_n 2, 1) := by decide +kernel
theorem d_Mod_undo_6 : decode b_Mod_undo 6 = .ok (.iload_n 2, 1) := by decide +kernel
theorem d_Mod_undo_7 : decode b_Mod_undo 7 = .ok (.iconst 1, 1) := by decide +kernel
theorem d_Mod_undo_8 : decode b_Mod_undo 8 = .ok (.if_icmp .eq 10, 3) := by decide +kernel
theorem d_Mod_undo_11 : decode b_Mod_undo 11 = .ok (.iload_n 2, 1) := by decide +kernel
theorem d_Mod_undo_12 : decode b_Mod_undo 12 = .ok (.iconst 2, 1) := by decide +kernel
theorem d_Mod_undo_13 : decode b_Mod_undo 13 = .ok (.if_icmp .eq 5, 3) := by decide +kernel
theorem d_Mod_undo_16 : decode b_Mod_undo 16 = .ok (.iconst 0, 1) := by decide +kernel
theorem d_Mod_undo_17 : decode b_Mod_undo 17 = .ok (.ireturn, 1) := by decide +kernel
theorem d_Mod_undo_18 : decode b_Mod_undo 18 = .ok (.aload_n 0, 1) := by decide +kernel
theorem d_Mod_undo_19 : decode b_Mod_undo 19 = .ok (.aload_n 0, 1) := by decide +kernel
theorem d_Mod_undo_20 : decode b_Mod_undo 20 = .ok (.getfield 47, 3) := by decide +kernel
theorem d_Mod_undo_23 : decode b_Mod_undo 23 = .ok (.iconst 0, 1) := by decide +kernel
theorem d_Mod_undo_24 : decode b_Mod_undo 24 = .ok (.iaload, 1) := by decide +kernel
theorem d_Mod_undo_25 : decode b_Mod_undo 25 = .ok (.invokevirtual 163, 3) := by decide +kernel
theorem d_Mod_undo_28 : decode b_Mod_undo 28 = .ok (.istore_n 3, 1) := by decide +kernel
theorem d_Mod_undo_29 : decode b_Mod_undo 29 = .ok (.iload_n 2, 1) := by decide +kernel
theorem d_Mod_undo_30 : decode b_Mod_undo 30 = .ok (.iconst 1, 1) := by decide +kernel
theorem d_Mod_undo_31 : decode b_Mod_undo 31 = .ok (.if_icmp .ne 7, 3) := by decide +kernel
theorem d_Mod_undo_34 : decode b_Mod_undo 34 = .ok (.iload_n 3, 1) := by decide +kernel
theorem d_Mod_undo_35 : decode b_Mod_undo 35 = .ok (.goto 13, 3) := by decide +kernel
theorem d_Mod_undo_38 : decode b_Mod_undo 38 = .ok (.aload_n 0, 1) := by decide +kernel
theorem d_Mod_undo_39 : decode b_Mod_undo 39 = .ok (.aload_n 0, 1) := by decide +kernel
theorem d_Mod_undo_40 : decode b_Mod_undo 40 = .ok (.getfield 47, 3) := by decide +kernel
theorem d_Mod_undo_43 : decode b_Mod_undo 43 = .ok (.iconst 1, 1) := by decide +kernel
theorem d_Mod_undo_44 : decode b_Mod_undo 44 = .ok (.iaload, 1) := by decide +kernel
theorem d_Mod_undo_45 : decode b_Mod_undo 45 = .ok (.invokevirtual 163, 3) := by decide +kernel
theorem d_Mod_undo_48 : decode b_Mod_undo 48 = .ok (.istore 4, 2) := by decide +kernel
theorem d_Mod_undo_50 : decode b_Mod_undo 50 = .ok (.aload_n 0, 1) := by decide +kernel
theorem d_Mod_undo_51 : decode b_Mod_undo 51 = .ok (.iload_n 3, 1) := by decide +kernel
theorem d_Mod_undo_52 : decode b_Mod_undo 52 = .ok (.iload 4, 2) := by decide +kernel
theorem d_Mod_undo_54 : decode b_Mod_undo 54 = .ok (.if_icmp .ge 7, 3) := by decide +kernel
theorem d_Mod_undo_57 : decode b_Mod_undo 57 = .ok (.iload_n 3, 1) := by decide +kernel
theorem d_Mod_undo_58 : decode b_Mod_undo 58 = .ok (.goto 5, 3) := by decide +kernel
theorem d_Mod_undo_61 : decode b_Mod_undo 61 = .ok (.iload 4, 2) := by decide +kernel
theorem d_Mod_undo_63 : decode b_Mod_undo 63 = .ok (.invokevirtual 179, 3) := by decide +kernel
theorem d_Mod_undo_66 : decode b_Mod_undo 66 = .ok (.iload_n 2, 1) := by decide +kernel
theorem d_Mod_undo_67 : decode b_Mod_undo 67 = .ok (.iconst 2, 1) := by decide +kernel
theorem d_Mod_undo_68 : decode b_Mod_undo 68 = .ok (.if_icmp .ne 23, 3) := by decide +kernel
theorem d_Mod_undo_71 : decode b_Mod_undo 71 = .ok (.aload_n 0, 1) := by decide +kernel
theorem d_Mod_undo_72 : decode b_Mod_undo 72 = .ok (.iload_n 3, 1) := by decide +kernel
theorem d_Mod_undo_73 : decode b_Mod_undo 73 = .ok (.iload 4, 2) := by decide +kernel
theorem d_Mod_undo_75 : decode b_Mod_undo 75 = .ok (.if_icmp .ge 10, 3) := by decide +kernel
theorem d_Mod_undo_78 : decode b_Mod_undo 78 = .ok (.iload 4, 2) := by decide +kernel
theorem d_Mod_undo_80 : decode b_Mod_undo 80 = .ok (.iconst 1, 1) := by decide +kernel
theorem d_Mod_undo_81 : decode b_Mod_undo 81 = .ok (.isub, 1) := by decide +kernel
theorem d_Mod_undo_82 : decode b_Mod_undo 82 = .ok (.goto 6, 3) := by decide +kernel
theorem d_Mod_undo_85 : decode b_Mod_undo 85 = .ok (.iload_n 3, 1) := by decide +kernel
theorem d_Mod_undo_86 : decode b_Mod_undo 86 = .ok (.iconst 1, 1) := by decide +kernel
theorem d_Mod_undo_87 : decode b_Mod_undo 87 = .ok (.isub, 1) := by decide +kernel
theorem d_Mod_undo_88 : decode b_Mod_undo 88 = .ok (.invokevirtual 179, 3) := by decide +kernel
theorem d_Mod_undo_91 : decode b_Mod_undo 91 = .ok (.iload_n 2, 1) := by decide +kernel
theorem d_Mod_undo_92 : decode b_Mod_undo 92 = .ok (.ireturn, 1) := by decide +kernel
theorem d_Mod_simplify_0 : decode b_Mod_simplify 0 = .ok (.iconst 0, 1) := by decide +kernel
theorem d_Mod_simplify_1 : decode b_Mod_simplify 1 = .ok (.istore_n 1, 1) := by decide +kernel
theorem d_Mod_simplify_2 : decode b_Mod_simplify 2 = .ok (.iconst 0, 1) := by decide +kernel
theorem d_Mod_simplify_3 : decode b_Mod_simplify 3 = .ok (.istore_n 2, 1) := by decide +kernel
theorem d_Mod_simplify_4 : decode b_Mod_simplify 4 = .ok (.iload_n 2, 1) := by decide +kernel
theorem d_Mod_simplify_5 : decode b_Mod_simplify 5 = .ok (.aload_n 0, 1) := by decide +kernel
theorem d_Mod_simplify_6 : decode b_Mod_simplify 6 = .ok (.invokevirtual 142, 3) := by decide +kernel
theorem d_Mod_simplify_9 : decode b_Mod_simplify 9 = .ok (.if_icmp .ge 28, 3) := by decide +kernel
theorem d_Mod_simplify_12 : decode b_Mod_simplify 12 = .ok (.aload_n 0, 1) := by decide +kernel
theorem d_Mod_simplify_13 : decode b_Mod_simplify 13 = .ok (.iload_n 2, 1) := by decide +kernel
theorem d_Mod_simplify_14 : decode b_Mod_simplify 14 = .ok (.invokevirtual 183, 3) := by decide +kernel
theorem d_Mod_simplify_17 : decode b_Mod_simplify 17 = .ok (.istore_n 3, 1) := by decide +kernel
theorem d_Mod_simplify_18 : decode b_Mod_simplify 18 = .ok (.iload_n 1, 1) := by decide +kernel
theorem d_Mod_simplify_19 : decode b_Mod_simplify 19 = .ok (.iload_n 3, 1) := by decide +kernel
theorem d_Mod_simplify_20 : decode b_Mod_simplify 20 = .ok (.iadd, 1) := by decide +kernel
theorem d_Mod_simplify_21 : decode b_Mod_simplify 21 = .ok (.istore_n 1, 1) := by decide +kernel
theorem d_Mod_simplify_22 : decode b_Mod_simplify 22 = .ok (.iload_n 3, 1) := by decide +kernel
theorem d_Mod_simplify_23 : decode b_Mod_simplify 23 = .ok (.ifCond .le 7, 3) := by decide +kernel
theorem d_Mod_simplify_26 : decode b_Mod_simplify 26 = .ok (.iconst 0, 1) := by decide +kernel
theorem d_Mod_simplify_27 : decode b_Mod_simplify 27 = .ok (.goto 6, 3) := by decide +kernel
theorem d_Mod_simplify_30 : decode b_Mod_simplify 30 = .ok (.iload_n 2, 1) := by decide +kernel
theorem d_Mod_simplify_31 : decode b_Mod_simplify 31 = .ok (.iconst 1, 1) := by decide +kernel
theorem d_Mod_simplify_32 : decode b_Mod_simplify 32 = .ok (.iadd, 1) := by decide +kernel
theorem d_Mod_simplify_33 : decode b_Mod_simplify 33 = .ok (.istore_n 2, 1) := by decide +kernel
theorem d_Mod_simplify_34 : decode b_Mod_simplify 34 = .ok (.goto (-30), 3) := by decide +kernel
theorem d_Mod_simplify_37 : decode b_Mod_simplify 37 = .ok (.iload_n 1, 1) := by decide +kernel
theorem d_Mod_simplify_38 : decode b_Mod_simplify 38 = .ok (.ireturn, 1) := by decide +kernel
theorem d_Mod_slide_0 : decode b_Mod_slide 0 = .ok (.aload_n 0, 1) := by decide +kernel
theorem d_Mod_slide_1 : decode b_Mod_slide 1 = .ok (.iload_n 1, 1) := by decide +kernel
theorem d_Mod_slide_2 : decode b_Mod_slide 2 = .ok (.invokevirtual 176, 3) := by decide +kernel
theorem d_Mod_slide_5 : decode b_Mod_slide 5 = .ok (.iconst 3, 1) := by decide +kernel
theorem d_Mod_slide_6 : decode b_Mod_slide 6 = .ok (.if_icmp .eq 5, 3) := by decide +kernel
theorem d_Mod_slide_9 : decode b_Mod_slide 9 = .ok (.iconst 0, 1) := by decide +kernel
theorem d_Mod_slide_10 : decode b_Mod_slide 10 = .ok (.ireturn, 1) := by decide +kernel
theorem d_Mod_slide_11 : decode b_Mod_slide 11 = .ok (.iconst 0, 1) := by decide +kernel
theorem d_Mod_slide_12 : decode b_Mod_slide 12 = .ok (.istore_n 2, 1) := by decide +kernel
theorem d_Mod_slide_13 : decode b_Mod_slide 13 = .ok (.iload_n 2, 1) := by decide +kernel
theorem d_Mod_slide_14 : decode b_Mod_slide 14 = .ok (.iconst 4, 1) := by decide +kernel
theorem d_Mod_slide_15 : decode b_Mod_slide 15 = .ok (.aload_n 0, 1) := by decide +kernel
theorem d_Mod_slide_16 : decode b_Mod_slide 16 = .ok (.getfield 59, 3) := by decide +kernel
theorem d_Mod_slide_19 : decode b_Mod_slide 19 = .ok (.imul, 1) := by decide +kernel
theorem d_Mod_slide_20 : decode b_Mod_slide 20 = .ok (.if_icmp .ge 21, 3) := by decide +kernel
theorem d_Mod_slide_23 : decode b_Mod_slide 23 = .ok (.aload_n 0, 1) := by decide +kernel
theorem d_Mod_slide_24 : decode b_Mod_slide 24 = .ok (.getfield 35, 3) := by decide +kernel
theorem d_Mod_slide_27 : decode b_Mod_slide 27 = .ok (.iload_n 2, 1) := by decide +kernel
theorem d_Mod_slide_28 : decode b_Mod_slide 28 = .ok (.aload_n 0, 1) := by decide +kernel
theorem d_Mod_slide_29 : decode b_Mod_slide 29 = .ok (.getfield 23, 3) := by decide +kernel
theorem d_Mod_slide_32 : decode b_Mod_slide 32 = .ok (.iload_n 2, 1) := by decide +kernel
theorem d_Mod_slide_33 : decode b_Mod_slide 33 = .ok (.iaload, 1) := by decide +kernel
theorem d_Mod_slide_34 : decode b_Mod_slide 34 = .ok (.iastore, 1) := by decide +kernel
theorem d_Mod_slide_35 : decode b_Mod_slide 35 = .ok (.iinc 2 1, 3) := by decide +kernel
theorem d_Mod_slide_38 : decode b_Mod_slide 38 = .ok (.goto (-25), 3) := by decide +kernel
theorem d_Mod_slide_41 : decode b_Mod_slide 41 = .ok (.iconst 0, 1) := by decide +kernel
theorem d_Mod_slide_42 : decode b_Mod_slide 42 = .ok (.istore_n 2, 1) := by decide +kernel
theorem d_Mod_slide_43 : decode b_Mod_slide 43 = .ok (.iload_n 2, 1) := by decide +kernel
theorem d_Mod_slide_44 : decode b_Mod_slide 44 = .ok (.iconst 3, 1) := by decide +kernel
theorem d_Mod_slide_45 : decode b_Mod_slide 45 = .ok (.if_icmp .ge 98, 3) := by decide +kernel
theorem d_Mod_slide_48 : decode b_Mod_slide 48 = .ok (.aload_n 0, 1) := by decide +kernel
theorem d_Mod_slide_49 : decode b_Mod_slide 49 = .ok (.getfield 47, 3) := by decide +kernel
theorem d_Mod_slide_52 : decode b_Mod_slide 52 = .ok (.iload_n 2, 1) := by decide +kernel
theorem d_Mod_slide_53 : decode b_Mod_slide 53 = .ok (.iaload, 1) := by decide +kernel
theorem d_Mod_slide_54 : decode b_Mod_slide 54 = .ok (.iconst 2, 1) := by decide +kernel
theorem d_Mod_slide_55 : decode b_Mod_slide 55 = .ok (.idiv, 1) := by decide +kernel
theorem d_Mod_slide_56 : decode b_Mod_slide 56 = .ok (.istore_n 3, 1) := by decide +kernel
theorem d_Mod_slide_57 : decode b_Mod_slide 57 = .ok (.aload_n 0, 1) := by decide +kernel
theorem d_Mod_slide_58 : decode b_Mod_slide 58 = .ok (.iload_n 3, 1) := by decide +kernel
theorem d_Mod_slide_59 : decode b_Mod_slide 59 = .ok (.iconst 1, 1) := by decide +kernel
theorem d_Mod_slide_60 : decode b_Mod_slide 60 = .ok (.invokevirtual 66, 3) := by decide +kernel
theorem d_Mod_slide_63 : decode b_Mod_slide 63 = .ok (.istore 4, 2) := by decide +kernel
theorem d_Mod_slide_65 : decode b_Mod_slide 65 = .ok (.aload_n 0, 1) := by decide +kernel
theorem d_Mod_slide_66 : decode b_Mod_slide 66 = .ok (.iload_n 3, 1) := by decide +kernel
theorem d_Mod_slide_67 : decode b_Mod_slide 67 = .ok (.iconst 0, 1) := by decide +kernel
theorem d_Mod_slide_68 : decode b_Mod_slide 68 = .ok (.invokevirtual 66, 3) := by decide +kernel
theorem d_Mod_slide_71 : decode b_Mod_slide 71 = .ok (.istore 5, 2) := by decide +kernel
theorem d_Mod_slide_73 : decode b_Mod_slide 73 = .ok (.aload_n 0, 1) := by decide +kernel
theorem d_Mod_slide_74 : decode b_Mod_slide 74 = .ok (.getfield 23, 3) := by decide +kernel
theorem d_Mod_slide_77 : decode b_Mod_slide 77 = .ok (.iload 4, 2) := by decide +kernel
theorem d_Mod_slide_79 : decode b_Mod_slide 79 = .ok (.invokestatic 70, 3) := by decide +kernel
theorem d_Mod_slide_82 : decode b_Mod_slide 82 = .ok (.iaload, 1) := by decide +kernel
theorem d_Mod_slide_83 : decode b_Mod_slide 83 = .ok (.istore 6, 2) := by decide +kernel
theorem d_Mod_slide_85 : decode b_Mod_slide 85 = .ok (.aload_n 0, 1) := by decide +kernel
theorem d_Mod_slide_86 : decode b_Mod_slide 86 = .ok (.getfield 23, 3) := by decide +kernel
theorem d_Mod_slide_89 : decode b_Mod_slide 89 = .ok (.iload 5, 2) := by decide +kernel
theorem d_Mod_slide_91 : decode b_Mod_slide 91 = .ok (.invokestatic 70, 3) := by decide +kernel
theorem d_Mod_slide_94 : decode b_Mod_slide 94 = .ok (.iaload, 1) := by decide +kernel
theorem d_Mod_slide_95 : decode b_Mod_slide 95 = .ok (.istore 7, 2) := by decide +kernel
theorem d_Mod_slide_97 : decode b_Mod_slide 97 = .ok (.aload_n 0, 1) := by decide +kernel
theorem d_Mod_slide_98 : decode b_Mod_slide 98 = .ok (.getfield 35, 3) := by decide +kernel
theorem d_Mod_slide_101 : decode b_Mod_slide 101 = .ok (.iload 4, 2) := by decide +kernel
theorem d_Mod_slide_103 : decode b_Mod_slide 103 = .ok (.invokestatic 70, 3) := by decide +kernel
theorem d_Mod_slide_106 : decode b_Mod_slide 106 = .ok (.iload_n 3, 1) := by decide +kernel
theorem d_Mod_slide_107 : decode b_Mod_slide 107 = .ok (.iastore, 1) := by decide +kernel
theorem d_Mod_slide_108 : decode b_Mod_slide 108 = .ok (.aload_n 0, 1) := by decide +kernel
theorem d_Mod_slide_109 : decode b_Mod_slide 109 = .ok (.getfield 35, 3) := by decide +kernel
theorem d_Mod_slide_112 : decode b_Mod_slide 112 = .ok (.iload 4, 2) := by decide +kernel
theorem d_Mod_slide_114 : decode b_Mod_slide 114 = .ok (.iload 7, 2) := by decide +kernel
theorem d_Mod_slide_116 : decode b_Mod_slide 116 = .ok (.iastore, 1) := by decide +kernel
theorem d_Mod_slide_117 : decode b_Mod_slide 117 = .ok (.aload_n 0, 1) := by decide +kernel
theorem d_Mod_slide_118 : decode b_Mod_slide 118 = .ok (.getfield 35, 3) := by decide +kernel
theorem d_Mod_slide_121 : decode b_Mod_slide 121 = .ok (.iload 5, 2) := by decide +kernel
theorem d_Mod_slide_123 : decode b_Mod_slide 123 = .ok (.iload 6, 2) := by decide +kernel
theorem d_Mod_slide_125 : decode b_Mod_slide 125 = .ok (.iastore, 1) := by decide +kernel
theorem d_Mod_slide_126 : decode b_Mod_slide 126 = .ok (.aload_n 0, 1) := by decide +kernel
theorem d_Mod_slide_127 : decode b_Mod_slide 127 = .ok (.getfield 35, 3) := by decide +kernel
theorem d_Mod_slide_130 : decode b_Mod_slide 130 = .ok (.iload 5, 2) := by decide +kernel
theorem d_Mod_slide_132 : decode b_Mod_slide 132 = .ok (.invokestatic 70, 3) := by decide +kernel
theorem d_Mod_slide_135 : decode b_Mod_slide 135 = .ok (.iload_n 3, 1) := by decide +kernel
theorem d_Mod_slide_136 : decode b_Mod_slide 136 = .ok (.iastore, 1) := by decide +kernel
theorem d_Mod_slide_137 : decode b_Mod_slide 137 = .ok (.iinc 2 1, 3) := by decide +kernel
theorem d_Mod_slide_140 : decode b_Mod_slide 140 = .ok (.goto (-97), 3) := by decide +kernel
theorem d_Mod_slide_143 : decode b_Mod_slide 143 = .ok (.iconst 0, 1) := by decide +kernel
theorem d_Mod_slide_144 : decode b_Mod_slide 144 = .ok (.istore_n 2, 1) := by decide +kernel
theorem d_Mod_slide_145 : decode b_Mod_slide 145 = .ok (.iload_n 2, 1) := by decide +kernel
theorem d_Mod_slide_146 : decode b_Mod_slide 146 = .ok (.iconst 4, 1) := by decide +kernel
theorem d_Mod_slide_147 : decode b_Mod_slide 147 = .ok (.aload_n 0, 1) := by decide +kernel
theorem d_Mod_slide_148 : decode b_Mod_slide 148 = .ok (.getfield 59, 3) := by decide +kernel
theorem d_Mod_slide_151 : decode b_Mod_slide 151 = .ok (.imul, 1) := by decide +kernel
theorem d_Mod_slide_152 : decode b_Mod_slide 152 = .ok (.if_icmp .ge 21, 3) := by decide +kernel
theorem d_Mod_slide_155 : decode b_Mod_slide 155 = .ok (.aload_n 0, 1) := by decide +kernel
theorem d_Mod_slide_156 : decode b_Mod_slide 156 = .ok (.getfield 23, 3) := by decide +kernel
theorem d_Mod_slide_159 : decode b_Mod_slide 159 = .ok (.iload_n 2, 1) := by decide +kernel
theorem d_Mod_slide_160 : decode b_Mod_slide 160 = .ok (.aload_n 0, 1) := by decide +kernel
theorem d_Mod_slide_161 : decode b_Mod_slide 161 = .ok (.getfield 35, 3) := by decide +kernel
theorem d_Mod_slide_164 : decode b_Mod_slide 164 = .ok (.iload_n 2, 1) := by decide +kernel
theorem d_Mod_slide_165 : decode b_Mod_slide 165 = .ok (.iaload, 1) := by decide +kernel
theorem d_Mod_slide_166 : decode b_Mod_slide 166 = .ok (.iastore, 1) := by decide +kernel
theorem d_Mod_slide_167 : decode b_Mod_slide 167 = .ok (.iinc 2 1, 3) := by decide +kernel
theorem d_Mod_slide_170 : decode b_Mod_slide 170 = .ok (.goto (-25), 3) := by decide +kernel
theorem d_Mod_slide_173 : decode b_Mod_slide 173 = .ok (.iconst 1, 1) := by decide +kernel
theorem d_Mod_slide_174 : decode b_Mod_slide 174 = .ok (.ireturn, 1) := by decide +kernel
theorem d_Mod_add_0 : decode b_Mod_add 0 = .ok (.aload_n 0, 1) := by decide +kernel
theorem d_Mod_add_1 : decode b_Mod_add 1 = .ok (.getfield 20, 3) := by decide +kernel
theorem d_Mod_add_4 : decode b_Mod_add 4 = .ok (.aload_n 0, 1) := by decide +kernel
theorem d_Mod_add_5 : decode b_Mod_add 5 = .ok (.getfield 59, 3) := by decide +kernel
theorem d_Mod_add_8 : decode b_Mod_add 8 = .ok (.iload_n 1, 1) := by decide +kernel
theorem d_Mod_add_9 : decode b_Mod_add 9 = .ok (.iastore, 1) := by decide +kernel
theorem d_Mod_add_10 : decode b_Mod_add 10 = .ok (.aload_n 0, 1) := by decide +kernel
theorem d_Mod_add_11 : decode b_Mod_add 11 = .ok (.getfield 23, 3) := by decide +kernel
theorem d_Mod_add_14 : decode b_Mod_add 14 = .ok (.iconst 4, 1) := by decide +kernel
theorem d_Mod_add_15 : decode b_Mod_add 15 = .ok (.aload_n 0, 1) := by decide +kernel
theorem d_Mod_add_16 : decode b_Mod_add 16 = .ok (.getfield 59, 3) := by decide +kernel
theorem d_Mod_add_19 : decode b_Mod_add 19 = .ok (.imul, 1) := by decide +kernel
theorem d_Mod_add_20 : decode b_Mod_add 20 = .ok (.iload_n 2, 1) := by decide +kernel
theorem d_Mod_add_21 : decode b_Mod_add 21 = .ok (.iastore, 1) := by decide +kernel
theorem d_Mod_add_22 : decode b_Mod_add 22 = .ok (.aload_n 0, 1) := by decide +kernel
theorem d_Mod_add_23 : decode b_Mod_add 23 = .ok (.getfield 23, 3) := by decide +kernel
theorem d_Mod_add_26 : decode b_Mod_add 26 = .ok (.iconst 4, 1) := by decide +kernel
theorem d_Mod_add_27 : decode b_Mod_add 27 = .ok (.aload_n 0, 1) := by decide +kernel
theorem d_Mod_add_28 : decode b_Mod_add 28 = .ok (.getfield 59, 3) := by decide +kernel
theorem d_Mod_add_31 : decode b_Mod_add 31 = .ok (.imul, 1) := by decide +kernel
theorem d_Mod_add_32 : decode b_Mod_add 32 = .ok (.iconst 1, 1) := by decide +kernel
theorem d_Mod_add_33 : decode b_Mod_add 33 = .ok (.iadd, 1) := by decide +kernel
theorem d_Mod_add_34 : decode b_Mod_add 34 = .ok (.iload_n 3, 1) := by decide +kernel
theorem d_Mod_add_35 : decode b_Mod_add 35 = .ok (.iastore, 1) := by decide +kernel
theorem d_Mod_add_36 : decode b_Mod_add 36 = .ok (.aload_n 0, 1) := by decide +kernel
theorem d_Mod_add_37 : decode b_Mod_add 37 = .ok (.getfield 23, 3) := by decide +kernel
theorem d_Mod_add_40 : decode b_Mod_add 40 = .ok (.iconst 4, 1) := by decide +kernel
theorem d_Mod_add_41 : decode b_Mod_add 41 = .ok (.aload_n 0, 1) := by decide +kernel
theorem d_Mod_add_42 : decode b_Mod_add 42 = .ok (.getfield 59, 3) := by decide +kernel
theorem d_Mod_add_45 : decode b_Mod_add 45 = .ok (.imul, 1) := by decide +kernel
theorem d_Mod_add_46 : decode b_Mod_add 46 = .ok (.iconst 2, 1) := by decide +kernel
theorem d_Mod_add_47 : decode b_Mod_add 47 = .ok (.iadd, 1) := by decide +kernel
theorem d_Mod_add_48 : decode b_Mod_add 48 = .ok (.iload 4, 2) := by decide +kernel
theorem d_Mod_add_50 : decode b_Mod_add 50 = .ok (.iastore, 1) := by decide +kernel
theorem d_Mod_add_51 : decode b_Mod_add 51 = .ok (.aload_n 0, 1) := by decide +kernel
theorem d_Mod_add_52 : decode b_Mod_add 52 = .ok (.getfield 23, 3) := by decide +kernel
theorem d_Mod_add_55 : decode b_Mod_add 55 = .ok (.iconst 4, 1) := by decide +kernel
theorem d_Mod_add_56 : decode b_Mod_add 56 = .ok (.aload_n 0, 1) := by decide +kernel
theorem d_Mod_add_57 : decode b_Mod_add 57 = .ok (.getfield 59, 3) := by decide +kernel
theorem d_Mod_add_60 : decode b_Mod_add 60 = .ok (.imul, 1) := by decide +kernel
theorem d_Mod_add_61 : decode b_Mod_add 61 = .ok (.iconst 3, 1) := by decide +kernel
theorem d_Mod_add_62 : decode b_Mod_add 62 = .ok (.iadd, 1) := by decide +kernel
theorem d_Mod_add_63 : decode b_Mod_add 63 = .ok (.iload 5, 2) := by decide +kernel
theorem d_Mod_add_65 : decode b_Mod_add 65 = .ok (.iastore, 1) := by decide +kernel
theorem d_Mod_add_66 : decode b_Mod_add 66 = .ok (.aload_n 0, 1) := by decide +kernel
theorem d_Mod_add_67 : decode b_Mod_add 67 = .ok (.dup, 1) := by decide +kernel
theorem d_Mod_add_68 : decode b_Mod_add 68 = .ok (.getfield 59, 3) := by decide +kernel
theorem d_Mod_add_71 : decode b_Mod_add 71 = .ok (.iconst 1, 1) := by decide +kernel
theorem d_Mod_add_72 : decode b_Mod_add 72 = .ok (.iadd, 1) := by decide +kernel
theorem d_Mod_add_73 : decode b_Mod_add 73 = .ok (.putfield 59, 3) := by decide +kernel
theorem d_Mod_add_76 : decode b_Mod_add 76 = .ok (.return_, 1) := by decide +kernel
theorem d_Mod_twist_0 : decode b_Mod_twist 0 = .ok (.iload_n 1, 1) := by decide +kernel
theorem d_Mod_twist_1 : decode b_Mod_twist 1 = .ok (.ifCond .ne 18, 3) := by decide +kernel
theorem d_Mod_twist_4 : decode b_Mod_twist 4 = .ok (.aload_n 0, 1) := by decide +kernel
theorem d_Mod_twist_5 : decode b_Mod_twist 5 = .ok (.getfield 104, 3) := by decide +kernel
theorem d_Mod_twist_8 : decode b_Mod_twist 8 = .ok (.ifCond .le 7, 3) := by decide +kernel
theorem d_Mod_twist_11 : decode b_Mod_twist 11 = .ok (.iconst 1, 1) := by decide +kernel
theorem d_Mod_twist_12 : decode b_Mod_twist 12 = .ok (.goto 25, 3) := by decide +kernel
theorem d_Mod_twist_15 : decode b_Mod_twist 15 = .ok (.iconst 0, 1) := by decide +kernel
theorem d_Mod_twist_16 : decode b_Mod_twist 16 = .ok (.goto 21, 3) := by decide +kernel
theorem d_Mod_twist_19 : decode b_Mod_twist 19 = .ok (.iload_n 1, 1) := by decide +kernel
theorem d_Mod_twist_20 : decode b_Mod_twist 20 = .ok (.ifCond .le 16, 3) := by decide +kernel
theorem d_Mod_twist_23 : decode b_Mod_twist 23 = .ok (.aload_n 0, 1) := by decide +kernel
theorem d_Mod_twist_24 : decode b_Mod_twist 24 = .ok (.iload_n 1, 1) := by decide +kernel
theorem d_Mod_twist_25 : decode b_Mod_twist 25 = .ok (.iconst 1, 1) := by decide +kernel
theorem d_Mod_twist_26 : decode b_Mod_twist 26 = .ok (.invokevirtual 66, 3) := by decide +kernel
theorem d_Mod_twist_29 : decode b_Mod_twist 29 = .ok (.ifCond .lt 7, 3) := by decide +kernel
theorem d_Mod_twist_32 : decode b_Mod_twist 32 = .ok (.iconst 1, 1) := by decide +kernel
theorem d_Mod_twist_33 : decode b_Mod_twist 33 = .ok (.goto 4, 3) := by decide +kernel
theorem d_Mod_twist_36 : decode b_Mod_twist 36 = .ok (.iconst 0, 1) := by decide +kernel
theorem d_Mod_twist_37 : decode b_Mod_twist 37 = .ok (.istore 4, 2) := by decide +kernel
theorem d_Mod_twist_39 : decode b_Mod_twist 39 = .ok (.iload 4, 2) := by decide +kernel
theorem d_Mod_twist_41 : decode b_Mod_twist 41 = .ok (.ifCond .eq 22, 3) := by decide +kernel
theorem d_Mod_twist_44 : decode b_Mod_twist 44 = .ok (.iload_n 2, 1) := by decide +kernel
theorem d_Mod_twist_45 : decode b_Mod_twist 45 = .ok (.iconst 1, 1) := by decide +kernel
theorem d_Mod_twist_46 : decode b_Mod_twist 46 = .ok (.if_icmp .eq 8, 3) := by decide +kernel
theorem d_Mod_twist_49 : decode b_Mod_twist 49 = .ok (.iload_n 2, 1) := by decide +kernel
theorem d_Mod_twist_50 : decode b_Mod_twist 50 = .ok (.iconst (-1), 1) := by decide +kernel
theorem d_Mod_twist_51 : decode b_Mod_twist 51 = .ok (.if_icmp .ne 12, 3) := by decide +kernel
theorem d_Mod_twist_54 : decode b_Mod_twist 54 = .ok (.aload_n 0, 1) := by decide +kernel
theorem d_Mod_twist_55 : decode b_Mod_twist 55 = .ok (.getfield 59, 3) := by decide +kernel
theorem d_Mod_twist_58 : decode b_Mod_twist 58 = .ok (.bipush 20, 2) := by decide +kernel
theorem d_Mod_twist_60 : decode b_Mod_twist 60 = .ok (.if_icmp .ne 5, 3) := by decide +kernel
theorem d_Mod_twist_63 : decode b_Mod_twist 63 = .ok (.iconst 0, 1) := by decide +kernel
theorem d_Mod_twist_64 : decode b_Mod_twist 64 = .ok (.ireturn, 1) := by decide +kernel
theorem d_Mod_twist_65 : decode b_Mod_twist 65 = .ok (.aload_n 0, 1) := by decide +kernel
theorem d_Mod_twist_66 : decode b_Mod_twist 66 = .ok (.invokevirtual 136, 3) := by decide +kernel
theorem d_Mod_twist_69 : decode b_Mod_twist 69 = .ok (.aload_n 0, 1) := by decide +kernel
theorem d_Mod_twist_70 : decode b_Mod_twist 70 = .ok (.getfield 50, 3) := by decide +kernel
theorem d_Mod_twist_73 : decode b_Mod_twist 73 = .ok (.iconst 0, 1) := by decide +kernel
theorem d_Mod_twist_74 : decode b_Mod_twist 74 = .ok (.iaload, 1) := by decide +kernel
theorem d_Mod_twist_75 : decode b_Mod_twist 75 = .ok (.istore 5, 2) := by decide +kernel
theorem d_Mod_twist_77 : decode b_Mod_twist 77 = .ok (.aload_n 0, 1) := by decide +kernel
theorem d_Mod_twist_78 : decode b_Mod_twist 78 = .ok (.getfield 50, 3) := by decide +kernel
theorem d_Mod_twist_81 : decode b_Mod_twist 81 = .ok (.iconst 1, 1) := by decide +kernel
theorem d_Mod_twist_82 : decode b_Mod_twist 82 = .ok (.iaload, 1) := by decide +kernel
theorem d_Mod_twist_83 : decode b_Mod_twist 83 = .ok (.istore 6, 2) := by decide +kernel
theorem d_Mod_twist_85 : decode b_Mod_twist 85 = .ok (.iload_n 1, 1) := by decide +kernel
theorem d_Mod_twist_86 : decode b_Mod_twist 86 = .ok (.ifCond .ne 8, 3) := by decide +kernel
theorem d_Mod_twist_89 : decode b_Mod_twist 89 = .ok (.iload 6, 2) := by decide +kernel
theorem d_Mod_twist_91 : decode b_Mod_twist 91 = .ok (.goto 4, 3) := by decide +kernel
theorem d_Mod_twist_94 : decode b_Mod_twist 94 = .ok (.iload_n 1, 1) := by decide +kernel
theorem d_Mod_twist_95 : decode b_Mod_twist 95 = .ok (.istore 7, 2) := by decide +kernel
theorem d_Mod_twist_97 : decode b_Mod_twist 97 = .ok (.iload_n 1, 1) := by decide +kernel
theorem d_Mod_twist_98 : decode b_Mod_twist 98 = .ok (.ifCond .ne 16, 3) := by decide +kernel
theorem d_Mod_twist_101 : decode b_Mod_twist 101 = .ok (.aload_n 0, 1) := by decide +kernel
theorem d_Mod_twist_102 : decode b_Mod_twist 102 = .ok (.dup, 1) := by decide +kernel
theorem d_Mod_twist_103 : decode b_Mod_twist 103 = .ok (.getfield 104, 3) := by decide +kernel
theorem d_Mod_twist_106 : decode b_Mod_twist 106 = .ok (.iconst 1, 1) := by decide +kernel
theorem d_Mod_twist_107 : decode b_Mod_twist 107 = .ok (.isub, 1) := by decide +kernel
theorem d_Mod_twist_108 : decode b_Mod_twist 108 = .ok (.putfield 104, 3) := by decide +kernel
theorem d_Mod_twist_111 : decode b_Mod_twist 111 = .ok (.goto 16, 3) := by decide +kernel
theorem d_Mod_twist_114 : decode b_Mod_twist 114 = .ok (.aload_n 0, 1) := by decide +kernel
theorem d_Mod_twist_115 : decode b_Mod_twist 115 = .ok (.getfield 23, 3) := by decide +kernel
theorem d_Mod_twist_118 : decode b_Mod_twist 118 = .ok (.aload_n 0, 1) := by decide +kernel
theorem d_Mod_twist_119 : decode b_Mod_twist 119 = .ok (.iload_n 1, 1) := by decide +kernel
theorem d_Mod_twist_120 : decode b_Mod_twist 120 = .ok (.iconst 0, 1) := by decide +kernel
theorem d_Mod_twist_121 : decode b_Mod_twist 121 = .ok (.invokevirtual 66, 3) := by decide +kernel
theorem d_Mod_twist_124 : decode b_Mod_twist 124 = .ok (.iload 6, 2) := by decide +kernel
theorem d_Mod_twist_126 : decode b_Mod_twist 126 = .ok (.iastore, 1) := by decide +kernel
theorem d_Mod_twist_127 : decode b_Mod_twist 127 = .ok (.iload_n 3, 1) := by decide +kernel
theorem d_Mod_twist_128 : decode b_Mod_twist 128 = .ok (.ifCond .eq 23, 3) := by decide +kernel
theorem d_Mod_twist_131 : decode b_Mod_twist 131 = .ok (.iload_n 2, 1) := by decide +kernel
theorem d_Mod_twist_132 : decode b_Mod_twist 132 = .ok (.ifCond .le 19, 3) := by decide +kernel
theorem d_Mod_twist_135 : decode b_Mod_twist 135 = .ok (.aload_n 0, 1) := by decide +kernel
theorem d_Mod_twist_136 : decode b_Mod_twist 136 = .ok (.iconst 1, 1) := by decide +kernel
theorem d_Mod_twist_137 : decode b_Mod_twist 137 = .ok (.iload 5, 2) := by decide +kernel
theorem d_Mod_twist_139 : decode b_Mod_twist 139 = .ok (.iload 5, 2) := by decide +kernel
theorem d_Mod_twist_141 : decode b_Mod_twist 141 = .ok (.iload 6, 2) := by decide +kernel
theorem d_Mod_twist_143 : decode b_Mod_twist 143 = .ok (.iload 7, 2) := by decide +kernel
theorem d_Mod_twist_145 : decode b_Mod_twist 145 = .ok (.invokevirtual 186, 3) := by decide +kernel
theorem d_Mod_twist_148 : decode b_Mod_twist 148 = .ok (.goto 56, 3) := by decide +kernel
theorem d_Mod_twist_151 : decode b_Mod_twist 151 = .ok (.iload_n 3, 1) := by decide +kernel
theorem d_Mod_twist_152 : decode b_Mod_twist 152 = .ok (.ifCond .eq 19, 3) := by decide +kernel
theorem d_Mod_twist_155 : decode b_Mod_twist 155 = .ok (.aload_n 0, 1) := by decide +kernel
theorem d_Mod_twist_156 : decode b_Mod_twist 156 = .ok (.iconst (-1), 1) := by decide +kernel
theorem d_Mod_twist_157 : decode b_Mod_twist 157 = .ok (.iload 5, 2) := by decide +kernel
theorem d_Mod_twist_159 : decode b_Mod_twist 159 = .ok (.iload 7, 2) := by decide +kernel
theorem d_Mod_twist_161 : decode b_Mod_twist 161 = .ok (.iload 6, 2) := by decide +kernel
theorem d_Mod_twist_163 : decode b_Mod_twist 163 = .ok (.iload 5, 2) := by decide +kernel
theorem d_Mod_twist_165 : decode b_Mod_twist 165 = .ok (.invokevirtual 186, 3) := by decide +kernel
theorem d_Mod_twist_168 : decode b_Mod_twist 168 = .ok (.goto 36, 3) := by decide +kernel
theorem d_Mod_twist_171 : decode b_Mod_twist 171 = .ok (.iload_n 2, 1) := by decide +kernel
theorem d_Mod_twist_172 : decode b_Mod_twist 172 = .ok (.ifCond .le 19, 3) := by decide +kernel
theorem d_Mod_twist_175 : decode b_Mod_twist 175 = .ok (.aload_n 0, 1) := by decide +kernel
theorem d_Mod_twist_176 : decode b_Mod_twist 176 = .ok (.iconst 1, 1) := by decide +kernel
theorem d_Mod_twist_177 : decode b_Mod_twist 177 = .ok (.iload 7, 2) := by decide +kernel
theorem d_Mod_twist_179 : decode b_Mod_twist 179 = .ok (.iload 6, 2) := by decide +kernel
theorem d_Mod_twist_181 : decode b_Mod_twist 181 = .ok (.iload 5, 2) := by decide +kernel
theorem d_Mod_twist_183 : decode b_Mod_twist 183 = .ok (.iload 5, 2) := by decide +kernel
theorem d_Mod_twist_185 : decode b_Mod_twist 185 = .ok (.invokevirtual 186, 3) := by decide +kernel
theorem d_Mod_twist_188 : decode b_Mod_twist 188 = .ok (.goto 16, 3) := by decide +kernel
theorem d_Mod_twist_191 : decode b_Mod_twist 191 = .ok (.aload_n 0, 1) := by decide +kernel
theorem d_Mod_twist_192 : decode b_Mod_twist 192 = .ok (.iconst (-1), 1) := by decide +kernel
theorem d_Mod_twist_193 : decode b_Mod_twist 193 = .ok (.iload 7, 2) := by decide +kernel
theorem d_Mod_twist_195 : decode b_Mod_twist 195 = .ok (.iload 5, 2) := by decide +kernel
theorem d_Mod_twist_197 : decode b_Mod_twist 197 = .ok (.iload 5, 2) := by decide +kernel
theorem d_Mod_twist_199 : decode b_Mod_twist 199 = .ok (.iload 6, 2) := by decide +kernel
theorem d_Mod_twist_201 : decode b_Mod_twist 201 = .ok (.invokevirtual 186, 3) := by decide +kernel
theorem d_Mod_twist_204 : decode b_Mod_twist 204 = .ok (.iconst 1, 1) := by decide +kernel
theorem d_Mod_twist_205 : decode b_Mod_twist 205 = .ok (.ireturn, 1) := by decide +kernel
theorem d_Mod_cross_0 : decode b_Mod_cross 0 = .ok (.aload_n 0, 1) := by decide +kernel
theorem d_Mod_cross_1 : decode b_Mod_cross 1 = .ok (.iload_n 1, 1) := by decide +kernel
theorem d_Mod_cross_2 : decode b_Mod_cross 2 = .ok (.iconst 3, 1) := by decide +kernel
theorem d_Mod_cross_3 : decode b_Mod_cross 3 = .ok (.iadd, 1) := by decide +kernel
theorem d_Mod_cross_4 : decode b_Mod_cross 4 = .ok (.iconst 4, 1) := by decide +kernel
theorem d_Mod_cross_5 : decode b_Mod_cross 5 = .ok (.irem, 1) := by decide +kernel
theorem d_Mod_cross_6 : decode b_Mod_cross 6 = .ok (.iload_n 2, 1) := by decide +kernel
theorem d_Mod_cross_7 : decode b_Mod_cross 7 = .ok (.if_icmp .ne 7, 3) := by decide +kernel
theorem d_Mod_cross_10 : decode b_Mod_cross 10 = .ok (.iconst 1, 1) := by decide +kernel
theorem d_Mod_cross_11 : decode b_Mod_cross 11 = .ok (.goto 4, 3) := by decide +kernel
theorem d_Mod_cross_14 : decode b_Mod_cross 14 = .ok (.iconst (-1), 1) := by decide +kernel
theorem d_Mod_cross_15 : decode b_Mod_cross 15 = .ok (.aload_n 0, 1) := by decide +kernel
theorem d_Mod_cross_16 : decode b_Mod_cross 16 = .ok (.getfield 53, 3) := by decide +kernel
theorem d_Mod_cross_19 : decode b_Mod_cross 19 = .ok (.iload_n 1, 1) := by decide +kernel
theorem d_Mod_cross_20 : decode b_Mod_cross 20 = .ok (.iaload, 1) := by decide +kernel
theorem d_Mod_cross_21 : decode b_Mod_cross 21 = .ok (.aload_n 0, 1) := by decide +kernel
theorem d_Mod_cross_22 : decode b_Mod_cross 22 = .ok (.getfield 53, 3) := by decide +kernel
theorem d_Mod_cross_25 : decode b_Mod_cross 25 = .ok (.iload_n 1, 1) := by decide +kernel
theorem d_Mod_cross_26 : decode b_Mod_cross 26 = .ok (.iconst 1, 1) := by decide +kernel
theorem d_Mod_cross_27 : decode b_Mod_cross 27 = .ok (.iadd, 1) := by decide +kernel
theorem d_Mod_cross_28 : decode b_Mod_cross 28 = .ok (.iconst 4, 1) := by decide +kernel
theorem d_Mod_cross_29 : decode b_Mod_cross 29 = .ok (.irem, 1) := by decide +kernel
theorem d_Mod_cross_30 : decode b_Mod_cross 30 = .ok (.iaload, 1) := by decide +kernel
theorem d_Mod_cross_31 : decode b_Mod_cross 31 = .ok (.aload_n 0, 1) := by decide +kernel
theorem d_Mod_cross_32 : decode b_Mod_cross 32 = .ok (.getfield 53, 3) := by decide +kernel
theorem d_Mod_cross_35 : decode b_Mod_cross 35 = .ok (.iload_n 1, 1) := by decide +kernel
theorem d_Mod_cross_36 : decode b_Mod_cross 36 = .ok (.iconst 2, 1) := by decide +kernel
theorem d_Mod_cross_37 : decode b_Mod_cross 37 = .ok (.iadd, 1) := by decide +kernel
theorem d_Mod_cross_38 : decode b_Mod_cross 38 = .ok (.iconst 4, 1) := by decide +kernel
theorem d_Mod_cross_39 : decode b_Mod_cross 39 = .ok (.irem, 1) := by decide +kernel
theorem d_Mod_cross_40 : decode b_Mod_cross 40 = .ok (.iaload, 1) := by decide +kernel
theorem d_Mod_cross_41 : decode b_Mod_cross 41 = .ok (.aload_n 0, 1) := by decide +kernel
theorem d_Mod_cross_42 : decode b_Mod_cross 42 = .ok (.getfield 53, 3) := by decide +kernel
theorem d_Mod_cross_45 : decode b_Mod_cross 45 = .ok (.iload_n 1, 1) := by decide +kernel
theorem d_Mod_cross_46 : decode b_Mod_cross 46 = .ok (.iconst 3, 1) := by decide +kernel
theorem d_Mod_cross_47 : decode b_Mod_cross 47 = .ok (.iadd, 1) := by decide +kernel
theorem d_Mod_cross_48 : decode b_Mod_cross 48 = .ok (.iconst 4, 1) := by decide +kernel
theorem d_Mod_cross_49 : decode b_Mod_cross 49 = .ok (.irem, 1) := by decide +kernel
theorem d_Mod_cross_50 : decode b_Mod_cross 50 = .ok (.iaload, 1) := by decide +kernel
theorem d_Mod_cross_51 : decode b_Mod_cross 51 = .ok (.invokevirtual 186, 3) := by decide +kernel
theorem d_Mod_cross_54 : decode b_Mod_cross 54 = .ok (.return_, 1) := by decide +kernel
theorem d_Mod_areOne_0 : decode b_Mod_areOne 0 = .ok (.aload_n 0, 1) := by decide +kernel
theorem d_Mod_areOne_1 : decode b_Mod_areOne 1 = .ok (.invokevirtual 110, 3) := by decide +kernel
theorem d_Mod_areOne_4 : decode b_Mod_areOne 4 = .ok (.aload_n 0, 1) := by decide +kernel
theorem d_Mod_areOne_5 : decode b_Mod_areOne 5 = .ok (.getfield 44, 3) := by decide +kernel
theorem d_Mod_areOne_8 : decode b_Mod_areOne 8 = .ok (.iconst 2, 1) := by decide +kernel
theorem d_Mod_areOne_9 : decode b_Mod_areOne 9 = .ok (.aload_n 0, 1) := by decide +kernel
theorem d_Mod_areOne_10 : decode b_Mod_areOne 10 = .ok (.iload_n 1, 1) := by decide +kernel
theorem d_Mod_areOne_11 : decode b_Mod_areOne 11 = .ok (.invokevirtual 92, 3) := by decide +kernel
theorem d_Mod_areOne_14 : decode b_Mod_areOne 14 = .ok (.imul, 1) := by decide +kernel
theorem d_Mod_areOne_15 : decode b_Mod_areOne 15 = .ok (.iload_n 2, 1) := by decide +kernel
theorem d_Mod_areOne_16 : decode b_Mod_areOne 16 = .ok (.iadd, 1) := by decide +kernel
theorem d_Mod_areOne_17 : decode b_Mod_areOne 17 = .ok (.iaload, 1) := by decide +kernel
theorem d_Mod_areOne_18 : decode b_Mod_areOne 18 = .ok (.istore 5, 2) := by decide +kernel
theorem d_Mod_areOne_20 : decode b_Mod_areOne 20 = .ok (.aload_n 0, 1) := by decide +kernel
theorem d_Mod_areOne_21 : decode b_Mod_areOne 21 = .ok (.getfield 44, 3) := by decide +kernel
theorem d_Mod_areOne_24 : decode b_Mod_areOne 24 = .ok (.iconst 2, 1) := by decide +kernel
theorem d_Mod_areOne_25 : decode b_Mod_areOne 25 = .ok (.aload_n 0, 1) := by decide +kernel
theorem d_Mod_areOne_26 : decode b_Mod_areOne 26 = .ok (.iload_n 3, 1) := by decide +kernel
theorem d_Mod_areOne_27 : decode b_Mod_areOne 27 = .ok (.invokevirtual 92, 3) := by decide +kernel
theorem d_Mod_areOne_30 : decode b_Mod_areOne 30 = .ok (.imul, 1) := by decide +kernel
theorem d_Mod_areOne_31 : decode b_Mod_areOne 31 = .ok (.iload 4, 2) := by decide +kernel
theorem d_Mod_areOne_33 : decode b_Mod_areOne 33 = .ok (.iadd, 1) := by decide +kernel
theorem d_Mod_areOne_34 : decode b_Mod_areOne 34 = .ok (.iaload, 1) := by decide +kernel
theorem d_Mod_areOne_35 : decode b_Mod_areOne 35 = .ok (.istore 6, 2) := by decide +kernel
theorem d_Mod_areOne_37 : decode b_Mod_areOne 37 = .ok (.aload_n 0, 1) := by decide +kernel
theorem d_Mod_areOne_38 : decode b_Mod_areOne 38 = .ok (.invokevirtual 86, 3) := by decide +kernel
theorem d_Mod_areOne_41 : decode b_Mod_areOne 41 = .ok (.iload 5, 2) := by decide +kernel
theorem d_Mod_areOne_43 : decode b_Mod_areOne 43 = .ok (.iload 6, 2) := by decide +kernel
theorem d_Mod_areOne_45 : decode b_Mod_areOne 45 = .ok (.if_icmp .eq 32, 3) := by decide +kernel
theorem d_Mod_areOne_48 : decode b_Mod_areOne 48 = .ok (.aload_n 0, 1) := by decide +kernel
theorem d_Mod_areOne_49 : decode b_Mod_areOne 49 = .ok (.getfield 38, 3) := by decide +kernel
theorem d_Mod_areOne_52 : decode b_Mod_areOne 52 = .ok (.aload_n 0, 1) := by decide +kernel
theorem d_Mod_areOne_53 : decode b_Mod_areOne 53 = .ok (.iload_n 1, 1) := by decide +kernel
theorem d_Mod_areOne_54 : decode b_Mod_areOne 54 = .ok (.iconst 1, 1) := by decide +kernel
theorem d_Mod_areOne_55 : decode b_Mod_areOne 55 = .ok (.invokevirtual 66, 3) := by decide +kernel
theorem d_Mod_areOne_58 : decode b_Mod_areOne 58 = .ok (.iconst 4, 1) := by decide +kernel
theorem d_Mod_areOne_59 : decode b_Mod_areOne 59 = .ok (.idiv, 1) := by decide +kernel
theorem d_Mod_areOne_60 : decode b_Mod_areOne 60 = .ok (.iaload, 1) := by decide +kernel
theorem d_Mod_areOne_61 : decode b_Mod_areOne 61 = .ok (.aload_n 0, 1) := by decide +kernel
theorem d_Mod_areOne_62 : decode b_Mod_areOne 62 = .ok (.getfield 38, 3) := by decide +kernel
theorem d_Mod_areOne_65 : decode b_Mod_areOne 65 = .ok (.aload_n 0, 1) := by decide +kernel
theorem d_Mod_areOne_66 : decode b_Mod_areOne 66 = .ok (.iload_n 3, 1) := by decide +kernel
theorem d_Mod_areOne_67 : decode b_Mod_areOne 67 = .ok (.iconst 1, 1) := by decide +kernel
theorem d_Mod_areOne_68 : decode b_Mod_areOne 68 = .ok (.invokevirtual 66, 3) := by decide +kernel
theorem d_Mod_areOne_71 : decode b_Mod_areOne 71 = .ok (.iconst 4, 1) := by decide +kernel
theorem d_Mod_areOne_72 : decode b_Mod_areOne 72 = .ok (.idiv, 1) := by decide +kernel
theorem d_Mod_areOne_73 : decode b_Mod_areOne 73 = .ok (.iaload, 1) := by decide +kernel
theorem d_Mod_areOne_74 : decode b_Mod_areOne 74 = .ok (.if_icmp .eq 7, 3) := by decide +kernel
theorem d_Mod_areOne_77 : decode b_Mod_areOne 77 = .ok (.iconst 1, 1) := by decide +kernel
theorem d_Mod_areOne_78 : decode b_Mod_areOne 78 = .ok (.goto 4, 3) := by decide +kernel
theorem d_Mod_areOne_81 : decode b_Mod_areOne 81 = .ok (.iconst 0, 1) := by decide +kernel
theorem d_Mod_areOne_82 : decode b_Mod_areOne 82 = .ok (.ireturn, 1) := by decide +kernel
theorem d_Mod_push_0 : decode b_Mod_push 0 = .ok (.iload_n 1, 1) := by decide +kernel
theorem d_Mod_push_1 : decode b_Mod_push 1 = .ok (.ifCond .le 34, 3) := by decide +kernel
theorem d_Mod_push_4 : decode b_Mod_push 4 = .ok (.iload_n 3, 1) := by decide +kernel
theorem d_Mod_push_5 : decode b_Mod_push 5 = .ok (.ifCond .le 30, 3) := by decide +kernel
theorem d_Mod_push_8 : decode b_Mod_push 8 = .ok (.iload_n 1, 1) := by decide +kernel
theorem d_Mod_push_9 : decode b_Mod_push 9 = .ok (.iload_n 3, 1) := by decide +kernel
theorem d_Mod_push_10 : decode b_Mod_push 10 = .ok (.if_icmp .eq 25, 3) := by decide +kernel
theorem d_Mod_push_13 : decode b_Mod_push 13 = .ok (.aload_n 0, 1) := by decide +kernel
theorem d_Mod_push_14 : decode b_Mod_push 14 = .ok (.iload_n 1, 1) := by decide +kernel
theorem d_Mod_push_15 : decode b_Mod_push 15 = .ok (.iconst 1, 1) := by decide +kernel
theorem d_Mod_push_16 : decode b_Mod_push 16 = .ok (.invokevirtual 66, 3) := by decide +kernel
theorem d_Mod_push_19 : decode b_Mod_push 19 = .ok (.ifCond .lt 16, 3) := by decide +kernel
theorem d_Mod_push_22 : decode b_Mod_push 22 = .ok (.aload_n 0, 1) := by decide +kernel
theorem d_Mod_push_23 : decode b_Mod_push 23 = .ok (.iload_n 3, 1) := by decide +kernel
theorem d_Mod_push_24 : decode b_Mod_push 24 = .ok (.iconst 1, 1) := by decide +kernel
theorem d_Mod_push_25 : decode b_Mod_push 25 = .ok (.invokevirtual 66, 3) := by decide +kernel
theorem d_Mod_push_28 : decode b_Mod_push 28 = .ok (.ifCond .lt 7, 3) := by decide +kernel
theorem d_Mod_push_31 : decode b_Mod_push 31 = .ok (.iconst 1, 1) := by decide +kernel
theorem d_Mod_push_32 : decode b_Mod_push 32 = .ok (.goto 4, 3) := by decide +kernel
theorem d_Mod_push_35 : decode b_Mod_push 35 = .ok (.iconst 0, 1) := by decide +kernel
theorem d_Mod_push_36 : decode b_Mod_push 36 = .ok (.istore 6, 2) := by decide +kernel
theorem d_Mod_push_38 : decode b_Mod_push 38 = .ok (.iload 6, 2) := by decide +kernel
theorem d_Mod_push_40 : decode b_Mod_push 40 = .ok (.ifCond .eq 40, 3) := by decide +kernel
theorem d_Mod_push_43 : decode b_Mod_push 43 = .ok (.aload_n 0, 1) := by decide +kernel
theorem d_Mod_push_44 : decode b_Mod_push 44 = .ok (.getfield 59, 3) := by decide +kernel
theorem d_Mod_push_47 : decode b_Mod_push 47 = .ok (.bipush 18, 2) := by decide +kernel
theorem d_Mod_push_49 : decode b_Mod_push 49 = .ok (.if_icmp .gt 31, 3) := by decide +kernel
theorem d_Mod_push_52 : decode b_Mod_push 52 = .ok (.aload_n 0, 1) := by decide +kernel
theorem d_Mod_push_53 : decode b_Mod_push 53 = .ok (.iload_n 1, 1) := by decide +kernel
theorem d_Mod_push_54 : decode b_Mod_push 54 = .ok (.iload_n 2, 1) := by decide +kernel
theorem d_Mod_push_55 : decode b_Mod_push 55 = .ok (.ifCond .eq 7, 3) := by decide +kernel
theorem d_Mod_push_58 : decode b_Mod_push 58 = .ok (.iconst 1, 1) := by decide +kernel
theorem d_Mod_push_59 : decode b_Mod_push 59 = .ok (.goto 4, 3) := by decide +kernel
theorem d_Mod_push_62 : decode b_Mod_push 62 = .ok (.iconst 0, 1) := by decide +kernel
theorem d_Mod_push_63 : decode b_Mod_push 63 = .ok (.iload_n 3, 1) := by decide +kernel
theorem d_Mod_push_64 : decode b_Mod_push 64 = .ok (.iload 4, 2) := by decide +kernel
theorem d_Mod_push_66 : decode b_Mod_push 66 = .ok (.ifCond .eq 7, 3) := by decide +kernel
theorem d_Mod_push_69 : decode b_Mod_push 69 = .ok (.iconst 1, 1) := by decide +kernel
theorem d_Mod_push_70 : decode b_Mod_push 70 = .ok (.goto 4, 3) := by decide +kernel
theorem d_Mod_push_73 : decode b_Mod_push 73 = .ok (.iconst 0, 1) := by decide +kernel
theorem d_Mod_push_74 : decode b_Mod_push 74 = .ok (.invokevirtual 190, 3) := by decide +kernel
theorem d_Mod_push_77 : decode b_Mod_push 77 = .ok (.ifCond .ne 5, 3) := by decide +kernel
theorem d_Mod_push_80 : decode b_Mod_push 80 = .ok (.iconst 0, 1) := by decide +kernel
theorem d_Mod_push_81 : decode b_Mod_push 81 = .ok (.ireturn, 1) := by decide +kernel
theorem d_Mod_push_82 : decode b_Mod_push 82 = .ok (.aload_n 0, 1) := by decide +kernel
theorem d_Mod_push_83 : decode b_Mod_push 83 = .ok (.invokevirtual 136, 3) := by decide +kernel
theorem d_Mod_push_86 : decode b_Mod_push 86 = .ok (.aload_n 0, 1) := by decide +kernel
theorem d_Mod_push_87 : decode b_Mod_push 87 = .ok (.iload_n 1, 1) := by decide +kernel
theorem d_Mod_push_88 : decode b_Mod_push 88 = .ok (.iconst 0, 1) := by decide +kernel
theorem d_Mod_push_89 : decode b_Mod_push 89 = .ok (.invokevirtual 66, 3) := by decide +kernel
theorem d_Mod_push_92 : decode b_Mod_push 92 = .ok (.istore 7, 2) := by decide +kernel
theorem d_Mod_push_94 : decode b_Mod_push 94 = .ok (.aload_n 0, 1) := by decide +kernel
theorem d_Mod_push_95 : decode b_Mod_push 95 = .ok (.iload_n 3, 1) := by decide +kernel
theorem d_Mod_push_96 : decode b_Mod_push 96 = .ok (.iconst 0, 1) := by decide +kernel
theorem d_Mod_push_97 : decode b_Mod_push 97 = .ok (.invokevirtual 66, 3) := by decide +kernel
theorem d_Mod_push_100 : decode b_Mod_push 100 = .ok (.istore 8, 2) := by decide +kernel
theorem d_Mod_push_102 : decode b_Mod_push 102 = .ok (.aload_n 0, 1) := by decide +kernel
theorem d_Mod_push_103 : decode b_Mod_push 103 = .ok (.getfield 23, 3) := by decide +kernel
theorem d_Mod_push_106 : decode b_Mod_push 106 = .ok (.iload 7, 2) := by decide +kernel
theorem d_Mod_push_108 : decode b_Mod_push 108 = .ok (.aload_n 0, 1) := by decide +kernel
theorem d_Mod_push_109 : decode b_Mod_push 109 = .ok (.getfield 50, 3) := by decide +kernel
theorem d_Mod_push_112 : decode b_Mod_push 112 = .ok (.iconst 1, 1) := by decide +kernel
theorem d_Mod_push_113 : decode b_Mod_push 113 = .ok (.iaload, 1) := by decide +kernel
theorem d_Mod_push_114 : decode b_Mod_push 114 = .ok (.iastore, 1) := by decide +kernel
theorem d_Mod_push_115 : decode b_Mod_push 115 = .ok (.aload_n 0, 1) := by decide +kernel
theorem d_Mod_push_116 : decode b_Mod_push 116 = .ok (.getfield 23, 3) := by decide +kernel
theorem d_Mod_push_119 : decode b_Mod_push 119 = .ok (.iload 8, 2) := by decide +kernel
theorem d_Mod_push_121 : decode b_Mod_push 121 = .ok (.aload_n 0, 1) := by decide +kernel
theorem d_Mod_push_122 : decode b_Mod_push 122 = .ok (.getfield 50, 3) := by decide +kernel
theorem d_Mod_push_125 : decode b_Mod_push 125 = .ok (.iconst 3, 1) := by decide +kernel
theorem d_Mod_push_126 : decode b_Mod_push 126 = .ok (.iaload, 1) := by decide +kernel
theorem d_Mod_push_127 : decode b_Mod_push 127 = .ok (.iastore, 1) := by decide +kernel
theorem d_Mod_push_128 : decode b_Mod_push 128 = .ok (.aload_n 0, 1) := by decide +kernel
theorem d_Mod_push_129 : decode b_Mod_push 129 = .ok (.getfield 53, 3) := by decide +kernel
theorem d_Mod_push_132 : decode b_Mod_push 132 = .ok (.iconst 0, 1) := by decide +kernel
theorem d_Mod_push_133 : decode b_Mod_push 133 = .ok (.aload_n 0, 1) := by decide +kernel
theorem d_Mod_push_134 : decode b_Mod_push 134 = .ok (.getfield 50, 3) := by decide +kernel
theorem d_Mod_push_137 : decode b_Mod_push 137 = .ok (.iconst 2, 1) := by decide +kernel
theorem d_Mod_push_138 : decode b_Mod_push 138 = .ok (.iaload, 1) := by decide +kernel
theorem d_Mod_push_139 : decode b_Mod_push 139 = .ok (.iastore, 1) := by decide +kernel
theorem d_Mod_push_140 : decode b_Mod_push 140 = .ok (.aload_n 0, 1) := by decide +kernel
theorem d_Mod_push_141 : decode b_Mod_push 141 = .ok (.getfield 53, 3) := by decide +kernel
theorem d_Mod_push_144 : decode b_Mod_push 144 = .ok (.iconst 1, 1) := by decide +kernel
theorem d_Mod_push_145 : decode b_Mod_push 145 = .ok (.aload_n 0, 1) := by decide +kernel
theorem d_Mod_push_146 : decode b_Mod_push 146 = .ok (.getfield 50, 3) := by decide +kernel
theorem d_Mod_push_149 : decode b_Mod_push 149 = .ok (.iconst 0, 1) := by decide +kernel
theorem d_Mod_push_150 : decode b_Mod_push 150 = .ok (.iaload, 1) := by decide +kernel
theorem d_Mod_push_151 : decode b_Mod_push 151 = .ok (.iastore, 1) := by decide +kernel
theorem d_Mod_push_152 : decode b_Mod_push 152 = .ok (.aload_n 0, 1) := by decide +kernel
theorem d_Mod_push_153 : decode b_Mod_push 153 = .ok (.getfield 53, 3) := by decide +kernel
theorem d_Mod_push_156 : decode b_Mod_push 156 = .ok (.iconst 2, 1) := by decide +kernel
theorem d_Mod_push_157 : decode b_Mod_push 157 = .ok (.iload 4, 2) := by decide +kernel
theorem d_Mod_push_159 : decode b_Mod_push 159 = .ok (.ifCond .eq 7, 3) := by decide +kernel
theorem d_Mod_push_162 : decode b_Mod_push 162 = .ok (.iload_n 3, 1) := by decide +kernel
theorem d_Mod_push_163 : decode b_Mod_push 163 = .ok (.goto 9, 3) := by decide +kernel
theorem d_Mod_push_166 : decode b_Mod_push 166 = .ok (.aload_n 0, 1) := by decide +kernel
theorem d_Mod_push_167 : decode b_Mod_push 167 = .ok (.getfield 50, 3) := by decide +kernel
theorem d_Mod_push_170 : decode b_Mod_push 170 = .ok (.iconst 3, 1) := by decide +kernel
theorem d_Mod_push_171 : decode b_Mod_push 171 = .ok (.iaload, 1) := by decide +kernel
theorem d_Mod_push_172 : decode b_Mod_push 172 = .ok (.iastore, 1) := by decide +kernel
theorem d_Mod_push_173 : decode b_Mod_push 173 = .ok (.aload_n 0, 1) := by decide +kernel
theorem d_Mod_push_174 : decode b_Mod_push 174 = .ok (.getfield 53, 3) := by decide +kernel
theorem d_Mod_push_177 : decode b_Mod_push 177 = .ok (.iconst 3, 1) := by decide +kernel
theorem d_Mod_push_178 : decode b_Mod_push 178 = .ok (.iload_n 2, 1) := by decide +kernel
theorem d_Mod_push_179 : decode b_Mod_push 179 = .ok (.ifCond .eq 12, 3) := by decide +kernel
theorem d_Mod_push_182 : decode b_Mod_push 182 = .ok (.aload_n 0, 1) := by decide +kernel
theorem d_Mod_push_183 : decode b_Mod_push 183 = .ok (.getfield 50, 3) := by decide +kernel
theorem d_Mod_push_186 : decode b_Mod_push 186 = .ok (.iconst 1, 1) := by decide +kernel
theorem d_Mod_push_187 : decode b_Mod_push 187 = .ok (.iaload, 1) := by decide +kernel
theorem d_Mod_push_188 : decode b_Mod_push 188 = .ok (.goto 4, 3) := by decide +kernel
theorem d_Mod_push_191 : decode b_Mod_push 191 = .ok (.iload_n 1, 1) := by decide +kernel
theorem d_Mod_push_192 : decode b_Mod_push 192 = .ok (.iastore, 1) := by decide +kernel
theorem d_Mod_push_193 : decode b_Mod_push 193 = .ok (.iload_n 2, 1) := by decide +kernel
theorem d_Mod_push_194 : decode b_Mod_push 194 = .ok (.ifCond .eq 7, 3) := by decide +kernel
theorem d_Mod_push_197 : decode b_Mod_push 197 = .ok (.iconst 1, 1) := by decide +kernel
theorem d_Mod_push_198 : decode b_Mod_push 198 = .ok (.goto 4, 3) := by decide +kernel
theorem d_Mod_push_201 : decode b_Mod_push 201 = .ok (.iconst 3, 1) := by decide +kernel
theorem d_Mod_push_202 : decode b_Mod_push 202 = .ok (.istore 9, 2) := by decide +kernel
theorem d_Mod_push_204 : decode b_Mod_push 204 = .ok (.iload 4, 2) := by decide +kernel
theorem d_Mod_push_206 : decode b_Mod_push 206 = .ok (.ifCond .eq 7, 3) := by decide +kernel
theorem d_Mod_push_209 : decode b_Mod_push 209 = .ok (.iconst 2, 1) := by decide +kernel
theorem d_Mod_push_210 : decode b_Mod_push 210 = .ok (.goto 4, 3) := by decide +kernel
theorem d_Mod_push_213 : decode b_Mod_push 213 = .ok (.iconst 0, 1) := by decide +kernel
theorem d_Mod_push_214 : decode b_Mod_push 214 = .ok (.istore 10, 2) := by decide +kernel
theorem d_Mod_push_216 : decode b_Mod_push 216 = .ok (.aload_n 0, 1) := by decide +kernel
theorem d_Mod_push_217 : decode b_Mod_push 217 = .ok (.iload 5, 2) := by decide +kernel
theorem d_Mod_push_219 : decode b_Mod_push 219 = .ok (.ifCond .eq 8, 3) := by decide +kernel
theorem d_Mod_push_222 : decode b_Mod_push 222 = .ok (.iload 10, 2) := by decide +kernel
theorem d_Mod_push_224 : decode b_Mod_push 224 = .ok (.goto 5, 3) := by decide +kernel
theorem d_Mod_push_227 : decode b_Mod_push 227 = .ok (.iload 9, 2) := by decide +kernel
theorem d_Mod_push_229 : decode b_Mod_push 229 = .ok (.iload 5, 2) := by decide +kernel
theorem d_Mod_push_231 : decode b_Mod_push 231 = .ok (.ifCond .eq 8, 3) := by decide +kernel
theorem d_Mod_push_234 : decode b_Mod_push 234 = .ok (.iload 9, 2) := by decide +kernel
theorem d_Mod_push_236 : decode b_Mod_push 236 = .ok (.goto 5, 3) := by decide +kernel
theorem d_Mod_push_239 : decode b_Mod_push 239 = .ok (.iload 10, 2) := by decide +kernel
theorem d_Mod_push_241 : decode b_Mod_push 241 = .ok (.invokevirtual 194, 3) := by decide +kernel
theorem d_Mod_push_244 : decode b_Mod_push 244 = .ok (.aload_n 0, 1) := by decide +kernel
theorem d_Mod_push_245 : decode b_Mod_push 245 = .ok (.getfield 53, 3) := by decide +kernel
theorem d_Mod_push_248 : decode b_Mod_push 248 = .ok (.iconst 0, 1) := by decide +kernel
theorem d_Mod_push_249 : decode b_Mod_push 249 = .ok (.aload_n 0, 1) := by decide +kernel
theorem d_Mod_push_250 : decode b_Mod_push 250 = .ok (.getfield 50, 3) := by decide +kernel
theorem d_Mod_push_253 : decode b_Mod_push 253 = .ok (.iconst 2, 1) := by decide +kernel
theorem d_Mod_push_254 : decode b_Mod_push 254 = .ok (.iaload, 1) := by decide +kernel
theorem d_Mod_push_255 : decode b_Mod_push 255 = .ok (.iastore, 1) := by decide +kernel
theorem d_Mod_push_256 : decode b_Mod_push 256 = .ok (.aload_n 0, 1) := by decide +kernel
theorem d_Mod_push_257 : decode b_Mod_push 257 = .ok (.getfield 53, 3) := by decide +kernel
theorem d_Mod_push_260 : decode b_Mod_push 260 = .ok (.iconst 1, 1) := by decide +kernel
theorem d_Mod_push_261 : decode b_Mod_push 261 = .ok (.iload_n 2, 1) := by decide +kernel
theorem d_Mod_push_262 : decode b_Mod_push 262 = .ok (.ifCond .eq 7, 3) := by decide +kernel
theorem d_Mod_push_265 : decode b_Mod_push 265 = .ok (.iload_n 1, 1) := by decide +kernel
theorem d_Mod_push_266 : decode b_Mod_push 266 = .ok (.goto 9, 3) := by decide +kernel
theorem d_Mod_push_269 : decode b_Mod_push 269 = .ok (.aload_n 0, 1) := by decide +kernel
theorem d_Mod_push_270 : decode b_Mod_push 270 = .ok (.getfield 50, 3) := by decide +kernel
theorem d_Mod_push_273 : decode b_Mod_push 273 = .ok (.iconst 1, 1) := by decide +kernel
theorem d_Mod_push_274 : decode b_Mod_push 274 = .ok (.iaload, 1) := by decide +kernel
theorem d_Mod_push_275 : decode b_Mod_push 275 = .ok (.iastore, 1) := by decide +kernel
theorem d_Mod_push_276 : decode b_Mod_push 276 = .ok (.aload_n 0, 1) := by decide +kernel
theorem d_Mod_push_277 : decode b_Mod_push 277 = .ok (.getfield 53, 3) := by decide +kernel
theorem d_Mod_push_280 : decode b_Mod_push 280 = .ok (.iconst 2, 1) := by decide +kernel
theorem d_Mod_push_281 : decode b_Mod_push 281 = .ok (.iload 4, 2) := by decide +kernel
theorem d_Mod_push_283 : decode b_Mod_push 283 = .ok (.ifCond .eq 12, 3) := by decide +kernel
theorem d_Mod_push_286 : decode b_Mod_push 286 = .ok (.aload_n 0, 1) := by decide +kernel
theorem d_Mod_push_287 : decode b_Mod_push 287 = .ok (.getfield 50, 3) := by decide +kernel
theorem d_Mod_push_290 : decode b_Mod_push 290 = .ok (.iconst 3, 1) := by decide +kernel
theorem d_Mod_push_291 : decode b_Mod_push 291 = .ok (.iaload, 1) := by decide +kernel
theorem d_Mod_push_292 : decode b_Mod_push 292 = .ok (.goto 4, 3) := by decide +kernel
theorem d_Mod_push_295 : decode b_Mod_push 295 = .ok (.iload_n 3, 1) := by decide +kernel
theorem d_Mod_push_296 : decode b_Mod_push 296 = .ok (.iastore, 1) := by decide +kernel
theorem d_Mod_push_297 : decode b_Mod_push 297 = .ok (.aload_n 0, 1) := by decide +kernel
theorem d_Mod_push_298 : decode b_Mod_push 298 = .ok (.getfield 53, 3) := by decide +kernel
theorem d_Mod_push_301 : decode b_Mod_push 301 = .ok (.iconst 3, 1) := by decide +kernel
theorem d_Mod_push_302 : decode b_Mod_push 302 = .ok (.aload_n 0, 1) := by decide +kernel
theorem d_Mod_push_303 : decode b_Mod_push 303 = .ok (.getfield 50, 3) := by decide +kernel
theorem d_Mod_push_306 : decode b_Mod_push 306 = .ok (.iconst 0, 1) := by decide +kernel
theorem d_Mod_push_307 : decode b_Mod_push 307 = .ok (.iaload, 1) := by decide +kernel
theorem d_Mod_push_308 : decode b_Mod_push 308 = .ok (.iastore, 1) := by decide +kernel
theorem d_Mod_push_309 : decode b_Mod_push 309 = .ok (.iload 4, 2) := by decide +kernel
theorem d_Mod_push_311 : decode b_Mod_push 311 = .ok (.ifCond .eq 7, 3) := by decide +kernel
theorem d_Mod_push_314 : decode b_Mod_push 314 = .ok (.iconst 0, 1) := by decide +kernel
theorem d_Mod_push_315 : decode b_Mod_push 315 = .ok (.goto 4, 3) := by decide +kernel
theorem d_Mod_push_318 : decode b_Mod_push 318 = .ok (.iconst 2, 1) := by decide +kernel
theorem d_Mod_push_319 : decode b_Mod_push 319 = .ok (.istore 10, 2) := by decide +kernel
theorem d_Mod_push_321 : decode b_Mod_push 321 = .ok (.aload_n 0, 1) := by decide +kernel
theorem d_Mod_push_322 : decode b_Mod_push 322 = .ok (.iload 5, 2) := by decide +kernel
theorem d_Mod_push_324 : decode b_Mod_push 324 = .ok (.ifCond .eq 8, 3) := by decide +kernel
theorem d_Mod_push_327 : decode b_Mod_push 327 = .ok (.iload 10, 2) := by decide +kernel
theorem d_Mod_push_329 : decode b_Mod_push 329 = .ok (.goto 5, 3) := by decide +kernel
theorem d_Mod_push_332 : decode b_Mod_push 332 = .ok (.iload 9, 2) := by decide +kernel
theorem d_Mod_push_334 : decode b_Mod_push 334 = .ok (.iload 5, 2) := by decide +kernel
theorem d_Mod_push_336 : decode b_Mod_push 336 = .ok (.ifCond .eq 8, 3) := by decide +kernel
theorem d_Mod_push_339 : decode b_Mod_push 339 = .ok (.iload 9, 2) := by decide +kernel
theorem d_Mod_push_341 : decode b_Mod_push 341 = .ok (.goto 5, 3) := by decide +kernel
theorem d_Mod_push_344 : decode b_Mod_push 344 = .ok (.iload 10, 2) := by decide +kernel
theorem d_Mod_push_346 : decode b_Mod_push 346 = .ok (.invokevirtual 194, 3) := by decide +kernel
theorem d_Mod_push_349 : decode b_Mod_push 349 = .ok (.iconst 1, 1) := by decide +kernel
theorem d_Mod_push_350 : decode b_Mod_push 350 = .ok (.ireturn, 1) := by decide +kernel
