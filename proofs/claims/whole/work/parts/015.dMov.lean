theorem d_Mov_init_0 : decode b_Mov_init 0 = .ok (.aload_n 0, 1) := by decide +kernel
theorem d_Mov_init_1 : decode b_Mov_init 1 = .ok (.invokespecial 3, 3) := by decide +kernel
theorem d_Mov_init_4 : decode b_Mov_init 4 = .ok (.aload_n 0, 1) := by decide +kernel
theorem d_Mov_init_5 : decode b_Mov_init 5 = .ok (.new 9, 3) := by decide +kernel
theorem d_Mov_init_8 : decode b_Mov_init 8 = .ok (.dup, 1) := by decide +kernel
theorem d_Mov_init_9 : decode b_Mov_init 9 = .ok (.invokespecial 11, 3) := by decide +kernel
theorem d_Mov_init_12 : decode b_Mov_init 12 = .ok (.putfield 12, 3) := by decide +kernel
theorem d_Mov_init_15 : decode b_Mov_init 15 = .ok (.aload_n 0, 1) := by decide +kernel
theorem d_Mov_init_16 : decode b_Mov_init 16 = .ok (.new 9, 3) := by decide +kernel
theorem d_Mov_init_19 : decode b_Mov_init 19 = .ok (.dup, 1) := by decide +kernel
theorem d_Mov_init_20 : decode b_Mov_init 20 = .ok (.invokespecial 11, 3) := by decide +kernel
theorem d_Mov_init_23 : decode b_Mov_init 23 = .ok (.putfield 16, 3) := by decide +kernel
theorem d_Mov_init_26 : decode b_Mov_init 26 = .ok (.return_, 1) := by decide +kernel
theorem d_Mov_crossing_0 : decode b_Mov_crossing 0 = .ok (.iload_n 2, 1) := by decide +kernel
theorem d_Mov_crossing_1 : decode b_Mov_crossing 1 = .ok (.invokestatic 19, 3) := by decide +kernel
theorem d_Mov_crossing_4 : decode b_Mov_crossing 4 = .ok (.ifCond .eq 30, 3) := by decide +kernel
theorem d_Mov_crossing_7 : decode b_Mov_crossing 7 = .ok (.iload_n 3, 1) := by decide +kernel
theorem d_Mov_crossing_8 : decode b_Mov_crossing 8 = .ok (.invokestatic 19, 3) := by decide +kernel
theorem d_Mov_crossing_11 : decode b_Mov_crossing 11 = .ok (.ifCond .eq 23, 3) := by decide +kernel
theorem d_Mov_crossing_14 : decode b_Mov_crossing 14 = .ok (.iload 4, 2) := by decide +kernel
theorem d_Mov_crossing_16 : decode b_Mov_crossing 16 = .ok (.invokestatic 19, 3) := by decide +kernel
theorem d_Mov_crossing_19 : decode b_Mov_crossing 19 = .ok (.ifCond .eq 15, 3) := by decide +kernel
theorem d_Mov_crossing_22 : decode b_Mov_crossing 22 = .ok (.iload 5, 2) := by decide +kernel
theorem d_Mov_crossing_24 : decode b_Mov_crossing 24 = .ok (.invokestatic 19, 3) := by decide +kernel
theorem d_Mov_crossing_27 : decode b_Mov_crossing 27 = .ok (.ifCond .eq 7, 3) := by decide +kernel
theorem d_Mov_crossing_30 : decode b_Mov_crossing 30 = .ok (.iconst 1, 1) := by decide +kernel
theorem d_Mov_crossing_31 : decode b_Mov_crossing 31 = .ok (.goto 4, 3) := by decide +kernel
theorem d_Mov_crossing_34 : decode b_Mov_crossing 34 = .ok (.iconst 0, 1) := by decide +kernel
theorem d_Mov_crossing_35 : decode b_Mov_crossing 35 = .ok (.istore 6, 2) := by decide +kernel
theorem d_Mov_crossing_37 : decode b_Mov_crossing 37 = .ok (.iload_n 1, 1) := by decide +kernel
theorem d_Mov_crossing_38 : decode b_Mov_crossing 38 = .ok (.invokestatic 23, 3) := by decide +kernel
theorem d_Mov_crossing_41 : decode b_Mov_crossing 41 = .ok (.ifCond .eq 21, 3) := by decide +kernel
theorem d_Mov_crossing_44 : decode b_Mov_crossing 44 = .ok (.iload 6, 2) := by decide +kernel
theorem d_Mov_crossing_46 : decode b_Mov_crossing 46 = .ok (.ifCond .eq 16, 3) := by decide +kernel
theorem d_Mov_crossing_49 : decode b_Mov_crossing 49 = .ok (.aload_n 0, 1) := by decide +kernel
theorem d_Mov_crossing_50 : decode b_Mov_crossing 50 = .ok (.getfield 16, 3) := by decide +kernel
theorem d_Mov_crossing_53 : decode b_Mov_crossing 53 = .ok (.getfield 26, 3) := by decide +kernel
theorem d_Mov_crossing_56 : decode b_Mov_crossing 56 = .ok (.invokevirtual 30, 3) := by decide +kernel
theorem d_Mov_crossing_59 : decode b_Mov_crossing 59 = .ok (.ifCond .eq 5, 3) := by decide +kernel
theorem d_Mov_crossing_62 : decode b_Mov_crossing 62 = .ok (.iconst (-1), 1) := by decide +kernel
theorem d_Mov_crossing_63 : decode b_Mov_crossing 63 = .ok (.ireturn, 1) := by decide +kernel
theorem d_Mov_crossing_64 : decode b_Mov_crossing 64 = .ok (.aload_n 0, 1) := by decide +kernel
theorem d_Mov_crossing_65 : decode b_Mov_crossing 65 = .ok (.getfield 16, 3) := by decide +kernel
theorem d_Mov_crossing_68 : decode b_Mov_crossing 68 = .ok (.getfield 26, 3) := by decide +kernel
theorem d_Mov_crossing_71 : decode b_Mov_crossing 71 = .ok (.iload_n 1, 1) := by decide +kernel
theorem d_Mov_crossing_72 : decode b_Mov_crossing 72 = .ok (.iload_n 2, 1) := by decide +kernel
theorem d_Mov_crossing_73 : decode b_Mov_crossing 73 = .ok (.iload_n 3, 1) := by decide +kernel
theorem d_Mov_crossing_74 : decode b_Mov_crossing 74 = .ok (.iload 4, 2) := by decide +kernel
theorem d_Mov_crossing_76 : decode b_Mov_crossing 76 = .ok (.iload 5, 2) := by decide +kernel
theorem d_Mov_crossing_78 : decode b_Mov_crossing 78 = .ok (.invokevirtual 36, 3) := by decide +kernel
theorem d_Mov_crossing_81 : decode b_Mov_crossing 81 = .ok (.aload_n 0, 1) := by decide +kernel
theorem d_Mov_crossing_82 : decode b_Mov_crossing 82 = .ok (.getfield 16, 3) := by decide +kernel
theorem d_Mov_crossing_85 : decode b_Mov_crossing 85 = .ok (.getfield 26, 3) := by decide +kernel
theorem d_Mov_crossing_88 : decode b_Mov_crossing 88 = .ok (.getfield 40, 3) := by decide +kernel
theorem d_Mov_crossing_91 : decode b_Mov_crossing 91 = .ok (.ireturn, 1) := by decide +kernel
theorem d_Mov_check_0 : decode b_Mov_check 0 = .ok (.iload_n 1, 1) := by decide +kernel
theorem d_Mov_check_1 : decode b_Mov_check 1 = .ok (.ifCond .lt 9, 3) := by decide +kernel
theorem d_Mov_check_4 : decode b_Mov_check 4 = .ok (.iload_n 1, 1) := by decide +kernel
theorem d_Mov_check_5 : decode b_Mov_check 5 = .ok (.bipush 20, 2) := by decide +kernel
theorem d_Mov_check_7 : decode b_Mov_check 7 = .ok (.if_icmp .le 5, 3) := by decide +kernel
theorem d_Mov_check_10 : decode b_Mov_check 10 = .ok (.iconst (-1), 1) := by decide +kernel
theorem d_Mov_check_11 : decode b_Mov_check 11 = .ok (.ireturn, 1) := by decide +kernel
theorem d_Mov_check_12 : decode b_Mov_check 12 = .ok (.aload_n 0, 1) := by decide +kernel
theorem d_Mov_check_13 : decode b_Mov_check 13 = .ok (.getfield 16, 3) := by decide +kernel
theorem d_Mov_check_16 : decode b_Mov_check 16 = .ok (.invokevirtual 44, 3) := by decide +kernel
theorem d_Mov_check_19 : decode b_Mov_check 19 = .ok (.istore_n 2, 1) := by decide +kernel
theorem d_Mov_check_20 : decode b_Mov_check 20 = .ok (.iload_n 2, 1) := by decide +kernel
theorem d_Mov_check_21 : decode b_Mov_check 21 = .ok (.ifCond .ne 29, 3) := by decide +kernel
theorem d_Mov_check_24 : decode b_Mov_check 24 = .ok (.aload_n 0, 1) := by decide +kernel
theorem d_Mov_check_25 : decode b_Mov_check 25 = .ok (.getfield 12, 3) := by decide +kernel
theorem d_Mov_check_28 : decode b_Mov_check 28 = .ok (.astore_n 3, 1) := by decide +kernel
theorem d_Mov_check_29 : decode b_Mov_check 29 = .ok (.aload_n 0, 1) := by decide +kernel
theorem d_Mov_check_30 : decode b_Mov_check 30 = .ok (.aload_n 0, 1) := by decide +kernel
theorem d_Mov_check_31 : decode b_Mov_check 31 = .ok (.getfield 16, 3) := by decide +kernel
theorem d_Mov_check_34 : decode b_Mov_check 34 = .ok (.putfield 12, 3) := by decide +kernel
theorem d_Mov_check_37 : decode b_Mov_check 37 = .ok (.aload_n 0, 1) := by decide +kernel
theorem d_Mov_check_38 : decode b_Mov_check 38 = .ok (.getfield 12, 3) := by decide +kernel
theorem d_Mov_check_41 : decode b_Mov_check 41 = .ok (.iload_n 1, 1) := by decide +kernel
theorem d_Mov_check_42 : decode b_Mov_check 42 = .ok (.putfield 48, 3) := by decide +kernel
theorem d_Mov_check_45 : decode b_Mov_check 45 = .ok (.aload_n 0, 1) := by decide +kernel
theorem d_Mov_check_46 : decode b_Mov_check 46 = .ok (.aload_n 3, 1) := by decide +kernel
theorem d_Mov_check_47 : decode b_Mov_check 47 = .ok (.putfield 16, 3) := by decide +kernel
theorem d_Mov_check_50 : decode b_Mov_check 50 = .ok (.aload_n 0, 1) := by decide +kernel
theorem d_Mov_check_51 : decode b_Mov_check 51 = .ok (.getfield 16, 3) := by decide +kernel
theorem d_Mov_check_54 : decode b_Mov_check 54 = .ok (.getfield 26, 3) := by decide +kernel
theorem d_Mov_check_57 : decode b_Mov_check 57 = .ok (.iconst 0, 1) := by decide +kernel
theorem d_Mov_check_58 : decode b_Mov_check 58 = .ok (.putfield 40, 3) := by decide +kernel
theorem d_Mov_check_61 : decode b_Mov_check 61 = .ok (.iload_n 2, 1) := by decide +kernel
theorem d_Mov_check_62 : decode b_Mov_check 62 = .ok (.ireturn, 1) := by decide +kernel
theorem d_Mov_many_0 : decode b_Mov_many 0 = .ok (.iload_n 1, 1) := by decide +kernel
theorem d_Mov_many_1 : decode b_Mov_many 1 = .ok (.tableswitch 149 0 7 #[47, 58, 66, 77, 88, 107, 126, 137], 47) := by decide +kernel
theorem d_Mov_many_48 : decode b_Mov_many 48 = .ok (.aload_n 0, 1) := by decide +kernel
theorem d_Mov_many_49 : decode b_Mov_many 49 = .ok (.getfield 12, 3) := by decide +kernel
theorem d_Mov_many_52 : decode b_Mov_many 52 = .ok (.getfield 26, 3) := by decide +kernel
theorem d_Mov_many_55 : decode b_Mov_many 55 = .ok (.getfield 40, 3) := by decide +kernel
theorem d_Mov_many_58 : decode b_Mov_many 58 = .ok (.ireturn, 1) := by decide +kernel
theorem d_Mov_many_59 : decode b_Mov_many 59 = .ok (.aload_n 0, 1) := by decide +kernel
theorem d_Mov_many_60 : decode b_Mov_many 60 = .ok (.getfield 12, 3) := by decide +kernel
theorem d_Mov_many_63 : decode b_Mov_many 63 = .ok (.getfield 48, 3) := by decide +kernel
theorem d_Mov_many_66 : decode b_Mov_many 66 = .ok (.ireturn, 1) := by decide +kernel
theorem d_Mov_many_67 : decode b_Mov_many 67 = .ok (.aload_n 0, 1) := by decide +kernel
theorem d_Mov_many_68 : decode b_Mov_many 68 = .ok (.getfield 12, 3) := by decide +kernel
theorem d_Mov_many_71 : decode b_Mov_many 71 = .ok (.getfield 26, 3) := by decide +kernel
theorem d_Mov_many_74 : decode b_Mov_many 74 = .ok (.invokevirtual 51, 3) := by decide +kernel
theorem d_Mov_many_77 : decode b_Mov_many 77 = .ok (.ireturn, 1) := by decide +kernel
theorem d_Mov_many_78 : decode b_Mov_many 78 = .ok (.aload_n 0, 1) := by decide +kernel
theorem d_Mov_many_79 : decode b_Mov_many 79 = .ok (.getfield 12, 3) := by decide +kernel
theorem d_Mov_many_82 : decode b_Mov_many 82 = .ok (.getfield 54, 3) := by decide +kernel
theorem d_Mov_many_85 : decode b_Mov_many 85 = .ok (.getfield 58, 3) := by decide +kernel
theorem d_Mov_many_88 : decode b_Mov_many 88 = .ok (.ireturn, 1) := by decide +kernel
theorem d_Mov_many_89 : decode b_Mov_many 89 = .ok (.aload_n 0, 1) := by decide +kernel
theorem d_Mov_many_90 : decode b_Mov_many 90 = .ok (.getfield 12, 3) := by decide +kernel
theorem d_Mov_many_93 : decode b_Mov_many 93 = .ok (.getfield 61, 3) := by decide +kernel
theorem d_Mov_many_96 : decode b_Mov_many 96 = .ok (.getfield 65, 3) := by decide +kernel
theorem d_Mov_many_99 : decode b_Mov_many 99 = .ok (.aload_n 0, 1) := by decide +kernel
theorem d_Mov_many_100 : decode b_Mov_many 100 = .ok (.getfield 12, 3) := by decide +kernel
theorem d_Mov_many_103 : decode b_Mov_many 103 = .ok (.getfield 48, 3) := by decide +kernel
theorem d_Mov_many_106 : decode b_Mov_many 106 = .ok (.iadd, 1) := by decide +kernel
theorem d_Mov_many_107 : decode b_Mov_many 107 = .ok (.ireturn, 1) := by decide +kernel
theorem d_Mov_many_108 : decode b_Mov_many 108 = .ok (.aload_n 0, 1) := by decide +kernel
theorem d_Mov_many_109 : decode b_Mov_many 109 = .ok (.getfield 12, 3) := by decide +kernel
theorem d_Mov_many_112 : decode b_Mov_many 112 = .ok (.getfield 61, 3) := by decide +kernel
theorem d_Mov_many_115 : decode b_Mov_many 115 = .ok (.getfield 70, 3) := by decide +kernel
theorem d_Mov_many_118 : decode b_Mov_many 118 = .ok (.aload_n 0, 1) := by decide +kernel
theorem d_Mov_many_119 : decode b_Mov_many 119 = .ok (.getfield 12, 3) := by decide +kernel
theorem d_Mov_many_122 : decode b_Mov_many 122 = .ok (.getfield 48, 3) := by decide +kernel
theorem d_Mov_many_125 : decode b_Mov_many 125 = .ok (.iadd, 1) := by decide +kernel
theorem d_Mov_many_126 : decode b_Mov_many 126 = .ok (.ireturn, 1) := by decide +kernel
theorem d_Mov_many_127 : decode b_Mov_many 127 = .ok (.aload_n 0, 1) := by decide +kernel
theorem d_Mov_many_128 : decode b_Mov_many 128 = .ok (.getfield 16, 3) := by decide +kernel
theorem d_Mov_many_131 : decode b_Mov_many 131 = .ok (.getfield 26, 3) := by decide +kernel
theorem d_Mov_many_134 : decode b_Mov_many 134 = .ok (.getfield 40, 3) := by decide +kernel
theorem d_Mov_many_137 : decode b_Mov_many 137 = .ok (.ireturn, 1) := by decide +kernel
theorem d_Mov_many_138 : decode b_Mov_many 138 = .ok (.aload_n 0, 1) := by decide +kernel
theorem d_Mov_many_139 : decode b_Mov_many 139 = .ok (.getfield 12, 3) := by decide +kernel
theorem d_Mov_many_142 : decode b_Mov_many 142 = .ok (.getfield 71, 3) := by decide +kernel
theorem d_Mov_many_145 : decode b_Mov_many 145 = .ok (.iconst 0, 1) := by decide +kernel
theorem d_Mov_many_146 : decode b_Mov_many 146 = .ok (.invokevirtual 75, 3) := by decide +kernel
theorem d_Mov_many_149 : decode b_Mov_many 149 = .ok (.ireturn, 1) := by decide +kernel
theorem d_Mov_many_150 : decode b_Mov_many 150 = .ok (.sipush (-1000), 3) := by decide +kernel
theorem d_Mov_many_153 : decode b_Mov_many 153 = .ok (.ireturn, 1) := by decide +kernel
theorem d_Mov_look_0 : decode b_Mov_look 0 = .ok (.iload_n 1, 1) := by decide +kernel
theorem d_Mov_look_1 : decode b_Mov_look 1 = .ok (.ifCond .lt 26, 3) := by decide +kernel
theorem d_Mov_look_4 : decode b_Mov_look 4 = .ok (.iload_n 1, 1) := by decide +kernel
theorem d_Mov_look_5 : decode b_Mov_look 5 = .ok (.aload_n 0, 1) := by decide +kernel
theorem d_Mov_look_6 : decode b_Mov_look 6 = .ok (.getfield 12, 3) := by decide +kernel
theorem d_Mov_look_9 : decode b_Mov_look 9 = .ok (.getfield 26, 3) := by decide +kernel
theorem d_Mov_look_12 : decode b_Mov_look 12 = .ok (.getfield 40, 3) := by decide +kernel
theorem d_Mov_look_15 : decode b_Mov_look 15 = .ok (.if_icmp .ge 12, 3) := by decide +kernel
theorem d_Mov_look_18 : decode b_Mov_look 18 = .ok (.iload_n 2, 1) := by decide +kernel
theorem d_Mov_look_19 : decode b_Mov_look 19 = .ok (.ifCond .lt 8, 3) := by decide +kernel
theorem d_Mov_look_22 : decode b_Mov_look 22 = .ok (.iload_n 2, 1) := by decide +kernel
theorem d_Mov_look_23 : decode b_Mov_look 23 = .ok (.iconst 4, 1) := by decide +kernel
theorem d_Mov_look_24 : decode b_Mov_look 24 = .ok (.if_icmp .le 5, 3) := by decide +kernel
theorem d_Mov_look_27 : decode b_Mov_look 27 = .ok (.iconst 0, 1) := by decide +kernel
theorem d_Mov_look_28 : decode b_Mov_look 28 = .ok (.ireturn, 1) := by decide +kernel
theorem d_Mov_look_29 : decode b_Mov_look 29 = .ok (.iload_n 2, 1) := by decide +kernel
theorem d_Mov_look_30 : decode b_Mov_look 30 = .ok (.iconst 4, 1) := by decide +kernel
theorem d_Mov_look_31 : decode b_Mov_look 31 = .ok (.if_icmp .ne 18, 3) := by decide +kernel
theorem d_Mov_look_34 : decode b_Mov_look 34 = .ok (.aload_n 0, 1) := by decide +kernel
theorem d_Mov_look_35 : decode b_Mov_look 35 = .ok (.getfield 12, 3) := by decide +kernel
theorem d_Mov_look_38 : decode b_Mov_look 38 = .ok (.getfield 26, 3) := by decide +kernel
theorem d_Mov_look_41 : decode b_Mov_look 41 = .ok (.getfield 81, 3) := by decide +kernel
theorem d_Mov_look_44 : decode b_Mov_look 44 = .ok (.iload_n 1, 1) := by decide +kernel
theorem d_Mov_look_45 : decode b_Mov_look 45 = .ok (.iaload, 1) := by decide +kernel
theorem d_Mov_look_46 : decode b_Mov_look 46 = .ok (.goto 19, 3) := by decide +kernel
theorem d_Mov_look_49 : decode b_Mov_look 49 = .ok (.aload_n 0, 1) := by decide +kernel
theorem d_Mov_look_50 : decode b_Mov_look 50 = .ok (.getfield 12, 3) := by decide +kernel
theorem d_Mov_look_53 : decode b_Mov_look 53 = .ok (.getfield 26, 3) := by decide +kernel
theorem d_Mov_look_56 : decode b_Mov_look 56 = .ok (.getfield 85, 3) := by decide +kernel
theorem d_Mov_look_59 : decode b_Mov_look 59 = .ok (.iconst 4, 1) := by decide +kernel
theorem d_Mov_look_60 : decode b_Mov_look 60 = .ok (.iload_n 1, 1) := by decide +kernel
theorem d_Mov_look_61 : decode b_Mov_look 61 = .ok (.imul, 1) := by decide +kernel
theorem d_Mov_look_62 : decode b_Mov_look 62 = .ok (.iload_n 2, 1) := by decide +kernel
theorem d_Mov_look_63 : decode b_Mov_look 63 = .ok (.iadd, 1) := by decide +kernel
theorem d_Mov_look_64 : decode b_Mov_look 64 = .ok (.iaload, 1) := by decide +kernel
theorem d_Mov_look_65 : decode b_Mov_look 65 = .ok (.ireturn, 1) := by decide +kernel
theorem d_Mov_face_0 : decode b_Mov_face 0 = .ok (.aload_n 0, 1) := by decide +kernel
theorem d_Mov_face_1 : decode b_Mov_face 1 = .ok (.getfield 12, 3) := by decide +kernel
theorem d_Mov_face_4 : decode b_Mov_face 4 = .ok (.getfield 54, 3) := by decide +kernel
theorem d_Mov_face_7 : decode b_Mov_face 7 = .ok (.iload_n 1, 1) := by decide +kernel
theorem d_Mov_face_8 : decode b_Mov_face 8 = .ok (.invokevirtual 88, 3) := by decide +kernel
theorem d_Mov_face_11 : decode b_Mov_face 11 = .ok (.ifCond .ne 5, 3) := by decide +kernel
theorem d_Mov_face_14 : decode b_Mov_face 14 = .ok (.iconst 0, 1) := by decide +kernel
theorem d_Mov_face_15 : decode b_Mov_face 15 = .ok (.ireturn, 1) := by decide +kernel
theorem d_Mov_face_16 : decode b_Mov_face 16 = .ok (.aload_n 0, 1) := by decide +kernel
theorem d_Mov_face_17 : decode b_Mov_face 17 = .ok (.getfield 12, 3) := by decide +kernel
theorem d_Mov_face_20 : decode b_Mov_face 20 = .ok (.getfield 54, 3) := by decide +kernel
theorem d_Mov_face_23 : decode b_Mov_face 23 = .ok (.iload_n 1, 1) := by decide +kernel
theorem d_Mov_face_24 : decode b_Mov_face 24 = .ok (.invokevirtual 91, 3) := by decide +kernel
theorem d_Mov_face_27 : decode b_Mov_face 27 = .ok (.istore_n 3, 1) := by decide +kernel
theorem d_Mov_face_28 : decode b_Mov_face 28 = .ok (.iload_n 2, 1) := by decide +kernel
theorem d_Mov_face_29 : decode b_Mov_face 29 = .ok (.iconst (-1), 1) := by decide +kernel
theorem d_Mov_face_30 : decode b_Mov_face 30 = .ok (.if_icmp .ne 5, 3) := by decide +kernel
theorem d_Mov_face_33 : decode b_Mov_face 33 = .ok (.iload_n 3, 1) := by decide +kernel
theorem d_Mov_face_34 : decode b_Mov_face 34 = .ok (.ireturn, 1) := by decide +kernel
theorem d_Mov_face_35 : decode b_Mov_face 35 = .ok (.iload_n 2, 1) := by decide +kernel
theorem d_Mov_face_36 : decode b_Mov_face 36 = .ok (.ifCond .lt 8, 3) := by decide +kernel
theorem d_Mov_face_39 : decode b_Mov_face 39 = .ok (.iload_n 2, 1) := by decide +kernel
theorem d_Mov_face_40 : decode b_Mov_face 40 = .ok (.iload_n 3, 1) := by decide +kernel
theorem d_Mov_face_41 : decode b_Mov_face 41 = .ok (.if_icmp .lt 5, 3) := by decide +kernel
theorem d_Mov_face_44 : decode b_Mov_face 44 = .ok (.iconst 0, 1) := by decide +kernel
theorem d_Mov_face_45 : decode b_Mov_face 45 = .ok (.ireturn, 1) := by decide +kernel
theorem d_Mov_face_46 : decode b_Mov_face 46 = .ok (.aload_n 0, 1) := by decide +kernel
theorem d_Mov_face_47 : decode b_Mov_face 47 = .ok (.getfield 12, 3) := by decide +kernel
theorem d_Mov_face_50 : decode b_Mov_face 50 = .ok (.getfield 71, 3) := by decide +kernel
theorem d_Mov_face_53 : decode b_Mov_face 53 = .ok (.aload_n 0, 1) := by decide +kernel
theorem d_Mov_face_54 : decode b_Mov_face 54 = .ok (.getfield 12, 3) := by decide +kernel
theorem d_Mov_face_57 : decode b_Mov_face 57 = .ok (.getfield 54, 3) := by decide +kernel
theorem d_Mov_face_60 : decode b_Mov_face 60 = .ok (.iload_n 1, 1) := by decide +kernel
theorem d_Mov_face_61 : decode b_Mov_face 61 = .ok (.iload_n 2, 1) := by decide +kernel
theorem d_Mov_face_62 : decode b_Mov_face 62 = .ok (.invokevirtual 94, 3) := by decide +kernel
theorem d_Mov_face_65 : decode b_Mov_face 65 = .ok (.invokevirtual 98, 3) := by decide +kernel
theorem d_Mov_face_68 : decode b_Mov_face 68 = .ok (.ireturn, 1) := by decide +kernel
theorem d_Mov_pattern_0 : decode b_Mov_pattern 0 = .ok (.aload_n 0, 1) := by decide +kernel
theorem d_Mov_pattern_1 : decode b_Mov_pattern 1 = .ok (.getfield 12, 3) := by decide +kernel
theorem d_Mov_pattern_4 : decode b_Mov_pattern 4 = .ok (.getfield 54, 3) := by decide +kernel
theorem d_Mov_pattern_7 : decode b_Mov_pattern 7 = .ok (.iload_n 1, 1) := by decide +kernel
theorem d_Mov_pattern_8 : decode b_Mov_pattern 8 = .ok (.invokevirtual 88, 3) := by decide +kernel
theorem d_Mov_pattern_11 : decode b_Mov_pattern 11 = .ok (.ifCond .eq 14, 3) := by decide +kernel
theorem d_Mov_pattern_14 : decode b_Mov_pattern 14 = .ok (.aload_n 0, 1) := by decide +kernel
theorem d_Mov_pattern_15 : decode b_Mov_pattern 15 = .ok (.getfield 12, 3) := by decide +kernel
theorem d_Mov_pattern_18 : decode b_Mov_pattern 18 = .ok (.iload_n 1, 1) := by decide +kernel
theorem d_Mov_pattern_19 : decode b_Mov_pattern 19 = .ok (.invokevirtual 101, 3) := by decide +kernel
theorem d_Mov_pattern_22 : decode b_Mov_pattern 22 = .ok (.goto 4, 3) := by decide +kernel
theorem d_Mov_pattern_25 : decode b_Mov_pattern 25 = .ok (.iconst (-1), 1) := by decide +kernel
theorem d_Mov_pattern_26 : decode b_Mov_pattern 26 = .ok (.ireturn, 1) := by decide +kernel
theorem d_Mov_undo_0 : decode b_Mov_undo 0 = .ok (.aload_n 0, 1) := by decide +kernel
theorem d_Mov_undo_1 : decode b_Mov_undo 1 = .ok (.getfield 12, 3) := by decide +kernel
theorem d_Mov_undo_4 : decode b_Mov_undo 4 = .ok (.getfield 54, 3) := by decide +kernel
theorem d_Mov_undo_7 : decode b_Mov_undo 7 = .ok (.iload_n 1, 1) := by decide +kernel
theorem d_Mov_undo_8 : decode b_Mov_undo 8 = .ok (.invokevirtual 88, 3) := by decide +kernel
theorem d_Mov_undo_11 : decode b_Mov_undo 11 = .ok (.ifCond .eq 14, 3) := by decide +kernel
theorem d_Mov_undo_14 : decode b_Mov_undo 14 = .ok (.aload_n 0, 1) := by decide +kernel
theorem d_Mov_undo_15 : decode b_Mov_undo 15 = .ok (.getfield 12, 3) := by decide +kernel
theorem d_Mov_undo_18 : decode b_Mov_undo 18 = .ok (.iload_n 1, 1) := by decide +kernel
theorem d_Mov_undo_19 : decode b_Mov_undo 19 = .ok (.invokevirtual 104, 3) := by decide +kernel
theorem d_Mov_undo_22 : decode b_Mov_undo 22 = .ok (.goto 4, 3) := by decide +kernel
theorem d_Mov_undo_25 : decode b_Mov_undo 25 = .ok (.iconst 0, 1) := by decide +kernel
theorem d_Mov_undo_26 : decode b_Mov_undo 26 = .ok (.ireturn, 1) := by decide +kernel
theorem d_Mov_slide_0 : decode b_Mov_slide 0 = .ok (.aload_n 0, 1) := by decide +kernel
theorem d_Mov_slide_1 : decode b_Mov_slide 1 = .ok (.getfield 12, 3) := by decide +kernel
theorem d_Mov_slide_4 : decode b_Mov_slide 4 = .ok (.getfield 54, 3) := by decide +kernel
theorem d_Mov_slide_7 : decode b_Mov_slide 7 = .ok (.iload_n 1, 1) := by decide +kernel
theorem d_Mov_slide_8 : decode b_Mov_slide 8 = .ok (.invokevirtual 88, 3) := by decide +kernel
theorem d_Mov_slide_11 : decode b_Mov_slide 11 = .ok (.ifCond .eq 18, 3) := by decide +kernel
theorem d_Mov_slide_14 : decode b_Mov_slide 14 = .ok (.aload_n 0, 1) := by decide +kernel
theorem d_Mov_slide_15 : decode b_Mov_slide 15 = .ok (.getfield 12, 3) := by decide +kernel
theorem d_Mov_slide_18 : decode b_Mov_slide 18 = .ok (.iload_n 1, 1) := by decide +kernel
theorem d_Mov_slide_19 : decode b_Mov_slide 19 = .ok (.invokevirtual 107, 3) := by decide +kernel
theorem d_Mov_slide_22 : decode b_Mov_slide 22 = .ok (.ifCond .eq 7, 3) := by decide +kernel
theorem d_Mov_slide_25 : decode b_Mov_slide 25 = .ok (.iconst 1, 1) := by decide +kernel
theorem d_Mov_slide_26 : decode b_Mov_slide 26 = .ok (.goto 4, 3) := by decide +kernel
theorem d_Mov_slide_29 : decode b_Mov_slide 29 = .ok (.iconst 0, 1) := by decide +kernel
theorem d_Mov_slide_30 : decode b_Mov_slide 30 = .ok (.ireturn, 1) := by decide +kernel
theorem d_Mov_twist_0 : decode b_Mov_twist 0 = .ok (.iload_n 2, 1) := by decide +kernel
theorem d_Mov_twist_1 : decode b_Mov_twist 1 = .ok (.invokestatic 23, 3) := by decide +kernel
theorem d_Mov_twist_4 : decode b_Mov_twist 4 = .ok (.ifCond .eq 16, 3) := by decide +kernel
theorem d_Mov_twist_7 : decode b_Mov_twist 7 = .ok (.aload_n 0, 1) := by decide +kernel
theorem d_Mov_twist_8 : decode b_Mov_twist 8 = .ok (.getfield 12, 3) := by decide +kernel
theorem d_Mov_twist_11 : decode b_Mov_twist 11 = .ok (.getfield 26, 3) := by decide +kernel
theorem d_Mov_twist_14 : decode b_Mov_twist 14 = .ok (.invokevirtual 30, 3) := by decide +kernel
theorem d_Mov_twist_17 : decode b_Mov_twist 17 = .ok (.ifCond .eq 5, 3) := by decide +kernel
theorem d_Mov_twist_20 : decode b_Mov_twist 20 = .ok (.iconst 0, 1) := by decide +kernel
theorem d_Mov_twist_21 : decode b_Mov_twist 21 = .ok (.ireturn, 1) := by decide +kernel
theorem d_Mov_twist_22 : decode b_Mov_twist 22 = .ok (.iload_n 1, 1) := by decide +kernel
theorem d_Mov_twist_23 : decode b_Mov_twist 23 = .ok (.ifCond .ne 15, 3) := by decide +kernel
theorem d_Mov_twist_26 : decode b_Mov_twist 26 = .ok (.aload_n 0, 1) := by decide +kernel
theorem d_Mov_twist_27 : decode b_Mov_twist 27 = .ok (.getfield 12, 3) := by decide +kernel
theorem d_Mov_twist_30 : decode b_Mov_twist 30 = .ok (.iload_n 2, 1) := by decide +kernel
theorem d_Mov_twist_31 : decode b_Mov_twist 31 = .ok (.iload_n 3, 1) := by decide +kernel
theorem d_Mov_twist_32 : decode b_Mov_twist 32 = .ok (.invokevirtual 110, 3) := by decide +kernel
theorem d_Mov_twist_35 : decode b_Mov_twist 35 = .ok (.goto 13, 3) := by decide +kernel
theorem d_Mov_twist_38 : decode b_Mov_twist 38 = .ok (.aload_n 0, 1) := by decide +kernel
theorem d_Mov_twist_39 : decode b_Mov_twist 39 = .ok (.getfield 12, 3) := by decide +kernel
theorem d_Mov_twist_42 : decode b_Mov_twist 42 = .ok (.iload_n 1, 1) := by decide +kernel
theorem d_Mov_twist_43 : decode b_Mov_twist 43 = .ok (.iload_n 2, 1) := by decide +kernel
theorem d_Mov_twist_44 : decode b_Mov_twist 44 = .ok (.iload_n 3, 1) := by decide +kernel
theorem d_Mov_twist_45 : decode b_Mov_twist 45 = .ok (.invokevirtual 114, 3) := by decide +kernel
theorem d_Mov_twist_48 : decode b_Mov_twist 48 = .ok (.ireturn, 1) := by decide +kernel
theorem d_Mov_push_0 : decode b_Mov_push 0 = .ok (.aload_n 0, 1) := by decide +kernel
theorem d_Mov_push_1 : decode b_Mov_push 1 = .ok (.getfield 12, 3) := by decide +kernel
theorem d_Mov_push_4 : decode b_Mov_push 4 = .ok (.getfield 71, 3) := by decide +kernel
theorem d_Mov_push_7 : decode b_Mov_push 7 = .ok (.iload_n 1, 1) := by decide +kernel
theorem d_Mov_push_8 : decode b_Mov_push 8 = .ok (.invokevirtual 118, 3) := by decide +kernel
theorem d_Mov_push_11 : decode b_Mov_push 11 = .ok (.istore 6, 2) := by decide +kernel
theorem d_Mov_push_13 : decode b_Mov_push 13 = .ok (.aload_n 0, 1) := by decide +kernel
theorem d_Mov_push_14 : decode b_Mov_push 14 = .ok (.getfield 12, 3) := by decide +kernel
theorem d_Mov_push_17 : decode b_Mov_push 17 = .ok (.getfield 71, 3) := by decide +kernel
theorem d_Mov_push_20 : decode b_Mov_push 20 = .ok (.iload_n 3, 1) := by decide +kernel
theorem d_Mov_push_21 : decode b_Mov_push 21 = .ok (.invokevirtual 118, 3) := by decide +kernel
theorem d_Mov_push_24 : decode b_Mov_push 24 = .ok (.istore 7, 2) := by decide +kernel
theorem d_Mov_push_26 : decode b_Mov_push 26 = .ok (.iload 6, 2) := by decide +kernel
theorem d_Mov_push_28 : decode b_Mov_push 28 = .ok (.ifCond .lt 30, 3) := by decide +kernel
theorem d_Mov_push_31 : decode b_Mov_push 31 = .ok (.iload 7, 2) := by decide +kernel
theorem d_Mov_push_33 : decode b_Mov_push 33 = .ok (.ifCond .lt 25, 3) := by decide +kernel
theorem d_Mov_push_36 : decode b_Mov_push 36 = .ok (.iload 6, 2) := by decide +kernel
theorem d_Mov_push_38 : decode b_Mov_push 38 = .ok (.iload 7, 2) := by decide +kernel
theorem d_Mov_push_40 : decode b_Mov_push 40 = .ok (.if_icmp .eq 18, 3) := by decide +kernel
theorem d_Mov_push_43 : decode b_Mov_push 43 = .ok (.aload_n 0, 1) := by decide +kernel
theorem d_Mov_push_44 : decode b_Mov_push 44 = .ok (.getfield 12, 3) := by decide +kernel
theorem d_Mov_push_47 : decode b_Mov_push 47 = .ok (.getfield 26, 3) := by decide +kernel
theorem d_Mov_push_50 : decode b_Mov_push 50 = .ok (.getfield 40, 3) := by decide +kernel
theorem d_Mov_push_53 : decode b_Mov_push 53 = .ok (.bipush 18, 2) := by decide +kernel
theorem d_Mov_push_55 : decode b_Mov_push 55 = .ok (.if_icmp .le 5, 3) := by decide +kernel
theorem d_Mov_push_58 : decode b_Mov_push 58 = .ok (.iconst 0, 1) := by decide +kernel
theorem d_Mov_push_59 : decode b_Mov_push 59 = .ok (.ireturn, 1) := by decide +kernel
theorem d_Mov_push_60 : decode b_Mov_push 60 = .ok (.aload_n 0, 1) := by decide +kernel
theorem d_Mov_push_61 : decode b_Mov_push 61 = .ok (.getfield 12, 3) := by decide +kernel
theorem d_Mov_push_64 : decode b_Mov_push 64 = .ok (.iconst 2, 1) := by decide +kernel
theorem d_Mov_push_65 : decode b_Mov_push 65 = .ok (.iload 6, 2) := by decide +kernel
theorem d_Mov_push_67 : decode b_Mov_push 67 = .ok (.imul, 1) := by decide +kernel
theorem d_Mov_push_68 : decode b_Mov_push 68 = .ok (.iload_n 2, 1) := by decide +kernel
theorem d_Mov_push_69 : decode b_Mov_push 69 = .ok (.ifCond .eq 7, 3) := by decide +kernel
theorem d_Mov_push_72 : decode b_Mov_push 72 = .ok (.iconst 1, 1) := by decide +kernel
theorem d_Mov_push_73 : decode b_Mov_push 73 = .ok (.goto 4, 3) := by decide +kernel
theorem d_Mov_push_76 : decode b_Mov_push 76 = .ok (.iconst 0, 1) := by decide +kernel
theorem d_Mov_push_77 : decode b_Mov_push 77 = .ok (.iadd, 1) := by decide +kernel
theorem d_Mov_push_78 : decode b_Mov_push 78 = .ok (.iconst 2, 1) := by decide +kernel
theorem d_Mov_push_79 : decode b_Mov_push 79 = .ok (.iload 7, 2) := by decide +kernel
theorem d_Mov_push_81 : decode b_Mov_push 81 = .ok (.imul, 1) := by decide +kernel
theorem d_Mov_push_82 : decode b_Mov_push 82 = .ok (.iload 4, 2) := by decide +kernel
theorem d_Mov_push_84 : decode b_Mov_push 84 = .ok (.ifCond .eq 7, 3) := by decide +kernel
theorem d_Mov_push_87 : decode b_Mov_push 87 = .ok (.iconst 1, 1) := by decide +kernel
theorem d_Mov_push_88 : decode b_Mov_push 88 = .ok (.goto 4, 3) := by decide +kernel
theorem d_Mov_push_91 : decode b_Mov_push 91 = .ok (.iconst 0, 1) := by decide +kernel
theorem d_Mov_push_92 : decode b_Mov_push 92 = .ok (.iadd, 1) := by decide +kernel
theorem d_Mov_push_93 : decode b_Mov_push 93 = .ok (.iload 5, 2) := by decide +kernel
theorem d_Mov_push_95 : decode b_Mov_push 95 = .ok (.invokevirtual 121, 3) := by decide +kernel
theorem d_Mov_push_98 : decode b_Mov_push 98 = .ok (.ireturn, 1) := by decide +kernel
theorem d_Mov_simplify_0 : decode b_Mov_simplify 0 = .ok (.iconst 0, 1) := by decide +kernel
theorem d_Mov_simplify_1 : decode b_Mov_simplify 1 = .ok (.istore_n 1, 1) := by decide +kernel
theorem d_Mov_simplify_2 : decode b_Mov_simplify 2 = .ok (.iconst 0, 1) := by decide +kernel
theorem d_Mov_simplify_3 : decode b_Mov_simplify 3 = .ok (.istore_n 2, 1) := by decide +kernel
theorem d_Mov_simplify_4 : decode b_Mov_simplify 4 = .ok (.iload_n 2, 1) := by decide +kernel
theorem d_Mov_simplify_5 : decode b_Mov_simplify 5 = .ok (.bipush 20, 2) := by decide +kernel
theorem d_Mov_simplify_7 : decode b_Mov_simplify 7 = .ok (.if_icmp .gt 35, 3) := by decide +kernel
theorem d_Mov_simplify_10 : decode b_Mov_simplify 10 = .ok (.aload_n 0, 1) := by decide +kernel
theorem d_Mov_simplify_11 : decode b_Mov_simplify 11 = .ok (.getfield 12, 3) := by decide +kernel
theorem d_Mov_simplify_14 : decode b_Mov_simplify 14 = .ok (.invokevirtual 124, 3) := by decide +kernel
theorem d_Mov_simplify_17 : decode b_Mov_simplify 17 = .ok (.istore_n 3, 1) := by decide +kernel
theorem d_Mov_simplify_18 : decode b_Mov_simplify 18 = .ok (.iload_n 3, 1) := by decide +kernel
theorem d_Mov_simplify_19 : decode b_Mov_simplify 19 = .ok (.ifCond .ge 6, 3) := by decide +kernel
theorem d_Mov_simplify_22 : decode b_Mov_simplify 22 = .ok (.goto 20, 3) := by decide +kernel
theorem d_Mov_simplify_25 : decode b_Mov_simplify 25 = .ok (.iload_n 1, 1) := by decide +kernel
theorem d_Mov_simplify_26 : decode b_Mov_simplify 26 = .ok (.aload_n 0, 1) := by decide +kernel
theorem d_Mov_simplify_27 : decode b_Mov_simplify 27 = .ok (.getfield 12, 3) := by decide +kernel
theorem d_Mov_simplify_30 : decode b_Mov_simplify 30 = .ok (.iload_n 3, 1) := by decide +kernel
theorem d_Mov_simplify_31 : decode b_Mov_simplify 31 = .ok (.invokevirtual 104, 3) := by decide +kernel
theorem d_Mov_simplify_34 : decode b_Mov_simplify 34 = .ok (.iadd, 1) := by decide +kernel
theorem d_Mov_simplify_35 : decode b_Mov_simplify 35 = .ok (.istore_n 1, 1) := by decide +kernel
theorem d_Mov_simplify_36 : decode b_Mov_simplify 36 = .ok (.iinc 2 1, 3) := by decide +kernel
theorem d_Mov_simplify_39 : decode b_Mov_simplify 39 = .ok (.goto (-35), 3) := by decide +kernel
theorem d_Mov_simplify_42 : decode b_Mov_simplify 42 = .ok (.iload_n 1, 1) := by decide +kernel
theorem d_Mov_simplify_43 : decode b_Mov_simplify 43 = .ok (.ireturn, 1) := by decide +kernel
theorem d_Mov_isSign_0 : decode b_Mov_isSign 0 = .ok (.iload_n 0, 1) := by decide +kernel
theorem d_Mov_isSign_1 : decode b_Mov_isSign 1 = .ok (.iconst 1, 1) := by decide +kernel
theorem d_Mov_isSign_2 : decode b_Mov_isSign 2 = .ok (.if_icmp .eq 8, 3) := by decide +kernel
theorem d_Mov_isSign_5 : decode b_Mov_isSign 5 = .ok (.iload_n 0, 1) := by decide +kernel
theorem d_Mov_isSign_6 : decode b_Mov_isSign 6 = .ok (.iconst (-1), 1) := by decide +kernel
theorem d_Mov_isSign_7 : decode b_Mov_isSign 7 = .ok (.if_icmp .ne 7, 3) := by decide +kernel
theorem d_Mov_isSign_10 : decode b_Mov_isSign 10 = .ok (.iconst 1, 1) := by decide +kernel
theorem d_Mov_isSign_11 : decode b_Mov_isSign 11 = .ok (.goto 4, 3) := by decide +kernel
theorem d_Mov_isSign_14 : decode b_Mov_isSign 14 = .ok (.iconst 0, 1) := by decide +kernel
theorem d_Mov_isSign_15 : decode b_Mov_isSign 15 = .ok (.ireturn, 1) := by decide +kernel
theorem d_Mov_isLabel_0 : decode b_Mov_isLabel 0 = .ok (.iload_n 0, 1) := by decide +kernel
theorem d_Mov_isLabel_1 : decode b_Mov_isLabel 1 = .ok (.iconst 1, 1) := by decide +kernel
theorem d_Mov_isLabel_2 : decode b_Mov_isLabel 2 = .ok (.if_icmp .lt 14, 3) := by decide +kernel
theorem d_Mov_isLabel_5 : decode b_Mov_isLabel 5 = .ok (.iload_n 0, 1) := by decide +kernel
theorem d_Mov_isLabel_6 : decode b_Mov_isLabel 6 = .ok (.sipush 9999, 3) := by decide +kernel
theorem d_Mov_isLabel_9 : decode b_Mov_isLabel 9 = .ok (.if_icmp .gt 7, 3) := by decide +kernel
theorem d_Mov_isLabel_12 : decode b_Mov_isLabel 12 = .ok (.iconst 1, 1) := by decide +kernel
theorem d_Mov_isLabel_13 : decode b_Mov_isLabel 13 = .ok (.goto 4, 3) := by decide +kernel
theorem d_Mov_isLabel_16 : decode b_Mov_isLabel 16 = .ok (.iconst 0, 1) := by decide +kernel
theorem d_Mov_isLabel_17 : decode b_Mov_isLabel 17 = .ok (.ireturn, 1) := by decide +kernel
