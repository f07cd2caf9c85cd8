theorem d_X_init_0 : decode c_X_init 0 = .ok (.aload_n 0, 1) := by decide +kernel
theorem d_X_init_1 : decode c_X_init 1 = .ok (.invokespecial 1, 3) := by decide +kernel
theorem d_X_init_4 : decode c_X_init 4 = .ok (.aload_n 0, 1) := by decide +kernel
theorem d_X_init_5 : decode c_X_init 5 = .ok (.new 7, 3) := by decide +kernel
theorem d_X_init_8 : decode c_X_init 8 = .ok (.dup, 1) := by decide +kernel
theorem d_X_init_9 : decode c_X_init 9 = .ok (.sipush 4096, 3) := by decide +kernel
theorem d_X_init_12 : decode c_X_init 12 = .ok (.newarray .byte, 2) := by decide +kernel
theorem d_X_init_14 : decode c_X_init 14 = .ok (.invokespecial 11, 3) := by decide +kernel
theorem d_X_init_17 : decode c_X_init 17 = .ok (.putfield 14, 3) := by decide +kernel
theorem d_X_init_20 : decode c_X_init 20 = .ok (.aload_n 0, 1) := by decide +kernel
theorem d_X_init_21 : decode c_X_init 21 = .ok (.new 7, 3) := by decide +kernel
theorem d_X_init_24 : decode c_X_init 24 = .ok (.dup, 1) := by decide +kernel
theorem d_X_init_25 : decode c_X_init 25 = .ok (.sipush 5632, 3) := by decide +kernel
theorem d_X_init_28 : decode c_X_init 28 = .ok (.newarray .byte, 2) := by decide +kernel
theorem d_X_init_30 : decode c_X_init 30 = .ok (.invokespecial 11, 3) := by decide +kernel
theorem d_X_init_33 : decode c_X_init 33 = .ok (.putfield 18, 3) := by decide +kernel
theorem d_X_init_36 : decode c_X_init 36 = .ok (.aload_n 0, 1) := by decide +kernel
theorem d_X_init_37 : decode c_X_init 37 = .ok (.new 21, 3) := by decide +kernel
theorem d_X_init_40 : decode c_X_init 40 = .ok (.dup, 1) := by decide +kernel
theorem d_X_init_41 : decode c_X_init 41 = .ok (.invokespecial 23, 3) := by decide +kernel
theorem d_X_init_44 : decode c_X_init 44 = .ok (.putfield 24, 3) := by decide +kernel
theorem d_X_init_47 : decode c_X_init 47 = .ok (.aload_n 0, 1) := by decide +kernel
theorem d_X_init_48 : decode c_X_init 48 = .ok (.new 28, 3) := by decide +kernel
theorem d_X_init_51 : decode c_X_init 51 = .ok (.dup, 1) := by decide +kernel
theorem d_X_init_52 : decode c_X_init 52 = .ok (.aload_n 0, 1) := by decide +kernel
theorem d_X_init_53 : decode c_X_init 53 = .ok (.getfield 24, 3) := by decide +kernel
theorem d_X_init_56 : decode c_X_init 56 = .ok (.invokespecial 30, 3) := by decide +kernel
theorem d_X_init_59 : decode c_X_init 59 = .ok (.putfield 33, 3) := by decide +kernel
theorem d_X_init_62 : decode c_X_init 62 = .ok (.aload_n 0, 1) := by decide +kernel
theorem d_X_init_63 : decode c_X_init 63 = .ok (.new 37, 3) := by decide +kernel
theorem d_X_init_66 : decode c_X_init 66 = .ok (.dup, 1) := by decide +kernel
theorem d_X_init_67 : decode c_X_init 67 = .ok (.new 39, 3) := by decide +kernel
theorem d_X_init_70 : decode c_X_init 70 = .ok (.dup, 1) := by decide +kernel
theorem d_X_init_71 : decode c_X_init 71 = .ok (.aload_n 0, 1) := by decide +kernel
theorem d_X_init_72 : decode c_X_init 72 = .ok (.getfield 14, 3) := by decide +kernel
theorem d_X_init_75 : decode c_X_init 75 = .ok (.invokespecial 41, 3) := by decide +kernel
theorem d_X_init_78 : decode c_X_init 78 = .ok (.aload_n 0, 1) := by decide +kernel
theorem d_X_init_79 : decode c_X_init 79 = .ok (.getfield 24, 3) := by decide +kernel
theorem d_X_init_82 : decode c_X_init 82 = .ok (.aload_n 0, 1) := by decide +kernel
theorem d_X_init_83 : decode c_X_init 83 = .ok (.getfield 33, 3) := by decide +kernel
theorem d_X_init_86 : decode c_X_init 86 = .ok (.invokespecial 44, 3) := by decide +kernel
theorem d_X_init_89 : decode c_X_init 89 = .ok (.putfield 47, 3) := by decide +kernel
theorem d_X_init_92 : decode c_X_init 92 = .ok (.aload_n 0, 1) := by decide +kernel
theorem d_X_init_93 : decode c_X_init 93 = .ok (.new 51, 3) := by decide +kernel
theorem d_X_init_96 : decode c_X_init 96 = .ok (.dup, 1) := by decide +kernel
theorem d_X_init_97 : decode c_X_init 97 = .ok (.aload_n 0, 1) := by decide +kernel
theorem d_X_init_98 : decode c_X_init 98 = .ok (.getfield 18, 3) := by decide +kernel
theorem d_X_init_101 : decode c_X_init 101 = .ok (.aload_n 0, 1) := by decide +kernel
theorem d_X_init_102 : decode c_X_init 102 = .ok (.getfield 24, 3) := by decide +kernel
theorem d_X_init_105 : decode c_X_init 105 = .ok (.aload_n 0, 1) := by decide +kernel
theorem d_X_init_106 : decode c_X_init 106 = .ok (.getfield 33, 3) := by decide +kernel
theorem d_X_init_109 : decode c_X_init 109 = .ok (.invokespecial 53, 3) := by decide +kernel
theorem d_X_init_112 : decode c_X_init 112 = .ok (.putfield 56, 3) := by decide +kernel
theorem d_X_init_115 : decode c_X_init 115 = .ok (.aload_n 0, 1) := by decide +kernel
theorem d_X_init_116 : decode c_X_init 116 = .ok (.new 60, 3) := by decide +kernel
theorem d_X_init_119 : decode c_X_init 119 = .ok (.dup, 1) := by decide +kernel
theorem d_X_init_120 : decode c_X_init 120 = .ok (.aload_n 0, 1) := by decide +kernel
theorem d_X_init_121 : decode c_X_init 121 = .ok (.getfield 18, 3) := by decide +kernel
theorem d_X_init_124 : decode c_X_init 124 = .ok (.aload_n 0, 1) := by decide +kernel
theorem d_X_init_125 : decode c_X_init 125 = .ok (.getfield 24, 3) := by decide +kernel
theorem d_X_init_128 : decode c_X_init 128 = .ok (.aload_n 0, 1) := by decide +kernel
theorem d_X_init_129 : decode c_X_init 129 = .ok (.getfield 33, 3) := by decide +kernel
theorem d_X_init_132 : decode c_X_init 132 = .ok (.invokespecial 62, 3) := by decide +kernel
theorem d_X_init_135 : decode c_X_init 135 = .ok (.putfield 63, 3) := by decide +kernel
theorem d_X_init_138 : decode c_X_init 138 = .ok (.aload_n 0, 1) := by decide +kernel
theorem d_X_init_139 : decode c_X_init 139 = .ok (.iconst 0, 1) := by decide +kernel
theorem d_X_init_140 : decode c_X_init 140 = .ok (.putfield 67, 3) := by decide +kernel
theorem d_X_init_143 : decode c_X_init 143 = .ok (.aload_n 0, 1) := by decide +kernel
theorem d_X_init_144 : decode c_X_init 144 = .ok (.iconst 0, 1) := by decide +kernel
theorem d_X_init_145 : decode c_X_init 145 = .ok (.putfield 71, 3) := by decide +kernel
theorem d_X_init_148 : decode c_X_init 148 = .ok (.return_, 1) := by decide +kernel
theorem d_jA_fill_0 : decode c_jA_fill 0 = .ok (.iconst 0, 1) := by decide +kernel
theorem d_jA_fill_1 : decode c_jA_fill 1 = .ok (.istore_n 2, 1) := by decide +kernel
theorem d_jA_fill_2 : decode c_jA_fill 2 = .ok (.aload_n 0, 1) := by decide +kernel
theorem d_jA_fill_3 : decode c_jA_fill 3 = .ok (.arraylength, 1) := by decide +kernel
theorem d_jA_fill_4 : decode c_jA_fill 4 = .ok (.istore_n 3, 1) := by decide +kernel
theorem d_jA_fill_5 : decode c_jA_fill 5 = .ok (.iload_n 2, 1) := by decide +kernel
theorem d_jA_fill_6 : decode c_jA_fill 6 = .ok (.iload_n 3, 1) := by decide +kernel
theorem d_jA_fill_7 : decode c_jA_fill 7 = .ok (.if_icmp .ge 13, 3) := by decide +kernel
theorem d_jA_fill_10 : decode c_jA_fill 10 = .ok (.aload_n 0, 1) := by decide +kernel
theorem d_jA_fill_11 : decode c_jA_fill 11 = .ok (.iload_n 2, 1) := by decide +kernel
theorem d_jA_fill_12 : decode c_jA_fill 12 = .ok (.iload_n 1, 1) := by decide +kernel
theorem d_jA_fill_13 : decode c_jA_fill 13 = .ok (.iastore, 1) := by decide +kernel
theorem d_jA_fill_14 : decode c_jA_fill 14 = .ok (.iinc 2 1, 3) := by decide +kernel
theorem d_jA_fill_17 : decode c_jA_fill 17 = .ok (.goto (-12), 3) := by decide +kernel
theorem d_jA_fill_20 : decode c_jA_fill 20 = .ok (.return_, 1) := by decide +kernel
theorem d_X_print_0 : decode c_X_print 0 = .ok (.aload_n 0, 1) := by decide +kernel
theorem d_X_print_1 : decode c_X_print 1 = .ok (.getfield 56, 3) := by decide +kernel
theorem d_X_print_4 : decode c_X_print 4 = .ok (.invokevirtual 163, 3) := by decide +kernel
theorem d_X_print_7 : decode c_X_print 7 = .ok (.aload_n 0, 1) := by decide +kernel
theorem d_X_print_8 : decode c_X_print 8 = .ok (.getfield 18, 3) := by decide +kernel
theorem d_X_print_11 : decode c_X_print 11 = .ok (.getfield 74, 3) := by decide +kernel
theorem d_X_print_14 : decode c_X_print 14 = .ok (.ireturn, 1) := by decide +kernel
theorem d_jS_length_0 : decode c_jS_length 0 = .ok (.aload_n 0, 1) := by decide +kernel
theorem d_jS_length_1 : decode c_jS_length 1 = .ok (.getfield 9, 3) := by decide +kernel
theorem d_jS_length_4 : decode c_jS_length 4 = .ok (.arraylength, 1) := by decide +kernel
theorem d_jS_length_5 : decode c_jS_length 5 = .ok (.aload_n 0, 1) := by decide +kernel
theorem d_jS_length_6 : decode c_jS_length 6 = .ok (.invokevirtual 335, 3) := by decide +kernel
theorem d_jS_length_9 : decode c_jS_length 9 = .ok (.ishr, 1) := by decide +kernel
theorem d_jS_length_10 : decode c_jS_length 10 = .ok (.ireturn, 1) := by decide +kernel
theorem d_jS_coder_0 : decode c_jS_coder 0 = .ok (.getstatic 38, 3) := by decide +kernel
theorem d_jS_coder_3 : decode c_jS_coder 3 = .ok (.ifCond .eq 10, 3) := by decide +kernel
theorem d_jS_coder_6 : decode c_jS_coder 6 = .ok (.aload_n 0, 1) := by decide +kernel
theorem d_jS_coder_7 : decode c_jS_coder 7 = .ok (.getfield 15, 3) := by decide +kernel
theorem d_jS_coder_10 : decode c_jS_coder 10 = .ok (.goto 4, 3) := by decide +kernel
theorem d_jS_coder_13 : decode c_jS_coder 13 = .ok (.iconst 1, 1) := by decide +kernel
theorem d_jS_coder_14 : decode c_jS_coder 14 = .ok (.ireturn, 1) := by decide +kernel
theorem d_jS_charAt_0 : decode c_jS_charAt 0 = .ok (.aload_n 0, 1) := by decide +kernel
theorem d_jS_charAt_1 : decode c_jS_charAt 1 = .ok (.invokevirtual 492, 3) := by decide +kernel
theorem d_jS_charAt_4 : decode c_jS_charAt 4 = .ok (.ifCond .eq 12, 3) := by decide +kernel
theorem d_jS_charAt_7 : decode c_jS_charAt 7 = .ok (.aload_n 0, 1) := by decide +kernel
theorem d_jS_charAt_8 : decode c_jS_charAt 8 = .ok (.getfield 9, 3) := by decide +kernel
theorem d_jS_charAt_11 : decode c_jS_charAt 11 = .ok (.iload_n 1, 1) := by decide +kernel
theorem d_jS_charAt_12 : decode c_jS_charAt 12 = .ok (.invokestatic 495, 3) := by decide +kernel
theorem d_jS_charAt_15 : decode c_jS_charAt 15 = .ok (.ireturn, 1) := by decide +kernel
theorem d_jS_charAt_16 : decode c_jS_charAt 16 = .ok (.aload_n 0, 1) := by decide +kernel
theorem d_jS_charAt_17 : decode c_jS_charAt 17 = .ok (.getfield 9, 3) := by decide +kernel
theorem d_jS_charAt_20 : decode c_jS_charAt 20 = .ok (.iload_n 1, 1) := by decide +kernel
theorem d_jS_charAt_21 : decode c_jS_charAt 21 = .ok (.invokestatic 498, 3) := by decide +kernel
theorem d_jS_charAt_24 : decode c_jS_charAt 24 = .ok (.ireturn, 1) := by decide +kernel
theorem d_jS_isLatin1_0 : decode c_jS_isLatin1 0 = .ok (.getstatic 38, 3) := by decide +kernel
theorem d_jS_isLatin1_3 : decode c_jS_isLatin1 3 = .ok (.ifCond .eq 14, 3) := by decide +kernel
theorem d_jS_isLatin1_6 : decode c_jS_isLatin1 6 = .ok (.aload_n 0, 1) := by decide +kernel
theorem d_jS_isLatin1_7 : decode c_jS_isLatin1 7 = .ok (.getfield 15, 3) := by decide +kernel
theorem d_jS_isLatin1_10 : decode c_jS_isLatin1 10 = .ok (.ifCond .ne 7, 3) := by decide +kernel
theorem d_jS_isLatin1_13 : decode c_jS_isLatin1 13 = .ok (.iconst 1, 1) := by decide +kernel
theorem d_jS_isLatin1_14 : decode c_jS_isLatin1 14 = .ok (.goto 4, 3) := by decide +kernel
theorem d_jS_isLatin1_17 : decode c_jS_isLatin1 17 = .ok (.iconst 0, 1) := by decide +kernel
theorem d_jS_isLatin1_18 : decode c_jS_isLatin1 18 = .ok (.ireturn, 1) := by decide +kernel
theorem d_jL_charAt_0 : decode c_jL_charAt 0 = .ok (.iload_n 1, 1) := by decide +kernel
theorem d_jL_charAt_1 : decode c_jL_charAt 1 = .ok (.aload_n 0, 1) := by decide +kernel
theorem d_jL_charAt_2 : decode c_jL_charAt 2 = .ok (.arraylength, 1) := by decide +kernel
theorem d_jL_charAt_3 : decode c_jL_charAt 3 = .ok (.invokestatic 9, 3) := by decide +kernel
theorem d_jL_charAt_6 : decode c_jL_charAt 6 = .ok (.aload_n 0, 1) := by decide +kernel
theorem d_jL_charAt_7 : decode c_jL_charAt 7 = .ok (.iload_n 1, 1) := by decide +kernel
theorem d_jL_charAt_8 : decode c_jL_charAt 8 = .ok (.baload, 1) := by decide +kernel
theorem d_jL_charAt_9 : decode c_jL_charAt 9 = .ok (.sipush 255, 3) := by decide +kernel
theorem d_jL_charAt_12 : decode c_jL_charAt 12 = .ok (.iand, 1) := by decide +kernel
theorem d_jL_charAt_13 : decode c_jL_charAt 13 = .ok (.i2c, 1) := by decide +kernel
theorem d_jL_charAt_14 : decode c_jL_charAt 14 = .ok (.ireturn, 1) := by decide +kernel
theorem d_jS_checkIndex_0 : decode c_jS_checkIndex 0 = .ok (.iload_n 0, 1) := by decide +kernel
theorem d_jS_checkIndex_1 : decode c_jS_checkIndex 1 = .ok (.iload_n 1, 1) := by decide +kernel
theorem d_jS_checkIndex_2 : decode c_jS_checkIndex 2 = .ok (.getstatic 1053, 3) := by decide +kernel
theorem d_jS_checkIndex_5 : decode c_jS_checkIndex 5 = .ok (.invokestatic 1059, 3) := by decide +kernel
theorem d_jS_checkIndex_8 : decode c_jS_checkIndex 8 = .ok (.pop, 1) := by decide +kernel
theorem d_jS_checkIndex_9 : decode c_jS_checkIndex 9 = .ok (.return_, 1) := by decide +kernel
theorem d_jP_checkIndex_0 : decode c_jP_checkIndex 0 = .ok (.iload_n 0, 1) := by decide +kernel
theorem d_jP_checkIndex_1 : decode c_jP_checkIndex 1 = .ok (.ifCond .lt 8, 3) := by decide +kernel
theorem d_jP_checkIndex_4 : decode c_jP_checkIndex 4 = .ok (.iload_n 0, 1) := by decide +kernel
theorem d_jP_checkIndex_5 : decode c_jP_checkIndex 5 = .ok (.iload_n 1, 1) := by decide +kernel
theorem d_jP_checkIndex_6 : decode c_jP_checkIndex 6 = .ok (.if_icmp .lt 10, 3) := by decide +kernel
theorem d_jP_checkIndex_9 : decode c_jP_checkIndex 9 = .ok (.aload_n 2, 1) := by decide +kernel
theorem d_jP_checkIndex_10 : decode c_jP_checkIndex 10 = .ok (.iload_n 0, 1) := by decide +kernel
theorem d_jP_checkIndex_11 : decode c_jP_checkIndex 11 = .ok (.iload_n 1, 1) := by decide +kernel
theorem d_jP_checkIndex_12 : decode c_jP_checkIndex 12 = .ok (.invokestatic 95, 3) := by decide +kernel
theorem d_jP_checkIndex_15 : decode c_jP_checkIndex 15 = .ok (.athrow, 1) := by decide +kernel
theorem d_jP_checkIndex_16 : decode c_jP_checkIndex 16 = .ok (.iload_n 0, 1) := by decide +kernel
theorem d_jP_checkIndex_17 : decode c_jP_checkIndex 17 = .ok (.ireturn, 1) := by decide +kernel
theorem d_X_draw_0 : decode c_X_draw 0 = .ok (.aload_n 0, 1) := by decide +kernel
theorem d_X_draw_1 : decode c_X_draw 1 = .ok (.getfield 63, 3) := by decide +kernel
theorem d_X_draw_4 : decode c_X_draw 4 = .ok (.invokevirtual 166, 3) := by decide +kernel
theorem d_X_draw_7 : decode c_X_draw 7 = .ok (.aload_n 0, 1) := by decide +kernel
theorem d_X_draw_8 : decode c_X_draw 8 = .ok (.getfield 18, 3) := by decide +kernel
theorem d_X_draw_11 : decode c_X_draw 11 = .ok (.getfield 74, 3) := by decide +kernel
theorem d_X_draw_14 : decode c_X_draw 14 = .ok (.ireturn, 1) := by decide +kernel
theorem d_jM_max_0 : decode c_jM_max 0 = .ok (.iload_n 0, 1) := by decide +kernel
theorem d_jM_max_1 : decode c_jM_max 1 = .ok (.iload_n 1, 1) := by decide +kernel
theorem d_jM_max_2 : decode c_jM_max 2 = .ok (.if_icmp .lt 7, 3) := by decide +kernel
theorem d_jM_max_5 : decode c_jM_max 5 = .ok (.iload_n 0, 1) := by decide +kernel
theorem d_jM_max_6 : decode c_jM_max 6 = .ok (.goto 4, 3) := by decide +kernel
theorem d_jM_max_9 : decode c_jM_max 9 = .ok (.iload_n 1, 1) := by decide +kernel
theorem d_jM_max_10 : decode c_jM_max 10 = .ok (.ireturn, 1) := by decide +kernel
theorem d_X_count_0 : decode c_X_count 0 = .ok (.iload_n 1, 1) := by decide +kernel
theorem d_X_count_1 : decode c_X_count 1 = .ok (.tableswitch 137 0 9 #[55, 63, 71, 79, 87, 95, 103, 112, 121, 129], 55) := by decide +kernel
theorem d_X_count_56 : decode c_X_count 56 = .ok (.aload_n 0, 1) := by decide +kernel
theorem d_X_count_57 : decode c_X_count 57 = .ok (.getfield 14, 3) := by decide +kernel
theorem d_X_count_60 : decode c_X_count 60 = .ok (.getfield 74, 3) := by decide +kernel
theorem d_X_count_63 : decode c_X_count 63 = .ok (.ireturn, 1) := by decide +kernel
theorem d_X_count_64 : decode c_X_count 64 = .ok (.aload_n 0, 1) := by decide +kernel
theorem d_X_count_65 : decode c_X_count 65 = .ok (.getfield 24, 3) := by decide +kernel
theorem d_X_count_68 : decode c_X_count 68 = .ok (.invokevirtual 140, 3) := by decide +kernel
theorem d_X_count_71 : decode c_X_count 71 = .ok (.ireturn, 1) := by decide +kernel
theorem d_X_count_72 : decode c_X_count 72 = .ok (.aload_n 0, 1) := by decide +kernel
theorem d_X_count_73 : decode c_X_count 73 = .ok (.getfield 24, 3) := by decide +kernel
theorem d_X_count_76 : decode c_X_count 76 = .ok (.invokevirtual 183, 3) := by decide +kernel
theorem d_X_count_79 : decode c_X_count 79 = .ok (.ireturn, 1) := by decide +kernel
theorem d_X_count_80 : decode c_X_count 80 = .ok (.aload_n 0, 1) := by decide +kernel
theorem d_X_count_81 : decode c_X_count 81 = .ok (.getfield 24, 3) := by decide +kernel
theorem d_X_count_84 : decode c_X_count 84 = .ok (.invokevirtual 152, 3) := by decide +kernel
theorem d_X_count_87 : decode c_X_count 87 = .ok (.ireturn, 1) := by decide +kernel
theorem d_X_count_88 : decode c_X_count 88 = .ok (.aload_n 0, 1) := by decide +kernel
theorem d_X_count_89 : decode c_X_count 89 = .ok (.getfield 33, 3) := by decide +kernel
theorem d_X_count_92 : decode c_X_count 92 = .ok (.getfield 111, 3) := by decide +kernel
theorem d_X_count_95 : decode c_X_count 95 = .ok (.ireturn, 1) := by decide +kernel
theorem d_X_count_96 : decode c_X_count 96 = .ok (.aload_n 0, 1) := by decide +kernel
theorem d_X_count_97 : decode c_X_count 97 = .ok (.getfield 33, 3) := by decide +kernel
theorem d_X_count_100 : decode c_X_count 100 = .ok (.getfield 186, 3) := by decide +kernel
theorem d_X_count_103 : decode c_X_count 103 = .ok (.ireturn, 1) := by decide +kernel
theorem d_X_count_104 : decode c_X_count 104 = .ok (.aload_n 0, 1) := by decide +kernel
theorem d_X_count_105 : decode c_X_count 105 = .ok (.getfield 33, 3) := by decide +kernel
theorem d_X_count_108 : decode c_X_count 108 = .ok (.iconst 0, 1) := by decide +kernel
theorem d_X_count_109 : decode c_X_count 109 = .ok (.invokevirtual 189, 3) := by decide +kernel
theorem d_X_count_112 : decode c_X_count 112 = .ok (.ireturn, 1) := by decide +kernel
theorem d_X_count_113 : decode c_X_count 113 = .ok (.aload_n 0, 1) := by decide +kernel
theorem d_X_count_114 : decode c_X_count 114 = .ok (.getfield 33, 3) := by decide +kernel
theorem d_X_count_117 : decode c_X_count 117 = .ok (.iconst 1, 1) := by decide +kernel
theorem d_X_count_118 : decode c_X_count 118 = .ok (.invokevirtual 189, 3) := by decide +kernel
theorem d_X_count_121 : decode c_X_count 121 = .ok (.ireturn, 1) := by decide +kernel
theorem d_X_count_122 : decode c_X_count 122 = .ok (.aload_n 0, 1) := by decide +kernel
theorem d_X_count_123 : decode c_X_count 123 = .ok (.getfield 33, 3) := by decide +kernel
theorem d_X_count_126 : decode c_X_count 126 = .ok (.getfield 193, 3) := by decide +kernel
theorem d_X_count_129 : decode c_X_count 129 = .ok (.ireturn, 1) := by decide +kernel
theorem d_X_count_130 : decode c_X_count 130 = .ok (.aload_n 0, 1) := by decide +kernel
theorem d_X_count_131 : decode c_X_count 131 = .ok (.getfield 18, 3) := by decide +kernel
theorem d_X_count_134 : decode c_X_count 134 = .ok (.getfield 74, 3) := by decide +kernel
theorem d_X_count_137 : decode c_X_count 137 = .ok (.ireturn, 1) := by decide +kernel
theorem d_X_count_138 : decode c_X_count 138 = .ok (.iconst (-1), 1) := by decide +kernel
theorem d_X_count_139 : decode c_X_count 139 = .ok (.ireturn, 1) := by decide +kernel
theorem d_X_feed_0 : decode c_X_feed 0 = .ok (.aload_n 0, 1) := by decide +kernel
theorem d_X_feed_1 : decode c_X_feed 1 = .ok (.getfield 14, 3) := by decide +kernel
theorem d_X_feed_4 : decode c_X_feed 4 = .ok (.getfield 74, 3) := by decide +kernel
theorem d_X_feed_7 : decode c_X_feed 7 = .ok (.sipush 4080, 3) := by decide +kernel
theorem d_X_feed_10 : decode c_X_feed 10 = .ok (.if_icmp .le 13, 3) := by decide +kernel
theorem d_X_feed_13 : decode c_X_feed 13 = .ok (.new 77, 3) := by decide +kernel
theorem d_X_feed_16 : decode c_X_feed 16 = .ok (.dup, 1) := by decide +kernel
theorem d_X_feed_17 : decode c_X_feed 17 = .ok (.ldc 79, 2) := by decide +kernel
theorem d_X_feed_19 : decode c_X_feed 19 = .ok (.invokespecial 81, 3) := by decide +kernel
theorem d_X_feed_22 : decode c_X_feed 22 = .ok (.athrow, 1) := by decide +kernel
theorem d_X_feed_23 : decode c_X_feed 23 = .ok (.aload_n 0, 1) := by decide +kernel
theorem d_X_feed_24 : decode c_X_feed 24 = .ok (.getfield 14, 3) := by decide +kernel
theorem d_X_feed_27 : decode c_X_feed 27 = .ok (.iload_n 1, 1) := by decide +kernel
theorem d_X_feed_28 : decode c_X_feed 28 = .ok (.invokevirtual 84, 3) := by decide +kernel
theorem d_X_feed_31 : decode c_X_feed 31 = .ok (.aload_n 0, 1) := by decide +kernel
theorem d_X_feed_32 : decode c_X_feed 32 = .ok (.getfield 14, 3) := by decide +kernel
theorem d_X_feed_35 : decode c_X_feed 35 = .ok (.iload_n 2, 1) := by decide +kernel
theorem d_X_feed_36 : decode c_X_feed 36 = .ok (.invokevirtual 84, 3) := by decide +kernel
theorem d_X_feed_39 : decode c_X_feed 39 = .ok (.aload_n 0, 1) := by decide +kernel
theorem d_X_feed_40 : decode c_X_feed 40 = .ok (.getfield 14, 3) := by decide +kernel
theorem d_X_feed_43 : decode c_X_feed 43 = .ok (.iload_n 3, 1) := by decide +kernel
theorem d_X_feed_44 : decode c_X_feed 44 = .ok (.invokevirtual 84, 3) := by decide +kernel
theorem d_X_feed_47 : decode c_X_feed 47 = .ok (.aload_n 0, 1) := by decide +kernel
theorem d_X_feed_48 : decode c_X_feed 48 = .ok (.getfield 14, 3) := by decide +kernel
theorem d_X_feed_51 : decode c_X_feed 51 = .ok (.iload 4, 2) := by decide +kernel
theorem d_X_feed_53 : decode c_X_feed 53 = .ok (.invokevirtual 84, 3) := by decide +kernel
theorem d_X_feed_56 : decode c_X_feed 56 = .ok (.aload_n 0, 1) := by decide +kernel
theorem d_X_feed_57 : decode c_X_feed 57 = .ok (.getfield 14, 3) := by decide +kernel
theorem d_X_feed_60 : decode c_X_feed 60 = .ok (.getfield 74, 3) := by decide +kernel
theorem d_X_feed_63 : decode c_X_feed 63 = .ok (.ireturn, 1) := by decide +kernel
theorem d_X_end_0 : decode c_X_end 0 = .ok (.iload_n 1, 1) := by decide +kernel
theorem d_X_end_1 : decode c_X_end 1 = .ok (.ifCond .lt 9, 3) := by decide +kernel
theorem d_X_end_4 : decode c_X_end 4 = .ok (.iload_n 1, 1) := by decide +kernel
theorem d_X_end_5 : decode c_X_end 5 = .ok (.bipush 16, 2) := by decide +kernel
theorem d_X_end_7 : decode c_X_end 7 = .ok (.if_icmp .le 13, 3) := by decide +kernel
theorem d_X_end_10 : decode c_X_end 10 = .ok (.new 88, 3) := by decide +kernel
theorem d_X_end_13 : decode c_X_end 13 = .ok (.dup, 1) := by decide +kernel
theorem d_X_end_14 : decode c_X_end 14 = .ok (.ldc 90, 2) := by decide +kernel
theorem d_X_end_16 : decode c_X_end 16 = .ok (.invokespecial 92, 3) := by decide +kernel
theorem d_X_end_19 : decode c_X_end 19 = .ok (.athrow, 1) := by decide +kernel
theorem d_X_end_20 : decode c_X_end 20 = .ok (.aload_n 0, 1) := by decide +kernel
theorem d_X_end_21 : decode c_X_end 21 = .ok (.getfield 14, 3) := by decide +kernel
theorem d_X_end_24 : decode c_X_end 24 = .ok (.getfield 74, 3) := by decide +kernel
theorem d_X_end_27 : decode c_X_end 27 = .ok (.bipush 16, 2) := by decide +kernel
theorem d_X_end_29 : decode c_X_end 29 = .ok (.if_icmp .ge 13, 3) := by decide +kernel
theorem d_X_end_32 : decode c_X_end 32 = .ok (.new 77, 3) := by decide +kernel
theorem d_X_end_35 : decode c_X_end 35 = .ok (.dup, 1) := by decide +kernel
theorem d_X_end_36 : decode c_X_end 36 = .ok (.ldc 93, 2) := by decide +kernel
theorem d_X_end_38 : decode c_X_end 38 = .ok (.invokespecial 81, 3) := by decide +kernel
theorem d_X_end_41 : decode c_X_end 41 = .ok (.athrow, 1) := by decide +kernel
theorem d_X_end_42 : decode c_X_end 42 = .ok (.aload_n 0, 1) := by decide +kernel
theorem d_X_end_43 : decode c_X_end 43 = .ok (.getfield 14, 3) := by decide +kernel
theorem d_X_end_46 : decode c_X_end 46 = .ok (.aload_n 0, 1) := by decide +kernel
theorem d_X_end_47 : decode c_X_end 47 = .ok (.getfield 14, 3) := by decide +kernel
theorem d_X_end_50 : decode c_X_end 50 = .ok (.getfield 74, 3) := by decide +kernel
theorem d_X_end_53 : decode c_X_end 53 = .ok (.bipush 16, 2) := by decide +kernel
theorem d_X_end_55 : decode c_X_end 55 = .ok (.isub, 1) := by decide +kernel
theorem d_X_end_56 : decode c_X_end 56 = .ok (.iload_n 1, 1) := by decide +kernel
theorem d_X_end_57 : decode c_X_end 57 = .ok (.iadd, 1) := by decide +kernel
theorem d_X_end_58 : decode c_X_end 58 = .ok (.putfield 74, 3) := by decide +kernel
theorem d_X_end_61 : decode c_X_end 61 = .ok (.aload_n 0, 1) := by decide +kernel
theorem d_X_end_62 : decode c_X_end 62 = .ok (.getfield 14, 3) := by decide +kernel
theorem d_X_end_65 : decode c_X_end 65 = .ok (.getfield 74, 3) := by decide +kernel
theorem d_X_end_68 : decode c_X_end 68 = .ok (.ireturn, 1) := by decide +kernel
theorem d_X_read_0 : decode c_X_read 0 = .ok (.aload_n 0, 1) := by decide +kernel
theorem d_X_read_1 : decode c_X_read 1 = .ok (.getfield 24, 3) := by decide +kernel
theorem d_X_read_4 : decode c_X_read 4 = .ok (.invokevirtual 95, 3) := by decide +kernel
theorem d_X_read_7 : decode c_X_read 7 = .ok (.aload_n 0, 1) := by decide +kernel
theorem d_X_read_8 : decode c_X_read 8 = .ok (.getfield 33, 3) := by decide +kernel
theorem d_X_read_11 : decode c_X_read 11 = .ok (.invokevirtual 98, 3) := by decide +kernel
theorem d_X_read_14 : decode c_X_read 14 = .ok (.aload_n 0, 1) := by decide +kernel
theorem d_X_read_15 : decode c_X_read 15 = .ok (.aload_n 0, 1) := by decide +kernel
theorem d_X_read_16 : decode c_X_read 16 = .ok (.getfield 47, 3) := by decide +kernel
theorem d_X_read_19 : decode c_X_read 19 = .ok (.invokevirtual 99, 3) := by decide +kernel
theorem d_X_read_22 : decode c_X_read 22 = .ok (.putfield 67, 3) := by decide +kernel
theorem d_X_read_25 : decode c_X_read 25 = .ok (.aload_n 0, 1) := by decide +kernel
theorem d_X_read_26 : decode c_X_read 26 = .ok (.aload_n 0, 1) := by decide +kernel
theorem d_X_read_27 : decode c_X_read 27 = .ok (.getfield 67, 3) := by decide +kernel
theorem d_X_read_30 : decode c_X_read 30 = .ok (.ifCond .ne 7, 3) := by decide +kernel
theorem d_X_read_33 : decode c_X_read 33 = .ok (.iconst 0, 1) := by decide +kernel
theorem d_X_read_34 : decode c_X_read 34 = .ok (.goto 10, 3) := by decide +kernel
theorem d_X_read_37 : decode c_X_read 37 = .ok (.aload_n 0, 1) := by decide +kernel
theorem d_X_read_38 : decode c_X_read 38 = .ok (.getfield 47, 3) := by decide +kernel
theorem d_X_read_41 : decode c_X_read 41 = .ok (.invokevirtual 103, 3) := by decide +kernel
theorem d_X_read_44 : decode c_X_read 44 = .ok (.putfield 71, 3) := by decide +kernel
theorem d_X_read_47 : decode c_X_read 47 = .ok (.aload_n 0, 1) := by decide +kernel
theorem d_X_read_48 : decode c_X_read 48 = .ok (.getfield 14, 3) := by decide +kernel
theorem d_X_read_51 : decode c_X_read 51 = .ok (.iconst 0, 1) := by decide +kernel
theorem d_X_read_52 : decode c_X_read 52 = .ok (.putfield 74, 3) := by decide +kernel
theorem d_X_read_55 : decode c_X_read 55 = .ok (.aload_n 0, 1) := by decide +kernel
theorem d_X_read_56 : decode c_X_read 56 = .ok (.getfield 67, 3) := by decide +kernel
theorem d_X_read_59 : decode c_X_read 59 = .ok (.ifCond .eq 27, 3) := by decide +kernel
theorem d_X_read_62 : decode c_X_read 62 = .ok (.aload_n 0, 1) := by decide +kernel
theorem d_X_read_63 : decode c_X_read 63 = .ok (.getfield 24, 3) := by decide +kernel
theorem d_X_read_66 : decode c_X_read 66 = .ok (.invokevirtual 95, 3) := by decide +kernel
theorem d_X_read_69 : decode c_X_read 69 = .ok (.aload_n 0, 1) := by decide +kernel
theorem d_X_read_70 : decode c_X_read 70 = .ok (.getfield 33, 3) := by decide +kernel
theorem d_X_read_73 : decode c_X_read 73 = .ok (.invokevirtual 98, 3) := by decide +kernel
theorem d_X_read_76 : decode c_X_read 76 = .ok (.new 88, 3) := by decide +kernel
theorem d_X_read_79 : decode c_X_read 79 = .ok (.dup, 1) := by decide +kernel
theorem d_X_read_80 : decode c_X_read 80 = .ok (.ldc 106, 2) := by decide +kernel
theorem d_X_read_82 : decode c_X_read 82 = .ok (.invokespecial 92, 3) := by decide +kernel
theorem d_X_read_85 : decode c_X_read 85 = .ok (.athrow, 1) := by decide +kernel
theorem d_X_read_86 : decode c_X_read 86 = .ok (.aload_n 0, 1) := by decide +kernel
theorem d_X_read_87 : decode c_X_read 87 = .ok (.getfield 33, 3) := by decide +kernel
theorem d_X_read_90 : decode c_X_read 90 = .ok (.invokevirtual 108, 3) := by decide +kernel
theorem d_X_read_93 : decode c_X_read 93 = .ok (.aload_n 0, 1) := by decide +kernel
theorem d_X_read_94 : decode c_X_read 94 = .ok (.getfield 33, 3) := by decide +kernel
theorem d_X_read_97 : decode c_X_read 97 = .ok (.getfield 111, 3) := by decide +kernel
theorem d_X_read_100 : decode c_X_read 100 = .ok (.ireturn, 1) := by decide +kernel
theorem d_X_fault_0 : decode c_X_fault 0 = .ok (.iload_n 1, 1) := by decide +kernel
theorem d_X_fault_1 : decode c_X_fault 1 = .ok (.ifCond .eq 18, 3) := by decide +kernel
theorem d_X_fault_4 : decode c_X_fault 4 = .ok (.iload_n 1, 1) := by decide +kernel
theorem d_X_fault_5 : decode c_X_fault 5 = .ok (.iconst 1, 1) := by decide +kernel
theorem d_X_fault_6 : decode c_X_fault 6 = .ok (.if_icmp .eq 13, 3) := by decide +kernel
theorem d_X_fault_9 : decode c_X_fault 9 = .ok (.new 114, 3) := by decide +kernel
theorem d_X_fault_12 : decode c_X_fault 12 = .ok (.dup, 1) := by decide +kernel
theorem d_X_fault_13 : decode c_X_fault 13 = .ok (.ldc 116, 2) := by decide +kernel
theorem d_X_fault_15 : decode c_X_fault 15 = .ok (.invokespecial 118, 3) := by decide +kernel
theorem d_X_fault_18 : decode c_X_fault 18 = .ok (.athrow, 1) := by decide +kernel
theorem d_X_fault_19 : decode c_X_fault 19 = .ok (.iload_n 1, 1) := by decide +kernel
theorem d_X_fault_20 : decode c_X_fault 20 = .ok (.ifCond .ne 10, 3) := by decide +kernel
theorem d_X_fault_23 : decode c_X_fault 23 = .ok (.aload_n 0, 1) := by decide +kernel
theorem d_X_fault_24 : decode c_X_fault 24 = .ok (.getfield 67, 3) := by decide +kernel
theorem d_X_fault_27 : decode c_X_fault 27 = .ok (.goto 7, 3) := by decide +kernel
theorem d_X_fault_30 : decode c_X_fault 30 = .ok (.aload_n 0, 1) := by decide +kernel
theorem d_X_fault_31 : decode c_X_fault 31 = .ok (.getfield 71, 3) := by decide +kernel
theorem d_X_fault_34 : decode c_X_fault 34 = .ok (.ireturn, 1) := by decide +kernel
theorem d_X_next_0 : decode c_X_next 0 = .ok (.aload_n 0, 1) := by decide +kernel
theorem d_X_next_1 : decode c_X_next 1 = .ok (.getfield 33, 3) := by decide +kernel
theorem d_X_next_4 : decode c_X_next 4 = .ok (.iload_n 1, 1) := by decide +kernel
theorem d_X_next_5 : decode c_X_next 5 = .ok (.iload_n 2, 1) := by decide +kernel
theorem d_X_next_6 : decode c_X_next 6 = .ok (.invokevirtual 119, 3) := by decide +kernel
theorem d_X_next_9 : decode c_X_next 9 = .ok (.istore_n 3, 1) := by decide +kernel
theorem d_X_next_10 : decode c_X_next 10 = .ok (.iload_n 3, 1) := by decide +kernel
theorem d_X_next_11 : decode c_X_next 11 = .ok (.iconst (-1), 1) := by decide +kernel
theorem d_X_next_12 : decode c_X_next 12 = .ok (.if_icmp .ne 13, 3) := by decide +kernel
theorem d_X_next_15 : decode c_X_next 15 = .ok (.new 114, 3) := by decide +kernel
theorem d_X_next_18 : decode c_X_next 18 = .ok (.dup, 1) := by decide +kernel
theorem d_X_next_19 : decode c_X_next 19 = .ok (.ldc 123, 2) := by decide +kernel
theorem d_X_next_21 : decode c_X_next 21 = .ok (.invokespecial 118, 3) := by decide +kernel
theorem d_X_next_24 : decode c_X_next 24 = .ok (.athrow, 1) := by decide +kernel
theorem d_X_next_25 : decode c_X_next 25 = .ok (.aload_n 0, 1) := by decide +kernel
theorem d_X_next_26 : decode c_X_next 26 = .ok (.getfield 33, 3) := by decide +kernel
theorem d_X_next_29 : decode c_X_next 29 = .ok (.getfield 125, 3) := by decide +kernel
theorem d_X_next_32 : decode c_X_next 32 = .ok (.iload_n 3, 1) := by decide +kernel
theorem d_X_next_33 : decode c_X_next 33 = .ok (.iaload, 1) := by decide +kernel
theorem d_X_next_34 : decode c_X_next 34 = .ok (.ireturn, 1) := by decide +kernel
theorem d_X_action_0 : decode c_X_action 0 = .ok (.aload_n 0, 1) := by decide +kernel
theorem d_X_action_1 : decode c_X_action 1 = .ok (.getfield 33, 3) := by decide +kernel
theorem d_X_action_4 : decode c_X_action 4 = .ok (.iload_n 1, 1) := by decide +kernel
theorem d_X_action_5 : decode c_X_action 5 = .ok (.iload_n 2, 1) := by decide +kernel
theorem d_X_action_6 : decode c_X_action 6 = .ok (.invokevirtual 119, 3) := by decide +kernel
theorem d_X_action_9 : decode c_X_action 9 = .ok (.istore 4, 2) := by decide +kernel
theorem d_X_action_11 : decode c_X_action 11 = .ok (.iload 4, 2) := by decide +kernel
theorem d_X_action_13 : decode c_X_action 13 = .ok (.iconst (-1), 1) := by decide +kernel
theorem d_X_action_14 : decode c_X_action 14 = .ok (.if_icmp .eq 7, 3) := by decide +kernel
theorem d_X_action_17 : decode c_X_action 17 = .ok (.iload_n 3, 1) := by decide +kernel
theorem d_X_action_18 : decode c_X_action 18 = .ok (.ifCond .ge 13, 3) := by decide +kernel
theorem d_X_action_21 : decode c_X_action 21 = .ok (.new 114, 3) := by decide +kernel
theorem d_X_action_24 : decode c_X_action 24 = .ok (.dup, 1) := by decide +kernel
theorem d_X_action_25 : decode c_X_action 25 = .ok (.ldc 129, 2) := by decide +kernel
theorem d_X_action_27 : decode c_X_action 27 = .ok (.invokespecial 118, 3) := by decide +kernel
theorem d_X_action_30 : decode c_X_action 30 = .ok (.athrow, 1) := by decide +kernel
theorem d_X_action_31 : decode c_X_action 31 = .ok (.aload_n 0, 1) := by decide +kernel
theorem d_X_action_32 : decode c_X_action 32 = .ok (.getfield 33, 3) := by decide +kernel
theorem d_X_action_35 : decode c_X_action 35 = .ok (.iload 4, 2) := by decide +kernel
theorem d_X_action_37 : decode c_X_action 37 = .ok (.iload_n 3, 1) := by decide +kernel
theorem d_X_action_38 : decode c_X_action 38 = .ok (.invokevirtual 131, 3) := by decide +kernel
theorem d_X_action_41 : decode c_X_action 41 = .ok (.ireturn, 1) := by decide +kernel
theorem d_X_missing_0 : decode c_X_missing 0 = .ok (.aload_n 0, 1) := by decide +kernel
theorem d_X_missing_1 : decode c_X_missing 1 = .ok (.getfield 33, 3) := by decide +kernel
theorem d_X_missing_4 : decode c_X_missing 4 = .ok (.iload_n 1, 1) := by decide +kernel
theorem d_X_missing_5 : decode c_X_missing 5 = .ok (.invokevirtual 134, 3) := by decide +kernel
theorem d_X_missing_8 : decode c_X_missing 8 = .ok (.istore_n 2, 1) := by decide +kernel
theorem d_X_missing_9 : decode c_X_missing 9 = .ok (.iload_n 2, 1) := by decide +kernel
theorem d_X_missing_10 : decode c_X_missing 10 = .ok (.iconst (-1), 1) := by decide +kernel
theorem d_X_missing_11 : decode c_X_missing 11 = .ok (.if_icmp .ne 13, 3) := by decide +kernel
theorem d_X_missing_14 : decode c_X_missing 14 = .ok (.new 114, 3) := by decide +kernel
theorem d_X_missing_17 : decode c_X_missing 17 = .ok (.dup, 1) := by decide +kernel
theorem d_X_missing_18 : decode c_X_missing 18 = .ok (.ldc 138, 2) := by decide +kernel
theorem d_X_missing_20 : decode c_X_missing 20 = .ok (.invokespecial 118, 3) := by decide +kernel
theorem d_X_missing_23 : decode c_X_missing 23 = .ok (.athrow, 1) := by decide +kernel
theorem d_X_missing_24 : decode c_X_missing 24 = .ok (.iload_n 2, 1) := by decide +kernel
theorem d_X_missing_25 : decode c_X_missing 25 = .ok (.ireturn, 1) := by decide +kernel
theorem d_X_reached_0 : decode c_X_reached 0 = .ok (.iload_n 1, 1) := by decide +kernel
theorem d_X_reached_1 : decode c_X_reached 1 = .ok (.ifCond .lt 23, 3) := by decide +kernel
theorem d_X_reached_4 : decode c_X_reached 4 = .ok (.iload_n 1, 1) := by decide +kernel
theorem d_X_reached_5 : decode c_X_reached 5 = .ok (.aload_n 0, 1) := by decide +kernel
theorem d_X_reached_6 : decode c_X_reached 6 = .ok (.getfield 24, 3) := by decide +kernel
theorem d_X_reached_9 : decode c_X_reached 9 = .ok (.invokevirtual 140, 3) := by decide +kernel
theorem d_X_reached_12 : decode c_X_reached 12 = .ok (.if_icmp .ge 12, 3) := by decide +kernel
theorem d_X_reached_15 : decode c_X_reached 15 = .ok (.iload_n 2, 1) := by decide +kernel
theorem d_X_reached_16 : decode c_X_reached 16 = .ok (.ifCond .lt 8, 3) := by decide +kernel
theorem d_X_reached_19 : decode c_X_reached 19 = .ok (.iload_n 2, 1) := by decide +kernel
theorem d_X_reached_20 : decode c_X_reached 20 = .ok (.iconst 1, 1) := by decide +kernel
theorem d_X_reached_21 : decode c_X_reached 21 = .ok (.if_icmp .le 13, 3) := by decide +kernel
theorem d_X_reached_24 : decode c_X_reached 24 = .ok (.new 114, 3) := by decide +kernel
theorem d_X_reached_27 : decode c_X_reached 27 = .ok (.dup, 1) := by decide +kernel
theorem d_X_reached_28 : decode c_X_reached 28 = .ok (.ldc 143, 2) := by decide +kernel
theorem d_X_reached_30 : decode c_X_reached 30 = .ok (.invokespecial 118, 3) := by decide +kernel
theorem d_X_reached_33 : decode c_X_reached 33 = .ok (.athrow, 1) := by decide +kernel
theorem d_X_reached_34 : decode c_X_reached 34 = .ok (.iload_n 2, 1) := by decide +kernel
theorem d_X_reached_35 : decode c_X_reached 35 = .ok (.iconst 1, 1) := by decide +kernel
theorem d_X_reached_36 : decode c_X_reached 36 = .ok (.if_icmp .ne 13, 3) := by decide +kernel
theorem d_X_reached_39 : decode c_X_reached 39 = .ok (.aload_n 0, 1) := by decide +kernel
theorem d_X_reached_40 : decode c_X_reached 40 = .ok (.getfield 33, 3) := by decide +kernel
theorem d_X_reached_43 : decode c_X_reached 43 = .ok (.getfield 145, 3) := by decide +kernel
theorem d_X_reached_46 : decode c_X_reached 46 = .ok (.iload_n 1, 1) := by decide +kernel
theorem d_X_reached_47 : decode c_X_reached 47 = .ok (.iaload, 1) := by decide +kernel
theorem d_X_reached_48 : decode c_X_reached 48 = .ok (.ireturn, 1) := by decide +kernel
theorem d_X_reached_49 : decode c_X_reached 49 = .ok (.aload_n 0, 1) := by decide +kernel
theorem d_X_reached_50 : decode c_X_reached 50 = .ok (.getfield 33, 3) := by decide +kernel
theorem d_X_reached_53 : decode c_X_reached 53 = .ok (.iload_n 1, 1) := by decide +kernel
theorem d_X_reached_54 : decode c_X_reached 54 = .ok (.invokevirtual 148, 3) := by decide +kernel
theorem d_X_reached_57 : decode c_X_reached 57 = .ok (.ifCond .eq 7, 3) := by decide +kernel
theorem d_X_reached_60 : decode c_X_reached 60 = .ok (.iconst 1, 1) := by decide +kernel
theorem d_X_reached_61 : decode c_X_reached 61 = .ok (.goto 4, 3) := by decide +kernel
theorem d_X_reached_64 : decode c_X_reached 64 = .ok (.iconst 0, 1) := by decide +kernel
theorem d_X_reached_65 : decode c_X_reached 65 = .ok (.ireturn, 1) := by decide +kernel
theorem d_X_message_0 : decode c_X_message 0 = .ok (.iload_n 1, 1) := by decide +kernel
theorem d_X_message_1 : decode c_X_message 1 = .ok (.ifCond .lt 14, 3) := by decide +kernel
theorem d_X_message_4 : decode c_X_message 4 = .ok (.iload_n 1, 1) := by decide +kernel
theorem d_X_message_5 : decode c_X_message 5 = .ok (.aload_n 0, 1) := by decide +kernel
theorem d_X_message_6 : decode c_X_message 6 = .ok (.getfield 24, 3) := by decide +kernel
theorem d_X_message_9 : decode c_X_message 9 = .ok (.invokevirtual 152, 3) := by decide +kernel
theorem d_X_message_12 : decode c_X_message 12 = .ok (.if_icmp .lt 13, 3) := by decide +kernel
theorem d_X_message_15 : decode c_X_message 15 = .ok (.new 114, 3) := by decide +kernel
theorem d_X_message_18 : decode c_X_message 18 = .ok (.dup, 1) := by decide +kernel
theorem d_X_message_19 : decode c_X_message 19 = .ok (.ldc 155, 2) := by decide +kernel
theorem d_X_message_21 : decode c_X_message 21 = .ok (.invokespecial 118, 3) := by decide +kernel
theorem d_X_message_24 : decode c_X_message 24 = .ok (.athrow, 1) := by decide +kernel
theorem d_X_message_25 : decode c_X_message 25 = .ok (.aload_n 0, 1) := by decide +kernel
theorem d_X_message_26 : decode c_X_message 26 = .ok (.getfield 33, 3) := by decide +kernel
theorem d_X_message_29 : decode c_X_message 29 = .ok (.iload_n 1, 1) := by decide +kernel
theorem d_X_message_30 : decode c_X_message 30 = .ok (.invokevirtual 157, 3) := by decide +kernel
theorem d_X_message_33 : decode c_X_message 33 = .ok (.ifCond .ne 5, 3) := by decide +kernel
theorem d_X_message_36 : decode c_X_message 36 = .ok (.iconst 0, 1) := by decide +kernel
theorem d_X_message_37 : decode c_X_message 37 = .ok (.ireturn, 1) := by decide +kernel
theorem d_X_message_38 : decode c_X_message 38 = .ok (.aload_n 0, 1) := by decide +kernel
theorem d_X_message_39 : decode c_X_message 39 = .ok (.getfield 33, 3) := by decide +kernel
theorem d_X_message_42 : decode c_X_message 42 = .ok (.iload_n 1, 1) := by decide +kernel
theorem d_X_message_43 : decode c_X_message 43 = .ok (.invokevirtual 160, 3) := by decide +kernel
theorem d_X_message_46 : decode c_X_message 46 = .ok (.ifCond .eq 7, 3) := by decide +kernel
theorem d_X_message_49 : decode c_X_message 49 = .ok (.iconst 1, 1) := by decide +kernel
theorem d_X_message_50 : decode c_X_message 50 = .ok (.goto 4, 3) := by decide +kernel
theorem d_X_message_53 : decode c_X_message 53 = .ok (.iconst 3, 1) := by decide +kernel
theorem d_X_message_54 : decode c_X_message 54 = .ok (.ireturn, 1) := by decide +kernel
theorem d_X_out_0 : decode c_X_out 0 = .ok (.iload_n 1, 1) := by decide +kernel
theorem d_X_out_1 : decode c_X_out 1 = .ok (.ifCond .lt 14, 3) := by decide +kernel
theorem d_X_out_4 : decode c_X_out 4 = .ok (.iload_n 1, 1) := by decide +kernel
theorem d_X_out_5 : decode c_X_out 5 = .ok (.aload_n 0, 1) := by decide +kernel
theorem d_X_out_6 : decode c_X_out 6 = .ok (.getfield 18, 3) := by decide +kernel
theorem d_X_out_9 : decode c_X_out 9 = .ok (.getfield 74, 3) := by decide +kernel
theorem d_X_out_12 : decode c_X_out 12 = .ok (.if_icmp .lt 13, 3) := by decide +kernel
theorem d_X_out_15 : decode c_X_out 15 = .ok (.new 114, 3) := by decide +kernel
theorem d_X_out_18 : decode c_X_out 18 = .ok (.dup, 1) := by decide +kernel
theorem d_X_out_19 : decode c_X_out 19 = .ok (.ldc 169, 2) := by decide +kernel
theorem d_X_out_21 : decode c_X_out 21 = .ok (.invokespecial 118, 3) := by decide +kernel
theorem d_X_out_24 : decode c_X_out 24 = .ok (.athrow, 1) := by decide +kernel
theorem d_X_out_25 : decode c_X_out 25 = .ok (.aload_n 0, 1) := by decide +kernel
theorem d_X_out_26 : decode c_X_out 26 = .ok (.getfield 18, 3) := by decide +kernel
theorem d_X_out_29 : decode c_X_out 29 = .ok (.getfield 171, 3) := by decide +kernel
theorem d_X_out_32 : decode c_X_out 32 = .ok (.iload_n 1, 1) := by decide +kernel
theorem d_X_out_33 : decode c_X_out 33 = .ok (.baload, 1) := by decide +kernel
theorem d_X_out_34 : decode c_X_out 34 = .ok (.sipush 255, 3) := by decide +kernel
theorem d_X_out_37 : decode c_X_out 37 = .ok (.iand, 1) := by decide +kernel
theorem d_X_out_38 : decode c_X_out 38 = .ok (.ireturn, 1) := by decide +kernel
theorem d_X_again_0 : decode c_X_again 0 = .ok (.aload_n 0, 1) := by decide +kernel
theorem d_X_again_1 : decode c_X_again 1 = .ok (.getfield 18, 3) := by decide +kernel
theorem d_X_again_4 : decode c_X_again 4 = .ok (.getfield 74, 3) := by decide +kernel
theorem d_X_again_7 : decode c_X_again 7 = .ok (.sipush 4096, 3) := by decide +kernel
theorem d_X_again_10 : decode c_X_again 10 = .ok (.if_icmp .le 13, 3) := by decide +kernel
theorem d_X_again_13 : decode c_X_again 13 = .ok (.new 77, 3) := by decide +kernel
theorem d_X_again_16 : decode c_X_again 16 = .ok (.dup, 1) := by decide +kernel
theorem d_X_again_17 : decode c_X_again 17 = .ok (.ldc 175, 2) := by decide +kernel
theorem d_X_again_19 : decode c_X_again 19 = .ok (.invokespecial 81, 3) := by decide +kernel
theorem d_X_again_22 : decode c_X_again 22 = .ok (.athrow, 1) := by decide +kernel
theorem d_X_again_23 : decode c_X_again 23 = .ok (.aload_n 0, 1) := by decide +kernel
theorem d_X_again_24 : decode c_X_again 24 = .ok (.getfield 18, 3) := by decide +kernel
theorem d_X_again_27 : decode c_X_again 27 = .ok (.getfield 171, 3) := by decide +kernel
theorem d_X_again_30 : decode c_X_again 30 = .ok (.iconst 0, 1) := by decide +kernel
theorem d_X_again_31 : decode c_X_again 31 = .ok (.aload_n 0, 1) := by decide +kernel
theorem d_X_again_32 : decode c_X_again 32 = .ok (.getfield 14, 3) := by decide +kernel
theorem d_X_again_35 : decode c_X_again 35 = .ok (.getfield 171, 3) := by decide +kernel
theorem d_X_again_38 : decode c_X_again 38 = .ok (.iconst 0, 1) := by decide +kernel
theorem d_X_again_39 : decode c_X_again 39 = .ok (.aload_n 0, 1) := by decide +kernel
theorem d_X_again_40 : decode c_X_again 40 = .ok (.getfield 18, 3) := by decide +kernel
theorem d_X_again_43 : decode c_X_again 43 = .ok (.getfield 74, 3) := by decide +kernel
theorem d_X_again_46 : decode c_X_again 46 = .ok (.invokestatic 177, 3) := by decide +kernel
theorem d_X_again_49 : decode c_X_again 49 = .ok (.aload_n 0, 1) := by decide +kernel
theorem d_X_again_50 : decode c_X_again 50 = .ok (.getfield 14, 3) := by decide +kernel
theorem d_X_again_53 : decode c_X_again 53 = .ok (.aload_n 0, 1) := by decide +kernel
theorem d_X_again_54 : decode c_X_again 54 = .ok (.getfield 18, 3) := by decide +kernel
theorem d_X_again_57 : decode c_X_again 57 = .ok (.getfield 74, 3) := by decide +kernel
theorem d_X_again_60 : decode c_X_again 60 = .ok (.putfield 74, 3) := by decide +kernel
theorem d_X_again_63 : decode c_X_again 63 = .ok (.aload_n 0, 1) := by decide +kernel
theorem d_X_again_64 : decode c_X_again 64 = .ok (.getfield 14, 3) := by decide +kernel
theorem d_X_again_67 : decode c_X_again 67 = .ok (.getfield 74, 3) := by decide +kernel
theorem d_X_again_70 : decode c_X_again 70 = .ok (.ireturn, 1) := by decide +kernel
theorem d_W_feed_0 : decode c_W_feed 0 = .ok (.aload 5, 2) := by decide +kernel
theorem d_W_feed_2 : decode c_W_feed 2 = .ok (.iconst 0, 1) := by decide +kernel
theorem d_W_feed_3 : decode c_W_feed 3 = .ok (.aload_n 0, 1) := by decide +kernel
theorem d_W_feed_4 : decode c_W_feed 4 = .ok (.iload_n 1, 1) := by decide +kernel
theorem d_W_feed_5 : decode c_W_feed 5 = .ok (.iload_n 2, 1) := by decide +kernel
theorem d_W_feed_6 : decode c_W_feed 6 = .ok (.iload_n 3, 1) := by decide +kernel
theorem d_W_feed_7 : decode c_W_feed 7 = .ok (.iload 4, 2) := by decide +kernel
theorem d_W_feed_9 : decode c_W_feed 9 = .ok (.invokevirtual 7, 3) := by decide +kernel
theorem d_W_feed_12 : decode c_W_feed 12 = .ok (.i2l, 1) := by decide +kernel
theorem d_W_feed_13 : decode c_W_feed 13 = .ok (.lastore, 1) := by decide +kernel
theorem d_W_feed_14 : decode c_W_feed 14 = .ok (.goto 7, 3) := by decide +kernel
theorem d_W_feed_17 : decode c_W_feed 17 = .ok (.astore 6, 2) := by decide +kernel
theorem d_W_feed_19 : decode c_W_feed 19 = .ok (.iconst 1, 1) := by decide +kernel
theorem d_W_feed_20 : decode c_W_feed 20 = .ok (.ireturn, 1) := by decide +kernel
theorem d_W_feed_21 : decode c_W_feed 21 = .ok (.iconst 0, 1) := by decide +kernel
theorem d_W_feed_22 : decode c_W_feed 22 = .ok (.ireturn, 1) := by decide +kernel
theorem d_W_end_0 : decode c_W_end 0 = .ok (.aload_n 2, 1) := by decide +kernel
theorem d_W_end_1 : decode c_W_end 1 = .ok (.iconst 0, 1) := by decide +kernel
theorem d_W_end_2 : decode c_W_end 2 = .ok (.aload_n 0, 1) := by decide +kernel
theorem d_W_end_3 : decode c_W_end 3 = .ok (.iload_n 1, 1) := by decide +kernel
theorem d_W_end_4 : decode c_W_end 4 = .ok (.invokevirtual 15, 3) := by decide +kernel
theorem d_W_end_7 : decode c_W_end 7 = .ok (.i2l, 1) := by decide +kernel
theorem d_W_end_8 : decode c_W_end 8 = .ok (.lastore, 1) := by decide +kernel
theorem d_W_end_9 : decode c_W_end 9 = .ok (.goto 9, 3) := by decide +kernel
theorem d_W_end_12 : decode c_W_end 12 = .ok (.astore_n 3, 1) := by decide +kernel
theorem d_W_end_13 : decode c_W_end 13 = .ok (.iconst 1, 1) := by decide +kernel
theorem d_W_end_14 : decode c_W_end 14 = .ok (.ireturn, 1) := by decide +kernel
theorem d_W_end_15 : decode c_W_end 15 = .ok (.astore_n 3, 1) := by decide +kernel
theorem d_W_end_16 : decode c_W_end 16 = .ok (.iconst 2, 1) := by decide +kernel
theorem d_W_end_17 : decode c_W_end 17 = .ok (.ireturn, 1) := by decide +kernel
theorem d_W_end_18 : decode c_W_end 18 = .ok (.iconst 0, 1) := by decide +kernel
theorem d_W_end_19 : decode c_W_end 19 = .ok (.ireturn, 1) := by decide +kernel
theorem d_W_read_0 : decode c_W_read 0 = .ok (.aload_n 1, 1) := by decide +kernel
theorem d_W_read_1 : decode c_W_read 1 = .ok (.iconst 0, 1) := by decide +kernel
theorem d_W_read_2 : decode c_W_read 2 = .ok (.aload_n 0, 1) := by decide +kernel
theorem d_W_read_3 : decode c_W_read 3 = .ok (.invokevirtual 21, 3) := by decide +kernel
theorem d_W_read_6 : decode c_W_read 6 = .ok (.i2l, 1) := by decide +kernel
theorem d_W_read_7 : decode c_W_read 7 = .ok (.lastore, 1) := by decide +kernel
theorem d_W_read_8 : decode c_W_read 8 = .ok (.goto 6, 3) := by decide +kernel
theorem d_W_read_11 : decode c_W_read 11 = .ok (.astore_n 2, 1) := by decide +kernel
theorem d_W_read_12 : decode c_W_read 12 = .ok (.iconst 1, 1) := by decide +kernel
theorem d_W_read_13 : decode c_W_read 13 = .ok (.ireturn, 1) := by decide +kernel
theorem d_W_read_14 : decode c_W_read 14 = .ok (.iconst 0, 1) := by decide +kernel
theorem d_W_read_15 : decode c_W_read 15 = .ok (.ireturn, 1) := by decide +kernel
theorem d_W_fault_0 : decode c_W_fault 0 = .ok (.aload_n 2, 1) := by decide +kernel
theorem d_W_fault_1 : decode c_W_fault 1 = .ok (.iconst 0, 1) := by decide +kernel
theorem d_W_fault_2 : decode c_W_fault 2 = .ok (.aload_n 0, 1) := by decide +kernel
theorem d_W_fault_3 : decode c_W_fault 3 = .ok (.iload_n 1, 1) := by decide +kernel
theorem d_W_fault_4 : decode c_W_fault 4 = .ok (.invokevirtual 25, 3) := by decide +kernel
theorem d_W_fault_7 : decode c_W_fault 7 = .ok (.i2l, 1) := by decide +kernel
theorem d_W_fault_8 : decode c_W_fault 8 = .ok (.lastore, 1) := by decide +kernel
theorem d_W_fault_9 : decode c_W_fault 9 = .ok (.goto 6, 3) := by decide +kernel
theorem d_W_fault_12 : decode c_W_fault 12 = .ok (.astore_n 3, 1) := by decide +kernel
theorem d_W_fault_13 : decode c_W_fault 13 = .ok (.iconst 1, 1) := by decide +kernel
theorem d_W_fault_14 : decode c_W_fault 14 = .ok (.ireturn, 1) := by decide +kernel
theorem d_W_fault_15 : decode c_W_fault 15 = .ok (.iconst 0, 1) := by decide +kernel
theorem d_W_fault_16 : decode c_W_fault 16 = .ok (.ireturn, 1) := by decide +kernel
theorem d_W_next_0 : decode c_W_next 0 = .ok (.aload_n 3, 1) := by decide +kernel
theorem d_W_next_1 : decode c_W_next 1 = .ok (.iconst 0, 1) := by decide +kernel
theorem d_W_next_2 : decode c_W_next 2 = .ok (.aload_n 0, 1) := by decide +kernel
theorem d_W_next_3 : decode c_W_next 3 = .ok (.iload_n 1, 1) := by decide +kernel
theorem d_W_next_4 : decode c_W_next 4 = .ok (.iload_n 2, 1) := by decide +kernel
theorem d_W_next_5 : decode c_W_next 5 = .ok (.invokevirtual 30, 3) := by decide +kernel
theorem d_W_next_8 : decode c_W_next 8 = .ok (.i2l, 1) := by decide +kernel
theorem d_W_next_9 : decode c_W_next 9 = .ok (.lastore, 1) := by decide +kernel
theorem d_W_next_10 : decode c_W_next 10 = .ok (.goto 7, 3) := by decide +kernel
theorem d_W_next_13 : decode c_W_next 13 = .ok (.astore 4, 2) := by decide +kernel
theorem d_W_next_15 : decode c_W_next 15 = .ok (.iconst 1, 1) := by decide +kernel
theorem d_W_next_16 : decode c_W_next 16 = .ok (.ireturn, 1) := by decide +kernel
theorem d_W_next_17 : decode c_W_next 17 = .ok (.iconst 0, 1) := by decide +kernel
theorem d_W_next_18 : decode c_W_next 18 = .ok (.ireturn, 1) := by decide +kernel
theorem d_W_action_0 : decode c_W_action 0 = .ok (.aload 4, 2) := by decide +kernel
theorem d_W_action_2 : decode c_W_action 2 = .ok (.iconst 0, 1) := by decide +kernel
theorem d_W_action_3 : decode c_W_action 3 = .ok (.aload_n 0, 1) := by decide +kernel
theorem d_W_action_4 : decode c_W_action 4 = .ok (.iload_n 1, 1) := by decide +kernel
theorem d_W_action_5 : decode c_W_action 5 = .ok (.iload_n 2, 1) := by decide +kernel
theorem d_W_action_6 : decode c_W_action 6 = .ok (.iload_n 3, 1) := by decide +kernel
theorem d_W_action_7 : decode c_W_action 7 = .ok (.invokevirtual 34, 3) := by decide +kernel
theorem d_W_action_10 : decode c_W_action 10 = .ok (.i2l, 1) := by decide +kernel
theorem d_W_action_11 : decode c_W_action 11 = .ok (.lastore, 1) := by decide +kernel
theorem d_W_action_12 : decode c_W_action 12 = .ok (.goto 7, 3) := by decide +kernel
theorem d_W_action_15 : decode c_W_action 15 = .ok (.astore 5, 2) := by decide +kernel
theorem d_W_action_17 : decode c_W_action 17 = .ok (.iconst 1, 1) := by decide +kernel
theorem d_W_action_18 : decode c_W_action 18 = .ok (.ireturn, 1) := by decide +kernel
theorem d_W_action_19 : decode c_W_action 19 = .ok (.iconst 0, 1) := by decide +kernel
theorem d_W_action_20 : decode c_W_action 20 = .ok (.ireturn, 1) := by decide +kernel
theorem d_W_missing_0 : decode c_W_missing 0 = .ok (.aload_n 2, 1) := by decide +kernel
theorem d_W_missing_1 : decode c_W_missing 1 = .ok (.iconst 0, 1) := by decide +kernel
theorem d_W_missing_2 : decode c_W_missing 2 = .ok (.aload_n 0, 1) := by decide +kernel
theorem d_W_missing_3 : decode c_W_missing 3 = .ok (.iload_n 1, 1) := by decide +kernel
theorem d_W_missing_4 : decode c_W_missing 4 = .ok (.invokevirtual 38, 3) := by decide +kernel
theorem d_W_missing_7 : decode c_W_missing 7 = .ok (.i2l, 1) := by decide +kernel
theorem d_W_missing_8 : decode c_W_missing 8 = .ok (.lastore, 1) := by decide +kernel
theorem d_W_missing_9 : decode c_W_missing 9 = .ok (.goto 6, 3) := by decide +kernel
theorem d_W_missing_12 : decode c_W_missing 12 = .ok (.astore_n 3, 1) := by decide +kernel
theorem d_W_missing_13 : decode c_W_missing 13 = .ok (.iconst 1, 1) := by decide +kernel
theorem d_W_missing_14 : decode c_W_missing 14 = .ok (.ireturn, 1) := by decide +kernel
theorem d_W_missing_15 : decode c_W_missing 15 = .ok (.iconst 0, 1) := by decide +kernel
theorem d_W_missing_16 : decode c_W_missing 16 = .ok (.ireturn, 1) := by decide +kernel
theorem d_W_reached_0 : decode c_W_reached 0 = .ok (.aload_n 3, 1) := by decide +kernel
theorem d_W_reached_1 : decode c_W_reached 1 = .ok (.iconst 0, 1) := by decide +kernel
theorem d_W_reached_2 : decode c_W_reached 2 = .ok (.aload_n 0, 1) := by decide +kernel
theorem d_W_reached_3 : decode c_W_reached 3 = .ok (.iload_n 1, 1) := by decide +kernel
theorem d_W_reached_4 : decode c_W_reached 4 = .ok (.iload_n 2, 1) := by decide +kernel
theorem d_W_reached_5 : decode c_W_reached 5 = .ok (.invokevirtual 41, 3) := by decide +kernel
theorem d_W_reached_8 : decode c_W_reached 8 = .ok (.i2l, 1) := by decide +kernel
theorem d_W_reached_9 : decode c_W_reached 9 = .ok (.lastore, 1) := by decide +kernel
theorem d_W_reached_10 : decode c_W_reached 10 = .ok (.goto 7, 3) := by decide +kernel
theorem d_W_reached_13 : decode c_W_reached 13 = .ok (.astore 4, 2) := by decide +kernel
theorem d_W_reached_15 : decode c_W_reached 15 = .ok (.iconst 1, 1) := by decide +kernel
theorem d_W_reached_16 : decode c_W_reached 16 = .ok (.ireturn, 1) := by decide +kernel
theorem d_W_reached_17 : decode c_W_reached 17 = .ok (.iconst 0, 1) := by decide +kernel
theorem d_W_reached_18 : decode c_W_reached 18 = .ok (.ireturn, 1) := by decide +kernel
theorem d_W_message_0 : decode c_W_message 0 = .ok (.aload_n 2, 1) := by decide +kernel
theorem d_W_message_1 : decode c_W_message 1 = .ok (.iconst 0, 1) := by decide +kernel
theorem d_W_message_2 : decode c_W_message 2 = .ok (.aload_n 0, 1) := by decide +kernel
theorem d_W_message_3 : decode c_W_message 3 = .ok (.iload_n 1, 1) := by decide +kernel
theorem d_W_message_4 : decode c_W_message 4 = .ok (.invokevirtual 44, 3) := by decide +kernel
theorem d_W_message_7 : decode c_W_message 7 = .ok (.i2l, 1) := by decide +kernel
theorem d_W_message_8 : decode c_W_message 8 = .ok (.lastore, 1) := by decide +kernel
theorem d_W_message_9 : decode c_W_message 9 = .ok (.goto 6, 3) := by decide +kernel
theorem d_W_message_12 : decode c_W_message 12 = .ok (.astore_n 3, 1) := by decide +kernel
theorem d_W_message_13 : decode c_W_message 13 = .ok (.iconst 1, 1) := by decide +kernel
theorem d_W_message_14 : decode c_W_message 14 = .ok (.ireturn, 1) := by decide +kernel
theorem d_W_message_15 : decode c_W_message 15 = .ok (.iconst 0, 1) := by decide +kernel
theorem d_W_message_16 : decode c_W_message 16 = .ok (.ireturn, 1) := by decide +kernel
theorem d_W_out_0 : decode c_W_out 0 = .ok (.aload_n 2, 1) := by decide +kernel
theorem d_W_out_1 : decode c_W_out 1 = .ok (.iconst 0, 1) := by decide +kernel
theorem d_W_out_2 : decode c_W_out 2 = .ok (.aload_n 0, 1) := by decide +kernel
theorem d_W_out_3 : decode c_W_out 3 = .ok (.iload_n 1, 1) := by decide +kernel
theorem d_W_out_4 : decode c_W_out 4 = .ok (.invokevirtual 47, 3) := by decide +kernel
theorem d_W_out_7 : decode c_W_out 7 = .ok (.i2l, 1) := by decide +kernel
theorem d_W_out_8 : decode c_W_out 8 = .ok (.lastore, 1) := by decide +kernel
theorem d_W_out_9 : decode c_W_out 9 = .ok (.goto 6, 3) := by decide +kernel
theorem d_W_out_12 : decode c_W_out 12 = .ok (.astore_n 3, 1) := by decide +kernel
theorem d_W_out_13 : decode c_W_out 13 = .ok (.iconst 1, 1) := by decide +kernel
theorem d_W_out_14 : decode c_W_out 14 = .ok (.ireturn, 1) := by decide +kernel
theorem d_W_out_15 : decode c_W_out 15 = .ok (.iconst 0, 1) := by decide +kernel
theorem d_W_out_16 : decode c_W_out 16 = .ok (.ireturn, 1) := by decide +kernel
theorem d_W_again_0 : decode c_W_again 0 = .ok (.aload_n 1, 1) := by decide +kernel
theorem d_W_again_1 : decode c_W_again 1 = .ok (.iconst 0, 1) := by decide +kernel
theorem d_W_again_2 : decode c_W_again 2 = .ok (.aload_n 0, 1) := by decide +kernel
theorem d_W_again_3 : decode c_W_again 3 = .ok (.invokevirtual 50, 3) := by decide +kernel
theorem d_W_again_6 : decode c_W_again 6 = .ok (.i2l, 1) := by decide +kernel
theorem d_W_again_7 : decode c_W_again 7 = .ok (.lastore, 1) := by decide +kernel
theorem d_W_again_8 : decode c_W_again 8 = .ok (.goto 6, 3) := by decide +kernel
theorem d_W_again_11 : decode c_W_again 11 = .ok (.astore_n 2, 1) := by decide +kernel
theorem d_W_again_12 : decode c_W_again 12 = .ok (.iconst 1, 1) := by decide +kernel
theorem d_W_again_13 : decode c_W_again 13 = .ok (.ireturn, 1) := by decide +kernel
theorem d_W_again_14 : decode c_W_again 14 = .ok (.iconst 0, 1) := by decide +kernel
theorem d_W_again_15 : decode c_W_again 15 = .ok (.ireturn, 1) := by decide +kernel
