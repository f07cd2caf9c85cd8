theorem d_B_init_0 : decode c_B_init 0 = .ok (.aload_n 0, 1) := by decide +kernel
theorem d_B_init_1 : decode c_B_init 1 = .ok (.invokespecial 3, 3) := by decide +kernel
theorem d_B_init_4 : decode c_B_init 4 = .ok (.aload_n 0, 1) := by decide +kernel
theorem d_B_init_5 : decode c_B_init 5 = .ok (.aload_n 1, 1) := by decide +kernel
theorem d_B_init_6 : decode c_B_init 6 = .ok (.putfield 9, 3) := by decide +kernel
theorem d_B_init_9 : decode c_B_init 9 = .ok (.aload_n 0, 1) := by decide +kernel
theorem d_B_init_10 : decode c_B_init 10 = .ok (.iconst 0, 1) := by decide +kernel
theorem d_B_init_11 : decode c_B_init 11 = .ok (.putfield 15, 3) := by decide +kernel
theorem d_B_init_14 : decode c_B_init 14 = .ok (.return_, 1) := by decide +kernel
theorem d_N_init_0 : decode c_N_init 0 = .ok (.aload_n 0, 1) := by decide +kernel
theorem d_N_init_1 : decode c_N_init 1 = .ok (.invokespecial 5, 3) := by decide +kernel
theorem d_N_init_4 : decode c_N_init 4 = .ok (.aload_n 0, 1) := by decide +kernel
theorem d_N_init_5 : decode c_N_init 5 = .ok (.sipush 480, 3) := by decide +kernel
theorem d_N_init_8 : decode c_N_init 8 = .ok (.newarray .byte, 2) := by decide +kernel
theorem d_N_init_10 : decode c_N_init 10 = .ok (.putfield 11, 3) := by decide +kernel
theorem d_N_init_13 : decode c_N_init 13 = .ok (.aload_n 0, 1) := by decide +kernel
theorem d_N_init_14 : decode c_N_init 14 = .ok (.bipush 40, 2) := by decide +kernel
theorem d_N_init_16 : decode c_N_init 16 = .ok (.newarray .int, 2) := by decide +kernel
theorem d_N_init_18 : decode c_N_init 18 = .ok (.putfield 15, 3) := by decide +kernel
theorem d_N_init_21 : decode c_N_init 21 = .ok (.aload_n 0, 1) := by decide +kernel
theorem d_N_init_22 : decode c_N_init 22 = .ok (.iconst 3, 1) := by decide +kernel
theorem d_N_init_23 : decode c_N_init 23 = .ok (.newarray .int, 2) := by decide +kernel
theorem d_N_init_25 : decode c_N_init 25 = .ok (.putfield 19, 3) := by decide +kernel
theorem d_N_init_28 : decode c_N_init 28 = .ok (.return_, 1) := by decide +kernel
theorem d_T_init_0 : decode c_T_init 0 = .ok (.aload_n 0, 1) := by decide +kernel
theorem d_T_init_1 : decode c_T_init 1 = .ok (.invokespecial 5, 3) := by decide +kernel
theorem d_T_init_4 : decode c_T_init 4 = .ok (.aload_n 0, 1) := by decide +kernel
theorem d_T_init_5 : decode c_T_init 5 = .ok (.sipush 384, 3) := by decide +kernel
theorem d_T_init_8 : decode c_T_init 8 = .ok (.newarray .int, 2) := by decide +kernel
theorem d_T_init_10 : decode c_T_init 10 = .ok (.putfield 13, 3) := by decide +kernel
theorem d_T_init_13 : decode c_T_init 13 = .ok (.aload_n 0, 1) := by decide +kernel
theorem d_T_init_14 : decode c_T_init 14 = .ok (.bipush 16, 2) := by decide +kernel
theorem d_T_init_16 : decode c_T_init 16 = .ok (.newarray .int, 2) := by decide +kernel
theorem d_T_init_18 : decode c_T_init 18 = .ok (.putfield 17, 3) := by decide +kernel
theorem d_T_init_21 : decode c_T_init 21 = .ok (.aload_n 0, 1) := by decide +kernel
theorem d_T_init_22 : decode c_T_init 22 = .ok (.sipush 1536, 3) := by decide +kernel
theorem d_T_init_25 : decode c_T_init 25 = .ok (.newarray .int, 2) := by decide +kernel
theorem d_T_init_27 : decode c_T_init 27 = .ok (.putfield 20, 3) := by decide +kernel
theorem d_T_init_30 : decode c_T_init 30 = .ok (.aload_n 0, 1) := by decide +kernel
theorem d_T_init_31 : decode c_T_init 31 = .ok (.aload_n 1, 1) := by decide +kernel
theorem d_T_init_32 : decode c_T_init 32 = .ok (.putfield 23, 3) := by decide +kernel
theorem d_T_init_35 : decode c_T_init 35 = .ok (.aload_n 0, 1) := by decide +kernel
theorem d_T_init_36 : decode c_T_init 36 = .ok (.invokevirtual 27, 3) := by decide +kernel
theorem d_T_init_39 : decode c_T_init 39 = .ok (.return_, 1) := by decide +kernel
theorem d_T_forget_0 : decode c_T_forget 0 = .ok (.aload_n 0, 1) := by decide +kernel
theorem d_T_forget_1 : decode c_T_forget 1 = .ok (.getfield 13, 3) := by decide +kernel
theorem d_T_forget_4 : decode c_T_forget 4 = .ok (.iconst (-1), 1) := by decide +kernel
theorem d_T_forget_5 : decode c_T_forget 5 = .ok (.invokestatic 30, 3) := by decide +kernel
theorem d_T_forget_8 : decode c_T_forget 8 = .ok (.aload_n 0, 1) := by decide +kernel
theorem d_T_forget_9 : decode c_T_forget 9 = .ok (.getfield 20, 3) := by decide +kernel
theorem d_T_forget_12 : decode c_T_forget 12 = .ok (.iconst (-1), 1) := by decide +kernel
theorem d_T_forget_13 : decode c_T_forget 13 = .ok (.invokestatic 30, 3) := by decide +kernel
theorem d_T_forget_16 : decode c_T_forget 16 = .ok (.aload_n 0, 1) := by decide +kernel
theorem d_T_forget_17 : decode c_T_forget 17 = .ok (.getfield 17, 3) := by decide +kernel
theorem d_T_forget_20 : decode c_T_forget 20 = .ok (.iconst (-1), 1) := by decide +kernel
theorem d_T_forget_21 : decode c_T_forget 21 = .ok (.invokestatic 30, 3) := by decide +kernel
theorem d_T_forget_24 : decode c_T_forget 24 = .ok (.aload_n 0, 1) := by decide +kernel
theorem d_T_forget_25 : decode c_T_forget 25 = .ok (.iconst 0, 1) := by decide +kernel
theorem d_T_forget_26 : decode c_T_forget 26 = .ok (.putfield 36, 3) := by decide +kernel
theorem d_T_forget_29 : decode c_T_forget 29 = .ok (.aload_n 0, 1) := by decide +kernel
theorem d_T_forget_30 : decode c_T_forget 30 = .ok (.iconst 0, 1) := by decide +kernel
theorem d_T_forget_31 : decode c_T_forget 31 = .ok (.putfield 40, 3) := by decide +kernel
theorem d_T_forget_34 : decode c_T_forget 34 = .ok (.aload_n 0, 1) := by decide +kernel
theorem d_T_forget_35 : decode c_T_forget 35 = .ok (.iconst (-1), 1) := by decide +kernel
theorem d_T_forget_36 : decode c_T_forget 36 = .ok (.putfield 43, 3) := by decide +kernel
theorem d_T_forget_39 : decode c_T_forget 39 = .ok (.return_, 1) := by decide +kernel
theorem d_L_init_0 : decode c_L_init 0 = .ok (.aload_n 0, 1) := by decide +kernel
theorem d_L_init_1 : decode c_L_init 1 = .ok (.invokespecial 3, 3) := by decide +kernel
theorem d_L_init_4 : decode c_L_init 4 = .ok (.aload_n 0, 1) := by decide +kernel
theorem d_L_init_5 : decode c_L_init 5 = .ok (.aload_n 1, 1) := by decide +kernel
theorem d_L_init_6 : decode c_L_init 6 = .ok (.putfield 9, 3) := by decide +kernel
theorem d_L_init_9 : decode c_L_init 9 = .ok (.return_, 1) := by decide +kernel
theorem d_P_init_0 : decode c_P_init 0 = .ok (.aload_n 0, 1) := by decide +kernel
theorem d_P_init_1 : decode c_P_init 1 = .ok (.invokespecial 3, 3) := by decide +kernel
theorem d_P_init_4 : decode c_P_init 4 = .ok (.aload_n 0, 1) := by decide +kernel
theorem d_P_init_5 : decode c_P_init 5 = .ok (.aload_n 1, 1) := by decide +kernel
theorem d_P_init_6 : decode c_P_init 6 = .ok (.putfield 9, 3) := by decide +kernel
theorem d_P_init_9 : decode c_P_init 9 = .ok (.aload_n 0, 1) := by decide +kernel
theorem d_P_init_10 : decode c_P_init 10 = .ok (.aload_n 2, 1) := by decide +kernel
theorem d_P_init_11 : decode c_P_init 11 = .ok (.putfield 15, 3) := by decide +kernel
theorem d_P_init_14 : decode c_P_init 14 = .ok (.aload_n 0, 1) := by decide +kernel
theorem d_P_init_15 : decode c_P_init 15 = .ok (.aload_n 3, 1) := by decide +kernel
theorem d_P_init_16 : decode c_P_init 16 = .ok (.putfield 19, 3) := by decide +kernel
theorem d_P_init_19 : decode c_P_init 19 = .ok (.return_, 1) := by decide +kernel
theorem d_I_init_0 : decode c_I_init 0 = .ok (.aload_n 0, 1) := by decide +kernel
theorem d_I_init_1 : decode c_I_init 1 = .ok (.invokespecial 3, 3) := by decide +kernel
theorem d_I_init_4 : decode c_I_init 4 = .ok (.aload_n 0, 1) := by decide +kernel
theorem d_I_init_5 : decode c_I_init 5 = .ok (.aload_n 1, 1) := by decide +kernel
theorem d_I_init_6 : decode c_I_init 6 = .ok (.putfield 9, 3) := by decide +kernel
theorem d_I_init_9 : decode c_I_init 9 = .ok (.aload_n 0, 1) := by decide +kernel
theorem d_I_init_10 : decode c_I_init 10 = .ok (.aload_n 2, 1) := by decide +kernel
theorem d_I_init_11 : decode c_I_init 11 = .ok (.putfield 15, 3) := by decide +kernel
theorem d_I_init_14 : decode c_I_init 14 = .ok (.aload_n 0, 1) := by decide +kernel
theorem d_I_init_15 : decode c_I_init 15 = .ok (.aload_n 3, 1) := by decide +kernel
theorem d_I_init_16 : decode c_I_init 16 = .ok (.putfield 19, 3) := by decide +kernel
theorem d_I_init_19 : decode c_I_init 19 = .ok (.return_, 1) := by decide +kernel
theorem d_D_init_0 : decode c_D_init 0 = .ok (.aload_n 0, 1) := by decide +kernel
theorem d_D_init_1 : decode c_D_init 1 = .ok (.invokespecial 3, 3) := by decide +kernel
theorem d_D_init_4 : decode c_D_init 4 = .ok (.aload_n 0, 1) := by decide +kernel
theorem d_D_init_5 : decode c_D_init 5 = .ok (.bipush 24, 2) := by decide +kernel
theorem d_D_init_7 : decode c_D_init 7 = .ok (.newarray .int, 2) := by decide +kernel
theorem d_D_init_9 : decode c_D_init 9 = .ok (.putfield 11, 3) := by decide +kernel
theorem d_D_init_12 : decode c_D_init 12 = .ok (.aload_n 0, 1) := by decide +kernel
theorem d_D_init_13 : decode c_D_init 13 = .ok (.aload_n 1, 1) := by decide +kernel
theorem d_D_init_14 : decode c_D_init 14 = .ok (.putfield 17, 3) := by decide +kernel
theorem d_D_init_17 : decode c_D_init 17 = .ok (.aload_n 0, 1) := by decide +kernel
theorem d_D_init_18 : decode c_D_init 18 = .ok (.aload_n 2, 1) := by decide +kernel
theorem d_D_init_19 : decode c_D_init 19 = .ok (.putfield 21, 3) := by decide +kernel
theorem d_D_init_22 : decode c_D_init 22 = .ok (.aload_n 0, 1) := by decide +kernel
theorem d_D_init_23 : decode c_D_init 23 = .ok (.aload_n 3, 1) := by decide +kernel
theorem d_D_init_24 : decode c_D_init 24 = .ok (.putfield 25, 3) := by decide +kernel
theorem d_D_init_27 : decode c_D_init 27 = .ok (.return_, 1) := by decide +kernel
theorem d_I_printAll_0 : decode c_I_printAll 0 = .ok (.aload_n 0, 1) := by decide +kernel
theorem d_I_printAll_1 : decode c_I_printAll 1 = .ok (.getfield 9, 3) := by decide +kernel
theorem d_I_printAll_4 : decode c_I_printAll 4 = .ok (.iconst 0, 1) := by decide +kernel
theorem d_I_printAll_5 : decode c_I_printAll 5 = .ok (.putfield 23, 3) := by decide +kernel
theorem d_I_printAll_8 : decode c_I_printAll 8 = .ok (.aload_n 0, 1) := by decide +kernel
theorem d_I_printAll_9 : decode c_I_printAll 9 = .ok (.ldc 29, 2) := by decide +kernel
theorem d_I_printAll_11 : decode c_I_printAll 11 = .ok (.iconst 0, 1) := by decide +kernel
theorem d_I_printAll_12 : decode c_I_printAll 12 = .ok (.aload_n 0, 1) := by decide +kernel
theorem d_I_printAll_13 : decode c_I_printAll 13 = .ok (.getfield 15, 3) := by decide +kernel
theorem d_I_printAll_16 : decode c_I_printAll 16 = .ok (.invokevirtual 31, 3) := by decide +kernel
theorem d_I_printAll_19 : decode c_I_printAll 19 = .ok (.invokevirtual 37, 3) := by decide +kernel
theorem d_I_printAll_22 : decode c_I_printAll 22 = .ok (.aload_n 0, 1) := by decide +kernel
theorem d_I_printAll_23 : decode c_I_printAll 23 = .ok (.ldc 41, 2) := by decide +kernel
theorem d_I_printAll_25 : decode c_I_printAll 25 = .ok (.bipush 16, 2) := by decide +kernel
theorem d_I_printAll_27 : decode c_I_printAll 27 = .ok (.aload_n 0, 1) := by decide +kernel
theorem d_I_printAll_28 : decode c_I_printAll 28 = .ok (.getfield 15, 3) := by decide +kernel
theorem d_I_printAll_31 : decode c_I_printAll 31 = .ok (.invokevirtual 43, 3) := by decide +kernel
theorem d_I_printAll_34 : decode c_I_printAll 34 = .ok (.invokevirtual 37, 3) := by decide +kernel
theorem d_I_printAll_37 : decode c_I_printAll 37 = .ok (.aload_n 0, 1) := by decide +kernel
theorem d_I_printAll_38 : decode c_I_printAll 38 = .ok (.ldc 46, 2) := by decide +kernel
theorem d_I_printAll_40 : decode c_I_printAll 40 = .ok (.bipush 24, 2) := by decide +kernel
theorem d_I_printAll_42 : decode c_I_printAll 42 = .ok (.aload_n 0, 1) := by decide +kernel
theorem d_I_printAll_43 : decode c_I_printAll 43 = .ok (.getfield 15, 3) := by decide +kernel
theorem d_I_printAll_46 : decode c_I_printAll 46 = .ok (.invokevirtual 48, 3) := by decide +kernel
theorem d_I_printAll_49 : decode c_I_printAll 49 = .ok (.invokevirtual 37, 3) := by decide +kernel
theorem d_I_printAll_52 : decode c_I_printAll 52 = .ok (.aload_n 0, 1) := by decide +kernel
theorem d_I_printAll_53 : decode c_I_printAll 53 = .ok (.getfield 19, 3) := by decide +kernel
theorem d_I_printAll_56 : decode c_I_printAll 56 = .ok (.getfield 51, 3) := by decide +kernel
theorem d_I_printAll_59 : decode c_I_printAll 59 = .ok (.iconst (-1), 1) := by decide +kernel
theorem d_I_printAll_60 : decode c_I_printAll 60 = .ok (.if_icmp .eq 34, 3) := by decide +kernel
theorem d_I_printAll_63 : decode c_I_printAll 63 = .ok (.aload_n 0, 1) := by decide +kernel
theorem d_I_printAll_64 : decode c_I_printAll 64 = .ok (.getfield 9, 3) := by decide +kernel
theorem d_I_printAll_67 : decode c_I_printAll 67 = .ok (.ldc 56, 2) := by decide +kernel
theorem d_I_printAll_69 : decode c_I_printAll 69 = .ok (.invokevirtual 58, 3) := by decide +kernel
theorem d_I_printAll_72 : decode c_I_printAll 72 = .ok (.aload_n 0, 1) := by decide +kernel
theorem d_I_printAll_73 : decode c_I_printAll 73 = .ok (.getfield 15, 3) := by decide +kernel
theorem d_I_printAll_76 : decode c_I_printAll 76 = .ok (.aload_n 0, 1) := by decide +kernel
theorem d_I_printAll_77 : decode c_I_printAll 77 = .ok (.getfield 19, 3) := by decide +kernel
theorem d_I_printAll_80 : decode c_I_printAll 80 = .ok (.getfield 51, 3) := by decide +kernel
theorem d_I_printAll_83 : decode c_I_printAll 83 = .ok (.aload_n 0, 1) := by decide +kernel
theorem d_I_printAll_84 : decode c_I_printAll 84 = .ok (.getfield 9, 3) := by decide +kernel
theorem d_I_printAll_87 : decode c_I_printAll 87 = .ok (.invokevirtual 62, 3) := by decide +kernel
theorem d_I_printAll_90 : decode c_I_printAll 90 = .ok (.aload_n 0, 1) := by decide +kernel
theorem d_I_printAll_91 : decode c_I_printAll 91 = .ok (.invokevirtual 66, 3) := by decide +kernel
theorem d_I_printAll_94 : decode c_I_printAll 94 = .ok (.iconst 0, 1) := by decide +kernel
theorem d_I_printAll_95 : decode c_I_printAll 95 = .ok (.istore_n 1, 1) := by decide +kernel
theorem d_I_printAll_96 : decode c_I_printAll 96 = .ok (.iload_n 1, 1) := by decide +kernel
theorem d_I_printAll_97 : decode c_I_printAll 97 = .ok (.aload_n 0, 1) := by decide +kernel
theorem d_I_printAll_98 : decode c_I_printAll 98 = .ok (.getfield 15, 3) := by decide +kernel
theorem d_I_printAll_101 : decode c_I_printAll 101 = .ok (.invokevirtual 31, 3) := by decide +kernel
theorem d_I_printAll_104 : decode c_I_printAll 104 = .ok (.if_icmp .ge 34, 3) := by decide +kernel
theorem d_I_printAll_107 : decode c_I_printAll 107 = .ok (.iconst 0, 1) := by decide +kernel
theorem d_I_printAll_108 : decode c_I_printAll 108 = .ok (.istore_n 2, 1) := by decide +kernel
theorem d_I_printAll_109 : decode c_I_printAll 109 = .ok (.iload_n 2, 1) := by decide +kernel
theorem d_I_printAll_110 : decode c_I_printAll 110 = .ok (.aload_n 0, 1) := by decide +kernel
theorem d_I_printAll_111 : decode c_I_printAll 111 = .ok (.getfield 15, 3) := by decide +kernel
theorem d_I_printAll_114 : decode c_I_printAll 114 = .ok (.invokevirtual 69, 3) := by decide +kernel
theorem d_I_printAll_117 : decode c_I_printAll 117 = .ok (.if_icmp .ge 15, 3) := by decide +kernel
theorem d_I_printAll_120 : decode c_I_printAll 120 = .ok (.aload_n 0, 1) := by decide +kernel
theorem d_I_printAll_121 : decode c_I_printAll 121 = .ok (.iload_n 1, 1) := by decide +kernel
theorem d_I_printAll_122 : decode c_I_printAll 122 = .ok (.iload_n 2, 1) := by decide +kernel
theorem d_I_printAll_123 : decode c_I_printAll 123 = .ok (.invokevirtual 72, 3) := by decide +kernel
theorem d_I_printAll_126 : decode c_I_printAll 126 = .ok (.iinc 2 1, 3) := by decide +kernel
theorem d_I_printAll_129 : decode c_I_printAll 129 = .ok (.goto (-20), 3) := by decide +kernel
theorem d_I_printAll_132 : decode c_I_printAll 132 = .ok (.iinc 1 1, 3) := by decide +kernel
theorem d_I_printAll_135 : decode c_I_printAll 135 = .ok (.goto (-39), 3) := by decide +kernel
theorem d_I_printAll_138 : decode c_I_printAll 138 = .ok (.return_, 1) := by decide +kernel
theorem d_N_states_0 : decode c_N_states 0 = .ok (.aload_n 0, 1) := by decide +kernel
theorem d_N_states_1 : decode c_N_states 1 = .ok (.getfield 19, 3) := by decide +kernel
theorem d_N_states_4 : decode c_N_states 4 = .ok (.iconst 0, 1) := by decide +kernel
theorem d_N_states_5 : decode c_N_states 5 = .ok (.iaload, 1) := by decide +kernel
theorem d_N_states_6 : decode c_N_states 6 = .ok (.ireturn, 1) := by decide +kernel
theorem d_I_printNames_0 : decode c_I_printNames 0 = .ok (.iload_n 3, 1) := by decide +kernel
theorem d_I_printNames_1 : decode c_I_printNames 1 = .ok (.ifCond .ne 4, 3) := by decide +kernel
theorem d_I_printNames_4 : decode c_I_printNames 4 = .ok (.return_, 1) := by decide +kernel
theorem d_I_printNames_5 : decode c_I_printNames 5 = .ok (.aload_n 0, 1) := by decide +kernel
theorem d_I_printNames_6 : decode c_I_printNames 6 = .ok (.getfield 9, 3) := by decide +kernel
theorem d_I_printNames_9 : decode c_I_printNames 9 = .ok (.aload_n 1, 1) := by decide +kernel
theorem d_I_printNames_10 : decode c_I_printNames 10 = .ok (.invokevirtual 58, 3) := by decide +kernel
theorem d_I_printNames_13 : decode c_I_printNames 13 = .ok (.iconst 0, 1) := by decide +kernel
theorem d_I_printNames_14 : decode c_I_printNames 14 = .ok (.istore 4, 2) := by decide +kernel
theorem d_I_printNames_16 : decode c_I_printNames 16 = .ok (.iload 4, 2) := by decide +kernel
theorem d_I_printNames_18 : decode c_I_printNames 18 = .ok (.iload_n 3, 1) := by decide +kernel
theorem d_I_printNames_19 : decode c_I_printNames 19 = .ok (.if_icmp .ge 38, 3) := by decide +kernel
theorem d_I_printNames_22 : decode c_I_printNames 22 = .ok (.iload 4, 2) := by decide +kernel
theorem d_I_printNames_24 : decode c_I_printNames 24 = .ok (.ifCond .le 12, 3) := by decide +kernel
theorem d_I_printNames_27 : decode c_I_printNames 27 = .ok (.aload_n 0, 1) := by decide +kernel
theorem d_I_printNames_28 : decode c_I_printNames 28 = .ok (.getfield 9, 3) := by decide +kernel
theorem d_I_printNames_31 : decode c_I_printNames 31 = .ok (.ldc 80, 2) := by decide +kernel
theorem d_I_printNames_33 : decode c_I_printNames 33 = .ok (.invokevirtual 58, 3) := by decide +kernel
theorem d_I_printNames_36 : decode c_I_printNames 36 = .ok (.aload_n 0, 1) := by decide +kernel
theorem d_I_printNames_37 : decode c_I_printNames 37 = .ok (.getfield 15, 3) := by decide +kernel
theorem d_I_printNames_40 : decode c_I_printNames 40 = .ok (.iload_n 2, 1) := by decide +kernel
theorem d_I_printNames_41 : decode c_I_printNames 41 = .ok (.iload 4, 2) := by decide +kernel
theorem d_I_printNames_43 : decode c_I_printNames 43 = .ok (.iadd, 1) := by decide +kernel
theorem d_I_printNames_44 : decode c_I_printNames 44 = .ok (.aload_n 0, 1) := by decide +kernel
theorem d_I_printNames_45 : decode c_I_printNames 45 = .ok (.getfield 9, 3) := by decide +kernel
theorem d_I_printNames_48 : decode c_I_printNames 48 = .ok (.invokevirtual 62, 3) := by decide +kernel
theorem d_I_printNames_51 : decode c_I_printNames 51 = .ok (.iinc 4 1, 3) := by decide +kernel
theorem d_I_printNames_54 : decode c_I_printNames 54 = .ok (.goto (-38), 3) := by decide +kernel
theorem d_I_printNames_57 : decode c_I_printNames 57 = .ok (.aload_n 0, 1) := by decide +kernel
theorem d_I_printNames_58 : decode c_I_printNames 58 = .ok (.invokevirtual 66, 3) := by decide +kernel
theorem d_I_printNames_61 : decode c_I_printNames 61 = .ok (.return_, 1) := by decide +kernel
theorem d_B_addText_0 : decode c_B_addText 0 = .ok (.iconst 0, 1) := by decide +kernel
theorem d_B_addText_1 : decode c_B_addText 1 = .ok (.istore_n 2, 1) := by decide +kernel
theorem d_B_addText_2 : decode c_B_addText 2 = .ok (.iload_n 2, 1) := by decide +kernel
theorem d_B_addText_3 : decode c_B_addText 3 = .ok (.aload_n 1, 1) := by decide +kernel
theorem d_B_addText_4 : decode c_B_addText 4 = .ok (.invokevirtual 23, 3) := by decide +kernel
theorem d_B_addText_7 : decode c_B_addText 7 = .ok (.if_icmp .ge 18, 3) := by decide +kernel
theorem d_B_addText_10 : decode c_B_addText 10 = .ok (.aload_n 0, 1) := by decide +kernel
theorem d_B_addText_11 : decode c_B_addText 11 = .ok (.aload_n 1, 1) := by decide +kernel
theorem d_B_addText_12 : decode c_B_addText 12 = .ok (.iload_n 2, 1) := by decide +kernel
theorem d_B_addText_13 : decode c_B_addText 13 = .ok (.invokevirtual 28, 3) := by decide +kernel
theorem d_B_addText_16 : decode c_B_addText 16 = .ok (.invokevirtual 19, 3) := by decide +kernel
theorem d_B_addText_19 : decode c_B_addText 19 = .ok (.iinc 2 1, 3) := by decide +kernel
theorem d_B_addText_22 : decode c_B_addText 22 = .ok (.goto (-20), 3) := by decide +kernel
theorem d_B_addText_25 : decode c_B_addText 25 = .ok (.return_, 1) := by decide +kernel
theorem d_B_add_0 : decode c_B_add 0 = .ok (.aload_n 0, 1) := by decide +kernel
theorem d_B_add_1 : decode c_B_add 1 = .ok (.getfield 15, 3) := by decide +kernel
theorem d_B_add_4 : decode c_B_add 4 = .ok (.aload_n 0, 1) := by decide +kernel
theorem d_B_add_5 : decode c_B_add 5 = .ok (.getfield 9, 3) := by decide +kernel
theorem d_B_add_8 : decode c_B_add 8 = .ok (.arraylength, 1) := by decide +kernel
theorem d_B_add_9 : decode c_B_add 9 = .ok (.if_icmp .ge 24, 3) := by decide +kernel
theorem d_B_add_12 : decode c_B_add 12 = .ok (.aload_n 0, 1) := by decide +kernel
theorem d_B_add_13 : decode c_B_add 13 = .ok (.getfield 9, 3) := by decide +kernel
theorem d_B_add_16 : decode c_B_add 16 = .ok (.aload_n 0, 1) := by decide +kernel
theorem d_B_add_17 : decode c_B_add 17 = .ok (.getfield 15, 3) := by decide +kernel
theorem d_B_add_20 : decode c_B_add 20 = .ok (.iload_n 1, 1) := by decide +kernel
theorem d_B_add_21 : decode c_B_add 21 = .ok (.i2b, 1) := by decide +kernel
theorem d_B_add_22 : decode c_B_add 22 = .ok (.bastore, 1) := by decide +kernel
theorem d_B_add_23 : decode c_B_add 23 = .ok (.aload_n 0, 1) := by decide +kernel
theorem d_B_add_24 : decode c_B_add 24 = .ok (.dup, 1) := by decide +kernel
theorem d_B_add_25 : decode c_B_add 25 = .ok (.getfield 15, 3) := by decide +kernel
theorem d_B_add_28 : decode c_B_add 28 = .ok (.iconst 1, 1) := by decide +kernel
theorem d_B_add_29 : decode c_B_add 29 = .ok (.iadd, 1) := by decide +kernel
theorem d_B_add_30 : decode c_B_add 30 = .ok (.putfield 15, 3) := by decide +kernel
theorem d_B_add_33 : decode c_B_add 33 = .ok (.return_, 1) := by decide +kernel
theorem d_N_write_0 : decode c_N_write 0 = .ok (.iconst 0, 1) := by decide +kernel
theorem d_N_write_1 : decode c_N_write 1 = .ok (.istore_n 3, 1) := by decide +kernel
theorem d_N_write_2 : decode c_N_write 2 = .ok (.iload_n 3, 1) := by decide +kernel
theorem d_N_write_3 : decode c_N_write 3 = .ok (.aload_n 0, 1) := by decide +kernel
theorem d_N_write_4 : decode c_N_write 4 = .ok (.getfield 15, 3) := by decide +kernel
theorem d_N_write_7 : decode c_N_write 7 = .ok (.iload_n 1, 1) := by decide +kernel
theorem d_N_write_8 : decode c_N_write 8 = .ok (.iaload, 1) := by decide +kernel
theorem d_N_write_9 : decode c_N_write 9 = .ok (.if_icmp .ge 24, 3) := by decide +kernel
theorem d_N_write_12 : decode c_N_write 12 = .ok (.aload_n 2, 1) := by decide +kernel
theorem d_N_write_13 : decode c_N_write 13 = .ok (.aload_n 0, 1) := by decide +kernel
theorem d_N_write_14 : decode c_N_write 14 = .ok (.getfield 11, 3) := by decide +kernel
theorem d_N_write_17 : decode c_N_write 17 = .ok (.iload_n 1, 1) := by decide +kernel
theorem d_N_write_18 : decode c_N_write 18 = .ok (.bipush 12, 2) := by decide +kernel
theorem d_N_write_20 : decode c_N_write 20 = .ok (.imul, 1) := by decide +kernel
theorem d_N_write_21 : decode c_N_write 21 = .ok (.iload_n 3, 1) := by decide +kernel
theorem d_N_write_22 : decode c_N_write 22 = .ok (.iadd, 1) := by decide +kernel
theorem d_N_write_23 : decode c_N_write 23 = .ok (.baload, 1) := by decide +kernel
theorem d_N_write_24 : decode c_N_write 24 = .ok (.invokevirtual 54, 3) := by decide +kernel
theorem d_N_write_27 : decode c_N_write 27 = .ok (.iinc 3 1, 3) := by decide +kernel
theorem d_N_write_30 : decode c_N_write 30 = .ok (.goto (-28), 3) := by decide +kernel
theorem d_N_write_33 : decode c_N_write 33 = .ok (.return_, 1) := by decide +kernel
theorem d_I_endLine_0 : decode c_I_endLine 0 = .ok (.aload_n 0, 1) := by decide +kernel
theorem d_I_endLine_1 : decode c_I_endLine 1 = .ok (.getfield 9, 3) := by decide +kernel
theorem d_I_endLine_4 : decode c_I_endLine 4 = .ok (.bipush 59, 2) := by decide +kernel
theorem d_I_endLine_6 : decode c_I_endLine 6 = .ok (.invokevirtual 76, 3) := by decide +kernel
theorem d_I_endLine_9 : decode c_I_endLine 9 = .ok (.aload_n 0, 1) := by decide +kernel
theorem d_I_endLine_10 : decode c_I_endLine 10 = .ok (.getfield 9, 3) := by decide +kernel
theorem d_I_endLine_13 : decode c_I_endLine 13 = .ok (.bipush 10, 2) := by decide +kernel
theorem d_I_endLine_15 : decode c_I_endLine 15 = .ok (.invokevirtual 76, 3) := by decide +kernel
theorem d_I_endLine_18 : decode c_I_endLine 18 = .ok (.return_, 1) := by decide +kernel
theorem d_N_asks_0 : decode c_N_asks 0 = .ok (.aload_n 0, 1) := by decide +kernel
theorem d_N_asks_1 : decode c_N_asks 1 = .ok (.getfield 19, 3) := by decide +kernel
theorem d_N_asks_4 : decode c_N_asks 4 = .ok (.iconst 1, 1) := by decide +kernel
theorem d_N_asks_5 : decode c_N_asks 5 = .ok (.iaload, 1) := by decide +kernel
theorem d_N_asks_6 : decode c_N_asks 6 = .ok (.ireturn, 1) := by decide +kernel
theorem d_N_messages_0 : decode c_N_messages 0 = .ok (.aload_n 0, 1) := by decide +kernel
theorem d_N_messages_1 : decode c_N_messages 1 = .ok (.getfield 19, 3) := by decide +kernel
theorem d_N_messages_4 : decode c_N_messages 4 = .ok (.iconst 2, 1) := by decide +kernel
theorem d_N_messages_5 : decode c_N_messages 5 = .ok (.iaload, 1) := by decide +kernel
theorem d_N_messages_6 : decode c_N_messages 6 = .ok (.ireturn, 1) := by decide +kernel
theorem d_N_events_0 : decode c_N_events 0 = .ok (.aload_n 0, 1) := by decide +kernel
theorem d_N_events_1 : decode c_N_events 1 = .ok (.getfield 19, 3) := by decide +kernel
theorem d_N_events_4 : decode c_N_events 4 = .ok (.iconst 1, 1) := by decide +kernel
theorem d_N_events_5 : decode c_N_events 5 = .ok (.iaload, 1) := by decide +kernel
theorem d_N_events_6 : decode c_N_events 6 = .ok (.aload_n 0, 1) := by decide +kernel
theorem d_N_events_7 : decode c_N_events 7 = .ok (.getfield 19, 3) := by decide +kernel
theorem d_N_events_10 : decode c_N_events 10 = .ok (.iconst 2, 1) := by decide +kernel
theorem d_N_events_11 : decode c_N_events 11 = .ok (.iaload, 1) := by decide +kernel
theorem d_N_events_12 : decode c_N_events 12 = .ok (.iadd, 1) := by decide +kernel
theorem d_N_events_13 : decode c_N_events 13 = .ok (.ireturn, 1) := by decide +kernel
theorem d_I_printPair_0 : decode c_I_printPair 0 = .ok (.aload_n 0, 1) := by decide +kernel
theorem d_I_printPair_1 : decode c_I_printPair 1 = .ok (.getfield 19, 3) := by decide +kernel
theorem d_I_printPair_4 : decode c_I_printPair 4 = .ok (.iload_n 1, 1) := by decide +kernel
theorem d_I_printPair_5 : decode c_I_printPair 5 = .ok (.iload_n 2, 1) := by decide +kernel
theorem d_I_printPair_6 : decode c_I_printPair 6 = .ok (.invokevirtual 82, 3) := by decide +kernel
theorem d_I_printPair_9 : decode c_I_printPair 9 = .ok (.istore_n 3, 1) := by decide +kernel
theorem d_I_printPair_10 : decode c_I_printPair 10 = .ok (.aload_n 0, 1) := by decide +kernel
theorem d_I_printPair_11 : decode c_I_printPair 11 = .ok (.getfield 19, 3) := by decide +kernel
theorem d_I_printPair_14 : decode c_I_printPair 14 = .ok (.iload_n 1, 1) := by decide +kernel
theorem d_I_printPair_15 : decode c_I_printPair 15 = .ok (.iload_n 2, 1) := by decide +kernel
theorem d_I_printPair_16 : decode c_I_printPair 16 = .ok (.invokevirtual 86, 3) := by decide +kernel
theorem d_I_printPair_19 : decode c_I_printPair 19 = .ok (.istore 4, 2) := by decide +kernel
theorem d_I_printPair_21 : decode c_I_printPair 21 = .ok (.iload_n 3, 1) := by decide +kernel
theorem d_I_printPair_22 : decode c_I_printPair 22 = .ok (.iconst (-1), 1) := by decide +kernel
theorem d_I_printPair_23 : decode c_I_printPair 23 = .ok (.if_icmp .eq 9, 3) := by decide +kernel
theorem d_I_printPair_26 : decode c_I_printPair 26 = .ok (.iload 4, 2) := by decide +kernel
theorem d_I_printPair_28 : decode c_I_printPair 28 = .ok (.iconst (-1), 1) := by decide +kernel
theorem d_I_printPair_29 : decode c_I_printPair 29 = .ok (.if_icmp .ne 4, 3) := by decide +kernel
theorem d_I_printPair_32 : decode c_I_printPair 32 = .ok (.return_, 1) := by decide +kernel
theorem d_I_printPair_33 : decode c_I_printPair 33 = .ok (.aload_n 0, 1) := by decide +kernel
theorem d_I_printPair_34 : decode c_I_printPair 34 = .ok (.getfield 9, 3) := by decide +kernel
theorem d_I_printPair_37 : decode c_I_printPair 37 = .ok (.iload 4, 2) := by decide +kernel
theorem d_I_printPair_39 : decode c_I_printPair 39 = .ok (.bipush (-2), 2) := by decide +kernel
theorem d_I_printPair_41 : decode c_I_printPair 41 = .ok (.if_icmp .ne 8, 3) := by decide +kernel
theorem d_I_printPair_44 : decode c_I_printPair 44 = .ok (.ldc 89, 2) := by decide +kernel
theorem d_I_printPair_46 : decode c_I_printPair 46 = .ok (.goto 5, 3) := by decide +kernel
theorem d_I_printPair_49 : decode c_I_printPair 49 = .ok (.ldc 91, 2) := by decide +kernel
theorem d_I_printPair_51 : decode c_I_printPair 51 = .ok (.invokevirtual 58, 3) := by decide +kernel
theorem d_I_printPair_54 : decode c_I_printPair 54 = .ok (.aload_n 0, 1) := by decide +kernel
theorem d_I_printPair_55 : decode c_I_printPair 55 = .ok (.getfield 15, 3) := by decide +kernel
theorem d_I_printPair_58 : decode c_I_printPair 58 = .ok (.iload_n 1, 1) := by decide +kernel
theorem d_I_printPair_59 : decode c_I_printPair 59 = .ok (.aload_n 0, 1) := by decide +kernel
theorem d_I_printPair_60 : decode c_I_printPair 60 = .ok (.getfield 9, 3) := by decide +kernel
theorem d_I_printPair_63 : decode c_I_printPair 63 = .ok (.invokevirtual 62, 3) := by decide +kernel
theorem d_I_printPair_66 : decode c_I_printPair 66 = .ok (.aload_n 0, 1) := by decide +kernel
theorem d_I_printPair_67 : decode c_I_printPair 67 = .ok (.getfield 9, 3) := by decide +kernel
theorem d_I_printPair_70 : decode c_I_printPair 70 = .ok (.bipush 32, 2) := by decide +kernel
theorem d_I_printPair_72 : decode c_I_printPair 72 = .ok (.invokevirtual 76, 3) := by decide +kernel
theorem d_I_printPair_75 : decode c_I_printPair 75 = .ok (.aload_n 0, 1) := by decide +kernel
theorem d_I_printPair_76 : decode c_I_printPair 76 = .ok (.getfield 15, 3) := by decide +kernel
theorem d_I_printPair_79 : decode c_I_printPair 79 = .ok (.aload_n 0, 1) := by decide +kernel
theorem d_I_printPair_80 : decode c_I_printPair 80 = .ok (.getfield 15, 3) := by decide +kernel
theorem d_I_printPair_83 : decode c_I_printPair 83 = .ok (.iload_n 2, 1) := by decide +kernel
theorem d_I_printPair_84 : decode c_I_printPair 84 = .ok (.invokevirtual 93, 3) := by decide +kernel
theorem d_I_printPair_87 : decode c_I_printPair 87 = .ok (.aload_n 0, 1) := by decide +kernel
theorem d_I_printPair_88 : decode c_I_printPair 88 = .ok (.getfield 9, 3) := by decide +kernel
theorem d_I_printPair_91 : decode c_I_printPair 91 = .ok (.invokevirtual 62, 3) := by decide +kernel
theorem d_I_printPair_94 : decode c_I_printPair 94 = .ok (.iload 4, 2) := by decide +kernel
theorem d_I_printPair_96 : decode c_I_printPair 96 = .ok (.bipush (-2), 2) := by decide +kernel
theorem d_I_printPair_98 : decode c_I_printPair 98 = .ok (.if_icmp .eq 39, 3) := by decide +kernel
theorem d_I_printPair_101 : decode c_I_printPair 101 = .ok (.aload_n 0, 1) := by decide +kernel
theorem d_I_printPair_102 : decode c_I_printPair 102 = .ok (.getfield 9, 3) := by decide +kernel
theorem d_I_printPair_105 : decode c_I_printPair 105 = .ok (.bipush 58, 2) := by decide +kernel
theorem d_I_printPair_107 : decode c_I_printPair 107 = .ok (.invokevirtual 76, 3) := by decide +kernel
theorem d_I_printPair_110 : decode c_I_printPair 110 = .ok (.aload_n 0, 1) := by decide +kernel
theorem d_I_printPair_111 : decode c_I_printPair 111 = .ok (.iload_n 3, 1) := by decide +kernel
theorem d_I_printPair_112 : decode c_I_printPair 112 = .ok (.invokevirtual 97, 3) := by decide +kernel
theorem d_I_printPair_115 : decode c_I_printPair 115 = .ok (.aload_n 0, 1) := by decide +kernel
theorem d_I_printPair_116 : decode c_I_printPair 116 = .ok (.getfield 9, 3) := by decide +kernel
theorem d_I_printPair_119 : decode c_I_printPair 119 = .ok (.ldc 100, 2) := by decide +kernel
theorem d_I_printPair_121 : decode c_I_printPair 121 = .ok (.invokevirtual 58, 3) := by decide +kernel
theorem d_I_printPair_124 : decode c_I_printPair 124 = .ok (.aload_n 0, 1) := by decide +kernel
theorem d_I_printPair_125 : decode c_I_printPair 125 = .ok (.getfield 15, 3) := by decide +kernel
theorem d_I_printPair_128 : decode c_I_printPair 128 = .ok (.iload 4, 2) := by decide +kernel
theorem d_I_printPair_130 : decode c_I_printPair 130 = .ok (.aload_n 0, 1) := by decide +kernel
theorem d_I_printPair_131 : decode c_I_printPair 131 = .ok (.getfield 9, 3) := by decide +kernel
theorem d_I_printPair_134 : decode c_I_printPair 134 = .ok (.invokevirtual 62, 3) := by decide +kernel
theorem d_I_printPair_137 : decode c_I_printPair 137 = .ok (.aload_n 0, 1) := by decide +kernel
theorem d_I_printPair_138 : decode c_I_printPair 138 = .ok (.invokevirtual 66, 3) := by decide +kernel
theorem d_I_printPair_141 : decode c_I_printPair 141 = .ok (.return_, 1) := by decide +kernel
theorem d_T_pairOf_0 : decode c_T_pairOf 0 = .ok (.iload_n 1, 1) := by decide +kernel
theorem d_T_pairOf_1 : decode c_T_pairOf 1 = .ok (.ifCond .lt 29, 3) := by decide +kernel
theorem d_T_pairOf_4 : decode c_T_pairOf 4 = .ok (.iload_n 1, 1) := by decide +kernel
theorem d_T_pairOf_5 : decode c_T_pairOf 5 = .ok (.aload_n 0, 1) := by decide +kernel
theorem d_T_pairOf_6 : decode c_T_pairOf 6 = .ok (.getfield 23, 3) := by decide +kernel
theorem d_T_pairOf_9 : decode c_T_pairOf 9 = .ok (.invokevirtual 46, 3) := by decide +kernel
theorem d_T_pairOf_12 : decode c_T_pairOf 12 = .ok (.if_icmp .ge 18, 3) := by decide +kernel
theorem d_T_pairOf_15 : decode c_T_pairOf 15 = .ok (.iload_n 2, 1) := by decide +kernel
theorem d_T_pairOf_16 : decode c_T_pairOf 16 = .ok (.ifCond .lt 14, 3) := by decide +kernel
theorem d_T_pairOf_19 : decode c_T_pairOf 19 = .ok (.iload_n 2, 1) := by decide +kernel
theorem d_T_pairOf_20 : decode c_T_pairOf 20 = .ok (.aload_n 0, 1) := by decide +kernel
theorem d_T_pairOf_21 : decode c_T_pairOf 21 = .ok (.getfield 23, 3) := by decide +kernel
theorem d_T_pairOf_24 : decode c_T_pairOf 24 = .ok (.invokevirtual 50, 3) := by decide +kernel
theorem d_T_pairOf_27 : decode c_T_pairOf 27 = .ok (.if_icmp .lt 5, 3) := by decide +kernel
theorem d_T_pairOf_30 : decode c_T_pairOf 30 = .ok (.iconst (-1), 1) := by decide +kernel
theorem d_T_pairOf_31 : decode c_T_pairOf 31 = .ok (.ireturn, 1) := by decide +kernel
theorem d_T_pairOf_32 : decode c_T_pairOf 32 = .ok (.iload_n 1, 1) := by decide +kernel
theorem d_T_pairOf_33 : decode c_T_pairOf 33 = .ok (.aload_n 0, 1) := by decide +kernel
theorem d_T_pairOf_34 : decode c_T_pairOf 34 = .ok (.getfield 23, 3) := by decide +kernel
theorem d_T_pairOf_37 : decode c_T_pairOf 37 = .ok (.iload_n 2, 1) := by decide +kernel
theorem d_T_pairOf_38 : decode c_T_pairOf 38 = .ok (.invokevirtual 53, 3) := by decide +kernel
theorem d_T_pairOf_41 : decode c_T_pairOf 41 = .ok (.invokestatic 57, 3) := by decide +kernel
theorem d_T_pairOf_44 : decode c_T_pairOf 44 = .ok (.ireturn, 1) := by decide +kernel
theorem d_N_slotOfEvent_0 : decode c_N_slotOfEvent 0 = .ok (.iload_n 1, 1) := by decide +kernel
theorem d_N_slotOfEvent_1 : decode c_N_slotOfEvent 1 = .ok (.aload_n 0, 1) := by decide +kernel
theorem d_N_slotOfEvent_2 : decode c_N_slotOfEvent 2 = .ok (.getfield 19, 3) := by decide +kernel
theorem d_N_slotOfEvent_5 : decode c_N_slotOfEvent 5 = .ok (.iconst 1, 1) := by decide +kernel
theorem d_N_slotOfEvent_6 : decode c_N_slotOfEvent 6 = .ok (.iaload, 1) := by decide +kernel
theorem d_N_slotOfEvent_7 : decode c_N_slotOfEvent 7 = .ok (.if_icmp .ge 10, 3) := by decide +kernel
theorem d_N_slotOfEvent_10 : decode c_N_slotOfEvent 10 = .ok (.bipush 16, 2) := by decide +kernel
theorem d_N_slotOfEvent_12 : decode c_N_slotOfEvent 12 = .ok (.iload_n 1, 1) := by decide +kernel
theorem d_N_slotOfEvent_13 : decode c_N_slotOfEvent 13 = .ok (.iadd, 1) := by decide +kernel
theorem d_N_slotOfEvent_14 : decode c_N_slotOfEvent 14 = .ok (.goto 14, 3) := by decide +kernel
theorem d_N_slotOfEvent_17 : decode c_N_slotOfEvent 17 = .ok (.bipush 24, 2) := by decide +kernel
theorem d_N_slotOfEvent_19 : decode c_N_slotOfEvent 19 = .ok (.iload_n 1, 1) := by decide +kernel
theorem d_N_slotOfEvent_20 : decode c_N_slotOfEvent 20 = .ok (.iadd, 1) := by decide +kernel
theorem d_N_slotOfEvent_21 : decode c_N_slotOfEvent 21 = .ok (.aload_n 0, 1) := by decide +kernel
theorem d_N_slotOfEvent_22 : decode c_N_slotOfEvent 22 = .ok (.getfield 19, 3) := by decide +kernel
theorem d_N_slotOfEvent_25 : decode c_N_slotOfEvent 25 = .ok (.iconst 1, 1) := by decide +kernel
theorem d_N_slotOfEvent_26 : decode c_N_slotOfEvent 26 = .ok (.iaload, 1) := by decide +kernel
theorem d_N_slotOfEvent_27 : decode c_N_slotOfEvent 27 = .ok (.isub, 1) := by decide +kernel
theorem d_N_slotOfEvent_28 : decode c_N_slotOfEvent 28 = .ok (.ireturn, 1) := by decide +kernel
theorem d_T_pairOfSlots_0 : decode c_T_pairOfSlots 0 = .ok (.iload_n 0, 1) := by decide +kernel
theorem d_T_pairOfSlots_1 : decode c_T_pairOfSlots 1 = .ok (.bipush 24, 2) := by decide +kernel
theorem d_T_pairOfSlots_3 : decode c_T_pairOfSlots 3 = .ok (.imul, 1) := by decide +kernel
theorem d_T_pairOfSlots_4 : decode c_T_pairOfSlots 4 = .ok (.iload_n 1, 1) := by decide +kernel
theorem d_T_pairOfSlots_5 : decode c_T_pairOfSlots 5 = .ok (.iadd, 1) := by decide +kernel
theorem d_T_pairOfSlots_6 : decode c_T_pairOfSlots 6 = .ok (.bipush 16, 2) := by decide +kernel
theorem d_T_pairOfSlots_8 : decode c_T_pairOfSlots 8 = .ok (.isub, 1) := by decide +kernel
theorem d_T_pairOfSlots_9 : decode c_T_pairOfSlots 9 = .ok (.ireturn, 1) := by decide +kernel
theorem d_T_goalOf_0 : decode c_T_goalOf 0 = .ok (.aload_n 0, 1) := by decide +kernel
theorem d_T_goalOf_1 : decode c_T_goalOf 1 = .ok (.iload_n 1, 1) := by decide +kernel
theorem d_T_goalOf_2 : decode c_T_goalOf 2 = .ok (.iload_n 2, 1) := by decide +kernel
theorem d_T_goalOf_3 : decode c_T_goalOf 3 = .ok (.invokevirtual 61, 3) := by decide +kernel
theorem d_T_goalOf_6 : decode c_T_goalOf 6 = .ok (.istore_n 3, 1) := by decide +kernel
theorem d_T_goalOf_7 : decode c_T_goalOf 7 = .ok (.iload_n 3, 1) := by decide +kernel
theorem d_T_goalOf_8 : decode c_T_goalOf 8 = .ok (.iconst (-1), 1) := by decide +kernel
theorem d_T_goalOf_9 : decode c_T_goalOf 9 = .ok (.if_icmp .ne 7, 3) := by decide +kernel
theorem d_T_goalOf_12 : decode c_T_goalOf 12 = .ok (.iconst (-1), 1) := by decide +kernel
theorem d_T_goalOf_13 : decode c_T_goalOf 13 = .ok (.goto 9, 3) := by decide +kernel
theorem d_T_goalOf_16 : decode c_T_goalOf 16 = .ok (.aload_n 0, 1) := by decide +kernel
theorem d_T_goalOf_17 : decode c_T_goalOf 17 = .ok (.getfield 13, 3) := by decide +kernel
theorem d_T_goalOf_20 : decode c_T_goalOf 20 = .ok (.iload_n 3, 1) := by decide +kernel
theorem d_T_goalOf_21 : decode c_T_goalOf 21 = .ok (.iaload, 1) := by decide +kernel
theorem d_T_goalOf_22 : decode c_T_goalOf 22 = .ok (.ireturn, 1) := by decide +kernel
theorem d_I_printActions_0 : decode c_I_printActions 0 = .ok (.iconst 0, 1) := by decide +kernel
theorem d_I_printActions_1 : decode c_I_printActions 1 = .ok (.istore_n 2, 1) := by decide +kernel
theorem d_I_printActions_2 : decode c_I_printActions 2 = .ok (.iload_n 2, 1) := by decide +kernel
theorem d_I_printActions_3 : decode c_I_printActions 3 = .ok (.iconst 4, 1) := by decide +kernel
theorem d_I_printActions_4 : decode c_I_printActions 4 = .ok (.if_icmp .ge 53, 3) := by decide +kernel
theorem d_I_printActions_7 : decode c_I_printActions 7 = .ok (.aload_n 0, 1) := by decide +kernel
theorem d_I_printActions_8 : decode c_I_printActions 8 = .ok (.getfield 19, 3) := by decide +kernel
theorem d_I_printActions_11 : decode c_I_printActions 11 = .ok (.iload_n 1, 1) := by decide +kernel
theorem d_I_printActions_12 : decode c_I_printActions 12 = .ok (.iload_n 2, 1) := by decide +kernel
theorem d_I_printActions_13 : decode c_I_printActions 13 = .ok (.invokevirtual 102, 3) := by decide +kernel
theorem d_I_printActions_16 : decode c_I_printActions 16 = .ok (.iconst (-1), 1) := by decide +kernel
theorem d_I_printActions_17 : decode c_I_printActions 17 = .ok (.if_icmp .eq 40, 3) := by decide +kernel
theorem d_I_printActions_20 : decode c_I_printActions 20 = .ok (.aload_n 0, 1) := by decide +kernel
theorem d_I_printActions_21 : decode c_I_printActions 21 = .ok (.getfield 9, 3) := by decide +kernel
theorem d_I_printActions_24 : decode c_I_printActions 24 = .ok (.iload_n 2, 1) := by decide +kernel
theorem d_I_printActions_25 : decode c_I_printActions 25 = .ok (.ifCond .le 8, 3) := by decide +kernel
theorem d_I_printActions_28 : decode c_I_printActions 28 = .ok (.ldc 80, 2) := by decide +kernel
theorem d_I_printActions_30 : decode c_I_printActions 30 = .ok (.goto 5, 3) := by decide +kernel
theorem d_I_printActions_33 : decode c_I_printActions 33 = .ok (.ldc 105, 2) := by decide +kernel
theorem d_I_printActions_35 : decode c_I_printActions 35 = .ok (.invokevirtual 58, 3) := by decide +kernel
theorem d_I_printActions_38 : decode c_I_printActions 38 = .ok (.aload_n 0, 1) := by decide +kernel
theorem d_I_printActions_39 : decode c_I_printActions 39 = .ok (.aload_n 0, 1) := by decide +kernel
theorem d_I_printActions_40 : decode c_I_printActions 40 = .ok (.getfield 19, 3) := by decide +kernel
theorem d_I_printActions_43 : decode c_I_printActions 43 = .ok (.iload_n 1, 1) := by decide +kernel
theorem d_I_printActions_44 : decode c_I_printActions 44 = .ok (.iload_n 2, 1) := by decide +kernel
theorem d_I_printActions_45 : decode c_I_printActions 45 = .ok (.invokevirtual 102, 3) := by decide +kernel
theorem d_I_printActions_48 : decode c_I_printActions 48 = .ok (.invokevirtual 107, 3) := by decide +kernel
theorem d_I_printActions_51 : decode c_I_printActions 51 = .ok (.iinc 2 1, 3) := by decide +kernel
theorem d_I_printActions_54 : decode c_I_printActions 54 = .ok (.goto (-52), 3) := by decide +kernel
theorem d_I_printActions_57 : decode c_I_printActions 57 = .ok (.return_, 1) := by decide +kernel
theorem d_T_actionOf_0 : decode c_T_actionOf 0 = .ok (.iload_n 2, 1) := by decide +kernel
theorem d_T_actionOf_1 : decode c_T_actionOf 1 = .ok (.iconst 4, 1) := by decide +kernel
theorem d_T_actionOf_2 : decode c_T_actionOf 2 = .ok (.if_icmp .ge 16, 3) := by decide +kernel
theorem d_T_actionOf_5 : decode c_T_actionOf 5 = .ok (.aload_n 0, 1) := by decide +kernel
theorem d_T_actionOf_6 : decode c_T_actionOf 6 = .ok (.getfield 20, 3) := by decide +kernel
theorem d_T_actionOf_9 : decode c_T_actionOf 9 = .ok (.iload_n 1, 1) := by decide +kernel
theorem d_T_actionOf_10 : decode c_T_actionOf 10 = .ok (.iconst 4, 1) := by decide +kernel
theorem d_T_actionOf_11 : decode c_T_actionOf 11 = .ok (.imul, 1) := by decide +kernel
theorem d_T_actionOf_12 : decode c_T_actionOf 12 = .ok (.iload_n 2, 1) := by decide +kernel
theorem d_T_actionOf_13 : decode c_T_actionOf 13 = .ok (.iadd, 1) := by decide +kernel
theorem d_T_actionOf_14 : decode c_T_actionOf 14 = .ok (.iaload, 1) := by decide +kernel
theorem d_T_actionOf_15 : decode c_T_actionOf 15 = .ok (.goto 4, 3) := by decide +kernel
theorem d_T_actionOf_18 : decode c_T_actionOf 18 = .ok (.iconst (-1), 1) := by decide +kernel
theorem d_T_actionOf_19 : decode c_T_actionOf 19 = .ok (.ireturn, 1) := by decide +kernel
theorem d_I_printAction_0 : decode c_I_printAction 0 = .ok (.iload_n 1, 1) := by decide +kernel
theorem d_I_printAction_1 : decode c_I_printAction 1 = .ok (.bipush 100, 2) := by decide +kernel
theorem d_I_printAction_3 : decode c_I_printAction 3 = .ok (.if_icmp .ne 15, 3) := by decide +kernel
theorem d_I_printAction_6 : decode c_I_printAction 6 = .ok (.aload_n 0, 1) := by decide +kernel
theorem d_I_printAction_7 : decode c_I_printAction 7 = .ok (.getfield 9, 3) := by decide +kernel
theorem d_I_printAction_10 : decode c_I_printAction 10 = .ok (.ldc 110, 2) := by decide +kernel
theorem d_I_printAction_12 : decode c_I_printAction 12 = .ok (.invokevirtual 58, 3) := by decide +kernel
theorem d_I_printAction_15 : decode c_I_printAction 15 = .ok (.goto 45, 3) := by decide +kernel
theorem d_I_printAction_18 : decode c_I_printAction 18 = .ok (.iload_n 1, 1) := by decide +kernel
theorem d_I_printAction_19 : decode c_I_printAction 19 = .ok (.bipush 101, 2) := by decide +kernel
theorem d_I_printAction_21 : decode c_I_printAction 21 = .ok (.if_icmp .ne 15, 3) := by decide +kernel
theorem d_I_printAction_24 : decode c_I_printAction 24 = .ok (.aload_n 0, 1) := by decide +kernel
theorem d_I_printAction_25 : decode c_I_printAction 25 = .ok (.getfield 9, 3) := by decide +kernel
theorem d_I_printAction_28 : decode c_I_printAction 28 = .ok (.ldc 112, 2) := by decide +kernel
theorem d_I_printAction_30 : decode c_I_printAction 30 = .ok (.invokevirtual 58, 3) := by decide +kernel
theorem d_I_printAction_33 : decode c_I_printAction 33 = .ok (.goto 27, 3) := by decide +kernel
theorem d_I_printAction_36 : decode c_I_printAction 36 = .ok (.aload_n 0, 1) := by decide +kernel
theorem d_I_printAction_37 : decode c_I_printAction 37 = .ok (.getfield 9, 3) := by decide +kernel
theorem d_I_printAction_40 : decode c_I_printAction 40 = .ok (.ldc 114, 2) := by decide +kernel
theorem d_I_printAction_42 : decode c_I_printAction 42 = .ok (.invokevirtual 58, 3) := by decide +kernel
theorem d_I_printAction_45 : decode c_I_printAction 45 = .ok (.aload_n 0, 1) := by decide +kernel
theorem d_I_printAction_46 : decode c_I_printAction 46 = .ok (.getfield 15, 3) := by decide +kernel
theorem d_I_printAction_49 : decode c_I_printAction 49 = .ok (.bipush 24, 2) := by decide +kernel
theorem d_I_printAction_51 : decode c_I_printAction 51 = .ok (.iload_n 1, 1) := by decide +kernel
theorem d_I_printAction_52 : decode c_I_printAction 52 = .ok (.iadd, 1) := by decide +kernel
theorem d_I_printAction_53 : decode c_I_printAction 53 = .ok (.aload_n 0, 1) := by decide +kernel
theorem d_I_printAction_54 : decode c_I_printAction 54 = .ok (.getfield 9, 3) := by decide +kernel
theorem d_I_printAction_57 : decode c_I_printAction 57 = .ok (.invokevirtual 62, 3) := by decide +kernel
theorem d_I_printAction_60 : decode c_I_printAction 60 = .ok (.return_, 1) := by decide +kernel
theorem d_D_drawAll_0 : decode c_D_drawAll 0 = .ok (.aload_n 0, 1) := by decide +kernel
theorem d_D_drawAll_1 : decode c_D_drawAll 1 = .ok (.getfield 17, 3) := by decide +kernel
theorem d_D_drawAll_4 : decode c_D_drawAll 4 = .ok (.iconst 0, 1) := by decide +kernel
theorem d_D_drawAll_5 : decode c_D_drawAll 5 = .ok (.putfield 29, 3) := by decide +kernel
theorem d_D_drawAll_8 : decode c_D_drawAll 8 = .ok (.aload_n 0, 1) := by decide +kernel
theorem d_D_drawAll_9 : decode c_D_drawAll 9 = .ok (.invokevirtual 35, 3) := by decide +kernel
theorem d_D_drawAll_12 : decode c_D_drawAll 12 = .ok (.aload_n 0, 1) := by decide +kernel
theorem d_D_drawAll_13 : decode c_D_drawAll 13 = .ok (.invokevirtual 38, 3) := by decide +kernel
theorem d_D_drawAll_16 : decode c_D_drawAll 16 = .ok (.iconst 0, 1) := by decide +kernel
theorem d_D_drawAll_17 : decode c_D_drawAll 17 = .ok (.istore_n 1, 1) := by decide +kernel
theorem d_D_drawAll_18 : decode c_D_drawAll 18 = .ok (.iload_n 1, 1) := by decide +kernel
theorem d_D_drawAll_19 : decode c_D_drawAll 19 = .ok (.aload_n 0, 1) := by decide +kernel
theorem d_D_drawAll_20 : decode c_D_drawAll 20 = .ok (.getfield 21, 3) := by decide +kernel
theorem d_D_drawAll_23 : decode c_D_drawAll 23 = .ok (.invokevirtual 41, 3) := by decide +kernel
theorem d_D_drawAll_26 : decode c_D_drawAll 26 = .ok (.if_icmp .ge 14, 3) := by decide +kernel
theorem d_D_drawAll_29 : decode c_D_drawAll 29 = .ok (.aload_n 0, 1) := by decide +kernel
theorem d_D_drawAll_30 : decode c_D_drawAll 30 = .ok (.iload_n 1, 1) := by decide +kernel
theorem d_D_drawAll_31 : decode c_D_drawAll 31 = .ok (.invokevirtual 45, 3) := by decide +kernel
theorem d_D_drawAll_34 : decode c_D_drawAll 34 = .ok (.iinc 1 1, 3) := by decide +kernel
theorem d_D_drawAll_37 : decode c_D_drawAll 37 = .ok (.goto (-19), 3) := by decide +kernel
theorem d_D_drawAll_40 : decode c_D_drawAll 40 = .ok (.return_, 1) := by decide +kernel
theorem d_D_measure_0 : decode c_D_measure 0 = .ok (.aload_n 0, 1) := by decide +kernel
theorem d_D_measure_1 : decode c_D_measure 1 = .ok (.iconst 0, 1) := by decide +kernel
theorem d_D_measure_2 : decode c_D_measure 2 = .ok (.putfield 49, 3) := by decide +kernel
theorem d_D_measure_5 : decode c_D_measure 5 = .ok (.iconst 0, 1) := by decide +kernel
theorem d_D_measure_6 : decode c_D_measure 6 = .ok (.istore_n 1, 1) := by decide +kernel
theorem d_D_measure_7 : decode c_D_measure 7 = .ok (.iload_n 1, 1) := by decide +kernel
theorem d_D_measure_8 : decode c_D_measure 8 = .ok (.aload_n 0, 1) := by decide +kernel
theorem d_D_measure_9 : decode c_D_measure 9 = .ok (.getfield 21, 3) := by decide +kernel
theorem d_D_measure_12 : decode c_D_measure 12 = .ok (.invokevirtual 41, 3) := by decide +kernel
theorem d_D_measure_15 : decode c_D_measure 15 = .ok (.if_icmp .ge 28, 3) := by decide +kernel
theorem d_D_measure_18 : decode c_D_measure 18 = .ok (.aload_n 0, 1) := by decide +kernel
theorem d_D_measure_19 : decode c_D_measure 19 = .ok (.aload_n 0, 1) := by decide +kernel
theorem d_D_measure_20 : decode c_D_measure 20 = .ok (.getfield 49, 3) := by decide +kernel
theorem d_D_measure_23 : decode c_D_measure 23 = .ok (.aload_n 0, 1) := by decide +kernel
theorem d_D_measure_24 : decode c_D_measure 24 = .ok (.getfield 21, 3) := by decide +kernel
theorem d_D_measure_27 : decode c_D_measure 27 = .ok (.iload_n 1, 1) := by decide +kernel
theorem d_D_measure_28 : decode c_D_measure 28 = .ok (.invokevirtual 52, 3) := by decide +kernel
theorem d_D_measure_31 : decode c_D_measure 31 = .ok (.invokestatic 56, 3) := by decide +kernel
theorem d_D_measure_34 : decode c_D_measure 34 = .ok (.putfield 49, 3) := by decide +kernel
theorem d_D_measure_37 : decode c_D_measure 37 = .ok (.iinc 1 1, 3) := by decide +kernel
theorem d_D_measure_40 : decode c_D_measure 40 = .ok (.goto (-33), 3) := by decide +kernel
theorem d_D_measure_43 : decode c_D_measure 43 = .ok (.iconst 0, 1) := by decide +kernel
theorem d_D_measure_44 : decode c_D_measure 44 = .ok (.istore_n 1, 1) := by decide +kernel
theorem d_D_measure_45 : decode c_D_measure 45 = .ok (.iload_n 1, 1) := by decide +kernel
theorem d_D_measure_46 : decode c_D_measure 46 = .ok (.aload_n 0, 1) := by decide +kernel
theorem d_D_measure_47 : decode c_D_measure 47 = .ok (.getfield 21, 3) := by decide +kernel
theorem d_D_measure_50 : decode c_D_measure 50 = .ok (.invokevirtual 62, 3) := by decide +kernel
theorem d_D_measure_53 : decode c_D_measure 53 = .ok (.if_icmp .ge 20, 3) := by decide +kernel
theorem d_D_measure_56 : decode c_D_measure 56 = .ok (.aload_n 0, 1) := by decide +kernel
theorem d_D_measure_57 : decode c_D_measure 57 = .ok (.getfield 11, 3) := by decide +kernel
theorem d_D_measure_60 : decode c_D_measure 60 = .ok (.iload_n 1, 1) := by decide +kernel
theorem d_D_measure_61 : decode c_D_measure 61 = .ok (.aload_n 0, 1) := by decide +kernel
theorem d_D_measure_62 : decode c_D_measure 62 = .ok (.iload_n 1, 1) := by decide +kernel
theorem d_D_measure_63 : decode c_D_measure 63 = .ok (.invokevirtual 65, 3) := by decide +kernel
theorem d_D_measure_66 : decode c_D_measure 66 = .ok (.iastore, 1) := by decide +kernel
theorem d_D_measure_67 : decode c_D_measure 67 = .ok (.iinc 1 1, 3) := by decide +kernel
theorem d_D_measure_70 : decode c_D_measure 70 = .ok (.goto (-25), 3) := by decide +kernel
theorem d_D_measure_73 : decode c_D_measure 73 = .ok (.return_, 1) := by decide +kernel
theorem d_N_lengthOf_0 : decode c_N_lengthOf 0 = .ok (.aload_n 0, 1) := by decide +kernel
theorem d_N_lengthOf_1 : decode c_N_lengthOf 1 = .ok (.getfield 15, 3) := by decide +kernel
theorem d_N_lengthOf_4 : decode c_N_lengthOf 4 = .ok (.iload_n 1, 1) := by decide +kernel
theorem d_N_lengthOf_5 : decode c_N_lengthOf 5 = .ok (.iaload, 1) := by decide +kernel
theorem d_N_lengthOf_6 : decode c_N_lengthOf 6 = .ok (.ireturn, 1) := by decide +kernel
theorem d_D_widthOf_0 : decode c_D_widthOf 0 = .ok (.iconst 1, 1) := by decide +kernel
theorem d_D_widthOf_1 : decode c_D_widthOf 1 = .ok (.aload_n 0, 1) := by decide +kernel
theorem d_D_widthOf_2 : decode c_D_widthOf 2 = .ok (.getfield 21, 3) := by decide +kernel
theorem d_D_widthOf_5 : decode c_D_widthOf 5 = .ok (.aload_n 0, 1) := by decide +kernel
theorem d_D_widthOf_6 : decode c_D_widthOf 6 = .ok (.getfield 21, 3) := by decide +kernel
theorem d_D_widthOf_9 : decode c_D_widthOf 9 = .ok (.iload_n 1, 1) := by decide +kernel
theorem d_D_widthOf_10 : decode c_D_widthOf 10 = .ok (.invokevirtual 68, 3) := by decide +kernel
theorem d_D_widthOf_13 : decode c_D_widthOf 13 = .ok (.invokevirtual 52, 3) := by decide +kernel
theorem d_D_widthOf_16 : decode c_D_widthOf 16 = .ok (.invokestatic 56, 3) := by decide +kernel
theorem d_D_widthOf_19 : decode c_D_widthOf 19 = .ok (.istore_n 2, 1) := by decide +kernel
theorem d_D_widthOf_20 : decode c_D_widthOf 20 = .ok (.iconst 0, 1) := by decide +kernel
theorem d_D_widthOf_21 : decode c_D_widthOf 21 = .ok (.istore_n 3, 1) := by decide +kernel
theorem d_D_widthOf_22 : decode c_D_widthOf 22 = .ok (.iload_n 3, 1) := by decide +kernel
theorem d_D_widthOf_23 : decode c_D_widthOf 23 = .ok (.aload_n 0, 1) := by decide +kernel
theorem d_D_widthOf_24 : decode c_D_widthOf 24 = .ok (.getfield 21, 3) := by decide +kernel
theorem d_D_widthOf_27 : decode c_D_widthOf 27 = .ok (.invokevirtual 41, 3) := by decide +kernel
theorem d_D_widthOf_30 : decode c_D_widthOf 30 = .ok (.if_icmp .ge 39, 3) := by decide +kernel
theorem d_D_widthOf_33 : decode c_D_widthOf 33 = .ok (.aload_n 0, 1) := by decide +kernel
theorem d_D_widthOf_34 : decode c_D_widthOf 34 = .ok (.getfield 25, 3) := by decide +kernel
theorem d_D_widthOf_37 : decode c_D_widthOf 37 = .ok (.iload_n 3, 1) := by decide +kernel
theorem d_D_widthOf_38 : decode c_D_widthOf 38 = .ok (.iload_n 1, 1) := by decide +kernel
theorem d_D_widthOf_39 : decode c_D_widthOf 39 = .ok (.invokevirtual 71, 3) := by decide +kernel
theorem d_D_widthOf_42 : decode c_D_widthOf 42 = .ok (.istore 4, 2) := by decide +kernel
theorem d_D_widthOf_44 : decode c_D_widthOf 44 = .ok (.iload 4, 2) := by decide +kernel
theorem d_D_widthOf_46 : decode c_D_widthOf 46 = .ok (.ifCond .lt 17, 3) := by decide +kernel
theorem d_D_widthOf_49 : decode c_D_widthOf 49 = .ok (.iload_n 2, 1) := by decide +kernel
theorem d_D_widthOf_50 : decode c_D_widthOf 50 = .ok (.aload_n 0, 1) := by decide +kernel
theorem d_D_widthOf_51 : decode c_D_widthOf 51 = .ok (.getfield 21, 3) := by decide +kernel
theorem d_D_widthOf_54 : decode c_D_widthOf 54 = .ok (.iload 4, 2) := by decide +kernel
theorem d_D_widthOf_56 : decode c_D_widthOf 56 = .ok (.invokevirtual 52, 3) := by decide +kernel
theorem d_D_widthOf_59 : decode c_D_widthOf 59 = .ok (.invokestatic 56, 3) := by decide +kernel
theorem d_D_widthOf_62 : decode c_D_widthOf 62 = .ok (.istore_n 2, 1) := by decide +kernel
theorem d_D_widthOf_63 : decode c_D_widthOf 63 = .ok (.iinc 3 1, 3) := by decide +kernel
theorem d_D_widthOf_66 : decode c_D_widthOf 66 = .ok (.goto (-44), 3) := by decide +kernel
theorem d_D_widthOf_69 : decode c_D_widthOf 69 = .ok (.iload_n 2, 1) := by decide +kernel
theorem d_D_widthOf_70 : decode c_D_widthOf 70 = .ok (.ireturn, 1) := by decide +kernel
theorem d_D_drawHead_0 : decode c_D_drawHead 0 = .ok (.aload_n 0, 1) := by decide +kernel
theorem d_D_drawHead_1 : decode c_D_drawHead 1 = .ok (.getfield 17, 3) := by decide +kernel
theorem d_D_drawHead_4 : decode c_D_drawHead 4 = .ok (.aload_n 0, 1) := by decide +kernel
theorem d_D_drawHead_5 : decode c_D_drawHead 5 = .ok (.getfield 49, 3) := by decide +kernel
theorem d_D_drawHead_8 : decode c_D_drawHead 8 = .ok (.invokevirtual 76, 3) := by decide +kernel
theorem d_D_drawHead_11 : decode c_D_drawHead 11 = .ok (.iconst 0, 1) := by decide +kernel
theorem d_D_drawHead_12 : decode c_D_drawHead 12 = .ok (.istore_n 1, 1) := by decide +kernel
theorem d_D_drawHead_13 : decode c_D_drawHead 13 = .ok (.iload_n 1, 1) := by decide +kernel
theorem d_D_drawHead_14 : decode c_D_drawHead 14 = .ok (.aload_n 0, 1) := by decide +kernel
theorem d_D_drawHead_15 : decode c_D_drawHead 15 = .ok (.getfield 21, 3) := by decide +kernel
theorem d_D_drawHead_18 : decode c_D_drawHead 18 = .ok (.invokevirtual 62, 3) := by decide +kernel
theorem d_D_drawHead_21 : decode c_D_drawHead 21 = .ok (.if_icmp .ge 36, 3) := by decide +kernel
theorem d_D_drawHead_24 : decode c_D_drawHead 24 = .ok (.aload_n 0, 1) := by decide +kernel
theorem d_D_drawHead_25 : decode c_D_drawHead 25 = .ok (.getfield 17, 3) := by decide +kernel
theorem d_D_drawHead_28 : decode c_D_drawHead 28 = .ok (.bipush 32, 2) := by decide +kernel
theorem d_D_drawHead_30 : decode c_D_drawHead 30 = .ok (.invokevirtual 79, 3) := by decide +kernel
theorem d_D_drawHead_33 : decode c_D_drawHead 33 = .ok (.aload_n 0, 1) := by decide +kernel
theorem d_D_drawHead_34 : decode c_D_drawHead 34 = .ok (.aload_n 0, 1) := by decide +kernel
theorem d_D_drawHead_35 : decode c_D_drawHead 35 = .ok (.getfield 21, 3) := by decide +kernel
theorem d_D_drawHead_38 : decode c_D_drawHead 38 = .ok (.iload_n 1, 1) := by decide +kernel
theorem d_D_drawHead_39 : decode c_D_drawHead 39 = .ok (.invokevirtual 68, 3) := by decide +kernel
theorem d_D_drawHead_42 : decode c_D_drawHead 42 = .ok (.aload_n 0, 1) := by decide +kernel
theorem d_D_drawHead_43 : decode c_D_drawHead 43 = .ok (.getfield 11, 3) := by decide +kernel
theorem d_D_drawHead_46 : decode c_D_drawHead 46 = .ok (.iload_n 1, 1) := by decide +kernel
theorem d_D_drawHead_47 : decode c_D_drawHead 47 = .ok (.iaload, 1) := by decide +kernel
theorem d_D_drawHead_48 : decode c_D_drawHead 48 = .ok (.invokevirtual 82, 3) := by decide +kernel
theorem d_D_drawHead_51 : decode c_D_drawHead 51 = .ok (.iinc 1 1, 3) := by decide +kernel
theorem d_D_drawHead_54 : decode c_D_drawHead 54 = .ok (.goto (-41), 3) := by decide +kernel
theorem d_D_drawHead_57 : decode c_D_drawHead 57 = .ok (.aload_n 0, 1) := by decide +kernel
theorem d_D_drawHead_58 : decode c_D_drawHead 58 = .ok (.invokevirtual 86, 3) := by decide +kernel
theorem d_D_drawHead_61 : decode c_D_drawHead 61 = .ok (.return_, 1) := by decide +kernel
theorem d_B_addBlanks_0 : decode c_B_addBlanks 0 = .ok (.iconst 0, 1) := by decide +kernel
theorem d_B_addBlanks_1 : decode c_B_addBlanks 1 = .ok (.istore_n 2, 1) := by decide +kernel
theorem d_B_addBlanks_2 : decode c_B_addBlanks 2 = .ok (.iload_n 2, 1) := by decide +kernel
theorem d_B_addBlanks_3 : decode c_B_addBlanks 3 = .ok (.iload_n 1, 1) := by decide +kernel
theorem d_B_addBlanks_4 : decode c_B_addBlanks 4 = .ok (.if_icmp .ge 15, 3) := by decide +kernel
theorem d_B_addBlanks_7 : decode c_B_addBlanks 7 = .ok (.aload_n 0, 1) := by decide +kernel
theorem d_B_addBlanks_8 : decode c_B_addBlanks 8 = .ok (.bipush 32, 2) := by decide +kernel
theorem d_B_addBlanks_10 : decode c_B_addBlanks 10 = .ok (.invokevirtual 19, 3) := by decide +kernel
theorem d_B_addBlanks_13 : decode c_B_addBlanks 13 = .ok (.iinc 2 1, 3) := by decide +kernel
theorem d_B_addBlanks_16 : decode c_B_addBlanks 16 = .ok (.goto (-14), 3) := by decide +kernel
theorem d_B_addBlanks_19 : decode c_B_addBlanks 19 = .ok (.return_, 1) := by decide +kernel
theorem d_D_drawName_0 : decode c_D_drawName 0 = .ok (.aload_n 0, 1) := by decide +kernel
theorem d_D_drawName_1 : decode c_D_drawName 1 = .ok (.getfield 21, 3) := by decide +kernel
theorem d_D_drawName_4 : decode c_D_drawName 4 = .ok (.iload_n 1, 1) := by decide +kernel
theorem d_D_drawName_5 : decode c_D_drawName 5 = .ok (.aload_n 0, 1) := by decide +kernel
theorem d_D_drawName_6 : decode c_D_drawName 6 = .ok (.getfield 17, 3) := by decide +kernel
theorem d_D_drawName_9 : decode c_D_drawName 9 = .ok (.invokevirtual 92, 3) := by decide +kernel
theorem d_D_drawName_12 : decode c_D_drawName 12 = .ok (.aload_n 0, 1) := by decide +kernel
theorem d_D_drawName_13 : decode c_D_drawName 13 = .ok (.getfield 17, 3) := by decide +kernel
theorem d_D_drawName_16 : decode c_D_drawName 16 = .ok (.iload_n 2, 1) := by decide +kernel
theorem d_D_drawName_17 : decode c_D_drawName 17 = .ok (.aload_n 0, 1) := by decide +kernel
theorem d_D_drawName_18 : decode c_D_drawName 18 = .ok (.getfield 21, 3) := by decide +kernel
theorem d_D_drawName_21 : decode c_D_drawName 21 = .ok (.iload_n 1, 1) := by decide +kernel
theorem d_D_drawName_22 : decode c_D_drawName 22 = .ok (.invokevirtual 52, 3) := by decide +kernel
theorem d_D_drawName_25 : decode c_D_drawName 25 = .ok (.isub, 1) := by decide +kernel
theorem d_D_drawName_26 : decode c_D_drawName 26 = .ok (.invokevirtual 76, 3) := by decide +kernel
theorem d_D_drawName_29 : decode c_D_drawName 29 = .ok (.return_, 1) := by decide +kernel
theorem d_D_endLine_0 : decode c_D_endLine 0 = .ok (.aload_n 0, 1) := by decide +kernel
theorem d_D_endLine_1 : decode c_D_endLine 1 = .ok (.getfield 17, 3) := by decide +kernel
theorem d_D_endLine_4 : decode c_D_endLine 4 = .ok (.invokevirtual 96, 3) := by decide +kernel
theorem d_D_endLine_7 : decode c_D_endLine 7 = .ok (.aload_n 0, 1) := by decide +kernel
theorem d_D_endLine_8 : decode c_D_endLine 8 = .ok (.getfield 17, 3) := by decide +kernel
theorem d_D_endLine_11 : decode c_D_endLine 11 = .ok (.bipush 10, 2) := by decide +kernel
theorem d_D_endLine_13 : decode c_D_endLine 13 = .ok (.invokevirtual 79, 3) := by decide +kernel
theorem d_D_endLine_16 : decode c_D_endLine 16 = .ok (.return_, 1) := by decide +kernel
theorem d_B_dropBlanks_0 : decode c_B_dropBlanks 0 = .ok (.aload_n 0, 1) := by decide +kernel
theorem d_B_dropBlanks_1 : decode c_B_dropBlanks 1 = .ok (.getfield 15, 3) := by decide +kernel
theorem d_B_dropBlanks_4 : decode c_B_dropBlanks 4 = .ok (.ifCond .le 32, 3) := by decide +kernel
theorem d_B_dropBlanks_7 : decode c_B_dropBlanks 7 = .ok (.aload_n 0, 1) := by decide +kernel
theorem d_B_dropBlanks_8 : decode c_B_dropBlanks 8 = .ok (.getfield 9, 3) := by decide +kernel
theorem d_B_dropBlanks_11 : decode c_B_dropBlanks 11 = .ok (.aload_n 0, 1) := by decide +kernel
theorem d_B_dropBlanks_12 : decode c_B_dropBlanks 12 = .ok (.getfield 15, 3) := by decide +kernel
theorem d_B_dropBlanks_15 : decode c_B_dropBlanks 15 = .ok (.iconst 1, 1) := by decide +kernel
theorem d_B_dropBlanks_16 : decode c_B_dropBlanks 16 = .ok (.isub, 1) := by decide +kernel
theorem d_B_dropBlanks_17 : decode c_B_dropBlanks 17 = .ok (.baload, 1) := by decide +kernel
theorem d_B_dropBlanks_18 : decode c_B_dropBlanks 18 = .ok (.bipush 32, 2) := by decide +kernel
theorem d_B_dropBlanks_20 : decode c_B_dropBlanks 20 = .ok (.if_icmp .ne 16, 3) := by decide +kernel
theorem d_B_dropBlanks_23 : decode c_B_dropBlanks 23 = .ok (.aload_n 0, 1) := by decide +kernel
theorem d_B_dropBlanks_24 : decode c_B_dropBlanks 24 = .ok (.dup, 1) := by decide +kernel
theorem d_B_dropBlanks_25 : decode c_B_dropBlanks 25 = .ok (.getfield 15, 3) := by decide +kernel
theorem d_B_dropBlanks_28 : decode c_B_dropBlanks 28 = .ok (.iconst 1, 1) := by decide +kernel
theorem d_B_dropBlanks_29 : decode c_B_dropBlanks 29 = .ok (.isub, 1) := by decide +kernel
theorem d_B_dropBlanks_30 : decode c_B_dropBlanks 30 = .ok (.putfield 15, 3) := by decide +kernel
theorem d_B_dropBlanks_33 : decode c_B_dropBlanks 33 = .ok (.goto (-33), 3) := by decide +kernel
theorem d_B_dropBlanks_36 : decode c_B_dropBlanks 36 = .ok (.return_, 1) := by decide +kernel
theorem d_D_drawState_0 : decode c_D_drawState 0 = .ok (.aload_n 0, 1) := by decide +kernel
theorem d_D_drawState_1 : decode c_D_drawState 1 = .ok (.iload_n 1, 1) := by decide +kernel
theorem d_D_drawState_2 : decode c_D_drawState 2 = .ok (.aload_n 0, 1) := by decide +kernel
theorem d_D_drawState_3 : decode c_D_drawState 3 = .ok (.getfield 49, 3) := by decide +kernel
theorem d_D_drawState_6 : decode c_D_drawState 6 = .ok (.invokevirtual 82, 3) := by decide +kernel
theorem d_D_drawState_9 : decode c_D_drawState 9 = .ok (.iconst 0, 1) := by decide +kernel
theorem d_D_drawState_10 : decode c_D_drawState 10 = .ok (.istore_n 2, 1) := by decide +kernel
theorem d_D_drawState_11 : decode c_D_drawState 11 = .ok (.iload_n 2, 1) := by decide +kernel
theorem d_D_drawState_12 : decode c_D_drawState 12 = .ok (.aload_n 0, 1) := by decide +kernel
theorem d_D_drawState_13 : decode c_D_drawState 13 = .ok (.getfield 21, 3) := by decide +kernel
theorem d_D_drawState_16 : decode c_D_drawState 16 = .ok (.invokevirtual 62, 3) := by decide +kernel
theorem d_D_drawState_19 : decode c_D_drawState 19 = .ok (.if_icmp .ge 37, 3) := by decide +kernel
theorem d_D_drawState_22 : decode c_D_drawState 22 = .ok (.aload_n 0, 1) := by decide +kernel
theorem d_D_drawState_23 : decode c_D_drawState 23 = .ok (.getfield 17, 3) := by decide +kernel
theorem d_D_drawState_26 : decode c_D_drawState 26 = .ok (.bipush 32, 2) := by decide +kernel
theorem d_D_drawState_28 : decode c_D_drawState 28 = .ok (.invokevirtual 79, 3) := by decide +kernel
theorem d_D_drawState_31 : decode c_D_drawState 31 = .ok (.aload_n 0, 1) := by decide +kernel
theorem d_D_drawState_32 : decode c_D_drawState 32 = .ok (.aload_n 0, 1) := by decide +kernel
theorem d_D_drawState_33 : decode c_D_drawState 33 = .ok (.getfield 25, 3) := by decide +kernel
theorem d_D_drawState_36 : decode c_D_drawState 36 = .ok (.iload_n 1, 1) := by decide +kernel
theorem d_D_drawState_37 : decode c_D_drawState 37 = .ok (.iload_n 2, 1) := by decide +kernel
theorem d_D_drawState_38 : decode c_D_drawState 38 = .ok (.invokevirtual 71, 3) := by decide +kernel
theorem d_D_drawState_41 : decode c_D_drawState 41 = .ok (.aload_n 0, 1) := by decide +kernel
theorem d_D_drawState_42 : decode c_D_drawState 42 = .ok (.getfield 11, 3) := by decide +kernel
theorem d_D_drawState_45 : decode c_D_drawState 45 = .ok (.iload_n 2, 1) := by decide +kernel
theorem d_D_drawState_46 : decode c_D_drawState 46 = .ok (.iaload, 1) := by decide +kernel
theorem d_D_drawState_47 : decode c_D_drawState 47 = .ok (.invokevirtual 89, 3) := by decide +kernel
theorem d_D_drawState_50 : decode c_D_drawState 50 = .ok (.iinc 2 1, 3) := by decide +kernel
theorem d_D_drawState_53 : decode c_D_drawState 53 = .ok (.goto (-42), 3) := by decide +kernel
theorem d_D_drawState_56 : decode c_D_drawState 56 = .ok (.aload_n 0, 1) := by decide +kernel
theorem d_D_drawState_57 : decode c_D_drawState 57 = .ok (.invokevirtual 86, 3) := by decide +kernel
theorem d_D_drawState_60 : decode c_D_drawState 60 = .ok (.return_, 1) := by decide +kernel
theorem d_D_drawGoal_0 : decode c_D_drawGoal 0 = .ok (.iload_n 1, 1) := by decide +kernel
theorem d_D_drawGoal_1 : decode c_D_drawGoal 1 = .ok (.ifCond .lt 12, 3) := by decide +kernel
theorem d_D_drawGoal_4 : decode c_D_drawGoal 4 = .ok (.aload_n 0, 1) := by decide +kernel
theorem d_D_drawGoal_5 : decode c_D_drawGoal 5 = .ok (.iload_n 1, 1) := by decide +kernel
theorem d_D_drawGoal_6 : decode c_D_drawGoal 6 = .ok (.iload_n 2, 1) := by decide +kernel
theorem d_D_drawGoal_7 : decode c_D_drawGoal 7 = .ok (.invokevirtual 82, 3) := by decide +kernel
theorem d_D_drawGoal_10 : decode c_D_drawGoal 10 = .ok (.goto 33, 3) := by decide +kernel
theorem d_D_drawGoal_13 : decode c_D_drawGoal 13 = .ok (.aload_n 0, 1) := by decide +kernel
theorem d_D_drawGoal_14 : decode c_D_drawGoal 14 = .ok (.getfield 17, 3) := by decide +kernel
theorem d_D_drawGoal_17 : decode c_D_drawGoal 17 = .ok (.iload_n 1, 1) := by decide +kernel
theorem d_D_drawGoal_18 : decode c_D_drawGoal 18 = .ok (.bipush (-2), 2) := by decide +kernel
theorem d_D_drawGoal_20 : decode c_D_drawGoal 20 = .ok (.if_icmp .ne 8, 3) := by decide +kernel
theorem d_D_drawGoal_23 : decode c_D_drawGoal 23 = .ok (.bipush 45, 2) := by decide +kernel
theorem d_D_drawGoal_25 : decode c_D_drawGoal 25 = .ok (.goto 5, 3) := by decide +kernel
theorem d_D_drawGoal_28 : decode c_D_drawGoal 28 = .ok (.bipush 63, 2) := by decide +kernel
theorem d_D_drawGoal_30 : decode c_D_drawGoal 30 = .ok (.invokevirtual 79, 3) := by decide +kernel
theorem d_D_drawGoal_33 : decode c_D_drawGoal 33 = .ok (.aload_n 0, 1) := by decide +kernel
theorem d_D_drawGoal_34 : decode c_D_drawGoal 34 = .ok (.getfield 17, 3) := by decide +kernel
theorem d_D_drawGoal_37 : decode c_D_drawGoal 37 = .ok (.iload_n 2, 1) := by decide +kernel
theorem d_D_drawGoal_38 : decode c_D_drawGoal 38 = .ok (.iconst 1, 1) := by decide +kernel
theorem d_D_drawGoal_39 : decode c_D_drawGoal 39 = .ok (.isub, 1) := by decide +kernel
theorem d_D_drawGoal_40 : decode c_D_drawGoal 40 = .ok (.invokevirtual 76, 3) := by decide +kernel
theorem d_D_drawGoal_43 : decode c_D_drawGoal 43 = .ok (.return_, 1) := by decide +kernel
theorem d_T_missingPairs_0 : decode c_T_missingPairs 0 = .ok (.iconst 0, 1) := by decide +kernel
theorem d_T_missingPairs_1 : decode c_T_missingPairs 1 = .ok (.istore_n 2, 1) := by decide +kernel
theorem d_T_missingPairs_2 : decode c_T_missingPairs 2 = .ok (.iconst 0, 1) := by decide +kernel
theorem d_T_missingPairs_3 : decode c_T_missingPairs 3 = .ok (.istore_n 3, 1) := by decide +kernel
theorem d_T_missingPairs_4 : decode c_T_missingPairs 4 = .ok (.iload_n 3, 1) := by decide +kernel
theorem d_T_missingPairs_5 : decode c_T_missingPairs 5 = .ok (.aload_n 0, 1) := by decide +kernel
theorem d_T_missingPairs_6 : decode c_T_missingPairs 6 = .ok (.getfield 23, 3) := by decide +kernel
theorem d_T_missingPairs_9 : decode c_T_missingPairs 9 = .ok (.invokevirtual 46, 3) := by decide +kernel
theorem d_T_missingPairs_12 : decode c_T_missingPairs 12 = .ok (.if_icmp .ge 29, 3) := by decide +kernel
theorem d_T_missingPairs_15 : decode c_T_missingPairs 15 = .ok (.iload_n 1, 1) := by decide +kernel
theorem d_T_missingPairs_16 : decode c_T_missingPairs 16 = .ok (.ifCond .eq 11, 3) := by decide +kernel
theorem d_T_missingPairs_19 : decode c_T_missingPairs 19 = .ok (.aload_n 0, 1) := by decide +kernel
theorem d_T_missingPairs_20 : decode c_T_missingPairs 20 = .ok (.iload_n 3, 1) := by decide +kernel
theorem d_T_missingPairs_21 : decode c_T_missingPairs 21 = .ok (.invokevirtual 68, 3) := by decide +kernel
theorem d_T_missingPairs_24 : decode c_T_missingPairs 24 = .ok (.ifCond .eq 11, 3) := by decide +kernel
theorem d_T_missingPairs_27 : decode c_T_missingPairs 27 = .ok (.iload_n 2, 1) := by decide +kernel
theorem d_T_missingPairs_28 : decode c_T_missingPairs 28 = .ok (.aload_n 0, 1) := by decide +kernel
theorem d_T_missingPairs_29 : decode c_T_missingPairs 29 = .ok (.iload_n 3, 1) := by decide +kernel
theorem d_T_missingPairs_30 : decode c_T_missingPairs 30 = .ok (.invokevirtual 79, 3) := by decide +kernel
theorem d_T_missingPairs_33 : decode c_T_missingPairs 33 = .ok (.iadd, 1) := by decide +kernel
theorem d_T_missingPairs_34 : decode c_T_missingPairs 34 = .ok (.istore_n 2, 1) := by decide +kernel
theorem d_T_missingPairs_35 : decode c_T_missingPairs 35 = .ok (.iinc 3 1, 3) := by decide +kernel
theorem d_T_missingPairs_38 : decode c_T_missingPairs 38 = .ok (.goto (-34), 3) := by decide +kernel
theorem d_T_missingPairs_41 : decode c_T_missingPairs 41 = .ok (.iload_n 2, 1) := by decide +kernel
theorem d_T_missingPairs_42 : decode c_T_missingPairs 42 = .ok (.ireturn, 1) := by decide +kernel
theorem d_T_isReached_0 : decode c_T_isReached 0 = .ok (.aload_n 0, 1) := by decide +kernel
theorem d_T_isReached_1 : decode c_T_isReached 1 = .ok (.getfield 17, 3) := by decide +kernel
theorem d_T_isReached_4 : decode c_T_isReached 4 = .ok (.iload_n 1, 1) := by decide +kernel
theorem d_T_isReached_5 : decode c_T_isReached 5 = .ok (.iaload, 1) := by decide +kernel
theorem d_T_isReached_6 : decode c_T_isReached 6 = .ok (.iconst (-1), 1) := by decide +kernel
theorem d_T_isReached_7 : decode c_T_isReached 7 = .ok (.if_icmp .eq 7, 3) := by decide +kernel
theorem d_T_isReached_10 : decode c_T_isReached 10 = .ok (.iconst 1, 1) := by decide +kernel
theorem d_T_isReached_11 : decode c_T_isReached 11 = .ok (.goto 4, 3) := by decide +kernel
theorem d_T_isReached_14 : decode c_T_isReached 14 = .ok (.iconst 0, 1) := by decide +kernel
theorem d_T_isReached_15 : decode c_T_isReached 15 = .ok (.ireturn, 1) := by decide +kernel
theorem d_T_missingPairsOf_0 : decode c_T_missingPairsOf 0 = .ok (.iconst 0, 1) := by decide +kernel
theorem d_T_missingPairsOf_1 : decode c_T_missingPairsOf 1 = .ok (.istore_n 2, 1) := by decide +kernel
theorem d_T_missingPairsOf_2 : decode c_T_missingPairsOf 2 = .ok (.iconst 0, 1) := by decide +kernel
theorem d_T_missingPairsOf_3 : decode c_T_missingPairsOf 3 = .ok (.istore_n 3, 1) := by decide +kernel
theorem d_T_missingPairsOf_4 : decode c_T_missingPairsOf 4 = .ok (.iload_n 3, 1) := by decide +kernel
theorem d_T_missingPairsOf_5 : decode c_T_missingPairsOf 5 = .ok (.aload_n 0, 1) := by decide +kernel
theorem d_T_missingPairsOf_6 : decode c_T_missingPairsOf 6 = .ok (.getfield 23, 3) := by decide +kernel
theorem d_T_missingPairsOf_9 : decode c_T_missingPairsOf 9 = .ok (.invokevirtual 50, 3) := by decide +kernel
theorem d_T_missingPairsOf_12 : decode c_T_missingPairsOf 12 = .ok (.if_icmp .ge 22, 3) := by decide +kernel
theorem d_T_missingPairsOf_15 : decode c_T_missingPairsOf 15 = .ok (.aload_n 0, 1) := by decide +kernel
theorem d_T_missingPairsOf_16 : decode c_T_missingPairsOf 16 = .ok (.iload_n 1, 1) := by decide +kernel
theorem d_T_missingPairsOf_17 : decode c_T_missingPairsOf 17 = .ok (.iload_n 3, 1) := by decide +kernel
theorem d_T_missingPairsOf_18 : decode c_T_missingPairsOf 18 = .ok (.invokevirtual 76, 3) := by decide +kernel
theorem d_T_missingPairsOf_21 : decode c_T_missingPairsOf 21 = .ok (.iconst (-1), 1) := by decide +kernel
theorem d_T_missingPairsOf_22 : decode c_T_missingPairsOf 22 = .ok (.if_icmp .ne 6, 3) := by decide +kernel
theorem d_T_missingPairsOf_25 : decode c_T_missingPairsOf 25 = .ok (.iinc 2 1, 3) := by decide +kernel
theorem d_T_missingPairsOf_28 : decode c_T_missingPairsOf 28 = .ok (.iinc 3 1, 3) := by decide +kernel
theorem d_T_missingPairsOf_31 : decode c_T_missingPairsOf 31 = .ok (.goto (-27), 3) := by decide +kernel
theorem d_T_missingPairsOf_34 : decode c_T_missingPairsOf 34 = .ok (.iload_n 2, 1) := by decide +kernel
theorem d_T_missingPairsOf_35 : decode c_T_missingPairsOf 35 = .ok (.ireturn, 1) := by decide +kernel
theorem d_B_addInt_0 : decode c_B_addInt 0 = .ok (.bipush 24, 2) := by decide +kernel
theorem d_B_addInt_2 : decode c_B_addInt 2 = .ok (.istore_n 2, 1) := by decide +kernel
theorem d_B_addInt_3 : decode c_B_addInt 3 = .ok (.iload_n 2, 1) := by decide +kernel
theorem d_B_addInt_4 : decode c_B_addInt 4 = .ok (.ifCond .lt 16, 3) := by decide +kernel
theorem d_B_addInt_7 : decode c_B_addInt 7 = .ok (.aload_n 0, 1) := by decide +kernel
theorem d_B_addInt_8 : decode c_B_addInt 8 = .ok (.iload_n 1, 1) := by decide +kernel
theorem d_B_addInt_9 : decode c_B_addInt 9 = .ok (.iload_n 2, 1) := by decide +kernel
theorem d_B_addInt_10 : decode c_B_addInt 10 = .ok (.iushr, 1) := by decide +kernel
theorem d_B_addInt_11 : decode c_B_addInt 11 = .ok (.invokevirtual 19, 3) := by decide +kernel
theorem d_B_addInt_14 : decode c_B_addInt 14 = .ok (.iinc 2 (-8), 3) := by decide +kernel
theorem d_B_addInt_17 : decode c_B_addInt 17 = .ok (.goto (-14), 3) := by decide +kernel
theorem d_B_addInt_20 : decode c_B_addInt 20 = .ok (.return_, 1) := by decide +kernel
theorem d_N_forget_0 : decode c_N_forget 0 = .ok (.aload_n 0, 1) := by decide +kernel
theorem d_N_forget_1 : decode c_N_forget 1 = .ok (.getfield 15, 3) := by decide +kernel
theorem d_N_forget_4 : decode c_N_forget 4 = .ok (.iconst 0, 1) := by decide +kernel
theorem d_N_forget_5 : decode c_N_forget 5 = .ok (.invokestatic 22, 3) := by decide +kernel
theorem d_N_forget_8 : decode c_N_forget 8 = .ok (.aload_n 0, 1) := by decide +kernel
theorem d_N_forget_9 : decode c_N_forget 9 = .ok (.getfield 19, 3) := by decide +kernel
theorem d_N_forget_12 : decode c_N_forget 12 = .ok (.iconst 0, 1) := by decide +kernel
theorem d_N_forget_13 : decode c_N_forget 13 = .ok (.invokestatic 22, 3) := by decide +kernel
theorem d_N_forget_16 : decode c_N_forget 16 = .ok (.return_, 1) := by decide +kernel
theorem d_P_firstFault_0 : decode c_P_firstFault 0 = .ok (.aload_n 0, 1) := by decide +kernel
theorem d_P_firstFault_1 : decode c_P_firstFault 1 = .ok (.getfield 9, 3) := by decide +kernel
theorem d_P_firstFault_4 : decode c_P_firstFault 4 = .ok (.invokevirtual 29, 3) := by decide +kernel
theorem d_P_firstFault_7 : decode c_P_firstFault 7 = .ok (.aload_n 0, 1) := by decide +kernel
theorem d_P_firstFault_8 : decode c_P_firstFault 8 = .ok (.iconst 0, 1) := by decide +kernel
theorem d_P_firstFault_9 : decode c_P_firstFault 9 = .ok (.putfield 32, 3) := by decide +kernel
theorem d_P_firstFault_12 : decode c_P_firstFault 12 = .ok (.iconst 0, 1) := by decide +kernel
theorem d_P_firstFault_13 : decode c_P_firstFault 13 = .ok (.istore_n 1, 1) := by decide +kernel
theorem d_P_firstFault_14 : decode c_P_firstFault 14 = .ok (.iload_n 1, 1) := by decide +kernel
theorem d_P_firstFault_15 : decode c_P_firstFault 15 = .ok (.sipush 4096, 3) := by decide +kernel
theorem d_P_firstFault_18 : decode c_P_firstFault 18 = .ok (.if_icmp .gt 52, 3) := by decide +kernel
theorem d_P_firstFault_21 : decode c_P_firstFault 21 = .ok (.aload_n 0, 1) := by decide +kernel
theorem d_P_firstFault_22 : decode c_P_firstFault 22 = .ok (.getfield 9, 3) := by decide +kernel
theorem d_P_firstFault_25 : decode c_P_firstFault 25 = .ok (.invokevirtual 35, 3) := by decide +kernel
theorem d_P_firstFault_28 : decode c_P_firstFault 28 = .ok (.aload_n 0, 1) := by decide +kernel
theorem d_P_firstFault_29 : decode c_P_firstFault 29 = .ok (.getfield 9, 3) := by decide +kernel
theorem d_P_firstFault_32 : decode c_P_firstFault 32 = .ok (.getfield 38, 3) := by decide +kernel
theorem d_P_firstFault_35 : decode c_P_firstFault 35 = .ok (.iconst 1, 1) := by decide +kernel
theorem d_P_firstFault_36 : decode c_P_firstFault 36 = .ok (.if_icmp .ne 7, 3) := by decide +kernel
theorem d_P_firstFault_39 : decode c_P_firstFault 39 = .ok (.iconst 1, 1) := by decide +kernel
theorem d_P_firstFault_40 : decode c_P_firstFault 40 = .ok (.goto 7, 3) := by decide +kernel
theorem d_P_firstFault_43 : decode c_P_firstFault 43 = .ok (.aload_n 0, 1) := by decide +kernel
theorem d_P_firstFault_44 : decode c_P_firstFault 44 = .ok (.invokevirtual 41, 3) := by decide +kernel
theorem d_P_firstFault_47 : decode c_P_firstFault 47 = .ok (.istore_n 2, 1) := by decide +kernel
theorem d_P_firstFault_48 : decode c_P_firstFault 48 = .ok (.iload_n 2, 1) := by decide +kernel
theorem d_P_firstFault_49 : decode c_P_firstFault 49 = .ok (.ifCond .ne 13, 3) := by decide +kernel
theorem d_P_firstFault_52 : decode c_P_firstFault 52 = .ok (.aload_n 0, 1) := by decide +kernel
theorem d_P_firstFault_53 : decode c_P_firstFault 53 = .ok (.getfield 9, 3) := by decide +kernel
theorem d_P_firstFault_56 : decode c_P_firstFault 56 = .ok (.getfield 38, 3) := by decide +kernel
theorem d_P_firstFault_59 : decode c_P_firstFault 59 = .ok (.ifCond .ne 5, 3) := by decide +kernel
theorem d_P_firstFault_62 : decode c_P_firstFault 62 = .ok (.iload_n 2, 1) := by decide +kernel
theorem d_P_firstFault_63 : decode c_P_firstFault 63 = .ok (.ireturn, 1) := by decide +kernel
theorem d_P_firstFault_64 : decode c_P_firstFault 64 = .ok (.iinc 1 1, 3) := by decide +kernel
theorem d_P_firstFault_67 : decode c_P_firstFault 67 = .ok (.goto (-53), 3) := by decide +kernel
theorem d_P_firstFault_70 : decode c_P_firstFault 70 = .ok (.iconst 0, 1) := by decide +kernel
theorem d_P_firstFault_71 : decode c_P_firstFault 71 = .ok (.ireturn, 1) := by decide +kernel
theorem d_L_restart_0 : decode c_L_restart 0 = .ok (.aload_n 0, 1) := by decide +kernel
theorem d_L_restart_1 : decode c_L_restart 1 = .ok (.iconst 0, 1) := by decide +kernel
theorem d_L_restart_2 : decode c_L_restart 2 = .ok (.putfield 15, 3) := by decide +kernel
theorem d_L_restart_5 : decode c_L_restart 5 = .ok (.aload_n 0, 1) := by decide +kernel
theorem d_L_restart_6 : decode c_L_restart 6 = .ok (.iconst 0, 1) := by decide +kernel
theorem d_L_restart_7 : decode c_L_restart 7 = .ok (.putfield 19, 3) := by decide +kernel
theorem d_L_restart_10 : decode c_L_restart 10 = .ok (.aload_n 0, 1) := by decide +kernel
theorem d_L_restart_11 : decode c_L_restart 11 = .ok (.iconst 0, 1) := by decide +kernel
theorem d_L_restart_12 : decode c_L_restart 12 = .ok (.putfield 22, 3) := by decide +kernel
theorem d_L_restart_15 : decode c_L_restart 15 = .ok (.return_, 1) := by decide +kernel
theorem d_L_advance_0 : decode c_L_advance 0 = .ok (.aload_n 0, 1) := by decide +kernel
theorem d_L_advance_1 : decode c_L_advance 1 = .ok (.invokevirtual 25, 3) := by decide +kernel
theorem d_L_advance_4 : decode c_L_advance 4 = .ok (.aload_n 0, 1) := by decide +kernel
theorem d_L_advance_5 : decode c_L_advance 5 = .ok (.aload_n 0, 1) := by decide +kernel
theorem d_L_advance_6 : decode c_L_advance 6 = .ok (.getfield 19, 3) := by decide +kernel
theorem d_L_advance_9 : decode c_L_advance 9 = .ok (.putfield 15, 3) := by decide +kernel
theorem d_L_advance_12 : decode c_L_advance 12 = .ok (.aload_n 0, 1) := by decide +kernel
theorem d_L_advance_13 : decode c_L_advance 13 = .ok (.getfield 19, 3) := by decide +kernel
theorem d_L_advance_16 : decode c_L_advance 16 = .ok (.aload_n 0, 1) := by decide +kernel
theorem d_L_advance_17 : decode c_L_advance 17 = .ok (.getfield 9, 3) := by decide +kernel
theorem d_L_advance_20 : decode c_L_advance 20 = .ok (.getfield 28, 3) := by decide +kernel
theorem d_L_advance_23 : decode c_L_advance 23 = .ok (.if_icmp .lt 11, 3) := by decide +kernel
theorem d_L_advance_26 : decode c_L_advance 26 = .ok (.aload_n 0, 1) := by decide +kernel
theorem d_L_advance_27 : decode c_L_advance 27 = .ok (.iconst 0, 1) := by decide +kernel
theorem d_L_advance_28 : decode c_L_advance 28 = .ok (.putfield 22, 3) := by decide +kernel
theorem d_L_advance_31 : decode c_L_advance 31 = .ok (.goto 83, 3) := by decide +kernel
theorem d_L_advance_34 : decode c_L_advance 34 = .ok (.aload_n 0, 1) := by decide +kernel
theorem d_L_advance_35 : decode c_L_advance 35 = .ok (.getfield 9, 3) := by decide +kernel
theorem d_L_advance_38 : decode c_L_advance 38 = .ok (.getfield 33, 3) := by decide +kernel
theorem d_L_advance_41 : decode c_L_advance 41 = .ok (.aload_n 0, 1) := by decide +kernel
theorem d_L_advance_42 : decode c_L_advance 42 = .ok (.getfield 19, 3) := by decide +kernel
theorem d_L_advance_45 : decode c_L_advance 45 = .ok (.baload, 1) := by decide +kernel
theorem d_L_advance_46 : decode c_L_advance 46 = .ok (.invokestatic 37, 3) := by decide +kernel
theorem d_L_advance_49 : decode c_L_advance 49 = .ok (.ifCond .eq 36, 3) := by decide +kernel
theorem d_L_advance_52 : decode c_L_advance 52 = .ok (.aload_n 0, 1) := by decide +kernel
theorem d_L_advance_53 : decode c_L_advance 53 = .ok (.invokevirtual 41, 3) := by decide +kernel
theorem d_L_advance_56 : decode c_L_advance 56 = .ok (.aload_n 0, 1) := by decide +kernel
theorem d_L_advance_57 : decode c_L_advance 57 = .ok (.aload_n 0, 1) := by decide +kernel
theorem d_L_advance_58 : decode c_L_advance 58 = .ok (.getfield 19, 3) := by decide +kernel
theorem d_L_advance_61 : decode c_L_advance 61 = .ok (.aload_n 0, 1) := by decide +kernel
theorem d_L_advance_62 : decode c_L_advance 62 = .ok (.getfield 15, 3) := by decide +kernel
theorem d_L_advance_65 : decode c_L_advance 65 = .ok (.isub, 1) := by decide +kernel
theorem d_L_advance_66 : decode c_L_advance 66 = .ok (.bipush 12, 2) := by decide +kernel
theorem d_L_advance_68 : decode c_L_advance 68 = .ok (.if_icmp .le 7, 3) := by decide +kernel
theorem d_L_advance_71 : decode c_L_advance 71 = .ok (.iconst 1, 1) := by decide +kernel
theorem d_L_advance_72 : decode c_L_advance 72 = .ok (.goto 7, 3) := by decide +kernel
theorem d_L_advance_75 : decode c_L_advance 75 = .ok (.aload_n 0, 1) := by decide +kernel
theorem d_L_advance_76 : decode c_L_advance 76 = .ok (.invokevirtual 46, 3) := by decide +kernel
theorem d_L_advance_79 : decode c_L_advance 79 = .ok (.putfield 22, 3) := by decide +kernel
theorem d_L_advance_82 : decode c_L_advance 82 = .ok (.goto 32, 3) := by decide +kernel
theorem d_L_advance_85 : decode c_L_advance 85 = .ok (.aload_n 0, 1) := by decide +kernel
theorem d_L_advance_86 : decode c_L_advance 86 = .ok (.aload_n 0, 1) := by decide +kernel
theorem d_L_advance_87 : decode c_L_advance 87 = .ok (.getfield 9, 3) := by decide +kernel
theorem d_L_advance_90 : decode c_L_advance 90 = .ok (.getfield 33, 3) := by decide +kernel
theorem d_L_advance_93 : decode c_L_advance 93 = .ok (.aload_n 0, 1) := by decide +kernel
theorem d_L_advance_94 : decode c_L_advance 94 = .ok (.getfield 19, 3) := by decide +kernel
theorem d_L_advance_97 : decode c_L_advance 97 = .ok (.baload, 1) := by decide +kernel
theorem d_L_advance_98 : decode c_L_advance 98 = .ok (.invokestatic 50, 3) := by decide +kernel
theorem d_L_advance_101 : decode c_L_advance 101 = .ok (.putfield 22, 3) := by decide +kernel
theorem d_L_advance_104 : decode c_L_advance 104 = .ok (.aload_n 0, 1) := by decide +kernel
theorem d_L_advance_105 : decode c_L_advance 105 = .ok (.dup, 1) := by decide +kernel
theorem d_L_advance_106 : decode c_L_advance 106 = .ok (.getfield 19, 3) := by decide +kernel
theorem d_L_advance_109 : decode c_L_advance 109 = .ok (.iconst 1, 1) := by decide +kernel
theorem d_L_advance_110 : decode c_L_advance 110 = .ok (.iadd, 1) := by decide +kernel
theorem d_L_advance_111 : decode c_L_advance 111 = .ok (.putfield 19, 3) := by decide +kernel
theorem d_L_advance_114 : decode c_L_advance 114 = .ok (.return_, 1) := by decide +kernel
theorem d_L_skipWhite_0 : decode c_L_skipWhite 0 = .ok (.iconst 0, 1) := by decide +kernel
theorem d_L_skipWhite_1 : decode c_L_skipWhite 1 = .ok (.istore_n 1, 1) := by decide +kernel
theorem d_L_skipWhite_2 : decode c_L_skipWhite 2 = .ok (.aload_n 0, 1) := by decide +kernel
theorem d_L_skipWhite_3 : decode c_L_skipWhite 3 = .ok (.getfield 19, 3) := by decide +kernel
theorem d_L_skipWhite_6 : decode c_L_skipWhite 6 = .ok (.aload_n 0, 1) := by decide +kernel
theorem d_L_skipWhite_7 : decode c_L_skipWhite 7 = .ok (.getfield 9, 3) := by decide +kernel
theorem d_L_skipWhite_10 : decode c_L_skipWhite 10 = .ok (.getfield 28, 3) := by decide +kernel
theorem d_L_skipWhite_13 : decode c_L_skipWhite 13 = .ok (.if_icmp .ge 74, 3) := by decide +kernel
theorem d_L_skipWhite_16 : decode c_L_skipWhite 16 = .ok (.aload_n 0, 1) := by decide +kernel
theorem d_L_skipWhite_17 : decode c_L_skipWhite 17 = .ok (.getfield 9, 3) := by decide +kernel
theorem d_L_skipWhite_20 : decode c_L_skipWhite 20 = .ok (.getfield 33, 3) := by decide +kernel
theorem d_L_skipWhite_23 : decode c_L_skipWhite 23 = .ok (.aload_n 0, 1) := by decide +kernel
theorem d_L_skipWhite_24 : decode c_L_skipWhite 24 = .ok (.getfield 19, 3) := by decide +kernel
theorem d_L_skipWhite_27 : decode c_L_skipWhite 27 = .ok (.baload, 1) := by decide +kernel
theorem d_L_skipWhite_28 : decode c_L_skipWhite 28 = .ok (.istore_n 2, 1) := by decide +kernel
theorem d_L_skipWhite_29 : decode c_L_skipWhite 29 = .ok (.iload_n 2, 1) := by decide +kernel
theorem d_L_skipWhite_30 : decode c_L_skipWhite 30 = .ok (.bipush 10, 2) := by decide +kernel
theorem d_L_skipWhite_32 : decode c_L_skipWhite 32 = .ok (.if_icmp .ne 8, 3) := by decide +kernel
theorem d_L_skipWhite_35 : decode c_L_skipWhite 35 = .ok (.iconst 0, 1) := by decide +kernel
theorem d_L_skipWhite_36 : decode c_L_skipWhite 36 = .ok (.istore_n 1, 1) := by decide +kernel
theorem d_L_skipWhite_37 : decode c_L_skipWhite 37 = .ok (.goto 37, 3) := by decide +kernel
theorem d_L_skipWhite_40 : decode c_L_skipWhite 40 = .ok (.iload_n 2, 1) := by decide +kernel
theorem d_L_skipWhite_41 : decode c_L_skipWhite 41 = .ok (.bipush 35, 2) := by decide +kernel
theorem d_L_skipWhite_43 : decode c_L_skipWhite 43 = .ok (.if_icmp .ne 8, 3) := by decide +kernel
theorem d_L_skipWhite_46 : decode c_L_skipWhite 46 = .ok (.iconst 1, 1) := by decide +kernel
theorem d_L_skipWhite_47 : decode c_L_skipWhite 47 = .ok (.istore_n 1, 1) := by decide +kernel
theorem d_L_skipWhite_48 : decode c_L_skipWhite 48 = .ok (.goto 26, 3) := by decide +kernel
theorem d_L_skipWhite_51 : decode c_L_skipWhite 51 = .ok (.iload_n 1, 1) := by decide +kernel
theorem d_L_skipWhite_52 : decode c_L_skipWhite 52 = .ok (.ifCond .ne 22, 3) := by decide +kernel
theorem d_L_skipWhite_55 : decode c_L_skipWhite 55 = .ok (.iload_n 2, 1) := by decide +kernel
theorem d_L_skipWhite_56 : decode c_L_skipWhite 56 = .ok (.bipush 9, 2) := by decide +kernel
theorem d_L_skipWhite_58 : decode c_L_skipWhite 58 = .ok (.if_icmp .eq 16, 3) := by decide +kernel
theorem d_L_skipWhite_61 : decode c_L_skipWhite 61 = .ok (.iload_n 2, 1) := by decide +kernel
theorem d_L_skipWhite_62 : decode c_L_skipWhite 62 = .ok (.bipush 13, 2) := by decide +kernel
theorem d_L_skipWhite_64 : decode c_L_skipWhite 64 = .ok (.if_icmp .eq 10, 3) := by decide +kernel
theorem d_L_skipWhite_67 : decode c_L_skipWhite 67 = .ok (.iload_n 2, 1) := by decide +kernel
theorem d_L_skipWhite_68 : decode c_L_skipWhite 68 = .ok (.bipush 32, 2) := by decide +kernel
theorem d_L_skipWhite_70 : decode c_L_skipWhite 70 = .ok (.if_icmp .eq 4, 3) := by decide +kernel
theorem d_L_skipWhite_73 : decode c_L_skipWhite 73 = .ok (.return_, 1) := by decide +kernel
theorem d_L_skipWhite_74 : decode c_L_skipWhite 74 = .ok (.aload_n 0, 1) := by decide +kernel
theorem d_L_skipWhite_75 : decode c_L_skipWhite 75 = .ok (.dup, 1) := by decide +kernel
theorem d_L_skipWhite_76 : decode c_L_skipWhite 76 = .ok (.getfield 19, 3) := by decide +kernel
theorem d_L_skipWhite_79 : decode c_L_skipWhite 79 = .ok (.iconst 1, 1) := by decide +kernel
theorem d_L_skipWhite_80 : decode c_L_skipWhite 80 = .ok (.iadd, 1) := by decide +kernel
theorem d_L_skipWhite_81 : decode c_L_skipWhite 81 = .ok (.putfield 19, 3) := by decide +kernel
theorem d_L_skipWhite_84 : decode c_L_skipWhite 84 = .ok (.goto (-82), 3) := by decide +kernel
theorem d_L_skipWhite_87 : decode c_L_skipWhite 87 = .ok (.return_, 1) := by decide +kernel
theorem d_L_isLetter_0 : decode c_L_isLetter 0 = .ok (.iload_n 0, 1) := by decide +kernel
theorem d_L_isLetter_1 : decode c_L_isLetter 1 = .ok (.bipush 97, 2) := by decide +kernel
theorem d_L_isLetter_3 : decode c_L_isLetter 3 = .ok (.if_icmp .lt 13, 3) := by decide +kernel
theorem d_L_isLetter_6 : decode c_L_isLetter 6 = .ok (.iload_n 0, 1) := by decide +kernel
theorem d_L_isLetter_7 : decode c_L_isLetter 7 = .ok (.bipush 122, 2) := by decide +kernel
theorem d_L_isLetter_9 : decode c_L_isLetter 9 = .ok (.if_icmp .gt 7, 3) := by decide +kernel
theorem d_L_isLetter_12 : decode c_L_isLetter 12 = .ok (.iconst 1, 1) := by decide +kernel
theorem d_L_isLetter_13 : decode c_L_isLetter 13 = .ok (.goto 4, 3) := by decide +kernel
theorem d_L_isLetter_16 : decode c_L_isLetter 16 = .ok (.iconst 0, 1) := by decide +kernel
theorem d_L_isLetter_17 : decode c_L_isLetter 17 = .ok (.ireturn, 1) := by decide +kernel
theorem d_L_skipName_0 : decode c_L_skipName 0 = .ok (.aload_n 0, 1) := by decide +kernel
theorem d_L_skipName_1 : decode c_L_skipName 1 = .ok (.getfield 19, 3) := by decide +kernel
theorem d_L_skipName_4 : decode c_L_skipName 4 = .ok (.aload_n 0, 1) := by decide +kernel
theorem d_L_skipName_5 : decode c_L_skipName 5 = .ok (.getfield 9, 3) := by decide +kernel
theorem d_L_skipName_8 : decode c_L_skipName 8 = .ok (.getfield 28, 3) := by decide +kernel
theorem d_L_skipName_11 : decode c_L_skipName 11 = .ok (.if_icmp .ge 52, 3) := by decide +kernel
theorem d_L_skipName_14 : decode c_L_skipName 14 = .ok (.aload_n 0, 1) := by decide +kernel
theorem d_L_skipName_15 : decode c_L_skipName 15 = .ok (.getfield 9, 3) := by decide +kernel
theorem d_L_skipName_18 : decode c_L_skipName 18 = .ok (.getfield 33, 3) := by decide +kernel
theorem d_L_skipName_21 : decode c_L_skipName 21 = .ok (.aload_n 0, 1) := by decide +kernel
theorem d_L_skipName_22 : decode c_L_skipName 22 = .ok (.getfield 19, 3) := by decide +kernel
theorem d_L_skipName_25 : decode c_L_skipName 25 = .ok (.baload, 1) := by decide +kernel
theorem d_L_skipName_26 : decode c_L_skipName 26 = .ok (.invokestatic 37, 3) := by decide +kernel
theorem d_L_skipName_29 : decode c_L_skipName 29 = .ok (.ifCond .ne 21, 3) := by decide +kernel
theorem d_L_skipName_32 : decode c_L_skipName 32 = .ok (.aload_n 0, 1) := by decide +kernel
theorem d_L_skipName_33 : decode c_L_skipName 33 = .ok (.getfield 9, 3) := by decide +kernel
theorem d_L_skipName_36 : decode c_L_skipName 36 = .ok (.getfield 33, 3) := by decide +kernel
theorem d_L_skipName_39 : decode c_L_skipName 39 = .ok (.aload_n 0, 1) := by decide +kernel
theorem d_L_skipName_40 : decode c_L_skipName 40 = .ok (.getfield 19, 3) := by decide +kernel
theorem d_L_skipName_43 : decode c_L_skipName 43 = .ok (.baload, 1) := by decide +kernel
theorem d_L_skipName_44 : decode c_L_skipName 44 = .ok (.invokestatic 54, 3) := by decide +kernel
theorem d_L_skipName_47 : decode c_L_skipName 47 = .ok (.ifCond .eq 16, 3) := by decide +kernel
theorem d_L_skipName_50 : decode c_L_skipName 50 = .ok (.aload_n 0, 1) := by decide +kernel
theorem d_L_skipName_51 : decode c_L_skipName 51 = .ok (.dup, 1) := by decide +kernel
theorem d_L_skipName_52 : decode c_L_skipName 52 = .ok (.getfield 19, 3) := by decide +kernel
theorem d_L_skipName_55 : decode c_L_skipName 55 = .ok (.iconst 1, 1) := by decide +kernel
theorem d_L_skipName_56 : decode c_L_skipName 56 = .ok (.iadd, 1) := by decide +kernel
theorem d_L_skipName_57 : decode c_L_skipName 57 = .ok (.putfield 19, 3) := by decide +kernel
theorem d_L_skipName_60 : decode c_L_skipName 60 = .ok (.goto (-60), 3) := by decide +kernel
theorem d_L_skipName_63 : decode c_L_skipName 63 = .ok (.return_, 1) := by decide +kernel
theorem d_L_isDigit_0 : decode c_L_isDigit 0 = .ok (.iload_n 0, 1) := by decide +kernel
theorem d_L_isDigit_1 : decode c_L_isDigit 1 = .ok (.bipush 48, 2) := by decide +kernel
theorem d_L_isDigit_3 : decode c_L_isDigit 3 = .ok (.if_icmp .lt 13, 3) := by decide +kernel
theorem d_L_isDigit_6 : decode c_L_isDigit 6 = .ok (.iload_n 0, 1) := by decide +kernel
theorem d_L_isDigit_7 : decode c_L_isDigit 7 = .ok (.bipush 57, 2) := by decide +kernel
theorem d_L_isDigit_9 : decode c_L_isDigit 9 = .ok (.if_icmp .gt 7, 3) := by decide +kernel
theorem d_L_isDigit_12 : decode c_L_isDigit 12 = .ok (.iconst 1, 1) := by decide +kernel
theorem d_L_isDigit_13 : decode c_L_isDigit 13 = .ok (.goto 4, 3) := by decide +kernel
theorem d_L_isDigit_16 : decode c_L_isDigit 16 = .ok (.iconst 0, 1) := by decide +kernel
theorem d_L_isDigit_17 : decode c_L_isDigit 17 = .ok (.ireturn, 1) := by decide +kernel
theorem d_L_nameKind_0 : decode c_L_nameKind 0 = .ok (.aload_n 0, 1) := by decide +kernel
theorem d_L_nameKind_1 : decode c_L_nameKind 1 = .ok (.ldc 57, 2) := by decide +kernel
theorem d_L_nameKind_3 : decode c_L_nameKind 3 = .ok (.invokevirtual 59, 3) := by decide +kernel
theorem d_L_nameKind_6 : decode c_L_nameKind 6 = .ok (.ifCond .eq 6, 3) := by decide +kernel
theorem d_L_nameKind_9 : decode c_L_nameKind 9 = .ok (.bipush 7, 2) := by decide +kernel
theorem d_L_nameKind_11 : decode c_L_nameKind 11 = .ok (.ireturn, 1) := by decide +kernel
theorem d_L_nameKind_12 : decode c_L_nameKind 12 = .ok (.aload_n 0, 1) := by decide +kernel
theorem d_L_nameKind_13 : decode c_L_nameKind 13 = .ok (.ldc 63, 2) := by decide +kernel
theorem d_L_nameKind_15 : decode c_L_nameKind 15 = .ok (.invokevirtual 59, 3) := by decide +kernel
theorem d_L_nameKind_18 : decode c_L_nameKind 18 = .ok (.ifCond .eq 6, 3) := by decide +kernel
theorem d_L_nameKind_21 : decode c_L_nameKind 21 = .ok (.bipush 8, 2) := by decide +kernel
theorem d_L_nameKind_23 : decode c_L_nameKind 23 = .ok (.ireturn, 1) := by decide +kernel
theorem d_L_nameKind_24 : decode c_L_nameKind 24 = .ok (.aload_n 0, 1) := by decide +kernel
theorem d_L_nameKind_25 : decode c_L_nameKind 25 = .ok (.ldc 65, 2) := by decide +kernel
theorem d_L_nameKind_27 : decode c_L_nameKind 27 = .ok (.invokevirtual 59, 3) := by decide +kernel
theorem d_L_nameKind_30 : decode c_L_nameKind 30 = .ok (.ifCond .eq 6, 3) := by decide +kernel
theorem d_L_nameKind_33 : decode c_L_nameKind 33 = .ok (.bipush 9, 2) := by decide +kernel
theorem d_L_nameKind_35 : decode c_L_nameKind 35 = .ok (.ireturn, 1) := by decide +kernel
theorem d_L_nameKind_36 : decode c_L_nameKind 36 = .ok (.aload_n 0, 1) := by decide +kernel
theorem d_L_nameKind_37 : decode c_L_nameKind 37 = .ok (.ldc 67, 2) := by decide +kernel
theorem d_L_nameKind_39 : decode c_L_nameKind 39 = .ok (.invokevirtual 59, 3) := by decide +kernel
theorem d_L_nameKind_42 : decode c_L_nameKind 42 = .ok (.ifCond .eq 6, 3) := by decide +kernel
theorem d_L_nameKind_45 : decode c_L_nameKind 45 = .ok (.bipush 10, 2) := by decide +kernel
theorem d_L_nameKind_47 : decode c_L_nameKind 47 = .ok (.ireturn, 1) := by decide +kernel
theorem d_L_nameKind_48 : decode c_L_nameKind 48 = .ok (.aload_n 0, 1) := by decide +kernel
theorem d_L_nameKind_49 : decode c_L_nameKind 49 = .ok (.ldc 69, 2) := by decide +kernel
theorem d_L_nameKind_51 : decode c_L_nameKind 51 = .ok (.invokevirtual 59, 3) := by decide +kernel
theorem d_L_nameKind_54 : decode c_L_nameKind 54 = .ok (.ifCond .eq 6, 3) := by decide +kernel
theorem d_L_nameKind_57 : decode c_L_nameKind 57 = .ok (.bipush 11, 2) := by decide +kernel
theorem d_L_nameKind_59 : decode c_L_nameKind 59 = .ok (.ireturn, 1) := by decide +kernel
theorem d_L_nameKind_60 : decode c_L_nameKind 60 = .ok (.aload_n 0, 1) := by decide +kernel
theorem d_L_nameKind_61 : decode c_L_nameKind 61 = .ok (.ldc 71, 2) := by decide +kernel
theorem d_L_nameKind_63 : decode c_L_nameKind 63 = .ok (.invokevirtual 59, 3) := by decide +kernel
theorem d_L_nameKind_66 : decode c_L_nameKind 66 = .ok (.ifCond .eq 6, 3) := by decide +kernel
theorem d_L_nameKind_69 : decode c_L_nameKind 69 = .ok (.bipush 12, 2) := by decide +kernel
theorem d_L_nameKind_71 : decode c_L_nameKind 71 = .ok (.ireturn, 1) := by decide +kernel
theorem d_L_nameKind_72 : decode c_L_nameKind 72 = .ok (.aload_n 0, 1) := by decide +kernel
theorem d_L_nameKind_73 : decode c_L_nameKind 73 = .ok (.ldc 73, 2) := by decide +kernel
theorem d_L_nameKind_75 : decode c_L_nameKind 75 = .ok (.invokevirtual 59, 3) := by decide +kernel
theorem d_L_nameKind_78 : decode c_L_nameKind 78 = .ok (.ifCond .eq 6, 3) := by decide +kernel
theorem d_L_nameKind_81 : decode c_L_nameKind 81 = .ok (.bipush 13, 2) := by decide +kernel
theorem d_L_nameKind_83 : decode c_L_nameKind 83 = .ok (.ireturn, 1) := by decide +kernel
theorem d_L_nameKind_84 : decode c_L_nameKind 84 = .ok (.aload_n 0, 1) := by decide +kernel
theorem d_L_nameKind_85 : decode c_L_nameKind 85 = .ok (.ldc 75, 2) := by decide +kernel
theorem d_L_nameKind_87 : decode c_L_nameKind 87 = .ok (.invokevirtual 59, 3) := by decide +kernel
theorem d_L_nameKind_90 : decode c_L_nameKind 90 = .ok (.ifCond .eq 6, 3) := by decide +kernel
theorem d_L_nameKind_93 : decode c_L_nameKind 93 = .ok (.bipush 14, 2) := by decide +kernel
theorem d_L_nameKind_95 : decode c_L_nameKind 95 = .ok (.ireturn, 1) := by decide +kernel
theorem d_L_nameKind_96 : decode c_L_nameKind 96 = .ok (.aload_n 0, 1) := by decide +kernel
theorem d_L_nameKind_97 : decode c_L_nameKind 97 = .ok (.ldc 77, 2) := by decide +kernel
theorem d_L_nameKind_99 : decode c_L_nameKind 99 = .ok (.invokevirtual 59, 3) := by decide +kernel
theorem d_L_nameKind_102 : decode c_L_nameKind 102 = .ok (.ifCond .eq 6, 3) := by decide +kernel
theorem d_L_nameKind_105 : decode c_L_nameKind 105 = .ok (.bipush 15, 2) := by decide +kernel
theorem d_L_nameKind_107 : decode c_L_nameKind 107 = .ok (.ireturn, 1) := by decide +kernel
theorem d_L_nameKind_108 : decode c_L_nameKind 108 = .ok (.bipush 6, 2) := by decide +kernel
theorem d_L_nameKind_110 : decode c_L_nameKind 110 = .ok (.ireturn, 1) := by decide +kernel
theorem d_L_spells_0 : decode c_L_spells 0 = .ok (.aload_n 0, 1) := by decide +kernel
theorem d_L_spells_1 : decode c_L_spells 1 = .ok (.getfield 19, 3) := by decide +kernel
theorem d_L_spells_4 : decode c_L_spells 4 = .ok (.aload_n 0, 1) := by decide +kernel
theorem d_L_spells_5 : decode c_L_spells 5 = .ok (.getfield 15, 3) := by decide +kernel
theorem d_L_spells_8 : decode c_L_spells 8 = .ok (.isub, 1) := by decide +kernel
theorem d_L_spells_9 : decode c_L_spells 9 = .ok (.aload_n 1, 1) := by decide +kernel
theorem d_L_spells_10 : decode c_L_spells 10 = .ok (.invokevirtual 79, 3) := by decide +kernel
theorem d_L_spells_13 : decode c_L_spells 13 = .ok (.if_icmp .eq 5, 3) := by decide +kernel
theorem d_L_spells_16 : decode c_L_spells 16 = .ok (.iconst 0, 1) := by decide +kernel
theorem d_L_spells_17 : decode c_L_spells 17 = .ok (.ireturn, 1) := by decide +kernel
theorem d_L_spells_18 : decode c_L_spells 18 = .ok (.iconst 0, 1) := by decide +kernel
theorem d_L_spells_19 : decode c_L_spells 19 = .ok (.istore_n 2, 1) := by decide +kernel
theorem d_L_spells_20 : decode c_L_spells 20 = .ok (.iload_n 2, 1) := by decide +kernel
theorem d_L_spells_21 : decode c_L_spells 21 = .ok (.aload_n 1, 1) := by decide +kernel
theorem d_L_spells_22 : decode c_L_spells 22 = .ok (.invokevirtual 79, 3) := by decide +kernel
theorem d_L_spells_25 : decode c_L_spells 25 = .ok (.if_icmp .ge 33, 3) := by decide +kernel
theorem d_L_spells_28 : decode c_L_spells 28 = .ok (.aload_n 0, 1) := by decide +kernel
theorem d_L_spells_29 : decode c_L_spells 29 = .ok (.getfield 9, 3) := by decide +kernel
theorem d_L_spells_32 : decode c_L_spells 32 = .ok (.getfield 33, 3) := by decide +kernel
theorem d_L_spells_35 : decode c_L_spells 35 = .ok (.aload_n 0, 1) := by decide +kernel
theorem d_L_spells_36 : decode c_L_spells 36 = .ok (.getfield 15, 3) := by decide +kernel
theorem d_L_spells_39 : decode c_L_spells 39 = .ok (.iload_n 2, 1) := by decide +kernel
theorem d_L_spells_40 : decode c_L_spells 40 = .ok (.iadd, 1) := by decide +kernel
theorem d_L_spells_41 : decode c_L_spells 41 = .ok (.baload, 1) := by decide +kernel
theorem d_L_spells_42 : decode c_L_spells 42 = .ok (.aload_n 1, 1) := by decide +kernel
theorem d_L_spells_43 : decode c_L_spells 43 = .ok (.iload_n 2, 1) := by decide +kernel
theorem d_L_spells_44 : decode c_L_spells 44 = .ok (.invokevirtual 83, 3) := by decide +kernel
theorem d_L_spells_47 : decode c_L_spells 47 = .ok (.if_icmp .eq 5, 3) := by decide +kernel
theorem d_L_spells_50 : decode c_L_spells 50 = .ok (.iconst 0, 1) := by decide +kernel
theorem d_L_spells_51 : decode c_L_spells 51 = .ok (.ireturn, 1) := by decide +kernel
theorem d_L_spells_52 : decode c_L_spells 52 = .ok (.iinc 2 1, 3) := by decide +kernel
theorem d_L_spells_55 : decode c_L_spells 55 = .ok (.goto (-35), 3) := by decide +kernel
theorem d_L_spells_58 : decode c_L_spells 58 = .ok (.iconst 1, 1) := by decide +kernel
theorem d_L_spells_59 : decode c_L_spells 59 = .ok (.ireturn, 1) := by decide +kernel
theorem d_L_signKind_0 : decode c_L_signKind 0 = .ok (.iload_n 0, 1) := by decide +kernel
theorem d_L_signKind_1 : decode c_L_signKind 1 = .ok (.lookupswitch 51 #[(44, 47), (58, 43), (59, 45), (62, 49)], 43) := by decide +kernel
theorem d_L_signKind_44 : decode c_L_signKind 44 = .ok (.iconst 2, 1) := by decide +kernel
theorem d_L_signKind_45 : decode c_L_signKind 45 = .ok (.ireturn, 1) := by decide +kernel
theorem d_L_signKind_46 : decode c_L_signKind 46 = .ok (.iconst 3, 1) := by decide +kernel
theorem d_L_signKind_47 : decode c_L_signKind 47 = .ok (.ireturn, 1) := by decide +kernel
theorem d_L_signKind_48 : decode c_L_signKind 48 = .ok (.iconst 4, 1) := by decide +kernel
theorem d_L_signKind_49 : decode c_L_signKind 49 = .ok (.ireturn, 1) := by decide +kernel
theorem d_L_signKind_50 : decode c_L_signKind 50 = .ok (.iconst 5, 1) := by decide +kernel
theorem d_L_signKind_51 : decode c_L_signKind 51 = .ok (.ireturn, 1) := by decide +kernel
theorem d_L_signKind_52 : decode c_L_signKind 52 = .ok (.iconst 1, 1) := by decide +kernel
theorem d_L_signKind_53 : decode c_L_signKind 53 = .ok (.ireturn, 1) := by decide +kernel
theorem d_P_step_0 : decode c_P_step 0 = .ok (.aload_n 0, 1) := by decide +kernel
theorem d_P_step_1 : decode c_P_step 1 = .ok (.getfield 32, 3) := by decide +kernel
theorem d_P_step_4 : decode c_P_step 4 = .ok (.tableswitch 155 0 11 #[64, 69, 74, 82, 87, 92, 100, 125, 130, 135, 145, 150], 64) := by decide +kernel
theorem d_P_step_68 : decode c_P_step 68 = .ok (.aload_n 0, 1) := by decide +kernel
theorem d_P_step_69 : decode c_P_step 69 = .ok (.invokevirtual 45, 3) := by decide +kernel
theorem d_P_step_72 : decode c_P_step 72 = .ok (.ireturn, 1) := by decide +kernel
theorem d_P_step_73 : decode c_P_step 73 = .ok (.aload_n 0, 1) := by decide +kernel
theorem d_P_step_74 : decode c_P_step 74 = .ok (.invokevirtual 48, 3) := by decide +kernel
theorem d_P_step_77 : decode c_P_step 77 = .ok (.ireturn, 1) := by decide +kernel
theorem d_P_step_78 : decode c_P_step 78 = .ok (.aload_n 0, 1) := by decide +kernel
theorem d_P_step_79 : decode c_P_step 79 = .ok (.iconst 1, 1) := by decide +kernel
theorem d_P_step_80 : decode c_P_step 80 = .ok (.iconst 3, 1) := by decide +kernel
theorem d_P_step_81 : decode c_P_step 81 = .ok (.iconst 0, 1) := by decide +kernel
theorem d_P_step_82 : decode c_P_step 82 = .ok (.invokevirtual 51, 3) := by decide +kernel
theorem d_P_step_85 : decode c_P_step 85 = .ok (.ireturn, 1) := by decide +kernel
theorem d_P_step_86 : decode c_P_step 86 = .ok (.aload_n 0, 1) := by decide +kernel
theorem d_P_step_87 : decode c_P_step 87 = .ok (.invokevirtual 55, 3) := by decide +kernel
theorem d_P_step_90 : decode c_P_step 90 = .ok (.ireturn, 1) := by decide +kernel
theorem d_P_step_91 : decode c_P_step 91 = .ok (.aload_n 0, 1) := by decide +kernel
theorem d_P_step_92 : decode c_P_step 92 = .ok (.invokevirtual 58, 3) := by decide +kernel
theorem d_P_step_95 : decode c_P_step 95 = .ok (.ireturn, 1) := by decide +kernel
theorem d_P_step_96 : decode c_P_step 96 = .ok (.aload_n 0, 1) := by decide +kernel
theorem d_P_step_97 : decode c_P_step 97 = .ok (.iconst 2, 1) := by decide +kernel
theorem d_P_step_98 : decode c_P_step 98 = .ok (.bipush 6, 2) := by decide +kernel
theorem d_P_step_100 : decode c_P_step 100 = .ok (.invokevirtual 61, 3) := by decide +kernel
theorem d_P_step_103 : decode c_P_step 103 = .ok (.ireturn, 1) := by decide +kernel
theorem d_P_step_104 : decode c_P_step 104 = .ok (.aload_n 0, 1) := by decide +kernel
theorem d_P_step_105 : decode c_P_step 105 = .ok (.getfield 9, 3) := by decide +kernel
theorem d_P_step_108 : decode c_P_step 108 = .ok (.getfield 38, 3) := by decide +kernel
theorem d_P_step_111 : decode c_P_step 111 = .ok (.iconst 5, 1) := by decide +kernel
theorem d_P_step_112 : decode c_P_step 112 = .ok (.if_icmp .ne 12, 3) := by decide +kernel
theorem d_P_step_115 : decode c_P_step 115 = .ok (.aload_n 0, 1) := by decide +kernel
theorem d_P_step_116 : decode c_P_step 116 = .ok (.bipush 10, 2) := by decide +kernel
theorem d_P_step_118 : decode c_P_step 118 = .ok (.invokevirtual 65, 3) := by decide +kernel
theorem d_P_step_121 : decode c_P_step 121 = .ok (.goto 7, 3) := by decide +kernel
theorem d_P_step_124 : decode c_P_step 124 = .ok (.aload_n 0, 1) := by decide +kernel
theorem d_P_step_125 : decode c_P_step 125 = .ok (.invokevirtual 69, 3) := by decide +kernel
theorem d_P_step_128 : decode c_P_step 128 = .ok (.ireturn, 1) := by decide +kernel
theorem d_P_step_129 : decode c_P_step 129 = .ok (.aload_n 0, 1) := by decide +kernel
theorem d_P_step_130 : decode c_P_step 130 = .ok (.invokevirtual 69, 3) := by decide +kernel
theorem d_P_step_133 : decode c_P_step 133 = .ok (.ireturn, 1) := by decide +kernel
theorem d_P_step_134 : decode c_P_step 134 = .ok (.aload_n 0, 1) := by decide +kernel
theorem d_P_step_135 : decode c_P_step 135 = .ok (.invokevirtual 72, 3) := by decide +kernel
theorem d_P_step_138 : decode c_P_step 138 = .ok (.ireturn, 1) := by decide +kernel
theorem d_P_step_139 : decode c_P_step 139 = .ok (.aload_n 0, 1) := by decide +kernel
theorem d_P_step_140 : decode c_P_step 140 = .ok (.bipush 7, 2) := by decide +kernel
theorem d_P_step_142 : decode c_P_step 142 = .ok (.iconst 5, 1) := by decide +kernel
theorem d_P_step_143 : decode c_P_step 143 = .ok (.bipush 10, 2) := by decide +kernel
theorem d_P_step_145 : decode c_P_step 145 = .ok (.invokevirtual 51, 3) := by decide +kernel
theorem d_P_step_148 : decode c_P_step 148 = .ok (.ireturn, 1) := by decide +kernel
theorem d_P_step_149 : decode c_P_step 149 = .ok (.aload_n 0, 1) := by decide +kernel
theorem d_P_step_150 : decode c_P_step 150 = .ok (.invokevirtual 75, 3) := by decide +kernel
theorem d_P_step_153 : decode c_P_step 153 = .ok (.ireturn, 1) := by decide +kernel
theorem d_P_step_154 : decode c_P_step 154 = .ok (.aload_n 0, 1) := by decide +kernel
theorem d_P_step_155 : decode c_P_step 155 = .ok (.invokevirtual 78, 3) := by decide +kernel
theorem d_P_step_158 : decode c_P_step 158 = .ok (.ireturn, 1) := by decide +kernel
theorem d_P_step_159 : decode c_P_step 159 = .ok (.aload_n 0, 1) := by decide +kernel
theorem d_P_step_160 : decode c_P_step 160 = .ok (.iconst 3, 1) := by decide +kernel
theorem d_P_step_161 : decode c_P_step 161 = .ok (.iconst 0, 1) := by decide +kernel
theorem d_P_step_162 : decode c_P_step 162 = .ok (.invokevirtual 61, 3) := by decide +kernel
theorem d_P_step_165 : decode c_P_step 165 = .ok (.ireturn, 1) := by decide +kernel
theorem d_P_beginStatement_0 : decode c_P_beginStatement 0 = .ok (.aload_n 0, 1) := by decide +kernel
theorem d_P_beginStatement_1 : decode c_P_beginStatement 1 = .ok (.getfield 9, 3) := by decide +kernel
theorem d_P_beginStatement_4 : decode c_P_beginStatement 4 = .ok (.getfield 38, 3) := by decide +kernel
theorem d_P_beginStatement_7 : decode c_P_beginStatement 7 = .ok (.tableswitch 74 7 12 #[37, 43, 49, 55, 61, 67], 37) := by decide +kernel
theorem d_P_beginStatement_44 : decode c_P_beginStatement 44 = .ok (.aload_n 0, 1) := by decide +kernel
theorem d_P_beginStatement_45 : decode c_P_beginStatement 45 = .ok (.iconst 0, 1) := by decide +kernel
theorem d_P_beginStatement_46 : decode c_P_beginStatement 46 = .ok (.invokevirtual 83, 3) := by decide +kernel
theorem d_P_beginStatement_49 : decode c_P_beginStatement 49 = .ok (.ireturn, 1) := by decide +kernel
theorem d_P_beginStatement_50 : decode c_P_beginStatement 50 = .ok (.aload_n 0, 1) := by decide +kernel
theorem d_P_beginStatement_51 : decode c_P_beginStatement 51 = .ok (.iconst 1, 1) := by decide +kernel
theorem d_P_beginStatement_52 : decode c_P_beginStatement 52 = .ok (.invokevirtual 83, 3) := by decide +kernel
theorem d_P_beginStatement_55 : decode c_P_beginStatement 55 = .ok (.ireturn, 1) := by decide +kernel
theorem d_P_beginStatement_56 : decode c_P_beginStatement 56 = .ok (.aload_n 0, 1) := by decide +kernel
theorem d_P_beginStatement_57 : decode c_P_beginStatement 57 = .ok (.iconst 2, 1) := by decide +kernel
theorem d_P_beginStatement_58 : decode c_P_beginStatement 58 = .ok (.invokevirtual 83, 3) := by decide +kernel
theorem d_P_beginStatement_61 : decode c_P_beginStatement 61 = .ok (.ireturn, 1) := by decide +kernel
theorem d_P_beginStatement_62 : decode c_P_beginStatement 62 = .ok (.aload_n 0, 1) := by decide +kernel
theorem d_P_beginStatement_63 : decode c_P_beginStatement 63 = .ok (.iconst 0, 1) := by decide +kernel
theorem d_P_beginStatement_64 : decode c_P_beginStatement 64 = .ok (.invokevirtual 86, 3) := by decide +kernel
theorem d_P_beginStatement_67 : decode c_P_beginStatement 67 = .ok (.ireturn, 1) := by decide +kernel
theorem d_P_beginStatement_68 : decode c_P_beginStatement 68 = .ok (.aload_n 0, 1) := by decide +kernel
theorem d_P_beginStatement_69 : decode c_P_beginStatement 69 = .ok (.iconst 1, 1) := by decide +kernel
theorem d_P_beginStatement_70 : decode c_P_beginStatement 70 = .ok (.invokevirtual 86, 3) := by decide +kernel
theorem d_P_beginStatement_73 : decode c_P_beginStatement 73 = .ok (.ireturn, 1) := by decide +kernel
theorem d_P_beginStatement_74 : decode c_P_beginStatement 74 = .ok (.aload_n 0, 1) := by decide +kernel
theorem d_P_beginStatement_75 : decode c_P_beginStatement 75 = .ok (.bipush 11, 2) := by decide +kernel
theorem d_P_beginStatement_77 : decode c_P_beginStatement 77 = .ok (.invokevirtual 65, 3) := by decide +kernel
theorem d_P_beginStatement_80 : decode c_P_beginStatement 80 = .ok (.ireturn, 1) := by decide +kernel
theorem d_P_beginStatement_81 : decode c_P_beginStatement 81 = .ok (.aload_n 0, 1) := by decide +kernel
theorem d_P_beginStatement_82 : decode c_P_beginStatement 82 = .ok (.iconst 0, 1) := by decide +kernel
theorem d_P_beginStatement_83 : decode c_P_beginStatement 83 = .ok (.iconst 0, 1) := by decide +kernel
theorem d_P_beginStatement_84 : decode c_P_beginStatement 84 = .ok (.invokevirtual 61, 3) := by decide +kernel
theorem d_P_beginStatement_87 : decode c_P_beginStatement 87 = .ok (.ireturn, 1) := by decide +kernel
theorem d_P_beginNames_0 : decode c_P_beginNames 0 = .ok (.aload_n 0, 1) := by decide +kernel
theorem d_P_beginNames_1 : decode c_P_beginNames 1 = .ok (.iload_n 1, 1) := by decide +kernel
theorem d_P_beginNames_2 : decode c_P_beginNames 2 = .ok (.putfield 90, 3) := by decide +kernel
theorem d_P_beginNames_5 : decode c_P_beginNames 5 = .ok (.aload_n 0, 1) := by decide +kernel
theorem d_P_beginNames_6 : decode c_P_beginNames 6 = .ok (.iconst 1, 1) := by decide +kernel
theorem d_P_beginNames_7 : decode c_P_beginNames 7 = .ok (.invokevirtual 65, 3) := by decide +kernel
theorem d_P_beginNames_10 : decode c_P_beginNames 10 = .ok (.ireturn, 1) := by decide +kernel
theorem d_P_goOn_0 : decode c_P_goOn 0 = .ok (.aload_n 0, 1) := by decide +kernel
theorem d_P_goOn_1 : decode c_P_goOn 1 = .ok (.iload_n 1, 1) := by decide +kernel
theorem d_P_goOn_2 : decode c_P_goOn 2 = .ok (.putfield 32, 3) := by decide +kernel
theorem d_P_goOn_5 : decode c_P_goOn 5 = .ok (.iconst 0, 1) := by decide +kernel
theorem d_P_goOn_6 : decode c_P_goOn 6 = .ok (.ireturn, 1) := by decide +kernel
theorem d_P_beginPair_0 : decode c_P_beginPair 0 = .ok (.aload_n 0, 1) := by decide +kernel
theorem d_P_beginPair_1 : decode c_P_beginPair 1 = .ok (.iload_n 1, 1) := by decide +kernel
theorem d_P_beginPair_2 : decode c_P_beginPair 2 = .ok (.putfield 93, 3) := by decide +kernel
theorem d_P_beginPair_5 : decode c_P_beginPair 5 = .ok (.aload_n 0, 1) := by decide +kernel
theorem d_P_beginPair_6 : decode c_P_beginPair 6 = .ok (.iconst 0, 1) := by decide +kernel
theorem d_P_beginPair_7 : decode c_P_beginPair 7 = .ok (.putfield 97, 3) := by decide +kernel
theorem d_P_beginPair_10 : decode c_P_beginPair 10 = .ok (.aload_n 0, 1) := by decide +kernel
theorem d_P_beginPair_11 : decode c_P_beginPair 11 = .ok (.iconst 3, 1) := by decide +kernel
theorem d_P_beginPair_12 : decode c_P_beginPair 12 = .ok (.invokevirtual 65, 3) := by decide +kernel
theorem d_P_beginPair_15 : decode c_P_beginPair 15 = .ok (.ireturn, 1) := by decide +kernel
theorem d_P_want_0 : decode c_P_want 0 = .ok (.aload_n 0, 1) := by decide +kernel
theorem d_P_want_1 : decode c_P_want 1 = .ok (.getfield 9, 3) := by decide +kernel
theorem d_P_want_4 : decode c_P_want 4 = .ok (.getfield 38, 3) := by decide +kernel
theorem d_P_want_7 : decode c_P_want 7 = .ok (.iload_n 1, 1) := by decide +kernel
theorem d_P_want_8 : decode c_P_want 8 = .ok (.if_icmp .ne 11, 3) := by decide +kernel
theorem d_P_want_11 : decode c_P_want 11 = .ok (.aload_n 0, 1) := by decide +kernel
theorem d_P_want_12 : decode c_P_want 12 = .ok (.iload_n 2, 1) := by decide +kernel
theorem d_P_want_13 : decode c_P_want 13 = .ok (.invokevirtual 65, 3) := by decide +kernel
theorem d_P_want_16 : decode c_P_want 16 = .ok (.goto 4, 3) := by decide +kernel
theorem d_P_want_19 : decode c_P_want 19 = .ok (.iconst 2, 1) := by decide +kernel
theorem d_P_want_20 : decode c_P_want 20 = .ok (.ireturn, 1) := by decide +kernel
theorem d_P_takeNewName_0 : decode c_P_takeNewName 0 = .ok (.aload_n 0, 1) := by decide +kernel
theorem d_P_takeNewName_1 : decode c_P_takeNewName 1 = .ok (.getfield 9, 3) := by decide +kernel
theorem d_P_takeNewName_4 : decode c_P_takeNewName 4 = .ok (.getfield 38, 3) := by decide +kernel
theorem d_P_takeNewName_7 : decode c_P_takeNewName 7 = .ok (.bipush 6, 2) := by decide +kernel
theorem d_P_takeNewName_9 : decode c_P_takeNewName 9 = .ok (.if_icmp .eq 5, 3) := by decide +kernel
theorem d_P_takeNewName_12 : decode c_P_takeNewName 12 = .ok (.iconst 2, 1) := by decide +kernel
theorem d_P_takeNewName_13 : decode c_P_takeNewName 13 = .ok (.ireturn, 1) := by decide +kernel
theorem d_P_takeNewName_14 : decode c_P_takeNewName 14 = .ok (.aload_n 0, 1) := by decide +kernel
theorem d_P_takeNewName_15 : decode c_P_takeNewName 15 = .ok (.getfield 15, 3) := by decide +kernel
theorem d_P_takeNewName_18 : decode c_P_takeNewName 18 = .ok (.aload_n 0, 1) := by decide +kernel
theorem d_P_takeNewName_19 : decode c_P_takeNewName 19 = .ok (.getfield 90, 3) := by decide +kernel
theorem d_P_takeNewName_22 : decode c_P_takeNewName 22 = .ok (.invokevirtual 100, 3) := by decide +kernel
theorem d_P_takeNewName_25 : decode c_P_takeNewName 25 = .ok (.ifCond .eq 5, 3) := by decide +kernel
theorem d_P_takeNewName_28 : decode c_P_takeNewName 28 = .ok (.iconst 3, 1) := by decide +kernel
theorem d_P_takeNewName_29 : decode c_P_takeNewName 29 = .ok (.ireturn, 1) := by decide +kernel
theorem d_P_takeNewName_30 : decode c_P_takeNewName 30 = .ok (.aload_n 0, 1) := by decide +kernel
theorem d_P_takeNewName_31 : decode c_P_takeNewName 31 = .ok (.getfield 15, 3) := by decide +kernel
theorem d_P_takeNewName_34 : decode c_P_takeNewName 34 = .ok (.aload_n 0, 1) := by decide +kernel
theorem d_P_takeNewName_35 : decode c_P_takeNewName 35 = .ok (.getfield 9, 3) := by decide +kernel
theorem d_P_takeNewName_38 : decode c_P_takeNewName 38 = .ok (.invokevirtual 104, 3) := by decide +kernel
theorem d_P_takeNewName_41 : decode c_P_takeNewName 41 = .ok (.iconst (-1), 1) := by decide +kernel
theorem d_P_takeNewName_42 : decode c_P_takeNewName 42 = .ok (.if_icmp .eq 5, 3) := by decide +kernel
theorem d_P_takeNewName_45 : decode c_P_takeNewName 45 = .ok (.iconst 4, 1) := by decide +kernel
theorem d_P_takeNewName_46 : decode c_P_takeNewName 46 = .ok (.ireturn, 1) := by decide +kernel
theorem d_P_takeNewName_47 : decode c_P_takeNewName 47 = .ok (.aload_n 0, 1) := by decide +kernel
theorem d_P_takeNewName_48 : decode c_P_takeNewName 48 = .ok (.getfield 15, 3) := by decide +kernel
theorem d_P_takeNewName_51 : decode c_P_takeNewName 51 = .ok (.aload_n 0, 1) := by decide +kernel
theorem d_P_takeNewName_52 : decode c_P_takeNewName 52 = .ok (.getfield 90, 3) := by decide +kernel
theorem d_P_takeNewName_55 : decode c_P_takeNewName 55 = .ok (.aload_n 0, 1) := by decide +kernel
theorem d_P_takeNewName_56 : decode c_P_takeNewName 56 = .ok (.getfield 9, 3) := by decide +kernel
theorem d_P_takeNewName_59 : decode c_P_takeNewName 59 = .ok (.invokevirtual 108, 3) := by decide +kernel
theorem d_P_takeNewName_62 : decode c_P_takeNewName 62 = .ok (.aload_n 0, 1) := by decide +kernel
theorem d_P_takeNewName_63 : decode c_P_takeNewName 63 = .ok (.iconst 2, 1) := by decide +kernel
theorem d_P_takeNewName_64 : decode c_P_takeNewName 64 = .ok (.invokevirtual 65, 3) := by decide +kernel
theorem d_P_takeNewName_67 : decode c_P_takeNewName 67 = .ok (.ireturn, 1) := by decide +kernel
theorem d_N_isFull_0 : decode c_N_isFull 0 = .ok (.iload_n 1, 1) := by decide +kernel
theorem d_N_isFull_1 : decode c_N_isFull 1 = .ok (.lookupswitch 61 #[(0, 27), (1, 44)], 27) := by decide +kernel
theorem d_N_isFull_28 : decode c_N_isFull 28 = .ok (.aload_n 0, 1) := by decide +kernel
theorem d_N_isFull_29 : decode c_N_isFull 29 = .ok (.getfield 19, 3) := by decide +kernel
theorem d_N_isFull_32 : decode c_N_isFull 32 = .ok (.iconst 0, 1) := by decide +kernel
theorem d_N_isFull_33 : decode c_N_isFull 33 = .ok (.iaload, 1) := by decide +kernel
theorem d_N_isFull_34 : decode c_N_isFull 34 = .ok (.bipush 16, 2) := by decide +kernel
theorem d_N_isFull_36 : decode c_N_isFull 36 = .ok (.if_icmp .lt 7, 3) := by decide +kernel
theorem d_N_isFull_39 : decode c_N_isFull 39 = .ok (.iconst 1, 1) := by decide +kernel
theorem d_N_isFull_40 : decode c_N_isFull 40 = .ok (.goto 4, 3) := by decide +kernel
theorem d_N_isFull_43 : decode c_N_isFull 43 = .ok (.iconst 0, 1) := by decide +kernel
theorem d_N_isFull_44 : decode c_N_isFull 44 = .ok (.ireturn, 1) := by decide +kernel
theorem d_N_isFull_45 : decode c_N_isFull 45 = .ok (.aload_n 0, 1) := by decide +kernel
theorem d_N_isFull_46 : decode c_N_isFull 46 = .ok (.getfield 19, 3) := by decide +kernel
theorem d_N_isFull_49 : decode c_N_isFull 49 = .ok (.iconst 1, 1) := by decide +kernel
theorem d_N_isFull_50 : decode c_N_isFull 50 = .ok (.iaload, 1) := by decide +kernel
theorem d_N_isFull_51 : decode c_N_isFull 51 = .ok (.bipush 8, 2) := by decide +kernel
theorem d_N_isFull_53 : decode c_N_isFull 53 = .ok (.if_icmp .lt 7, 3) := by decide +kernel
theorem d_N_isFull_56 : decode c_N_isFull 56 = .ok (.iconst 1, 1) := by decide +kernel
theorem d_N_isFull_57 : decode c_N_isFull 57 = .ok (.goto 4, 3) := by decide +kernel
theorem d_N_isFull_60 : decode c_N_isFull 60 = .ok (.iconst 0, 1) := by decide +kernel
theorem d_N_isFull_61 : decode c_N_isFull 61 = .ok (.ireturn, 1) := by decide +kernel
theorem d_N_isFull_62 : decode c_N_isFull 62 = .ok (.aload_n 0, 1) := by decide +kernel
theorem d_N_isFull_63 : decode c_N_isFull 63 = .ok (.getfield 19, 3) := by decide +kernel
theorem d_N_isFull_66 : decode c_N_isFull 66 = .ok (.iconst 2, 1) := by decide +kernel
theorem d_N_isFull_67 : decode c_N_isFull 67 = .ok (.iaload, 1) := by decide +kernel
theorem d_N_isFull_68 : decode c_N_isFull 68 = .ok (.bipush 16, 2) := by decide +kernel
theorem d_N_isFull_70 : decode c_N_isFull 70 = .ok (.if_icmp .lt 7, 3) := by decide +kernel
theorem d_N_isFull_73 : decode c_N_isFull 73 = .ok (.iconst 1, 1) := by decide +kernel
theorem d_N_isFull_74 : decode c_N_isFull 74 = .ok (.goto 4, 3) := by decide +kernel
theorem d_N_isFull_77 : decode c_N_isFull 77 = .ok (.iconst 0, 1) := by decide +kernel
theorem d_N_isFull_78 : decode c_N_isFull 78 = .ok (.ireturn, 1) := by decide +kernel
theorem d_N_slotOf_0 : decode c_N_slotOf 0 = .ok (.iconst 0, 1) := by decide +kernel
theorem d_N_slotOf_1 : decode c_N_slotOf 1 = .ok (.istore_n 2, 1) := by decide +kernel
theorem d_N_slotOf_2 : decode c_N_slotOf 2 = .ok (.iload_n 2, 1) := by decide +kernel
theorem d_N_slotOf_3 : decode c_N_slotOf 3 = .ok (.bipush 40, 2) := by decide +kernel
theorem d_N_slotOf_5 : decode c_N_slotOf 5 = .ok (.if_icmp .ge 38, 3) := by decide +kernel
theorem d_N_slotOf_8 : decode c_N_slotOf 8 = .ok (.aload_n 0, 1) := by decide +kernel
theorem d_N_slotOf_9 : decode c_N_slotOf 9 = .ok (.getfield 15, 3) := by decide +kernel
theorem d_N_slotOf_12 : decode c_N_slotOf 12 = .ok (.iload_n 2, 1) := by decide +kernel
theorem d_N_slotOf_13 : decode c_N_slotOf 13 = .ok (.iaload, 1) := by decide +kernel
theorem d_N_slotOf_14 : decode c_N_slotOf 14 = .ok (.aload_n 1, 1) := by decide +kernel
theorem d_N_slotOf_15 : decode c_N_slotOf 15 = .ok (.getfield 32, 3) := by decide +kernel
theorem d_N_slotOf_18 : decode c_N_slotOf 18 = .ok (.aload_n 1, 1) := by decide +kernel
theorem d_N_slotOf_19 : decode c_N_slotOf 19 = .ok (.getfield 38, 3) := by decide +kernel
theorem d_N_slotOf_22 : decode c_N_slotOf 22 = .ok (.isub, 1) := by decide +kernel
theorem d_N_slotOf_23 : decode c_N_slotOf 23 = .ok (.if_icmp .ne 14, 3) := by decide +kernel
theorem d_N_slotOf_26 : decode c_N_slotOf 26 = .ok (.aload_n 0, 1) := by decide +kernel
theorem d_N_slotOf_27 : decode c_N_slotOf 27 = .ok (.iload_n 2, 1) := by decide +kernel
theorem d_N_slotOf_28 : decode c_N_slotOf 28 = .ok (.aload_n 1, 1) := by decide +kernel
theorem d_N_slotOf_29 : decode c_N_slotOf 29 = .ok (.invokevirtual 50, 3) := by decide +kernel
theorem d_N_slotOf_32 : decode c_N_slotOf 32 = .ok (.ifCond .eq 5, 3) := by decide +kernel
theorem d_N_slotOf_35 : decode c_N_slotOf 35 = .ok (.iload_n 2, 1) := by decide +kernel
theorem d_N_slotOf_36 : decode c_N_slotOf 36 = .ok (.ireturn, 1) := by decide +kernel
theorem d_N_slotOf_37 : decode c_N_slotOf 37 = .ok (.iinc 2 1, 3) := by decide +kernel
theorem d_N_slotOf_40 : decode c_N_slotOf 40 = .ok (.goto (-38), 3) := by decide +kernel
theorem d_N_slotOf_43 : decode c_N_slotOf 43 = .ok (.iconst (-1), 1) := by decide +kernel
theorem d_N_slotOf_44 : decode c_N_slotOf 44 = .ok (.ireturn, 1) := by decide +kernel
theorem d_N_isSame_0 : decode c_N_isSame 0 = .ok (.iconst 0, 1) := by decide +kernel
theorem d_N_isSame_1 : decode c_N_isSame 1 = .ok (.istore_n 3, 1) := by decide +kernel
theorem d_N_isSame_2 : decode c_N_isSame 2 = .ok (.iload_n 3, 1) := by decide +kernel
theorem d_N_isSame_3 : decode c_N_isSame 3 = .ok (.aload_n 0, 1) := by decide +kernel
theorem d_N_isSame_4 : decode c_N_isSame 4 = .ok (.getfield 15, 3) := by decide +kernel
theorem d_N_isSame_7 : decode c_N_isSame 7 = .ok (.iload_n 1, 1) := by decide +kernel
theorem d_N_isSame_8 : decode c_N_isSame 8 = .ok (.iaload, 1) := by decide +kernel
theorem d_N_isSame_9 : decode c_N_isSame 9 = .ok (.if_icmp .ge 39, 3) := by decide +kernel
theorem d_N_isSame_12 : decode c_N_isSame 12 = .ok (.aload_n 0, 1) := by decide +kernel
theorem d_N_isSame_13 : decode c_N_isSame 13 = .ok (.getfield 11, 3) := by decide +kernel
theorem d_N_isSame_16 : decode c_N_isSame 16 = .ok (.iload_n 1, 1) := by decide +kernel
theorem d_N_isSame_17 : decode c_N_isSame 17 = .ok (.bipush 12, 2) := by decide +kernel
theorem d_N_isSame_19 : decode c_N_isSame 19 = .ok (.imul, 1) := by decide +kernel
theorem d_N_isSame_20 : decode c_N_isSame 20 = .ok (.iload_n 3, 1) := by decide +kernel
theorem d_N_isSame_21 : decode c_N_isSame 21 = .ok (.iadd, 1) := by decide +kernel
theorem d_N_isSame_22 : decode c_N_isSame 22 = .ok (.baload, 1) := by decide +kernel
theorem d_N_isSame_23 : decode c_N_isSame 23 = .ok (.aload_n 2, 1) := by decide +kernel
theorem d_N_isSame_24 : decode c_N_isSame 24 = .ok (.getfield 41, 3) := by decide +kernel
theorem d_N_isSame_27 : decode c_N_isSame 27 = .ok (.getfield 45, 3) := by decide +kernel
theorem d_N_isSame_30 : decode c_N_isSame 30 = .ok (.aload_n 2, 1) := by decide +kernel
theorem d_N_isSame_31 : decode c_N_isSame 31 = .ok (.getfield 38, 3) := by decide +kernel
theorem d_N_isSame_34 : decode c_N_isSame 34 = .ok (.iload_n 3, 1) := by decide +kernel
theorem d_N_isSame_35 : decode c_N_isSame 35 = .ok (.iadd, 1) := by decide +kernel
theorem d_N_isSame_36 : decode c_N_isSame 36 = .ok (.baload, 1) := by decide +kernel
theorem d_N_isSame_37 : decode c_N_isSame 37 = .ok (.if_icmp .eq 5, 3) := by decide +kernel
theorem d_N_isSame_40 : decode c_N_isSame 40 = .ok (.iconst 0, 1) := by decide +kernel
theorem d_N_isSame_41 : decode c_N_isSame 41 = .ok (.ireturn, 1) := by decide +kernel
theorem d_N_isSame_42 : decode c_N_isSame 42 = .ok (.iinc 3 1, 3) := by decide +kernel
theorem d_N_isSame_45 : decode c_N_isSame 45 = .ok (.goto (-43), 3) := by decide +kernel
theorem d_N_isSame_48 : decode c_N_isSame 48 = .ok (.iconst 1, 1) := by decide +kernel
theorem d_N_isSame_49 : decode c_N_isSame 49 = .ok (.ireturn, 1) := by decide +kernel
theorem d_N_tell_0 : decode c_N_tell 0 = .ok (.aload_n 0, 1) := by decide +kernel
theorem d_N_tell_1 : decode c_N_tell 1 = .ok (.iload_n 1, 1) := by decide +kernel
theorem d_N_tell_2 : decode c_N_tell 2 = .ok (.invokevirtual 28, 3) := by decide +kernel
theorem d_N_tell_5 : decode c_N_tell 5 = .ok (.istore_n 3, 1) := by decide +kernel
theorem d_N_tell_6 : decode c_N_tell 6 = .ok (.aload_n 2, 1) := by decide +kernel
theorem d_N_tell_7 : decode c_N_tell 7 = .ok (.getfield 32, 3) := by decide +kernel
theorem d_N_tell_10 : decode c_N_tell 10 = .ok (.aload_n 2, 1) := by decide +kernel
theorem d_N_tell_11 : decode c_N_tell 11 = .ok (.getfield 38, 3) := by decide +kernel
theorem d_N_tell_14 : decode c_N_tell 14 = .ok (.isub, 1) := by decide +kernel
theorem d_N_tell_15 : decode c_N_tell 15 = .ok (.istore 4, 2) := by decide +kernel
theorem d_N_tell_17 : decode c_N_tell 17 = .ok (.iconst 0, 1) := by decide +kernel
theorem d_N_tell_18 : decode c_N_tell 18 = .ok (.istore 5, 2) := by decide +kernel
theorem d_N_tell_20 : decode c_N_tell 20 = .ok (.iload 5, 2) := by decide +kernel
theorem d_N_tell_22 : decode c_N_tell 22 = .ok (.iload 4, 2) := by decide +kernel
theorem d_N_tell_24 : decode c_N_tell 24 = .ok (.if_icmp .ge 43, 3) := by decide +kernel
theorem d_N_tell_27 : decode c_N_tell 27 = .ok (.iload 5, 2) := by decide +kernel
theorem d_N_tell_29 : decode c_N_tell 29 = .ok (.bipush 12, 2) := by decide +kernel
theorem d_N_tell_31 : decode c_N_tell 31 = .ok (.if_icmp .ge 36, 3) := by decide +kernel
theorem d_N_tell_34 : decode c_N_tell 34 = .ok (.aload_n 0, 1) := by decide +kernel
theorem d_N_tell_35 : decode c_N_tell 35 = .ok (.getfield 11, 3) := by decide +kernel
theorem d_N_tell_38 : decode c_N_tell 38 = .ok (.iload_n 3, 1) := by decide +kernel
theorem d_N_tell_39 : decode c_N_tell 39 = .ok (.bipush 12, 2) := by decide +kernel
theorem d_N_tell_41 : decode c_N_tell 41 = .ok (.imul, 1) := by decide +kernel
theorem d_N_tell_42 : decode c_N_tell 42 = .ok (.iload 5, 2) := by decide +kernel
theorem d_N_tell_44 : decode c_N_tell 44 = .ok (.iadd, 1) := by decide +kernel
theorem d_N_tell_45 : decode c_N_tell 45 = .ok (.aload_n 2, 1) := by decide +kernel
theorem d_N_tell_46 : decode c_N_tell 46 = .ok (.getfield 41, 3) := by decide +kernel
theorem d_N_tell_49 : decode c_N_tell 49 = .ok (.getfield 45, 3) := by decide +kernel
theorem d_N_tell_52 : decode c_N_tell 52 = .ok (.aload_n 2, 1) := by decide +kernel
theorem d_N_tell_53 : decode c_N_tell 53 = .ok (.getfield 38, 3) := by decide +kernel
theorem d_N_tell_56 : decode c_N_tell 56 = .ok (.iload 5, 2) := by decide +kernel
theorem d_N_tell_58 : decode c_N_tell 58 = .ok (.iadd, 1) := by decide +kernel
theorem d_N_tell_59 : decode c_N_tell 59 = .ok (.baload, 1) := by decide +kernel
theorem d_N_tell_60 : decode c_N_tell 60 = .ok (.bastore, 1) := by decide +kernel
theorem d_N_tell_61 : decode c_N_tell 61 = .ok (.iinc 5 1, 3) := by decide +kernel
theorem d_N_tell_64 : decode c_N_tell 64 = .ok (.goto (-44), 3) := by decide +kernel
theorem d_N_tell_67 : decode c_N_tell 67 = .ok (.aload_n 0, 1) := by decide +kernel
theorem d_N_tell_68 : decode c_N_tell 68 = .ok (.getfield 15, 3) := by decide +kernel
theorem d_N_tell_71 : decode c_N_tell 71 = .ok (.iload_n 3, 1) := by decide +kernel
theorem d_N_tell_72 : decode c_N_tell 72 = .ok (.iload 4, 2) := by decide +kernel
theorem d_N_tell_74 : decode c_N_tell 74 = .ok (.iastore, 1) := by decide +kernel
theorem d_N_tell_75 : decode c_N_tell 75 = .ok (.aload_n 0, 1) := by decide +kernel
theorem d_N_tell_76 : decode c_N_tell 76 = .ok (.getfield 19, 3) := by decide +kernel
theorem d_N_tell_79 : decode c_N_tell 79 = .ok (.iload_n 1, 1) := by decide +kernel
theorem d_N_tell_80 : decode c_N_tell 80 = .ok (.dup2, 1) := by decide +kernel
theorem d_N_tell_81 : decode c_N_tell 81 = .ok (.iaload, 1) := by decide +kernel
theorem d_N_tell_82 : decode c_N_tell 82 = .ok (.iconst 1, 1) := by decide +kernel
theorem d_N_tell_83 : decode c_N_tell 83 = .ok (.iadd, 1) := by decide +kernel
theorem d_N_tell_84 : decode c_N_tell 84 = .ok (.iastore, 1) := by decide +kernel
theorem d_N_tell_85 : decode c_N_tell 85 = .ok (.return_, 1) := by decide +kernel
theorem d_N_slotBehindLast_0 : decode c_N_slotBehindLast 0 = .ok (.iload_n 1, 1) := by decide +kernel
theorem d_N_slotBehindLast_1 : decode c_N_slotBehindLast 1 = .ok (.lookupswitch 44 #[(0, 27), (1, 34)], 27) := by decide +kernel
theorem d_N_slotBehindLast_28 : decode c_N_slotBehindLast 28 = .ok (.aload_n 0, 1) := by decide +kernel
theorem d_N_slotBehindLast_29 : decode c_N_slotBehindLast 29 = .ok (.getfield 19, 3) := by decide +kernel
theorem d_N_slotBehindLast_32 : decode c_N_slotBehindLast 32 = .ok (.iconst 0, 1) := by decide +kernel
theorem d_N_slotBehindLast_33 : decode c_N_slotBehindLast 33 = .ok (.iaload, 1) := by decide +kernel
theorem d_N_slotBehindLast_34 : decode c_N_slotBehindLast 34 = .ok (.ireturn, 1) := by decide +kernel
theorem d_N_slotBehindLast_35 : decode c_N_slotBehindLast 35 = .ok (.bipush 16, 2) := by decide +kernel
theorem d_N_slotBehindLast_37 : decode c_N_slotBehindLast 37 = .ok (.aload_n 0, 1) := by decide +kernel
theorem d_N_slotBehindLast_38 : decode c_N_slotBehindLast 38 = .ok (.getfield 19, 3) := by decide +kernel
theorem d_N_slotBehindLast_41 : decode c_N_slotBehindLast 41 = .ok (.iconst 1, 1) := by decide +kernel
theorem d_N_slotBehindLast_42 : decode c_N_slotBehindLast 42 = .ok (.iaload, 1) := by decide +kernel
theorem d_N_slotBehindLast_43 : decode c_N_slotBehindLast 43 = .ok (.iadd, 1) := by decide +kernel
theorem d_N_slotBehindLast_44 : decode c_N_slotBehindLast 44 = .ok (.ireturn, 1) := by decide +kernel
theorem d_N_slotBehindLast_45 : decode c_N_slotBehindLast 45 = .ok (.bipush 24, 2) := by decide +kernel
theorem d_N_slotBehindLast_47 : decode c_N_slotBehindLast 47 = .ok (.aload_n 0, 1) := by decide +kernel
theorem d_N_slotBehindLast_48 : decode c_N_slotBehindLast 48 = .ok (.getfield 19, 3) := by decide +kernel
theorem d_N_slotBehindLast_51 : decode c_N_slotBehindLast 51 = .ok (.iconst 2, 1) := by decide +kernel
theorem d_N_slotBehindLast_52 : decode c_N_slotBehindLast 52 = .ok (.iaload, 1) := by decide +kernel
theorem d_N_slotBehindLast_53 : decode c_N_slotBehindLast 53 = .ok (.iadd, 1) := by decide +kernel
theorem d_N_slotBehindLast_54 : decode c_N_slotBehindLast 54 = .ok (.ireturn, 1) := by decide +kernel
theorem d_P_commaOr_0 : decode c_P_commaOr 0 = .ok (.aload_n 0, 1) := by decide +kernel
theorem d_P_commaOr_1 : decode c_P_commaOr 1 = .ok (.getfield 9, 3) := by decide +kernel
theorem d_P_commaOr_4 : decode c_P_commaOr 4 = .ok (.getfield 38, 3) := by decide +kernel
theorem d_P_commaOr_7 : decode c_P_commaOr 7 = .ok (.iconst 4, 1) := by decide +kernel
theorem d_P_commaOr_8 : decode c_P_commaOr 8 = .ok (.if_icmp .ne 11, 3) := by decide +kernel
theorem d_P_commaOr_11 : decode c_P_commaOr 11 = .ok (.aload_n 0, 1) := by decide +kernel
theorem d_P_commaOr_12 : decode c_P_commaOr 12 = .ok (.iload_n 1, 1) := by decide +kernel
theorem d_P_commaOr_13 : decode c_P_commaOr 13 = .ok (.invokevirtual 65, 3) := by decide +kernel
theorem d_P_commaOr_16 : decode c_P_commaOr 16 = .ok (.goto 9, 3) := by decide +kernel
theorem d_P_commaOr_19 : decode c_P_commaOr 19 = .ok (.aload_n 0, 1) := by decide +kernel
theorem d_P_commaOr_20 : decode c_P_commaOr 20 = .ok (.iload_n 2, 1) := by decide +kernel
theorem d_P_commaOr_21 : decode c_P_commaOr 21 = .ok (.iload_n 3, 1) := by decide +kernel
theorem d_P_commaOr_22 : decode c_P_commaOr 22 = .ok (.invokevirtual 61, 3) := by decide +kernel
theorem d_P_commaOr_25 : decode c_P_commaOr 25 = .ok (.ireturn, 1) := by decide +kernel
theorem d_P_takePairState_0 : decode c_P_takePairState 0 = .ok (.aload_n 0, 1) := by decide +kernel
theorem d_P_takePairState_1 : decode c_P_takePairState 1 = .ok (.iconst 0, 1) := by decide +kernel
theorem d_P_takePairState_2 : decode c_P_takePairState 2 = .ok (.iconst 0, 1) := by decide +kernel
theorem d_P_takePairState_3 : decode c_P_takePairState 3 = .ok (.invokevirtual 118, 3) := by decide +kernel
theorem d_P_takePairState_6 : decode c_P_takePairState 6 = .ok (.istore_n 1, 1) := by decide +kernel
theorem d_P_takePairState_7 : decode c_P_takePairState 7 = .ok (.iload_n 1, 1) := by decide +kernel
theorem d_P_takePairState_8 : decode c_P_takePairState 8 = .ok (.ifCond .eq 5, 3) := by decide +kernel
theorem d_P_takePairState_11 : decode c_P_takePairState 11 = .ok (.iload_n 1, 1) := by decide +kernel
theorem d_P_takePairState_12 : decode c_P_takePairState 12 = .ok (.ireturn, 1) := by decide +kernel
theorem d_P_takePairState_13 : decode c_P_takePairState 13 = .ok (.aload_n 0, 1) := by decide +kernel
theorem d_P_takePairState_14 : decode c_P_takePairState 14 = .ok (.aload_n 0, 1) := by decide +kernel
theorem d_P_takePairState_15 : decode c_P_takePairState 15 = .ok (.getfield 112, 3) := by decide +kernel
theorem d_P_takePairState_18 : decode c_P_takePairState 18 = .ok (.putfield 121, 3) := by decide +kernel
theorem d_P_takePairState_21 : decode c_P_takePairState 21 = .ok (.aload_n 0, 1) := by decide +kernel
theorem d_P_takePairState_22 : decode c_P_takePairState 22 = .ok (.iconst 4, 1) := by decide +kernel
theorem d_P_takePairState_23 : decode c_P_takePairState 23 = .ok (.invokevirtual 65, 3) := by decide +kernel
theorem d_P_takePairState_26 : decode c_P_takePairState 26 = .ok (.ireturn, 1) := by decide +kernel
theorem d_P_findName_0 : decode c_P_findName 0 = .ok (.aload_n 0, 1) := by decide +kernel
theorem d_P_findName_1 : decode c_P_findName 1 = .ok (.getfield 9, 3) := by decide +kernel
theorem d_P_findName_4 : decode c_P_findName 4 = .ok (.getfield 38, 3) := by decide +kernel
theorem d_P_findName_7 : decode c_P_findName 7 = .ok (.bipush 6, 2) := by decide +kernel
theorem d_P_findName_9 : decode c_P_findName 9 = .ok (.if_icmp .eq 5, 3) := by decide +kernel
theorem d_P_findName_12 : decode c_P_findName 12 = .ok (.iconst 2, 1) := by decide +kernel
theorem d_P_findName_13 : decode c_P_findName 13 = .ok (.ireturn, 1) := by decide +kernel
theorem d_P_findName_14 : decode c_P_findName 14 = .ok (.aload_n 0, 1) := by decide +kernel
theorem d_P_findName_15 : decode c_P_findName 15 = .ok (.aload_n 0, 1) := by decide +kernel
theorem d_P_findName_16 : decode c_P_findName 16 = .ok (.getfield 15, 3) := by decide +kernel
theorem d_P_findName_19 : decode c_P_findName 19 = .ok (.aload_n 0, 1) := by decide +kernel
theorem d_P_findName_20 : decode c_P_findName 20 = .ok (.getfield 9, 3) := by decide +kernel
theorem d_P_findName_23 : decode c_P_findName 23 = .ok (.invokevirtual 104, 3) := by decide +kernel
theorem d_P_findName_26 : decode c_P_findName 26 = .ok (.putfield 112, 3) := by decide +kernel
theorem d_P_findName_29 : decode c_P_findName 29 = .ok (.aload_n 0, 1) := by decide +kernel
theorem d_P_findName_30 : decode c_P_findName 30 = .ok (.getfield 112, 3) := by decide +kernel
theorem d_P_findName_33 : decode c_P_findName 33 = .ok (.iconst (-1), 1) := by decide +kernel
theorem d_P_findName_34 : decode c_P_findName 34 = .ok (.if_icmp .ne 5, 3) := by decide +kernel
theorem d_P_findName_37 : decode c_P_findName 37 = .ok (.iconst 5, 1) := by decide +kernel
theorem d_P_findName_38 : decode c_P_findName 38 = .ok (.ireturn, 1) := by decide +kernel
theorem d_P_findName_39 : decode c_P_findName 39 = .ok (.aload_n 0, 1) := by decide +kernel
theorem d_P_findName_40 : decode c_P_findName 40 = .ok (.getfield 112, 3) := by decide +kernel
theorem d_P_findName_43 : decode c_P_findName 43 = .ok (.invokestatic 115, 3) := by decide +kernel
theorem d_P_findName_46 : decode c_P_findName 46 = .ok (.istore_n 3, 1) := by decide +kernel
theorem d_P_findName_47 : decode c_P_findName 47 = .ok (.iload_n 3, 1) := by decide +kernel
theorem d_P_findName_48 : decode c_P_findName 48 = .ok (.iload_n 1, 1) := by decide +kernel
theorem d_P_findName_49 : decode c_P_findName 49 = .ok (.if_icmp .eq 8, 3) := by decide +kernel
theorem d_P_findName_52 : decode c_P_findName 52 = .ok (.iload_n 3, 1) := by decide +kernel
theorem d_P_findName_53 : decode c_P_findName 53 = .ok (.iload_n 2, 1) := by decide +kernel
theorem d_P_findName_54 : decode c_P_findName 54 = .ok (.if_icmp .ne 7, 3) := by decide +kernel
theorem d_P_findName_57 : decode c_P_findName 57 = .ok (.iconst 0, 1) := by decide +kernel
theorem d_P_findName_58 : decode c_P_findName 58 = .ok (.goto 5, 3) := by decide +kernel
theorem d_P_findName_61 : decode c_P_findName 61 = .ok (.bipush 6, 2) := by decide +kernel
theorem d_P_findName_63 : decode c_P_findName 63 = .ok (.ireturn, 1) := by decide +kernel
theorem d_N_sortOf_0 : decode c_N_sortOf 0 = .ok (.iload_n 0, 1) := by decide +kernel
theorem d_N_sortOf_1 : decode c_N_sortOf 1 = .ok (.bipush 16, 2) := by decide +kernel
theorem d_N_sortOf_3 : decode c_N_sortOf 3 = .ok (.if_icmp .ge 5, 3) := by decide +kernel
theorem d_N_sortOf_6 : decode c_N_sortOf 6 = .ok (.iconst 0, 1) := by decide +kernel
theorem d_N_sortOf_7 : decode c_N_sortOf 7 = .ok (.ireturn, 1) := by decide +kernel
theorem d_N_sortOf_8 : decode c_N_sortOf 8 = .ok (.iload_n 0, 1) := by decide +kernel
theorem d_N_sortOf_9 : decode c_N_sortOf 9 = .ok (.bipush 24, 2) := by decide +kernel
theorem d_N_sortOf_11 : decode c_N_sortOf 11 = .ok (.if_icmp .ge 7, 3) := by decide +kernel
theorem d_N_sortOf_14 : decode c_N_sortOf 14 = .ok (.iconst 1, 1) := by decide +kernel
theorem d_N_sortOf_15 : decode c_N_sortOf 15 = .ok (.goto 4, 3) := by decide +kernel
theorem d_N_sortOf_18 : decode c_N_sortOf 18 = .ok (.iconst 2, 1) := by decide +kernel
theorem d_N_sortOf_19 : decode c_N_sortOf 19 = .ok (.ireturn, 1) := by decide +kernel
theorem d_P_takePairEvent_0 : decode c_P_takePairEvent 0 = .ok (.aload_n 0, 1) := by decide +kernel
theorem d_P_takePairEvent_1 : decode c_P_takePairEvent 1 = .ok (.iconst 1, 1) := by decide +kernel
theorem d_P_takePairEvent_2 : decode c_P_takePairEvent 2 = .ok (.iconst 2, 1) := by decide +kernel
theorem d_P_takePairEvent_3 : decode c_P_takePairEvent 3 = .ok (.invokevirtual 118, 3) := by decide +kernel
theorem d_P_takePairEvent_6 : decode c_P_takePairEvent 6 = .ok (.istore_n 1, 1) := by decide +kernel
theorem d_P_takePairEvent_7 : decode c_P_takePairEvent 7 = .ok (.iload_n 1, 1) := by decide +kernel
theorem d_P_takePairEvent_8 : decode c_P_takePairEvent 8 = .ok (.ifCond .eq 5, 3) := by decide +kernel
theorem d_P_takePairEvent_11 : decode c_P_takePairEvent 11 = .ok (.iload_n 1, 1) := by decide +kernel
theorem d_P_takePairEvent_12 : decode c_P_takePairEvent 12 = .ok (.ireturn, 1) := by decide +kernel
theorem d_P_takePairEvent_13 : decode c_P_takePairEvent 13 = .ok (.aload_n 0, 1) := by decide +kernel
theorem d_P_takePairEvent_14 : decode c_P_takePairEvent 14 = .ok (.aload_n 0, 1) := by decide +kernel
theorem d_P_takePairEvent_15 : decode c_P_takePairEvent 15 = .ok (.getfield 121, 3) := by decide +kernel
theorem d_P_takePairEvent_18 : decode c_P_takePairEvent 18 = .ok (.aload_n 0, 1) := by decide +kernel
theorem d_P_takePairEvent_19 : decode c_P_takePairEvent 19 = .ok (.getfield 112, 3) := by decide +kernel
theorem d_P_takePairEvent_22 : decode c_P_takePairEvent 22 = .ok (.invokestatic 124, 3) := by decide +kernel
theorem d_P_takePairEvent_25 : decode c_P_takePairEvent 25 = .ok (.putfield 129, 3) := by decide +kernel
theorem d_P_takePairEvent_28 : decode c_P_takePairEvent 28 = .ok (.aload_n 0, 1) := by decide +kernel
theorem d_P_takePairEvent_29 : decode c_P_takePairEvent 29 = .ok (.getfield 19, 3) := by decide +kernel
theorem d_P_takePairEvent_32 : decode c_P_takePairEvent 32 = .ok (.getfield 132, 3) := by decide +kernel
theorem d_P_takePairEvent_35 : decode c_P_takePairEvent 35 = .ok (.aload_n 0, 1) := by decide +kernel
theorem d_P_takePairEvent_36 : decode c_P_takePairEvent 36 = .ok (.getfield 129, 3) := by decide +kernel
theorem d_P_takePairEvent_39 : decode c_P_takePairEvent 39 = .ok (.iaload, 1) := by decide +kernel
theorem d_P_takePairEvent_40 : decode c_P_takePairEvent 40 = .ok (.iconst (-1), 1) := by decide +kernel
theorem d_P_takePairEvent_41 : decode c_P_takePairEvent 41 = .ok (.if_icmp .eq 6, 3) := by decide +kernel
theorem d_P_takePairEvent_44 : decode c_P_takePairEvent 44 = .ok (.bipush 7, 2) := by decide +kernel
theorem d_P_takePairEvent_46 : decode c_P_takePairEvent 46 = .ok (.ireturn, 1) := by decide +kernel
theorem d_P_takePairEvent_47 : decode c_P_takePairEvent 47 = .ok (.aload_n 0, 1) := by decide +kernel
theorem d_P_takePairEvent_48 : decode c_P_takePairEvent 48 = .ok (.getfield 93, 3) := by decide +kernel
theorem d_P_takePairEvent_51 : decode c_P_takePairEvent 51 = .ok (.ifCond .eq 21, 3) := by decide +kernel
theorem d_P_takePairEvent_54 : decode c_P_takePairEvent 54 = .ok (.aload_n 0, 1) := by decide +kernel
theorem d_P_takePairEvent_55 : decode c_P_takePairEvent 55 = .ok (.getfield 19, 3) := by decide +kernel
theorem d_P_takePairEvent_58 : decode c_P_takePairEvent 58 = .ok (.aload_n 0, 1) := by decide +kernel
theorem d_P_takePairEvent_59 : decode c_P_takePairEvent 59 = .ok (.getfield 129, 3) := by decide +kernel
theorem d_P_takePairEvent_62 : decode c_P_takePairEvent 62 = .ok (.invokevirtual 136, 3) := by decide +kernel
theorem d_P_takePairEvent_65 : decode c_P_takePairEvent 65 = .ok (.aload_n 0, 1) := by decide +kernel
theorem d_P_takePairEvent_66 : decode c_P_takePairEvent 66 = .ok (.bipush 12, 2) := by decide +kernel
theorem d_P_takePairEvent_68 : decode c_P_takePairEvent 68 = .ok (.invokevirtual 65, 3) := by decide +kernel
theorem d_P_takePairEvent_71 : decode c_P_takePairEvent 71 = .ok (.ireturn, 1) := by decide +kernel
theorem d_P_takePairEvent_72 : decode c_P_takePairEvent 72 = .ok (.aload_n 0, 1) := by decide +kernel
theorem d_P_takePairEvent_73 : decode c_P_takePairEvent 73 = .ok (.iconst 5, 1) := by decide +kernel
theorem d_P_takePairEvent_74 : decode c_P_takePairEvent 74 = .ok (.invokevirtual 65, 3) := by decide +kernel
theorem d_P_takePairEvent_77 : decode c_P_takePairEvent 77 = .ok (.ireturn, 1) := by decide +kernel
theorem d_T_setNever_0 : decode c_T_setNever 0 = .ok (.aload_n 0, 1) := by decide +kernel
theorem d_T_setNever_1 : decode c_T_setNever 1 = .ok (.getfield 13, 3) := by decide +kernel
theorem d_T_setNever_4 : decode c_T_setNever 4 = .ok (.iload_n 1, 1) := by decide +kernel
theorem d_T_setNever_5 : decode c_T_setNever 5 = .ok (.bipush (-2), 2) := by decide +kernel
theorem d_T_setNever_7 : decode c_T_setNever 7 = .ok (.iastore, 1) := by decide +kernel
theorem d_T_setNever_8 : decode c_T_setNever 8 = .ok (.aload_n 0, 1) := by decide +kernel
theorem d_T_setNever_9 : decode c_T_setNever 9 = .ok (.dup, 1) := by decide +kernel
theorem d_T_setNever_10 : decode c_T_setNever 10 = .ok (.getfield 40, 3) := by decide +kernel
theorem d_T_setNever_13 : decode c_T_setNever 13 = .ok (.iconst 1, 1) := by decide +kernel
theorem d_T_setNever_14 : decode c_T_setNever 14 = .ok (.iadd, 1) := by decide +kernel
theorem d_T_setNever_15 : decode c_T_setNever 15 = .ok (.putfield 40, 3) := by decide +kernel
theorem d_T_setNever_18 : decode c_T_setNever 18 = .ok (.return_, 1) := by decide +kernel
theorem d_P_beginAction_0 : decode c_P_beginAction 0 = .ok (.aload_n 0, 1) := by decide +kernel
theorem d_P_beginAction_1 : decode c_P_beginAction 1 = .ok (.getfield 9, 3) := by decide +kernel
theorem d_P_beginAction_4 : decode c_P_beginAction 4 = .ok (.getfield 38, 3) := by decide +kernel
theorem d_P_beginAction_7 : decode c_P_beginAction 7 = .ok (.istore_n 1, 1) := by decide +kernel
theorem d_P_beginAction_8 : decode c_P_beginAction 8 = .ok (.iload_n 1, 1) := by decide +kernel
theorem d_P_beginAction_9 : decode c_P_beginAction 9 = .ok (.bipush 13, 2) := by decide +kernel
theorem d_P_beginAction_11 : decode c_P_beginAction 11 = .ok (.if_icmp .eq 17, 3) := by decide +kernel
theorem d_P_beginAction_14 : decode c_P_beginAction 14 = .ok (.iload_n 1, 1) := by decide +kernel
theorem d_P_beginAction_15 : decode c_P_beginAction 15 = .ok (.bipush 14, 2) := by decide +kernel
theorem d_P_beginAction_17 : decode c_P_beginAction 17 = .ok (.if_icmp .eq 11, 3) := by decide +kernel
theorem d_P_beginAction_20 : decode c_P_beginAction 20 = .ok (.iload_n 1, 1) := by decide +kernel
theorem d_P_beginAction_21 : decode c_P_beginAction 21 = .ok (.bipush 15, 2) := by decide +kernel
theorem d_P_beginAction_23 : decode c_P_beginAction 23 = .ok (.if_icmp .eq 5, 3) := by decide +kernel
theorem d_P_beginAction_26 : decode c_P_beginAction 26 = .ok (.iconst 2, 1) := by decide +kernel
theorem d_P_beginAction_27 : decode c_P_beginAction 27 = .ok (.ireturn, 1) := by decide +kernel
theorem d_P_beginAction_28 : decode c_P_beginAction 28 = .ok (.aload_n 0, 1) := by decide +kernel
theorem d_P_beginAction_29 : decode c_P_beginAction 29 = .ok (.getfield 97, 3) := by decide +kernel
theorem d_P_beginAction_32 : decode c_P_beginAction 32 = .ok (.iconst 4, 1) := by decide +kernel
theorem d_P_beginAction_33 : decode c_P_beginAction 33 = .ok (.if_icmp .lt 5, 3) := by decide +kernel
theorem d_P_beginAction_36 : decode c_P_beginAction 36 = .ok (.iconst 3, 1) := by decide +kernel
theorem d_P_beginAction_37 : decode c_P_beginAction 37 = .ok (.ireturn, 1) := by decide +kernel
theorem d_P_beginAction_38 : decode c_P_beginAction 38 = .ok (.iload_n 1, 1) := by decide +kernel
theorem d_P_beginAction_39 : decode c_P_beginAction 39 = .ok (.bipush 13, 2) := by decide +kernel
theorem d_P_beginAction_41 : decode c_P_beginAction 41 = .ok (.if_icmp .ne 10, 3) := by decide +kernel
theorem d_P_beginAction_44 : decode c_P_beginAction 44 = .ok (.aload_n 0, 1) := by decide +kernel
theorem d_P_beginAction_45 : decode c_P_beginAction 45 = .ok (.bipush 8, 2) := by decide +kernel
theorem d_P_beginAction_47 : decode c_P_beginAction 47 = .ok (.invokevirtual 65, 3) := by decide +kernel
theorem d_P_beginAction_50 : decode c_P_beginAction 50 = .ok (.ireturn, 1) := by decide +kernel
theorem d_P_beginAction_51 : decode c_P_beginAction 51 = .ok (.aload_n 0, 1) := by decide +kernel
theorem d_P_beginAction_52 : decode c_P_beginAction 52 = .ok (.iload_n 1, 1) := by decide +kernel
theorem d_P_beginAction_53 : decode c_P_beginAction 53 = .ok (.bipush 14, 2) := by decide +kernel
theorem d_P_beginAction_55 : decode c_P_beginAction 55 = .ok (.if_icmp .ne 8, 3) := by decide +kernel
theorem d_P_beginAction_58 : decode c_P_beginAction 58 = .ok (.bipush 100, 2) := by decide +kernel
theorem d_P_beginAction_60 : decode c_P_beginAction 60 = .ok (.goto 5, 3) := by decide +kernel
theorem d_P_beginAction_63 : decode c_P_beginAction 63 = .ok (.bipush 101, 2) := by decide +kernel
theorem d_P_beginAction_65 : decode c_P_beginAction 65 = .ok (.invokevirtual 140, 3) := by decide +kernel
theorem d_P_beginAction_68 : decode c_P_beginAction 68 = .ok (.ireturn, 1) := by decide +kernel
theorem d_P_addAction_0 : decode c_P_addAction 0 = .ok (.aload_n 0, 1) := by decide +kernel
theorem d_P_addAction_1 : decode c_P_addAction 1 = .ok (.getfield 19, 3) := by decide +kernel
theorem d_P_addAction_4 : decode c_P_addAction 4 = .ok (.aload_n 0, 1) := by decide +kernel
theorem d_P_addAction_5 : decode c_P_addAction 5 = .ok (.getfield 129, 3) := by decide +kernel
theorem d_P_addAction_8 : decode c_P_addAction 8 = .ok (.aload_n 0, 1) := by decide +kernel
theorem d_P_addAction_9 : decode c_P_addAction 9 = .ok (.getfield 97, 3) := by decide +kernel
theorem d_P_addAction_12 : decode c_P_addAction 12 = .ok (.iload_n 1, 1) := by decide +kernel
theorem d_P_addAction_13 : decode c_P_addAction 13 = .ok (.invokevirtual 143, 3) := by decide +kernel
theorem d_P_addAction_16 : decode c_P_addAction 16 = .ok (.aload_n 0, 1) := by decide +kernel
theorem d_P_addAction_17 : decode c_P_addAction 17 = .ok (.dup, 1) := by decide +kernel
theorem d_P_addAction_18 : decode c_P_addAction 18 = .ok (.getfield 97, 3) := by decide +kernel
theorem d_P_addAction_21 : decode c_P_addAction 21 = .ok (.iconst 1, 1) := by decide +kernel
theorem d_P_addAction_22 : decode c_P_addAction 22 = .ok (.iadd, 1) := by decide +kernel
theorem d_P_addAction_23 : decode c_P_addAction 23 = .ok (.putfield 97, 3) := by decide +kernel
theorem d_P_addAction_26 : decode c_P_addAction 26 = .ok (.aload_n 0, 1) := by decide +kernel
theorem d_P_addAction_27 : decode c_P_addAction 27 = .ok (.bipush 9, 2) := by decide +kernel
theorem d_P_addAction_29 : decode c_P_addAction 29 = .ok (.invokevirtual 65, 3) := by decide +kernel
theorem d_P_addAction_32 : decode c_P_addAction 32 = .ok (.ireturn, 1) := by decide +kernel
theorem d_T_setAction_0 : decode c_T_setAction 0 = .ok (.aload_n 0, 1) := by decide +kernel
theorem d_T_setAction_1 : decode c_T_setAction 1 = .ok (.getfield 20, 3) := by decide +kernel
theorem d_T_setAction_4 : decode c_T_setAction 4 = .ok (.iload_n 1, 1) := by decide +kernel
theorem d_T_setAction_5 : decode c_T_setAction 5 = .ok (.iconst 4, 1) := by decide +kernel
theorem d_T_setAction_6 : decode c_T_setAction 6 = .ok (.imul, 1) := by decide +kernel
theorem d_T_setAction_7 : decode c_T_setAction 7 = .ok (.iload_n 2, 1) := by decide +kernel
theorem d_T_setAction_8 : decode c_T_setAction 8 = .ok (.iadd, 1) := by decide +kernel
theorem d_T_setAction_9 : decode c_T_setAction 9 = .ok (.iload_n 3, 1) := by decide +kernel
theorem d_T_setAction_10 : decode c_T_setAction 10 = .ok (.iastore, 1) := by decide +kernel
theorem d_T_setAction_11 : decode c_T_setAction 11 = .ok (.return_, 1) := by decide +kernel
theorem d_P_takeSentMessage_0 : decode c_P_takeSentMessage 0 = .ok (.aload_n 0, 1) := by decide +kernel
theorem d_P_takeSentMessage_1 : decode c_P_takeSentMessage 1 = .ok (.iconst 2, 1) := by decide +kernel
theorem d_P_takeSentMessage_2 : decode c_P_takeSentMessage 2 = .ok (.iconst 2, 1) := by decide +kernel
theorem d_P_takeSentMessage_3 : decode c_P_takeSentMessage 3 = .ok (.invokevirtual 118, 3) := by decide +kernel
theorem d_P_takeSentMessage_6 : decode c_P_takeSentMessage 6 = .ok (.istore_n 1, 1) := by decide +kernel
theorem d_P_takeSentMessage_7 : decode c_P_takeSentMessage 7 = .ok (.iload_n 1, 1) := by decide +kernel
theorem d_P_takeSentMessage_8 : decode c_P_takeSentMessage 8 = .ok (.ifCond .eq 7, 3) := by decide +kernel
theorem d_P_takeSentMessage_11 : decode c_P_takeSentMessage 11 = .ok (.iload_n 1, 1) := by decide +kernel
theorem d_P_takeSentMessage_12 : decode c_P_takeSentMessage 12 = .ok (.goto 14, 3) := by decide +kernel
theorem d_P_takeSentMessage_15 : decode c_P_takeSentMessage 15 = .ok (.aload_n 0, 1) := by decide +kernel
theorem d_P_takeSentMessage_16 : decode c_P_takeSentMessage 16 = .ok (.aload_n 0, 1) := by decide +kernel
theorem d_P_takeSentMessage_17 : decode c_P_takeSentMessage 17 = .ok (.getfield 112, 3) := by decide +kernel
theorem d_P_takeSentMessage_20 : decode c_P_takeSentMessage 20 = .ok (.bipush 24, 2) := by decide +kernel
theorem d_P_takeSentMessage_22 : decode c_P_takeSentMessage 22 = .ok (.isub, 1) := by decide +kernel
theorem d_P_takeSentMessage_23 : decode c_P_takeSentMessage 23 = .ok (.invokevirtual 140, 3) := by decide +kernel
theorem d_P_takeSentMessage_26 : decode c_P_takeSentMessage 26 = .ok (.ireturn, 1) := by decide +kernel
theorem d_P_takeGoal_0 : decode c_P_takeGoal 0 = .ok (.aload_n 0, 1) := by decide +kernel
theorem d_P_takeGoal_1 : decode c_P_takeGoal 1 = .ok (.iconst 0, 1) := by decide +kernel
theorem d_P_takeGoal_2 : decode c_P_takeGoal 2 = .ok (.iconst 0, 1) := by decide +kernel
theorem d_P_takeGoal_3 : decode c_P_takeGoal 3 = .ok (.invokevirtual 118, 3) := by decide +kernel
theorem d_P_takeGoal_6 : decode c_P_takeGoal 6 = .ok (.istore_n 1, 1) := by decide +kernel
theorem d_P_takeGoal_7 : decode c_P_takeGoal 7 = .ok (.iload_n 1, 1) := by decide +kernel
theorem d_P_takeGoal_8 : decode c_P_takeGoal 8 = .ok (.ifCond .eq 5, 3) := by decide +kernel
theorem d_P_takeGoal_11 : decode c_P_takeGoal 11 = .ok (.iload_n 1, 1) := by decide +kernel
theorem d_P_takeGoal_12 : decode c_P_takeGoal 12 = .ok (.ireturn, 1) := by decide +kernel
theorem d_P_takeGoal_13 : decode c_P_takeGoal 13 = .ok (.aload_n 0, 1) := by decide +kernel
theorem d_P_takeGoal_14 : decode c_P_takeGoal 14 = .ok (.getfield 19, 3) := by decide +kernel
theorem d_P_takeGoal_17 : decode c_P_takeGoal 17 = .ok (.aload_n 0, 1) := by decide +kernel
theorem d_P_takeGoal_18 : decode c_P_takeGoal 18 = .ok (.getfield 129, 3) := by decide +kernel
theorem d_P_takeGoal_21 : decode c_P_takeGoal 21 = .ok (.aload_n 0, 1) := by decide +kernel
theorem d_P_takeGoal_22 : decode c_P_takeGoal 22 = .ok (.getfield 112, 3) := by decide +kernel
theorem d_P_takeGoal_25 : decode c_P_takeGoal 25 = .ok (.invokevirtual 147, 3) := by decide +kernel
theorem d_P_takeGoal_28 : decode c_P_takeGoal 28 = .ok (.aload_n 0, 1) := by decide +kernel
theorem d_P_takeGoal_29 : decode c_P_takeGoal 29 = .ok (.bipush 12, 2) := by decide +kernel
theorem d_P_takeGoal_31 : decode c_P_takeGoal 31 = .ok (.invokevirtual 65, 3) := by decide +kernel
theorem d_P_takeGoal_34 : decode c_P_takeGoal 34 = .ok (.ireturn, 1) := by decide +kernel
theorem d_T_setRule_0 : decode c_T_setRule 0 = .ok (.aload_n 0, 1) := by decide +kernel
theorem d_T_setRule_1 : decode c_T_setRule 1 = .ok (.getfield 13, 3) := by decide +kernel
theorem d_T_setRule_4 : decode c_T_setRule 4 = .ok (.iload_n 1, 1) := by decide +kernel
theorem d_T_setRule_5 : decode c_T_setRule 5 = .ok (.iload_n 2, 1) := by decide +kernel
theorem d_T_setRule_6 : decode c_T_setRule 6 = .ok (.iastore, 1) := by decide +kernel
theorem d_T_setRule_7 : decode c_T_setRule 7 = .ok (.aload_n 0, 1) := by decide +kernel
theorem d_T_setRule_8 : decode c_T_setRule 8 = .ok (.dup, 1) := by decide +kernel
theorem d_T_setRule_9 : decode c_T_setRule 9 = .ok (.getfield 36, 3) := by decide +kernel
theorem d_T_setRule_12 : decode c_T_setRule 12 = .ok (.iconst 1, 1) := by decide +kernel
theorem d_T_setRule_13 : decode c_T_setRule 13 = .ok (.iadd, 1) := by decide +kernel
theorem d_T_setRule_14 : decode c_T_setRule 14 = .ok (.putfield 36, 3) := by decide +kernel
theorem d_T_setRule_17 : decode c_T_setRule 17 = .ok (.return_, 1) := by decide +kernel
theorem d_P_takeFirstState_0 : decode c_P_takeFirstState 0 = .ok (.aload_n 0, 1) := by decide +kernel
theorem d_P_takeFirstState_1 : decode c_P_takeFirstState 1 = .ok (.iconst 0, 1) := by decide +kernel
theorem d_P_takeFirstState_2 : decode c_P_takeFirstState 2 = .ok (.iconst 0, 1) := by decide +kernel
theorem d_P_takeFirstState_3 : decode c_P_takeFirstState 3 = .ok (.invokevirtual 118, 3) := by decide +kernel
theorem d_P_takeFirstState_6 : decode c_P_takeFirstState 6 = .ok (.istore_n 1, 1) := by decide +kernel
theorem d_P_takeFirstState_7 : decode c_P_takeFirstState 7 = .ok (.iload_n 1, 1) := by decide +kernel
theorem d_P_takeFirstState_8 : decode c_P_takeFirstState 8 = .ok (.ifCond .eq 5, 3) := by decide +kernel
theorem d_P_takeFirstState_11 : decode c_P_takeFirstState 11 = .ok (.iload_n 1, 1) := by decide +kernel
theorem d_P_takeFirstState_12 : decode c_P_takeFirstState 12 = .ok (.ireturn, 1) := by decide +kernel
theorem d_P_takeFirstState_13 : decode c_P_takeFirstState 13 = .ok (.aload_n 0, 1) := by decide +kernel
theorem d_P_takeFirstState_14 : decode c_P_takeFirstState 14 = .ok (.getfield 19, 3) := by decide +kernel
theorem d_P_takeFirstState_17 : decode c_P_takeFirstState 17 = .ok (.aload_n 0, 1) := by decide +kernel
theorem d_P_takeFirstState_18 : decode c_P_takeFirstState 18 = .ok (.getfield 112, 3) := by decide +kernel
theorem d_P_takeFirstState_21 : decode c_P_takeFirstState 21 = .ok (.putfield 151, 3) := by decide +kernel
theorem d_P_takeFirstState_24 : decode c_P_takeFirstState 24 = .ok (.aload_n 0, 1) := by decide +kernel
theorem d_P_takeFirstState_25 : decode c_P_takeFirstState 25 = .ok (.bipush 12, 2) := by decide +kernel
theorem d_P_takeFirstState_27 : decode c_P_takeFirstState 27 = .ok (.invokevirtual 65, 3) := by decide +kernel
theorem d_P_takeFirstState_30 : decode c_P_takeFirstState 30 = .ok (.ireturn, 1) := by decide +kernel
theorem d_P_placeInText_0 : decode c_P_placeInText 0 = .ok (.aload_n 0, 1) := by decide +kernel
theorem d_P_placeInText_1 : decode c_P_placeInText 1 = .ok (.getfield 9, 3) := by decide +kernel
theorem d_P_placeInText_4 : decode c_P_placeInText 4 = .ok (.getfield 23, 3) := by decide +kernel
theorem d_P_placeInText_7 : decode c_P_placeInText 7 = .ok (.ireturn, 1) := by decide +kernel
theorem d_T_settle_0 : decode c_T_settle 0 = .ok (.aload_n 0, 1) := by decide +kernel
theorem d_T_settle_1 : decode c_T_settle 1 = .ok (.getfield 43, 3) := by decide +kernel
theorem d_T_settle_4 : decode c_T_settle 4 = .ok (.iconst (-1), 1) := by decide +kernel
theorem d_T_settle_5 : decode c_T_settle 5 = .ok (.if_icmp .ne 18, 3) := by decide +kernel
theorem d_T_settle_8 : decode c_T_settle 8 = .ok (.aload_n 0, 1) := by decide +kernel
theorem d_T_settle_9 : decode c_T_settle 9 = .ok (.getfield 23, 3) := by decide +kernel
theorem d_T_settle_12 : decode c_T_settle 12 = .ok (.invokevirtual 46, 3) := by decide +kernel
theorem d_T_settle_15 : decode c_T_settle 15 = .ok (.ifCond .le 8, 3) := by decide +kernel
theorem d_T_settle_18 : decode c_T_settle 18 = .ok (.aload_n 0, 1) := by decide +kernel
theorem d_T_settle_19 : decode c_T_settle 19 = .ok (.iconst 0, 1) := by decide +kernel
theorem d_T_settle_20 : decode c_T_settle 20 = .ok (.putfield 43, 3) := by decide +kernel
theorem d_T_settle_23 : decode c_T_settle 23 = .ok (.aload_n 0, 1) := by decide +kernel
theorem d_T_settle_24 : decode c_T_settle 24 = .ok (.getfield 43, 3) := by decide +kernel
theorem d_T_settle_27 : decode c_T_settle 27 = .ok (.iconst (-1), 1) := by decide +kernel
theorem d_T_settle_28 : decode c_T_settle 28 = .ok (.if_icmp .eq 13, 3) := by decide +kernel
theorem d_T_settle_31 : decode c_T_settle 31 = .ok (.aload_n 0, 1) := by decide +kernel
theorem d_T_settle_32 : decode c_T_settle 32 = .ok (.getfield 17, 3) := by decide +kernel
theorem d_T_settle_35 : decode c_T_settle 35 = .ok (.aload_n 0, 1) := by decide +kernel
theorem d_T_settle_36 : decode c_T_settle 36 = .ok (.getfield 43, 3) := by decide +kernel
theorem d_T_settle_39 : decode c_T_settle 39 = .ok (.iconst 0, 1) := by decide +kernel
theorem d_T_settle_40 : decode c_T_settle 40 = .ok (.iastore, 1) := by decide +kernel
theorem d_T_settle_41 : decode c_T_settle 41 = .ok (.iconst 0, 1) := by decide +kernel
theorem d_T_settle_42 : decode c_T_settle 42 = .ok (.istore_n 1, 1) := by decide +kernel
theorem d_T_settle_43 : decode c_T_settle 43 = .ok (.iload_n 1, 1) := by decide +kernel
theorem d_T_settle_44 : decode c_T_settle 44 = .ok (.aload_n 0, 1) := by decide +kernel
theorem d_T_settle_45 : decode c_T_settle 45 = .ok (.getfield 23, 3) := by decide +kernel
theorem d_T_settle_48 : decode c_T_settle 48 = .ok (.invokevirtual 46, 3) := by decide +kernel
theorem d_T_settle_51 : decode c_T_settle 51 = .ok (.if_icmp .ge 46, 3) := by decide +kernel
theorem d_T_settle_54 : decode c_T_settle 54 = .ok (.iconst 0, 1) := by decide +kernel
theorem d_T_settle_55 : decode c_T_settle 55 = .ok (.istore_n 2, 1) := by decide +kernel
theorem d_T_settle_56 : decode c_T_settle 56 = .ok (.iload_n 2, 1) := by decide +kernel
theorem d_T_settle_57 : decode c_T_settle 57 = .ok (.aload_n 0, 1) := by decide +kernel
theorem d_T_settle_58 : decode c_T_settle 58 = .ok (.getfield 23, 3) := by decide +kernel
theorem d_T_settle_61 : decode c_T_settle 61 = .ok (.invokevirtual 46, 3) := by decide +kernel
theorem d_T_settle_64 : decode c_T_settle 64 = .ok (.if_icmp .ge 27, 3) := by decide +kernel
theorem d_T_settle_67 : decode c_T_settle 67 = .ok (.aload_n 0, 1) := by decide +kernel
theorem d_T_settle_68 : decode c_T_settle 68 = .ok (.getfield 17, 3) := by decide +kernel
theorem d_T_settle_71 : decode c_T_settle 71 = .ok (.iload_n 2, 1) := by decide +kernel
theorem d_T_settle_72 : decode c_T_settle 72 = .ok (.iaload, 1) := by decide +kernel
theorem d_T_settle_73 : decode c_T_settle 73 = .ok (.iload_n 1, 1) := by decide +kernel
theorem d_T_settle_74 : decode c_T_settle 74 = .ok (.if_icmp .ne 11, 3) := by decide +kernel
theorem d_T_settle_77 : decode c_T_settle 77 = .ok (.aload_n 0, 1) := by decide +kernel
theorem d_T_settle_78 : decode c_T_settle 78 = .ok (.iload_n 2, 1) := by decide +kernel
theorem d_T_settle_79 : decode c_T_settle 79 = .ok (.iload_n 1, 1) := by decide +kernel
theorem d_T_settle_80 : decode c_T_settle 80 = .ok (.iconst 1, 1) := by decide +kernel
theorem d_T_settle_81 : decode c_T_settle 81 = .ok (.iadd, 1) := by decide +kernel
theorem d_T_settle_82 : decode c_T_settle 82 = .ok (.invokevirtual 64, 3) := by decide +kernel
theorem d_T_settle_85 : decode c_T_settle 85 = .ok (.iinc 2 1, 3) := by decide +kernel
theorem d_T_settle_88 : decode c_T_settle 88 = .ok (.goto (-32), 3) := by decide +kernel
theorem d_T_settle_91 : decode c_T_settle 91 = .ok (.iinc 1 1, 3) := by decide +kernel
theorem d_T_settle_94 : decode c_T_settle 94 = .ok (.goto (-51), 3) := by decide +kernel
theorem d_T_settle_97 : decode c_T_settle 97 = .ok (.return_, 1) := by decide +kernel
theorem d_T_reachFrom_0 : decode c_T_reachFrom 0 = .ok (.iconst 0, 1) := by decide +kernel
theorem d_T_reachFrom_1 : decode c_T_reachFrom 1 = .ok (.istore_n 3, 1) := by decide +kernel
theorem d_T_reachFrom_2 : decode c_T_reachFrom 2 = .ok (.iload_n 3, 1) := by decide +kernel
theorem d_T_reachFrom_3 : decode c_T_reachFrom 3 = .ok (.bipush 24, 2) := by decide +kernel
theorem d_T_reachFrom_5 : decode c_T_reachFrom 5 = .ok (.if_icmp .ge 46, 3) := by decide +kernel
theorem d_T_reachFrom_8 : decode c_T_reachFrom 8 = .ok (.aload_n 0, 1) := by decide +kernel
theorem d_T_reachFrom_9 : decode c_T_reachFrom 9 = .ok (.getfield 13, 3) := by decide +kernel
theorem d_T_reachFrom_12 : decode c_T_reachFrom 12 = .ok (.iload_n 1, 1) := by decide +kernel
theorem d_T_reachFrom_13 : decode c_T_reachFrom 13 = .ok (.bipush 24, 2) := by decide +kernel
theorem d_T_reachFrom_15 : decode c_T_reachFrom 15 = .ok (.imul, 1) := by decide +kernel
theorem d_T_reachFrom_16 : decode c_T_reachFrom 16 = .ok (.iload_n 3, 1) := by decide +kernel
theorem d_T_reachFrom_17 : decode c_T_reachFrom 17 = .ok (.iadd, 1) := by decide +kernel
theorem d_T_reachFrom_18 : decode c_T_reachFrom 18 = .ok (.iaload, 1) := by decide +kernel
theorem d_T_reachFrom_19 : decode c_T_reachFrom 19 = .ok (.istore 4, 2) := by decide +kernel
theorem d_T_reachFrom_21 : decode c_T_reachFrom 21 = .ok (.iload 4, 2) := by decide +kernel
theorem d_T_reachFrom_23 : decode c_T_reachFrom 23 = .ok (.ifCond .lt 22, 3) := by decide +kernel
theorem d_T_reachFrom_26 : decode c_T_reachFrom 26 = .ok (.aload_n 0, 1) := by decide +kernel
theorem d_T_reachFrom_27 : decode c_T_reachFrom 27 = .ok (.getfield 17, 3) := by decide +kernel
theorem d_T_reachFrom_30 : decode c_T_reachFrom 30 = .ok (.iload 4, 2) := by decide +kernel
theorem d_T_reachFrom_32 : decode c_T_reachFrom 32 = .ok (.iaload, 1) := by decide +kernel
theorem d_T_reachFrom_33 : decode c_T_reachFrom 33 = .ok (.iconst (-1), 1) := by decide +kernel
theorem d_T_reachFrom_34 : decode c_T_reachFrom 34 = .ok (.if_icmp .ne 11, 3) := by decide +kernel
theorem d_T_reachFrom_37 : decode c_T_reachFrom 37 = .ok (.aload_n 0, 1) := by decide +kernel
theorem d_T_reachFrom_38 : decode c_T_reachFrom 38 = .ok (.getfield 17, 3) := by decide +kernel
theorem d_T_reachFrom_41 : decode c_T_reachFrom 41 = .ok (.iload 4, 2) := by decide +kernel
theorem d_T_reachFrom_43 : decode c_T_reachFrom 43 = .ok (.iload_n 2, 1) := by decide +kernel
theorem d_T_reachFrom_44 : decode c_T_reachFrom 44 = .ok (.iastore, 1) := by decide +kernel
theorem d_T_reachFrom_45 : decode c_T_reachFrom 45 = .ok (.iinc 3 1, 3) := by decide +kernel
theorem d_T_reachFrom_48 : decode c_T_reachFrom 48 = .ok (.goto (-46), 3) := by decide +kernel
theorem d_T_reachFrom_51 : decode c_T_reachFrom 51 = .ok (.return_, 1) := by decide +kernel
theorem d_T_missingPair_0 : decode c_T_missingPair 0 = .ok (.iconst 0, 1) := by decide +kernel
theorem d_T_missingPair_1 : decode c_T_missingPair 1 = .ok (.istore_n 2, 1) := by decide +kernel
theorem d_T_missingPair_2 : decode c_T_missingPair 2 = .ok (.iconst 0, 1) := by decide +kernel
theorem d_T_missingPair_3 : decode c_T_missingPair 3 = .ok (.istore_n 3, 1) := by decide +kernel
theorem d_T_missingPair_4 : decode c_T_missingPair 4 = .ok (.iload_n 3, 1) := by decide +kernel
theorem d_T_missingPair_5 : decode c_T_missingPair 5 = .ok (.aload_n 0, 1) := by decide +kernel
theorem d_T_missingPair_6 : decode c_T_missingPair 6 = .ok (.getfield 23, 3) := by decide +kernel
theorem d_T_missingPair_9 : decode c_T_missingPair 9 = .ok (.invokevirtual 46, 3) := by decide +kernel
theorem d_T_missingPair_12 : decode c_T_missingPair 12 = .ok (.if_icmp .ge 57, 3) := by decide +kernel
theorem d_T_missingPair_15 : decode c_T_missingPair 15 = .ok (.iconst 0, 1) := by decide +kernel
theorem d_T_missingPair_16 : decode c_T_missingPair 16 = .ok (.istore 4, 2) := by decide +kernel
theorem d_T_missingPair_18 : decode c_T_missingPair 18 = .ok (.iload 4, 2) := by decide +kernel
theorem d_T_missingPair_20 : decode c_T_missingPair 20 = .ok (.aload_n 0, 1) := by decide +kernel
theorem d_T_missingPair_21 : decode c_T_missingPair 21 = .ok (.getfield 23, 3) := by decide +kernel
theorem d_T_missingPair_24 : decode c_T_missingPair 24 = .ok (.invokevirtual 50, 3) := by decide +kernel
theorem d_T_missingPair_27 : decode c_T_missingPair 27 = .ok (.if_icmp .ge 36, 3) := by decide +kernel
theorem d_T_missingPair_30 : decode c_T_missingPair 30 = .ok (.aload_n 0, 1) := by decide +kernel
theorem d_T_missingPair_31 : decode c_T_missingPair 31 = .ok (.iload_n 3, 1) := by decide +kernel
theorem d_T_missingPair_32 : decode c_T_missingPair 32 = .ok (.iload 4, 2) := by decide +kernel
theorem d_T_missingPair_34 : decode c_T_missingPair 34 = .ok (.invokevirtual 76, 3) := by decide +kernel
theorem d_T_missingPair_37 : decode c_T_missingPair 37 = .ok (.iconst (-1), 1) := by decide +kernel
theorem d_T_missingPair_38 : decode c_T_missingPair 38 = .ok (.if_icmp .ne 19, 3) := by decide +kernel
theorem d_T_missingPair_41 : decode c_T_missingPair 41 = .ok (.iload_n 2, 1) := by decide +kernel
theorem d_T_missingPair_42 : decode c_T_missingPair 42 = .ok (.iload_n 1, 1) := by decide +kernel
theorem d_T_missingPair_43 : decode c_T_missingPair 43 = .ok (.if_icmp .ne 11, 3) := by decide +kernel
theorem d_T_missingPair_46 : decode c_T_missingPair 46 = .ok (.iload_n 3, 1) := by decide +kernel
theorem d_T_missingPair_47 : decode c_T_missingPair 47 = .ok (.bipush 100, 2) := by decide +kernel
theorem d_T_missingPair_49 : decode c_T_missingPair 49 = .ok (.imul, 1) := by decide +kernel
theorem d_T_missingPair_50 : decode c_T_missingPair 50 = .ok (.iload 4, 2) := by decide +kernel
theorem d_T_missingPair_52 : decode c_T_missingPair 52 = .ok (.iadd, 1) := by decide +kernel
theorem d_T_missingPair_53 : decode c_T_missingPair 53 = .ok (.ireturn, 1) := by decide +kernel
theorem d_T_missingPair_54 : decode c_T_missingPair 54 = .ok (.iinc 2 1, 3) := by decide +kernel
theorem d_T_missingPair_57 : decode c_T_missingPair 57 = .ok (.iinc 4 1, 3) := by decide +kernel
theorem d_T_missingPair_60 : decode c_T_missingPair 60 = .ok (.goto (-42), 3) := by decide +kernel
theorem d_T_missingPair_63 : decode c_T_missingPair 63 = .ok (.iinc 3 1, 3) := by decide +kernel
theorem d_T_missingPair_66 : decode c_T_missingPair 66 = .ok (.goto (-62), 3) := by decide +kernel
theorem d_T_missingPair_69 : decode c_T_missingPair 69 = .ok (.iconst (-1), 1) := by decide +kernel
theorem d_T_missingPair_70 : decode c_T_missingPair 70 = .ok (.ireturn, 1) := by decide +kernel
theorem d_T_isSent_0 : decode c_T_isSent 0 = .ok (.iconst 0, 1) := by decide +kernel
theorem d_T_isSent_1 : decode c_T_isSent 1 = .ok (.istore_n 2, 1) := by decide +kernel
theorem d_T_isSent_2 : decode c_T_isSent 2 = .ok (.iload_n 2, 1) := by decide +kernel
theorem d_T_isSent_3 : decode c_T_isSent 3 = .ok (.aload_n 0, 1) := by decide +kernel
theorem d_T_isSent_4 : decode c_T_isSent 4 = .ok (.getfield 23, 3) := by decide +kernel
theorem d_T_isSent_7 : decode c_T_isSent 7 = .ok (.invokevirtual 46, 3) := by decide +kernel
theorem d_T_isSent_10 : decode c_T_isSent 10 = .ok (.if_icmp .ge 28, 3) := by decide +kernel
theorem d_T_isSent_13 : decode c_T_isSent 13 = .ok (.aload_n 0, 1) := by decide +kernel
theorem d_T_isSent_14 : decode c_T_isSent 14 = .ok (.iload_n 2, 1) := by decide +kernel
theorem d_T_isSent_15 : decode c_T_isSent 15 = .ok (.invokevirtual 68, 3) := by decide +kernel
theorem d_T_isSent_18 : decode c_T_isSent 18 = .ok (.ifCond .eq 14, 3) := by decide +kernel
theorem d_T_isSent_21 : decode c_T_isSent 21 = .ok (.aload_n 0, 1) := by decide +kernel
theorem d_T_isSent_22 : decode c_T_isSent 22 = .ok (.iload_n 2, 1) := by decide +kernel
theorem d_T_isSent_23 : decode c_T_isSent 23 = .ok (.iload_n 1, 1) := by decide +kernel
theorem d_T_isSent_24 : decode c_T_isSent 24 = .ok (.invokevirtual 72, 3) := by decide +kernel
theorem d_T_isSent_27 : decode c_T_isSent 27 = .ok (.ifCond .eq 5, 3) := by decide +kernel
theorem d_T_isSent_30 : decode c_T_isSent 30 = .ok (.iconst 1, 1) := by decide +kernel
theorem d_T_isSent_31 : decode c_T_isSent 31 = .ok (.ireturn, 1) := by decide +kernel
theorem d_T_isSent_32 : decode c_T_isSent 32 = .ok (.iinc 2 1, 3) := by decide +kernel
theorem d_T_isSent_35 : decode c_T_isSent 35 = .ok (.goto (-33), 3) := by decide +kernel
theorem d_T_isSent_38 : decode c_T_isSent 38 = .ok (.iconst 0, 1) := by decide +kernel
theorem d_T_isSent_39 : decode c_T_isSent 39 = .ok (.ireturn, 1) := by decide +kernel
theorem d_T_sends_0 : decode c_T_sends 0 = .ok (.bipush 96, 2) := by decide +kernel
theorem d_T_sends_2 : decode c_T_sends 2 = .ok (.istore_n 3, 1) := by decide +kernel
theorem d_T_sends_3 : decode c_T_sends 3 = .ok (.iconst 0, 1) := by decide +kernel
theorem d_T_sends_4 : decode c_T_sends 4 = .ok (.istore 4, 2) := by decide +kernel
theorem d_T_sends_6 : decode c_T_sends 6 = .ok (.iload 4, 2) := by decide +kernel
theorem d_T_sends_8 : decode c_T_sends 8 = .ok (.iload_n 3, 1) := by decide +kernel
theorem d_T_sends_9 : decode c_T_sends 9 = .ok (.if_icmp .ge 26, 3) := by decide +kernel
theorem d_T_sends_12 : decode c_T_sends 12 = .ok (.aload_n 0, 1) := by decide +kernel
theorem d_T_sends_13 : decode c_T_sends 13 = .ok (.getfield 20, 3) := by decide +kernel
theorem d_T_sends_16 : decode c_T_sends 16 = .ok (.iload_n 1, 1) := by decide +kernel
theorem d_T_sends_17 : decode c_T_sends 17 = .ok (.iload_n 3, 1) := by decide +kernel
theorem d_T_sends_18 : decode c_T_sends 18 = .ok (.imul, 1) := by decide +kernel
theorem d_T_sends_19 : decode c_T_sends 19 = .ok (.iload 4, 2) := by decide +kernel
theorem d_T_sends_21 : decode c_T_sends 21 = .ok (.iadd, 1) := by decide +kernel
theorem d_T_sends_22 : decode c_T_sends 22 = .ok (.iaload, 1) := by decide +kernel
theorem d_T_sends_23 : decode c_T_sends 23 = .ok (.iload_n 2, 1) := by decide +kernel
theorem d_T_sends_24 : decode c_T_sends 24 = .ok (.if_icmp .ne 5, 3) := by decide +kernel
theorem d_T_sends_27 : decode c_T_sends 27 = .ok (.iconst 1, 1) := by decide +kernel
theorem d_T_sends_28 : decode c_T_sends 28 = .ok (.ireturn, 1) := by decide +kernel
theorem d_T_sends_29 : decode c_T_sends 29 = .ok (.iinc 4 1, 3) := by decide +kernel
theorem d_T_sends_32 : decode c_T_sends 32 = .ok (.goto (-26), 3) := by decide +kernel
theorem d_T_sends_35 : decode c_T_sends 35 = .ok (.iconst 0, 1) := by decide +kernel
theorem d_T_sends_36 : decode c_T_sends 36 = .ok (.ireturn, 1) := by decide +kernel
theorem d_T_isAwaited_0 : decode c_T_isAwaited 0 = .ok (.iconst 0, 1) := by decide +kernel
theorem d_T_isAwaited_1 : decode c_T_isAwaited 1 = .ok (.istore_n 2, 1) := by decide +kernel
theorem d_T_isAwaited_2 : decode c_T_isAwaited 2 = .ok (.iload_n 2, 1) := by decide +kernel
theorem d_T_isAwaited_3 : decode c_T_isAwaited 3 = .ok (.aload_n 0, 1) := by decide +kernel
theorem d_T_isAwaited_4 : decode c_T_isAwaited 4 = .ok (.getfield 23, 3) := by decide +kernel
theorem d_T_isAwaited_7 : decode c_T_isAwaited 7 = .ok (.invokevirtual 46, 3) := by decide +kernel
theorem d_T_isAwaited_10 : decode c_T_isAwaited 10 = .ok (.if_icmp .ge 35, 3) := by decide +kernel
theorem d_T_isAwaited_13 : decode c_T_isAwaited 13 = .ok (.aload_n 0, 1) := by decide +kernel
theorem d_T_isAwaited_14 : decode c_T_isAwaited 14 = .ok (.iload_n 2, 1) := by decide +kernel
theorem d_T_isAwaited_15 : decode c_T_isAwaited 15 = .ok (.invokevirtual 68, 3) := by decide +kernel
theorem d_T_isAwaited_18 : decode c_T_isAwaited 18 = .ok (.ifCond .eq 21, 3) := by decide +kernel
theorem d_T_isAwaited_21 : decode c_T_isAwaited 21 = .ok (.aload_n 0, 1) := by decide +kernel
theorem d_T_isAwaited_22 : decode c_T_isAwaited 22 = .ok (.getfield 13, 3) := by decide +kernel
theorem d_T_isAwaited_25 : decode c_T_isAwaited 25 = .ok (.iload_n 2, 1) := by decide +kernel
theorem d_T_isAwaited_26 : decode c_T_isAwaited 26 = .ok (.bipush 24, 2) := by decide +kernel
theorem d_T_isAwaited_28 : decode c_T_isAwaited 28 = .ok (.iload_n 1, 1) := by decide +kernel
theorem d_T_isAwaited_29 : decode c_T_isAwaited 29 = .ok (.iadd, 1) := by decide +kernel
theorem d_T_isAwaited_30 : decode c_T_isAwaited 30 = .ok (.invokestatic 57, 3) := by decide +kernel
theorem d_T_isAwaited_33 : decode c_T_isAwaited 33 = .ok (.iaload, 1) := by decide +kernel
theorem d_T_isAwaited_34 : decode c_T_isAwaited 34 = .ok (.ifCond .lt 5, 3) := by decide +kernel
theorem d_T_isAwaited_37 : decode c_T_isAwaited 37 = .ok (.iconst 1, 1) := by decide +kernel
theorem d_T_isAwaited_38 : decode c_T_isAwaited 38 = .ok (.ireturn, 1) := by decide +kernel
theorem d_T_isAwaited_39 : decode c_T_isAwaited 39 = .ok (.iinc 2 1, 3) := by decide +kernel
theorem d_T_isAwaited_42 : decode c_T_isAwaited 42 = .ok (.goto (-40), 3) := by decide +kernel
theorem d_T_isAwaited_45 : decode c_T_isAwaited 45 = .ok (.iconst 0, 1) := by decide +kernel
theorem d_T_isAwaited_46 : decode c_T_isAwaited 46 = .ok (.ireturn, 1) := by decide +kernel
