theorem d_S_init_0 : decode b_S_init 0 = .ok (.aload_n 0, 1) := by decide +kernel
theorem d_S_init_1 : decode b_S_init 1 = .ok (.invokespecial 3, 3) := by decide +kernel
theorem d_S_init_4 : decode b_S_init 4 = .ok (.aload_n 0, 1) := by decide +kernel
theorem d_S_init_5 : decode b_S_init 5 = .ok (.bipush 48, 2) := by decide +kernel
theorem d_S_init_7 : decode b_S_init 7 = .ok (.newarray .long, 2) := by decide +kernel
theorem d_S_init_9 : decode b_S_init 9 = .ok (.putfield 9, 3) := by decide +kernel
theorem d_S_init_12 : decode b_S_init 12 = .ok (.aload_n 0, 1) := by decide +kernel
theorem d_S_init_13 : decode b_S_init 13 = .ok (.bipush 48, 2) := by decide +kernel
theorem d_S_init_15 : decode b_S_init 15 = .ok (.newarray .long, 2) := by decide +kernel
theorem d_S_init_17 : decode b_S_init 17 = .ok (.putfield 15, 3) := by decide +kernel
theorem d_S_init_20 : decode b_S_init 20 = .ok (.aload_n 0, 1) := by decide +kernel
theorem d_S_init_21 : decode b_S_init 21 = .ok (.bipush 48, 2) := by decide +kernel
theorem d_S_init_23 : decode b_S_init 23 = .ok (.newarray .int, 2) := by decide +kernel
theorem d_S_init_25 : decode b_S_init 25 = .ok (.putfield 18, 3) := by decide +kernel
theorem d_S_init_28 : decode b_S_init 28 = .ok (.aload_n 0, 1) := by decide +kernel
theorem d_S_init_29 : decode b_S_init 29 = .ok (.bipush 48, 2) := by decide +kernel
theorem d_S_init_31 : decode b_S_init 31 = .ok (.newarray .int, 2) := by decide +kernel
theorem d_S_init_33 : decode b_S_init 33 = .ok (.putfield 22, 3) := by decide +kernel
theorem d_S_init_36 : decode b_S_init 36 = .ok (.aload_n 0, 1) := by decide +kernel
theorem d_S_init_37 : decode b_S_init 37 = .ok (.bipush 48, 2) := by decide +kernel
theorem d_S_init_39 : decode b_S_init 39 = .ok (.newarray .int, 2) := by decide +kernel
theorem d_S_init_41 : decode b_S_init 41 = .ok (.putfield 25, 3) := by decide +kernel
theorem d_S_init_44 : decode b_S_init 44 = .ok (.aload_n 0, 1) := by decide +kernel
theorem d_S_init_45 : decode b_S_init 45 = .ok (.bipush 48, 2) := by decide +kernel
theorem d_S_init_47 : decode b_S_init 47 = .ok (.newarray .int, 2) := by decide +kernel
theorem d_S_init_49 : decode b_S_init 49 = .ok (.putfield 28, 3) := by decide +kernel
theorem d_S_init_52 : decode b_S_init 52 = .ok (.aload_n 0, 1) := by decide +kernel
theorem d_S_init_53 : decode b_S_init 53 = .ok (.iconst 0, 1) := by decide +kernel
theorem d_S_init_54 : decode b_S_init 54 = .ok (.putfield 31, 3) := by decide +kernel
theorem d_S_init_57 : decode b_S_init 57 = .ok (.aload_n 0, 1) := by decide +kernel
theorem d_S_init_58 : decode b_S_init 58 = .ok (.iconst 0, 1) := by decide +kernel
theorem d_S_init_59 : decode b_S_init 59 = .ok (.putfield 35, 3) := by decide +kernel
theorem d_S_init_62 : decode b_S_init 62 = .ok (.aload_n 0, 1) := by decide +kernel
theorem d_S_init_63 : decode b_S_init 63 = .ok (.lconst 0, 1) := by decide +kernel
theorem d_S_init_64 : decode b_S_init 64 = .ok (.putfield 38, 3) := by decide +kernel
theorem d_S_init_67 : decode b_S_init 67 = .ok (.aload_n 0, 1) := by decide +kernel
theorem d_S_init_68 : decode b_S_init 68 = .ok (.iconst 0, 1) := by decide +kernel
theorem d_S_init_69 : decode b_S_init 69 = .ok (.putfield 42, 3) := by decide +kernel
theorem d_S_init_72 : decode b_S_init 72 = .ok (.return_, 1) := by decide +kernel
theorem d_N_init_0 : decode b_N_init 0 = .ok (.aload_n 0, 1) := by decide +kernel
theorem d_N_init_1 : decode b_N_init 1 = .ok (.invokespecial 3, 3) := by decide +kernel
theorem d_N_init_4 : decode b_N_init 4 = .ok (.aload_n 0, 1) := by decide +kernel
theorem d_N_init_5 : decode b_N_init 5 = .ok (.bipush 48, 2) := by decide +kernel
theorem d_N_init_7 : decode b_N_init 7 = .ok (.newarray .long, 2) := by decide +kernel
theorem d_N_init_9 : decode b_N_init 9 = .ok (.putfield 9, 3) := by decide +kernel
theorem d_N_init_12 : decode b_N_init 12 = .ok (.aload_n 0, 1) := by decide +kernel
theorem d_N_init_13 : decode b_N_init 13 = .ok (.iconst 0, 1) := by decide +kernel
theorem d_N_init_14 : decode b_N_init 14 = .ok (.putfield 15, 3) := by decide +kernel
theorem d_N_init_17 : decode b_N_init 17 = .ok (.return_, 1) := by decide +kernel
theorem d_S_workOut_0 : decode b_S_workOut 0 = .ok (.aload_n 0, 1) := by decide +kernel
theorem d_S_workOut_1 : decode b_S_workOut 1 = .ok (.getfield 42, 3) := by decide +kernel
theorem d_S_workOut_4 : decode b_S_workOut 4 = .ok (.ifCond .eq 16, 3) := by decide +kernel
theorem d_S_workOut_7 : decode b_S_workOut 7 = .ok (.aload_n 0, 1) := by decide +kernel
theorem d_S_workOut_8 : decode b_S_workOut 8 = .ok (.invokevirtual 56, 3) := by decide +kernel
theorem d_S_workOut_11 : decode b_S_workOut 11 = .ok (.aload_n 0, 1) := by decide +kernel
theorem d_S_workOut_12 : decode b_S_workOut 12 = .ok (.invokevirtual 59, 3) := by decide +kernel
theorem d_S_workOut_15 : decode b_S_workOut 15 = .ok (.aload_n 0, 1) := by decide +kernel
theorem d_S_workOut_16 : decode b_S_workOut 16 = .ok (.iconst 0, 1) := by decide +kernel
theorem d_S_workOut_17 : decode b_S_workOut 17 = .ok (.putfield 42, 3) := by decide +kernel
theorem d_S_workOut_20 : decode b_S_workOut 20 = .ok (.return_, 1) := by decide +kernel
theorem d_S_goOver_0 : decode b_S_goOver 0 = .ok (.aload_n 0, 1) := by decide +kernel
theorem d_S_goOver_1 : decode b_S_goOver 1 = .ok (.getfield 18, 3) := by decide +kernel
theorem d_S_goOver_4 : decode b_S_goOver 4 = .ok (.iconst (-1), 1) := by decide +kernel
theorem d_S_goOver_5 : decode b_S_goOver 5 = .ok (.invokestatic 62, 3) := by decide +kernel
theorem d_S_goOver_8 : decode b_S_goOver 8 = .ok (.aload_n 0, 1) := by decide +kernel
theorem d_S_goOver_9 : decode b_S_goOver 9 = .ok (.getfield 22, 3) := by decide +kernel
theorem d_S_goOver_12 : decode b_S_goOver 12 = .ok (.iconst (-1), 1) := by decide +kernel
theorem d_S_goOver_13 : decode b_S_goOver 13 = .ok (.invokestatic 62, 3) := by decide +kernel
theorem d_S_goOver_16 : decode b_S_goOver 16 = .ok (.iconst 1, 1) := by decide +kernel
theorem d_S_goOver_17 : decode b_S_goOver 17 = .ok (.istore_n 1, 1) := by decide +kernel
theorem d_S_goOver_18 : decode b_S_goOver 18 = .ok (.iconst 0, 1) := by decide +kernel
theorem d_S_goOver_19 : decode b_S_goOver 19 = .ok (.istore_n 2, 1) := by decide +kernel
theorem d_S_goOver_20 : decode b_S_goOver 20 = .ok (.iconst 1, 1) := by decide +kernel
theorem d_S_goOver_21 : decode b_S_goOver 21 = .ok (.istore_n 3, 1) := by decide +kernel
theorem d_S_goOver_22 : decode b_S_goOver 22 = .ok (.aload_n 0, 1) := by decide +kernel
theorem d_S_goOver_23 : decode b_S_goOver 23 = .ok (.aload_n 0, 1) := by decide +kernel
theorem d_S_goOver_24 : decode b_S_goOver 24 = .ok (.getfield 35, 3) := by decide +kernel
theorem d_S_goOver_27 : decode b_S_goOver 27 = .ok (.invokestatic 52, 3) := by decide +kernel
theorem d_S_goOver_30 : decode b_S_goOver 30 = .ok (.putfield 38, 3) := by decide +kernel
theorem d_S_goOver_33 : decode b_S_goOver 33 = .ok (.aload_n 0, 1) := by decide +kernel
theorem d_S_goOver_34 : decode b_S_goOver 34 = .ok (.getfield 18, 3) := by decide +kernel
theorem d_S_goOver_37 : decode b_S_goOver 37 = .ok (.aload_n 0, 1) := by decide +kernel
theorem d_S_goOver_38 : decode b_S_goOver 38 = .ok (.getfield 35, 3) := by decide +kernel
theorem d_S_goOver_41 : decode b_S_goOver 41 = .ok (.iconst 0, 1) := by decide +kernel
theorem d_S_goOver_42 : decode b_S_goOver 42 = .ok (.iastore, 1) := by decide +kernel
theorem d_S_goOver_43 : decode b_S_goOver 43 = .ok (.aload_n 0, 1) := by decide +kernel
theorem d_S_goOver_44 : decode b_S_goOver 44 = .ok (.getfield 28, 3) := by decide +kernel
theorem d_S_goOver_47 : decode b_S_goOver 47 = .ok (.iconst 0, 1) := by decide +kernel
theorem d_S_goOver_48 : decode b_S_goOver 48 = .ok (.aload_n 0, 1) := by decide +kernel
theorem d_S_goOver_49 : decode b_S_goOver 49 = .ok (.getfield 35, 3) := by decide +kernel
theorem d_S_goOver_52 : decode b_S_goOver 52 = .ok (.iastore, 1) := by decide +kernel
theorem d_S_goOver_53 : decode b_S_goOver 53 = .ok (.iconst 0, 1) := by decide +kernel
theorem d_S_goOver_54 : decode b_S_goOver 54 = .ok (.istore 4, 2) := by decide +kernel
theorem d_S_goOver_56 : decode b_S_goOver 56 = .ok (.iload 4, 2) := by decide +kernel
theorem d_S_goOver_58 : decode b_S_goOver 58 = .ok (.iconst 2, 1) := by decide +kernel
theorem d_S_goOver_59 : decode b_S_goOver 59 = .ok (.aload_n 0, 1) := by decide +kernel
theorem d_S_goOver_60 : decode b_S_goOver 60 = .ok (.getfield 31, 3) := by decide +kernel
theorem d_S_goOver_63 : decode b_S_goOver 63 = .ok (.imul, 1) := by decide +kernel
theorem d_S_goOver_64 : decode b_S_goOver 64 = .ok (.if_icmp .ge 115, 3) := by decide +kernel
theorem d_S_goOver_67 : decode b_S_goOver 67 = .ok (.iload_n 3, 1) := by decide +kernel
theorem d_S_goOver_68 : decode b_S_goOver 68 = .ok (.ifCond .le 111, 3) := by decide +kernel
theorem d_S_goOver_71 : decode b_S_goOver 71 = .ok (.aload_n 0, 1) := by decide +kernel
theorem d_S_goOver_72 : decode b_S_goOver 72 = .ok (.getfield 28, 3) := by decide +kernel
theorem d_S_goOver_75 : decode b_S_goOver 75 = .ok (.iload_n 3, 1) := by decide +kernel
theorem d_S_goOver_76 : decode b_S_goOver 76 = .ok (.iconst 1, 1) := by decide +kernel
theorem d_S_goOver_77 : decode b_S_goOver 77 = .ok (.isub, 1) := by decide +kernel
theorem d_S_goOver_78 : decode b_S_goOver 78 = .ok (.iaload, 1) := by decide +kernel
theorem d_S_goOver_79 : decode b_S_goOver 79 = .ok (.istore 5, 2) := by decide +kernel
theorem d_S_goOver_81 : decode b_S_goOver 81 = .ok (.aload_n 0, 1) := by decide +kernel
theorem d_S_goOver_82 : decode b_S_goOver 82 = .ok (.getfield 9, 3) := by decide +kernel
theorem d_S_goOver_85 : decode b_S_goOver 85 = .ok (.iload 5, 2) := by decide +kernel
theorem d_S_goOver_87 : decode b_S_goOver 87 = .ok (.laload, 1) := by decide +kernel
theorem d_S_goOver_88 : decode b_S_goOver 88 = .ok (.aload_n 0, 1) := by decide +kernel
theorem d_S_goOver_89 : decode b_S_goOver 89 = .ok (.getfield 38, 3) := by decide +kernel
theorem d_S_goOver_92 : decode b_S_goOver 92 = .ok (.ldc2_w 65, 3) := by decide +kernel
theorem d_S_goOver_95 : decode b_S_goOver 95 = .ok (.lxor, 1) := by decide +kernel
theorem d_S_goOver_96 : decode b_S_goOver 96 = .ok (.land, 1) := by decide +kernel
theorem d_S_goOver_97 : decode b_S_goOver 97 = .ok (.iconst (-1), 1) := by decide +kernel
theorem d_S_goOver_98 : decode b_S_goOver 98 = .ok (.invokestatic 67, 3) := by decide +kernel
theorem d_S_goOver_101 : decode b_S_goOver 101 = .ok (.istore 6, 2) := by decide +kernel
theorem d_S_goOver_103 : decode b_S_goOver 103 = .ok (.iload 6, 2) := by decide +kernel
theorem d_S_goOver_105 : decode b_S_goOver 105 = .ok (.aload_n 0, 1) := by decide +kernel
theorem d_S_goOver_106 : decode b_S_goOver 106 = .ok (.getfield 31, 3) := by decide +kernel
theorem d_S_goOver_109 : decode b_S_goOver 109 = .ok (.if_icmp .ge 42, 3) := by decide +kernel
theorem d_S_goOver_112 : decode b_S_goOver 112 = .ok (.aload_n 0, 1) := by decide +kernel
theorem d_S_goOver_113 : decode b_S_goOver 113 = .ok (.dup, 1) := by decide +kernel
theorem d_S_goOver_114 : decode b_S_goOver 114 = .ok (.getfield 38, 3) := by decide +kernel
theorem d_S_goOver_117 : decode b_S_goOver 117 = .ok (.iload 6, 2) := by decide +kernel
theorem d_S_goOver_119 : decode b_S_goOver 119 = .ok (.invokestatic 52, 3) := by decide +kernel
theorem d_S_goOver_122 : decode b_S_goOver 122 = .ok (.lor, 1) := by decide +kernel
theorem d_S_goOver_123 : decode b_S_goOver 123 = .ok (.putfield 38, 3) := by decide +kernel
theorem d_S_goOver_126 : decode b_S_goOver 126 = .ok (.aload_n 0, 1) := by decide +kernel
theorem d_S_goOver_127 : decode b_S_goOver 127 = .ok (.getfield 18, 3) := by decide +kernel
theorem d_S_goOver_130 : decode b_S_goOver 130 = .ok (.iload 6, 2) := by decide +kernel
theorem d_S_goOver_132 : decode b_S_goOver 132 = .ok (.iload_n 1, 1) := by decide +kernel
theorem d_S_goOver_133 : decode b_S_goOver 133 = .ok (.iinc 1 1, 3) := by decide +kernel
theorem d_S_goOver_136 : decode b_S_goOver 136 = .ok (.iastore, 1) := by decide +kernel
theorem d_S_goOver_137 : decode b_S_goOver 137 = .ok (.aload_n 0, 1) := by decide +kernel
theorem d_S_goOver_138 : decode b_S_goOver 138 = .ok (.getfield 28, 3) := by decide +kernel
theorem d_S_goOver_141 : decode b_S_goOver 141 = .ok (.iload_n 3, 1) := by decide +kernel
theorem d_S_goOver_142 : decode b_S_goOver 142 = .ok (.iinc 3 1, 3) := by decide +kernel
theorem d_S_goOver_145 : decode b_S_goOver 145 = .ok (.iload 6, 2) := by decide +kernel
theorem d_S_goOver_147 : decode b_S_goOver 147 = .ok (.iastore, 1) := by decide +kernel
theorem d_S_goOver_148 : decode b_S_goOver 148 = .ok (.goto 25, 3) := by decide +kernel
theorem d_S_goOver_151 : decode b_S_goOver 151 = .ok (.aload_n 0, 1) := by decide +kernel
theorem d_S_goOver_152 : decode b_S_goOver 152 = .ok (.getfield 22, 3) := by decide +kernel
theorem d_S_goOver_155 : decode b_S_goOver 155 = .ok (.iload 5, 2) := by decide +kernel
theorem d_S_goOver_157 : decode b_S_goOver 157 = .ok (.iload_n 2, 1) := by decide +kernel
theorem d_S_goOver_158 : decode b_S_goOver 158 = .ok (.iastore, 1) := by decide +kernel
theorem d_S_goOver_159 : decode b_S_goOver 159 = .ok (.aload_n 0, 1) := by decide +kernel
theorem d_S_goOver_160 : decode b_S_goOver 160 = .ok (.getfield 25, 3) := by decide +kernel
theorem d_S_goOver_163 : decode b_S_goOver 163 = .ok (.iload_n 2, 1) := by decide +kernel
theorem d_S_goOver_164 : decode b_S_goOver 164 = .ok (.iinc 2 1, 3) := by decide +kernel
theorem d_S_goOver_167 : decode b_S_goOver 167 = .ok (.iload 5, 2) := by decide +kernel
theorem d_S_goOver_169 : decode b_S_goOver 169 = .ok (.iastore, 1) := by decide +kernel
theorem d_S_goOver_170 : decode b_S_goOver 170 = .ok (.iinc 3 (-1), 3) := by decide +kernel
theorem d_S_goOver_173 : decode b_S_goOver 173 = .ok (.iinc 4 1, 3) := by decide +kernel
theorem d_S_goOver_176 : decode b_S_goOver 176 = .ok (.goto (-120), 3) := by decide +kernel
theorem d_S_goOver_179 : decode b_S_goOver 179 = .ok (.return_, 1) := by decide +kernel
theorem d_Y_fillI_0 : decode b_Y_fillI 0 = .ok (.iconst 0, 1) := by decide +kernel
theorem d_Y_fillI_1 : decode b_Y_fillI 1 = .ok (.istore_n 2, 1) := by decide +kernel
theorem d_Y_fillI_2 : decode b_Y_fillI 2 = .ok (.aload_n 0, 1) := by decide +kernel
theorem d_Y_fillI_3 : decode b_Y_fillI 3 = .ok (.arraylength, 1) := by decide +kernel
theorem d_Y_fillI_4 : decode b_Y_fillI 4 = .ok (.istore_n 3, 1) := by decide +kernel
theorem d_Y_fillI_5 : decode b_Y_fillI 5 = .ok (.iload_n 2, 1) := by decide +kernel
theorem d_Y_fillI_6 : decode b_Y_fillI 6 = .ok (.iload_n 3, 1) := by decide +kernel
theorem d_Y_fillI_7 : decode b_Y_fillI 7 = .ok (.if_icmp .ge 13, 3) := by decide +kernel
theorem d_Y_fillI_10 : decode b_Y_fillI 10 = .ok (.aload_n 0, 1) := by decide +kernel
theorem d_Y_fillI_11 : decode b_Y_fillI 11 = .ok (.iload_n 2, 1) := by decide +kernel
theorem d_Y_fillI_12 : decode b_Y_fillI 12 = .ok (.iload_n 1, 1) := by decide +kernel
theorem d_Y_fillI_13 : decode b_Y_fillI 13 = .ok (.iastore, 1) := by decide +kernel
theorem d_Y_fillI_14 : decode b_Y_fillI 14 = .ok (.iinc 2 1, 3) := by decide +kernel
theorem d_Y_fillI_17 : decode b_Y_fillI 17 = .ok (.goto (-12), 3) := by decide +kernel
theorem d_Y_fillI_20 : decode b_Y_fillI 20 = .ok (.return_, 1) := by decide +kernel
theorem d_B_bitCount_0 : decode b_B_bitCount 0 = .ok (.lload_n 0, 1) := by decide +kernel
theorem d_B_bitCount_1 : decode b_B_bitCount 1 = .ok (.lload_n 0, 1) := by decide +kernel
theorem d_B_bitCount_2 : decode b_B_bitCount 2 = .ok (.iconst 1, 1) := by decide +kernel
theorem d_B_bitCount_3 : decode b_B_bitCount 3 = .ok (.lushr, 1) := by decide +kernel
theorem d_B_bitCount_4 : decode b_B_bitCount 4 = .ok (.ldc2_w 314, 3) := by decide +kernel
theorem d_B_bitCount_7 : decode b_B_bitCount 7 = .ok (.land, 1) := by decide +kernel
theorem d_B_bitCount_8 : decode b_B_bitCount 8 = .ok (.lsub, 1) := by decide +kernel
theorem d_B_bitCount_9 : decode b_B_bitCount 9 = .ok (.lstore_n 0, 1) := by decide +kernel
theorem d_B_bitCount_10 : decode b_B_bitCount 10 = .ok (.lload_n 0, 1) := by decide +kernel
theorem d_B_bitCount_11 : decode b_B_bitCount 11 = .ok (.ldc2_w 316, 3) := by decide +kernel
theorem d_B_bitCount_14 : decode b_B_bitCount 14 = .ok (.land, 1) := by decide +kernel
theorem d_B_bitCount_15 : decode b_B_bitCount 15 = .ok (.lload_n 0, 1) := by decide +kernel
theorem d_B_bitCount_16 : decode b_B_bitCount 16 = .ok (.iconst 2, 1) := by decide +kernel
theorem d_B_bitCount_17 : decode b_B_bitCount 17 = .ok (.lushr, 1) := by decide +kernel
theorem d_B_bitCount_18 : decode b_B_bitCount 18 = .ok (.ldc2_w 316, 3) := by decide +kernel
theorem d_B_bitCount_21 : decode b_B_bitCount 21 = .ok (.land, 1) := by decide +kernel
theorem d_B_bitCount_22 : decode b_B_bitCount 22 = .ok (.ladd, 1) := by decide +kernel
theorem d_B_bitCount_23 : decode b_B_bitCount 23 = .ok (.lstore_n 0, 1) := by decide +kernel
theorem d_B_bitCount_24 : decode b_B_bitCount 24 = .ok (.lload_n 0, 1) := by decide +kernel
theorem d_B_bitCount_25 : decode b_B_bitCount 25 = .ok (.lload_n 0, 1) := by decide +kernel
theorem d_B_bitCount_26 : decode b_B_bitCount 26 = .ok (.iconst 4, 1) := by decide +kernel
theorem d_B_bitCount_27 : decode b_B_bitCount 27 = .ok (.lushr, 1) := by decide +kernel
theorem d_B_bitCount_28 : decode b_B_bitCount 28 = .ok (.ladd, 1) := by decide +kernel
theorem d_B_bitCount_29 : decode b_B_bitCount 29 = .ok (.ldc2_w 318, 3) := by decide +kernel
theorem d_B_bitCount_32 : decode b_B_bitCount 32 = .ok (.land, 1) := by decide +kernel
theorem d_B_bitCount_33 : decode b_B_bitCount 33 = .ok (.lstore_n 0, 1) := by decide +kernel
theorem d_B_bitCount_34 : decode b_B_bitCount 34 = .ok (.lload_n 0, 1) := by decide +kernel
theorem d_B_bitCount_35 : decode b_B_bitCount 35 = .ok (.lload_n 0, 1) := by decide +kernel
theorem d_B_bitCount_36 : decode b_B_bitCount 36 = .ok (.bipush 8, 2) := by decide +kernel
theorem d_B_bitCount_38 : decode b_B_bitCount 38 = .ok (.lushr, 1) := by decide +kernel
theorem d_B_bitCount_39 : decode b_B_bitCount 39 = .ok (.ladd, 1) := by decide +kernel
theorem d_B_bitCount_40 : decode b_B_bitCount 40 = .ok (.lstore_n 0, 1) := by decide +kernel
theorem d_B_bitCount_41 : decode b_B_bitCount 41 = .ok (.lload_n 0, 1) := by decide +kernel
theorem d_B_bitCount_42 : decode b_B_bitCount 42 = .ok (.lload_n 0, 1) := by decide +kernel
theorem d_B_bitCount_43 : decode b_B_bitCount 43 = .ok (.bipush 16, 2) := by decide +kernel
theorem d_B_bitCount_45 : decode b_B_bitCount 45 = .ok (.lushr, 1) := by decide +kernel
theorem d_B_bitCount_46 : decode b_B_bitCount 46 = .ok (.ladd, 1) := by decide +kernel
theorem d_B_bitCount_47 : decode b_B_bitCount 47 = .ok (.lstore_n 0, 1) := by decide +kernel
theorem d_B_bitCount_48 : decode b_B_bitCount 48 = .ok (.lload_n 0, 1) := by decide +kernel
theorem d_B_bitCount_49 : decode b_B_bitCount 49 = .ok (.lload_n 0, 1) := by decide +kernel
theorem d_B_bitCount_50 : decode b_B_bitCount 50 = .ok (.bipush 32, 2) := by decide +kernel
theorem d_B_bitCount_52 : decode b_B_bitCount 52 = .ok (.lushr, 1) := by decide +kernel
theorem d_B_bitCount_53 : decode b_B_bitCount 53 = .ok (.ladd, 1) := by decide +kernel
theorem d_B_bitCount_54 : decode b_B_bitCount 54 = .ok (.lstore_n 0, 1) := by decide +kernel
theorem d_B_bitCount_55 : decode b_B_bitCount 55 = .ok (.lload_n 0, 1) := by decide +kernel
theorem d_B_bitCount_56 : decode b_B_bitCount 56 = .ok (.l2i, 1) := by decide +kernel
theorem d_B_bitCount_57 : decode b_B_bitCount 57 = .ok (.bipush 127, 2) := by decide +kernel
theorem d_B_bitCount_59 : decode b_B_bitCount 59 = .ok (.iand, 1) := by decide +kernel
theorem d_B_bitCount_60 : decode b_B_bitCount 60 = .ok (.ireturn, 1) := by decide +kernel
theorem d_S_dominate_0 : decode b_S_dominate 0 = .ok (.iconst 0, 1) := by decide +kernel
theorem d_S_dominate_1 : decode b_S_dominate 1 = .ok (.istore_n 1, 1) := by decide +kernel
theorem d_S_dominate_2 : decode b_S_dominate 2 = .ok (.iload_n 1, 1) := by decide +kernel
theorem d_S_dominate_3 : decode b_S_dominate 3 = .ok (.aload_n 0, 1) := by decide +kernel
theorem d_S_dominate_4 : decode b_S_dominate 4 = .ok (.getfield 31, 3) := by decide +kernel
theorem d_S_dominate_7 : decode b_S_dominate 7 = .ok (.if_icmp .ge 34, 3) := by decide +kernel
theorem d_S_dominate_10 : decode b_S_dominate 10 = .ok (.aload_n 0, 1) := by decide +kernel
theorem d_S_dominate_11 : decode b_S_dominate 11 = .ok (.getfield 15, 3) := by decide +kernel
theorem d_S_dominate_14 : decode b_S_dominate 14 = .ok (.iload_n 1, 1) := by decide +kernel
theorem d_S_dominate_15 : decode b_S_dominate 15 = .ok (.aload_n 0, 1) := by decide +kernel
theorem d_S_dominate_16 : decode b_S_dominate 16 = .ok (.getfield 38, 3) := by decide +kernel
theorem d_S_dominate_19 : decode b_S_dominate 19 = .ok (.iload_n 1, 1) := by decide +kernel
theorem d_S_dominate_20 : decode b_S_dominate 20 = .ok (.invokestatic 71, 3) := by decide +kernel
theorem d_S_dominate_23 : decode b_S_dominate 23 = .ok (.ifCond .eq 10, 3) := by decide +kernel
theorem d_S_dominate_26 : decode b_S_dominate 26 = .ok (.aload_n 0, 1) := by decide +kernel
theorem d_S_dominate_27 : decode b_S_dominate 27 = .ok (.getfield 38, 3) := by decide +kernel
theorem d_S_dominate_30 : decode b_S_dominate 30 = .ok (.goto 4, 3) := by decide +kernel
theorem d_S_dominate_33 : decode b_S_dominate 33 = .ok (.lconst 0, 1) := by decide +kernel
theorem d_S_dominate_34 : decode b_S_dominate 34 = .ok (.lastore, 1) := by decide +kernel
theorem d_S_dominate_35 : decode b_S_dominate 35 = .ok (.iinc 1 1, 3) := by decide +kernel
theorem d_S_dominate_38 : decode b_S_dominate 38 = .ok (.goto (-36), 3) := by decide +kernel
theorem d_S_dominate_41 : decode b_S_dominate 41 = .ok (.aload_n 0, 1) := by decide +kernel
theorem d_S_dominate_42 : decode b_S_dominate 42 = .ok (.getfield 15, 3) := by decide +kernel
theorem d_S_dominate_45 : decode b_S_dominate 45 = .ok (.aload_n 0, 1) := by decide +kernel
theorem d_S_dominate_46 : decode b_S_dominate 46 = .ok (.getfield 35, 3) := by decide +kernel
theorem d_S_dominate_49 : decode b_S_dominate 49 = .ok (.aload_n 0, 1) := by decide +kernel
theorem d_S_dominate_50 : decode b_S_dominate 50 = .ok (.getfield 35, 3) := by decide +kernel
theorem d_S_dominate_53 : decode b_S_dominate 53 = .ok (.invokestatic 52, 3) := by decide +kernel
theorem d_S_dominate_56 : decode b_S_dominate 56 = .ok (.lastore, 1) := by decide +kernel
theorem d_S_dominate_57 : decode b_S_dominate 57 = .ok (.iconst 1, 1) := by decide +kernel
theorem d_S_dominate_58 : decode b_S_dominate 58 = .ok (.istore_n 1, 1) := by decide +kernel
theorem d_S_dominate_59 : decode b_S_dominate 59 = .ok (.iconst 0, 1) := by decide +kernel
theorem d_S_dominate_60 : decode b_S_dominate 60 = .ok (.istore_n 2, 1) := by decide +kernel
theorem d_S_dominate_61 : decode b_S_dominate 61 = .ok (.iload_n 2, 1) := by decide +kernel
theorem d_S_dominate_62 : decode b_S_dominate 62 = .ok (.aload_n 0, 1) := by decide +kernel
theorem d_S_dominate_63 : decode b_S_dominate 63 = .ok (.getfield 31, 3) := by decide +kernel
theorem d_S_dominate_66 : decode b_S_dominate 66 = .ok (.if_icmp .ge 50, 3) := by decide +kernel
theorem d_S_dominate_69 : decode b_S_dominate 69 = .ok (.iload_n 1, 1) := by decide +kernel
theorem d_S_dominate_70 : decode b_S_dominate 70 = .ok (.ifCond .eq 46, 3) := by decide +kernel
theorem d_S_dominate_73 : decode b_S_dominate 73 = .ok (.iconst 0, 1) := by decide +kernel
theorem d_S_dominate_74 : decode b_S_dominate 74 = .ok (.istore_n 1, 1) := by decide +kernel
theorem d_S_dominate_75 : decode b_S_dominate 75 = .ok (.aload_n 0, 1) := by decide +kernel
theorem d_S_dominate_76 : decode b_S_dominate 76 = .ok (.getfield 38, 3) := by decide +kernel
theorem d_S_dominate_79 : decode b_S_dominate 79 = .ok (.invokestatic 75, 3) := by decide +kernel
theorem d_S_dominate_82 : decode b_S_dominate 82 = .ok (.iconst 1, 1) := by decide +kernel
theorem d_S_dominate_83 : decode b_S_dominate 83 = .ok (.isub, 1) := by decide +kernel
theorem d_S_dominate_84 : decode b_S_dominate 84 = .ok (.istore_n 3, 1) := by decide +kernel
theorem d_S_dominate_85 : decode b_S_dominate 85 = .ok (.iload_n 3, 1) := by decide +kernel
theorem d_S_dominate_86 : decode b_S_dominate 86 = .ok (.ifCond .lt 24, 3) := by decide +kernel
theorem d_S_dominate_89 : decode b_S_dominate 89 = .ok (.aload_n 0, 1) := by decide +kernel
theorem d_S_dominate_90 : decode b_S_dominate 90 = .ok (.aload_n 0, 1) := by decide +kernel
theorem d_S_dominate_91 : decode b_S_dominate 91 = .ok (.getfield 25, 3) := by decide +kernel
theorem d_S_dominate_94 : decode b_S_dominate 94 = .ok (.iload_n 3, 1) := by decide +kernel
theorem d_S_dominate_95 : decode b_S_dominate 95 = .ok (.iaload, 1) := by decide +kernel
theorem d_S_dominate_96 : decode b_S_dominate 96 = .ok (.invokevirtual 81, 3) := by decide +kernel
theorem d_S_dominate_99 : decode b_S_dominate 99 = .ok (.ifCond .eq 5, 3) := by decide +kernel
theorem d_S_dominate_102 : decode b_S_dominate 102 = .ok (.iconst 1, 1) := by decide +kernel
theorem d_S_dominate_103 : decode b_S_dominate 103 = .ok (.istore_n 1, 1) := by decide +kernel
theorem d_S_dominate_104 : decode b_S_dominate 104 = .ok (.iinc 3 (-1), 3) := by decide +kernel
theorem d_S_dominate_107 : decode b_S_dominate 107 = .ok (.goto (-22), 3) := by decide +kernel
theorem d_S_dominate_110 : decode b_S_dominate 110 = .ok (.iinc 2 1, 3) := by decide +kernel
theorem d_S_dominate_113 : decode b_S_dominate 113 = .ok (.goto (-52), 3) := by decide +kernel
theorem d_S_dominate_116 : decode b_S_dominate 116 = .ok (.return_, 1) := by decide +kernel
theorem d_S_pushAlong_0 : decode b_S_pushAlong 0 = .ok (.iconst 0, 1) := by decide +kernel
theorem d_S_pushAlong_1 : decode b_S_pushAlong 1 = .ok (.istore_n 2, 1) := by decide +kernel
theorem d_S_pushAlong_2 : decode b_S_pushAlong 2 = .ok (.aload_n 0, 1) := by decide +kernel
theorem d_S_pushAlong_3 : decode b_S_pushAlong 3 = .ok (.getfield 9, 3) := by decide +kernel
theorem d_S_pushAlong_6 : decode b_S_pushAlong 6 = .ok (.iload_n 1, 1) := by decide +kernel
theorem d_S_pushAlong_7 : decode b_S_pushAlong 7 = .ok (.laload, 1) := by decide +kernel
theorem d_S_pushAlong_8 : decode b_S_pushAlong 8 = .ok (.lstore_n 3, 1) := by decide +kernel
theorem d_S_pushAlong_9 : decode b_S_pushAlong 9 = .ok (.lload_n 3, 1) := by decide +kernel
theorem d_S_pushAlong_10 : decode b_S_pushAlong 10 = .ok (.iconst (-1), 1) := by decide +kernel
theorem d_S_pushAlong_11 : decode b_S_pushAlong 11 = .ok (.invokestatic 67, 3) := by decide +kernel
theorem d_S_pushAlong_14 : decode b_S_pushAlong 14 = .ok (.istore 5, 2) := by decide +kernel
theorem d_S_pushAlong_16 : decode b_S_pushAlong 16 = .ok (.iconst 0, 1) := by decide +kernel
theorem d_S_pushAlong_17 : decode b_S_pushAlong 17 = .ok (.istore 6, 2) := by decide +kernel
theorem d_S_pushAlong_19 : decode b_S_pushAlong 19 = .ok (.iload 6, 2) := by decide +kernel
theorem d_S_pushAlong_21 : decode b_S_pushAlong 21 = .ok (.aload_n 0, 1) := by decide +kernel
theorem d_S_pushAlong_22 : decode b_S_pushAlong 22 = .ok (.getfield 31, 3) := by decide +kernel
theorem d_S_pushAlong_25 : decode b_S_pushAlong 25 = .ok (.if_icmp .ge 72, 3) := by decide +kernel
theorem d_S_pushAlong_28 : decode b_S_pushAlong 28 = .ok (.iload 5, 2) := by decide +kernel
theorem d_S_pushAlong_30 : decode b_S_pushAlong 30 = .ok (.aload_n 0, 1) := by decide +kernel
theorem d_S_pushAlong_31 : decode b_S_pushAlong 31 = .ok (.getfield 31, 3) := by decide +kernel
theorem d_S_pushAlong_34 : decode b_S_pushAlong 34 = .ok (.if_icmp .ge 63, 3) := by decide +kernel
theorem d_S_pushAlong_37 : decode b_S_pushAlong 37 = .ok (.aload_n 0, 1) := by decide +kernel
theorem d_S_pushAlong_38 : decode b_S_pushAlong 38 = .ok (.getfield 15, 3) := by decide +kernel
theorem d_S_pushAlong_41 : decode b_S_pushAlong 41 = .ok (.iload 5, 2) := by decide +kernel
theorem d_S_pushAlong_43 : decode b_S_pushAlong 43 = .ok (.laload, 1) := by decide +kernel
theorem d_S_pushAlong_44 : decode b_S_pushAlong 44 = .ok (.aload_n 0, 1) := by decide +kernel
theorem d_S_pushAlong_45 : decode b_S_pushAlong 45 = .ok (.getfield 15, 3) := by decide +kernel
theorem d_S_pushAlong_48 : decode b_S_pushAlong 48 = .ok (.iload_n 1, 1) := by decide +kernel
theorem d_S_pushAlong_49 : decode b_S_pushAlong 49 = .ok (.laload, 1) := by decide +kernel
theorem d_S_pushAlong_50 : decode b_S_pushAlong 50 = .ok (.iload 5, 2) := by decide +kernel
theorem d_S_pushAlong_52 : decode b_S_pushAlong 52 = .ok (.invokestatic 52, 3) := by decide +kernel
theorem d_S_pushAlong_55 : decode b_S_pushAlong 55 = .ok (.lor, 1) := by decide +kernel
theorem d_S_pushAlong_56 : decode b_S_pushAlong 56 = .ok (.land, 1) := by decide +kernel
theorem d_S_pushAlong_57 : decode b_S_pushAlong 57 = .ok (.lstore 7, 2) := by decide +kernel
theorem d_S_pushAlong_59 : decode b_S_pushAlong 59 = .ok (.lload 7, 2) := by decide +kernel
theorem d_S_pushAlong_61 : decode b_S_pushAlong 61 = .ok (.aload_n 0, 1) := by decide +kernel
theorem d_S_pushAlong_62 : decode b_S_pushAlong 62 = .ok (.getfield 15, 3) := by decide +kernel
theorem d_S_pushAlong_65 : decode b_S_pushAlong 65 = .ok (.iload 5, 2) := by decide +kernel
theorem d_S_pushAlong_67 : decode b_S_pushAlong 67 = .ok (.laload, 1) := by decide +kernel
theorem d_S_pushAlong_68 : decode b_S_pushAlong 68 = .ok (.lcmp, 1) := by decide +kernel
theorem d_S_pushAlong_69 : decode b_S_pushAlong 69 = .ok (.ifCond .eq 14, 3) := by decide +kernel
theorem d_S_pushAlong_72 : decode b_S_pushAlong 72 = .ok (.aload_n 0, 1) := by decide +kernel
theorem d_S_pushAlong_73 : decode b_S_pushAlong 73 = .ok (.getfield 15, 3) := by decide +kernel
theorem d_S_pushAlong_76 : decode b_S_pushAlong 76 = .ok (.iload 5, 2) := by decide +kernel
theorem d_S_pushAlong_78 : decode b_S_pushAlong 78 = .ok (.lload 7, 2) := by decide +kernel
theorem d_S_pushAlong_80 : decode b_S_pushAlong 80 = .ok (.lastore, 1) := by decide +kernel
theorem d_S_pushAlong_81 : decode b_S_pushAlong 81 = .ok (.iconst 1, 1) := by decide +kernel
theorem d_S_pushAlong_82 : decode b_S_pushAlong 82 = .ok (.istore_n 2, 1) := by decide +kernel
theorem d_S_pushAlong_83 : decode b_S_pushAlong 83 = .ok (.lload_n 3, 1) := by decide +kernel
theorem d_S_pushAlong_84 : decode b_S_pushAlong 84 = .ok (.iload 5, 2) := by decide +kernel
theorem d_S_pushAlong_86 : decode b_S_pushAlong 86 = .ok (.invokestatic 67, 3) := by decide +kernel
theorem d_S_pushAlong_89 : decode b_S_pushAlong 89 = .ok (.istore 5, 2) := by decide +kernel
theorem d_S_pushAlong_91 : decode b_S_pushAlong 91 = .ok (.iinc 6 1, 3) := by decide +kernel
theorem d_S_pushAlong_94 : decode b_S_pushAlong 94 = .ok (.goto (-75), 3) := by decide +kernel
theorem d_S_pushAlong_97 : decode b_S_pushAlong 97 = .ok (.iload_n 2, 1) := by decide +kernel
theorem d_S_pushAlong_98 : decode b_S_pushAlong 98 = .ok (.ireturn, 1) := by decide +kernel
theorem d_S_rimsFrom_0 : decode b_S_rimsFrom 0 = .ok (.lconst 0, 1) := by decide +kernel
theorem d_S_rimsFrom_1 : decode b_S_rimsFrom 1 = .ok (.lstore_n 3, 1) := by decide +kernel
theorem d_S_rimsFrom_2 : decode b_S_rimsFrom 2 = .ok (.lconst 0, 1) := by decide +kernel
theorem d_S_rimsFrom_3 : decode b_S_rimsFrom 3 = .ok (.lstore 5, 2) := by decide +kernel
theorem d_S_rimsFrom_5 : decode b_S_rimsFrom 5 = .ok (.lload_n 1, 1) := by decide +kernel
theorem d_S_rimsFrom_6 : decode b_S_rimsFrom 6 = .ok (.aload_n 0, 1) := by decide +kernel
theorem d_S_rimsFrom_7 : decode b_S_rimsFrom 7 = .ok (.getfield 38, 3) := by decide +kernel
theorem d_S_rimsFrom_10 : decode b_S_rimsFrom 10 = .ok (.land, 1) := by decide +kernel
theorem d_S_rimsFrom_11 : decode b_S_rimsFrom 11 = .ok (.lstore 7, 2) := by decide +kernel
theorem d_S_rimsFrom_13 : decode b_S_rimsFrom 13 = .ok (.iconst 0, 1) := by decide +kernel
theorem d_S_rimsFrom_14 : decode b_S_rimsFrom 14 = .ok (.istore 9, 2) := by decide +kernel
theorem d_S_rimsFrom_16 : decode b_S_rimsFrom 16 = .ok (.iload 9, 2) := by decide +kernel
theorem d_S_rimsFrom_18 : decode b_S_rimsFrom 18 = .ok (.aload_n 0, 1) := by decide +kernel
theorem d_S_rimsFrom_19 : decode b_S_rimsFrom 19 = .ok (.getfield 31, 3) := by decide +kernel
theorem d_S_rimsFrom_22 : decode b_S_rimsFrom 22 = .ok (.if_icmp .ge 56, 3) := by decide +kernel
theorem d_S_rimsFrom_25 : decode b_S_rimsFrom 25 = .ok (.lload 7, 2) := by decide +kernel
theorem d_S_rimsFrom_27 : decode b_S_rimsFrom 27 = .ok (.lconst 0, 1) := by decide +kernel
theorem d_S_rimsFrom_28 : decode b_S_rimsFrom 28 = .ok (.lcmp, 1) := by decide +kernel
theorem d_S_rimsFrom_29 : decode b_S_rimsFrom 29 = .ok (.ifCond .eq 49, 3) := by decide +kernel
theorem d_S_rimsFrom_32 : decode b_S_rimsFrom 32 = .ok (.lload 7, 2) := by decide +kernel
theorem d_S_rimsFrom_34 : decode b_S_rimsFrom 34 = .ok (.iconst (-1), 1) := by decide +kernel
theorem d_S_rimsFrom_35 : decode b_S_rimsFrom 35 = .ok (.invokestatic 67, 3) := by decide +kernel
theorem d_S_rimsFrom_38 : decode b_S_rimsFrom 38 = .ok (.istore 10, 2) := by decide +kernel
theorem d_S_rimsFrom_40 : decode b_S_rimsFrom 40 = .ok (.lload 5, 2) := by decide +kernel
theorem d_S_rimsFrom_42 : decode b_S_rimsFrom 42 = .ok (.iload 10, 2) := by decide +kernel
theorem d_S_rimsFrom_44 : decode b_S_rimsFrom 44 = .ok (.invokestatic 52, 3) := by decide +kernel
theorem d_S_rimsFrom_47 : decode b_S_rimsFrom 47 = .ok (.lor, 1) := by decide +kernel
theorem d_S_rimsFrom_48 : decode b_S_rimsFrom 48 = .ok (.lstore 5, 2) := by decide +kernel
theorem d_S_rimsFrom_50 : decode b_S_rimsFrom 50 = .ok (.lload_n 3, 1) := by decide +kernel
theorem d_S_rimsFrom_51 : decode b_S_rimsFrom 51 = .ok (.aload_n 0, 1) := by decide +kernel
theorem d_S_rimsFrom_52 : decode b_S_rimsFrom 52 = .ok (.iload 10, 2) := by decide +kernel
theorem d_S_rimsFrom_54 : decode b_S_rimsFrom 54 = .ok (.invokevirtual 85, 3) := by decide +kernel
theorem d_S_rimsFrom_57 : decode b_S_rimsFrom 57 = .ok (.lor, 1) := by decide +kernel
theorem d_S_rimsFrom_58 : decode b_S_rimsFrom 58 = .ok (.lstore_n 3, 1) := by decide +kernel
theorem d_S_rimsFrom_59 : decode b_S_rimsFrom 59 = .ok (.lload 7, 2) := by decide +kernel
theorem d_S_rimsFrom_61 : decode b_S_rimsFrom 61 = .ok (.lload_n 3, 1) := by decide +kernel
theorem d_S_rimsFrom_62 : decode b_S_rimsFrom 62 = .ok (.lor, 1) := by decide +kernel
theorem d_S_rimsFrom_63 : decode b_S_rimsFrom 63 = .ok (.lload 5, 2) := by decide +kernel
theorem d_S_rimsFrom_65 : decode b_S_rimsFrom 65 = .ok (.ldc2_w 65, 3) := by decide +kernel
theorem d_S_rimsFrom_68 : decode b_S_rimsFrom 68 = .ok (.lxor, 1) := by decide +kernel
theorem d_S_rimsFrom_69 : decode b_S_rimsFrom 69 = .ok (.land, 1) := by decide +kernel
theorem d_S_rimsFrom_70 : decode b_S_rimsFrom 70 = .ok (.lstore 7, 2) := by decide +kernel
theorem d_S_rimsFrom_72 : decode b_S_rimsFrom 72 = .ok (.iinc 9 1, 3) := by decide +kernel
theorem d_S_rimsFrom_75 : decode b_S_rimsFrom 75 = .ok (.goto (-59), 3) := by decide +kernel
theorem d_S_rimsFrom_78 : decode b_S_rimsFrom 78 = .ok (.lload_n 3, 1) := by decide +kernel
theorem d_S_rimsFrom_79 : decode b_S_rimsFrom 79 = .ok (.lreturn, 1) := by decide +kernel
theorem d_S_rimOf_0 : decode b_S_rimOf 0 = .ok (.lconst 0, 1) := by decide +kernel
theorem d_S_rimOf_1 : decode b_S_rimOf 1 = .ok (.lstore_n 2, 1) := by decide +kernel
theorem d_S_rimOf_2 : decode b_S_rimOf 2 = .ok (.lconst 0, 1) := by decide +kernel
theorem d_S_rimOf_3 : decode b_S_rimOf 3 = .ok (.lstore 4, 2) := by decide +kernel
theorem d_S_rimOf_5 : decode b_S_rimOf 5 = .ok (.iconst 0, 1) := by decide +kernel
theorem d_S_rimOf_6 : decode b_S_rimOf 6 = .ok (.istore 6, 2) := by decide +kernel
theorem d_S_rimOf_8 : decode b_S_rimOf 8 = .ok (.iload 6, 2) := by decide +kernel
theorem d_S_rimOf_10 : decode b_S_rimOf 10 = .ok (.aload_n 0, 1) := by decide +kernel
theorem d_S_rimOf_11 : decode b_S_rimOf 11 = .ok (.getfield 31, 3) := by decide +kernel
theorem d_S_rimOf_14 : decode b_S_rimOf 14 = .ok (.if_icmp .ge 43, 3) := by decide +kernel
theorem d_S_rimOf_17 : decode b_S_rimOf 17 = .ok (.aload_n 0, 1) := by decide +kernel
theorem d_S_rimOf_18 : decode b_S_rimOf 18 = .ok (.getfield 15, 3) := by decide +kernel
theorem d_S_rimOf_21 : decode b_S_rimOf 21 = .ok (.iload 6, 2) := by decide +kernel
theorem d_S_rimOf_23 : decode b_S_rimOf 23 = .ok (.laload, 1) := by decide +kernel
theorem d_S_rimOf_24 : decode b_S_rimOf 24 = .ok (.iload_n 1, 1) := by decide +kernel
theorem d_S_rimOf_25 : decode b_S_rimOf 25 = .ok (.invokestatic 71, 3) := by decide +kernel
theorem d_S_rimOf_28 : decode b_S_rimOf 28 = .ok (.ifCond .eq 23, 3) := by decide +kernel
theorem d_S_rimOf_31 : decode b_S_rimOf 31 = .ok (.lload_n 2, 1) := by decide +kernel
theorem d_S_rimOf_32 : decode b_S_rimOf 32 = .ok (.iload 6, 2) := by decide +kernel
theorem d_S_rimOf_34 : decode b_S_rimOf 34 = .ok (.invokestatic 52, 3) := by decide +kernel
theorem d_S_rimOf_37 : decode b_S_rimOf 37 = .ok (.lor, 1) := by decide +kernel
theorem d_S_rimOf_38 : decode b_S_rimOf 38 = .ok (.lstore_n 2, 1) := by decide +kernel
theorem d_S_rimOf_39 : decode b_S_rimOf 39 = .ok (.lload 4, 2) := by decide +kernel
theorem d_S_rimOf_41 : decode b_S_rimOf 41 = .ok (.aload_n 0, 1) := by decide +kernel
theorem d_S_rimOf_42 : decode b_S_rimOf 42 = .ok (.getfield 9, 3) := by decide +kernel
theorem d_S_rimOf_45 : decode b_S_rimOf 45 = .ok (.iload 6, 2) := by decide +kernel
theorem d_S_rimOf_47 : decode b_S_rimOf 47 = .ok (.laload, 1) := by decide +kernel
theorem d_S_rimOf_48 : decode b_S_rimOf 48 = .ok (.lor, 1) := by decide +kernel
theorem d_S_rimOf_49 : decode b_S_rimOf 49 = .ok (.lstore 4, 2) := by decide +kernel
theorem d_S_rimOf_51 : decode b_S_rimOf 51 = .ok (.iinc 6 1, 3) := by decide +kernel
theorem d_S_rimOf_54 : decode b_S_rimOf 54 = .ok (.goto (-46), 3) := by decide +kernel
theorem d_S_rimOf_57 : decode b_S_rimOf 57 = .ok (.lload 4, 2) := by decide +kernel
theorem d_S_rimOf_59 : decode b_S_rimOf 59 = .ok (.lload_n 2, 1) := by decide +kernel
theorem d_S_rimOf_60 : decode b_S_rimOf 60 = .ok (.iload_n 1, 1) := by decide +kernel
theorem d_S_rimOf_61 : decode b_S_rimOf 61 = .ok (.invokestatic 52, 3) := by decide +kernel
theorem d_S_rimOf_64 : decode b_S_rimOf 64 = .ok (.ldc2_w 65, 3) := by decide +kernel
theorem d_S_rimOf_67 : decode b_S_rimOf 67 = .ok (.lxor, 1) := by decide +kernel
theorem d_S_rimOf_68 : decode b_S_rimOf 68 = .ok (.land, 1) := by decide +kernel
theorem d_S_rimOf_69 : decode b_S_rimOf 69 = .ok (.ldc2_w 65, 3) := by decide +kernel
theorem d_S_rimOf_72 : decode b_S_rimOf 72 = .ok (.lxor, 1) := by decide +kernel
theorem d_S_rimOf_73 : decode b_S_rimOf 73 = .ok (.land, 1) := by decide +kernel
theorem d_S_rimOf_74 : decode b_S_rimOf 74 = .ok (.lreturn, 1) := by decide +kernel
theorem d_N_workOut_0 : decode b_N_workOut 0 = .ok (.aload_n 0, 1) := by decide +kernel
theorem d_N_workOut_1 : decode b_N_workOut 1 = .ok (.getfield 15, 3) := by decide +kernel
theorem d_N_workOut_4 : decode b_N_workOut 4 = .ok (.ifCond .eq 36, 3) := by decide +kernel
theorem d_N_workOut_7 : decode b_N_workOut 7 = .ok (.iconst 0, 1) := by decide +kernel
theorem d_N_workOut_8 : decode b_N_workOut 8 = .ok (.istore_n 3, 1) := by decide +kernel
theorem d_N_workOut_9 : decode b_N_workOut 9 = .ok (.iload_n 3, 1) := by decide +kernel
theorem d_N_workOut_10 : decode b_N_workOut 10 = .ok (.aload_n 1, 1) := by decide +kernel
theorem d_N_workOut_11 : decode b_N_workOut 11 = .ok (.getfield 19, 3) := by decide +kernel
theorem d_N_workOut_14 : decode b_N_workOut 14 = .ok (.if_icmp .ge 21, 3) := by decide +kernel
theorem d_N_workOut_17 : decode b_N_workOut 17 = .ok (.aload_n 0, 1) := by decide +kernel
theorem d_N_workOut_18 : decode b_N_workOut 18 = .ok (.getfield 9, 3) := by decide +kernel
theorem d_N_workOut_21 : decode b_N_workOut 21 = .ok (.iload_n 3, 1) := by decide +kernel
theorem d_N_workOut_22 : decode b_N_workOut 22 = .ok (.iload_n 3, 1) := by decide +kernel
theorem d_N_workOut_23 : decode b_N_workOut 23 = .ok (.aload_n 1, 1) := by decide +kernel
theorem d_N_workOut_24 : decode b_N_workOut 24 = .ok (.aload_n 2, 1) := by decide +kernel
theorem d_N_workOut_25 : decode b_N_workOut 25 = .ok (.invokestatic 25, 3) := by decide +kernel
theorem d_N_workOut_28 : decode b_N_workOut 28 = .ok (.lastore, 1) := by decide +kernel
theorem d_N_workOut_29 : decode b_N_workOut 29 = .ok (.iinc 3 1, 3) := by decide +kernel
theorem d_N_workOut_32 : decode b_N_workOut 32 = .ok (.goto (-23), 3) := by decide +kernel
theorem d_N_workOut_35 : decode b_N_workOut 35 = .ok (.aload_n 0, 1) := by decide +kernel
theorem d_N_workOut_36 : decode b_N_workOut 36 = .ok (.iconst 0, 1) := by decide +kernel
theorem d_N_workOut_37 : decode b_N_workOut 37 = .ok (.putfield 15, 3) := by decide +kernel
theorem d_N_workOut_40 : decode b_N_workOut 40 = .ok (.return_, 1) := by decide +kernel
theorem d_N_bodyOf_0 : decode b_N_bodyOf 0 = .ok (.lconst 0, 1) := by decide +kernel
theorem d_N_bodyOf_1 : decode b_N_bodyOf 1 = .ok (.lstore_n 3, 1) := by decide +kernel
theorem d_N_bodyOf_2 : decode b_N_bodyOf 2 = .ok (.aload_n 2, 1) := by decide +kernel
theorem d_N_bodyOf_3 : decode b_N_bodyOf 3 = .ok (.iload_n 0, 1) := by decide +kernel
theorem d_N_bodyOf_4 : decode b_N_bodyOf 4 = .ok (.laload, 1) := by decide +kernel
theorem d_N_bodyOf_5 : decode b_N_bodyOf 5 = .ok (.lstore 5, 2) := by decide +kernel
theorem d_N_bodyOf_7 : decode b_N_bodyOf 7 = .ok (.lload 5, 2) := by decide +kernel
theorem d_N_bodyOf_9 : decode b_N_bodyOf 9 = .ok (.iconst (-1), 1) := by decide +kernel
theorem d_N_bodyOf_10 : decode b_N_bodyOf 10 = .ok (.invokestatic 29, 3) := by decide +kernel
theorem d_N_bodyOf_13 : decode b_N_bodyOf 13 = .ok (.istore 7, 2) := by decide +kernel
theorem d_N_bodyOf_15 : decode b_N_bodyOf 15 = .ok (.iconst 0, 1) := by decide +kernel
theorem d_N_bodyOf_16 : decode b_N_bodyOf 16 = .ok (.istore 8, 2) := by decide +kernel
theorem d_N_bodyOf_18 : decode b_N_bodyOf 18 = .ok (.iload 8, 2) := by decide +kernel
theorem d_N_bodyOf_20 : decode b_N_bodyOf 20 = .ok (.aload_n 1, 1) := by decide +kernel
theorem d_N_bodyOf_21 : decode b_N_bodyOf 21 = .ok (.getfield 19, 3) := by decide +kernel
theorem d_N_bodyOf_24 : decode b_N_bodyOf 24 = .ok (.if_icmp .ge 49, 3) := by decide +kernel
theorem d_N_bodyOf_27 : decode b_N_bodyOf 27 = .ok (.iload 7, 2) := by decide +kernel
theorem d_N_bodyOf_29 : decode b_N_bodyOf 29 = .ok (.aload_n 1, 1) := by decide +kernel
theorem d_N_bodyOf_30 : decode b_N_bodyOf 30 = .ok (.getfield 19, 3) := by decide +kernel
theorem d_N_bodyOf_33 : decode b_N_bodyOf 33 = .ok (.if_icmp .ge 40, 3) := by decide +kernel
theorem d_N_bodyOf_36 : decode b_N_bodyOf 36 = .ok (.aload_n 1, 1) := by decide +kernel
theorem d_N_bodyOf_37 : decode b_N_bodyOf 37 = .ok (.getfield 33, 3) := by decide +kernel
theorem d_N_bodyOf_40 : decode b_N_bodyOf 40 = .ok (.iload 7, 2) := by decide +kernel
theorem d_N_bodyOf_42 : decode b_N_bodyOf 42 = .ok (.laload, 1) := by decide +kernel
theorem d_N_bodyOf_43 : decode b_N_bodyOf 43 = .ok (.iload_n 0, 1) := by decide +kernel
theorem d_N_bodyOf_44 : decode b_N_bodyOf 44 = .ok (.invokestatic 36, 3) := by decide +kernel
theorem d_N_bodyOf_47 : decode b_N_bodyOf 47 = .ok (.ifCond .eq 11, 3) := by decide +kernel
theorem d_N_bodyOf_50 : decode b_N_bodyOf 50 = .ok (.lload_n 3, 1) := by decide +kernel
theorem d_N_bodyOf_51 : decode b_N_bodyOf 51 = .ok (.iload 7, 2) := by decide +kernel
theorem d_N_bodyOf_53 : decode b_N_bodyOf 53 = .ok (.invokestatic 40, 3) := by decide +kernel
theorem d_N_bodyOf_56 : decode b_N_bodyOf 56 = .ok (.lor, 1) := by decide +kernel
theorem d_N_bodyOf_57 : decode b_N_bodyOf 57 = .ok (.lstore_n 3, 1) := by decide +kernel
theorem d_N_bodyOf_58 : decode b_N_bodyOf 58 = .ok (.lload 5, 2) := by decide +kernel
theorem d_N_bodyOf_60 : decode b_N_bodyOf 60 = .ok (.iload 7, 2) := by decide +kernel
theorem d_N_bodyOf_62 : decode b_N_bodyOf 62 = .ok (.invokestatic 29, 3) := by decide +kernel
theorem d_N_bodyOf_65 : decode b_N_bodyOf 65 = .ok (.istore 7, 2) := by decide +kernel
theorem d_N_bodyOf_67 : decode b_N_bodyOf 67 = .ok (.iinc 8 1, 3) := by decide +kernel
theorem d_N_bodyOf_70 : decode b_N_bodyOf 70 = .ok (.goto (-52), 3) := by decide +kernel
theorem d_N_bodyOf_73 : decode b_N_bodyOf 73 = .ok (.lload_n 3, 1) := by decide +kernel
theorem d_N_bodyOf_74 : decode b_N_bodyOf 74 = .ok (.lconst 0, 1) := by decide +kernel
theorem d_N_bodyOf_75 : decode b_N_bodyOf 75 = .ok (.lcmp, 1) := by decide +kernel
theorem d_N_bodyOf_76 : decode b_N_bodyOf 76 = .ok (.ifCond .ne 5, 3) := by decide +kernel
theorem d_N_bodyOf_79 : decode b_N_bodyOf 79 = .ok (.lconst 0, 1) := by decide +kernel
theorem d_N_bodyOf_80 : decode b_N_bodyOf 80 = .ok (.lreturn, 1) := by decide +kernel
theorem d_N_bodyOf_81 : decode b_N_bodyOf 81 = .ok (.iload_n 0, 1) := by decide +kernel
theorem d_N_bodyOf_82 : decode b_N_bodyOf 82 = .ok (.invokestatic 40, 3) := by decide +kernel
theorem d_N_bodyOf_85 : decode b_N_bodyOf 85 = .ok (.lload_n 3, 1) := by decide +kernel
theorem d_N_bodyOf_86 : decode b_N_bodyOf 86 = .ok (.aload_n 1, 1) := by decide +kernel
theorem d_N_bodyOf_87 : decode b_N_bodyOf 87 = .ok (.getfield 44, 3) := by decide +kernel
theorem d_N_bodyOf_90 : decode b_N_bodyOf 90 = .ok (.iload_n 0, 1) := by decide +kernel
theorem d_N_bodyOf_91 : decode b_N_bodyOf 91 = .ok (.invokestatic 40, 3) := by decide +kernel
theorem d_N_bodyOf_94 : decode b_N_bodyOf 94 = .ok (.ldc2_w 48, 3) := by decide +kernel
theorem d_N_bodyOf_97 : decode b_N_bodyOf 97 = .ok (.lxor, 1) := by decide +kernel
theorem d_N_bodyOf_98 : decode b_N_bodyOf 98 = .ok (.land, 1) := by decide +kernel
theorem d_N_bodyOf_99 : decode b_N_bodyOf 99 = .ok (.aload_n 2, 1) := by decide +kernel
theorem d_N_bodyOf_100 : decode b_N_bodyOf 100 = .ok (.aload_n 1, 1) := by decide +kernel
theorem d_N_bodyOf_101 : decode b_N_bodyOf 101 = .ok (.getfield 19, 3) := by decide +kernel
theorem d_N_bodyOf_104 : decode b_N_bodyOf 104 = .ok (.invokestatic 50, 3) := by decide +kernel
theorem d_N_bodyOf_107 : decode b_N_bodyOf 107 = .ok (.lor, 1) := by decide +kernel
theorem d_N_bodyOf_108 : decode b_N_bodyOf 108 = .ok (.lreturn, 1) := by decide +kernel
theorem d_N_flood_0 : decode b_N_flood 0 = .ok (.lload_n 0, 1) := by decide +kernel
theorem d_N_flood_1 : decode b_N_flood 1 = .ok (.lload_n 2, 1) := by decide +kernel
theorem d_N_flood_2 : decode b_N_flood 2 = .ok (.land, 1) := by decide +kernel
theorem d_N_flood_3 : decode b_N_flood 3 = .ok (.lstore 6, 2) := by decide +kernel
theorem d_N_flood_5 : decode b_N_flood 5 = .ok (.lload 6, 2) := by decide +kernel
theorem d_N_flood_7 : decode b_N_flood 7 = .ok (.lstore 8, 2) := by decide +kernel
theorem d_N_flood_9 : decode b_N_flood 9 = .ok (.iconst 0, 1) := by decide +kernel
theorem d_N_flood_10 : decode b_N_flood 10 = .ok (.istore 10, 2) := by decide +kernel
theorem d_N_flood_12 : decode b_N_flood 12 = .ok (.iload 10, 2) := by decide +kernel
theorem d_N_flood_14 : decode b_N_flood 14 = .ok (.iload 5, 2) := by decide +kernel
theorem d_N_flood_16 : decode b_N_flood 16 = .ok (.if_icmp .ge 64, 3) := by decide +kernel
theorem d_N_flood_19 : decode b_N_flood 19 = .ok (.lload 8, 2) := by decide +kernel
theorem d_N_flood_21 : decode b_N_flood 21 = .ok (.lconst 0, 1) := by decide +kernel
theorem d_N_flood_22 : decode b_N_flood 22 = .ok (.lcmp, 1) := by decide +kernel
theorem d_N_flood_23 : decode b_N_flood 23 = .ok (.ifCond .eq 57, 3) := by decide +kernel
theorem d_N_flood_26 : decode b_N_flood 26 = .ok (.lload 8, 2) := by decide +kernel
theorem d_N_flood_28 : decode b_N_flood 28 = .ok (.iconst (-1), 1) := by decide +kernel
theorem d_N_flood_29 : decode b_N_flood 29 = .ok (.invokestatic 29, 3) := by decide +kernel
theorem d_N_flood_32 : decode b_N_flood 32 = .ok (.istore 11, 2) := by decide +kernel
theorem d_N_flood_34 : decode b_N_flood 34 = .ok (.aload 4, 2) := by decide +kernel
theorem d_N_flood_36 : decode b_N_flood 36 = .ok (.iload 11, 2) := by decide +kernel
theorem d_N_flood_38 : decode b_N_flood 38 = .ok (.laload, 1) := by decide +kernel
theorem d_N_flood_39 : decode b_N_flood 39 = .ok (.lload_n 2, 1) := by decide +kernel
theorem d_N_flood_40 : decode b_N_flood 40 = .ok (.land, 1) := by decide +kernel
theorem d_N_flood_41 : decode b_N_flood 41 = .ok (.lload 6, 2) := by decide +kernel
theorem d_N_flood_43 : decode b_N_flood 43 = .ok (.ldc2_w 48, 3) := by decide +kernel
theorem d_N_flood_46 : decode b_N_flood 46 = .ok (.lxor, 1) := by decide +kernel
theorem d_N_flood_47 : decode b_N_flood 47 = .ok (.land, 1) := by decide +kernel
theorem d_N_flood_48 : decode b_N_flood 48 = .ok (.lstore 12, 2) := by decide +kernel
theorem d_N_flood_50 : decode b_N_flood 50 = .ok (.lload 6, 2) := by decide +kernel
theorem d_N_flood_52 : decode b_N_flood 52 = .ok (.lload 12, 2) := by decide +kernel
theorem d_N_flood_54 : decode b_N_flood 54 = .ok (.lor, 1) := by decide +kernel
theorem d_N_flood_55 : decode b_N_flood 55 = .ok (.lstore 6, 2) := by decide +kernel
theorem d_N_flood_57 : decode b_N_flood 57 = .ok (.lload 8, 2) := by decide +kernel
theorem d_N_flood_59 : decode b_N_flood 59 = .ok (.iload 11, 2) := by decide +kernel
theorem d_N_flood_61 : decode b_N_flood 61 = .ok (.invokestatic 40, 3) := by decide +kernel
theorem d_N_flood_64 : decode b_N_flood 64 = .ok (.ldc2_w 48, 3) := by decide +kernel
theorem d_N_flood_67 : decode b_N_flood 67 = .ok (.lxor, 1) := by decide +kernel
theorem d_N_flood_68 : decode b_N_flood 68 = .ok (.land, 1) := by decide +kernel
theorem d_N_flood_69 : decode b_N_flood 69 = .ok (.lload 12, 2) := by decide +kernel
theorem d_N_flood_71 : decode b_N_flood 71 = .ok (.lor, 1) := by decide +kernel
theorem d_N_flood_72 : decode b_N_flood 72 = .ok (.lstore 8, 2) := by decide +kernel
theorem d_N_flood_74 : decode b_N_flood 74 = .ok (.iinc 10 1, 3) := by decide +kernel
theorem d_N_flood_77 : decode b_N_flood 77 = .ok (.goto (-65), 3) := by decide +kernel
theorem d_N_flood_80 : decode b_N_flood 80 = .ok (.lload 6, 2) := by decide +kernel
theorem d_N_flood_82 : decode b_N_flood 82 = .ok (.lreturn, 1) := by decide +kernel
theorem d_N_count_0 : decode b_N_count 0 = .ok (.iconst 0, 1) := by decide +kernel
theorem d_N_count_1 : decode b_N_count 1 = .ok (.istore_n 2, 1) := by decide +kernel
theorem d_N_count_2 : decode b_N_count 2 = .ok (.iconst 0, 1) := by decide +kernel
theorem d_N_count_3 : decode b_N_count 3 = .ok (.istore_n 3, 1) := by decide +kernel
theorem d_N_count_4 : decode b_N_count 4 = .ok (.iload_n 3, 1) := by decide +kernel
theorem d_N_count_5 : decode b_N_count 5 = .ok (.iload_n 1, 1) := by decide +kernel
theorem d_N_count_6 : decode b_N_count 6 = .ok (.if_icmp .ge 28, 3) := by decide +kernel
theorem d_N_count_9 : decode b_N_count 9 = .ok (.iload_n 2, 1) := by decide +kernel
theorem d_N_count_10 : decode b_N_count 10 = .ok (.aload_n 0, 1) := by decide +kernel
theorem d_N_count_11 : decode b_N_count 11 = .ok (.getfield 9, 3) := by decide +kernel
theorem d_N_count_14 : decode b_N_count 14 = .ok (.iload_n 3, 1) := by decide +kernel
theorem d_N_count_15 : decode b_N_count 15 = .ok (.laload, 1) := by decide +kernel
theorem d_N_count_16 : decode b_N_count 16 = .ok (.lconst 0, 1) := by decide +kernel
theorem d_N_count_17 : decode b_N_count 17 = .ok (.lcmp, 1) := by decide +kernel
theorem d_N_count_18 : decode b_N_count 18 = .ok (.ifCond .eq 7, 3) := by decide +kernel
theorem d_N_count_21 : decode b_N_count 21 = .ok (.iconst 1, 1) := by decide +kernel
theorem d_N_count_22 : decode b_N_count 22 = .ok (.goto 4, 3) := by decide +kernel
theorem d_N_count_25 : decode b_N_count 25 = .ok (.iconst 0, 1) := by decide +kernel
theorem d_N_count_26 : decode b_N_count 26 = .ok (.iadd, 1) := by decide +kernel
theorem d_N_count_27 : decode b_N_count 27 = .ok (.istore_n 2, 1) := by decide +kernel
theorem d_N_count_28 : decode b_N_count 28 = .ok (.iinc 3 1, 3) := by decide +kernel
theorem d_N_count_31 : decode b_N_count 31 = .ok (.goto (-27), 3) := by decide +kernel
theorem d_N_count_34 : decode b_N_count 34 = .ok (.iload_n 2, 1) := by decide +kernel
theorem d_N_count_35 : decode b_N_count 35 = .ok (.ireturn, 1) := by decide +kernel
theorem d_S_ringsGoBack_0 : decode b_S_ringsGoBack 0 = .ok (.lconst 0, 1) := by decide +kernel
theorem d_S_ringsGoBack_1 : decode b_S_ringsGoBack 1 = .ok (.lstore_n 1, 1) := by decide +kernel
theorem d_S_ringsGoBack_2 : decode b_S_ringsGoBack 2 = .ok (.aload_n 0, 1) := by decide +kernel
theorem d_S_ringsGoBack_3 : decode b_S_ringsGoBack 3 = .ok (.getfield 38, 3) := by decide +kernel
theorem d_S_ringsGoBack_6 : decode b_S_ringsGoBack 6 = .ok (.invokestatic 75, 3) := by decide +kernel
theorem d_S_ringsGoBack_9 : decode b_S_ringsGoBack 9 = .ok (.istore_n 3, 1) := by decide +kernel
theorem d_S_ringsGoBack_10 : decode b_S_ringsGoBack 10 = .ok (.iconst 0, 1) := by decide +kernel
theorem d_S_ringsGoBack_11 : decode b_S_ringsGoBack 11 = .ok (.istore 4, 2) := by decide +kernel
theorem d_S_ringsGoBack_13 : decode b_S_ringsGoBack 13 = .ok (.iload 4, 2) := by decide +kernel
theorem d_S_ringsGoBack_15 : decode b_S_ringsGoBack 15 = .ok (.iload_n 3, 1) := by decide +kernel
theorem d_S_ringsGoBack_16 : decode b_S_ringsGoBack 16 = .ok (.if_icmp .ge 58, 3) := by decide +kernel
theorem d_S_ringsGoBack_19 : decode b_S_ringsGoBack 19 = .ok (.aload_n 0, 1) := by decide +kernel
theorem d_S_ringsGoBack_20 : decode b_S_ringsGoBack 20 = .ok (.getfield 25, 3) := by decide +kernel
theorem d_S_ringsGoBack_23 : decode b_S_ringsGoBack 23 = .ok (.iload 4, 2) := by decide +kernel
theorem d_S_ringsGoBack_25 : decode b_S_ringsGoBack 25 = .ok (.iaload, 1) := by decide +kernel
theorem d_S_ringsGoBack_26 : decode b_S_ringsGoBack 26 = .ok (.istore 5, 2) := by decide +kernel
theorem d_S_ringsGoBack_28 : decode b_S_ringsGoBack 28 = .ok (.aload_n 0, 1) := by decide +kernel
theorem d_S_ringsGoBack_29 : decode b_S_ringsGoBack 29 = .ok (.getfield 9, 3) := by decide +kernel
theorem d_S_ringsGoBack_32 : decode b_S_ringsGoBack 32 = .ok (.iload 5, 2) := by decide +kernel
theorem d_S_ringsGoBack_34 : decode b_S_ringsGoBack 34 = .ok (.laload, 1) := by decide +kernel
theorem d_S_ringsGoBack_35 : decode b_S_ringsGoBack 35 = .ok (.aload_n 0, 1) := by decide +kernel
theorem d_S_ringsGoBack_36 : decode b_S_ringsGoBack 36 = .ok (.getfield 15, 3) := by decide +kernel
theorem d_S_ringsGoBack_39 : decode b_S_ringsGoBack 39 = .ok (.iload 5, 2) := by decide +kernel
theorem d_S_ringsGoBack_41 : decode b_S_ringsGoBack 41 = .ok (.laload, 1) := by decide +kernel
theorem d_S_ringsGoBack_42 : decode b_S_ringsGoBack 42 = .ok (.ldc2_w 65, 3) := by decide +kernel
theorem d_S_ringsGoBack_45 : decode b_S_ringsGoBack 45 = .ok (.lxor, 1) := by decide +kernel
theorem d_S_ringsGoBack_46 : decode b_S_ringsGoBack 46 = .ok (.land, 1) := by decide +kernel
theorem d_S_ringsGoBack_47 : decode b_S_ringsGoBack 47 = .ok (.lload_n 1, 1) := by decide +kernel
theorem d_S_ringsGoBack_48 : decode b_S_ringsGoBack 48 = .ok (.ldc2_w 65, 3) := by decide +kernel
theorem d_S_ringsGoBack_51 : decode b_S_ringsGoBack 51 = .ok (.lxor, 1) := by decide +kernel
theorem d_S_ringsGoBack_52 : decode b_S_ringsGoBack 52 = .ok (.land, 1) := by decide +kernel
theorem d_S_ringsGoBack_53 : decode b_S_ringsGoBack 53 = .ok (.lconst 0, 1) := by decide +kernel
theorem d_S_ringsGoBack_54 : decode b_S_ringsGoBack 54 = .ok (.lcmp, 1) := by decide +kernel
theorem d_S_ringsGoBack_55 : decode b_S_ringsGoBack 55 = .ok (.ifCond .eq 5, 3) := by decide +kernel
theorem d_S_ringsGoBack_58 : decode b_S_ringsGoBack 58 = .ok (.iconst 0, 1) := by decide +kernel
theorem d_S_ringsGoBack_59 : decode b_S_ringsGoBack 59 = .ok (.ireturn, 1) := by decide +kernel
theorem d_S_ringsGoBack_60 : decode b_S_ringsGoBack 60 = .ok (.lload_n 1, 1) := by decide +kernel
theorem d_S_ringsGoBack_61 : decode b_S_ringsGoBack 61 = .ok (.iload 5, 2) := by decide +kernel
theorem d_S_ringsGoBack_63 : decode b_S_ringsGoBack 63 = .ok (.invokestatic 52, 3) := by decide +kernel
theorem d_S_ringsGoBack_66 : decode b_S_ringsGoBack 66 = .ok (.lor, 1) := by decide +kernel
theorem d_S_ringsGoBack_67 : decode b_S_ringsGoBack 67 = .ok (.lstore_n 1, 1) := by decide +kernel
theorem d_S_ringsGoBack_68 : decode b_S_ringsGoBack 68 = .ok (.iinc 4 1, 3) := by decide +kernel
theorem d_S_ringsGoBack_71 : decode b_S_ringsGoBack 71 = .ok (.goto (-58), 3) := by decide +kernel
theorem d_S_ringsGoBack_74 : decode b_S_ringsGoBack 74 = .ok (.iconst 1, 1) := by decide +kernel
theorem d_S_ringsGoBack_75 : decode b_S_ringsGoBack 75 = .ok (.ireturn, 1) := by decide +kernel
theorem d_S_startWith_0 : decode b_S_startWith 0 = .ok (.aload_n 0, 1) := by decide +kernel
theorem d_S_startWith_1 : decode b_S_startWith 1 = .ok (.getfield 9, 3) := by decide +kernel
theorem d_S_startWith_4 : decode b_S_startWith 4 = .ok (.lconst 0, 1) := by decide +kernel
theorem d_S_startWith_5 : decode b_S_startWith 5 = .ok (.invokestatic 46, 3) := by decide +kernel
theorem d_S_startWith_8 : decode b_S_startWith 8 = .ok (.aload_n 0, 1) := by decide +kernel
theorem d_S_startWith_9 : decode b_S_startWith 9 = .ok (.iload_n 1, 1) := by decide +kernel
theorem d_S_startWith_10 : decode b_S_startWith 10 = .ok (.putfield 31, 3) := by decide +kernel
theorem d_S_startWith_13 : decode b_S_startWith 13 = .ok (.aload_n 0, 1) := by decide +kernel
theorem d_S_startWith_14 : decode b_S_startWith 14 = .ok (.iload_n 2, 1) := by decide +kernel
theorem d_S_startWith_15 : decode b_S_startWith 15 = .ok (.putfield 35, 3) := by decide +kernel
theorem d_S_startWith_18 : decode b_S_startWith 18 = .ok (.aload_n 0, 1) := by decide +kernel
theorem d_S_startWith_19 : decode b_S_startWith 19 = .ok (.iconst 1, 1) := by decide +kernel
theorem d_S_startWith_20 : decode b_S_startWith 20 = .ok (.putfield 42, 3) := by decide +kernel
theorem d_S_startWith_23 : decode b_S_startWith 23 = .ok (.return_, 1) := by decide +kernel
theorem d_Y_fillJ_0 : decode b_Y_fillJ 0 = .ok (.iconst 0, 1) := by decide +kernel
theorem d_Y_fillJ_1 : decode b_Y_fillJ 1 = .ok (.istore_n 3, 1) := by decide +kernel
theorem d_Y_fillJ_2 : decode b_Y_fillJ 2 = .ok (.aload_n 0, 1) := by decide +kernel
theorem d_Y_fillJ_3 : decode b_Y_fillJ 3 = .ok (.arraylength, 1) := by decide +kernel
theorem d_Y_fillJ_4 : decode b_Y_fillJ 4 = .ok (.istore 4, 2) := by decide +kernel
theorem d_Y_fillJ_6 : decode b_Y_fillJ 6 = .ok (.iload_n 3, 1) := by decide +kernel
theorem d_Y_fillJ_7 : decode b_Y_fillJ 7 = .ok (.iload 4, 2) := by decide +kernel
theorem d_Y_fillJ_9 : decode b_Y_fillJ 9 = .ok (.if_icmp .ge 13, 3) := by decide +kernel
theorem d_Y_fillJ_12 : decode b_Y_fillJ 12 = .ok (.aload_n 0, 1) := by decide +kernel
theorem d_Y_fillJ_13 : decode b_Y_fillJ 13 = .ok (.iload_n 3, 1) := by decide +kernel
theorem d_Y_fillJ_14 : decode b_Y_fillJ 14 = .ok (.lload_n 1, 1) := by decide +kernel
theorem d_Y_fillJ_15 : decode b_Y_fillJ 15 = .ok (.lastore, 1) := by decide +kernel
theorem d_Y_fillJ_16 : decode b_Y_fillJ 16 = .ok (.iinc 3 1, 3) := by decide +kernel
theorem d_Y_fillJ_19 : decode b_Y_fillJ 19 = .ok (.goto (-13), 3) := by decide +kernel
theorem d_Y_fillJ_22 : decode b_Y_fillJ 22 = .ok (.return_, 1) := by decide +kernel
theorem d_S_turn_0 : decode b_S_turn 0 = .ok (.aload_n 0, 1) := by decide +kernel
theorem d_S_turn_1 : decode b_S_turn 1 = .ok (.getfield 9, 3) := by decide +kernel
theorem d_S_turn_4 : decode b_S_turn 4 = .ok (.iload_n 1, 1) := by decide +kernel
theorem d_S_turn_5 : decode b_S_turn 5 = .ok (.dup2, 1) := by decide +kernel
theorem d_S_turn_6 : decode b_S_turn 6 = .ok (.laload, 1) := by decide +kernel
theorem d_S_turn_7 : decode b_S_turn 7 = .ok (.iload_n 2, 1) := by decide +kernel
theorem d_S_turn_8 : decode b_S_turn 8 = .ok (.invokestatic 52, 3) := by decide +kernel
theorem d_S_turn_11 : decode b_S_turn 11 = .ok (.lxor, 1) := by decide +kernel
theorem d_S_turn_12 : decode b_S_turn 12 = .ok (.lastore, 1) := by decide +kernel
theorem d_S_turn_13 : decode b_S_turn 13 = .ok (.aload_n 0, 1) := by decide +kernel
theorem d_S_turn_14 : decode b_S_turn 14 = .ok (.iconst 1, 1) := by decide +kernel
theorem d_S_turn_15 : decode b_S_turn 15 = .ok (.putfield 42, 3) := by decide +kernel
theorem d_S_turn_18 : decode b_S_turn 18 = .ok (.return_, 1) := by decide +kernel
theorem d_S_moveRoot_0 : decode b_S_moveRoot 0 = .ok (.aload_n 0, 1) := by decide +kernel
theorem d_S_moveRoot_1 : decode b_S_moveRoot 1 = .ok (.getfield 35, 3) := by decide +kernel
theorem d_S_moveRoot_4 : decode b_S_moveRoot 4 = .ok (.istore_n 2, 1) := by decide +kernel
theorem d_S_moveRoot_5 : decode b_S_moveRoot 5 = .ok (.aload_n 0, 1) := by decide +kernel
theorem d_S_moveRoot_6 : decode b_S_moveRoot 6 = .ok (.iload_n 1, 1) := by decide +kernel
theorem d_S_moveRoot_7 : decode b_S_moveRoot 7 = .ok (.putfield 35, 3) := by decide +kernel
theorem d_S_moveRoot_10 : decode b_S_moveRoot 10 = .ok (.aload_n 0, 1) := by decide +kernel
theorem d_S_moveRoot_11 : decode b_S_moveRoot 11 = .ok (.iconst 1, 1) := by decide +kernel
theorem d_S_moveRoot_12 : decode b_S_moveRoot 12 = .ok (.putfield 42, 3) := by decide +kernel
theorem d_S_moveRoot_15 : decode b_S_moveRoot 15 = .ok (.iload_n 2, 1) := by decide +kernel
theorem d_S_moveRoot_16 : decode b_S_moveRoot 16 = .ok (.ireturn, 1) := by decide +kernel
theorem d_S_closestAbove_0 : decode b_S_closestAbove 0 = .ok (.aload_n 0, 1) := by decide +kernel
theorem d_S_closestAbove_1 : decode b_S_closestAbove 1 = .ok (.getfield 15, 3) := by decide +kernel
theorem d_S_closestAbove_4 : decode b_S_closestAbove 4 = .ok (.iload_n 1, 1) := by decide +kernel
theorem d_S_closestAbove_5 : decode b_S_closestAbove 5 = .ok (.laload, 1) := by decide +kernel
theorem d_S_closestAbove_6 : decode b_S_closestAbove 6 = .ok (.iload_n 1, 1) := by decide +kernel
theorem d_S_closestAbove_7 : decode b_S_closestAbove 7 = .ok (.invokestatic 52, 3) := by decide +kernel
theorem d_S_closestAbove_10 : decode b_S_closestAbove 10 = .ok (.ldc2_w 65, 3) := by decide +kernel
theorem d_S_closestAbove_13 : decode b_S_closestAbove 13 = .ok (.lxor, 1) := by decide +kernel
theorem d_S_closestAbove_14 : decode b_S_closestAbove 14 = .ok (.land, 1) := by decide +kernel
theorem d_S_closestAbove_15 : decode b_S_closestAbove 15 = .ok (.lstore_n 2, 1) := by decide +kernel
theorem d_S_closestAbove_16 : decode b_S_closestAbove 16 = .ok (.iconst 0, 1) := by decide +kernel
theorem d_S_closestAbove_17 : decode b_S_closestAbove 17 = .ok (.istore 4, 2) := by decide +kernel
theorem d_S_closestAbove_19 : decode b_S_closestAbove 19 = .ok (.iload 4, 2) := by decide +kernel
theorem d_S_closestAbove_21 : decode b_S_closestAbove 21 = .ok (.aload_n 0, 1) := by decide +kernel
theorem d_S_closestAbove_22 : decode b_S_closestAbove 22 = .ok (.getfield 31, 3) := by decide +kernel
theorem d_S_closestAbove_25 : decode b_S_closestAbove 25 = .ok (.if_icmp .ge 33, 3) := by decide +kernel
theorem d_S_closestAbove_28 : decode b_S_closestAbove 28 = .ok (.lload_n 2, 1) := by decide +kernel
theorem d_S_closestAbove_29 : decode b_S_closestAbove 29 = .ok (.iload 4, 2) := by decide +kernel
theorem d_S_closestAbove_31 : decode b_S_closestAbove 31 = .ok (.invokestatic 71, 3) := by decide +kernel
theorem d_S_closestAbove_34 : decode b_S_closestAbove 34 = .ok (.ifCond .eq 18, 3) := by decide +kernel
theorem d_S_closestAbove_37 : decode b_S_closestAbove 37 = .ok (.aload_n 0, 1) := by decide +kernel
theorem d_S_closestAbove_38 : decode b_S_closestAbove 38 = .ok (.getfield 15, 3) := by decide +kernel
theorem d_S_closestAbove_41 : decode b_S_closestAbove 41 = .ok (.iload 4, 2) := by decide +kernel
theorem d_S_closestAbove_43 : decode b_S_closestAbove 43 = .ok (.laload, 1) := by decide +kernel
theorem d_S_closestAbove_44 : decode b_S_closestAbove 44 = .ok (.lload_n 2, 1) := by decide +kernel
theorem d_S_closestAbove_45 : decode b_S_closestAbove 45 = .ok (.lcmp, 1) := by decide +kernel
theorem d_S_closestAbove_46 : decode b_S_closestAbove 46 = .ok (.ifCond .ne 6, 3) := by decide +kernel
theorem d_S_closestAbove_49 : decode b_S_closestAbove 49 = .ok (.iload 4, 2) := by decide +kernel
theorem d_S_closestAbove_51 : decode b_S_closestAbove 51 = .ok (.ireturn, 1) := by decide +kernel
theorem d_S_closestAbove_52 : decode b_S_closestAbove 52 = .ok (.iinc 4 1, 3) := by decide +kernel
theorem d_S_closestAbove_55 : decode b_S_closestAbove 55 = .ok (.goto (-36), 3) := by decide +kernel
theorem d_S_closestAbove_58 : decode b_S_closestAbove 58 = .ok (.iconst (-1), 1) := by decide +kernel
theorem d_S_closestAbove_59 : decode b_S_closestAbove 59 = .ok (.ireturn, 1) := by decide +kernel
theorem d_N_countAround_0 : decode b_N_countAround 0 = .ok (.iconst 0, 1) := by decide +kernel
theorem d_N_countAround_1 : decode b_N_countAround 1 = .ok (.istore_n 3, 1) := by decide +kernel
theorem d_N_countAround_2 : decode b_N_countAround 2 = .ok (.iconst 0, 1) := by decide +kernel
theorem d_N_countAround_3 : decode b_N_countAround 3 = .ok (.istore 4, 2) := by decide +kernel
theorem d_N_countAround_5 : decode b_N_countAround 5 = .ok (.iload 4, 2) := by decide +kernel
theorem d_N_countAround_7 : decode b_N_countAround 7 = .ok (.iload_n 2, 1) := by decide +kernel
theorem d_N_countAround_8 : decode b_N_countAround 8 = .ok (.if_icmp .ge 31, 3) := by decide +kernel
theorem d_N_countAround_11 : decode b_N_countAround 11 = .ok (.iload_n 3, 1) := by decide +kernel
theorem d_N_countAround_12 : decode b_N_countAround 12 = .ok (.aload_n 0, 1) := by decide +kernel
theorem d_N_countAround_13 : decode b_N_countAround 13 = .ok (.getfield 9, 3) := by decide +kernel
theorem d_N_countAround_16 : decode b_N_countAround 16 = .ok (.iload 4, 2) := by decide +kernel
theorem d_N_countAround_18 : decode b_N_countAround 18 = .ok (.laload, 1) := by decide +kernel
theorem d_N_countAround_19 : decode b_N_countAround 19 = .ok (.iload_n 1, 1) := by decide +kernel
theorem d_N_countAround_20 : decode b_N_countAround 20 = .ok (.invokestatic 36, 3) := by decide +kernel
theorem d_N_countAround_23 : decode b_N_countAround 23 = .ok (.ifCond .eq 7, 3) := by decide +kernel
theorem d_N_countAround_26 : decode b_N_countAround 26 = .ok (.iconst 1, 1) := by decide +kernel
theorem d_N_countAround_27 : decode b_N_countAround 27 = .ok (.goto 4, 3) := by decide +kernel
theorem d_N_countAround_30 : decode b_N_countAround 30 = .ok (.iconst 0, 1) := by decide +kernel
theorem d_N_countAround_31 : decode b_N_countAround 31 = .ok (.iadd, 1) := by decide +kernel
theorem d_N_countAround_32 : decode b_N_countAround 32 = .ok (.istore_n 3, 1) := by decide +kernel
theorem d_N_countAround_33 : decode b_N_countAround 33 = .ok (.iinc 4 1, 3) := by decide +kernel
theorem d_N_countAround_36 : decode b_N_countAround 36 = .ok (.goto (-31), 3) := by decide +kernel
theorem d_N_countAround_39 : decode b_N_countAround 39 = .ok (.iload_n 3, 1) := by decide +kernel
theorem d_N_countAround_40 : decode b_N_countAround 40 = .ok (.ireturn, 1) := by decide +kernel
theorem d_N_leastAround_0 : decode b_N_leastAround 0 = .ok (.iconst (-1), 1) := by decide +kernel
theorem d_N_leastAround_1 : decode b_N_leastAround 1 = .ok (.istore 4, 2) := by decide +kernel
theorem d_N_leastAround_3 : decode b_N_leastAround 3 = .ok (.iconst 0, 1) := by decide +kernel
theorem d_N_leastAround_4 : decode b_N_leastAround 4 = .ok (.istore 5, 2) := by decide +kernel
theorem d_N_leastAround_6 : decode b_N_leastAround 6 = .ok (.iload 5, 2) := by decide +kernel
theorem d_N_leastAround_8 : decode b_N_leastAround 8 = .ok (.iload_n 3, 1) := by decide +kernel
theorem d_N_leastAround_9 : decode b_N_leastAround 9 = .ok (.if_icmp .ge 74, 3) := by decide +kernel
theorem d_N_leastAround_12 : decode b_N_leastAround 12 = .ok (.iload 5, 2) := by decide +kernel
theorem d_N_leastAround_14 : decode b_N_leastAround 14 = .ok (.iload_n 2, 1) := by decide +kernel
theorem d_N_leastAround_15 : decode b_N_leastAround 15 = .ok (.if_icmp .eq 21, 3) := by decide +kernel
theorem d_N_leastAround_18 : decode b_N_leastAround 18 = .ok (.aload_n 0, 1) := by decide +kernel
theorem d_N_leastAround_19 : decode b_N_leastAround 19 = .ok (.getfield 9, 3) := by decide +kernel
theorem d_N_leastAround_22 : decode b_N_leastAround 22 = .ok (.iload 5, 2) := by decide +kernel
theorem d_N_leastAround_24 : decode b_N_leastAround 24 = .ok (.laload, 1) := by decide +kernel
theorem d_N_leastAround_25 : decode b_N_leastAround 25 = .ok (.iload_n 1, 1) := by decide +kernel
theorem d_N_leastAround_26 : decode b_N_leastAround 26 = .ok (.invokestatic 36, 3) := by decide +kernel
theorem d_N_leastAround_29 : decode b_N_leastAround 29 = .ok (.ifCond .eq 7, 3) := by decide +kernel
theorem d_N_leastAround_32 : decode b_N_leastAround 32 = .ok (.iconst 1, 1) := by decide +kernel
theorem d_N_leastAround_33 : decode b_N_leastAround 33 = .ok (.goto 4, 3) := by decide +kernel
theorem d_N_leastAround_36 : decode b_N_leastAround 36 = .ok (.iconst 0, 1) := by decide +kernel
theorem d_N_leastAround_37 : decode b_N_leastAround 37 = .ok (.istore 6, 2) := by decide +kernel
theorem d_N_leastAround_39 : decode b_N_leastAround 39 = .ok (.iload 6, 2) := by decide +kernel
theorem d_N_leastAround_41 : decode b_N_leastAround 41 = .ok (.ifCond .eq 36, 3) := by decide +kernel
theorem d_N_leastAround_44 : decode b_N_leastAround 44 = .ok (.iload 4, 2) := by decide +kernel
theorem d_N_leastAround_46 : decode b_N_leastAround 46 = .ok (.iconst (-1), 1) := by decide +kernel
theorem d_N_leastAround_47 : decode b_N_leastAround 47 = .ok (.if_icmp .eq 26, 3) := by decide +kernel
theorem d_N_leastAround_50 : decode b_N_leastAround 50 = .ok (.aload_n 0, 1) := by decide +kernel
theorem d_N_leastAround_51 : decode b_N_leastAround 51 = .ok (.getfield 9, 3) := by decide +kernel
theorem d_N_leastAround_54 : decode b_N_leastAround 54 = .ok (.iload 5, 2) := by decide +kernel
theorem d_N_leastAround_56 : decode b_N_leastAround 56 = .ok (.laload, 1) := by decide +kernel
theorem d_N_leastAround_57 : decode b_N_leastAround 57 = .ok (.invokestatic 54, 3) := by decide +kernel
theorem d_N_leastAround_60 : decode b_N_leastAround 60 = .ok (.aload_n 0, 1) := by decide +kernel
theorem d_N_leastAround_61 : decode b_N_leastAround 61 = .ok (.getfield 9, 3) := by decide +kernel
theorem d_N_leastAround_64 : decode b_N_leastAround 64 = .ok (.iload 4, 2) := by decide +kernel
theorem d_N_leastAround_66 : decode b_N_leastAround 66 = .ok (.laload, 1) := by decide +kernel
theorem d_N_leastAround_67 : decode b_N_leastAround 67 = .ok (.invokestatic 54, 3) := by decide +kernel
theorem d_N_leastAround_70 : decode b_N_leastAround 70 = .ok (.if_icmp .ge 7, 3) := by decide +kernel
theorem d_N_leastAround_73 : decode b_N_leastAround 73 = .ok (.iload 5, 2) := by decide +kernel
theorem d_N_leastAround_75 : decode b_N_leastAround 75 = .ok (.istore 4, 2) := by decide +kernel
theorem d_N_leastAround_77 : decode b_N_leastAround 77 = .ok (.iinc 5 1, 3) := by decide +kernel
theorem d_N_leastAround_80 : decode b_N_leastAround 80 = .ok (.goto (-74), 3) := by decide +kernel
theorem d_N_leastAround_83 : decode b_N_leastAround 83 = .ok (.iload 4, 2) := by decide +kernel
theorem d_N_leastAround_85 : decode b_N_leastAround 85 = .ok (.ireturn, 1) := by decide +kernel
