theorem d_F_init_0 : decode b_F_init 0 = .ok (.aload_n 0, 1) := by decide +kernel
theorem d_F_init_1 : decode b_F_init 1 = .ok (.invokespecial 1, 3) := by decide +kernel
theorem d_F_init_4 : decode b_F_init 4 = .ok (.aload_n 0, 1) := by decide +kernel
theorem d_F_init_5 : decode b_F_init 5 = .ok (.new 7, 3) := by decide +kernel
theorem d_F_init_8 : decode b_F_init 8 = .ok (.dup, 1) := by decide +kernel
theorem d_F_init_9 : decode b_F_init 9 = .ok (.invokespecial 9, 3) := by decide +kernel
theorem d_F_init_12 : decode b_F_init 12 = .ok (.putfield 10, 3) := by decide +kernel
theorem d_F_init_15 : decode b_F_init 15 = .ok (.aload_n 0, 1) := by decide +kernel
theorem d_F_init_16 : decode b_F_init 16 = .ok (.new 7, 3) := by decide +kernel
theorem d_F_init_19 : decode b_F_init 19 = .ok (.dup, 1) := by decide +kernel
theorem d_F_init_20 : decode b_F_init 20 = .ok (.invokespecial 9, 3) := by decide +kernel
theorem d_F_init_23 : decode b_F_init 23 = .ok (.putfield 16, 3) := by decide +kernel
theorem d_F_init_26 : decode b_F_init 26 = .ok (.aload_n 0, 1) := by decide +kernel
theorem d_F_init_27 : decode b_F_init 27 = .ok (.new 19, 3) := by decide +kernel
theorem d_F_init_30 : decode b_F_init 30 = .ok (.dup, 1) := by decide +kernel
theorem d_F_init_31 : decode b_F_init 31 = .ok (.invokespecial 21, 3) := by decide +kernel
theorem d_F_init_34 : decode b_F_init 34 = .ok (.putfield 22, 3) := by decide +kernel
theorem d_F_init_37 : decode b_F_init 37 = .ok (.aload_n 0, 1) := by decide +kernel
theorem d_F_init_38 : decode b_F_init 38 = .ok (.iconst 0, 1) := by decide +kernel
theorem d_F_init_39 : decode b_F_init 39 = .ok (.putfield 26, 3) := by decide +kernel
theorem d_F_init_42 : decode b_F_init 42 = .ok (.aload_n 0, 1) := by decide +kernel
theorem d_F_init_43 : decode b_F_init 43 = .ok (.iconst 0, 1) := by decide +kernel
theorem d_F_init_44 : decode b_F_init 44 = .ok (.putfield 30, 3) := by decide +kernel
theorem d_F_init_47 : decode b_F_init 47 = .ok (.return_, 1) := by decide +kernel
theorem d_F_spread_0 : decode b_F_spread 0 = .ok (.aload_n 0, 1) := by decide +kernel
theorem d_F_spread_1 : decode b_F_spread 1 = .ok (.iconst 0, 1) := by decide +kernel
theorem d_F_spread_2 : decode b_F_spread 2 = .ok (.invokevirtual 67, 3) := by decide +kernel
theorem d_F_spread_5 : decode b_F_spread 5 = .ok (.lload_n 1, 1) := by decide +kernel
theorem d_F_spread_6 : decode b_F_spread 6 = .ok (.invokevirtual 91, 3) := by decide +kernel
theorem d_F_spread_9 : decode b_F_spread 9 = .ok (.lreturn, 1) := by decide +kernel
theorem d_F_worked_0 : decode b_F_worked 0 = .ok (.iload_n 1, 1) := by decide +kernel
theorem d_F_worked_1 : decode b_F_worked 1 = .ok (.ifCond .eq 10, 3) := by decide +kernel
theorem d_F_worked_4 : decode b_F_worked 4 = .ok (.aload_n 0, 1) := by decide +kernel
theorem d_F_worked_5 : decode b_F_worked 5 = .ok (.getfield 16, 3) := by decide +kernel
theorem d_F_worked_8 : decode b_F_worked 8 = .ok (.goto 7, 3) := by decide +kernel
theorem d_F_worked_11 : decode b_F_worked 11 = .ok (.aload_n 0, 1) := by decide +kernel
theorem d_F_worked_12 : decode b_F_worked 12 = .ok (.getfield 10, 3) := by decide +kernel
theorem d_F_worked_15 : decode b_F_worked 15 = .ok (.astore_n 2, 1) := by decide +kernel
theorem d_F_worked_16 : decode b_F_worked 16 = .ok (.aload_n 2, 1) := by decide +kernel
theorem d_F_worked_17 : decode b_F_worked 17 = .ok (.invokevirtual 137, 3) := by decide +kernel
theorem d_F_worked_20 : decode b_F_worked 20 = .ok (.aload_n 2, 1) := by decide +kernel
theorem d_F_worked_21 : decode b_F_worked 21 = .ok (.areturn, 1) := by decide +kernel
theorem d_F_bit_0 : decode b_F_bit 0 = .ok (.lconst 1, 1) := by decide +kernel
theorem d_F_bit_1 : decode b_F_bit 1 = .ok (.iload_n 0, 1) := by decide +kernel
theorem d_F_bit_2 : decode b_F_bit 2 = .ok (.lshl, 1) := by decide +kernel
theorem d_F_bit_3 : decode b_F_bit 3 = .ok (.lreturn, 1) := by decide +kernel
theorem d_F_following_0 : decode b_F_following 0 = .ok (.lload_n 0, 1) := by decide +kernel
theorem d_F_following_1 : decode b_F_following 1 = .ok (.ldc2_w 98, 3) := by decide +kernel
theorem d_F_following_4 : decode b_F_following 4 = .ok (.iload_n 2, 1) := by decide +kernel
theorem d_F_following_5 : decode b_F_following 5 = .ok (.iconst 1, 1) := by decide +kernel
theorem d_F_following_6 : decode b_F_following 6 = .ok (.iadd, 1) := by decide +kernel
theorem d_F_following_7 : decode b_F_following 7 = .ok (.lshl, 1) := by decide +kernel
theorem d_F_following_8 : decode b_F_following 8 = .ok (.land, 1) := by decide +kernel
theorem d_F_following_9 : decode b_F_following 9 = .ok (.lstore_n 3, 1) := by decide +kernel
theorem d_F_following_10 : decode b_F_following 10 = .ok (.lload_n 3, 1) := by decide +kernel
theorem d_F_following_11 : decode b_F_following 11 = .ok (.lload_n 3, 1) := by decide +kernel
theorem d_F_following_12 : decode b_F_following 12 = .ok (.lneg, 1) := by decide +kernel
theorem d_F_following_13 : decode b_F_following 13 = .ok (.land, 1) := by decide +kernel
theorem d_F_following_14 : decode b_F_following 14 = .ok (.lconst 1, 1) := by decide +kernel
theorem d_F_following_15 : decode b_F_following 15 = .ok (.lsub, 1) := by decide +kernel
theorem d_F_following_16 : decode b_F_following 16 = .ok (.invokestatic 81, 3) := by decide +kernel
theorem d_F_following_19 : decode b_F_following 19 = .ok (.ireturn, 1) := by decide +kernel
theorem d_F_has_0 : decode b_F_has 0 = .ok (.lload_n 0, 1) := by decide +kernel
theorem d_F_has_1 : decode b_F_has 1 = .ok (.iload_n 2, 1) := by decide +kernel
theorem d_F_has_2 : decode b_F_has 2 = .ok (.invokestatic 95, 3) := by decide +kernel
theorem d_F_has_5 : decode b_F_has 5 = .ok (.land, 1) := by decide +kernel
theorem d_F_has_6 : decode b_F_has 6 = .ok (.lconst 0, 1) := by decide +kernel
theorem d_F_has_7 : decode b_F_has 7 = .ok (.lcmp, 1) := by decide +kernel
theorem d_F_has_8 : decode b_F_has 8 = .ok (.ifCond .eq 7, 3) := by decide +kernel
theorem d_F_has_11 : decode b_F_has 11 = .ok (.iconst 1, 1) := by decide +kernel
theorem d_F_has_12 : decode b_F_has 12 = .ok (.goto 4, 3) := by decide +kernel
theorem d_F_has_15 : decode b_F_has 15 = .ok (.iconst 0, 1) := by decide +kernel
theorem d_F_has_16 : decode b_F_has 16 = .ok (.ireturn, 1) := by decide +kernel
theorem d_F_loops_0 : decode b_F_loops 0 = .ok (.aload_n 0, 1) := by decide +kernel
theorem d_F_loops_1 : decode b_F_loops 1 = .ok (.invokevirtual 100, 3) := by decide +kernel
theorem d_F_loops_4 : decode b_F_loops 4 = .ok (.aload_n 0, 1) := by decide +kernel
theorem d_F_loops_5 : decode b_F_loops 5 = .ok (.getfield 26, 3) := by decide +kernel
theorem d_F_loops_8 : decode b_F_loops 8 = .ok (.invokevirtual 107, 3) := by decide +kernel
theorem d_F_loops_11 : decode b_F_loops 11 = .ok (.ireturn, 1) := by decide +kernel
theorem d_F_nested_0 : decode b_F_nested 0 = .ok (.aload_n 0, 1) := by decide +kernel
theorem d_F_nested_1 : decode b_F_nested 1 = .ok (.getfield 10, 3) := by decide +kernel
theorem d_F_nested_4 : decode b_F_nested 4 = .ok (.invokevirtual 137, 3) := by decide +kernel
theorem d_F_nested_7 : decode b_F_nested 7 = .ok (.aload_n 0, 1) := by decide +kernel
theorem d_F_nested_8 : decode b_F_nested 8 = .ok (.getfield 22, 3) := by decide +kernel
theorem d_F_nested_11 : decode b_F_nested 11 = .ok (.aload_n 0, 1) := by decide +kernel
theorem d_F_nested_12 : decode b_F_nested 12 = .ok (.getfield 10, 3) := by decide +kernel
theorem d_F_nested_15 : decode b_F_nested 15 = .ok (.aload_n 0, 1) := by decide +kernel
theorem d_F_nested_16 : decode b_F_nested 16 = .ok (.getfield 16, 3) := by decide +kernel
theorem d_F_nested_19 : decode b_F_nested 19 = .ok (.getfield 55, 3) := by decide +kernel
theorem d_F_nested_22 : decode b_F_nested 22 = .ok (.invokevirtual 140, 3) := by decide +kernel
theorem d_F_nested_25 : decode b_F_nested 25 = .ok (.aload_n 0, 1) := by decide +kernel
theorem d_F_nested_26 : decode b_F_nested 26 = .ok (.getfield 22, 3) := by decide +kernel
theorem d_F_nested_29 : decode b_F_nested 29 = .ok (.areturn, 1) := by decide +kernel
theorem d_F_isReducible_0 : decode b_F_isReducible 0 = .ok (.aload_n 0, 1) := by decide +kernel
theorem d_F_isReducible_1 : decode b_F_isReducible 1 = .ok (.iconst 0, 1) := by decide +kernel
theorem d_F_isReducible_2 : decode b_F_isReducible 2 = .ok (.invokevirtual 67, 3) := by decide +kernel
theorem d_F_isReducible_5 : decode b_F_isReducible 5 = .ok (.invokevirtual 118, 3) := by decide +kernel
theorem d_F_isReducible_8 : decode b_F_isReducible 8 = .ok (.ireturn, 1) := by decide +kernel
theorem d_F_told_0 : decode b_F_told 0 = .ok (.iload_n 1, 1) := by decide +kernel
theorem d_F_told_1 : decode b_F_told 1 = .ok (.tableswitch 111 0 5 #[39, 44, 49, 61, 73, 92], 39) := by decide +kernel
theorem d_F_told_40 : decode b_F_told 40 = .ok (.aload_n 0, 1) := by decide +kernel
theorem d_F_told_41 : decode b_F_told 41 = .ok (.getfield 26, 3) := by decide +kernel
theorem d_F_told_44 : decode b_F_told 44 = .ok (.ireturn, 1) := by decide +kernel
theorem d_F_told_45 : decode b_F_told 45 = .ok (.aload_n 0, 1) := by decide +kernel
theorem d_F_told_46 : decode b_F_told 46 = .ok (.getfield 30, 3) := by decide +kernel
theorem d_F_told_49 : decode b_F_told 49 = .ok (.ireturn, 1) := by decide +kernel
theorem d_F_told_50 : decode b_F_told 50 = .ok (.aload_n 0, 1) := by decide +kernel
theorem d_F_told_51 : decode b_F_told 51 = .ok (.iconst 0, 1) := by decide +kernel
theorem d_F_told_52 : decode b_F_told 52 = .ok (.invokevirtual 67, 3) := by decide +kernel
theorem d_F_told_55 : decode b_F_told 55 = .ok (.getfield 71, 3) := by decide +kernel
theorem d_F_told_58 : decode b_F_told 58 = .ok (.invokestatic 81, 3) := by decide +kernel
theorem d_F_told_61 : decode b_F_told 61 = .ok (.ireturn, 1) := by decide +kernel
theorem d_F_told_62 : decode b_F_told 62 = .ok (.aload_n 0, 1) := by decide +kernel
theorem d_F_told_63 : decode b_F_told 63 = .ok (.iconst 1, 1) := by decide +kernel
theorem d_F_told_64 : decode b_F_told 64 = .ok (.invokevirtual 67, 3) := by decide +kernel
theorem d_F_told_67 : decode b_F_told 67 = .ok (.getfield 71, 3) := by decide +kernel
theorem d_F_told_70 : decode b_F_told 70 = .ok (.invokestatic 81, 3) := by decide +kernel
theorem d_F_told_73 : decode b_F_told 73 = .ok (.ireturn, 1) := by decide +kernel
theorem d_F_told_74 : decode b_F_told 74 = .ok (.aload_n 0, 1) := by decide +kernel
theorem d_F_told_75 : decode b_F_told 75 = .ok (.getfield 26, 3) := by decide +kernel
theorem d_F_told_78 : decode b_F_told 78 = .ok (.ifCond .ne 7, 3) := by decide +kernel
theorem d_F_told_81 : decode b_F_told 81 = .ok (.iconst (-1), 1) := by decide +kernel
theorem d_F_told_82 : decode b_F_told 82 = .ok (.goto 10, 3) := by decide +kernel
theorem d_F_told_85 : decode b_F_told 85 = .ok (.aload_n 0, 1) := by decide +kernel
theorem d_F_told_86 : decode b_F_told 86 = .ok (.getfield 10, 3) := by decide +kernel
theorem d_F_told_89 : decode b_F_told 89 = .ok (.getfield 129, 3) := by decide +kernel
theorem d_F_told_92 : decode b_F_told 92 = .ok (.ireturn, 1) := by decide +kernel
theorem d_F_told_93 : decode b_F_told 93 = .ok (.aload_n 0, 1) := by decide +kernel
theorem d_F_told_94 : decode b_F_told 94 = .ok (.getfield 26, 3) := by decide +kernel
theorem d_F_told_97 : decode b_F_told 97 = .ok (.ifCond .ne 7, 3) := by decide +kernel
theorem d_F_told_100 : decode b_F_told 100 = .ok (.iconst (-1), 1) := by decide +kernel
theorem d_F_told_101 : decode b_F_told 101 = .ok (.goto 10, 3) := by decide +kernel
theorem d_F_told_104 : decode b_F_told 104 = .ok (.aload_n 0, 1) := by decide +kernel
theorem d_F_told_105 : decode b_F_told 105 = .ok (.getfield 16, 3) := by decide +kernel
theorem d_F_told_108 : decode b_F_told 108 = .ok (.getfield 129, 3) := by decide +kernel
theorem d_F_told_111 : decode b_F_told 111 = .ok (.ireturn, 1) := by decide +kernel
theorem d_F_told_112 : decode b_F_told 112 = .ok (.iconst (-1), 1) := by decide +kernel
theorem d_F_told_113 : decode b_F_told 113 = .ok (.ireturn, 1) := by decide +kernel
theorem d_F_begin_0 : decode b_F_begin 0 = .ok (.iload_n 1, 1) := by decide +kernel
theorem d_F_begin_1 : decode b_F_begin 1 = .ok (.iconst 1, 1) := by decide +kernel
theorem d_F_begin_2 : decode b_F_begin 2 = .ok (.if_icmp .lt 9, 3) := by decide +kernel
theorem d_F_begin_5 : decode b_F_begin 5 = .ok (.iload_n 1, 1) := by decide +kernel
theorem d_F_begin_6 : decode b_F_begin 6 = .ok (.bipush 48, 2) := by decide +kernel
theorem d_F_begin_8 : decode b_F_begin 8 = .ok (.if_icmp .le 13, 3) := by decide +kernel
theorem d_F_begin_11 : decode b_F_begin 11 = .ok (.new 33, 3) := by decide +kernel
theorem d_F_begin_14 : decode b_F_begin 14 = .ok (.dup, 1) := by decide +kernel
theorem d_F_begin_15 : decode b_F_begin 15 = .ok (.ldc 35, 2) := by decide +kernel
theorem d_F_begin_17 : decode b_F_begin 17 = .ok (.invokespecial 37, 3) := by decide +kernel
theorem d_F_begin_20 : decode b_F_begin 20 = .ok (.athrow, 1) := by decide +kernel
theorem d_F_begin_21 : decode b_F_begin 21 = .ok (.aload_n 0, 1) := by decide +kernel
theorem d_F_begin_22 : decode b_F_begin 22 = .ok (.getfield 26, 3) := by decide +kernel
theorem d_F_begin_25 : decode b_F_begin 25 = .ok (.istore_n 2, 1) := by decide +kernel
theorem d_F_begin_26 : decode b_F_begin 26 = .ok (.aload_n 0, 1) := by decide +kernel
theorem d_F_begin_27 : decode b_F_begin 27 = .ok (.iload_n 1, 1) := by decide +kernel
theorem d_F_begin_28 : decode b_F_begin 28 = .ok (.putfield 26, 3) := by decide +kernel
theorem d_F_begin_31 : decode b_F_begin 31 = .ok (.aload_n 0, 1) := by decide +kernel
theorem d_F_begin_32 : decode b_F_begin 32 = .ok (.iconst 0, 1) := by decide +kernel
theorem d_F_begin_33 : decode b_F_begin 33 = .ok (.putfield 30, 3) := by decide +kernel
theorem d_F_begin_36 : decode b_F_begin 36 = .ok (.aload_n 0, 1) := by decide +kernel
theorem d_F_begin_37 : decode b_F_begin 37 = .ok (.getfield 10, 3) := by decide +kernel
theorem d_F_begin_40 : decode b_F_begin 40 = .ok (.iload_n 1, 1) := by decide +kernel
theorem d_F_begin_41 : decode b_F_begin 41 = .ok (.iconst 0, 1) := by decide +kernel
theorem d_F_begin_42 : decode b_F_begin 42 = .ok (.invokevirtual 40, 3) := by decide +kernel
theorem d_F_begin_45 : decode b_F_begin 45 = .ok (.aload_n 0, 1) := by decide +kernel
theorem d_F_begin_46 : decode b_F_begin 46 = .ok (.getfield 16, 3) := by decide +kernel
theorem d_F_begin_49 : decode b_F_begin 49 = .ok (.iload_n 1, 1) := by decide +kernel
theorem d_F_begin_50 : decode b_F_begin 50 = .ok (.iload_n 1, 1) := by decide +kernel
theorem d_F_begin_51 : decode b_F_begin 51 = .ok (.iconst 1, 1) := by decide +kernel
theorem d_F_begin_52 : decode b_F_begin 52 = .ok (.isub, 1) := by decide +kernel
theorem d_F_begin_53 : decode b_F_begin 53 = .ok (.invokevirtual 40, 3) := by decide +kernel
theorem d_F_begin_56 : decode b_F_begin 56 = .ok (.aload_n 0, 1) := by decide +kernel
theorem d_F_begin_57 : decode b_F_begin 57 = .ok (.getfield 22, 3) := by decide +kernel
theorem d_F_begin_60 : decode b_F_begin 60 = .ok (.iconst 1, 1) := by decide +kernel
theorem d_F_begin_61 : decode b_F_begin 61 = .ok (.putfield 44, 3) := by decide +kernel
theorem d_F_begin_64 : decode b_F_begin 64 = .ok (.iload_n 2, 1) := by decide +kernel
theorem d_F_begin_65 : decode b_F_begin 65 = .ok (.ireturn, 1) := by decide +kernel
theorem d_F_link_0 : decode b_F_link 0 = .ok (.aload_n 0, 1) := by decide +kernel
theorem d_F_link_1 : decode b_F_link 1 = .ok (.iload_n 1, 1) := by decide +kernel
theorem d_F_link_2 : decode b_F_link 2 = .ok (.invokevirtual 48, 3) := by decide +kernel
theorem d_F_link_5 : decode b_F_link 5 = .ok (.aload_n 0, 1) := by decide +kernel
theorem d_F_link_6 : decode b_F_link 6 = .ok (.iload_n 2, 1) := by decide +kernel
theorem d_F_link_7 : decode b_F_link 7 = .ok (.invokevirtual 48, 3) := by decide +kernel
theorem d_F_link_10 : decode b_F_link 10 = .ok (.aload_n 0, 1) := by decide +kernel
theorem d_F_link_11 : decode b_F_link 11 = .ok (.getfield 10, 3) := by decide +kernel
theorem d_F_link_14 : decode b_F_link 14 = .ok (.iload_n 1, 1) := by decide +kernel
theorem d_F_link_15 : decode b_F_link 15 = .ok (.iload_n 2, 1) := by decide +kernel
theorem d_F_link_16 : decode b_F_link 16 = .ok (.invokevirtual 52, 3) := by decide +kernel
theorem d_F_link_19 : decode b_F_link 19 = .ok (.aload_n 0, 1) := by decide +kernel
theorem d_F_link_20 : decode b_F_link 20 = .ok (.getfield 16, 3) := by decide +kernel
theorem d_F_link_23 : decode b_F_link 23 = .ok (.iload_n 2, 1) := by decide +kernel
theorem d_F_link_24 : decode b_F_link 24 = .ok (.iload_n 1, 1) := by decide +kernel
theorem d_F_link_25 : decode b_F_link 25 = .ok (.invokevirtual 52, 3) := by decide +kernel
theorem d_F_link_28 : decode b_F_link 28 = .ok (.aload_n 0, 1) := by decide +kernel
theorem d_F_link_29 : decode b_F_link 29 = .ok (.getfield 22, 3) := by decide +kernel
theorem d_F_link_32 : decode b_F_link 32 = .ok (.iconst 1, 1) := by decide +kernel
theorem d_F_link_33 : decode b_F_link 33 = .ok (.putfield 44, 3) := by decide +kernel
theorem d_F_link_36 : decode b_F_link 36 = .ok (.aload_n 0, 1) := by decide +kernel
theorem d_F_link_37 : decode b_F_link 37 = .ok (.getfield 10, 3) := by decide +kernel
theorem d_F_link_40 : decode b_F_link 40 = .ok (.getfield 55, 3) := by decide +kernel
theorem d_F_link_43 : decode b_F_link 43 = .ok (.iload_n 1, 1) := by decide +kernel
theorem d_F_link_44 : decode b_F_link 44 = .ok (.laload, 1) := by decide +kernel
theorem d_F_link_45 : decode b_F_link 45 = .ok (.iload_n 2, 1) := by decide +kernel
theorem d_F_link_46 : decode b_F_link 46 = .ok (.invokestatic 59, 3) := by decide +kernel
theorem d_F_link_49 : decode b_F_link 49 = .ok (.ifCond .eq 7, 3) := by decide +kernel
theorem d_F_link_52 : decode b_F_link 52 = .ok (.iconst 1, 1) := by decide +kernel
theorem d_F_link_53 : decode b_F_link 53 = .ok (.goto 4, 3) := by decide +kernel
theorem d_F_link_56 : decode b_F_link 56 = .ok (.iconst 0, 1) := by decide +kernel
theorem d_F_link_57 : decode b_F_link 57 = .ok (.istore_n 3, 1) := by decide +kernel
theorem d_F_link_58 : decode b_F_link 58 = .ok (.aload_n 0, 1) := by decide +kernel
theorem d_F_link_59 : decode b_F_link 59 = .ok (.dup, 1) := by decide +kernel
theorem d_F_link_60 : decode b_F_link 60 = .ok (.getfield 30, 3) := by decide +kernel
theorem d_F_link_63 : decode b_F_link 63 = .ok (.iload_n 3, 1) := by decide +kernel
theorem d_F_link_64 : decode b_F_link 64 = .ok (.iconst 1, 1) := by decide +kernel
theorem d_F_link_65 : decode b_F_link 65 = .ok (.if_icmp .ne 7, 3) := by decide +kernel
theorem d_F_link_68 : decode b_F_link 68 = .ok (.iconst 1, 1) := by decide +kernel
theorem d_F_link_69 : decode b_F_link 69 = .ok (.goto 4, 3) := by decide +kernel
theorem d_F_link_72 : decode b_F_link 72 = .ok (.iconst (-1), 1) := by decide +kernel
theorem d_F_link_73 : decode b_F_link 73 = .ok (.iadd, 1) := by decide +kernel
theorem d_F_link_74 : decode b_F_link 74 = .ok (.putfield 30, 3) := by decide +kernel
theorem d_F_link_77 : decode b_F_link 77 = .ok (.iload_n 3, 1) := by decide +kernel
theorem d_F_link_78 : decode b_F_link 78 = .ok (.ireturn, 1) := by decide +kernel
theorem d_F_requireVertex_0 : decode b_F_requireVertex 0 = .ok (.iload_n 1, 1) := by decide +kernel
theorem d_F_requireVertex_1 : decode b_F_requireVertex 1 = .ok (.ifCond .lt 11, 3) := by decide +kernel
theorem d_F_requireVertex_4 : decode b_F_requireVertex 4 = .ok (.iload_n 1, 1) := by decide +kernel
theorem d_F_requireVertex_5 : decode b_F_requireVertex 5 = .ok (.aload_n 0, 1) := by decide +kernel
theorem d_F_requireVertex_6 : decode b_F_requireVertex 6 = .ok (.getfield 26, 3) := by decide +kernel
theorem d_F_requireVertex_9 : decode b_F_requireVertex 9 = .ok (.if_icmp .lt 13, 3) := by decide +kernel
theorem d_F_requireVertex_12 : decode b_F_requireVertex 12 = .ok (.new 132, 3) := by decide +kernel
theorem d_F_requireVertex_15 : decode b_F_requireVertex 15 = .ok (.dup, 1) := by decide +kernel
theorem d_F_requireVertex_16 : decode b_F_requireVertex 16 = .ok (.ldc 134, 2) := by decide +kernel
theorem d_F_requireVertex_18 : decode b_F_requireVertex 18 = .ok (.invokespecial 136, 3) := by decide +kernel
theorem d_F_requireVertex_21 : decode b_F_requireVertex 21 = .ok (.athrow, 1) := by decide +kernel
theorem d_F_requireVertex_22 : decode b_F_requireVertex 22 = .ok (.return_, 1) := by decide +kernel
theorem d_F_place_0 : decode b_F_place 0 = .ok (.aload_n 0, 1) := by decide +kernel
theorem d_F_place_1 : decode b_F_place 1 = .ok (.iload_n 1, 1) := by decide +kernel
theorem d_F_place_2 : decode b_F_place 2 = .ok (.invokevirtual 48, 3) := by decide +kernel
theorem d_F_place_5 : decode b_F_place 5 = .ok (.aload_n 0, 1) := by decide +kernel
theorem d_F_place_6 : decode b_F_place 6 = .ok (.getfield 22, 3) := by decide +kernel
theorem d_F_place_9 : decode b_F_place 9 = .ok (.iconst 1, 1) := by decide +kernel
theorem d_F_place_10 : decode b_F_place 10 = .ok (.putfield 44, 3) := by decide +kernel
theorem d_F_place_13 : decode b_F_place 13 = .ok (.iload_n 2, 1) := by decide +kernel
theorem d_F_place_14 : decode b_F_place 14 = .ok (.ifCond .eq 14, 3) := by decide +kernel
theorem d_F_place_17 : decode b_F_place 17 = .ok (.aload_n 0, 1) := by decide +kernel
theorem d_F_place_18 : decode b_F_place 18 = .ok (.getfield 16, 3) := by decide +kernel
theorem d_F_place_21 : decode b_F_place 21 = .ok (.iload_n 1, 1) := by decide +kernel
theorem d_F_place_22 : decode b_F_place 22 = .ok (.invokevirtual 63, 3) := by decide +kernel
theorem d_F_place_25 : decode b_F_place 25 = .ok (.goto 11, 3) := by decide +kernel
theorem d_F_place_28 : decode b_F_place 28 = .ok (.aload_n 0, 1) := by decide +kernel
theorem d_F_place_29 : decode b_F_place 29 = .ok (.getfield 10, 3) := by decide +kernel
theorem d_F_place_32 : decode b_F_place 32 = .ok (.iload_n 1, 1) := by decide +kernel
theorem d_F_place_33 : decode b_F_place 33 = .ok (.invokevirtual 63, 3) := by decide +kernel
theorem d_F_place_36 : decode b_F_place 36 = .ok (.ireturn, 1) := by decide +kernel
theorem d_F_isReached_0 : decode b_F_isReached 0 = .ok (.aload_n 0, 1) := by decide +kernel
theorem d_F_isReached_1 : decode b_F_isReached 1 = .ok (.iload_n 1, 1) := by decide +kernel
theorem d_F_isReached_2 : decode b_F_isReached 2 = .ok (.invokevirtual 48, 3) := by decide +kernel
theorem d_F_isReached_5 : decode b_F_isReached 5 = .ok (.aload_n 0, 1) := by decide +kernel
theorem d_F_isReached_6 : decode b_F_isReached 6 = .ok (.iload_n 2, 1) := by decide +kernel
theorem d_F_isReached_7 : decode b_F_isReached 7 = .ok (.invokevirtual 67, 3) := by decide +kernel
theorem d_F_isReached_10 : decode b_F_isReached 10 = .ok (.getfield 71, 3) := by decide +kernel
theorem d_F_isReached_13 : decode b_F_isReached 13 = .ok (.iload_n 1, 1) := by decide +kernel
theorem d_F_isReached_14 : decode b_F_isReached 14 = .ok (.invokestatic 59, 3) := by decide +kernel
theorem d_F_isReached_17 : decode b_F_isReached 17 = .ok (.ireturn, 1) := by decide +kernel
theorem d_F_dominator_0 : decode b_F_dominator 0 = .ok (.aload_n 0, 1) := by decide +kernel
theorem d_F_dominator_1 : decode b_F_dominator 1 = .ok (.iload_n 1, 1) := by decide +kernel
theorem d_F_dominator_2 : decode b_F_dominator 2 = .ok (.invokevirtual 48, 3) := by decide +kernel
theorem d_F_dominator_5 : decode b_F_dominator 5 = .ok (.aload_n 0, 1) := by decide +kernel
theorem d_F_dominator_6 : decode b_F_dominator 6 = .ok (.iload_n 2, 1) := by decide +kernel
theorem d_F_dominator_7 : decode b_F_dominator 7 = .ok (.invokevirtual 67, 3) := by decide +kernel
theorem d_F_dominator_10 : decode b_F_dominator 10 = .ok (.iload_n 1, 1) := by decide +kernel
theorem d_F_dominator_11 : decode b_F_dominator 11 = .ok (.invokevirtual 75, 3) := by decide +kernel
theorem d_F_dominator_14 : decode b_F_dominator 14 = .ok (.ireturn, 1) := by decide +kernel
theorem d_F_dominates_0 : decode b_F_dominates 0 = .ok (.aload_n 0, 1) := by decide +kernel
theorem d_F_dominates_1 : decode b_F_dominates 1 = .ok (.iload_n 1, 1) := by decide +kernel
theorem d_F_dominates_2 : decode b_F_dominates 2 = .ok (.invokevirtual 48, 3) := by decide +kernel
theorem d_F_dominates_5 : decode b_F_dominates 5 = .ok (.aload_n 0, 1) := by decide +kernel
theorem d_F_dominates_6 : decode b_F_dominates 6 = .ok (.iload_n 2, 1) := by decide +kernel
theorem d_F_dominates_7 : decode b_F_dominates 7 = .ok (.invokevirtual 48, 3) := by decide +kernel
theorem d_F_dominates_10 : decode b_F_dominates 10 = .ok (.aload_n 0, 1) := by decide +kernel
theorem d_F_dominates_11 : decode b_F_dominates 11 = .ok (.iload_n 3, 1) := by decide +kernel
theorem d_F_dominates_12 : decode b_F_dominates 12 = .ok (.invokevirtual 67, 3) := by decide +kernel
theorem d_F_dominates_15 : decode b_F_dominates 15 = .ok (.getfield 78, 3) := by decide +kernel
theorem d_F_dominates_18 : decode b_F_dominates 18 = .ok (.iload_n 2, 1) := by decide +kernel
theorem d_F_dominates_19 : decode b_F_dominates 19 = .ok (.laload, 1) := by decide +kernel
theorem d_F_dominates_20 : decode b_F_dominates 20 = .ok (.iload_n 1, 1) := by decide +kernel
theorem d_F_dominates_21 : decode b_F_dominates 21 = .ok (.invokestatic 59, 3) := by decide +kernel
theorem d_F_dominates_24 : decode b_F_dominates 24 = .ok (.ireturn, 1) := by decide +kernel
theorem d_F_level_0 : decode b_F_level 0 = .ok (.aload_n 0, 1) := by decide +kernel
theorem d_F_level_1 : decode b_F_level 1 = .ok (.iload_n 1, 1) := by decide +kernel
theorem d_F_level_2 : decode b_F_level 2 = .ok (.invokevirtual 48, 3) := by decide +kernel
theorem d_F_level_5 : decode b_F_level 5 = .ok (.aload_n 0, 1) := by decide +kernel
theorem d_F_level_6 : decode b_F_level 6 = .ok (.iconst 0, 1) := by decide +kernel
theorem d_F_level_7 : decode b_F_level 7 = .ok (.invokevirtual 67, 3) := by decide +kernel
theorem d_F_level_10 : decode b_F_level 10 = .ok (.astore_n 2, 1) := by decide +kernel
theorem d_F_level_11 : decode b_F_level 11 = .ok (.aload_n 2, 1) := by decide +kernel
theorem d_F_level_12 : decode b_F_level 12 = .ok (.getfield 71, 3) := by decide +kernel
theorem d_F_level_15 : decode b_F_level 15 = .ok (.iload_n 1, 1) := by decide +kernel
theorem d_F_level_16 : decode b_F_level 16 = .ok (.invokestatic 59, 3) := by decide +kernel
theorem d_F_level_19 : decode b_F_level 19 = .ok (.ifCond .eq 17, 3) := by decide +kernel
theorem d_F_level_22 : decode b_F_level 22 = .ok (.aload_n 2, 1) := by decide +kernel
theorem d_F_level_23 : decode b_F_level 23 = .ok (.getfield 78, 3) := by decide +kernel
theorem d_F_level_26 : decode b_F_level 26 = .ok (.iload_n 1, 1) := by decide +kernel
theorem d_F_level_27 : decode b_F_level 27 = .ok (.laload, 1) := by decide +kernel
theorem d_F_level_28 : decode b_F_level 28 = .ok (.invokestatic 81, 3) := by decide +kernel
theorem d_F_level_31 : decode b_F_level 31 = .ok (.iconst 1, 1) := by decide +kernel
theorem d_F_level_32 : decode b_F_level 32 = .ok (.isub, 1) := by decide +kernel
theorem d_F_level_33 : decode b_F_level 33 = .ok (.goto 4, 3) := by decide +kernel
theorem d_F_level_36 : decode b_F_level 36 = .ok (.iconst (-1), 1) := by decide +kernel
theorem d_F_level_37 : decode b_F_level 37 = .ok (.ireturn, 1) := by decide +kernel
theorem d_F_frontier_0 : decode b_F_frontier 0 = .ok (.aload_n 0, 1) := by decide +kernel
theorem d_F_frontier_1 : decode b_F_frontier 1 = .ok (.iload_n 1, 1) := by decide +kernel
theorem d_F_frontier_2 : decode b_F_frontier 2 = .ok (.invokevirtual 48, 3) := by decide +kernel
theorem d_F_frontier_5 : decode b_F_frontier 5 = .ok (.aload_n 0, 1) := by decide +kernel
theorem d_F_frontier_6 : decode b_F_frontier 6 = .ok (.iconst 0, 1) := by decide +kernel
theorem d_F_frontier_7 : decode b_F_frontier 7 = .ok (.invokevirtual 67, 3) := by decide +kernel
theorem d_F_frontier_10 : decode b_F_frontier 10 = .ok (.iload_n 1, 1) := by decide +kernel
theorem d_F_frontier_11 : decode b_F_frontier 11 = .ok (.invokevirtual 87, 3) := by decide +kernel
theorem d_F_frontier_14 : decode b_F_frontier 14 = .ok (.lreturn, 1) := by decide +kernel
theorem d_F_controls_0 : decode b_F_controls 0 = .ok (.aload_n 0, 1) := by decide +kernel
theorem d_F_controls_1 : decode b_F_controls 1 = .ok (.iload_n 1, 1) := by decide +kernel
theorem d_F_controls_2 : decode b_F_controls 2 = .ok (.invokevirtual 48, 3) := by decide +kernel
theorem d_F_controls_5 : decode b_F_controls 5 = .ok (.aload_n 0, 1) := by decide +kernel
theorem d_F_controls_6 : decode b_F_controls 6 = .ok (.iconst 1, 1) := by decide +kernel
theorem d_F_controls_7 : decode b_F_controls 7 = .ok (.invokevirtual 67, 3) := by decide +kernel
theorem d_F_controls_10 : decode b_F_controls 10 = .ok (.getfield 78, 3) := by decide +kernel
theorem d_F_controls_13 : decode b_F_controls 13 = .ok (.astore_n 2, 1) := by decide +kernel
theorem d_F_controls_14 : decode b_F_controls 14 = .ok (.aload_n 0, 1) := by decide +kernel
theorem d_F_controls_15 : decode b_F_controls 15 = .ok (.getfield 10, 3) := by decide +kernel
theorem d_F_controls_18 : decode b_F_controls 18 = .ok (.getfield 55, 3) := by decide +kernel
theorem d_F_controls_21 : decode b_F_controls 21 = .ok (.iload_n 1, 1) := by decide +kernel
theorem d_F_controls_22 : decode b_F_controls 22 = .ok (.laload, 1) := by decide +kernel
theorem d_F_controls_23 : decode b_F_controls 23 = .ok (.lstore_n 3, 1) := by decide +kernel
theorem d_F_controls_24 : decode b_F_controls 24 = .ok (.lconst 0, 1) := by decide +kernel
theorem d_F_controls_25 : decode b_F_controls 25 = .ok (.lstore 5, 2) := by decide +kernel
theorem d_F_controls_27 : decode b_F_controls 27 = .ok (.iconst 0, 1) := by decide +kernel
theorem d_F_controls_28 : decode b_F_controls 28 = .ok (.istore 7, 2) := by decide +kernel
theorem d_F_controls_30 : decode b_F_controls 30 = .ok (.iload 7, 2) := by decide +kernel
theorem d_F_controls_32 : decode b_F_controls 32 = .ok (.aload_n 0, 1) := by decide +kernel
theorem d_F_controls_33 : decode b_F_controls 33 = .ok (.getfield 26, 3) := by decide +kernel
theorem d_F_controls_36 : decode b_F_controls 36 = .ok (.if_icmp .ge 27, 3) := by decide +kernel
theorem d_F_controls_39 : decode b_F_controls 39 = .ok (.lload_n 3, 1) := by decide +kernel
theorem d_F_controls_40 : decode b_F_controls 40 = .ok (.iload 7, 2) := by decide +kernel
theorem d_F_controls_42 : decode b_F_controls 42 = .ok (.invokestatic 59, 3) := by decide +kernel
theorem d_F_controls_45 : decode b_F_controls 45 = .ok (.ifCond .eq 12, 3) := by decide +kernel
theorem d_F_controls_48 : decode b_F_controls 48 = .ok (.lload 5, 2) := by decide +kernel
theorem d_F_controls_50 : decode b_F_controls 50 = .ok (.aload_n 2, 1) := by decide +kernel
theorem d_F_controls_51 : decode b_F_controls 51 = .ok (.iload 7, 2) := by decide +kernel
theorem d_F_controls_53 : decode b_F_controls 53 = .ok (.laload, 1) := by decide +kernel
theorem d_F_controls_54 : decode b_F_controls 54 = .ok (.lor, 1) := by decide +kernel
theorem d_F_controls_55 : decode b_F_controls 55 = .ok (.lstore 5, 2) := by decide +kernel
theorem d_F_controls_57 : decode b_F_controls 57 = .ok (.iinc 7 1, 3) := by decide +kernel
theorem d_F_controls_60 : decode b_F_controls 60 = .ok (.goto (-30), 3) := by decide +kernel
theorem d_F_controls_63 : decode b_F_controls 63 = .ok (.lload 5, 2) := by decide +kernel
theorem d_F_controls_65 : decode b_F_controls 65 = .ok (.aload_n 2, 1) := by decide +kernel
theorem d_F_controls_66 : decode b_F_controls 66 = .ok (.iload_n 1, 1) := by decide +kernel
theorem d_F_controls_67 : decode b_F_controls 67 = .ok (.laload, 1) := by decide +kernel
theorem d_F_controls_68 : decode b_F_controls 68 = .ok (.iload_n 1, 1) := by decide +kernel
theorem d_F_controls_69 : decode b_F_controls 69 = .ok (.invokestatic 95, 3) := by decide +kernel
theorem d_F_controls_72 : decode b_F_controls 72 = .ok (.ldc2_w 98, 3) := by decide +kernel
theorem d_F_controls_75 : decode b_F_controls 75 = .ok (.lxor, 1) := by decide +kernel
theorem d_F_controls_76 : decode b_F_controls 76 = .ok (.land, 1) := by decide +kernel
theorem d_F_controls_77 : decode b_F_controls 77 = .ok (.ldc2_w 98, 3) := by decide +kernel
theorem d_F_controls_80 : decode b_F_controls 80 = .ok (.lxor, 1) := by decide +kernel
theorem d_F_controls_81 : decode b_F_controls 81 = .ok (.land, 1) := by decide +kernel
theorem d_F_controls_82 : decode b_F_controls 82 = .ok (.lreturn, 1) := by decide +kernel
theorem d_F_isBack_0 : decode b_F_isBack 0 = .ok (.aload_n 0, 1) := by decide +kernel
theorem d_F_isBack_1 : decode b_F_isBack 1 = .ok (.iload_n 1, 1) := by decide +kernel
theorem d_F_isBack_2 : decode b_F_isBack 2 = .ok (.invokevirtual 48, 3) := by decide +kernel
theorem d_F_isBack_5 : decode b_F_isBack 5 = .ok (.aload_n 0, 1) := by decide +kernel
theorem d_F_isBack_6 : decode b_F_isBack 6 = .ok (.iload_n 2, 1) := by decide +kernel
theorem d_F_isBack_7 : decode b_F_isBack 7 = .ok (.invokevirtual 48, 3) := by decide +kernel
theorem d_F_isBack_10 : decode b_F_isBack 10 = .ok (.aload_n 0, 1) := by decide +kernel
theorem d_F_isBack_11 : decode b_F_isBack 11 = .ok (.getfield 10, 3) := by decide +kernel
theorem d_F_isBack_14 : decode b_F_isBack 14 = .ok (.getfield 55, 3) := by decide +kernel
theorem d_F_isBack_17 : decode b_F_isBack 17 = .ok (.iload_n 1, 1) := by decide +kernel
theorem d_F_isBack_18 : decode b_F_isBack 18 = .ok (.laload, 1) := by decide +kernel
theorem d_F_isBack_19 : decode b_F_isBack 19 = .ok (.aload_n 0, 1) := by decide +kernel
theorem d_F_isBack_20 : decode b_F_isBack 20 = .ok (.iconst 0, 1) := by decide +kernel
theorem d_F_isBack_21 : decode b_F_isBack 21 = .ok (.invokevirtual 67, 3) := by decide +kernel
theorem d_F_isBack_24 : decode b_F_isBack 24 = .ok (.getfield 78, 3) := by decide +kernel
theorem d_F_isBack_27 : decode b_F_isBack 27 = .ok (.iload_n 1, 1) := by decide +kernel
theorem d_F_isBack_28 : decode b_F_isBack 28 = .ok (.laload, 1) := by decide +kernel
theorem d_F_isBack_29 : decode b_F_isBack 29 = .ok (.land, 1) := by decide +kernel
theorem d_F_isBack_30 : decode b_F_isBack 30 = .ok (.iload_n 2, 1) := by decide +kernel
theorem d_F_isBack_31 : decode b_F_isBack 31 = .ok (.invokestatic 59, 3) := by decide +kernel
theorem d_F_isBack_34 : decode b_F_isBack 34 = .ok (.ireturn, 1) := by decide +kernel
theorem d_F_loop_0 : decode b_F_loop 0 = .ok (.aload_n 0, 1) := by decide +kernel
theorem d_F_loop_1 : decode b_F_loop 1 = .ok (.iload_n 1, 1) := by decide +kernel
theorem d_F_loop_2 : decode b_F_loop 2 = .ok (.invokevirtual 48, 3) := by decide +kernel
theorem d_F_loop_5 : decode b_F_loop 5 = .ok (.aload_n 0, 1) := by decide +kernel
theorem d_F_loop_6 : decode b_F_loop 6 = .ok (.invokevirtual 100, 3) := by decide +kernel
theorem d_F_loop_9 : decode b_F_loop 9 = .ok (.getfield 104, 3) := by decide +kernel
theorem d_F_loop_12 : decode b_F_loop 12 = .ok (.iload_n 1, 1) := by decide +kernel
theorem d_F_loop_13 : decode b_F_loop 13 = .ok (.laload, 1) := by decide +kernel
theorem d_F_loop_14 : decode b_F_loop 14 = .ok (.lreturn, 1) := by decide +kernel
theorem d_F_depth_0 : decode b_F_depth 0 = .ok (.aload_n 0, 1) := by decide +kernel
theorem d_F_depth_1 : decode b_F_depth 1 = .ok (.iload_n 1, 1) := by decide +kernel
theorem d_F_depth_2 : decode b_F_depth 2 = .ok (.invokevirtual 48, 3) := by decide +kernel
theorem d_F_depth_5 : decode b_F_depth 5 = .ok (.aload_n 0, 1) := by decide +kernel
theorem d_F_depth_6 : decode b_F_depth 6 = .ok (.invokevirtual 100, 3) := by decide +kernel
theorem d_F_depth_9 : decode b_F_depth 9 = .ok (.iload_n 1, 1) := by decide +kernel
theorem d_F_depth_10 : decode b_F_depth 10 = .ok (.aload_n 0, 1) := by decide +kernel
theorem d_F_depth_11 : decode b_F_depth 11 = .ok (.getfield 26, 3) := by decide +kernel
theorem d_F_depth_14 : decode b_F_depth 14 = .ok (.invokevirtual 110, 3) := by decide +kernel
theorem d_F_depth_17 : decode b_F_depth 17 = .ok (.ireturn, 1) := by decide +kernel
theorem d_F_header_0 : decode b_F_header 0 = .ok (.aload_n 0, 1) := by decide +kernel
theorem d_F_header_1 : decode b_F_header 1 = .ok (.iload_n 1, 1) := by decide +kernel
theorem d_F_header_2 : decode b_F_header 2 = .ok (.invokevirtual 48, 3) := by decide +kernel
theorem d_F_header_5 : decode b_F_header 5 = .ok (.aload_n 0, 1) := by decide +kernel
theorem d_F_header_6 : decode b_F_header 6 = .ok (.invokevirtual 100, 3) := by decide +kernel
theorem d_F_header_9 : decode b_F_header 9 = .ok (.iload_n 1, 1) := by decide +kernel
theorem d_F_header_10 : decode b_F_header 10 = .ok (.iload_n 2, 1) := by decide +kernel
theorem d_F_header_11 : decode b_F_header 11 = .ok (.ifCond .eq 7, 3) := by decide +kernel
theorem d_F_header_14 : decode b_F_header 14 = .ok (.iload_n 1, 1) := by decide +kernel
theorem d_F_header_15 : decode b_F_header 15 = .ok (.goto 4, 3) := by decide +kernel
theorem d_F_header_18 : decode b_F_header 18 = .ok (.iconst (-1), 1) := by decide +kernel
theorem d_F_header_19 : decode b_F_header 19 = .ok (.aload_n 0, 1) := by decide +kernel
theorem d_F_header_20 : decode b_F_header 20 = .ok (.getfield 26, 3) := by decide +kernel
theorem d_F_header_23 : decode b_F_header 23 = .ok (.invokevirtual 114, 3) := by decide +kernel
theorem d_F_header_26 : decode b_F_header 26 = .ok (.ireturn, 1) := by decide +kernel
theorem d_F_order_0 : decode b_F_order 0 = .ok (.aload_n 0, 1) := by decide +kernel
theorem d_F_order_1 : decode b_F_order 1 = .ok (.iload_n 1, 1) := by decide +kernel
theorem d_F_order_2 : decode b_F_order 2 = .ok (.invokevirtual 48, 3) := by decide +kernel
theorem d_F_order_5 : decode b_F_order 5 = .ok (.aload_n 0, 1) := by decide +kernel
theorem d_F_order_6 : decode b_F_order 6 = .ok (.iconst 0, 1) := by decide +kernel
theorem d_F_order_7 : decode b_F_order 7 = .ok (.invokevirtual 67, 3) := by decide +kernel
theorem d_F_order_10 : decode b_F_order 10 = .ok (.astore_n 3, 1) := by decide +kernel
theorem d_F_order_11 : decode b_F_order 11 = .ok (.iload_n 2, 1) := by decide +kernel
theorem d_F_order_12 : decode b_F_order 12 = .ok (.ifCond .eq 12, 3) := by decide +kernel
theorem d_F_order_15 : decode b_F_order 15 = .ok (.aload_n 3, 1) := by decide +kernel
theorem d_F_order_16 : decode b_F_order 16 = .ok (.getfield 122, 3) := by decide +kernel
theorem d_F_order_19 : decode b_F_order 19 = .ok (.iload_n 1, 1) := by decide +kernel
theorem d_F_order_20 : decode b_F_order 20 = .ok (.iaload, 1) := by decide +kernel
theorem d_F_order_21 : decode b_F_order 21 = .ok (.goto 9, 3) := by decide +kernel
theorem d_F_order_24 : decode b_F_order 24 = .ok (.aload_n 3, 1) := by decide +kernel
theorem d_F_order_25 : decode b_F_order 25 = .ok (.getfield 126, 3) := by decide +kernel
theorem d_F_order_28 : decode b_F_order 28 = .ok (.iload_n 1, 1) := by decide +kernel
theorem d_F_order_29 : decode b_F_order 29 = .ok (.iaload, 1) := by decide +kernel
theorem d_F_order_30 : decode b_F_order 30 = .ok (.ireturn, 1) := by decide +kernel
