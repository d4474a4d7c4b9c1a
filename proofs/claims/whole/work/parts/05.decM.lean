theorem d_M_init_0 : decode b_M_init 0 = .ok (.aload_n 0, 1) := by decide +kernel
theorem d_M_init_1 : decode b_M_init 1 = .ok (.invokespecial 1, 3) := by decide +kernel
theorem d_M_init_4 : decode b_M_init 4 = .ok (.aload_n 0, 1) := by decide +kernel
theorem d_M_init_5 : decode b_M_init 5 = .ok (.iconst (-1), 1) := by decide +kernel
theorem d_M_init_6 : decode b_M_init 6 = .ok (.putfield 9, 3) := by decide +kernel
theorem d_M_init_9 : decode b_M_init 9 = .ok (.aload_n 0, 1) := by decide +kernel
theorem d_M_init_10 : decode b_M_init 10 = .ok (.iconst (-1), 1) := by decide +kernel
theorem d_M_init_11 : decode b_M_init 11 = .ok (.putfield 13, 3) := by decide +kernel
theorem d_M_init_14 : decode b_M_init 14 = .ok (.aload_n 0, 1) := by decide +kernel
theorem d_M_init_15 : decode b_M_init 15 = .ok (.bipush 48, 2) := by decide +kernel
theorem d_M_init_17 : decode b_M_init 17 = .ok (.newarray .long, 2) := by decide +kernel
theorem d_M_init_19 : decode b_M_init 19 = .ok (.putfield 16, 3) := by decide +kernel
theorem d_M_init_22 : decode b_M_init 22 = .ok (.aload_n 0, 1) := by decide +kernel
theorem d_M_init_23 : decode b_M_init 23 = .ok (.bipush 48, 2) := by decide +kernel
theorem d_M_init_25 : decode b_M_init 25 = .ok (.newarray .long, 2) := by decide +kernel
theorem d_M_init_27 : decode b_M_init 27 = .ok (.putfield 20, 3) := by decide +kernel
theorem d_M_init_30 : decode b_M_init 30 = .ok (.aload_n 0, 1) := by decide +kernel
theorem d_M_init_31 : decode b_M_init 31 = .ok (.bipush 48, 2) := by decide +kernel
theorem d_M_init_33 : decode b_M_init 33 = .ok (.newarray .long, 2) := by decide +kernel
theorem d_M_init_35 : decode b_M_init 35 = .ok (.putfield 23, 3) := by decide +kernel
theorem d_M_init_38 : decode b_M_init 38 = .ok (.aload_n 0, 1) := by decide +kernel
theorem d_M_init_39 : decode b_M_init 39 = .ok (.bipush 48, 2) := by decide +kernel
theorem d_M_init_41 : decode b_M_init 41 = .ok (.newarray .long, 2) := by decide +kernel
theorem d_M_init_43 : decode b_M_init 43 = .ok (.putfield 26, 3) := by decide +kernel
theorem d_M_init_46 : decode b_M_init 46 = .ok (.aload_n 0, 1) := by decide +kernel
theorem d_M_init_47 : decode b_M_init 47 = .ok (.bipush 48, 2) := by decide +kernel
theorem d_M_init_49 : decode b_M_init 49 = .ok (.newarray .long, 2) := by decide +kernel
theorem d_M_init_51 : decode b_M_init 51 = .ok (.putfield 29, 3) := by decide +kernel
theorem d_M_init_54 : decode b_M_init 54 = .ok (.aload_n 0, 1) := by decide +kernel
theorem d_M_init_55 : decode b_M_init 55 = .ok (.bipush 48, 2) := by decide +kernel
theorem d_M_init_57 : decode b_M_init 57 = .ok (.newarray .int, 2) := by decide +kernel
theorem d_M_init_59 : decode b_M_init 59 = .ok (.putfield 32, 3) := by decide +kernel
theorem d_M_init_62 : decode b_M_init 62 = .ok (.aload_n 0, 1) := by decide +kernel
theorem d_M_init_63 : decode b_M_init 63 = .ok (.bipush 48, 2) := by decide +kernel
theorem d_M_init_65 : decode b_M_init 65 = .ok (.newarray .int, 2) := by decide +kernel
theorem d_M_init_67 : decode b_M_init 67 = .ok (.putfield 36, 3) := by decide +kernel
theorem d_M_init_70 : decode b_M_init 70 = .ok (.aload_n 0, 1) := by decide +kernel
theorem d_M_init_71 : decode b_M_init 71 = .ok (.bipush 49, 2) := by decide +kernel
theorem d_M_init_73 : decode b_M_init 73 = .ok (.newarray .int, 2) := by decide +kernel
theorem d_M_init_75 : decode b_M_init 75 = .ok (.putfield 39, 3) := by decide +kernel
theorem d_M_init_78 : decode b_M_init 78 = .ok (.return_, 1) := by decide +kernel
theorem d_M_thrown_0 : decode b_M_thrown 0 = .ok (.aload_n 0, 1) := by decide +kernel
theorem d_M_thrown_1 : decode b_M_thrown 1 = .ok (.getfield 42, 3) := by decide +kernel
theorem d_M_thrown_4 : decode b_M_thrown 4 = .ok (.ireturn, 1) := by decide +kernel
theorem d_M_begin_0 : decode b_M_begin 0 = .ok (.aload_n 0, 1) := by decide +kernel
theorem d_M_begin_1 : decode b_M_begin 1 = .ok (.iload_n 1, 1) := by decide +kernel
theorem d_M_begin_2 : decode b_M_begin 2 = .ok (.iconst 1, 1) := by decide +kernel
theorem d_M_begin_3 : decode b_M_begin 3 = .ok (.if_icmp .lt 9, 3) := by decide +kernel
theorem d_M_begin_6 : decode b_M_begin 6 = .ok (.iload_n 1, 1) := by decide +kernel
theorem d_M_begin_7 : decode b_M_begin 7 = .ok (.bipush 48, 2) := by decide +kernel
theorem d_M_begin_9 : decode b_M_begin 9 = .ok (.if_icmp .le 7, 3) := by decide +kernel
theorem d_M_begin_12 : decode b_M_begin 12 = .ok (.iconst 1, 1) := by decide +kernel
theorem d_M_begin_13 : decode b_M_begin 13 = .ok (.goto 4, 3) := by decide +kernel
theorem d_M_begin_16 : decode b_M_begin 16 = .ok (.iconst 0, 1) := by decide +kernel
theorem d_M_begin_17 : decode b_M_begin 17 = .ok (.putfield 42, 3) := by decide +kernel
theorem d_M_begin_20 : decode b_M_begin 20 = .ok (.aload_n 0, 1) := by decide +kernel
theorem d_M_begin_21 : decode b_M_begin 21 = .ok (.getfield 42, 3) := by decide +kernel
theorem d_M_begin_24 : decode b_M_begin 24 = .ok (.ifCond .le 5, 3) := by decide +kernel
theorem d_M_begin_27 : decode b_M_begin 27 = .ok (.iconst 0, 1) := by decide +kernel
theorem d_M_begin_28 : decode b_M_begin 28 = .ok (.ireturn, 1) := by decide +kernel
theorem d_M_begin_29 : decode b_M_begin 29 = .ok (.aload_n 0, 1) := by decide +kernel
theorem d_M_begin_30 : decode b_M_begin 30 = .ok (.getfield 45, 3) := by decide +kernel
theorem d_M_begin_33 : decode b_M_begin 33 = .ok (.istore_n 2, 1) := by decide +kernel
theorem d_M_begin_34 : decode b_M_begin 34 = .ok (.aload_n 0, 1) := by decide +kernel
theorem d_M_begin_35 : decode b_M_begin 35 = .ok (.iload_n 1, 1) := by decide +kernel
theorem d_M_begin_36 : decode b_M_begin 36 = .ok (.putfield 45, 3) := by decide +kernel
theorem d_M_begin_39 : decode b_M_begin 39 = .ok (.iconst 0, 1) := by decide +kernel
theorem d_M_begin_40 : decode b_M_begin 40 = .ok (.istore_n 3, 1) := by decide +kernel
theorem d_M_begin_41 : decode b_M_begin 41 = .ok (.iload_n 3, 1) := by decide +kernel
theorem d_M_begin_42 : decode b_M_begin 42 = .ok (.bipush 48, 2) := by decide +kernel
theorem d_M_begin_44 : decode b_M_begin 44 = .ok (.if_icmp .ge 16, 3) := by decide +kernel
theorem d_M_begin_47 : decode b_M_begin 47 = .ok (.aload_n 0, 1) := by decide +kernel
theorem d_M_begin_48 : decode b_M_begin 48 = .ok (.getfield 16, 3) := by decide +kernel
theorem d_M_begin_51 : decode b_M_begin 51 = .ok (.iload_n 3, 1) := by decide +kernel
theorem d_M_begin_52 : decode b_M_begin 52 = .ok (.lconst 0, 1) := by decide +kernel
theorem d_M_begin_53 : decode b_M_begin 53 = .ok (.lastore, 1) := by decide +kernel
theorem d_M_begin_54 : decode b_M_begin 54 = .ok (.iinc 3 1, 3) := by decide +kernel
theorem d_M_begin_57 : decode b_M_begin 57 = .ok (.goto (-16), 3) := by decide +kernel
theorem d_M_begin_60 : decode b_M_begin 60 = .ok (.aload_n 0, 1) := by decide +kernel
theorem d_M_begin_61 : decode b_M_begin 61 = .ok (.iconst 0, 1) := by decide +kernel
theorem d_M_begin_62 : decode b_M_begin 62 = .ok (.putfield 9, 3) := by decide +kernel
theorem d_M_begin_65 : decode b_M_begin 65 = .ok (.aload_n 0, 1) := by decide +kernel
theorem d_M_begin_66 : decode b_M_begin 66 = .ok (.aload_n 0, 1) := by decide +kernel
theorem d_M_begin_67 : decode b_M_begin 67 = .ok (.getfield 45, 3) := by decide +kernel
theorem d_M_begin_70 : decode b_M_begin 70 = .ok (.iconst 1, 1) := by decide +kernel
theorem d_M_begin_71 : decode b_M_begin 71 = .ok (.isub, 1) := by decide +kernel
theorem d_M_begin_72 : decode b_M_begin 72 = .ok (.putfield 13, 3) := by decide +kernel
theorem d_M_begin_75 : decode b_M_begin 75 = .ok (.aload_n 0, 1) := by decide +kernel
theorem d_M_begin_76 : decode b_M_begin 76 = .ok (.iconst 0, 1) := by decide +kernel
theorem d_M_begin_77 : decode b_M_begin 77 = .ok (.putfield 54, 3) := by decide +kernel
theorem d_M_begin_80 : decode b_M_begin 80 = .ok (.iload_n 2, 1) := by decide +kernel
theorem d_M_begin_81 : decode b_M_begin 81 = .ok (.ireturn, 1) := by decide +kernel
theorem d_M_link_0 : decode b_M_link 0 = .ok (.aload_n 0, 1) := by decide +kernel
theorem d_M_link_1 : decode b_M_link 1 = .ok (.aload_n 0, 1) := by decide +kernel
theorem d_M_link_2 : decode b_M_link 2 = .ok (.iload_n 1, 1) := by decide +kernel
theorem d_M_link_3 : decode b_M_link 3 = .ok (.invokevirtual 84, 3) := by decide +kernel
theorem d_M_link_6 : decode b_M_link 6 = .ok (.ifCond .eq 15, 3) := by decide +kernel
theorem d_M_link_9 : decode b_M_link 9 = .ok (.aload_n 0, 1) := by decide +kernel
theorem d_M_link_10 : decode b_M_link 10 = .ok (.iload_n 2, 1) := by decide +kernel
theorem d_M_link_11 : decode b_M_link 11 = .ok (.invokevirtual 84, 3) := by decide +kernel
theorem d_M_link_14 : decode b_M_link 14 = .ok (.ifCond .eq 7, 3) := by decide +kernel
theorem d_M_link_17 : decode b_M_link 17 = .ok (.iconst 0, 1) := by decide +kernel
theorem d_M_link_18 : decode b_M_link 18 = .ok (.goto 4, 3) := by decide +kernel
theorem d_M_link_21 : decode b_M_link 21 = .ok (.iconst 1, 1) := by decide +kernel
theorem d_M_link_22 : decode b_M_link 22 = .ok (.putfield 42, 3) := by decide +kernel
theorem d_M_link_25 : decode b_M_link 25 = .ok (.aload_n 0, 1) := by decide +kernel
theorem d_M_link_26 : decode b_M_link 26 = .ok (.getfield 42, 3) := by decide +kernel
theorem d_M_link_29 : decode b_M_link 29 = .ok (.ifCond .le 5, 3) := by decide +kernel
theorem d_M_link_32 : decode b_M_link 32 = .ok (.iconst 0, 1) := by decide +kernel
theorem d_M_link_33 : decode b_M_link 33 = .ok (.ireturn, 1) := by decide +kernel
theorem d_M_link_34 : decode b_M_link 34 = .ok (.aload_n 0, 1) := by decide +kernel
theorem d_M_link_35 : decode b_M_link 35 = .ok (.getfield 16, 3) := by decide +kernel
theorem d_M_link_38 : decode b_M_link 38 = .ok (.iload_n 1, 1) := by decide +kernel
theorem d_M_link_39 : decode b_M_link 39 = .ok (.laload, 1) := by decide +kernel
theorem d_M_link_40 : decode b_M_link 40 = .ok (.iload_n 2, 1) := by decide +kernel
theorem d_M_link_41 : decode b_M_link 41 = .ok (.invokestatic 48, 3) := by decide +kernel
theorem d_M_link_44 : decode b_M_link 44 = .ok (.istore_n 3, 1) := by decide +kernel
theorem d_M_link_45 : decode b_M_link 45 = .ok (.aload_n 0, 1) := by decide +kernel
theorem d_M_link_46 : decode b_M_link 46 = .ok (.getfield 16, 3) := by decide +kernel
theorem d_M_link_49 : decode b_M_link 49 = .ok (.iload_n 1, 1) := by decide +kernel
theorem d_M_link_50 : decode b_M_link 50 = .ok (.iload_n 3, 1) := by decide +kernel
theorem d_M_link_51 : decode b_M_link 51 = .ok (.ifCond .eq 20, 3) := by decide +kernel
theorem d_M_link_54 : decode b_M_link 54 = .ok (.aload_n 0, 1) := by decide +kernel
theorem d_M_link_55 : decode b_M_link 55 = .ok (.getfield 16, 3) := by decide +kernel
theorem d_M_link_58 : decode b_M_link 58 = .ok (.iload_n 1, 1) := by decide +kernel
theorem d_M_link_59 : decode b_M_link 59 = .ok (.laload, 1) := by decide +kernel
theorem d_M_link_60 : decode b_M_link 60 = .ok (.lconst 1, 1) := by decide +kernel
theorem d_M_link_61 : decode b_M_link 61 = .ok (.iload_n 2, 1) := by decide +kernel
theorem d_M_link_62 : decode b_M_link 62 = .ok (.lshl, 1) := by decide +kernel
theorem d_M_link_63 : decode b_M_link 63 = .ok (.ldc2_w 52, 3) := by decide +kernel
theorem d_M_link_66 : decode b_M_link 66 = .ok (.lxor, 1) := by decide +kernel
theorem d_M_link_67 : decode b_M_link 67 = .ok (.land, 1) := by decide +kernel
theorem d_M_link_68 : decode b_M_link 68 = .ok (.goto 13, 3) := by decide +kernel
theorem d_M_link_71 : decode b_M_link 71 = .ok (.aload_n 0, 1) := by decide +kernel
theorem d_M_link_72 : decode b_M_link 72 = .ok (.getfield 16, 3) := by decide +kernel
theorem d_M_link_75 : decode b_M_link 75 = .ok (.iload_n 1, 1) := by decide +kernel
theorem d_M_link_76 : decode b_M_link 76 = .ok (.laload, 1) := by decide +kernel
theorem d_M_link_77 : decode b_M_link 77 = .ok (.lconst 1, 1) := by decide +kernel
theorem d_M_link_78 : decode b_M_link 78 = .ok (.iload_n 2, 1) := by decide +kernel
theorem d_M_link_79 : decode b_M_link 79 = .ok (.lshl, 1) := by decide +kernel
theorem d_M_link_80 : decode b_M_link 80 = .ok (.lor, 1) := by decide +kernel
theorem d_M_link_81 : decode b_M_link 81 = .ok (.lastore, 1) := by decide +kernel
theorem d_M_link_82 : decode b_M_link 82 = .ok (.aload_n 0, 1) := by decide +kernel
theorem d_M_link_83 : decode b_M_link 83 = .ok (.iconst 0, 1) := by decide +kernel
theorem d_M_link_84 : decode b_M_link 84 = .ok (.putfield 54, 3) := by decide +kernel
theorem d_M_link_87 : decode b_M_link 87 = .ok (.iload_n 3, 1) := by decide +kernel
theorem d_M_link_88 : decode b_M_link 88 = .ok (.ifCond .eq 7, 3) := by decide +kernel
theorem d_M_link_91 : decode b_M_link 91 = .ok (.iconst 0, 1) := by decide +kernel
theorem d_M_link_92 : decode b_M_link 92 = .ok (.goto 4, 3) := by decide +kernel
theorem d_M_link_95 : decode b_M_link 95 = .ok (.iconst 1, 1) := by decide +kernel
theorem d_M_link_96 : decode b_M_link 96 = .ok (.ireturn, 1) := by decide +kernel
theorem d_M_isVertex_0 : decode b_M_isVertex 0 = .ok (.iload_n 1, 1) := by decide +kernel
theorem d_M_isVertex_1 : decode b_M_isVertex 1 = .ok (.ifCond .lt 15, 3) := by decide +kernel
theorem d_M_isVertex_4 : decode b_M_isVertex 4 = .ok (.iload_n 1, 1) := by decide +kernel
theorem d_M_isVertex_5 : decode b_M_isVertex 5 = .ok (.aload_n 0, 1) := by decide +kernel
theorem d_M_isVertex_6 : decode b_M_isVertex 6 = .ok (.getfield 45, 3) := by decide +kernel
theorem d_M_isVertex_9 : decode b_M_isVertex 9 = .ok (.if_icmp .ge 7, 3) := by decide +kernel
theorem d_M_isVertex_12 : decode b_M_isVertex 12 = .ok (.iconst 1, 1) := by decide +kernel
theorem d_M_isVertex_13 : decode b_M_isVertex 13 = .ok (.goto 4, 3) := by decide +kernel
theorem d_M_isVertex_16 : decode b_M_isVertex 16 = .ok (.iconst 0, 1) := by decide +kernel
theorem d_M_isVertex_17 : decode b_M_isVertex 17 = .ok (.ireturn, 1) := by decide +kernel
theorem d_M_has_0 : decode b_M_has 0 = .ok (.lload_n 0, 1) := by decide +kernel
theorem d_M_has_1 : decode b_M_has 1 = .ok (.iload_n 2, 1) := by decide +kernel
theorem d_M_has_2 : decode b_M_has 2 = .ok (.lshr, 1) := by decide +kernel
theorem d_M_has_3 : decode b_M_has 3 = .ok (.lconst 1, 1) := by decide +kernel
theorem d_M_has_4 : decode b_M_has 4 = .ok (.land, 1) := by decide +kernel
theorem d_M_has_5 : decode b_M_has 5 = .ok (.lconst 1, 1) := by decide +kernel
theorem d_M_has_6 : decode b_M_has 6 = .ok (.lcmp, 1) := by decide +kernel
theorem d_M_has_7 : decode b_M_has 7 = .ok (.ifCond .ne 7, 3) := by decide +kernel
theorem d_M_has_10 : decode b_M_has 10 = .ok (.iconst 1, 1) := by decide +kernel
theorem d_M_has_11 : decode b_M_has 11 = .ok (.goto 4, 3) := by decide +kernel
theorem d_M_has_14 : decode b_M_has 14 = .ok (.iconst 0, 1) := by decide +kernel
theorem d_M_has_15 : decode b_M_has 15 = .ok (.ireturn, 1) := by decide +kernel
theorem d_M_place_0 : decode b_M_place 0 = .ok (.aload_n 0, 1) := by decide +kernel
theorem d_M_place_1 : decode b_M_place 1 = .ok (.aload_n 0, 1) := by decide +kernel
theorem d_M_place_2 : decode b_M_place 2 = .ok (.iload_n 1, 1) := by decide +kernel
theorem d_M_place_3 : decode b_M_place 3 = .ok (.invokevirtual 84, 3) := by decide +kernel
theorem d_M_place_6 : decode b_M_place 6 = .ok (.ifCond .eq 7, 3) := by decide +kernel
theorem d_M_place_9 : decode b_M_place 9 = .ok (.iconst 0, 1) := by decide +kernel
theorem d_M_place_10 : decode b_M_place 10 = .ok (.goto 4, 3) := by decide +kernel
theorem d_M_place_13 : decode b_M_place 13 = .ok (.iconst 1, 1) := by decide +kernel
theorem d_M_place_14 : decode b_M_place 14 = .ok (.putfield 42, 3) := by decide +kernel
theorem d_M_place_17 : decode b_M_place 17 = .ok (.aload_n 0, 1) := by decide +kernel
theorem d_M_place_18 : decode b_M_place 18 = .ok (.getfield 42, 3) := by decide +kernel
theorem d_M_place_21 : decode b_M_place 21 = .ok (.ifCond .le 5, 3) := by decide +kernel
theorem d_M_place_24 : decode b_M_place 24 = .ok (.iconst 0, 1) := by decide +kernel
theorem d_M_place_25 : decode b_M_place 25 = .ok (.ireturn, 1) := by decide +kernel
theorem d_M_place_26 : decode b_M_place 26 = .ok (.iload_n 2, 1) := by decide +kernel
theorem d_M_place_27 : decode b_M_place 27 = .ok (.ifCond .eq 10, 3) := by decide +kernel
theorem d_M_place_30 : decode b_M_place 30 = .ok (.aload_n 0, 1) := by decide +kernel
theorem d_M_place_31 : decode b_M_place 31 = .ok (.getfield 13, 3) := by decide +kernel
theorem d_M_place_34 : decode b_M_place 34 = .ok (.goto 7, 3) := by decide +kernel
theorem d_M_place_37 : decode b_M_place 37 = .ok (.aload_n 0, 1) := by decide +kernel
theorem d_M_place_38 : decode b_M_place 38 = .ok (.getfield 9, 3) := by decide +kernel
theorem d_M_place_41 : decode b_M_place 41 = .ok (.istore_n 3, 1) := by decide +kernel
theorem d_M_place_42 : decode b_M_place 42 = .ok (.aload_n 0, 1) := by decide +kernel
theorem d_M_place_43 : decode b_M_place 43 = .ok (.iload_n 2, 1) := by decide +kernel
theorem d_M_place_44 : decode b_M_place 44 = .ok (.ifCond .eq 7, 3) := by decide +kernel
theorem d_M_place_47 : decode b_M_place 47 = .ok (.iload_n 1, 1) := by decide +kernel
theorem d_M_place_48 : decode b_M_place 48 = .ok (.goto 7, 3) := by decide +kernel
theorem d_M_place_51 : decode b_M_place 51 = .ok (.aload_n 0, 1) := by decide +kernel
theorem d_M_place_52 : decode b_M_place 52 = .ok (.getfield 13, 3) := by decide +kernel
theorem d_M_place_55 : decode b_M_place 55 = .ok (.putfield 13, 3) := by decide +kernel
theorem d_M_place_58 : decode b_M_place 58 = .ok (.aload_n 0, 1) := by decide +kernel
theorem d_M_place_59 : decode b_M_place 59 = .ok (.iload_n 2, 1) := by decide +kernel
theorem d_M_place_60 : decode b_M_place 60 = .ok (.ifCond .eq 10, 3) := by decide +kernel
theorem d_M_place_63 : decode b_M_place 63 = .ok (.aload_n 0, 1) := by decide +kernel
theorem d_M_place_64 : decode b_M_place 64 = .ok (.getfield 9, 3) := by decide +kernel
theorem d_M_place_67 : decode b_M_place 67 = .ok (.goto 4, 3) := by decide +kernel
theorem d_M_place_70 : decode b_M_place 70 = .ok (.iload_n 1, 1) := by decide +kernel
theorem d_M_place_71 : decode b_M_place 71 = .ok (.putfield 9, 3) := by decide +kernel
theorem d_M_place_74 : decode b_M_place 74 = .ok (.aload_n 0, 1) := by decide +kernel
theorem d_M_place_75 : decode b_M_place 75 = .ok (.iconst 0, 1) := by decide +kernel
theorem d_M_place_76 : decode b_M_place 76 = .ok (.putfield 54, 3) := by decide +kernel
theorem d_M_place_79 : decode b_M_place 79 = .ok (.iload_n 3, 1) := by decide +kernel
theorem d_M_place_80 : decode b_M_place 80 = .ok (.ireturn, 1) := by decide +kernel
theorem d_M_isReached_0 : decode b_M_isReached 0 = .ok (.aload_n 0, 1) := by decide +kernel
theorem d_M_isReached_1 : decode b_M_isReached 1 = .ok (.iload_n 1, 1) := by decide +kernel
theorem d_M_isReached_2 : decode b_M_isReached 2 = .ok (.invokevirtual 91, 3) := by decide +kernel
theorem d_M_isReached_5 : decode b_M_isReached 5 = .ok (.ifCond .eq 29, 3) := by decide +kernel
theorem d_M_isReached_8 : decode b_M_isReached 8 = .ok (.iload_n 2, 1) := by decide +kernel
theorem d_M_isReached_9 : decode b_M_isReached 9 = .ok (.ifCond .eq 10, 3) := by decide +kernel
theorem d_M_isReached_12 : decode b_M_isReached 12 = .ok (.aload_n 0, 1) := by decide +kernel
theorem d_M_isReached_13 : decode b_M_isReached 13 = .ok (.getfield 66, 3) := by decide +kernel
theorem d_M_isReached_16 : decode b_M_isReached 16 = .ok (.goto 7, 3) := by decide +kernel
theorem d_M_isReached_19 : decode b_M_isReached 19 = .ok (.aload_n 0, 1) := by decide +kernel
theorem d_M_isReached_20 : decode b_M_isReached 20 = .ok (.getfield 62, 3) := by decide +kernel
theorem d_M_isReached_23 : decode b_M_isReached 23 = .ok (.iload_n 1, 1) := by decide +kernel
theorem d_M_isReached_24 : decode b_M_isReached 24 = .ok (.invokestatic 48, 3) := by decide +kernel
theorem d_M_isReached_27 : decode b_M_isReached 27 = .ok (.ifCond .eq 7, 3) := by decide +kernel
theorem d_M_isReached_30 : decode b_M_isReached 30 = .ok (.iconst 1, 1) := by decide +kernel
theorem d_M_isReached_31 : decode b_M_isReached 31 = .ok (.goto 4, 3) := by decide +kernel
theorem d_M_isReached_34 : decode b_M_isReached 34 = .ok (.iconst 0, 1) := by decide +kernel
theorem d_M_isReached_35 : decode b_M_isReached 35 = .ok (.ireturn, 1) := by decide +kernel
theorem d_M_looks_0 : decode b_M_looks 0 = .ok (.aload_n 0, 1) := by decide +kernel
theorem d_M_looks_1 : decode b_M_looks 1 = .ok (.aload_n 0, 1) := by decide +kernel
theorem d_M_looks_2 : decode b_M_looks 2 = .ok (.iload_n 1, 1) := by decide +kernel
theorem d_M_looks_3 : decode b_M_looks 3 = .ok (.invokevirtual 84, 3) := by decide +kernel
theorem d_M_looks_6 : decode b_M_looks 6 = .ok (.ifCond .eq 7, 3) := by decide +kernel
theorem d_M_looks_9 : decode b_M_looks 9 = .ok (.iconst 0, 1) := by decide +kernel
theorem d_M_looks_10 : decode b_M_looks 10 = .ok (.goto 4, 3) := by decide +kernel
theorem d_M_looks_13 : decode b_M_looks 13 = .ok (.iconst 1, 1) := by decide +kernel
theorem d_M_looks_14 : decode b_M_looks 14 = .ok (.putfield 42, 3) := by decide +kernel
theorem d_M_looks_17 : decode b_M_looks 17 = .ok (.aload_n 0, 1) := by decide +kernel
theorem d_M_looks_18 : decode b_M_looks 18 = .ok (.getfield 42, 3) := by decide +kernel
theorem d_M_looks_21 : decode b_M_looks 21 = .ok (.ifCond .ne 7, 3) := by decide +kernel
theorem d_M_looks_24 : decode b_M_looks 24 = .ok (.aload_n 0, 1) := by decide +kernel
theorem d_M_looks_25 : decode b_M_looks 25 = .ok (.invokevirtual 88, 3) := by decide +kernel
theorem d_M_looks_28 : decode b_M_looks 28 = .ok (.aload_n 0, 1) := by decide +kernel
theorem d_M_looks_29 : decode b_M_looks 29 = .ok (.getfield 42, 3) := by decide +kernel
theorem d_M_looks_32 : decode b_M_looks 32 = .ok (.ifCond .ne 7, 3) := by decide +kernel
theorem d_M_looks_35 : decode b_M_looks 35 = .ok (.iconst 1, 1) := by decide +kernel
theorem d_M_looks_36 : decode b_M_looks 36 = .ok (.goto 4, 3) := by decide +kernel
theorem d_M_looks_39 : decode b_M_looks 39 = .ok (.iconst 0, 1) := by decide +kernel
theorem d_M_looks_40 : decode b_M_looks 40 = .ok (.ireturn, 1) := by decide +kernel
theorem d_M_learn_0 : decode b_M_learn 0 = .ok (.aload_n 0, 1) := by decide +kernel
theorem d_M_learn_1 : decode b_M_learn 1 = .ok (.getfield 54, 3) := by decide +kernel
theorem d_M_learn_4 : decode b_M_learn 4 = .ok (.ifCond .eq 4, 3) := by decide +kernel
theorem d_M_learn_7 : decode b_M_learn 7 = .ok (.return_, 1) := by decide +kernel
theorem d_M_learn_8 : decode b_M_learn 8 = .ok (.aload_n 0, 1) := by decide +kernel
theorem d_M_learn_9 : decode b_M_learn 9 = .ok (.iconst 1, 1) := by decide +kernel
theorem d_M_learn_10 : decode b_M_learn 10 = .ok (.putfield 54, 3) := by decide +kernel
theorem d_M_learn_13 : decode b_M_learn 13 = .ok (.iconst 0, 1) := by decide +kernel
theorem d_M_learn_14 : decode b_M_learn 14 = .ok (.istore_n 1, 1) := by decide +kernel
theorem d_M_learn_15 : decode b_M_learn 15 = .ok (.iload_n 1, 1) := by decide +kernel
theorem d_M_learn_16 : decode b_M_learn 16 = .ok (.aload_n 0, 1) := by decide +kernel
theorem d_M_learn_17 : decode b_M_learn 17 = .ok (.getfield 45, 3) := by decide +kernel
theorem d_M_learn_20 : decode b_M_learn 20 = .ok (.if_icmp .ge 61, 3) := by decide +kernel
theorem d_M_learn_23 : decode b_M_learn 23 = .ok (.aload_n 0, 1) := by decide +kernel
theorem d_M_learn_24 : decode b_M_learn 24 = .ok (.getfield 20, 3) := by decide +kernel
theorem d_M_learn_27 : decode b_M_learn 27 = .ok (.iload_n 1, 1) := by decide +kernel
theorem d_M_learn_28 : decode b_M_learn 28 = .ok (.lconst 0, 1) := by decide +kernel
theorem d_M_learn_29 : decode b_M_learn 29 = .ok (.lastore, 1) := by decide +kernel
theorem d_M_learn_30 : decode b_M_learn 30 = .ok (.iconst 0, 1) := by decide +kernel
theorem d_M_learn_31 : decode b_M_learn 31 = .ok (.istore_n 2, 1) := by decide +kernel
theorem d_M_learn_32 : decode b_M_learn 32 = .ok (.iload_n 2, 1) := by decide +kernel
theorem d_M_learn_33 : decode b_M_learn 33 = .ok (.aload_n 0, 1) := by decide +kernel
theorem d_M_learn_34 : decode b_M_learn 34 = .ok (.getfield 45, 3) := by decide +kernel
theorem d_M_learn_37 : decode b_M_learn 37 = .ok (.if_icmp .ge 38, 3) := by decide +kernel
theorem d_M_learn_40 : decode b_M_learn 40 = .ok (.aload_n 0, 1) := by decide +kernel
theorem d_M_learn_41 : decode b_M_learn 41 = .ok (.getfield 20, 3) := by decide +kernel
theorem d_M_learn_44 : decode b_M_learn 44 = .ok (.iload_n 1, 1) := by decide +kernel
theorem d_M_learn_45 : decode b_M_learn 45 = .ok (.dup2, 1) := by decide +kernel
theorem d_M_learn_46 : decode b_M_learn 46 = .ok (.laload, 1) := by decide +kernel
theorem d_M_learn_47 : decode b_M_learn 47 = .ok (.aload_n 0, 1) := by decide +kernel
theorem d_M_learn_48 : decode b_M_learn 48 = .ok (.getfield 16, 3) := by decide +kernel
theorem d_M_learn_51 : decode b_M_learn 51 = .ok (.iload_n 2, 1) := by decide +kernel
theorem d_M_learn_52 : decode b_M_learn 52 = .ok (.laload, 1) := by decide +kernel
theorem d_M_learn_53 : decode b_M_learn 53 = .ok (.iload_n 1, 1) := by decide +kernel
theorem d_M_learn_54 : decode b_M_learn 54 = .ok (.invokestatic 48, 3) := by decide +kernel
theorem d_M_learn_57 : decode b_M_learn 57 = .ok (.ifCond .eq 9, 3) := by decide +kernel
theorem d_M_learn_60 : decode b_M_learn 60 = .ok (.lconst 1, 1) := by decide +kernel
theorem d_M_learn_61 : decode b_M_learn 61 = .ok (.iload_n 2, 1) := by decide +kernel
theorem d_M_learn_62 : decode b_M_learn 62 = .ok (.lshl, 1) := by decide +kernel
theorem d_M_learn_63 : decode b_M_learn 63 = .ok (.goto 4, 3) := by decide +kernel
theorem d_M_learn_66 : decode b_M_learn 66 = .ok (.lconst 0, 1) := by decide +kernel
theorem d_M_learn_67 : decode b_M_learn 67 = .ok (.lor, 1) := by decide +kernel
theorem d_M_learn_68 : decode b_M_learn 68 = .ok (.lastore, 1) := by decide +kernel
theorem d_M_learn_69 : decode b_M_learn 69 = .ok (.iinc 2 1, 3) := by decide +kernel
theorem d_M_learn_72 : decode b_M_learn 72 = .ok (.goto (-40), 3) := by decide +kernel
theorem d_M_learn_75 : decode b_M_learn 75 = .ok (.iinc 1 1, 3) := by decide +kernel
theorem d_M_learn_78 : decode b_M_learn 78 = .ok (.goto (-63), 3) := by decide +kernel
theorem d_M_learn_81 : decode b_M_learn 81 = .ok (.aload_n 0, 1) := by decide +kernel
theorem d_M_learn_82 : decode b_M_learn 82 = .ok (.aload_n 0, 1) := by decide +kernel
theorem d_M_learn_83 : decode b_M_learn 83 = .ok (.aload_n 0, 1) := by decide +kernel
theorem d_M_learn_84 : decode b_M_learn 84 = .ok (.getfield 9, 3) := by decide +kernel
theorem d_M_learn_87 : decode b_M_learn 87 = .ok (.iconst (-1), 1) := by decide +kernel
theorem d_M_learn_88 : decode b_M_learn 88 = .ok (.iconst 0, 1) := by decide +kernel
theorem d_M_learn_89 : decode b_M_learn 89 = .ok (.invokevirtual 58, 3) := by decide +kernel
theorem d_M_learn_92 : decode b_M_learn 92 = .ok (.putfield 62, 3) := by decide +kernel
theorem d_M_learn_95 : decode b_M_learn 95 = .ok (.aload_n 0, 1) := by decide +kernel
theorem d_M_learn_96 : decode b_M_learn 96 = .ok (.aload_n 0, 1) := by decide +kernel
theorem d_M_learn_97 : decode b_M_learn 97 = .ok (.aload_n 0, 1) := by decide +kernel
theorem d_M_learn_98 : decode b_M_learn 98 = .ok (.getfield 13, 3) := by decide +kernel
theorem d_M_learn_101 : decode b_M_learn 101 = .ok (.iconst (-1), 1) := by decide +kernel
theorem d_M_learn_102 : decode b_M_learn 102 = .ok (.iconst 1, 1) := by decide +kernel
theorem d_M_learn_103 : decode b_M_learn 103 = .ok (.invokevirtual 58, 3) := by decide +kernel
theorem d_M_learn_106 : decode b_M_learn 106 = .ok (.putfield 66, 3) := by decide +kernel
theorem d_M_learn_109 : decode b_M_learn 109 = .ok (.iconst 0, 1) := by decide +kernel
theorem d_M_learn_110 : decode b_M_learn 110 = .ok (.istore_n 1, 1) := by decide +kernel
theorem d_M_learn_111 : decode b_M_learn 111 = .ok (.iload_n 1, 1) := by decide +kernel
theorem d_M_learn_112 : decode b_M_learn 112 = .ok (.aload_n 0, 1) := by decide +kernel
theorem d_M_learn_113 : decode b_M_learn 113 = .ok (.getfield 45, 3) := by decide +kernel
theorem d_M_learn_116 : decode b_M_learn 116 = .ok (.if_icmp .ge 41, 3) := by decide +kernel
theorem d_M_learn_119 : decode b_M_learn 119 = .ok (.aload_n 0, 1) := by decide +kernel
theorem d_M_learn_120 : decode b_M_learn 120 = .ok (.getfield 23, 3) := by decide +kernel
theorem d_M_learn_123 : decode b_M_learn 123 = .ok (.iload_n 1, 1) := by decide +kernel
theorem d_M_learn_124 : decode b_M_learn 124 = .ok (.aload_n 0, 1) := by decide +kernel
theorem d_M_learn_125 : decode b_M_learn 125 = .ok (.aload_n 0, 1) := by decide +kernel
theorem d_M_learn_126 : decode b_M_learn 126 = .ok (.getfield 9, 3) := by decide +kernel
theorem d_M_learn_129 : decode b_M_learn 129 = .ok (.iload_n 1, 1) := by decide +kernel
theorem d_M_learn_130 : decode b_M_learn 130 = .ok (.iconst 0, 1) := by decide +kernel
theorem d_M_learn_131 : decode b_M_learn 131 = .ok (.invokevirtual 58, 3) := by decide +kernel
theorem d_M_learn_134 : decode b_M_learn 134 = .ok (.lastore, 1) := by decide +kernel
theorem d_M_learn_135 : decode b_M_learn 135 = .ok (.aload_n 0, 1) := by decide +kernel
theorem d_M_learn_136 : decode b_M_learn 136 = .ok (.getfield 26, 3) := by decide +kernel
theorem d_M_learn_139 : decode b_M_learn 139 = .ok (.iload_n 1, 1) := by decide +kernel
theorem d_M_learn_140 : decode b_M_learn 140 = .ok (.aload_n 0, 1) := by decide +kernel
theorem d_M_learn_141 : decode b_M_learn 141 = .ok (.aload_n 0, 1) := by decide +kernel
theorem d_M_learn_142 : decode b_M_learn 142 = .ok (.getfield 13, 3) := by decide +kernel
theorem d_M_learn_145 : decode b_M_learn 145 = .ok (.iload_n 1, 1) := by decide +kernel
theorem d_M_learn_146 : decode b_M_learn 146 = .ok (.iconst 1, 1) := by decide +kernel
theorem d_M_learn_147 : decode b_M_learn 147 = .ok (.invokevirtual 58, 3) := by decide +kernel
theorem d_M_learn_150 : decode b_M_learn 150 = .ok (.lastore, 1) := by decide +kernel
theorem d_M_learn_151 : decode b_M_learn 151 = .ok (.iinc 1 1, 3) := by decide +kernel
theorem d_M_learn_154 : decode b_M_learn 154 = .ok (.goto (-43), 3) := by decide +kernel
theorem d_M_learn_157 : decode b_M_learn 157 = .ok (.iconst 0, 1) := by decide +kernel
theorem d_M_learn_158 : decode b_M_learn 158 = .ok (.istore_n 1, 1) := by decide +kernel
theorem d_M_learn_159 : decode b_M_learn 159 = .ok (.iload_n 1, 1) := by decide +kernel
theorem d_M_learn_160 : decode b_M_learn 160 = .ok (.aload_n 0, 1) := by decide +kernel
theorem d_M_learn_161 : decode b_M_learn 161 = .ok (.getfield 45, 3) := by decide +kernel
theorem d_M_learn_164 : decode b_M_learn 164 = .ok (.if_icmp .ge 20, 3) := by decide +kernel
theorem d_M_learn_167 : decode b_M_learn 167 = .ok (.aload_n 0, 1) := by decide +kernel
theorem d_M_learn_168 : decode b_M_learn 168 = .ok (.getfield 29, 3) := by decide +kernel
theorem d_M_learn_171 : decode b_M_learn 171 = .ok (.iload_n 1, 1) := by decide +kernel
theorem d_M_learn_172 : decode b_M_learn 172 = .ok (.aload_n 0, 1) := by decide +kernel
theorem d_M_learn_173 : decode b_M_learn 173 = .ok (.iload_n 1, 1) := by decide +kernel
theorem d_M_learn_174 : decode b_M_learn 174 = .ok (.invokevirtual 69, 3) := by decide +kernel
theorem d_M_learn_177 : decode b_M_learn 177 = .ok (.lastore, 1) := by decide +kernel
theorem d_M_learn_178 : decode b_M_learn 178 = .ok (.iinc 1 1, 3) := by decide +kernel
theorem d_M_learn_181 : decode b_M_learn 181 = .ok (.goto (-22), 3) := by decide +kernel
theorem d_M_learn_184 : decode b_M_learn 184 = .ok (.aload_n 0, 1) := by decide +kernel
theorem d_M_learn_185 : decode b_M_learn 185 = .ok (.invokevirtual 73, 3) := by decide +kernel
theorem d_M_learn_188 : decode b_M_learn 188 = .ok (.return_, 1) := by decide +kernel
theorem d_M_comeTo_0 : decode b_M_comeTo 0 = .ok (.iload_n 1, 1) := by decide +kernel
theorem d_M_comeTo_1 : decode b_M_comeTo 1 = .ok (.iload_n 2, 1) := by decide +kernel
theorem d_M_comeTo_2 : decode b_M_comeTo 2 = .ok (.if_icmp .ne 5, 3) := by decide +kernel
theorem d_M_comeTo_5 : decode b_M_comeTo 5 = .ok (.lconst 0, 1) := by decide +kernel
theorem d_M_comeTo_6 : decode b_M_comeTo 6 = .ok (.lreturn, 1) := by decide +kernel
theorem d_M_comeTo_7 : decode b_M_comeTo 7 = .ok (.lconst 1, 1) := by decide +kernel
theorem d_M_comeTo_8 : decode b_M_comeTo 8 = .ok (.iload_n 1, 1) := by decide +kernel
theorem d_M_comeTo_9 : decode b_M_comeTo 9 = .ok (.lshl, 1) := by decide +kernel
theorem d_M_comeTo_10 : decode b_M_comeTo 10 = .ok (.lstore 4, 2) := by decide +kernel
theorem d_M_comeTo_12 : decode b_M_comeTo 12 = .ok (.lconst 0, 1) := by decide +kernel
theorem d_M_comeTo_13 : decode b_M_comeTo 13 = .ok (.lstore 6, 2) := by decide +kernel
theorem d_M_comeTo_15 : decode b_M_comeTo 15 = .ok (.lload 4, 2) := by decide +kernel
theorem d_M_comeTo_17 : decode b_M_comeTo 17 = .ok (.lload 6, 2) := by decide +kernel
theorem d_M_comeTo_19 : decode b_M_comeTo 19 = .ok (.lcmp, 1) := by decide +kernel
theorem d_M_comeTo_20 : decode b_M_comeTo 20 = .ok (.ifCond .eq 85, 3) := by decide +kernel
theorem d_M_comeTo_23 : decode b_M_comeTo 23 = .ok (.lload 4, 2) := by decide +kernel
theorem d_M_comeTo_25 : decode b_M_comeTo 25 = .ok (.lstore 6, 2) := by decide +kernel
theorem d_M_comeTo_27 : decode b_M_comeTo 27 = .ok (.iconst 0, 1) := by decide +kernel
theorem d_M_comeTo_28 : decode b_M_comeTo 28 = .ok (.istore 8, 2) := by decide +kernel
theorem d_M_comeTo_30 : decode b_M_comeTo 30 = .ok (.iload 8, 2) := by decide +kernel
theorem d_M_comeTo_32 : decode b_M_comeTo 32 = .ok (.aload_n 0, 1) := by decide +kernel
theorem d_M_comeTo_33 : decode b_M_comeTo 33 = .ok (.getfield 45, 3) := by decide +kernel
theorem d_M_comeTo_36 : decode b_M_comeTo 36 = .ok (.if_icmp .ge 45, 3) := by decide +kernel
theorem d_M_comeTo_39 : decode b_M_comeTo 39 = .ok (.lload 6, 2) := by decide +kernel
theorem d_M_comeTo_41 : decode b_M_comeTo 41 = .ok (.iload 8, 2) := by decide +kernel
theorem d_M_comeTo_43 : decode b_M_comeTo 43 = .ok (.invokestatic 48, 3) := by decide +kernel
theorem d_M_comeTo_46 : decode b_M_comeTo 46 = .ok (.ifCond .eq 29, 3) := by decide +kernel
theorem d_M_comeTo_49 : decode b_M_comeTo 49 = .ok (.lload 4, 2) := by decide +kernel
theorem d_M_comeTo_51 : decode b_M_comeTo 51 = .ok (.iload_n 3, 1) := by decide +kernel
theorem d_M_comeTo_52 : decode b_M_comeTo 52 = .ok (.ifCond .eq 13, 3) := by decide +kernel
theorem d_M_comeTo_55 : decode b_M_comeTo 55 = .ok (.aload_n 0, 1) := by decide +kernel
theorem d_M_comeTo_56 : decode b_M_comeTo 56 = .ok (.getfield 20, 3) := by decide +kernel
theorem d_M_comeTo_59 : decode b_M_comeTo 59 = .ok (.iload 8, 2) := by decide +kernel
theorem d_M_comeTo_61 : decode b_M_comeTo 61 = .ok (.laload, 1) := by decide +kernel
theorem d_M_comeTo_62 : decode b_M_comeTo 62 = .ok (.goto 10, 3) := by decide +kernel
theorem d_M_comeTo_65 : decode b_M_comeTo 65 = .ok (.aload_n 0, 1) := by decide +kernel
theorem d_M_comeTo_66 : decode b_M_comeTo 66 = .ok (.getfield 16, 3) := by decide +kernel
theorem d_M_comeTo_69 : decode b_M_comeTo 69 = .ok (.iload 8, 2) := by decide +kernel
theorem d_M_comeTo_71 : decode b_M_comeTo 71 = .ok (.laload, 1) := by decide +kernel
theorem d_M_comeTo_72 : decode b_M_comeTo 72 = .ok (.lor, 1) := by decide +kernel
theorem d_M_comeTo_73 : decode b_M_comeTo 73 = .ok (.lstore 4, 2) := by decide +kernel
theorem d_M_comeTo_75 : decode b_M_comeTo 75 = .ok (.iinc 8 1, 3) := by decide +kernel
theorem d_M_comeTo_78 : decode b_M_comeTo 78 = .ok (.goto (-48), 3) := by decide +kernel
theorem d_M_comeTo_81 : decode b_M_comeTo 81 = .ok (.iload_n 2, 1) := by decide +kernel
theorem d_M_comeTo_82 : decode b_M_comeTo 82 = .ok (.ifCond .ge 8, 3) := by decide +kernel
theorem d_M_comeTo_85 : decode b_M_comeTo 85 = .ok (.lload 4, 2) := by decide +kernel
theorem d_M_comeTo_87 : decode b_M_comeTo 87 = .ok (.goto 13, 3) := by decide +kernel
theorem d_M_comeTo_90 : decode b_M_comeTo 90 = .ok (.lload 4, 2) := by decide +kernel
theorem d_M_comeTo_92 : decode b_M_comeTo 92 = .ok (.lconst 1, 1) := by decide +kernel
theorem d_M_comeTo_93 : decode b_M_comeTo 93 = .ok (.iload_n 2, 1) := by decide +kernel
theorem d_M_comeTo_94 : decode b_M_comeTo 94 = .ok (.lshl, 1) := by decide +kernel
theorem d_M_comeTo_95 : decode b_M_comeTo 95 = .ok (.ldc2_w 52, 3) := by decide +kernel
theorem d_M_comeTo_98 : decode b_M_comeTo 98 = .ok (.lxor, 1) := by decide +kernel
theorem d_M_comeTo_99 : decode b_M_comeTo 99 = .ok (.land, 1) := by decide +kernel
theorem d_M_comeTo_100 : decode b_M_comeTo 100 = .ok (.lstore 4, 2) := by decide +kernel
theorem d_M_comeTo_102 : decode b_M_comeTo 102 = .ok (.goto (-87), 3) := by decide +kernel
theorem d_M_comeTo_105 : decode b_M_comeTo 105 = .ok (.lload 4, 2) := by decide +kernel
theorem d_M_comeTo_107 : decode b_M_comeTo 107 = .ok (.lreturn, 1) := by decide +kernel
theorem d_M_loopFrom_0 : decode b_M_loopFrom 0 = .ok (.lconst 0, 1) := by decide +kernel
theorem d_M_loopFrom_1 : decode b_M_loopFrom 1 = .ok (.lstore_n 2, 1) := by decide +kernel
theorem d_M_loopFrom_2 : decode b_M_loopFrom 2 = .ok (.iconst 0, 1) := by decide +kernel
theorem d_M_loopFrom_3 : decode b_M_loopFrom 3 = .ok (.istore 4, 2) := by decide +kernel
theorem d_M_loopFrom_5 : decode b_M_loopFrom 5 = .ok (.iload 4, 2) := by decide +kernel
theorem d_M_loopFrom_7 : decode b_M_loopFrom 7 = .ok (.aload_n 0, 1) := by decide +kernel
theorem d_M_loopFrom_8 : decode b_M_loopFrom 8 = .ok (.getfield 45, 3) := by decide +kernel
theorem d_M_loopFrom_11 : decode b_M_loopFrom 11 = .ok (.if_icmp .ge 39, 3) := by decide +kernel
theorem d_M_loopFrom_14 : decode b_M_loopFrom 14 = .ok (.aload_n 0, 1) := by decide +kernel
theorem d_M_loopFrom_15 : decode b_M_loopFrom 15 = .ok (.iload 4, 2) := by decide +kernel
theorem d_M_loopFrom_17 : decode b_M_loopFrom 17 = .ok (.iload_n 1, 1) := by decide +kernel
theorem d_M_loopFrom_18 : decode b_M_loopFrom 18 = .ok (.invokevirtual 80, 3) := by decide +kernel
theorem d_M_loopFrom_21 : decode b_M_loopFrom 21 = .ok (.ifCond .eq 23, 3) := by decide +kernel
theorem d_M_loopFrom_24 : decode b_M_loopFrom 24 = .ok (.lload_n 2, 1) := by decide +kernel
theorem d_M_loopFrom_25 : decode b_M_loopFrom 25 = .ok (.lconst 1, 1) := by decide +kernel
theorem d_M_loopFrom_26 : decode b_M_loopFrom 26 = .ok (.iload_n 1, 1) := by decide +kernel
theorem d_M_loopFrom_27 : decode b_M_loopFrom 27 = .ok (.lshl, 1) := by decide +kernel
theorem d_M_loopFrom_28 : decode b_M_loopFrom 28 = .ok (.aload_n 0, 1) := by decide +kernel
theorem d_M_loopFrom_29 : decode b_M_loopFrom 29 = .ok (.iload 4, 2) := by decide +kernel
theorem d_M_loopFrom_31 : decode b_M_loopFrom 31 = .ok (.iload_n 1, 1) := by decide +kernel
theorem d_M_loopFrom_32 : decode b_M_loopFrom 32 = .ok (.iconst 1, 1) := by decide +kernel
theorem d_M_loopFrom_33 : decode b_M_loopFrom 33 = .ok (.invokevirtual 58, 3) := by decide +kernel
theorem d_M_loopFrom_36 : decode b_M_loopFrom 36 = .ok (.aload_n 0, 1) := by decide +kernel
theorem d_M_loopFrom_37 : decode b_M_loopFrom 37 = .ok (.getfield 62, 3) := by decide +kernel
theorem d_M_loopFrom_40 : decode b_M_loopFrom 40 = .ok (.land, 1) := by decide +kernel
theorem d_M_loopFrom_41 : decode b_M_loopFrom 41 = .ok (.lor, 1) := by decide +kernel
theorem d_M_loopFrom_42 : decode b_M_loopFrom 42 = .ok (.lor, 1) := by decide +kernel
theorem d_M_loopFrom_43 : decode b_M_loopFrom 43 = .ok (.lstore_n 2, 1) := by decide +kernel
theorem d_M_loopFrom_44 : decode b_M_loopFrom 44 = .ok (.iinc 4 1, 3) := by decide +kernel
theorem d_M_loopFrom_47 : decode b_M_loopFrom 47 = .ok (.goto (-42), 3) := by decide +kernel
theorem d_M_loopFrom_50 : decode b_M_loopFrom 50 = .ok (.lload_n 2, 1) := by decide +kernel
theorem d_M_loopFrom_51 : decode b_M_loopFrom 51 = .ok (.lreturn, 1) := by decide +kernel
theorem d_M_goesBack_0 : decode b_M_goesBack 0 = .ok (.aload_n 0, 1) := by decide +kernel
theorem d_M_goesBack_1 : decode b_M_goesBack 1 = .ok (.getfield 16, 3) := by decide +kernel
theorem d_M_goesBack_4 : decode b_M_goesBack 4 = .ok (.iload_n 1, 1) := by decide +kernel
theorem d_M_goesBack_5 : decode b_M_goesBack 5 = .ok (.laload, 1) := by decide +kernel
theorem d_M_goesBack_6 : decode b_M_goesBack 6 = .ok (.iload_n 2, 1) := by decide +kernel
theorem d_M_goesBack_7 : decode b_M_goesBack 7 = .ok (.invokestatic 48, 3) := by decide +kernel
theorem d_M_goesBack_10 : decode b_M_goesBack 10 = .ok (.ifCond .eq 17, 3) := by decide +kernel
theorem d_M_goesBack_13 : decode b_M_goesBack 13 = .ok (.aload_n 0, 1) := by decide +kernel
theorem d_M_goesBack_14 : decode b_M_goesBack 14 = .ok (.iload_n 2, 1) := by decide +kernel
theorem d_M_goesBack_15 : decode b_M_goesBack 15 = .ok (.iload_n 1, 1) := by decide +kernel
theorem d_M_goesBack_16 : decode b_M_goesBack 16 = .ok (.iconst 0, 1) := by decide +kernel
theorem d_M_goesBack_17 : decode b_M_goesBack 17 = .ok (.invokevirtual 76, 3) := by decide +kernel
theorem d_M_goesBack_20 : decode b_M_goesBack 20 = .ok (.ifCond .eq 7, 3) := by decide +kernel
theorem d_M_goesBack_23 : decode b_M_goesBack 23 = .ok (.iconst 1, 1) := by decide +kernel
theorem d_M_goesBack_24 : decode b_M_goesBack 24 = .ok (.goto 4, 3) := by decide +kernel
theorem d_M_goesBack_27 : decode b_M_goesBack 27 = .ok (.iconst 0, 1) := by decide +kernel
theorem d_M_goesBack_28 : decode b_M_goesBack 28 = .ok (.ireturn, 1) := by decide +kernel
theorem d_M_dominatesIt_0 : decode b_M_dominatesIt 0 = .ok (.iload_n 3, 1) := by decide +kernel
theorem d_M_dominatesIt_1 : decode b_M_dominatesIt 1 = .ok (.ifCond .eq 10, 3) := by decide +kernel
theorem d_M_dominatesIt_4 : decode b_M_dominatesIt 4 = .ok (.aload_n 0, 1) := by decide +kernel
theorem d_M_dominatesIt_5 : decode b_M_dominatesIt 5 = .ok (.getfield 66, 3) := by decide +kernel
theorem d_M_dominatesIt_8 : decode b_M_dominatesIt 8 = .ok (.goto 7, 3) := by decide +kernel
theorem d_M_dominatesIt_11 : decode b_M_dominatesIt 11 = .ok (.aload_n 0, 1) := by decide +kernel
theorem d_M_dominatesIt_12 : decode b_M_dominatesIt 12 = .ok (.getfield 62, 3) := by decide +kernel
theorem d_M_dominatesIt_15 : decode b_M_dominatesIt 15 = .ok (.lstore 4, 2) := by decide +kernel
theorem d_M_dominatesIt_17 : decode b_M_dominatesIt 17 = .ok (.lload 4, 2) := by decide +kernel
theorem d_M_dominatesIt_19 : decode b_M_dominatesIt 19 = .ok (.iload_n 1, 1) := by decide +kernel
theorem d_M_dominatesIt_20 : decode b_M_dominatesIt 20 = .ok (.invokestatic 48, 3) := by decide +kernel
theorem d_M_dominatesIt_23 : decode b_M_dominatesIt 23 = .ok (.ifCond .eq 47, 3) := by decide +kernel
theorem d_M_dominatesIt_26 : decode b_M_dominatesIt 26 = .ok (.lload 4, 2) := by decide +kernel
theorem d_M_dominatesIt_28 : decode b_M_dominatesIt 28 = .ok (.iload_n 2, 1) := by decide +kernel
theorem d_M_dominatesIt_29 : decode b_M_dominatesIt 29 = .ok (.invokestatic 48, 3) := by decide +kernel
theorem d_M_dominatesIt_32 : decode b_M_dominatesIt 32 = .ok (.ifCond .eq 38, 3) := by decide +kernel
theorem d_M_dominatesIt_35 : decode b_M_dominatesIt 35 = .ok (.iload_n 1, 1) := by decide +kernel
theorem d_M_dominatesIt_36 : decode b_M_dominatesIt 36 = .ok (.iload_n 2, 1) := by decide +kernel
theorem d_M_dominatesIt_37 : decode b_M_dominatesIt 37 = .ok (.if_icmp .eq 29, 3) := by decide +kernel
theorem d_M_dominatesIt_40 : decode b_M_dominatesIt 40 = .ok (.iload_n 3, 1) := by decide +kernel
theorem d_M_dominatesIt_41 : decode b_M_dominatesIt 41 = .ok (.ifCond .eq 12, 3) := by decide +kernel
theorem d_M_dominatesIt_44 : decode b_M_dominatesIt 44 = .ok (.aload_n 0, 1) := by decide +kernel
theorem d_M_dominatesIt_45 : decode b_M_dominatesIt 45 = .ok (.getfield 26, 3) := by decide +kernel
theorem d_M_dominatesIt_48 : decode b_M_dominatesIt 48 = .ok (.iload_n 1, 1) := by decide +kernel
theorem d_M_dominatesIt_49 : decode b_M_dominatesIt 49 = .ok (.laload, 1) := by decide +kernel
theorem d_M_dominatesIt_50 : decode b_M_dominatesIt 50 = .ok (.goto 9, 3) := by decide +kernel
theorem d_M_dominatesIt_53 : decode b_M_dominatesIt 53 = .ok (.aload_n 0, 1) := by decide +kernel
theorem d_M_dominatesIt_54 : decode b_M_dominatesIt 54 = .ok (.getfield 23, 3) := by decide +kernel
theorem d_M_dominatesIt_57 : decode b_M_dominatesIt 57 = .ok (.iload_n 1, 1) := by decide +kernel
theorem d_M_dominatesIt_58 : decode b_M_dominatesIt 58 = .ok (.laload, 1) := by decide +kernel
theorem d_M_dominatesIt_59 : decode b_M_dominatesIt 59 = .ok (.iload_n 2, 1) := by decide +kernel
theorem d_M_dominatesIt_60 : decode b_M_dominatesIt 60 = .ok (.invokestatic 48, 3) := by decide +kernel
theorem d_M_dominatesIt_63 : decode b_M_dominatesIt 63 = .ok (.ifCond .ne 7, 3) := by decide +kernel
theorem d_M_dominatesIt_66 : decode b_M_dominatesIt 66 = .ok (.iconst 1, 1) := by decide +kernel
theorem d_M_dominatesIt_67 : decode b_M_dominatesIt 67 = .ok (.goto 4, 3) := by decide +kernel
theorem d_M_dominatesIt_70 : decode b_M_dominatesIt 70 = .ok (.iconst 0, 1) := by decide +kernel
theorem d_M_dominatesIt_71 : decode b_M_dominatesIt 71 = .ok (.ireturn, 1) := by decide +kernel
theorem d_M_goOver_0 : decode b_M_goOver 0 = .ok (.iconst 0, 1) := by decide +kernel
theorem d_M_goOver_1 : decode b_M_goOver 1 = .ok (.istore_n 1, 1) := by decide +kernel
theorem d_M_goOver_2 : decode b_M_goOver 2 = .ok (.iload_n 1, 1) := by decide +kernel
theorem d_M_goOver_3 : decode b_M_goOver 3 = .ok (.aload_n 0, 1) := by decide +kernel
theorem d_M_goOver_4 : decode b_M_goOver 4 = .ok (.getfield 45, 3) := by decide +kernel
theorem d_M_goOver_7 : decode b_M_goOver 7 = .ok (.if_icmp .ge 23, 3) := by decide +kernel
theorem d_M_goOver_10 : decode b_M_goOver 10 = .ok (.aload_n 0, 1) := by decide +kernel
theorem d_M_goOver_11 : decode b_M_goOver 11 = .ok (.getfield 32, 3) := by decide +kernel
theorem d_M_goOver_14 : decode b_M_goOver 14 = .ok (.iload_n 1, 1) := by decide +kernel
theorem d_M_goOver_15 : decode b_M_goOver 15 = .ok (.iconst (-1), 1) := by decide +kernel
theorem d_M_goOver_16 : decode b_M_goOver 16 = .ok (.iastore, 1) := by decide +kernel
theorem d_M_goOver_17 : decode b_M_goOver 17 = .ok (.aload_n 0, 1) := by decide +kernel
theorem d_M_goOver_18 : decode b_M_goOver 18 = .ok (.getfield 36, 3) := by decide +kernel
theorem d_M_goOver_21 : decode b_M_goOver 21 = .ok (.iload_n 1, 1) := by decide +kernel
theorem d_M_goOver_22 : decode b_M_goOver 22 = .ok (.iconst (-1), 1) := by decide +kernel
theorem d_M_goOver_23 : decode b_M_goOver 23 = .ok (.iastore, 1) := by decide +kernel
theorem d_M_goOver_24 : decode b_M_goOver 24 = .ok (.iinc 1 1, 3) := by decide +kernel
theorem d_M_goOver_27 : decode b_M_goOver 27 = .ok (.goto (-25), 3) := by decide +kernel
theorem d_M_goOver_30 : decode b_M_goOver 30 = .ok (.iconst 1, 1) := by decide +kernel
theorem d_M_goOver_31 : decode b_M_goOver 31 = .ok (.istore_n 1, 1) := by decide +kernel
theorem d_M_goOver_32 : decode b_M_goOver 32 = .ok (.iconst 0, 1) := by decide +kernel
theorem d_M_goOver_33 : decode b_M_goOver 33 = .ok (.istore_n 2, 1) := by decide +kernel
theorem d_M_goOver_34 : decode b_M_goOver 34 = .ok (.iconst 1, 1) := by decide +kernel
theorem d_M_goOver_35 : decode b_M_goOver 35 = .ok (.istore_n 3, 1) := by decide +kernel
theorem d_M_goOver_36 : decode b_M_goOver 36 = .ok (.aload_n 0, 1) := by decide +kernel
theorem d_M_goOver_37 : decode b_M_goOver 37 = .ok (.getfield 39, 3) := by decide +kernel
theorem d_M_goOver_40 : decode b_M_goOver 40 = .ok (.iconst 0, 1) := by decide +kernel
theorem d_M_goOver_41 : decode b_M_goOver 41 = .ok (.aload_n 0, 1) := by decide +kernel
theorem d_M_goOver_42 : decode b_M_goOver 42 = .ok (.getfield 9, 3) := by decide +kernel
theorem d_M_goOver_45 : decode b_M_goOver 45 = .ok (.iastore, 1) := by decide +kernel
theorem d_M_goOver_46 : decode b_M_goOver 46 = .ok (.aload_n 0, 1) := by decide +kernel
theorem d_M_goOver_47 : decode b_M_goOver 47 = .ok (.getfield 32, 3) := by decide +kernel
theorem d_M_goOver_50 : decode b_M_goOver 50 = .ok (.aload_n 0, 1) := by decide +kernel
theorem d_M_goOver_51 : decode b_M_goOver 51 = .ok (.getfield 9, 3) := by decide +kernel
theorem d_M_goOver_54 : decode b_M_goOver 54 = .ok (.iconst 0, 1) := by decide +kernel
theorem d_M_goOver_55 : decode b_M_goOver 55 = .ok (.iastore, 1) := by decide +kernel
theorem d_M_goOver_56 : decode b_M_goOver 56 = .ok (.iload_n 3, 1) := by decide +kernel
theorem d_M_goOver_57 : decode b_M_goOver 57 = .ok (.ifCond .le 107, 3) := by decide +kernel
theorem d_M_goOver_60 : decode b_M_goOver 60 = .ok (.aload_n 0, 1) := by decide +kernel
theorem d_M_goOver_61 : decode b_M_goOver 61 = .ok (.getfield 39, 3) := by decide +kernel
theorem d_M_goOver_64 : decode b_M_goOver 64 = .ok (.iload_n 3, 1) := by decide +kernel
theorem d_M_goOver_65 : decode b_M_goOver 65 = .ok (.iconst 1, 1) := by decide +kernel
theorem d_M_goOver_66 : decode b_M_goOver 66 = .ok (.isub, 1) := by decide +kernel
theorem d_M_goOver_67 : decode b_M_goOver 67 = .ok (.iaload, 1) := by decide +kernel
theorem d_M_goOver_68 : decode b_M_goOver 68 = .ok (.istore 4, 2) := by decide +kernel
theorem d_M_goOver_70 : decode b_M_goOver 70 = .ok (.iconst 0, 1) := by decide +kernel
theorem d_M_goOver_71 : decode b_M_goOver 71 = .ok (.istore 5, 2) := by decide +kernel
theorem d_M_goOver_73 : decode b_M_goOver 73 = .ok (.iload 5, 2) := by decide +kernel
theorem d_M_goOver_75 : decode b_M_goOver 75 = .ok (.aload_n 0, 1) := by decide +kernel
theorem d_M_goOver_76 : decode b_M_goOver 76 = .ok (.getfield 45, 3) := by decide +kernel
theorem d_M_goOver_79 : decode b_M_goOver 79 = .ok (.if_icmp .ge 34, 3) := by decide +kernel
theorem d_M_goOver_82 : decode b_M_goOver 82 = .ok (.aload_n 0, 1) := by decide +kernel
theorem d_M_goOver_83 : decode b_M_goOver 83 = .ok (.getfield 16, 3) := by decide +kernel
theorem d_M_goOver_86 : decode b_M_goOver 86 = .ok (.iload 4, 2) := by decide +kernel
theorem d_M_goOver_88 : decode b_M_goOver 88 = .ok (.laload, 1) := by decide +kernel
theorem d_M_goOver_89 : decode b_M_goOver 89 = .ok (.iload 5, 2) := by decide +kernel
theorem d_M_goOver_91 : decode b_M_goOver 91 = .ok (.invokestatic 48, 3) := by decide +kernel
theorem d_M_goOver_94 : decode b_M_goOver 94 = .ok (.ifCond .eq 13, 3) := by decide +kernel
theorem d_M_goOver_97 : decode b_M_goOver 97 = .ok (.aload_n 0, 1) := by decide +kernel
theorem d_M_goOver_98 : decode b_M_goOver 98 = .ok (.getfield 32, 3) := by decide +kernel
theorem d_M_goOver_101 : decode b_M_goOver 101 = .ok (.iload 5, 2) := by decide +kernel
theorem d_M_goOver_103 : decode b_M_goOver 103 = .ok (.iaload, 1) := by decide +kernel
theorem d_M_goOver_104 : decode b_M_goOver 104 = .ok (.ifCond .lt 9, 3) := by decide +kernel
theorem d_M_goOver_107 : decode b_M_goOver 107 = .ok (.iinc 5 1, 3) := by decide +kernel
theorem d_M_goOver_110 : decode b_M_goOver 110 = .ok (.goto (-37), 3) := by decide +kernel
theorem d_M_goOver_113 : decode b_M_goOver 113 = .ok (.iload 5, 2) := by decide +kernel
theorem d_M_goOver_115 : decode b_M_goOver 115 = .ok (.aload_n 0, 1) := by decide +kernel
theorem d_M_goOver_116 : decode b_M_goOver 116 = .ok (.getfield 45, 3) := by decide +kernel
theorem d_M_goOver_119 : decode b_M_goOver 119 = .ok (.if_icmp .ge 28, 3) := by decide +kernel
theorem d_M_goOver_122 : decode b_M_goOver 122 = .ok (.aload_n 0, 1) := by decide +kernel
theorem d_M_goOver_123 : decode b_M_goOver 123 = .ok (.getfield 32, 3) := by decide +kernel
theorem d_M_goOver_126 : decode b_M_goOver 126 = .ok (.iload 5, 2) := by decide +kernel
theorem d_M_goOver_128 : decode b_M_goOver 128 = .ok (.iload_n 1, 1) := by decide +kernel
theorem d_M_goOver_129 : decode b_M_goOver 129 = .ok (.iastore, 1) := by decide +kernel
theorem d_M_goOver_130 : decode b_M_goOver 130 = .ok (.iinc 1 1, 3) := by decide +kernel
theorem d_M_goOver_133 : decode b_M_goOver 133 = .ok (.aload_n 0, 1) := by decide +kernel
theorem d_M_goOver_134 : decode b_M_goOver 134 = .ok (.getfield 39, 3) := by decide +kernel
theorem d_M_goOver_137 : decode b_M_goOver 137 = .ok (.iload_n 3, 1) := by decide +kernel
theorem d_M_goOver_138 : decode b_M_goOver 138 = .ok (.iload 5, 2) := by decide +kernel
theorem d_M_goOver_140 : decode b_M_goOver 140 = .ok (.iastore, 1) := by decide +kernel
theorem d_M_goOver_141 : decode b_M_goOver 141 = .ok (.iinc 3 1, 3) := by decide +kernel
theorem d_M_goOver_144 : decode b_M_goOver 144 = .ok (.goto 17, 3) := by decide +kernel
theorem d_M_goOver_147 : decode b_M_goOver 147 = .ok (.aload_n 0, 1) := by decide +kernel
theorem d_M_goOver_148 : decode b_M_goOver 148 = .ok (.getfield 36, 3) := by decide +kernel
theorem d_M_goOver_151 : decode b_M_goOver 151 = .ok (.iload 4, 2) := by decide +kernel
theorem d_M_goOver_153 : decode b_M_goOver 153 = .ok (.iload_n 2, 1) := by decide +kernel
theorem d_M_goOver_154 : decode b_M_goOver 154 = .ok (.iastore, 1) := by decide +kernel
theorem d_M_goOver_155 : decode b_M_goOver 155 = .ok (.iinc 2 1, 3) := by decide +kernel
theorem d_M_goOver_158 : decode b_M_goOver 158 = .ok (.iinc 3 (-1), 3) := by decide +kernel
theorem d_M_goOver_161 : decode b_M_goOver 161 = .ok (.goto (-105), 3) := by decide +kernel
theorem d_M_goOver_164 : decode b_M_goOver 164 = .ok (.return_, 1) := by decide +kernel
theorem d_M_dominator_0 : decode b_M_dominator 0 = .ok (.aload_n 0, 1) := by decide +kernel
theorem d_M_dominator_1 : decode b_M_dominator 1 = .ok (.iload_n 1, 1) := by decide +kernel
theorem d_M_dominator_2 : decode b_M_dominator 2 = .ok (.invokevirtual 91, 3) := by decide +kernel
theorem d_M_dominator_5 : decode b_M_dominator 5 = .ok (.ifCond .ne 5, 3) := by decide +kernel
theorem d_M_dominator_8 : decode b_M_dominator 8 = .ok (.iconst 0, 1) := by decide +kernel
theorem d_M_dominator_9 : decode b_M_dominator 9 = .ok (.ireturn, 1) := by decide +kernel
theorem d_M_dominator_10 : decode b_M_dominator 10 = .ok (.iconst (-1), 1) := by decide +kernel
theorem d_M_dominator_11 : decode b_M_dominator 11 = .ok (.istore_n 3, 1) := by decide +kernel
theorem d_M_dominator_12 : decode b_M_dominator 12 = .ok (.iconst 0, 1) := by decide +kernel
theorem d_M_dominator_13 : decode b_M_dominator 13 = .ok (.istore 4, 2) := by decide +kernel
theorem d_M_dominator_15 : decode b_M_dominator 15 = .ok (.iconst 0, 1) := by decide +kernel
theorem d_M_dominator_16 : decode b_M_dominator 16 = .ok (.istore 5, 2) := by decide +kernel
theorem d_M_dominator_18 : decode b_M_dominator 18 = .ok (.iload 5, 2) := by decide +kernel
theorem d_M_dominator_20 : decode b_M_dominator 20 = .ok (.aload_n 0, 1) := by decide +kernel
theorem d_M_dominator_21 : decode b_M_dominator 21 = .ok (.getfield 45, 3) := by decide +kernel
theorem d_M_dominator_24 : decode b_M_dominator 24 = .ok (.if_icmp .ge 50, 3) := by decide +kernel
theorem d_M_dominator_27 : decode b_M_dominator 27 = .ok (.iload 5, 2) := by decide +kernel
theorem d_M_dominator_29 : decode b_M_dominator 29 = .ok (.iload_n 1, 1) := by decide +kernel
theorem d_M_dominator_30 : decode b_M_dominator 30 = .ok (.if_icmp .eq 38, 3) := by decide +kernel
theorem d_M_dominator_33 : decode b_M_dominator 33 = .ok (.aload_n 0, 1) := by decide +kernel
theorem d_M_dominator_34 : decode b_M_dominator 34 = .ok (.iload 5, 2) := by decide +kernel
theorem d_M_dominator_36 : decode b_M_dominator 36 = .ok (.iload_n 1, 1) := by decide +kernel
theorem d_M_dominator_37 : decode b_M_dominator 37 = .ok (.iload_n 2, 1) := by decide +kernel
theorem d_M_dominator_38 : decode b_M_dominator 38 = .ok (.invokevirtual 76, 3) := by decide +kernel
theorem d_M_dominator_41 : decode b_M_dominator 41 = .ok (.ifCond .eq 27, 3) := by decide +kernel
theorem d_M_dominator_44 : decode b_M_dominator 44 = .ok (.aload_n 0, 1) := by decide +kernel
theorem d_M_dominator_45 : decode b_M_dominator 45 = .ok (.iload 5, 2) := by decide +kernel
theorem d_M_dominator_47 : decode b_M_dominator 47 = .ok (.iload_n 2, 1) := by decide +kernel
theorem d_M_dominator_48 : decode b_M_dominator 48 = .ok (.invokevirtual 94, 3) := by decide +kernel
theorem d_M_dominator_51 : decode b_M_dominator 51 = .ok (.iload 4, 2) := by decide +kernel
theorem d_M_dominator_53 : decode b_M_dominator 53 = .ok (.if_icmp .le 15, 3) := by decide +kernel
theorem d_M_dominator_56 : decode b_M_dominator 56 = .ok (.iload 5, 2) := by decide +kernel
theorem d_M_dominator_58 : decode b_M_dominator 58 = .ok (.istore_n 3, 1) := by decide +kernel
theorem d_M_dominator_59 : decode b_M_dominator 59 = .ok (.aload_n 0, 1) := by decide +kernel
theorem d_M_dominator_60 : decode b_M_dominator 60 = .ok (.iload 5, 2) := by decide +kernel
theorem d_M_dominator_62 : decode b_M_dominator 62 = .ok (.iload_n 2, 1) := by decide +kernel
theorem d_M_dominator_63 : decode b_M_dominator 63 = .ok (.invokevirtual 94, 3) := by decide +kernel
theorem d_M_dominator_66 : decode b_M_dominator 66 = .ok (.istore 4, 2) := by decide +kernel
theorem d_M_dominator_68 : decode b_M_dominator 68 = .ok (.iinc 5 1, 3) := by decide +kernel
theorem d_M_dominator_71 : decode b_M_dominator 71 = .ok (.goto (-53), 3) := by decide +kernel
theorem d_M_dominator_74 : decode b_M_dominator 74 = .ok (.iload_n 3, 1) := by decide +kernel
theorem d_M_dominator_75 : decode b_M_dominator 75 = .ok (.ireturn, 1) := by decide +kernel
theorem d_M_rank_0 : decode b_M_rank 0 = .ok (.iconst 0, 1) := by decide +kernel
theorem d_M_rank_1 : decode b_M_rank 1 = .ok (.istore_n 3, 1) := by decide +kernel
theorem d_M_rank_2 : decode b_M_rank 2 = .ok (.iconst 0, 1) := by decide +kernel
theorem d_M_rank_3 : decode b_M_rank 3 = .ok (.istore 4, 2) := by decide +kernel
theorem d_M_rank_5 : decode b_M_rank 5 = .ok (.iload 4, 2) := by decide +kernel
theorem d_M_rank_7 : decode b_M_rank 7 = .ok (.aload_n 0, 1) := by decide +kernel
theorem d_M_rank_8 : decode b_M_rank 8 = .ok (.getfield 45, 3) := by decide +kernel
theorem d_M_rank_11 : decode b_M_rank 11 = .ok (.if_icmp .ge 28, 3) := by decide +kernel
theorem d_M_rank_14 : decode b_M_rank 14 = .ok (.iload_n 3, 1) := by decide +kernel
theorem d_M_rank_15 : decode b_M_rank 15 = .ok (.aload_n 0, 1) := by decide +kernel
theorem d_M_rank_16 : decode b_M_rank 16 = .ok (.iload 4, 2) := by decide +kernel
theorem d_M_rank_18 : decode b_M_rank 18 = .ok (.iload_n 1, 1) := by decide +kernel
theorem d_M_rank_19 : decode b_M_rank 19 = .ok (.iload_n 2, 1) := by decide +kernel
theorem d_M_rank_20 : decode b_M_rank 20 = .ok (.invokevirtual 76, 3) := by decide +kernel
theorem d_M_rank_23 : decode b_M_rank 23 = .ok (.ifCond .eq 7, 3) := by decide +kernel
theorem d_M_rank_26 : decode b_M_rank 26 = .ok (.iconst 1, 1) := by decide +kernel
theorem d_M_rank_27 : decode b_M_rank 27 = .ok (.goto 4, 3) := by decide +kernel
theorem d_M_rank_30 : decode b_M_rank 30 = .ok (.iconst 0, 1) := by decide +kernel
theorem d_M_rank_31 : decode b_M_rank 31 = .ok (.iadd, 1) := by decide +kernel
theorem d_M_rank_32 : decode b_M_rank 32 = .ok (.istore_n 3, 1) := by decide +kernel
theorem d_M_rank_33 : decode b_M_rank 33 = .ok (.iinc 4 1, 3) := by decide +kernel
theorem d_M_rank_36 : decode b_M_rank 36 = .ok (.goto (-31), 3) := by decide +kernel
theorem d_M_rank_39 : decode b_M_rank 39 = .ok (.iload_n 3, 1) := by decide +kernel
theorem d_M_rank_40 : decode b_M_rank 40 = .ok (.ireturn, 1) := by decide +kernel
theorem d_M_dominates_0 : decode b_M_dominates 0 = .ok (.aload_n 0, 1) := by decide +kernel
theorem d_M_dominates_1 : decode b_M_dominates 1 = .ok (.iload_n 1, 1) := by decide +kernel
theorem d_M_dominates_2 : decode b_M_dominates 2 = .ok (.invokevirtual 91, 3) := by decide +kernel
theorem d_M_dominates_5 : decode b_M_dominates 5 = .ok (.ifCond .eq 25, 3) := by decide +kernel
theorem d_M_dominates_8 : decode b_M_dominates 8 = .ok (.aload_n 0, 1) := by decide +kernel
theorem d_M_dominates_9 : decode b_M_dominates 9 = .ok (.iload_n 2, 1) := by decide +kernel
theorem d_M_dominates_10 : decode b_M_dominates 10 = .ok (.invokevirtual 91, 3) := by decide +kernel
theorem d_M_dominates_13 : decode b_M_dominates 13 = .ok (.ifCond .eq 17, 3) := by decide +kernel
theorem d_M_dominates_16 : decode b_M_dominates 16 = .ok (.aload_n 0, 1) := by decide +kernel
theorem d_M_dominates_17 : decode b_M_dominates 17 = .ok (.iload_n 1, 1) := by decide +kernel
theorem d_M_dominates_18 : decode b_M_dominates 18 = .ok (.iload_n 2, 1) := by decide +kernel
theorem d_M_dominates_19 : decode b_M_dominates 19 = .ok (.iload_n 3, 1) := by decide +kernel
theorem d_M_dominates_20 : decode b_M_dominates 20 = .ok (.invokevirtual 76, 3) := by decide +kernel
theorem d_M_dominates_23 : decode b_M_dominates 23 = .ok (.ifCond .eq 7, 3) := by decide +kernel
theorem d_M_dominates_26 : decode b_M_dominates 26 = .ok (.iconst 1, 1) := by decide +kernel
theorem d_M_dominates_27 : decode b_M_dominates 27 = .ok (.goto 4, 3) := by decide +kernel
theorem d_M_dominates_30 : decode b_M_dominates 30 = .ok (.iconst 0, 1) := by decide +kernel
theorem d_M_dominates_31 : decode b_M_dominates 31 = .ok (.ireturn, 1) := by decide +kernel
theorem d_M_level_0 : decode b_M_level 0 = .ok (.aload_n 0, 1) := by decide +kernel
theorem d_M_level_1 : decode b_M_level 1 = .ok (.iload_n 1, 1) := by decide +kernel
theorem d_M_level_2 : decode b_M_level 2 = .ok (.invokevirtual 91, 3) := by decide +kernel
theorem d_M_level_5 : decode b_M_level 5 = .ok (.ifCond .ne 5, 3) := by decide +kernel
theorem d_M_level_8 : decode b_M_level 8 = .ok (.iconst 0, 1) := by decide +kernel
theorem d_M_level_9 : decode b_M_level 9 = .ok (.ireturn, 1) := by decide +kernel
theorem d_M_level_10 : decode b_M_level 10 = .ok (.aload_n 0, 1) := by decide +kernel
theorem d_M_level_11 : decode b_M_level 11 = .ok (.getfield 62, 3) := by decide +kernel
theorem d_M_level_14 : decode b_M_level 14 = .ok (.iload_n 1, 1) := by decide +kernel
theorem d_M_level_15 : decode b_M_level 15 = .ok (.invokestatic 48, 3) := by decide +kernel
theorem d_M_level_18 : decode b_M_level 18 = .ok (.ifCond .eq 14, 3) := by decide +kernel
theorem d_M_level_21 : decode b_M_level 21 = .ok (.aload_n 0, 1) := by decide +kernel
theorem d_M_level_22 : decode b_M_level 22 = .ok (.iload_n 1, 1) := by decide +kernel
theorem d_M_level_23 : decode b_M_level 23 = .ok (.iconst 0, 1) := by decide +kernel
theorem d_M_level_24 : decode b_M_level 24 = .ok (.invokevirtual 94, 3) := by decide +kernel
theorem d_M_level_27 : decode b_M_level 27 = .ok (.iconst 1, 1) := by decide +kernel
theorem d_M_level_28 : decode b_M_level 28 = .ok (.isub, 1) := by decide +kernel
theorem d_M_level_29 : decode b_M_level 29 = .ok (.goto 4, 3) := by decide +kernel
theorem d_M_level_32 : decode b_M_level 32 = .ok (.iconst (-1), 1) := by decide +kernel
theorem d_M_level_33 : decode b_M_level 33 = .ok (.ireturn, 1) := by decide +kernel
theorem d_M_frontier_0 : decode b_M_frontier 0 = .ok (.aload_n 0, 1) := by decide +kernel
theorem d_M_frontier_1 : decode b_M_frontier 1 = .ok (.iload_n 1, 1) := by decide +kernel
theorem d_M_frontier_2 : decode b_M_frontier 2 = .ok (.invokevirtual 91, 3) := by decide +kernel
theorem d_M_frontier_5 : decode b_M_frontier 5 = .ok (.ifCond .eq 11, 3) := by decide +kernel
theorem d_M_frontier_8 : decode b_M_frontier 8 = .ok (.aload_n 0, 1) := by decide +kernel
theorem d_M_frontier_9 : decode b_M_frontier 9 = .ok (.iload_n 1, 1) := by decide +kernel
theorem d_M_frontier_10 : decode b_M_frontier 10 = .ok (.invokevirtual 98, 3) := by decide +kernel
theorem d_M_frontier_13 : decode b_M_frontier 13 = .ok (.goto 4, 3) := by decide +kernel
theorem d_M_frontier_16 : decode b_M_frontier 16 = .ok (.lconst 0, 1) := by decide +kernel
theorem d_M_frontier_17 : decode b_M_frontier 17 = .ok (.lreturn, 1) := by decide +kernel
theorem d_M_frontierOf_0 : decode b_M_frontierOf 0 = .ok (.lconst 0, 1) := by decide +kernel
theorem d_M_frontierOf_1 : decode b_M_frontierOf 1 = .ok (.lstore_n 2, 1) := by decide +kernel
theorem d_M_frontierOf_2 : decode b_M_frontierOf 2 = .ok (.iconst 0, 1) := by decide +kernel
theorem d_M_frontierOf_3 : decode b_M_frontierOf 3 = .ok (.istore 4, 2) := by decide +kernel
theorem d_M_frontierOf_5 : decode b_M_frontierOf 5 = .ok (.iload 4, 2) := by decide +kernel
theorem d_M_frontierOf_7 : decode b_M_frontierOf 7 = .ok (.aload_n 0, 1) := by decide +kernel
theorem d_M_frontierOf_8 : decode b_M_frontierOf 8 = .ok (.getfield 45, 3) := by decide +kernel
theorem d_M_frontierOf_11 : decode b_M_frontierOf 11 = .ok (.if_icmp .ge 77, 3) := by decide +kernel
theorem d_M_frontierOf_14 : decode b_M_frontierOf 14 = .ok (.iconst 0, 1) := by decide +kernel
theorem d_M_frontierOf_15 : decode b_M_frontierOf 15 = .ok (.istore 5, 2) := by decide +kernel
theorem d_M_frontierOf_17 : decode b_M_frontierOf 17 = .ok (.iload 5, 2) := by decide +kernel
theorem d_M_frontierOf_19 : decode b_M_frontierOf 19 = .ok (.aload_n 0, 1) := by decide +kernel
theorem d_M_frontierOf_20 : decode b_M_frontierOf 20 = .ok (.getfield 45, 3) := by decide +kernel
theorem d_M_frontierOf_23 : decode b_M_frontierOf 23 = .ok (.if_icmp .ge 59, 3) := by decide +kernel
theorem d_M_frontierOf_26 : decode b_M_frontierOf 26 = .ok (.aload_n 0, 1) := by decide +kernel
theorem d_M_frontierOf_27 : decode b_M_frontierOf 27 = .ok (.iload_n 1, 1) := by decide +kernel
theorem d_M_frontierOf_28 : decode b_M_frontierOf 28 = .ok (.iload 4, 2) := by decide +kernel
theorem d_M_frontierOf_30 : decode b_M_frontierOf 30 = .ok (.iconst 0, 1) := by decide +kernel
theorem d_M_frontierOf_31 : decode b_M_frontierOf 31 = .ok (.invokevirtual 76, 3) := by decide +kernel
theorem d_M_frontierOf_34 : decode b_M_frontierOf 34 = .ok (.ifCond .eq 48, 3) := by decide +kernel
theorem d_M_frontierOf_37 : decode b_M_frontierOf 37 = .ok (.aload_n 0, 1) := by decide +kernel
theorem d_M_frontierOf_38 : decode b_M_frontierOf 38 = .ok (.getfield 16, 3) := by decide +kernel
theorem d_M_frontierOf_41 : decode b_M_frontierOf 41 = .ok (.iload 4, 2) := by decide +kernel
theorem d_M_frontierOf_43 : decode b_M_frontierOf 43 = .ok (.laload, 1) := by decide +kernel
theorem d_M_frontierOf_44 : decode b_M_frontierOf 44 = .ok (.iload 5, 2) := by decide +kernel
theorem d_M_frontierOf_46 : decode b_M_frontierOf 46 = .ok (.invokestatic 48, 3) := by decide +kernel
theorem d_M_frontierOf_49 : decode b_M_frontierOf 49 = .ok (.ifCond .eq 27, 3) := by decide +kernel
theorem d_M_frontierOf_52 : decode b_M_frontierOf 52 = .ok (.iload 5, 2) := by decide +kernel
theorem d_M_frontierOf_54 : decode b_M_frontierOf 54 = .ok (.iload_n 1, 1) := by decide +kernel
theorem d_M_frontierOf_55 : decode b_M_frontierOf 55 = .ok (.if_icmp .eq 14, 3) := by decide +kernel
theorem d_M_frontierOf_58 : decode b_M_frontierOf 58 = .ok (.aload_n 0, 1) := by decide +kernel
theorem d_M_frontierOf_59 : decode b_M_frontierOf 59 = .ok (.iload_n 1, 1) := by decide +kernel
theorem d_M_frontierOf_60 : decode b_M_frontierOf 60 = .ok (.iload 5, 2) := by decide +kernel
theorem d_M_frontierOf_62 : decode b_M_frontierOf 62 = .ok (.iconst 0, 1) := by decide +kernel
theorem d_M_frontierOf_63 : decode b_M_frontierOf 63 = .ok (.invokevirtual 76, 3) := by decide +kernel
theorem d_M_frontierOf_66 : decode b_M_frontierOf 66 = .ok (.ifCond .ne 10, 3) := by decide +kernel
theorem d_M_frontierOf_69 : decode b_M_frontierOf 69 = .ok (.lload_n 2, 1) := by decide +kernel
theorem d_M_frontierOf_70 : decode b_M_frontierOf 70 = .ok (.lconst 1, 1) := by decide +kernel
theorem d_M_frontierOf_71 : decode b_M_frontierOf 71 = .ok (.iload 5, 2) := by decide +kernel
theorem d_M_frontierOf_73 : decode b_M_frontierOf 73 = .ok (.lshl, 1) := by decide +kernel
theorem d_M_frontierOf_74 : decode b_M_frontierOf 74 = .ok (.lor, 1) := by decide +kernel
theorem d_M_frontierOf_75 : decode b_M_frontierOf 75 = .ok (.lstore_n 2, 1) := by decide +kernel
theorem d_M_frontierOf_76 : decode b_M_frontierOf 76 = .ok (.iinc 5 1, 3) := by decide +kernel
theorem d_M_frontierOf_79 : decode b_M_frontierOf 79 = .ok (.goto (-62), 3) := by decide +kernel
theorem d_M_frontierOf_82 : decode b_M_frontierOf 82 = .ok (.iinc 4 1, 3) := by decide +kernel
theorem d_M_frontierOf_85 : decode b_M_frontierOf 85 = .ok (.goto (-80), 3) := by decide +kernel
theorem d_M_frontierOf_88 : decode b_M_frontierOf 88 = .ok (.lload_n 2, 1) := by decide +kernel
theorem d_M_frontierOf_89 : decode b_M_frontierOf 89 = .ok (.lreturn, 1) := by decide +kernel
theorem d_M_spread_0 : decode b_M_spread 0 = .ok (.aload_n 0, 1) := by decide +kernel
theorem d_M_spread_1 : decode b_M_spread 1 = .ok (.iconst 0, 1) := by decide +kernel
theorem d_M_spread_2 : decode b_M_spread 2 = .ok (.putfield 42, 3) := by decide +kernel
theorem d_M_spread_5 : decode b_M_spread 5 = .ok (.aload_n 0, 1) := by decide +kernel
theorem d_M_spread_6 : decode b_M_spread 6 = .ok (.getfield 45, 3) := by decide +kernel
theorem d_M_spread_9 : decode b_M_spread 9 = .ok (.ifCond .ne 5, 3) := by decide +kernel
theorem d_M_spread_12 : decode b_M_spread 12 = .ok (.lconst 0, 1) := by decide +kernel
theorem d_M_spread_13 : decode b_M_spread 13 = .ok (.lreturn, 1) := by decide +kernel
theorem d_M_spread_14 : decode b_M_spread 14 = .ok (.aload_n 0, 1) := by decide +kernel
theorem d_M_spread_15 : decode b_M_spread 15 = .ok (.invokevirtual 88, 3) := by decide +kernel
theorem d_M_spread_18 : decode b_M_spread 18 = .ok (.lconst 0, 1) := by decide +kernel
theorem d_M_spread_19 : decode b_M_spread 19 = .ok (.lstore_n 3, 1) := by decide +kernel
theorem d_M_spread_20 : decode b_M_spread 20 = .ok (.ldc2_w 52, 3) := by decide +kernel
theorem d_M_spread_23 : decode b_M_spread 23 = .ok (.lstore 5, 2) := by decide +kernel
theorem d_M_spread_25 : decode b_M_spread 25 = .ok (.lload_n 3, 1) := by decide +kernel
theorem d_M_spread_26 : decode b_M_spread 26 = .ok (.lload 5, 2) := by decide +kernel
theorem d_M_spread_28 : decode b_M_spread 28 = .ok (.lcmp, 1) := by decide +kernel
theorem d_M_spread_29 : decode b_M_spread 29 = .ok (.ifCond .eq 52, 3) := by decide +kernel
theorem d_M_spread_32 : decode b_M_spread 32 = .ok (.lload_n 3, 1) := by decide +kernel
theorem d_M_spread_33 : decode b_M_spread 33 = .ok (.lstore 5, 2) := by decide +kernel
theorem d_M_spread_35 : decode b_M_spread 35 = .ok (.iconst 0, 1) := by decide +kernel
theorem d_M_spread_36 : decode b_M_spread 36 = .ok (.istore 7, 2) := by decide +kernel
theorem d_M_spread_38 : decode b_M_spread 38 = .ok (.iload 7, 2) := by decide +kernel
theorem d_M_spread_40 : decode b_M_spread 40 = .ok (.aload_n 0, 1) := by decide +kernel
theorem d_M_spread_41 : decode b_M_spread 41 = .ok (.getfield 45, 3) := by decide +kernel
theorem d_M_spread_44 : decode b_M_spread 44 = .ok (.if_icmp .ge 34, 3) := by decide +kernel
theorem d_M_spread_47 : decode b_M_spread 47 = .ok (.lload_n 3, 1) := by decide +kernel
theorem d_M_spread_48 : decode b_M_spread 48 = .ok (.lload_n 1, 1) := by decide +kernel
theorem d_M_spread_49 : decode b_M_spread 49 = .ok (.lload 5, 2) := by decide +kernel
theorem d_M_spread_51 : decode b_M_spread 51 = .ok (.lor, 1) := by decide +kernel
theorem d_M_spread_52 : decode b_M_spread 52 = .ok (.iload 7, 2) := by decide +kernel
theorem d_M_spread_54 : decode b_M_spread 54 = .ok (.invokestatic 48, 3) := by decide +kernel
theorem d_M_spread_57 : decode b_M_spread 57 = .ok (.ifCond .eq 12, 3) := by decide +kernel
theorem d_M_spread_60 : decode b_M_spread 60 = .ok (.aload_n 0, 1) := by decide +kernel
theorem d_M_spread_61 : decode b_M_spread 61 = .ok (.iload 7, 2) := by decide +kernel
theorem d_M_spread_63 : decode b_M_spread 63 = .ok (.invokevirtual 98, 3) := by decide +kernel
theorem d_M_spread_66 : decode b_M_spread 66 = .ok (.goto 4, 3) := by decide +kernel
theorem d_M_spread_69 : decode b_M_spread 69 = .ok (.lconst 0, 1) := by decide +kernel
theorem d_M_spread_70 : decode b_M_spread 70 = .ok (.lor, 1) := by decide +kernel
theorem d_M_spread_71 : decode b_M_spread 71 = .ok (.lstore_n 3, 1) := by decide +kernel
theorem d_M_spread_72 : decode b_M_spread 72 = .ok (.iinc 7 1, 3) := by decide +kernel
theorem d_M_spread_75 : decode b_M_spread 75 = .ok (.goto (-37), 3) := by decide +kernel
theorem d_M_spread_78 : decode b_M_spread 78 = .ok (.goto (-53), 3) := by decide +kernel
theorem d_M_spread_81 : decode b_M_spread 81 = .ok (.lload_n 3, 1) := by decide +kernel
theorem d_M_spread_82 : decode b_M_spread 82 = .ok (.lreturn, 1) := by decide +kernel
theorem d_M_controls_0 : decode b_M_controls 0 = .ok (.aload_n 0, 1) := by decide +kernel
theorem d_M_controls_1 : decode b_M_controls 1 = .ok (.iload_n 1, 1) := by decide +kernel
theorem d_M_controls_2 : decode b_M_controls 2 = .ok (.invokevirtual 91, 3) := by decide +kernel
theorem d_M_controls_5 : decode b_M_controls 5 = .ok (.ifCond .ne 5, 3) := by decide +kernel
theorem d_M_controls_8 : decode b_M_controls 8 = .ok (.lconst 0, 1) := by decide +kernel
theorem d_M_controls_9 : decode b_M_controls 9 = .ok (.lreturn, 1) := by decide +kernel
theorem d_M_controls_10 : decode b_M_controls 10 = .ok (.lconst 0, 1) := by decide +kernel
theorem d_M_controls_11 : decode b_M_controls 11 = .ok (.lstore_n 2, 1) := by decide +kernel
theorem d_M_controls_12 : decode b_M_controls 12 = .ok (.iconst 0, 1) := by decide +kernel
theorem d_M_controls_13 : decode b_M_controls 13 = .ok (.istore 4, 2) := by decide +kernel
theorem d_M_controls_15 : decode b_M_controls 15 = .ok (.iload 4, 2) := by decide +kernel
theorem d_M_controls_17 : decode b_M_controls 17 = .ok (.aload_n 0, 1) := by decide +kernel
theorem d_M_controls_18 : decode b_M_controls 18 = .ok (.getfield 45, 3) := by decide +kernel
theorem d_M_controls_21 : decode b_M_controls 21 = .ok (.if_icmp .ge 112, 3) := by decide +kernel
theorem d_M_controls_24 : decode b_M_controls 24 = .ok (.aload_n 0, 1) := by decide +kernel
theorem d_M_controls_25 : decode b_M_controls 25 = .ok (.getfield 66, 3) := by decide +kernel
theorem d_M_controls_28 : decode b_M_controls 28 = .ok (.iload_n 1, 1) := by decide +kernel
theorem d_M_controls_29 : decode b_M_controls 29 = .ok (.invokestatic 48, 3) := by decide +kernel
theorem d_M_controls_32 : decode b_M_controls 32 = .ok (.ifCond .eq 101, 3) := by decide +kernel
theorem d_M_controls_35 : decode b_M_controls 35 = .ok (.iconst 0, 1) := by decide +kernel
theorem d_M_controls_36 : decode b_M_controls 36 = .ok (.istore 5, 2) := by decide +kernel
theorem d_M_controls_38 : decode b_M_controls 38 = .ok (.iconst 0, 1) := by decide +kernel
theorem d_M_controls_39 : decode b_M_controls 39 = .ok (.istore 6, 2) := by decide +kernel
theorem d_M_controls_41 : decode b_M_controls 41 = .ok (.iload 6, 2) := by decide +kernel
theorem d_M_controls_43 : decode b_M_controls 43 = .ok (.aload_n 0, 1) := by decide +kernel
theorem d_M_controls_44 : decode b_M_controls 44 = .ok (.getfield 45, 3) := by decide +kernel
theorem d_M_controls_47 : decode b_M_controls 47 = .ok (.if_icmp .ge 47, 3) := by decide +kernel
theorem d_M_controls_50 : decode b_M_controls 50 = .ok (.iload 5, 2) := by decide +kernel
theorem d_M_controls_52 : decode b_M_controls 52 = .ok (.ifCond .ne 29, 3) := by decide +kernel
theorem d_M_controls_55 : decode b_M_controls 55 = .ok (.aload_n 0, 1) := by decide +kernel
theorem d_M_controls_56 : decode b_M_controls 56 = .ok (.getfield 16, 3) := by decide +kernel
theorem d_M_controls_59 : decode b_M_controls 59 = .ok (.iload_n 1, 1) := by decide +kernel
theorem d_M_controls_60 : decode b_M_controls 60 = .ok (.laload, 1) := by decide +kernel
theorem d_M_controls_61 : decode b_M_controls 61 = .ok (.iload 6, 2) := by decide +kernel
theorem d_M_controls_63 : decode b_M_controls 63 = .ok (.invokestatic 48, 3) := by decide +kernel
theorem d_M_controls_66 : decode b_M_controls 66 = .ok (.ifCond .eq 19, 3) := by decide +kernel
theorem d_M_controls_69 : decode b_M_controls 69 = .ok (.aload_n 0, 1) := by decide +kernel
theorem d_M_controls_70 : decode b_M_controls 70 = .ok (.iload 4, 2) := by decide +kernel
theorem d_M_controls_72 : decode b_M_controls 72 = .ok (.iload 6, 2) := by decide +kernel
theorem d_M_controls_74 : decode b_M_controls 74 = .ok (.iconst 1, 1) := by decide +kernel
theorem d_M_controls_75 : decode b_M_controls 75 = .ok (.invokevirtual 76, 3) := by decide +kernel
theorem d_M_controls_78 : decode b_M_controls 78 = .ok (.ifCond .eq 7, 3) := by decide +kernel
theorem d_M_controls_81 : decode b_M_controls 81 = .ok (.iconst 1, 1) := by decide +kernel
theorem d_M_controls_82 : decode b_M_controls 82 = .ok (.goto 4, 3) := by decide +kernel
theorem d_M_controls_85 : decode b_M_controls 85 = .ok (.iconst 0, 1) := by decide +kernel
theorem d_M_controls_86 : decode b_M_controls 86 = .ok (.istore 5, 2) := by decide +kernel
theorem d_M_controls_88 : decode b_M_controls 88 = .ok (.iinc 6 1, 3) := by decide +kernel
theorem d_M_controls_91 : decode b_M_controls 91 = .ok (.goto (-50), 3) := by decide +kernel
theorem d_M_controls_94 : decode b_M_controls 94 = .ok (.lload_n 2, 1) := by decide +kernel
theorem d_M_controls_95 : decode b_M_controls 95 = .ok (.iload 5, 2) := by decide +kernel
theorem d_M_controls_97 : decode b_M_controls 97 = .ok (.ifCond .eq 27, 3) := by decide +kernel
theorem d_M_controls_100 : decode b_M_controls 100 = .ok (.iload 4, 2) := by decide +kernel
theorem d_M_controls_102 : decode b_M_controls 102 = .ok (.iload_n 1, 1) := by decide +kernel
theorem d_M_controls_103 : decode b_M_controls 103 = .ok (.if_icmp .eq 14, 3) := by decide +kernel
theorem d_M_controls_106 : decode b_M_controls 106 = .ok (.aload_n 0, 1) := by decide +kernel
theorem d_M_controls_107 : decode b_M_controls 107 = .ok (.iload 4, 2) := by decide +kernel
theorem d_M_controls_109 : decode b_M_controls 109 = .ok (.iload_n 1, 1) := by decide +kernel
theorem d_M_controls_110 : decode b_M_controls 110 = .ok (.iconst 1, 1) := by decide +kernel
theorem d_M_controls_111 : decode b_M_controls 111 = .ok (.invokevirtual 76, 3) := by decide +kernel
theorem d_M_controls_114 : decode b_M_controls 114 = .ok (.ifCond .ne 10, 3) := by decide +kernel
theorem d_M_controls_117 : decode b_M_controls 117 = .ok (.lconst 1, 1) := by decide +kernel
theorem d_M_controls_118 : decode b_M_controls 118 = .ok (.iload 4, 2) := by decide +kernel
theorem d_M_controls_120 : decode b_M_controls 120 = .ok (.lshl, 1) := by decide +kernel
theorem d_M_controls_121 : decode b_M_controls 121 = .ok (.goto 4, 3) := by decide +kernel
theorem d_M_controls_124 : decode b_M_controls 124 = .ok (.lconst 0, 1) := by decide +kernel
theorem d_M_controls_125 : decode b_M_controls 125 = .ok (.lor, 1) := by decide +kernel
theorem d_M_controls_126 : decode b_M_controls 126 = .ok (.lstore_n 2, 1) := by decide +kernel
theorem d_M_controls_127 : decode b_M_controls 127 = .ok (.iinc 4 1, 3) := by decide +kernel
theorem d_M_controls_130 : decode b_M_controls 130 = .ok (.goto (-115), 3) := by decide +kernel
theorem d_M_controls_133 : decode b_M_controls 133 = .ok (.lload_n 2, 1) := by decide +kernel
theorem d_M_controls_134 : decode b_M_controls 134 = .ok (.lreturn, 1) := by decide +kernel
theorem d_M_isBack_0 : decode b_M_isBack 0 = .ok (.aload_n 0, 1) := by decide +kernel
theorem d_M_isBack_1 : decode b_M_isBack 1 = .ok (.iload_n 1, 1) := by decide +kernel
theorem d_M_isBack_2 : decode b_M_isBack 2 = .ok (.invokevirtual 91, 3) := by decide +kernel
theorem d_M_isBack_5 : decode b_M_isBack 5 = .ok (.ifCond .eq 24, 3) := by decide +kernel
theorem d_M_isBack_8 : decode b_M_isBack 8 = .ok (.aload_n 0, 1) := by decide +kernel
theorem d_M_isBack_9 : decode b_M_isBack 9 = .ok (.iload_n 2, 1) := by decide +kernel
theorem d_M_isBack_10 : decode b_M_isBack 10 = .ok (.invokevirtual 91, 3) := by decide +kernel
theorem d_M_isBack_13 : decode b_M_isBack 13 = .ok (.ifCond .eq 16, 3) := by decide +kernel
theorem d_M_isBack_16 : decode b_M_isBack 16 = .ok (.aload_n 0, 1) := by decide +kernel
theorem d_M_isBack_17 : decode b_M_isBack 17 = .ok (.iload_n 1, 1) := by decide +kernel
theorem d_M_isBack_18 : decode b_M_isBack 18 = .ok (.iload_n 2, 1) := by decide +kernel
theorem d_M_isBack_19 : decode b_M_isBack 19 = .ok (.invokevirtual 80, 3) := by decide +kernel
theorem d_M_isBack_22 : decode b_M_isBack 22 = .ok (.ifCond .eq 7, 3) := by decide +kernel
theorem d_M_isBack_25 : decode b_M_isBack 25 = .ok (.iconst 1, 1) := by decide +kernel
theorem d_M_isBack_26 : decode b_M_isBack 26 = .ok (.goto 4, 3) := by decide +kernel
theorem d_M_isBack_29 : decode b_M_isBack 29 = .ok (.iconst 0, 1) := by decide +kernel
theorem d_M_isBack_30 : decode b_M_isBack 30 = .ok (.ireturn, 1) := by decide +kernel
theorem d_M_loop_0 : decode b_M_loop 0 = .ok (.aload_n 0, 1) := by decide +kernel
theorem d_M_loop_1 : decode b_M_loop 1 = .ok (.iload_n 1, 1) := by decide +kernel
theorem d_M_loop_2 : decode b_M_loop 2 = .ok (.invokevirtual 91, 3) := by decide +kernel
theorem d_M_loop_5 : decode b_M_loop 5 = .ok (.ifCond .eq 12, 3) := by decide +kernel
theorem d_M_loop_8 : decode b_M_loop 8 = .ok (.aload_n 0, 1) := by decide +kernel
theorem d_M_loop_9 : decode b_M_loop 9 = .ok (.getfield 29, 3) := by decide +kernel
theorem d_M_loop_12 : decode b_M_loop 12 = .ok (.iload_n 1, 1) := by decide +kernel
theorem d_M_loop_13 : decode b_M_loop 13 = .ok (.laload, 1) := by decide +kernel
theorem d_M_loop_14 : decode b_M_loop 14 = .ok (.goto 4, 3) := by decide +kernel
theorem d_M_loop_17 : decode b_M_loop 17 = .ok (.lconst 0, 1) := by decide +kernel
theorem d_M_loop_18 : decode b_M_loop 18 = .ok (.lreturn, 1) := by decide +kernel
theorem d_M_loops_0 : decode b_M_loops 0 = .ok (.aload_n 0, 1) := by decide +kernel
theorem d_M_loops_1 : decode b_M_loops 1 = .ok (.iconst 0, 1) := by decide +kernel
theorem d_M_loops_2 : decode b_M_loops 2 = .ok (.putfield 42, 3) := by decide +kernel
theorem d_M_loops_5 : decode b_M_loops 5 = .ok (.aload_n 0, 1) := by decide +kernel
theorem d_M_loops_6 : decode b_M_loops 6 = .ok (.getfield 45, 3) := by decide +kernel
theorem d_M_loops_9 : decode b_M_loops 9 = .ok (.ifCond .le 7, 3) := by decide +kernel
theorem d_M_loops_12 : decode b_M_loops 12 = .ok (.aload_n 0, 1) := by decide +kernel
theorem d_M_loops_13 : decode b_M_loops 13 = .ok (.invokevirtual 88, 3) := by decide +kernel
theorem d_M_loops_16 : decode b_M_loops 16 = .ok (.iconst 0, 1) := by decide +kernel
theorem d_M_loops_17 : decode b_M_loops 17 = .ok (.istore_n 1, 1) := by decide +kernel
theorem d_M_loops_18 : decode b_M_loops 18 = .ok (.iconst 0, 1) := by decide +kernel
theorem d_M_loops_19 : decode b_M_loops 19 = .ok (.istore_n 2, 1) := by decide +kernel
theorem d_M_loops_20 : decode b_M_loops 20 = .ok (.iload_n 2, 1) := by decide +kernel
theorem d_M_loops_21 : decode b_M_loops 21 = .ok (.aload_n 0, 1) := by decide +kernel
theorem d_M_loops_22 : decode b_M_loops 22 = .ok (.getfield 45, 3) := by decide +kernel
theorem d_M_loops_25 : decode b_M_loops 25 = .ok (.if_icmp .ge 28, 3) := by decide +kernel
theorem d_M_loops_28 : decode b_M_loops 28 = .ok (.iload_n 1, 1) := by decide +kernel
theorem d_M_loops_29 : decode b_M_loops 29 = .ok (.aload_n 0, 1) := by decide +kernel
theorem d_M_loops_30 : decode b_M_loops 30 = .ok (.getfield 29, 3) := by decide +kernel
theorem d_M_loops_33 : decode b_M_loops 33 = .ok (.iload_n 2, 1) := by decide +kernel
theorem d_M_loops_34 : decode b_M_loops 34 = .ok (.laload, 1) := by decide +kernel
theorem d_M_loops_35 : decode b_M_loops 35 = .ok (.lconst 0, 1) := by decide +kernel
theorem d_M_loops_36 : decode b_M_loops 36 = .ok (.lcmp, 1) := by decide +kernel
theorem d_M_loops_37 : decode b_M_loops 37 = .ok (.ifCond .eq 7, 3) := by decide +kernel
theorem d_M_loops_40 : decode b_M_loops 40 = .ok (.iconst 1, 1) := by decide +kernel
theorem d_M_loops_41 : decode b_M_loops 41 = .ok (.goto 4, 3) := by decide +kernel
theorem d_M_loops_44 : decode b_M_loops 44 = .ok (.iconst 0, 1) := by decide +kernel
theorem d_M_loops_45 : decode b_M_loops 45 = .ok (.iadd, 1) := by decide +kernel
theorem d_M_loops_46 : decode b_M_loops 46 = .ok (.istore_n 1, 1) := by decide +kernel
theorem d_M_loops_47 : decode b_M_loops 47 = .ok (.iinc 2 1, 3) := by decide +kernel
theorem d_M_loops_50 : decode b_M_loops 50 = .ok (.goto (-30), 3) := by decide +kernel
theorem d_M_loops_53 : decode b_M_loops 53 = .ok (.iload_n 1, 1) := by decide +kernel
theorem d_M_loops_54 : decode b_M_loops 54 = .ok (.ireturn, 1) := by decide +kernel
theorem d_M_depth_0 : decode b_M_depth 0 = .ok (.aload_n 0, 1) := by decide +kernel
theorem d_M_depth_1 : decode b_M_depth 1 = .ok (.iload_n 1, 1) := by decide +kernel
theorem d_M_depth_2 : decode b_M_depth 2 = .ok (.invokevirtual 91, 3) := by decide +kernel
theorem d_M_depth_5 : decode b_M_depth 5 = .ok (.ifCond .ne 5, 3) := by decide +kernel
theorem d_M_depth_8 : decode b_M_depth 8 = .ok (.iconst 0, 1) := by decide +kernel
theorem d_M_depth_9 : decode b_M_depth 9 = .ok (.ireturn, 1) := by decide +kernel
theorem d_M_depth_10 : decode b_M_depth 10 = .ok (.iconst 0, 1) := by decide +kernel
theorem d_M_depth_11 : decode b_M_depth 11 = .ok (.istore_n 2, 1) := by decide +kernel
theorem d_M_depth_12 : decode b_M_depth 12 = .ok (.iconst 0, 1) := by decide +kernel
theorem d_M_depth_13 : decode b_M_depth 13 = .ok (.istore_n 3, 1) := by decide +kernel
theorem d_M_depth_14 : decode b_M_depth 14 = .ok (.iload_n 3, 1) := by decide +kernel
theorem d_M_depth_15 : decode b_M_depth 15 = .ok (.aload_n 0, 1) := by decide +kernel
theorem d_M_depth_16 : decode b_M_depth 16 = .ok (.getfield 45, 3) := by decide +kernel
theorem d_M_depth_19 : decode b_M_depth 19 = .ok (.if_icmp .ge 30, 3) := by decide +kernel
theorem d_M_depth_22 : decode b_M_depth 22 = .ok (.iload_n 2, 1) := by decide +kernel
theorem d_M_depth_23 : decode b_M_depth 23 = .ok (.aload_n 0, 1) := by decide +kernel
theorem d_M_depth_24 : decode b_M_depth 24 = .ok (.getfield 29, 3) := by decide +kernel
theorem d_M_depth_27 : decode b_M_depth 27 = .ok (.iload_n 3, 1) := by decide +kernel
theorem d_M_depth_28 : decode b_M_depth 28 = .ok (.laload, 1) := by decide +kernel
theorem d_M_depth_29 : decode b_M_depth 29 = .ok (.iload_n 1, 1) := by decide +kernel
theorem d_M_depth_30 : decode b_M_depth 30 = .ok (.invokestatic 48, 3) := by decide +kernel
theorem d_M_depth_33 : decode b_M_depth 33 = .ok (.ifCond .eq 7, 3) := by decide +kernel
theorem d_M_depth_36 : decode b_M_depth 36 = .ok (.iconst 1, 1) := by decide +kernel
theorem d_M_depth_37 : decode b_M_depth 37 = .ok (.goto 4, 3) := by decide +kernel
theorem d_M_depth_40 : decode b_M_depth 40 = .ok (.iconst 0, 1) := by decide +kernel
theorem d_M_depth_41 : decode b_M_depth 41 = .ok (.iadd, 1) := by decide +kernel
theorem d_M_depth_42 : decode b_M_depth 42 = .ok (.istore_n 2, 1) := by decide +kernel
theorem d_M_depth_43 : decode b_M_depth 43 = .ok (.iinc 3 1, 3) := by decide +kernel
theorem d_M_depth_46 : decode b_M_depth 46 = .ok (.goto (-32), 3) := by decide +kernel
theorem d_M_depth_49 : decode b_M_depth 49 = .ok (.iload_n 2, 1) := by decide +kernel
theorem d_M_depth_50 : decode b_M_depth 50 = .ok (.ireturn, 1) := by decide +kernel
theorem d_M_header_0 : decode b_M_header 0 = .ok (.aload_n 0, 1) := by decide +kernel
theorem d_M_header_1 : decode b_M_header 1 = .ok (.iload_n 1, 1) := by decide +kernel
theorem d_M_header_2 : decode b_M_header 2 = .ok (.invokevirtual 91, 3) := by decide +kernel
theorem d_M_header_5 : decode b_M_header 5 = .ok (.ifCond .ne 5, 3) := by decide +kernel
theorem d_M_header_8 : decode b_M_header 8 = .ok (.iconst 0, 1) := by decide +kernel
theorem d_M_header_9 : decode b_M_header 9 = .ok (.ireturn, 1) := by decide +kernel
theorem d_M_header_10 : decode b_M_header 10 = .ok (.iconst (-1), 1) := by decide +kernel
theorem d_M_header_11 : decode b_M_header 11 = .ok (.istore_n 3, 1) := by decide +kernel
theorem d_M_header_12 : decode b_M_header 12 = .ok (.iconst 0, 1) := by decide +kernel
theorem d_M_header_13 : decode b_M_header 13 = .ok (.istore 4, 2) := by decide +kernel
theorem d_M_header_15 : decode b_M_header 15 = .ok (.iload 4, 2) := by decide +kernel
theorem d_M_header_17 : decode b_M_header 17 = .ok (.aload_n 0, 1) := by decide +kernel
theorem d_M_header_18 : decode b_M_header 18 = .ok (.getfield 45, 3) := by decide +kernel
theorem d_M_header_21 : decode b_M_header 21 = .ok (.if_icmp .ge 80, 3) := by decide +kernel
theorem d_M_header_24 : decode b_M_header 24 = .ok (.aload_n 0, 1) := by decide +kernel
theorem d_M_header_25 : decode b_M_header 25 = .ok (.getfield 29, 3) := by decide +kernel
theorem d_M_header_28 : decode b_M_header 28 = .ok (.iload 4, 2) := by decide +kernel
theorem d_M_header_30 : decode b_M_header 30 = .ok (.laload, 1) := by decide +kernel
theorem d_M_header_31 : decode b_M_header 31 = .ok (.iload_n 1, 1) := by decide +kernel
theorem d_M_header_32 : decode b_M_header 32 = .ok (.invokestatic 48, 3) := by decide +kernel
theorem d_M_header_35 : decode b_M_header 35 = .ok (.ifCond .eq 17, 3) := by decide +kernel
theorem d_M_header_38 : decode b_M_header 38 = .ok (.iload_n 2, 1) := by decide +kernel
theorem d_M_header_39 : decode b_M_header 39 = .ok (.ifCond .eq 9, 3) := by decide +kernel
theorem d_M_header_42 : decode b_M_header 42 = .ok (.iload 4, 2) := by decide +kernel
theorem d_M_header_44 : decode b_M_header 44 = .ok (.iload_n 1, 1) := by decide +kernel
theorem d_M_header_45 : decode b_M_header 45 = .ok (.if_icmp .eq 7, 3) := by decide +kernel
theorem d_M_header_48 : decode b_M_header 48 = .ok (.iconst 1, 1) := by decide +kernel
theorem d_M_header_49 : decode b_M_header 49 = .ok (.goto 4, 3) := by decide +kernel
theorem d_M_header_52 : decode b_M_header 52 = .ok (.iconst 0, 1) := by decide +kernel
theorem d_M_header_53 : decode b_M_header 53 = .ok (.istore 5, 2) := by decide +kernel
theorem d_M_header_55 : decode b_M_header 55 = .ok (.iload 5, 2) := by decide +kernel
theorem d_M_header_57 : decode b_M_header 57 = .ok (.ifCond .eq 36, 3) := by decide +kernel
theorem d_M_header_60 : decode b_M_header 60 = .ok (.iload_n 3, 1) := by decide +kernel
theorem d_M_header_61 : decode b_M_header 61 = .ok (.ifCond .lt 27, 3) := by decide +kernel
theorem d_M_header_64 : decode b_M_header 64 = .ok (.aload_n 0, 1) := by decide +kernel
theorem d_M_header_65 : decode b_M_header 65 = .ok (.aload_n 0, 1) := by decide +kernel
theorem d_M_header_66 : decode b_M_header 66 = .ok (.getfield 29, 3) := by decide +kernel
theorem d_M_header_69 : decode b_M_header 69 = .ok (.iload 4, 2) := by decide +kernel
theorem d_M_header_71 : decode b_M_header 71 = .ok (.laload, 1) := by decide +kernel
theorem d_M_header_72 : decode b_M_header 72 = .ok (.invokevirtual 101, 3) := by decide +kernel
theorem d_M_header_75 : decode b_M_header 75 = .ok (.aload_n 0, 1) := by decide +kernel
theorem d_M_header_76 : decode b_M_header 76 = .ok (.aload_n 0, 1) := by decide +kernel
theorem d_M_header_77 : decode b_M_header 77 = .ok (.getfield 29, 3) := by decide +kernel
theorem d_M_header_80 : decode b_M_header 80 = .ok (.iload_n 3, 1) := by decide +kernel
theorem d_M_header_81 : decode b_M_header 81 = .ok (.laload, 1) := by decide +kernel
theorem d_M_header_82 : decode b_M_header 82 = .ok (.invokevirtual 101, 3) := by decide +kernel
theorem d_M_header_85 : decode b_M_header 85 = .ok (.if_icmp .ge 8, 3) := by decide +kernel
theorem d_M_header_88 : decode b_M_header 88 = .ok (.iload 4, 2) := by decide +kernel
theorem d_M_header_90 : decode b_M_header 90 = .ok (.goto 4, 3) := by decide +kernel
theorem d_M_header_93 : decode b_M_header 93 = .ok (.iload_n 3, 1) := by decide +kernel
theorem d_M_header_94 : decode b_M_header 94 = .ok (.istore_n 3, 1) := by decide +kernel
theorem d_M_header_95 : decode b_M_header 95 = .ok (.iinc 4 1, 3) := by decide +kernel
theorem d_M_header_98 : decode b_M_header 98 = .ok (.goto (-83), 3) := by decide +kernel
theorem d_M_header_101 : decode b_M_header 101 = .ok (.iload_n 3, 1) := by decide +kernel
theorem d_M_header_102 : decode b_M_header 102 = .ok (.ireturn, 1) := by decide +kernel
theorem d_M_sizeOf_0 : decode b_M_sizeOf 0 = .ok (.iconst 0, 1) := by decide +kernel
theorem d_M_sizeOf_1 : decode b_M_sizeOf 1 = .ok (.istore_n 3, 1) := by decide +kernel
theorem d_M_sizeOf_2 : decode b_M_sizeOf 2 = .ok (.iconst 0, 1) := by decide +kernel
theorem d_M_sizeOf_3 : decode b_M_sizeOf 3 = .ok (.istore 4, 2) := by decide +kernel
theorem d_M_sizeOf_5 : decode b_M_sizeOf 5 = .ok (.iload 4, 2) := by decide +kernel
theorem d_M_sizeOf_7 : decode b_M_sizeOf 7 = .ok (.aload_n 0, 1) := by decide +kernel
theorem d_M_sizeOf_8 : decode b_M_sizeOf 8 = .ok (.getfield 45, 3) := by decide +kernel
theorem d_M_sizeOf_11 : decode b_M_sizeOf 11 = .ok (.if_icmp .ge 26, 3) := by decide +kernel
theorem d_M_sizeOf_14 : decode b_M_sizeOf 14 = .ok (.iload_n 3, 1) := by decide +kernel
theorem d_M_sizeOf_15 : decode b_M_sizeOf 15 = .ok (.lload_n 1, 1) := by decide +kernel
theorem d_M_sizeOf_16 : decode b_M_sizeOf 16 = .ok (.iload 4, 2) := by decide +kernel
theorem d_M_sizeOf_18 : decode b_M_sizeOf 18 = .ok (.invokestatic 48, 3) := by decide +kernel
theorem d_M_sizeOf_21 : decode b_M_sizeOf 21 = .ok (.ifCond .eq 7, 3) := by decide +kernel
theorem d_M_sizeOf_24 : decode b_M_sizeOf 24 = .ok (.iconst 1, 1) := by decide +kernel
theorem d_M_sizeOf_25 : decode b_M_sizeOf 25 = .ok (.goto 4, 3) := by decide +kernel
theorem d_M_sizeOf_28 : decode b_M_sizeOf 28 = .ok (.iconst 0, 1) := by decide +kernel
theorem d_M_sizeOf_29 : decode b_M_sizeOf 29 = .ok (.iadd, 1) := by decide +kernel
theorem d_M_sizeOf_30 : decode b_M_sizeOf 30 = .ok (.istore_n 3, 1) := by decide +kernel
theorem d_M_sizeOf_31 : decode b_M_sizeOf 31 = .ok (.iinc 4 1, 3) := by decide +kernel
theorem d_M_sizeOf_34 : decode b_M_sizeOf 34 = .ok (.goto (-29), 3) := by decide +kernel
theorem d_M_sizeOf_37 : decode b_M_sizeOf 37 = .ok (.iload_n 3, 1) := by decide +kernel
theorem d_M_sizeOf_38 : decode b_M_sizeOf 38 = .ok (.ireturn, 1) := by decide +kernel
theorem d_M_isReducible_0 : decode b_M_isReducible 0 = .ok (.aload_n 0, 1) := by decide +kernel
theorem d_M_isReducible_1 : decode b_M_isReducible 1 = .ok (.iconst 0, 1) := by decide +kernel
theorem d_M_isReducible_2 : decode b_M_isReducible 2 = .ok (.putfield 42, 3) := by decide +kernel
theorem d_M_isReducible_5 : decode b_M_isReducible 5 = .ok (.aload_n 0, 1) := by decide +kernel
theorem d_M_isReducible_6 : decode b_M_isReducible 6 = .ok (.getfield 45, 3) := by decide +kernel
theorem d_M_isReducible_9 : decode b_M_isReducible 9 = .ok (.ifCond .ne 5, 3) := by decide +kernel
theorem d_M_isReducible_12 : decode b_M_isReducible 12 = .ok (.iconst 1, 1) := by decide +kernel
theorem d_M_isReducible_13 : decode b_M_isReducible 13 = .ok (.ireturn, 1) := by decide +kernel
theorem d_M_isReducible_14 : decode b_M_isReducible 14 = .ok (.aload_n 0, 1) := by decide +kernel
theorem d_M_isReducible_15 : decode b_M_isReducible 15 = .ok (.invokevirtual 88, 3) := by decide +kernel
theorem d_M_isReducible_18 : decode b_M_isReducible 18 = .ok (.aload_n 0, 1) := by decide +kernel
theorem d_M_isReducible_19 : decode b_M_isReducible 19 = .ok (.getfield 62, 3) := by decide +kernel
theorem d_M_isReducible_22 : decode b_M_isReducible 22 = .ok (.lstore_n 1, 1) := by decide +kernel
theorem d_M_isReducible_23 : decode b_M_isReducible 23 = .ok (.lconst 0, 1) := by decide +kernel
theorem d_M_isReducible_24 : decode b_M_isReducible 24 = .ok (.lstore_n 3, 1) := by decide +kernel
theorem d_M_isReducible_25 : decode b_M_isReducible 25 = .ok (.lload_n 1, 1) := by decide +kernel
theorem d_M_isReducible_26 : decode b_M_isReducible 26 = .ok (.lload_n 3, 1) := by decide +kernel
theorem d_M_isReducible_27 : decode b_M_isReducible 27 = .ok (.lcmp, 1) := by decide +kernel
theorem d_M_isReducible_28 : decode b_M_isReducible 28 = .ok (.ifCond .eq 114, 3) := by decide +kernel
theorem d_M_isReducible_31 : decode b_M_isReducible 31 = .ok (.lload_n 1, 1) := by decide +kernel
theorem d_M_isReducible_32 : decode b_M_isReducible 32 = .ok (.lstore_n 3, 1) := by decide +kernel
theorem d_M_isReducible_33 : decode b_M_isReducible 33 = .ok (.iconst 0, 1) := by decide +kernel
theorem d_M_isReducible_34 : decode b_M_isReducible 34 = .ok (.istore 5, 2) := by decide +kernel
theorem d_M_isReducible_36 : decode b_M_isReducible 36 = .ok (.iload 5, 2) := by decide +kernel
theorem d_M_isReducible_38 : decode b_M_isReducible 38 = .ok (.aload_n 0, 1) := by decide +kernel
theorem d_M_isReducible_39 : decode b_M_isReducible 39 = .ok (.getfield 45, 3) := by decide +kernel
theorem d_M_isReducible_42 : decode b_M_isReducible 42 = .ok (.if_icmp .ge 97, 3) := by decide +kernel
theorem d_M_isReducible_45 : decode b_M_isReducible 45 = .ok (.iconst 0, 1) := by decide +kernel
theorem d_M_isReducible_46 : decode b_M_isReducible 46 = .ok (.istore 6, 2) := by decide +kernel
theorem d_M_isReducible_48 : decode b_M_isReducible 48 = .ok (.iconst 0, 1) := by decide +kernel
theorem d_M_isReducible_49 : decode b_M_isReducible 49 = .ok (.istore 7, 2) := by decide +kernel
theorem d_M_isReducible_51 : decode b_M_isReducible 51 = .ok (.iload 7, 2) := by decide +kernel
theorem d_M_isReducible_53 : decode b_M_isReducible 53 = .ok (.aload_n 0, 1) := by decide +kernel
theorem d_M_isReducible_54 : decode b_M_isReducible 54 = .ok (.getfield 45, 3) := by decide +kernel
theorem d_M_isReducible_57 : decode b_M_isReducible 57 = .ok (.if_icmp .ge 56, 3) := by decide +kernel
theorem d_M_isReducible_60 : decode b_M_isReducible 60 = .ok (.iload 6, 2) := by decide +kernel
theorem d_M_isReducible_62 : decode b_M_isReducible 62 = .ok (.ifCond .ne 38, 3) := by decide +kernel
theorem d_M_isReducible_65 : decode b_M_isReducible 65 = .ok (.lload_n 1, 1) := by decide +kernel
theorem d_M_isReducible_66 : decode b_M_isReducible 66 = .ok (.iload 7, 2) := by decide +kernel
theorem d_M_isReducible_68 : decode b_M_isReducible 68 = .ok (.invokestatic 48, 3) := by decide +kernel
theorem d_M_isReducible_71 : decode b_M_isReducible 71 = .ok (.ifCond .eq 33, 3) := by decide +kernel
theorem d_M_isReducible_74 : decode b_M_isReducible 74 = .ok (.aload_n 0, 1) := by decide +kernel
theorem d_M_isReducible_75 : decode b_M_isReducible 75 = .ok (.getfield 16, 3) := by decide +kernel
theorem d_M_isReducible_78 : decode b_M_isReducible 78 = .ok (.iload 7, 2) := by decide +kernel
theorem d_M_isReducible_80 : decode b_M_isReducible 80 = .ok (.laload, 1) := by decide +kernel
theorem d_M_isReducible_81 : decode b_M_isReducible 81 = .ok (.iload 5, 2) := by decide +kernel
theorem d_M_isReducible_83 : decode b_M_isReducible 83 = .ok (.invokestatic 48, 3) := by decide +kernel
theorem d_M_isReducible_86 : decode b_M_isReducible 86 = .ok (.ifCond .eq 18, 3) := by decide +kernel
theorem d_M_isReducible_89 : decode b_M_isReducible 89 = .ok (.aload_n 0, 1) := by decide +kernel
theorem d_M_isReducible_90 : decode b_M_isReducible 90 = .ok (.iload 7, 2) := by decide +kernel
theorem d_M_isReducible_92 : decode b_M_isReducible 92 = .ok (.iload 5, 2) := by decide +kernel
theorem d_M_isReducible_94 : decode b_M_isReducible 94 = .ok (.invokevirtual 80, 3) := by decide +kernel
theorem d_M_isReducible_97 : decode b_M_isReducible 97 = .ok (.ifCond .ne 7, 3) := by decide +kernel
theorem d_M_isReducible_100 : decode b_M_isReducible 100 = .ok (.iconst 1, 1) := by decide +kernel
theorem d_M_isReducible_101 : decode b_M_isReducible 101 = .ok (.goto 4, 3) := by decide +kernel
theorem d_M_isReducible_104 : decode b_M_isReducible 104 = .ok (.iconst 0, 1) := by decide +kernel
theorem d_M_isReducible_105 : decode b_M_isReducible 105 = .ok (.istore 6, 2) := by decide +kernel
theorem d_M_isReducible_107 : decode b_M_isReducible 107 = .ok (.iinc 7 1, 3) := by decide +kernel
theorem d_M_isReducible_110 : decode b_M_isReducible 110 = .ok (.goto (-59), 3) := by decide +kernel
theorem d_M_isReducible_113 : decode b_M_isReducible 113 = .ok (.iload 6, 2) := by decide +kernel
theorem d_M_isReducible_115 : decode b_M_isReducible 115 = .ok (.ifCond .eq 7, 3) := by decide +kernel
theorem d_M_isReducible_118 : decode b_M_isReducible 118 = .ok (.lload_n 1, 1) := by decide +kernel
theorem d_M_isReducible_119 : decode b_M_isReducible 119 = .ok (.goto 13, 3) := by decide +kernel
theorem d_M_isReducible_122 : decode b_M_isReducible 122 = .ok (.lload_n 1, 1) := by decide +kernel
theorem d_M_isReducible_123 : decode b_M_isReducible 123 = .ok (.lconst 1, 1) := by decide +kernel
theorem d_M_isReducible_124 : decode b_M_isReducible 124 = .ok (.iload 5, 2) := by decide +kernel
theorem d_M_isReducible_126 : decode b_M_isReducible 126 = .ok (.lshl, 1) := by decide +kernel
theorem d_M_isReducible_127 : decode b_M_isReducible 127 = .ok (.ldc2_w 52, 3) := by decide +kernel
theorem d_M_isReducible_130 : decode b_M_isReducible 130 = .ok (.lxor, 1) := by decide +kernel
theorem d_M_isReducible_131 : decode b_M_isReducible 131 = .ok (.land, 1) := by decide +kernel
theorem d_M_isReducible_132 : decode b_M_isReducible 132 = .ok (.lstore_n 1, 1) := by decide +kernel
theorem d_M_isReducible_133 : decode b_M_isReducible 133 = .ok (.iinc 5 1, 3) := by decide +kernel
theorem d_M_isReducible_136 : decode b_M_isReducible 136 = .ok (.goto (-100), 3) := by decide +kernel
theorem d_M_isReducible_139 : decode b_M_isReducible 139 = .ok (.goto (-114), 3) := by decide +kernel
theorem d_M_isReducible_142 : decode b_M_isReducible 142 = .ok (.lload_n 1, 1) := by decide +kernel
theorem d_M_isReducible_143 : decode b_M_isReducible 143 = .ok (.lconst 0, 1) := by decide +kernel
theorem d_M_isReducible_144 : decode b_M_isReducible 144 = .ok (.lcmp, 1) := by decide +kernel
theorem d_M_isReducible_145 : decode b_M_isReducible 145 = .ok (.ifCond .ne 7, 3) := by decide +kernel
theorem d_M_isReducible_148 : decode b_M_isReducible 148 = .ok (.iconst 1, 1) := by decide +kernel
theorem d_M_isReducible_149 : decode b_M_isReducible 149 = .ok (.goto 4, 3) := by decide +kernel
theorem d_M_isReducible_152 : decode b_M_isReducible 152 = .ok (.iconst 0, 1) := by decide +kernel
theorem d_M_isReducible_153 : decode b_M_isReducible 153 = .ok (.ireturn, 1) := by decide +kernel
theorem d_M_order_0 : decode b_M_order 0 = .ok (.aload_n 0, 1) := by decide +kernel
theorem d_M_order_1 : decode b_M_order 1 = .ok (.iload_n 1, 1) := by decide +kernel
theorem d_M_order_2 : decode b_M_order 2 = .ok (.invokevirtual 91, 3) := by decide +kernel
theorem d_M_order_5 : decode b_M_order 5 = .ok (.ifCond .ne 5, 3) := by decide +kernel
theorem d_M_order_8 : decode b_M_order 8 = .ok (.iconst 0, 1) := by decide +kernel
theorem d_M_order_9 : decode b_M_order 9 = .ok (.ireturn, 1) := by decide +kernel
theorem d_M_order_10 : decode b_M_order 10 = .ok (.iload_n 2, 1) := by decide +kernel
theorem d_M_order_11 : decode b_M_order 11 = .ok (.ifCond .eq 12, 3) := by decide +kernel
theorem d_M_order_14 : decode b_M_order 14 = .ok (.aload_n 0, 1) := by decide +kernel
theorem d_M_order_15 : decode b_M_order 15 = .ok (.getfield 36, 3) := by decide +kernel
theorem d_M_order_18 : decode b_M_order 18 = .ok (.iload_n 1, 1) := by decide +kernel
theorem d_M_order_19 : decode b_M_order 19 = .ok (.iaload, 1) := by decide +kernel
theorem d_M_order_20 : decode b_M_order 20 = .ok (.goto 9, 3) := by decide +kernel
theorem d_M_order_23 : decode b_M_order 23 = .ok (.aload_n 0, 1) := by decide +kernel
theorem d_M_order_24 : decode b_M_order 24 = .ok (.getfield 32, 3) := by decide +kernel
theorem d_M_order_27 : decode b_M_order 27 = .ok (.iload_n 1, 1) := by decide +kernel
theorem d_M_order_28 : decode b_M_order 28 = .ok (.iaload, 1) := by decide +kernel
theorem d_M_order_29 : decode b_M_order 29 = .ok (.ireturn, 1) := by decide +kernel
theorem d_M_told_0 : decode b_M_told 0 = .ok (.aload_n 0, 1) := by decide +kernel
theorem d_M_told_1 : decode b_M_told 1 = .ok (.iconst 0, 1) := by decide +kernel
theorem d_M_told_2 : decode b_M_told 2 = .ok (.putfield 42, 3) := by decide +kernel
theorem d_M_told_5 : decode b_M_told 5 = .ok (.aload_n 0, 1) := by decide +kernel
theorem d_M_told_6 : decode b_M_told 6 = .ok (.getfield 45, 3) := by decide +kernel
theorem d_M_told_9 : decode b_M_told 9 = .ok (.ifCond .le 7, 3) := by decide +kernel
theorem d_M_told_12 : decode b_M_told 12 = .ok (.aload_n 0, 1) := by decide +kernel
theorem d_M_told_13 : decode b_M_told 13 = .ok (.invokevirtual 88, 3) := by decide +kernel
theorem d_M_told_16 : decode b_M_told 16 = .ok (.iconst 0, 1) := by decide +kernel
theorem d_M_told_17 : decode b_M_told 17 = .ok (.istore_n 2, 1) := by decide +kernel
theorem d_M_told_18 : decode b_M_told 18 = .ok (.iconst 0, 1) := by decide +kernel
theorem d_M_told_19 : decode b_M_told 19 = .ok (.istore_n 3, 1) := by decide +kernel
theorem d_M_told_20 : decode b_M_told 20 = .ok (.iload_n 3, 1) := by decide +kernel
theorem d_M_told_21 : decode b_M_told 21 = .ok (.aload_n 0, 1) := by decide +kernel
theorem d_M_told_22 : decode b_M_told 22 = .ok (.getfield 45, 3) := by decide +kernel
theorem d_M_told_25 : decode b_M_told 25 = .ok (.if_icmp .ge 22, 3) := by decide +kernel
theorem d_M_told_28 : decode b_M_told 28 = .ok (.iload_n 2, 1) := by decide +kernel
theorem d_M_told_29 : decode b_M_told 29 = .ok (.aload_n 0, 1) := by decide +kernel
theorem d_M_told_30 : decode b_M_told 30 = .ok (.aload_n 0, 1) := by decide +kernel
theorem d_M_told_31 : decode b_M_told 31 = .ok (.getfield 16, 3) := by decide +kernel
theorem d_M_told_34 : decode b_M_told 34 = .ok (.iload_n 3, 1) := by decide +kernel
theorem d_M_told_35 : decode b_M_told 35 = .ok (.laload, 1) := by decide +kernel
theorem d_M_told_36 : decode b_M_told 36 = .ok (.invokevirtual 101, 3) := by decide +kernel
theorem d_M_told_39 : decode b_M_told 39 = .ok (.iadd, 1) := by decide +kernel
theorem d_M_told_40 : decode b_M_told 40 = .ok (.istore_n 2, 1) := by decide +kernel
theorem d_M_told_41 : decode b_M_told 41 = .ok (.iinc 3 1, 3) := by decide +kernel
theorem d_M_told_44 : decode b_M_told 44 = .ok (.goto (-24), 3) := by decide +kernel
theorem d_M_told_47 : decode b_M_told 47 = .ok (.iload_n 1, 1) := by decide +kernel
theorem d_M_told_48 : decode b_M_told 48 = .ok (.tableswitch 97 0 5 #[40, 45, 47, 67, 87, 92], 40) := by decide +kernel
theorem d_M_told_88 : decode b_M_told 88 = .ok (.aload_n 0, 1) := by decide +kernel
theorem d_M_told_89 : decode b_M_told 89 = .ok (.getfield 45, 3) := by decide +kernel
theorem d_M_told_92 : decode b_M_told 92 = .ok (.ireturn, 1) := by decide +kernel
theorem d_M_told_93 : decode b_M_told 93 = .ok (.iload_n 2, 1) := by decide +kernel
theorem d_M_told_94 : decode b_M_told 94 = .ok (.ireturn, 1) := by decide +kernel
theorem d_M_told_95 : decode b_M_told 95 = .ok (.aload_n 0, 1) := by decide +kernel
theorem d_M_told_96 : decode b_M_told 96 = .ok (.getfield 45, 3) := by decide +kernel
theorem d_M_told_99 : decode b_M_told 99 = .ok (.ifCond .ne 7, 3) := by decide +kernel
theorem d_M_told_102 : decode b_M_told 102 = .ok (.iconst 0, 1) := by decide +kernel
theorem d_M_told_103 : decode b_M_told 103 = .ok (.goto 11, 3) := by decide +kernel
theorem d_M_told_106 : decode b_M_told 106 = .ok (.aload_n 0, 1) := by decide +kernel
theorem d_M_told_107 : decode b_M_told 107 = .ok (.aload_n 0, 1) := by decide +kernel
theorem d_M_told_108 : decode b_M_told 108 = .ok (.getfield 62, 3) := by decide +kernel
theorem d_M_told_111 : decode b_M_told 111 = .ok (.invokevirtual 101, 3) := by decide +kernel
theorem d_M_told_114 : decode b_M_told 114 = .ok (.ireturn, 1) := by decide +kernel
theorem d_M_told_115 : decode b_M_told 115 = .ok (.aload_n 0, 1) := by decide +kernel
theorem d_M_told_116 : decode b_M_told 116 = .ok (.getfield 45, 3) := by decide +kernel
theorem d_M_told_119 : decode b_M_told 119 = .ok (.ifCond .ne 7, 3) := by decide +kernel
theorem d_M_told_122 : decode b_M_told 122 = .ok (.iconst 0, 1) := by decide +kernel
theorem d_M_told_123 : decode b_M_told 123 = .ok (.goto 11, 3) := by decide +kernel
theorem d_M_told_126 : decode b_M_told 126 = .ok (.aload_n 0, 1) := by decide +kernel
theorem d_M_told_127 : decode b_M_told 127 = .ok (.aload_n 0, 1) := by decide +kernel
theorem d_M_told_128 : decode b_M_told 128 = .ok (.getfield 66, 3) := by decide +kernel
theorem d_M_told_131 : decode b_M_told 131 = .ok (.invokevirtual 101, 3) := by decide +kernel
theorem d_M_told_134 : decode b_M_told 134 = .ok (.ireturn, 1) := by decide +kernel
theorem d_M_told_135 : decode b_M_told 135 = .ok (.aload_n 0, 1) := by decide +kernel
theorem d_M_told_136 : decode b_M_told 136 = .ok (.getfield 9, 3) := by decide +kernel
theorem d_M_told_139 : decode b_M_told 139 = .ok (.ireturn, 1) := by decide +kernel
theorem d_M_told_140 : decode b_M_told 140 = .ok (.aload_n 0, 1) := by decide +kernel
theorem d_M_told_141 : decode b_M_told 141 = .ok (.getfield 13, 3) := by decide +kernel
theorem d_M_told_144 : decode b_M_told 144 = .ok (.ireturn, 1) := by decide +kernel
theorem d_M_told_145 : decode b_M_told 145 = .ok (.iconst (-1), 1) := by decide +kernel
theorem d_M_told_146 : decode b_M_told 146 = .ok (.ireturn, 1) := by decide +kernel
