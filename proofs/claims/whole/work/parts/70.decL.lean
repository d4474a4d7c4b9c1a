theorem d_L_begin_0 : decode b_L_begin 0 = .ok (.aload_n 2, 1) := by decide +kernel
theorem d_L_begin_1 : decode b_L_begin 1 = .ok (.iconst 0, 1) := by decide +kernel
theorem d_L_begin_2 : decode b_L_begin 2 = .ok (.aload_n 0, 1) := by decide +kernel
theorem d_L_begin_3 : decode b_L_begin 3 = .ok (.iload_n 1, 1) := by decide +kernel
theorem d_L_begin_4 : decode b_L_begin 4 = .ok (.invokevirtual 7, 3) := by decide +kernel
theorem d_L_begin_7 : decode b_L_begin 7 = .ok (.i2l, 1) := by decide +kernel
theorem d_L_begin_8 : decode b_L_begin 8 = .ok (.lastore, 1) := by decide +kernel
theorem d_L_begin_9 : decode b_L_begin 9 = .ok (.goto 6, 3) := by decide +kernel
theorem d_L_begin_12 : decode b_L_begin 12 = .ok (.astore_n 3, 1) := by decide +kernel
theorem d_L_begin_13 : decode b_L_begin 13 = .ok (.iconst 1, 1) := by decide +kernel
theorem d_L_begin_14 : decode b_L_begin 14 = .ok (.ireturn, 1) := by decide +kernel
theorem d_L_begin_15 : decode b_L_begin 15 = .ok (.iconst 0, 1) := by decide +kernel
theorem d_L_begin_16 : decode b_L_begin 16 = .ok (.ireturn, 1) := by decide +kernel
theorem d_L_link_0 : decode b_L_link 0 = .ok (.aload_n 3, 1) := by decide +kernel
theorem d_L_link_1 : decode b_L_link 1 = .ok (.iconst 0, 1) := by decide +kernel
theorem d_L_link_2 : decode b_L_link 2 = .ok (.aload_n 0, 1) := by decide +kernel
theorem d_L_link_3 : decode b_L_link 3 = .ok (.iload_n 1, 1) := by decide +kernel
theorem d_L_link_4 : decode b_L_link 4 = .ok (.iload_n 2, 1) := by decide +kernel
theorem d_L_link_5 : decode b_L_link 5 = .ok (.invokevirtual 15, 3) := by decide +kernel
theorem d_L_link_8 : decode b_L_link 8 = .ok (.i2l, 1) := by decide +kernel
theorem d_L_link_9 : decode b_L_link 9 = .ok (.lastore, 1) := by decide +kernel
theorem d_L_link_10 : decode b_L_link 10 = .ok (.goto 7, 3) := by decide +kernel
theorem d_L_link_13 : decode b_L_link 13 = .ok (.astore 4, 2) := by decide +kernel
theorem d_L_link_15 : decode b_L_link 15 = .ok (.iconst 1, 1) := by decide +kernel
theorem d_L_link_16 : decode b_L_link 16 = .ok (.ireturn, 1) := by decide +kernel
theorem d_L_link_17 : decode b_L_link 17 = .ok (.iconst 0, 1) := by decide +kernel
theorem d_L_link_18 : decode b_L_link 18 = .ok (.ireturn, 1) := by decide +kernel
theorem d_L_place_0 : decode b_L_place 0 = .ok (.aload_n 3, 1) := by decide +kernel
theorem d_L_place_1 : decode b_L_place 1 = .ok (.iconst 0, 1) := by decide +kernel
theorem d_L_place_2 : decode b_L_place 2 = .ok (.aload_n 0, 1) := by decide +kernel
theorem d_L_place_3 : decode b_L_place 3 = .ok (.iload_n 1, 1) := by decide +kernel
theorem d_L_place_4 : decode b_L_place 4 = .ok (.iload_n 2, 1) := by decide +kernel
theorem d_L_place_5 : decode b_L_place 5 = .ok (.invokevirtual 21, 3) := by decide +kernel
theorem d_L_place_8 : decode b_L_place 8 = .ok (.i2l, 1) := by decide +kernel
theorem d_L_place_9 : decode b_L_place 9 = .ok (.lastore, 1) := by decide +kernel
theorem d_L_place_10 : decode b_L_place 10 = .ok (.goto 7, 3) := by decide +kernel
theorem d_L_place_13 : decode b_L_place 13 = .ok (.astore 4, 2) := by decide +kernel
theorem d_L_place_15 : decode b_L_place 15 = .ok (.iconst 1, 1) := by decide +kernel
theorem d_L_place_16 : decode b_L_place 16 = .ok (.ireturn, 1) := by decide +kernel
theorem d_L_place_17 : decode b_L_place 17 = .ok (.iconst 0, 1) := by decide +kernel
theorem d_L_place_18 : decode b_L_place 18 = .ok (.ireturn, 1) := by decide +kernel
theorem d_L_isReached_0 : decode b_L_isReached 0 = .ok (.aload_n 3, 1) := by decide +kernel
theorem d_L_isReached_1 : decode b_L_isReached 1 = .ok (.iconst 0, 1) := by decide +kernel
theorem d_L_isReached_2 : decode b_L_isReached 2 = .ok (.aload_n 0, 1) := by decide +kernel
theorem d_L_isReached_3 : decode b_L_isReached 3 = .ok (.iload_n 1, 1) := by decide +kernel
theorem d_L_isReached_4 : decode b_L_isReached 4 = .ok (.iload_n 2, 1) := by decide +kernel
theorem d_L_isReached_5 : decode b_L_isReached 5 = .ok (.invokevirtual 25, 3) := by decide +kernel
theorem d_L_isReached_8 : decode b_L_isReached 8 = .ok (.ifCond .eq 7, 3) := by decide +kernel
theorem d_L_isReached_11 : decode b_L_isReached 11 = .ok (.lconst 1, 1) := by decide +kernel
theorem d_L_isReached_12 : decode b_L_isReached 12 = .ok (.goto 4, 3) := by decide +kernel
theorem d_L_isReached_15 : decode b_L_isReached 15 = .ok (.lconst 0, 1) := by decide +kernel
theorem d_L_isReached_16 : decode b_L_isReached 16 = .ok (.lastore, 1) := by decide +kernel
theorem d_L_isReached_17 : decode b_L_isReached 17 = .ok (.goto 7, 3) := by decide +kernel
theorem d_L_isReached_20 : decode b_L_isReached 20 = .ok (.astore 4, 2) := by decide +kernel
theorem d_L_isReached_22 : decode b_L_isReached 22 = .ok (.iconst 1, 1) := by decide +kernel
theorem d_L_isReached_23 : decode b_L_isReached 23 = .ok (.ireturn, 1) := by decide +kernel
theorem d_L_isReached_24 : decode b_L_isReached 24 = .ok (.iconst 0, 1) := by decide +kernel
theorem d_L_isReached_25 : decode b_L_isReached 25 = .ok (.ireturn, 1) := by decide +kernel
theorem d_L_dominator_0 : decode b_L_dominator 0 = .ok (.aload_n 3, 1) := by decide +kernel
theorem d_L_dominator_1 : decode b_L_dominator 1 = .ok (.iconst 0, 1) := by decide +kernel
theorem d_L_dominator_2 : decode b_L_dominator 2 = .ok (.aload_n 0, 1) := by decide +kernel
theorem d_L_dominator_3 : decode b_L_dominator 3 = .ok (.iload_n 1, 1) := by decide +kernel
theorem d_L_dominator_4 : decode b_L_dominator 4 = .ok (.iload_n 2, 1) := by decide +kernel
theorem d_L_dominator_5 : decode b_L_dominator 5 = .ok (.invokevirtual 29, 3) := by decide +kernel
theorem d_L_dominator_8 : decode b_L_dominator 8 = .ok (.i2l, 1) := by decide +kernel
theorem d_L_dominator_9 : decode b_L_dominator 9 = .ok (.lastore, 1) := by decide +kernel
theorem d_L_dominator_10 : decode b_L_dominator 10 = .ok (.goto 7, 3) := by decide +kernel
theorem d_L_dominator_13 : decode b_L_dominator 13 = .ok (.astore 4, 2) := by decide +kernel
theorem d_L_dominator_15 : decode b_L_dominator 15 = .ok (.iconst 1, 1) := by decide +kernel
theorem d_L_dominator_16 : decode b_L_dominator 16 = .ok (.ireturn, 1) := by decide +kernel
theorem d_L_dominator_17 : decode b_L_dominator 17 = .ok (.iconst 0, 1) := by decide +kernel
theorem d_L_dominator_18 : decode b_L_dominator 18 = .ok (.ireturn, 1) := by decide +kernel
theorem d_L_dominates_0 : decode b_L_dominates 0 = .ok (.aload 4, 2) := by decide +kernel
theorem d_L_dominates_2 : decode b_L_dominates 2 = .ok (.iconst 0, 1) := by decide +kernel
theorem d_L_dominates_3 : decode b_L_dominates 3 = .ok (.aload_n 0, 1) := by decide +kernel
theorem d_L_dominates_4 : decode b_L_dominates 4 = .ok (.iload_n 1, 1) := by decide +kernel
theorem d_L_dominates_5 : decode b_L_dominates 5 = .ok (.iload_n 2, 1) := by decide +kernel
theorem d_L_dominates_6 : decode b_L_dominates 6 = .ok (.iload_n 3, 1) := by decide +kernel
theorem d_L_dominates_7 : decode b_L_dominates 7 = .ok (.invokevirtual 32, 3) := by decide +kernel
theorem d_L_dominates_10 : decode b_L_dominates 10 = .ok (.ifCond .eq 7, 3) := by decide +kernel
theorem d_L_dominates_13 : decode b_L_dominates 13 = .ok (.lconst 1, 1) := by decide +kernel
theorem d_L_dominates_14 : decode b_L_dominates 14 = .ok (.goto 4, 3) := by decide +kernel
theorem d_L_dominates_17 : decode b_L_dominates 17 = .ok (.lconst 0, 1) := by decide +kernel
theorem d_L_dominates_18 : decode b_L_dominates 18 = .ok (.lastore, 1) := by decide +kernel
theorem d_L_dominates_19 : decode b_L_dominates 19 = .ok (.goto 7, 3) := by decide +kernel
theorem d_L_dominates_22 : decode b_L_dominates 22 = .ok (.astore 5, 2) := by decide +kernel
theorem d_L_dominates_24 : decode b_L_dominates 24 = .ok (.iconst 1, 1) := by decide +kernel
theorem d_L_dominates_25 : decode b_L_dominates 25 = .ok (.ireturn, 1) := by decide +kernel
theorem d_L_dominates_26 : decode b_L_dominates 26 = .ok (.iconst 0, 1) := by decide +kernel
theorem d_L_dominates_27 : decode b_L_dominates 27 = .ok (.ireturn, 1) := by decide +kernel
theorem d_L_level_0 : decode b_L_level 0 = .ok (.aload_n 2, 1) := by decide +kernel
theorem d_L_level_1 : decode b_L_level 1 = .ok (.iconst 0, 1) := by decide +kernel
theorem d_L_level_2 : decode b_L_level 2 = .ok (.aload_n 0, 1) := by decide +kernel
theorem d_L_level_3 : decode b_L_level 3 = .ok (.iload_n 1, 1) := by decide +kernel
theorem d_L_level_4 : decode b_L_level 4 = .ok (.invokevirtual 36, 3) := by decide +kernel
theorem d_L_level_7 : decode b_L_level 7 = .ok (.i2l, 1) := by decide +kernel
theorem d_L_level_8 : decode b_L_level 8 = .ok (.lastore, 1) := by decide +kernel
theorem d_L_level_9 : decode b_L_level 9 = .ok (.goto 6, 3) := by decide +kernel
theorem d_L_level_12 : decode b_L_level 12 = .ok (.astore_n 3, 1) := by decide +kernel
theorem d_L_level_13 : decode b_L_level 13 = .ok (.iconst 1, 1) := by decide +kernel
theorem d_L_level_14 : decode b_L_level 14 = .ok (.ireturn, 1) := by decide +kernel
theorem d_L_level_15 : decode b_L_level 15 = .ok (.iconst 0, 1) := by decide +kernel
theorem d_L_level_16 : decode b_L_level 16 = .ok (.ireturn, 1) := by decide +kernel
theorem d_L_frontier_0 : decode b_L_frontier 0 = .ok (.aload_n 2, 1) := by decide +kernel
theorem d_L_frontier_1 : decode b_L_frontier 1 = .ok (.iconst 0, 1) := by decide +kernel
theorem d_L_frontier_2 : decode b_L_frontier 2 = .ok (.aload_n 0, 1) := by decide +kernel
theorem d_L_frontier_3 : decode b_L_frontier 3 = .ok (.iload_n 1, 1) := by decide +kernel
theorem d_L_frontier_4 : decode b_L_frontier 4 = .ok (.invokevirtual 39, 3) := by decide +kernel
theorem d_L_frontier_7 : decode b_L_frontier 7 = .ok (.lastore, 1) := by decide +kernel
theorem d_L_frontier_8 : decode b_L_frontier 8 = .ok (.goto 6, 3) := by decide +kernel
theorem d_L_frontier_11 : decode b_L_frontier 11 = .ok (.astore_n 3, 1) := by decide +kernel
theorem d_L_frontier_12 : decode b_L_frontier 12 = .ok (.iconst 1, 1) := by decide +kernel
theorem d_L_frontier_13 : decode b_L_frontier 13 = .ok (.ireturn, 1) := by decide +kernel
theorem d_L_frontier_14 : decode b_L_frontier 14 = .ok (.iconst 0, 1) := by decide +kernel
theorem d_L_frontier_15 : decode b_L_frontier 15 = .ok (.ireturn, 1) := by decide +kernel
theorem d_L_controls_0 : decode b_L_controls 0 = .ok (.aload_n 2, 1) := by decide +kernel
theorem d_L_controls_1 : decode b_L_controls 1 = .ok (.iconst 0, 1) := by decide +kernel
theorem d_L_controls_2 : decode b_L_controls 2 = .ok (.aload_n 0, 1) := by decide +kernel
theorem d_L_controls_3 : decode b_L_controls 3 = .ok (.iload_n 1, 1) := by decide +kernel
theorem d_L_controls_4 : decode b_L_controls 4 = .ok (.invokevirtual 43, 3) := by decide +kernel
theorem d_L_controls_7 : decode b_L_controls 7 = .ok (.lastore, 1) := by decide +kernel
theorem d_L_controls_8 : decode b_L_controls 8 = .ok (.goto 6, 3) := by decide +kernel
theorem d_L_controls_11 : decode b_L_controls 11 = .ok (.astore_n 3, 1) := by decide +kernel
theorem d_L_controls_12 : decode b_L_controls 12 = .ok (.iconst 1, 1) := by decide +kernel
theorem d_L_controls_13 : decode b_L_controls 13 = .ok (.ireturn, 1) := by decide +kernel
theorem d_L_controls_14 : decode b_L_controls 14 = .ok (.iconst 0, 1) := by decide +kernel
theorem d_L_controls_15 : decode b_L_controls 15 = .ok (.ireturn, 1) := by decide +kernel
theorem d_L_isBack_0 : decode b_L_isBack 0 = .ok (.aload_n 3, 1) := by decide +kernel
theorem d_L_isBack_1 : decode b_L_isBack 1 = .ok (.iconst 0, 1) := by decide +kernel
theorem d_L_isBack_2 : decode b_L_isBack 2 = .ok (.aload_n 0, 1) := by decide +kernel
theorem d_L_isBack_3 : decode b_L_isBack 3 = .ok (.iload_n 1, 1) := by decide +kernel
theorem d_L_isBack_4 : decode b_L_isBack 4 = .ok (.iload_n 2, 1) := by decide +kernel
theorem d_L_isBack_5 : decode b_L_isBack 5 = .ok (.invokevirtual 46, 3) := by decide +kernel
theorem d_L_isBack_8 : decode b_L_isBack 8 = .ok (.ifCond .eq 7, 3) := by decide +kernel
theorem d_L_isBack_11 : decode b_L_isBack 11 = .ok (.lconst 1, 1) := by decide +kernel
theorem d_L_isBack_12 : decode b_L_isBack 12 = .ok (.goto 4, 3) := by decide +kernel
theorem d_L_isBack_15 : decode b_L_isBack 15 = .ok (.lconst 0, 1) := by decide +kernel
theorem d_L_isBack_16 : decode b_L_isBack 16 = .ok (.lastore, 1) := by decide +kernel
theorem d_L_isBack_17 : decode b_L_isBack 17 = .ok (.goto 7, 3) := by decide +kernel
theorem d_L_isBack_20 : decode b_L_isBack 20 = .ok (.astore 4, 2) := by decide +kernel
theorem d_L_isBack_22 : decode b_L_isBack 22 = .ok (.iconst 1, 1) := by decide +kernel
theorem d_L_isBack_23 : decode b_L_isBack 23 = .ok (.ireturn, 1) := by decide +kernel
theorem d_L_isBack_24 : decode b_L_isBack 24 = .ok (.iconst 0, 1) := by decide +kernel
theorem d_L_isBack_25 : decode b_L_isBack 25 = .ok (.ireturn, 1) := by decide +kernel
theorem d_L_loop_0 : decode b_L_loop 0 = .ok (.aload_n 2, 1) := by decide +kernel
theorem d_L_loop_1 : decode b_L_loop 1 = .ok (.iconst 0, 1) := by decide +kernel
theorem d_L_loop_2 : decode b_L_loop 2 = .ok (.aload_n 0, 1) := by decide +kernel
theorem d_L_loop_3 : decode b_L_loop 3 = .ok (.iload_n 1, 1) := by decide +kernel
theorem d_L_loop_4 : decode b_L_loop 4 = .ok (.invokevirtual 50, 3) := by decide +kernel
theorem d_L_loop_7 : decode b_L_loop 7 = .ok (.lastore, 1) := by decide +kernel
theorem d_L_loop_8 : decode b_L_loop 8 = .ok (.goto 6, 3) := by decide +kernel
theorem d_L_loop_11 : decode b_L_loop 11 = .ok (.astore_n 3, 1) := by decide +kernel
theorem d_L_loop_12 : decode b_L_loop 12 = .ok (.iconst 1, 1) := by decide +kernel
theorem d_L_loop_13 : decode b_L_loop 13 = .ok (.ireturn, 1) := by decide +kernel
theorem d_L_loop_14 : decode b_L_loop 14 = .ok (.iconst 0, 1) := by decide +kernel
theorem d_L_loop_15 : decode b_L_loop 15 = .ok (.ireturn, 1) := by decide +kernel
theorem d_L_depth_0 : decode b_L_depth 0 = .ok (.aload_n 2, 1) := by decide +kernel
theorem d_L_depth_1 : decode b_L_depth 1 = .ok (.iconst 0, 1) := by decide +kernel
theorem d_L_depth_2 : decode b_L_depth 2 = .ok (.aload_n 0, 1) := by decide +kernel
theorem d_L_depth_3 : decode b_L_depth 3 = .ok (.iload_n 1, 1) := by decide +kernel
theorem d_L_depth_4 : decode b_L_depth 4 = .ok (.invokevirtual 53, 3) := by decide +kernel
theorem d_L_depth_7 : decode b_L_depth 7 = .ok (.i2l, 1) := by decide +kernel
theorem d_L_depth_8 : decode b_L_depth 8 = .ok (.lastore, 1) := by decide +kernel
theorem d_L_depth_9 : decode b_L_depth 9 = .ok (.goto 6, 3) := by decide +kernel
theorem d_L_depth_12 : decode b_L_depth 12 = .ok (.astore_n 3, 1) := by decide +kernel
theorem d_L_depth_13 : decode b_L_depth 13 = .ok (.iconst 1, 1) := by decide +kernel
theorem d_L_depth_14 : decode b_L_depth 14 = .ok (.ireturn, 1) := by decide +kernel
theorem d_L_depth_15 : decode b_L_depth 15 = .ok (.iconst 0, 1) := by decide +kernel
theorem d_L_depth_16 : decode b_L_depth 16 = .ok (.ireturn, 1) := by decide +kernel
theorem d_L_header_0 : decode b_L_header 0 = .ok (.aload_n 3, 1) := by decide +kernel
theorem d_L_header_1 : decode b_L_header 1 = .ok (.iconst 0, 1) := by decide +kernel
theorem d_L_header_2 : decode b_L_header 2 = .ok (.aload_n 0, 1) := by decide +kernel
theorem d_L_header_3 : decode b_L_header 3 = .ok (.iload_n 1, 1) := by decide +kernel
theorem d_L_header_4 : decode b_L_header 4 = .ok (.iload_n 2, 1) := by decide +kernel
theorem d_L_header_5 : decode b_L_header 5 = .ok (.invokevirtual 56, 3) := by decide +kernel
theorem d_L_header_8 : decode b_L_header 8 = .ok (.i2l, 1) := by decide +kernel
theorem d_L_header_9 : decode b_L_header 9 = .ok (.lastore, 1) := by decide +kernel
theorem d_L_header_10 : decode b_L_header 10 = .ok (.goto 7, 3) := by decide +kernel
theorem d_L_header_13 : decode b_L_header 13 = .ok (.astore 4, 2) := by decide +kernel
theorem d_L_header_15 : decode b_L_header 15 = .ok (.iconst 1, 1) := by decide +kernel
theorem d_L_header_16 : decode b_L_header 16 = .ok (.ireturn, 1) := by decide +kernel
theorem d_L_header_17 : decode b_L_header 17 = .ok (.iconst 0, 1) := by decide +kernel
theorem d_L_header_18 : decode b_L_header 18 = .ok (.ireturn, 1) := by decide +kernel
theorem d_L_order_0 : decode b_L_order 0 = .ok (.aload_n 3, 1) := by decide +kernel
theorem d_L_order_1 : decode b_L_order 1 = .ok (.iconst 0, 1) := by decide +kernel
theorem d_L_order_2 : decode b_L_order 2 = .ok (.aload_n 0, 1) := by decide +kernel
theorem d_L_order_3 : decode b_L_order 3 = .ok (.iload_n 1, 1) := by decide +kernel
theorem d_L_order_4 : decode b_L_order 4 = .ok (.iload_n 2, 1) := by decide +kernel
theorem d_L_order_5 : decode b_L_order 5 = .ok (.invokevirtual 59, 3) := by decide +kernel
theorem d_L_order_8 : decode b_L_order 8 = .ok (.i2l, 1) := by decide +kernel
theorem d_L_order_9 : decode b_L_order 9 = .ok (.lastore, 1) := by decide +kernel
theorem d_L_order_10 : decode b_L_order 10 = .ok (.goto 7, 3) := by decide +kernel
theorem d_L_order_13 : decode b_L_order 13 = .ok (.astore 4, 2) := by decide +kernel
theorem d_L_order_15 : decode b_L_order 15 = .ok (.iconst 1, 1) := by decide +kernel
theorem d_L_order_16 : decode b_L_order 16 = .ok (.ireturn, 1) := by decide +kernel
theorem d_L_order_17 : decode b_L_order 17 = .ok (.iconst 0, 1) := by decide +kernel
theorem d_L_order_18 : decode b_L_order 18 = .ok (.ireturn, 1) := by decide +kernel
