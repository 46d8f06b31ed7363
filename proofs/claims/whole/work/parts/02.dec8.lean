theorem dX0_init_0 : decode cX0_init 0 = .ok (.aload_n 0, 1) := by decide +kernel
theorem dX0_init_1 : decode cX0_init 1 = .ok (.iload_n 1, 1) := by decide +kernel
theorem dX0_init_2 : decode cX0_init 2 = .ok (.iload_n 2, 1) := by decide +kernel
theorem dX0_init_3 : decode cX0_init 3 = .ok (.aload_n 3, 1) := by decide +kernel
theorem dX0_init_4 : decode cX0_init 4 = .ok (.invokespecial 1, 3) := by decide +kernel
theorem dX0_init_7 : decode cX0_init 7 = .ok (.return_, 1) := by decide +kernel
theorem dX0_rise_0 : decode cX0_rise 0 = .ok (.aload_n 0, 1) := by decide +kernel
theorem dX0_rise_1 : decode cX0_rise 1 = .ok (.getfield 7, 3) := by decide +kernel
theorem dX0_rise_4 : decode cX0_rise 4 = .ok (.iconst 3, 1) := by decide +kernel
theorem dX0_rise_5 : decode cX0_rise 5 = .ok (.invokevirtual 13, 3) := by decide +kernel
theorem dX0_rise_8 : decode cX0_rise 8 = .ok (.aload_n 0, 1) := by decide +kernel
theorem dX0_rise_9 : decode cX0_rise 9 = .ok (.iload_n 1, 1) := by decide +kernel
theorem dX0_rise_10 : decode cX0_rise 10 = .ok (.invokespecial 19, 3) := by decide +kernel
theorem dX0_rise_13 : decode cX0_rise 13 = .ok (.iconst 1, 1) := by decide +kernel
theorem dX0_rise_14 : decode cX0_rise 14 = .ok (.isub, 1) := by decide +kernel
theorem dX0_rise_15 : decode cX0_rise 15 = .ok (.ireturn, 1) := by decide +kernel
theorem dX0_brown_0 : decode cX0_brown 0 = .ok (.aload_n 0, 1) := by decide +kernel
theorem dX0_brown_1 : decode cX0_brown 1 = .ok (.getfield 7, 3) := by decide +kernel
theorem dX0_brown_4 : decode cX0_brown 4 = .ok (.bipush 22, 2) := by decide +kernel
theorem dX0_brown_6 : decode cX0_brown 6 = .ok (.invokevirtual 13, 3) := by decide +kernel
theorem dX0_brown_9 : decode cX0_brown 9 = .ok (.aload_n 0, 1) := by decide +kernel
theorem dX0_brown_10 : decode cX0_brown 10 = .ok (.iload_n 1, 1) := by decide +kernel
theorem dX0_brown_11 : decode cX0_brown 11 = .ok (.invokespecial 23, 3) := by decide +kernel
theorem dX0_brown_14 : decode cX0_brown 14 = .ok (.iconst 2, 1) := by decide +kernel
theorem dX0_brown_15 : decode cX0_brown 15 = .ok (.iadd, 1) := by decide +kernel
theorem dX0_brown_16 : decode cX0_brown 16 = .ok (.iconst 3, 1) := by decide +kernel
theorem dX0_brown_17 : decode cX0_brown 17 = .ok (.idiv, 1) := by decide +kernel
theorem dX0_brown_18 : decode cX0_brown 18 = .ok (.ireturn, 1) := by decide +kernel
theorem dX0_price_0 : decode cX0_price 0 = .ok (.aload_n 0, 1) := by decide +kernel
theorem dX0_price_1 : decode cX0_price 1 = .ok (.getfield 7, 3) := by decide +kernel
theorem dX0_price_4 : decode cX0_price 4 = .ok (.bipush 33, 2) := by decide +kernel
theorem dX0_price_6 : decode cX0_price 6 = .ok (.invokevirtual 13, 3) := by decide +kernel
theorem dX0_price_9 : decode cX0_price 9 = .ok (.aload_n 0, 1) := by decide +kernel
theorem dX0_price_10 : decode cX0_price 10 = .ok (.invokespecial 26, 3) := by decide +kernel
theorem dX0_price_13 : decode cX0_price 13 = .ok (.istore_n 1, 1) := by decide +kernel
theorem dX0_price_14 : decode cX0_price 14 = .ok (.iload_n 1, 1) := by decide +kernel
theorem dX0_price_15 : decode cX0_price 15 = .ok (.aload_n 0, 1) := by decide +kernel
theorem dX0_price_16 : decode cX0_price 16 = .ok (.invokevirtual 30, 3) := by decide +kernel
theorem dX0_price_19 : decode cX0_price 19 = .ok (.iadd, 1) := by decide +kernel
theorem dX0_price_20 : decode cX0_price 20 = .ok (.ireturn, 1) := by decide +kernel
theorem dX0_keeps_0 : decode cX0_keeps 0 = .ok (.aload_n 0, 1) := by decide +kernel
theorem dX0_keeps_1 : decode cX0_keeps 1 = .ok (.getfield 7, 3) := by decide +kernel
theorem dX0_keeps_4 : decode cX0_keeps 4 = .ok (.bipush 42, 2) := by decide +kernel
theorem dX0_keeps_6 : decode cX0_keeps 6 = .ok (.invokevirtual 13, 3) := by decide +kernel
theorem dX0_keeps_9 : decode cX0_keeps 9 = .ok (.aload_n 0, 1) := by decide +kernel
theorem dX0_keeps_10 : decode cX0_keeps 10 = .ok (.invokevirtual 33, 3) := by decide +kernel
theorem dX0_keeps_13 : decode cX0_keeps 13 = .ok (.bipush 50, 2) := by decide +kernel
theorem dX0_keeps_15 : decode cX0_keeps 15 = .ok (.idiv, 1) := by decide +kernel
theorem dX0_keeps_16 : decode cX0_keeps 16 = .ok (.iconst 2, 1) := by decide +kernel
theorem dX0_keeps_17 : decode cX0_keeps 17 = .ok (.iadd, 1) := by decide +kernel
theorem dX0_keeps_18 : decode cX0_keeps 18 = .ok (.ireturn, 1) := by decide +kernel
theorem dX1_init_0 : decode cX1_init 0 = .ok (.aload_n 0, 1) := by decide +kernel
theorem dX1_init_1 : decode cX1_init 1 = .ok (.iload_n 1, 1) := by decide +kernel
theorem dX1_init_2 : decode cX1_init 2 = .ok (.iload_n 2, 1) := by decide +kernel
theorem dX1_init_3 : decode cX1_init 3 = .ok (.aload_n 3, 1) := by decide +kernel
theorem dX1_init_4 : decode cX1_init 4 = .ok (.invokespecial 1, 3) := by decide +kernel
theorem dX1_init_7 : decode cX1_init 7 = .ok (.return_, 1) := by decide +kernel
theorem dX1_rise_0 : decode cX1_rise 0 = .ok (.aload_n 0, 1) := by decide +kernel
theorem dX1_rise_1 : decode cX1_rise 1 = .ok (.getfield 7, 3) := by decide +kernel
theorem dX1_rise_4 : decode cX1_rise 4 = .ok (.iconst 4, 1) := by decide +kernel
theorem dX1_rise_5 : decode cX1_rise 5 = .ok (.invokevirtual 13, 3) := by decide +kernel
theorem dX1_rise_8 : decode cX1_rise 8 = .ok (.aload_n 0, 1) := by decide +kernel
theorem dX1_rise_9 : decode cX1_rise 9 = .ok (.iload_n 1, 1) := by decide +kernel
theorem dX1_rise_10 : decode cX1_rise 10 = .ok (.invokespecial 19, 3) := by decide +kernel
theorem dX1_rise_13 : decode cX1_rise 13 = .ok (.iload_n 1, 1) := by decide +kernel
theorem dX1_rise_14 : decode cX1_rise 14 = .ok (.bipush 10, 2) := by decide +kernel
theorem dX1_rise_16 : decode cX1_rise 16 = .ok (.idiv, 1) := by decide +kernel
theorem dX1_rise_17 : decode cX1_rise 17 = .ok (.iadd, 1) := by decide +kernel
theorem dX1_rise_18 : decode cX1_rise 18 = .ok (.ireturn, 1) := by decide +kernel
theorem dX1_price_0 : decode cX1_price 0 = .ok (.aload_n 0, 1) := by decide +kernel
theorem dX1_price_1 : decode cX1_price 1 = .ok (.getfield 7, 3) := by decide +kernel
theorem dX1_price_4 : decode cX1_price 4 = .ok (.bipush 34, 2) := by decide +kernel
theorem dX1_price_6 : decode cX1_price 6 = .ok (.invokevirtual 13, 3) := by decide +kernel
theorem dX1_price_9 : decode cX1_price 9 = .ok (.iconst 2, 1) := by decide +kernel
theorem dX1_price_10 : decode cX1_price 10 = .ok (.aload_n 0, 1) := by decide +kernel
theorem dX1_price_11 : decode cX1_price 11 = .ok (.invokespecial 23, 3) := by decide +kernel
theorem dX1_price_14 : decode cX1_price 14 = .ok (.imul, 1) := by decide +kernel
theorem dX1_price_15 : decode cX1_price 15 = .ok (.ireturn, 1) := by decide +kernel
theorem dX1_glaze_0 : decode cX1_glaze 0 = .ok (.aload_n 0, 1) := by decide +kernel
theorem dX1_glaze_1 : decode cX1_glaze 1 = .ok (.getfield 7, 3) := by decide +kernel
theorem dX1_glaze_4 : decode cX1_glaze 4 = .ok (.bipush 52, 2) := by decide +kernel
theorem dX1_glaze_6 : decode cX1_glaze 6 = .ok (.invokevirtual 13, 3) := by decide +kernel
theorem dX1_glaze_9 : decode cX1_glaze 9 = .ok (.aload_n 0, 1) := by decide +kernel
theorem dX1_glaze_10 : decode cX1_glaze 10 = .ok (.sipush 200, 3) := by decide +kernel
theorem dX1_glaze_13 : decode cX1_glaze 13 = .ok (.invokevirtual 27, 3) := by decide +kernel
theorem dX1_glaze_16 : decode cX1_glaze 16 = .ok (.bipush 20, 2) := by decide +kernel
theorem dX1_glaze_18 : decode cX1_glaze 18 = .ok (.iadd, 1) := by decide +kernel
theorem dX1_glaze_19 : decode cX1_glaze 19 = .ok (.ireturn, 1) := by decide +kernel
theorem dX2_init_0 : decode cX2_init 0 = .ok (.aload_n 0, 1) := by decide +kernel
theorem dX2_init_1 : decode cX2_init 1 = .ok (.invokespecial 3, 3) := by decide +kernel
theorem dX2_init_4 : decode cX2_init 4 = .ok (.aload_n 0, 1) := by decide +kernel
theorem dX2_init_5 : decode cX2_init 5 = .ok (.iload_n 1, 1) := by decide +kernel
theorem dX2_init_6 : decode cX2_init 6 = .ok (.putfield 9, 3) := by decide +kernel
theorem dX2_init_9 : decode cX2_init 9 = .ok (.aload_n 0, 1) := by decide +kernel
theorem dX2_init_10 : decode cX2_init 10 = .ok (.iload_n 2, 1) := by decide +kernel
theorem dX2_init_11 : decode cX2_init 11 = .ok (.putfield 15, 3) := by decide +kernel
theorem dX2_init_14 : decode cX2_init 14 = .ok (.aload_n 0, 1) := by decide +kernel
theorem dX2_init_15 : decode cX2_init 15 = .ok (.aload_n 3, 1) := by decide +kernel
theorem dX2_init_16 : decode cX2_init 16 = .ok (.putfield 18, 3) := by decide +kernel
theorem dX2_init_19 : decode cX2_init 19 = .ok (.aload_n 0, 1) := by decide +kernel
theorem dX2_init_20 : decode cX2_init 20 = .ok (.iconst 0, 1) := by decide +kernel
theorem dX2_init_21 : decode cX2_init 21 = .ok (.putfield 22, 3) := by decide +kernel
theorem dX2_init_24 : decode cX2_init 24 = .ok (.return_, 1) := by decide +kernel
theorem dX2_rise_0 : decode cX2_rise 0 = .ok (.aload_n 0, 1) := by decide +kernel
theorem dX2_rise_1 : decode cX2_rise 1 = .ok (.getfield 18, 3) := by decide +kernel
theorem dX2_rise_4 : decode cX2_rise 4 = .ok (.iconst 1, 1) := by decide +kernel
theorem dX2_rise_5 : decode cX2_rise 5 = .ok (.invokevirtual 25, 3) := by decide +kernel
theorem dX2_rise_8 : decode cX2_rise 8 = .ok (.iload_n 1, 1) := by decide +kernel
theorem dX2_rise_9 : decode cX2_rise 9 = .ok (.iconst 4, 1) := by decide +kernel
theorem dX2_rise_10 : decode cX2_rise 10 = .ok (.idiv, 1) := by decide +kernel
theorem dX2_rise_11 : decode cX2_rise 11 = .ok (.ireturn, 1) := by decide +kernel
theorem dX2_need_0 : decode cX2_need 0 = .ok (.aload_n 0, 1) := by decide +kernel
theorem dX2_need_1 : decode cX2_need 1 = .ok (.getfield 18, 3) := by decide +kernel
theorem dX2_need_4 : decode cX2_need 4 = .ok (.bipush 11, 2) := by decide +kernel
theorem dX2_need_6 : decode cX2_need 6 = .ok (.invokevirtual 25, 3) := by decide +kernel
theorem dX2_need_9 : decode cX2_need 9 = .ok (.bipush 100, 2) := by decide +kernel
theorem dX2_need_11 : decode cX2_need 11 = .ok (.aload_n 0, 1) := by decide +kernel
theorem dX2_need_12 : decode cX2_need 12 = .ok (.getfield 15, 3) := by decide +kernel
theorem dX2_need_15 : decode cX2_need 15 = .ok (.bipush 10, 2) := by decide +kernel
theorem dX2_need_17 : decode cX2_need 17 = .ok (.idiv, 1) := by decide +kernel
theorem dX2_need_18 : decode cX2_need 18 = .ok (.iadd, 1) := by decide +kernel
theorem dX2_need_19 : decode cX2_need 19 = .ok (.ireturn, 1) := by decide +kernel
theorem dX2_brown_0 : decode cX2_brown 0 = .ok (.aload_n 0, 1) := by decide +kernel
theorem dX2_brown_1 : decode cX2_brown 1 = .ok (.getfield 18, 3) := by decide +kernel
theorem dX2_brown_4 : decode cX2_brown 4 = .ok (.bipush 21, 2) := by decide +kernel
theorem dX2_brown_6 : decode cX2_brown 6 = .ok (.invokevirtual 25, 3) := by decide +kernel
theorem dX2_brown_9 : decode cX2_brown 9 = .ok (.iload_n 1, 1) := by decide +kernel
theorem dX2_brown_10 : decode cX2_brown 10 = .ok (.bipush 50, 2) := by decide +kernel
theorem dX2_brown_12 : decode cX2_brown 12 = .ok (.idiv, 1) := by decide +kernel
theorem dX2_brown_13 : decode cX2_brown 13 = .ok (.ireturn, 1) := by decide +kernel
theorem dX2_price_0 : decode cX2_price 0 = .ok (.aload_n 0, 1) := by decide +kernel
theorem dX2_price_1 : decode cX2_price 1 = .ok (.getfield 18, 3) := by decide +kernel
theorem dX2_price_4 : decode cX2_price 4 = .ok (.bipush 31, 2) := by decide +kernel
theorem dX2_price_6 : decode cX2_price 6 = .ok (.invokevirtual 25, 3) := by decide +kernel
theorem dX2_price_9 : decode cX2_price 9 = .ok (.bipush 10, 2) := by decide +kernel
theorem dX2_price_11 : decode cX2_price 11 = .ok (.aload_n 0, 1) := by decide +kernel
theorem dX2_price_12 : decode cX2_price 12 = .ok (.getfield 15, 3) := by decide +kernel
theorem dX2_price_15 : decode cX2_price 15 = .ok (.iconst 5, 1) := by decide +kernel
theorem dX2_price_16 : decode cX2_price 16 = .ok (.idiv, 1) := by decide +kernel
theorem dX2_price_17 : decode cX2_price 17 = .ok (.iadd, 1) := by decide +kernel
theorem dX2_price_18 : decode cX2_price 18 = .ok (.ireturn, 1) := by decide +kernel
theorem dX2_riseFor_0 : decode cX2_riseFor 0 = .ok (.aload_n 0, 1) := by decide +kernel
theorem dX2_riseFor_1 : decode cX2_riseFor 1 = .ok (.iload_n 2, 1) := by decide +kernel
theorem dX2_riseFor_2 : decode cX2_riseFor 2 = .ok (.invokevirtual 31, 3) := by decide +kernel
theorem dX2_riseFor_5 : decode cX2_riseFor 5 = .ok (.istore_n 3, 1) := by decide +kernel
theorem dX2_riseFor_6 : decode cX2_riseFor 6 = .ok (.iconst 2, 1) := by decide +kernel
theorem dX2_riseFor_7 : decode cX2_riseFor 7 = .ok (.aload_n 0, 1) := by decide +kernel
theorem dX2_riseFor_8 : decode cX2_riseFor 8 = .ok (.invokevirtual 35, 3) := by decide +kernel
theorem dX2_riseFor_11 : decode cX2_riseFor 11 = .ok (.imul, 1) := by decide +kernel
theorem dX2_riseFor_12 : decode cX2_riseFor 12 = .ok (.istore 4, 2) := by decide +kernel
theorem dX2_riseFor_14 : decode cX2_riseFor 14 = .ok (.iconst 0, 1) := by decide +kernel
theorem dX2_riseFor_15 : decode cX2_riseFor 15 = .ok (.istore 5, 2) := by decide +kernel
theorem dX2_riseFor_17 : decode cX2_riseFor 17 = .ok (.iload 5, 2) := by decide +kernel
theorem dX2_riseFor_19 : decode cX2_riseFor 19 = .ok (.iload_n 1, 1) := by decide +kernel
theorem dX2_riseFor_20 : decode cX2_riseFor 20 = .ok (.if_icmp .ge 40, 3) := by decide +kernel
theorem dX2_riseFor_23 : decode cX2_riseFor 23 = .ok (.aload_n 0, 1) := by decide +kernel
theorem dX2_riseFor_24 : decode cX2_riseFor 24 = .ok (.getfield 22, 3) := by decide +kernel
theorem dX2_riseFor_27 : decode cX2_riseFor 27 = .ok (.ifCond .ne 33, 3) := by decide +kernel
theorem dX2_riseFor_30 : decode cX2_riseFor 30 = .ok (.aload_n 0, 1) := by decide +kernel
theorem dX2_riseFor_31 : decode cX2_riseFor 31 = .ok (.dup, 1) := by decide +kernel
theorem dX2_riseFor_32 : decode cX2_riseFor 32 = .ok (.getfield 39, 3) := by decide +kernel
theorem dX2_riseFor_35 : decode cX2_riseFor 35 = .ok (.iload_n 3, 1) := by decide +kernel
theorem dX2_riseFor_36 : decode cX2_riseFor 36 = .ok (.iadd, 1) := by decide +kernel
theorem dX2_riseFor_37 : decode cX2_riseFor 37 = .ok (.putfield 39, 3) := by decide +kernel
theorem dX2_riseFor_40 : decode cX2_riseFor 40 = .ok (.aload_n 0, 1) := by decide +kernel
theorem dX2_riseFor_41 : decode cX2_riseFor 41 = .ok (.getfield 39, 3) := by decide +kernel
theorem dX2_riseFor_44 : decode cX2_riseFor 44 = .ok (.iload 4, 2) := by decide +kernel
theorem dX2_riseFor_46 : decode cX2_riseFor 46 = .ok (.if_icmp .le 8, 3) := by decide +kernel
theorem dX2_riseFor_49 : decode cX2_riseFor 49 = .ok (.aload_n 0, 1) := by decide +kernel
theorem dX2_riseFor_50 : decode cX2_riseFor 50 = .ok (.iconst 4, 1) := by decide +kernel
theorem dX2_riseFor_51 : decode cX2_riseFor 51 = .ok (.putfield 22, 3) := by decide +kernel
theorem dX2_riseFor_54 : decode cX2_riseFor 54 = .ok (.iinc 5 1, 3) := by decide +kernel
theorem dX2_riseFor_57 : decode cX2_riseFor 57 = .ok (.goto (-40), 3) := by decide +kernel
theorem dX2_riseFor_60 : decode cX2_riseFor 60 = .ok (.return_, 1) := by decide +kernel
theorem dX2_brownFor_0 : decode cX2_brownFor 0 = .ok (.aload_n 0, 1) := by decide +kernel
theorem dX2_brownFor_1 : decode cX2_brownFor 1 = .ok (.iload_n 2, 1) := by decide +kernel
theorem dX2_brownFor_2 : decode cX2_brownFor 2 = .ok (.invokevirtual 42, 3) := by decide +kernel
theorem dX2_brownFor_5 : decode cX2_brownFor 5 = .ok (.istore_n 3, 1) := by decide +kernel
theorem dX2_brownFor_6 : decode cX2_brownFor 6 = .ok (.iconst 0, 1) := by decide +kernel
theorem dX2_brownFor_7 : decode cX2_brownFor 7 = .ok (.istore 4, 2) := by decide +kernel
theorem dX2_brownFor_9 : decode cX2_brownFor 9 = .ok (.iload 4, 2) := by decide +kernel
theorem dX2_brownFor_11 : decode cX2_brownFor 11 = .ok (.iload_n 1, 1) := by decide +kernel
theorem dX2_brownFor_12 : decode cX2_brownFor 12 = .ok (.if_icmp .ge 41, 3) := by decide +kernel
theorem dX2_brownFor_15 : decode cX2_brownFor 15 = .ok (.aload_n 0, 1) := by decide +kernel
theorem dX2_brownFor_16 : decode cX2_brownFor 16 = .ok (.getfield 22, 3) := by decide +kernel
theorem dX2_brownFor_19 : decode cX2_brownFor 19 = .ok (.iconst 1, 1) := by decide +kernel
theorem dX2_brownFor_20 : decode cX2_brownFor 20 = .ok (.if_icmp .ne 33, 3) := by decide +kernel
theorem dX2_brownFor_23 : decode cX2_brownFor 23 = .ok (.aload_n 0, 1) := by decide +kernel
theorem dX2_brownFor_24 : decode cX2_brownFor 24 = .ok (.dup, 1) := by decide +kernel
theorem dX2_brownFor_25 : decode cX2_brownFor 25 = .ok (.getfield 45, 3) := by decide +kernel
theorem dX2_brownFor_28 : decode cX2_brownFor 28 = .ok (.iload_n 3, 1) := by decide +kernel
theorem dX2_brownFor_29 : decode cX2_brownFor 29 = .ok (.iadd, 1) := by decide +kernel
theorem dX2_brownFor_30 : decode cX2_brownFor 30 = .ok (.putfield 45, 3) := by decide +kernel
theorem dX2_brownFor_33 : decode cX2_brownFor 33 = .ok (.aload_n 0, 1) := by decide +kernel
theorem dX2_brownFor_34 : decode cX2_brownFor 34 = .ok (.getfield 45, 3) := by decide +kernel
theorem dX2_brownFor_37 : decode cX2_brownFor 37 = .ok (.bipush 100, 2) := by decide +kernel
theorem dX2_brownFor_39 : decode cX2_brownFor 39 = .ok (.if_icmp .le 8, 3) := by decide +kernel
theorem dX2_brownFor_42 : decode cX2_brownFor 42 = .ok (.aload_n 0, 1) := by decide +kernel
theorem dX2_brownFor_43 : decode cX2_brownFor 43 = .ok (.iconst 4, 1) := by decide +kernel
theorem dX2_brownFor_44 : decode cX2_brownFor 44 = .ok (.putfield 22, 3) := by decide +kernel
theorem dX2_brownFor_47 : decode cX2_brownFor 47 = .ok (.iinc 4 1, 3) := by decide +kernel
theorem dX2_brownFor_50 : decode cX2_brownFor 50 = .ok (.goto (-41), 3) := by decide +kernel
theorem dX2_brownFor_53 : decode cX2_brownFor 53 = .ok (.return_, 1) := by decide +kernel
theorem dX3_init_0 : decode cX3_init 0 = .ok (.aload_n 0, 1) := by decide +kernel
theorem dX3_init_1 : decode cX3_init 1 = .ok (.iload_n 1, 1) := by decide +kernel
theorem dX3_init_2 : decode cX3_init 2 = .ok (.iload_n 2, 1) := by decide +kernel
theorem dX3_init_3 : decode cX3_init 3 = .ok (.aload_n 3, 1) := by decide +kernel
theorem dX3_init_4 : decode cX3_init 4 = .ok (.invokespecial 1, 3) := by decide +kernel
theorem dX3_init_7 : decode cX3_init 7 = .ok (.return_, 1) := by decide +kernel
theorem dX3_need_0 : decode cX3_need 0 = .ok (.aload_n 0, 1) := by decide +kernel
theorem dX3_need_1 : decode cX3_need 1 = .ok (.getfield 7, 3) := by decide +kernel
theorem dX3_need_4 : decode cX3_need 4 = .ok (.bipush 13, 2) := by decide +kernel
theorem dX3_need_6 : decode cX3_need 6 = .ok (.invokevirtual 13, 3) := by decide +kernel
theorem dX3_need_9 : decode cX3_need 9 = .ok (.aload_n 0, 1) := by decide +kernel
theorem dX3_need_10 : decode cX3_need 10 = .ok (.invokespecial 19, 3) := by decide +kernel
theorem dX3_need_13 : decode cX3_need 13 = .ok (.istore_n 1, 1) := by decide +kernel
theorem dX3_need_14 : decode cX3_need 14 = .ok (.iload_n 1, 1) := by decide +kernel
theorem dX3_need_15 : decode cX3_need 15 = .ok (.aload_n 0, 1) := by decide +kernel
theorem dX3_need_16 : decode cX3_need 16 = .ok (.bipush 20, 2) := by decide +kernel
theorem dX3_need_18 : decode cX3_need 18 = .ok (.invokevirtual 23, 3) := by decide +kernel
theorem dX3_need_21 : decode cX3_need 21 = .ok (.iadd, 1) := by decide +kernel
theorem dX3_need_22 : decode cX3_need 22 = .ok (.ireturn, 1) := by decide +kernel
theorem dX3_price_0 : decode cX3_price 0 = .ok (.aload_n 0, 1) := by decide +kernel
theorem dX3_price_1 : decode cX3_price 1 = .ok (.getfield 7, 3) := by decide +kernel
theorem dX3_price_4 : decode cX3_price 4 = .ok (.bipush 32, 2) := by decide +kernel
theorem dX3_price_6 : decode cX3_price 6 = .ok (.invokevirtual 13, 3) := by decide +kernel
theorem dX3_price_9 : decode cX3_price 9 = .ok (.aload_n 0, 1) := by decide +kernel
theorem dX3_price_10 : decode cX3_price 10 = .ok (.invokespecial 27, 3) := by decide +kernel
theorem dX3_price_13 : decode cX3_price 13 = .ok (.bipush 40, 2) := by decide +kernel
theorem dX3_price_15 : decode cX3_price 15 = .ok (.iadd, 1) := by decide +kernel
theorem dX3_price_16 : decode cX3_price 16 = .ok (.ireturn, 1) := by decide +kernel
theorem dX4_init_0 : decode cX4_init 0 = .ok (.aload_n 0, 1) := by decide +kernel
theorem dX4_init_1 : decode cX4_init 1 = .ok (.iload_n 1, 1) := by decide +kernel
theorem dX4_init_2 : decode cX4_init 2 = .ok (.iload_n 2, 1) := by decide +kernel
theorem dX4_init_3 : decode cX4_init 3 = .ok (.aload_n 3, 1) := by decide +kernel
theorem dX4_init_4 : decode cX4_init 4 = .ok (.invokespecial 1, 3) := by decide +kernel
theorem dX4_init_7 : decode cX4_init 7 = .ok (.return_, 1) := by decide +kernel
theorem dX4_rise_0 : decode cX4_rise 0 = .ok (.aload_n 0, 1) := by decide +kernel
theorem dX4_rise_1 : decode cX4_rise 1 = .ok (.getfield 7, 3) := by decide +kernel
theorem dX4_rise_4 : decode cX4_rise 4 = .ok (.iconst 2, 1) := by decide +kernel
theorem dX4_rise_5 : decode cX4_rise 5 = .ok (.invokevirtual 13, 3) := by decide +kernel
theorem dX4_rise_8 : decode cX4_rise 8 = .ok (.aload_n 0, 1) := by decide +kernel
theorem dX4_rise_9 : decode cX4_rise 9 = .ok (.iload_n 1, 1) := by decide +kernel
theorem dX4_rise_10 : decode cX4_rise 10 = .ok (.invokespecial 19, 3) := by decide +kernel
theorem dX4_rise_13 : decode cX4_rise 13 = .ok (.iconst 2, 1) := by decide +kernel
theorem dX4_rise_14 : decode cX4_rise 14 = .ok (.idiv, 1) := by decide +kernel
theorem dX4_rise_15 : decode cX4_rise 15 = .ok (.iconst 1, 1) := by decide +kernel
theorem dX4_rise_16 : decode cX4_rise 16 = .ok (.iadd, 1) := by decide +kernel
theorem dX4_rise_17 : decode cX4_rise 17 = .ok (.ireturn, 1) := by decide +kernel
theorem dX4_keeps_0 : decode cX4_keeps 0 = .ok (.aload_n 0, 1) := by decide +kernel
theorem dX4_keeps_1 : decode cX4_keeps 1 = .ok (.getfield 7, 3) := by decide +kernel
theorem dX4_keeps_4 : decode cX4_keeps 4 = .ok (.bipush 41, 2) := by decide +kernel
theorem dX4_keeps_6 : decode cX4_keeps 6 = .ok (.invokevirtual 13, 3) := by decide +kernel
theorem dX4_keeps_9 : decode cX4_keeps 9 = .ok (.iconst 1, 1) := by decide +kernel
theorem dX4_keeps_10 : decode cX4_keeps 10 = .ok (.aload_n 0, 1) := by decide +kernel
theorem dX4_keeps_11 : decode cX4_keeps 11 = .ok (.invokevirtual 23, 3) := by decide +kernel
theorem dX4_keeps_14 : decode cX4_keeps 14 = .ok (.bipush 100, 2) := by decide +kernel
theorem dX4_keeps_16 : decode cX4_keeps 16 = .ok (.idiv, 1) := by decide +kernel
theorem dX4_keeps_17 : decode cX4_keeps 17 = .ok (.iadd, 1) := by decide +kernel
theorem dX4_keeps_18 : decode cX4_keeps 18 = .ok (.ireturn, 1) := by decide +kernel
theorem dX5_init_0 : decode cX5_init 0 = .ok (.aload_n 0, 1) := by decide +kernel
theorem dX5_init_1 : decode cX5_init 1 = .ok (.iload_n 1, 1) := by decide +kernel
theorem dX5_init_2 : decode cX5_init 2 = .ok (.iload_n 2, 1) := by decide +kernel
theorem dX5_init_3 : decode cX5_init 3 = .ok (.aload_n 3, 1) := by decide +kernel
theorem dX5_init_4 : decode cX5_init 4 = .ok (.invokespecial 1, 3) := by decide +kernel
theorem dX5_init_7 : decode cX5_init 7 = .ok (.return_, 1) := by decide +kernel
theorem dX5_brown_0 : decode cX5_brown 0 = .ok (.aload_n 0, 1) := by decide +kernel
theorem dX5_brown_1 : decode cX5_brown 1 = .ok (.getfield 7, 3) := by decide +kernel
theorem dX5_brown_4 : decode cX5_brown 4 = .ok (.bipush 23, 2) := by decide +kernel
theorem dX5_brown_6 : decode cX5_brown 6 = .ok (.invokevirtual 13, 3) := by decide +kernel
theorem dX5_brown_9 : decode cX5_brown 9 = .ok (.aload_n 0, 1) := by decide +kernel
theorem dX5_brown_10 : decode cX5_brown 10 = .ok (.iload_n 1, 1) := by decide +kernel
theorem dX5_brown_11 : decode cX5_brown 11 = .ok (.invokespecial 19, 3) := by decide +kernel
theorem dX5_brown_14 : decode cX5_brown 14 = .ok (.iconst 1, 1) := by decide +kernel
theorem dX5_brown_15 : decode cX5_brown 15 = .ok (.iadd, 1) := by decide +kernel
theorem dX5_brown_16 : decode cX5_brown 16 = .ok (.ireturn, 1) := by decide +kernel
theorem dX5_glaze_0 : decode cX5_glaze 0 = .ok (.aload_n 0, 1) := by decide +kernel
theorem dX5_glaze_1 : decode cX5_glaze 1 = .ok (.getfield 7, 3) := by decide +kernel
theorem dX5_glaze_4 : decode cX5_glaze 4 = .ok (.bipush 51, 2) := by decide +kernel
theorem dX5_glaze_6 : decode cX5_glaze 6 = .ok (.invokevirtual 13, 3) := by decide +kernel
theorem dX5_glaze_9 : decode cX5_glaze 9 = .ok (.aload_n 0, 1) := by decide +kernel
theorem dX5_glaze_10 : decode cX5_glaze 10 = .ok (.invokevirtual 23, 3) := by decide +kernel
theorem dX5_glaze_13 : decode cX5_glaze 13 = .ok (.bipush 10, 2) := by decide +kernel
theorem dX5_glaze_15 : decode cX5_glaze 15 = .ok (.idiv, 1) := by decide +kernel
theorem dX5_glaze_16 : decode cX5_glaze 16 = .ok (.iconst 5, 1) := by decide +kernel
theorem dX5_glaze_17 : decode cX5_glaze 17 = .ok (.iadd, 1) := by decide +kernel
theorem dX5_glaze_18 : decode cX5_glaze 18 = .ok (.ireturn, 1) := by decide +kernel
theorem dX6_init_0 : decode cX6_init 0 = .ok (.aload_n 0, 1) := by decide +kernel
theorem dX6_init_1 : decode cX6_init 1 = .ok (.invokespecial 3, 3) := by decide +kernel
theorem dX6_init_4 : decode cX6_init 4 = .ok (.aload_n 0, 1) := by decide +kernel
theorem dX6_init_5 : decode cX6_init 5 = .ok (.bipush 10, 2) := by decide +kernel
theorem dX6_init_7 : decode cX6_init 7 = .ok (.newarray .int, 2) := by decide +kernel
theorem dX6_init_9 : decode cX6_init 9 = .ok (.putfield 11, 3) := by decide +kernel
theorem dX6_init_12 : decode cX6_init 12 = .ok (.return_, 1) := by decide +kernel
theorem dX6_start_0 : decode cX6_start 0 = .ok (.aload_n 0, 1) := by decide +kernel
theorem dX6_start_1 : decode cX6_start 1 = .ok (.iconst 0, 1) := by decide +kernel
theorem dX6_start_2 : decode cX6_start 2 = .ok (.putfield 15, 3) := by decide +kernel
theorem dX6_start_5 : decode cX6_start 5 = .ok (.aload_n 0, 1) := by decide +kernel
theorem dX6_start_6 : decode cX6_start 6 = .ok (.iconst 1, 1) := by decide +kernel
theorem dX6_start_7 : decode cX6_start 7 = .ok (.putfield 19, 3) := by decide +kernel
theorem dX6_start_10 : decode cX6_start 10 = .ok (.return_, 1) := by decide +kernel
theorem dX6_stop_0 : decode cX6_stop 0 = .ok (.aload_n 0, 1) := by decide +kernel
theorem dX6_stop_1 : decode cX6_stop 1 = .ok (.iconst 0, 1) := by decide +kernel
theorem dX6_stop_2 : decode cX6_stop 2 = .ok (.putfield 19, 3) := by decide +kernel
theorem dX6_stop_5 : decode cX6_stop 5 = .ok (.return_, 1) := by decide +kernel
theorem dX6_leave_0 : decode cX6_leave 0 = .ok (.aload_n 0, 1) := by decide +kernel
theorem dX6_leave_1 : decode cX6_leave 1 = .ok (.getfield 19, 3) := by decide +kernel
theorem dX6_leave_4 : decode cX6_leave 4 = .ok (.ifCond .eq 42, 3) := by decide +kernel
theorem dX6_leave_7 : decode cX6_leave 7 = .ok (.aload_n 0, 1) := by decide +kernel
theorem dX6_leave_8 : decode cX6_leave 8 = .ok (.getfield 15, 3) := by decide +kernel
theorem dX6_leave_11 : decode cX6_leave 11 = .ok (.ifCond .lt 35, 3) := by decide +kernel
theorem dX6_leave_14 : decode cX6_leave 14 = .ok (.aload_n 0, 1) := by decide +kernel
theorem dX6_leave_15 : decode cX6_leave 15 = .ok (.getfield 15, 3) := by decide +kernel
theorem dX6_leave_18 : decode cX6_leave 18 = .ok (.aload_n 0, 1) := by decide +kernel
theorem dX6_leave_19 : decode cX6_leave 19 = .ok (.getfield 11, 3) := by decide +kernel
theorem dX6_leave_22 : decode cX6_leave 22 = .ok (.arraylength, 1) := by decide +kernel
theorem dX6_leave_23 : decode cX6_leave 23 = .ok (.if_icmp .ge 23, 3) := by decide +kernel
theorem dX6_leave_26 : decode cX6_leave 26 = .ok (.aload_n 0, 1) := by decide +kernel
theorem dX6_leave_27 : decode cX6_leave 27 = .ok (.getfield 11, 3) := by decide +kernel
theorem dX6_leave_30 : decode cX6_leave 30 = .ok (.aload_n 0, 1) := by decide +kernel
theorem dX6_leave_31 : decode cX6_leave 31 = .ok (.getfield 15, 3) := by decide +kernel
theorem dX6_leave_34 : decode cX6_leave 34 = .ok (.iload_n 1, 1) := by decide +kernel
theorem dX6_leave_35 : decode cX6_leave 35 = .ok (.iastore, 1) := by decide +kernel
theorem dX6_leave_36 : decode cX6_leave 36 = .ok (.aload_n 0, 1) := by decide +kernel
theorem dX6_leave_37 : decode cX6_leave 37 = .ok (.dup, 1) := by decide +kernel
theorem dX6_leave_38 : decode cX6_leave 38 = .ok (.getfield 15, 3) := by decide +kernel
theorem dX6_leave_41 : decode cX6_leave 41 = .ok (.iconst 1, 1) := by decide +kernel
theorem dX6_leave_42 : decode cX6_leave 42 = .ok (.iadd, 1) := by decide +kernel
theorem dX6_leave_43 : decode cX6_leave 43 = .ok (.putfield 15, 3) := by decide +kernel
theorem dX6_leave_46 : decode cX6_leave 46 = .ok (.return_, 1) := by decide +kernel
theorem dX6_at_0 : decode cX6_at 0 = .ok (.iload_n 1, 1) := by decide +kernel
theorem dX6_at_1 : decode cX6_at 1 = .ok (.ifCond .lt 29, 3) := by decide +kernel
theorem dX6_at_4 : decode cX6_at 4 = .ok (.iload_n 1, 1) := by decide +kernel
theorem dX6_at_5 : decode cX6_at 5 = .ok (.aload_n 0, 1) := by decide +kernel
theorem dX6_at_6 : decode cX6_at 6 = .ok (.getfield 15, 3) := by decide +kernel
theorem dX6_at_9 : decode cX6_at 9 = .ok (.if_icmp .ge 21, 3) := by decide +kernel
theorem dX6_at_12 : decode cX6_at 12 = .ok (.iload_n 1, 1) := by decide +kernel
theorem dX6_at_13 : decode cX6_at 13 = .ok (.aload_n 0, 1) := by decide +kernel
theorem dX6_at_14 : decode cX6_at 14 = .ok (.getfield 11, 3) := by decide +kernel
theorem dX6_at_17 : decode cX6_at 17 = .ok (.arraylength, 1) := by decide +kernel
theorem dX6_at_18 : decode cX6_at 18 = .ok (.if_icmp .ge 12, 3) := by decide +kernel
theorem dX6_at_21 : decode cX6_at 21 = .ok (.aload_n 0, 1) := by decide +kernel
theorem dX6_at_22 : decode cX6_at 22 = .ok (.getfield 11, 3) := by decide +kernel
theorem dX6_at_25 : decode cX6_at 25 = .ok (.iload_n 1, 1) := by decide +kernel
theorem dX6_at_26 : decode cX6_at 26 = .ok (.iaload, 1) := by decide +kernel
theorem dX6_at_27 : decode cX6_at 27 = .ok (.goto 4, 3) := by decide +kernel
theorem dX6_at_30 : decode cX6_at 30 = .ok (.iconst (-1), 1) := by decide +kernel
theorem dX6_at_31 : decode cX6_at 31 = .ok (.ireturn, 1) := by decide +kernel
theorem dX7_init_0 : decode cX7_init 0 = .ok (.aload_n 0, 1) := by decide +kernel
theorem dX7_init_1 : decode cX7_init 1 = .ok (.iload_n 1, 1) := by decide +kernel
theorem dX7_init_2 : decode cX7_init 2 = .ok (.iload_n 2, 1) := by decide +kernel
theorem dX7_init_3 : decode cX7_init 3 = .ok (.aload_n 3, 1) := by decide +kernel
theorem dX7_init_4 : decode cX7_init 4 = .ok (.invokespecial 1, 3) := by decide +kernel
theorem dX7_init_7 : decode cX7_init 7 = .ok (.return_, 1) := by decide +kernel
theorem dX7_need_0 : decode cX7_need 0 = .ok (.aload_n 0, 1) := by decide +kernel
theorem dX7_need_1 : decode cX7_need 1 = .ok (.getfield 7, 3) := by decide +kernel
theorem dX7_need_4 : decode cX7_need 4 = .ok (.bipush 12, 2) := by decide +kernel
theorem dX7_need_6 : decode cX7_need 6 = .ok (.invokevirtual 13, 3) := by decide +kernel
theorem dX7_need_9 : decode cX7_need 9 = .ok (.aload_n 0, 1) := by decide +kernel
theorem dX7_need_10 : decode cX7_need 10 = .ok (.invokespecial 19, 3) := by decide +kernel
theorem dX7_need_13 : decode cX7_need 13 = .ok (.bipush 50, 2) := by decide +kernel
theorem dX7_need_15 : decode cX7_need 15 = .ok (.iadd, 1) := by decide +kernel
theorem dX7_need_16 : decode cX7_need 16 = .ok (.ireturn, 1) := by decide +kernel
theorem dX8_init_0 : decode cX8_init 0 = .ok (.aload_n 0, 1) := by decide +kernel
theorem dX8_init_1 : decode cX8_init 1 = .ok (.invokespecial 1, 3) := by decide +kernel
theorem dX8_init_4 : decode cX8_init 4 = .ok (.aload_n 0, 1) := by decide +kernel
theorem dX8_init_5 : decode cX8_init 5 = .ok (.bipush 40, 2) := by decide +kernel
theorem dX8_init_7 : decode cX8_init 7 = .ok (.anewarray 9, 3) := by decide +kernel
theorem dX8_init_10 : decode cX8_init 10 = .ok (.putfield 11, 3) := by decide +kernel
theorem dX8_init_13 : decode cX8_init 13 = .ok (.aload_n 0, 1) := by decide +kernel
theorem dX8_init_14 : decode cX8_init 14 = .ok (.iconst 3, 1) := by decide +kernel
theorem dX8_init_15 : decode cX8_init 15 = .ok (.newarray .int, 2) := by decide +kernel
theorem dX8_init_17 : decode cX8_init 17 = .ok (.putfield 15, 3) := by decide +kernel
theorem dX8_init_20 : decode cX8_init 20 = .ok (.aload_n 0, 1) := by decide +kernel
theorem dX8_init_21 : decode cX8_init 21 = .ok (.new 19, 3) := by decide +kernel
theorem dX8_init_24 : decode cX8_init 24 = .ok (.dup, 1) := by decide +kernel
theorem dX8_init_25 : decode cX8_init 25 = .ok (.invokespecial 21, 3) := by decide +kernel
theorem dX8_init_28 : decode cX8_init 28 = .ok (.putfield 22, 3) := by decide +kernel
theorem dX8_init_31 : decode cX8_init 31 = .ok (.aload_n 0, 1) := by decide +kernel
theorem dX8_init_32 : decode cX8_init 32 = .ok (.bipush 20, 2) := by decide +kernel
theorem dX8_init_34 : decode cX8_init 34 = .ok (.putfield 26, 3) := by decide +kernel
theorem dX8_init_37 : decode cX8_init 37 = .ok (.return_, 1) := by decide +kernel
theorem dX8_batch_0 : decode cX8_batch 0 = .ok (.iload_n 1, 1) := by decide +kernel
theorem dX8_batch_1 : decode cX8_batch 1 = .ok (.iconst 0, 1) := by decide +kernel
theorem dX8_batch_2 : decode cX8_batch 2 = .ok (.bipush 6, 2) := by decide +kernel
theorem dX8_batch_4 : decode cX8_batch 4 = .ok (.invokestatic 30, 3) := by decide +kernel
theorem dX8_batch_7 : decode cX8_batch 7 = .ok (.ifCond .eq 14, 3) := by decide +kernel
theorem dX8_batch_10 : decode cX8_batch 10 = .ok (.iload_n 2, 1) := by decide +kernel
theorem dX8_batch_11 : decode cX8_batch 11 = .ok (.iconst 1, 1) := by decide +kernel
theorem dX8_batch_12 : decode cX8_batch 12 = .ok (.sipush 500, 3) := by decide +kernel
theorem dX8_batch_15 : decode cX8_batch 15 = .ok (.invokestatic 30, 3) := by decide +kernel
theorem dX8_batch_18 : decode cX8_batch 18 = .ok (.ifCond .ne 6, 3) := by decide +kernel
theorem dX8_batch_21 : decode cX8_batch 21 = .ok (.bipush (-2), 2) := by decide +kernel
theorem dX8_batch_23 : decode cX8_batch 23 = .ok (.ireturn, 1) := by decide +kernel
theorem dX8_batch_24 : decode cX8_batch 24 = .ok (.aload_n 0, 1) := by decide +kernel
theorem dX8_batch_25 : decode cX8_batch 25 = .ok (.getfield 34, 3) := by decide +kernel
theorem dX8_batch_28 : decode cX8_batch 28 = .ok (.ifCond .lt 15, 3) := by decide +kernel
theorem dX8_batch_31 : decode cX8_batch 31 = .ok (.aload_n 0, 1) := by decide +kernel
theorem dX8_batch_32 : decode cX8_batch 32 = .ok (.getfield 34, 3) := by decide +kernel
theorem dX8_batch_35 : decode cX8_batch 35 = .ok (.aload_n 0, 1) := by decide +kernel
theorem dX8_batch_36 : decode cX8_batch 36 = .ok (.getfield 11, 3) := by decide +kernel
theorem dX8_batch_39 : decode cX8_batch 39 = .ok (.arraylength, 1) := by decide +kernel
theorem dX8_batch_40 : decode cX8_batch 40 = .ok (.if_icmp .lt 6, 3) := by decide +kernel
theorem dX8_batch_43 : decode cX8_batch 43 = .ok (.bipush (-4), 2) := by decide +kernel
theorem dX8_batch_45 : decode cX8_batch 45 = .ok (.ireturn, 1) := by decide +kernel
theorem dX8_batch_46 : decode cX8_batch 46 = .ok (.aload_n 0, 1) := by decide +kernel
theorem dX8_batch_47 : decode cX8_batch 47 = .ok (.getfield 11, 3) := by decide +kernel
theorem dX8_batch_50 : decode cX8_batch 50 = .ok (.aload_n 0, 1) := by decide +kernel
theorem dX8_batch_51 : decode cX8_batch 51 = .ok (.getfield 34, 3) := by decide +kernel
theorem dX8_batch_54 : decode cX8_batch 54 = .ok (.aload_n 0, 1) := by decide +kernel
theorem dX8_batch_55 : decode cX8_batch 55 = .ok (.iload_n 1, 1) := by decide +kernel
theorem dX8_batch_56 : decode cX8_batch 56 = .ok (.iload_n 2, 1) := by decide +kernel
theorem dX8_batch_57 : decode cX8_batch 57 = .ok (.invokevirtual 37, 3) := by decide +kernel
theorem dX8_batch_60 : decode cX8_batch 60 = .ok (.aastore, 1) := by decide +kernel
theorem dX8_batch_61 : decode cX8_batch 61 = .ok (.aload_n 0, 1) := by decide +kernel
theorem dX8_batch_62 : decode cX8_batch 62 = .ok (.dup, 1) := by decide +kernel
theorem dX8_batch_63 : decode cX8_batch 63 = .ok (.getfield 34, 3) := by decide +kernel
theorem dX8_batch_66 : decode cX8_batch 66 = .ok (.iconst 1, 1) := by decide +kernel
theorem dX8_batch_67 : decode cX8_batch 67 = .ok (.iadd, 1) := by decide +kernel
theorem dX8_batch_68 : decode cX8_batch 68 = .ok (.putfield 34, 3) := by decide +kernel
theorem dX8_batch_71 : decode cX8_batch 71 = .ok (.aload_n 0, 1) := by decide +kernel
theorem dX8_batch_72 : decode cX8_batch 72 = .ok (.getfield 34, 3) := by decide +kernel
theorem dX8_batch_75 : decode cX8_batch 75 = .ok (.iconst 1, 1) := by decide +kernel
theorem dX8_batch_76 : decode cX8_batch 76 = .ok (.isub, 1) := by decide +kernel
theorem dX8_batch_77 : decode cX8_batch 77 = .ok (.ireturn, 1) := by decide +kernel
theorem dX8_ask_0 : decode cX8_ask 0 = .ok (.aload_n 0, 1) := by decide +kernel
theorem dX8_ask_1 : decode cX8_ask 1 = .ok (.iload_n 1, 1) := by decide +kernel
theorem dX8_ask_2 : decode cX8_ask 2 = .ok (.invokevirtual 41, 3) := by decide +kernel
theorem dX8_ask_5 : decode cX8_ask 5 = .ok (.astore 4, 2) := by decide +kernel
theorem dX8_ask_7 : decode cX8_ask 7 = .ok (.aload 4, 2) := by decide +kernel
theorem dX8_ask_9 : decode cX8_ask 9 = .ok (.ifnull 11, 3) := by decide +kernel
theorem dX8_ask_12 : decode cX8_ask 12 = .ok (.iload_n 2, 1) := by decide +kernel
theorem dX8_ask_13 : decode cX8_ask 13 = .ok (.iload_n 3, 1) := by decide +kernel
theorem dX8_ask_14 : decode cX8_ask 14 = .ok (.invokestatic 45, 3) := by decide +kernel
theorem dX8_ask_17 : decode cX8_ask 17 = .ok (.ifCond .ne 6, 3) := by decide +kernel
theorem dX8_ask_20 : decode cX8_ask 20 = .ok (.bipush (-2), 2) := by decide +kernel
theorem dX8_ask_22 : decode cX8_ask 22 = .ok (.ireturn, 1) := by decide +kernel
theorem dX8_ask_23 : decode cX8_ask 23 = .ok (.bipush (-3), 2) := by decide +kernel
theorem dX8_ask_25 : decode cX8_ask 25 = .ok (.istore 5, 2) := by decide +kernel
theorem dX8_ask_27 : decode cX8_ask 27 = .ok (.aload_n 0, 1) := by decide +kernel
theorem dX8_ask_28 : decode cX8_ask 28 = .ok (.getfield 22, 3) := by decide +kernel
theorem dX8_ask_31 : decode cX8_ask 31 = .ok (.invokevirtual 49, 3) := by decide +kernel
theorem dX8_ask_34 : decode cX8_ask 34 = .ok (.iload_n 2, 1) := by decide +kernel
theorem dX8_ask_35 : decode cX8_ask 35 = .ok (.tableswitch 100 0 4 #[33, 44, 54, 65, 75], 33) := by decide +kernel
theorem dX8_ask_68 : decode cX8_ask 68 = .ok (.aload 4, 2) := by decide +kernel
theorem dX8_ask_70 : decode cX8_ask 70 = .ok (.iload_n 3, 1) := by decide +kernel
theorem dX8_ask_71 : decode cX8_ask 71 = .ok (.invokevirtual 52, 3) := by decide +kernel
theorem dX8_ask_74 : decode cX8_ask 74 = .ok (.istore 5, 2) := by decide +kernel
theorem dX8_ask_76 : decode cX8_ask 76 = .ok (.goto 81, 3) := by decide +kernel
theorem dX8_ask_79 : decode cX8_ask 79 = .ok (.aload 4, 2) := by decide +kernel
theorem dX8_ask_81 : decode cX8_ask 81 = .ok (.invokevirtual 56, 3) := by decide +kernel
theorem dX8_ask_84 : decode cX8_ask 84 = .ok (.istore 5, 2) := by decide +kernel
theorem dX8_ask_86 : decode cX8_ask 86 = .ok (.goto 71, 3) := by decide +kernel
theorem dX8_ask_89 : decode cX8_ask 89 = .ok (.aload 4, 2) := by decide +kernel
theorem dX8_ask_91 : decode cX8_ask 91 = .ok (.iload_n 3, 1) := by decide +kernel
theorem dX8_ask_92 : decode cX8_ask 92 = .ok (.invokevirtual 60, 3) := by decide +kernel
theorem dX8_ask_95 : decode cX8_ask 95 = .ok (.istore 5, 2) := by decide +kernel
theorem dX8_ask_97 : decode cX8_ask 97 = .ok (.goto 60, 3) := by decide +kernel
theorem dX8_ask_100 : decode cX8_ask 100 = .ok (.aload 4, 2) := by decide +kernel
theorem dX8_ask_102 : decode cX8_ask 102 = .ok (.invokevirtual 63, 3) := by decide +kernel
theorem dX8_ask_105 : decode cX8_ask 105 = .ok (.istore 5, 2) := by decide +kernel
theorem dX8_ask_107 : decode cX8_ask 107 = .ok (.goto 50, 3) := by decide +kernel
theorem dX8_ask_110 : decode cX8_ask 110 = .ok (.aload 4, 2) := by decide +kernel
theorem dX8_ask_112 : decode cX8_ask 112 = .ok (.instanceof 66, 3) := by decide +kernel
theorem dX8_ask_115 : decode cX8_ask 115 = .ok (.ifCond .eq 17, 3) := by decide +kernel
theorem dX8_ask_118 : decode cX8_ask 118 = .ok (.aload 4, 2) := by decide +kernel
theorem dX8_ask_120 : decode cX8_ask 120 = .ok (.checkcast 66, 3) := by decide +kernel
theorem dX8_ask_123 : decode cX8_ask 123 = .ok (.astore 6, 2) := by decide +kernel
theorem dX8_ask_125 : decode cX8_ask 125 = .ok (.aload 6, 2) := by decide +kernel
theorem dX8_ask_127 : decode cX8_ask 127 = .ok (.invokevirtual 68, 3) := by decide +kernel
theorem dX8_ask_130 : decode cX8_ask 130 = .ok (.istore 5, 2) := by decide +kernel
theorem dX8_ask_132 : decode cX8_ask 132 = .ok (.goto 25, 3) := by decide +kernel
theorem dX8_ask_135 : decode cX8_ask 135 = .ok (.aload 4, 2) := by decide +kernel
theorem dX8_ask_137 : decode cX8_ask 137 = .ok (.instanceof 71, 3) := by decide +kernel
theorem dX8_ask_140 : decode cX8_ask 140 = .ok (.ifCond .eq 17, 3) := by decide +kernel
theorem dX8_ask_143 : decode cX8_ask 143 = .ok (.aload 4, 2) := by decide +kernel
theorem dX8_ask_145 : decode cX8_ask 145 = .ok (.checkcast 71, 3) := by decide +kernel
theorem dX8_ask_148 : decode cX8_ask 148 = .ok (.astore 6, 2) := by decide +kernel
theorem dX8_ask_150 : decode cX8_ask 150 = .ok (.aload 6, 2) := by decide +kernel
theorem dX8_ask_152 : decode cX8_ask 152 = .ok (.invokevirtual 73, 3) := by decide +kernel
theorem dX8_ask_155 : decode cX8_ask 155 = .ok (.istore 5, 2) := by decide +kernel
theorem dX8_ask_157 : decode cX8_ask 157 = .ok (.aload_n 0, 1) := by decide +kernel
theorem dX8_ask_158 : decode cX8_ask 158 = .ok (.getfield 22, 3) := by decide +kernel
theorem dX8_ask_161 : decode cX8_ask 161 = .ok (.invokevirtual 76, 3) := by decide +kernel
theorem dX8_ask_164 : decode cX8_ask 164 = .ok (.iload 5, 2) := by decide +kernel
theorem dX8_ask_166 : decode cX8_ask 166 = .ok (.ireturn, 1) := by decide +kernel
theorem dX8_trace_0 : decode cX8_trace 0 = .ok (.aload_n 0, 1) := by decide +kernel
theorem dX8_trace_1 : decode cX8_trace 1 = .ok (.getfield 22, 3) := by decide +kernel
theorem dX8_trace_4 : decode cX8_trace 4 = .ok (.iload_n 1, 1) := by decide +kernel
theorem dX8_trace_5 : decode cX8_trace 5 = .ok (.invokevirtual 79, 3) := by decide +kernel
theorem dX8_trace_8 : decode cX8_trace 8 = .ok (.ireturn, 1) := by decide +kernel
theorem dX8_room_0 : decode cX8_room 0 = .ok (.iload_n 1, 1) := by decide +kernel
theorem dX8_room_1 : decode cX8_room 1 = .ok (.iconst 0, 1) := by decide +kernel
theorem dX8_room_2 : decode cX8_room 2 = .ok (.bipush 60, 2) := by decide +kernel
theorem dX8_room_4 : decode cX8_room 4 = .ok (.invokestatic 30, 3) := by decide +kernel
theorem dX8_room_7 : decode cX8_room 7 = .ok (.ifCond .ne 6, 3) := by decide +kernel
theorem dX8_room_10 : decode cX8_room 10 = .ok (.bipush (-2), 2) := by decide +kernel
theorem dX8_room_12 : decode cX8_room 12 = .ok (.ireturn, 1) := by decide +kernel
theorem dX8_room_13 : decode cX8_room 13 = .ok (.aload_n 0, 1) := by decide +kernel
theorem dX8_room_14 : decode cX8_room 14 = .ok (.getfield 26, 3) := by decide +kernel
theorem dX8_room_17 : decode cX8_room 17 = .ok (.istore_n 2, 1) := by decide +kernel
theorem dX8_room_18 : decode cX8_room 18 = .ok (.aload_n 0, 1) := by decide +kernel
theorem dX8_room_19 : decode cX8_room 19 = .ok (.iload_n 1, 1) := by decide +kernel
theorem dX8_room_20 : decode cX8_room 20 = .ok (.putfield 26, 3) := by decide +kernel
theorem dX8_room_23 : decode cX8_room 23 = .ok (.iload_n 2, 1) := by decide +kernel
theorem dX8_room_24 : decode cX8_room 24 = .ok (.ireturn, 1) := by decide +kernel
theorem dX8_heat_0 : decode cX8_heat 0 = .ok (.aload_n 0, 1) := by decide +kernel
theorem dX8_heat_1 : decode cX8_heat 1 = .ok (.iload_n 1, 1) := by decide +kernel
theorem dX8_heat_2 : decode cX8_heat 2 = .ok (.invokevirtual 82, 3) := by decide +kernel
theorem dX8_heat_5 : decode cX8_heat 5 = .ok (.ifCond .eq 14, 3) := by decide +kernel
theorem dX8_heat_8 : decode cX8_heat 8 = .ok (.iload_n 2, 1) := by decide +kernel
theorem dX8_heat_9 : decode cX8_heat 9 = .ok (.iconst 0, 1) := by decide +kernel
theorem dX8_heat_10 : decode cX8_heat 10 = .ok (.sipush 400, 3) := by decide +kernel
theorem dX8_heat_13 : decode cX8_heat 13 = .ok (.invokestatic 30, 3) := by decide +kernel
theorem dX8_heat_16 : decode cX8_heat 16 = .ok (.ifCond .ne 6, 3) := by decide +kernel
theorem dX8_heat_19 : decode cX8_heat 19 = .ok (.bipush (-2), 2) := by decide +kernel
theorem dX8_heat_21 : decode cX8_heat 21 = .ok (.ireturn, 1) := by decide +kernel
theorem dX8_heat_22 : decode cX8_heat 22 = .ok (.aload_n 0, 1) := by decide +kernel
theorem dX8_heat_23 : decode cX8_heat 23 = .ok (.getfield 15, 3) := by decide +kernel
theorem dX8_heat_26 : decode cX8_heat 26 = .ok (.iload_n 1, 1) := by decide +kernel
theorem dX8_heat_27 : decode cX8_heat 27 = .ok (.iaload, 1) := by decide +kernel
theorem dX8_heat_28 : decode cX8_heat 28 = .ok (.istore_n 3, 1) := by decide +kernel
theorem dX8_heat_29 : decode cX8_heat 29 = .ok (.aload_n 0, 1) := by decide +kernel
theorem dX8_heat_30 : decode cX8_heat 30 = .ok (.getfield 15, 3) := by decide +kernel
theorem dX8_heat_33 : decode cX8_heat 33 = .ok (.iload_n 1, 1) := by decide +kernel
theorem dX8_heat_34 : decode cX8_heat 34 = .ok (.iload_n 2, 1) := by decide +kernel
theorem dX8_heat_35 : decode cX8_heat 35 = .ok (.iastore, 1) := by decide +kernel
theorem dX8_heat_36 : decode cX8_heat 36 = .ok (.iload_n 3, 1) := by decide +kernel
theorem dX8_heat_37 : decode cX8_heat 37 = .ok (.ireturn, 1) := by decide +kernel
theorem dX8_minutes_0 : decode cX8_minutes 0 = .ok (.iload_n 1, 1) := by decide +kernel
theorem dX8_minutes_1 : decode cX8_minutes 1 = .ok (.iconst 1, 1) := by decide +kernel
theorem dX8_minutes_2 : decode cX8_minutes 2 = .ok (.sipush 200, 3) := by decide +kernel
theorem dX8_minutes_5 : decode cX8_minutes 5 = .ok (.invokestatic 30, 3) := by decide +kernel
theorem dX8_minutes_8 : decode cX8_minutes 8 = .ok (.ifCond .ne 6, 3) := by decide +kernel
theorem dX8_minutes_11 : decode cX8_minutes 11 = .ok (.bipush (-2), 2) := by decide +kernel
theorem dX8_minutes_13 : decode cX8_minutes 13 = .ok (.ireturn, 1) := by decide +kernel
theorem dX8_minutes_14 : decode cX8_minutes 14 = .ok (.aload_n 0, 1) := by decide +kernel
theorem dX8_minutes_15 : decode cX8_minutes 15 = .ok (.iconst 4, 1) := by decide +kernel
theorem dX8_minutes_16 : decode cX8_minutes 16 = .ok (.invokevirtual 86, 3) := by decide +kernel
theorem dX8_minutes_19 : decode cX8_minutes 19 = .ok (.istore_n 2, 1) := by decide +kernel
theorem dX8_minutes_20 : decode cX8_minutes 20 = .ok (.aload_n 0, 1) := by decide +kernel
theorem dX8_minutes_21 : decode cX8_minutes 21 = .ok (.getfield 11, 3) := by decide +kernel
theorem dX8_minutes_24 : decode cX8_minutes 24 = .ok (.astore_n 3, 1) := by decide +kernel
theorem dX8_minutes_25 : decode cX8_minutes 25 = .ok (.aload_n 3, 1) := by decide +kernel
theorem dX8_minutes_26 : decode cX8_minutes 26 = .ok (.arraylength, 1) := by decide +kernel
theorem dX8_minutes_27 : decode cX8_minutes 27 = .ok (.istore 4, 2) := by decide +kernel
theorem dX8_minutes_29 : decode cX8_minutes 29 = .ok (.iconst 0, 1) := by decide +kernel
theorem dX8_minutes_30 : decode cX8_minutes 30 = .ok (.istore 5, 2) := by decide +kernel
theorem dX8_minutes_32 : decode cX8_minutes 32 = .ok (.iload 5, 2) := by decide +kernel
theorem dX8_minutes_34 : decode cX8_minutes 34 = .ok (.iload 4, 2) := by decide +kernel
theorem dX8_minutes_36 : decode cX8_minutes 36 = .ok (.if_icmp .ge 68, 3) := by decide +kernel
theorem dX8_minutes_39 : decode cX8_minutes 39 = .ok (.aload_n 3, 1) := by decide +kernel
theorem dX8_minutes_40 : decode cX8_minutes 40 = .ok (.iload 5, 2) := by decide +kernel
theorem dX8_minutes_42 : decode cX8_minutes 42 = .ok (.aaload, 1) := by decide +kernel
theorem dX8_minutes_43 : decode cX8_minutes 43 = .ok (.astore 6, 2) := by decide +kernel
theorem dX8_minutes_45 : decode cX8_minutes 45 = .ok (.aload 6, 2) := by decide +kernel
theorem dX8_minutes_47 : decode cX8_minutes 47 = .ok (.ifnonnull 6, 3) := by decide +kernel
theorem dX8_minutes_50 : decode cX8_minutes 50 = .ok (.goto 54, 3) := by decide +kernel
theorem dX8_minutes_53 : decode cX8_minutes 53 = .ok (.aload 6, 2) := by decide +kernel
theorem dX8_minutes_55 : decode cX8_minutes 55 = .ok (.getfield 89, 3) := by decide +kernel
theorem dX8_minutes_58 : decode cX8_minutes 58 = .ok (.ifCond .ne 16, 3) := by decide +kernel
theorem dX8_minutes_61 : decode cX8_minutes 61 = .ok (.aload 6, 2) := by decide +kernel
theorem dX8_minutes_63 : decode cX8_minutes 63 = .ok (.iload_n 1, 1) := by decide +kernel
theorem dX8_minutes_64 : decode cX8_minutes 64 = .ok (.aload_n 0, 1) := by decide +kernel
theorem dX8_minutes_65 : decode cX8_minutes 65 = .ok (.getfield 26, 3) := by decide +kernel
theorem dX8_minutes_68 : decode cX8_minutes 68 = .ok (.invokevirtual 92, 3) := by decide +kernel
theorem dX8_minutes_71 : decode cX8_minutes 71 = .ok (.goto 27, 3) := by decide +kernel
theorem dX8_minutes_74 : decode cX8_minutes 74 = .ok (.aload 6, 2) := by decide +kernel
theorem dX8_minutes_76 : decode cX8_minutes 76 = .ok (.getfield 89, 3) := by decide +kernel
theorem dX8_minutes_79 : decode cX8_minutes 79 = .ok (.iconst 1, 1) := by decide +kernel
theorem dX8_minutes_80 : decode cX8_minutes 80 = .ok (.if_icmp .ne 18, 3) := by decide +kernel
theorem dX8_minutes_83 : decode cX8_minutes 83 = .ok (.aload 6, 2) := by decide +kernel
theorem dX8_minutes_85 : decode cX8_minutes 85 = .ok (.iload_n 1, 1) := by decide +kernel
theorem dX8_minutes_86 : decode cX8_minutes 86 = .ok (.aload_n 0, 1) := by decide +kernel
theorem dX8_minutes_87 : decode cX8_minutes 87 = .ok (.aload 6, 2) := by decide +kernel
theorem dX8_minutes_89 : decode cX8_minutes 89 = .ok (.getfield 96, 3) := by decide +kernel
theorem dX8_minutes_92 : decode cX8_minutes 92 = .ok (.invokevirtual 99, 3) := by decide +kernel
theorem dX8_minutes_95 : decode cX8_minutes 95 = .ok (.invokevirtual 102, 3) := by decide +kernel
theorem dX8_minutes_98 : decode cX8_minutes 98 = .ok (.iinc 5 1, 3) := by decide +kernel
theorem dX8_minutes_101 : decode cX8_minutes 101 = .ok (.goto (-69), 3) := by decide +kernel
theorem dX8_minutes_104 : decode cX8_minutes 104 = .ok (.aload_n 0, 1) := by decide +kernel
theorem dX8_minutes_105 : decode cX8_minutes 105 = .ok (.iconst 4, 1) := by decide +kernel
theorem dX8_minutes_106 : decode cX8_minutes 106 = .ok (.invokevirtual 86, 3) := by decide +kernel
theorem dX8_minutes_109 : decode cX8_minutes 109 = .ok (.iload_n 2, 1) := by decide +kernel
theorem dX8_minutes_110 : decode cX8_minutes 110 = .ok (.isub, 1) := by decide +kernel
theorem dX8_minutes_111 : decode cX8_minutes 111 = .ok (.ireturn, 1) := by decide +kernel
theorem dX8_bake_0 : decode cX8_bake 0 = .ok (.aload_n 0, 1) := by decide +kernel
theorem dX8_bake_1 : decode cX8_bake 1 = .ok (.iload_n 1, 1) := by decide +kernel
theorem dX8_bake_2 : decode cX8_bake 2 = .ok (.invokevirtual 41, 3) := by decide +kernel
theorem dX8_bake_5 : decode cX8_bake 5 = .ok (.astore_n 3, 1) := by decide +kernel
theorem dX8_bake_6 : decode cX8_bake 6 = .ok (.aload_n 3, 1) := by decide +kernel
theorem dX8_bake_7 : decode cX8_bake 7 = .ok (.ifnull 11, 3) := by decide +kernel
theorem dX8_bake_10 : decode cX8_bake 10 = .ok (.aload_n 0, 1) := by decide +kernel
theorem dX8_bake_11 : decode cX8_bake 11 = .ok (.iload_n 2, 1) := by decide +kernel
theorem dX8_bake_12 : decode cX8_bake 12 = .ok (.invokevirtual 82, 3) := by decide +kernel
theorem dX8_bake_15 : decode cX8_bake 15 = .ok (.ifCond .ne 6, 3) := by decide +kernel
theorem dX8_bake_18 : decode cX8_bake 18 = .ok (.bipush (-2), 2) := by decide +kernel
theorem dX8_bake_20 : decode cX8_bake 20 = .ok (.ireturn, 1) := by decide +kernel
theorem dX8_bake_21 : decode cX8_bake 21 = .ok (.aload_n 3, 1) := by decide +kernel
theorem dX8_bake_22 : decode cX8_bake 22 = .ok (.getfield 89, 3) := by decide +kernel
theorem dX8_bake_25 : decode cX8_bake 25 = .ok (.ifCond .ne 14, 3) := by decide +kernel
theorem dX8_bake_28 : decode cX8_bake 28 = .ok (.aload_n 3, 1) := by decide +kernel
theorem dX8_bake_29 : decode cX8_bake 29 = .ok (.getfield 105, 3) := by decide +kernel
theorem dX8_bake_32 : decode cX8_bake 32 = .ok (.aload_n 3, 1) := by decide +kernel
theorem dX8_bake_33 : decode cX8_bake 33 = .ok (.invokevirtual 56, 3) := by decide +kernel
theorem dX8_bake_36 : decode cX8_bake 36 = .ok (.if_icmp .ge 6, 3) := by decide +kernel
theorem dX8_bake_39 : decode cX8_bake 39 = .ok (.bipush (-3), 2) := by decide +kernel
theorem dX8_bake_41 : decode cX8_bake 41 = .ok (.ireturn, 1) := by decide +kernel
theorem dX8_bake_42 : decode cX8_bake 42 = .ok (.aload_n 0, 1) := by decide +kernel
theorem dX8_bake_43 : decode cX8_bake 43 = .ok (.iload_n 2, 1) := by decide +kernel
theorem dX8_bake_44 : decode cX8_bake 44 = .ok (.invokevirtual 108, 3) := by decide +kernel
theorem dX8_bake_47 : decode cX8_bake 47 = .ok (.aload_n 3, 1) := by decide +kernel
theorem dX8_bake_48 : decode cX8_bake 48 = .ok (.getfield 111, 3) := by decide +kernel
theorem dX8_bake_51 : decode cX8_bake 51 = .ok (.iadd, 1) := by decide +kernel
theorem dX8_bake_52 : decode cX8_bake 52 = .ok (.istore 4, 2) := by decide +kernel
theorem dX8_bake_54 : decode cX8_bake 54 = .ok (.iload 4, 2) := by decide +kernel
theorem dX8_bake_56 : decode cX8_bake 56 = .ok (.sipush 800, 3) := by decide +kernel
theorem dX8_bake_59 : decode cX8_bake 59 = .ok (.if_icmp .le 6, 3) := by decide +kernel
theorem dX8_bake_62 : decode cX8_bake 62 = .ok (.bipush (-4), 2) := by decide +kernel
theorem dX8_bake_64 : decode cX8_bake 64 = .ok (.ireturn, 1) := by decide +kernel
theorem dX8_bake_65 : decode cX8_bake 65 = .ok (.aload_n 3, 1) := by decide +kernel
theorem dX8_bake_66 : decode cX8_bake 66 = .ok (.iconst 1, 1) := by decide +kernel
theorem dX8_bake_67 : decode cX8_bake 67 = .ok (.putfield 89, 3) := by decide +kernel
theorem dX8_bake_70 : decode cX8_bake 70 = .ok (.aload_n 3, 1) := by decide +kernel
theorem dX8_bake_71 : decode cX8_bake 71 = .ok (.iload_n 2, 1) := by decide +kernel
theorem dX8_bake_72 : decode cX8_bake 72 = .ok (.putfield 96, 3) := by decide +kernel
theorem dX8_bake_75 : decode cX8_bake 75 = .ok (.iload 4, 2) := by decide +kernel
theorem dX8_bake_77 : decode cX8_bake 77 = .ok (.ireturn, 1) := by decide +kernel
theorem dX8_out_0 : decode cX8_out 0 = .ok (.aload_n 0, 1) := by decide +kernel
theorem dX8_out_1 : decode cX8_out 1 = .ok (.iload_n 1, 1) := by decide +kernel
theorem dX8_out_2 : decode cX8_out 2 = .ok (.invokevirtual 41, 3) := by decide +kernel
theorem dX8_out_5 : decode cX8_out 5 = .ok (.astore_n 2, 1) := by decide +kernel
theorem dX8_out_6 : decode cX8_out 6 = .ok (.aload_n 2, 1) := by decide +kernel
theorem dX8_out_7 : decode cX8_out 7 = .ok (.ifnonnull 6, 3) := by decide +kernel
theorem dX8_out_10 : decode cX8_out 10 = .ok (.bipush (-2), 2) := by decide +kernel
theorem dX8_out_12 : decode cX8_out 12 = .ok (.ireturn, 1) := by decide +kernel
theorem dX8_out_13 : decode cX8_out 13 = .ok (.aload_n 2, 1) := by decide +kernel
theorem dX8_out_14 : decode cX8_out 14 = .ok (.getfield 89, 3) := by decide +kernel
theorem dX8_out_17 : decode cX8_out 17 = .ok (.iconst 1, 1) := by decide +kernel
theorem dX8_out_18 : decode cX8_out 18 = .ok (.if_icmp .eq 6, 3) := by decide +kernel
theorem dX8_out_21 : decode cX8_out 21 = .ok (.bipush (-3), 2) := by decide +kernel
theorem dX8_out_23 : decode cX8_out 23 = .ok (.ireturn, 1) := by decide +kernel
theorem dX8_out_24 : decode cX8_out 24 = .ok (.aload_n 2, 1) := by decide +kernel
theorem dX8_out_25 : decode cX8_out 25 = .ok (.getfield 114, 3) := by decide +kernel
theorem dX8_out_28 : decode cX8_out 28 = .ok (.bipush 40, 2) := by decide +kernel
theorem dX8_out_30 : decode cX8_out 30 = .ok (.if_icmp .lt 19, 3) := by decide +kernel
theorem dX8_out_33 : decode cX8_out 33 = .ok (.aload_n 2, 1) := by decide +kernel
theorem dX8_out_34 : decode cX8_out 34 = .ok (.iconst 2, 1) := by decide +kernel
theorem dX8_out_35 : decode cX8_out 35 = .ok (.putfield 89, 3) := by decide +kernel
theorem dX8_out_38 : decode cX8_out 38 = .ok (.aload_n 2, 1) := by decide +kernel
theorem dX8_out_39 : decode cX8_out 39 = .ok (.aload_n 0, 1) := by decide +kernel
theorem dX8_out_40 : decode cX8_out 40 = .ok (.getfield 117, 3) := by decide +kernel
theorem dX8_out_43 : decode cX8_out 43 = .ok (.putfield 120, 3) := by decide +kernel
theorem dX8_out_46 : decode cX8_out 46 = .ok (.goto 8, 3) := by decide +kernel
theorem dX8_out_49 : decode cX8_out 49 = .ok (.aload_n 2, 1) := by decide +kernel
theorem dX8_out_50 : decode cX8_out 50 = .ok (.iconst 4, 1) := by decide +kernel
theorem dX8_out_51 : decode cX8_out 51 = .ok (.putfield 89, 3) := by decide +kernel
theorem dX8_out_54 : decode cX8_out 54 = .ok (.aload_n 2, 1) := by decide +kernel
theorem dX8_out_55 : decode cX8_out 55 = .ok (.getfield 114, 3) := by decide +kernel
theorem dX8_out_58 : decode cX8_out 58 = .ok (.ireturn, 1) := by decide +kernel
theorem dX8_sell_0 : decode cX8_sell 0 = .ok (.aload_n 0, 1) := by decide +kernel
theorem dX8_sell_1 : decode cX8_sell 1 = .ok (.iload_n 1, 1) := by decide +kernel
theorem dX8_sell_2 : decode cX8_sell 2 = .ok (.invokevirtual 41, 3) := by decide +kernel
theorem dX8_sell_5 : decode cX8_sell 5 = .ok (.astore_n 2, 1) := by decide +kernel
theorem dX8_sell_6 : decode cX8_sell 6 = .ok (.aload_n 2, 1) := by decide +kernel
theorem dX8_sell_7 : decode cX8_sell 7 = .ok (.ifnonnull 6, 3) := by decide +kernel
theorem dX8_sell_10 : decode cX8_sell 10 = .ok (.bipush (-2), 2) := by decide +kernel
theorem dX8_sell_12 : decode cX8_sell 12 = .ok (.ireturn, 1) := by decide +kernel
theorem dX8_sell_13 : decode cX8_sell 13 = .ok (.aload_n 2, 1) := by decide +kernel
theorem dX8_sell_14 : decode cX8_sell 14 = .ok (.getfield 89, 3) := by decide +kernel
theorem dX8_sell_17 : decode cX8_sell 17 = .ok (.iconst 2, 1) := by decide +kernel
theorem dX8_sell_18 : decode cX8_sell 18 = .ok (.if_icmp .eq 6, 3) := by decide +kernel
theorem dX8_sell_21 : decode cX8_sell 21 = .ok (.bipush (-3), 2) := by decide +kernel
theorem dX8_sell_23 : decode cX8_sell 23 = .ok (.ireturn, 1) := by decide +kernel
theorem dX8_sell_24 : decode cX8_sell 24 = .ok (.aload_n 2, 1) := by decide +kernel
theorem dX8_sell_25 : decode cX8_sell 25 = .ok (.invokevirtual 63, 3) := by decide +kernel
theorem dX8_sell_28 : decode cX8_sell 28 = .ok (.istore_n 3, 1) := by decide +kernel
theorem dX8_sell_29 : decode cX8_sell 29 = .ok (.aload_n 2, 1) := by decide +kernel
theorem dX8_sell_30 : decode cX8_sell 30 = .ok (.instanceof 71, 3) := by decide +kernel
theorem dX8_sell_33 : decode cX8_sell 33 = .ok (.ifCond .eq 17, 3) := by decide +kernel
theorem dX8_sell_36 : decode cX8_sell 36 = .ok (.aload_n 2, 1) := by decide +kernel
theorem dX8_sell_37 : decode cX8_sell 37 = .ok (.checkcast 71, 3) := by decide +kernel
theorem dX8_sell_40 : decode cX8_sell 40 = .ok (.astore 4, 2) := by decide +kernel
theorem dX8_sell_42 : decode cX8_sell 42 = .ok (.iload_n 3, 1) := by decide +kernel
theorem dX8_sell_43 : decode cX8_sell 43 = .ok (.aload 4, 2) := by decide +kernel
theorem dX8_sell_45 : decode cX8_sell 45 = .ok (.invokevirtual 73, 3) := by decide +kernel
theorem dX8_sell_48 : decode cX8_sell 48 = .ok (.iadd, 1) := by decide +kernel
theorem dX8_sell_49 : decode cX8_sell 49 = .ok (.istore_n 3, 1) := by decide +kernel
theorem dX8_sell_50 : decode cX8_sell 50 = .ok (.iconst 1, 1) := by decide +kernel
theorem dX8_sell_51 : decode cX8_sell 51 = .ok (.iload_n 3, 1) := by decide +kernel
theorem dX8_sell_52 : decode cX8_sell 52 = .ok (.aload_n 0, 1) := by decide +kernel
theorem dX8_sell_53 : decode cX8_sell 53 = .ok (.getfield 117, 3) := by decide +kernel
theorem dX8_sell_56 : decode cX8_sell 56 = .ok (.aload_n 2, 1) := by decide +kernel
theorem dX8_sell_57 : decode cX8_sell 57 = .ok (.getfield 120, 3) := by decide +kernel
theorem dX8_sell_60 : decode cX8_sell 60 = .ok (.isub, 1) := by decide +kernel
theorem dX8_sell_61 : decode cX8_sell 61 = .ok (.isub, 1) := by decide +kernel
theorem dX8_sell_62 : decode cX8_sell 62 = .ok (.invokestatic 123, 3) := by decide +kernel
theorem dX8_sell_65 : decode cX8_sell 65 = .ok (.istore 4, 2) := by decide +kernel
theorem dX8_sell_67 : decode cX8_sell 67 = .ok (.aload_n 2, 1) := by decide +kernel
theorem dX8_sell_68 : decode cX8_sell 68 = .ok (.iconst 3, 1) := by decide +kernel
theorem dX8_sell_69 : decode cX8_sell 69 = .ok (.putfield 89, 3) := by decide +kernel
theorem dX8_sell_72 : decode cX8_sell 72 = .ok (.aload_n 0, 1) := by decide +kernel
theorem dX8_sell_73 : decode cX8_sell 73 = .ok (.dup, 1) := by decide +kernel
theorem dX8_sell_74 : decode cX8_sell 74 = .ok (.getfield 129, 3) := by decide +kernel
theorem dX8_sell_77 : decode cX8_sell 77 = .ok (.iload 4, 2) := by decide +kernel
theorem dX8_sell_79 : decode cX8_sell 79 = .ok (.iadd, 1) := by decide +kernel
theorem dX8_sell_80 : decode cX8_sell 80 = .ok (.putfield 129, 3) := by decide +kernel
theorem dX8_sell_83 : decode cX8_sell 83 = .ok (.iload 4, 2) := by decide +kernel
theorem dX8_sell_85 : decode cX8_sell 85 = .ok (.ireturn, 1) := by decide +kernel
theorem dX8_day_0 : decode cX8_day 0 = .ok (.aload_n 0, 1) := by decide +kernel
theorem dX8_day_1 : decode cX8_day 1 = .ok (.getfield 117, 3) := by decide +kernel
theorem dX8_day_4 : decode cX8_day 4 = .ok (.sipush 10000, 3) := by decide +kernel
theorem dX8_day_7 : decode cX8_day 7 = .ok (.if_icmp .lt 6, 3) := by decide +kernel
theorem dX8_day_10 : decode cX8_day 10 = .ok (.bipush (-4), 2) := by decide +kernel
theorem dX8_day_12 : decode cX8_day 12 = .ok (.ireturn, 1) := by decide +kernel
theorem dX8_day_13 : decode cX8_day 13 = .ok (.iconst 0, 1) := by decide +kernel
theorem dX8_day_14 : decode cX8_day 14 = .ok (.istore_n 1, 1) := by decide +kernel
theorem dX8_day_15 : decode cX8_day 15 = .ok (.aload_n 0, 1) := by decide +kernel
theorem dX8_day_16 : decode cX8_day 16 = .ok (.getfield 11, 3) := by decide +kernel
theorem dX8_day_19 : decode cX8_day 19 = .ok (.astore_n 2, 1) := by decide +kernel
theorem dX8_day_20 : decode cX8_day 20 = .ok (.aload_n 2, 1) := by decide +kernel
theorem dX8_day_21 : decode cX8_day 21 = .ok (.arraylength, 1) := by decide +kernel
theorem dX8_day_22 : decode cX8_day 22 = .ok (.istore_n 3, 1) := by decide +kernel
theorem dX8_day_23 : decode cX8_day 23 = .ok (.iconst 0, 1) := by decide +kernel
theorem dX8_day_24 : decode cX8_day 24 = .ok (.istore 4, 2) := by decide +kernel
theorem dX8_day_26 : decode cX8_day 26 = .ok (.iload 4, 2) := by decide +kernel
theorem dX8_day_28 : decode cX8_day 28 = .ok (.iload_n 3, 1) := by decide +kernel
theorem dX8_day_29 : decode cX8_day 29 = .ok (.if_icmp .ge 82, 3) := by decide +kernel
theorem dX8_day_32 : decode cX8_day 32 = .ok (.aload_n 2, 1) := by decide +kernel
theorem dX8_day_33 : decode cX8_day 33 = .ok (.iload 4, 2) := by decide +kernel
theorem dX8_day_35 : decode cX8_day 35 = .ok (.aaload, 1) := by decide +kernel
theorem dX8_day_36 : decode cX8_day 36 = .ok (.astore 5, 2) := by decide +kernel
theorem dX8_day_38 : decode cX8_day 38 = .ok (.aload 5, 2) := by decide +kernel
theorem dX8_day_40 : decode cX8_day 40 = .ok (.ifnonnull 6, 3) := by decide +kernel
theorem dX8_day_43 : decode cX8_day 43 = .ok (.goto 68, 3) := by decide +kernel
theorem dX8_day_46 : decode cX8_day 46 = .ok (.aload 5, 2) := by decide +kernel
theorem dX8_day_48 : decode cX8_day 48 = .ok (.getfield 89, 3) := by decide +kernel
theorem dX8_day_51 : decode cX8_day 51 = .ok (.iconst 2, 1) := by decide +kernel
theorem dX8_day_52 : decode cX8_day 52 = .ok (.if_icmp .ne 53, 3) := by decide +kernel
theorem dX8_day_55 : decode cX8_day 55 = .ok (.aload 5, 2) := by decide +kernel
theorem dX8_day_57 : decode cX8_day 57 = .ok (.instanceof 66, 3) := by decide +kernel
theorem dX8_day_60 : decode cX8_day 60 = .ok (.ifCond .eq 18, 3) := by decide +kernel
theorem dX8_day_63 : decode cX8_day 63 = .ok (.aload 5, 2) := by decide +kernel
theorem dX8_day_65 : decode cX8_day 65 = .ok (.checkcast 66, 3) := by decide +kernel
theorem dX8_day_68 : decode cX8_day 68 = .ok (.astore 7, 2) := by decide +kernel
theorem dX8_day_70 : decode cX8_day 70 = .ok (.aload 7, 2) := by decide +kernel
theorem dX8_day_72 : decode cX8_day 72 = .ok (.invokevirtual 68, 3) := by decide +kernel
theorem dX8_day_75 : decode cX8_day 75 = .ok (.goto 4, 3) := by decide +kernel
theorem dX8_day_78 : decode cX8_day 78 = .ok (.iconst 1, 1) := by decide +kernel
theorem dX8_day_79 : decode cX8_day 79 = .ok (.istore 6, 2) := by decide +kernel
theorem dX8_day_81 : decode cX8_day 81 = .ok (.aload_n 0, 1) := by decide +kernel
theorem dX8_day_82 : decode cX8_day 82 = .ok (.getfield 117, 3) := by decide +kernel
theorem dX8_day_85 : decode cX8_day 85 = .ok (.aload 5, 2) := by decide +kernel
theorem dX8_day_87 : decode cX8_day 87 = .ok (.getfield 120, 3) := by decide +kernel
theorem dX8_day_90 : decode cX8_day 90 = .ok (.isub, 1) := by decide +kernel
theorem dX8_day_91 : decode cX8_day 91 = .ok (.iload 6, 2) := by decide +kernel
theorem dX8_day_93 : decode cX8_day 93 = .ok (.if_icmp .lt 12, 3) := by decide +kernel
theorem dX8_day_96 : decode cX8_day 96 = .ok (.aload 5, 2) := by decide +kernel
theorem dX8_day_98 : decode cX8_day 98 = .ok (.iconst 4, 1) := by decide +kernel
theorem dX8_day_99 : decode cX8_day 99 = .ok (.putfield 89, 3) := by decide +kernel
theorem dX8_day_102 : decode cX8_day 102 = .ok (.iinc 1 1, 3) := by decide +kernel
theorem dX8_day_105 : decode cX8_day 105 = .ok (.iinc 4 1, 3) := by decide +kernel
theorem dX8_day_108 : decode cX8_day 108 = .ok (.goto (-82), 3) := by decide +kernel
theorem dX8_day_111 : decode cX8_day 111 = .ok (.aload_n 0, 1) := by decide +kernel
theorem dX8_day_112 : decode cX8_day 112 = .ok (.dup, 1) := by decide +kernel
theorem dX8_day_113 : decode cX8_day 113 = .ok (.getfield 117, 3) := by decide +kernel
theorem dX8_day_116 : decode cX8_day 116 = .ok (.iconst 1, 1) := by decide +kernel
theorem dX8_day_117 : decode cX8_day 117 = .ok (.iadd, 1) := by decide +kernel
theorem dX8_day_118 : decode cX8_day 118 = .ok (.putfield 117, 3) := by decide +kernel
theorem dX8_day_121 : decode cX8_day 121 = .ok (.iload_n 1, 1) := by decide +kernel
theorem dX8_day_122 : decode cX8_day 122 = .ok (.ireturn, 1) := by decide +kernel
theorem dX8_told_0 : decode cX8_told 0 = .ok (.aload_n 0, 1) := by decide +kernel
theorem dX8_told_1 : decode cX8_told 1 = .ok (.iload_n 1, 1) := by decide +kernel
theorem dX8_told_2 : decode cX8_told 2 = .ok (.invokevirtual 41, 3) := by decide +kernel
theorem dX8_told_5 : decode cX8_told 5 = .ok (.astore_n 3, 1) := by decide +kernel
theorem dX8_told_6 : decode cX8_told 6 = .ok (.aload_n 3, 1) := by decide +kernel
theorem dX8_told_7 : decode cX8_told 7 = .ok (.ifnonnull 6, 3) := by decide +kernel
theorem dX8_told_10 : decode cX8_told 10 = .ok (.bipush (-2), 2) := by decide +kernel
theorem dX8_told_12 : decode cX8_told 12 = .ok (.ireturn, 1) := by decide +kernel
theorem dX8_told_13 : decode cX8_told 13 = .ok (.iload_n 2, 1) := by decide +kernel
theorem dX8_told_14 : decode cX8_told 14 = .ok (.tableswitch 126 0 7 #[46, 51, 56, 61, 66, 83, 100, 113], 46) := by decide +kernel
theorem dX8_told_60 : decode cX8_told 60 = .ok (.aload_n 3, 1) := by decide +kernel
theorem dX8_told_61 : decode cX8_told 61 = .ok (.getfield 132, 3) := by decide +kernel
theorem dX8_told_64 : decode cX8_told 64 = .ok (.ireturn, 1) := by decide +kernel
theorem dX8_told_65 : decode cX8_told 65 = .ok (.aload_n 3, 1) := by decide +kernel
theorem dX8_told_66 : decode cX8_told 66 = .ok (.getfield 89, 3) := by decide +kernel
theorem dX8_told_69 : decode cX8_told 69 = .ok (.ireturn, 1) := by decide +kernel
theorem dX8_told_70 : decode cX8_told 70 = .ok (.aload_n 3, 1) := by decide +kernel
theorem dX8_told_71 : decode cX8_told 71 = .ok (.getfield 105, 3) := by decide +kernel
theorem dX8_told_74 : decode cX8_told 74 = .ok (.ireturn, 1) := by decide +kernel
theorem dX8_told_75 : decode cX8_told 75 = .ok (.aload_n 3, 1) := by decide +kernel
theorem dX8_told_76 : decode cX8_told 76 = .ok (.getfield 114, 3) := by decide +kernel
theorem dX8_told_79 : decode cX8_told 79 = .ok (.ireturn, 1) := by decide +kernel
theorem dX8_told_80 : decode cX8_told 80 = .ok (.aload_n 3, 1) := by decide +kernel
theorem dX8_told_81 : decode cX8_told 81 = .ok (.getfield 89, 3) := by decide +kernel
theorem dX8_told_84 : decode cX8_told 84 = .ok (.iconst 1, 1) := by decide +kernel
theorem dX8_told_85 : decode cX8_told 85 = .ok (.if_icmp .ne 10, 3) := by decide +kernel
theorem dX8_told_88 : decode cX8_told 88 = .ok (.aload_n 3, 1) := by decide +kernel
theorem dX8_told_89 : decode cX8_told 89 = .ok (.getfield 96, 3) := by decide +kernel
theorem dX8_told_92 : decode cX8_told 92 = .ok (.goto 4, 3) := by decide +kernel
theorem dX8_told_95 : decode cX8_told 95 = .ok (.iconst (-1), 1) := by decide +kernel
theorem dX8_told_96 : decode cX8_told 96 = .ok (.ireturn, 1) := by decide +kernel
theorem dX8_told_97 : decode cX8_told 97 = .ok (.aload_n 3, 1) := by decide +kernel
theorem dX8_told_98 : decode cX8_told 98 = .ok (.getfield 89, 3) := by decide +kernel
theorem dX8_told_101 : decode cX8_told 101 = .ok (.iconst 2, 1) := by decide +kernel
theorem dX8_told_102 : decode cX8_told 102 = .ok (.if_icmp .ne 10, 3) := by decide +kernel
theorem dX8_told_105 : decode cX8_told 105 = .ok (.aload_n 3, 1) := by decide +kernel
theorem dX8_told_106 : decode cX8_told 106 = .ok (.getfield 120, 3) := by decide +kernel
theorem dX8_told_109 : decode cX8_told 109 = .ok (.goto 4, 3) := by decide +kernel
theorem dX8_told_112 : decode cX8_told 112 = .ok (.iconst (-1), 1) := by decide +kernel
theorem dX8_told_113 : decode cX8_told 113 = .ok (.ireturn, 1) := by decide +kernel
theorem dX8_told_114 : decode cX8_told 114 = .ok (.aload_n 3, 1) := by decide +kernel
theorem dX8_told_115 : decode cX8_told 115 = .ok (.instanceof 66, 3) := by decide +kernel
theorem dX8_told_118 : decode cX8_told 118 = .ok (.ifCond .eq 7, 3) := by decide +kernel
theorem dX8_told_121 : decode cX8_told 121 = .ok (.iconst 1, 1) := by decide +kernel
theorem dX8_told_122 : decode cX8_told 122 = .ok (.goto 4, 3) := by decide +kernel
theorem dX8_told_125 : decode cX8_told 125 = .ok (.iconst 0, 1) := by decide +kernel
theorem dX8_told_126 : decode cX8_told 126 = .ok (.ireturn, 1) := by decide +kernel
theorem dX8_told_127 : decode cX8_told 127 = .ok (.aload_n 3, 1) := by decide +kernel
theorem dX8_told_128 : decode cX8_told 128 = .ok (.instanceof 71, 3) := by decide +kernel
theorem dX8_told_131 : decode cX8_told 131 = .ok (.ifCond .eq 7, 3) := by decide +kernel
theorem dX8_told_134 : decode cX8_told 134 = .ok (.iconst 1, 1) := by decide +kernel
theorem dX8_told_135 : decode cX8_told 135 = .ok (.goto 4, 3) := by decide +kernel
theorem dX8_told_138 : decode cX8_told 138 = .ok (.iconst 0, 1) := by decide +kernel
theorem dX8_told_139 : decode cX8_told 139 = .ok (.ireturn, 1) := by decide +kernel
theorem dX8_told_140 : decode cX8_told 140 = .ok (.bipush (-2), 2) := by decide +kernel
theorem dX8_told_142 : decode cX8_told 142 = .ok (.ireturn, 1) := by decide +kernel
theorem dX8_count_0 : decode cX8_count 0 = .ok (.iload_n 1, 1) := by decide +kernel
theorem dX8_count_1 : decode cX8_count 1 = .ok (.tableswitch 70 0 7 #[47, 52, 52, 52, 52, 52, 60, 65], 47) := by decide +kernel
theorem dX8_count_48 : decode cX8_count 48 = .ok (.aload_n 0, 1) := by decide +kernel
theorem dX8_count_49 : decode cX8_count 49 = .ok (.getfield 34, 3) := by decide +kernel
theorem dX8_count_52 : decode cX8_count 52 = .ok (.ireturn, 1) := by decide +kernel
theorem dX8_count_53 : decode cX8_count 53 = .ok (.aload_n 0, 1) := by decide +kernel
theorem dX8_count_54 : decode cX8_count 54 = .ok (.iload_n 1, 1) := by decide +kernel
theorem dX8_count_55 : decode cX8_count 55 = .ok (.iconst 1, 1) := by decide +kernel
theorem dX8_count_56 : decode cX8_count 56 = .ok (.isub, 1) := by decide +kernel
theorem dX8_count_57 : decode cX8_count 57 = .ok (.invokevirtual 86, 3) := by decide +kernel
theorem dX8_count_60 : decode cX8_count 60 = .ok (.ireturn, 1) := by decide +kernel
theorem dX8_count_61 : decode cX8_count 61 = .ok (.aload_n 0, 1) := by decide +kernel
theorem dX8_count_62 : decode cX8_count 62 = .ok (.getfield 117, 3) := by decide +kernel
theorem dX8_count_65 : decode cX8_count 65 = .ok (.ireturn, 1) := by decide +kernel
theorem dX8_count_66 : decode cX8_count 66 = .ok (.aload_n 0, 1) := by decide +kernel
theorem dX8_count_67 : decode cX8_count 67 = .ok (.getfield 129, 3) := by decide +kernel
theorem dX8_count_70 : decode cX8_count 70 = .ok (.ireturn, 1) := by decide +kernel
theorem dX8_count_71 : decode cX8_count 71 = .ok (.bipush (-2), 2) := by decide +kernel
theorem dX8_count_73 : decode cX8_count 73 = .ok (.ireturn, 1) := by decide +kernel
theorem dX8_within_0 : decode cX8_within 0 = .ok (.iload_n 0, 1) := by decide +kernel
theorem dX8_within_1 : decode cX8_within 1 = .ok (.iload_n 1, 1) := by decide +kernel
theorem dX8_within_2 : decode cX8_within 2 = .ok (.if_icmp .lt 12, 3) := by decide +kernel
theorem dX8_within_5 : decode cX8_within 5 = .ok (.iload_n 0, 1) := by decide +kernel
theorem dX8_within_6 : decode cX8_within 6 = .ok (.iload_n 2, 1) := by decide +kernel
theorem dX8_within_7 : decode cX8_within 7 = .ok (.if_icmp .gt 7, 3) := by decide +kernel
theorem dX8_within_10 : decode cX8_within 10 = .ok (.iconst 1, 1) := by decide +kernel
theorem dX8_within_11 : decode cX8_within 11 = .ok (.goto 4, 3) := by decide +kernel
theorem dX8_within_14 : decode cX8_within 14 = .ok (.iconst 0, 1) := by decide +kernel
theorem dX8_within_15 : decode cX8_within 15 = .ok (.ireturn, 1) := by decide +kernel
theorem dX8_isQuestion_0 : decode cX8_isQuestion 0 = .ok (.iload_n 0, 1) := by decide +kernel
theorem dX8_isQuestion_1 : decode cX8_isQuestion 1 = .ok (.lookupswitch 44 #[(0, 27), (2, 35)], 27) := by decide +kernel
theorem dX8_isQuestion_28 : decode cX8_isQuestion 28 = .ok (.iload_n 1, 1) := by decide +kernel
theorem dX8_isQuestion_29 : decode cX8_isQuestion 29 = .ok (.iconst 0, 1) := by decide +kernel
theorem dX8_isQuestion_30 : decode cX8_isQuestion 30 = .ok (.bipush 60, 2) := by decide +kernel
theorem dX8_isQuestion_32 : decode cX8_isQuestion 32 = .ok (.invokestatic 30, 3) := by decide +kernel
theorem dX8_isQuestion_35 : decode cX8_isQuestion 35 = .ok (.ireturn, 1) := by decide +kernel
theorem dX8_isQuestion_36 : decode cX8_isQuestion 36 = .ok (.iload_n 1, 1) := by decide +kernel
theorem dX8_isQuestion_37 : decode cX8_isQuestion 37 = .ok (.iconst 0, 1) := by decide +kernel
theorem dX8_isQuestion_38 : decode cX8_isQuestion 38 = .ok (.sipush 400, 3) := by decide +kernel
theorem dX8_isQuestion_41 : decode cX8_isQuestion 41 = .ok (.invokestatic 30, 3) := by decide +kernel
theorem dX8_isQuestion_44 : decode cX8_isQuestion 44 = .ok (.ireturn, 1) := by decide +kernel
theorem dX8_isQuestion_45 : decode cX8_isQuestion 45 = .ok (.iload_n 0, 1) := by decide +kernel
theorem dX8_isQuestion_46 : decode cX8_isQuestion 46 = .ok (.iconst 0, 1) := by decide +kernel
theorem dX8_isQuestion_47 : decode cX8_isQuestion 47 = .ok (.iconst 5, 1) := by decide +kernel
theorem dX8_isQuestion_48 : decode cX8_isQuestion 48 = .ok (.invokestatic 30, 3) := by decide +kernel
theorem dX8_isQuestion_51 : decode cX8_isQuestion 51 = .ok (.ireturn, 1) := by decide +kernel
theorem dX8_isOven_0 : decode cX8_isOven 0 = .ok (.iload_n 1, 1) := by decide +kernel
theorem dX8_isOven_1 : decode cX8_isOven 1 = .ok (.ifCond .lt 16, 3) := by decide +kernel
theorem dX8_isOven_4 : decode cX8_isOven 4 = .ok (.iload_n 1, 1) := by decide +kernel
theorem dX8_isOven_5 : decode cX8_isOven 5 = .ok (.aload_n 0, 1) := by decide +kernel
theorem dX8_isOven_6 : decode cX8_isOven 6 = .ok (.getfield 15, 3) := by decide +kernel
theorem dX8_isOven_9 : decode cX8_isOven 9 = .ok (.arraylength, 1) := by decide +kernel
theorem dX8_isOven_10 : decode cX8_isOven 10 = .ok (.if_icmp .ge 7, 3) := by decide +kernel
theorem dX8_isOven_13 : decode cX8_isOven 13 = .ok (.iconst 1, 1) := by decide +kernel
theorem dX8_isOven_14 : decode cX8_isOven 14 = .ok (.goto 4, 3) := by decide +kernel
theorem dX8_isOven_17 : decode cX8_isOven 17 = .ok (.iconst 0, 1) := by decide +kernel
theorem dX8_isOven_18 : decode cX8_isOven 18 = .ok (.ireturn, 1) := by decide +kernel
theorem dX8_heatOf_0 : decode cX8_heatOf 0 = .ok (.aload_n 0, 1) := by decide +kernel
theorem dX8_heatOf_1 : decode cX8_heatOf 1 = .ok (.iload_n 1, 1) := by decide +kernel
theorem dX8_heatOf_2 : decode cX8_heatOf 2 = .ok (.invokevirtual 82, 3) := by decide +kernel
theorem dX8_heatOf_5 : decode cX8_heatOf 5 = .ok (.ifCond .eq 12, 3) := by decide +kernel
theorem dX8_heatOf_8 : decode cX8_heatOf 8 = .ok (.aload_n 0, 1) := by decide +kernel
theorem dX8_heatOf_9 : decode cX8_heatOf 9 = .ok (.getfield 15, 3) := by decide +kernel
theorem dX8_heatOf_12 : decode cX8_heatOf 12 = .ok (.iload_n 1, 1) := by decide +kernel
theorem dX8_heatOf_13 : decode cX8_heatOf 13 = .ok (.iaload, 1) := by decide +kernel
theorem dX8_heatOf_14 : decode cX8_heatOf 14 = .ok (.goto 4, 3) := by decide +kernel
theorem dX8_heatOf_17 : decode cX8_heatOf 17 = .ok (.iconst 0, 1) := by decide +kernel
theorem dX8_heatOf_18 : decode cX8_heatOf 18 = .ok (.ireturn, 1) := by decide +kernel
theorem dX8_find_0 : decode cX8_find 0 = .ok (.iload_n 1, 1) := by decide +kernel
theorem dX8_find_1 : decode cX8_find 1 = .ok (.ifCond .lt 21, 3) := by decide +kernel
theorem dX8_find_4 : decode cX8_find 4 = .ok (.iload_n 1, 1) := by decide +kernel
theorem dX8_find_5 : decode cX8_find 5 = .ok (.aload_n 0, 1) := by decide +kernel
theorem dX8_find_6 : decode cX8_find 6 = .ok (.getfield 11, 3) := by decide +kernel
theorem dX8_find_9 : decode cX8_find 9 = .ok (.arraylength, 1) := by decide +kernel
theorem dX8_find_10 : decode cX8_find 10 = .ok (.if_icmp .ge 12, 3) := by decide +kernel
theorem dX8_find_13 : decode cX8_find 13 = .ok (.aload_n 0, 1) := by decide +kernel
theorem dX8_find_14 : decode cX8_find 14 = .ok (.getfield 11, 3) := by decide +kernel
theorem dX8_find_17 : decode cX8_find 17 = .ok (.iload_n 1, 1) := by decide +kernel
theorem dX8_find_18 : decode cX8_find 18 = .ok (.aaload, 1) := by decide +kernel
theorem dX8_find_19 : decode cX8_find 19 = .ok (.goto 4, 3) := by decide +kernel
theorem dX8_find_22 : decode cX8_find 22 = .ok (.aconst_null, 1) := by decide +kernel
theorem dX8_find_23 : decode cX8_find 23 = .ok (.areturn, 1) := by decide +kernel
theorem dX8_knead_0 : decode cX8_knead 0 = .ok (.iload_n 1, 1) := by decide +kernel
theorem dX8_knead_1 : decode cX8_knead 1 = .ok (.tableswitch 123 1 6 #[39, 53, 67, 81, 95, 109], 39) := by decide +kernel
theorem dX8_knead_40 : decode cX8_knead 40 = .ok (.new 135, 3) := by decide +kernel
theorem dX8_knead_43 : decode cX8_knead 43 = .ok (.dup, 1) := by decide +kernel
theorem dX8_knead_44 : decode cX8_knead 44 = .ok (.iload_n 1, 1) := by decide +kernel
theorem dX8_knead_45 : decode cX8_knead 45 = .ok (.iload_n 2, 1) := by decide +kernel
theorem dX8_knead_46 : decode cX8_knead 46 = .ok (.aload_n 0, 1) := by decide +kernel
theorem dX8_knead_47 : decode cX8_knead 47 = .ok (.getfield 22, 3) := by decide +kernel
theorem dX8_knead_50 : decode cX8_knead 50 = .ok (.invokespecial 137, 3) := by decide +kernel
theorem dX8_knead_53 : decode cX8_knead 53 = .ok (.areturn, 1) := by decide +kernel
theorem dX8_knead_54 : decode cX8_knead 54 = .ok (.new 66, 3) := by decide +kernel
theorem dX8_knead_57 : decode cX8_knead 57 = .ok (.dup, 1) := by decide +kernel
theorem dX8_knead_58 : decode cX8_knead 58 = .ok (.iload_n 1, 1) := by decide +kernel
theorem dX8_knead_59 : decode cX8_knead 59 = .ok (.iload_n 2, 1) := by decide +kernel
theorem dX8_knead_60 : decode cX8_knead 60 = .ok (.aload_n 0, 1) := by decide +kernel
theorem dX8_knead_61 : decode cX8_knead 61 = .ok (.getfield 22, 3) := by decide +kernel
theorem dX8_knead_64 : decode cX8_knead 64 = .ok (.invokespecial 140, 3) := by decide +kernel
theorem dX8_knead_67 : decode cX8_knead 67 = .ok (.areturn, 1) := by decide +kernel
theorem dX8_knead_68 : decode cX8_knead 68 = .ok (.new 141, 3) := by decide +kernel
theorem dX8_knead_71 : decode cX8_knead 71 = .ok (.dup, 1) := by decide +kernel
theorem dX8_knead_72 : decode cX8_knead 72 = .ok (.iload_n 1, 1) := by decide +kernel
theorem dX8_knead_73 : decode cX8_knead 73 = .ok (.iload_n 2, 1) := by decide +kernel
theorem dX8_knead_74 : decode cX8_knead 74 = .ok (.aload_n 0, 1) := by decide +kernel
theorem dX8_knead_75 : decode cX8_knead 75 = .ok (.getfield 22, 3) := by decide +kernel
theorem dX8_knead_78 : decode cX8_knead 78 = .ok (.invokespecial 143, 3) := by decide +kernel
theorem dX8_knead_81 : decode cX8_knead 81 = .ok (.areturn, 1) := by decide +kernel
theorem dX8_knead_82 : decode cX8_knead 82 = .ok (.new 144, 3) := by decide +kernel
theorem dX8_knead_85 : decode cX8_knead 85 = .ok (.dup, 1) := by decide +kernel
theorem dX8_knead_86 : decode cX8_knead 86 = .ok (.iload_n 1, 1) := by decide +kernel
theorem dX8_knead_87 : decode cX8_knead 87 = .ok (.iload_n 2, 1) := by decide +kernel
theorem dX8_knead_88 : decode cX8_knead 88 = .ok (.aload_n 0, 1) := by decide +kernel
theorem dX8_knead_89 : decode cX8_knead 89 = .ok (.getfield 22, 3) := by decide +kernel
theorem dX8_knead_92 : decode cX8_knead 92 = .ok (.invokespecial 146, 3) := by decide +kernel
theorem dX8_knead_95 : decode cX8_knead 95 = .ok (.areturn, 1) := by decide +kernel
theorem dX8_knead_96 : decode cX8_knead 96 = .ok (.new 71, 3) := by decide +kernel
theorem dX8_knead_99 : decode cX8_knead 99 = .ok (.dup, 1) := by decide +kernel
theorem dX8_knead_100 : decode cX8_knead 100 = .ok (.iload_n 1, 1) := by decide +kernel
theorem dX8_knead_101 : decode cX8_knead 101 = .ok (.iload_n 2, 1) := by decide +kernel
theorem dX8_knead_102 : decode cX8_knead 102 = .ok (.aload_n 0, 1) := by decide +kernel
theorem dX8_knead_103 : decode cX8_knead 103 = .ok (.getfield 22, 3) := by decide +kernel
theorem dX8_knead_106 : decode cX8_knead 106 = .ok (.invokespecial 147, 3) := by decide +kernel
theorem dX8_knead_109 : decode cX8_knead 109 = .ok (.areturn, 1) := by decide +kernel
theorem dX8_knead_110 : decode cX8_knead 110 = .ok (.new 148, 3) := by decide +kernel
theorem dX8_knead_113 : decode cX8_knead 113 = .ok (.dup, 1) := by decide +kernel
theorem dX8_knead_114 : decode cX8_knead 114 = .ok (.iload_n 1, 1) := by decide +kernel
theorem dX8_knead_115 : decode cX8_knead 115 = .ok (.iload_n 2, 1) := by decide +kernel
theorem dX8_knead_116 : decode cX8_knead 116 = .ok (.aload_n 0, 1) := by decide +kernel
theorem dX8_knead_117 : decode cX8_knead 117 = .ok (.getfield 22, 3) := by decide +kernel
theorem dX8_knead_120 : decode cX8_knead 120 = .ok (.invokespecial 150, 3) := by decide +kernel
theorem dX8_knead_123 : decode cX8_knead 123 = .ok (.areturn, 1) := by decide +kernel
theorem dX8_knead_124 : decode cX8_knead 124 = .ok (.new 9, 3) := by decide +kernel
theorem dX8_knead_127 : decode cX8_knead 127 = .ok (.dup, 1) := by decide +kernel
theorem dX8_knead_128 : decode cX8_knead 128 = .ok (.iload_n 1, 1) := by decide +kernel
theorem dX8_knead_129 : decode cX8_knead 129 = .ok (.iload_n 2, 1) := by decide +kernel
theorem dX8_knead_130 : decode cX8_knead 130 = .ok (.aload_n 0, 1) := by decide +kernel
theorem dX8_knead_131 : decode cX8_knead 131 = .ok (.getfield 22, 3) := by decide +kernel
theorem dX8_knead_134 : decode cX8_knead 134 = .ok (.invokespecial 151, 3) := by decide +kernel
theorem dX8_knead_137 : decode cX8_knead 137 = .ok (.areturn, 1) := by decide +kernel
theorem dX8_howMany_0 : decode cX8_howMany 0 = .ok (.iconst 0, 1) := by decide +kernel
theorem dX8_howMany_1 : decode cX8_howMany 1 = .ok (.istore_n 2, 1) := by decide +kernel
theorem dX8_howMany_2 : decode cX8_howMany 2 = .ok (.aload_n 0, 1) := by decide +kernel
theorem dX8_howMany_3 : decode cX8_howMany 3 = .ok (.getfield 11, 3) := by decide +kernel
theorem dX8_howMany_6 : decode cX8_howMany 6 = .ok (.astore_n 3, 1) := by decide +kernel
theorem dX8_howMany_7 : decode cX8_howMany 7 = .ok (.aload_n 3, 1) := by decide +kernel
theorem dX8_howMany_8 : decode cX8_howMany 8 = .ok (.arraylength, 1) := by decide +kernel
theorem dX8_howMany_9 : decode cX8_howMany 9 = .ok (.istore 4, 2) := by decide +kernel
theorem dX8_howMany_11 : decode cX8_howMany 11 = .ok (.iconst 0, 1) := by decide +kernel
theorem dX8_howMany_12 : decode cX8_howMany 12 = .ok (.istore 5, 2) := by decide +kernel
theorem dX8_howMany_14 : decode cX8_howMany 14 = .ok (.iload 5, 2) := by decide +kernel
theorem dX8_howMany_16 : decode cX8_howMany 16 = .ok (.iload 4, 2) := by decide +kernel
theorem dX8_howMany_18 : decode cX8_howMany 18 = .ok (.if_icmp .ge 32, 3) := by decide +kernel
theorem dX8_howMany_21 : decode cX8_howMany 21 = .ok (.aload_n 3, 1) := by decide +kernel
theorem dX8_howMany_22 : decode cX8_howMany 22 = .ok (.iload 5, 2) := by decide +kernel
theorem dX8_howMany_24 : decode cX8_howMany 24 = .ok (.aaload, 1) := by decide +kernel
theorem dX8_howMany_25 : decode cX8_howMany 25 = .ok (.astore 6, 2) := by decide +kernel
theorem dX8_howMany_27 : decode cX8_howMany 27 = .ok (.aload 6, 2) := by decide +kernel
theorem dX8_howMany_29 : decode cX8_howMany 29 = .ok (.ifnull 15, 3) := by decide +kernel
theorem dX8_howMany_32 : decode cX8_howMany 32 = .ok (.aload 6, 2) := by decide +kernel
theorem dX8_howMany_34 : decode cX8_howMany 34 = .ok (.getfield 89, 3) := by decide +kernel
theorem dX8_howMany_37 : decode cX8_howMany 37 = .ok (.iload_n 1, 1) := by decide +kernel
theorem dX8_howMany_38 : decode cX8_howMany 38 = .ok (.if_icmp .ne 6, 3) := by decide +kernel
theorem dX8_howMany_41 : decode cX8_howMany 41 = .ok (.iinc 2 1, 3) := by decide +kernel
theorem dX8_howMany_44 : decode cX8_howMany 44 = .ok (.iinc 5 1, 3) := by decide +kernel
theorem dX8_howMany_47 : decode cX8_howMany 47 = .ok (.goto (-33), 3) := by decide +kernel
theorem dX8_howMany_50 : decode cX8_howMany 50 = .ok (.iload_n 2, 1) := by decide +kernel
theorem dX8_howMany_51 : decode cX8_howMany 51 = .ok (.ireturn, 1) := by decide +kernel
theorem dX8_massIn_0 : decode cX8_massIn 0 = .ok (.iconst 0, 1) := by decide +kernel
theorem dX8_massIn_1 : decode cX8_massIn 1 = .ok (.istore_n 2, 1) := by decide +kernel
theorem dX8_massIn_2 : decode cX8_massIn 2 = .ok (.aload_n 0, 1) := by decide +kernel
theorem dX8_massIn_3 : decode cX8_massIn 3 = .ok (.getfield 11, 3) := by decide +kernel
theorem dX8_massIn_6 : decode cX8_massIn 6 = .ok (.astore_n 3, 1) := by decide +kernel
theorem dX8_massIn_7 : decode cX8_massIn 7 = .ok (.aload_n 3, 1) := by decide +kernel
theorem dX8_massIn_8 : decode cX8_massIn 8 = .ok (.arraylength, 1) := by decide +kernel
theorem dX8_massIn_9 : decode cX8_massIn 9 = .ok (.istore 4, 2) := by decide +kernel
theorem dX8_massIn_11 : decode cX8_massIn 11 = .ok (.iconst 0, 1) := by decide +kernel
theorem dX8_massIn_12 : decode cX8_massIn 12 = .ok (.istore 5, 2) := by decide +kernel
theorem dX8_massIn_14 : decode cX8_massIn 14 = .ok (.iload 5, 2) := by decide +kernel
theorem dX8_massIn_16 : decode cX8_massIn 16 = .ok (.iload 4, 2) := by decide +kernel
theorem dX8_massIn_18 : decode cX8_massIn 18 = .ok (.if_icmp .ge 46, 3) := by decide +kernel
theorem dX8_massIn_21 : decode cX8_massIn 21 = .ok (.aload_n 3, 1) := by decide +kernel
theorem dX8_massIn_22 : decode cX8_massIn 22 = .ok (.iload 5, 2) := by decide +kernel
theorem dX8_massIn_24 : decode cX8_massIn 24 = .ok (.aaload, 1) := by decide +kernel
theorem dX8_massIn_25 : decode cX8_massIn 25 = .ok (.astore 6, 2) := by decide +kernel
theorem dX8_massIn_27 : decode cX8_massIn 27 = .ok (.aload 6, 2) := by decide +kernel
theorem dX8_massIn_29 : decode cX8_massIn 29 = .ok (.ifnull 29, 3) := by decide +kernel
theorem dX8_massIn_32 : decode cX8_massIn 32 = .ok (.aload 6, 2) := by decide +kernel
theorem dX8_massIn_34 : decode cX8_massIn 34 = .ok (.getfield 89, 3) := by decide +kernel
theorem dX8_massIn_37 : decode cX8_massIn 37 = .ok (.iconst 1, 1) := by decide +kernel
theorem dX8_massIn_38 : decode cX8_massIn 38 = .ok (.if_icmp .ne 20, 3) := by decide +kernel
theorem dX8_massIn_41 : decode cX8_massIn 41 = .ok (.aload 6, 2) := by decide +kernel
theorem dX8_massIn_43 : decode cX8_massIn 43 = .ok (.getfield 96, 3) := by decide +kernel
theorem dX8_massIn_46 : decode cX8_massIn 46 = .ok (.iload_n 1, 1) := by decide +kernel
theorem dX8_massIn_47 : decode cX8_massIn 47 = .ok (.if_icmp .ne 11, 3) := by decide +kernel
theorem dX8_massIn_50 : decode cX8_massIn 50 = .ok (.iload_n 2, 1) := by decide +kernel
theorem dX8_massIn_51 : decode cX8_massIn 51 = .ok (.aload 6, 2) := by decide +kernel
theorem dX8_massIn_53 : decode cX8_massIn 53 = .ok (.getfield 111, 3) := by decide +kernel
theorem dX8_massIn_56 : decode cX8_massIn 56 = .ok (.iadd, 1) := by decide +kernel
theorem dX8_massIn_57 : decode cX8_massIn 57 = .ok (.istore_n 2, 1) := by decide +kernel
theorem dX8_massIn_58 : decode cX8_massIn 58 = .ok (.iinc 5 1, 3) := by decide +kernel
theorem dX8_massIn_61 : decode cX8_massIn 61 = .ok (.goto (-47), 3) := by decide +kernel
theorem dX8_massIn_64 : decode cX8_massIn 64 = .ok (.iload_n 2, 1) := by decide +kernel
theorem dX8_massIn_65 : decode cX8_massIn 65 = .ok (.ireturn, 1) := by decide +kernel
theorem dJ9_max_7cf53_0 : decode cJ9_max_7cf53 0 = .ok (.iload_n 0, 1) := by decide +kernel
theorem dJ9_max_7cf53_1 : decode cJ9_max_7cf53 1 = .ok (.iload_n 1, 1) := by decide +kernel
theorem dJ9_max_7cf53_2 : decode cJ9_max_7cf53 2 = .ok (.if_icmp .lt 7, 3) := by decide +kernel
theorem dJ9_max_7cf53_5 : decode cJ9_max_7cf53 5 = .ok (.iload_n 0, 1) := by decide +kernel
theorem dJ9_max_7cf53_6 : decode cJ9_max_7cf53 6 = .ok (.goto 4, 3) := by decide +kernel
theorem dJ9_max_7cf53_9 : decode cJ9_max_7cf53 9 = .ok (.iload_n 1, 1) := by decide +kernel
theorem dJ9_max_7cf53_10 : decode cJ9_max_7cf53 10 = .ok (.ireturn, 1) := by decide +kernel
