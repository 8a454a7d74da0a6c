theorem dX0_init_0 : decode cX0_init 0 = .ok (.aload_n 0, 1) := by decide +kernel
theorem dX0_init_1 : decode cX0_init 1 = .ok (.invokespecial 3, 3) := by decide +kernel
theorem dX0_init_4 : decode cX0_init 4 = .ok (.aload_n 0, 1) := by decide +kernel
theorem dX0_init_5 : decode cX0_init 5 = .ok (.bipush 16, 2) := by decide +kernel
theorem dX0_init_7 : decode cX0_init 7 = .ok (.newarray .int, 2) := by decide +kernel
theorem dX0_init_9 : decode cX0_init 9 = .ok (.putfield 9, 3) := by decide +kernel
theorem dX0_init_12 : decode cX0_init 12 = .ok (.return_, 1) := by decide +kernel
theorem dX0_turnTo_0 : decode cX0_turnTo 0 = .ok (.aload_n 0, 1) := by decide +kernel
theorem dX0_turnTo_1 : decode cX0_turnTo 1 = .ok (.iconst 0, 1) := by decide +kernel
theorem dX0_turnTo_2 : decode cX0_turnTo 2 = .ok (.putfield 15, 3) := by decide +kernel
theorem dX0_turnTo_5 : decode cX0_turnTo 5 = .ok (.aload_n 0, 1) := by decide +kernel
theorem dX0_turnTo_6 : decode cX0_turnTo 6 = .ok (.iload_n 2, 1) := by decide +kernel
theorem dX0_turnTo_7 : decode cX0_turnTo 7 = .ok (.putfield 19, 3) := by decide +kernel
theorem dX0_turnTo_10 : decode cX0_turnTo 10 = .ok (.aload_n 0, 1) := by decide +kernel
theorem dX0_turnTo_11 : decode cX0_turnTo 11 = .ok (.aload_n 1, 1) := by decide +kernel
theorem dX0_turnTo_12 : decode cX0_turnTo 12 = .ok (.getfield 22, 3) := by decide +kernel
theorem dX0_turnTo_15 : decode cX0_turnTo 15 = .ok (.iload_n 2, 1) := by decide +kernel
theorem dX0_turnTo_16 : decode cX0_turnTo 16 = .ok (.iaload, 1) := by decide +kernel
theorem dX0_turnTo_17 : decode cX0_turnTo 17 = .ok (.putfield 27, 3) := by decide +kernel
theorem dX0_turnTo_20 : decode cX0_turnTo 20 = .ok (.aload_n 0, 1) := by decide +kernel
theorem dX0_turnTo_21 : decode cX0_turnTo 21 = .ok (.aload_n 1, 1) := by decide +kernel
theorem dX0_turnTo_22 : decode cX0_turnTo 22 = .ok (.getfield 29, 3) := by decide +kernel
theorem dX0_turnTo_25 : decode cX0_turnTo 25 = .ok (.iload_n 2, 1) := by decide +kernel
theorem dX0_turnTo_26 : decode cX0_turnTo 26 = .ok (.iaload, 1) := by decide +kernel
theorem dX0_turnTo_27 : decode cX0_turnTo 27 = .ok (.putfield 32, 3) := by decide +kernel
theorem dX0_turnTo_30 : decode cX0_turnTo 30 = .ok (.return_, 1) := by decide +kernel
theorem dX0_leave_0 : decode cX0_leave 0 = .ok (.aload_n 0, 1) := by decide +kernel
theorem dX0_leave_1 : decode cX0_leave 1 = .ok (.getfield 15, 3) := by decide +kernel
theorem dX0_leave_4 : decode cX0_leave 4 = .ok (.bipush 16, 2) := by decide +kernel
theorem dX0_leave_6 : decode cX0_leave 6 = .ok (.if_icmp .ge 23, 3) := by decide +kernel
theorem dX0_leave_9 : decode cX0_leave 9 = .ok (.aload_n 0, 1) := by decide +kernel
theorem dX0_leave_10 : decode cX0_leave 10 = .ok (.getfield 9, 3) := by decide +kernel
theorem dX0_leave_13 : decode cX0_leave 13 = .ok (.aload_n 0, 1) := by decide +kernel
theorem dX0_leave_14 : decode cX0_leave 14 = .ok (.getfield 15, 3) := by decide +kernel
theorem dX0_leave_17 : decode cX0_leave 17 = .ok (.iload_n 1, 1) := by decide +kernel
theorem dX0_leave_18 : decode cX0_leave 18 = .ok (.iastore, 1) := by decide +kernel
theorem dX0_leave_19 : decode cX0_leave 19 = .ok (.aload_n 0, 1) := by decide +kernel
theorem dX0_leave_20 : decode cX0_leave 20 = .ok (.dup, 1) := by decide +kernel
theorem dX0_leave_21 : decode cX0_leave 21 = .ok (.getfield 15, 3) := by decide +kernel
theorem dX0_leave_24 : decode cX0_leave 24 = .ok (.iconst 1, 1) := by decide +kernel
theorem dX0_leave_25 : decode cX0_leave 25 = .ok (.iadd, 1) := by decide +kernel
theorem dX0_leave_26 : decode cX0_leave 26 = .ok (.putfield 15, 3) := by decide +kernel
theorem dX0_leave_29 : decode cX0_leave 29 = .ok (.return_, 1) := by decide +kernel
theorem dX1_init_0 : decode cX1_init 0 = .ok (.aload_n 0, 1) := by decide +kernel
theorem dX1_init_1 : decode cX1_init 1 = .ok (.invokespecial 1, 3) := by decide +kernel
theorem dX1_init_4 : decode cX1_init 4 = .ok (.return_, 1) := by decide +kernel
theorem dX1_climb_0 : decode cX1_climb 0 = .ok (.aload_n 1, 1) := by decide +kernel
theorem dX1_climb_1 : decode cX1_climb 1 = .ok (.iload_n 2, 1) := by decide +kernel
theorem dX1_climb_2 : decode cX1_climb 2 = .ok (.invokevirtual 7, 3) := by decide +kernel
theorem dX1_climb_5 : decode cX1_climb 5 = .ok (.pop, 1) := by decide +kernel
theorem dX1_climb_6 : decode cX1_climb 6 = .ok (.return_, 1) := by decide +kernel
theorem dX1_tellSize_0 : decode cX1_tellSize 0 = .ok (.aload_n 1, 1) := by decide +kernel
theorem dX1_tellSize_1 : decode cX1_tellSize 1 = .ok (.bipush 11, 2) := by decide +kernel
theorem dX1_tellSize_3 : decode cX1_tellSize 3 = .ok (.invokevirtual 13, 3) := by decide +kernel
theorem dX1_tellSize_6 : decode cX1_tellSize 6 = .ok (.aload_n 0, 1) := by decide +kernel
theorem dX1_tellSize_7 : decode cX1_tellSize 7 = .ok (.aload_n 1, 1) := by decide +kernel
theorem dX1_tellSize_8 : decode cX1_tellSize 8 = .ok (.invokespecial 19, 3) := by decide +kernel
theorem dX1_tellSize_11 : decode cX1_tellSize 11 = .ok (.istore_n 2, 1) := by decide +kernel
theorem dX1_tellSize_12 : decode cX1_tellSize 12 = .ok (.iload_n 2, 1) := by decide +kernel
theorem dX1_tellSize_13 : decode cX1_tellSize 13 = .ok (.aload_n 0, 1) := by decide +kernel
theorem dX1_tellSize_14 : decode cX1_tellSize 14 = .ok (.aload_n 1, 1) := by decide +kernel
theorem dX1_tellSize_15 : decode cX1_tellSize 15 = .ok (.invokevirtual 23, 3) := by decide +kernel
theorem dX1_tellSize_18 : decode cX1_tellSize 18 = .ok (.iadd, 1) := by decide +kernel
theorem dX1_tellSize_19 : decode cX1_tellSize 19 = .ok (.ireturn, 1) := by decide +kernel
theorem dX1_tellMark_0 : decode cX1_tellMark 0 = .ok (.aload_n 1, 1) := by decide +kernel
theorem dX1_tellMark_1 : decode cX1_tellMark 1 = .ok (.bipush 21, 2) := by decide +kernel
theorem dX1_tellMark_3 : decode cX1_tellMark 3 = .ok (.invokevirtual 13, 3) := by decide +kernel
theorem dX1_tellMark_6 : decode cX1_tellMark 6 = .ok (.aload_n 0, 1) := by decide +kernel
theorem dX1_tellMark_7 : decode cX1_tellMark 7 = .ok (.aload_n 1, 1) := by decide +kernel
theorem dX1_tellMark_8 : decode cX1_tellMark 8 = .ok (.invokespecial 28, 3) := by decide +kernel
theorem dX1_tellMark_11 : decode cX1_tellMark 11 = .ok (.aload_n 1, 1) := by decide +kernel
theorem dX1_tellMark_12 : decode cX1_tellMark 12 = .ok (.getfield 29, 3) := by decide +kernel
theorem dX1_tellMark_15 : decode cX1_tellMark 15 = .ok (.iadd, 1) := by decide +kernel
theorem dX1_tellMark_16 : decode cX1_tellMark 16 = .ok (.ireturn, 1) := by decide +kernel
theorem dX2_init_0 : decode cX2_init 0 = .ok (.aload_n 0, 1) := by decide +kernel
theorem dX2_init_1 : decode cX2_init 1 = .ok (.invokespecial 1, 3) := by decide +kernel
theorem dX2_init_4 : decode cX2_init 4 = .ok (.return_, 1) := by decide +kernel
theorem dX2_climb_0 : decode cX2_climb 0 = .ok (.aload_n 1, 1) := by decide +kernel
theorem dX2_climb_1 : decode cX2_climb 1 = .ok (.getfield 7, 3) := by decide +kernel
theorem dX2_climb_4 : decode cX2_climb 4 = .ok (.iconst 2, 1) := by decide +kernel
theorem dX2_climb_5 : decode cX2_climb 5 = .ok (.irem, 1) := by decide +kernel
theorem dX2_climb_6 : decode cX2_climb 6 = .ok (.ifCond .ne 9, 3) := by decide +kernel
theorem dX2_climb_9 : decode cX2_climb 9 = .ok (.aload_n 1, 1) := by decide +kernel
theorem dX2_climb_10 : decode cX2_climb 10 = .ok (.iload_n 2, 1) := by decide +kernel
theorem dX2_climb_11 : decode cX2_climb 11 = .ok (.invokevirtual 13, 3) := by decide +kernel
theorem dX2_climb_14 : decode cX2_climb 14 = .ok (.pop, 1) := by decide +kernel
theorem dX2_climb_15 : decode cX2_climb 15 = .ok (.return_, 1) := by decide +kernel
theorem dX2_tellMark_0 : decode cX2_tellMark 0 = .ok (.aload_n 1, 1) := by decide +kernel
theorem dX2_tellMark_1 : decode cX2_tellMark 1 = .ok (.bipush 22, 2) := by decide +kernel
theorem dX2_tellMark_3 : decode cX2_tellMark 3 = .ok (.invokevirtual 17, 3) := by decide +kernel
theorem dX2_tellMark_6 : decode cX2_tellMark 6 = .ok (.aload_n 0, 1) := by decide +kernel
theorem dX2_tellMark_7 : decode cX2_tellMark 7 = .ok (.aload_n 1, 1) := by decide +kernel
theorem dX2_tellMark_8 : decode cX2_tellMark 8 = .ok (.invokespecial 23, 3) := by decide +kernel
theorem dX2_tellMark_11 : decode cX2_tellMark 11 = .ok (.sipush 1000, 3) := by decide +kernel
theorem dX2_tellMark_14 : decode cX2_tellMark 14 = .ok (.isub, 1) := by decide +kernel
theorem dX2_tellMark_15 : decode cX2_tellMark 15 = .ok (.ireturn, 1) := by decide +kernel
theorem dX3_init_0 : decode cX3_init 0 = .ok (.aload_n 0, 1) := by decide +kernel
theorem dX3_init_1 : decode cX3_init 1 = .ok (.invokespecial 1, 3) := by decide +kernel
theorem dX3_init_4 : decode cX3_init 4 = .ok (.return_, 1) := by decide +kernel
theorem dX3_climb_0 : decode cX3_climb 0 = .ok (.aload_n 1, 1) := by decide +kernel
theorem dX3_climb_1 : decode cX3_climb 1 = .ok (.iload_n 2, 1) := by decide +kernel
theorem dX3_climb_2 : decode cX3_climb 2 = .ok (.invokevirtual 7, 3) := by decide +kernel
theorem dX3_climb_5 : decode cX3_climb 5 = .ok (.ifCond .eq 9, 3) := by decide +kernel
theorem dX3_climb_8 : decode cX3_climb 8 = .ok (.aload_n 1, 1) := by decide +kernel
theorem dX3_climb_9 : decode cX3_climb 9 = .ok (.iload_n 2, 1) := by decide +kernel
theorem dX3_climb_10 : decode cX3_climb 10 = .ok (.invokevirtual 7, 3) := by decide +kernel
theorem dX3_climb_13 : decode cX3_climb 13 = .ok (.pop, 1) := by decide +kernel
theorem dX3_climb_14 : decode cX3_climb 14 = .ok (.return_, 1) := by decide +kernel
theorem dX3_tellSize_0 : decode cX3_tellSize 0 = .ok (.aload_n 1, 1) := by decide +kernel
theorem dX3_tellSize_1 : decode cX3_tellSize 1 = .ok (.bipush 12, 2) := by decide +kernel
theorem dX3_tellSize_3 : decode cX3_tellSize 3 = .ok (.invokevirtual 13, 3) := by decide +kernel
theorem dX3_tellSize_6 : decode cX3_tellSize 6 = .ok (.aload_n 0, 1) := by decide +kernel
theorem dX3_tellSize_7 : decode cX3_tellSize 7 = .ok (.aload_n 1, 1) := by decide +kernel
theorem dX3_tellSize_8 : decode cX3_tellSize 8 = .ok (.invokespecial 19, 3) := by decide +kernel
theorem dX3_tellSize_11 : decode cX3_tellSize 11 = .ok (.ineg, 1) := by decide +kernel
theorem dX3_tellSize_12 : decode cX3_tellSize 12 = .ok (.ireturn, 1) := by decide +kernel
theorem dX3_tellMark_0 : decode cX3_tellMark 0 = .ok (.aload_n 1, 1) := by decide +kernel
theorem dX3_tellMark_1 : decode cX3_tellMark 1 = .ok (.bipush 24, 2) := by decide +kernel
theorem dX3_tellMark_3 : decode cX3_tellMark 3 = .ok (.invokevirtual 13, 3) := by decide +kernel
theorem dX3_tellMark_6 : decode cX3_tellMark 6 = .ok (.iconst 2, 1) := by decide +kernel
theorem dX3_tellMark_7 : decode cX3_tellMark 7 = .ok (.aload_n 0, 1) := by decide +kernel
theorem dX3_tellMark_8 : decode cX3_tellMark 8 = .ok (.aload_n 1, 1) := by decide +kernel
theorem dX3_tellMark_9 : decode cX3_tellMark 9 = .ok (.invokespecial 23, 3) := by decide +kernel
theorem dX3_tellMark_12 : decode cX3_tellMark 12 = .ok (.imul, 1) := by decide +kernel
theorem dX3_tellMark_13 : decode cX3_tellMark 13 = .ok (.ireturn, 1) := by decide +kernel
theorem dX4_init_0 : decode cX4_init 0 = .ok (.aload_n 0, 1) := by decide +kernel
theorem dX4_init_1 : decode cX4_init 1 = .ok (.invokespecial 1, 3) := by decide +kernel
theorem dX4_init_4 : decode cX4_init 4 = .ok (.return_, 1) := by decide +kernel
theorem dX4_climb_0 : decode cX4_climb 0 = .ok (.aload_n 1, 1) := by decide +kernel
theorem dX4_climb_1 : decode cX4_climb 1 = .ok (.iload_n 2, 1) := by decide +kernel
theorem dX4_climb_2 : decode cX4_climb 2 = .ok (.invokevirtual 7, 3) := by decide +kernel
theorem dX4_climb_5 : decode cX4_climb 5 = .ok (.aload_n 1, 1) := by decide +kernel
theorem dX4_climb_6 : decode cX4_climb 6 = .ok (.iload_n 2, 1) := by decide +kernel
theorem dX4_climb_7 : decode cX4_climb 7 = .ok (.invokevirtual 13, 3) := by decide +kernel
theorem dX4_climb_10 : decode cX4_climb 10 = .ok (.ifCond .eq 12, 3) := by decide +kernel
theorem dX4_climb_13 : decode cX4_climb 13 = .ok (.aload_n 1, 1) := by decide +kernel
theorem dX4_climb_14 : decode cX4_climb 14 = .ok (.iload_n 2, 1) := by decide +kernel
theorem dX4_climb_15 : decode cX4_climb 15 = .ok (.invokevirtual 17, 3) := by decide +kernel
theorem dX4_climb_18 : decode cX4_climb 18 = .ok (.pop, 1) := by decide +kernel
theorem dX4_climb_19 : decode cX4_climb 19 = .ok (.goto 8, 3) := by decide +kernel
theorem dX4_climb_22 : decode cX4_climb 22 = .ok (.aload_n 1, 1) := by decide +kernel
theorem dX4_climb_23 : decode cX4_climb 23 = .ok (.iload_n 2, 1) := by decide +kernel
theorem dX4_climb_24 : decode cX4_climb 24 = .ok (.invokevirtual 20, 3) := by decide +kernel
theorem dX4_climb_27 : decode cX4_climb 27 = .ok (.return_, 1) := by decide +kernel
theorem dX4_tellSize_0 : decode cX4_tellSize 0 = .ok (.aload_n 1, 1) := by decide +kernel
theorem dX4_tellSize_1 : decode cX4_tellSize 1 = .ok (.bipush 13, 2) := by decide +kernel
theorem dX4_tellSize_3 : decode cX4_tellSize 3 = .ok (.invokevirtual 23, 3) := by decide +kernel
theorem dX4_tellSize_6 : decode cX4_tellSize 6 = .ok (.aload_n 0, 1) := by decide +kernel
theorem dX4_tellSize_7 : decode cX4_tellSize 7 = .ok (.aload_n 1, 1) := by decide +kernel
theorem dX4_tellSize_8 : decode cX4_tellSize 8 = .ok (.invokespecial 28, 3) := by decide +kernel
theorem dX4_tellSize_11 : decode cX4_tellSize 11 = .ok (.bipush 100, 2) := by decide +kernel
theorem dX4_tellSize_13 : decode cX4_tellSize 13 = .ok (.isub, 1) := by decide +kernel
theorem dX4_tellSize_14 : decode cX4_tellSize 14 = .ok (.ireturn, 1) := by decide +kernel
theorem dX4_tellMark_0 : decode cX4_tellMark 0 = .ok (.aload_n 1, 1) := by decide +kernel
theorem dX4_tellMark_1 : decode cX4_tellMark 1 = .ok (.bipush 23, 2) := by decide +kernel
theorem dX4_tellMark_3 : decode cX4_tellMark 3 = .ok (.invokevirtual 23, 3) := by decide +kernel
theorem dX4_tellMark_6 : decode cX4_tellMark 6 = .ok (.aload_n 0, 1) := by decide +kernel
theorem dX4_tellMark_7 : decode cX4_tellMark 7 = .ok (.aload_n 1, 1) := by decide +kernel
theorem dX4_tellMark_8 : decode cX4_tellMark 8 = .ok (.invokespecial 32, 3) := by decide +kernel
theorem dX4_tellMark_11 : decode cX4_tellMark 11 = .ok (.istore_n 2, 1) := by decide +kernel
theorem dX4_tellMark_12 : decode cX4_tellMark 12 = .ok (.iload_n 2, 1) := by decide +kernel
theorem dX4_tellMark_13 : decode cX4_tellMark 13 = .ok (.aload_n 0, 1) := by decide +kernel
theorem dX4_tellMark_14 : decode cX4_tellMark 14 = .ok (.aload_n 1, 1) := by decide +kernel
theorem dX4_tellMark_15 : decode cX4_tellMark 15 = .ok (.invokevirtual 35, 3) := by decide +kernel
theorem dX4_tellMark_18 : decode cX4_tellMark 18 = .ok (.isub, 1) := by decide +kernel
theorem dX4_tellMark_19 : decode cX4_tellMark 19 = .ok (.ireturn, 1) := by decide +kernel
theorem dX5_init_0 : decode cX5_init 0 = .ok (.aload_n 0, 1) := by decide +kernel
theorem dX5_init_1 : decode cX5_init 1 = .ok (.invokespecial 3, 3) := by decide +kernel
theorem dX5_init_4 : decode cX5_init 4 = .ok (.aload_n 0, 1) := by decide +kernel
theorem dX5_init_5 : decode cX5_init 5 = .ok (.bipush 6, 2) := by decide +kernel
theorem dX5_init_7 : decode cX5_init 7 = .ok (.newarray .int, 2) := by decide +kernel
theorem dX5_init_9 : decode cX5_init 9 = .ok (.putfield 9, 3) := by decide +kernel
theorem dX5_init_12 : decode cX5_init 12 = .ok (.aload_n 0, 1) := by decide +kernel
theorem dX5_init_13 : decode cX5_init 13 = .ok (.bipush 6, 2) := by decide +kernel
theorem dX5_init_15 : decode cX5_init 15 = .ok (.newarray .int, 2) := by decide +kernel
theorem dX5_init_17 : decode cX5_init 17 = .ok (.putfield 15, 3) := by decide +kernel
theorem dX5_init_20 : decode cX5_init 20 = .ok (.aload_n 0, 1) := by decide +kernel
theorem dX5_init_21 : decode cX5_init 21 = .ok (.bipush 9, 2) := by decide +kernel
theorem dX5_init_23 : decode cX5_init 23 = .ok (.newarray .int, 2) := by decide +kernel
theorem dX5_init_25 : decode cX5_init 25 = .ok (.putfield 18, 3) := by decide +kernel
theorem dX5_init_28 : decode cX5_init 28 = .ok (.aload_n 0, 1) := by decide +kernel
theorem dX5_init_29 : decode cX5_init 29 = .ok (.lconst 1, 1) := by decide +kernel
theorem dX5_init_30 : decode cX5_init 30 = .ok (.putfield 21, 3) := by decide +kernel
theorem dX5_init_33 : decode cX5_init 33 = .ok (.aload_n 0, 1) := by decide +kernel
theorem dX5_init_34 : decode cX5_init 34 = .ok (.new 25, 3) := by decide +kernel
theorem dX5_init_37 : decode cX5_init 37 = .ok (.dup, 1) := by decide +kernel
theorem dX5_init_38 : decode cX5_init 38 = .ok (.aload_n 1, 1) := by decide +kernel
theorem dX5_init_39 : decode cX5_init 39 = .ok (.invokespecial 27, 3) := by decide +kernel
theorem dX5_init_42 : decode cX5_init 42 = .ok (.putfield 30, 3) := by decide +kernel
theorem dX5_init_45 : decode cX5_init 45 = .ok (.aload_n 0, 1) := by decide +kernel
theorem dX5_init_46 : decode cX5_init 46 = .ok (.new 25, 3) := by decide +kernel
theorem dX5_init_49 : decode cX5_init 49 = .ok (.dup, 1) := by decide +kernel
theorem dX5_init_50 : decode cX5_init 50 = .ok (.aload_n 1, 1) := by decide +kernel
theorem dX5_init_51 : decode cX5_init 51 = .ok (.invokespecial 27, 3) := by decide +kernel
theorem dX5_init_54 : decode cX5_init 54 = .ok (.putfield 34, 3) := by decide +kernel
theorem dX5_init_57 : decode cX5_init 57 = .ok (.return_, 1) := by decide +kernel
theorem dX5_after_0 : decode cX5_after 0 = .ok (.aload_n 0, 1) := by decide +kernel
theorem dX5_after_1 : decode cX5_after 1 = .ok (.getfield 30, 3) := by decide +kernel
theorem dX5_after_4 : decode cX5_after 4 = .ok (.aload_n 1, 1) := by decide +kernel
theorem dX5_after_5 : decode cX5_after 5 = .ok (.invokevirtual 37, 3) := by decide +kernel
theorem dX5_after_8 : decode cX5_after 8 = .ok (.iconst 0, 1) := by decide +kernel
theorem dX5_after_9 : decode cX5_after 9 = .ok (.istore_n 3, 1) := by decide +kernel
theorem dX5_after_10 : decode cX5_after 10 = .ok (.iload_n 3, 1) := by decide +kernel
theorem dX5_after_11 : decode cX5_after 11 = .ok (.iload_n 2, 1) := by decide +kernel
theorem dX5_after_12 : decode cX5_after 12 = .ok (.if_icmp .ge 16, 3) := by decide +kernel
theorem dX5_after_15 : decode cX5_after 15 = .ok (.aload_n 0, 1) := by decide +kernel
theorem dX5_after_16 : decode cX5_after 16 = .ok (.getfield 30, 3) := by decide +kernel
theorem dX5_after_19 : decode cX5_after 19 = .ok (.invokevirtual 41, 3) := by decide +kernel
theorem dX5_after_22 : decode cX5_after 22 = .ok (.iinc 3 1, 3) := by decide +kernel
theorem dX5_after_25 : decode cX5_after 25 = .ok (.goto (-15), 3) := by decide +kernel
theorem dX5_after_28 : decode cX5_after 28 = .ok (.aload_n 0, 1) := by decide +kernel
theorem dX5_after_29 : decode cX5_after 29 = .ok (.getfield 30, 3) := by decide +kernel
theorem dX5_after_32 : decode cX5_after 32 = .ok (.areturn, 1) := by decide +kernel
theorem dX5_whenAbove_0 : decode cX5_whenAbove 0 = .ok (.aload_n 0, 1) := by decide +kernel
theorem dX5_whenAbove_1 : decode cX5_whenAbove 1 = .ok (.getfield 30, 3) := by decide +kernel
theorem dX5_whenAbove_4 : decode cX5_whenAbove 4 = .ok (.aload_n 1, 1) := by decide +kernel
theorem dX5_whenAbove_5 : decode cX5_whenAbove 5 = .ok (.invokevirtual 37, 3) := by decide +kernel
theorem dX5_whenAbove_8 : decode cX5_whenAbove 8 = .ok (.iconst 0, 1) := by decide +kernel
theorem dX5_whenAbove_9 : decode cX5_whenAbove 9 = .ok (.istore_n 3, 1) := by decide +kernel
theorem dX5_whenAbove_10 : decode cX5_whenAbove 10 = .ok (.iload_n 3, 1) := by decide +kernel
theorem dX5_whenAbove_11 : decode cX5_whenAbove 11 = .ok (.bipush 60, 2) := by decide +kernel
theorem dX5_whenAbove_13 : decode cX5_whenAbove 13 = .ok (.if_icmp .ge 27, 3) := by decide +kernel
theorem dX5_whenAbove_16 : decode cX5_whenAbove 16 = .ok (.aload_n 0, 1) := by decide +kernel
theorem dX5_whenAbove_17 : decode cX5_whenAbove 17 = .ok (.getfield 30, 3) := by decide +kernel
theorem dX5_whenAbove_20 : decode cX5_whenAbove 20 = .ok (.iload_n 2, 1) := by decide +kernel
theorem dX5_whenAbove_21 : decode cX5_whenAbove 21 = .ok (.invokevirtual 44, 3) := by decide +kernel
theorem dX5_whenAbove_24 : decode cX5_whenAbove 24 = .ok (.ifCond .eq 16, 3) := by decide +kernel
theorem dX5_whenAbove_27 : decode cX5_whenAbove 27 = .ok (.aload_n 0, 1) := by decide +kernel
theorem dX5_whenAbove_28 : decode cX5_whenAbove 28 = .ok (.getfield 30, 3) := by decide +kernel
theorem dX5_whenAbove_31 : decode cX5_whenAbove 31 = .ok (.invokevirtual 41, 3) := by decide +kernel
theorem dX5_whenAbove_34 : decode cX5_whenAbove 34 = .ok (.iinc 3 1, 3) := by decide +kernel
theorem dX5_whenAbove_37 : decode cX5_whenAbove 37 = .ok (.goto (-27), 3) := by decide +kernel
theorem dX5_whenAbove_40 : decode cX5_whenAbove 40 = .ok (.aload_n 0, 1) := by decide +kernel
theorem dX5_whenAbove_41 : decode cX5_whenAbove 41 = .ok (.getfield 30, 3) := by decide +kernel
theorem dX5_whenAbove_44 : decode cX5_whenAbove 44 = .ok (.iload_n 2, 1) := by decide +kernel
theorem dX5_whenAbove_45 : decode cX5_whenAbove 45 = .ok (.invokevirtual 48, 3) := by decide +kernel
theorem dX5_whenAbove_48 : decode cX5_whenAbove 48 = .ok (.ifCond .eq 18, 3) := by decide +kernel
theorem dX5_whenAbove_51 : decode cX5_whenAbove 51 = .ok (.aload_n 0, 1) := by decide +kernel
theorem dX5_whenAbove_52 : decode cX5_whenAbove 52 = .ok (.getfield 30, 3) := by decide +kernel
theorem dX5_whenAbove_55 : decode cX5_whenAbove 55 = .ok (.getfield 51, 3) := by decide +kernel
theorem dX5_whenAbove_58 : decode cX5_whenAbove 58 = .ok (.aload_n 1, 1) := by decide +kernel
theorem dX5_whenAbove_59 : decode cX5_whenAbove 59 = .ok (.getfield 51, 3) := by decide +kernel
theorem dX5_whenAbove_62 : decode cX5_whenAbove 62 = .ok (.isub, 1) := by decide +kernel
theorem dX5_whenAbove_63 : decode cX5_whenAbove 63 = .ok (.goto 5, 3) := by decide +kernel
theorem dX5_whenAbove_66 : decode cX5_whenAbove 66 = .ok (.ldc 55, 2) := by decide +kernel
theorem dX5_whenAbove_68 : decode cX5_whenAbove 68 = .ok (.ireturn, 1) := by decide +kernel
theorem dX5_whenBroken_0 : decode cX5_whenBroken 0 = .ok (.aload_n 0, 1) := by decide +kernel
theorem dX5_whenBroken_1 : decode cX5_whenBroken 1 = .ok (.getfield 30, 3) := by decide +kernel
theorem dX5_whenBroken_4 : decode cX5_whenBroken 4 = .ok (.aload_n 1, 1) := by decide +kernel
theorem dX5_whenBroken_5 : decode cX5_whenBroken 5 = .ok (.invokevirtual 37, 3) := by decide +kernel
theorem dX5_whenBroken_8 : decode cX5_whenBroken 8 = .ok (.iconst 0, 1) := by decide +kernel
theorem dX5_whenBroken_9 : decode cX5_whenBroken 9 = .ok (.istore_n 3, 1) := by decide +kernel
theorem dX5_whenBroken_10 : decode cX5_whenBroken 10 = .ok (.iload_n 3, 1) := by decide +kernel
theorem dX5_whenBroken_11 : decode cX5_whenBroken 11 = .ok (.bipush 60, 2) := by decide +kernel
theorem dX5_whenBroken_13 : decode cX5_whenBroken 13 = .ok (.if_icmp .gt 30, 3) := by decide +kernel
theorem dX5_whenBroken_16 : decode cX5_whenBroken 16 = .ok (.aload_n 0, 1) := by decide +kernel
theorem dX5_whenBroken_17 : decode cX5_whenBroken 17 = .ok (.getfield 30, 3) := by decide +kernel
theorem dX5_whenBroken_20 : decode cX5_whenBroken 20 = .ok (.invokevirtual 56, 3) := by decide +kernel
theorem dX5_whenBroken_23 : decode cX5_whenBroken 23 = .ok (.iload_n 2, 1) := by decide +kernel
theorem dX5_whenBroken_24 : decode cX5_whenBroken 24 = .ok (.iand, 1) := by decide +kernel
theorem dX5_whenBroken_25 : decode cX5_whenBroken 25 = .ok (.ifCond .eq 5, 3) := by decide +kernel
theorem dX5_whenBroken_28 : decode cX5_whenBroken 28 = .ok (.iload_n 3, 1) := by decide +kernel
theorem dX5_whenBroken_29 : decode cX5_whenBroken 29 = .ok (.ireturn, 1) := by decide +kernel
theorem dX5_whenBroken_30 : decode cX5_whenBroken 30 = .ok (.aload_n 0, 1) := by decide +kernel
theorem dX5_whenBroken_31 : decode cX5_whenBroken 31 = .ok (.getfield 30, 3) := by decide +kernel
theorem dX5_whenBroken_34 : decode cX5_whenBroken 34 = .ok (.invokevirtual 41, 3) := by decide +kernel
theorem dX5_whenBroken_37 : decode cX5_whenBroken 37 = .ok (.iinc 3 1, 3) := by decide +kernel
theorem dX5_whenBroken_40 : decode cX5_whenBroken 40 = .ok (.goto (-30), 3) := by decide +kernel
theorem dX5_whenBroken_43 : decode cX5_whenBroken 43 = .ok (.ldc 55, 2) := by decide +kernel
theorem dX5_whenBroken_45 : decode cX5_whenBroken 45 = .ok (.ireturn, 1) := by decide +kernel
theorem dX5_comesAbove_0 : decode cX5_comesAbove 0 = .ok (.iconst 0, 1) := by decide +kernel
theorem dX5_comesAbove_1 : decode cX5_comesAbove 1 = .ok (.istore_n 3, 1) := by decide +kernel
theorem dX5_comesAbove_2 : decode cX5_comesAbove 2 = .ok (.iload_n 3, 1) := by decide +kernel
theorem dX5_comesAbove_3 : decode cX5_comesAbove 3 = .ok (.iload_n 2, 1) := by decide +kernel
theorem dX5_comesAbove_4 : decode cX5_comesAbove 4 = .ok (.if_icmp .ge 27, 3) := by decide +kernel
theorem dX5_comesAbove_7 : decode cX5_comesAbove 7 = .ok (.aload_n 0, 1) := by decide +kernel
theorem dX5_comesAbove_8 : decode cX5_comesAbove 8 = .ok (.getfield 30, 3) := by decide +kernel
theorem dX5_comesAbove_11 : decode cX5_comesAbove 11 = .ok (.iload_n 1, 1) := by decide +kernel
theorem dX5_comesAbove_12 : decode cX5_comesAbove 12 = .ok (.invokevirtual 44, 3) := by decide +kernel
theorem dX5_comesAbove_15 : decode cX5_comesAbove 15 = .ok (.ifCond .eq 16, 3) := by decide +kernel
theorem dX5_comesAbove_18 : decode cX5_comesAbove 18 = .ok (.aload_n 0, 1) := by decide +kernel
theorem dX5_comesAbove_19 : decode cX5_comesAbove 19 = .ok (.getfield 30, 3) := by decide +kernel
theorem dX5_comesAbove_22 : decode cX5_comesAbove 22 = .ok (.invokevirtual 41, 3) := by decide +kernel
theorem dX5_comesAbove_25 : decode cX5_comesAbove 25 = .ok (.iinc 3 1, 3) := by decide +kernel
theorem dX5_comesAbove_28 : decode cX5_comesAbove 28 = .ok (.goto (-26), 3) := by decide +kernel
theorem dX5_comesAbove_31 : decode cX5_comesAbove 31 = .ok (.aload_n 0, 1) := by decide +kernel
theorem dX5_comesAbove_32 : decode cX5_comesAbove 32 = .ok (.getfield 30, 3) := by decide +kernel
theorem dX5_comesAbove_35 : decode cX5_comesAbove 35 = .ok (.iload_n 1, 1) := by decide +kernel
theorem dX5_comesAbove_36 : decode cX5_comesAbove 36 = .ok (.invokevirtual 48, 3) := by decide +kernel
theorem dX5_comesAbove_39 : decode cX5_comesAbove 39 = .ok (.ireturn, 1) := by decide +kernel
theorem dX5_fewestMended_0 : decode cX5_fewestMended 0 = .ok (.iconst 0, 1) := by decide +kernel
theorem dX5_fewestMended_1 : decode cX5_fewestMended 1 = .ok (.istore 4, 2) := by decide +kernel
theorem dX5_fewestMended_3 : decode cX5_fewestMended 3 = .ok (.iload 4, 2) := by decide +kernel
theorem dX5_fewestMended_5 : decode cX5_fewestMended 5 = .ok (.aload_n 1, 1) := by decide +kernel
theorem dX5_fewestMended_6 : decode cX5_fewestMended 6 = .ok (.getfield 60, 3) := by decide +kernel
theorem dX5_fewestMended_9 : decode cX5_fewestMended 9 = .ok (.if_icmp .gt 59, 3) := by decide +kernel
theorem dX5_fewestMended_12 : decode cX5_fewestMended 12 = .ok (.iconst 0, 1) := by decide +kernel
theorem dX5_fewestMended_13 : decode cX5_fewestMended 13 = .ok (.istore 5, 2) := by decide +kernel
theorem dX5_fewestMended_15 : decode cX5_fewestMended 15 = .ok (.iload 5, 2) := by decide +kernel
theorem dX5_fewestMended_17 : decode cX5_fewestMended 17 = .ok (.aload_n 1, 1) := by decide +kernel
theorem dX5_fewestMended_18 : decode cX5_fewestMended 18 = .ok (.invokevirtual 63, 3) := by decide +kernel
theorem dX5_fewestMended_21 : decode cX5_fewestMended 21 = .ok (.if_icmp .gt 41, 3) := by decide +kernel
theorem dX5_fewestMended_24 : decode cX5_fewestMended 24 = .ok (.iload 5, 2) := by decide +kernel
theorem dX5_fewestMended_26 : decode cX5_fewestMended 26 = .ok (.invokestatic 66, 3) := by decide +kernel
theorem dX5_fewestMended_29 : decode cX5_fewestMended 29 = .ok (.iload 4, 2) := by decide +kernel
theorem dX5_fewestMended_31 : decode cX5_fewestMended 31 = .ok (.if_icmp .eq 6, 3) := by decide +kernel
theorem dX5_fewestMended_34 : decode cX5_fewestMended 34 = .ok (.goto 22, 3) := by decide +kernel
theorem dX5_fewestMended_37 : decode cX5_fewestMended 37 = .ok (.aload_n 0, 1) := by decide +kernel
theorem dX5_fewestMended_38 : decode cX5_fewestMended 38 = .ok (.aload_n 1, 1) := by decide +kernel
theorem dX5_fewestMended_39 : decode cX5_fewestMended 39 = .ok (.iload 5, 2) := by decide +kernel
theorem dX5_fewestMended_41 : decode cX5_fewestMended 41 = .ok (.invokevirtual 72, 3) := by decide +kernel
theorem dX5_fewestMended_44 : decode cX5_fewestMended 44 = .ok (.aload_n 0, 1) := by decide +kernel
theorem dX5_fewestMended_45 : decode cX5_fewestMended 45 = .ok (.iload_n 2, 1) := by decide +kernel
theorem dX5_fewestMended_46 : decode cX5_fewestMended 46 = .ok (.iload_n 3, 1) := by decide +kernel
theorem dX5_fewestMended_47 : decode cX5_fewestMended 47 = .ok (.invokevirtual 76, 3) := by decide +kernel
theorem dX5_fewestMended_50 : decode cX5_fewestMended 50 = .ok (.ifCond .eq 6, 3) := by decide +kernel
theorem dX5_fewestMended_53 : decode cX5_fewestMended 53 = .ok (.iload 5, 2) := by decide +kernel
theorem dX5_fewestMended_55 : decode cX5_fewestMended 55 = .ok (.ireturn, 1) := by decide +kernel
theorem dX5_fewestMended_56 : decode cX5_fewestMended 56 = .ok (.iinc 5 1, 3) := by decide +kernel
theorem dX5_fewestMended_59 : decode cX5_fewestMended 59 = .ok (.goto (-44), 3) := by decide +kernel
theorem dX5_fewestMended_62 : decode cX5_fewestMended 62 = .ok (.iinc 4 1, 3) := by decide +kernel
theorem dX5_fewestMended_65 : decode cX5_fewestMended 65 = .ok (.goto (-62), 3) := by decide +kernel
theorem dX5_fewestMended_68 : decode cX5_fewestMended 68 = .ok (.ldc 55, 2) := by decide +kernel
theorem dX5_fewestMended_70 : decode cX5_fewestMended 70 = .ok (.ireturn, 1) := by decide +kernel
theorem dX5_tryMended_0 : decode cX5_tryMended 0 = .ok (.aload_n 0, 1) := by decide +kernel
theorem dX5_tryMended_1 : decode cX5_tryMended 1 = .ok (.getfield 30, 3) := by decide +kernel
theorem dX5_tryMended_4 : decode cX5_tryMended 4 = .ok (.aload_n 1, 1) := by decide +kernel
theorem dX5_tryMended_5 : decode cX5_tryMended 5 = .ok (.invokevirtual 37, 3) := by decide +kernel
theorem dX5_tryMended_8 : decode cX5_tryMended 8 = .ok (.iconst 1, 1) := by decide +kernel
theorem dX5_tryMended_9 : decode cX5_tryMended 9 = .ok (.istore_n 3, 1) := by decide +kernel
theorem dX5_tryMended_10 : decode cX5_tryMended 10 = .ok (.iload_n 3, 1) := by decide +kernel
theorem dX5_tryMended_11 : decode cX5_tryMended 11 = .ok (.aload_n 1, 1) := by decide +kernel
theorem dX5_tryMended_12 : decode cX5_tryMended 12 = .ok (.getfield 60, 3) := by decide +kernel
theorem dX5_tryMended_15 : decode cX5_tryMended 15 = .ok (.if_icmp .gt 31, 3) := by decide +kernel
theorem dX5_tryMended_18 : decode cX5_tryMended 18 = .ok (.iload_n 2, 1) := by decide +kernel
theorem dX5_tryMended_19 : decode cX5_tryMended 19 = .ok (.iload_n 3, 1) := by decide +kernel
theorem dX5_tryMended_20 : decode cX5_tryMended 20 = .ok (.iconst 1, 1) := by decide +kernel
theorem dX5_tryMended_21 : decode cX5_tryMended 21 = .ok (.isub, 1) := by decide +kernel
theorem dX5_tryMended_22 : decode cX5_tryMended 22 = .ok (.ishr, 1) := by decide +kernel
theorem dX5_tryMended_23 : decode cX5_tryMended 23 = .ok (.iconst 1, 1) := by decide +kernel
theorem dX5_tryMended_24 : decode cX5_tryMended 24 = .ok (.iand, 1) := by decide +kernel
theorem dX5_tryMended_25 : decode cX5_tryMended 25 = .ok (.iconst 1, 1) := by decide +kernel
theorem dX5_tryMended_26 : decode cX5_tryMended 26 = .ok (.if_icmp .ne 14, 3) := by decide +kernel
theorem dX5_tryMended_29 : decode cX5_tryMended 29 = .ok (.aload_n 0, 1) := by decide +kernel
theorem dX5_tryMended_30 : decode cX5_tryMended 30 = .ok (.getfield 30, 3) := by decide +kernel
theorem dX5_tryMended_33 : decode cX5_tryMended 33 = .ok (.getfield 80, 3) := by decide +kernel
theorem dX5_tryMended_36 : decode cX5_tryMended 36 = .ok (.iload_n 3, 1) := by decide +kernel
theorem dX5_tryMended_37 : decode cX5_tryMended 37 = .ok (.bipush 99, 2) := by decide +kernel
theorem dX5_tryMended_39 : decode cX5_tryMended 39 = .ok (.iastore, 1) := by decide +kernel
theorem dX5_tryMended_40 : decode cX5_tryMended 40 = .ok (.iinc 3 1, 3) := by decide +kernel
theorem dX5_tryMended_43 : decode cX5_tryMended 43 = .ok (.goto (-33), 3) := by decide +kernel
theorem dX5_tryMended_46 : decode cX5_tryMended 46 = .ok (.return_, 1) := by decide +kernel
theorem dX5_fewestHeld_0 : decode cX5_fewestHeld 0 = .ok (.iconst 1, 1) := by decide +kernel
theorem dX5_fewestHeld_1 : decode cX5_fewestHeld 1 = .ok (.aload_n 1, 1) := by decide +kernel
theorem dX5_fewestHeld_2 : decode cX5_fewestHeld 2 = .ok (.getfield 83, 3) := by decide +kernel
theorem dX5_fewestHeld_5 : decode cX5_fewestHeld 5 = .ok (.ishl, 1) := by decide +kernel
theorem dX5_fewestHeld_6 : decode cX5_fewestHeld 6 = .ok (.iconst 1, 1) := by decide +kernel
theorem dX5_fewestHeld_7 : decode cX5_fewestHeld 7 = .ok (.isub, 1) := by decide +kernel
theorem dX5_fewestHeld_8 : decode cX5_fewestHeld 8 = .ok (.aload_n 1, 1) := by decide +kernel
theorem dX5_fewestHeld_9 : decode cX5_fewestHeld 9 = .ok (.getfield 86, 3) := by decide +kernel
theorem dX5_fewestHeld_12 : decode cX5_fewestHeld 12 = .ok (.iconst (-1), 1) := by decide +kernel
theorem dX5_fewestHeld_13 : decode cX5_fewestHeld 13 = .ok (.ixor, 1) := by decide +kernel
theorem dX5_fewestHeld_14 : decode cX5_fewestHeld 14 = .ok (.iand, 1) := by decide +kernel
theorem dX5_fewestHeld_15 : decode cX5_fewestHeld 15 = .ok (.iconst 1, 1) := by decide +kernel
theorem dX5_fewestHeld_16 : decode cX5_fewestHeld 16 = .ok (.iload_n 2, 1) := by decide +kernel
theorem dX5_fewestHeld_17 : decode cX5_fewestHeld 17 = .ok (.ishl, 1) := by decide +kernel
theorem dX5_fewestHeld_18 : decode cX5_fewestHeld 18 = .ok (.iconst (-1), 1) := by decide +kernel
theorem dX5_fewestHeld_19 : decode cX5_fewestHeld 19 = .ok (.ixor, 1) := by decide +kernel
theorem dX5_fewestHeld_20 : decode cX5_fewestHeld 20 = .ok (.iand, 1) := by decide +kernel
theorem dX5_fewestHeld_21 : decode cX5_fewestHeld 21 = .ok (.istore 4, 2) := by decide +kernel
theorem dX5_fewestHeld_23 : decode cX5_fewestHeld 23 = .ok (.iconst 0, 1) := by decide +kernel
theorem dX5_fewestHeld_24 : decode cX5_fewestHeld 24 = .ok (.istore 5, 2) := by decide +kernel
theorem dX5_fewestHeld_26 : decode cX5_fewestHeld 26 = .ok (.iload 5, 2) := by decide +kernel
theorem dX5_fewestHeld_28 : decode cX5_fewestHeld 28 = .ok (.aload_n 1, 1) := by decide +kernel
theorem dX5_fewestHeld_29 : decode cX5_fewestHeld 29 = .ok (.getfield 83, 3) := by decide +kernel
theorem dX5_fewestHeld_32 : decode cX5_fewestHeld 32 = .ok (.if_icmp .ge 82, 3) := by decide +kernel
theorem dX5_fewestHeld_35 : decode cX5_fewestHeld 35 = .ok (.iconst 0, 1) := by decide +kernel
theorem dX5_fewestHeld_36 : decode cX5_fewestHeld 36 = .ok (.istore 6, 2) := by decide +kernel
theorem dX5_fewestHeld_38 : decode cX5_fewestHeld 38 = .ok (.iload 6, 2) := by decide +kernel
theorem dX5_fewestHeld_40 : decode cX5_fewestHeld 40 = .ok (.iload 4, 2) := by decide +kernel
theorem dX5_fewestHeld_42 : decode cX5_fewestHeld 42 = .ok (.if_icmp .gt 66, 3) := by decide +kernel
theorem dX5_fewestHeld_45 : decode cX5_fewestHeld 45 = .ok (.iload 6, 2) := by decide +kernel
theorem dX5_fewestHeld_47 : decode cX5_fewestHeld 47 = .ok (.iload 4, 2) := by decide +kernel
theorem dX5_fewestHeld_49 : decode cX5_fewestHeld 49 = .ok (.iconst (-1), 1) := by decide +kernel
theorem dX5_fewestHeld_50 : decode cX5_fewestHeld 50 = .ok (.ixor, 1) := by decide +kernel
theorem dX5_fewestHeld_51 : decode cX5_fewestHeld 51 = .ok (.iand, 1) := by decide +kernel
theorem dX5_fewestHeld_52 : decode cX5_fewestHeld 52 = .ok (.ifCond .ne 50, 3) := by decide +kernel
theorem dX5_fewestHeld_55 : decode cX5_fewestHeld 55 = .ok (.iload 6, 2) := by decide +kernel
theorem dX5_fewestHeld_57 : decode cX5_fewestHeld 57 = .ok (.invokestatic 66, 3) := by decide +kernel
theorem dX5_fewestHeld_60 : decode cX5_fewestHeld 60 = .ok (.iload 5, 2) := by decide +kernel
theorem dX5_fewestHeld_62 : decode cX5_fewestHeld 62 = .ok (.if_icmp .eq 6, 3) := by decide +kernel
theorem dX5_fewestHeld_65 : decode cX5_fewestHeld 65 = .ok (.goto 37, 3) := by decide +kernel
theorem dX5_fewestHeld_68 : decode cX5_fewestHeld 68 = .ok (.aload_n 0, 1) := by decide +kernel
theorem dX5_fewestHeld_69 : decode cX5_fewestHeld 69 = .ok (.getfield 30, 3) := by decide +kernel
theorem dX5_fewestHeld_72 : decode cX5_fewestHeld 72 = .ok (.aload_n 1, 1) := by decide +kernel
theorem dX5_fewestHeld_73 : decode cX5_fewestHeld 73 = .ok (.invokevirtual 37, 3) := by decide +kernel
theorem dX5_fewestHeld_76 : decode cX5_fewestHeld 76 = .ok (.aload_n 0, 1) := by decide +kernel
theorem dX5_fewestHeld_77 : decode cX5_fewestHeld 77 = .ok (.getfield 30, 3) := by decide +kernel
theorem dX5_fewestHeld_80 : decode cX5_fewestHeld 80 = .ok (.dup, 1) := by decide +kernel
theorem dX5_fewestHeld_81 : decode cX5_fewestHeld 81 = .ok (.getfield 86, 3) := by decide +kernel
theorem dX5_fewestHeld_84 : decode cX5_fewestHeld 84 = .ok (.iload 6, 2) := by decide +kernel
theorem dX5_fewestHeld_86 : decode cX5_fewestHeld 86 = .ok (.ior, 1) := by decide +kernel
theorem dX5_fewestHeld_87 : decode cX5_fewestHeld 87 = .ok (.putfield 86, 3) := by decide +kernel
theorem dX5_fewestHeld_90 : decode cX5_fewestHeld 90 = .ok (.aload_n 0, 1) := by decide +kernel
theorem dX5_fewestHeld_91 : decode cX5_fewestHeld 91 = .ok (.iload_n 2, 1) := by decide +kernel
theorem dX5_fewestHeld_92 : decode cX5_fewestHeld 92 = .ok (.iload_n 3, 1) := by decide +kernel
theorem dX5_fewestHeld_93 : decode cX5_fewestHeld 93 = .ok (.invokevirtual 76, 3) := by decide +kernel
theorem dX5_fewestHeld_96 : decode cX5_fewestHeld 96 = .ok (.ifCond .eq 6, 3) := by decide +kernel
theorem dX5_fewestHeld_99 : decode cX5_fewestHeld 99 = .ok (.iload 6, 2) := by decide +kernel
theorem dX5_fewestHeld_101 : decode cX5_fewestHeld 101 = .ok (.ireturn, 1) := by decide +kernel
theorem dX5_fewestHeld_102 : decode cX5_fewestHeld 102 = .ok (.iinc 6 1, 3) := by decide +kernel
theorem dX5_fewestHeld_105 : decode cX5_fewestHeld 105 = .ok (.goto (-67), 3) := by decide +kernel
theorem dX5_fewestHeld_108 : decode cX5_fewestHeld 108 = .ok (.iinc 5 1, 3) := by decide +kernel
theorem dX5_fewestHeld_111 : decode cX5_fewestHeld 111 = .ok (.goto (-85), 3) := by decide +kernel
theorem dX5_fewestHeld_114 : decode cX5_fewestHeld 114 = .ok (.ldc 55, 2) := by decide +kernel
theorem dX5_fewestHeld_116 : decode cX5_fewestHeld 116 = .ok (.ireturn, 1) := by decide +kernel
theorem dX5_seekLine_0 : decode cX5_seekLine 0 = .ok (.aload_n 0, 1) := by decide +kernel
theorem dX5_seekLine_1 : decode cX5_seekLine 1 = .ok (.getfield 89, 3) := by decide +kernel
theorem dX5_seekLine_4 : decode cX5_seekLine 4 = .ok (.iload_n 2, 1) := by decide +kernel
theorem dX5_seekLine_5 : decode cX5_seekLine 5 = .ok (.if_icmp .ne 15, 3) := by decide +kernel
theorem dX5_seekLine_8 : decode cX5_seekLine 8 = .ok (.aload_n 0, 1) := by decide +kernel
theorem dX5_seekLine_9 : decode cX5_seekLine 9 = .ok (.getfield 34, 3) := by decide +kernel
theorem dX5_seekLine_12 : decode cX5_seekLine 12 = .ok (.aload_n 1, 1) := by decide +kernel
theorem dX5_seekLine_13 : decode cX5_seekLine 13 = .ok (.invokevirtual 92, 3) := by decide +kernel
theorem dX5_seekLine_16 : decode cX5_seekLine 16 = .ok (.ifCond .eq 4, 3) := by decide +kernel
theorem dX5_seekLine_19 : decode cX5_seekLine 19 = .ok (.return_, 1) := by decide +kernel
theorem dX5_seekLine_20 : decode cX5_seekLine 20 = .ok (.aload_n 0, 1) := by decide +kernel
theorem dX5_seekLine_21 : decode cX5_seekLine 21 = .ok (.getfield 34, 3) := by decide +kernel
theorem dX5_seekLine_24 : decode cX5_seekLine 24 = .ok (.aload_n 1, 1) := by decide +kernel
theorem dX5_seekLine_25 : decode cX5_seekLine 25 = .ok (.invokevirtual 37, 3) := by decide +kernel
theorem dX5_seekLine_28 : decode cX5_seekLine 28 = .ok (.aload_n 0, 1) := by decide +kernel
theorem dX5_seekLine_29 : decode cX5_seekLine 29 = .ok (.iload_n 2, 1) := by decide +kernel
theorem dX5_seekLine_30 : decode cX5_seekLine 30 = .ok (.putfield 89, 3) := by decide +kernel
theorem dX5_seekLine_33 : decode cX5_seekLine 33 = .ok (.aload_n 0, 1) := by decide +kernel
theorem dX5_seekLine_34 : decode cX5_seekLine 34 = .ok (.iconst 0, 1) := by decide +kernel
theorem dX5_seekLine_35 : decode cX5_seekLine 35 = .ok (.putfield 96, 3) := by decide +kernel
theorem dX5_seekLine_38 : decode cX5_seekLine 38 = .ok (.iconst 0, 1) := by decide +kernel
theorem dX5_seekLine_39 : decode cX5_seekLine 39 = .ok (.istore_n 3, 1) := by decide +kernel
theorem dX5_seekLine_40 : decode cX5_seekLine 40 = .ok (.iload_n 3, 1) := by decide +kernel
theorem dX5_seekLine_41 : decode cX5_seekLine 41 = .ok (.aload_n 1, 1) := by decide +kernel
theorem dX5_seekLine_42 : decode cX5_seekLine 42 = .ok (.getfield 83, 3) := by decide +kernel
theorem dX5_seekLine_45 : decode cX5_seekLine 45 = .ok (.if_icmp .ge 46, 3) := by decide +kernel
theorem dX5_seekLine_48 : decode cX5_seekLine 48 = .ok (.aload_n 1, 1) := by decide +kernel
theorem dX5_seekLine_49 : decode cX5_seekLine 49 = .ok (.getfield 99, 3) := by decide +kernel
theorem dX5_seekLine_52 : decode cX5_seekLine 52 = .ok (.iload_n 3, 1) := by decide +kernel
theorem dX5_seekLine_53 : decode cX5_seekLine 53 = .ok (.iaload, 1) := by decide +kernel
theorem dX5_seekLine_54 : decode cX5_seekLine 54 = .ok (.ifCond .ne 31, 3) := by decide +kernel
theorem dX5_seekLine_57 : decode cX5_seekLine 57 = .ok (.aload_n 1, 1) := by decide +kernel
theorem dX5_seekLine_58 : decode cX5_seekLine 58 = .ok (.iload_n 3, 1) := by decide +kernel
theorem dX5_seekLine_59 : decode cX5_seekLine 59 = .ok (.invokevirtual 102, 3) := by decide +kernel
theorem dX5_seekLine_62 : decode cX5_seekLine 62 = .ok (.ifCond .ne 23, 3) := by decide +kernel
theorem dX5_seekLine_65 : decode cX5_seekLine 65 = .ok (.aload_n 0, 1) := by decide +kernel
theorem dX5_seekLine_66 : decode cX5_seekLine 66 = .ok (.getfield 9, 3) := by decide +kernel
theorem dX5_seekLine_69 : decode cX5_seekLine 69 = .ok (.aload_n 0, 1) := by decide +kernel
theorem dX5_seekLine_70 : decode cX5_seekLine 70 = .ok (.getfield 96, 3) := by decide +kernel
theorem dX5_seekLine_73 : decode cX5_seekLine 73 = .ok (.iload_n 3, 1) := by decide +kernel
theorem dX5_seekLine_74 : decode cX5_seekLine 74 = .ok (.iastore, 1) := by decide +kernel
theorem dX5_seekLine_75 : decode cX5_seekLine 75 = .ok (.aload_n 0, 1) := by decide +kernel
theorem dX5_seekLine_76 : decode cX5_seekLine 76 = .ok (.dup, 1) := by decide +kernel
theorem dX5_seekLine_77 : decode cX5_seekLine 77 = .ok (.getfield 96, 3) := by decide +kernel
theorem dX5_seekLine_80 : decode cX5_seekLine 80 = .ok (.iconst 1, 1) := by decide +kernel
theorem dX5_seekLine_81 : decode cX5_seekLine 81 = .ok (.iadd, 1) := by decide +kernel
theorem dX5_seekLine_82 : decode cX5_seekLine 82 = .ok (.putfield 96, 3) := by decide +kernel
theorem dX5_seekLine_85 : decode cX5_seekLine 85 = .ok (.iinc 3 1, 3) := by decide +kernel
theorem dX5_seekLine_88 : decode cX5_seekLine 88 = .ok (.goto (-48), 3) := by decide +kernel
theorem dX5_seekLine_91 : decode cX5_seekLine 91 = .ok (.aload_n 1, 1) := by decide +kernel
theorem dX5_seekLine_92 : decode cX5_seekLine 92 = .ok (.invokevirtual 105, 3) := by decide +kernel
theorem dX5_seekLine_95 : decode cX5_seekLine 95 = .ok (.aload_n 1, 1) := by decide +kernel
theorem dX5_seekLine_96 : decode cX5_seekLine 96 = .ok (.invokevirtual 108, 3) := by decide +kernel
theorem dX5_seekLine_99 : decode cX5_seekLine 99 = .ok (.iadd, 1) := by decide +kernel
theorem dX5_seekLine_100 : decode cX5_seekLine 100 = .ok (.istore_n 3, 1) := by decide +kernel
theorem dX5_seekLine_101 : decode cX5_seekLine 101 = .ok (.aload_n 0, 1) := by decide +kernel
theorem dX5_seekLine_102 : decode cX5_seekLine 102 = .ok (.iconst (-1), 1) := by decide +kernel
theorem dX5_seekLine_103 : decode cX5_seekLine 103 = .ok (.putfield 111, 3) := by decide +kernel
theorem dX5_seekLine_106 : decode cX5_seekLine 106 = .ok (.iconst 0, 1) := by decide +kernel
theorem dX5_seekLine_107 : decode cX5_seekLine 107 = .ok (.istore 4, 2) := by decide +kernel
theorem dX5_seekLine_109 : decode cX5_seekLine 109 = .ok (.iload 4, 2) := by decide +kernel
theorem dX5_seekLine_111 : decode cX5_seekLine 111 = .ok (.sipush 720, 3) := by decide +kernel
theorem dX5_seekLine_114 : decode cX5_seekLine 114 = .ok (.if_icmp .ge 67, 3) := by decide +kernel
theorem dX5_seekLine_117 : decode cX5_seekLine 117 = .ok (.aload_n 0, 1) := by decide +kernel
theorem dX5_seekLine_118 : decode cX5_seekLine 118 = .ok (.getfield 111, 3) := by decide +kernel
theorem dX5_seekLine_121 : decode cX5_seekLine 121 = .ok (.iload_n 3, 1) := by decide +kernel
theorem dX5_seekLine_122 : decode cX5_seekLine 122 = .ok (.if_icmp .ge 59, 3) := by decide +kernel
theorem dX5_seekLine_125 : decode cX5_seekLine 125 = .ok (.aload_n 0, 1) := by decide +kernel
theorem dX5_seekLine_126 : decode cX5_seekLine 126 = .ok (.aload_n 1, 1) := by decide +kernel
theorem dX5_seekLine_127 : decode cX5_seekLine 127 = .ok (.iload_n 2, 1) := by decide +kernel
theorem dX5_seekLine_128 : decode cX5_seekLine 128 = .ok (.invokevirtual 114, 3) := by decide +kernel
theorem dX5_seekLine_131 : decode cX5_seekLine 131 = .ok (.istore 5, 2) := by decide +kernel
theorem dX5_seekLine_133 : decode cX5_seekLine 133 = .ok (.iload 5, 2) := by decide +kernel
theorem dX5_seekLine_135 : decode cX5_seekLine 135 = .ok (.aload_n 0, 1) := by decide +kernel
theorem dX5_seekLine_136 : decode cX5_seekLine 136 = .ok (.getfield 111, 3) := by decide +kernel
theorem dX5_seekLine_139 : decode cX5_seekLine 139 = .ok (.if_icmp .le 26, 3) := by decide +kernel
theorem dX5_seekLine_142 : decode cX5_seekLine 142 = .ok (.aload_n 0, 1) := by decide +kernel
theorem dX5_seekLine_143 : decode cX5_seekLine 143 = .ok (.iload 5, 2) := by decide +kernel
theorem dX5_seekLine_145 : decode cX5_seekLine 145 = .ok (.putfield 111, 3) := by decide +kernel
theorem dX5_seekLine_148 : decode cX5_seekLine 148 = .ok (.aload_n 0, 1) := by decide +kernel
theorem dX5_seekLine_149 : decode cX5_seekLine 149 = .ok (.getfield 9, 3) := by decide +kernel
theorem dX5_seekLine_152 : decode cX5_seekLine 152 = .ok (.iconst 0, 1) := by decide +kernel
theorem dX5_seekLine_153 : decode cX5_seekLine 153 = .ok (.aload_n 0, 1) := by decide +kernel
theorem dX5_seekLine_154 : decode cX5_seekLine 154 = .ok (.getfield 15, 3) := by decide +kernel
theorem dX5_seekLine_157 : decode cX5_seekLine 157 = .ok (.iconst 0, 1) := by decide +kernel
theorem dX5_seekLine_158 : decode cX5_seekLine 158 = .ok (.aload_n 0, 1) := by decide +kernel
theorem dX5_seekLine_159 : decode cX5_seekLine 159 = .ok (.getfield 96, 3) := by decide +kernel
theorem dX5_seekLine_162 : decode cX5_seekLine 162 = .ok (.invokestatic 118, 3) := by decide +kernel
theorem dX5_seekLine_165 : decode cX5_seekLine 165 = .ok (.aload_n 0, 1) := by decide +kernel
theorem dX5_seekLine_166 : decode cX5_seekLine 166 = .ok (.invokevirtual 124, 3) := by decide +kernel
theorem dX5_seekLine_169 : decode cX5_seekLine 169 = .ok (.ifCond .ne 6, 3) := by decide +kernel
theorem dX5_seekLine_172 : decode cX5_seekLine 172 = .ok (.goto 9, 3) := by decide +kernel
theorem dX5_seekLine_175 : decode cX5_seekLine 175 = .ok (.iinc 4 1, 3) := by decide +kernel
theorem dX5_seekLine_178 : decode cX5_seekLine 178 = .ok (.goto (-69), 3) := by decide +kernel
theorem dX5_seekLine_181 : decode cX5_seekLine 181 = .ok (.return_, 1) := by decide +kernel
theorem dX5_aboveInOrder_0 : decode cX5_aboveInOrder 0 = .ok (.aload_n 0, 1) := by decide +kernel
theorem dX5_aboveInOrder_1 : decode cX5_aboveInOrder 1 = .ok (.getfield 30, 3) := by decide +kernel
theorem dX5_aboveInOrder_4 : decode cX5_aboveInOrder 4 = .ok (.aload_n 1, 1) := by decide +kernel
theorem dX5_aboveInOrder_5 : decode cX5_aboveInOrder 5 = .ok (.invokevirtual 37, 3) := by decide +kernel
theorem dX5_aboveInOrder_8 : decode cX5_aboveInOrder 8 = .ok (.iconst 0, 1) := by decide +kernel
theorem dX5_aboveInOrder_9 : decode cX5_aboveInOrder 9 = .ok (.istore_n 3, 1) := by decide +kernel
theorem dX5_aboveInOrder_10 : decode cX5_aboveInOrder 10 = .ok (.iload_n 3, 1) := by decide +kernel
theorem dX5_aboveInOrder_11 : decode cX5_aboveInOrder 11 = .ok (.aload_n 0, 1) := by decide +kernel
theorem dX5_aboveInOrder_12 : decode cX5_aboveInOrder 12 = .ok (.getfield 96, 3) := by decide +kernel
theorem dX5_aboveInOrder_15 : decode cX5_aboveInOrder 15 = .ok (.if_icmp .ge 29, 3) := by decide +kernel
theorem dX5_aboveInOrder_18 : decode cX5_aboveInOrder 18 = .ok (.aload_n 0, 1) := by decide +kernel
theorem dX5_aboveInOrder_19 : decode cX5_aboveInOrder 19 = .ok (.getfield 30, 3) := by decide +kernel
theorem dX5_aboveInOrder_22 : decode cX5_aboveInOrder 22 = .ok (.getfield 128, 3) := by decide +kernel
theorem dX5_aboveInOrder_25 : decode cX5_aboveInOrder 25 = .ok (.aload_n 0, 1) := by decide +kernel
theorem dX5_aboveInOrder_26 : decode cX5_aboveInOrder 26 = .ok (.getfield 9, 3) := by decide +kernel
theorem dX5_aboveInOrder_29 : decode cX5_aboveInOrder 29 = .ok (.iload_n 3, 1) := by decide +kernel
theorem dX5_aboveInOrder_30 : decode cX5_aboveInOrder 30 = .ok (.iaload, 1) := by decide +kernel
theorem dX5_aboveInOrder_31 : decode cX5_aboveInOrder 31 = .ok (.aload_n 1, 1) := by decide +kernel
theorem dX5_aboveInOrder_32 : decode cX5_aboveInOrder 32 = .ok (.getfield 51, 3) := by decide +kernel
theorem dX5_aboveInOrder_35 : decode cX5_aboveInOrder 35 = .ok (.iload_n 3, 1) := by decide +kernel
theorem dX5_aboveInOrder_36 : decode cX5_aboveInOrder 36 = .ok (.iadd, 1) := by decide +kernel
theorem dX5_aboveInOrder_37 : decode cX5_aboveInOrder 37 = .ok (.iastore, 1) := by decide +kernel
theorem dX5_aboveInOrder_38 : decode cX5_aboveInOrder 38 = .ok (.iinc 3 1, 3) := by decide +kernel
theorem dX5_aboveInOrder_41 : decode cX5_aboveInOrder 41 = .ok (.goto (-31), 3) := by decide +kernel
theorem dX5_aboveInOrder_44 : decode cX5_aboveInOrder 44 = .ok (.iconst 0, 1) := by decide +kernel
theorem dX5_aboveInOrder_45 : decode cX5_aboveInOrder 45 = .ok (.istore_n 3, 1) := by decide +kernel
theorem dX5_aboveInOrder_46 : decode cX5_aboveInOrder 46 = .ok (.iload_n 3, 1) := by decide +kernel
theorem dX5_aboveInOrder_47 : decode cX5_aboveInOrder 47 = .ok (.iload_n 2, 1) := by decide +kernel
theorem dX5_aboveInOrder_48 : decode cX5_aboveInOrder 48 = .ok (.if_icmp .ge 26, 3) := by decide +kernel
theorem dX5_aboveInOrder_51 : decode cX5_aboveInOrder 51 = .ok (.aload_n 0, 1) := by decide +kernel
theorem dX5_aboveInOrder_52 : decode cX5_aboveInOrder 52 = .ok (.getfield 30, 3) := by decide +kernel
theorem dX5_aboveInOrder_55 : decode cX5_aboveInOrder 55 = .ok (.invokevirtual 108, 3) := by decide +kernel
theorem dX5_aboveInOrder_58 : decode cX5_aboveInOrder 58 = .ok (.ifCond .le 16, 3) := by decide +kernel
theorem dX5_aboveInOrder_61 : decode cX5_aboveInOrder 61 = .ok (.aload_n 0, 1) := by decide +kernel
theorem dX5_aboveInOrder_62 : decode cX5_aboveInOrder 62 = .ok (.getfield 30, 3) := by decide +kernel
theorem dX5_aboveInOrder_65 : decode cX5_aboveInOrder 65 = .ok (.invokevirtual 41, 3) := by decide +kernel
theorem dX5_aboveInOrder_68 : decode cX5_aboveInOrder 68 = .ok (.iinc 3 1, 3) := by decide +kernel
theorem dX5_aboveInOrder_71 : decode cX5_aboveInOrder 71 = .ok (.goto (-25), 3) := by decide +kernel
theorem dX5_aboveInOrder_74 : decode cX5_aboveInOrder 74 = .ok (.aload_n 0, 1) := by decide +kernel
theorem dX5_aboveInOrder_75 : decode cX5_aboveInOrder 75 = .ok (.getfield 30, 3) := by decide +kernel
theorem dX5_aboveInOrder_78 : decode cX5_aboveInOrder 78 = .ok (.invokevirtual 105, 3) := by decide +kernel
theorem dX5_aboveInOrder_81 : decode cX5_aboveInOrder 81 = .ok (.ireturn, 1) := by decide +kernel
theorem dX5_turnToNextOrder_0 : decode cX5_turnToNextOrder 0 = .ok (.aload_n 0, 1) := by decide +kernel
theorem dX5_turnToNextOrder_1 : decode cX5_turnToNextOrder 1 = .ok (.getfield 96, 3) := by decide +kernel
theorem dX5_turnToNextOrder_4 : decode cX5_turnToNextOrder 4 = .ok (.iconst 2, 1) := by decide +kernel
theorem dX5_turnToNextOrder_5 : decode cX5_turnToNextOrder 5 = .ok (.isub, 1) := by decide +kernel
theorem dX5_turnToNextOrder_6 : decode cX5_turnToNextOrder 6 = .ok (.istore_n 1, 1) := by decide +kernel
theorem dX5_turnToNextOrder_7 : decode cX5_turnToNextOrder 7 = .ok (.iload_n 1, 1) := by decide +kernel
theorem dX5_turnToNextOrder_8 : decode cX5_turnToNextOrder 8 = .ok (.ifCond .lt 26, 3) := by decide +kernel
theorem dX5_turnToNextOrder_11 : decode cX5_turnToNextOrder 11 = .ok (.aload_n 0, 1) := by decide +kernel
theorem dX5_turnToNextOrder_12 : decode cX5_turnToNextOrder 12 = .ok (.getfield 9, 3) := by decide +kernel
theorem dX5_turnToNextOrder_15 : decode cX5_turnToNextOrder 15 = .ok (.iload_n 1, 1) := by decide +kernel
theorem dX5_turnToNextOrder_16 : decode cX5_turnToNextOrder 16 = .ok (.iaload, 1) := by decide +kernel
theorem dX5_turnToNextOrder_17 : decode cX5_turnToNextOrder 17 = .ok (.aload_n 0, 1) := by decide +kernel
theorem dX5_turnToNextOrder_18 : decode cX5_turnToNextOrder 18 = .ok (.getfield 9, 3) := by decide +kernel
theorem dX5_turnToNextOrder_21 : decode cX5_turnToNextOrder 21 = .ok (.iload_n 1, 1) := by decide +kernel
theorem dX5_turnToNextOrder_22 : decode cX5_turnToNextOrder 22 = .ok (.iconst 1, 1) := by decide +kernel
theorem dX5_turnToNextOrder_23 : decode cX5_turnToNextOrder 23 = .ok (.iadd, 1) := by decide +kernel
theorem dX5_turnToNextOrder_24 : decode cX5_turnToNextOrder 24 = .ok (.iaload, 1) := by decide +kernel
theorem dX5_turnToNextOrder_25 : decode cX5_turnToNextOrder 25 = .ok (.if_icmp .le 9, 3) := by decide +kernel
theorem dX5_turnToNextOrder_28 : decode cX5_turnToNextOrder 28 = .ok (.iinc 1 (-1), 3) := by decide +kernel
theorem dX5_turnToNextOrder_31 : decode cX5_turnToNextOrder 31 = .ok (.goto (-24), 3) := by decide +kernel
theorem dX5_turnToNextOrder_34 : decode cX5_turnToNextOrder 34 = .ok (.iload_n 1, 1) := by decide +kernel
theorem dX5_turnToNextOrder_35 : decode cX5_turnToNextOrder 35 = .ok (.ifCond .ge 5, 3) := by decide +kernel
theorem dX5_turnToNextOrder_38 : decode cX5_turnToNextOrder 38 = .ok (.iconst 0, 1) := by decide +kernel
theorem dX5_turnToNextOrder_39 : decode cX5_turnToNextOrder 39 = .ok (.ireturn, 1) := by decide +kernel
theorem dX5_turnToNextOrder_40 : decode cX5_turnToNextOrder 40 = .ok (.aload_n 0, 1) := by decide +kernel
theorem dX5_turnToNextOrder_41 : decode cX5_turnToNextOrder 41 = .ok (.getfield 96, 3) := by decide +kernel
theorem dX5_turnToNextOrder_44 : decode cX5_turnToNextOrder 44 = .ok (.iconst 1, 1) := by decide +kernel
theorem dX5_turnToNextOrder_45 : decode cX5_turnToNextOrder 45 = .ok (.isub, 1) := by decide +kernel
theorem dX5_turnToNextOrder_46 : decode cX5_turnToNextOrder 46 = .ok (.istore_n 2, 1) := by decide +kernel
theorem dX5_turnToNextOrder_47 : decode cX5_turnToNextOrder 47 = .ok (.iload_n 2, 1) := by decide +kernel
theorem dX5_turnToNextOrder_48 : decode cX5_turnToNextOrder 48 = .ok (.iload_n 1, 1) := by decide +kernel
theorem dX5_turnToNextOrder_49 : decode cX5_turnToNextOrder 49 = .ok (.if_icmp .le 24, 3) := by decide +kernel
theorem dX5_turnToNextOrder_52 : decode cX5_turnToNextOrder 52 = .ok (.aload_n 0, 1) := by decide +kernel
theorem dX5_turnToNextOrder_53 : decode cX5_turnToNextOrder 53 = .ok (.getfield 9, 3) := by decide +kernel
theorem dX5_turnToNextOrder_56 : decode cX5_turnToNextOrder 56 = .ok (.iload_n 2, 1) := by decide +kernel
theorem dX5_turnToNextOrder_57 : decode cX5_turnToNextOrder 57 = .ok (.iaload, 1) := by decide +kernel
theorem dX5_turnToNextOrder_58 : decode cX5_turnToNextOrder 58 = .ok (.aload_n 0, 1) := by decide +kernel
theorem dX5_turnToNextOrder_59 : decode cX5_turnToNextOrder 59 = .ok (.getfield 9, 3) := by decide +kernel
theorem dX5_turnToNextOrder_62 : decode cX5_turnToNextOrder 62 = .ok (.iload_n 1, 1) := by decide +kernel
theorem dX5_turnToNextOrder_63 : decode cX5_turnToNextOrder 63 = .ok (.iaload, 1) := by decide +kernel
theorem dX5_turnToNextOrder_64 : decode cX5_turnToNextOrder 64 = .ok (.if_icmp .ge 9, 3) := by decide +kernel
theorem dX5_turnToNextOrder_67 : decode cX5_turnToNextOrder 67 = .ok (.iinc 2 (-1), 3) := by decide +kernel
theorem dX5_turnToNextOrder_70 : decode cX5_turnToNextOrder 70 = .ok (.goto (-23), 3) := by decide +kernel
theorem dX5_turnToNextOrder_73 : decode cX5_turnToNextOrder 73 = .ok (.aload_n 0, 1) := by decide +kernel
theorem dX5_turnToNextOrder_74 : decode cX5_turnToNextOrder 74 = .ok (.iload_n 1, 1) := by decide +kernel
theorem dX5_turnToNextOrder_75 : decode cX5_turnToNextOrder 75 = .ok (.iload_n 2, 1) := by decide +kernel
theorem dX5_turnToNextOrder_76 : decode cX5_turnToNextOrder 76 = .ok (.invokevirtual 131, 3) := by decide +kernel
theorem dX5_turnToNextOrder_79 : decode cX5_turnToNextOrder 79 = .ok (.iload_n 1, 1) := by decide +kernel
theorem dX5_turnToNextOrder_80 : decode cX5_turnToNextOrder 80 = .ok (.iconst 1, 1) := by decide +kernel
theorem dX5_turnToNextOrder_81 : decode cX5_turnToNextOrder 81 = .ok (.iadd, 1) := by decide +kernel
theorem dX5_turnToNextOrder_82 : decode cX5_turnToNextOrder 82 = .ok (.istore_n 3, 1) := by decide +kernel
theorem dX5_turnToNextOrder_83 : decode cX5_turnToNextOrder 83 = .ok (.aload_n 0, 1) := by decide +kernel
theorem dX5_turnToNextOrder_84 : decode cX5_turnToNextOrder 84 = .ok (.getfield 96, 3) := by decide +kernel
theorem dX5_turnToNextOrder_87 : decode cX5_turnToNextOrder 87 = .ok (.iconst 1, 1) := by decide +kernel
theorem dX5_turnToNextOrder_88 : decode cX5_turnToNextOrder 88 = .ok (.isub, 1) := by decide +kernel
theorem dX5_turnToNextOrder_89 : decode cX5_turnToNextOrder 89 = .ok (.istore 4, 2) := by decide +kernel
theorem dX5_turnToNextOrder_91 : decode cX5_turnToNextOrder 91 = .ok (.iload_n 3, 1) := by decide +kernel
theorem dX5_turnToNextOrder_92 : decode cX5_turnToNextOrder 92 = .ok (.iload 4, 2) := by decide +kernel
theorem dX5_turnToNextOrder_94 : decode cX5_turnToNextOrder 94 = .ok (.if_icmp .ge 19, 3) := by decide +kernel
theorem dX5_turnToNextOrder_97 : decode cX5_turnToNextOrder 97 = .ok (.aload_n 0, 1) := by decide +kernel
theorem dX5_turnToNextOrder_98 : decode cX5_turnToNextOrder 98 = .ok (.iload_n 3, 1) := by decide +kernel
theorem dX5_turnToNextOrder_99 : decode cX5_turnToNextOrder 99 = .ok (.iload 4, 2) := by decide +kernel
theorem dX5_turnToNextOrder_101 : decode cX5_turnToNextOrder 101 = .ok (.invokevirtual 131, 3) := by decide +kernel
theorem dX5_turnToNextOrder_104 : decode cX5_turnToNextOrder 104 = .ok (.iinc 3 1, 3) := by decide +kernel
theorem dX5_turnToNextOrder_107 : decode cX5_turnToNextOrder 107 = .ok (.iinc 4 (-1), 3) := by decide +kernel
theorem dX5_turnToNextOrder_110 : decode cX5_turnToNextOrder 110 = .ok (.goto (-19), 3) := by decide +kernel
theorem dX5_turnToNextOrder_113 : decode cX5_turnToNextOrder 113 = .ok (.iconst 1, 1) := by decide +kernel
theorem dX5_turnToNextOrder_114 : decode cX5_turnToNextOrder 114 = .ok (.ireturn, 1) := by decide +kernel
theorem dX5_swapInOrder_0 : decode cX5_swapInOrder 0 = .ok (.aload_n 0, 1) := by decide +kernel
theorem dX5_swapInOrder_1 : decode cX5_swapInOrder 1 = .ok (.getfield 9, 3) := by decide +kernel
theorem dX5_swapInOrder_4 : decode cX5_swapInOrder 4 = .ok (.iload_n 1, 1) := by decide +kernel
theorem dX5_swapInOrder_5 : decode cX5_swapInOrder 5 = .ok (.iaload, 1) := by decide +kernel
theorem dX5_swapInOrder_6 : decode cX5_swapInOrder 6 = .ok (.istore_n 3, 1) := by decide +kernel
theorem dX5_swapInOrder_7 : decode cX5_swapInOrder 7 = .ok (.aload_n 0, 1) := by decide +kernel
theorem dX5_swapInOrder_8 : decode cX5_swapInOrder 8 = .ok (.getfield 9, 3) := by decide +kernel
theorem dX5_swapInOrder_11 : decode cX5_swapInOrder 11 = .ok (.iload_n 1, 1) := by decide +kernel
theorem dX5_swapInOrder_12 : decode cX5_swapInOrder 12 = .ok (.aload_n 0, 1) := by decide +kernel
theorem dX5_swapInOrder_13 : decode cX5_swapInOrder 13 = .ok (.getfield 9, 3) := by decide +kernel
theorem dX5_swapInOrder_16 : decode cX5_swapInOrder 16 = .ok (.iload_n 2, 1) := by decide +kernel
theorem dX5_swapInOrder_17 : decode cX5_swapInOrder 17 = .ok (.iaload, 1) := by decide +kernel
theorem dX5_swapInOrder_18 : decode cX5_swapInOrder 18 = .ok (.iastore, 1) := by decide +kernel
theorem dX5_swapInOrder_19 : decode cX5_swapInOrder 19 = .ok (.aload_n 0, 1) := by decide +kernel
theorem dX5_swapInOrder_20 : decode cX5_swapInOrder 20 = .ok (.getfield 9, 3) := by decide +kernel
theorem dX5_swapInOrder_23 : decode cX5_swapInOrder 23 = .ok (.iload_n 2, 1) := by decide +kernel
theorem dX5_swapInOrder_24 : decode cX5_swapInOrder 24 = .ok (.iload_n 3, 1) := by decide +kernel
theorem dX5_swapInOrder_25 : decode cX5_swapInOrder 25 = .ok (.iastore, 1) := by decide +kernel
theorem dX5_swapInOrder_26 : decode cX5_swapInOrder 26 = .ok (.return_, 1) := by decide +kernel
theorem dX5_greatestWeight_0 : decode cX5_greatestWeight 0 = .ok (.aload_n 1, 1) := by decide +kernel
theorem dX5_greatestWeight_1 : decode cX5_greatestWeight 1 = .ok (.getfield 83, 3) := by decide +kernel
theorem dX5_greatestWeight_4 : decode cX5_greatestWeight 4 = .ok (.bipush 6, 2) := by decide +kernel
theorem dX5_greatestWeight_6 : decode cX5_greatestWeight 6 = .ok (.if_icmp .lt 6, 3) := by decide +kernel
theorem dX5_greatestWeight_9 : decode cX5_greatestWeight 9 = .ok (.ldc 55, 2) := by decide +kernel
theorem dX5_greatestWeight_11 : decode cX5_greatestWeight 11 = .ok (.ireturn, 1) := by decide +kernel
theorem dX5_greatestWeight_12 : decode cX5_greatestWeight 12 = .ok (.bipush 30, 2) := by decide +kernel
theorem dX5_greatestWeight_14 : decode cX5_greatestWeight 14 = .ok (.istore_n 3, 1) := by decide +kernel
theorem dX5_greatestWeight_15 : decode cX5_greatestWeight 15 = .ok (.iload_n 3, 1) := by decide +kernel
theorem dX5_greatestWeight_16 : decode cX5_greatestWeight 16 = .ok (.iconst 1, 1) := by decide +kernel
theorem dX5_greatestWeight_17 : decode cX5_greatestWeight 17 = .ok (.if_icmp .lt 44, 3) := by decide +kernel
theorem dX5_greatestWeight_20 : decode cX5_greatestWeight 20 = .ok (.aload_n 0, 1) := by decide +kernel
theorem dX5_greatestWeight_21 : decode cX5_greatestWeight 21 = .ok (.getfield 30, 3) := by decide +kernel
theorem dX5_greatestWeight_24 : decode cX5_greatestWeight 24 = .ok (.aload_n 1, 1) := by decide +kernel
theorem dX5_greatestWeight_25 : decode cX5_greatestWeight 25 = .ok (.invokevirtual 37, 3) := by decide +kernel
theorem dX5_greatestWeight_28 : decode cX5_greatestWeight 28 = .ok (.aload_n 0, 1) := by decide +kernel
theorem dX5_greatestWeight_29 : decode cX5_greatestWeight 29 = .ok (.getfield 30, 3) := by decide +kernel
theorem dX5_greatestWeight_32 : decode cX5_greatestWeight 32 = .ok (.iconst 1, 1) := by decide +kernel
theorem dX5_greatestWeight_33 : decode cX5_greatestWeight 33 = .ok (.iload_n 3, 1) := by decide +kernel
theorem dX5_greatestWeight_34 : decode cX5_greatestWeight 34 = .ok (.aload_n 1, 1) := by decide +kernel
theorem dX5_greatestWeight_35 : decode cX5_greatestWeight 35 = .ok (.getfield 51, 3) := by decide +kernel
theorem dX5_greatestWeight_38 : decode cX5_greatestWeight 38 = .ok (.invokevirtual 135, 3) := by decide +kernel
theorem dX5_greatestWeight_41 : decode cX5_greatestWeight 41 = .ok (.aload_n 0, 1) := by decide +kernel
theorem dX5_greatestWeight_42 : decode cX5_greatestWeight 42 = .ok (.aload_n 1, 1) := by decide +kernel
theorem dX5_greatestWeight_43 : decode cX5_greatestWeight 43 = .ok (.getfield 83, 3) := by decide +kernel
theorem dX5_greatestWeight_46 : decode cX5_greatestWeight 46 = .ok (.iload_n 2, 1) := by decide +kernel
theorem dX5_greatestWeight_47 : decode cX5_greatestWeight 47 = .ok (.invokevirtual 76, 3) := by decide +kernel
theorem dX5_greatestWeight_50 : decode cX5_greatestWeight 50 = .ok (.ifCond .eq 5, 3) := by decide +kernel
theorem dX5_greatestWeight_53 : decode cX5_greatestWeight 53 = .ok (.iload_n 3, 1) := by decide +kernel
theorem dX5_greatestWeight_54 : decode cX5_greatestWeight 54 = .ok (.ireturn, 1) := by decide +kernel
theorem dX5_greatestWeight_55 : decode cX5_greatestWeight 55 = .ok (.iinc 3 (-1), 3) := by decide +kernel
theorem dX5_greatestWeight_58 : decode cX5_greatestWeight 58 = .ok (.goto (-43), 3) := by decide +kernel
theorem dX5_greatestWeight_61 : decode cX5_greatestWeight 61 = .ok (.ldc 55, 2) := by decide +kernel
theorem dX5_greatestWeight_63 : decode cX5_greatestWeight 63 = .ok (.ireturn, 1) := by decide +kernel
theorem dX5_told_0 : decode cX5_told 0 = .ok (.aload_n 0, 1) := by decide +kernel
theorem dX5_told_1 : decode cX5_told 1 = .ok (.aload_n 1, 1) := by decide +kernel
theorem dX5_told_2 : decode cX5_told 2 = .ok (.putfield 139, 3) := by decide +kernel
theorem dX5_told_5 : decode cX5_told 5 = .ok (.aload_n 0, 1) := by decide +kernel
theorem dX5_told_6 : decode cX5_told 6 = .ok (.iload_n 2, 1) := by decide +kernel
theorem dX5_told_7 : decode cX5_told 7 = .ok (.putfield 143, 3) := by decide +kernel
theorem dX5_told_10 : decode cX5_told 10 = .ok (.aload_n 0, 1) := by decide +kernel
theorem dX5_told_11 : decode cX5_told 11 = .ok (.iload_n 3, 1) := by decide +kernel
theorem dX5_told_12 : decode cX5_told 12 = .ok (.putfield 146, 3) := by decide +kernel
theorem dX5_told_15 : decode cX5_told 15 = .ok (.aload_n 0, 1) := by decide +kernel
theorem dX5_told_16 : decode cX5_told 16 = .ok (.iload 4, 2) := by decide +kernel
theorem dX5_told_18 : decode cX5_told 18 = .ok (.putfield 149, 3) := by decide +kernel
theorem dX5_told_21 : decode cX5_told 21 = .ok (.return_, 1) := by decide +kernel
theorem dX5_fitsWhatIsTold_0 : decode cX5_fitsWhatIsTold 0 = .ok (.aload_n 0, 1) := by decide +kernel
theorem dX5_fitsWhatIsTold_1 : decode cX5_fitsWhatIsTold 1 = .ok (.getfield 139, 3) := by decide +kernel
theorem dX5_fitsWhatIsTold_4 : decode cX5_fitsWhatIsTold 4 = .ok (.ifnull 21, 3) := by decide +kernel
theorem dX5_fitsWhatIsTold_7 : decode cX5_fitsWhatIsTold 7 = .ok (.aload_n 0, 1) := by decide +kernel
theorem dX5_fitsWhatIsTold_8 : decode cX5_fitsWhatIsTold 8 = .ok (.getfield 139, 3) := by decide +kernel
theorem dX5_fitsWhatIsTold_11 : decode cX5_fitsWhatIsTold 11 = .ok (.aload_n 0, 1) := by decide +kernel
theorem dX5_fitsWhatIsTold_12 : decode cX5_fitsWhatIsTold 12 = .ok (.getfield 143, 3) := by decide +kernel
theorem dX5_fitsWhatIsTold_15 : decode cX5_fitsWhatIsTold 15 = .ok (.aload_n 0, 1) := by decide +kernel
theorem dX5_fitsWhatIsTold_16 : decode cX5_fitsWhatIsTold 16 = .ok (.getfield 146, 3) := by decide +kernel
theorem dX5_fitsWhatIsTold_19 : decode cX5_fitsWhatIsTold 19 = .ok (.invokevirtual 152, 3) := by decide +kernel
theorem dX5_fitsWhatIsTold_22 : decode cX5_fitsWhatIsTold 22 = .ok (.ifCond .ne 5, 3) := by decide +kernel
theorem dX5_fitsWhatIsTold_25 : decode cX5_fitsWhatIsTold 25 = .ok (.iconst 0, 1) := by decide +kernel
theorem dX5_fitsWhatIsTold_26 : decode cX5_fitsWhatIsTold 26 = .ok (.ireturn, 1) := by decide +kernel
theorem dX5_fitsWhatIsTold_27 : decode cX5_fitsWhatIsTold 27 = .ok (.iconst 0, 1) := by decide +kernel
theorem dX5_fitsWhatIsTold_28 : decode cX5_fitsWhatIsTold 28 = .ok (.istore_n 1, 1) := by decide +kernel
theorem dX5_fitsWhatIsTold_29 : decode cX5_fitsWhatIsTold 29 = .ok (.iload_n 1, 1) := by decide +kernel
theorem dX5_fitsWhatIsTold_30 : decode cX5_fitsWhatIsTold 30 = .ok (.aload_n 0, 1) := by decide +kernel
theorem dX5_fitsWhatIsTold_31 : decode cX5_fitsWhatIsTold 31 = .ok (.getfield 146, 3) := by decide +kernel
theorem dX5_fitsWhatIsTold_34 : decode cX5_fitsWhatIsTold 34 = .ok (.if_icmp .ge 47, 3) := by decide +kernel
theorem dX5_fitsWhatIsTold_37 : decode cX5_fitsWhatIsTold 37 = .ok (.aload_n 0, 1) := by decide +kernel
theorem dX5_fitsWhatIsTold_38 : decode cX5_fitsWhatIsTold 38 = .ok (.getfield 30, 3) := by decide +kernel
theorem dX5_fitsWhatIsTold_41 : decode cX5_fitsWhatIsTold 41 = .ok (.invokevirtual 41, 3) := by decide +kernel
theorem dX5_fitsWhatIsTold_44 : decode cX5_fitsWhatIsTold 44 = .ok (.aload_n 0, 1) := by decide +kernel
theorem dX5_fitsWhatIsTold_45 : decode cX5_fitsWhatIsTold 45 = .ok (.getfield 30, 3) := by decide +kernel
theorem dX5_fitsWhatIsTold_48 : decode cX5_fitsWhatIsTold 48 = .ok (.getfield 99, 3) := by decide +kernel
theorem dX5_fitsWhatIsTold_51 : decode cX5_fitsWhatIsTold 51 = .ok (.aload_n 0, 1) := by decide +kernel
theorem dX5_fitsWhatIsTold_52 : decode cX5_fitsWhatIsTold 52 = .ok (.getfield 149, 3) := by decide +kernel
theorem dX5_fitsWhatIsTold_55 : decode cX5_fitsWhatIsTold 55 = .ok (.iaload, 1) := by decide +kernel
theorem dX5_fitsWhatIsTold_56 : decode cX5_fitsWhatIsTold 56 = .ok (.aload_n 0, 1) := by decide +kernel
theorem dX5_fitsWhatIsTold_57 : decode cX5_fitsWhatIsTold 57 = .ok (.getfield 139, 3) := by decide +kernel
theorem dX5_fitsWhatIsTold_60 : decode cX5_fitsWhatIsTold 60 = .ok (.getfield 157, 3) := by decide +kernel
theorem dX5_fitsWhatIsTold_63 : decode cX5_fitsWhatIsTold 63 = .ok (.aload_n 0, 1) := by decide +kernel
theorem dX5_fitsWhatIsTold_64 : decode cX5_fitsWhatIsTold 64 = .ok (.getfield 143, 3) := by decide +kernel
theorem dX5_fitsWhatIsTold_67 : decode cX5_fitsWhatIsTold 67 = .ok (.iload_n 1, 1) := by decide +kernel
theorem dX5_fitsWhatIsTold_68 : decode cX5_fitsWhatIsTold 68 = .ok (.iadd, 1) := by decide +kernel
theorem dX5_fitsWhatIsTold_69 : decode cX5_fitsWhatIsTold 69 = .ok (.iaload, 1) := by decide +kernel
theorem dX5_fitsWhatIsTold_70 : decode cX5_fitsWhatIsTold 70 = .ok (.if_icmp .eq 5, 3) := by decide +kernel
theorem dX5_fitsWhatIsTold_73 : decode cX5_fitsWhatIsTold 73 = .ok (.iconst 0, 1) := by decide +kernel
theorem dX5_fitsWhatIsTold_74 : decode cX5_fitsWhatIsTold 74 = .ok (.ireturn, 1) := by decide +kernel
theorem dX5_fitsWhatIsTold_75 : decode cX5_fitsWhatIsTold 75 = .ok (.iinc 1 1, 3) := by decide +kernel
theorem dX5_fitsWhatIsTold_78 : decode cX5_fitsWhatIsTold 78 = .ok (.goto (-49), 3) := by decide +kernel
theorem dX5_fitsWhatIsTold_81 : decode cX5_fitsWhatIsTold 81 = .ok (.iconst 1, 1) := by decide +kernel
theorem dX5_fitsWhatIsTold_82 : decode cX5_fitsWhatIsTold 82 = .ok (.ireturn, 1) := by decide +kernel
theorem dX5_kindsThatFit_0 : decode cX5_kindsThatFit 0 = .ok (.iconst 0, 1) := by decide +kernel
theorem dX5_kindsThatFit_1 : decode cX5_kindsThatFit 1 = .ok (.istore_n 3, 1) := by decide +kernel
theorem dX5_kindsThatFit_2 : decode cX5_kindsThatFit 2 = .ok (.iconst 1, 1) := by decide +kernel
theorem dX5_kindsThatFit_3 : decode cX5_kindsThatFit 3 = .ok (.istore 4, 2) := by decide +kernel
theorem dX5_kindsThatFit_5 : decode cX5_kindsThatFit 5 = .ok (.iload 4, 2) := by decide +kernel
theorem dX5_kindsThatFit_7 : decode cX5_kindsThatFit 7 = .ok (.iconst 5, 1) := by decide +kernel
theorem dX5_kindsThatFit_8 : decode cX5_kindsThatFit 8 = .ok (.if_icmp .gt 42, 3) := by decide +kernel
theorem dX5_kindsThatFit_11 : decode cX5_kindsThatFit 11 = .ok (.aload_n 0, 1) := by decide +kernel
theorem dX5_kindsThatFit_12 : decode cX5_kindsThatFit 12 = .ok (.getfield 30, 3) := by decide +kernel
theorem dX5_kindsThatFit_15 : decode cX5_kindsThatFit 15 = .ok (.aload_n 1, 1) := by decide +kernel
theorem dX5_kindsThatFit_16 : decode cX5_kindsThatFit 16 = .ok (.invokevirtual 37, 3) := by decide +kernel
theorem dX5_kindsThatFit_19 : decode cX5_kindsThatFit 19 = .ok (.aload_n 0, 1) := by decide +kernel
theorem dX5_kindsThatFit_20 : decode cX5_kindsThatFit 20 = .ok (.getfield 30, 3) := by decide +kernel
theorem dX5_kindsThatFit_23 : decode cX5_kindsThatFit 23 = .ok (.getfield 160, 3) := by decide +kernel
theorem dX5_kindsThatFit_26 : decode cX5_kindsThatFit 26 = .ok (.iload_n 2, 1) := by decide +kernel
theorem dX5_kindsThatFit_27 : decode cX5_kindsThatFit 27 = .ok (.iload 4, 2) := by decide +kernel
theorem dX5_kindsThatFit_29 : decode cX5_kindsThatFit 29 = .ok (.iastore, 1) := by decide +kernel
theorem dX5_kindsThatFit_30 : decode cX5_kindsThatFit 30 = .ok (.aload_n 0, 1) := by decide +kernel
theorem dX5_kindsThatFit_31 : decode cX5_kindsThatFit 31 = .ok (.invokevirtual 163, 3) := by decide +kernel
theorem dX5_kindsThatFit_34 : decode cX5_kindsThatFit 34 = .ok (.ifCond .eq 10, 3) := by decide +kernel
theorem dX5_kindsThatFit_37 : decode cX5_kindsThatFit 37 = .ok (.iload_n 3, 1) := by decide +kernel
theorem dX5_kindsThatFit_38 : decode cX5_kindsThatFit 38 = .ok (.iconst 1, 1) := by decide +kernel
theorem dX5_kindsThatFit_39 : decode cX5_kindsThatFit 39 = .ok (.iload 4, 2) := by decide +kernel
theorem dX5_kindsThatFit_41 : decode cX5_kindsThatFit 41 = .ok (.ishl, 1) := by decide +kernel
theorem dX5_kindsThatFit_42 : decode cX5_kindsThatFit 42 = .ok (.ior, 1) := by decide +kernel
theorem dX5_kindsThatFit_43 : decode cX5_kindsThatFit 43 = .ok (.istore_n 3, 1) := by decide +kernel
theorem dX5_kindsThatFit_44 : decode cX5_kindsThatFit 44 = .ok (.iinc 4 1, 3) := by decide +kernel
theorem dX5_kindsThatFit_47 : decode cX5_kindsThatFit 47 = .ok (.goto (-42), 3) := by decide +kernel
theorem dX5_kindsThatFit_50 : decode cX5_kindsThatFit 50 = .ok (.iload_n 3, 1) := by decide +kernel
theorem dX5_kindsThatFit_51 : decode cX5_kindsThatFit 51 = .ok (.ireturn, 1) := by decide +kernel
theorem dX5_weightsThatFit_0 : decode cX5_weightsThatFit 0 = .ok (.iconst 0, 1) := by decide +kernel
theorem dX5_weightsThatFit_1 : decode cX5_weightsThatFit 1 = .ok (.istore_n 3, 1) := by decide +kernel
theorem dX5_weightsThatFit_2 : decode cX5_weightsThatFit 2 = .ok (.iconst 1, 1) := by decide +kernel
theorem dX5_weightsThatFit_3 : decode cX5_weightsThatFit 3 = .ok (.istore 4, 2) := by decide +kernel
theorem dX5_weightsThatFit_5 : decode cX5_weightsThatFit 5 = .ok (.iload 4, 2) := by decide +kernel
theorem dX5_weightsThatFit_7 : decode cX5_weightsThatFit 7 = .ok (.bipush 30, 2) := by decide +kernel
theorem dX5_weightsThatFit_9 : decode cX5_weightsThatFit 9 = .ok (.if_icmp .gt 42, 3) := by decide +kernel
theorem dX5_weightsThatFit_12 : decode cX5_weightsThatFit 12 = .ok (.aload_n 0, 1) := by decide +kernel
theorem dX5_weightsThatFit_13 : decode cX5_weightsThatFit 13 = .ok (.getfield 30, 3) := by decide +kernel
theorem dX5_weightsThatFit_16 : decode cX5_weightsThatFit 16 = .ok (.aload_n 1, 1) := by decide +kernel
theorem dX5_weightsThatFit_17 : decode cX5_weightsThatFit 17 = .ok (.invokevirtual 37, 3) := by decide +kernel
theorem dX5_weightsThatFit_20 : decode cX5_weightsThatFit 20 = .ok (.aload_n 0, 1) := by decide +kernel
theorem dX5_weightsThatFit_21 : decode cX5_weightsThatFit 21 = .ok (.getfield 30, 3) := by decide +kernel
theorem dX5_weightsThatFit_24 : decode cX5_weightsThatFit 24 = .ok (.getfield 166, 3) := by decide +kernel
theorem dX5_weightsThatFit_27 : decode cX5_weightsThatFit 27 = .ok (.iload_n 2, 1) := by decide +kernel
theorem dX5_weightsThatFit_28 : decode cX5_weightsThatFit 28 = .ok (.iload 4, 2) := by decide +kernel
theorem dX5_weightsThatFit_30 : decode cX5_weightsThatFit 30 = .ok (.iastore, 1) := by decide +kernel
theorem dX5_weightsThatFit_31 : decode cX5_weightsThatFit 31 = .ok (.aload_n 0, 1) := by decide +kernel
theorem dX5_weightsThatFit_32 : decode cX5_weightsThatFit 32 = .ok (.invokevirtual 163, 3) := by decide +kernel
theorem dX5_weightsThatFit_35 : decode cX5_weightsThatFit 35 = .ok (.ifCond .eq 10, 3) := by decide +kernel
theorem dX5_weightsThatFit_38 : decode cX5_weightsThatFit 38 = .ok (.iload_n 3, 1) := by decide +kernel
theorem dX5_weightsThatFit_39 : decode cX5_weightsThatFit 39 = .ok (.iconst 1, 1) := by decide +kernel
theorem dX5_weightsThatFit_40 : decode cX5_weightsThatFit 40 = .ok (.iload 4, 2) := by decide +kernel
theorem dX5_weightsThatFit_42 : decode cX5_weightsThatFit 42 = .ok (.ishl, 1) := by decide +kernel
theorem dX5_weightsThatFit_43 : decode cX5_weightsThatFit 43 = .ok (.ior, 1) := by decide +kernel
theorem dX5_weightsThatFit_44 : decode cX5_weightsThatFit 44 = .ok (.istore_n 3, 1) := by decide +kernel
theorem dX5_weightsThatFit_45 : decode cX5_weightsThatFit 45 = .ok (.iinc 4 1, 3) := by decide +kernel
theorem dX5_weightsThatFit_48 : decode cX5_weightsThatFit 48 = .ok (.goto (-43), 3) := by decide +kernel
theorem dX5_weightsThatFit_51 : decode cX5_weightsThatFit 51 = .ok (.iload_n 3, 1) := by decide +kernel
theorem dX5_weightsThatFit_52 : decode cX5_weightsThatFit 52 = .ok (.ireturn, 1) := by decide +kernel
theorem dX5_startsThatFit_0 : decode cX5_startsThatFit 0 = .ok (.iconst 0, 1) := by decide +kernel
theorem dX5_startsThatFit_1 : decode cX5_startsThatFit 1 = .ok (.istore_n 3, 1) := by decide +kernel
theorem dX5_startsThatFit_2 : decode cX5_startsThatFit 2 = .ok (.iconst 0, 1) := by decide +kernel
theorem dX5_startsThatFit_3 : decode cX5_startsThatFit 3 = .ok (.istore 4, 2) := by decide +kernel
theorem dX5_startsThatFit_5 : decode cX5_startsThatFit 5 = .ok (.iload 4, 2) := by decide +kernel
theorem dX5_startsThatFit_7 : decode cX5_startsThatFit 7 = .ok (.bipush 30, 2) := by decide +kernel
theorem dX5_startsThatFit_9 : decode cX5_startsThatFit 9 = .ok (.if_icmp .gt 42, 3) := by decide +kernel
theorem dX5_startsThatFit_12 : decode cX5_startsThatFit 12 = .ok (.aload_n 0, 1) := by decide +kernel
theorem dX5_startsThatFit_13 : decode cX5_startsThatFit 13 = .ok (.getfield 30, 3) := by decide +kernel
theorem dX5_startsThatFit_16 : decode cX5_startsThatFit 16 = .ok (.aload_n 1, 1) := by decide +kernel
theorem dX5_startsThatFit_17 : decode cX5_startsThatFit 17 = .ok (.invokevirtual 37, 3) := by decide +kernel
theorem dX5_startsThatFit_20 : decode cX5_startsThatFit 20 = .ok (.aload_n 0, 1) := by decide +kernel
theorem dX5_startsThatFit_21 : decode cX5_startsThatFit 21 = .ok (.getfield 30, 3) := by decide +kernel
theorem dX5_startsThatFit_24 : decode cX5_startsThatFit 24 = .ok (.getfield 128, 3) := by decide +kernel
theorem dX5_startsThatFit_27 : decode cX5_startsThatFit 27 = .ok (.iload_n 2, 1) := by decide +kernel
theorem dX5_startsThatFit_28 : decode cX5_startsThatFit 28 = .ok (.iload 4, 2) := by decide +kernel
theorem dX5_startsThatFit_30 : decode cX5_startsThatFit 30 = .ok (.iastore, 1) := by decide +kernel
theorem dX5_startsThatFit_31 : decode cX5_startsThatFit 31 = .ok (.aload_n 0, 1) := by decide +kernel
theorem dX5_startsThatFit_32 : decode cX5_startsThatFit 32 = .ok (.invokevirtual 163, 3) := by decide +kernel
theorem dX5_startsThatFit_35 : decode cX5_startsThatFit 35 = .ok (.ifCond .eq 10, 3) := by decide +kernel
theorem dX5_startsThatFit_38 : decode cX5_startsThatFit 38 = .ok (.iload_n 3, 1) := by decide +kernel
theorem dX5_startsThatFit_39 : decode cX5_startsThatFit 39 = .ok (.iconst 1, 1) := by decide +kernel
theorem dX5_startsThatFit_40 : decode cX5_startsThatFit 40 = .ok (.iload 4, 2) := by decide +kernel
theorem dX5_startsThatFit_42 : decode cX5_startsThatFit 42 = .ok (.ishl, 1) := by decide +kernel
theorem dX5_startsThatFit_43 : decode cX5_startsThatFit 43 = .ok (.ior, 1) := by decide +kernel
theorem dX5_startsThatFit_44 : decode cX5_startsThatFit 44 = .ok (.istore_n 3, 1) := by decide +kernel
theorem dX5_startsThatFit_45 : decode cX5_startsThatFit 45 = .ok (.iinc 4 1, 3) := by decide +kernel
theorem dX5_startsThatFit_48 : decode cX5_startsThatFit 48 = .ok (.goto (-43), 3) := by decide +kernel
theorem dX5_startsThatFit_51 : decode cX5_startsThatFit 51 = .ok (.iload_n 3, 1) := by decide +kernel
theorem dX5_startsThatFit_52 : decode cX5_startsThatFit 52 = .ok (.ireturn, 1) := by decide +kernel
theorem dX5_rottenThatFit_0 : decode cX5_rottenThatFit 0 = .ok (.aload_n 0, 1) := by decide +kernel
theorem dX5_rottenThatFit_1 : decode cX5_rottenThatFit 1 = .ok (.getfield 30, 3) := by decide +kernel
theorem dX5_rottenThatFit_4 : decode cX5_rottenThatFit 4 = .ok (.aload_n 1, 1) := by decide +kernel
theorem dX5_rottenThatFit_5 : decode cX5_rottenThatFit 5 = .ok (.invokevirtual 37, 3) := by decide +kernel
theorem dX5_rottenThatFit_8 : decode cX5_rottenThatFit 8 = .ok (.aload_n 0, 1) := by decide +kernel
theorem dX5_rottenThatFit_9 : decode cX5_rottenThatFit 9 = .ok (.invokevirtual 163, 3) := by decide +kernel
theorem dX5_rottenThatFit_12 : decode cX5_rottenThatFit 12 = .ok (.ifCond .eq 9, 3) := by decide +kernel
theorem dX5_rottenThatFit_15 : decode cX5_rottenThatFit 15 = .ok (.sipush 1024, 3) := by decide +kernel
theorem dX5_rottenThatFit_18 : decode cX5_rottenThatFit 18 = .ok (.goto 4, 3) := by decide +kernel
theorem dX5_rottenThatFit_21 : decode cX5_rottenThatFit 21 = .ok (.iconst 0, 1) := by decide +kernel
theorem dX5_rottenThatFit_22 : decode cX5_rottenThatFit 22 = .ok (.istore_n 2, 1) := by decide +kernel
theorem dX5_rottenThatFit_23 : decode cX5_rottenThatFit 23 = .ok (.iconst 1, 1) := by decide +kernel
theorem dX5_rottenThatFit_24 : decode cX5_rottenThatFit 24 = .ok (.istore_n 3, 1) := by decide +kernel
theorem dX5_rottenThatFit_25 : decode cX5_rottenThatFit 25 = .ok (.iload_n 3, 1) := by decide +kernel
theorem dX5_rottenThatFit_26 : decode cX5_rottenThatFit 26 = .ok (.aload_n 1, 1) := by decide +kernel
theorem dX5_rottenThatFit_27 : decode cX5_rottenThatFit 27 = .ok (.getfield 60, 3) := by decide +kernel
theorem dX5_rottenThatFit_30 : decode cX5_rottenThatFit 30 = .ok (.if_icmp .gt 49, 3) := by decide +kernel
theorem dX5_rottenThatFit_33 : decode cX5_rottenThatFit 33 = .ok (.aload_n 1, 1) := by decide +kernel
theorem dX5_rottenThatFit_34 : decode cX5_rottenThatFit 34 = .ok (.iload_n 3, 1) := by decide +kernel
theorem dX5_rottenThatFit_35 : decode cX5_rottenThatFit 35 = .ok (.invokevirtual 169, 3) := by decide +kernel
theorem dX5_rottenThatFit_38 : decode cX5_rottenThatFit 38 = .ok (.ifCond .ne 35, 3) := by decide +kernel
theorem dX5_rottenThatFit_41 : decode cX5_rottenThatFit 41 = .ok (.aload_n 0, 1) := by decide +kernel
theorem dX5_rottenThatFit_42 : decode cX5_rottenThatFit 42 = .ok (.getfield 30, 3) := by decide +kernel
theorem dX5_rottenThatFit_45 : decode cX5_rottenThatFit 45 = .ok (.aload_n 1, 1) := by decide +kernel
theorem dX5_rottenThatFit_46 : decode cX5_rottenThatFit 46 = .ok (.invokevirtual 37, 3) := by decide +kernel
theorem dX5_rottenThatFit_49 : decode cX5_rottenThatFit 49 = .ok (.aload_n 0, 1) := by decide +kernel
theorem dX5_rottenThatFit_50 : decode cX5_rottenThatFit 50 = .ok (.getfield 30, 3) := by decide +kernel
theorem dX5_rottenThatFit_53 : decode cX5_rottenThatFit 53 = .ok (.iload_n 3, 1) := by decide +kernel
theorem dX5_rottenThatFit_54 : decode cX5_rottenThatFit 54 = .ok (.invokevirtual 172, 3) := by decide +kernel
theorem dX5_rottenThatFit_57 : decode cX5_rottenThatFit 57 = .ok (.pop, 1) := by decide +kernel
theorem dX5_rottenThatFit_58 : decode cX5_rottenThatFit 58 = .ok (.aload_n 0, 1) := by decide +kernel
theorem dX5_rottenThatFit_59 : decode cX5_rottenThatFit 59 = .ok (.invokevirtual 163, 3) := by decide +kernel
theorem dX5_rottenThatFit_62 : decode cX5_rottenThatFit 62 = .ok (.ifCond .eq 11, 3) := by decide +kernel
theorem dX5_rottenThatFit_65 : decode cX5_rottenThatFit 65 = .ok (.iload_n 2, 1) := by decide +kernel
theorem dX5_rottenThatFit_66 : decode cX5_rottenThatFit 66 = .ok (.iconst 1, 1) := by decide +kernel
theorem dX5_rottenThatFit_67 : decode cX5_rottenThatFit 67 = .ok (.iload_n 3, 1) := by decide +kernel
theorem dX5_rottenThatFit_68 : decode cX5_rottenThatFit 68 = .ok (.iconst 1, 1) := by decide +kernel
theorem dX5_rottenThatFit_69 : decode cX5_rottenThatFit 69 = .ok (.isub, 1) := by decide +kernel
theorem dX5_rottenThatFit_70 : decode cX5_rottenThatFit 70 = .ok (.ishl, 1) := by decide +kernel
theorem dX5_rottenThatFit_71 : decode cX5_rottenThatFit 71 = .ok (.ior, 1) := by decide +kernel
theorem dX5_rottenThatFit_72 : decode cX5_rottenThatFit 72 = .ok (.istore_n 2, 1) := by decide +kernel
theorem dX5_rottenThatFit_73 : decode cX5_rottenThatFit 73 = .ok (.iinc 3 1, 3) := by decide +kernel
theorem dX5_rottenThatFit_76 : decode cX5_rottenThatFit 76 = .ok (.goto (-51), 3) := by decide +kernel
theorem dX5_rottenThatFit_79 : decode cX5_rottenThatFit 79 = .ok (.iload_n 2, 1) := by decide +kernel
theorem dX5_rottenThatFit_80 : decode cX5_rottenThatFit 80 = .ok (.ireturn, 1) := by decide +kernel
theorem dX5_seekRisk_0 : decode cX5_seekRisk 0 = .ok (.aload_n 0, 1) := by decide +kernel
theorem dX5_seekRisk_1 : decode cX5_seekRisk 1 = .ok (.aload_n 1, 1) := by decide +kernel
theorem dX5_seekRisk_2 : decode cX5_seekRisk 2 = .ok (.invokevirtual 175, 3) := by decide +kernel
theorem dX5_seekRisk_5 : decode cX5_seekRisk 5 = .ok (.istore 5, 2) := by decide +kernel
theorem dX5_seekRisk_7 : decode cX5_seekRisk 7 = .ok (.aload_n 0, 1) := by decide +kernel
theorem dX5_seekRisk_8 : decode cX5_seekRisk 8 = .ok (.lconst 0, 1) := by decide +kernel
theorem dX5_seekRisk_9 : decode cX5_seekRisk 9 = .ok (.putfield 179, 3) := by decide +kernel
theorem dX5_seekRisk_12 : decode cX5_seekRisk 12 = .ok (.iconst 0, 1) := by decide +kernel
theorem dX5_seekRisk_13 : decode cX5_seekRisk 13 = .ok (.istore 6, 2) := by decide +kernel
theorem dX5_seekRisk_15 : decode cX5_seekRisk 15 = .ok (.iload 6, 2) := by decide +kernel
theorem dX5_seekRisk_17 : decode cX5_seekRisk 17 = .ok (.iconst 1, 1) := by decide +kernel
theorem dX5_seekRisk_18 : decode cX5_seekRisk 18 = .ok (.iload 5, 2) := by decide +kernel
theorem dX5_seekRisk_20 : decode cX5_seekRisk 20 = .ok (.ishl, 1) := by decide +kernel
theorem dX5_seekRisk_21 : decode cX5_seekRisk 21 = .ok (.if_icmp .ge 78, 3) := by decide +kernel
theorem dX5_seekRisk_24 : decode cX5_seekRisk 24 = .ok (.iload 6, 2) := by decide +kernel
theorem dX5_seekRisk_26 : decode cX5_seekRisk 26 = .ok (.invokestatic 66, 3) := by decide +kernel
theorem dX5_seekRisk_29 : decode cX5_seekRisk 29 = .ok (.istore 7, 2) := by decide +kernel
theorem dX5_seekRisk_31 : decode cX5_seekRisk 31 = .ok (.iload 4, 2) := by decide +kernel
theorem dX5_seekRisk_33 : decode cX5_seekRisk 33 = .ok (.i2l, 1) := by decide +kernel
theorem dX5_seekRisk_34 : decode cX5_seekRisk 34 = .ok (.iload 7, 2) := by decide +kernel
theorem dX5_seekRisk_36 : decode cX5_seekRisk 36 = .ok (.invokestatic 182, 3) := by decide +kernel
theorem dX5_seekRisk_39 : decode cX5_seekRisk 39 = .ok (.bipush 10, 2) := by decide +kernel
theorem dX5_seekRisk_41 : decode cX5_seekRisk 41 = .ok (.iload 4, 2) := by decide +kernel
theorem dX5_seekRisk_43 : decode cX5_seekRisk 43 = .ok (.isub, 1) := by decide +kernel
theorem dX5_seekRisk_44 : decode cX5_seekRisk 44 = .ok (.i2l, 1) := by decide +kernel
theorem dX5_seekRisk_45 : decode cX5_seekRisk 45 = .ok (.iload 5, 2) := by decide +kernel
theorem dX5_seekRisk_47 : decode cX5_seekRisk 47 = .ok (.iload 7, 2) := by decide +kernel
theorem dX5_seekRisk_49 : decode cX5_seekRisk 49 = .ok (.isub, 1) := by decide +kernel
theorem dX5_seekRisk_50 : decode cX5_seekRisk 50 = .ok (.invokestatic 182, 3) := by decide +kernel
theorem dX5_seekRisk_53 : decode cX5_seekRisk 53 = .ok (.lmul, 1) := by decide +kernel
theorem dX5_seekRisk_54 : decode cX5_seekRisk 54 = .ok (.lstore 8, 2) := by decide +kernel
theorem dX5_seekRisk_56 : decode cX5_seekRisk 56 = .ok (.lload 8, 2) := by decide +kernel
theorem dX5_seekRisk_58 : decode cX5_seekRisk 58 = .ok (.lconst 0, 1) := by decide +kernel
theorem dX5_seekRisk_59 : decode cX5_seekRisk 59 = .ok (.lcmp, 1) := by decide +kernel
theorem dX5_seekRisk_60 : decode cX5_seekRisk 60 = .ok (.ifCond .ne 6, 3) := by decide +kernel
theorem dX5_seekRisk_63 : decode cX5_seekRisk 63 = .ok (.goto 30, 3) := by decide +kernel
theorem dX5_seekRisk_66 : decode cX5_seekRisk 66 = .ok (.aload_n 0, 1) := by decide +kernel
theorem dX5_seekRisk_67 : decode cX5_seekRisk 67 = .ok (.aload_n 1, 1) := by decide +kernel
theorem dX5_seekRisk_68 : decode cX5_seekRisk 68 = .ok (.iload 6, 2) := by decide +kernel
theorem dX5_seekRisk_70 : decode cX5_seekRisk 70 = .ok (.invokevirtual 186, 3) := by decide +kernel
theorem dX5_seekRisk_73 : decode cX5_seekRisk 73 = .ok (.aload_n 0, 1) := by decide +kernel
theorem dX5_seekRisk_74 : decode cX5_seekRisk 74 = .ok (.iload_n 2, 1) := by decide +kernel
theorem dX5_seekRisk_75 : decode cX5_seekRisk 75 = .ok (.iload_n 3, 1) := by decide +kernel
theorem dX5_seekRisk_76 : decode cX5_seekRisk 76 = .ok (.invokevirtual 76, 3) := by decide +kernel
theorem dX5_seekRisk_79 : decode cX5_seekRisk 79 = .ok (.ifCond .eq 14, 3) := by decide +kernel
theorem dX5_seekRisk_82 : decode cX5_seekRisk 82 = .ok (.aload_n 0, 1) := by decide +kernel
theorem dX5_seekRisk_83 : decode cX5_seekRisk 83 = .ok (.dup, 1) := by decide +kernel
theorem dX5_seekRisk_84 : decode cX5_seekRisk 84 = .ok (.getfield 179, 3) := by decide +kernel
theorem dX5_seekRisk_87 : decode cX5_seekRisk 87 = .ok (.lload 8, 2) := by decide +kernel
theorem dX5_seekRisk_89 : decode cX5_seekRisk 89 = .ok (.ladd, 1) := by decide +kernel
theorem dX5_seekRisk_90 : decode cX5_seekRisk 90 = .ok (.putfield 179, 3) := by decide +kernel
theorem dX5_seekRisk_93 : decode cX5_seekRisk 93 = .ok (.iinc 6 1, 3) := by decide +kernel
theorem dX5_seekRisk_96 : decode cX5_seekRisk 96 = .ok (.goto (-81), 3) := by decide +kernel
theorem dX5_seekRisk_99 : decode cX5_seekRisk 99 = .ok (.aload_n 0, 1) := by decide +kernel
theorem dX5_seekRisk_100 : decode cX5_seekRisk 100 = .ok (.ldc2_w 189, 3) := by decide +kernel
theorem dX5_seekRisk_103 : decode cX5_seekRisk 103 = .ok (.iload 5, 2) := by decide +kernel
theorem dX5_seekRisk_105 : decode cX5_seekRisk 105 = .ok (.invokestatic 182, 3) := by decide +kernel
theorem dX5_seekRisk_108 : decode cX5_seekRisk 108 = .ok (.putfield 21, 3) := by decide +kernel
theorem dX5_seekRisk_111 : decode cX5_seekRisk 111 = .ok (.aload_n 0, 1) := by decide +kernel
theorem dX5_seekRisk_112 : decode cX5_seekRisk 112 = .ok (.getfield 179, 3) := by decide +kernel
theorem dX5_seekRisk_115 : decode cX5_seekRisk 115 = .ok (.aload_n 0, 1) := by decide +kernel
theorem dX5_seekRisk_116 : decode cX5_seekRisk 116 = .ok (.getfield 21, 3) := by decide +kernel
theorem dX5_seekRisk_119 : decode cX5_seekRisk 119 = .ok (.invokestatic 191, 3) := by decide +kernel
theorem dX5_seekRisk_122 : decode cX5_seekRisk 122 = .ok (.lstore 6, 2) := by decide +kernel
theorem dX5_seekRisk_124 : decode cX5_seekRisk 124 = .ok (.lload 6, 2) := by decide +kernel
theorem dX5_seekRisk_126 : decode cX5_seekRisk 126 = .ok (.lconst 1, 1) := by decide +kernel
theorem dX5_seekRisk_127 : decode cX5_seekRisk 127 = .ok (.lcmp, 1) := by decide +kernel
theorem dX5_seekRisk_128 : decode cX5_seekRisk 128 = .ok (.ifCond .le 25, 3) := by decide +kernel
theorem dX5_seekRisk_131 : decode cX5_seekRisk 131 = .ok (.aload_n 0, 1) := by decide +kernel
theorem dX5_seekRisk_132 : decode cX5_seekRisk 132 = .ok (.dup, 1) := by decide +kernel
theorem dX5_seekRisk_133 : decode cX5_seekRisk 133 = .ok (.getfield 179, 3) := by decide +kernel
theorem dX5_seekRisk_136 : decode cX5_seekRisk 136 = .ok (.lload 6, 2) := by decide +kernel
theorem dX5_seekRisk_138 : decode cX5_seekRisk 138 = .ok (.ldiv, 1) := by decide +kernel
theorem dX5_seekRisk_139 : decode cX5_seekRisk 139 = .ok (.putfield 179, 3) := by decide +kernel
theorem dX5_seekRisk_142 : decode cX5_seekRisk 142 = .ok (.aload_n 0, 1) := by decide +kernel
theorem dX5_seekRisk_143 : decode cX5_seekRisk 143 = .ok (.dup, 1) := by decide +kernel
theorem dX5_seekRisk_144 : decode cX5_seekRisk 144 = .ok (.getfield 21, 3) := by decide +kernel
theorem dX5_seekRisk_147 : decode cX5_seekRisk 147 = .ok (.lload 6, 2) := by decide +kernel
theorem dX5_seekRisk_149 : decode cX5_seekRisk 149 = .ok (.ldiv, 1) := by decide +kernel
theorem dX5_seekRisk_150 : decode cX5_seekRisk 150 = .ok (.putfield 21, 3) := by decide +kernel
theorem dX5_seekRisk_153 : decode cX5_seekRisk 153 = .ok (.return_, 1) := by decide +kernel
theorem dX5_findFreeRungs_0 : decode cX5_findFreeRungs 0 = .ok (.iconst 0, 1) := by decide +kernel
theorem dX5_findFreeRungs_1 : decode cX5_findFreeRungs 1 = .ok (.istore_n 2, 1) := by decide +kernel
theorem dX5_findFreeRungs_2 : decode cX5_findFreeRungs 2 = .ok (.iconst 1, 1) := by decide +kernel
theorem dX5_findFreeRungs_3 : decode cX5_findFreeRungs 3 = .ok (.istore_n 3, 1) := by decide +kernel
theorem dX5_findFreeRungs_4 : decode cX5_findFreeRungs 4 = .ok (.iload_n 3, 1) := by decide +kernel
theorem dX5_findFreeRungs_5 : decode cX5_findFreeRungs 5 = .ok (.aload_n 1, 1) := by decide +kernel
theorem dX5_findFreeRungs_6 : decode cX5_findFreeRungs 6 = .ok (.getfield 60, 3) := by decide +kernel
theorem dX5_findFreeRungs_9 : decode cX5_findFreeRungs 9 = .ok (.if_icmp .gt 35, 3) := by decide +kernel
theorem dX5_findFreeRungs_12 : decode cX5_findFreeRungs 12 = .ok (.aload_n 1, 1) := by decide +kernel
theorem dX5_findFreeRungs_13 : decode cX5_findFreeRungs 13 = .ok (.iload_n 3, 1) := by decide +kernel
theorem dX5_findFreeRungs_14 : decode cX5_findFreeRungs 14 = .ok (.invokevirtual 169, 3) := by decide +kernel
theorem dX5_findFreeRungs_17 : decode cX5_findFreeRungs 17 = .ok (.ifCond .ne 21, 3) := by decide +kernel
theorem dX5_findFreeRungs_20 : decode cX5_findFreeRungs 20 = .ok (.aload_n 1, 1) := by decide +kernel
theorem dX5_findFreeRungs_21 : decode cX5_findFreeRungs 21 = .ok (.iload_n 3, 1) := by decide +kernel
theorem dX5_findFreeRungs_22 : decode cX5_findFreeRungs 22 = .ok (.invokevirtual 195, 3) := by decide +kernel
theorem dX5_findFreeRungs_25 : decode cX5_findFreeRungs 25 = .ok (.ifCond .ne 13, 3) := by decide +kernel
theorem dX5_findFreeRungs_28 : decode cX5_findFreeRungs 28 = .ok (.aload_n 0, 1) := by decide +kernel
theorem dX5_findFreeRungs_29 : decode cX5_findFreeRungs 29 = .ok (.getfield 18, 3) := by decide +kernel
theorem dX5_findFreeRungs_32 : decode cX5_findFreeRungs 32 = .ok (.iload_n 2, 1) := by decide +kernel
theorem dX5_findFreeRungs_33 : decode cX5_findFreeRungs 33 = .ok (.iload_n 3, 1) := by decide +kernel
theorem dX5_findFreeRungs_34 : decode cX5_findFreeRungs 34 = .ok (.iastore, 1) := by decide +kernel
theorem dX5_findFreeRungs_35 : decode cX5_findFreeRungs 35 = .ok (.iinc 2 1, 3) := by decide +kernel
theorem dX5_findFreeRungs_38 : decode cX5_findFreeRungs 38 = .ok (.iinc 3 1, 3) := by decide +kernel
theorem dX5_findFreeRungs_41 : decode cX5_findFreeRungs 41 = .ok (.goto (-37), 3) := by decide +kernel
theorem dX5_findFreeRungs_44 : decode cX5_findFreeRungs 44 = .ok (.iload_n 2, 1) := by decide +kernel
theorem dX5_findFreeRungs_45 : decode cX5_findFreeRungs 45 = .ok (.ireturn, 1) := by decide +kernel
theorem dX5_tryBroken_0 : decode cX5_tryBroken 0 = .ok (.aload_n 0, 1) := by decide +kernel
theorem dX5_tryBroken_1 : decode cX5_tryBroken 1 = .ok (.getfield 30, 3) := by decide +kernel
theorem dX5_tryBroken_4 : decode cX5_tryBroken 4 = .ok (.aload_n 1, 1) := by decide +kernel
theorem dX5_tryBroken_5 : decode cX5_tryBroken 5 = .ok (.invokevirtual 37, 3) := by decide +kernel
theorem dX5_tryBroken_8 : decode cX5_tryBroken 8 = .ok (.iconst 0, 1) := by decide +kernel
theorem dX5_tryBroken_9 : decode cX5_tryBroken 9 = .ok (.istore_n 3, 1) := by decide +kernel
theorem dX5_tryBroken_10 : decode cX5_tryBroken 10 = .ok (.iload_n 3, 1) := by decide +kernel
theorem dX5_tryBroken_11 : decode cX5_tryBroken 11 = .ok (.bipush 9, 2) := by decide +kernel
theorem dX5_tryBroken_13 : decode cX5_tryBroken 13 = .ok (.if_icmp .ge 33, 3) := by decide +kernel
theorem dX5_tryBroken_16 : decode cX5_tryBroken 16 = .ok (.iload_n 2, 1) := by decide +kernel
theorem dX5_tryBroken_17 : decode cX5_tryBroken 17 = .ok (.iload_n 3, 1) := by decide +kernel
theorem dX5_tryBroken_18 : decode cX5_tryBroken 18 = .ok (.ishr, 1) := by decide +kernel
theorem dX5_tryBroken_19 : decode cX5_tryBroken 19 = .ok (.iconst 1, 1) := by decide +kernel
theorem dX5_tryBroken_20 : decode cX5_tryBroken 20 = .ok (.iand, 1) := by decide +kernel
theorem dX5_tryBroken_21 : decode cX5_tryBroken 21 = .ok (.iconst 1, 1) := by decide +kernel
theorem dX5_tryBroken_22 : decode cX5_tryBroken 22 = .ok (.if_icmp .ne 18, 3) := by decide +kernel
theorem dX5_tryBroken_25 : decode cX5_tryBroken 25 = .ok (.aload_n 0, 1) := by decide +kernel
theorem dX5_tryBroken_26 : decode cX5_tryBroken 26 = .ok (.getfield 30, 3) := by decide +kernel
theorem dX5_tryBroken_29 : decode cX5_tryBroken 29 = .ok (.getfield 80, 3) := by decide +kernel
theorem dX5_tryBroken_32 : decode cX5_tryBroken 32 = .ok (.aload_n 0, 1) := by decide +kernel
theorem dX5_tryBroken_33 : decode cX5_tryBroken 33 = .ok (.getfield 18, 3) := by decide +kernel
theorem dX5_tryBroken_36 : decode cX5_tryBroken 36 = .ok (.iload_n 3, 1) := by decide +kernel
theorem dX5_tryBroken_37 : decode cX5_tryBroken 37 = .ok (.iaload, 1) := by decide +kernel
theorem dX5_tryBroken_38 : decode cX5_tryBroken 38 = .ok (.iconst 0, 1) := by decide +kernel
theorem dX5_tryBroken_39 : decode cX5_tryBroken 39 = .ok (.iastore, 1) := by decide +kernel
theorem dX5_tryBroken_40 : decode cX5_tryBroken 40 = .ok (.iinc 3 1, 3) := by decide +kernel
theorem dX5_tryBroken_43 : decode cX5_tryBroken 43 = .ok (.goto (-33), 3) := by decide +kernel
theorem dX5_tryBroken_46 : decode cX5_tryBroken 46 = .ok (.return_, 1) := by decide +kernel
theorem dX5_power_0 : decode cX5_power 0 = .ok (.lconst 1, 1) := by decide +kernel
theorem dX5_power_1 : decode cX5_power 1 = .ok (.lstore_n 3, 1) := by decide +kernel
theorem dX5_power_2 : decode cX5_power 2 = .ok (.iconst 0, 1) := by decide +kernel
theorem dX5_power_3 : decode cX5_power 3 = .ok (.istore 5, 2) := by decide +kernel
theorem dX5_power_5 : decode cX5_power 5 = .ok (.iload 5, 2) := by decide +kernel
theorem dX5_power_7 : decode cX5_power 7 = .ok (.iload_n 2, 1) := by decide +kernel
theorem dX5_power_8 : decode cX5_power 8 = .ok (.if_icmp .ge 13, 3) := by decide +kernel
theorem dX5_power_11 : decode cX5_power 11 = .ok (.lload_n 3, 1) := by decide +kernel
theorem dX5_power_12 : decode cX5_power 12 = .ok (.lload_n 0, 1) := by decide +kernel
theorem dX5_power_13 : decode cX5_power 13 = .ok (.lmul, 1) := by decide +kernel
theorem dX5_power_14 : decode cX5_power 14 = .ok (.lstore_n 3, 1) := by decide +kernel
theorem dX5_power_15 : decode cX5_power 15 = .ok (.iinc 5 1, 3) := by decide +kernel
theorem dX5_power_18 : decode cX5_power 18 = .ok (.goto (-13), 3) := by decide +kernel
theorem dX5_power_21 : decode cX5_power 21 = .ok (.lload_n 3, 1) := by decide +kernel
theorem dX5_power_22 : decode cX5_power 22 = .ok (.lreturn, 1) := by decide +kernel
theorem dX5_commonDivisor_0 : decode cX5_commonDivisor 0 = .ok (.iconst 0, 1) := by decide +kernel
theorem dX5_commonDivisor_1 : decode cX5_commonDivisor 1 = .ok (.istore 4, 2) := by decide +kernel
theorem dX5_commonDivisor_3 : decode cX5_commonDivisor 3 = .ok (.iload 4, 2) := by decide +kernel
theorem dX5_commonDivisor_5 : decode cX5_commonDivisor 5 = .ok (.bipush 100, 2) := by decide +kernel
theorem dX5_commonDivisor_7 : decode cX5_commonDivisor 7 = .ok (.if_icmp .ge 25, 3) := by decide +kernel
theorem dX5_commonDivisor_10 : decode cX5_commonDivisor 10 = .ok (.lload_n 2, 1) := by decide +kernel
theorem dX5_commonDivisor_11 : decode cX5_commonDivisor 11 = .ok (.lconst 0, 1) := by decide +kernel
theorem dX5_commonDivisor_12 : decode cX5_commonDivisor 12 = .ok (.lcmp, 1) := by decide +kernel
theorem dX5_commonDivisor_13 : decode cX5_commonDivisor 13 = .ok (.ifCond .eq 19, 3) := by decide +kernel
theorem dX5_commonDivisor_16 : decode cX5_commonDivisor 16 = .ok (.lload_n 0, 1) := by decide +kernel
theorem dX5_commonDivisor_17 : decode cX5_commonDivisor 17 = .ok (.lload_n 2, 1) := by decide +kernel
theorem dX5_commonDivisor_18 : decode cX5_commonDivisor 18 = .ok (.lrem, 1) := by decide +kernel
theorem dX5_commonDivisor_19 : decode cX5_commonDivisor 19 = .ok (.lstore 5, 2) := by decide +kernel
theorem dX5_commonDivisor_21 : decode cX5_commonDivisor 21 = .ok (.lload_n 2, 1) := by decide +kernel
theorem dX5_commonDivisor_22 : decode cX5_commonDivisor 22 = .ok (.lstore_n 0, 1) := by decide +kernel
theorem dX5_commonDivisor_23 : decode cX5_commonDivisor 23 = .ok (.lload 5, 2) := by decide +kernel
theorem dX5_commonDivisor_25 : decode cX5_commonDivisor 25 = .ok (.lstore_n 2, 1) := by decide +kernel
theorem dX5_commonDivisor_26 : decode cX5_commonDivisor 26 = .ok (.iinc 4 1, 3) := by decide +kernel
theorem dX5_commonDivisor_29 : decode cX5_commonDivisor 29 = .ok (.goto (-26), 3) := by decide +kernel
theorem dX5_commonDivisor_32 : decode cX5_commonDivisor 32 = .ok (.lload_n 0, 1) := by decide +kernel
theorem dX5_commonDivisor_33 : decode cX5_commonDivisor 33 = .ok (.lreturn, 1) := by decide +kernel
theorem dX5_afterDraws_0 : decode cX5_afterDraws 0 = .ok (.aload_n 0, 1) := by decide +kernel
theorem dX5_afterDraws_1 : decode cX5_afterDraws 1 = .ok (.getfield 30, 3) := by decide +kernel
theorem dX5_afterDraws_4 : decode cX5_afterDraws 4 = .ok (.aload_n 1, 1) := by decide +kernel
theorem dX5_afterDraws_5 : decode cX5_afterDraws 5 = .ok (.invokevirtual 37, 3) := by decide +kernel
theorem dX5_afterDraws_8 : decode cX5_afterDraws 8 = .ok (.iload_n 3, 1) := by decide +kernel
theorem dX5_afterDraws_9 : decode cX5_afterDraws 9 = .ok (.i2l, 1) := by decide +kernel
theorem dX5_afterDraws_10 : decode cX5_afterDraws 10 = .ok (.lstore 4, 2) := by decide +kernel
theorem dX5_afterDraws_12 : decode cX5_afterDraws 12 = .ok (.iconst 0, 1) := by decide +kernel
theorem dX5_afterDraws_13 : decode cX5_afterDraws 13 = .ok (.istore 6, 2) := by decide +kernel
theorem dX5_afterDraws_15 : decode cX5_afterDraws 15 = .ok (.iload 6, 2) := by decide +kernel
theorem dX5_afterDraws_17 : decode cX5_afterDraws 17 = .ok (.iload_n 2, 1) := by decide +kernel
theorem dX5_afterDraws_18 : decode cX5_afterDraws 18 = .ok (.if_icmp .ge 34, 3) := by decide +kernel
theorem dX5_afterDraws_21 : decode cX5_afterDraws 21 = .ok (.lload 4, 2) := by decide +kernel
theorem dX5_afterDraws_23 : decode cX5_afterDraws 23 = .ok (.ldc2_w 198, 3) := by decide +kernel
theorem dX5_afterDraws_26 : decode cX5_afterDraws 26 = .ok (.lmul, 1) := by decide +kernel
theorem dX5_afterDraws_27 : decode cX5_afterDraws 27 = .ok (.ldc2_w 200, 3) := by decide +kernel
theorem dX5_afterDraws_30 : decode cX5_afterDraws 30 = .ok (.lrem, 1) := by decide +kernel
theorem dX5_afterDraws_31 : decode cX5_afterDraws 31 = .ok (.lstore 4, 2) := by decide +kernel
theorem dX5_afterDraws_33 : decode cX5_afterDraws 33 = .ok (.aload_n 0, 1) := by decide +kernel
theorem dX5_afterDraws_34 : decode cX5_afterDraws 34 = .ok (.lload 4, 2) := by decide +kernel
theorem dX5_afterDraws_36 : decode cX5_afterDraws 36 = .ok (.invokevirtual 202, 3) := by decide +kernel
theorem dX5_afterDraws_39 : decode cX5_afterDraws 39 = .ok (.aload_n 0, 1) := by decide +kernel
theorem dX5_afterDraws_40 : decode cX5_afterDraws 40 = .ok (.getfield 30, 3) := by decide +kernel
theorem dX5_afterDraws_43 : decode cX5_afterDraws 43 = .ok (.invokevirtual 41, 3) := by decide +kernel
theorem dX5_afterDraws_46 : decode cX5_afterDraws 46 = .ok (.iinc 6 1, 3) := by decide +kernel
theorem dX5_afterDraws_49 : decode cX5_afterDraws 49 = .ok (.goto (-34), 3) := by decide +kernel
theorem dX5_afterDraws_52 : decode cX5_afterDraws 52 = .ok (.aload_n 0, 1) := by decide +kernel
theorem dX5_afterDraws_53 : decode cX5_afterDraws 53 = .ok (.getfield 30, 3) := by decide +kernel
theorem dX5_afterDraws_56 : decode cX5_afterDraws 56 = .ok (.areturn, 1) := by decide +kernel
theorem dX5_draw_0 : decode cX5_draw 0 = .ok (.aload_n 0, 1) := by decide +kernel
theorem dX5_draw_1 : decode cX5_draw 1 = .ok (.getfield 30, 3) := by decide +kernel
theorem dX5_draw_4 : decode cX5_draw 4 = .ok (.getfield 60, 3) := by decide +kernel
theorem dX5_draw_7 : decode cX5_draw 7 = .ok (.ifCond .gt 4, 3) := by decide +kernel
theorem dX5_draw_10 : decode cX5_draw 10 = .ok (.return_, 1) := by decide +kernel
theorem dX5_draw_11 : decode cX5_draw 11 = .ok (.lload_n 1, 1) := by decide +kernel
theorem dX5_draw_12 : decode cX5_draw 12 = .ok (.aload_n 0, 1) := by decide +kernel
theorem dX5_draw_13 : decode cX5_draw 13 = .ok (.getfield 30, 3) := by decide +kernel
theorem dX5_draw_16 : decode cX5_draw 16 = .ok (.getfield 60, 3) := by decide +kernel
theorem dX5_draw_19 : decode cX5_draw 19 = .ok (.i2l, 1) := by decide +kernel
theorem dX5_draw_20 : decode cX5_draw 20 = .ok (.lrem, 1) := by decide +kernel
theorem dX5_draw_21 : decode cX5_draw 21 = .ok (.l2i, 1) := by decide +kernel
theorem dX5_draw_22 : decode cX5_draw 22 = .ok (.iconst 1, 1) := by decide +kernel
theorem dX5_draw_23 : decode cX5_draw 23 = .ok (.iadd, 1) := by decide +kernel
theorem dX5_draw_24 : decode cX5_draw 24 = .ok (.istore_n 3, 1) := by decide +kernel
theorem dX5_draw_25 : decode cX5_draw 25 = .ok (.lload_n 1, 1) := by decide +kernel
theorem dX5_draw_26 : decode cX5_draw 26 = .ok (.ldc2_w 206, 3) := by decide +kernel
theorem dX5_draw_29 : decode cX5_draw 29 = .ok (.lrem, 1) := by decide +kernel
theorem dX5_draw_30 : decode cX5_draw 30 = .ok (.lconst 0, 1) := by decide +kernel
theorem dX5_draw_31 : decode cX5_draw 31 = .ok (.lcmp, 1) := by decide +kernel
theorem dX5_draw_32 : decode cX5_draw 32 = .ok (.ifCond .ne 17, 3) := by decide +kernel
theorem dX5_draw_35 : decode cX5_draw 35 = .ok (.aload_n 0, 1) := by decide +kernel
theorem dX5_draw_36 : decode cX5_draw 36 = .ok (.getfield 30, 3) := by decide +kernel
theorem dX5_draw_39 : decode cX5_draw 39 = .ok (.getfield 80, 3) := by decide +kernel
theorem dX5_draw_42 : decode cX5_draw 42 = .ok (.iload_n 3, 1) := by decide +kernel
theorem dX5_draw_43 : decode cX5_draw 43 = .ok (.bipush 99, 2) := by decide +kernel
theorem dX5_draw_45 : decode cX5_draw 45 = .ok (.iastore, 1) := by decide +kernel
theorem dX5_draw_46 : decode cX5_draw 46 = .ok (.goto 33, 3) := by decide +kernel
theorem dX5_draw_49 : decode cX5_draw 49 = .ok (.lload_n 1, 1) := by decide +kernel
theorem dX5_draw_50 : decode cX5_draw 50 = .ok (.ldc2_w 208, 3) := by decide +kernel
theorem dX5_draw_53 : decode cX5_draw 53 = .ok (.lrem, 1) := by decide +kernel
theorem dX5_draw_54 : decode cX5_draw 54 = .ok (.lconst 0, 1) := by decide +kernel
theorem dX5_draw_55 : decode cX5_draw 55 = .ok (.lcmp, 1) := by decide +kernel
theorem dX5_draw_56 : decode cX5_draw 56 = .ok (.ifCond .ne 23, 3) := by decide +kernel
theorem dX5_draw_59 : decode cX5_draw 59 = .ok (.aload_n 0, 1) := by decide +kernel
theorem dX5_draw_60 : decode cX5_draw 60 = .ok (.getfield 30, 3) := by decide +kernel
theorem dX5_draw_63 : decode cX5_draw 63 = .ok (.iload_n 3, 1) := by decide +kernel
theorem dX5_draw_64 : decode cX5_draw 64 = .ok (.invokevirtual 169, 3) := by decide +kernel
theorem dX5_draw_67 : decode cX5_draw 67 = .ok (.ifCond .ne 12, 3) := by decide +kernel
theorem dX5_draw_70 : decode cX5_draw 70 = .ok (.aload_n 0, 1) := by decide +kernel
theorem dX5_draw_71 : decode cX5_draw 71 = .ok (.getfield 30, 3) := by decide +kernel
theorem dX5_draw_74 : decode cX5_draw 74 = .ok (.iload_n 3, 1) := by decide +kernel
theorem dX5_draw_75 : decode cX5_draw 75 = .ok (.invokevirtual 172, 3) := by decide +kernel
theorem dX5_draw_78 : decode cX5_draw 78 = .ok (.pop, 1) := by decide +kernel
theorem dX5_draw_79 : decode cX5_draw 79 = .ok (.return_, 1) := by decide +kernel
theorem dX6_init_0 : decode cX6_init 0 = .ok (.aload_n 0, 1) := by decide +kernel
theorem dX6_init_1 : decode cX6_init 1 = .ok (.invokespecial 1, 3) := by decide +kernel
theorem dX6_init_4 : decode cX6_init 4 = .ok (.return_, 1) := by decide +kernel
theorem dX6_tellSize_0 : decode cX6_tellSize 0 = .ok (.aload_n 1, 1) := by decide +kernel
theorem dX6_tellSize_1 : decode cX6_tellSize 1 = .ok (.bipush 14, 2) := by decide +kernel
theorem dX6_tellSize_3 : decode cX6_tellSize 3 = .ok (.invokevirtual 7, 3) := by decide +kernel
theorem dX6_tellSize_6 : decode cX6_tellSize 6 = .ok (.iconst 2, 1) := by decide +kernel
theorem dX6_tellSize_7 : decode cX6_tellSize 7 = .ok (.aload_n 0, 1) := by decide +kernel
theorem dX6_tellSize_8 : decode cX6_tellSize 8 = .ok (.aload_n 1, 1) := by decide +kernel
theorem dX6_tellSize_9 : decode cX6_tellSize 9 = .ok (.invokespecial 13, 3) := by decide +kernel
theorem dX6_tellSize_12 : decode cX6_tellSize 12 = .ok (.imul, 1) := by decide +kernel
theorem dX6_tellSize_13 : decode cX6_tellSize 13 = .ok (.ireturn, 1) := by decide +kernel
theorem dX7_init_0 : decode cX7_init 0 = .ok (.aload_n 0, 1) := by decide +kernel
theorem dX7_init_1 : decode cX7_init 1 = .ok (.invokespecial 1, 3) := by decide +kernel
theorem dX7_init_4 : decode cX7_init 4 = .ok (.return_, 1) := by decide +kernel
theorem dX7_tellSize_0 : decode cX7_tellSize 0 = .ok (.aload_n 1, 1) := by decide +kernel
theorem dX7_tellSize_1 : decode cX7_tellSize 1 = .ok (.bipush 10, 2) := by decide +kernel
theorem dX7_tellSize_3 : decode cX7_tellSize 3 = .ok (.invokevirtual 7, 3) := by decide +kernel
theorem dX7_tellSize_6 : decode cX7_tellSize 6 = .ok (.aload_n 1, 1) := by decide +kernel
theorem dX7_tellSize_7 : decode cX7_tellSize 7 = .ok (.getfield 13, 3) := by decide +kernel
theorem dX7_tellSize_10 : decode cX7_tellSize 10 = .ok (.ireturn, 1) := by decide +kernel
theorem dX7_tellMark_0 : decode cX7_tellMark 0 = .ok (.aload_n 1, 1) := by decide +kernel
theorem dX7_tellMark_1 : decode cX7_tellMark 1 = .ok (.bipush 20, 2) := by decide +kernel
theorem dX7_tellMark_3 : decode cX7_tellMark 3 = .ok (.invokevirtual 7, 3) := by decide +kernel
theorem dX7_tellMark_6 : decode cX7_tellMark 6 = .ok (.aload_n 1, 1) := by decide +kernel
theorem dX7_tellMark_7 : decode cX7_tellMark 7 = .ok (.getfield 17, 3) := by decide +kernel
theorem dX7_tellMark_10 : decode cX7_tellMark 10 = .ok (.ireturn, 1) := by decide +kernel
theorem dX8_init_0 : decode cX8_init 0 = .ok (.aload_n 0, 1) := by decide +kernel
theorem dX8_init_1 : decode cX8_init 1 = .ok (.invokespecial 3, 3) := by decide +kernel
theorem dX8_init_4 : decode cX8_init 4 = .ok (.aload_n 0, 1) := by decide +kernel
theorem dX8_init_5 : decode cX8_init 5 = .ok (.bipush 10, 2) := by decide +kernel
theorem dX8_init_7 : decode cX8_init 7 = .ok (.newarray .int, 2) := by decide +kernel
theorem dX8_init_9 : decode cX8_init 9 = .ok (.putfield 9, 3) := by decide +kernel
theorem dX8_init_12 : decode cX8_init 12 = .ok (.aload_n 0, 1) := by decide +kernel
theorem dX8_init_13 : decode cX8_init 13 = .ok (.bipush 10, 2) := by decide +kernel
theorem dX8_init_15 : decode cX8_init 15 = .ok (.newarray .int, 2) := by decide +kernel
theorem dX8_init_17 : decode cX8_init 17 = .ok (.putfield 15, 3) := by decide +kernel
theorem dX8_init_20 : decode cX8_init 20 = .ok (.aload_n 0, 1) := by decide +kernel
theorem dX8_init_21 : decode cX8_init 21 = .ok (.bipush 6, 2) := by decide +kernel
theorem dX8_init_23 : decode cX8_init 23 = .ok (.newarray .int, 2) := by decide +kernel
theorem dX8_init_25 : decode cX8_init 25 = .ok (.putfield 18, 3) := by decide +kernel
theorem dX8_init_28 : decode cX8_init 28 = .ok (.aload_n 0, 1) := by decide +kernel
theorem dX8_init_29 : decode cX8_init 29 = .ok (.bipush 6, 2) := by decide +kernel
theorem dX8_init_31 : decode cX8_init 31 = .ok (.newarray .int, 2) := by decide +kernel
theorem dX8_init_33 : decode cX8_init 33 = .ok (.putfield 21, 3) := by decide +kernel
theorem dX8_init_36 : decode cX8_init 36 = .ok (.aload_n 0, 1) := by decide +kernel
theorem dX8_init_37 : decode cX8_init 37 = .ok (.bipush 6, 2) := by decide +kernel
theorem dX8_init_39 : decode cX8_init 39 = .ok (.newarray .int, 2) := by decide +kernel
theorem dX8_init_41 : decode cX8_init 41 = .ok (.putfield 24, 3) := by decide +kernel
theorem dX8_init_44 : decode cX8_init 44 = .ok (.aload_n 0, 1) := by decide +kernel
theorem dX8_init_45 : decode cX8_init 45 = .ok (.bipush 6, 2) := by decide +kernel
theorem dX8_init_47 : decode cX8_init 47 = .ok (.newarray .int, 2) := by decide +kernel
theorem dX8_init_49 : decode cX8_init 49 = .ok (.putfield 27, 3) := by decide +kernel
theorem dX8_init_52 : decode cX8_init 52 = .ok (.aload_n 0, 1) := by decide +kernel
theorem dX8_init_53 : decode cX8_init 53 = .ok (.bipush 6, 2) := by decide +kernel
theorem dX8_init_55 : decode cX8_init 55 = .ok (.newarray .int, 2) := by decide +kernel
theorem dX8_init_57 : decode cX8_init 57 = .ok (.putfield 30, 3) := by decide +kernel
theorem dX8_init_60 : decode cX8_init 60 = .ok (.aload_n 0, 1) := by decide +kernel
theorem dX8_init_61 : decode cX8_init 61 = .ok (.aload_n 1, 1) := by decide +kernel
theorem dX8_init_62 : decode cX8_init 62 = .ok (.putfield 33, 3) := by decide +kernel
theorem dX8_init_65 : decode cX8_init 65 = .ok (.return_, 1) := by decide +kernel
theorem dX8_become_0 : decode cX8_become 0 = .ok (.aload_n 0, 1) := by decide +kernel
theorem dX8_become_1 : decode cX8_become 1 = .ok (.aload_n 1, 1) := by decide +kernel
theorem dX8_become_2 : decode cX8_become 2 = .ok (.getfield 37, 3) := by decide +kernel
theorem dX8_become_5 : decode cX8_become 5 = .ok (.putfield 37, 3) := by decide +kernel
theorem dX8_become_8 : decode cX8_become 8 = .ok (.aload_n 0, 1) := by decide +kernel
theorem dX8_become_9 : decode cX8_become 9 = .ok (.aload_n 1, 1) := by decide +kernel
theorem dX8_become_10 : decode cX8_become 10 = .ok (.getfield 41, 3) := by decide +kernel
theorem dX8_become_13 : decode cX8_become 13 = .ok (.putfield 41, 3) := by decide +kernel
theorem dX8_become_16 : decode cX8_become 16 = .ok (.aload_n 0, 1) := by decide +kernel
theorem dX8_become_17 : decode cX8_become 17 = .ok (.aload_n 1, 1) := by decide +kernel
theorem dX8_become_18 : decode cX8_become 18 = .ok (.getfield 44, 3) := by decide +kernel
theorem dX8_become_21 : decode cX8_become 21 = .ok (.putfield 44, 3) := by decide +kernel
theorem dX8_become_24 : decode cX8_become 24 = .ok (.aload_n 0, 1) := by decide +kernel
theorem dX8_become_25 : decode cX8_become 25 = .ok (.aload_n 1, 1) := by decide +kernel
theorem dX8_become_26 : decode cX8_become 26 = .ok (.getfield 47, 3) := by decide +kernel
theorem dX8_become_29 : decode cX8_become 29 = .ok (.putfield 47, 3) := by decide +kernel
theorem dX8_become_32 : decode cX8_become 32 = .ok (.aload_n 0, 1) := by decide +kernel
theorem dX8_become_33 : decode cX8_become 33 = .ok (.aload_n 1, 1) := by decide +kernel
theorem dX8_become_34 : decode cX8_become 34 = .ok (.getfield 50, 3) := by decide +kernel
theorem dX8_become_37 : decode cX8_become 37 = .ok (.putfield 50, 3) := by decide +kernel
theorem dX8_become_40 : decode cX8_become 40 = .ok (.aload_n 0, 1) := by decide +kernel
theorem dX8_become_41 : decode cX8_become 41 = .ok (.aload_n 1, 1) := by decide +kernel
theorem dX8_become_42 : decode cX8_become 42 = .ok (.getfield 53, 3) := by decide +kernel
theorem dX8_become_45 : decode cX8_become 45 = .ok (.putfield 53, 3) := by decide +kernel
theorem dX8_become_48 : decode cX8_become 48 = .ok (.aload_n 1, 1) := by decide +kernel
theorem dX8_become_49 : decode cX8_become 49 = .ok (.getfield 15, 3) := by decide +kernel
theorem dX8_become_52 : decode cX8_become 52 = .ok (.iconst 0, 1) := by decide +kernel
theorem dX8_become_53 : decode cX8_become 53 = .ok (.aload_n 0, 1) := by decide +kernel
theorem dX8_become_54 : decode cX8_become 54 = .ok (.getfield 15, 3) := by decide +kernel
theorem dX8_become_57 : decode cX8_become 57 = .ok (.iconst 0, 1) := by decide +kernel
theorem dX8_become_58 : decode cX8_become 58 = .ok (.bipush 10, 2) := by decide +kernel
theorem dX8_become_60 : decode cX8_become 60 = .ok (.invokestatic 56, 3) := by decide +kernel
theorem dX8_become_63 : decode cX8_become 63 = .ok (.aload_n 1, 1) := by decide +kernel
theorem dX8_become_64 : decode cX8_become 64 = .ok (.getfield 18, 3) := by decide +kernel
theorem dX8_become_67 : decode cX8_become 67 = .ok (.iconst 0, 1) := by decide +kernel
theorem dX8_become_68 : decode cX8_become 68 = .ok (.aload_n 0, 1) := by decide +kernel
theorem dX8_become_69 : decode cX8_become 69 = .ok (.getfield 18, 3) := by decide +kernel
theorem dX8_become_72 : decode cX8_become 72 = .ok (.iconst 0, 1) := by decide +kernel
theorem dX8_become_73 : decode cX8_become 73 = .ok (.bipush 6, 2) := by decide +kernel
theorem dX8_become_75 : decode cX8_become 75 = .ok (.invokestatic 56, 3) := by decide +kernel
theorem dX8_become_78 : decode cX8_become 78 = .ok (.aload_n 1, 1) := by decide +kernel
theorem dX8_become_79 : decode cX8_become 79 = .ok (.getfield 21, 3) := by decide +kernel
theorem dX8_become_82 : decode cX8_become 82 = .ok (.iconst 0, 1) := by decide +kernel
theorem dX8_become_83 : decode cX8_become 83 = .ok (.aload_n 0, 1) := by decide +kernel
theorem dX8_become_84 : decode cX8_become 84 = .ok (.getfield 21, 3) := by decide +kernel
theorem dX8_become_87 : decode cX8_become 87 = .ok (.iconst 0, 1) := by decide +kernel
theorem dX8_become_88 : decode cX8_become 88 = .ok (.bipush 6, 2) := by decide +kernel
theorem dX8_become_90 : decode cX8_become 90 = .ok (.invokestatic 56, 3) := by decide +kernel
theorem dX8_become_93 : decode cX8_become 93 = .ok (.aload_n 1, 1) := by decide +kernel
theorem dX8_become_94 : decode cX8_become 94 = .ok (.getfield 24, 3) := by decide +kernel
theorem dX8_become_97 : decode cX8_become 97 = .ok (.iconst 0, 1) := by decide +kernel
theorem dX8_become_98 : decode cX8_become 98 = .ok (.aload_n 0, 1) := by decide +kernel
theorem dX8_become_99 : decode cX8_become 99 = .ok (.getfield 24, 3) := by decide +kernel
theorem dX8_become_102 : decode cX8_become 102 = .ok (.iconst 0, 1) := by decide +kernel
theorem dX8_become_103 : decode cX8_become 103 = .ok (.bipush 6, 2) := by decide +kernel
theorem dX8_become_105 : decode cX8_become 105 = .ok (.invokestatic 56, 3) := by decide +kernel
theorem dX8_become_108 : decode cX8_become 108 = .ok (.aload_n 1, 1) := by decide +kernel
theorem dX8_become_109 : decode cX8_become 109 = .ok (.getfield 27, 3) := by decide +kernel
theorem dX8_become_112 : decode cX8_become 112 = .ok (.iconst 0, 1) := by decide +kernel
theorem dX8_become_113 : decode cX8_become 113 = .ok (.aload_n 0, 1) := by decide +kernel
theorem dX8_become_114 : decode cX8_become 114 = .ok (.getfield 27, 3) := by decide +kernel
theorem dX8_become_117 : decode cX8_become 117 = .ok (.iconst 0, 1) := by decide +kernel
theorem dX8_become_118 : decode cX8_become 118 = .ok (.bipush 6, 2) := by decide +kernel
theorem dX8_become_120 : decode cX8_become 120 = .ok (.invokestatic 56, 3) := by decide +kernel
theorem dX8_become_123 : decode cX8_become 123 = .ok (.aload_n 1, 1) := by decide +kernel
theorem dX8_become_124 : decode cX8_become 124 = .ok (.getfield 30, 3) := by decide +kernel
theorem dX8_become_127 : decode cX8_become 127 = .ok (.iconst 0, 1) := by decide +kernel
theorem dX8_become_128 : decode cX8_become 128 = .ok (.aload_n 0, 1) := by decide +kernel
theorem dX8_become_129 : decode cX8_become 129 = .ok (.getfield 30, 3) := by decide +kernel
theorem dX8_become_132 : decode cX8_become 132 = .ok (.iconst 0, 1) := by decide +kernel
theorem dX8_become_133 : decode cX8_become 133 = .ok (.bipush 6, 2) := by decide +kernel
theorem dX8_become_135 : decode cX8_become 135 = .ok (.invokestatic 56, 3) := by decide +kernel
theorem dX8_become_138 : decode cX8_become 138 = .ok (.return_, 1) := by decide +kernel
theorem dX8_hang_0 : decode cX8_hang 0 = .ok (.aload_n 0, 1) := by decide +kernel
theorem dX8_hang_1 : decode cX8_hang 1 = .ok (.iload_n 1, 1) := by decide +kernel
theorem dX8_hang_2 : decode cX8_hang 2 = .ok (.putfield 37, 3) := by decide +kernel
theorem dX8_hang_5 : decode cX8_hang 5 = .ok (.aload_n 0, 1) := by decide +kernel
theorem dX8_hang_6 : decode cX8_hang 6 = .ok (.iload_n 2, 1) := by decide +kernel
theorem dX8_hang_7 : decode cX8_hang 7 = .ok (.putfield 41, 3) := by decide +kernel
theorem dX8_hang_10 : decode cX8_hang 10 = .ok (.aload_n 0, 1) := by decide +kernel
theorem dX8_hang_11 : decode cX8_hang 11 = .ok (.iconst 0, 1) := by decide +kernel
theorem dX8_hang_12 : decode cX8_hang 12 = .ok (.putfield 44, 3) := by decide +kernel
theorem dX8_hang_15 : decode cX8_hang 15 = .ok (.aload_n 0, 1) := by decide +kernel
theorem dX8_hang_16 : decode cX8_hang 16 = .ok (.iconst 0, 1) := by decide +kernel
theorem dX8_hang_17 : decode cX8_hang 17 = .ok (.putfield 47, 3) := by decide +kernel
theorem dX8_hang_20 : decode cX8_hang 20 = .ok (.aload_n 0, 1) := by decide +kernel
theorem dX8_hang_21 : decode cX8_hang 21 = .ok (.iconst 0, 1) := by decide +kernel
theorem dX8_hang_22 : decode cX8_hang 22 = .ok (.putfield 50, 3) := by decide +kernel
theorem dX8_hang_25 : decode cX8_hang 25 = .ok (.aload_n 0, 1) := by decide +kernel
theorem dX8_hang_26 : decode cX8_hang 26 = .ok (.iconst 0, 1) := by decide +kernel
theorem dX8_hang_27 : decode cX8_hang 27 = .ok (.putfield 53, 3) := by decide +kernel
theorem dX8_hang_30 : decode cX8_hang 30 = .ok (.return_, 1) := by decide +kernel
theorem dX8_addGoer_0 : decode cX8_addGoer 0 = .ok (.aload_n 0, 1) := by decide +kernel
theorem dX8_addGoer_1 : decode cX8_addGoer 1 = .ok (.getfield 44, 3) := by decide +kernel
theorem dX8_addGoer_4 : decode cX8_addGoer 4 = .ok (.bipush 6, 2) := by decide +kernel
theorem dX8_addGoer_6 : decode cX8_addGoer 6 = .ok (.if_icmp .lt 4, 3) := by decide +kernel
theorem dX8_addGoer_9 : decode cX8_addGoer 9 = .ok (.return_, 1) := by decide +kernel
theorem dX8_addGoer_10 : decode cX8_addGoer 10 = .ok (.aload_n 0, 1) := by decide +kernel
theorem dX8_addGoer_11 : decode cX8_addGoer 11 = .ok (.getfield 18, 3) := by decide +kernel
theorem dX8_addGoer_14 : decode cX8_addGoer 14 = .ok (.aload_n 0, 1) := by decide +kernel
theorem dX8_addGoer_15 : decode cX8_addGoer 15 = .ok (.getfield 44, 3) := by decide +kernel
theorem dX8_addGoer_18 : decode cX8_addGoer 18 = .ok (.iload_n 1, 1) := by decide +kernel
theorem dX8_addGoer_19 : decode cX8_addGoer 19 = .ok (.iastore, 1) := by decide +kernel
theorem dX8_addGoer_20 : decode cX8_addGoer 20 = .ok (.aload_n 0, 1) := by decide +kernel
theorem dX8_addGoer_21 : decode cX8_addGoer 21 = .ok (.getfield 21, 3) := by decide +kernel
theorem dX8_addGoer_24 : decode cX8_addGoer 24 = .ok (.aload_n 0, 1) := by decide +kernel
theorem dX8_addGoer_25 : decode cX8_addGoer 25 = .ok (.getfield 44, 3) := by decide +kernel
theorem dX8_addGoer_28 : decode cX8_addGoer 28 = .ok (.iload_n 2, 1) := by decide +kernel
theorem dX8_addGoer_29 : decode cX8_addGoer 29 = .ok (.iastore, 1) := by decide +kernel
theorem dX8_addGoer_30 : decode cX8_addGoer 30 = .ok (.aload_n 0, 1) := by decide +kernel
theorem dX8_addGoer_31 : decode cX8_addGoer 31 = .ok (.getfield 24, 3) := by decide +kernel
theorem dX8_addGoer_34 : decode cX8_addGoer 34 = .ok (.aload_n 0, 1) := by decide +kernel
theorem dX8_addGoer_35 : decode cX8_addGoer 35 = .ok (.getfield 44, 3) := by decide +kernel
theorem dX8_addGoer_38 : decode cX8_addGoer 38 = .ok (.iload_n 3, 1) := by decide +kernel
theorem dX8_addGoer_39 : decode cX8_addGoer 39 = .ok (.iastore, 1) := by decide +kernel
theorem dX8_addGoer_40 : decode cX8_addGoer 40 = .ok (.aload_n 0, 1) := by decide +kernel
theorem dX8_addGoer_41 : decode cX8_addGoer 41 = .ok (.getfield 27, 3) := by decide +kernel
theorem dX8_addGoer_44 : decode cX8_addGoer 44 = .ok (.aload_n 0, 1) := by decide +kernel
theorem dX8_addGoer_45 : decode cX8_addGoer 45 = .ok (.getfield 44, 3) := by decide +kernel
theorem dX8_addGoer_48 : decode cX8_addGoer 48 = .ok (.iconst 0, 1) := by decide +kernel
theorem dX8_addGoer_49 : decode cX8_addGoer 49 = .ok (.iastore, 1) := by decide +kernel
theorem dX8_addGoer_50 : decode cX8_addGoer 50 = .ok (.aload_n 0, 1) := by decide +kernel
theorem dX8_addGoer_51 : decode cX8_addGoer 51 = .ok (.getfield 30, 3) := by decide +kernel
theorem dX8_addGoer_54 : decode cX8_addGoer 54 = .ok (.aload_n 0, 1) := by decide +kernel
theorem dX8_addGoer_55 : decode cX8_addGoer 55 = .ok (.getfield 44, 3) := by decide +kernel
theorem dX8_addGoer_58 : decode cX8_addGoer 58 = .ok (.iconst 0, 1) := by decide +kernel
theorem dX8_addGoer_59 : decode cX8_addGoer 59 = .ok (.iastore, 1) := by decide +kernel
theorem dX8_addGoer_60 : decode cX8_addGoer 60 = .ok (.aload_n 0, 1) := by decide +kernel
theorem dX8_addGoer_61 : decode cX8_addGoer 61 = .ok (.dup, 1) := by decide +kernel
theorem dX8_addGoer_62 : decode cX8_addGoer 62 = .ok (.getfield 44, 3) := by decide +kernel
theorem dX8_addGoer_65 : decode cX8_addGoer 65 = .ok (.iconst 1, 1) := by decide +kernel
theorem dX8_addGoer_66 : decode cX8_addGoer 66 = .ok (.iadd, 1) := by decide +kernel
theorem dX8_addGoer_67 : decode cX8_addGoer 67 = .ok (.putfield 44, 3) := by decide +kernel
theorem dX8_addGoer_70 : decode cX8_addGoer 70 = .ok (.return_, 1) := by decide +kernel
theorem dX8_top_0 : decode cX8_top 0 = .ok (.aload_n 0, 1) := by decide +kernel
theorem dX8_top_1 : decode cX8_top 1 = .ok (.getfield 37, 3) := by decide +kernel
theorem dX8_top_4 : decode cX8_top 4 = .ok (.iconst 1, 1) := by decide +kernel
theorem dX8_top_5 : decode cX8_top 5 = .ok (.iadd, 1) := by decide +kernel
theorem dX8_top_6 : decode cX8_top 6 = .ok (.ireturn, 1) := by decide +kernel
theorem dX8_sortOf_0 : decode cX8_sortOf 0 = .ok (.aload_n 0, 1) := by decide +kernel
theorem dX8_sortOf_1 : decode cX8_sortOf 1 = .ok (.getfield 33, 3) := by decide +kernel
theorem dX8_sortOf_4 : decode cX8_sortOf 4 = .ok (.aload_n 0, 1) := by decide +kernel
theorem dX8_sortOf_5 : decode cX8_sortOf 5 = .ok (.getfield 18, 3) := by decide +kernel
theorem dX8_sortOf_8 : decode cX8_sortOf 8 = .ok (.iload_n 1, 1) := by decide +kernel
theorem dX8_sortOf_9 : decode cX8_sortOf 9 = .ok (.iaload, 1) := by decide +kernel
theorem dX8_sortOf_10 : decode cX8_sortOf 10 = .ok (.aaload, 1) := by decide +kernel
theorem dX8_sortOf_11 : decode cX8_sortOf 11 = .ok (.areturn, 1) := by decide +kernel
theorem dX8_loadOf_0 : decode cX8_loadOf 0 = .ok (.aload_n 0, 1) := by decide +kernel
theorem dX8_loadOf_1 : decode cX8_loadOf 1 = .ok (.getfield 18, 3) := by decide +kernel
theorem dX8_loadOf_4 : decode cX8_loadOf 4 = .ok (.iload_n 1, 1) := by decide +kernel
theorem dX8_loadOf_5 : decode cX8_loadOf 5 = .ok (.iaload, 1) := by decide +kernel
theorem dX8_loadOf_6 : decode cX8_loadOf 6 = .ok (.iconst 5, 1) := by decide +kernel
theorem dX8_loadOf_7 : decode cX8_loadOf 7 = .ok (.if_icmp .ne 14, 3) := by decide +kernel
theorem dX8_loadOf_10 : decode cX8_loadOf 10 = .ok (.aload_n 0, 1) := by decide +kernel
theorem dX8_loadOf_11 : decode cX8_loadOf 11 = .ok (.getfield 21, 3) := by decide +kernel
theorem dX8_loadOf_14 : decode cX8_loadOf 14 = .ok (.iload_n 1, 1) := by decide +kernel
theorem dX8_loadOf_15 : decode cX8_loadOf 15 = .ok (.iaload, 1) := by decide +kernel
theorem dX8_loadOf_16 : decode cX8_loadOf 16 = .ok (.iconst 2, 1) := by decide +kernel
theorem dX8_loadOf_17 : decode cX8_loadOf 17 = .ok (.idiv, 1) := by decide +kernel
theorem dX8_loadOf_18 : decode cX8_loadOf 18 = .ok (.goto 9, 3) := by decide +kernel
theorem dX8_loadOf_21 : decode cX8_loadOf 21 = .ok (.aload_n 0, 1) := by decide +kernel
theorem dX8_loadOf_22 : decode cX8_loadOf 22 = .ok (.getfield 21, 3) := by decide +kernel
theorem dX8_loadOf_25 : decode cX8_loadOf 25 = .ok (.iload_n 1, 1) := by decide +kernel
theorem dX8_loadOf_26 : decode cX8_loadOf 26 = .ok (.iaload, 1) := by decide +kernel
theorem dX8_loadOf_27 : decode cX8_loadOf 27 = .ok (.ireturn, 1) := by decide +kernel
theorem dX8_isHeld_0 : decode cX8_isHeld 0 = .ok (.aload_n 0, 1) := by decide +kernel
theorem dX8_isHeld_1 : decode cX8_isHeld 1 = .ok (.getfield 50, 3) := by decide +kernel
theorem dX8_isHeld_4 : decode cX8_isHeld 4 = .ok (.iload_n 1, 1) := by decide +kernel
theorem dX8_isHeld_5 : decode cX8_isHeld 5 = .ok (.ishr, 1) := by decide +kernel
theorem dX8_isHeld_6 : decode cX8_isHeld 6 = .ok (.iconst 1, 1) := by decide +kernel
theorem dX8_isHeld_7 : decode cX8_isHeld 7 = .ok (.iand, 1) := by decide +kernel
theorem dX8_isHeld_8 : decode cX8_isHeld 8 = .ok (.iconst 1, 1) := by decide +kernel
theorem dX8_isHeld_9 : decode cX8_isHeld 9 = .ok (.if_icmp .ne 7, 3) := by decide +kernel
theorem dX8_isHeld_12 : decode cX8_isHeld 12 = .ok (.iconst 1, 1) := by decide +kernel
theorem dX8_isHeld_13 : decode cX8_isHeld 13 = .ok (.goto 4, 3) := by decide +kernel
theorem dX8_isHeld_16 : decode cX8_isHeld 16 = .ok (.iconst 0, 1) := by decide +kernel
theorem dX8_isHeld_17 : decode cX8_isHeld 17 = .ok (.ireturn, 1) := by decide +kernel
theorem dX8_isOnWayUp_0 : decode cX8_isOnWayUp 0 = .ok (.aload_n 0, 1) := by decide +kernel
theorem dX8_isOnWayUp_1 : decode cX8_isOnWayUp 1 = .ok (.getfield 53, 3) := by decide +kernel
theorem dX8_isOnWayUp_4 : decode cX8_isOnWayUp 4 = .ok (.iload_n 1, 1) := by decide +kernel
theorem dX8_isOnWayUp_5 : decode cX8_isOnWayUp 5 = .ok (.ishr, 1) := by decide +kernel
theorem dX8_isOnWayUp_6 : decode cX8_isOnWayUp 6 = .ok (.iconst 1, 1) := by decide +kernel
theorem dX8_isOnWayUp_7 : decode cX8_isOnWayUp 7 = .ok (.iand, 1) := by decide +kernel
theorem dX8_isOnWayUp_8 : decode cX8_isOnWayUp 8 = .ok (.ifCond .ne 7, 3) := by decide +kernel
theorem dX8_isOnWayUp_11 : decode cX8_isOnWayUp 11 = .ok (.iconst 1, 1) := by decide +kernel
theorem dX8_isOnWayUp_12 : decode cX8_isOnWayUp 12 = .ok (.goto 4, 3) := by decide +kernel
theorem dX8_isOnWayUp_15 : decode cX8_isOnWayUp 15 = .ok (.iconst 0, 1) := by decide +kernel
theorem dX8_isOnWayUp_16 : decode cX8_isOnWayUp 16 = .ok (.ireturn, 1) := by decide +kernel
theorem dX8_isAbove_0 : decode cX8_isAbove 0 = .ok (.aload_n 0, 1) := by decide +kernel
theorem dX8_isAbove_1 : decode cX8_isAbove 1 = .ok (.getfield 27, 3) := by decide +kernel
theorem dX8_isAbove_4 : decode cX8_isAbove 4 = .ok (.iload_n 1, 1) := by decide +kernel
theorem dX8_isAbove_5 : decode cX8_isAbove 5 = .ok (.iaload, 1) := by decide +kernel
theorem dX8_isAbove_6 : decode cX8_isAbove 6 = .ok (.aload_n 0, 1) := by decide +kernel
theorem dX8_isAbove_7 : decode cX8_isAbove 7 = .ok (.getfield 37, 3) := by decide +kernel
theorem dX8_isAbove_10 : decode cX8_isAbove 10 = .ok (.if_icmp .le 7, 3) := by decide +kernel
theorem dX8_isAbove_13 : decode cX8_isAbove 13 = .ok (.iconst 1, 1) := by decide +kernel
theorem dX8_isAbove_14 : decode cX8_isAbove 14 = .ok (.goto 4, 3) := by decide +kernel
theorem dX8_isAbove_17 : decode cX8_isAbove 17 = .ok (.iconst 0, 1) := by decide +kernel
theorem dX8_isAbove_18 : decode cX8_isAbove 18 = .ok (.ireturn, 1) := by decide +kernel
theorem dX8_isOnRung_0 : decode cX8_isOnRung 0 = .ok (.aload_n 0, 1) := by decide +kernel
theorem dX8_isOnRung_1 : decode cX8_isOnRung 1 = .ok (.getfield 27, 3) := by decide +kernel
theorem dX8_isOnRung_4 : decode cX8_isOnRung 4 = .ok (.iload_n 1, 1) := by decide +kernel
theorem dX8_isOnRung_5 : decode cX8_isOnRung 5 = .ok (.iaload, 1) := by decide +kernel
theorem dX8_isOnRung_6 : decode cX8_isOnRung 6 = .ok (.ifCond .eq 20, 3) := by decide +kernel
theorem dX8_isOnRung_9 : decode cX8_isOnRung 9 = .ok (.aload_n 0, 1) := by decide +kernel
theorem dX8_isOnRung_10 : decode cX8_isOnRung 10 = .ok (.getfield 27, 3) := by decide +kernel
theorem dX8_isOnRung_13 : decode cX8_isOnRung 13 = .ok (.iload_n 1, 1) := by decide +kernel
theorem dX8_isOnRung_14 : decode cX8_isOnRung 14 = .ok (.iaload, 1) := by decide +kernel
theorem dX8_isOnRung_15 : decode cX8_isOnRung 15 = .ok (.aload_n 0, 1) := by decide +kernel
theorem dX8_isOnRung_16 : decode cX8_isOnRung 16 = .ok (.getfield 37, 3) := by decide +kernel
theorem dX8_isOnRung_19 : decode cX8_isOnRung 19 = .ok (.if_icmp .gt 7, 3) := by decide +kernel
theorem dX8_isOnRung_22 : decode cX8_isOnRung 22 = .ok (.iconst 1, 1) := by decide +kernel
theorem dX8_isOnRung_23 : decode cX8_isOnRung 23 = .ok (.goto 4, 3) := by decide +kernel
theorem dX8_isOnRung_26 : decode cX8_isOnRung 26 = .ok (.iconst 0, 1) := by decide +kernel
theorem dX8_isOnRung_27 : decode cX8_isOnRung 27 = .ok (.ireturn, 1) := by decide +kernel
theorem dX8_isBroken_0 : decode cX8_isBroken 0 = .ok (.iload_n 1, 1) := by decide +kernel
theorem dX8_isBroken_1 : decode cX8_isBroken 1 = .ok (.iconst 1, 1) := by decide +kernel
theorem dX8_isBroken_2 : decode cX8_isBroken 2 = .ok (.if_icmp .lt 24, 3) := by decide +kernel
theorem dX8_isBroken_5 : decode cX8_isBroken 5 = .ok (.iload_n 1, 1) := by decide +kernel
theorem dX8_isBroken_6 : decode cX8_isBroken 6 = .ok (.aload_n 0, 1) := by decide +kernel
theorem dX8_isBroken_7 : decode cX8_isBroken 7 = .ok (.getfield 37, 3) := by decide +kernel
theorem dX8_isBroken_10 : decode cX8_isBroken 10 = .ok (.if_icmp .gt 16, 3) := by decide +kernel
theorem dX8_isBroken_13 : decode cX8_isBroken 13 = .ok (.aload_n 0, 1) := by decide +kernel
theorem dX8_isBroken_14 : decode cX8_isBroken 14 = .ok (.getfield 15, 3) := by decide +kernel
theorem dX8_isBroken_17 : decode cX8_isBroken 17 = .ok (.iload_n 1, 1) := by decide +kernel
theorem dX8_isBroken_18 : decode cX8_isBroken 18 = .ok (.iaload, 1) := by decide +kernel
theorem dX8_isBroken_19 : decode cX8_isBroken 19 = .ok (.ifCond .ne 7, 3) := by decide +kernel
theorem dX8_isBroken_22 : decode cX8_isBroken 22 = .ok (.iconst 1, 1) := by decide +kernel
theorem dX8_isBroken_23 : decode cX8_isBroken 23 = .ok (.goto 4, 3) := by decide +kernel
theorem dX8_isBroken_26 : decode cX8_isBroken 26 = .ok (.iconst 0, 1) := by decide +kernel
theorem dX8_isBroken_27 : decode cX8_isBroken 27 = .ok (.ireturn, 1) := by decide +kernel
theorem dX8_allRungs_0 : decode cX8_allRungs 0 = .ok (.iconst 1, 1) := by decide +kernel
theorem dX8_allRungs_1 : decode cX8_allRungs 1 = .ok (.aload_n 0, 1) := by decide +kernel
theorem dX8_allRungs_2 : decode cX8_allRungs 2 = .ok (.getfield 37, 3) := by decide +kernel
theorem dX8_allRungs_5 : decode cX8_allRungs 5 = .ok (.ishl, 1) := by decide +kernel
theorem dX8_allRungs_6 : decode cX8_allRungs 6 = .ok (.iconst 1, 1) := by decide +kernel
theorem dX8_allRungs_7 : decode cX8_allRungs 7 = .ok (.isub, 1) := by decide +kernel
theorem dX8_allRungs_8 : decode cX8_allRungs 8 = .ok (.ireturn, 1) := by decide +kernel
theorem dX8_brokenRungs_0 : decode cX8_brokenRungs 0 = .ok (.iconst 0, 1) := by decide +kernel
theorem dX8_brokenRungs_1 : decode cX8_brokenRungs 1 = .ok (.istore_n 1, 1) := by decide +kernel
theorem dX8_brokenRungs_2 : decode cX8_brokenRungs 2 = .ok (.iconst 1, 1) := by decide +kernel
theorem dX8_brokenRungs_3 : decode cX8_brokenRungs 3 = .ok (.istore_n 2, 1) := by decide +kernel
theorem dX8_brokenRungs_4 : decode cX8_brokenRungs 4 = .ok (.iload_n 2, 1) := by decide +kernel
theorem dX8_brokenRungs_5 : decode cX8_brokenRungs 5 = .ok (.aload_n 0, 1) := by decide +kernel
theorem dX8_brokenRungs_6 : decode cX8_brokenRungs 6 = .ok (.getfield 37, 3) := by decide +kernel
theorem dX8_brokenRungs_9 : decode cX8_brokenRungs 9 = .ok (.if_icmp .gt 26, 3) := by decide +kernel
theorem dX8_brokenRungs_12 : decode cX8_brokenRungs 12 = .ok (.aload_n 0, 1) := by decide +kernel
theorem dX8_brokenRungs_13 : decode cX8_brokenRungs 13 = .ok (.getfield 15, 3) := by decide +kernel
theorem dX8_brokenRungs_16 : decode cX8_brokenRungs 16 = .ok (.iload_n 2, 1) := by decide +kernel
theorem dX8_brokenRungs_17 : decode cX8_brokenRungs 17 = .ok (.iaload, 1) := by decide +kernel
theorem dX8_brokenRungs_18 : decode cX8_brokenRungs 18 = .ok (.ifCond .ne 11, 3) := by decide +kernel
theorem dX8_brokenRungs_21 : decode cX8_brokenRungs 21 = .ok (.iload_n 1, 1) := by decide +kernel
theorem dX8_brokenRungs_22 : decode cX8_brokenRungs 22 = .ok (.iconst 1, 1) := by decide +kernel
theorem dX8_brokenRungs_23 : decode cX8_brokenRungs 23 = .ok (.iload_n 2, 1) := by decide +kernel
theorem dX8_brokenRungs_24 : decode cX8_brokenRungs 24 = .ok (.iconst 1, 1) := by decide +kernel
theorem dX8_brokenRungs_25 : decode cX8_brokenRungs 25 = .ok (.isub, 1) := by decide +kernel
theorem dX8_brokenRungs_26 : decode cX8_brokenRungs 26 = .ok (.ishl, 1) := by decide +kernel
theorem dX8_brokenRungs_27 : decode cX8_brokenRungs 27 = .ok (.ior, 1) := by decide +kernel
theorem dX8_brokenRungs_28 : decode cX8_brokenRungs 28 = .ok (.istore_n 1, 1) := by decide +kernel
theorem dX8_brokenRungs_29 : decode cX8_brokenRungs 29 = .ok (.iinc 2 1, 3) := by decide +kernel
theorem dX8_brokenRungs_32 : decode cX8_brokenRungs 32 = .ok (.goto (-28), 3) := by decide +kernel
theorem dX8_brokenRungs_35 : decode cX8_brokenRungs 35 = .ok (.iload_n 1, 1) := by decide +kernel
theorem dX8_brokenRungs_36 : decode cX8_brokenRungs 36 = .ok (.ireturn, 1) := by decide +kernel
theorem dX8_whoIsAt_0 : decode cX8_whoIsAt 0 = .ok (.iconst 0, 1) := by decide +kernel
theorem dX8_whoIsAt_1 : decode cX8_whoIsAt 1 = .ok (.istore_n 2, 1) := by decide +kernel
theorem dX8_whoIsAt_2 : decode cX8_whoIsAt 2 = .ok (.iconst 0, 1) := by decide +kernel
theorem dX8_whoIsAt_3 : decode cX8_whoIsAt 3 = .ok (.istore_n 3, 1) := by decide +kernel
theorem dX8_whoIsAt_4 : decode cX8_whoIsAt 4 = .ok (.iload_n 3, 1) := by decide +kernel
theorem dX8_whoIsAt_5 : decode cX8_whoIsAt 5 = .ok (.aload_n 0, 1) := by decide +kernel
theorem dX8_whoIsAt_6 : decode cX8_whoIsAt 6 = .ok (.getfield 44, 3) := by decide +kernel
theorem dX8_whoIsAt_9 : decode cX8_whoIsAt 9 = .ok (.if_icmp .ge 25, 3) := by decide +kernel
theorem dX8_whoIsAt_12 : decode cX8_whoIsAt 12 = .ok (.aload_n 0, 1) := by decide +kernel
theorem dX8_whoIsAt_13 : decode cX8_whoIsAt 13 = .ok (.getfield 27, 3) := by decide +kernel
theorem dX8_whoIsAt_16 : decode cX8_whoIsAt 16 = .ok (.iload_n 3, 1) := by decide +kernel
theorem dX8_whoIsAt_17 : decode cX8_whoIsAt 17 = .ok (.iaload, 1) := by decide +kernel
theorem dX8_whoIsAt_18 : decode cX8_whoIsAt 18 = .ok (.iload_n 1, 1) := by decide +kernel
theorem dX8_whoIsAt_19 : decode cX8_whoIsAt 19 = .ok (.if_icmp .ne 9, 3) := by decide +kernel
theorem dX8_whoIsAt_22 : decode cX8_whoIsAt 22 = .ok (.iload_n 2, 1) := by decide +kernel
theorem dX8_whoIsAt_23 : decode cX8_whoIsAt 23 = .ok (.iconst 1, 1) := by decide +kernel
theorem dX8_whoIsAt_24 : decode cX8_whoIsAt 24 = .ok (.iload_n 3, 1) := by decide +kernel
theorem dX8_whoIsAt_25 : decode cX8_whoIsAt 25 = .ok (.ishl, 1) := by decide +kernel
theorem dX8_whoIsAt_26 : decode cX8_whoIsAt 26 = .ok (.ior, 1) := by decide +kernel
theorem dX8_whoIsAt_27 : decode cX8_whoIsAt 27 = .ok (.istore_n 2, 1) := by decide +kernel
theorem dX8_whoIsAt_28 : decode cX8_whoIsAt 28 = .ok (.iinc 3 1, 3) := by decide +kernel
theorem dX8_whoIsAt_31 : decode cX8_whoIsAt 31 = .ok (.goto (-27), 3) := by decide +kernel
theorem dX8_whoIsAt_34 : decode cX8_whoIsAt 34 = .ok (.iload_n 2, 1) := by decide +kernel
theorem dX8_whoIsAt_35 : decode cX8_whoIsAt 35 = .ok (.ireturn, 1) := by decide +kernel
theorem dX8_howManyAbove_0 : decode cX8_howManyAbove 0 = .ok (.aload_n 0, 1) := by decide +kernel
theorem dX8_howManyAbove_1 : decode cX8_howManyAbove 1 = .ok (.aload_n 0, 1) := by decide +kernel
theorem dX8_howManyAbove_2 : decode cX8_howManyAbove 2 = .ok (.invokevirtual 62, 3) := by decide +kernel
theorem dX8_howManyAbove_5 : decode cX8_howManyAbove 5 = .ok (.invokevirtual 66, 3) := by decide +kernel
theorem dX8_howManyAbove_8 : decode cX8_howManyAbove 8 = .ok (.invokestatic 70, 3) := by decide +kernel
theorem dX8_howManyAbove_11 : decode cX8_howManyAbove 11 = .ok (.ireturn, 1) := by decide +kernel
theorem dX8_loadAt_0 : decode cX8_loadAt 0 = .ok (.iconst 0, 1) := by decide +kernel
theorem dX8_loadAt_1 : decode cX8_loadAt 1 = .ok (.istore_n 2, 1) := by decide +kernel
theorem dX8_loadAt_2 : decode cX8_loadAt 2 = .ok (.iconst 0, 1) := by decide +kernel
theorem dX8_loadAt_3 : decode cX8_loadAt 3 = .ok (.istore_n 3, 1) := by decide +kernel
theorem dX8_loadAt_4 : decode cX8_loadAt 4 = .ok (.iload_n 3, 1) := by decide +kernel
theorem dX8_loadAt_5 : decode cX8_loadAt 5 = .ok (.aload_n 0, 1) := by decide +kernel
theorem dX8_loadAt_6 : decode cX8_loadAt 6 = .ok (.getfield 44, 3) := by decide +kernel
theorem dX8_loadAt_9 : decode cX8_loadAt 9 = .ok (.if_icmp .ge 27, 3) := by decide +kernel
theorem dX8_loadAt_12 : decode cX8_loadAt 12 = .ok (.aload_n 0, 1) := by decide +kernel
theorem dX8_loadAt_13 : decode cX8_loadAt 13 = .ok (.getfield 27, 3) := by decide +kernel
theorem dX8_loadAt_16 : decode cX8_loadAt 16 = .ok (.iload_n 3, 1) := by decide +kernel
theorem dX8_loadAt_17 : decode cX8_loadAt 17 = .ok (.iaload, 1) := by decide +kernel
theorem dX8_loadAt_18 : decode cX8_loadAt 18 = .ok (.iload_n 1, 1) := by decide +kernel
theorem dX8_loadAt_19 : decode cX8_loadAt 19 = .ok (.if_icmp .ne 11, 3) := by decide +kernel
theorem dX8_loadAt_22 : decode cX8_loadAt 22 = .ok (.iload_n 2, 1) := by decide +kernel
theorem dX8_loadAt_23 : decode cX8_loadAt 23 = .ok (.aload_n 0, 1) := by decide +kernel
theorem dX8_loadAt_24 : decode cX8_loadAt 24 = .ok (.iload_n 3, 1) := by decide +kernel
theorem dX8_loadAt_25 : decode cX8_loadAt 25 = .ok (.invokevirtual 75, 3) := by decide +kernel
theorem dX8_loadAt_28 : decode cX8_loadAt 28 = .ok (.iadd, 1) := by decide +kernel
theorem dX8_loadAt_29 : decode cX8_loadAt 29 = .ok (.istore_n 2, 1) := by decide +kernel
theorem dX8_loadAt_30 : decode cX8_loadAt 30 = .ok (.iinc 3 1, 3) := by decide +kernel
theorem dX8_loadAt_33 : decode cX8_loadAt 33 = .ok (.goto (-29), 3) := by decide +kernel
theorem dX8_loadAt_36 : decode cX8_loadAt 36 = .ok (.iload_n 2, 1) := by decide +kernel
theorem dX8_loadAt_37 : decode cX8_loadAt 37 = .ok (.ireturn, 1) := by decide +kernel
theorem dX8_loadOnRungs_0 : decode cX8_loadOnRungs 0 = .ok (.iconst 0, 1) := by decide +kernel
theorem dX8_loadOnRungs_1 : decode cX8_loadOnRungs 1 = .ok (.istore_n 1, 1) := by decide +kernel
theorem dX8_loadOnRungs_2 : decode cX8_loadOnRungs 2 = .ok (.iconst 0, 1) := by decide +kernel
theorem dX8_loadOnRungs_3 : decode cX8_loadOnRungs 3 = .ok (.istore_n 2, 1) := by decide +kernel
theorem dX8_loadOnRungs_4 : decode cX8_loadOnRungs 4 = .ok (.iload_n 2, 1) := by decide +kernel
theorem dX8_loadOnRungs_5 : decode cX8_loadOnRungs 5 = .ok (.aload_n 0, 1) := by decide +kernel
theorem dX8_loadOnRungs_6 : decode cX8_loadOnRungs 6 = .ok (.getfield 44, 3) := by decide +kernel
theorem dX8_loadOnRungs_9 : decode cX8_loadOnRungs 9 = .ok (.if_icmp .ge 25, 3) := by decide +kernel
theorem dX8_loadOnRungs_12 : decode cX8_loadOnRungs 12 = .ok (.aload_n 0, 1) := by decide +kernel
theorem dX8_loadOnRungs_13 : decode cX8_loadOnRungs 13 = .ok (.iload_n 2, 1) := by decide +kernel
theorem dX8_loadOnRungs_14 : decode cX8_loadOnRungs 14 = .ok (.invokevirtual 78, 3) := by decide +kernel
theorem dX8_loadOnRungs_17 : decode cX8_loadOnRungs 17 = .ok (.ifCond .eq 11, 3) := by decide +kernel
theorem dX8_loadOnRungs_20 : decode cX8_loadOnRungs 20 = .ok (.iload_n 1, 1) := by decide +kernel
theorem dX8_loadOnRungs_21 : decode cX8_loadOnRungs 21 = .ok (.aload_n 0, 1) := by decide +kernel
theorem dX8_loadOnRungs_22 : decode cX8_loadOnRungs 22 = .ok (.iload_n 2, 1) := by decide +kernel
theorem dX8_loadOnRungs_23 : decode cX8_loadOnRungs 23 = .ok (.invokevirtual 75, 3) := by decide +kernel
theorem dX8_loadOnRungs_26 : decode cX8_loadOnRungs 26 = .ok (.iadd, 1) := by decide +kernel
theorem dX8_loadOnRungs_27 : decode cX8_loadOnRungs 27 = .ok (.istore_n 1, 1) := by decide +kernel
theorem dX8_loadOnRungs_28 : decode cX8_loadOnRungs 28 = .ok (.iinc 2 1, 3) := by decide +kernel
theorem dX8_loadOnRungs_31 : decode cX8_loadOnRungs 31 = .ok (.goto (-27), 3) := by decide +kernel
theorem dX8_loadOnRungs_34 : decode cX8_loadOnRungs 34 = .ok (.iload_n 1, 1) := by decide +kernel
theorem dX8_loadOnRungs_35 : decode cX8_loadOnRungs 35 = .ok (.ireturn, 1) := by decide +kernel
theorem dX8_allFalls_0 : decode cX8_allFalls 0 = .ok (.iconst 0, 1) := by decide +kernel
theorem dX8_allFalls_1 : decode cX8_allFalls 1 = .ok (.istore_n 1, 1) := by decide +kernel
theorem dX8_allFalls_2 : decode cX8_allFalls 2 = .ok (.iconst 0, 1) := by decide +kernel
theorem dX8_allFalls_3 : decode cX8_allFalls 3 = .ok (.istore_n 2, 1) := by decide +kernel
theorem dX8_allFalls_4 : decode cX8_allFalls 4 = .ok (.iload_n 2, 1) := by decide +kernel
theorem dX8_allFalls_5 : decode cX8_allFalls 5 = .ok (.aload_n 0, 1) := by decide +kernel
theorem dX8_allFalls_6 : decode cX8_allFalls 6 = .ok (.getfield 44, 3) := by decide +kernel
theorem dX8_allFalls_9 : decode cX8_allFalls 9 = .ok (.if_icmp .ge 18, 3) := by decide +kernel
theorem dX8_allFalls_12 : decode cX8_allFalls 12 = .ok (.iload_n 1, 1) := by decide +kernel
theorem dX8_allFalls_13 : decode cX8_allFalls 13 = .ok (.aload_n 0, 1) := by decide +kernel
theorem dX8_allFalls_14 : decode cX8_allFalls 14 = .ok (.getfield 30, 3) := by decide +kernel
theorem dX8_allFalls_17 : decode cX8_allFalls 17 = .ok (.iload_n 2, 1) := by decide +kernel
theorem dX8_allFalls_18 : decode cX8_allFalls 18 = .ok (.iaload, 1) := by decide +kernel
theorem dX8_allFalls_19 : decode cX8_allFalls 19 = .ok (.iadd, 1) := by decide +kernel
theorem dX8_allFalls_20 : decode cX8_allFalls 20 = .ok (.istore_n 1, 1) := by decide +kernel
theorem dX8_allFalls_21 : decode cX8_allFalls 21 = .ok (.iinc 2 1, 3) := by decide +kernel
theorem dX8_allFalls_24 : decode cX8_allFalls 24 = .ok (.goto (-20), 3) := by decide +kernel
theorem dX8_allFalls_27 : decode cX8_allFalls 27 = .ok (.iload_n 1, 1) := by decide +kernel
theorem dX8_allFalls_28 : decode cX8_allFalls 28 = .ok (.ireturn, 1) := by decide +kernel
theorem dX8_upFrom_0 : decode cX8_upFrom 0 = .ok (.iload_n 1, 1) := by decide +kernel
theorem dX8_upFrom_1 : decode cX8_upFrom 1 = .ok (.aload_n 0, 1) := by decide +kernel
theorem dX8_upFrom_2 : decode cX8_upFrom 2 = .ok (.getfield 37, 3) := by decide +kernel
theorem dX8_upFrom_5 : decode cX8_upFrom 5 = .ok (.if_icmp .le 5, 3) := by decide +kernel
theorem dX8_upFrom_8 : decode cX8_upFrom 8 = .ok (.iconst (-1), 1) := by decide +kernel
theorem dX8_upFrom_9 : decode cX8_upFrom 9 = .ok (.ireturn, 1) := by decide +kernel
theorem dX8_upFrom_10 : decode cX8_upFrom 10 = .ok (.aload_n 0, 1) := by decide +kernel
theorem dX8_upFrom_11 : decode cX8_upFrom 11 = .ok (.iload_n 1, 1) := by decide +kernel
theorem dX8_upFrom_12 : decode cX8_upFrom 12 = .ok (.iconst 1, 1) := by decide +kernel
theorem dX8_upFrom_13 : decode cX8_upFrom 13 = .ok (.iadd, 1) := by decide +kernel
theorem dX8_upFrom_14 : decode cX8_upFrom 14 = .ok (.invokevirtual 82, 3) := by decide +kernel
theorem dX8_upFrom_17 : decode cX8_upFrom 17 = .ok (.ifCond .ne 7, 3) := by decide +kernel
theorem dX8_upFrom_20 : decode cX8_upFrom 20 = .ok (.iload_n 1, 1) := by decide +kernel
theorem dX8_upFrom_21 : decode cX8_upFrom 21 = .ok (.iconst 1, 1) := by decide +kernel
theorem dX8_upFrom_22 : decode cX8_upFrom 22 = .ok (.iadd, 1) := by decide +kernel
theorem dX8_upFrom_23 : decode cX8_upFrom 23 = .ok (.ireturn, 1) := by decide +kernel
theorem dX8_upFrom_24 : decode cX8_upFrom 24 = .ok (.aload_n 0, 1) := by decide +kernel
theorem dX8_upFrom_25 : decode cX8_upFrom 25 = .ok (.iload_n 1, 1) := by decide +kernel
theorem dX8_upFrom_26 : decode cX8_upFrom 26 = .ok (.iconst 2, 1) := by decide +kernel
theorem dX8_upFrom_27 : decode cX8_upFrom 27 = .ok (.iadd, 1) := by decide +kernel
theorem dX8_upFrom_28 : decode cX8_upFrom 28 = .ok (.invokevirtual 82, 3) := by decide +kernel
theorem dX8_upFrom_31 : decode cX8_upFrom 31 = .ok (.ifCond .eq 7, 3) := by decide +kernel
theorem dX8_upFrom_34 : decode cX8_upFrom 34 = .ok (.iconst (-1), 1) := by decide +kernel
theorem dX8_upFrom_35 : decode cX8_upFrom 35 = .ok (.goto 6, 3) := by decide +kernel
theorem dX8_upFrom_38 : decode cX8_upFrom 38 = .ok (.iload_n 1, 1) := by decide +kernel
theorem dX8_upFrom_39 : decode cX8_upFrom 39 = .ok (.iconst 2, 1) := by decide +kernel
theorem dX8_upFrom_40 : decode cX8_upFrom 40 = .ok (.iadd, 1) := by decide +kernel
theorem dX8_upFrom_41 : decode cX8_upFrom 41 = .ok (.ireturn, 1) := by decide +kernel
theorem dX8_downFrom_0 : decode cX8_downFrom 0 = .ok (.iload_n 1, 1) := by decide +kernel
theorem dX8_downFrom_1 : decode cX8_downFrom 1 = .ok (.ifCond .gt 5, 3) := by decide +kernel
theorem dX8_downFrom_4 : decode cX8_downFrom 4 = .ok (.iconst (-1), 1) := by decide +kernel
theorem dX8_downFrom_5 : decode cX8_downFrom 5 = .ok (.ireturn, 1) := by decide +kernel
theorem dX8_downFrom_6 : decode cX8_downFrom 6 = .ok (.aload_n 0, 1) := by decide +kernel
theorem dX8_downFrom_7 : decode cX8_downFrom 7 = .ok (.iload_n 1, 1) := by decide +kernel
theorem dX8_downFrom_8 : decode cX8_downFrom 8 = .ok (.iconst 1, 1) := by decide +kernel
theorem dX8_downFrom_9 : decode cX8_downFrom 9 = .ok (.isub, 1) := by decide +kernel
theorem dX8_downFrom_10 : decode cX8_downFrom 10 = .ok (.invokevirtual 82, 3) := by decide +kernel
theorem dX8_downFrom_13 : decode cX8_downFrom 13 = .ok (.ifCond .ne 7, 3) := by decide +kernel
theorem dX8_downFrom_16 : decode cX8_downFrom 16 = .ok (.iload_n 1, 1) := by decide +kernel
theorem dX8_downFrom_17 : decode cX8_downFrom 17 = .ok (.iconst 1, 1) := by decide +kernel
theorem dX8_downFrom_18 : decode cX8_downFrom 18 = .ok (.isub, 1) := by decide +kernel
theorem dX8_downFrom_19 : decode cX8_downFrom 19 = .ok (.ireturn, 1) := by decide +kernel
theorem dX8_downFrom_20 : decode cX8_downFrom 20 = .ok (.aload_n 0, 1) := by decide +kernel
theorem dX8_downFrom_21 : decode cX8_downFrom 21 = .ok (.iload_n 1, 1) := by decide +kernel
theorem dX8_downFrom_22 : decode cX8_downFrom 22 = .ok (.iconst 2, 1) := by decide +kernel
theorem dX8_downFrom_23 : decode cX8_downFrom 23 = .ok (.isub, 1) := by decide +kernel
theorem dX8_downFrom_24 : decode cX8_downFrom 24 = .ok (.invokevirtual 82, 3) := by decide +kernel
theorem dX8_downFrom_27 : decode cX8_downFrom 27 = .ok (.ifCond .eq 7, 3) := by decide +kernel
theorem dX8_downFrom_30 : decode cX8_downFrom 30 = .ok (.iconst (-1), 1) := by decide +kernel
theorem dX8_downFrom_31 : decode cX8_downFrom 31 = .ok (.goto 6, 3) := by decide +kernel
theorem dX8_downFrom_34 : decode cX8_downFrom 34 = .ok (.iload_n 1, 1) := by decide +kernel
theorem dX8_downFrom_35 : decode cX8_downFrom 35 = .ok (.iconst 2, 1) := by decide +kernel
theorem dX8_downFrom_36 : decode cX8_downFrom 36 = .ok (.isub, 1) := by decide +kernel
theorem dX8_downFrom_37 : decode cX8_downFrom 37 = .ok (.ireturn, 1) := by decide +kernel
theorem dX8_highestSound_0 : decode cX8_highestSound 0 = .ok (.aload_n 0, 1) := by decide +kernel
theorem dX8_highestSound_1 : decode cX8_highestSound 1 = .ok (.getfield 37, 3) := by decide +kernel
theorem dX8_highestSound_4 : decode cX8_highestSound 4 = .ok (.istore_n 1, 1) := by decide +kernel
theorem dX8_highestSound_5 : decode cX8_highestSound 5 = .ok (.iload_n 1, 1) := by decide +kernel
theorem dX8_highestSound_6 : decode cX8_highestSound 6 = .ok (.iconst 1, 1) := by decide +kernel
theorem dX8_highestSound_7 : decode cX8_highestSound 7 = .ok (.if_icmp .lt 18, 3) := by decide +kernel
theorem dX8_highestSound_10 : decode cX8_highestSound 10 = .ok (.aload_n 0, 1) := by decide +kernel
theorem dX8_highestSound_11 : decode cX8_highestSound 11 = .ok (.getfield 15, 3) := by decide +kernel
theorem dX8_highestSound_14 : decode cX8_highestSound 14 = .ok (.iload_n 1, 1) := by decide +kernel
theorem dX8_highestSound_15 : decode cX8_highestSound 15 = .ok (.iaload, 1) := by decide +kernel
theorem dX8_highestSound_16 : decode cX8_highestSound 16 = .ok (.ifCond .ne 9, 3) := by decide +kernel
theorem dX8_highestSound_19 : decode cX8_highestSound 19 = .ok (.iinc 1 (-1), 3) := by decide +kernel
theorem dX8_highestSound_22 : decode cX8_highestSound 22 = .ok (.goto (-17), 3) := by decide +kernel
theorem dX8_highestSound_25 : decode cX8_highestSound 25 = .ok (.iload_n 1, 1) := by decide +kernel
theorem dX8_highestSound_26 : decode cX8_highestSound 26 = .ok (.ireturn, 1) := by decide +kernel
theorem dX8_stepUp_0 : decode cX8_stepUp 0 = .ok (.aload_n 0, 1) := by decide +kernel
theorem dX8_stepUp_1 : decode cX8_stepUp 1 = .ok (.aload_n 0, 1) := by decide +kernel
theorem dX8_stepUp_2 : decode cX8_stepUp 2 = .ok (.getfield 27, 3) := by decide +kernel
theorem dX8_stepUp_5 : decode cX8_stepUp 5 = .ok (.iload_n 1, 1) := by decide +kernel
theorem dX8_stepUp_6 : decode cX8_stepUp 6 = .ok (.iaload, 1) := by decide +kernel
theorem dX8_stepUp_7 : decode cX8_stepUp 7 = .ok (.invokevirtual 85, 3) := by decide +kernel
theorem dX8_stepUp_10 : decode cX8_stepUp 10 = .ok (.istore_n 2, 1) := by decide +kernel
theorem dX8_stepUp_11 : decode cX8_stepUp 11 = .ok (.iload_n 2, 1) := by decide +kernel
theorem dX8_stepUp_12 : decode cX8_stepUp 12 = .ok (.iconst (-1), 1) := by decide +kernel
theorem dX8_stepUp_13 : decode cX8_stepUp 13 = .ok (.if_icmp .eq 29, 3) := by decide +kernel
theorem dX8_stepUp_16 : decode cX8_stepUp 16 = .ok (.aload_n 0, 1) := by decide +kernel
theorem dX8_stepUp_17 : decode cX8_stepUp 17 = .ok (.getfield 27, 3) := by decide +kernel
theorem dX8_stepUp_20 : decode cX8_stepUp 20 = .ok (.iload_n 1, 1) := by decide +kernel
theorem dX8_stepUp_21 : decode cX8_stepUp 21 = .ok (.iaload, 1) := by decide +kernel
theorem dX8_stepUp_22 : decode cX8_stepUp 22 = .ok (.ifCond .ne 22, 3) := by decide +kernel
theorem dX8_stepUp_25 : decode cX8_stepUp 25 = .ok (.aload_n 0, 1) := by decide +kernel
theorem dX8_stepUp_26 : decode cX8_stepUp 26 = .ok (.invokevirtual 88, 3) := by decide +kernel
theorem dX8_stepUp_29 : decode cX8_stepUp 29 = .ok (.aload_n 0, 1) := by decide +kernel
theorem dX8_stepUp_30 : decode cX8_stepUp 30 = .ok (.iload_n 1, 1) := by decide +kernel
theorem dX8_stepUp_31 : decode cX8_stepUp 31 = .ok (.invokevirtual 75, 3) := by decide +kernel
theorem dX8_stepUp_34 : decode cX8_stepUp 34 = .ok (.iadd, 1) := by decide +kernel
theorem dX8_stepUp_35 : decode cX8_stepUp 35 = .ok (.aload_n 0, 1) := by decide +kernel
theorem dX8_stepUp_36 : decode cX8_stepUp 36 = .ok (.getfield 41, 3) := by decide +kernel
theorem dX8_stepUp_39 : decode cX8_stepUp 39 = .ok (.if_icmp .le 5, 3) := by decide +kernel
theorem dX8_stepUp_42 : decode cX8_stepUp 42 = .ok (.iconst 0, 1) := by decide +kernel
theorem dX8_stepUp_43 : decode cX8_stepUp 43 = .ok (.ireturn, 1) := by decide +kernel
theorem dX8_stepUp_44 : decode cX8_stepUp 44 = .ok (.aload_n 0, 1) := by decide +kernel
theorem dX8_stepUp_45 : decode cX8_stepUp 45 = .ok (.getfield 27, 3) := by decide +kernel
theorem dX8_stepUp_48 : decode cX8_stepUp 48 = .ok (.iload_n 1, 1) := by decide +kernel
theorem dX8_stepUp_49 : decode cX8_stepUp 49 = .ok (.iload_n 2, 1) := by decide +kernel
theorem dX8_stepUp_50 : decode cX8_stepUp 50 = .ok (.iastore, 1) := by decide +kernel
theorem dX8_stepUp_51 : decode cX8_stepUp 51 = .ok (.iconst 1, 1) := by decide +kernel
theorem dX8_stepUp_52 : decode cX8_stepUp 52 = .ok (.ireturn, 1) := by decide +kernel
theorem dX8_stepDown_0 : decode cX8_stepDown 0 = .ok (.aload_n 0, 1) := by decide +kernel
theorem dX8_stepDown_1 : decode cX8_stepDown 1 = .ok (.aload_n 0, 1) := by decide +kernel
theorem dX8_stepDown_2 : decode cX8_stepDown 2 = .ok (.getfield 27, 3) := by decide +kernel
theorem dX8_stepDown_5 : decode cX8_stepDown 5 = .ok (.iload_n 1, 1) := by decide +kernel
theorem dX8_stepDown_6 : decode cX8_stepDown 6 = .ok (.iaload, 1) := by decide +kernel
theorem dX8_stepDown_7 : decode cX8_stepDown 7 = .ok (.invokevirtual 91, 3) := by decide +kernel
theorem dX8_stepDown_10 : decode cX8_stepDown 10 = .ok (.istore_n 2, 1) := by decide +kernel
theorem dX8_stepDown_11 : decode cX8_stepDown 11 = .ok (.iload_n 2, 1) := by decide +kernel
theorem dX8_stepDown_12 : decode cX8_stepDown 12 = .ok (.iconst (-1), 1) := by decide +kernel
theorem dX8_stepDown_13 : decode cX8_stepDown 13 = .ok (.if_icmp .ne 4, 3) := by decide +kernel
theorem dX8_stepDown_16 : decode cX8_stepDown 16 = .ok (.return_, 1) := by decide +kernel
theorem dX8_stepDown_17 : decode cX8_stepDown 17 = .ok (.aload_n 0, 1) := by decide +kernel
theorem dX8_stepDown_18 : decode cX8_stepDown 18 = .ok (.getfield 27, 3) := by decide +kernel
theorem dX8_stepDown_21 : decode cX8_stepDown 21 = .ok (.iload_n 1, 1) := by decide +kernel
theorem dX8_stepDown_22 : decode cX8_stepDown 22 = .ok (.iload_n 2, 1) := by decide +kernel
theorem dX8_stepDown_23 : decode cX8_stepDown 23 = .ok (.iastore, 1) := by decide +kernel
theorem dX8_stepDown_24 : decode cX8_stepDown 24 = .ok (.iload_n 2, 1) := by decide +kernel
theorem dX8_stepDown_25 : decode cX8_stepDown 25 = .ok (.ifCond .ne 17, 3) := by decide +kernel
theorem dX8_stepDown_28 : decode cX8_stepDown 28 = .ok (.aload_n 0, 1) := by decide +kernel
theorem dX8_stepDown_29 : decode cX8_stepDown 29 = .ok (.dup, 1) := by decide +kernel
theorem dX8_stepDown_30 : decode cX8_stepDown 30 = .ok (.getfield 53, 3) := by decide +kernel
theorem dX8_stepDown_33 : decode cX8_stepDown 33 = .ok (.iconst 1, 1) := by decide +kernel
theorem dX8_stepDown_34 : decode cX8_stepDown 34 = .ok (.iload_n 1, 1) := by decide +kernel
theorem dX8_stepDown_35 : decode cX8_stepDown 35 = .ok (.ishl, 1) := by decide +kernel
theorem dX8_stepDown_36 : decode cX8_stepDown 36 = .ok (.iconst (-1), 1) := by decide +kernel
theorem dX8_stepDown_37 : decode cX8_stepDown 37 = .ok (.ixor, 1) := by decide +kernel
theorem dX8_stepDown_38 : decode cX8_stepDown 38 = .ok (.iand, 1) := by decide +kernel
theorem dX8_stepDown_39 : decode cX8_stepDown 39 = .ok (.putfield 53, 3) := by decide +kernel
theorem dX8_stepDown_42 : decode cX8_stepDown 42 = .ok (.return_, 1) := by decide +kernel
theorem dX8_turnIfAtEnd_0 : decode cX8_turnIfAtEnd 0 = .ok (.aload_n 0, 1) := by decide +kernel
theorem dX8_turnIfAtEnd_1 : decode cX8_turnIfAtEnd 1 = .ok (.getfield 27, 3) := by decide +kernel
theorem dX8_turnIfAtEnd_4 : decode cX8_turnIfAtEnd 4 = .ok (.iload_n 1, 1) := by decide +kernel
theorem dX8_turnIfAtEnd_5 : decode cX8_turnIfAtEnd 5 = .ok (.iaload, 1) := by decide +kernel
theorem dX8_turnIfAtEnd_6 : decode cX8_turnIfAtEnd 6 = .ok (.istore_n 2, 1) := by decide +kernel
theorem dX8_turnIfAtEnd_7 : decode cX8_turnIfAtEnd 7 = .ok (.iload_n 2, 1) := by decide +kernel
theorem dX8_turnIfAtEnd_8 : decode cX8_turnIfAtEnd 8 = .ok (.ifCond .eq 32, 3) := by decide +kernel
theorem dX8_turnIfAtEnd_11 : decode cX8_turnIfAtEnd 11 = .ok (.iload_n 2, 1) := by decide +kernel
theorem dX8_turnIfAtEnd_12 : decode cX8_turnIfAtEnd 12 = .ok (.aload_n 0, 1) := by decide +kernel
theorem dX8_turnIfAtEnd_13 : decode cX8_turnIfAtEnd 13 = .ok (.invokevirtual 94, 3) := by decide +kernel
theorem dX8_turnIfAtEnd_16 : decode cX8_turnIfAtEnd 16 = .ok (.if_icmp .eq 12, 3) := by decide +kernel
theorem dX8_turnIfAtEnd_19 : decode cX8_turnIfAtEnd 19 = .ok (.aload_n 0, 1) := by decide +kernel
theorem dX8_turnIfAtEnd_20 : decode cX8_turnIfAtEnd 20 = .ok (.iload_n 2, 1) := by decide +kernel
theorem dX8_turnIfAtEnd_21 : decode cX8_turnIfAtEnd 21 = .ok (.invokevirtual 85, 3) := by decide +kernel
theorem dX8_turnIfAtEnd_24 : decode cX8_turnIfAtEnd 24 = .ok (.iconst (-1), 1) := by decide +kernel
theorem dX8_turnIfAtEnd_25 : decode cX8_turnIfAtEnd 25 = .ok (.if_icmp .ne 15, 3) := by decide +kernel
theorem dX8_turnIfAtEnd_28 : decode cX8_turnIfAtEnd 28 = .ok (.aload_n 0, 1) := by decide +kernel
theorem dX8_turnIfAtEnd_29 : decode cX8_turnIfAtEnd 29 = .ok (.dup, 1) := by decide +kernel
theorem dX8_turnIfAtEnd_30 : decode cX8_turnIfAtEnd 30 = .ok (.getfield 53, 3) := by decide +kernel
theorem dX8_turnIfAtEnd_33 : decode cX8_turnIfAtEnd 33 = .ok (.iconst 1, 1) := by decide +kernel
theorem dX8_turnIfAtEnd_34 : decode cX8_turnIfAtEnd 34 = .ok (.iload_n 1, 1) := by decide +kernel
theorem dX8_turnIfAtEnd_35 : decode cX8_turnIfAtEnd 35 = .ok (.ishl, 1) := by decide +kernel
theorem dX8_turnIfAtEnd_36 : decode cX8_turnIfAtEnd 36 = .ok (.ior, 1) := by decide +kernel
theorem dX8_turnIfAtEnd_37 : decode cX8_turnIfAtEnd 37 = .ok (.putfield 53, 3) := by decide +kernel
theorem dX8_turnIfAtEnd_40 : decode cX8_turnIfAtEnd 40 = .ok (.return_, 1) := by decide +kernel
theorem dX8_runHour_0 : decode cX8_runHour 0 = .ok (.iconst 0, 1) := by decide +kernel
theorem dX8_runHour_1 : decode cX8_runHour 1 = .ok (.istore_n 1, 1) := by decide +kernel
theorem dX8_runHour_2 : decode cX8_runHour 2 = .ok (.iload_n 1, 1) := by decide +kernel
theorem dX8_runHour_3 : decode cX8_runHour 3 = .ok (.aload_n 0, 1) := by decide +kernel
theorem dX8_runHour_4 : decode cX8_runHour 4 = .ok (.getfield 44, 3) := by decide +kernel
theorem dX8_runHour_7 : decode cX8_runHour 7 = .ok (.if_icmp .ge 54, 3) := by decide +kernel
theorem dX8_runHour_10 : decode cX8_runHour 10 = .ok (.aload_n 0, 1) := by decide +kernel
theorem dX8_runHour_11 : decode cX8_runHour 11 = .ok (.iload_n 1, 1) := by decide +kernel
theorem dX8_runHour_12 : decode cX8_runHour 12 = .ok (.invokevirtual 97, 3) := by decide +kernel
theorem dX8_runHour_15 : decode cX8_runHour 15 = .ok (.ifCond .ne 40, 3) := by decide +kernel
theorem dX8_runHour_18 : decode cX8_runHour 18 = .ok (.aload_n 0, 1) := by decide +kernel
theorem dX8_runHour_19 : decode cX8_runHour 19 = .ok (.iload_n 1, 1) := by decide +kernel
theorem dX8_runHour_20 : decode cX8_runHour 20 = .ok (.invokevirtual 100, 3) := by decide +kernel
theorem dX8_runHour_23 : decode cX8_runHour 23 = .ok (.ifCond .ne 32, 3) := by decide +kernel
theorem dX8_runHour_26 : decode cX8_runHour 26 = .ok (.aload_n 0, 1) := by decide +kernel
theorem dX8_runHour_27 : decode cX8_runHour 27 = .ok (.getfield 24, 3) := by decide +kernel
theorem dX8_runHour_30 : decode cX8_runHour 30 = .ok (.iload_n 1, 1) := by decide +kernel
theorem dX8_runHour_31 : decode cX8_runHour 31 = .ok (.iaload, 1) := by decide +kernel
theorem dX8_runHour_32 : decode cX8_runHour 32 = .ok (.aload_n 0, 1) := by decide +kernel
theorem dX8_runHour_33 : decode cX8_runHour 33 = .ok (.getfield 47, 3) := by decide +kernel
theorem dX8_runHour_36 : decode cX8_runHour 36 = .ok (.if_icmp .gt 19, 3) := by decide +kernel
theorem dX8_runHour_39 : decode cX8_runHour 39 = .ok (.aload_n 0, 1) := by decide +kernel
theorem dX8_runHour_40 : decode cX8_runHour 40 = .ok (.iload_n 1, 1) := by decide +kernel
theorem dX8_runHour_41 : decode cX8_runHour 41 = .ok (.invokevirtual 103, 3) := by decide +kernel
theorem dX8_runHour_44 : decode cX8_runHour 44 = .ok (.astore_n 2, 1) := by decide +kernel
theorem dX8_runHour_45 : decode cX8_runHour 45 = .ok (.aload_n 2, 1) := by decide +kernel
theorem dX8_runHour_46 : decode cX8_runHour 46 = .ok (.ifnull 9, 3) := by decide +kernel
theorem dX8_runHour_49 : decode cX8_runHour 49 = .ok (.aload_n 2, 1) := by decide +kernel
theorem dX8_runHour_50 : decode cX8_runHour 50 = .ok (.aload_n 0, 1) := by decide +kernel
theorem dX8_runHour_51 : decode cX8_runHour 51 = .ok (.iload_n 1, 1) := by decide +kernel
theorem dX8_runHour_52 : decode cX8_runHour 52 = .ok (.invokevirtual 107, 3) := by decide +kernel
theorem dX8_runHour_55 : decode cX8_runHour 55 = .ok (.iinc 1 1, 3) := by decide +kernel
theorem dX8_runHour_58 : decode cX8_runHour 58 = .ok (.goto (-56), 3) := by decide +kernel
theorem dX8_runHour_61 : decode cX8_runHour 61 = .ok (.aload_n 0, 1) := by decide +kernel
theorem dX8_runHour_62 : decode cX8_runHour 62 = .ok (.invokevirtual 113, 3) := by decide +kernel
theorem dX8_runHour_65 : decode cX8_runHour 65 = .ok (.aload_n 0, 1) := by decide +kernel
theorem dX8_runHour_66 : decode cX8_runHour 66 = .ok (.dup, 1) := by decide +kernel
theorem dX8_runHour_67 : decode cX8_runHour 67 = .ok (.getfield 47, 3) := by decide +kernel
theorem dX8_runHour_70 : decode cX8_runHour 70 = .ok (.iconst 1, 1) := by decide +kernel
theorem dX8_runHour_71 : decode cX8_runHour 71 = .ok (.iadd, 1) := by decide +kernel
theorem dX8_runHour_72 : decode cX8_runHour 72 = .ok (.putfield 47, 3) := by decide +kernel
theorem dX8_runHour_75 : decode cX8_runHour 75 = .ok (.return_, 1) := by decide +kernel
theorem dX8_wear_0 : decode cX8_wear 0 = .ok (.iconst 1, 1) := by decide +kernel
theorem dX8_wear_1 : decode cX8_wear 1 = .ok (.istore_n 1, 1) := by decide +kernel
theorem dX8_wear_2 : decode cX8_wear 2 = .ok (.iload_n 1, 1) := by decide +kernel
theorem dX8_wear_3 : decode cX8_wear 3 = .ok (.aload_n 0, 1) := by decide +kernel
theorem dX8_wear_4 : decode cX8_wear 4 = .ok (.getfield 37, 3) := by decide +kernel
theorem dX8_wear_7 : decode cX8_wear 7 = .ok (.if_icmp .gt 16, 3) := by decide +kernel
theorem dX8_wear_10 : decode cX8_wear 10 = .ok (.aload_n 0, 1) := by decide +kernel
theorem dX8_wear_11 : decode cX8_wear 11 = .ok (.getfield 9, 3) := by decide +kernel
theorem dX8_wear_14 : decode cX8_wear 14 = .ok (.iload_n 1, 1) := by decide +kernel
theorem dX8_wear_15 : decode cX8_wear 15 = .ok (.iconst 0, 1) := by decide +kernel
theorem dX8_wear_16 : decode cX8_wear 16 = .ok (.iastore, 1) := by decide +kernel
theorem dX8_wear_17 : decode cX8_wear 17 = .ok (.iinc 1 1, 3) := by decide +kernel
theorem dX8_wear_20 : decode cX8_wear 20 = .ok (.goto (-18), 3) := by decide +kernel
theorem dX8_wear_23 : decode cX8_wear 23 = .ok (.iconst 0, 1) := by decide +kernel
theorem dX8_wear_24 : decode cX8_wear 24 = .ok (.istore_n 1, 1) := by decide +kernel
theorem dX8_wear_25 : decode cX8_wear 25 = .ok (.iload_n 1, 1) := by decide +kernel
theorem dX8_wear_26 : decode cX8_wear 26 = .ok (.aload_n 0, 1) := by decide +kernel
theorem dX8_wear_27 : decode cX8_wear 27 = .ok (.getfield 44, 3) := by decide +kernel
theorem dX8_wear_30 : decode cX8_wear 30 = .ok (.if_icmp .ge 36, 3) := by decide +kernel
theorem dX8_wear_33 : decode cX8_wear 33 = .ok (.aload_n 0, 1) := by decide +kernel
theorem dX8_wear_34 : decode cX8_wear 34 = .ok (.iload_n 1, 1) := by decide +kernel
theorem dX8_wear_35 : decode cX8_wear 35 = .ok (.invokevirtual 78, 3) := by decide +kernel
theorem dX8_wear_38 : decode cX8_wear 38 = .ok (.ifCond .eq 22, 3) := by decide +kernel
theorem dX8_wear_41 : decode cX8_wear 41 = .ok (.aload_n 0, 1) := by decide +kernel
theorem dX8_wear_42 : decode cX8_wear 42 = .ok (.getfield 9, 3) := by decide +kernel
theorem dX8_wear_45 : decode cX8_wear 45 = .ok (.aload_n 0, 1) := by decide +kernel
theorem dX8_wear_46 : decode cX8_wear 46 = .ok (.getfield 27, 3) := by decide +kernel
theorem dX8_wear_49 : decode cX8_wear 49 = .ok (.iload_n 1, 1) := by decide +kernel
theorem dX8_wear_50 : decode cX8_wear 50 = .ok (.iaload, 1) := by decide +kernel
theorem dX8_wear_51 : decode cX8_wear 51 = .ok (.dup2, 1) := by decide +kernel
theorem dX8_wear_52 : decode cX8_wear 52 = .ok (.iaload, 1) := by decide +kernel
theorem dX8_wear_53 : decode cX8_wear 53 = .ok (.aload_n 0, 1) := by decide +kernel
theorem dX8_wear_54 : decode cX8_wear 54 = .ok (.iload_n 1, 1) := by decide +kernel
theorem dX8_wear_55 : decode cX8_wear 55 = .ok (.invokevirtual 75, 3) := by decide +kernel
theorem dX8_wear_58 : decode cX8_wear 58 = .ok (.iadd, 1) := by decide +kernel
theorem dX8_wear_59 : decode cX8_wear 59 = .ok (.iastore, 1) := by decide +kernel
theorem dX8_wear_60 : decode cX8_wear 60 = .ok (.iinc 1 1, 3) := by decide +kernel
theorem dX8_wear_63 : decode cX8_wear 63 = .ok (.goto (-38), 3) := by decide +kernel
theorem dX8_wear_66 : decode cX8_wear 66 = .ok (.iconst 1, 1) := by decide +kernel
theorem dX8_wear_67 : decode cX8_wear 67 = .ok (.istore_n 1, 1) := by decide +kernel
theorem dX8_wear_68 : decode cX8_wear 68 = .ok (.iload_n 1, 1) := by decide +kernel
theorem dX8_wear_69 : decode cX8_wear 69 = .ok (.aload_n 0, 1) := by decide +kernel
theorem dX8_wear_70 : decode cX8_wear 70 = .ok (.getfield 37, 3) := by decide +kernel
theorem dX8_wear_73 : decode cX8_wear 73 = .ok (.if_icmp .gt 67, 3) := by decide +kernel
theorem dX8_wear_76 : decode cX8_wear 76 = .ok (.aload_n 0, 1) := by decide +kernel
theorem dX8_wear_77 : decode cX8_wear 77 = .ok (.getfield 9, 3) := by decide +kernel
theorem dX8_wear_80 : decode cX8_wear 80 = .ok (.iload_n 1, 1) := by decide +kernel
theorem dX8_wear_81 : decode cX8_wear 81 = .ok (.iaload, 1) := by decide +kernel
theorem dX8_wear_82 : decode cX8_wear 82 = .ok (.aload_n 0, 1) := by decide +kernel
theorem dX8_wear_83 : decode cX8_wear 83 = .ok (.getfield 15, 3) := by decide +kernel
theorem dX8_wear_86 : decode cX8_wear 86 = .ok (.iload_n 1, 1) := by decide +kernel
theorem dX8_wear_87 : decode cX8_wear 87 = .ok (.iaload, 1) := by decide +kernel
theorem dX8_wear_88 : decode cX8_wear 88 = .ok (.if_icmp .le 12, 3) := by decide +kernel
theorem dX8_wear_91 : decode cX8_wear 91 = .ok (.aload_n 0, 1) := by decide +kernel
theorem dX8_wear_92 : decode cX8_wear 92 = .ok (.iload_n 1, 1) := by decide +kernel
theorem dX8_wear_93 : decode cX8_wear 93 = .ok (.invokevirtual 116, 3) := by decide +kernel
theorem dX8_wear_96 : decode cX8_wear 96 = .ok (.pop, 1) := by decide +kernel
theorem dX8_wear_97 : decode cX8_wear 97 = .ok (.goto 37, 3) := by decide +kernel
theorem dX8_wear_100 : decode cX8_wear 100 = .ok (.aload_n 0, 1) := by decide +kernel
theorem dX8_wear_101 : decode cX8_wear 101 = .ok (.getfield 9, 3) := by decide +kernel
theorem dX8_wear_104 : decode cX8_wear 104 = .ok (.iload_n 1, 1) := by decide +kernel
theorem dX8_wear_105 : decode cX8_wear 105 = .ok (.iaload, 1) := by decide +kernel
theorem dX8_wear_106 : decode cX8_wear 106 = .ok (.ifCond .le 28, 3) := by decide +kernel
theorem dX8_wear_109 : decode cX8_wear 109 = .ok (.aload_n 0, 1) := by decide +kernel
theorem dX8_wear_110 : decode cX8_wear 110 = .ok (.getfield 15, 3) := by decide +kernel
theorem dX8_wear_113 : decode cX8_wear 113 = .ok (.iload_n 1, 1) := by decide +kernel
theorem dX8_wear_114 : decode cX8_wear 114 = .ok (.dup2, 1) := by decide +kernel
theorem dX8_wear_115 : decode cX8_wear 115 = .ok (.iaload, 1) := by decide +kernel
theorem dX8_wear_116 : decode cX8_wear 116 = .ok (.iconst 1, 1) := by decide +kernel
theorem dX8_wear_117 : decode cX8_wear 117 = .ok (.isub, 1) := by decide +kernel
theorem dX8_wear_118 : decode cX8_wear 118 = .ok (.iastore, 1) := by decide +kernel
theorem dX8_wear_119 : decode cX8_wear 119 = .ok (.aload_n 0, 1) := by decide +kernel
theorem dX8_wear_120 : decode cX8_wear 120 = .ok (.getfield 15, 3) := by decide +kernel
theorem dX8_wear_123 : decode cX8_wear 123 = .ok (.iload_n 1, 1) := by decide +kernel
theorem dX8_wear_124 : decode cX8_wear 124 = .ok (.iaload, 1) := by decide +kernel
theorem dX8_wear_125 : decode cX8_wear 125 = .ok (.ifCond .ne 9, 3) := by decide +kernel
theorem dX8_wear_128 : decode cX8_wear 128 = .ok (.aload_n 0, 1) := by decide +kernel
theorem dX8_wear_129 : decode cX8_wear 129 = .ok (.iload_n 1, 1) := by decide +kernel
theorem dX8_wear_130 : decode cX8_wear 130 = .ok (.invokevirtual 116, 3) := by decide +kernel
theorem dX8_wear_133 : decode cX8_wear 133 = .ok (.pop, 1) := by decide +kernel
theorem dX8_wear_134 : decode cX8_wear 134 = .ok (.iinc 1 1, 3) := by decide +kernel
theorem dX8_wear_137 : decode cX8_wear 137 = .ok (.goto (-69), 3) := by decide +kernel
theorem dX8_wear_140 : decode cX8_wear 140 = .ok (.return_, 1) := by decide +kernel
theorem dX8_breakAt_0 : decode cX8_breakAt 0 = .ok (.iconst 0, 1) := by decide +kernel
theorem dX8_breakAt_1 : decode cX8_breakAt 1 = .ok (.istore_n 2, 1) := by decide +kernel
theorem dX8_breakAt_2 : decode cX8_breakAt 2 = .ok (.aload_n 0, 1) := by decide +kernel
theorem dX8_breakAt_3 : decode cX8_breakAt 3 = .ok (.getfield 15, 3) := by decide +kernel
theorem dX8_breakAt_6 : decode cX8_breakAt 6 = .ok (.iload_n 1, 1) := by decide +kernel
theorem dX8_breakAt_7 : decode cX8_breakAt 7 = .ok (.iconst 0, 1) := by decide +kernel
theorem dX8_breakAt_8 : decode cX8_breakAt 8 = .ok (.iastore, 1) := by decide +kernel
theorem dX8_breakAt_9 : decode cX8_breakAt 9 = .ok (.iconst 0, 1) := by decide +kernel
theorem dX8_breakAt_10 : decode cX8_breakAt 10 = .ok (.istore_n 3, 1) := by decide +kernel
theorem dX8_breakAt_11 : decode cX8_breakAt 11 = .ok (.iload_n 3, 1) := by decide +kernel
theorem dX8_breakAt_12 : decode cX8_breakAt 12 = .ok (.aload_n 0, 1) := by decide +kernel
theorem dX8_breakAt_13 : decode cX8_breakAt 13 = .ok (.getfield 44, 3) := by decide +kernel
theorem dX8_breakAt_16 : decode cX8_breakAt 16 = .ok (.if_icmp .ge 42, 3) := by decide +kernel
theorem dX8_breakAt_19 : decode cX8_breakAt 19 = .ok (.aload_n 0, 1) := by decide +kernel
theorem dX8_breakAt_20 : decode cX8_breakAt 20 = .ok (.getfield 27, 3) := by decide +kernel
theorem dX8_breakAt_23 : decode cX8_breakAt 23 = .ok (.iload_n 3, 1) := by decide +kernel
theorem dX8_breakAt_24 : decode cX8_breakAt 24 = .ok (.iaload, 1) := by decide +kernel
theorem dX8_breakAt_25 : decode cX8_breakAt 25 = .ok (.iload_n 1, 1) := by decide +kernel
theorem dX8_breakAt_26 : decode cX8_breakAt 26 = .ok (.if_icmp .ne 26, 3) := by decide +kernel
theorem dX8_breakAt_29 : decode cX8_breakAt 29 = .ok (.iload_n 2, 1) := by decide +kernel
theorem dX8_breakAt_30 : decode cX8_breakAt 30 = .ok (.iconst 1, 1) := by decide +kernel
theorem dX8_breakAt_31 : decode cX8_breakAt 31 = .ok (.iload_n 3, 1) := by decide +kernel
theorem dX8_breakAt_32 : decode cX8_breakAt 32 = .ok (.ishl, 1) := by decide +kernel
theorem dX8_breakAt_33 : decode cX8_breakAt 33 = .ok (.ior, 1) := by decide +kernel
theorem dX8_breakAt_34 : decode cX8_breakAt 34 = .ok (.istore_n 2, 1) := by decide +kernel
theorem dX8_breakAt_35 : decode cX8_breakAt 35 = .ok (.aload_n 0, 1) := by decide +kernel
theorem dX8_breakAt_36 : decode cX8_breakAt 36 = .ok (.getfield 27, 3) := by decide +kernel
theorem dX8_breakAt_39 : decode cX8_breakAt 39 = .ok (.iload_n 3, 1) := by decide +kernel
theorem dX8_breakAt_40 : decode cX8_breakAt 40 = .ok (.iconst 0, 1) := by decide +kernel
theorem dX8_breakAt_41 : decode cX8_breakAt 41 = .ok (.iastore, 1) := by decide +kernel
theorem dX8_breakAt_42 : decode cX8_breakAt 42 = .ok (.aload_n 0, 1) := by decide +kernel
theorem dX8_breakAt_43 : decode cX8_breakAt 43 = .ok (.getfield 30, 3) := by decide +kernel
theorem dX8_breakAt_46 : decode cX8_breakAt 46 = .ok (.iload_n 3, 1) := by decide +kernel
theorem dX8_breakAt_47 : decode cX8_breakAt 47 = .ok (.dup2, 1) := by decide +kernel
theorem dX8_breakAt_48 : decode cX8_breakAt 48 = .ok (.iaload, 1) := by decide +kernel
theorem dX8_breakAt_49 : decode cX8_breakAt 49 = .ok (.iconst 1, 1) := by decide +kernel
theorem dX8_breakAt_50 : decode cX8_breakAt 50 = .ok (.iadd, 1) := by decide +kernel
theorem dX8_breakAt_51 : decode cX8_breakAt 51 = .ok (.iastore, 1) := by decide +kernel
theorem dX8_breakAt_52 : decode cX8_breakAt 52 = .ok (.iinc 3 1, 3) := by decide +kernel
theorem dX8_breakAt_55 : decode cX8_breakAt 55 = .ok (.goto (-44), 3) := by decide +kernel
theorem dX8_breakAt_58 : decode cX8_breakAt 58 = .ok (.aload_n 0, 1) := by decide +kernel
theorem dX8_breakAt_59 : decode cX8_breakAt 59 = .ok (.dup, 1) := by decide +kernel
theorem dX8_breakAt_60 : decode cX8_breakAt 60 = .ok (.getfield 53, 3) := by decide +kernel
theorem dX8_breakAt_63 : decode cX8_breakAt 63 = .ok (.iload_n 2, 1) := by decide +kernel
theorem dX8_breakAt_64 : decode cX8_breakAt 64 = .ok (.iconst (-1), 1) := by decide +kernel
theorem dX8_breakAt_65 : decode cX8_breakAt 65 = .ok (.ixor, 1) := by decide +kernel
theorem dX8_breakAt_66 : decode cX8_breakAt 66 = .ok (.iand, 1) := by decide +kernel
theorem dX8_breakAt_67 : decode cX8_breakAt 67 = .ok (.putfield 53, 3) := by decide +kernel
theorem dX8_breakAt_70 : decode cX8_breakAt 70 = .ok (.iload_n 2, 1) := by decide +kernel
theorem dX8_breakAt_71 : decode cX8_breakAt 71 = .ok (.ireturn, 1) := by decide +kernel
theorem dX8_mayRise_0 : decode cX8_mayRise 0 = .ok (.aload_n 0, 1) := by decide +kernel
theorem dX8_mayRise_1 : decode cX8_mayRise 1 = .ok (.getfield 27, 3) := by decide +kernel
theorem dX8_mayRise_4 : decode cX8_mayRise 4 = .ok (.iload_n 1, 1) := by decide +kernel
theorem dX8_mayRise_5 : decode cX8_mayRise 5 = .ok (.iaload, 1) := by decide +kernel
theorem dX8_mayRise_6 : decode cX8_mayRise 6 = .ok (.aload_n 0, 1) := by decide +kernel
theorem dX8_mayRise_7 : decode cX8_mayRise 7 = .ok (.invokevirtual 119, 3) := by decide +kernel
theorem dX8_mayRise_10 : decode cX8_mayRise 10 = .ok (.if_icmp .lt 39, 3) := by decide +kernel
theorem dX8_mayRise_13 : decode cX8_mayRise 13 = .ok (.aload_n 0, 1) := by decide +kernel
theorem dX8_mayRise_14 : decode cX8_mayRise 14 = .ok (.getfield 27, 3) := by decide +kernel
theorem dX8_mayRise_17 : decode cX8_mayRise 17 = .ok (.iload_n 1, 1) := by decide +kernel
theorem dX8_mayRise_18 : decode cX8_mayRise 18 = .ok (.iaload, 1) := by decide +kernel
theorem dX8_mayRise_19 : decode cX8_mayRise 19 = .ok (.aload_n 0, 1) := by decide +kernel
theorem dX8_mayRise_20 : decode cX8_mayRise 20 = .ok (.getfield 37, 3) := by decide +kernel
theorem dX8_mayRise_23 : decode cX8_mayRise 23 = .ok (.if_icmp .gt 26, 3) := by decide +kernel
theorem dX8_mayRise_26 : decode cX8_mayRise 26 = .ok (.aload_n 0, 1) := by decide +kernel
theorem dX8_mayRise_27 : decode cX8_mayRise 27 = .ok (.iload_n 1, 1) := by decide +kernel
theorem dX8_mayRise_28 : decode cX8_mayRise 28 = .ok (.invokevirtual 100, 3) := by decide +kernel
theorem dX8_mayRise_31 : decode cX8_mayRise 31 = .ok (.ifCond .ne 18, 3) := by decide +kernel
theorem dX8_mayRise_34 : decode cX8_mayRise 34 = .ok (.aload_n 0, 1) := by decide +kernel
theorem dX8_mayRise_35 : decode cX8_mayRise 35 = .ok (.iload_n 1, 1) := by decide +kernel
theorem dX8_mayRise_36 : decode cX8_mayRise 36 = .ok (.invokevirtual 103, 3) := by decide +kernel
theorem dX8_mayRise_39 : decode cX8_mayRise 39 = .ok (.instanceof 122, 3) := by decide +kernel
theorem dX8_mayRise_42 : decode cX8_mayRise 42 = .ok (.ifCond .eq 7, 3) := by decide +kernel
theorem dX8_mayRise_45 : decode cX8_mayRise 45 = .ok (.iconst 1, 1) := by decide +kernel
theorem dX8_mayRise_46 : decode cX8_mayRise 46 = .ok (.goto 4, 3) := by decide +kernel
theorem dX8_mayRise_49 : decode cX8_mayRise 49 = .ok (.iconst 0, 1) := by decide +kernel
theorem dX8_mayRise_50 : decode cX8_mayRise 50 = .ok (.ireturn, 1) := by decide +kernel
theorem dX8_highestGap_0 : decode cX8_highestGap 0 = .ok (.aload_n 0, 1) := by decide +kernel
theorem dX8_highestGap_1 : decode cX8_highestGap 1 = .ok (.getfield 37, 3) := by decide +kernel
theorem dX8_highestGap_4 : decode cX8_highestGap 4 = .ok (.iconst 1, 1) := by decide +kernel
theorem dX8_highestGap_5 : decode cX8_highestGap 5 = .ok (.isub, 1) := by decide +kernel
theorem dX8_highestGap_6 : decode cX8_highestGap 6 = .ok (.istore_n 1, 1) := by decide +kernel
theorem dX8_highestGap_7 : decode cX8_highestGap 7 = .ok (.iload_n 1, 1) := by decide +kernel
theorem dX8_highestGap_8 : decode cX8_highestGap 8 = .ok (.iconst 1, 1) := by decide +kernel
theorem dX8_highestGap_9 : decode cX8_highestGap 9 = .ok (.if_icmp .lt 31, 3) := by decide +kernel
theorem dX8_highestGap_12 : decode cX8_highestGap 12 = .ok (.aload_n 0, 1) := by decide +kernel
theorem dX8_highestGap_13 : decode cX8_highestGap 13 = .ok (.getfield 15, 3) := by decide +kernel
theorem dX8_highestGap_16 : decode cX8_highestGap 16 = .ok (.iload_n 1, 1) := by decide +kernel
theorem dX8_highestGap_17 : decode cX8_highestGap 17 = .ok (.iaload, 1) := by decide +kernel
theorem dX8_highestGap_18 : decode cX8_highestGap 18 = .ok (.ifCond .ne 16, 3) := by decide +kernel
theorem dX8_highestGap_21 : decode cX8_highestGap 21 = .ok (.aload_n 0, 1) := by decide +kernel
theorem dX8_highestGap_22 : decode cX8_highestGap 22 = .ok (.getfield 15, 3) := by decide +kernel
theorem dX8_highestGap_25 : decode cX8_highestGap 25 = .ok (.iload_n 1, 1) := by decide +kernel
theorem dX8_highestGap_26 : decode cX8_highestGap 26 = .ok (.iconst 1, 1) := by decide +kernel
theorem dX8_highestGap_27 : decode cX8_highestGap 27 = .ok (.iadd, 1) := by decide +kernel
theorem dX8_highestGap_28 : decode cX8_highestGap 28 = .ok (.iaload, 1) := by decide +kernel
theorem dX8_highestGap_29 : decode cX8_highestGap 29 = .ok (.ifCond .ne 5, 3) := by decide +kernel
theorem dX8_highestGap_32 : decode cX8_highestGap 32 = .ok (.iload_n 1, 1) := by decide +kernel
theorem dX8_highestGap_33 : decode cX8_highestGap 33 = .ok (.ireturn, 1) := by decide +kernel
theorem dX8_highestGap_34 : decode cX8_highestGap 34 = .ok (.iinc 1 (-1), 3) := by decide +kernel
theorem dX8_highestGap_37 : decode cX8_highestGap 37 = .ok (.goto (-30), 3) := by decide +kernel
theorem dX8_highestGap_40 : decode cX8_highestGap 40 = .ok (.iconst 0, 1) := by decide +kernel
theorem dX8_highestGap_41 : decode cX8_highestGap 41 = .ok (.ireturn, 1) := by decide +kernel
theorem dX8_howManyMayRise_0 : decode cX8_howManyMayRise 0 = .ok (.iconst 0, 1) := by decide +kernel
theorem dX8_howManyMayRise_1 : decode cX8_howManyMayRise 1 = .ok (.istore_n 1, 1) := by decide +kernel
theorem dX8_howManyMayRise_2 : decode cX8_howManyMayRise 2 = .ok (.iconst 0, 1) := by decide +kernel
theorem dX8_howManyMayRise_3 : decode cX8_howManyMayRise 3 = .ok (.istore_n 2, 1) := by decide +kernel
theorem dX8_howManyMayRise_4 : decode cX8_howManyMayRise 4 = .ok (.iload_n 2, 1) := by decide +kernel
theorem dX8_howManyMayRise_5 : decode cX8_howManyMayRise 5 = .ok (.aload_n 0, 1) := by decide +kernel
theorem dX8_howManyMayRise_6 : decode cX8_howManyMayRise 6 = .ok (.getfield 44, 3) := by decide +kernel
theorem dX8_howManyMayRise_9 : decode cX8_howManyMayRise 9 = .ok (.if_icmp .ge 20, 3) := by decide +kernel
theorem dX8_howManyMayRise_12 : decode cX8_howManyMayRise 12 = .ok (.aload_n 0, 1) := by decide +kernel
theorem dX8_howManyMayRise_13 : decode cX8_howManyMayRise 13 = .ok (.iload_n 2, 1) := by decide +kernel
theorem dX8_howManyMayRise_14 : decode cX8_howManyMayRise 14 = .ok (.invokevirtual 124, 3) := by decide +kernel
theorem dX8_howManyMayRise_17 : decode cX8_howManyMayRise 17 = .ok (.ifCond .eq 6, 3) := by decide +kernel
theorem dX8_howManyMayRise_20 : decode cX8_howManyMayRise 20 = .ok (.iinc 1 1, 3) := by decide +kernel
theorem dX8_howManyMayRise_23 : decode cX8_howManyMayRise 23 = .ok (.iinc 2 1, 3) := by decide +kernel
theorem dX8_howManyMayRise_26 : decode cX8_howManyMayRise 26 = .ok (.goto (-22), 3) := by decide +kernel
theorem dX8_howManyMayRise_29 : decode cX8_howManyMayRise 29 = .ok (.iload_n 1, 1) := by decide +kernel
theorem dX8_howManyMayRise_30 : decode cX8_howManyMayRise 30 = .ok (.ireturn, 1) := by decide +kernel
theorem dX8_isSameAs_0 : decode cX8_isSameAs 0 = .ok (.aload_n 0, 1) := by decide +kernel
theorem dX8_isSameAs_1 : decode cX8_isSameAs 1 = .ok (.getfield 37, 3) := by decide +kernel
theorem dX8_isSameAs_4 : decode cX8_isSameAs 4 = .ok (.aload_n 1, 1) := by decide +kernel
theorem dX8_isSameAs_5 : decode cX8_isSameAs 5 = .ok (.getfield 37, 3) := by decide +kernel
theorem dX8_isSameAs_8 : decode cX8_isSameAs 8 = .ok (.if_icmp .ne 58, 3) := by decide +kernel
theorem dX8_isSameAs_11 : decode cX8_isSameAs 11 = .ok (.aload_n 0, 1) := by decide +kernel
theorem dX8_isSameAs_12 : decode cX8_isSameAs 12 = .ok (.getfield 41, 3) := by decide +kernel
theorem dX8_isSameAs_15 : decode cX8_isSameAs 15 = .ok (.aload_n 1, 1) := by decide +kernel
theorem dX8_isSameAs_16 : decode cX8_isSameAs 16 = .ok (.getfield 41, 3) := by decide +kernel
theorem dX8_isSameAs_19 : decode cX8_isSameAs 19 = .ok (.if_icmp .ne 47, 3) := by decide +kernel
theorem dX8_isSameAs_22 : decode cX8_isSameAs 22 = .ok (.aload_n 0, 1) := by decide +kernel
theorem dX8_isSameAs_23 : decode cX8_isSameAs 23 = .ok (.getfield 44, 3) := by decide +kernel
theorem dX8_isSameAs_26 : decode cX8_isSameAs 26 = .ok (.aload_n 1, 1) := by decide +kernel
theorem dX8_isSameAs_27 : decode cX8_isSameAs 27 = .ok (.getfield 44, 3) := by decide +kernel
theorem dX8_isSameAs_30 : decode cX8_isSameAs 30 = .ok (.if_icmp .ne 36, 3) := by decide +kernel
theorem dX8_isSameAs_33 : decode cX8_isSameAs 33 = .ok (.aload_n 0, 1) := by decide +kernel
theorem dX8_isSameAs_34 : decode cX8_isSameAs 34 = .ok (.getfield 47, 3) := by decide +kernel
theorem dX8_isSameAs_37 : decode cX8_isSameAs 37 = .ok (.aload_n 1, 1) := by decide +kernel
theorem dX8_isSameAs_38 : decode cX8_isSameAs 38 = .ok (.getfield 47, 3) := by decide +kernel
theorem dX8_isSameAs_41 : decode cX8_isSameAs 41 = .ok (.if_icmp .ne 25, 3) := by decide +kernel
theorem dX8_isSameAs_44 : decode cX8_isSameAs 44 = .ok (.aload_n 0, 1) := by decide +kernel
theorem dX8_isSameAs_45 : decode cX8_isSameAs 45 = .ok (.getfield 50, 3) := by decide +kernel
theorem dX8_isSameAs_48 : decode cX8_isSameAs 48 = .ok (.aload_n 1, 1) := by decide +kernel
theorem dX8_isSameAs_49 : decode cX8_isSameAs 49 = .ok (.getfield 50, 3) := by decide +kernel
theorem dX8_isSameAs_52 : decode cX8_isSameAs 52 = .ok (.if_icmp .ne 14, 3) := by decide +kernel
theorem dX8_isSameAs_55 : decode cX8_isSameAs 55 = .ok (.aload_n 0, 1) := by decide +kernel
theorem dX8_isSameAs_56 : decode cX8_isSameAs 56 = .ok (.getfield 53, 3) := by decide +kernel
theorem dX8_isSameAs_59 : decode cX8_isSameAs 59 = .ok (.aload_n 1, 1) := by decide +kernel
theorem dX8_isSameAs_60 : decode cX8_isSameAs 60 = .ok (.getfield 53, 3) := by decide +kernel
theorem dX8_isSameAs_63 : decode cX8_isSameAs 63 = .ok (.if_icmp .eq 5, 3) := by decide +kernel
theorem dX8_isSameAs_66 : decode cX8_isSameAs 66 = .ok (.iconst 0, 1) := by decide +kernel
theorem dX8_isSameAs_67 : decode cX8_isSameAs 67 = .ok (.ireturn, 1) := by decide +kernel
theorem dX8_isSameAs_68 : decode cX8_isSameAs 68 = .ok (.iconst 1, 1) := by decide +kernel
theorem dX8_isSameAs_69 : decode cX8_isSameAs 69 = .ok (.istore_n 2, 1) := by decide +kernel
theorem dX8_isSameAs_70 : decode cX8_isSameAs 70 = .ok (.iload_n 2, 1) := by decide +kernel
theorem dX8_isSameAs_71 : decode cX8_isSameAs 71 = .ok (.aload_n 0, 1) := by decide +kernel
theorem dX8_isSameAs_72 : decode cX8_isSameAs 72 = .ok (.getfield 37, 3) := by decide +kernel
theorem dX8_isSameAs_75 : decode cX8_isSameAs 75 = .ok (.if_icmp .gt 26, 3) := by decide +kernel
theorem dX8_isSameAs_78 : decode cX8_isSameAs 78 = .ok (.aload_n 0, 1) := by decide +kernel
theorem dX8_isSameAs_79 : decode cX8_isSameAs 79 = .ok (.getfield 15, 3) := by decide +kernel
theorem dX8_isSameAs_82 : decode cX8_isSameAs 82 = .ok (.iload_n 2, 1) := by decide +kernel
theorem dX8_isSameAs_83 : decode cX8_isSameAs 83 = .ok (.iaload, 1) := by decide +kernel
theorem dX8_isSameAs_84 : decode cX8_isSameAs 84 = .ok (.aload_n 1, 1) := by decide +kernel
theorem dX8_isSameAs_85 : decode cX8_isSameAs 85 = .ok (.getfield 15, 3) := by decide +kernel
theorem dX8_isSameAs_88 : decode cX8_isSameAs 88 = .ok (.iload_n 2, 1) := by decide +kernel
theorem dX8_isSameAs_89 : decode cX8_isSameAs 89 = .ok (.iaload, 1) := by decide +kernel
theorem dX8_isSameAs_90 : decode cX8_isSameAs 90 = .ok (.if_icmp .eq 5, 3) := by decide +kernel
theorem dX8_isSameAs_93 : decode cX8_isSameAs 93 = .ok (.iconst 0, 1) := by decide +kernel
theorem dX8_isSameAs_94 : decode cX8_isSameAs 94 = .ok (.ireturn, 1) := by decide +kernel
theorem dX8_isSameAs_95 : decode cX8_isSameAs 95 = .ok (.iinc 2 1, 3) := by decide +kernel
theorem dX8_isSameAs_98 : decode cX8_isSameAs 98 = .ok (.goto (-28), 3) := by decide +kernel
theorem dX8_isSameAs_101 : decode cX8_isSameAs 101 = .ok (.iconst 0, 1) := by decide +kernel
theorem dX8_isSameAs_102 : decode cX8_isSameAs 102 = .ok (.istore_n 2, 1) := by decide +kernel
theorem dX8_isSameAs_103 : decode cX8_isSameAs 103 = .ok (.iload_n 2, 1) := by decide +kernel
theorem dX8_isSameAs_104 : decode cX8_isSameAs 104 = .ok (.aload_n 0, 1) := by decide +kernel
theorem dX8_isSameAs_105 : decode cX8_isSameAs 105 = .ok (.getfield 44, 3) := by decide +kernel
theorem dX8_isSameAs_108 : decode cX8_isSameAs 108 = .ok (.if_icmp .ge 71, 3) := by decide +kernel
theorem dX8_isSameAs_111 : decode cX8_isSameAs 111 = .ok (.aload_n 0, 1) := by decide +kernel
theorem dX8_isSameAs_112 : decode cX8_isSameAs 112 = .ok (.getfield 18, 3) := by decide +kernel
theorem dX8_isSameAs_115 : decode cX8_isSameAs 115 = .ok (.iload_n 2, 1) := by decide +kernel
theorem dX8_isSameAs_116 : decode cX8_isSameAs 116 = .ok (.iaload, 1) := by decide +kernel
theorem dX8_isSameAs_117 : decode cX8_isSameAs 117 = .ok (.aload_n 1, 1) := by decide +kernel
theorem dX8_isSameAs_118 : decode cX8_isSameAs 118 = .ok (.getfield 18, 3) := by decide +kernel
theorem dX8_isSameAs_121 : decode cX8_isSameAs 121 = .ok (.iload_n 2, 1) := by decide +kernel
theorem dX8_isSameAs_122 : decode cX8_isSameAs 122 = .ok (.iaload, 1) := by decide +kernel
theorem dX8_isSameAs_123 : decode cX8_isSameAs 123 = .ok (.if_icmp .ne 48, 3) := by decide +kernel
theorem dX8_isSameAs_126 : decode cX8_isSameAs 126 = .ok (.aload_n 0, 1) := by decide +kernel
theorem dX8_isSameAs_127 : decode cX8_isSameAs 127 = .ok (.getfield 21, 3) := by decide +kernel
theorem dX8_isSameAs_130 : decode cX8_isSameAs 130 = .ok (.iload_n 2, 1) := by decide +kernel
theorem dX8_isSameAs_131 : decode cX8_isSameAs 131 = .ok (.iaload, 1) := by decide +kernel
theorem dX8_isSameAs_132 : decode cX8_isSameAs 132 = .ok (.aload_n 1, 1) := by decide +kernel
theorem dX8_isSameAs_133 : decode cX8_isSameAs 133 = .ok (.getfield 21, 3) := by decide +kernel
theorem dX8_isSameAs_136 : decode cX8_isSameAs 136 = .ok (.iload_n 2, 1) := by decide +kernel
theorem dX8_isSameAs_137 : decode cX8_isSameAs 137 = .ok (.iaload, 1) := by decide +kernel
theorem dX8_isSameAs_138 : decode cX8_isSameAs 138 = .ok (.if_icmp .ne 33, 3) := by decide +kernel
theorem dX8_isSameAs_141 : decode cX8_isSameAs 141 = .ok (.aload_n 0, 1) := by decide +kernel
theorem dX8_isSameAs_142 : decode cX8_isSameAs 142 = .ok (.getfield 24, 3) := by decide +kernel
theorem dX8_isSameAs_145 : decode cX8_isSameAs 145 = .ok (.iload_n 2, 1) := by decide +kernel
theorem dX8_isSameAs_146 : decode cX8_isSameAs 146 = .ok (.iaload, 1) := by decide +kernel
theorem dX8_isSameAs_147 : decode cX8_isSameAs 147 = .ok (.aload_n 1, 1) := by decide +kernel
theorem dX8_isSameAs_148 : decode cX8_isSameAs 148 = .ok (.getfield 24, 3) := by decide +kernel
theorem dX8_isSameAs_151 : decode cX8_isSameAs 151 = .ok (.iload_n 2, 1) := by decide +kernel
theorem dX8_isSameAs_152 : decode cX8_isSameAs 152 = .ok (.iaload, 1) := by decide +kernel
theorem dX8_isSameAs_153 : decode cX8_isSameAs 153 = .ok (.if_icmp .ne 18, 3) := by decide +kernel
theorem dX8_isSameAs_156 : decode cX8_isSameAs 156 = .ok (.aload_n 0, 1) := by decide +kernel
theorem dX8_isSameAs_157 : decode cX8_isSameAs 157 = .ok (.getfield 27, 3) := by decide +kernel
theorem dX8_isSameAs_160 : decode cX8_isSameAs 160 = .ok (.iload_n 2, 1) := by decide +kernel
theorem dX8_isSameAs_161 : decode cX8_isSameAs 161 = .ok (.iaload, 1) := by decide +kernel
theorem dX8_isSameAs_162 : decode cX8_isSameAs 162 = .ok (.aload_n 1, 1) := by decide +kernel
theorem dX8_isSameAs_163 : decode cX8_isSameAs 163 = .ok (.getfield 27, 3) := by decide +kernel
theorem dX8_isSameAs_166 : decode cX8_isSameAs 166 = .ok (.iload_n 2, 1) := by decide +kernel
theorem dX8_isSameAs_167 : decode cX8_isSameAs 167 = .ok (.iaload, 1) := by decide +kernel
theorem dX8_isSameAs_168 : decode cX8_isSameAs 168 = .ok (.if_icmp .eq 5, 3) := by decide +kernel
theorem dX8_isSameAs_171 : decode cX8_isSameAs 171 = .ok (.iconst 0, 1) := by decide +kernel
theorem dX8_isSameAs_172 : decode cX8_isSameAs 172 = .ok (.ireturn, 1) := by decide +kernel
theorem dX8_isSameAs_173 : decode cX8_isSameAs 173 = .ok (.iinc 2 1, 3) := by decide +kernel
theorem dX8_isSameAs_176 : decode cX8_isSameAs 176 = .ok (.goto (-73), 3) := by decide +kernel
theorem dX8_isSameAs_179 : decode cX8_isSameAs 179 = .ok (.iconst 1, 1) := by decide +kernel
theorem dX8_isSameAs_180 : decode cX8_isSameAs 180 = .ok (.ireturn, 1) := by decide +kernel
theorem dX9_init_0 : decode cX9_init 0 = .ok (.aload_n 0, 1) := by decide +kernel
theorem dX9_init_1 : decode cX9_init 1 = .ok (.invokespecial 3, 3) := by decide +kernel
theorem dX9_init_4 : decode cX9_init 4 = .ok (.aload_n 0, 1) := by decide +kernel
theorem dX9_init_5 : decode cX9_init 5 = .ok (.bipush 40, 2) := by decide +kernel
theorem dX9_init_7 : decode cX9_init 7 = .ok (.newarray .int, 2) := by decide +kernel
theorem dX9_init_9 : decode cX9_init 9 = .ok (.putfield 9, 3) := by decide +kernel
theorem dX9_init_12 : decode cX9_init 12 = .ok (.aload_n 0, 1) := by decide +kernel
theorem dX9_init_13 : decode cX9_init 13 = .ok (.iconst (-1), 1) := by decide +kernel
theorem dX9_init_14 : decode cX9_init 14 = .ok (.putfield 15, 3) := by decide +kernel
theorem dX9_init_17 : decode cX9_init 17 = .ok (.return_, 1) := by decide +kernel
theorem dX9_isMissing_0 : decode cX9_isMissing 0 = .ok (.aload_n 0, 1) := by decide +kernel
theorem dX9_isMissing_1 : decode cX9_isMissing 1 = .ok (.getfield 15, 3) := by decide +kernel
theorem dX9_isMissing_4 : decode cX9_isMissing 4 = .ok (.iconst (-1), 1) := by decide +kernel
theorem dX9_isMissing_5 : decode cX9_isMissing 5 = .ok (.if_icmp .ne 7, 3) := by decide +kernel
theorem dX9_isMissing_8 : decode cX9_isMissing 8 = .ok (.iconst 1, 1) := by decide +kernel
theorem dX9_isMissing_9 : decode cX9_isMissing 9 = .ok (.goto 4, 3) := by decide +kernel
theorem dX9_isMissing_12 : decode cX9_isMissing 12 = .ok (.iconst 0, 1) := by decide +kernel
theorem dX9_isMissing_13 : decode cX9_isMissing 13 = .ok (.ireturn, 1) := by decide +kernel
theorem dX9_lose_0 : decode cX9_lose 0 = .ok (.aload_n 0, 1) := by decide +kernel
theorem dX9_lose_1 : decode cX9_lose 1 = .ok (.iconst (-1), 1) := by decide +kernel
theorem dX9_lose_2 : decode cX9_lose 2 = .ok (.putfield 15, 3) := by decide +kernel
theorem dX9_lose_5 : decode cX9_lose 5 = .ok (.return_, 1) := by decide +kernel
theorem dX9_renew_0 : decode cX9_renew 0 = .ok (.aload_n 0, 1) := by decide +kernel
theorem dX9_renew_1 : decode cX9_renew 1 = .ok (.iload_n 1, 1) := by decide +kernel
theorem dX9_renew_2 : decode cX9_renew 2 = .ok (.putfield 19, 3) := by decide +kernel
theorem dX9_renew_5 : decode cX9_renew 5 = .ok (.aload_n 0, 1) := by decide +kernel
theorem dX9_renew_6 : decode cX9_renew 6 = .ok (.iload_n 2, 1) := by decide +kernel
theorem dX9_renew_7 : decode cX9_renew 7 = .ok (.putfield 15, 3) := by decide +kernel
theorem dX9_renew_10 : decode cX9_renew 10 = .ok (.iconst 0, 1) := by decide +kernel
theorem dX9_renew_11 : decode cX9_renew 11 = .ok (.istore_n 3, 1) := by decide +kernel
theorem dX9_renew_12 : decode cX9_renew 12 = .ok (.iload_n 3, 1) := by decide +kernel
theorem dX9_renew_13 : decode cX9_renew 13 = .ok (.bipush 40, 2) := by decide +kernel
theorem dX9_renew_15 : decode cX9_renew 15 = .ok (.if_icmp .ge 16, 3) := by decide +kernel
theorem dX9_renew_18 : decode cX9_renew 18 = .ok (.aload_n 0, 1) := by decide +kernel
theorem dX9_renew_19 : decode cX9_renew 19 = .ok (.getfield 9, 3) := by decide +kernel
theorem dX9_renew_22 : decode cX9_renew 22 = .ok (.iload_n 3, 1) := by decide +kernel
theorem dX9_renew_23 : decode cX9_renew 23 = .ok (.iconst 0, 1) := by decide +kernel
theorem dX9_renew_24 : decode cX9_renew 24 = .ok (.iastore, 1) := by decide +kernel
theorem dX9_renew_25 : decode cX9_renew 25 = .ok (.iinc 3 1, 3) := by decide +kernel
theorem dX9_renew_28 : decode cX9_renew 28 = .ok (.goto (-16), 3) := by decide +kernel
theorem dX9_renew_31 : decode cX9_renew 31 = .ok (.return_, 1) := by decide +kernel
theorem dX9_hasSpan_0 : decode cX9_hasSpan 0 = .ok (.iload_n 1, 1) := by decide +kernel
theorem dX9_hasSpan_1 : decode cX9_hasSpan 1 = .ok (.ifCond .lt 21, 3) := by decide +kernel
theorem dX9_hasSpan_4 : decode cX9_hasSpan 4 = .ok (.iload_n 2, 1) := by decide +kernel
theorem dX9_hasSpan_5 : decode cX9_hasSpan 5 = .ok (.ifCond .lt 17, 3) := by decide +kernel
theorem dX9_hasSpan_8 : decode cX9_hasSpan 8 = .ok (.iload_n 1, 1) := by decide +kernel
theorem dX9_hasSpan_9 : decode cX9_hasSpan 9 = .ok (.aload_n 0, 1) := by decide +kernel
theorem dX9_hasSpan_10 : decode cX9_hasSpan 10 = .ok (.getfield 15, 3) := by decide +kernel
theorem dX9_hasSpan_13 : decode cX9_hasSpan 13 = .ok (.iload_n 2, 1) := by decide +kernel
theorem dX9_hasSpan_14 : decode cX9_hasSpan 14 = .ok (.isub, 1) := by decide +kernel
theorem dX9_hasSpan_15 : decode cX9_hasSpan 15 = .ok (.if_icmp .gt 7, 3) := by decide +kernel
theorem dX9_hasSpan_18 : decode cX9_hasSpan 18 = .ok (.iconst 1, 1) := by decide +kernel
theorem dX9_hasSpan_19 : decode cX9_hasSpan 19 = .ok (.goto 4, 3) := by decide +kernel
theorem dX9_hasSpan_22 : decode cX9_hasSpan 22 = .ok (.iconst 0, 1) := by decide +kernel
theorem dX9_hasSpan_23 : decode cX9_hasSpan 23 = .ok (.ireturn, 1) := by decide +kernel
theorem dX9_put_0 : decode cX9_put 0 = .ok (.aload_n 0, 1) := by decide +kernel
theorem dX9_put_1 : decode cX9_put 1 = .ok (.getfield 9, 3) := by decide +kernel
theorem dX9_put_4 : decode cX9_put 4 = .ok (.iload_n 1, 1) := by decide +kernel
theorem dX9_put_5 : decode cX9_put 5 = .ok (.aload_n 0, 1) := by decide +kernel
theorem dX9_put_6 : decode cX9_put 6 = .ok (.getfield 19, 3) := by decide +kernel
theorem dX9_put_9 : decode cX9_put 9 = .ok (.ifCond .ne 8, 3) := by decide +kernel
theorem dX9_put_12 : decode cX9_put 12 = .ok (.iload_n 2, 1) := by decide +kernel
theorem dX9_put_13 : decode cX9_put 13 = .ok (.i2b, 1) := by decide +kernel
theorem dX9_put_14 : decode cX9_put 14 = .ok (.goto 17, 3) := by decide +kernel
theorem dX9_put_17 : decode cX9_put 17 = .ok (.aload_n 0, 1) := by decide +kernel
theorem dX9_put_18 : decode cX9_put 18 = .ok (.getfield 19, 3) := by decide +kernel
theorem dX9_put_21 : decode cX9_put 21 = .ok (.iconst 1, 1) := by decide +kernel
theorem dX9_put_22 : decode cX9_put 22 = .ok (.if_icmp .ne 8, 3) := by decide +kernel
theorem dX9_put_25 : decode cX9_put 25 = .ok (.iload_n 2, 1) := by decide +kernel
theorem dX9_put_26 : decode cX9_put 26 = .ok (.i2s, 1) := by decide +kernel
theorem dX9_put_27 : decode cX9_put 27 = .ok (.goto 4, 3) := by decide +kernel
theorem dX9_put_30 : decode cX9_put 30 = .ok (.iload_n 2, 1) := by decide +kernel
theorem dX9_put_31 : decode cX9_put 31 = .ok (.iastore, 1) := by decide +kernel
theorem dX9_put_32 : decode cX9_put 32 = .ok (.aload_n 0, 1) := by decide +kernel
theorem dX9_put_33 : decode cX9_put 33 = .ok (.getfield 9, 3) := by decide +kernel
theorem dX9_put_36 : decode cX9_put 36 = .ok (.iload_n 1, 1) := by decide +kernel
theorem dX9_put_37 : decode cX9_put 37 = .ok (.iaload, 1) := by decide +kernel
theorem dX9_put_38 : decode cX9_put 38 = .ok (.ireturn, 1) := by decide +kernel
theorem dX10_init_0 : decode cX10_init 0 = .ok (.aload_n 0, 1) := by decide +kernel
theorem dX10_init_1 : decode cX10_init 1 = .ok (.invokespecial 3, 3) := by decide +kernel
theorem dX10_init_4 : decode cX10_init 4 = .ok (.aload_n 0, 1) := by decide +kernel
theorem dX10_init_5 : decode cX10_init 5 = .ok (.bipush 100, 2) := by decide +kernel
theorem dX10_init_7 : decode cX10_init 7 = .ok (.newarray .int, 2) := by decide +kernel
theorem dX10_init_9 : decode cX10_init 9 = .ok (.putfield 9, 3) := by decide +kernel
theorem dX10_init_12 : decode cX10_init 12 = .ok (.return_, 1) := by decide +kernel
theorem dX10_take_0 : decode cX10_take 0 = .ok (.aload_n 0, 1) := by decide +kernel
theorem dX10_take_1 : decode cX10_take 1 = .ok (.getfield 9, 3) := by decide +kernel
theorem dX10_take_4 : decode cX10_take 4 = .ok (.aload_n 0, 1) := by decide +kernel
theorem dX10_take_5 : decode cX10_take 5 = .ok (.getfield 15, 3) := by decide +kernel
theorem dX10_take_8 : decode cX10_take 8 = .ok (.iload_n 1, 1) := by decide +kernel
theorem dX10_take_9 : decode cX10_take 9 = .ok (.iastore, 1) := by decide +kernel
theorem dX10_take_10 : decode cX10_take 10 = .ok (.aload_n 0, 1) := by decide +kernel
theorem dX10_take_11 : decode cX10_take 11 = .ok (.dup, 1) := by decide +kernel
theorem dX10_take_12 : decode cX10_take 12 = .ok (.getfield 15, 3) := by decide +kernel
theorem dX10_take_15 : decode cX10_take 15 = .ok (.iconst 1, 1) := by decide +kernel
theorem dX10_take_16 : decode cX10_take 16 = .ok (.iadd, 1) := by decide +kernel
theorem dX10_take_17 : decode cX10_take 17 = .ok (.putfield 15, 3) := by decide +kernel
theorem dX10_take_20 : decode cX10_take 20 = .ok (.aload_n 0, 1) := by decide +kernel
theorem dX10_take_21 : decode cX10_take 21 = .ok (.getfield 15, 3) := by decide +kernel
theorem dX10_take_24 : decode cX10_take 24 = .ok (.ireturn, 1) := by decide +kernel
theorem dX10_readInto_0 : decode cX10_readInto 0 = .ok (.aload_n 0, 1) := by decide +kernel
theorem dX10_readInto_1 : decode cX10_readInto 1 = .ok (.iconst 0, 1) := by decide +kernel
theorem dX10_readInto_2 : decode cX10_readInto 2 = .ok (.putfield 19, 3) := by decide +kernel
theorem dX10_readInto_5 : decode cX10_readInto 5 = .ok (.aload_n 0, 1) := by decide +kernel
theorem dX10_readInto_6 : decode cX10_readInto 6 = .ok (.iconst 0, 1) := by decide +kernel
theorem dX10_readInto_7 : decode cX10_readInto 7 = .ok (.putfield 22, 3) := by decide +kernel
theorem dX10_readInto_10 : decode cX10_readInto 10 = .ok (.aload_n 0, 1) := by decide +kernel
theorem dX10_readInto_11 : decode cX10_readInto 11 = .ok (.invokevirtual 25, 3) := by decide +kernel
theorem dX10_readInto_14 : decode cX10_readInto 14 = .ok (.aload_n 0, 1) := by decide +kernel
theorem dX10_readInto_15 : decode cX10_readInto 15 = .ok (.aload_n 1, 1) := by decide +kernel
theorem dX10_readInto_16 : decode cX10_readInto 16 = .ok (.invokevirtual 28, 3) := by decide +kernel
theorem dX10_readInto_19 : decode cX10_readInto 19 = .ok (.ifCond .eq 23, 3) := by decide +kernel
theorem dX10_readInto_22 : decode cX10_readInto 22 = .ok (.aload_n 0, 1) := by decide +kernel
theorem dX10_readInto_23 : decode cX10_readInto 23 = .ok (.aload_n 1, 1) := by decide +kernel
theorem dX10_readInto_24 : decode cX10_readInto 24 = .ok (.invokevirtual 32, 3) := by decide +kernel
theorem dX10_readInto_27 : decode cX10_readInto 27 = .ok (.ifCond .eq 15, 3) := by decide +kernel
theorem dX10_readInto_30 : decode cX10_readInto 30 = .ok (.aload_n 0, 1) := by decide +kernel
theorem dX10_readInto_31 : decode cX10_readInto 31 = .ok (.aload_n 1, 1) := by decide +kernel
theorem dX10_readInto_32 : decode cX10_readInto 32 = .ok (.invokevirtual 35, 3) := by decide +kernel
theorem dX10_readInto_35 : decode cX10_readInto 35 = .ok (.ifCond .eq 7, 3) := by decide +kernel
theorem dX10_readInto_38 : decode cX10_readInto 38 = .ok (.iconst 1, 1) := by decide +kernel
theorem dX10_readInto_39 : decode cX10_readInto 39 = .ok (.goto 4, 3) := by decide +kernel
theorem dX10_readInto_42 : decode cX10_readInto 42 = .ok (.iconst 0, 1) := by decide +kernel
theorem dX10_readInto_43 : decode cX10_readInto 43 = .ok (.ireturn, 1) := by decide +kernel
theorem dX10_readLaw_0 : decode cX10_readLaw 0 = .ok (.aload_n 0, 1) := by decide +kernel
theorem dX10_readLaw_1 : decode cX10_readLaw 1 = .ok (.bipush 108, 2) := by decide +kernel
theorem dX10_readLaw_3 : decode cX10_readLaw 3 = .ok (.invokevirtual 38, 3) := by decide +kernel
theorem dX10_readLaw_6 : decode cX10_readLaw 6 = .ok (.ifCond .ne 5, 3) := by decide +kernel
theorem dX10_readLaw_9 : decode cX10_readLaw 9 = .ok (.iconst 0, 1) := by decide +kernel
theorem dX10_readLaw_10 : decode cX10_readLaw 10 = .ok (.ireturn, 1) := by decide +kernel
theorem dX10_readLaw_11 : decode cX10_readLaw 11 = .ok (.aload_n 0, 1) := by decide +kernel
theorem dX10_readLaw_12 : decode cX10_readLaw 12 = .ok (.iconst 2, 1) := by decide +kernel
theorem dX10_readLaw_13 : decode cX10_readLaw 13 = .ok (.bipush 9, 2) := by decide +kernel
theorem dX10_readLaw_15 : decode cX10_readLaw 15 = .ok (.bipush 44, 2) := by decide +kernel
theorem dX10_readLaw_17 : decode cX10_readLaw 17 = .ok (.invokevirtual 42, 3) := by decide +kernel
theorem dX10_readLaw_20 : decode cX10_readLaw 20 = .ok (.istore_n 2, 1) := by decide +kernel
theorem dX10_readLaw_21 : decode cX10_readLaw 21 = .ok (.iload_n 2, 1) := by decide +kernel
theorem dX10_readLaw_22 : decode cX10_readLaw 22 = .ok (.ifCond .ge 5, 3) := by decide +kernel
theorem dX10_readLaw_25 : decode cX10_readLaw 25 = .ok (.iconst 0, 1) := by decide +kernel
theorem dX10_readLaw_26 : decode cX10_readLaw 26 = .ok (.ireturn, 1) := by decide +kernel
theorem dX10_readLaw_27 : decode cX10_readLaw 27 = .ok (.aload_n 0, 1) := by decide +kernel
theorem dX10_readLaw_28 : decode cX10_readLaw 28 = .ok (.iconst 1, 1) := by decide +kernel
theorem dX10_readLaw_29 : decode cX10_readLaw 29 = .ok (.bipush 99, 2) := by decide +kernel
theorem dX10_readLaw_31 : decode cX10_readLaw 31 = .ok (.bipush 59, 2) := by decide +kernel
theorem dX10_readLaw_33 : decode cX10_readLaw 33 = .ok (.invokevirtual 42, 3) := by decide +kernel
theorem dX10_readLaw_36 : decode cX10_readLaw 36 = .ok (.istore_n 3, 1) := by decide +kernel
theorem dX10_readLaw_37 : decode cX10_readLaw 37 = .ok (.iload_n 3, 1) := by decide +kernel
theorem dX10_readLaw_38 : decode cX10_readLaw 38 = .ok (.ifCond .ge 5, 3) := by decide +kernel
theorem dX10_readLaw_41 : decode cX10_readLaw 41 = .ok (.iconst 0, 1) := by decide +kernel
theorem dX10_readLaw_42 : decode cX10_readLaw 42 = .ok (.ireturn, 1) := by decide +kernel
theorem dX10_readLaw_43 : decode cX10_readLaw 43 = .ok (.aload_n 1, 1) := by decide +kernel
theorem dX10_readLaw_44 : decode cX10_readLaw 44 = .ok (.iload_n 2, 1) := by decide +kernel
theorem dX10_readLaw_45 : decode cX10_readLaw 45 = .ok (.iload_n 3, 1) := by decide +kernel
theorem dX10_readLaw_46 : decode cX10_readLaw 46 = .ok (.invokevirtual 46, 3) := by decide +kernel
theorem dX10_readLaw_49 : decode cX10_readLaw 49 = .ok (.iconst 1, 1) := by decide +kernel
theorem dX10_readLaw_50 : decode cX10_readLaw 50 = .ok (.ireturn, 1) := by decide +kernel
theorem dX10_readRungs_0 : decode cX10_readRungs 0 = .ok (.iconst 1, 1) := by decide +kernel
theorem dX10_readRungs_1 : decode cX10_readRungs 1 = .ok (.istore_n 2, 1) := by decide +kernel
theorem dX10_readRungs_2 : decode cX10_readRungs 2 = .ok (.iload_n 2, 1) := by decide +kernel
theorem dX10_readRungs_3 : decode cX10_readRungs 3 = .ok (.aload_n 1, 1) := by decide +kernel
theorem dX10_readRungs_4 : decode cX10_readRungs 4 = .ok (.getfield 52, 3) := by decide +kernel
theorem dX10_readRungs_7 : decode cX10_readRungs 7 = .ok (.if_icmp .gt 43, 3) := by decide +kernel
theorem dX10_readRungs_10 : decode cX10_readRungs 10 = .ok (.aload_n 0, 1) := by decide +kernel
theorem dX10_readRungs_11 : decode cX10_readRungs 11 = .ok (.bipush 114, 2) := by decide +kernel
theorem dX10_readRungs_13 : decode cX10_readRungs 13 = .ok (.invokevirtual 38, 3) := by decide +kernel
theorem dX10_readRungs_16 : decode cX10_readRungs 16 = .ok (.ifCond .ne 5, 3) := by decide +kernel
theorem dX10_readRungs_19 : decode cX10_readRungs 19 = .ok (.iconst 0, 1) := by decide +kernel
theorem dX10_readRungs_20 : decode cX10_readRungs 20 = .ok (.ireturn, 1) := by decide +kernel
theorem dX10_readRungs_21 : decode cX10_readRungs 21 = .ok (.aload_n 0, 1) := by decide +kernel
theorem dX10_readRungs_22 : decode cX10_readRungs 22 = .ok (.iconst 0, 1) := by decide +kernel
theorem dX10_readRungs_23 : decode cX10_readRungs 23 = .ok (.bipush 99, 2) := by decide +kernel
theorem dX10_readRungs_25 : decode cX10_readRungs 25 = .ok (.bipush 59, 2) := by decide +kernel
theorem dX10_readRungs_27 : decode cX10_readRungs 27 = .ok (.invokevirtual 42, 3) := by decide +kernel
theorem dX10_readRungs_30 : decode cX10_readRungs 30 = .ok (.istore_n 3, 1) := by decide +kernel
theorem dX10_readRungs_31 : decode cX10_readRungs 31 = .ok (.iload_n 3, 1) := by decide +kernel
theorem dX10_readRungs_32 : decode cX10_readRungs 32 = .ok (.ifCond .ge 5, 3) := by decide +kernel
theorem dX10_readRungs_35 : decode cX10_readRungs 35 = .ok (.iconst 0, 1) := by decide +kernel
theorem dX10_readRungs_36 : decode cX10_readRungs 36 = .ok (.ireturn, 1) := by decide +kernel
theorem dX10_readRungs_37 : decode cX10_readRungs 37 = .ok (.aload_n 1, 1) := by decide +kernel
theorem dX10_readRungs_38 : decode cX10_readRungs 38 = .ok (.getfield 55, 3) := by decide +kernel
theorem dX10_readRungs_41 : decode cX10_readRungs 41 = .ok (.iload_n 2, 1) := by decide +kernel
theorem dX10_readRungs_42 : decode cX10_readRungs 42 = .ok (.iload_n 3, 1) := by decide +kernel
theorem dX10_readRungs_43 : decode cX10_readRungs 43 = .ok (.iastore, 1) := by decide +kernel
theorem dX10_readRungs_44 : decode cX10_readRungs 44 = .ok (.iinc 2 1, 3) := by decide +kernel
theorem dX10_readRungs_47 : decode cX10_readRungs 47 = .ok (.goto (-45), 3) := by decide +kernel
theorem dX10_readRungs_50 : decode cX10_readRungs 50 = .ok (.aload_n 0, 1) := by decide +kernel
theorem dX10_readRungs_51 : decode cX10_readRungs 51 = .ok (.getfield 58, 3) := by decide +kernel
theorem dX10_readRungs_54 : decode cX10_readRungs 54 = .ok (.bipush 114, 2) := by decide +kernel
theorem dX10_readRungs_56 : decode cX10_readRungs 56 = .ok (.if_icmp .ne 11, 3) := by decide +kernel
theorem dX10_readRungs_59 : decode cX10_readRungs 59 = .ok (.aload_n 0, 1) := by decide +kernel
theorem dX10_readRungs_60 : decode cX10_readRungs 60 = .ok (.iconst 3, 1) := by decide +kernel
theorem dX10_readRungs_61 : decode cX10_readRungs 61 = .ok (.invokevirtual 61, 3) := by decide +kernel
theorem dX10_readRungs_64 : decode cX10_readRungs 64 = .ok (.ifCond .eq 7, 3) := by decide +kernel
theorem dX10_readRungs_67 : decode cX10_readRungs 67 = .ok (.iconst 1, 1) := by decide +kernel
theorem dX10_readRungs_68 : decode cX10_readRungs 68 = .ok (.goto 4, 3) := by decide +kernel
theorem dX10_readRungs_71 : decode cX10_readRungs 71 = .ok (.iconst 0, 1) := by decide +kernel
theorem dX10_readRungs_72 : decode cX10_readRungs 72 = .ok (.ireturn, 1) := by decide +kernel
theorem dX10_readGoers_0 : decode cX10_readGoers 0 = .ok (.iconst 0, 1) := by decide +kernel
theorem dX10_readGoers_1 : decode cX10_readGoers 1 = .ok (.istore_n 2, 1) := by decide +kernel
theorem dX10_readGoers_2 : decode cX10_readGoers 2 = .ok (.iload_n 2, 1) := by decide +kernel
theorem dX10_readGoers_3 : decode cX10_readGoers 3 = .ok (.bipush 6, 2) := by decide +kernel
theorem dX10_readGoers_5 : decode cX10_readGoers 5 = .ok (.if_icmp .ge 90, 3) := by decide +kernel
theorem dX10_readGoers_8 : decode cX10_readGoers 8 = .ok (.iload_n 2, 1) := by decide +kernel
theorem dX10_readGoers_9 : decode cX10_readGoers 9 = .ok (.ifCond .le 13, 3) := by decide +kernel
theorem dX10_readGoers_12 : decode cX10_readGoers 12 = .ok (.aload_n 0, 1) := by decide +kernel
theorem dX10_readGoers_13 : decode cX10_readGoers 13 = .ok (.getfield 58, 3) := by decide +kernel
theorem dX10_readGoers_16 : decode cX10_readGoers 16 = .ok (.iconst (-1), 1) := by decide +kernel
theorem dX10_readGoers_17 : decode cX10_readGoers 17 = .ok (.if_icmp .ne 5, 3) := by decide +kernel
theorem dX10_readGoers_20 : decode cX10_readGoers 20 = .ok (.iconst 1, 1) := by decide +kernel
theorem dX10_readGoers_21 : decode cX10_readGoers 21 = .ok (.ireturn, 1) := by decide +kernel
theorem dX10_readGoers_22 : decode cX10_readGoers 22 = .ok (.aload_n 0, 1) := by decide +kernel
theorem dX10_readGoers_23 : decode cX10_readGoers 23 = .ok (.getfield 58, 3) := by decide +kernel
theorem dX10_readGoers_26 : decode cX10_readGoers 26 = .ok (.invokestatic 65, 3) := by decide +kernel
theorem dX10_readGoers_29 : decode cX10_readGoers 29 = .ok (.istore_n 3, 1) := by decide +kernel
theorem dX10_readGoers_30 : decode cX10_readGoers 30 = .ok (.iload_n 3, 1) := by decide +kernel
theorem dX10_readGoers_31 : decode cX10_readGoers 31 = .ok (.ifCond .ne 9, 3) := by decide +kernel
theorem dX10_readGoers_34 : decode cX10_readGoers 34 = .ok (.aload_n 0, 1) := by decide +kernel
theorem dX10_readGoers_35 : decode cX10_readGoers 35 = .ok (.iconst 1, 1) := by decide +kernel
theorem dX10_readGoers_36 : decode cX10_readGoers 36 = .ok (.invokevirtual 61, 3) := by decide +kernel
theorem dX10_readGoers_39 : decode cX10_readGoers 39 = .ok (.ireturn, 1) := by decide +kernel
theorem dX10_readGoers_40 : decode cX10_readGoers 40 = .ok (.aload_n 0, 1) := by decide +kernel
theorem dX10_readGoers_41 : decode cX10_readGoers 41 = .ok (.invokevirtual 25, 3) := by decide +kernel
theorem dX10_readGoers_44 : decode cX10_readGoers 44 = .ok (.aload_n 0, 1) := by decide +kernel
theorem dX10_readGoers_45 : decode cX10_readGoers 45 = .ok (.iconst 1, 1) := by decide +kernel
theorem dX10_readGoers_46 : decode cX10_readGoers 46 = .ok (.bipush 30, 2) := by decide +kernel
theorem dX10_readGoers_48 : decode cX10_readGoers 48 = .ok (.bipush 44, 2) := by decide +kernel
theorem dX10_readGoers_50 : decode cX10_readGoers 50 = .ok (.invokevirtual 42, 3) := by decide +kernel
theorem dX10_readGoers_53 : decode cX10_readGoers 53 = .ok (.istore 4, 2) := by decide +kernel
theorem dX10_readGoers_55 : decode cX10_readGoers 55 = .ok (.iload 4, 2) := by decide +kernel
theorem dX10_readGoers_57 : decode cX10_readGoers 57 = .ok (.ifCond .ge 5, 3) := by decide +kernel
theorem dX10_readGoers_60 : decode cX10_readGoers 60 = .ok (.iconst 0, 1) := by decide +kernel
theorem dX10_readGoers_61 : decode cX10_readGoers 61 = .ok (.ireturn, 1) := by decide +kernel
theorem dX10_readGoers_62 : decode cX10_readGoers 62 = .ok (.aload_n 0, 1) := by decide +kernel
theorem dX10_readGoers_63 : decode cX10_readGoers 63 = .ok (.iconst 0, 1) := by decide +kernel
theorem dX10_readGoers_64 : decode cX10_readGoers 64 = .ok (.bipush 30, 2) := by decide +kernel
theorem dX10_readGoers_66 : decode cX10_readGoers 66 = .ok (.bipush 59, 2) := by decide +kernel
theorem dX10_readGoers_68 : decode cX10_readGoers 68 = .ok (.invokevirtual 42, 3) := by decide +kernel
theorem dX10_readGoers_71 : decode cX10_readGoers 71 = .ok (.istore 5, 2) := by decide +kernel
theorem dX10_readGoers_73 : decode cX10_readGoers 73 = .ok (.iload 5, 2) := by decide +kernel
theorem dX10_readGoers_75 : decode cX10_readGoers 75 = .ok (.ifCond .ge 5, 3) := by decide +kernel
theorem dX10_readGoers_78 : decode cX10_readGoers 78 = .ok (.iconst 0, 1) := by decide +kernel
theorem dX10_readGoers_79 : decode cX10_readGoers 79 = .ok (.ireturn, 1) := by decide +kernel
theorem dX10_readGoers_80 : decode cX10_readGoers 80 = .ok (.aload_n 1, 1) := by decide +kernel
theorem dX10_readGoers_81 : decode cX10_readGoers 81 = .ok (.iload_n 3, 1) := by decide +kernel
theorem dX10_readGoers_82 : decode cX10_readGoers 82 = .ok (.iload 4, 2) := by decide +kernel
theorem dX10_readGoers_84 : decode cX10_readGoers 84 = .ok (.iload 5, 2) := by decide +kernel
theorem dX10_readGoers_86 : decode cX10_readGoers 86 = .ok (.invokevirtual 69, 3) := by decide +kernel
theorem dX10_readGoers_89 : decode cX10_readGoers 89 = .ok (.iinc 2 1, 3) := by decide +kernel
theorem dX10_readGoers_92 : decode cX10_readGoers 92 = .ok (.goto (-90), 3) := by decide +kernel
theorem dX10_readGoers_95 : decode cX10_readGoers 95 = .ok (.aload_n 0, 1) := by decide +kernel
theorem dX10_readGoers_96 : decode cX10_readGoers 96 = .ok (.getfield 58, 3) := by decide +kernel
theorem dX10_readGoers_99 : decode cX10_readGoers 99 = .ok (.iconst (-1), 1) := by decide +kernel
theorem dX10_readGoers_100 : decode cX10_readGoers 100 = .ok (.if_icmp .eq 25, 3) := by decide +kernel
theorem dX10_readGoers_103 : decode cX10_readGoers 103 = .ok (.aload_n 0, 1) := by decide +kernel
theorem dX10_readGoers_104 : decode cX10_readGoers 104 = .ok (.aload_n 0, 1) := by decide +kernel
theorem dX10_readGoers_105 : decode cX10_readGoers 105 = .ok (.getfield 58, 3) := by decide +kernel
theorem dX10_readGoers_108 : decode cX10_readGoers 108 = .ok (.invokestatic 65, 3) := by decide +kernel
theorem dX10_readGoers_111 : decode cX10_readGoers 111 = .ok (.ifCond .ne 7, 3) := by decide +kernel
theorem dX10_readGoers_114 : decode cX10_readGoers 114 = .ok (.iconst 1, 1) := by decide +kernel
theorem dX10_readGoers_115 : decode cX10_readGoers 115 = .ok (.goto 4, 3) := by decide +kernel
theorem dX10_readGoers_118 : decode cX10_readGoers 118 = .ok (.iconst 3, 1) := by decide +kernel
theorem dX10_readGoers_119 : decode cX10_readGoers 119 = .ok (.invokevirtual 61, 3) := by decide +kernel
theorem dX10_readGoers_122 : decode cX10_readGoers 122 = .ok (.ifCond .eq 7, 3) := by decide +kernel
theorem dX10_readGoers_125 : decode cX10_readGoers 125 = .ok (.iconst 1, 1) := by decide +kernel
theorem dX10_readGoers_126 : decode cX10_readGoers 126 = .ok (.goto 4, 3) := by decide +kernel
theorem dX10_readGoers_129 : decode cX10_readGoers 129 = .ok (.iconst 0, 1) := by decide +kernel
theorem dX10_readGoers_130 : decode cX10_readGoers 130 = .ok (.ireturn, 1) := by decide +kernel
theorem dX10_kindOf_0 : decode cX10_kindOf 0 = .ok (.iload_n 0, 1) := by decide +kernel
theorem dX10_kindOf_1 : decode cX10_kindOf 1 = .ok (.tableswitch 61 99 107 #[51, 53, 61, 57, 59, 61, 61, 61, 55], 51) := by decide +kernel
theorem dX10_kindOf_52 : decode cX10_kindOf 52 = .ok (.iconst 1, 1) := by decide +kernel
theorem dX10_kindOf_53 : decode cX10_kindOf 53 = .ok (.ireturn, 1) := by decide +kernel
theorem dX10_kindOf_54 : decode cX10_kindOf 54 = .ok (.iconst 2, 1) := by decide +kernel
theorem dX10_kindOf_55 : decode cX10_kindOf 55 = .ok (.ireturn, 1) := by decide +kernel
theorem dX10_kindOf_56 : decode cX10_kindOf 56 = .ok (.iconst 3, 1) := by decide +kernel
theorem dX10_kindOf_57 : decode cX10_kindOf 57 = .ok (.ireturn, 1) := by decide +kernel
theorem dX10_kindOf_58 : decode cX10_kindOf 58 = .ok (.iconst 4, 1) := by decide +kernel
theorem dX10_kindOf_59 : decode cX10_kindOf 59 = .ok (.ireturn, 1) := by decide +kernel
theorem dX10_kindOf_60 : decode cX10_kindOf 60 = .ok (.iconst 5, 1) := by decide +kernel
theorem dX10_kindOf_61 : decode cX10_kindOf 61 = .ok (.ireturn, 1) := by decide +kernel
theorem dX10_kindOf_62 : decode cX10_kindOf 62 = .ok (.iconst 0, 1) := by decide +kernel
theorem dX10_kindOf_63 : decode cX10_kindOf 63 = .ok (.ireturn, 1) := by decide +kernel
theorem dX10_numberThen_0 : decode cX10_numberThen 0 = .ok (.aload_n 0, 1) := by decide +kernel
theorem dX10_numberThen_1 : decode cX10_numberThen 1 = .ok (.getfield 58, 3) := by decide +kernel
theorem dX10_numberThen_4 : decode cX10_numberThen 4 = .ok (.bipush (-2), 2) := by decide +kernel
theorem dX10_numberThen_6 : decode cX10_numberThen 6 = .ok (.if_icmp .eq 11, 3) := by decide +kernel
theorem dX10_numberThen_9 : decode cX10_numberThen 9 = .ok (.aload_n 0, 1) := by decide +kernel
theorem dX10_numberThen_10 : decode cX10_numberThen 10 = .ok (.iconst 1, 1) := by decide +kernel
theorem dX10_numberThen_11 : decode cX10_numberThen 11 = .ok (.invokevirtual 61, 3) := by decide +kernel
theorem dX10_numberThen_14 : decode cX10_numberThen 14 = .ok (.pop, 1) := by decide +kernel
theorem dX10_numberThen_15 : decode cX10_numberThen 15 = .ok (.iconst (-1), 1) := by decide +kernel
theorem dX10_numberThen_16 : decode cX10_numberThen 16 = .ok (.ireturn, 1) := by decide +kernel
theorem dX10_numberThen_17 : decode cX10_numberThen 17 = .ok (.aload_n 0, 1) := by decide +kernel
theorem dX10_numberThen_18 : decode cX10_numberThen 18 = .ok (.getfield 73, 3) := by decide +kernel
theorem dX10_numberThen_21 : decode cX10_numberThen 21 = .ok (.iload_n 1, 1) := by decide +kernel
theorem dX10_numberThen_22 : decode cX10_numberThen 22 = .ok (.iload_n 2, 1) := by decide +kernel
theorem dX10_numberThen_23 : decode cX10_numberThen 23 = .ok (.invokestatic 76, 3) := by decide +kernel
theorem dX10_numberThen_26 : decode cX10_numberThen 26 = .ok (.ifCond .ne 11, 3) := by decide +kernel
theorem dX10_numberThen_29 : decode cX10_numberThen 29 = .ok (.aload_n 0, 1) := by decide +kernel
theorem dX10_numberThen_30 : decode cX10_numberThen 30 = .ok (.iconst 2, 1) := by decide +kernel
theorem dX10_numberThen_31 : decode cX10_numberThen 31 = .ok (.invokevirtual 61, 3) := by decide +kernel
theorem dX10_numberThen_34 : decode cX10_numberThen 34 = .ok (.pop, 1) := by decide +kernel
theorem dX10_numberThen_35 : decode cX10_numberThen 35 = .ok (.iconst (-1), 1) := by decide +kernel
theorem dX10_numberThen_36 : decode cX10_numberThen 36 = .ok (.ireturn, 1) := by decide +kernel
theorem dX10_numberThen_37 : decode cX10_numberThen 37 = .ok (.aload_n 0, 1) := by decide +kernel
theorem dX10_numberThen_38 : decode cX10_numberThen 38 = .ok (.getfield 73, 3) := by decide +kernel
theorem dX10_numberThen_41 : decode cX10_numberThen 41 = .ok (.istore 4, 2) := by decide +kernel
theorem dX10_numberThen_43 : decode cX10_numberThen 43 = .ok (.aload_n 0, 1) := by decide +kernel
theorem dX10_numberThen_44 : decode cX10_numberThen 44 = .ok (.invokevirtual 25, 3) := by decide +kernel
theorem dX10_numberThen_47 : decode cX10_numberThen 47 = .ok (.aload_n 0, 1) := by decide +kernel
theorem dX10_numberThen_48 : decode cX10_numberThen 48 = .ok (.iload_n 3, 1) := by decide +kernel
theorem dX10_numberThen_49 : decode cX10_numberThen 49 = .ok (.invokevirtual 38, 3) := by decide +kernel
theorem dX10_numberThen_52 : decode cX10_numberThen 52 = .ok (.ifCond .eq 8, 3) := by decide +kernel
theorem dX10_numberThen_55 : decode cX10_numberThen 55 = .ok (.iload 4, 2) := by decide +kernel
theorem dX10_numberThen_57 : decode cX10_numberThen 57 = .ok (.goto 4, 3) := by decide +kernel
theorem dX10_numberThen_60 : decode cX10_numberThen 60 = .ok (.iconst (-1), 1) := by decide +kernel
theorem dX10_numberThen_61 : decode cX10_numberThen 61 = .ok (.ireturn, 1) := by decide +kernel
theorem dX10_pass_0 : decode cX10_pass 0 = .ok (.aload_n 0, 1) := by decide +kernel
theorem dX10_pass_1 : decode cX10_pass 1 = .ok (.getfield 58, 3) := by decide +kernel
theorem dX10_pass_4 : decode cX10_pass 4 = .ok (.iload_n 1, 1) := by decide +kernel
theorem dX10_pass_5 : decode cX10_pass 5 = .ok (.if_icmp .eq 9, 3) := by decide +kernel
theorem dX10_pass_8 : decode cX10_pass 8 = .ok (.aload_n 0, 1) := by decide +kernel
theorem dX10_pass_9 : decode cX10_pass 9 = .ok (.iconst 1, 1) := by decide +kernel
theorem dX10_pass_10 : decode cX10_pass 10 = .ok (.invokevirtual 61, 3) := by decide +kernel
theorem dX10_pass_13 : decode cX10_pass 13 = .ok (.ireturn, 1) := by decide +kernel
theorem dX10_pass_14 : decode cX10_pass 14 = .ok (.aload_n 0, 1) := by decide +kernel
theorem dX10_pass_15 : decode cX10_pass 15 = .ok (.invokevirtual 25, 3) := by decide +kernel
theorem dX10_pass_18 : decode cX10_pass 18 = .ok (.iconst 1, 1) := by decide +kernel
theorem dX10_pass_19 : decode cX10_pass 19 = .ok (.ireturn, 1) := by decide +kernel
theorem dX10_blame_0 : decode cX10_blame 0 = .ok (.aload_n 0, 1) := by decide +kernel
theorem dX10_blame_1 : decode cX10_blame 1 = .ok (.iload_n 1, 1) := by decide +kernel
theorem dX10_blame_2 : decode cX10_blame 2 = .ok (.putfield 80, 3) := by decide +kernel
theorem dX10_blame_5 : decode cX10_blame 5 = .ok (.iconst 0, 1) := by decide +kernel
theorem dX10_blame_6 : decode cX10_blame 6 = .ok (.ireturn, 1) := by decide +kernel
theorem dX10_next_0 : decode cX10_next 0 = .ok (.aload_n 0, 1) := by decide +kernel
theorem dX10_next_1 : decode cX10_next 1 = .ok (.dup, 1) := by decide +kernel
theorem dX10_next_2 : decode cX10_next 2 = .ok (.getfield 19, 3) := by decide +kernel
theorem dX10_next_5 : decode cX10_next 5 = .ok (.aload_n 0, 1) := by decide +kernel
theorem dX10_next_6 : decode cX10_next 6 = .ok (.getfield 22, 3) := by decide +kernel
theorem dX10_next_9 : decode cX10_next 9 = .ok (.iadd, 1) := by decide +kernel
theorem dX10_next_10 : decode cX10_next 10 = .ok (.putfield 19, 3) := by decide +kernel
theorem dX10_next_13 : decode cX10_next 13 = .ok (.aload_n 0, 1) := by decide +kernel
theorem dX10_next_14 : decode cX10_next 14 = .ok (.iconst 1, 1) := by decide +kernel
theorem dX10_next_15 : decode cX10_next 15 = .ok (.putfield 22, 3) := by decide +kernel
theorem dX10_next_18 : decode cX10_next 18 = .ok (.aload_n 0, 1) := by decide +kernel
theorem dX10_next_19 : decode cX10_next 19 = .ok (.getfield 19, 3) := by decide +kernel
theorem dX10_next_22 : decode cX10_next 22 = .ok (.aload_n 0, 1) := by decide +kernel
theorem dX10_next_23 : decode cX10_next 23 = .ok (.getfield 15, 3) := by decide +kernel
theorem dX10_next_26 : decode cX10_next 26 = .ok (.if_icmp .lt 16, 3) := by decide +kernel
theorem dX10_next_29 : decode cX10_next 29 = .ok (.aload_n 0, 1) := by decide +kernel
theorem dX10_next_30 : decode cX10_next 30 = .ok (.iconst (-1), 1) := by decide +kernel
theorem dX10_next_31 : decode cX10_next 31 = .ok (.putfield 58, 3) := by decide +kernel
theorem dX10_next_34 : decode cX10_next 34 = .ok (.aload_n 0, 1) := by decide +kernel
theorem dX10_next_35 : decode cX10_next 35 = .ok (.iconst 0, 1) := by decide +kernel
theorem dX10_next_36 : decode cX10_next 36 = .ok (.putfield 22, 3) := by decide +kernel
theorem dX10_next_39 : decode cX10_next 39 = .ok (.goto 38, 3) := by decide +kernel
theorem dX10_next_42 : decode cX10_next 42 = .ok (.aload_n 0, 1) := by decide +kernel
theorem dX10_next_43 : decode cX10_next 43 = .ok (.getfield 9, 3) := by decide +kernel
theorem dX10_next_46 : decode cX10_next 46 = .ok (.aload_n 0, 1) := by decide +kernel
theorem dX10_next_47 : decode cX10_next 47 = .ok (.getfield 19, 3) := by decide +kernel
theorem dX10_next_50 : decode cX10_next 50 = .ok (.iaload, 1) := by decide +kernel
theorem dX10_next_51 : decode cX10_next 51 = .ok (.invokestatic 83, 3) := by decide +kernel
theorem dX10_next_54 : decode cX10_next 54 = .ok (.ifCond .eq 10, 3) := by decide +kernel
theorem dX10_next_57 : decode cX10_next 57 = .ok (.aload_n 0, 1) := by decide +kernel
theorem dX10_next_58 : decode cX10_next 58 = .ok (.invokevirtual 86, 3) := by decide +kernel
theorem dX10_next_61 : decode cX10_next 61 = .ok (.goto 16, 3) := by decide +kernel
theorem dX10_next_64 : decode cX10_next 64 = .ok (.aload_n 0, 1) := by decide +kernel
theorem dX10_next_65 : decode cX10_next 65 = .ok (.aload_n 0, 1) := by decide +kernel
theorem dX10_next_66 : decode cX10_next 66 = .ok (.getfield 9, 3) := by decide +kernel
theorem dX10_next_69 : decode cX10_next 69 = .ok (.aload_n 0, 1) := by decide +kernel
theorem dX10_next_70 : decode cX10_next 70 = .ok (.getfield 19, 3) := by decide +kernel
theorem dX10_next_73 : decode cX10_next 73 = .ok (.iaload, 1) := by decide +kernel
theorem dX10_next_74 : decode cX10_next 74 = .ok (.putfield 58, 3) := by decide +kernel
theorem dX10_next_77 : decode cX10_next 77 = .ok (.return_, 1) := by decide +kernel
theorem dX10_readFigures_0 : decode cX10_readFigures 0 = .ok (.aload_n 0, 1) := by decide +kernel
theorem dX10_readFigures_1 : decode cX10_readFigures 1 = .ok (.getfield 19, 3) := by decide +kernel
theorem dX10_readFigures_4 : decode cX10_readFigures 4 = .ok (.istore_n 1, 1) := by decide +kernel
theorem dX10_readFigures_5 : decode cX10_readFigures 5 = .ok (.aload_n 0, 1) := by decide +kernel
theorem dX10_readFigures_6 : decode cX10_readFigures 6 = .ok (.iconst 0, 1) := by decide +kernel
theorem dX10_readFigures_7 : decode cX10_readFigures 7 = .ok (.putfield 73, 3) := by decide +kernel
theorem dX10_readFigures_10 : decode cX10_readFigures 10 = .ok (.iload_n 1, 1) := by decide +kernel
theorem dX10_readFigures_11 : decode cX10_readFigures 11 = .ok (.aload_n 0, 1) := by decide +kernel
theorem dX10_readFigures_12 : decode cX10_readFigures 12 = .ok (.getfield 15, 3) := by decide +kernel
theorem dX10_readFigures_15 : decode cX10_readFigures 15 = .ok (.if_icmp .ge 52, 3) := by decide +kernel
theorem dX10_readFigures_18 : decode cX10_readFigures 18 = .ok (.iload_n 1, 1) := by decide +kernel
theorem dX10_readFigures_19 : decode cX10_readFigures 19 = .ok (.aload_n 0, 1) := by decide +kernel
theorem dX10_readFigures_20 : decode cX10_readFigures 20 = .ok (.getfield 19, 3) := by decide +kernel
theorem dX10_readFigures_23 : decode cX10_readFigures 23 = .ok (.isub, 1) := by decide +kernel
theorem dX10_readFigures_24 : decode cX10_readFigures 24 = .ok (.iconst 2, 1) := by decide +kernel
theorem dX10_readFigures_25 : decode cX10_readFigures 25 = .ok (.if_icmp .gt 42, 3) := by decide +kernel
theorem dX10_readFigures_28 : decode cX10_readFigures 28 = .ok (.aload_n 0, 1) := by decide +kernel
theorem dX10_readFigures_29 : decode cX10_readFigures 29 = .ok (.getfield 9, 3) := by decide +kernel
theorem dX10_readFigures_32 : decode cX10_readFigures 32 = .ok (.iload_n 1, 1) := by decide +kernel
theorem dX10_readFigures_33 : decode cX10_readFigures 33 = .ok (.iaload, 1) := by decide +kernel
theorem dX10_readFigures_34 : decode cX10_readFigures 34 = .ok (.invokestatic 83, 3) := by decide +kernel
theorem dX10_readFigures_37 : decode cX10_readFigures 37 = .ok (.ifCond .eq 30, 3) := by decide +kernel
theorem dX10_readFigures_40 : decode cX10_readFigures 40 = .ok (.aload_n 0, 1) := by decide +kernel
theorem dX10_readFigures_41 : decode cX10_readFigures 41 = .ok (.aload_n 0, 1) := by decide +kernel
theorem dX10_readFigures_42 : decode cX10_readFigures 42 = .ok (.getfield 73, 3) := by decide +kernel
theorem dX10_readFigures_45 : decode cX10_readFigures 45 = .ok (.bipush 10, 2) := by decide +kernel
theorem dX10_readFigures_47 : decode cX10_readFigures 47 = .ok (.imul, 1) := by decide +kernel
theorem dX10_readFigures_48 : decode cX10_readFigures 48 = .ok (.aload_n 0, 1) := by decide +kernel
theorem dX10_readFigures_49 : decode cX10_readFigures 49 = .ok (.getfield 9, 3) := by decide +kernel
theorem dX10_readFigures_52 : decode cX10_readFigures 52 = .ok (.iload_n 1, 1) := by decide +kernel
theorem dX10_readFigures_53 : decode cX10_readFigures 53 = .ok (.iaload, 1) := by decide +kernel
theorem dX10_readFigures_54 : decode cX10_readFigures 54 = .ok (.iadd, 1) := by decide +kernel
theorem dX10_readFigures_55 : decode cX10_readFigures 55 = .ok (.bipush 48, 2) := by decide +kernel
theorem dX10_readFigures_57 : decode cX10_readFigures 57 = .ok (.isub, 1) := by decide +kernel
theorem dX10_readFigures_58 : decode cX10_readFigures 58 = .ok (.putfield 73, 3) := by decide +kernel
theorem dX10_readFigures_61 : decode cX10_readFigures 61 = .ok (.iinc 1 1, 3) := by decide +kernel
theorem dX10_readFigures_64 : decode cX10_readFigures 64 = .ok (.goto (-54), 3) := by decide +kernel
theorem dX10_readFigures_67 : decode cX10_readFigures 67 = .ok (.aload_n 0, 1) := by decide +kernel
theorem dX10_readFigures_68 : decode cX10_readFigures 68 = .ok (.iload_n 1, 1) := by decide +kernel
theorem dX10_readFigures_69 : decode cX10_readFigures 69 = .ok (.aload_n 0, 1) := by decide +kernel
theorem dX10_readFigures_70 : decode cX10_readFigures 70 = .ok (.getfield 19, 3) := by decide +kernel
theorem dX10_readFigures_73 : decode cX10_readFigures 73 = .ok (.isub, 1) := by decide +kernel
theorem dX10_readFigures_74 : decode cX10_readFigures 74 = .ok (.putfield 22, 3) := by decide +kernel
theorem dX10_readFigures_77 : decode cX10_readFigures 77 = .ok (.aload_n 0, 1) := by decide +kernel
theorem dX10_readFigures_78 : decode cX10_readFigures 78 = .ok (.aload_n 0, 1) := by decide +kernel
theorem dX10_readFigures_79 : decode cX10_readFigures 79 = .ok (.getfield 22, 3) := by decide +kernel
theorem dX10_readFigures_82 : decode cX10_readFigures 82 = .ok (.iconst 2, 1) := by decide +kernel
theorem dX10_readFigures_83 : decode cX10_readFigures 83 = .ok (.if_icmp .le 8, 3) := by decide +kernel
theorem dX10_readFigures_86 : decode cX10_readFigures 86 = .ok (.bipush (-3), 2) := by decide +kernel
theorem dX10_readFigures_88 : decode cX10_readFigures 88 = .ok (.goto 5, 3) := by decide +kernel
theorem dX10_readFigures_91 : decode cX10_readFigures 91 = .ok (.bipush (-2), 2) := by decide +kernel
theorem dX10_readFigures_93 : decode cX10_readFigures 93 = .ok (.putfield 58, 3) := by decide +kernel
theorem dX10_readFigures_96 : decode cX10_readFigures 96 = .ok (.return_, 1) := by decide +kernel
theorem dX10_isFigure_0 : decode cX10_isFigure 0 = .ok (.iload_n 0, 1) := by decide +kernel
theorem dX10_isFigure_1 : decode cX10_isFigure 1 = .ok (.bipush 48, 2) := by decide +kernel
theorem dX10_isFigure_3 : decode cX10_isFigure 3 = .ok (.if_icmp .lt 13, 3) := by decide +kernel
theorem dX10_isFigure_6 : decode cX10_isFigure 6 = .ok (.iload_n 0, 1) := by decide +kernel
theorem dX10_isFigure_7 : decode cX10_isFigure 7 = .ok (.bipush 57, 2) := by decide +kernel
theorem dX10_isFigure_9 : decode cX10_isFigure 9 = .ok (.if_icmp .gt 7, 3) := by decide +kernel
theorem dX10_isFigure_12 : decode cX10_isFigure 12 = .ok (.iconst 1, 1) := by decide +kernel
theorem dX10_isFigure_13 : decode cX10_isFigure 13 = .ok (.goto 4, 3) := by decide +kernel
theorem dX10_isFigure_16 : decode cX10_isFigure 16 = .ok (.iconst 0, 1) := by decide +kernel
theorem dX10_isFigure_17 : decode cX10_isFigure 17 = .ok (.ireturn, 1) := by decide +kernel
theorem dX11_init_0 : decode cX11_init 0 = .ok (.aload_n 0, 1) := by decide +kernel
theorem dX11_init_1 : decode cX11_init 1 = .ok (.invokespecial 1, 3) := by decide +kernel
theorem dX11_init_4 : decode cX11_init 4 = .ok (.aload_n 0, 1) := by decide +kernel
theorem dX11_init_5 : decode cX11_init 5 = .ok (.bipush 8, 2) := by decide +kernel
theorem dX11_init_7 : decode cX11_init 7 = .ok (.anewarray 9, 3) := by decide +kernel
theorem dX11_init_10 : decode cX11_init 10 = .ok (.putfield 11, 3) := by decide +kernel
theorem dX11_init_13 : decode cX11_init 13 = .ok (.aload_n 0, 1) := by decide +kernel
theorem dX11_init_14 : decode cX11_init 14 = .ok (.new 15, 3) := by decide +kernel
theorem dX11_init_17 : decode cX11_init 17 = .ok (.dup, 1) := by decide +kernel
theorem dX11_init_18 : decode cX11_init 18 = .ok (.invokespecial 17, 3) := by decide +kernel
theorem dX11_init_21 : decode cX11_init 21 = .ok (.putfield 18, 3) := by decide +kernel
theorem dX11_init_24 : decode cX11_init 24 = .ok (.aload_n 0, 1) := by decide +kernel
theorem dX11_init_25 : decode cX11_init 25 = .ok (.bipush 24, 2) := by decide +kernel
theorem dX11_init_27 : decode cX11_init 27 = .ok (.anewarray 22, 3) := by decide +kernel
theorem dX11_init_30 : decode cX11_init 30 = .ok (.putfield 24, 3) := by decide +kernel
theorem dX11_init_33 : decode cX11_init 33 = .ok (.aload_n 0, 1) := by decide +kernel
theorem dX11_init_34 : decode cX11_init 34 = .ok (.iconst 2, 1) := by decide +kernel
theorem dX11_init_35 : decode cX11_init 35 = .ok (.anewarray 22, 3) := by decide +kernel
theorem dX11_init_38 : decode cX11_init 38 = .ok (.putfield 28, 3) := by decide +kernel
theorem dX11_init_41 : decode cX11_init 41 = .ok (.aload_n 0, 1) := by decide +kernel
theorem dX11_init_42 : decode cX11_init 42 = .ok (.new 31, 3) := by decide +kernel
theorem dX11_init_45 : decode cX11_init 45 = .ok (.dup, 1) := by decide +kernel
theorem dX11_init_46 : decode cX11_init 46 = .ok (.invokespecial 33, 3) := by decide +kernel
theorem dX11_init_49 : decode cX11_init 49 = .ok (.putfield 34, 3) := by decide +kernel
theorem dX11_init_52 : decode cX11_init 52 = .ok (.bipush 6, 2) := by decide +kernel
theorem dX11_init_54 : decode cX11_init 54 = .ok (.anewarray 38, 3) := by decide +kernel
theorem dX11_init_57 : decode cX11_init 57 = .ok (.dup, 1) := by decide +kernel
theorem dX11_init_58 : decode cX11_init 58 = .ok (.iconst 0, 1) := by decide +kernel
theorem dX11_init_59 : decode cX11_init 59 = .ok (.aconst_null, 1) := by decide +kernel
theorem dX11_init_60 : decode cX11_init 60 = .ok (.aastore, 1) := by decide +kernel
theorem dX11_init_61 : decode cX11_init 61 = .ok (.dup, 1) := by decide +kernel
theorem dX11_init_62 : decode cX11_init 62 = .ok (.iconst 1, 1) := by decide +kernel
theorem dX11_init_63 : decode cX11_init 63 = .ok (.new 40, 3) := by decide +kernel
theorem dX11_init_66 : decode cX11_init 66 = .ok (.dup, 1) := by decide +kernel
theorem dX11_init_67 : decode cX11_init 67 = .ok (.invokespecial 42, 3) := by decide +kernel
theorem dX11_init_70 : decode cX11_init 70 = .ok (.aastore, 1) := by decide +kernel
theorem dX11_init_71 : decode cX11_init 71 = .ok (.dup, 1) := by decide +kernel
theorem dX11_init_72 : decode cX11_init 72 = .ok (.iconst 2, 1) := by decide +kernel
theorem dX11_init_73 : decode cX11_init 73 = .ok (.new 43, 3) := by decide +kernel
theorem dX11_init_76 : decode cX11_init 76 = .ok (.dup, 1) := by decide +kernel
theorem dX11_init_77 : decode cX11_init 77 = .ok (.invokespecial 45, 3) := by decide +kernel
theorem dX11_init_80 : decode cX11_init 80 = .ok (.aastore, 1) := by decide +kernel
theorem dX11_init_81 : decode cX11_init 81 = .ok (.dup, 1) := by decide +kernel
theorem dX11_init_82 : decode cX11_init 82 = .ok (.iconst 3, 1) := by decide +kernel
theorem dX11_init_83 : decode cX11_init 83 = .ok (.new 46, 3) := by decide +kernel
theorem dX11_init_86 : decode cX11_init 86 = .ok (.dup, 1) := by decide +kernel
theorem dX11_init_87 : decode cX11_init 87 = .ok (.invokespecial 48, 3) := by decide +kernel
theorem dX11_init_90 : decode cX11_init 90 = .ok (.aastore, 1) := by decide +kernel
theorem dX11_init_91 : decode cX11_init 91 = .ok (.dup, 1) := by decide +kernel
theorem dX11_init_92 : decode cX11_init 92 = .ok (.iconst 4, 1) := by decide +kernel
theorem dX11_init_93 : decode cX11_init 93 = .ok (.new 49, 3) := by decide +kernel
theorem dX11_init_96 : decode cX11_init 96 = .ok (.dup, 1) := by decide +kernel
theorem dX11_init_97 : decode cX11_init 97 = .ok (.invokespecial 51, 3) := by decide +kernel
theorem dX11_init_100 : decode cX11_init 100 = .ok (.aastore, 1) := by decide +kernel
theorem dX11_init_101 : decode cX11_init 101 = .ok (.dup, 1) := by decide +kernel
theorem dX11_init_102 : decode cX11_init 102 = .ok (.iconst 5, 1) := by decide +kernel
theorem dX11_init_103 : decode cX11_init 103 = .ok (.new 52, 3) := by decide +kernel
theorem dX11_init_106 : decode cX11_init 106 = .ok (.dup, 1) := by decide +kernel
theorem dX11_init_107 : decode cX11_init 107 = .ok (.invokespecial 54, 3) := by decide +kernel
theorem dX11_init_110 : decode cX11_init 110 = .ok (.aastore, 1) := by decide +kernel
theorem dX11_init_111 : decode cX11_init 111 = .ok (.astore_n 1, 1) := by decide +kernel
theorem dX11_init_112 : decode cX11_init 112 = .ok (.aload_n 0, 1) := by decide +kernel
theorem dX11_init_113 : decode cX11_init 113 = .ok (.new 22, 3) := by decide +kernel
theorem dX11_init_116 : decode cX11_init 116 = .ok (.dup, 1) := by decide +kernel
theorem dX11_init_117 : decode cX11_init 117 = .ok (.aload_n 1, 1) := by decide +kernel
theorem dX11_init_118 : decode cX11_init 118 = .ok (.invokespecial 55, 3) := by decide +kernel
theorem dX11_init_121 : decode cX11_init 121 = .ok (.putfield 58, 3) := by decide +kernel
theorem dX11_init_124 : decode cX11_init 124 = .ok (.aload_n 0, 1) := by decide +kernel
theorem dX11_init_125 : decode cX11_init 125 = .ok (.new 22, 3) := by decide +kernel
theorem dX11_init_128 : decode cX11_init 128 = .ok (.dup, 1) := by decide +kernel
theorem dX11_init_129 : decode cX11_init 129 = .ok (.aload_n 1, 1) := by decide +kernel
theorem dX11_init_130 : decode cX11_init 130 = .ok (.invokespecial 55, 3) := by decide +kernel
theorem dX11_init_133 : decode cX11_init 133 = .ok (.putfield 62, 3) := by decide +kernel
theorem dX11_init_136 : decode cX11_init 136 = .ok (.aload_n 0, 1) := by decide +kernel
theorem dX11_init_137 : decode cX11_init 137 = .ok (.new 65, 3) := by decide +kernel
theorem dX11_init_140 : decode cX11_init 140 = .ok (.dup, 1) := by decide +kernel
theorem dX11_init_141 : decode cX11_init 141 = .ok (.aload_n 1, 1) := by decide +kernel
theorem dX11_init_142 : decode cX11_init 142 = .ok (.invokespecial 67, 3) := by decide +kernel
theorem dX11_init_145 : decode cX11_init 145 = .ok (.putfield 68, 3) := by decide +kernel
theorem dX11_init_148 : decode cX11_init 148 = .ok (.iconst 0, 1) := by decide +kernel
theorem dX11_init_149 : decode cX11_init 149 = .ok (.istore_n 2, 1) := by decide +kernel
theorem dX11_init_150 : decode cX11_init 150 = .ok (.iload_n 2, 1) := by decide +kernel
theorem dX11_init_151 : decode cX11_init 151 = .ok (.bipush 8, 2) := by decide +kernel
theorem dX11_init_153 : decode cX11_init 153 = .ok (.if_icmp .ge 22, 3) := by decide +kernel
theorem dX11_init_156 : decode cX11_init 156 = .ok (.aload_n 0, 1) := by decide +kernel
theorem dX11_init_157 : decode cX11_init 157 = .ok (.getfield 11, 3) := by decide +kernel
theorem dX11_init_160 : decode cX11_init 160 = .ok (.iload_n 2, 1) := by decide +kernel
theorem dX11_init_161 : decode cX11_init 161 = .ok (.new 9, 3) := by decide +kernel
theorem dX11_init_164 : decode cX11_init 164 = .ok (.dup, 1) := by decide +kernel
theorem dX11_init_165 : decode cX11_init 165 = .ok (.invokespecial 72, 3) := by decide +kernel
theorem dX11_init_168 : decode cX11_init 168 = .ok (.aastore, 1) := by decide +kernel
theorem dX11_init_169 : decode cX11_init 169 = .ok (.iinc 2 1, 3) := by decide +kernel
theorem dX11_init_172 : decode cX11_init 172 = .ok (.goto (-22), 3) := by decide +kernel
theorem dX11_init_175 : decode cX11_init 175 = .ok (.iconst 0, 1) := by decide +kernel
theorem dX11_init_176 : decode cX11_init 176 = .ok (.istore_n 2, 1) := by decide +kernel
theorem dX11_init_177 : decode cX11_init 177 = .ok (.iload_n 2, 1) := by decide +kernel
theorem dX11_init_178 : decode cX11_init 178 = .ok (.bipush 24, 2) := by decide +kernel
theorem dX11_init_180 : decode cX11_init 180 = .ok (.if_icmp .ge 23, 3) := by decide +kernel
theorem dX11_init_183 : decode cX11_init 183 = .ok (.aload_n 0, 1) := by decide +kernel
theorem dX11_init_184 : decode cX11_init 184 = .ok (.getfield 24, 3) := by decide +kernel
theorem dX11_init_187 : decode cX11_init 187 = .ok (.iload_n 2, 1) := by decide +kernel
theorem dX11_init_188 : decode cX11_init 188 = .ok (.new 22, 3) := by decide +kernel
theorem dX11_init_191 : decode cX11_init 191 = .ok (.dup, 1) := by decide +kernel
theorem dX11_init_192 : decode cX11_init 192 = .ok (.aload_n 1, 1) := by decide +kernel
theorem dX11_init_193 : decode cX11_init 193 = .ok (.invokespecial 55, 3) := by decide +kernel
theorem dX11_init_196 : decode cX11_init 196 = .ok (.aastore, 1) := by decide +kernel
theorem dX11_init_197 : decode cX11_init 197 = .ok (.iinc 2 1, 3) := by decide +kernel
theorem dX11_init_200 : decode cX11_init 200 = .ok (.goto (-23), 3) := by decide +kernel
theorem dX11_init_203 : decode cX11_init 203 = .ok (.iconst 0, 1) := by decide +kernel
theorem dX11_init_204 : decode cX11_init 204 = .ok (.istore_n 2, 1) := by decide +kernel
theorem dX11_init_205 : decode cX11_init 205 = .ok (.iload_n 2, 1) := by decide +kernel
theorem dX11_init_206 : decode cX11_init 206 = .ok (.iconst 2, 1) := by decide +kernel
theorem dX11_init_207 : decode cX11_init 207 = .ok (.if_icmp .ge 23, 3) := by decide +kernel
theorem dX11_init_210 : decode cX11_init 210 = .ok (.aload_n 0, 1) := by decide +kernel
theorem dX11_init_211 : decode cX11_init 211 = .ok (.getfield 28, 3) := by decide +kernel
theorem dX11_init_214 : decode cX11_init 214 = .ok (.iload_n 2, 1) := by decide +kernel
theorem dX11_init_215 : decode cX11_init 215 = .ok (.new 22, 3) := by decide +kernel
theorem dX11_init_218 : decode cX11_init 218 = .ok (.dup, 1) := by decide +kernel
theorem dX11_init_219 : decode cX11_init 219 = .ok (.aload_n 1, 1) := by decide +kernel
theorem dX11_init_220 : decode cX11_init 220 = .ok (.invokespecial 55, 3) := by decide +kernel
theorem dX11_init_223 : decode cX11_init 223 = .ok (.aastore, 1) := by decide +kernel
theorem dX11_init_224 : decode cX11_init 224 = .ok (.iinc 2 1, 3) := by decide +kernel
theorem dX11_init_227 : decode cX11_init 227 = .ok (.goto (-22), 3) := by decide +kernel
theorem dX11_init_230 : decode cX11_init 230 = .ok (.return_, 1) := by decide +kernel
theorem dX11_row_0 : decode cX11_row 0 = .ok (.iload_n 1, 1) := by decide +kernel
theorem dX11_row_1 : decode cX11_row 1 = .ok (.invokestatic 73, 3) := by decide +kernel
theorem dX11_row_4 : decode cX11_row 4 = .ok (.ifCond .eq 18, 3) := by decide +kernel
theorem dX11_row_7 : decode cX11_row 7 = .ok (.iload_n 2, 1) := by decide +kernel
theorem dX11_row_8 : decode cX11_row 8 = .ok (.iconst 0, 1) := by decide +kernel
theorem dX11_row_9 : decode cX11_row 9 = .ok (.iconst 2, 1) := by decide +kernel
theorem dX11_row_10 : decode cX11_row 10 = .ok (.invokestatic 77, 3) := by decide +kernel
theorem dX11_row_13 : decode cX11_row 13 = .ok (.ifCond .eq 9, 3) := by decide +kernel
theorem dX11_row_16 : decode cX11_row 16 = .ok (.iload_n 3, 1) := by decide +kernel
theorem dX11_row_17 : decode cX11_row 17 = .ok (.bipush 40, 2) := by decide +kernel
theorem dX11_row_19 : decode cX11_row 19 = .ok (.if_icmp .le 6, 3) := by decide +kernel
theorem dX11_row_22 : decode cX11_row 22 = .ok (.ldc 81, 2) := by decide +kernel
theorem dX11_row_24 : decode cX11_row 24 = .ok (.ireturn, 1) := by decide +kernel
theorem dX11_row_25 : decode cX11_row 25 = .ok (.iload_n 3, 1) := by decide +kernel
theorem dX11_row_26 : decode cX11_row 26 = .ok (.ifCond .ge 9, 3) := by decide +kernel
theorem dX11_row_29 : decode cX11_row 29 = .ok (.aload_n 0, 1) := by decide +kernel
theorem dX11_row_30 : decode cX11_row 30 = .ok (.iconst 4, 1) := by decide +kernel
theorem dX11_row_31 : decode cX11_row 31 = .ok (.invokevirtual 82, 3) := by decide +kernel
theorem dX11_row_34 : decode cX11_row 34 = .ok (.ireturn, 1) := by decide +kernel
theorem dX11_row_35 : decode cX11_row 35 = .ok (.aload_n 0, 1) := by decide +kernel
theorem dX11_row_36 : decode cX11_row 36 = .ok (.getfield 11, 3) := by decide +kernel
theorem dX11_row_39 : decode cX11_row 39 = .ok (.iload_n 1, 1) := by decide +kernel
theorem dX11_row_40 : decode cX11_row 40 = .ok (.aaload, 1) := by decide +kernel
theorem dX11_row_41 : decode cX11_row 41 = .ok (.iload_n 2, 1) := by decide +kernel
theorem dX11_row_42 : decode cX11_row 42 = .ok (.iload_n 3, 1) := by decide +kernel
theorem dX11_row_43 : decode cX11_row 43 = .ok (.invokevirtual 86, 3) := by decide +kernel
theorem dX11_row_46 : decode cX11_row 46 = .ok (.aload_n 0, 1) := by decide +kernel
theorem dX11_row_47 : decode cX11_row 47 = .ok (.iload_n 3, 1) := by decide +kernel
theorem dX11_row_48 : decode cX11_row 48 = .ok (.invokevirtual 90, 3) := by decide +kernel
theorem dX11_row_51 : decode cX11_row 51 = .ok (.ireturn, 1) := by decide +kernel
theorem dX11_set_0 : decode cX11_set 0 = .ok (.iload_n 1, 1) := by decide +kernel
theorem dX11_set_1 : decode cX11_set 1 = .ok (.invokestatic 73, 3) := by decide +kernel
theorem dX11_set_4 : decode cX11_set 4 = .ok (.ifCond .ne 6, 3) := by decide +kernel
theorem dX11_set_7 : decode cX11_set 7 = .ok (.ldc 81, 2) := by decide +kernel
theorem dX11_set_9 : decode cX11_set 9 = .ok (.ireturn, 1) := by decide +kernel
theorem dX11_set_10 : decode cX11_set 10 = .ok (.aload_n 0, 1) := by decide +kernel
theorem dX11_set_11 : decode cX11_set 11 = .ok (.getfield 11, 3) := by decide +kernel
theorem dX11_set_14 : decode cX11_set 14 = .ok (.iload_n 1, 1) := by decide +kernel
theorem dX11_set_15 : decode cX11_set 15 = .ok (.aaload, 1) := by decide +kernel
theorem dX11_set_16 : decode cX11_set 16 = .ok (.astore 4, 2) := by decide +kernel
theorem dX11_set_18 : decode cX11_set 18 = .ok (.aload 4, 2) := by decide +kernel
theorem dX11_set_20 : decode cX11_set 20 = .ok (.invokevirtual 93, 3) := by decide +kernel
theorem dX11_set_23 : decode cX11_set 23 = .ok (.ifCond .eq 9, 3) := by decide +kernel
theorem dX11_set_26 : decode cX11_set 26 = .ok (.aload_n 0, 1) := by decide +kernel
theorem dX11_set_27 : decode cX11_set 27 = .ok (.iconst 1, 1) := by decide +kernel
theorem dX11_set_28 : decode cX11_set 28 = .ok (.invokevirtual 82, 3) := by decide +kernel
theorem dX11_set_31 : decode cX11_set 31 = .ok (.ireturn, 1) := by decide +kernel
theorem dX11_set_32 : decode cX11_set 32 = .ok (.aload 4, 2) := by decide +kernel
theorem dX11_set_34 : decode cX11_set 34 = .ok (.iload_n 2, 1) := by decide +kernel
theorem dX11_set_35 : decode cX11_set 35 = .ok (.iconst 1, 1) := by decide +kernel
theorem dX11_set_36 : decode cX11_set 36 = .ok (.invokevirtual 97, 3) := by decide +kernel
theorem dX11_set_39 : decode cX11_set 39 = .ok (.ifCond .ne 9, 3) := by decide +kernel
theorem dX11_set_42 : decode cX11_set 42 = .ok (.aload_n 0, 1) := by decide +kernel
theorem dX11_set_43 : decode cX11_set 43 = .ok (.iconst 2, 1) := by decide +kernel
theorem dX11_set_44 : decode cX11_set 44 = .ok (.invokevirtual 82, 3) := by decide +kernel
theorem dX11_set_47 : decode cX11_set 47 = .ok (.ireturn, 1) := by decide +kernel
theorem dX11_set_48 : decode cX11_set 48 = .ok (.aload_n 0, 1) := by decide +kernel
theorem dX11_set_49 : decode cX11_set 49 = .ok (.aload 4, 2) := by decide +kernel
theorem dX11_set_51 : decode cX11_set 51 = .ok (.iload_n 2, 1) := by decide +kernel
theorem dX11_set_52 : decode cX11_set 52 = .ok (.iload_n 3, 1) := by decide +kernel
theorem dX11_set_53 : decode cX11_set 53 = .ok (.invokevirtual 101, 3) := by decide +kernel
theorem dX11_set_56 : decode cX11_set 56 = .ok (.invokevirtual 90, 3) := by decide +kernel
theorem dX11_set_59 : decode cX11_set 59 = .ok (.ireturn, 1) := by decide +kernel
theorem dX11_copy_0 : decode cX11_copy 0 = .ok (.iload_n 1, 1) := by decide +kernel
theorem dX11_copy_1 : decode cX11_copy 1 = .ok (.invokestatic 73, 3) := by decide +kernel
theorem dX11_copy_4 : decode cX11_copy 4 = .ok (.ifCond .eq 10, 3) := by decide +kernel
theorem dX11_copy_7 : decode cX11_copy 7 = .ok (.iload_n 3, 1) := by decide +kernel
theorem dX11_copy_8 : decode cX11_copy 8 = .ok (.invokestatic 73, 3) := by decide +kernel
theorem dX11_copy_11 : decode cX11_copy 11 = .ok (.ifCond .ne 6, 3) := by decide +kernel
theorem dX11_copy_14 : decode cX11_copy 14 = .ok (.ldc 81, 2) := by decide +kernel
theorem dX11_copy_16 : decode cX11_copy 16 = .ok (.ireturn, 1) := by decide +kernel
theorem dX11_copy_17 : decode cX11_copy 17 = .ok (.aload_n 0, 1) := by decide +kernel
theorem dX11_copy_18 : decode cX11_copy 18 = .ok (.getfield 11, 3) := by decide +kernel
theorem dX11_copy_21 : decode cX11_copy 21 = .ok (.iload_n 1, 1) := by decide +kernel
theorem dX11_copy_22 : decode cX11_copy 22 = .ok (.aaload, 1) := by decide +kernel
theorem dX11_copy_23 : decode cX11_copy 23 = .ok (.astore 6, 2) := by decide +kernel
theorem dX11_copy_25 : decode cX11_copy 25 = .ok (.aload_n 0, 1) := by decide +kernel
theorem dX11_copy_26 : decode cX11_copy 26 = .ok (.getfield 11, 3) := by decide +kernel
theorem dX11_copy_29 : decode cX11_copy 29 = .ok (.iload_n 3, 1) := by decide +kernel
theorem dX11_copy_30 : decode cX11_copy 30 = .ok (.aaload, 1) := by decide +kernel
theorem dX11_copy_31 : decode cX11_copy 31 = .ok (.astore 7, 2) := by decide +kernel
theorem dX11_copy_33 : decode cX11_copy 33 = .ok (.aload 6, 2) := by decide +kernel
theorem dX11_copy_35 : decode cX11_copy 35 = .ok (.invokevirtual 93, 3) := by decide +kernel
theorem dX11_copy_38 : decode cX11_copy 38 = .ok (.ifCond .ne 11, 3) := by decide +kernel
theorem dX11_copy_41 : decode cX11_copy 41 = .ok (.aload 7, 2) := by decide +kernel
theorem dX11_copy_43 : decode cX11_copy 43 = .ok (.invokevirtual 93, 3) := by decide +kernel
theorem dX11_copy_46 : decode cX11_copy 46 = .ok (.ifCond .eq 9, 3) := by decide +kernel
theorem dX11_copy_49 : decode cX11_copy 49 = .ok (.aload_n 0, 1) := by decide +kernel
theorem dX11_copy_50 : decode cX11_copy 50 = .ok (.iconst 1, 1) := by decide +kernel
theorem dX11_copy_51 : decode cX11_copy 51 = .ok (.invokevirtual 82, 3) := by decide +kernel
theorem dX11_copy_54 : decode cX11_copy 54 = .ok (.ireturn, 1) := by decide +kernel
theorem dX11_copy_55 : decode cX11_copy 55 = .ok (.aload 6, 2) := by decide +kernel
theorem dX11_copy_57 : decode cX11_copy 57 = .ok (.getfield 105, 3) := by decide +kernel
theorem dX11_copy_60 : decode cX11_copy 60 = .ok (.aload 7, 2) := by decide +kernel
theorem dX11_copy_62 : decode cX11_copy 62 = .ok (.getfield 105, 3) := by decide +kernel
theorem dX11_copy_65 : decode cX11_copy 65 = .ok (.if_icmp .eq 9, 3) := by decide +kernel
theorem dX11_copy_68 : decode cX11_copy 68 = .ok (.aload_n 0, 1) := by decide +kernel
theorem dX11_copy_69 : decode cX11_copy 69 = .ok (.iconst 5, 1) := by decide +kernel
theorem dX11_copy_70 : decode cX11_copy 70 = .ok (.invokevirtual 82, 3) := by decide +kernel
theorem dX11_copy_73 : decode cX11_copy 73 = .ok (.ireturn, 1) := by decide +kernel
theorem dX11_copy_74 : decode cX11_copy 74 = .ok (.aload 6, 2) := by decide +kernel
theorem dX11_copy_76 : decode cX11_copy 76 = .ok (.iload_n 2, 1) := by decide +kernel
theorem dX11_copy_77 : decode cX11_copy 77 = .ok (.iload 5, 2) := by decide +kernel
theorem dX11_copy_79 : decode cX11_copy 79 = .ok (.invokevirtual 97, 3) := by decide +kernel
theorem dX11_copy_82 : decode cX11_copy 82 = .ok (.ifCond .eq 15, 3) := by decide +kernel
theorem dX11_copy_85 : decode cX11_copy 85 = .ok (.aload 7, 2) := by decide +kernel
theorem dX11_copy_87 : decode cX11_copy 87 = .ok (.iload 4, 2) := by decide +kernel
theorem dX11_copy_89 : decode cX11_copy 89 = .ok (.iload 5, 2) := by decide +kernel
theorem dX11_copy_91 : decode cX11_copy 91 = .ok (.invokevirtual 97, 3) := by decide +kernel
theorem dX11_copy_94 : decode cX11_copy 94 = .ok (.ifCond .ne 9, 3) := by decide +kernel
theorem dX11_copy_97 : decode cX11_copy 97 = .ok (.aload_n 0, 1) := by decide +kernel
theorem dX11_copy_98 : decode cX11_copy 98 = .ok (.iconst 2, 1) := by decide +kernel
theorem dX11_copy_99 : decode cX11_copy 99 = .ok (.invokevirtual 82, 3) := by decide +kernel
theorem dX11_copy_102 : decode cX11_copy 102 = .ok (.ireturn, 1) := by decide +kernel
theorem dX11_copy_103 : decode cX11_copy 103 = .ok (.aload 6, 2) := by decide +kernel
theorem dX11_copy_105 : decode cX11_copy 105 = .ok (.getfield 109, 3) := by decide +kernel
theorem dX11_copy_108 : decode cX11_copy 108 = .ok (.iload_n 2, 1) := by decide +kernel
theorem dX11_copy_109 : decode cX11_copy 109 = .ok (.aload 7, 2) := by decide +kernel
theorem dX11_copy_111 : decode cX11_copy 111 = .ok (.getfield 109, 3) := by decide +kernel
theorem dX11_copy_114 : decode cX11_copy 114 = .ok (.iload 4, 2) := by decide +kernel
theorem dX11_copy_116 : decode cX11_copy 116 = .ok (.iload 5, 2) := by decide +kernel
theorem dX11_copy_118 : decode cX11_copy 118 = .ok (.invokestatic 113, 3) := by decide +kernel
theorem dX11_copy_121 : decode cX11_copy 121 = .ok (.aload_n 0, 1) := by decide +kernel
theorem dX11_copy_122 : decode cX11_copy 122 = .ok (.iload 5, 2) := by decide +kernel
theorem dX11_copy_124 : decode cX11_copy 124 = .ok (.invokevirtual 90, 3) := by decide +kernel
theorem dX11_copy_127 : decode cX11_copy 127 = .ok (.ireturn, 1) := by decide +kernel
theorem dX11_drop_0 : decode cX11_drop 0 = .ok (.iload_n 1, 1) := by decide +kernel
theorem dX11_drop_1 : decode cX11_drop 1 = .ok (.invokestatic 73, 3) := by decide +kernel
theorem dX11_drop_4 : decode cX11_drop 4 = .ok (.ifCond .ne 6, 3) := by decide +kernel
theorem dX11_drop_7 : decode cX11_drop 7 = .ok (.ldc 81, 2) := by decide +kernel
theorem dX11_drop_9 : decode cX11_drop 9 = .ok (.ireturn, 1) := by decide +kernel
theorem dX11_drop_10 : decode cX11_drop 10 = .ok (.aload_n 0, 1) := by decide +kernel
theorem dX11_drop_11 : decode cX11_drop 11 = .ok (.getfield 11, 3) := by decide +kernel
theorem dX11_drop_14 : decode cX11_drop 14 = .ok (.iload_n 1, 1) := by decide +kernel
theorem dX11_drop_15 : decode cX11_drop 15 = .ok (.aaload, 1) := by decide +kernel
theorem dX11_drop_16 : decode cX11_drop 16 = .ok (.astore_n 2, 1) := by decide +kernel
theorem dX11_drop_17 : decode cX11_drop 17 = .ok (.aload_n 2, 1) := by decide +kernel
theorem dX11_drop_18 : decode cX11_drop 18 = .ok (.invokevirtual 93, 3) := by decide +kernel
theorem dX11_drop_21 : decode cX11_drop 21 = .ok (.ifCond .eq 9, 3) := by decide +kernel
theorem dX11_drop_24 : decode cX11_drop 24 = .ok (.aload_n 0, 1) := by decide +kernel
theorem dX11_drop_25 : decode cX11_drop 25 = .ok (.iconst 1, 1) := by decide +kernel
theorem dX11_drop_26 : decode cX11_drop 26 = .ok (.invokevirtual 82, 3) := by decide +kernel
theorem dX11_drop_29 : decode cX11_drop 29 = .ok (.ireturn, 1) := by decide +kernel
theorem dX11_drop_30 : decode cX11_drop 30 = .ok (.aload_n 2, 1) := by decide +kernel
theorem dX11_drop_31 : decode cX11_drop 31 = .ok (.getfield 119, 3) := by decide +kernel
theorem dX11_drop_34 : decode cX11_drop 34 = .ok (.istore_n 3, 1) := by decide +kernel
theorem dX11_drop_35 : decode cX11_drop 35 = .ok (.aload_n 2, 1) := by decide +kernel
theorem dX11_drop_36 : decode cX11_drop 36 = .ok (.invokevirtual 122, 3) := by decide +kernel
theorem dX11_drop_39 : decode cX11_drop 39 = .ok (.aload_n 0, 1) := by decide +kernel
theorem dX11_drop_40 : decode cX11_drop 40 = .ok (.iload_n 3, 1) := by decide +kernel
theorem dX11_drop_41 : decode cX11_drop 41 = .ok (.invokevirtual 90, 3) := by decide +kernel
theorem dX11_drop_44 : decode cX11_drop 44 = .ok (.ireturn, 1) := by decide +kernel
theorem dX11_feed_0 : decode cX11_feed 0 = .ok (.iload_n 1, 1) := by decide +kernel
theorem dX11_feed_1 : decode cX11_feed 1 = .ok (.iconst 0, 1) := by decide +kernel
theorem dX11_feed_2 : decode cX11_feed 2 = .ok (.sipush 255, 3) := by decide +kernel
theorem dX11_feed_5 : decode cX11_feed 5 = .ok (.invokestatic 77, 3) := by decide +kernel
theorem dX11_feed_8 : decode cX11_feed 8 = .ok (.ifCond .ne 6, 3) := by decide +kernel
theorem dX11_feed_11 : decode cX11_feed 11 = .ok (.ldc 81, 2) := by decide +kernel
theorem dX11_feed_13 : decode cX11_feed 13 = .ok (.ireturn, 1) := by decide +kernel
theorem dX11_feed_14 : decode cX11_feed 14 = .ok (.aload_n 0, 1) := by decide +kernel
theorem dX11_feed_15 : decode cX11_feed 15 = .ok (.getfield 18, 3) := by decide +kernel
theorem dX11_feed_18 : decode cX11_feed 18 = .ok (.getfield 125, 3) := by decide +kernel
theorem dX11_feed_21 : decode cX11_feed 21 = .ok (.bipush 100, 2) := by decide +kernel
theorem dX11_feed_23 : decode cX11_feed 23 = .ok (.if_icmp .lt 6, 3) := by decide +kernel
theorem dX11_feed_26 : decode cX11_feed 26 = .ok (.ldc 126, 2) := by decide +kernel
theorem dX11_feed_28 : decode cX11_feed 28 = .ok (.ireturn, 1) := by decide +kernel
theorem dX11_feed_29 : decode cX11_feed 29 = .ok (.aload_n 0, 1) := by decide +kernel
theorem dX11_feed_30 : decode cX11_feed 30 = .ok (.getfield 18, 3) := by decide +kernel
theorem dX11_feed_33 : decode cX11_feed 33 = .ok (.iload_n 1, 1) := by decide +kernel
theorem dX11_feed_34 : decode cX11_feed 34 = .ok (.invokevirtual 127, 3) := by decide +kernel
theorem dX11_feed_37 : decode cX11_feed 37 = .ok (.ireturn, 1) := by decide +kernel
theorem dX11_lake_0 : decode cX11_lake 0 = .ok (.aload_n 0, 1) := by decide +kernel
theorem dX11_lake_1 : decode cX11_lake 1 = .ok (.getfield 18, 3) := by decide +kernel
theorem dX11_lake_4 : decode cX11_lake 4 = .ok (.aload_n 0, 1) := by decide +kernel
theorem dX11_lake_5 : decode cX11_lake 5 = .ok (.getfield 62, 3) := by decide +kernel
theorem dX11_lake_8 : decode cX11_lake 8 = .ok (.invokevirtual 130, 3) := by decide +kernel
theorem dX11_lake_11 : decode cX11_lake 11 = .ok (.istore_n 1, 1) := by decide +kernel
theorem dX11_lake_12 : decode cX11_lake 12 = .ok (.aload_n 0, 1) := by decide +kernel
theorem dX11_lake_13 : decode cX11_lake 13 = .ok (.getfield 18, 3) := by decide +kernel
theorem dX11_lake_16 : decode cX11_lake 16 = .ok (.iconst 0, 1) := by decide +kernel
theorem dX11_lake_17 : decode cX11_lake 17 = .ok (.putfield 125, 3) := by decide +kernel
theorem dX11_lake_20 : decode cX11_lake 20 = .ok (.iload_n 1, 1) := by decide +kernel
theorem dX11_lake_21 : decode cX11_lake 21 = .ok (.ifCond .ne 25, 3) := by decide +kernel
theorem dX11_lake_24 : decode cX11_lake 24 = .ok (.aload_n 0, 1) := by decide +kernel
theorem dX11_lake_25 : decode cX11_lake 25 = .ok (.aload_n 0, 1) := by decide +kernel
theorem dX11_lake_26 : decode cX11_lake 26 = .ok (.getfield 18, 3) := by decide +kernel
theorem dX11_lake_29 : decode cX11_lake 29 = .ok (.getfield 134, 3) := by decide +kernel
theorem dX11_lake_32 : decode cX11_lake 32 = .ok (.putfield 137, 3) := by decide +kernel
theorem dX11_lake_35 : decode cX11_lake 35 = .ok (.ldc 140, 2) := by decide +kernel
theorem dX11_lake_37 : decode cX11_lake 37 = .ok (.aload_n 0, 1) := by decide +kernel
theorem dX11_lake_38 : decode cX11_lake 38 = .ok (.getfield 18, 3) := by decide +kernel
theorem dX11_lake_41 : decode cX11_lake 41 = .ok (.getfield 141, 3) := by decide +kernel
theorem dX11_lake_44 : decode cX11_lake 44 = .ok (.isub, 1) := by decide +kernel
theorem dX11_lake_45 : decode cX11_lake 45 = .ok (.ireturn, 1) := by decide +kernel
theorem dX11_lake_46 : decode cX11_lake 46 = .ok (.aload_n 0, 1) := by decide +kernel
theorem dX11_lake_47 : decode cX11_lake 47 = .ok (.aload_n 0, 1) := by decide +kernel
theorem dX11_lake_48 : decode cX11_lake 48 = .ok (.getfield 62, 3) := by decide +kernel
theorem dX11_lake_51 : decode cX11_lake 51 = .ok (.invokevirtual 144, 3) := by decide +kernel
theorem dX11_lake_54 : decode cX11_lake 54 = .ok (.aload_n 0, 1) := by decide +kernel
theorem dX11_lake_55 : decode cX11_lake 55 = .ok (.getfield 58, 3) := by decide +kernel
theorem dX11_lake_58 : decode cX11_lake 58 = .ok (.getfield 148, 3) := by decide +kernel
theorem dX11_lake_61 : decode cX11_lake 61 = .ok (.ireturn, 1) := by decide +kernel
theorem dX11_fault_0 : decode cX11_fault 0 = .ok (.aload_n 0, 1) := by decide +kernel
theorem dX11_fault_1 : decode cX11_fault 1 = .ok (.getfield 137, 3) := by decide +kernel
theorem dX11_fault_4 : decode cX11_fault 4 = .ok (.ireturn, 1) := by decide +kernel
theorem dX11_undo_0 : decode cX11_undo 0 = .ok (.aload_n 0, 1) := by decide +kernel
theorem dX11_undo_1 : decode cX11_undo 1 = .ok (.getfield 151, 3) := by decide +kernel
theorem dX11_undo_4 : decode cX11_undo 4 = .ok (.ifCond .gt 6, 3) := by decide +kernel
theorem dX11_undo_7 : decode cX11_undo 7 = .ok (.ldc 154, 2) := by decide +kernel
theorem dX11_undo_9 : decode cX11_undo 9 = .ok (.ireturn, 1) := by decide +kernel
theorem dX11_undo_10 : decode cX11_undo 10 = .ok (.aload_n 0, 1) := by decide +kernel
theorem dX11_undo_11 : decode cX11_undo 11 = .ok (.dup, 1) := by decide +kernel
theorem dX11_undo_12 : decode cX11_undo 12 = .ok (.getfield 151, 3) := by decide +kernel
theorem dX11_undo_15 : decode cX11_undo 15 = .ok (.iconst 1, 1) := by decide +kernel
theorem dX11_undo_16 : decode cX11_undo 16 = .ok (.isub, 1) := by decide +kernel
theorem dX11_undo_17 : decode cX11_undo 17 = .ok (.putfield 151, 3) := by decide +kernel
theorem dX11_undo_20 : decode cX11_undo 20 = .ok (.aload_n 0, 1) := by decide +kernel
theorem dX11_undo_21 : decode cX11_undo 21 = .ok (.getfield 58, 3) := by decide +kernel
theorem dX11_undo_24 : decode cX11_undo 24 = .ok (.aload_n 0, 1) := by decide +kernel
theorem dX11_undo_25 : decode cX11_undo 25 = .ok (.getfield 24, 3) := by decide +kernel
theorem dX11_undo_28 : decode cX11_undo 28 = .ok (.aload_n 0, 1) := by decide +kernel
theorem dX11_undo_29 : decode cX11_undo 29 = .ok (.getfield 155, 3) := by decide +kernel
theorem dX11_undo_32 : decode cX11_undo 32 = .ok (.aload_n 0, 1) := by decide +kernel
theorem dX11_undo_33 : decode cX11_undo 33 = .ok (.getfield 151, 3) := by decide +kernel
theorem dX11_undo_36 : decode cX11_undo 36 = .ok (.iadd, 1) := by decide +kernel
theorem dX11_undo_37 : decode cX11_undo 37 = .ok (.bipush 24, 2) := by decide +kernel
theorem dX11_undo_39 : decode cX11_undo 39 = .ok (.irem, 1) := by decide +kernel
theorem dX11_undo_40 : decode cX11_undo 40 = .ok (.aaload, 1) := by decide +kernel
theorem dX11_undo_41 : decode cX11_undo 41 = .ok (.invokevirtual 158, 3) := by decide +kernel
theorem dX11_undo_44 : decode cX11_undo 44 = .ok (.aload_n 0, 1) := by decide +kernel
theorem dX11_undo_45 : decode cX11_undo 45 = .ok (.getfield 151, 3) := by decide +kernel
theorem dX11_undo_48 : decode cX11_undo 48 = .ok (.ireturn, 1) := by decide +kernel
theorem dX11_hours_0 : decode cX11_hours 0 = .ok (.aload_n 0, 1) := by decide +kernel
theorem dX11_hours_1 : decode cX11_hours 1 = .ok (.invokevirtual 161, 3) := by decide +kernel
theorem dX11_hours_4 : decode cX11_hours 4 = .ok (.ifCond .eq 6, 3) := by decide +kernel
theorem dX11_hours_7 : decode cX11_hours 7 = .ok (.ldc 154, 2) := by decide +kernel
theorem dX11_hours_9 : decode cX11_hours 9 = .ok (.ireturn, 1) := by decide +kernel
theorem dX11_hours_10 : decode cX11_hours 10 = .ok (.iload_n 1, 1) := by decide +kernel
theorem dX11_hours_11 : decode cX11_hours 11 = .ok (.iconst 1, 1) := by decide +kernel
theorem dX11_hours_12 : decode cX11_hours 12 = .ok (.bipush 24, 2) := by decide +kernel
theorem dX11_hours_14 : decode cX11_hours 14 = .ok (.invokestatic 77, 3) := by decide +kernel
theorem dX11_hours_17 : decode cX11_hours 17 = .ok (.ifCond .ne 6, 3) := by decide +kernel
theorem dX11_hours_20 : decode cX11_hours 20 = .ok (.ldc 81, 2) := by decide +kernel
theorem dX11_hours_22 : decode cX11_hours 22 = .ok (.ireturn, 1) := by decide +kernel
theorem dX11_hours_23 : decode cX11_hours 23 = .ok (.aload_n 0, 1) := by decide +kernel
theorem dX11_hours_24 : decode cX11_hours 24 = .ok (.getfield 58, 3) := by decide +kernel
theorem dX11_hours_27 : decode cX11_hours 27 = .ok (.getfield 164, 3) := by decide +kernel
theorem dX11_hours_30 : decode cX11_hours 30 = .ok (.iload_n 1, 1) := by decide +kernel
theorem dX11_hours_31 : decode cX11_hours 31 = .ok (.iadd, 1) := by decide +kernel
theorem dX11_hours_32 : decode cX11_hours 32 = .ok (.sipush 999, 3) := by decide +kernel
theorem dX11_hours_35 : decode cX11_hours 35 = .ok (.if_icmp .le 6, 3) := by decide +kernel
theorem dX11_hours_38 : decode cX11_hours 38 = .ok (.ldc 126, 2) := by decide +kernel
theorem dX11_hours_40 : decode cX11_hours 40 = .ok (.ireturn, 1) := by decide +kernel
theorem dX11_hours_41 : decode cX11_hours 41 = .ok (.iconst 0, 1) := by decide +kernel
theorem dX11_hours_42 : decode cX11_hours 42 = .ok (.istore_n 2, 1) := by decide +kernel
theorem dX11_hours_43 : decode cX11_hours 43 = .ok (.iload_n 2, 1) := by decide +kernel
theorem dX11_hours_44 : decode cX11_hours 44 = .ok (.iload_n 1, 1) := by decide +kernel
theorem dX11_hours_45 : decode cX11_hours 45 = .ok (.if_icmp .ge 20, 3) := by decide +kernel
theorem dX11_hours_48 : decode cX11_hours 48 = .ok (.aload_n 0, 1) := by decide +kernel
theorem dX11_hours_49 : decode cX11_hours 49 = .ok (.invokevirtual 167, 3) := by decide +kernel
theorem dX11_hours_52 : decode cX11_hours 52 = .ok (.aload_n 0, 1) := by decide +kernel
theorem dX11_hours_53 : decode cX11_hours 53 = .ok (.getfield 58, 3) := by decide +kernel
theorem dX11_hours_56 : decode cX11_hours 56 = .ok (.invokevirtual 170, 3) := by decide +kernel
theorem dX11_hours_59 : decode cX11_hours 59 = .ok (.iinc 2 1, 3) := by decide +kernel
theorem dX11_hours_62 : decode cX11_hours 62 = .ok (.goto (-19), 3) := by decide +kernel
theorem dX11_hours_65 : decode cX11_hours 65 = .ok (.aload_n 0, 1) := by decide +kernel
theorem dX11_hours_66 : decode cX11_hours 66 = .ok (.getfield 58, 3) := by decide +kernel
theorem dX11_hours_69 : decode cX11_hours 69 = .ok (.aload_n 0, 1) := by decide +kernel
theorem dX11_hours_70 : decode cX11_hours 70 = .ok (.getfield 58, 3) := by decide +kernel
theorem dX11_hours_73 : decode cX11_hours 73 = .ok (.invokevirtual 173, 3) := by decide +kernel
theorem dX11_hours_76 : decode cX11_hours 76 = .ok (.invokevirtual 177, 3) := by decide +kernel
theorem dX11_hours_79 : decode cX11_hours 79 = .ok (.ireturn, 1) := by decide +kernel
theorem dX11_begin_0 : decode cX11_begin 0 = .ok (.aload_n 0, 1) := by decide +kernel
theorem dX11_begin_1 : decode cX11_begin 1 = .ok (.iload_n 1, 1) := by decide +kernel
theorem dX11_begin_2 : decode cX11_begin 2 = .ok (.invokevirtual 180, 3) := by decide +kernel
theorem dX11_begin_5 : decode cX11_begin 5 = .ok (.ifCond .eq 13, 3) := by decide +kernel
theorem dX11_begin_8 : decode cX11_begin 8 = .ok (.iload_n 2, 1) := by decide +kernel
theorem dX11_begin_9 : decode cX11_begin 9 = .ok (.iconst 0, 1) := by decide +kernel
theorem dX11_begin_10 : decode cX11_begin 10 = .ok (.bipush 30, 2) := by decide +kernel
theorem dX11_begin_12 : decode cX11_begin 12 = .ok (.invokestatic 77, 3) := by decide +kernel
theorem dX11_begin_15 : decode cX11_begin 15 = .ok (.ifCond .ne 6, 3) := by decide +kernel
theorem dX11_begin_18 : decode cX11_begin 18 = .ok (.ldc 81, 2) := by decide +kernel
theorem dX11_begin_20 : decode cX11_begin 20 = .ok (.ireturn, 1) := by decide +kernel
theorem dX11_begin_21 : decode cX11_begin 21 = .ok (.aload_n 0, 1) := by decide +kernel
theorem dX11_begin_22 : decode cX11_begin 22 = .ok (.getfield 58, 3) := by decide +kernel
theorem dX11_begin_25 : decode cX11_begin 25 = .ok (.getfield 183, 3) := by decide +kernel
theorem dX11_begin_28 : decode cX11_begin 28 = .ok (.iload_n 1, 1) := by decide +kernel
theorem dX11_begin_29 : decode cX11_begin 29 = .ok (.iaload, 1) := by decide +kernel
theorem dX11_begin_30 : decode cX11_begin 30 = .ok (.istore_n 3, 1) := by decide +kernel
theorem dX11_begin_31 : decode cX11_begin 31 = .ok (.aload_n 0, 1) := by decide +kernel
theorem dX11_begin_32 : decode cX11_begin 32 = .ok (.invokevirtual 167, 3) := by decide +kernel
theorem dX11_begin_35 : decode cX11_begin 35 = .ok (.aload_n 0, 1) := by decide +kernel
theorem dX11_begin_36 : decode cX11_begin 36 = .ok (.getfield 58, 3) := by decide +kernel
theorem dX11_begin_39 : decode cX11_begin 39 = .ok (.getfield 183, 3) := by decide +kernel
theorem dX11_begin_42 : decode cX11_begin 42 = .ok (.iload_n 1, 1) := by decide +kernel
theorem dX11_begin_43 : decode cX11_begin 43 = .ok (.iload_n 2, 1) := by decide +kernel
theorem dX11_begin_44 : decode cX11_begin 44 = .ok (.iastore, 1) := by decide +kernel
theorem dX11_begin_45 : decode cX11_begin 45 = .ok (.iload_n 3, 1) := by decide +kernel
theorem dX11_begin_46 : decode cX11_begin 46 = .ok (.ireturn, 1) := by decide +kernel
theorem dX11_hold_0 : decode cX11_hold 0 = .ok (.aload_n 0, 1) := by decide +kernel
theorem dX11_hold_1 : decode cX11_hold 1 = .ok (.iload_n 1, 1) := by decide +kernel
theorem dX11_hold_2 : decode cX11_hold 2 = .ok (.invokevirtual 180, 3) := by decide +kernel
theorem dX11_hold_5 : decode cX11_hold 5 = .ok (.ifCond .eq 12, 3) := by decide +kernel
theorem dX11_hold_8 : decode cX11_hold 8 = .ok (.iload_n 2, 1) := by decide +kernel
theorem dX11_hold_9 : decode cX11_hold 9 = .ok (.iconst 0, 1) := by decide +kernel
theorem dX11_hold_10 : decode cX11_hold 10 = .ok (.iconst 1, 1) := by decide +kernel
theorem dX11_hold_11 : decode cX11_hold 11 = .ok (.invokestatic 77, 3) := by decide +kernel
theorem dX11_hold_14 : decode cX11_hold 14 = .ok (.ifCond .ne 6, 3) := by decide +kernel
theorem dX11_hold_17 : decode cX11_hold 17 = .ok (.ldc 81, 2) := by decide +kernel
theorem dX11_hold_19 : decode cX11_hold 19 = .ok (.ireturn, 1) := by decide +kernel
theorem dX11_hold_20 : decode cX11_hold 20 = .ok (.aload_n 0, 1) := by decide +kernel
theorem dX11_hold_21 : decode cX11_hold 21 = .ok (.getfield 58, 3) := by decide +kernel
theorem dX11_hold_24 : decode cX11_hold 24 = .ok (.iload_n 1, 1) := by decide +kernel
theorem dX11_hold_25 : decode cX11_hold 25 = .ok (.invokevirtual 186, 3) := by decide +kernel
theorem dX11_hold_28 : decode cX11_hold 28 = .ok (.iload_n 2, 1) := by decide +kernel
theorem dX11_hold_29 : decode cX11_hold 29 = .ok (.iconst 1, 1) := by decide +kernel
theorem dX11_hold_30 : decode cX11_hold 30 = .ok (.if_icmp .ne 7, 3) := by decide +kernel
theorem dX11_hold_33 : decode cX11_hold 33 = .ok (.iconst 1, 1) := by decide +kernel
theorem dX11_hold_34 : decode cX11_hold 34 = .ok (.goto 4, 3) := by decide +kernel
theorem dX11_hold_37 : decode cX11_hold 37 = .ok (.iconst 0, 1) := by decide +kernel
theorem dX11_hold_38 : decode cX11_hold 38 = .ok (.if_icmp .ne 6, 3) := by decide +kernel
theorem dX11_hold_41 : decode cX11_hold 41 = .ok (.ldc 154, 2) := by decide +kernel
theorem dX11_hold_43 : decode cX11_hold 43 = .ok (.ireturn, 1) := by decide +kernel
theorem dX11_hold_44 : decode cX11_hold 44 = .ok (.aload_n 0, 1) := by decide +kernel
theorem dX11_hold_45 : decode cX11_hold 45 = .ok (.invokevirtual 167, 3) := by decide +kernel
theorem dX11_hold_48 : decode cX11_hold 48 = .ok (.aload_n 0, 1) := by decide +kernel
theorem dX11_hold_49 : decode cX11_hold 49 = .ok (.getfield 58, 3) := by decide +kernel
theorem dX11_hold_52 : decode cX11_hold 52 = .ok (.dup, 1) := by decide +kernel
theorem dX11_hold_53 : decode cX11_hold 53 = .ok (.getfield 189, 3) := by decide +kernel
theorem dX11_hold_56 : decode cX11_hold 56 = .ok (.iconst 1, 1) := by decide +kernel
theorem dX11_hold_57 : decode cX11_hold 57 = .ok (.iload_n 1, 1) := by decide +kernel
theorem dX11_hold_58 : decode cX11_hold 58 = .ok (.ishl, 1) := by decide +kernel
theorem dX11_hold_59 : decode cX11_hold 59 = .ok (.ixor, 1) := by decide +kernel
theorem dX11_hold_60 : decode cX11_hold 60 = .ok (.putfield 189, 3) := by decide +kernel
theorem dX11_hold_63 : decode cX11_hold 63 = .ok (.aload_n 0, 1) := by decide +kernel
theorem dX11_hold_64 : decode cX11_hold 64 = .ok (.getfield 58, 3) := by decide +kernel
theorem dX11_hold_67 : decode cX11_hold 67 = .ok (.getfield 189, 3) := by decide +kernel
theorem dX11_hold_70 : decode cX11_hold 70 = .ok (.ireturn, 1) := by decide +kernel
theorem dX11_mend_0 : decode cX11_mend 0 = .ok (.aload_n 0, 1) := by decide +kernel
theorem dX11_mend_1 : decode cX11_mend 1 = .ok (.iload_n 1, 1) := by decide +kernel
theorem dX11_mend_2 : decode cX11_mend 2 = .ok (.invokevirtual 192, 3) := by decide +kernel
theorem dX11_mend_5 : decode cX11_mend 5 = .ok (.ifCond .ne 6, 3) := by decide +kernel
theorem dX11_mend_8 : decode cX11_mend 8 = .ok (.ldc 81, 2) := by decide +kernel
theorem dX11_mend_10 : decode cX11_mend 10 = .ok (.ireturn, 1) := by decide +kernel
theorem dX11_mend_11 : decode cX11_mend 11 = .ok (.aload_n 0, 1) := by decide +kernel
theorem dX11_mend_12 : decode cX11_mend 12 = .ok (.getfield 58, 3) := by decide +kernel
theorem dX11_mend_15 : decode cX11_mend 15 = .ok (.getfield 195, 3) := by decide +kernel
theorem dX11_mend_18 : decode cX11_mend 18 = .ok (.iload_n 1, 1) := by decide +kernel
theorem dX11_mend_19 : decode cX11_mend 19 = .ok (.iconst 1, 1) := by decide +kernel
theorem dX11_mend_20 : decode cX11_mend 20 = .ok (.iadd, 1) := by decide +kernel
theorem dX11_mend_21 : decode cX11_mend 21 = .ok (.iaload, 1) := by decide +kernel
theorem dX11_mend_22 : decode cX11_mend 22 = .ok (.istore_n 2, 1) := by decide +kernel
theorem dX11_mend_23 : decode cX11_mend 23 = .ok (.aload_n 0, 1) := by decide +kernel
theorem dX11_mend_24 : decode cX11_mend 24 = .ok (.invokevirtual 167, 3) := by decide +kernel
theorem dX11_mend_27 : decode cX11_mend 27 = .ok (.aload_n 0, 1) := by decide +kernel
theorem dX11_mend_28 : decode cX11_mend 28 = .ok (.getfield 58, 3) := by decide +kernel
theorem dX11_mend_31 : decode cX11_mend 31 = .ok (.getfield 195, 3) := by decide +kernel
theorem dX11_mend_34 : decode cX11_mend 34 = .ok (.iload_n 1, 1) := by decide +kernel
theorem dX11_mend_35 : decode cX11_mend 35 = .ok (.iconst 1, 1) := by decide +kernel
theorem dX11_mend_36 : decode cX11_mend 36 = .ok (.iadd, 1) := by decide +kernel
theorem dX11_mend_37 : decode cX11_mend 37 = .ok (.bipush 99, 2) := by decide +kernel
theorem dX11_mend_39 : decode cX11_mend 39 = .ok (.iastore, 1) := by decide +kernel
theorem dX11_mend_40 : decode cX11_mend 40 = .ok (.iload_n 2, 1) := by decide +kernel
theorem dX11_mend_41 : decode cX11_mend 41 = .ok (.ireturn, 1) := by decide +kernel
theorem dX11_takeOut_0 : decode cX11_takeOut 0 = .ok (.aload_n 0, 1) := by decide +kernel
theorem dX11_takeOut_1 : decode cX11_takeOut 1 = .ok (.iload_n 1, 1) := by decide +kernel
theorem dX11_takeOut_2 : decode cX11_takeOut 2 = .ok (.invokevirtual 192, 3) := by decide +kernel
theorem dX11_takeOut_5 : decode cX11_takeOut 5 = .ok (.ifCond .ne 6, 3) := by decide +kernel
theorem dX11_takeOut_8 : decode cX11_takeOut 8 = .ok (.ldc 81, 2) := by decide +kernel
theorem dX11_takeOut_10 : decode cX11_takeOut 10 = .ok (.ireturn, 1) := by decide +kernel
theorem dX11_takeOut_11 : decode cX11_takeOut 11 = .ok (.aload_n 0, 1) := by decide +kernel
theorem dX11_takeOut_12 : decode cX11_takeOut 12 = .ok (.getfield 58, 3) := by decide +kernel
theorem dX11_takeOut_15 : decode cX11_takeOut 15 = .ok (.iload_n 1, 1) := by decide +kernel
theorem dX11_takeOut_16 : decode cX11_takeOut 16 = .ok (.iconst 1, 1) := by decide +kernel
theorem dX11_takeOut_17 : decode cX11_takeOut 17 = .ok (.iadd, 1) := by decide +kernel
theorem dX11_takeOut_18 : decode cX11_takeOut 18 = .ok (.invokevirtual 198, 3) := by decide +kernel
theorem dX11_takeOut_21 : decode cX11_takeOut 21 = .ok (.ifCond .eq 6, 3) := by decide +kernel
theorem dX11_takeOut_24 : decode cX11_takeOut 24 = .ok (.ldc 154, 2) := by decide +kernel
theorem dX11_takeOut_26 : decode cX11_takeOut 26 = .ok (.ireturn, 1) := by decide +kernel
theorem dX11_takeOut_27 : decode cX11_takeOut 27 = .ok (.aload_n 0, 1) := by decide +kernel
theorem dX11_takeOut_28 : decode cX11_takeOut 28 = .ok (.invokevirtual 167, 3) := by decide +kernel
theorem dX11_takeOut_31 : decode cX11_takeOut 31 = .ok (.aload_n 0, 1) := by decide +kernel
theorem dX11_takeOut_32 : decode cX11_takeOut 32 = .ok (.getfield 58, 3) := by decide +kernel
theorem dX11_takeOut_35 : decode cX11_takeOut 35 = .ok (.iload_n 1, 1) := by decide +kernel
theorem dX11_takeOut_36 : decode cX11_takeOut 36 = .ok (.iconst 1, 1) := by decide +kernel
theorem dX11_takeOut_37 : decode cX11_takeOut 37 = .ok (.iadd, 1) := by decide +kernel
theorem dX11_takeOut_38 : decode cX11_takeOut 38 = .ok (.invokevirtual 201, 3) := by decide +kernel
theorem dX11_takeOut_41 : decode cX11_takeOut 41 = .ok (.ireturn, 1) := by decide +kernel
theorem dX11_goer_0 : decode cX11_goer 0 = .ok (.aload_n 0, 1) := by decide +kernel
theorem dX11_goer_1 : decode cX11_goer 1 = .ok (.iload_n 1, 1) := by decide +kernel
theorem dX11_goer_2 : decode cX11_goer 2 = .ok (.invokevirtual 180, 3) := by decide +kernel
theorem dX11_goer_5 : decode cX11_goer 5 = .ok (.ifCond .ne 6, 3) := by decide +kernel
theorem dX11_goer_8 : decode cX11_goer 8 = .ok (.ldc 81, 2) := by decide +kernel
theorem dX11_goer_10 : decode cX11_goer 10 = .ok (.ireturn, 1) := by decide +kernel
theorem dX11_goer_11 : decode cX11_goer 11 = .ok (.iload_n 2, 1) := by decide +kernel
theorem dX11_goer_12 : decode cX11_goer 12 = .ok (.tableswitch 127 0 6 #[44, 54, 64, 74, 83, 100, 117], 44) := by decide +kernel
theorem dX11_goer_56 : decode cX11_goer 56 = .ok (.aload_n 0, 1) := by decide +kernel
theorem dX11_goer_57 : decode cX11_goer 57 = .ok (.getfield 58, 3) := by decide +kernel
theorem dX11_goer_60 : decode cX11_goer 60 = .ok (.getfield 204, 3) := by decide +kernel
theorem dX11_goer_63 : decode cX11_goer 63 = .ok (.iload_n 1, 1) := by decide +kernel
theorem dX11_goer_64 : decode cX11_goer 64 = .ok (.iaload, 1) := by decide +kernel
theorem dX11_goer_65 : decode cX11_goer 65 = .ok (.ireturn, 1) := by decide +kernel
theorem dX11_goer_66 : decode cX11_goer 66 = .ok (.aload_n 0, 1) := by decide +kernel
theorem dX11_goer_67 : decode cX11_goer 67 = .ok (.getfield 58, 3) := by decide +kernel
theorem dX11_goer_70 : decode cX11_goer 70 = .ok (.getfield 207, 3) := by decide +kernel
theorem dX11_goer_73 : decode cX11_goer 73 = .ok (.iload_n 1, 1) := by decide +kernel
theorem dX11_goer_74 : decode cX11_goer 74 = .ok (.iaload, 1) := by decide +kernel
theorem dX11_goer_75 : decode cX11_goer 75 = .ok (.ireturn, 1) := by decide +kernel
theorem dX11_goer_76 : decode cX11_goer 76 = .ok (.aload_n 0, 1) := by decide +kernel
theorem dX11_goer_77 : decode cX11_goer 77 = .ok (.getfield 58, 3) := by decide +kernel
theorem dX11_goer_80 : decode cX11_goer 80 = .ok (.getfield 183, 3) := by decide +kernel
theorem dX11_goer_83 : decode cX11_goer 83 = .ok (.iload_n 1, 1) := by decide +kernel
theorem dX11_goer_84 : decode cX11_goer 84 = .ok (.iaload, 1) := by decide +kernel
theorem dX11_goer_85 : decode cX11_goer 85 = .ok (.ireturn, 1) := by decide +kernel
theorem dX11_goer_86 : decode cX11_goer 86 = .ok (.aload_n 0, 1) := by decide +kernel
theorem dX11_goer_87 : decode cX11_goer 87 = .ok (.getfield 58, 3) := by decide +kernel
theorem dX11_goer_90 : decode cX11_goer 90 = .ok (.iload_n 1, 1) := by decide +kernel
theorem dX11_goer_91 : decode cX11_goer 91 = .ok (.invokevirtual 210, 3) := by decide +kernel
theorem dX11_goer_94 : decode cX11_goer 94 = .ok (.ireturn, 1) := by decide +kernel
theorem dX11_goer_95 : decode cX11_goer 95 = .ok (.aload_n 0, 1) := by decide +kernel
theorem dX11_goer_96 : decode cX11_goer 96 = .ok (.getfield 58, 3) := by decide +kernel
theorem dX11_goer_99 : decode cX11_goer 99 = .ok (.iload_n 1, 1) := by decide +kernel
theorem dX11_goer_100 : decode cX11_goer 100 = .ok (.invokevirtual 213, 3) := by decide +kernel
theorem dX11_goer_103 : decode cX11_goer 103 = .ok (.ifCond .eq 7, 3) := by decide +kernel
theorem dX11_goer_106 : decode cX11_goer 106 = .ok (.iconst 1, 1) := by decide +kernel
theorem dX11_goer_107 : decode cX11_goer 107 = .ok (.goto 4, 3) := by decide +kernel
theorem dX11_goer_110 : decode cX11_goer 110 = .ok (.iconst 0, 1) := by decide +kernel
theorem dX11_goer_111 : decode cX11_goer 111 = .ok (.ireturn, 1) := by decide +kernel
theorem dX11_goer_112 : decode cX11_goer 112 = .ok (.aload_n 0, 1) := by decide +kernel
theorem dX11_goer_113 : decode cX11_goer 113 = .ok (.getfield 58, 3) := by decide +kernel
theorem dX11_goer_116 : decode cX11_goer 116 = .ok (.iload_n 1, 1) := by decide +kernel
theorem dX11_goer_117 : decode cX11_goer 117 = .ok (.invokevirtual 186, 3) := by decide +kernel
theorem dX11_goer_120 : decode cX11_goer 120 = .ok (.ifCond .eq 7, 3) := by decide +kernel
theorem dX11_goer_123 : decode cX11_goer 123 = .ok (.iconst 1, 1) := by decide +kernel
theorem dX11_goer_124 : decode cX11_goer 124 = .ok (.goto 4, 3) := by decide +kernel
theorem dX11_goer_127 : decode cX11_goer 127 = .ok (.iconst 0, 1) := by decide +kernel
theorem dX11_goer_128 : decode cX11_goer 128 = .ok (.ireturn, 1) := by decide +kernel
theorem dX11_goer_129 : decode cX11_goer 129 = .ok (.aload_n 0, 1) := by decide +kernel
theorem dX11_goer_130 : decode cX11_goer 130 = .ok (.getfield 58, 3) := by decide +kernel
theorem dX11_goer_133 : decode cX11_goer 133 = .ok (.getfield 216, 3) := by decide +kernel
theorem dX11_goer_136 : decode cX11_goer 136 = .ok (.iload_n 1, 1) := by decide +kernel
theorem dX11_goer_137 : decode cX11_goer 137 = .ok (.iaload, 1) := by decide +kernel
theorem dX11_goer_138 : decode cX11_goer 138 = .ok (.ireturn, 1) := by decide +kernel
theorem dX11_goer_139 : decode cX11_goer 139 = .ok (.ldc 81, 2) := by decide +kernel
theorem dX11_goer_141 : decode cX11_goer 141 = .ok (.ireturn, 1) := by decide +kernel
theorem dX11_rung_0 : decode cX11_rung 0 = .ok (.aload_n 0, 1) := by decide +kernel
theorem dX11_rung_1 : decode cX11_rung 1 = .ok (.iload_n 1, 1) := by decide +kernel
theorem dX11_rung_2 : decode cX11_rung 2 = .ok (.invokevirtual 192, 3) := by decide +kernel
theorem dX11_rung_5 : decode cX11_rung 5 = .ok (.ifCond .ne 6, 3) := by decide +kernel
theorem dX11_rung_8 : decode cX11_rung 8 = .ok (.ldc 81, 2) := by decide +kernel
theorem dX11_rung_10 : decode cX11_rung 10 = .ok (.ireturn, 1) := by decide +kernel
theorem dX11_rung_11 : decode cX11_rung 11 = .ok (.iload_n 2, 1) := by decide +kernel
theorem dX11_rung_12 : decode cX11_rung 12 = .ok (.tableswitch 62 0 2 #[28, 40, 51], 28) := by decide +kernel
theorem dX11_rung_40 : decode cX11_rung 40 = .ok (.aload_n 0, 1) := by decide +kernel
theorem dX11_rung_41 : decode cX11_rung 41 = .ok (.getfield 58, 3) := by decide +kernel
theorem dX11_rung_44 : decode cX11_rung 44 = .ok (.getfield 195, 3) := by decide +kernel
theorem dX11_rung_47 : decode cX11_rung 47 = .ok (.iload_n 1, 1) := by decide +kernel
theorem dX11_rung_48 : decode cX11_rung 48 = .ok (.iconst 1, 1) := by decide +kernel
theorem dX11_rung_49 : decode cX11_rung 49 = .ok (.iadd, 1) := by decide +kernel
theorem dX11_rung_50 : decode cX11_rung 50 = .ok (.iaload, 1) := by decide +kernel
theorem dX11_rung_51 : decode cX11_rung 51 = .ok (.ireturn, 1) := by decide +kernel
theorem dX11_rung_52 : decode cX11_rung 52 = .ok (.aload_n 0, 1) := by decide +kernel
theorem dX11_rung_53 : decode cX11_rung 53 = .ok (.getfield 58, 3) := by decide +kernel
theorem dX11_rung_56 : decode cX11_rung 56 = .ok (.iload_n 1, 1) := by decide +kernel
theorem dX11_rung_57 : decode cX11_rung 57 = .ok (.iconst 1, 1) := by decide +kernel
theorem dX11_rung_58 : decode cX11_rung 58 = .ok (.iadd, 1) := by decide +kernel
theorem dX11_rung_59 : decode cX11_rung 59 = .ok (.invokevirtual 219, 3) := by decide +kernel
theorem dX11_rung_62 : decode cX11_rung 62 = .ok (.ireturn, 1) := by decide +kernel
theorem dX11_rung_63 : decode cX11_rung 63 = .ok (.aload_n 0, 1) := by decide +kernel
theorem dX11_rung_64 : decode cX11_rung 64 = .ok (.getfield 58, 3) := by decide +kernel
theorem dX11_rung_67 : decode cX11_rung 67 = .ok (.iload_n 1, 1) := by decide +kernel
theorem dX11_rung_68 : decode cX11_rung 68 = .ok (.iconst 1, 1) := by decide +kernel
theorem dX11_rung_69 : decode cX11_rung 69 = .ok (.iadd, 1) := by decide +kernel
theorem dX11_rung_70 : decode cX11_rung 70 = .ok (.invokevirtual 177, 3) := by decide +kernel
theorem dX11_rung_73 : decode cX11_rung 73 = .ok (.ireturn, 1) := by decide +kernel
theorem dX11_rung_74 : decode cX11_rung 74 = .ok (.ldc 81, 2) := by decide +kernel
theorem dX11_rung_76 : decode cX11_rung 76 = .ok (.ireturn, 1) := by decide +kernel
theorem dX11_stand_0 : decode cX11_stand 0 = .ok (.aload_n 0, 1) := by decide +kernel
theorem dX11_stand_1 : decode cX11_stand 1 = .ok (.invokevirtual 161, 3) := by decide +kernel
theorem dX11_stand_4 : decode cX11_stand 4 = .ok (.ifCond .eq 6, 3) := by decide +kernel
theorem dX11_stand_7 : decode cX11_stand 7 = .ok (.ldc 154, 2) := by decide +kernel
theorem dX11_stand_9 : decode cX11_stand 9 = .ok (.ireturn, 1) := by decide +kernel
theorem dX11_stand_10 : decode cX11_stand 10 = .ok (.iload_n 1, 1) := by decide +kernel
theorem dX11_stand_11 : decode cX11_stand 11 = .ok (.tableswitch 81 0 4 #[33, 48, 57, 65, 73], 33) := by decide +kernel
theorem dX11_stand_44 : decode cX11_stand 44 = .ok (.aload_n 0, 1) := by decide +kernel
theorem dX11_stand_45 : decode cX11_stand 45 = .ok (.getfield 58, 3) := by decide +kernel
theorem dX11_stand_48 : decode cX11_stand 48 = .ok (.aload_n 0, 1) := by decide +kernel
theorem dX11_stand_49 : decode cX11_stand 49 = .ok (.getfield 58, 3) := by decide +kernel
theorem dX11_stand_52 : decode cX11_stand 52 = .ok (.invokevirtual 173, 3) := by decide +kernel
theorem dX11_stand_55 : decode cX11_stand 55 = .ok (.invokevirtual 177, 3) := by decide +kernel
theorem dX11_stand_58 : decode cX11_stand 58 = .ok (.ireturn, 1) := by decide +kernel
theorem dX11_stand_59 : decode cX11_stand 59 = .ok (.aload_n 0, 1) := by decide +kernel
theorem dX11_stand_60 : decode cX11_stand 60 = .ok (.getfield 58, 3) := by decide +kernel
theorem dX11_stand_63 : decode cX11_stand 63 = .ok (.iconst 0, 1) := by decide +kernel
theorem dX11_stand_64 : decode cX11_stand 64 = .ok (.invokevirtual 177, 3) := by decide +kernel
theorem dX11_stand_67 : decode cX11_stand 67 = .ok (.ireturn, 1) := by decide +kernel
theorem dX11_stand_68 : decode cX11_stand 68 = .ok (.aload_n 0, 1) := by decide +kernel
theorem dX11_stand_69 : decode cX11_stand 69 = .ok (.getfield 58, 3) := by decide +kernel
theorem dX11_stand_72 : decode cX11_stand 72 = .ok (.invokevirtual 222, 3) := by decide +kernel
theorem dX11_stand_75 : decode cX11_stand 75 = .ok (.ireturn, 1) := by decide +kernel
theorem dX11_stand_76 : decode cX11_stand 76 = .ok (.aload_n 0, 1) := by decide +kernel
theorem dX11_stand_77 : decode cX11_stand 77 = .ok (.getfield 58, 3) := by decide +kernel
theorem dX11_stand_80 : decode cX11_stand 80 = .ok (.invokevirtual 225, 3) := by decide +kernel
theorem dX11_stand_83 : decode cX11_stand 83 = .ok (.ireturn, 1) := by decide +kernel
theorem dX11_stand_84 : decode cX11_stand 84 = .ok (.aload_n 0, 1) := by decide +kernel
theorem dX11_stand_85 : decode cX11_stand 85 = .ok (.getfield 58, 3) := by decide +kernel
theorem dX11_stand_88 : decode cX11_stand 88 = .ok (.getfield 189, 3) := by decide +kernel
theorem dX11_stand_91 : decode cX11_stand 91 = .ok (.ireturn, 1) := by decide +kernel
theorem dX11_stand_92 : decode cX11_stand 92 = .ok (.ldc 81, 2) := by decide +kernel
theorem dX11_stand_94 : decode cX11_stand 94 = .ok (.ireturn, 1) := by decide +kernel
theorem dX11_ahead_0 : decode cX11_ahead 0 = .ok (.aload_n 0, 1) := by decide +kernel
theorem dX11_ahead_1 : decode cX11_ahead 1 = .ok (.iload_n 1, 1) := by decide +kernel
theorem dX11_ahead_2 : decode cX11_ahead 2 = .ok (.invokevirtual 180, 3) := by decide +kernel
theorem dX11_ahead_5 : decode cX11_ahead 5 = .ok (.ifCond .eq 13, 3) := by decide +kernel
theorem dX11_ahead_8 : decode cX11_ahead 8 = .ok (.iload_n 2, 1) := by decide +kernel
theorem dX11_ahead_9 : decode cX11_ahead 9 = .ok (.iconst 0, 1) := by decide +kernel
theorem dX11_ahead_10 : decode cX11_ahead 10 = .ok (.bipush 60, 2) := by decide +kernel
theorem dX11_ahead_12 : decode cX11_ahead 12 = .ok (.invokestatic 77, 3) := by decide +kernel
theorem dX11_ahead_15 : decode cX11_ahead 15 = .ok (.ifCond .ne 6, 3) := by decide +kernel
theorem dX11_ahead_18 : decode cX11_ahead 18 = .ok (.ldc 81, 2) := by decide +kernel
theorem dX11_ahead_20 : decode cX11_ahead 20 = .ok (.ireturn, 1) := by decide +kernel
theorem dX11_ahead_21 : decode cX11_ahead 21 = .ok (.aload_n 0, 1) := by decide +kernel
theorem dX11_ahead_22 : decode cX11_ahead 22 = .ok (.getfield 68, 3) := by decide +kernel
theorem dX11_ahead_25 : decode cX11_ahead 25 = .ok (.aload_n 0, 1) := by decide +kernel
theorem dX11_ahead_26 : decode cX11_ahead 26 = .ok (.getfield 58, 3) := by decide +kernel
theorem dX11_ahead_29 : decode cX11_ahead 29 = .ok (.iload_n 2, 1) := by decide +kernel
theorem dX11_ahead_30 : decode cX11_ahead 30 = .ok (.invokevirtual 228, 3) := by decide +kernel
theorem dX11_ahead_33 : decode cX11_ahead 33 = .ok (.getfield 204, 3) := by decide +kernel
theorem dX11_ahead_36 : decode cX11_ahead 36 = .ok (.iload_n 1, 1) := by decide +kernel
theorem dX11_ahead_37 : decode cX11_ahead 37 = .ok (.iaload, 1) := by decide +kernel
theorem dX11_ahead_38 : decode cX11_ahead 38 = .ok (.ireturn, 1) := by decide +kernel
theorem dX11_strength_0 : decode cX11_strength 0 = .ok (.aload_n 0, 1) := by decide +kernel
theorem dX11_strength_1 : decode cX11_strength 1 = .ok (.iload_n 1, 1) := by decide +kernel
theorem dX11_strength_2 : decode cX11_strength 2 = .ok (.invokevirtual 192, 3) := by decide +kernel
theorem dX11_strength_5 : decode cX11_strength 5 = .ok (.ifCond .eq 13, 3) := by decide +kernel
theorem dX11_strength_8 : decode cX11_strength 8 = .ok (.iload_n 2, 1) := by decide +kernel
theorem dX11_strength_9 : decode cX11_strength 9 = .ok (.iconst 0, 1) := by decide +kernel
theorem dX11_strength_10 : decode cX11_strength 10 = .ok (.bipush 60, 2) := by decide +kernel
theorem dX11_strength_12 : decode cX11_strength 12 = .ok (.invokestatic 77, 3) := by decide +kernel
theorem dX11_strength_15 : decode cX11_strength 15 = .ok (.ifCond .ne 6, 3) := by decide +kernel
theorem dX11_strength_18 : decode cX11_strength 18 = .ok (.ldc 81, 2) := by decide +kernel
theorem dX11_strength_20 : decode cX11_strength 20 = .ok (.ireturn, 1) := by decide +kernel
theorem dX11_strength_21 : decode cX11_strength 21 = .ok (.aload_n 0, 1) := by decide +kernel
theorem dX11_strength_22 : decode cX11_strength 22 = .ok (.getfield 68, 3) := by decide +kernel
theorem dX11_strength_25 : decode cX11_strength 25 = .ok (.aload_n 0, 1) := by decide +kernel
theorem dX11_strength_26 : decode cX11_strength 26 = .ok (.getfield 58, 3) := by decide +kernel
theorem dX11_strength_29 : decode cX11_strength 29 = .ok (.iload_n 2, 1) := by decide +kernel
theorem dX11_strength_30 : decode cX11_strength 30 = .ok (.invokevirtual 228, 3) := by decide +kernel
theorem dX11_strength_33 : decode cX11_strength 33 = .ok (.getfield 195, 3) := by decide +kernel
theorem dX11_strength_36 : decode cX11_strength 36 = .ok (.iload_n 1, 1) := by decide +kernel
theorem dX11_strength_37 : decode cX11_strength 37 = .ok (.iconst 1, 1) := by decide +kernel
theorem dX11_strength_38 : decode cX11_strength 38 = .ok (.iadd, 1) := by decide +kernel
theorem dX11_strength_39 : decode cX11_strength 39 = .ok (.iaload, 1) := by decide +kernel
theorem dX11_strength_40 : decode cX11_strength 40 = .ok (.ireturn, 1) := by decide +kernel
theorem dX11_above_0 : decode cX11_above 0 = .ok (.aload_n 0, 1) := by decide +kernel
theorem dX11_above_1 : decode cX11_above 1 = .ok (.iload_n 1, 1) := by decide +kernel
theorem dX11_above_2 : decode cX11_above 2 = .ok (.invokevirtual 180, 3) := by decide +kernel
theorem dX11_above_5 : decode cX11_above 5 = .ok (.ifCond .eq 18, 3) := by decide +kernel
theorem dX11_above_8 : decode cX11_above 8 = .ok (.aload_n 0, 1) := by decide +kernel
theorem dX11_above_9 : decode cX11_above 9 = .ok (.getfield 68, 3) := by decide +kernel
theorem dX11_above_12 : decode cX11_above 12 = .ok (.aload_n 0, 1) := by decide +kernel
theorem dX11_above_13 : decode cX11_above 13 = .ok (.getfield 58, 3) := by decide +kernel
theorem dX11_above_16 : decode cX11_above 16 = .ok (.iload_n 1, 1) := by decide +kernel
theorem dX11_above_17 : decode cX11_above 17 = .ok (.invokevirtual 232, 3) := by decide +kernel
theorem dX11_above_20 : decode cX11_above 20 = .ok (.goto 5, 3) := by decide +kernel
theorem dX11_above_23 : decode cX11_above 23 = .ok (.ldc 81, 2) := by decide +kernel
theorem dX11_above_25 : decode cX11_above 25 = .ok (.ireturn, 1) := by decide +kernel
theorem dX11_broken_0 : decode cX11_broken 0 = .ok (.aload_n 0, 1) := by decide +kernel
theorem dX11_broken_1 : decode cX11_broken 1 = .ok (.iload_n 1, 1) := by decide +kernel
theorem dX11_broken_2 : decode cX11_broken 2 = .ok (.invokevirtual 192, 3) := by decide +kernel
theorem dX11_broken_5 : decode cX11_broken 5 = .ok (.ifCond .eq 20, 3) := by decide +kernel
theorem dX11_broken_8 : decode cX11_broken 8 = .ok (.aload_n 0, 1) := by decide +kernel
theorem dX11_broken_9 : decode cX11_broken 9 = .ok (.getfield 68, 3) := by decide +kernel
theorem dX11_broken_12 : decode cX11_broken 12 = .ok (.aload_n 0, 1) := by decide +kernel
theorem dX11_broken_13 : decode cX11_broken 13 = .ok (.getfield 58, 3) := by decide +kernel
theorem dX11_broken_16 : decode cX11_broken 16 = .ok (.iconst 1, 1) := by decide +kernel
theorem dX11_broken_17 : decode cX11_broken 17 = .ok (.iload_n 1, 1) := by decide +kernel
theorem dX11_broken_18 : decode cX11_broken 18 = .ok (.ishl, 1) := by decide +kernel
theorem dX11_broken_19 : decode cX11_broken 19 = .ok (.invokevirtual 236, 3) := by decide +kernel
theorem dX11_broken_22 : decode cX11_broken 22 = .ok (.goto 5, 3) := by decide +kernel
theorem dX11_broken_25 : decode cX11_broken 25 = .ok (.ldc 81, 2) := by decide +kernel
theorem dX11_broken_27 : decode cX11_broken 27 = .ok (.ireturn, 1) := by decide +kernel
theorem dX11_first_0 : decode cX11_first 0 = .ok (.aload_n 0, 1) := by decide +kernel
theorem dX11_first_1 : decode cX11_first 1 = .ok (.invokevirtual 161, 3) := by decide +kernel
theorem dX11_first_4 : decode cX11_first 4 = .ok (.ifCond .eq 6, 3) := by decide +kernel
theorem dX11_first_7 : decode cX11_first 7 = .ok (.ldc 154, 2) := by decide +kernel
theorem dX11_first_9 : decode cX11_first 9 = .ok (.ireturn, 1) := by decide +kernel
theorem dX11_first_10 : decode cX11_first 10 = .ok (.iload_n 1, 1) := by decide +kernel
theorem dX11_first_11 : decode cX11_first 11 = .ok (.iconst 0, 1) := by decide +kernel
theorem dX11_first_12 : decode cX11_first 12 = .ok (.iconst 1, 1) := by decide +kernel
theorem dX11_first_13 : decode cX11_first 13 = .ok (.invokestatic 77, 3) := by decide +kernel
theorem dX11_first_16 : decode cX11_first 16 = .ok (.ifCond .ne 6, 3) := by decide +kernel
theorem dX11_first_19 : decode cX11_first 19 = .ok (.ldc 81, 2) := by decide +kernel
theorem dX11_first_21 : decode cX11_first 21 = .ok (.ireturn, 1) := by decide +kernel
theorem dX11_first_22 : decode cX11_first 22 = .ok (.aload_n 0, 1) := by decide +kernel
theorem dX11_first_23 : decode cX11_first 23 = .ok (.getfield 58, 3) := by decide +kernel
theorem dX11_first_26 : decode cX11_first 26 = .ok (.invokevirtual 239, 3) := by decide +kernel
theorem dX11_first_29 : decode cX11_first 29 = .ok (.aload_n 0, 1) := by decide +kernel
theorem dX11_first_30 : decode cX11_first 30 = .ok (.getfield 58, 3) := by decide +kernel
theorem dX11_first_33 : decode cX11_first 33 = .ok (.invokevirtual 225, 3) := by decide +kernel
theorem dX11_first_36 : decode cX11_first 36 = .ok (.iconst (-1), 1) := by decide +kernel
theorem dX11_first_37 : decode cX11_first 37 = .ok (.ixor, 1) := by decide +kernel
theorem dX11_first_38 : decode cX11_first 38 = .ok (.iand, 1) := by decide +kernel
theorem dX11_first_39 : decode cX11_first 39 = .ok (.istore_n 2, 1) := by decide +kernel
theorem dX11_first_40 : decode cX11_first 40 = .ok (.aload_n 0, 1) := by decide +kernel
theorem dX11_first_41 : decode cX11_first 41 = .ok (.getfield 68, 3) := by decide +kernel
theorem dX11_first_44 : decode cX11_first 44 = .ok (.aload_n 0, 1) := by decide +kernel
theorem dX11_first_45 : decode cX11_first 45 = .ok (.getfield 58, 3) := by decide +kernel
theorem dX11_first_48 : decode cX11_first 48 = .ok (.iload_n 2, 1) := by decide +kernel
theorem dX11_first_49 : decode cX11_first 49 = .ok (.invokevirtual 236, 3) := by decide +kernel
theorem dX11_first_52 : decode cX11_first 52 = .ok (.istore_n 3, 1) := by decide +kernel
theorem dX11_first_53 : decode cX11_first 53 = .ok (.iload_n 3, 1) := by decide +kernel
theorem dX11_first_54 : decode cX11_first 54 = .ok (.ldc 242, 2) := by decide +kernel
theorem dX11_first_56 : decode cX11_first 56 = .ok (.if_icmp .eq 8, 3) := by decide +kernel
theorem dX11_first_59 : decode cX11_first 59 = .ok (.iload_n 1, 1) := by decide +kernel
theorem dX11_first_60 : decode cX11_first 60 = .ok (.iconst 1, 1) := by decide +kernel
theorem dX11_first_61 : decode cX11_first 61 = .ok (.if_icmp .ne 5, 3) := by decide +kernel
theorem dX11_first_64 : decode cX11_first 64 = .ok (.iload_n 3, 1) := by decide +kernel
theorem dX11_first_65 : decode cX11_first 65 = .ok (.ireturn, 1) := by decide +kernel
theorem dX11_first_66 : decode cX11_first 66 = .ok (.aload_n 0, 1) := by decide +kernel
theorem dX11_first_67 : decode cX11_first 67 = .ok (.getfield 68, 3) := by decide +kernel
theorem dX11_first_70 : decode cX11_first 70 = .ok (.getfield 243, 3) := by decide +kernel
theorem dX11_first_73 : decode cX11_first 73 = .ok (.invokevirtual 225, 3) := by decide +kernel
theorem dX11_first_76 : decode cX11_first 76 = .ok (.iload_n 2, 1) := by decide +kernel
theorem dX11_first_77 : decode cX11_first 77 = .ok (.iand, 1) := by decide +kernel
theorem dX11_first_78 : decode cX11_first 78 = .ok (.invokestatic 246, 3) := by decide +kernel
theorem dX11_first_81 : decode cX11_first 81 = .ok (.ireturn, 1) := by decide +kernel
theorem dX11_falls_0 : decode cX11_falls 0 = .ok (.aload_n 0, 1) := by decide +kernel
theorem dX11_falls_1 : decode cX11_falls 1 = .ok (.invokevirtual 161, 3) := by decide +kernel
theorem dX11_falls_4 : decode cX11_falls 4 = .ok (.ifCond .eq 6, 3) := by decide +kernel
theorem dX11_falls_7 : decode cX11_falls 7 = .ok (.ldc 154, 2) := by decide +kernel
theorem dX11_falls_9 : decode cX11_falls 9 = .ok (.ireturn, 1) := by decide +kernel
theorem dX11_falls_10 : decode cX11_falls 10 = .ok (.iload_n 1, 1) := by decide +kernel
theorem dX11_falls_11 : decode cX11_falls 11 = .ok (.iconst 0, 1) := by decide +kernel
theorem dX11_falls_12 : decode cX11_falls 12 = .ok (.bipush 60, 2) := by decide +kernel
theorem dX11_falls_14 : decode cX11_falls 14 = .ok (.invokestatic 77, 3) := by decide +kernel
theorem dX11_falls_17 : decode cX11_falls 17 = .ok (.ifCond .ne 6, 3) := by decide +kernel
theorem dX11_falls_20 : decode cX11_falls 20 = .ok (.ldc 81, 2) := by decide +kernel
theorem dX11_falls_22 : decode cX11_falls 22 = .ok (.ireturn, 1) := by decide +kernel
theorem dX11_falls_23 : decode cX11_falls 23 = .ok (.aload_n 0, 1) := by decide +kernel
theorem dX11_falls_24 : decode cX11_falls 24 = .ok (.getfield 68, 3) := by decide +kernel
theorem dX11_falls_27 : decode cX11_falls 27 = .ok (.aload_n 0, 1) := by decide +kernel
theorem dX11_falls_28 : decode cX11_falls 28 = .ok (.getfield 58, 3) := by decide +kernel
theorem dX11_falls_31 : decode cX11_falls 31 = .ok (.iload_n 1, 1) := by decide +kernel
theorem dX11_falls_32 : decode cX11_falls 32 = .ok (.invokevirtual 228, 3) := by decide +kernel
theorem dX11_falls_35 : decode cX11_falls 35 = .ok (.invokevirtual 249, 3) := by decide +kernel
theorem dX11_falls_38 : decode cX11_falls 38 = .ok (.aload_n 0, 1) := by decide +kernel
theorem dX11_falls_39 : decode cX11_falls 39 = .ok (.getfield 58, 3) := by decide +kernel
theorem dX11_falls_42 : decode cX11_falls 42 = .ok (.invokevirtual 249, 3) := by decide +kernel
theorem dX11_falls_45 : decode cX11_falls 45 = .ok (.isub, 1) := by decide +kernel
theorem dX11_falls_46 : decode cX11_falls 46 = .ok (.ireturn, 1) := by decide +kernel
theorem dX11_mends_0 : decode cX11_mends 0 = .ok (.aload_n 0, 1) := by decide +kernel
theorem dX11_mends_1 : decode cX11_mends 1 = .ok (.iload_n 1, 1) := by decide +kernel
theorem dX11_mends_2 : decode cX11_mends 2 = .ok (.invokevirtual 180, 3) := by decide +kernel
theorem dX11_mends_5 : decode cX11_mends 5 = .ok (.ifCond .eq 22, 3) := by decide +kernel
theorem dX11_mends_8 : decode cX11_mends 8 = .ok (.iload_n 2, 1) := by decide +kernel
theorem dX11_mends_9 : decode cX11_mends 9 = .ok (.iconst 1, 1) := by decide +kernel
theorem dX11_mends_10 : decode cX11_mends 10 = .ok (.bipush 30, 2) := by decide +kernel
theorem dX11_mends_12 : decode cX11_mends 12 = .ok (.invokestatic 77, 3) := by decide +kernel
theorem dX11_mends_15 : decode cX11_mends 15 = .ok (.ifCond .eq 12, 3) := by decide +kernel
theorem dX11_mends_18 : decode cX11_mends 18 = .ok (.iload_n 3, 1) := by decide +kernel
theorem dX11_mends_19 : decode cX11_mends 19 = .ok (.iconst 0, 1) := by decide +kernel
theorem dX11_mends_20 : decode cX11_mends 20 = .ok (.iconst 1, 1) := by decide +kernel
theorem dX11_mends_21 : decode cX11_mends 21 = .ok (.invokestatic 77, 3) := by decide +kernel
theorem dX11_mends_24 : decode cX11_mends 24 = .ok (.ifCond .ne 6, 3) := by decide +kernel
theorem dX11_mends_27 : decode cX11_mends 27 = .ok (.ldc 81, 2) := by decide +kernel
theorem dX11_mends_29 : decode cX11_mends 29 = .ok (.ireturn, 1) := by decide +kernel
theorem dX11_mends_30 : decode cX11_mends 30 = .ok (.aload_n 0, 1) := by decide +kernel
theorem dX11_mends_31 : decode cX11_mends 31 = .ok (.getfield 68, 3) := by decide +kernel
theorem dX11_mends_34 : decode cX11_mends 34 = .ok (.aload_n 0, 1) := by decide +kernel
theorem dX11_mends_35 : decode cX11_mends 35 = .ok (.getfield 58, 3) := by decide +kernel
theorem dX11_mends_38 : decode cX11_mends 38 = .ok (.iload_n 1, 1) := by decide +kernel
theorem dX11_mends_39 : decode cX11_mends 39 = .ok (.iload_n 2, 1) := by decide +kernel
theorem dX11_mends_40 : decode cX11_mends 40 = .ok (.invokevirtual 252, 3) := by decide +kernel
theorem dX11_mends_43 : decode cX11_mends 43 = .ok (.iload_n 3, 1) := by decide +kernel
theorem dX11_mends_44 : decode cX11_mends 44 = .ok (.invokestatic 256, 3) := by decide +kernel
theorem dX11_mends_47 : decode cX11_mends 47 = .ok (.ireturn, 1) := by decide +kernel
theorem dX11_holds_0 : decode cX11_holds 0 = .ok (.aload_n 0, 1) := by decide +kernel
theorem dX11_holds_1 : decode cX11_holds 1 = .ok (.iload_n 1, 1) := by decide +kernel
theorem dX11_holds_2 : decode cX11_holds 2 = .ok (.invokevirtual 180, 3) := by decide +kernel
theorem dX11_holds_5 : decode cX11_holds 5 = .ok (.ifCond .eq 22, 3) := by decide +kernel
theorem dX11_holds_8 : decode cX11_holds 8 = .ok (.iload_n 2, 1) := by decide +kernel
theorem dX11_holds_9 : decode cX11_holds 9 = .ok (.iconst 1, 1) := by decide +kernel
theorem dX11_holds_10 : decode cX11_holds 10 = .ok (.bipush 30, 2) := by decide +kernel
theorem dX11_holds_12 : decode cX11_holds 12 = .ok (.invokestatic 77, 3) := by decide +kernel
theorem dX11_holds_15 : decode cX11_holds 15 = .ok (.ifCond .eq 12, 3) := by decide +kernel
theorem dX11_holds_18 : decode cX11_holds 18 = .ok (.iload_n 3, 1) := by decide +kernel
theorem dX11_holds_19 : decode cX11_holds 19 = .ok (.iconst 0, 1) := by decide +kernel
theorem dX11_holds_20 : decode cX11_holds 20 = .ok (.iconst 1, 1) := by decide +kernel
theorem dX11_holds_21 : decode cX11_holds 21 = .ok (.invokestatic 77, 3) := by decide +kernel
theorem dX11_holds_24 : decode cX11_holds 24 = .ok (.ifCond .ne 6, 3) := by decide +kernel
theorem dX11_holds_27 : decode cX11_holds 27 = .ok (.ldc 81, 2) := by decide +kernel
theorem dX11_holds_29 : decode cX11_holds 29 = .ok (.ireturn, 1) := by decide +kernel
theorem dX11_holds_30 : decode cX11_holds 30 = .ok (.aload_n 0, 1) := by decide +kernel
theorem dX11_holds_31 : decode cX11_holds 31 = .ok (.getfield 68, 3) := by decide +kernel
theorem dX11_holds_34 : decode cX11_holds 34 = .ok (.aload_n 0, 1) := by decide +kernel
theorem dX11_holds_35 : decode cX11_holds 35 = .ok (.getfield 58, 3) := by decide +kernel
theorem dX11_holds_38 : decode cX11_holds 38 = .ok (.iload_n 1, 1) := by decide +kernel
theorem dX11_holds_39 : decode cX11_holds 39 = .ok (.iload_n 2, 1) := by decide +kernel
theorem dX11_holds_40 : decode cX11_holds 40 = .ok (.invokevirtual 259, 3) := by decide +kernel
theorem dX11_holds_43 : decode cX11_holds 43 = .ok (.iload_n 3, 1) := by decide +kernel
theorem dX11_holds_44 : decode cX11_holds 44 = .ok (.invokestatic 256, 3) := by decide +kernel
theorem dX11_holds_47 : decode cX11_holds 47 = .ok (.ireturn, 1) := by decide +kernel
theorem dX11_line_0 : decode cX11_line 0 = .ok (.aload_n 0, 1) := by decide +kernel
theorem dX11_line_1 : decode cX11_line 1 = .ok (.invokevirtual 161, 3) := by decide +kernel
theorem dX11_line_4 : decode cX11_line 4 = .ok (.ifCond .eq 6, 3) := by decide +kernel
theorem dX11_line_7 : decode cX11_line 7 = .ok (.ldc 154, 2) := by decide +kernel
theorem dX11_line_9 : decode cX11_line 9 = .ok (.ireturn, 1) := by decide +kernel
theorem dX11_line_10 : decode cX11_line 10 = .ok (.iload_n 1, 1) := by decide +kernel
theorem dX11_line_11 : decode cX11_line 11 = .ok (.iconst 1, 1) := by decide +kernel
theorem dX11_line_12 : decode cX11_line 12 = .ok (.bipush 60, 2) := by decide +kernel
theorem dX11_line_14 : decode cX11_line 14 = .ok (.invokestatic 77, 3) := by decide +kernel
theorem dX11_line_17 : decode cX11_line 17 = .ok (.ifCond .eq 8, 3) := by decide +kernel
theorem dX11_line_20 : decode cX11_line 20 = .ok (.iload_n 2, 1) := by decide +kernel
theorem dX11_line_21 : decode cX11_line 21 = .ok (.iconst (-1), 1) := by decide +kernel
theorem dX11_line_22 : decode cX11_line 22 = .ok (.if_icmp .ge 6, 3) := by decide +kernel
theorem dX11_line_25 : decode cX11_line 25 = .ok (.ldc 81, 2) := by decide +kernel
theorem dX11_line_27 : decode cX11_line 27 = .ok (.ireturn, 1) := by decide +kernel
theorem dX11_line_28 : decode cX11_line 28 = .ok (.aload_n 0, 1) := by decide +kernel
theorem dX11_line_29 : decode cX11_line 29 = .ok (.getfield 68, 3) := by decide +kernel
theorem dX11_line_32 : decode cX11_line 32 = .ok (.aload_n 0, 1) := by decide +kernel
theorem dX11_line_33 : decode cX11_line 33 = .ok (.getfield 58, 3) := by decide +kernel
theorem dX11_line_36 : decode cX11_line 36 = .ok (.iload_n 1, 1) := by decide +kernel
theorem dX11_line_37 : decode cX11_line 37 = .ok (.invokevirtual 262, 3) := by decide +kernel
theorem dX11_line_40 : decode cX11_line 40 = .ok (.iload_n 2, 1) := by decide +kernel
theorem dX11_line_41 : decode cX11_line 41 = .ok (.iconst (-1), 1) := by decide +kernel
theorem dX11_line_42 : decode cX11_line 42 = .ok (.if_icmp .ne 11, 3) := by decide +kernel
theorem dX11_line_45 : decode cX11_line 45 = .ok (.aload_n 0, 1) := by decide +kernel
theorem dX11_line_46 : decode cX11_line 46 = .ok (.getfield 68, 3) := by decide +kernel
theorem dX11_line_49 : decode cX11_line 49 = .ok (.getfield 266, 3) := by decide +kernel
theorem dX11_line_52 : decode cX11_line 52 = .ok (.ireturn, 1) := by decide +kernel
theorem dX11_line_53 : decode cX11_line 53 = .ok (.iload_n 2, 1) := by decide +kernel
theorem dX11_line_54 : decode cX11_line 54 = .ok (.aload_n 0, 1) := by decide +kernel
theorem dX11_line_55 : decode cX11_line 55 = .ok (.getfield 68, 3) := by decide +kernel
theorem dX11_line_58 : decode cX11_line 58 = .ok (.getfield 269, 3) := by decide +kernel
theorem dX11_line_61 : decode cX11_line 61 = .ok (.if_icmp .ge 15, 3) := by decide +kernel
theorem dX11_line_64 : decode cX11_line 64 = .ok (.aload_n 0, 1) := by decide +kernel
theorem dX11_line_65 : decode cX11_line 65 = .ok (.getfield 68, 3) := by decide +kernel
theorem dX11_line_68 : decode cX11_line 68 = .ok (.getfield 272, 3) := by decide +kernel
theorem dX11_line_71 : decode cX11_line 71 = .ok (.iload_n 2, 1) := by decide +kernel
theorem dX11_line_72 : decode cX11_line 72 = .ok (.iaload, 1) := by decide +kernel
theorem dX11_line_73 : decode cX11_line 73 = .ok (.goto 5, 3) := by decide +kernel
theorem dX11_line_76 : decode cX11_line 76 = .ok (.ldc 242, 2) := by decide +kernel
theorem dX11_line_78 : decode cX11_line 78 = .ok (.ireturn, 1) := by decide +kernel
theorem dX11_heavy_0 : decode cX11_heavy 0 = .ok (.aload_n 0, 1) := by decide +kernel
theorem dX11_heavy_1 : decode cX11_heavy 1 = .ok (.invokevirtual 161, 3) := by decide +kernel
theorem dX11_heavy_4 : decode cX11_heavy 4 = .ok (.ifCond .eq 6, 3) := by decide +kernel
theorem dX11_heavy_7 : decode cX11_heavy 7 = .ok (.ldc 154, 2) := by decide +kernel
theorem dX11_heavy_9 : decode cX11_heavy 9 = .ok (.ireturn, 1) := by decide +kernel
theorem dX11_heavy_10 : decode cX11_heavy 10 = .ok (.iload_n 1, 1) := by decide +kernel
theorem dX11_heavy_11 : decode cX11_heavy 11 = .ok (.iconst 1, 1) := by decide +kernel
theorem dX11_heavy_12 : decode cX11_heavy 12 = .ok (.bipush 60, 2) := by decide +kernel
theorem dX11_heavy_14 : decode cX11_heavy 14 = .ok (.invokestatic 77, 3) := by decide +kernel
theorem dX11_heavy_17 : decode cX11_heavy 17 = .ok (.ifCond .ne 6, 3) := by decide +kernel
theorem dX11_heavy_20 : decode cX11_heavy 20 = .ok (.ldc 81, 2) := by decide +kernel
theorem dX11_heavy_22 : decode cX11_heavy 22 = .ok (.ireturn, 1) := by decide +kernel
theorem dX11_heavy_23 : decode cX11_heavy 23 = .ok (.aload_n 0, 1) := by decide +kernel
theorem dX11_heavy_24 : decode cX11_heavy 24 = .ok (.getfield 68, 3) := by decide +kernel
theorem dX11_heavy_27 : decode cX11_heavy 27 = .ok (.aload_n 0, 1) := by decide +kernel
theorem dX11_heavy_28 : decode cX11_heavy 28 = .ok (.getfield 58, 3) := by decide +kernel
theorem dX11_heavy_31 : decode cX11_heavy 31 = .ok (.iload_n 1, 1) := by decide +kernel
theorem dX11_heavy_32 : decode cX11_heavy 32 = .ok (.invokevirtual 275, 3) := by decide +kernel
theorem dX11_heavy_35 : decode cX11_heavy 35 = .ok (.ireturn, 1) := by decide +kernel
theorem dX11_who_0 : decode cX11_who 0 = .ok (.aload_n 0, 1) := by decide +kernel
theorem dX11_who_1 : decode cX11_who 1 = .ok (.iload_n 1, 1) := by decide +kernel
theorem dX11_who_2 : decode cX11_who 2 = .ok (.invokevirtual 180, 3) := by decide +kernel
theorem dX11_who_5 : decode cX11_who 5 = .ok (.ifCond .eq 39, 3) := by decide +kernel
theorem dX11_who_8 : decode cX11_who 8 = .ok (.iload_n 2, 1) := by decide +kernel
theorem dX11_who_9 : decode cX11_who 9 = .ok (.iconst 0, 1) := by decide +kernel
theorem dX11_who_10 : decode cX11_who 10 = .ok (.iconst 2, 1) := by decide +kernel
theorem dX11_who_11 : decode cX11_who 11 = .ok (.invokestatic 77, 3) := by decide +kernel
theorem dX11_who_14 : decode cX11_who 14 = .ok (.ifCond .eq 30, 3) := by decide +kernel
theorem dX11_who_17 : decode cX11_who 17 = .ok (.aload_n 0, 1) := by decide +kernel
theorem dX11_who_18 : decode cX11_who 18 = .ok (.iload_n 3, 1) := by decide +kernel
theorem dX11_who_19 : decode cX11_who 19 = .ok (.invokevirtual 180, 3) := by decide +kernel
theorem dX11_who_22 : decode cX11_who 22 = .ok (.ifCond .eq 22, 3) := by decide +kernel
theorem dX11_who_25 : decode cX11_who 25 = .ok (.iload 4, 2) := by decide +kernel
theorem dX11_who_27 : decode cX11_who 27 = .ok (.invokestatic 73, 3) := by decide +kernel
theorem dX11_who_30 : decode cX11_who 30 = .ok (.ifCond .eq 14, 3) := by decide +kernel
theorem dX11_who_33 : decode cX11_who 33 = .ok (.iload 6, 2) := by decide +kernel
theorem dX11_who_35 : decode cX11_who 35 = .ok (.iconst 1, 1) := by decide +kernel
theorem dX11_who_36 : decode cX11_who 36 = .ok (.bipush 12, 2) := by decide +kernel
theorem dX11_who_38 : decode cX11_who 38 = .ok (.invokestatic 77, 3) := by decide +kernel
theorem dX11_who_41 : decode cX11_who 41 = .ok (.ifCond .ne 6, 3) := by decide +kernel
theorem dX11_who_44 : decode cX11_who 44 = .ok (.ldc 81, 2) := by decide +kernel
theorem dX11_who_46 : decode cX11_who 46 = .ok (.ireturn, 1) := by decide +kernel
theorem dX11_who_47 : decode cX11_who 47 = .ok (.aload_n 0, 1) := by decide +kernel
theorem dX11_who_48 : decode cX11_who 48 = .ok (.getfield 11, 3) := by decide +kernel
theorem dX11_who_51 : decode cX11_who 51 = .ok (.iload 4, 2) := by decide +kernel
theorem dX11_who_53 : decode cX11_who 53 = .ok (.aaload, 1) := by decide +kernel
theorem dX11_who_54 : decode cX11_who 54 = .ok (.iload 5, 2) := by decide +kernel
theorem dX11_who_56 : decode cX11_who 56 = .ok (.iload 6, 2) := by decide +kernel
theorem dX11_who_58 : decode cX11_who 58 = .ok (.invokestatic 278, 3) := by decide +kernel
theorem dX11_who_61 : decode cX11_who 61 = .ok (.istore 7, 2) := by decide +kernel
theorem dX11_who_63 : decode cX11_who 63 = .ok (.iload 7, 2) := by decide +kernel
theorem dX11_who_65 : decode cX11_who 65 = .ok (.ifCond .eq 10, 3) := by decide +kernel
theorem dX11_who_68 : decode cX11_who 68 = .ok (.aload_n 0, 1) := by decide +kernel
theorem dX11_who_69 : decode cX11_who 69 = .ok (.iload 7, 2) := by decide +kernel
theorem dX11_who_71 : decode cX11_who 71 = .ok (.invokevirtual 82, 3) := by decide +kernel
theorem dX11_who_74 : decode cX11_who 74 = .ok (.ireturn, 1) := by decide +kernel
theorem dX11_who_75 : decode cX11_who 75 = .ok (.aload_n 0, 1) := by decide +kernel
theorem dX11_who_76 : decode cX11_who 76 = .ok (.getfield 68, 3) := by decide +kernel
theorem dX11_who_79 : decode cX11_who 79 = .ok (.aload_n 0, 1) := by decide +kernel
theorem dX11_who_80 : decode cX11_who 80 = .ok (.getfield 11, 3) := by decide +kernel
theorem dX11_who_83 : decode cX11_who 83 = .ok (.iload 4, 2) := by decide +kernel
theorem dX11_who_85 : decode cX11_who 85 = .ok (.aaload, 1) := by decide +kernel
theorem dX11_who_86 : decode cX11_who 86 = .ok (.iload 5, 2) := by decide +kernel
theorem dX11_who_88 : decode cX11_who 88 = .ok (.iload 6, 2) := by decide +kernel
theorem dX11_who_90 : decode cX11_who 90 = .ok (.iload_n 3, 1) := by decide +kernel
theorem dX11_who_91 : decode cX11_who 91 = .ok (.invokevirtual 282, 3) := by decide +kernel
theorem dX11_who_94 : decode cX11_who 94 = .ok (.iload_n 2, 1) := by decide +kernel
theorem dX11_who_95 : decode cX11_who 95 = .ok (.lookupswitch 59 #[(0, 25), (1, 42)], 25) := by decide +kernel
theorem dX11_who_120 : decode cX11_who 120 = .ok (.aload_n 0, 1) := by decide +kernel
theorem dX11_who_121 : decode cX11_who 121 = .ok (.aload_n 0, 1) := by decide +kernel
theorem dX11_who_122 : decode cX11_who 122 = .ok (.getfield 68, 3) := by decide +kernel
theorem dX11_who_125 : decode cX11_who 125 = .ok (.aload_n 0, 1) := by decide +kernel
theorem dX11_who_126 : decode cX11_who 126 = .ok (.getfield 58, 3) := by decide +kernel
theorem dX11_who_129 : decode cX11_who 129 = .ok (.iload_n 1, 1) := by decide +kernel
theorem dX11_who_130 : decode cX11_who 130 = .ok (.invokevirtual 286, 3) := by decide +kernel
theorem dX11_who_133 : decode cX11_who 133 = .ok (.invokevirtual 90, 3) := by decide +kernel
theorem dX11_who_136 : decode cX11_who 136 = .ok (.ireturn, 1) := by decide +kernel
theorem dX11_who_137 : decode cX11_who 137 = .ok (.aload_n 0, 1) := by decide +kernel
theorem dX11_who_138 : decode cX11_who 138 = .ok (.aload_n 0, 1) := by decide +kernel
theorem dX11_who_139 : decode cX11_who 139 = .ok (.getfield 68, 3) := by decide +kernel
theorem dX11_who_142 : decode cX11_who 142 = .ok (.aload_n 0, 1) := by decide +kernel
theorem dX11_who_143 : decode cX11_who 143 = .ok (.getfield 58, 3) := by decide +kernel
theorem dX11_who_146 : decode cX11_who 146 = .ok (.iload_n 1, 1) := by decide +kernel
theorem dX11_who_147 : decode cX11_who 147 = .ok (.invokevirtual 289, 3) := by decide +kernel
theorem dX11_who_150 : decode cX11_who 150 = .ok (.invokevirtual 90, 3) := by decide +kernel
theorem dX11_who_153 : decode cX11_who 153 = .ok (.ireturn, 1) := by decide +kernel
theorem dX11_who_154 : decode cX11_who 154 = .ok (.aload_n 0, 1) := by decide +kernel
theorem dX11_who_155 : decode cX11_who 155 = .ok (.aload_n 0, 1) := by decide +kernel
theorem dX11_who_156 : decode cX11_who 156 = .ok (.getfield 68, 3) := by decide +kernel
theorem dX11_who_159 : decode cX11_who 159 = .ok (.aload_n 0, 1) := by decide +kernel
theorem dX11_who_160 : decode cX11_who 160 = .ok (.getfield 58, 3) := by decide +kernel
theorem dX11_who_163 : decode cX11_who 163 = .ok (.iload_n 1, 1) := by decide +kernel
theorem dX11_who_164 : decode cX11_who 164 = .ok (.invokevirtual 292, 3) := by decide +kernel
theorem dX11_who_167 : decode cX11_who 167 = .ok (.invokevirtual 90, 3) := by decide +kernel
theorem dX11_who_170 : decode cX11_who 170 = .ok (.ireturn, 1) := by decide +kernel
theorem dX11_rotten_0 : decode cX11_rotten 0 = .ok (.aload_n 0, 1) := by decide +kernel
theorem dX11_rotten_1 : decode cX11_rotten 1 = .ok (.iload_n 1, 1) := by decide +kernel
theorem dX11_rotten_2 : decode cX11_rotten 2 = .ok (.invokevirtual 180, 3) := by decide +kernel
theorem dX11_rotten_5 : decode cX11_rotten 5 = .ok (.ifCond .eq 21, 3) := by decide +kernel
theorem dX11_rotten_8 : decode cX11_rotten 8 = .ok (.iload_n 2, 1) := by decide +kernel
theorem dX11_rotten_9 : decode cX11_rotten 9 = .ok (.invokestatic 73, 3) := by decide +kernel
theorem dX11_rotten_12 : decode cX11_rotten 12 = .ok (.ifCond .eq 14, 3) := by decide +kernel
theorem dX11_rotten_15 : decode cX11_rotten 15 = .ok (.iload 4, 2) := by decide +kernel
theorem dX11_rotten_17 : decode cX11_rotten 17 = .ok (.iconst 1, 1) := by decide +kernel
theorem dX11_rotten_18 : decode cX11_rotten 18 = .ok (.bipush 12, 2) := by decide +kernel
theorem dX11_rotten_20 : decode cX11_rotten 20 = .ok (.invokestatic 77, 3) := by decide +kernel
theorem dX11_rotten_23 : decode cX11_rotten 23 = .ok (.ifCond .ne 6, 3) := by decide +kernel
theorem dX11_rotten_26 : decode cX11_rotten 26 = .ok (.ldc 81, 2) := by decide +kernel
theorem dX11_rotten_28 : decode cX11_rotten 28 = .ok (.ireturn, 1) := by decide +kernel
theorem dX11_rotten_29 : decode cX11_rotten 29 = .ok (.aload_n 0, 1) := by decide +kernel
theorem dX11_rotten_30 : decode cX11_rotten 30 = .ok (.getfield 11, 3) := by decide +kernel
theorem dX11_rotten_33 : decode cX11_rotten 33 = .ok (.iload_n 2, 1) := by decide +kernel
theorem dX11_rotten_34 : decode cX11_rotten 34 = .ok (.aaload, 1) := by decide +kernel
theorem dX11_rotten_35 : decode cX11_rotten 35 = .ok (.iload_n 3, 1) := by decide +kernel
theorem dX11_rotten_36 : decode cX11_rotten 36 = .ok (.iload 4, 2) := by decide +kernel
theorem dX11_rotten_38 : decode cX11_rotten 38 = .ok (.invokestatic 278, 3) := by decide +kernel
theorem dX11_rotten_41 : decode cX11_rotten 41 = .ok (.istore 5, 2) := by decide +kernel
theorem dX11_rotten_43 : decode cX11_rotten 43 = .ok (.iload 5, 2) := by decide +kernel
theorem dX11_rotten_45 : decode cX11_rotten 45 = .ok (.ifCond .eq 10, 3) := by decide +kernel
theorem dX11_rotten_48 : decode cX11_rotten 48 = .ok (.aload_n 0, 1) := by decide +kernel
theorem dX11_rotten_49 : decode cX11_rotten 49 = .ok (.iload 5, 2) := by decide +kernel
theorem dX11_rotten_51 : decode cX11_rotten 51 = .ok (.invokevirtual 82, 3) := by decide +kernel
theorem dX11_rotten_54 : decode cX11_rotten 54 = .ok (.ireturn, 1) := by decide +kernel
theorem dX11_rotten_55 : decode cX11_rotten 55 = .ok (.aload_n 0, 1) := by decide +kernel
theorem dX11_rotten_56 : decode cX11_rotten 56 = .ok (.getfield 68, 3) := by decide +kernel
theorem dX11_rotten_59 : decode cX11_rotten 59 = .ok (.aload_n 0, 1) := by decide +kernel
theorem dX11_rotten_60 : decode cX11_rotten 60 = .ok (.getfield 11, 3) := by decide +kernel
theorem dX11_rotten_63 : decode cX11_rotten 63 = .ok (.iload_n 2, 1) := by decide +kernel
theorem dX11_rotten_64 : decode cX11_rotten 64 = .ok (.aaload, 1) := by decide +kernel
theorem dX11_rotten_65 : decode cX11_rotten 65 = .ok (.iload_n 3, 1) := by decide +kernel
theorem dX11_rotten_66 : decode cX11_rotten 66 = .ok (.iload 4, 2) := by decide +kernel
theorem dX11_rotten_68 : decode cX11_rotten 68 = .ok (.iload_n 1, 1) := by decide +kernel
theorem dX11_rotten_69 : decode cX11_rotten 69 = .ok (.invokevirtual 282, 3) := by decide +kernel
theorem dX11_rotten_72 : decode cX11_rotten 72 = .ok (.aload_n 0, 1) := by decide +kernel
theorem dX11_rotten_73 : decode cX11_rotten 73 = .ok (.aload_n 0, 1) := by decide +kernel
theorem dX11_rotten_74 : decode cX11_rotten 74 = .ok (.getfield 68, 3) := by decide +kernel
theorem dX11_rotten_77 : decode cX11_rotten 77 = .ok (.aload_n 0, 1) := by decide +kernel
theorem dX11_rotten_78 : decode cX11_rotten 78 = .ok (.getfield 58, 3) := by decide +kernel
theorem dX11_rotten_81 : decode cX11_rotten 81 = .ok (.invokevirtual 295, 3) := by decide +kernel
theorem dX11_rotten_84 : decode cX11_rotten 84 = .ok (.invokevirtual 90, 3) := by decide +kernel
theorem dX11_rotten_87 : decode cX11_rotten 87 = .ok (.ireturn, 1) := by decide +kernel
theorem dX11_risk_0 : decode cX11_risk 0 = .ok (.aload_n 0, 1) := by decide +kernel
theorem dX11_risk_1 : decode cX11_risk 1 = .ok (.iload_n 1, 1) := by decide +kernel
theorem dX11_risk_2 : decode cX11_risk 2 = .ok (.invokevirtual 180, 3) := by decide +kernel
theorem dX11_risk_5 : decode cX11_risk 5 = .ok (.ifCond .eq 33, 3) := by decide +kernel
theorem dX11_risk_8 : decode cX11_risk 8 = .ok (.iload_n 2, 1) := by decide +kernel
theorem dX11_risk_9 : decode cX11_risk 9 = .ok (.iconst 0, 1) := by decide +kernel
theorem dX11_risk_10 : decode cX11_risk 10 = .ok (.bipush 30, 2) := by decide +kernel
theorem dX11_risk_12 : decode cX11_risk 12 = .ok (.invokestatic 77, 3) := by decide +kernel
theorem dX11_risk_15 : decode cX11_risk 15 = .ok (.ifCond .eq 23, 3) := by decide +kernel
theorem dX11_risk_18 : decode cX11_risk 18 = .ok (.iload_n 3, 1) := by decide +kernel
theorem dX11_risk_19 : decode cX11_risk 19 = .ok (.iconst 0, 1) := by decide +kernel
theorem dX11_risk_20 : decode cX11_risk 20 = .ok (.bipush 10, 2) := by decide +kernel
theorem dX11_risk_22 : decode cX11_risk 22 = .ok (.invokestatic 77, 3) := by decide +kernel
theorem dX11_risk_25 : decode cX11_risk 25 = .ok (.ifCond .eq 13, 3) := by decide +kernel
theorem dX11_risk_28 : decode cX11_risk 28 = .ok (.iload 4, 2) := by decide +kernel
theorem dX11_risk_30 : decode cX11_risk 30 = .ok (.iconst 0, 1) := by decide +kernel
theorem dX11_risk_31 : decode cX11_risk 31 = .ok (.iconst 1, 1) := by decide +kernel
theorem dX11_risk_32 : decode cX11_risk 32 = .ok (.invokestatic 77, 3) := by decide +kernel
theorem dX11_risk_35 : decode cX11_risk 35 = .ok (.ifCond .ne 7, 3) := by decide +kernel
theorem dX11_risk_38 : decode cX11_risk 38 = .ok (.ldc2_w 299, 3) := by decide +kernel
theorem dX11_risk_41 : decode cX11_risk 41 = .ok (.lreturn, 1) := by decide +kernel
theorem dX11_risk_42 : decode cX11_risk 42 = .ok (.aload_n 0, 1) := by decide +kernel
theorem dX11_risk_43 : decode cX11_risk 43 = .ok (.getfield 68, 3) := by decide +kernel
theorem dX11_risk_46 : decode cX11_risk 46 = .ok (.aload_n 0, 1) := by decide +kernel
theorem dX11_risk_47 : decode cX11_risk 47 = .ok (.getfield 58, 3) := by decide +kernel
theorem dX11_risk_50 : decode cX11_risk 50 = .ok (.iload_n 1, 1) := by decide +kernel
theorem dX11_risk_51 : decode cX11_risk 51 = .ok (.iload_n 2, 1) := by decide +kernel
theorem dX11_risk_52 : decode cX11_risk 52 = .ok (.iload_n 3, 1) := by decide +kernel
theorem dX11_risk_53 : decode cX11_risk 53 = .ok (.invokevirtual 301, 3) := by decide +kernel
theorem dX11_risk_56 : decode cX11_risk 56 = .ok (.iload 4, 2) := by decide +kernel
theorem dX11_risk_58 : decode cX11_risk 58 = .ok (.ifCond .ne 13, 3) := by decide +kernel
theorem dX11_risk_61 : decode cX11_risk 61 = .ok (.aload_n 0, 1) := by decide +kernel
theorem dX11_risk_62 : decode cX11_risk 62 = .ok (.getfield 68, 3) := by decide +kernel
theorem dX11_risk_65 : decode cX11_risk 65 = .ok (.getfield 305, 3) := by decide +kernel
theorem dX11_risk_68 : decode cX11_risk 68 = .ok (.goto 10, 3) := by decide +kernel
theorem dX11_risk_71 : decode cX11_risk 71 = .ok (.aload_n 0, 1) := by decide +kernel
theorem dX11_risk_72 : decode cX11_risk 72 = .ok (.getfield 68, 3) := by decide +kernel
theorem dX11_risk_75 : decode cX11_risk 75 = .ok (.getfield 309, 3) := by decide +kernel
theorem dX11_risk_78 : decode cX11_risk 78 = .ok (.lreturn, 1) := by decide +kernel
theorem dX11_drawn_0 : decode cX11_drawn 0 = .ok (.aload_n 0, 1) := by decide +kernel
theorem dX11_drawn_1 : decode cX11_drawn 1 = .ok (.invokevirtual 161, 3) := by decide +kernel
theorem dX11_drawn_4 : decode cX11_drawn 4 = .ok (.ifCond .eq 6, 3) := by decide +kernel
theorem dX11_drawn_7 : decode cX11_drawn 7 = .ok (.ldc 154, 2) := by decide +kernel
theorem dX11_drawn_9 : decode cX11_drawn 9 = .ok (.ireturn, 1) := by decide +kernel
theorem dX11_drawn_10 : decode cX11_drawn 10 = .ok (.iload_n 1, 1) := by decide +kernel
theorem dX11_drawn_11 : decode cX11_drawn 11 = .ok (.iconst 0, 1) := by decide +kernel
theorem dX11_drawn_12 : decode cX11_drawn 12 = .ok (.bipush 60, 2) := by decide +kernel
theorem dX11_drawn_14 : decode cX11_drawn 14 = .ok (.invokestatic 77, 3) := by decide +kernel
theorem dX11_drawn_17 : decode cX11_drawn 17 = .ok (.ifCond .eq 23, 3) := by decide +kernel
theorem dX11_drawn_20 : decode cX11_drawn 20 = .ok (.iload_n 2, 1) := by decide +kernel
theorem dX11_drawn_21 : decode cX11_drawn 21 = .ok (.iconst 1, 1) := by decide +kernel
theorem dX11_drawn_22 : decode cX11_drawn 22 = .ok (.ldc_w 312, 3) := by decide +kernel
theorem dX11_drawn_25 : decode cX11_drawn 25 = .ok (.invokestatic 77, 3) := by decide +kernel
theorem dX11_drawn_28 : decode cX11_drawn 28 = .ok (.ifCond .eq 12, 3) := by decide +kernel
theorem dX11_drawn_31 : decode cX11_drawn 31 = .ok (.iload_n 3, 1) := by decide +kernel
theorem dX11_drawn_32 : decode cX11_drawn 32 = .ok (.iconst 0, 1) := by decide +kernel
theorem dX11_drawn_33 : decode cX11_drawn 33 = .ok (.iconst 1, 1) := by decide +kernel
theorem dX11_drawn_34 : decode cX11_drawn 34 = .ok (.invokestatic 77, 3) := by decide +kernel
theorem dX11_drawn_37 : decode cX11_drawn 37 = .ok (.ifCond .ne 6, 3) := by decide +kernel
theorem dX11_drawn_40 : decode cX11_drawn 40 = .ok (.ldc 81, 2) := by decide +kernel
theorem dX11_drawn_42 : decode cX11_drawn 42 = .ok (.ireturn, 1) := by decide +kernel
theorem dX11_drawn_43 : decode cX11_drawn 43 = .ok (.aload_n 0, 1) := by decide +kernel
theorem dX11_drawn_44 : decode cX11_drawn 44 = .ok (.getfield 68, 3) := by decide +kernel
theorem dX11_drawn_47 : decode cX11_drawn 47 = .ok (.aload_n 0, 1) := by decide +kernel
theorem dX11_drawn_48 : decode cX11_drawn 48 = .ok (.getfield 58, 3) := by decide +kernel
theorem dX11_drawn_51 : decode cX11_drawn 51 = .ok (.iload_n 1, 1) := by decide +kernel
theorem dX11_drawn_52 : decode cX11_drawn 52 = .ok (.iload_n 2, 1) := by decide +kernel
theorem dX11_drawn_53 : decode cX11_drawn 53 = .ok (.invokevirtual 313, 3) := by decide +kernel
theorem dX11_drawn_56 : decode cX11_drawn 56 = .ok (.astore 4, 2) := by decide +kernel
theorem dX11_drawn_58 : decode cX11_drawn 58 = .ok (.iload_n 3, 1) := by decide +kernel
theorem dX11_drawn_59 : decode cX11_drawn 59 = .ok (.ifCond .ne 11, 3) := by decide +kernel
theorem dX11_drawn_62 : decode cX11_drawn 62 = .ok (.aload 4, 2) := by decide +kernel
theorem dX11_drawn_64 : decode cX11_drawn 64 = .ok (.invokevirtual 317, 3) := by decide +kernel
theorem dX11_drawn_67 : decode cX11_drawn 67 = .ok (.goto 16, 3) := by decide +kernel
theorem dX11_drawn_70 : decode cX11_drawn 70 = .ok (.aload 4, 2) := by decide +kernel
theorem dX11_drawn_72 : decode cX11_drawn 72 = .ok (.invokevirtual 249, 3) := by decide +kernel
theorem dX11_drawn_75 : decode cX11_drawn 75 = .ok (.aload_n 0, 1) := by decide +kernel
theorem dX11_drawn_76 : decode cX11_drawn 76 = .ok (.getfield 58, 3) := by decide +kernel
theorem dX11_drawn_79 : decode cX11_drawn 79 = .ok (.invokevirtual 249, 3) := by decide +kernel
theorem dX11_drawn_82 : decode cX11_drawn 82 = .ok (.isub, 1) := by decide +kernel
theorem dX11_drawn_83 : decode cX11_drawn 83 = .ok (.ireturn, 1) := by decide +kernel
theorem dX11_image_0 : decode cX11_image 0 = .ok (.iload_n 1, 1) := by decide +kernel
theorem dX11_image_1 : decode cX11_image 1 = .ok (.iconst 0, 1) := by decide +kernel
theorem dX11_image_2 : decode cX11_image 2 = .ok (.iconst 1, 1) := by decide +kernel
theorem dX11_image_3 : decode cX11_image 3 = .ok (.invokestatic 77, 3) := by decide +kernel
theorem dX11_image_6 : decode cX11_image 6 = .ok (.ifCond .ne 6, 3) := by decide +kernel
theorem dX11_image_9 : decode cX11_image 9 = .ok (.ldc 81, 2) := by decide +kernel
theorem dX11_image_11 : decode cX11_image 11 = .ok (.ireturn, 1) := by decide +kernel
theorem dX11_image_12 : decode cX11_image 12 = .ok (.aload_n 0, 1) := by decide +kernel
theorem dX11_image_13 : decode cX11_image 13 = .ok (.invokevirtual 161, 3) := by decide +kernel
theorem dX11_image_16 : decode cX11_image 16 = .ok (.ifCond .eq 6, 3) := by decide +kernel
theorem dX11_image_19 : decode cX11_image 19 = .ok (.ldc 154, 2) := by decide +kernel
theorem dX11_image_21 : decode cX11_image 21 = .ok (.ireturn, 1) := by decide +kernel
theorem dX11_image_22 : decode cX11_image 22 = .ok (.aload_n 0, 1) := by decide +kernel
theorem dX11_image_23 : decode cX11_image 23 = .ok (.getfield 28, 3) := by decide +kernel
theorem dX11_image_26 : decode cX11_image 26 = .ok (.iload_n 1, 1) := by decide +kernel
theorem dX11_image_27 : decode cX11_image 27 = .ok (.aaload, 1) := by decide +kernel
theorem dX11_image_28 : decode cX11_image 28 = .ok (.aload_n 0, 1) := by decide +kernel
theorem dX11_image_29 : decode cX11_image 29 = .ok (.getfield 58, 3) := by decide +kernel
theorem dX11_image_32 : decode cX11_image 32 = .ok (.invokevirtual 158, 3) := by decide +kernel
theorem dX11_image_35 : decode cX11_image 35 = .ok (.aload_n 0, 1) := by decide +kernel
theorem dX11_image_36 : decode cX11_image 36 = .ok (.dup, 1) := by decide +kernel
theorem dX11_image_37 : decode cX11_image 37 = .ok (.getfield 320, 3) := by decide +kernel
theorem dX11_image_40 : decode cX11_image 40 = .ok (.iconst 1, 1) := by decide +kernel
theorem dX11_image_41 : decode cX11_image 41 = .ok (.iload_n 1, 1) := by decide +kernel
theorem dX11_image_42 : decode cX11_image 42 = .ok (.ishl, 1) := by decide +kernel
theorem dX11_image_43 : decode cX11_image 43 = .ok (.ior, 1) := by decide +kernel
theorem dX11_image_44 : decode cX11_image 44 = .ok (.putfield 320, 3) := by decide +kernel
theorem dX11_image_47 : decode cX11_image 47 = .ok (.iconst 1, 1) := by decide +kernel
theorem dX11_image_48 : decode cX11_image 48 = .ok (.ireturn, 1) := by decide +kernel
theorem dX11_restore_0 : decode cX11_restore 0 = .ok (.iload_n 1, 1) := by decide +kernel
theorem dX11_restore_1 : decode cX11_restore 1 = .ok (.iconst 0, 1) := by decide +kernel
theorem dX11_restore_2 : decode cX11_restore 2 = .ok (.iconst 1, 1) := by decide +kernel
theorem dX11_restore_3 : decode cX11_restore 3 = .ok (.invokestatic 77, 3) := by decide +kernel
theorem dX11_restore_6 : decode cX11_restore 6 = .ok (.ifCond .ne 6, 3) := by decide +kernel
theorem dX11_restore_9 : decode cX11_restore 9 = .ok (.ldc 81, 2) := by decide +kernel
theorem dX11_restore_11 : decode cX11_restore 11 = .ok (.ireturn, 1) := by decide +kernel
theorem dX11_restore_12 : decode cX11_restore 12 = .ok (.aload_n 0, 1) := by decide +kernel
theorem dX11_restore_13 : decode cX11_restore 13 = .ok (.getfield 320, 3) := by decide +kernel
theorem dX11_restore_16 : decode cX11_restore 16 = .ok (.iload_n 1, 1) := by decide +kernel
theorem dX11_restore_17 : decode cX11_restore 17 = .ok (.ishr, 1) := by decide +kernel
theorem dX11_restore_18 : decode cX11_restore 18 = .ok (.iconst 1, 1) := by decide +kernel
theorem dX11_restore_19 : decode cX11_restore 19 = .ok (.iand, 1) := by decide +kernel
theorem dX11_restore_20 : decode cX11_restore 20 = .ok (.ifCond .ne 6, 3) := by decide +kernel
theorem dX11_restore_23 : decode cX11_restore 23 = .ok (.ldc 154, 2) := by decide +kernel
theorem dX11_restore_25 : decode cX11_restore 25 = .ok (.ireturn, 1) := by decide +kernel
theorem dX11_restore_26 : decode cX11_restore 26 = .ok (.aload_n 0, 1) := by decide +kernel
theorem dX11_restore_27 : decode cX11_restore 27 = .ok (.aload_n 0, 1) := by decide +kernel
theorem dX11_restore_28 : decode cX11_restore 28 = .ok (.getfield 28, 3) := by decide +kernel
theorem dX11_restore_31 : decode cX11_restore 31 = .ok (.iload_n 1, 1) := by decide +kernel
theorem dX11_restore_32 : decode cX11_restore 32 = .ok (.aaload, 1) := by decide +kernel
theorem dX11_restore_33 : decode cX11_restore 33 = .ok (.invokevirtual 144, 3) := by decide +kernel
theorem dX11_restore_36 : decode cX11_restore 36 = .ok (.iconst 1, 1) := by decide +kernel
theorem dX11_restore_37 : decode cX11_restore 37 = .ok (.ireturn, 1) := by decide +kernel
theorem dX11_kind_0 : decode cX11_kind 0 = .ok (.aload_n 0, 1) := by decide +kernel
theorem dX11_kind_1 : decode cX11_kind 1 = .ok (.iload_n 1, 1) := by decide +kernel
theorem dX11_kind_2 : decode cX11_kind 2 = .ok (.invokevirtual 180, 3) := by decide +kernel
theorem dX11_kind_5 : decode cX11_kind 5 = .ok (.ifCond .eq 15, 3) := by decide +kernel
theorem dX11_kind_8 : decode cX11_kind 8 = .ok (.aload_n 0, 1) := by decide +kernel
theorem dX11_kind_9 : decode cX11_kind 9 = .ok (.getfield 58, 3) := by decide +kernel
theorem dX11_kind_12 : decode cX11_kind 12 = .ok (.getfield 323, 3) := by decide +kernel
theorem dX11_kind_15 : decode cX11_kind 15 = .ok (.iload_n 1, 1) := by decide +kernel
theorem dX11_kind_16 : decode cX11_kind 16 = .ok (.iaload, 1) := by decide +kernel
theorem dX11_kind_17 : decode cX11_kind 17 = .ok (.goto 5, 3) := by decide +kernel
theorem dX11_kind_20 : decode cX11_kind 20 = .ok (.ldc 81, 2) := by decide +kernel
theorem dX11_kind_22 : decode cX11_kind 22 = .ok (.ireturn, 1) := by decide +kernel
theorem dX11_as_0 : decode cX11_as 0 = .ok (.aload_n 0, 1) := by decide +kernel
theorem dX11_as_1 : decode cX11_as 1 = .ok (.iload_n 1, 1) := by decide +kernel
theorem dX11_as_2 : decode cX11_as 2 = .ok (.invokevirtual 180, 3) := by decide +kernel
theorem dX11_as_5 : decode cX11_as 5 = .ok (.ifCond .eq 12, 3) := by decide +kernel
theorem dX11_as_8 : decode cX11_as 8 = .ok (.iload_n 2, 1) := by decide +kernel
theorem dX11_as_9 : decode cX11_as 9 = .ok (.iconst 0, 1) := by decide +kernel
theorem dX11_as_10 : decode cX11_as 10 = .ok (.iconst 5, 1) := by decide +kernel
theorem dX11_as_11 : decode cX11_as 11 = .ok (.invokestatic 77, 3) := by decide +kernel
theorem dX11_as_14 : decode cX11_as 14 = .ok (.ifCond .ne 6, 3) := by decide +kernel
theorem dX11_as_17 : decode cX11_as 17 = .ok (.ldc 81, 2) := by decide +kernel
theorem dX11_as_19 : decode cX11_as 19 = .ok (.ireturn, 1) := by decide +kernel
theorem dX11_as_20 : decode cX11_as 20 = .ok (.aload_n 0, 1) := by decide +kernel
theorem dX11_as_21 : decode cX11_as 21 = .ok (.getfield 58, 3) := by decide +kernel
theorem dX11_as_24 : decode cX11_as 24 = .ok (.iload_n 1, 1) := by decide +kernel
theorem dX11_as_25 : decode cX11_as 25 = .ok (.invokevirtual 326, 3) := by decide +kernel
theorem dX11_as_28 : decode cX11_as 28 = .ok (.iload_n 2, 1) := by decide +kernel
theorem dX11_as_29 : decode cX11_as 29 = .ok (.invokestatic 330, 3) := by decide +kernel
theorem dX11_as_32 : decode cX11_as 32 = .ok (.ifCond .eq 11, 3) := by decide +kernel
theorem dX11_as_35 : decode cX11_as 35 = .ok (.aload_n 0, 1) := by decide +kernel
theorem dX11_as_36 : decode cX11_as 36 = .ok (.iload_n 1, 1) := by decide +kernel
theorem dX11_as_37 : decode cX11_as 37 = .ok (.invokevirtual 90, 3) := by decide +kernel
theorem dX11_as_40 : decode cX11_as 40 = .ok (.goto 8, 3) := by decide +kernel
theorem dX11_as_43 : decode cX11_as 43 = .ok (.aload_n 0, 1) := by decide +kernel
theorem dX11_as_44 : decode cX11_as 44 = .ok (.iconst 3, 1) := by decide +kernel
theorem dX11_as_45 : decode cX11_as 45 = .ok (.invokevirtual 82, 3) := by decide +kernel
theorem dX11_as_48 : decode cX11_as 48 = .ok (.ireturn, 1) := by decide +kernel
theorem dX11_ask_0 : decode cX11_ask 0 = .ok (.aload_n 0, 1) := by decide +kernel
theorem dX11_ask_1 : decode cX11_ask 1 = .ok (.iload_n 1, 1) := by decide +kernel
theorem dX11_ask_2 : decode cX11_ask 2 = .ok (.invokevirtual 180, 3) := by decide +kernel
theorem dX11_ask_5 : decode cX11_ask 5 = .ok (.ifCond .eq 12, 3) := by decide +kernel
theorem dX11_ask_8 : decode cX11_ask 8 = .ok (.iload_n 2, 1) := by decide +kernel
theorem dX11_ask_9 : decode cX11_ask 9 = .ok (.iconst 0, 1) := by decide +kernel
theorem dX11_ask_10 : decode cX11_ask 10 = .ok (.iconst 1, 1) := by decide +kernel
theorem dX11_ask_11 : decode cX11_ask 11 = .ok (.invokestatic 77, 3) := by decide +kernel
theorem dX11_ask_14 : decode cX11_ask 14 = .ok (.ifCond .ne 6, 3) := by decide +kernel
theorem dX11_ask_17 : decode cX11_ask 17 = .ok (.ldc 81, 2) := by decide +kernel
theorem dX11_ask_19 : decode cX11_ask 19 = .ok (.ireturn, 1) := by decide +kernel
theorem dX11_ask_20 : decode cX11_ask 20 = .ok (.aload_n 0, 1) := by decide +kernel
theorem dX11_ask_21 : decode cX11_ask 21 = .ok (.getfield 58, 3) := by decide +kernel
theorem dX11_ask_24 : decode cX11_ask 24 = .ok (.iload_n 1, 1) := by decide +kernel
theorem dX11_ask_25 : decode cX11_ask 25 = .ok (.invokevirtual 326, 3) := by decide +kernel
theorem dX11_ask_28 : decode cX11_ask 28 = .ok (.astore_n 3, 1) := by decide +kernel
theorem dX11_ask_29 : decode cX11_ask 29 = .ok (.aload_n 3, 1) := by decide +kernel
theorem dX11_ask_30 : decode cX11_ask 30 = .ok (.ifnonnull 6, 3) := by decide +kernel
theorem dX11_ask_33 : decode cX11_ask 33 = .ok (.ldc 81, 2) := by decide +kernel
theorem dX11_ask_35 : decode cX11_ask 35 = .ok (.ireturn, 1) := by decide +kernel
theorem dX11_ask_36 : decode cX11_ask 36 = .ok (.aload_n 0, 1) := by decide +kernel
theorem dX11_ask_37 : decode cX11_ask 37 = .ok (.getfield 34, 3) := by decide +kernel
theorem dX11_ask_40 : decode cX11_ask 40 = .ok (.aload_n 0, 1) := by decide +kernel
theorem dX11_ask_41 : decode cX11_ask 41 = .ok (.getfield 58, 3) := by decide +kernel
theorem dX11_ask_44 : decode cX11_ask 44 = .ok (.iload_n 1, 1) := by decide +kernel
theorem dX11_ask_45 : decode cX11_ask 45 = .ok (.invokevirtual 334, 3) := by decide +kernel
theorem dX11_ask_48 : decode cX11_ask 48 = .ok (.iload_n 2, 1) := by decide +kernel
theorem dX11_ask_49 : decode cX11_ask 49 = .ok (.ifCond .ne 14, 3) := by decide +kernel
theorem dX11_ask_52 : decode cX11_ask 52 = .ok (.aload_n 3, 1) := by decide +kernel
theorem dX11_ask_53 : decode cX11_ask 53 = .ok (.aload_n 0, 1) := by decide +kernel
theorem dX11_ask_54 : decode cX11_ask 54 = .ok (.getfield 34, 3) := by decide +kernel
theorem dX11_ask_57 : decode cX11_ask 57 = .ok (.invokevirtual 337, 3) := by decide +kernel
theorem dX11_ask_60 : decode cX11_ask 60 = .ok (.goto 11, 3) := by decide +kernel
theorem dX11_ask_63 : decode cX11_ask 63 = .ok (.aload_n 3, 1) := by decide +kernel
theorem dX11_ask_64 : decode cX11_ask 64 = .ok (.aload_n 0, 1) := by decide +kernel
theorem dX11_ask_65 : decode cX11_ask 65 = .ok (.getfield 34, 3) := by decide +kernel
theorem dX11_ask_68 : decode cX11_ask 68 = .ok (.invokevirtual 341, 3) := by decide +kernel
theorem dX11_ask_71 : decode cX11_ask 71 = .ok (.ireturn, 1) := by decide +kernel
theorem dX11_trace_0 : decode cX11_trace 0 = .ok (.iload_n 1, 1) := by decide +kernel
theorem dX11_trace_1 : decode cX11_trace 1 = .ok (.ifCond .lt 26, 3) := by decide +kernel
theorem dX11_trace_4 : decode cX11_trace 4 = .ok (.iload_n 1, 1) := by decide +kernel
theorem dX11_trace_5 : decode cX11_trace 5 = .ok (.aload_n 0, 1) := by decide +kernel
theorem dX11_trace_6 : decode cX11_trace 6 = .ok (.getfield 34, 3) := by decide +kernel
theorem dX11_trace_9 : decode cX11_trace 9 = .ok (.getfield 344, 3) := by decide +kernel
theorem dX11_trace_12 : decode cX11_trace 12 = .ok (.if_icmp .ge 15, 3) := by decide +kernel
theorem dX11_trace_15 : decode cX11_trace 15 = .ok (.aload_n 0, 1) := by decide +kernel
theorem dX11_trace_16 : decode cX11_trace 16 = .ok (.getfield 34, 3) := by decide +kernel
theorem dX11_trace_19 : decode cX11_trace 19 = .ok (.getfield 347, 3) := by decide +kernel
theorem dX11_trace_22 : decode cX11_trace 22 = .ok (.iload_n 1, 1) := by decide +kernel
theorem dX11_trace_23 : decode cX11_trace 23 = .ok (.iaload, 1) := by decide +kernel
theorem dX11_trace_24 : decode cX11_trace 24 = .ok (.goto 5, 3) := by decide +kernel
theorem dX11_trace_27 : decode cX11_trace 27 = .ok (.ldc 242, 2) := by decide +kernel
theorem dX11_trace_29 : decode cX11_trace 29 = .ok (.ireturn, 1) := by decide +kernel
theorem dX11_count_0 : decode cX11_count 0 = .ok (.iload_n 1, 1) := by decide +kernel
theorem dX11_count_1 : decode cX11_count 1 = .ok (.tableswitch 105 0 7 #[47, 52, 60, 68, 76, 84, 92, 97], 47) := by decide +kernel
theorem dX11_count_48 : decode cX11_count 48 = .ok (.aload_n 0, 1) := by decide +kernel
theorem dX11_count_49 : decode cX11_count 49 = .ok (.invokevirtual 350, 3) := by decide +kernel
theorem dX11_count_52 : decode cX11_count 52 = .ok (.ireturn, 1) := by decide +kernel
theorem dX11_count_53 : decode cX11_count 53 = .ok (.aload_n 0, 1) := by decide +kernel
theorem dX11_count_54 : decode cX11_count 54 = .ok (.getfield 58, 3) := by decide +kernel
theorem dX11_count_57 : decode cX11_count 57 = .ok (.getfield 353, 3) := by decide +kernel
theorem dX11_count_60 : decode cX11_count 60 = .ok (.ireturn, 1) := by decide +kernel
theorem dX11_count_61 : decode cX11_count 61 = .ok (.aload_n 0, 1) := by decide +kernel
theorem dX11_count_62 : decode cX11_count 62 = .ok (.getfield 58, 3) := by decide +kernel
theorem dX11_count_65 : decode cX11_count 65 = .ok (.getfield 148, 3) := by decide +kernel
theorem dX11_count_68 : decode cX11_count 68 = .ok (.ireturn, 1) := by decide +kernel
theorem dX11_count_69 : decode cX11_count 69 = .ok (.aload_n 0, 1) := by decide +kernel
theorem dX11_count_70 : decode cX11_count 70 = .ok (.getfield 58, 3) := by decide +kernel
theorem dX11_count_73 : decode cX11_count 73 = .ok (.getfield 164, 3) := by decide +kernel
theorem dX11_count_76 : decode cX11_count 76 = .ok (.ireturn, 1) := by decide +kernel
theorem dX11_count_77 : decode cX11_count 77 = .ok (.aload_n 0, 1) := by decide +kernel
theorem dX11_count_78 : decode cX11_count 78 = .ok (.getfield 58, 3) := by decide +kernel
theorem dX11_count_81 : decode cX11_count 81 = .ok (.invokevirtual 317, 3) := by decide +kernel
theorem dX11_count_84 : decode cX11_count 84 = .ok (.ireturn, 1) := by decide +kernel
theorem dX11_count_85 : decode cX11_count 85 = .ok (.aload_n 0, 1) := by decide +kernel
theorem dX11_count_86 : decode cX11_count 86 = .ok (.getfield 58, 3) := by decide +kernel
theorem dX11_count_89 : decode cX11_count 89 = .ok (.invokevirtual 249, 3) := by decide +kernel
theorem dX11_count_92 : decode cX11_count 92 = .ok (.ireturn, 1) := by decide +kernel
theorem dX11_count_93 : decode cX11_count 93 = .ok (.aload_n 0, 1) := by decide +kernel
theorem dX11_count_94 : decode cX11_count 94 = .ok (.getfield 151, 3) := by decide +kernel
theorem dX11_count_97 : decode cX11_count 97 = .ok (.ireturn, 1) := by decide +kernel
theorem dX11_count_98 : decode cX11_count 98 = .ok (.aload_n 0, 1) := by decide +kernel
theorem dX11_count_99 : decode cX11_count 99 = .ok (.getfield 18, 3) := by decide +kernel
theorem dX11_count_102 : decode cX11_count 102 = .ok (.getfield 125, 3) := by decide +kernel
theorem dX11_count_105 : decode cX11_count 105 = .ok (.ireturn, 1) := by decide +kernel
theorem dX11_count_106 : decode cX11_count 106 = .ok (.ldc 81, 2) := by decide +kernel
theorem dX11_count_108 : decode cX11_count 108 = .ok (.ireturn, 1) := by decide +kernel
theorem dX11_status_0 : decode cX11_status 0 = .ok (.aload_n 0, 1) := by decide +kernel
theorem dX11_status_1 : decode cX11_status 1 = .ok (.getfield 356, 3) := by decide +kernel
theorem dX11_status_4 : decode cX11_status 4 = .ok (.ireturn, 1) := by decide +kernel
theorem dX11_isWithin_0 : decode cX11_isWithin 0 = .ok (.iload_n 0, 1) := by decide +kernel
theorem dX11_isWithin_1 : decode cX11_isWithin 1 = .ok (.iload_n 1, 1) := by decide +kernel
theorem dX11_isWithin_2 : decode cX11_isWithin 2 = .ok (.if_icmp .lt 12, 3) := by decide +kernel
theorem dX11_isWithin_5 : decode cX11_isWithin 5 = .ok (.iload_n 0, 1) := by decide +kernel
theorem dX11_isWithin_6 : decode cX11_isWithin 6 = .ok (.iload_n 2, 1) := by decide +kernel
theorem dX11_isWithin_7 : decode cX11_isWithin 7 = .ok (.if_icmp .gt 7, 3) := by decide +kernel
theorem dX11_isWithin_10 : decode cX11_isWithin 10 = .ok (.iconst 1, 1) := by decide +kernel
theorem dX11_isWithin_11 : decode cX11_isWithin 11 = .ok (.goto 4, 3) := by decide +kernel
theorem dX11_isWithin_14 : decode cX11_isWithin 14 = .ok (.iconst 0, 1) := by decide +kernel
theorem dX11_isWithin_15 : decode cX11_isWithin 15 = .ok (.ireturn, 1) := by decide +kernel
theorem dX11_isRow_0 : decode cX11_isRow 0 = .ok (.iload_n 0, 1) := by decide +kernel
theorem dX11_isRow_1 : decode cX11_isRow 1 = .ok (.iconst 0, 1) := by decide +kernel
theorem dX11_isRow_2 : decode cX11_isRow 2 = .ok (.bipush 7, 2) := by decide +kernel
theorem dX11_isRow_4 : decode cX11_isRow 4 = .ok (.invokestatic 77, 3) := by decide +kernel
theorem dX11_isRow_7 : decode cX11_isRow 7 = .ok (.ireturn, 1) := by decide +kernel
theorem dX11_isGoer_0 : decode cX11_isGoer 0 = .ok (.iload_n 1, 1) := by decide +kernel
theorem dX11_isGoer_1 : decode cX11_isGoer 1 = .ok (.iconst 0, 1) := by decide +kernel
theorem dX11_isGoer_2 : decode cX11_isGoer 2 = .ok (.aload_n 0, 1) := by decide +kernel
theorem dX11_isGoer_3 : decode cX11_isGoer 3 = .ok (.getfield 58, 3) := by decide +kernel
theorem dX11_isGoer_6 : decode cX11_isGoer 6 = .ok (.getfield 148, 3) := by decide +kernel
theorem dX11_isGoer_9 : decode cX11_isGoer 9 = .ok (.iconst 1, 1) := by decide +kernel
theorem dX11_isGoer_10 : decode cX11_isGoer 10 = .ok (.isub, 1) := by decide +kernel
theorem dX11_isGoer_11 : decode cX11_isGoer 11 = .ok (.invokestatic 77, 3) := by decide +kernel
theorem dX11_isGoer_14 : decode cX11_isGoer 14 = .ok (.ireturn, 1) := by decide +kernel
theorem dX11_isRung_0 : decode cX11_isRung 0 = .ok (.iload_n 1, 1) := by decide +kernel
theorem dX11_isRung_1 : decode cX11_isRung 1 = .ok (.iconst 0, 1) := by decide +kernel
theorem dX11_isRung_2 : decode cX11_isRung 2 = .ok (.aload_n 0, 1) := by decide +kernel
theorem dX11_isRung_3 : decode cX11_isRung 3 = .ok (.getfield 58, 3) := by decide +kernel
theorem dX11_isRung_6 : decode cX11_isRung 6 = .ok (.getfield 353, 3) := by decide +kernel
theorem dX11_isRung_9 : decode cX11_isRung 9 = .ok (.iconst 1, 1) := by decide +kernel
theorem dX11_isRung_10 : decode cX11_isRung 10 = .ok (.isub, 1) := by decide +kernel
theorem dX11_isRung_11 : decode cX11_isRung 11 = .ok (.invokestatic 77, 3) := by decide +kernel
theorem dX11_isRung_14 : decode cX11_isRung 14 = .ok (.ireturn, 1) := by decide +kernel
theorem dX11_hasNoLake_0 : decode cX11_hasNoLake 0 = .ok (.aload_n 0, 1) := by decide +kernel
theorem dX11_hasNoLake_1 : decode cX11_hasNoLake 1 = .ok (.getfield 58, 3) := by decide +kernel
theorem dX11_hasNoLake_4 : decode cX11_hasNoLake 4 = .ok (.getfield 353, 3) := by decide +kernel
theorem dX11_hasNoLake_7 : decode cX11_hasNoLake 7 = .ok (.ifCond .ne 7, 3) := by decide +kernel
theorem dX11_hasNoLake_10 : decode cX11_hasNoLake 10 = .ok (.iconst 1, 1) := by decide +kernel
theorem dX11_hasNoLake_11 : decode cX11_hasNoLake 11 = .ok (.goto 4, 3) := by decide +kernel
theorem dX11_hasNoLake_14 : decode cX11_hasNoLake 14 = .ok (.iconst 0, 1) := by decide +kernel
theorem dX11_hasNoLake_15 : decode cX11_hasNoLake 15 = .ok (.ireturn, 1) := by decide +kernel
theorem dX11_found_0 : decode cX11_found 0 = .ok (.aload_n 0, 1) := by decide +kernel
theorem dX11_found_1 : decode cX11_found 1 = .ok (.iload_n 1, 1) := by decide +kernel
theorem dX11_found_2 : decode cX11_found 2 = .ok (.putfield 356, 3) := by decide +kernel
theorem dX11_found_5 : decode cX11_found 5 = .ok (.ldc_w 359, 3) := by decide +kernel
theorem dX11_found_8 : decode cX11_found 8 = .ok (.iload_n 1, 1) := by decide +kernel
theorem dX11_found_9 : decode cX11_found 9 = .ok (.isub, 1) := by decide +kernel
theorem dX11_found_10 : decode cX11_found 10 = .ok (.ireturn, 1) := by decide +kernel
theorem dX11_fine_0 : decode cX11_fine 0 = .ok (.aload_n 0, 1) := by decide +kernel
theorem dX11_fine_1 : decode cX11_fine 1 = .ok (.iconst 0, 1) := by decide +kernel
theorem dX11_fine_2 : decode cX11_fine 2 = .ok (.putfield 356, 3) := by decide +kernel
theorem dX11_fine_5 : decode cX11_fine 5 = .ok (.iload_n 1, 1) := by decide +kernel
theorem dX11_fine_6 : decode cX11_fine 6 = .ok (.ireturn, 1) := by decide +kernel
theorem dX11_findingOfSpan_0 : decode cX11_findingOfSpan 0 = .ok (.aload_n 0, 1) := by decide +kernel
theorem dX11_findingOfSpan_1 : decode cX11_findingOfSpan 1 = .ok (.invokevirtual 93, 3) := by decide +kernel
theorem dX11_findingOfSpan_4 : decode cX11_findingOfSpan 4 = .ok (.ifCond .eq 5, 3) := by decide +kernel
theorem dX11_findingOfSpan_7 : decode cX11_findingOfSpan 7 = .ok (.iconst 1, 1) := by decide +kernel
theorem dX11_findingOfSpan_8 : decode cX11_findingOfSpan 8 = .ok (.ireturn, 1) := by decide +kernel
theorem dX11_findingOfSpan_9 : decode cX11_findingOfSpan 9 = .ok (.aload_n 0, 1) := by decide +kernel
theorem dX11_findingOfSpan_10 : decode cX11_findingOfSpan 10 = .ok (.iload_n 1, 1) := by decide +kernel
theorem dX11_findingOfSpan_11 : decode cX11_findingOfSpan 11 = .ok (.iload_n 2, 1) := by decide +kernel
theorem dX11_findingOfSpan_12 : decode cX11_findingOfSpan 12 = .ok (.invokevirtual 97, 3) := by decide +kernel
theorem dX11_findingOfSpan_15 : decode cX11_findingOfSpan 15 = .ok (.ifCond .eq 7, 3) := by decide +kernel
theorem dX11_findingOfSpan_18 : decode cX11_findingOfSpan 18 = .ok (.iconst 0, 1) := by decide +kernel
theorem dX11_findingOfSpan_19 : decode cX11_findingOfSpan 19 = .ok (.goto 4, 3) := by decide +kernel
theorem dX11_findingOfSpan_22 : decode cX11_findingOfSpan 22 = .ok (.iconst 2, 1) := by decide +kernel
theorem dX11_findingOfSpan_23 : decode cX11_findingOfSpan 23 = .ok (.ireturn, 1) := by decide +kernel
theorem dX11_lowestOf_0 : decode cX11_lowestOf 0 = .ok (.iload_n 0, 1) := by decide +kernel
theorem dX11_lowestOf_1 : decode cX11_lowestOf 1 = .ok (.iload_n 0, 1) := by decide +kernel
theorem dX11_lowestOf_2 : decode cX11_lowestOf 2 = .ok (.ineg, 1) := by decide +kernel
theorem dX11_lowestOf_3 : decode cX11_lowestOf 3 = .ok (.iand, 1) := by decide +kernel
theorem dX11_lowestOf_4 : decode cX11_lowestOf 4 = .ok (.iconst 1, 1) := by decide +kernel
theorem dX11_lowestOf_5 : decode cX11_lowestOf 5 = .ok (.isub, 1) := by decide +kernel
theorem dX11_lowestOf_6 : decode cX11_lowestOf 6 = .ok (.invokestatic 360, 3) := by decide +kernel
theorem dX11_lowestOf_9 : decode cX11_lowestOf 9 = .ok (.ireturn, 1) := by decide +kernel
theorem dX11_countOrSet_0 : decode cX11_countOrSet 0 = .ok (.iload_n 0, 1) := by decide +kernel
theorem dX11_countOrSet_1 : decode cX11_countOrSet 1 = .ok (.ldc 242, 2) := by decide +kernel
theorem dX11_countOrSet_3 : decode cX11_countOrSet 3 = .ok (.if_icmp .ne 6, 3) := by decide +kernel
theorem dX11_countOrSet_6 : decode cX11_countOrSet 6 = .ok (.ldc 242, 2) := by decide +kernel
theorem dX11_countOrSet_8 : decode cX11_countOrSet 8 = .ok (.ireturn, 1) := by decide +kernel
theorem dX11_countOrSet_9 : decode cX11_countOrSet 9 = .ok (.iload_n 1, 1) := by decide +kernel
theorem dX11_countOrSet_10 : decode cX11_countOrSet 10 = .ok (.ifCond .ne 10, 3) := by decide +kernel
theorem dX11_countOrSet_13 : decode cX11_countOrSet 13 = .ok (.iload_n 0, 1) := by decide +kernel
theorem dX11_countOrSet_14 : decode cX11_countOrSet 14 = .ok (.invokestatic 360, 3) := by decide +kernel
theorem dX11_countOrSet_17 : decode cX11_countOrSet 17 = .ok (.goto 4, 3) := by decide +kernel
theorem dX11_countOrSet_20 : decode cX11_countOrSet 20 = .ok (.iload_n 0, 1) := by decide +kernel
theorem dX11_countOrSet_21 : decode cX11_countOrSet 21 = .ok (.ireturn, 1) := by decide +kernel
theorem dX11_isOfKind_0 : decode cX11_isOfKind 0 = .ok (.iload_n 1, 1) := by decide +kernel
theorem dX11_isOfKind_1 : decode cX11_isOfKind 1 = .ok (.tableswitch 60 1 5 #[35, 40, 45, 50, 55], 35) := by decide +kernel
theorem dX11_isOfKind_36 : decode cX11_isOfKind 36 = .ok (.aload_n 0, 1) := by decide +kernel
theorem dX11_isOfKind_37 : decode cX11_isOfKind 37 = .ok (.instanceof 40, 3) := by decide +kernel
theorem dX11_isOfKind_40 : decode cX11_isOfKind 40 = .ok (.ireturn, 1) := by decide +kernel
theorem dX11_isOfKind_41 : decode cX11_isOfKind 41 = .ok (.aload_n 0, 1) := by decide +kernel
theorem dX11_isOfKind_42 : decode cX11_isOfKind 42 = .ok (.instanceof 43, 3) := by decide +kernel
theorem dX11_isOfKind_45 : decode cX11_isOfKind 45 = .ok (.ireturn, 1) := by decide +kernel
theorem dX11_isOfKind_46 : decode cX11_isOfKind 46 = .ok (.aload_n 0, 1) := by decide +kernel
theorem dX11_isOfKind_47 : decode cX11_isOfKind 47 = .ok (.instanceof 46, 3) := by decide +kernel
theorem dX11_isOfKind_50 : decode cX11_isOfKind 50 = .ok (.ireturn, 1) := by decide +kernel
theorem dX11_isOfKind_51 : decode cX11_isOfKind 51 = .ok (.aload_n 0, 1) := by decide +kernel
theorem dX11_isOfKind_52 : decode cX11_isOfKind 52 = .ok (.instanceof 49, 3) := by decide +kernel
theorem dX11_isOfKind_55 : decode cX11_isOfKind 55 = .ok (.ireturn, 1) := by decide +kernel
theorem dX11_isOfKind_56 : decode cX11_isOfKind 56 = .ok (.aload_n 0, 1) := by decide +kernel
theorem dX11_isOfKind_57 : decode cX11_isOfKind 57 = .ok (.instanceof 52, 3) := by decide +kernel
theorem dX11_isOfKind_60 : decode cX11_isOfKind 60 = .ok (.ireturn, 1) := by decide +kernel
theorem dX11_isOfKind_61 : decode cX11_isOfKind 61 = .ok (.aload_n 0, 1) := by decide +kernel
theorem dX11_isOfKind_62 : decode cX11_isOfKind 62 = .ok (.ifnull 7, 3) := by decide +kernel
theorem dX11_isOfKind_65 : decode cX11_isOfKind 65 = .ok (.iconst 1, 1) := by decide +kernel
theorem dX11_isOfKind_66 : decode cX11_isOfKind 66 = .ok (.goto 4, 3) := by decide +kernel
theorem dX11_isOfKind_69 : decode cX11_isOfKind 69 = .ok (.iconst 0, 1) := by decide +kernel
theorem dX11_isOfKind_70 : decode cX11_isOfKind 70 = .ok (.ireturn, 1) := by decide +kernel
theorem dX11_howManyRows_0 : decode cX11_howManyRows 0 = .ok (.iconst 0, 1) := by decide +kernel
theorem dX11_howManyRows_1 : decode cX11_howManyRows 1 = .ok (.istore_n 1, 1) := by decide +kernel
theorem dX11_howManyRows_2 : decode cX11_howManyRows 2 = .ok (.iconst 0, 1) := by decide +kernel
theorem dX11_howManyRows_3 : decode cX11_howManyRows 3 = .ok (.istore_n 2, 1) := by decide +kernel
theorem dX11_howManyRows_4 : decode cX11_howManyRows 4 = .ok (.iload_n 2, 1) := by decide +kernel
theorem dX11_howManyRows_5 : decode cX11_howManyRows 5 = .ok (.bipush 8, 2) := by decide +kernel
theorem dX11_howManyRows_7 : decode cX11_howManyRows 7 = .ok (.if_icmp .ge 24, 3) := by decide +kernel
theorem dX11_howManyRows_10 : decode cX11_howManyRows 10 = .ok (.aload_n 0, 1) := by decide +kernel
theorem dX11_howManyRows_11 : decode cX11_howManyRows 11 = .ok (.getfield 11, 3) := by decide +kernel
theorem dX11_howManyRows_14 : decode cX11_howManyRows 14 = .ok (.iload_n 2, 1) := by decide +kernel
theorem dX11_howManyRows_15 : decode cX11_howManyRows 15 = .ok (.aaload, 1) := by decide +kernel
theorem dX11_howManyRows_16 : decode cX11_howManyRows 16 = .ok (.invokevirtual 93, 3) := by decide +kernel
theorem dX11_howManyRows_19 : decode cX11_howManyRows 19 = .ok (.ifCond .ne 6, 3) := by decide +kernel
theorem dX11_howManyRows_22 : decode cX11_howManyRows 22 = .ok (.iinc 1 1, 3) := by decide +kernel
theorem dX11_howManyRows_25 : decode cX11_howManyRows 25 = .ok (.iinc 2 1, 3) := by decide +kernel
theorem dX11_howManyRows_28 : decode cX11_howManyRows 28 = .ok (.goto (-24), 3) := by decide +kernel
theorem dX11_howManyRows_31 : decode cX11_howManyRows 31 = .ok (.iload_n 1, 1) := by decide +kernel
theorem dX11_howManyRows_32 : decode cX11_howManyRows 32 = .ok (.ireturn, 1) := by decide +kernel
theorem dX11_putLake_0 : decode cX11_putLake 0 = .ok (.aload_n 0, 1) := by decide +kernel
theorem dX11_putLake_1 : decode cX11_putLake 1 = .ok (.getfield 58, 3) := by decide +kernel
theorem dX11_putLake_4 : decode cX11_putLake 4 = .ok (.aload_n 1, 1) := by decide +kernel
theorem dX11_putLake_5 : decode cX11_putLake 5 = .ok (.invokevirtual 158, 3) := by decide +kernel
theorem dX11_putLake_8 : decode cX11_putLake 8 = .ok (.aload_n 0, 1) := by decide +kernel
theorem dX11_putLake_9 : decode cX11_putLake 9 = .ok (.iconst 0, 1) := by decide +kernel
theorem dX11_putLake_10 : decode cX11_putLake 10 = .ok (.putfield 151, 3) := by decide +kernel
theorem dX11_putLake_13 : decode cX11_putLake 13 = .ok (.return_, 1) := by decide +kernel
theorem dX11_keepAct_0 : decode cX11_keepAct 0 = .ok (.aload_n 0, 1) := by decide +kernel
theorem dX11_keepAct_1 : decode cX11_keepAct 1 = .ok (.getfield 24, 3) := by decide +kernel
theorem dX11_keepAct_4 : decode cX11_keepAct 4 = .ok (.aload_n 0, 1) := by decide +kernel
theorem dX11_keepAct_5 : decode cX11_keepAct 5 = .ok (.getfield 155, 3) := by decide +kernel
theorem dX11_keepAct_8 : decode cX11_keepAct 8 = .ok (.aload_n 0, 1) := by decide +kernel
theorem dX11_keepAct_9 : decode cX11_keepAct 9 = .ok (.getfield 151, 3) := by decide +kernel
theorem dX11_keepAct_12 : decode cX11_keepAct 12 = .ok (.iadd, 1) := by decide +kernel
theorem dX11_keepAct_13 : decode cX11_keepAct 13 = .ok (.bipush 24, 2) := by decide +kernel
theorem dX11_keepAct_15 : decode cX11_keepAct 15 = .ok (.irem, 1) := by decide +kernel
theorem dX11_keepAct_16 : decode cX11_keepAct 16 = .ok (.aaload, 1) := by decide +kernel
theorem dX11_keepAct_17 : decode cX11_keepAct 17 = .ok (.aload_n 0, 1) := by decide +kernel
theorem dX11_keepAct_18 : decode cX11_keepAct 18 = .ok (.getfield 58, 3) := by decide +kernel
theorem dX11_keepAct_21 : decode cX11_keepAct 21 = .ok (.invokevirtual 158, 3) := by decide +kernel
theorem dX11_keepAct_24 : decode cX11_keepAct 24 = .ok (.aload_n 0, 1) := by decide +kernel
theorem dX11_keepAct_25 : decode cX11_keepAct 25 = .ok (.getfield 151, 3) := by decide +kernel
theorem dX11_keepAct_28 : decode cX11_keepAct 28 = .ok (.bipush 24, 2) := by decide +kernel
theorem dX11_keepAct_30 : decode cX11_keepAct 30 = .ok (.if_icmp .ge 16, 3) := by decide +kernel
theorem dX11_keepAct_33 : decode cX11_keepAct 33 = .ok (.aload_n 0, 1) := by decide +kernel
theorem dX11_keepAct_34 : decode cX11_keepAct 34 = .ok (.dup, 1) := by decide +kernel
theorem dX11_keepAct_35 : decode cX11_keepAct 35 = .ok (.getfield 151, 3) := by decide +kernel
theorem dX11_keepAct_38 : decode cX11_keepAct 38 = .ok (.iconst 1, 1) := by decide +kernel
theorem dX11_keepAct_39 : decode cX11_keepAct 39 = .ok (.iadd, 1) := by decide +kernel
theorem dX11_keepAct_40 : decode cX11_keepAct 40 = .ok (.putfield 151, 3) := by decide +kernel
theorem dX11_keepAct_43 : decode cX11_keepAct 43 = .ok (.goto 16, 3) := by decide +kernel
theorem dX11_keepAct_46 : decode cX11_keepAct 46 = .ok (.aload_n 0, 1) := by decide +kernel
theorem dX11_keepAct_47 : decode cX11_keepAct 47 = .ok (.aload_n 0, 1) := by decide +kernel
theorem dX11_keepAct_48 : decode cX11_keepAct 48 = .ok (.getfield 155, 3) := by decide +kernel
theorem dX11_keepAct_51 : decode cX11_keepAct 51 = .ok (.iconst 1, 1) := by decide +kernel
theorem dX11_keepAct_52 : decode cX11_keepAct 52 = .ok (.iadd, 1) := by decide +kernel
theorem dX11_keepAct_53 : decode cX11_keepAct 53 = .ok (.bipush 24, 2) := by decide +kernel
theorem dX11_keepAct_55 : decode cX11_keepAct 55 = .ok (.irem, 1) := by decide +kernel
theorem dX11_keepAct_56 : decode cX11_keepAct 56 = .ok (.putfield 155, 3) := by decide +kernel
theorem dX11_keepAct_59 : decode cX11_keepAct 59 = .ok (.return_, 1) := by decide +kernel
theorem dX12_init_0 : decode cX12_init 0 = .ok (.aload_n 0, 1) := by decide +kernel
theorem dX12_init_1 : decode cX12_init 1 = .ok (.invokespecial 1, 3) := by decide +kernel
theorem dX12_init_4 : decode cX12_init 4 = .ok (.aload_n 0, 1) := by decide +kernel
theorem dX12_init_5 : decode cX12_init 5 = .ok (.bipush 8, 2) := by decide +kernel
theorem dX12_init_7 : decode cX12_init 7 = .ok (.newarray .int, 2) := by decide +kernel
theorem dX12_init_9 : decode cX12_init 9 = .ok (.putfield 7, 3) := by decide +kernel
theorem dX12_init_12 : decode cX12_init 12 = .ok (.aload_n 0, 1) := by decide +kernel
theorem dX12_init_13 : decode cX12_init 13 = .ok (.bipush 8, 2) := by decide +kernel
theorem dX12_init_15 : decode cX12_init 15 = .ok (.newarray .int, 2) := by decide +kernel
theorem dX12_init_17 : decode cX12_init 17 = .ok (.putfield 13, 3) := by decide +kernel
theorem dX12_init_20 : decode cX12_init 20 = .ok (.aload_n 0, 1) := by decide +kernel
theorem dX12_init_21 : decode cX12_init 21 = .ok (.sipush 320, 3) := by decide +kernel
theorem dX12_init_24 : decode cX12_init 24 = .ok (.newarray .int, 2) := by decide +kernel
theorem dX12_init_26 : decode cX12_init 26 = .ok (.putfield 16, 3) := by decide +kernel
theorem dX12_init_29 : decode cX12_init 29 = .ok (.aload_n 0, 1) := by decide +kernel
theorem dX12_init_30 : decode cX12_init 30 = .ok (.bipush 45, 2) := by decide +kernel
theorem dX12_init_32 : decode cX12_init 32 = .ok (.newarray .int, 2) := by decide +kernel
theorem dX12_init_34 : decode cX12_init 34 = .ok (.putfield 19, 3) := by decide +kernel
theorem dX12_init_37 : decode cX12_init 37 = .ok (.aload_n 0, 1) := by decide +kernel
theorem dX12_init_38 : decode cX12_init 38 = .ok (.bipush 40, 2) := by decide +kernel
theorem dX12_init_40 : decode cX12_init 40 = .ok (.newarray .int, 2) := by decide +kernel
theorem dX12_init_42 : decode cX12_init 42 = .ok (.putfield 22, 3) := by decide +kernel
theorem dX12_init_45 : decode cX12_init 45 = .ok (.aload_n 0, 1) := by decide +kernel
theorem dX12_init_46 : decode cX12_init 46 = .ok (.bipush 100, 2) := by decide +kernel
theorem dX12_init_48 : decode cX12_init 48 = .ok (.newarray .int, 2) := by decide +kernel
theorem dX12_init_50 : decode cX12_init 50 = .ok (.putfield 25, 3) := by decide +kernel
theorem dX12_init_53 : decode cX12_init 53 = .ok (.aload_n 0, 1) := by decide +kernel
theorem dX12_init_54 : decode cX12_init 54 = .ok (.bipush 45, 2) := by decide +kernel
theorem dX12_init_56 : decode cX12_init 56 = .ok (.newarray .int, 2) := by decide +kernel
theorem dX12_init_58 : decode cX12_init 58 = .ok (.putfield 28, 3) := by decide +kernel
theorem dX12_init_61 : decode cX12_init 61 = .ok (.aload_n 0, 1) := by decide +kernel
theorem dX12_init_62 : decode cX12_init 62 = .ok (.sipush 1080, 3) := by decide +kernel
theorem dX12_init_65 : decode cX12_init 65 = .ok (.newarray .int, 2) := by decide +kernel
theorem dX12_init_67 : decode cX12_init 67 = .ok (.putfield 31, 3) := by decide +kernel
theorem dX12_init_70 : decode cX12_init 70 = .ok (.aload_n 0, 1) := by decide +kernel
theorem dX12_init_71 : decode cX12_init 71 = .ok (.bipush 45, 2) := by decide +kernel
theorem dX12_init_73 : decode cX12_init 73 = .ok (.newarray .int, 2) := by decide +kernel
theorem dX12_init_75 : decode cX12_init 75 = .ok (.putfield 34, 3) := by decide +kernel
theorem dX12_init_78 : decode cX12_init 78 = .ok (.aload_n 0, 1) := by decide +kernel
theorem dX12_init_79 : decode cX12_init 79 = .ok (.bipush 6, 2) := by decide +kernel
theorem dX12_init_81 : decode cX12_init 81 = .ok (.newarray .int, 2) := by decide +kernel
theorem dX12_init_83 : decode cX12_init 83 = .ok (.putfield 37, 3) := by decide +kernel
theorem dX12_init_86 : decode cX12_init 86 = .ok (.aload_n 0, 1) := by decide +kernel
theorem dX12_init_87 : decode cX12_init 87 = .ok (.bipush 6, 2) := by decide +kernel
theorem dX12_init_89 : decode cX12_init 89 = .ok (.newarray .int, 2) := by decide +kernel
theorem dX12_init_91 : decode cX12_init 91 = .ok (.putfield 40, 3) := by decide +kernel
theorem dX12_init_94 : decode cX12_init 94 = .ok (.aload_n 0, 1) := by decide +kernel
theorem dX12_init_95 : decode cX12_init 95 = .ok (.iconst 2, 1) := by decide +kernel
theorem dX12_init_96 : decode cX12_init 96 = .ok (.newarray .boolean, 2) := by decide +kernel
theorem dX12_init_98 : decode cX12_init 98 = .ok (.putfield 43, 3) := by decide +kernel
theorem dX12_init_101 : decode cX12_init 101 = .ok (.aload_n 0, 1) := by decide +kernel
theorem dX12_init_102 : decode cX12_init 102 = .ok (.bipush 90, 2) := by decide +kernel
theorem dX12_init_104 : decode cX12_init 104 = .ok (.newarray .int, 2) := by decide +kernel
theorem dX12_init_106 : decode cX12_init 106 = .ok (.putfield 47, 3) := by decide +kernel
theorem dX12_init_109 : decode cX12_init 109 = .ok (.aload_n 0, 1) := by decide +kernel
theorem dX12_init_110 : decode cX12_init 110 = .ok (.bipush 16, 2) := by decide +kernel
theorem dX12_init_112 : decode cX12_init 112 = .ok (.newarray .int, 2) := by decide +kernel
theorem dX12_init_114 : decode cX12_init 114 = .ok (.putfield 50, 3) := by decide +kernel
theorem dX12_init_117 : decode cX12_init 117 = .ok (.iconst 0, 1) := by decide +kernel
theorem dX12_init_118 : decode cX12_init 118 = .ok (.istore_n 1, 1) := by decide +kernel
theorem dX12_init_119 : decode cX12_init 119 = .ok (.iload_n 1, 1) := by decide +kernel
theorem dX12_init_120 : decode cX12_init 120 = .ok (.bipush 8, 2) := by decide +kernel
theorem dX12_init_122 : decode cX12_init 122 = .ok (.if_icmp .ge 16, 3) := by decide +kernel
theorem dX12_init_125 : decode cX12_init 125 = .ok (.aload_n 0, 1) := by decide +kernel
theorem dX12_init_126 : decode cX12_init 126 = .ok (.getfield 13, 3) := by decide +kernel
theorem dX12_init_129 : decode cX12_init 129 = .ok (.iload_n 1, 1) := by decide +kernel
theorem dX12_init_130 : decode cX12_init 130 = .ok (.iconst (-1), 1) := by decide +kernel
theorem dX12_init_131 : decode cX12_init 131 = .ok (.iastore, 1) := by decide +kernel
theorem dX12_init_132 : decode cX12_init 132 = .ok (.iinc 1 1, 3) := by decide +kernel
theorem dX12_init_135 : decode cX12_init 135 = .ok (.goto (-16), 3) := by decide +kernel
theorem dX12_init_138 : decode cX12_init 138 = .ok (.return_, 1) := by decide +kernel
theorem dX12_in_0 : decode cX12_in 0 = .ok (.lload_n 0, 1) := by decide +kernel
theorem dX12_in_1 : decode cX12_in 1 = .ok (.lload_n 2, 1) := by decide +kernel
theorem dX12_in_2 : decode cX12_in 2 = .ok (.lcmp, 1) := by decide +kernel
theorem dX12_in_3 : decode cX12_in 3 = .ok (.ifCond .lt 14, 3) := by decide +kernel
theorem dX12_in_6 : decode cX12_in 6 = .ok (.lload_n 0, 1) := by decide +kernel
theorem dX12_in_7 : decode cX12_in 7 = .ok (.lload 4, 2) := by decide +kernel
theorem dX12_in_9 : decode cX12_in 9 = .ok (.lcmp, 1) := by decide +kernel
theorem dX12_in_10 : decode cX12_in 10 = .ok (.ifCond .gt 7, 3) := by decide +kernel
theorem dX12_in_13 : decode cX12_in 13 = .ok (.iconst 1, 1) := by decide +kernel
theorem dX12_in_14 : decode cX12_in 14 = .ok (.goto 4, 3) := by decide +kernel
theorem dX12_in_17 : decode cX12_in 17 = .ok (.iconst 0, 1) := by decide +kernel
theorem dX12_in_18 : decode cX12_in 18 = .ok (.ireturn, 1) := by decide +kernel
theorem dX12_has_0 : decode cX12_has 0 = .ok (.iload_n 0, 1) := by decide +kernel
theorem dX12_has_1 : decode cX12_has 1 = .ok (.iload_n 1, 1) := by decide +kernel
theorem dX12_has_2 : decode cX12_has 2 = .ok (.ishr, 1) := by decide +kernel
theorem dX12_has_3 : decode cX12_has 3 = .ok (.iconst 1, 1) := by decide +kernel
theorem dX12_has_4 : decode cX12_has 4 = .ok (.iand, 1) := by decide +kernel
theorem dX12_has_5 : decode cX12_has 5 = .ok (.iconst 1, 1) := by decide +kernel
theorem dX12_has_6 : decode cX12_has 6 = .ok (.if_icmp .ne 7, 3) := by decide +kernel
theorem dX12_has_9 : decode cX12_has 9 = .ok (.iconst 1, 1) := by decide +kernel
theorem dX12_has_10 : decode cX12_has 10 = .ok (.goto 4, 3) := by decide +kernel
theorem dX12_has_13 : decode cX12_has 13 = .ok (.iconst 0, 1) := by decide +kernel
theorem dX12_has_14 : decode cX12_has 14 = .ok (.ireturn, 1) := by decide +kernel
theorem dX12_ones_0 : decode cX12_ones 0 = .ok (.iconst 0, 1) := by decide +kernel
theorem dX12_ones_1 : decode cX12_ones 1 = .ok (.istore_n 1, 1) := by decide +kernel
theorem dX12_ones_2 : decode cX12_ones 2 = .ok (.iload_n 0, 1) := by decide +kernel
theorem dX12_ones_3 : decode cX12_ones 3 = .ok (.istore_n 2, 1) := by decide +kernel
theorem dX12_ones_4 : decode cX12_ones 4 = .ok (.iload_n 2, 1) := by decide +kernel
theorem dX12_ones_5 : decode cX12_ones 5 = .ok (.ifCond .eq 15, 3) := by decide +kernel
theorem dX12_ones_8 : decode cX12_ones 8 = .ok (.iinc 1 1, 3) := by decide +kernel
theorem dX12_ones_11 : decode cX12_ones 11 = .ok (.iload_n 2, 1) := by decide +kernel
theorem dX12_ones_12 : decode cX12_ones 12 = .ok (.iload_n 2, 1) := by decide +kernel
theorem dX12_ones_13 : decode cX12_ones 13 = .ok (.iconst 1, 1) := by decide +kernel
theorem dX12_ones_14 : decode cX12_ones 14 = .ok (.isub, 1) := by decide +kernel
theorem dX12_ones_15 : decode cX12_ones 15 = .ok (.iand, 1) := by decide +kernel
theorem dX12_ones_16 : decode cX12_ones 16 = .ok (.istore_n 2, 1) := by decide +kernel
theorem dX12_ones_17 : decode cX12_ones 17 = .ok (.goto (-13), 3) := by decide +kernel
theorem dX12_ones_20 : decode cX12_ones 20 = .ok (.iload_n 1, 1) := by decide +kernel
theorem dX12_ones_21 : decode cX12_ones 21 = .ok (.ireturn, 1) := by decide +kernel
theorem dX12_find_0 : decode cX12_find 0 = .ok (.aload_n 0, 1) := by decide +kernel
theorem dX12_find_1 : decode cX12_find 1 = .ok (.iload_n 1, 1) := by decide +kernel
theorem dX12_find_2 : decode cX12_find 2 = .ok (.putfield 53, 3) := by decide +kernel
theorem dX12_find_5 : decode cX12_find 5 = .ok (.ldc 57, 2) := by decide +kernel
theorem dX12_find_7 : decode cX12_find 7 = .ok (.iload_n 1, 1) := by decide +kernel
theorem dX12_find_8 : decode cX12_find 8 = .ok (.isub, 1) := by decide +kernel
theorem dX12_find_9 : decode cX12_find 9 = .ok (.ireturn, 1) := by decide +kernel
theorem dX12_well_0 : decode cX12_well 0 = .ok (.aload_n 0, 1) := by decide +kernel
theorem dX12_well_1 : decode cX12_well 1 = .ok (.iconst 0, 1) := by decide +kernel
theorem dX12_well_2 : decode cX12_well 2 = .ok (.putfield 53, 3) := by decide +kernel
theorem dX12_well_5 : decode cX12_well 5 = .ok (.iload_n 1, 1) := by decide +kernel
theorem dX12_well_6 : decode cX12_well 6 = .ok (.ireturn, 1) := by decide +kernel
theorem dX12_isRow_0 : decode cX12_isRow 0 = .ok (.iload_n 0, 1) := by decide +kernel
theorem dX12_isRow_1 : decode cX12_isRow 1 = .ok (.i2l, 1) := by decide +kernel
theorem dX12_isRow_2 : decode cX12_isRow 2 = .ok (.lconst 0, 1) := by decide +kernel
theorem dX12_isRow_3 : decode cX12_isRow 3 = .ok (.ldc2_w 58, 3) := by decide +kernel
theorem dX12_isRow_6 : decode cX12_isRow 6 = .ok (.invokestatic 60, 3) := by decide +kernel
theorem dX12_isRow_9 : decode cX12_isRow 9 = .ok (.ireturn, 1) := by decide +kernel
theorem dX12_row_0 : decode cX12_row 0 = .ok (.iload_n 1, 1) := by decide +kernel
theorem dX12_row_1 : decode cX12_row 1 = .ok (.invokestatic 64, 3) := by decide +kernel
theorem dX12_row_4 : decode cX12_row 4 = .ok (.ifCond .eq 21, 3) := by decide +kernel
theorem dX12_row_7 : decode cX12_row 7 = .ok (.iload_n 2, 1) := by decide +kernel
theorem dX12_row_8 : decode cX12_row 8 = .ok (.i2l, 1) := by decide +kernel
theorem dX12_row_9 : decode cX12_row 9 = .ok (.lconst 0, 1) := by decide +kernel
theorem dX12_row_10 : decode cX12_row 10 = .ok (.ldc2_w 68, 3) := by decide +kernel
theorem dX12_row_13 : decode cX12_row 13 = .ok (.invokestatic 60, 3) := by decide +kernel
theorem dX12_row_16 : decode cX12_row 16 = .ok (.ifCond .eq 9, 3) := by decide +kernel
theorem dX12_row_19 : decode cX12_row 19 = .ok (.iload_n 3, 1) := by decide +kernel
theorem dX12_row_20 : decode cX12_row 20 = .ok (.bipush 40, 2) := by decide +kernel
theorem dX12_row_22 : decode cX12_row 22 = .ok (.if_icmp .le 6, 3) := by decide +kernel
theorem dX12_row_25 : decode cX12_row 25 = .ok (.ldc 70, 2) := by decide +kernel
theorem dX12_row_27 : decode cX12_row 27 = .ok (.ireturn, 1) := by decide +kernel
theorem dX12_row_28 : decode cX12_row 28 = .ok (.iload_n 3, 1) := by decide +kernel
theorem dX12_row_29 : decode cX12_row 29 = .ok (.ifCond .ge 9, 3) := by decide +kernel
theorem dX12_row_32 : decode cX12_row 32 = .ok (.aload_n 0, 1) := by decide +kernel
theorem dX12_row_33 : decode cX12_row 33 = .ok (.iconst 4, 1) := by decide +kernel
theorem dX12_row_34 : decode cX12_row 34 = .ok (.invokevirtual 71, 3) := by decide +kernel
theorem dX12_row_37 : decode cX12_row 37 = .ok (.ireturn, 1) := by decide +kernel
theorem dX12_row_38 : decode cX12_row 38 = .ok (.aload_n 0, 1) := by decide +kernel
theorem dX12_row_39 : decode cX12_row 39 = .ok (.getfield 7, 3) := by decide +kernel
theorem dX12_row_42 : decode cX12_row 42 = .ok (.iload_n 1, 1) := by decide +kernel
theorem dX12_row_43 : decode cX12_row 43 = .ok (.iload_n 2, 1) := by decide +kernel
theorem dX12_row_44 : decode cX12_row 44 = .ok (.iastore, 1) := by decide +kernel
theorem dX12_row_45 : decode cX12_row 45 = .ok (.aload_n 0, 1) := by decide +kernel
theorem dX12_row_46 : decode cX12_row 46 = .ok (.getfield 13, 3) := by decide +kernel
theorem dX12_row_49 : decode cX12_row 49 = .ok (.iload_n 1, 1) := by decide +kernel
theorem dX12_row_50 : decode cX12_row 50 = .ok (.iload_n 3, 1) := by decide +kernel
theorem dX12_row_51 : decode cX12_row 51 = .ok (.iastore, 1) := by decide +kernel
theorem dX12_row_52 : decode cX12_row 52 = .ok (.iconst 0, 1) := by decide +kernel
theorem dX12_row_53 : decode cX12_row 53 = .ok (.istore 4, 2) := by decide +kernel
theorem dX12_row_55 : decode cX12_row 55 = .ok (.iload 4, 2) := by decide +kernel
theorem dX12_row_57 : decode cX12_row 57 = .ok (.bipush 40, 2) := by decide +kernel
theorem dX12_row_59 : decode cX12_row 59 = .ok (.if_icmp .ge 22, 3) := by decide +kernel
theorem dX12_row_62 : decode cX12_row 62 = .ok (.aload_n 0, 1) := by decide +kernel
theorem dX12_row_63 : decode cX12_row 63 = .ok (.getfield 16, 3) := by decide +kernel
theorem dX12_row_66 : decode cX12_row 66 = .ok (.bipush 40, 2) := by decide +kernel
theorem dX12_row_68 : decode cX12_row 68 = .ok (.iload_n 1, 1) := by decide +kernel
theorem dX12_row_69 : decode cX12_row 69 = .ok (.imul, 1) := by decide +kernel
theorem dX12_row_70 : decode cX12_row 70 = .ok (.iload 4, 2) := by decide +kernel
theorem dX12_row_72 : decode cX12_row 72 = .ok (.iadd, 1) := by decide +kernel
theorem dX12_row_73 : decode cX12_row 73 = .ok (.iconst 0, 1) := by decide +kernel
theorem dX12_row_74 : decode cX12_row 74 = .ok (.iastore, 1) := by decide +kernel
theorem dX12_row_75 : decode cX12_row 75 = .ok (.iinc 4 1, 3) := by decide +kernel
theorem dX12_row_78 : decode cX12_row 78 = .ok (.goto (-23), 3) := by decide +kernel
theorem dX12_row_81 : decode cX12_row 81 = .ok (.aload_n 0, 1) := by decide +kernel
theorem dX12_row_82 : decode cX12_row 82 = .ok (.iload_n 3, 1) := by decide +kernel
theorem dX12_row_83 : decode cX12_row 83 = .ok (.invokevirtual 75, 3) := by decide +kernel
theorem dX12_row_86 : decode cX12_row 86 = .ok (.ireturn, 1) := by decide +kernel
theorem dX12_asLane_0 : decode cX12_asLane 0 = .ok (.iload_n 0, 1) := by decide +kernel
theorem dX12_asLane_1 : decode cX12_asLane 1 = .ok (.ifCond .ne 13, 3) := by decide +kernel
theorem dX12_asLane_4 : decode cX12_asLane 4 = .ok (.iload_n 1, 1) := by decide +kernel
theorem dX12_asLane_5 : decode cX12_asLane 5 = .ok (.bipush 24, 2) := by decide +kernel
theorem dX12_asLane_7 : decode cX12_asLane 7 = .ok (.ishl, 1) := by decide +kernel
theorem dX12_asLane_8 : decode cX12_asLane 8 = .ok (.bipush 24, 2) := by decide +kernel
theorem dX12_asLane_10 : decode cX12_asLane 10 = .ok (.ishr, 1) := by decide +kernel
theorem dX12_asLane_11 : decode cX12_asLane 11 = .ok (.goto 19, 3) := by decide +kernel
theorem dX12_asLane_14 : decode cX12_asLane 14 = .ok (.iload_n 0, 1) := by decide +kernel
theorem dX12_asLane_15 : decode cX12_asLane 15 = .ok (.iconst 1, 1) := by decide +kernel
theorem dX12_asLane_16 : decode cX12_asLane 16 = .ok (.if_icmp .ne 13, 3) := by decide +kernel
theorem dX12_asLane_19 : decode cX12_asLane 19 = .ok (.iload_n 1, 1) := by decide +kernel
theorem dX12_asLane_20 : decode cX12_asLane 20 = .ok (.bipush 16, 2) := by decide +kernel
theorem dX12_asLane_22 : decode cX12_asLane 22 = .ok (.ishl, 1) := by decide +kernel
theorem dX12_asLane_23 : decode cX12_asLane 23 = .ok (.bipush 16, 2) := by decide +kernel
theorem dX12_asLane_25 : decode cX12_asLane 25 = .ok (.ishr, 1) := by decide +kernel
theorem dX12_asLane_26 : decode cX12_asLane 26 = .ok (.goto 4, 3) := by decide +kernel
theorem dX12_asLane_29 : decode cX12_asLane 29 = .ok (.iload_n 1, 1) := by decide +kernel
theorem dX12_asLane_30 : decode cX12_asLane 30 = .ok (.ireturn, 1) := by decide +kernel
theorem dX12_set_0 : decode cX12_set 0 = .ok (.iload_n 1, 1) := by decide +kernel
theorem dX12_set_1 : decode cX12_set 1 = .ok (.invokestatic 64, 3) := by decide +kernel
theorem dX12_set_4 : decode cX12_set 4 = .ok (.ifCond .ne 6, 3) := by decide +kernel
theorem dX12_set_7 : decode cX12_set 7 = .ok (.ldc 70, 2) := by decide +kernel
theorem dX12_set_9 : decode cX12_set 9 = .ok (.ireturn, 1) := by decide +kernel
theorem dX12_set_10 : decode cX12_set 10 = .ok (.aload_n 0, 1) := by decide +kernel
theorem dX12_set_11 : decode cX12_set 11 = .ok (.getfield 13, 3) := by decide +kernel
theorem dX12_set_14 : decode cX12_set 14 = .ok (.iload_n 1, 1) := by decide +kernel
theorem dX12_set_15 : decode cX12_set 15 = .ok (.iaload, 1) := by decide +kernel
theorem dX12_set_16 : decode cX12_set 16 = .ok (.ifCond .ge 9, 3) := by decide +kernel
theorem dX12_set_19 : decode cX12_set 19 = .ok (.aload_n 0, 1) := by decide +kernel
theorem dX12_set_20 : decode cX12_set 20 = .ok (.iconst 1, 1) := by decide +kernel
theorem dX12_set_21 : decode cX12_set 21 = .ok (.invokevirtual 71, 3) := by decide +kernel
theorem dX12_set_24 : decode cX12_set 24 = .ok (.ireturn, 1) := by decide +kernel
theorem dX12_set_25 : decode cX12_set 25 = .ok (.iload_n 2, 1) := by decide +kernel
theorem dX12_set_26 : decode cX12_set 26 = .ok (.i2l, 1) := by decide +kernel
theorem dX12_set_27 : decode cX12_set 27 = .ok (.lconst 0, 1) := by decide +kernel
theorem dX12_set_28 : decode cX12_set 28 = .ok (.aload_n 0, 1) := by decide +kernel
theorem dX12_set_29 : decode cX12_set 29 = .ok (.getfield 13, 3) := by decide +kernel
theorem dX12_set_32 : decode cX12_set 32 = .ok (.iload_n 1, 1) := by decide +kernel
theorem dX12_set_33 : decode cX12_set 33 = .ok (.iaload, 1) := by decide +kernel
theorem dX12_set_34 : decode cX12_set 34 = .ok (.iconst 1, 1) := by decide +kernel
theorem dX12_set_35 : decode cX12_set 35 = .ok (.isub, 1) := by decide +kernel
theorem dX12_set_36 : decode cX12_set 36 = .ok (.i2l, 1) := by decide +kernel
theorem dX12_set_37 : decode cX12_set 37 = .ok (.invokestatic 60, 3) := by decide +kernel
theorem dX12_set_40 : decode cX12_set 40 = .ok (.ifCond .ne 9, 3) := by decide +kernel
theorem dX12_set_43 : decode cX12_set 43 = .ok (.aload_n 0, 1) := by decide +kernel
theorem dX12_set_44 : decode cX12_set 44 = .ok (.iconst 2, 1) := by decide +kernel
theorem dX12_set_45 : decode cX12_set 45 = .ok (.invokevirtual 71, 3) := by decide +kernel
theorem dX12_set_48 : decode cX12_set 48 = .ok (.ireturn, 1) := by decide +kernel
theorem dX12_set_49 : decode cX12_set 49 = .ok (.aload_n 0, 1) := by decide +kernel
theorem dX12_set_50 : decode cX12_set 50 = .ok (.getfield 16, 3) := by decide +kernel
theorem dX12_set_53 : decode cX12_set 53 = .ok (.bipush 40, 2) := by decide +kernel
theorem dX12_set_55 : decode cX12_set 55 = .ok (.iload_n 1, 1) := by decide +kernel
theorem dX12_set_56 : decode cX12_set 56 = .ok (.imul, 1) := by decide +kernel
theorem dX12_set_57 : decode cX12_set 57 = .ok (.iload_n 2, 1) := by decide +kernel
theorem dX12_set_58 : decode cX12_set 58 = .ok (.iadd, 1) := by decide +kernel
theorem dX12_set_59 : decode cX12_set 59 = .ok (.aload_n 0, 1) := by decide +kernel
theorem dX12_set_60 : decode cX12_set 60 = .ok (.getfield 7, 3) := by decide +kernel
theorem dX12_set_63 : decode cX12_set 63 = .ok (.iload_n 1, 1) := by decide +kernel
theorem dX12_set_64 : decode cX12_set 64 = .ok (.iaload, 1) := by decide +kernel
theorem dX12_set_65 : decode cX12_set 65 = .ok (.iload_n 3, 1) := by decide +kernel
theorem dX12_set_66 : decode cX12_set 66 = .ok (.invokestatic 78, 3) := by decide +kernel
theorem dX12_set_69 : decode cX12_set 69 = .ok (.iastore, 1) := by decide +kernel
theorem dX12_set_70 : decode cX12_set 70 = .ok (.aload_n 0, 1) := by decide +kernel
theorem dX12_set_71 : decode cX12_set 71 = .ok (.aload_n 0, 1) := by decide +kernel
theorem dX12_set_72 : decode cX12_set 72 = .ok (.getfield 16, 3) := by decide +kernel
theorem dX12_set_75 : decode cX12_set 75 = .ok (.bipush 40, 2) := by decide +kernel
theorem dX12_set_77 : decode cX12_set 77 = .ok (.iload_n 1, 1) := by decide +kernel
theorem dX12_set_78 : decode cX12_set 78 = .ok (.imul, 1) := by decide +kernel
theorem dX12_set_79 : decode cX12_set 79 = .ok (.iload_n 2, 1) := by decide +kernel
theorem dX12_set_80 : decode cX12_set 80 = .ok (.iadd, 1) := by decide +kernel
theorem dX12_set_81 : decode cX12_set 81 = .ok (.iaload, 1) := by decide +kernel
theorem dX12_set_82 : decode cX12_set 82 = .ok (.invokevirtual 75, 3) := by decide +kernel
theorem dX12_set_85 : decode cX12_set 85 = .ok (.ireturn, 1) := by decide +kernel
theorem dX12_copy_0 : decode cX12_copy 0 = .ok (.iload_n 1, 1) := by decide +kernel
theorem dX12_copy_1 : decode cX12_copy 1 = .ok (.invokestatic 64, 3) := by decide +kernel
theorem dX12_copy_4 : decode cX12_copy 4 = .ok (.ifCond .eq 10, 3) := by decide +kernel
theorem dX12_copy_7 : decode cX12_copy 7 = .ok (.iload_n 3, 1) := by decide +kernel
theorem dX12_copy_8 : decode cX12_copy 8 = .ok (.invokestatic 64, 3) := by decide +kernel
theorem dX12_copy_11 : decode cX12_copy 11 = .ok (.ifCond .ne 6, 3) := by decide +kernel
theorem dX12_copy_14 : decode cX12_copy 14 = .ok (.ldc 70, 2) := by decide +kernel
theorem dX12_copy_16 : decode cX12_copy 16 = .ok (.ireturn, 1) := by decide +kernel
theorem dX12_copy_17 : decode cX12_copy 17 = .ok (.aload_n 0, 1) := by decide +kernel
theorem dX12_copy_18 : decode cX12_copy 18 = .ok (.getfield 13, 3) := by decide +kernel
theorem dX12_copy_21 : decode cX12_copy 21 = .ok (.iload_n 1, 1) := by decide +kernel
theorem dX12_copy_22 : decode cX12_copy 22 = .ok (.iaload, 1) := by decide +kernel
theorem dX12_copy_23 : decode cX12_copy 23 = .ok (.ifCond .lt 12, 3) := by decide +kernel
theorem dX12_copy_26 : decode cX12_copy 26 = .ok (.aload_n 0, 1) := by decide +kernel
theorem dX12_copy_27 : decode cX12_copy 27 = .ok (.getfield 13, 3) := by decide +kernel
theorem dX12_copy_30 : decode cX12_copy 30 = .ok (.iload_n 3, 1) := by decide +kernel
theorem dX12_copy_31 : decode cX12_copy 31 = .ok (.iaload, 1) := by decide +kernel
theorem dX12_copy_32 : decode cX12_copy 32 = .ok (.ifCond .ge 9, 3) := by decide +kernel
theorem dX12_copy_35 : decode cX12_copy 35 = .ok (.aload_n 0, 1) := by decide +kernel
theorem dX12_copy_36 : decode cX12_copy 36 = .ok (.iconst 1, 1) := by decide +kernel
theorem dX12_copy_37 : decode cX12_copy 37 = .ok (.invokevirtual 71, 3) := by decide +kernel
theorem dX12_copy_40 : decode cX12_copy 40 = .ok (.ireturn, 1) := by decide +kernel
theorem dX12_copy_41 : decode cX12_copy 41 = .ok (.aload_n 0, 1) := by decide +kernel
theorem dX12_copy_42 : decode cX12_copy 42 = .ok (.getfield 7, 3) := by decide +kernel
theorem dX12_copy_45 : decode cX12_copy 45 = .ok (.iload_n 1, 1) := by decide +kernel
theorem dX12_copy_46 : decode cX12_copy 46 = .ok (.iaload, 1) := by decide +kernel
theorem dX12_copy_47 : decode cX12_copy 47 = .ok (.aload_n 0, 1) := by decide +kernel
theorem dX12_copy_48 : decode cX12_copy 48 = .ok (.getfield 7, 3) := by decide +kernel
theorem dX12_copy_51 : decode cX12_copy 51 = .ok (.iload_n 3, 1) := by decide +kernel
theorem dX12_copy_52 : decode cX12_copy 52 = .ok (.iaload, 1) := by decide +kernel
theorem dX12_copy_53 : decode cX12_copy 53 = .ok (.if_icmp .eq 9, 3) := by decide +kernel
theorem dX12_copy_56 : decode cX12_copy 56 = .ok (.aload_n 0, 1) := by decide +kernel
theorem dX12_copy_57 : decode cX12_copy 57 = .ok (.iconst 5, 1) := by decide +kernel
theorem dX12_copy_58 : decode cX12_copy 58 = .ok (.invokevirtual 71, 3) := by decide +kernel
theorem dX12_copy_61 : decode cX12_copy 61 = .ok (.ireturn, 1) := by decide +kernel
theorem dX12_copy_62 : decode cX12_copy 62 = .ok (.iload 5, 2) := by decide +kernel
theorem dX12_copy_64 : decode cX12_copy 64 = .ok (.ifCond .lt 44, 3) := by decide +kernel
theorem dX12_copy_67 : decode cX12_copy 67 = .ok (.iload_n 2, 1) := by decide +kernel
theorem dX12_copy_68 : decode cX12_copy 68 = .ok (.i2l, 1) := by decide +kernel
theorem dX12_copy_69 : decode cX12_copy 69 = .ok (.lconst 0, 1) := by decide +kernel
theorem dX12_copy_70 : decode cX12_copy 70 = .ok (.aload_n 0, 1) := by decide +kernel
theorem dX12_copy_71 : decode cX12_copy 71 = .ok (.getfield 13, 3) := by decide +kernel
theorem dX12_copy_74 : decode cX12_copy 74 = .ok (.iload_n 1, 1) := by decide +kernel
theorem dX12_copy_75 : decode cX12_copy 75 = .ok (.iaload, 1) := by decide +kernel
theorem dX12_copy_76 : decode cX12_copy 76 = .ok (.i2l, 1) := by decide +kernel
theorem dX12_copy_77 : decode cX12_copy 77 = .ok (.iload 5, 2) := by decide +kernel
theorem dX12_copy_79 : decode cX12_copy 79 = .ok (.i2l, 1) := by decide +kernel
theorem dX12_copy_80 : decode cX12_copy 80 = .ok (.lsub, 1) := by decide +kernel
theorem dX12_copy_81 : decode cX12_copy 81 = .ok (.invokestatic 60, 3) := by decide +kernel
theorem dX12_copy_84 : decode cX12_copy 84 = .ok (.ifCond .eq 24, 3) := by decide +kernel
theorem dX12_copy_87 : decode cX12_copy 87 = .ok (.iload 4, 2) := by decide +kernel
theorem dX12_copy_89 : decode cX12_copy 89 = .ok (.i2l, 1) := by decide +kernel
theorem dX12_copy_90 : decode cX12_copy 90 = .ok (.lconst 0, 1) := by decide +kernel
theorem dX12_copy_91 : decode cX12_copy 91 = .ok (.aload_n 0, 1) := by decide +kernel
theorem dX12_copy_92 : decode cX12_copy 92 = .ok (.getfield 13, 3) := by decide +kernel
theorem dX12_copy_95 : decode cX12_copy 95 = .ok (.iload_n 3, 1) := by decide +kernel
theorem dX12_copy_96 : decode cX12_copy 96 = .ok (.iaload, 1) := by decide +kernel
theorem dX12_copy_97 : decode cX12_copy 97 = .ok (.i2l, 1) := by decide +kernel
theorem dX12_copy_98 : decode cX12_copy 98 = .ok (.iload 5, 2) := by decide +kernel
theorem dX12_copy_100 : decode cX12_copy 100 = .ok (.i2l, 1) := by decide +kernel
theorem dX12_copy_101 : decode cX12_copy 101 = .ok (.lsub, 1) := by decide +kernel
theorem dX12_copy_102 : decode cX12_copy 102 = .ok (.invokestatic 60, 3) := by decide +kernel
theorem dX12_copy_105 : decode cX12_copy 105 = .ok (.ifCond .ne 9, 3) := by decide +kernel
theorem dX12_copy_108 : decode cX12_copy 108 = .ok (.aload_n 0, 1) := by decide +kernel
theorem dX12_copy_109 : decode cX12_copy 109 = .ok (.iconst 2, 1) := by decide +kernel
theorem dX12_copy_110 : decode cX12_copy 110 = .ok (.invokevirtual 71, 3) := by decide +kernel
theorem dX12_copy_113 : decode cX12_copy 113 = .ok (.ireturn, 1) := by decide +kernel
theorem dX12_copy_114 : decode cX12_copy 114 = .ok (.iconst 0, 1) := by decide +kernel
theorem dX12_copy_115 : decode cX12_copy 115 = .ok (.istore 6, 2) := by decide +kernel
theorem dX12_copy_117 : decode cX12_copy 117 = .ok (.iload 6, 2) := by decide +kernel
theorem dX12_copy_119 : decode cX12_copy 119 = .ok (.iload 5, 2) := by decide +kernel
theorem dX12_copy_121 : decode cX12_copy 121 = .ok (.if_icmp .ge 30, 3) := by decide +kernel
theorem dX12_copy_124 : decode cX12_copy 124 = .ok (.aload_n 0, 1) := by decide +kernel
theorem dX12_copy_125 : decode cX12_copy 125 = .ok (.getfield 22, 3) := by decide +kernel
theorem dX12_copy_128 : decode cX12_copy 128 = .ok (.iload 6, 2) := by decide +kernel
theorem dX12_copy_130 : decode cX12_copy 130 = .ok (.aload_n 0, 1) := by decide +kernel
theorem dX12_copy_131 : decode cX12_copy 131 = .ok (.getfield 16, 3) := by decide +kernel
theorem dX12_copy_134 : decode cX12_copy 134 = .ok (.bipush 40, 2) := by decide +kernel
theorem dX12_copy_136 : decode cX12_copy 136 = .ok (.iload_n 1, 1) := by decide +kernel
theorem dX12_copy_137 : decode cX12_copy 137 = .ok (.imul, 1) := by decide +kernel
theorem dX12_copy_138 : decode cX12_copy 138 = .ok (.iload_n 2, 1) := by decide +kernel
theorem dX12_copy_139 : decode cX12_copy 139 = .ok (.iadd, 1) := by decide +kernel
theorem dX12_copy_140 : decode cX12_copy 140 = .ok (.iload 6, 2) := by decide +kernel
theorem dX12_copy_142 : decode cX12_copy 142 = .ok (.iadd, 1) := by decide +kernel
theorem dX12_copy_143 : decode cX12_copy 143 = .ok (.iaload, 1) := by decide +kernel
theorem dX12_copy_144 : decode cX12_copy 144 = .ok (.iastore, 1) := by decide +kernel
theorem dX12_copy_145 : decode cX12_copy 145 = .ok (.iinc 6 1, 3) := by decide +kernel
theorem dX12_copy_148 : decode cX12_copy 148 = .ok (.goto (-31), 3) := by decide +kernel
theorem dX12_copy_151 : decode cX12_copy 151 = .ok (.iconst 0, 1) := by decide +kernel
theorem dX12_copy_152 : decode cX12_copy 152 = .ok (.istore 6, 2) := by decide +kernel
theorem dX12_copy_154 : decode cX12_copy 154 = .ok (.iload 6, 2) := by decide +kernel
theorem dX12_copy_156 : decode cX12_copy 156 = .ok (.iload 5, 2) := by decide +kernel
theorem dX12_copy_158 : decode cX12_copy 158 = .ok (.if_icmp .ge 31, 3) := by decide +kernel
theorem dX12_copy_161 : decode cX12_copy 161 = .ok (.aload_n 0, 1) := by decide +kernel
theorem dX12_copy_162 : decode cX12_copy 162 = .ok (.getfield 16, 3) := by decide +kernel
theorem dX12_copy_165 : decode cX12_copy 165 = .ok (.bipush 40, 2) := by decide +kernel
theorem dX12_copy_167 : decode cX12_copy 167 = .ok (.iload_n 3, 1) := by decide +kernel
theorem dX12_copy_168 : decode cX12_copy 168 = .ok (.imul, 1) := by decide +kernel
theorem dX12_copy_169 : decode cX12_copy 169 = .ok (.iload 4, 2) := by decide +kernel
theorem dX12_copy_171 : decode cX12_copy 171 = .ok (.iadd, 1) := by decide +kernel
theorem dX12_copy_172 : decode cX12_copy 172 = .ok (.iload 6, 2) := by decide +kernel
theorem dX12_copy_174 : decode cX12_copy 174 = .ok (.iadd, 1) := by decide +kernel
theorem dX12_copy_175 : decode cX12_copy 175 = .ok (.aload_n 0, 1) := by decide +kernel
theorem dX12_copy_176 : decode cX12_copy 176 = .ok (.getfield 22, 3) := by decide +kernel
theorem dX12_copy_179 : decode cX12_copy 179 = .ok (.iload 6, 2) := by decide +kernel
theorem dX12_copy_181 : decode cX12_copy 181 = .ok (.iaload, 1) := by decide +kernel
theorem dX12_copy_182 : decode cX12_copy 182 = .ok (.iastore, 1) := by decide +kernel
theorem dX12_copy_183 : decode cX12_copy 183 = .ok (.iinc 6 1, 3) := by decide +kernel
theorem dX12_copy_186 : decode cX12_copy 186 = .ok (.goto (-32), 3) := by decide +kernel
theorem dX12_copy_189 : decode cX12_copy 189 = .ok (.aload_n 0, 1) := by decide +kernel
theorem dX12_copy_190 : decode cX12_copy 190 = .ok (.iload 5, 2) := by decide +kernel
theorem dX12_copy_192 : decode cX12_copy 192 = .ok (.invokevirtual 75, 3) := by decide +kernel
theorem dX12_copy_195 : decode cX12_copy 195 = .ok (.ireturn, 1) := by decide +kernel
theorem dX12_drop_0 : decode cX12_drop 0 = .ok (.iload_n 1, 1) := by decide +kernel
theorem dX12_drop_1 : decode cX12_drop 1 = .ok (.invokestatic 64, 3) := by decide +kernel
theorem dX12_drop_4 : decode cX12_drop 4 = .ok (.ifCond .ne 6, 3) := by decide +kernel
theorem dX12_drop_7 : decode cX12_drop 7 = .ok (.ldc 70, 2) := by decide +kernel
theorem dX12_drop_9 : decode cX12_drop 9 = .ok (.ireturn, 1) := by decide +kernel
theorem dX12_drop_10 : decode cX12_drop 10 = .ok (.aload_n 0, 1) := by decide +kernel
theorem dX12_drop_11 : decode cX12_drop 11 = .ok (.getfield 13, 3) := by decide +kernel
theorem dX12_drop_14 : decode cX12_drop 14 = .ok (.iload_n 1, 1) := by decide +kernel
theorem dX12_drop_15 : decode cX12_drop 15 = .ok (.iaload, 1) := by decide +kernel
theorem dX12_drop_16 : decode cX12_drop 16 = .ok (.ifCond .ge 9, 3) := by decide +kernel
theorem dX12_drop_19 : decode cX12_drop 19 = .ok (.aload_n 0, 1) := by decide +kernel
theorem dX12_drop_20 : decode cX12_drop 20 = .ok (.iconst 1, 1) := by decide +kernel
theorem dX12_drop_21 : decode cX12_drop 21 = .ok (.invokevirtual 71, 3) := by decide +kernel
theorem dX12_drop_24 : decode cX12_drop 24 = .ok (.ireturn, 1) := by decide +kernel
theorem dX12_drop_25 : decode cX12_drop 25 = .ok (.aload_n 0, 1) := by decide +kernel
theorem dX12_drop_26 : decode cX12_drop 26 = .ok (.getfield 13, 3) := by decide +kernel
theorem dX12_drop_29 : decode cX12_drop 29 = .ok (.iload_n 1, 1) := by decide +kernel
theorem dX12_drop_30 : decode cX12_drop 30 = .ok (.iaload, 1) := by decide +kernel
theorem dX12_drop_31 : decode cX12_drop 31 = .ok (.istore_n 2, 1) := by decide +kernel
theorem dX12_drop_32 : decode cX12_drop 32 = .ok (.aload_n 0, 1) := by decide +kernel
theorem dX12_drop_33 : decode cX12_drop 33 = .ok (.getfield 13, 3) := by decide +kernel
theorem dX12_drop_36 : decode cX12_drop 36 = .ok (.iload_n 1, 1) := by decide +kernel
theorem dX12_drop_37 : decode cX12_drop 37 = .ok (.iconst (-1), 1) := by decide +kernel
theorem dX12_drop_38 : decode cX12_drop 38 = .ok (.iastore, 1) := by decide +kernel
theorem dX12_drop_39 : decode cX12_drop 39 = .ok (.aload_n 0, 1) := by decide +kernel
theorem dX12_drop_40 : decode cX12_drop 40 = .ok (.iload_n 2, 1) := by decide +kernel
theorem dX12_drop_41 : decode cX12_drop 41 = .ok (.invokevirtual 75, 3) := by decide +kernel
theorem dX12_drop_44 : decode cX12_drop 44 = .ok (.ireturn, 1) := by decide +kernel
theorem dX12_feed_0 : decode cX12_feed 0 = .ok (.iload_n 1, 1) := by decide +kernel
theorem dX12_feed_1 : decode cX12_feed 1 = .ok (.i2l, 1) := by decide +kernel
theorem dX12_feed_2 : decode cX12_feed 2 = .ok (.lconst 0, 1) := by decide +kernel
theorem dX12_feed_3 : decode cX12_feed 3 = .ok (.ldc2_w 82, 3) := by decide +kernel
theorem dX12_feed_6 : decode cX12_feed 6 = .ok (.invokestatic 60, 3) := by decide +kernel
theorem dX12_feed_9 : decode cX12_feed 9 = .ok (.ifCond .ne 6, 3) := by decide +kernel
theorem dX12_feed_12 : decode cX12_feed 12 = .ok (.ldc 70, 2) := by decide +kernel
theorem dX12_feed_14 : decode cX12_feed 14 = .ok (.ireturn, 1) := by decide +kernel
theorem dX12_feed_15 : decode cX12_feed 15 = .ok (.aload_n 0, 1) := by decide +kernel
theorem dX12_feed_16 : decode cX12_feed 16 = .ok (.getfield 84, 3) := by decide +kernel
theorem dX12_feed_19 : decode cX12_feed 19 = .ok (.bipush 100, 2) := by decide +kernel
theorem dX12_feed_21 : decode cX12_feed 21 = .ok (.if_icmp .ne 6, 3) := by decide +kernel
theorem dX12_feed_24 : decode cX12_feed 24 = .ok (.ldc 87, 2) := by decide +kernel
theorem dX12_feed_26 : decode cX12_feed 26 = .ok (.ireturn, 1) := by decide +kernel
theorem dX12_feed_27 : decode cX12_feed 27 = .ok (.aload_n 0, 1) := by decide +kernel
theorem dX12_feed_28 : decode cX12_feed 28 = .ok (.getfield 25, 3) := by decide +kernel
theorem dX12_feed_31 : decode cX12_feed 31 = .ok (.aload_n 0, 1) := by decide +kernel
theorem dX12_feed_32 : decode cX12_feed 32 = .ok (.getfield 84, 3) := by decide +kernel
theorem dX12_feed_35 : decode cX12_feed 35 = .ok (.iload_n 1, 1) := by decide +kernel
theorem dX12_feed_36 : decode cX12_feed 36 = .ok (.iastore, 1) := by decide +kernel
theorem dX12_feed_37 : decode cX12_feed 37 = .ok (.aload_n 0, 1) := by decide +kernel
theorem dX12_feed_38 : decode cX12_feed 38 = .ok (.dup, 1) := by decide +kernel
theorem dX12_feed_39 : decode cX12_feed 39 = .ok (.getfield 84, 3) := by decide +kernel
theorem dX12_feed_42 : decode cX12_feed 42 = .ok (.iconst 1, 1) := by decide +kernel
theorem dX12_feed_43 : decode cX12_feed 43 = .ok (.iadd, 1) := by decide +kernel
theorem dX12_feed_44 : decode cX12_feed 44 = .ok (.putfield 84, 3) := by decide +kernel
theorem dX12_feed_47 : decode cX12_feed 47 = .ok (.aload_n 0, 1) := by decide +kernel
theorem dX12_feed_48 : decode cX12_feed 48 = .ok (.getfield 84, 3) := by decide +kernel
theorem dX12_feed_51 : decode cX12_feed 51 = .ok (.ireturn, 1) := by decide +kernel
theorem dX12_nextToken_0 : decode cX12_nextToken 0 = .ok (.aload_n 0, 1) := by decide +kernel
theorem dX12_nextToken_1 : decode cX12_nextToken 1 = .ok (.aload_n 0, 1) := by decide +kernel
theorem dX12_nextToken_2 : decode cX12_nextToken 2 = .ok (.getfield 88, 3) := by decide +kernel
theorem dX12_nextToken_5 : decode cX12_nextToken 5 = .ok (.putfield 91, 3) := by decide +kernel
theorem dX12_nextToken_8 : decode cX12_nextToken 8 = .ok (.aload_n 0, 1) := by decide +kernel
theorem dX12_nextToken_9 : decode cX12_nextToken 9 = .ok (.aload_n 0, 1) := by decide +kernel
theorem dX12_nextToken_10 : decode cX12_nextToken 10 = .ok (.getfield 88, 3) := by decide +kernel
theorem dX12_nextToken_13 : decode cX12_nextToken 13 = .ok (.aload_n 0, 1) := by decide +kernel
theorem dX12_nextToken_14 : decode cX12_nextToken 14 = .ok (.getfield 84, 3) := by decide +kernel
theorem dX12_nextToken_17 : decode cX12_nextToken 17 = .ok (.if_icmp .ne 7, 3) := by decide +kernel
theorem dX12_nextToken_20 : decode cX12_nextToken 20 = .ok (.iconst 3, 1) := by decide +kernel
theorem dX12_nextToken_21 : decode cX12_nextToken 21 = .ok (.goto 4, 3) := by decide +kernel
theorem dX12_nextToken_24 : decode cX12_nextToken 24 = .ok (.iconst 0, 1) := by decide +kernel
theorem dX12_nextToken_25 : decode cX12_nextToken 25 = .ok (.putfield 94, 3) := by decide +kernel
theorem dX12_nextToken_28 : decode cX12_nextToken 28 = .ok (.aload_n 0, 1) := by decide +kernel
theorem dX12_nextToken_29 : decode cX12_nextToken 29 = .ok (.iconst 0, 1) := by decide +kernel
theorem dX12_nextToken_30 : decode cX12_nextToken 30 = .ok (.putfield 97, 3) := by decide +kernel
theorem dX12_nextToken_33 : decode cX12_nextToken 33 = .ok (.aload_n 0, 1) := by decide +kernel
theorem dX12_nextToken_34 : decode cX12_nextToken 34 = .ok (.getfield 88, 3) := by decide +kernel
theorem dX12_nextToken_37 : decode cX12_nextToken 37 = .ok (.aload_n 0, 1) := by decide +kernel
theorem dX12_nextToken_38 : decode cX12_nextToken 38 = .ok (.getfield 84, 3) := by decide +kernel
theorem dX12_nextToken_41 : decode cX12_nextToken 41 = .ok (.if_icmp .ge 78, 3) := by decide +kernel
theorem dX12_nextToken_44 : decode cX12_nextToken 44 = .ok (.aload_n 0, 1) := by decide +kernel
theorem dX12_nextToken_45 : decode cX12_nextToken 45 = .ok (.getfield 25, 3) := by decide +kernel
theorem dX12_nextToken_48 : decode cX12_nextToken 48 = .ok (.aload_n 0, 1) := by decide +kernel
theorem dX12_nextToken_49 : decode cX12_nextToken 49 = .ok (.getfield 88, 3) := by decide +kernel
theorem dX12_nextToken_52 : decode cX12_nextToken 52 = .ok (.iaload, 1) := by decide +kernel
theorem dX12_nextToken_53 : decode cX12_nextToken 53 = .ok (.i2l, 1) := by decide +kernel
theorem dX12_nextToken_54 : decode cX12_nextToken 54 = .ok (.ldc2_w 100, 3) := by decide +kernel
theorem dX12_nextToken_57 : decode cX12_nextToken 57 = .ok (.ldc2_w 102, 3) := by decide +kernel
theorem dX12_nextToken_60 : decode cX12_nextToken 60 = .ok (.invokestatic 60, 3) := by decide +kernel
theorem dX12_nextToken_63 : decode cX12_nextToken 63 = .ok (.ifCond .eq 56, 3) := by decide +kernel
theorem dX12_nextToken_66 : decode cX12_nextToken 66 = .ok (.aload_n 0, 1) := by decide +kernel
theorem dX12_nextToken_67 : decode cX12_nextToken 67 = .ok (.aload_n 0, 1) := by decide +kernel
theorem dX12_nextToken_68 : decode cX12_nextToken 68 = .ok (.getfield 97, 3) := by decide +kernel
theorem dX12_nextToken_71 : decode cX12_nextToken 71 = .ok (.bipush 99, 2) := by decide +kernel
theorem dX12_nextToken_73 : decode cX12_nextToken 73 = .ok (.if_icmp .le 10, 3) := by decide +kernel
theorem dX12_nextToken_76 : decode cX12_nextToken 76 = .ok (.aload_n 0, 1) := by decide +kernel
theorem dX12_nextToken_77 : decode cX12_nextToken 77 = .ok (.getfield 97, 3) := by decide +kernel
theorem dX12_nextToken_80 : decode cX12_nextToken 80 = .ok (.goto 23, 3) := by decide +kernel
theorem dX12_nextToken_83 : decode cX12_nextToken 83 = .ok (.bipush 10, 2) := by decide +kernel
theorem dX12_nextToken_85 : decode cX12_nextToken 85 = .ok (.aload_n 0, 1) := by decide +kernel
theorem dX12_nextToken_86 : decode cX12_nextToken 86 = .ok (.getfield 97, 3) := by decide +kernel
theorem dX12_nextToken_89 : decode cX12_nextToken 89 = .ok (.imul, 1) := by decide +kernel
theorem dX12_nextToken_90 : decode cX12_nextToken 90 = .ok (.aload_n 0, 1) := by decide +kernel
theorem dX12_nextToken_91 : decode cX12_nextToken 91 = .ok (.getfield 25, 3) := by decide +kernel
theorem dX12_nextToken_94 : decode cX12_nextToken 94 = .ok (.aload_n 0, 1) := by decide +kernel
theorem dX12_nextToken_95 : decode cX12_nextToken 95 = .ok (.getfield 88, 3) := by decide +kernel
theorem dX12_nextToken_98 : decode cX12_nextToken 98 = .ok (.iaload, 1) := by decide +kernel
theorem dX12_nextToken_99 : decode cX12_nextToken 99 = .ok (.iadd, 1) := by decide +kernel
theorem dX12_nextToken_100 : decode cX12_nextToken 100 = .ok (.bipush 48, 2) := by decide +kernel
theorem dX12_nextToken_102 : decode cX12_nextToken 102 = .ok (.isub, 1) := by decide +kernel
theorem dX12_nextToken_103 : decode cX12_nextToken 103 = .ok (.putfield 97, 3) := by decide +kernel
theorem dX12_nextToken_106 : decode cX12_nextToken 106 = .ok (.aload_n 0, 1) := by decide +kernel
theorem dX12_nextToken_107 : decode cX12_nextToken 107 = .ok (.dup, 1) := by decide +kernel
theorem dX12_nextToken_108 : decode cX12_nextToken 108 = .ok (.getfield 88, 3) := by decide +kernel
theorem dX12_nextToken_111 : decode cX12_nextToken 111 = .ok (.iconst 1, 1) := by decide +kernel
theorem dX12_nextToken_112 : decode cX12_nextToken 112 = .ok (.iadd, 1) := by decide +kernel
theorem dX12_nextToken_113 : decode cX12_nextToken 113 = .ok (.putfield 88, 3) := by decide +kernel
theorem dX12_nextToken_116 : decode cX12_nextToken 116 = .ok (.goto (-83), 3) := by decide +kernel
theorem dX12_nextToken_119 : decode cX12_nextToken 119 = .ok (.aload_n 0, 1) := by decide +kernel
theorem dX12_nextToken_120 : decode cX12_nextToken 120 = .ok (.getfield 88, 3) := by decide +kernel
theorem dX12_nextToken_123 : decode cX12_nextToken 123 = .ok (.aload_n 0, 1) := by decide +kernel
theorem dX12_nextToken_124 : decode cX12_nextToken 124 = .ok (.getfield 91, 3) := by decide +kernel
theorem dX12_nextToken_127 : decode cX12_nextToken 127 = .ok (.if_icmp .le 28, 3) := by decide +kernel
theorem dX12_nextToken_130 : decode cX12_nextToken 130 = .ok (.aload_n 0, 1) := by decide +kernel
theorem dX12_nextToken_131 : decode cX12_nextToken 131 = .ok (.aload_n 0, 1) := by decide +kernel
theorem dX12_nextToken_132 : decode cX12_nextToken 132 = .ok (.getfield 88, 3) := by decide +kernel
theorem dX12_nextToken_135 : decode cX12_nextToken 135 = .ok (.aload_n 0, 1) := by decide +kernel
theorem dX12_nextToken_136 : decode cX12_nextToken 136 = .ok (.getfield 91, 3) := by decide +kernel
theorem dX12_nextToken_139 : decode cX12_nextToken 139 = .ok (.isub, 1) := by decide +kernel
theorem dX12_nextToken_140 : decode cX12_nextToken 140 = .ok (.iconst 2, 1) := by decide +kernel
theorem dX12_nextToken_141 : decode cX12_nextToken 141 = .ok (.if_icmp .le 7, 3) := by decide +kernel
theorem dX12_nextToken_144 : decode cX12_nextToken 144 = .ok (.iconst 0, 1) := by decide +kernel
theorem dX12_nextToken_145 : decode cX12_nextToken 145 = .ok (.goto 4, 3) := by decide +kernel
theorem dX12_nextToken_148 : decode cX12_nextToken 148 = .ok (.iconst 2, 1) := by decide +kernel
theorem dX12_nextToken_149 : decode cX12_nextToken 149 = .ok (.putfield 94, 3) := by decide +kernel
theorem dX12_nextToken_152 : decode cX12_nextToken 152 = .ok (.goto 77, 3) := by decide +kernel
theorem dX12_nextToken_155 : decode cX12_nextToken 155 = .ok (.aload_n 0, 1) := by decide +kernel
theorem dX12_nextToken_156 : decode cX12_nextToken 156 = .ok (.getfield 94, 3) := by decide +kernel
theorem dX12_nextToken_159 : decode cX12_nextToken 159 = .ok (.ifCond .ne 70, 3) := by decide +kernel
theorem dX12_nextToken_162 : decode cX12_nextToken 162 = .ok (.aload_n 0, 1) := by decide +kernel
theorem dX12_nextToken_163 : decode cX12_nextToken 163 = .ok (.aload_n 0, 1) := by decide +kernel
theorem dX12_nextToken_164 : decode cX12_nextToken 164 = .ok (.getfield 25, 3) := by decide +kernel
theorem dX12_nextToken_167 : decode cX12_nextToken 167 = .ok (.aload_n 0, 1) := by decide +kernel
theorem dX12_nextToken_168 : decode cX12_nextToken 168 = .ok (.getfield 88, 3) := by decide +kernel
theorem dX12_nextToken_171 : decode cX12_nextToken 171 = .ok (.iaload, 1) := by decide +kernel
theorem dX12_nextToken_172 : decode cX12_nextToken 172 = .ok (.putfield 97, 3) := by decide +kernel
theorem dX12_nextToken_175 : decode cX12_nextToken 175 = .ok (.aload_n 0, 1) := by decide +kernel
theorem dX12_nextToken_176 : decode cX12_nextToken 176 = .ok (.aload_n 0, 1) := by decide +kernel
theorem dX12_nextToken_177 : decode cX12_nextToken 177 = .ok (.getfield 97, 3) := by decide +kernel
theorem dX12_nextToken_180 : decode cX12_nextToken 180 = .ok (.i2l, 1) := by decide +kernel
theorem dX12_nextToken_181 : decode cX12_nextToken 181 = .ok (.ldc2_w 104, 3) := by decide +kernel
theorem dX12_nextToken_184 : decode cX12_nextToken 184 = .ok (.ldc2_w 106, 3) := by decide +kernel
theorem dX12_nextToken_187 : decode cX12_nextToken 187 = .ok (.invokestatic 60, 3) := by decide +kernel
theorem dX12_nextToken_190 : decode cX12_nextToken 190 = .ok (.ifCond .ne 21, 3) := by decide +kernel
theorem dX12_nextToken_193 : decode cX12_nextToken 193 = .ok (.aload_n 0, 1) := by decide +kernel
theorem dX12_nextToken_194 : decode cX12_nextToken 194 = .ok (.getfield 97, 3) := by decide +kernel
theorem dX12_nextToken_197 : decode cX12_nextToken 197 = .ok (.bipush 44, 2) := by decide +kernel
theorem dX12_nextToken_199 : decode cX12_nextToken 199 = .ok (.if_icmp .eq 12, 3) := by decide +kernel
theorem dX12_nextToken_202 : decode cX12_nextToken 202 = .ok (.aload_n 0, 1) := by decide +kernel
theorem dX12_nextToken_203 : decode cX12_nextToken 203 = .ok (.getfield 97, 3) := by decide +kernel
theorem dX12_nextToken_206 : decode cX12_nextToken 206 = .ok (.bipush 59, 2) := by decide +kernel
theorem dX12_nextToken_208 : decode cX12_nextToken 208 = .ok (.if_icmp .ne 7, 3) := by decide +kernel
theorem dX12_nextToken_211 : decode cX12_nextToken 211 = .ok (.iconst 1, 1) := by decide +kernel
theorem dX12_nextToken_212 : decode cX12_nextToken 212 = .ok (.goto 4, 3) := by decide +kernel
theorem dX12_nextToken_215 : decode cX12_nextToken 215 = .ok (.iconst 0, 1) := by decide +kernel
theorem dX12_nextToken_216 : decode cX12_nextToken 216 = .ok (.putfield 94, 3) := by decide +kernel
theorem dX12_nextToken_219 : decode cX12_nextToken 219 = .ok (.aload_n 0, 1) := by decide +kernel
theorem dX12_nextToken_220 : decode cX12_nextToken 220 = .ok (.dup, 1) := by decide +kernel
theorem dX12_nextToken_221 : decode cX12_nextToken 221 = .ok (.getfield 88, 3) := by decide +kernel
theorem dX12_nextToken_224 : decode cX12_nextToken 224 = .ok (.iconst 1, 1) := by decide +kernel
theorem dX12_nextToken_225 : decode cX12_nextToken 225 = .ok (.iadd, 1) := by decide +kernel
theorem dX12_nextToken_226 : decode cX12_nextToken 226 = .ok (.putfield 88, 3) := by decide +kernel
theorem dX12_nextToken_229 : decode cX12_nextToken 229 = .ok (.return_, 1) := by decide +kernel
theorem dX12_faults_0 : decode cX12_faults 0 = .ok (.aload_n 0, 1) := by decide +kernel
theorem dX12_faults_1 : decode cX12_faults 1 = .ok (.iload_n 1, 1) := by decide +kernel
theorem dX12_faults_2 : decode cX12_faults 2 = .ok (.putfield 108, 3) := by decide +kernel
theorem dX12_faults_5 : decode cX12_faults 5 = .ok (.iconst 0, 1) := by decide +kernel
theorem dX12_faults_6 : decode cX12_faults 6 = .ok (.ireturn, 1) := by decide +kernel
theorem dX12_isLetter_0 : decode cX12_isLetter 0 = .ok (.aload_n 0, 1) := by decide +kernel
theorem dX12_isLetter_1 : decode cX12_isLetter 1 = .ok (.getfield 94, 3) := by decide +kernel
theorem dX12_isLetter_4 : decode cX12_isLetter 4 = .ok (.iconst 1, 1) := by decide +kernel
theorem dX12_isLetter_5 : decode cX12_isLetter 5 = .ok (.if_icmp .ne 15, 3) := by decide +kernel
theorem dX12_isLetter_8 : decode cX12_isLetter 8 = .ok (.aload_n 0, 1) := by decide +kernel
theorem dX12_isLetter_9 : decode cX12_isLetter 9 = .ok (.getfield 97, 3) := by decide +kernel
theorem dX12_isLetter_12 : decode cX12_isLetter 12 = .ok (.iload_n 1, 1) := by decide +kernel
theorem dX12_isLetter_13 : decode cX12_isLetter 13 = .ok (.if_icmp .ne 7, 3) := by decide +kernel
theorem dX12_isLetter_16 : decode cX12_isLetter 16 = .ok (.iconst 1, 1) := by decide +kernel
theorem dX12_isLetter_17 : decode cX12_isLetter 17 = .ok (.goto 4, 3) := by decide +kernel
theorem dX12_isLetter_20 : decode cX12_isLetter 20 = .ok (.iconst 0, 1) := by decide +kernel
theorem dX12_isLetter_21 : decode cX12_isLetter 21 = .ok (.ireturn, 1) := by decide +kernel
theorem dX12_takes_0 : decode cX12_takes 0 = .ok (.aload_n 0, 1) := by decide +kernel
theorem dX12_takes_1 : decode cX12_takes 1 = .ok (.iload_n 1, 1) := by decide +kernel
theorem dX12_takes_2 : decode cX12_takes 2 = .ok (.invokevirtual 111, 3) := by decide +kernel
theorem dX12_takes_5 : decode cX12_takes 5 = .ok (.ifCond .ne 9, 3) := by decide +kernel
theorem dX12_takes_8 : decode cX12_takes 8 = .ok (.aload_n 0, 1) := by decide +kernel
theorem dX12_takes_9 : decode cX12_takes 9 = .ok (.iconst 1, 1) := by decide +kernel
theorem dX12_takes_10 : decode cX12_takes 10 = .ok (.invokevirtual 114, 3) := by decide +kernel
theorem dX12_takes_13 : decode cX12_takes 13 = .ok (.ireturn, 1) := by decide +kernel
theorem dX12_takes_14 : decode cX12_takes 14 = .ok (.aload_n 0, 1) := by decide +kernel
theorem dX12_takes_15 : decode cX12_takes 15 = .ok (.invokevirtual 117, 3) := by decide +kernel
theorem dX12_takes_18 : decode cX12_takes 18 = .ok (.iconst 1, 1) := by decide +kernel
theorem dX12_takes_19 : decode cX12_takes 19 = .ok (.ireturn, 1) := by decide +kernel
theorem dX12_takesNumber_0 : decode cX12_takesNumber 0 = .ok (.aload_n 0, 1) := by decide +kernel
theorem dX12_takesNumber_1 : decode cX12_takesNumber 1 = .ok (.getfield 94, 3) := by decide +kernel
theorem dX12_takesNumber_4 : decode cX12_takesNumber 4 = .ok (.iconst 2, 1) := by decide +kernel
theorem dX12_takesNumber_5 : decode cX12_takesNumber 5 = .ok (.if_icmp .ne 18, 3) := by decide +kernel
theorem dX12_takesNumber_8 : decode cX12_takesNumber 8 = .ok (.aload_n 0, 1) := by decide +kernel
theorem dX12_takesNumber_9 : decode cX12_takesNumber 9 = .ok (.getfield 97, 3) := by decide +kernel
theorem dX12_takesNumber_12 : decode cX12_takesNumber 12 = .ok (.i2l, 1) := by decide +kernel
theorem dX12_takesNumber_13 : decode cX12_takesNumber 13 = .ok (.iload_n 1, 1) := by decide +kernel
theorem dX12_takesNumber_14 : decode cX12_takesNumber 14 = .ok (.i2l, 1) := by decide +kernel
theorem dX12_takesNumber_15 : decode cX12_takesNumber 15 = .ok (.iload_n 2, 1) := by decide +kernel
theorem dX12_takesNumber_16 : decode cX12_takesNumber 16 = .ok (.i2l, 1) := by decide +kernel
theorem dX12_takesNumber_17 : decode cX12_takesNumber 17 = .ok (.invokestatic 60, 3) := by decide +kernel
theorem dX12_takesNumber_20 : decode cX12_takesNumber 20 = .ok (.ifCond .ne 21, 3) := by decide +kernel
theorem dX12_takesNumber_23 : decode cX12_takesNumber 23 = .ok (.aload_n 0, 1) := by decide +kernel
theorem dX12_takesNumber_24 : decode cX12_takesNumber 24 = .ok (.aload_n 0, 1) := by decide +kernel
theorem dX12_takesNumber_25 : decode cX12_takesNumber 25 = .ok (.getfield 94, 3) := by decide +kernel
theorem dX12_takesNumber_28 : decode cX12_takesNumber 28 = .ok (.iconst 2, 1) := by decide +kernel
theorem dX12_takesNumber_29 : decode cX12_takesNumber 29 = .ok (.if_icmp .ne 7, 3) := by decide +kernel
theorem dX12_takesNumber_32 : decode cX12_takesNumber 32 = .ok (.iconst 2, 1) := by decide +kernel
theorem dX12_takesNumber_33 : decode cX12_takesNumber 33 = .ok (.goto 4, 3) := by decide +kernel
theorem dX12_takesNumber_36 : decode cX12_takesNumber 36 = .ok (.iconst 1, 1) := by decide +kernel
theorem dX12_takesNumber_37 : decode cX12_takesNumber 37 = .ok (.invokevirtual 114, 3) := by decide +kernel
theorem dX12_takesNumber_40 : decode cX12_takesNumber 40 = .ok (.ireturn, 1) := by decide +kernel
theorem dX12_takesNumber_41 : decode cX12_takesNumber 41 = .ok (.aload_n 0, 1) := by decide +kernel
theorem dX12_takesNumber_42 : decode cX12_takesNumber 42 = .ok (.getfield 28, 3) := by decide +kernel
theorem dX12_takesNumber_45 : decode cX12_takesNumber 45 = .ok (.iload_n 3, 1) := by decide +kernel
theorem dX12_takesNumber_46 : decode cX12_takesNumber 46 = .ok (.aload_n 0, 1) := by decide +kernel
theorem dX12_takesNumber_47 : decode cX12_takesNumber 47 = .ok (.getfield 97, 3) := by decide +kernel
theorem dX12_takesNumber_50 : decode cX12_takesNumber 50 = .ok (.iastore, 1) := by decide +kernel
theorem dX12_takesNumber_51 : decode cX12_takesNumber 51 = .ok (.aload_n 0, 1) := by decide +kernel
theorem dX12_takesNumber_52 : decode cX12_takesNumber 52 = .ok (.invokevirtual 117, 3) := by decide +kernel
theorem dX12_takesNumber_55 : decode cX12_takesNumber 55 = .ok (.aload_n 0, 1) := by decide +kernel
theorem dX12_takesNumber_56 : decode cX12_takesNumber 56 = .ok (.iload 4, 2) := by decide +kernel
theorem dX12_takesNumber_58 : decode cX12_takesNumber 58 = .ok (.invokevirtual 120, 3) := by decide +kernel
theorem dX12_takesNumber_61 : decode cX12_takesNumber 61 = .ok (.ireturn, 1) := by decide +kernel
theorem dX12_readRung_0 : decode cX12_readRung 0 = .ok (.aload_n 0, 1) := by decide +kernel
theorem dX12_readRung_1 : decode cX12_readRung 1 = .ok (.getfield 28, 3) := by decide +kernel
theorem dX12_readRung_4 : decode cX12_readRung 4 = .ok (.iconst 2, 1) := by decide +kernel
theorem dX12_readRung_5 : decode cX12_readRung 5 = .ok (.iaload, 1) := by decide +kernel
theorem dX12_readRung_6 : decode cX12_readRung 6 = .ok (.ifCond .gt 16, 3) := by decide +kernel
theorem dX12_readRung_9 : decode cX12_readRung 9 = .ok (.aload_n 0, 1) := by decide +kernel
theorem dX12_readRung_10 : decode cX12_readRung 10 = .ok (.getfield 123, 3) := by decide +kernel
theorem dX12_readRung_13 : decode cX12_readRung 13 = .ok (.aload_n 0, 1) := by decide +kernel
theorem dX12_readRung_14 : decode cX12_readRung 14 = .ok (.getfield 28, 3) := by decide +kernel
theorem dX12_readRung_17 : decode cX12_readRung 17 = .ok (.iconst 0, 1) := by decide +kernel
theorem dX12_readRung_18 : decode cX12_readRung 18 = .ok (.iaload, 1) := by decide +kernel
theorem dX12_readRung_19 : decode cX12_readRung 19 = .ok (.if_icmp .ne 22, 3) := by decide +kernel
theorem dX12_readRung_22 : decode cX12_readRung 22 = .ok (.aload_n 0, 1) := by decide +kernel
theorem dX12_readRung_23 : decode cX12_readRung 23 = .ok (.aload_n 0, 1) := by decide +kernel
theorem dX12_readRung_24 : decode cX12_readRung 24 = .ok (.getfield 28, 3) := by decide +kernel
theorem dX12_readRung_27 : decode cX12_readRung 27 = .ok (.iconst 2, 1) := by decide +kernel
theorem dX12_readRung_28 : decode cX12_readRung 28 = .ok (.iaload, 1) := by decide +kernel
theorem dX12_readRung_29 : decode cX12_readRung 29 = .ok (.ifCond .le 7, 3) := by decide +kernel
theorem dX12_readRung_32 : decode cX12_readRung 32 = .ok (.iconst 1, 1) := by decide +kernel
theorem dX12_readRung_33 : decode cX12_readRung 33 = .ok (.goto 4, 3) := by decide +kernel
theorem dX12_readRung_36 : decode cX12_readRung 36 = .ok (.iconst 3, 1) := by decide +kernel
theorem dX12_readRung_37 : decode cX12_readRung 37 = .ok (.invokevirtual 114, 3) := by decide +kernel
theorem dX12_readRung_40 : decode cX12_readRung 40 = .ok (.ireturn, 1) := by decide +kernel
theorem dX12_readRung_41 : decode cX12_readRung 41 = .ok (.aload_n 0, 1) := by decide +kernel
theorem dX12_readRung_42 : decode cX12_readRung 42 = .ok (.invokevirtual 117, 3) := by decide +kernel
theorem dX12_readRung_45 : decode cX12_readRung 45 = .ok (.aload_n 0, 1) := by decide +kernel
theorem dX12_readRung_46 : decode cX12_readRung 46 = .ok (.dup, 1) := by decide +kernel
theorem dX12_readRung_47 : decode cX12_readRung 47 = .ok (.getfield 123, 3) := by decide +kernel
theorem dX12_readRung_50 : decode cX12_readRung 50 = .ok (.iconst 1, 1) := by decide +kernel
theorem dX12_readRung_51 : decode cX12_readRung 51 = .ok (.iadd, 1) := by decide +kernel
theorem dX12_readRung_52 : decode cX12_readRung 52 = .ok (.putfield 123, 3) := by decide +kernel
theorem dX12_readRung_55 : decode cX12_readRung 55 = .ok (.aload_n 0, 1) := by decide +kernel
theorem dX12_readRung_56 : decode cX12_readRung 56 = .ok (.iconst 0, 1) := by decide +kernel
theorem dX12_readRung_57 : decode cX12_readRung 57 = .ok (.bipush 99, 2) := by decide +kernel
theorem dX12_readRung_59 : decode cX12_readRung 59 = .ok (.bipush 6, 2) := by decide +kernel
theorem dX12_readRung_61 : decode cX12_readRung 61 = .ok (.aload_n 0, 1) := by decide +kernel
theorem dX12_readRung_62 : decode cX12_readRung 62 = .ok (.getfield 123, 3) := by decide +kernel
theorem dX12_readRung_65 : decode cX12_readRung 65 = .ok (.iadd, 1) := by decide +kernel
theorem dX12_readRung_66 : decode cX12_readRung 66 = .ok (.iconst 1, 1) := by decide +kernel
theorem dX12_readRung_67 : decode cX12_readRung 67 = .ok (.isub, 1) := by decide +kernel
theorem dX12_readRung_68 : decode cX12_readRung 68 = .ok (.bipush 59, 2) := by decide +kernel
theorem dX12_readRung_70 : decode cX12_readRung 70 = .ok (.invokevirtual 126, 3) := by decide +kernel
theorem dX12_readRung_73 : decode cX12_readRung 73 = .ok (.ireturn, 1) := by decide +kernel
theorem dX12_readGoer_0 : decode cX12_readGoer 0 = .ok (.aload_n 0, 1) := by decide +kernel
theorem dX12_readGoer_1 : decode cX12_readGoer 1 = .ok (.getfield 28, 3) := by decide +kernel
theorem dX12_readGoer_4 : decode cX12_readGoer 4 = .ok (.iconst 2, 1) := by decide +kernel
theorem dX12_readGoer_5 : decode cX12_readGoer 5 = .ok (.iaload, 1) := by decide +kernel
theorem dX12_readGoer_6 : decode cX12_readGoer 6 = .ok (.istore_n 2, 1) := by decide +kernel
theorem dX12_readGoer_7 : decode cX12_readGoer 7 = .ok (.aload_n 0, 1) := by decide +kernel
theorem dX12_readGoer_8 : decode cX12_readGoer 8 = .ok (.getfield 123, 3) := by decide +kernel
theorem dX12_readGoer_11 : decode cX12_readGoer 11 = .ok (.aload_n 0, 1) := by decide +kernel
theorem dX12_readGoer_12 : decode cX12_readGoer 12 = .ok (.getfield 28, 3) := by decide +kernel
theorem dX12_readGoer_15 : decode cX12_readGoer 15 = .ok (.iconst 0, 1) := by decide +kernel
theorem dX12_readGoer_16 : decode cX12_readGoer 16 = .ok (.iaload, 1) := by decide +kernel
theorem dX12_readGoer_17 : decode cX12_readGoer 17 = .ok (.if_icmp .lt 9, 3) := by decide +kernel
theorem dX12_readGoer_20 : decode cX12_readGoer 20 = .ok (.iload_n 2, 1) := by decide +kernel
theorem dX12_readGoer_21 : decode cX12_readGoer 21 = .ok (.bipush 6, 2) := by decide +kernel
theorem dX12_readGoer_23 : decode cX12_readGoer 23 = .ok (.if_icmp .ne 19, 3) := by decide +kernel
theorem dX12_readGoer_26 : decode cX12_readGoer 26 = .ok (.aload_n 0, 1) := by decide +kernel
theorem dX12_readGoer_27 : decode cX12_readGoer 27 = .ok (.iload_n 2, 1) := by decide +kernel
theorem dX12_readGoer_28 : decode cX12_readGoer 28 = .ok (.bipush 6, 2) := by decide +kernel
theorem dX12_readGoer_30 : decode cX12_readGoer 30 = .ok (.if_icmp .ne 7, 3) := by decide +kernel
theorem dX12_readGoer_33 : decode cX12_readGoer 33 = .ok (.iconst 3, 1) := by decide +kernel
theorem dX12_readGoer_34 : decode cX12_readGoer 34 = .ok (.goto 4, 3) := by decide +kernel
theorem dX12_readGoer_37 : decode cX12_readGoer 37 = .ok (.iconst 1, 1) := by decide +kernel
theorem dX12_readGoer_38 : decode cX12_readGoer 38 = .ok (.invokevirtual 114, 3) := by decide +kernel
theorem dX12_readGoer_41 : decode cX12_readGoer 41 = .ok (.ireturn, 1) := by decide +kernel
theorem dX12_readGoer_42 : decode cX12_readGoer 42 = .ok (.aload_n 0, 1) := by decide +kernel
theorem dX12_readGoer_43 : decode cX12_readGoer 43 = .ok (.invokevirtual 117, 3) := by decide +kernel
theorem dX12_readGoer_46 : decode cX12_readGoer 46 = .ok (.aload_n 0, 1) := by decide +kernel
theorem dX12_readGoer_47 : decode cX12_readGoer 47 = .ok (.getfield 28, 3) := by decide +kernel
theorem dX12_readGoer_50 : decode cX12_readGoer 50 = .ok (.bipush 15, 2) := by decide +kernel
theorem dX12_readGoer_52 : decode cX12_readGoer 52 = .ok (.iload_n 2, 1) := by decide +kernel
theorem dX12_readGoer_53 : decode cX12_readGoer 53 = .ok (.iadd, 1) := by decide +kernel
theorem dX12_readGoer_54 : decode cX12_readGoer 54 = .ok (.iload_n 1, 1) := by decide +kernel
theorem dX12_readGoer_55 : decode cX12_readGoer 55 = .ok (.iastore, 1) := by decide +kernel
theorem dX12_readGoer_56 : decode cX12_readGoer 56 = .ok (.aload_n 0, 1) := by decide +kernel
theorem dX12_readGoer_57 : decode cX12_readGoer 57 = .ok (.getfield 28, 3) := by decide +kernel
theorem dX12_readGoer_60 : decode cX12_readGoer 60 = .ok (.iconst 2, 1) := by decide +kernel
theorem dX12_readGoer_61 : decode cX12_readGoer 61 = .ok (.dup2, 1) := by decide +kernel
theorem dX12_readGoer_62 : decode cX12_readGoer 62 = .ok (.iaload, 1) := by decide +kernel
theorem dX12_readGoer_63 : decode cX12_readGoer 63 = .ok (.iconst 1, 1) := by decide +kernel
theorem dX12_readGoer_64 : decode cX12_readGoer 64 = .ok (.iadd, 1) := by decide +kernel
theorem dX12_readGoer_65 : decode cX12_readGoer 65 = .ok (.iastore, 1) := by decide +kernel
theorem dX12_readGoer_66 : decode cX12_readGoer 66 = .ok (.aload_n 0, 1) := by decide +kernel
theorem dX12_readGoer_67 : decode cX12_readGoer 67 = .ok (.iconst 1, 1) := by decide +kernel
theorem dX12_readGoer_68 : decode cX12_readGoer 68 = .ok (.bipush 30, 2) := by decide +kernel
theorem dX12_readGoer_70 : decode cX12_readGoer 70 = .ok (.bipush 21, 2) := by decide +kernel
theorem dX12_readGoer_72 : decode cX12_readGoer 72 = .ok (.iload_n 2, 1) := by decide +kernel
theorem dX12_readGoer_73 : decode cX12_readGoer 73 = .ok (.iadd, 1) := by decide +kernel
theorem dX12_readGoer_74 : decode cX12_readGoer 74 = .ok (.bipush 44, 2) := by decide +kernel
theorem dX12_readGoer_76 : decode cX12_readGoer 76 = .ok (.invokevirtual 126, 3) := by decide +kernel
theorem dX12_readGoer_79 : decode cX12_readGoer 79 = .ok (.ifCond .eq 23, 3) := by decide +kernel
theorem dX12_readGoer_82 : decode cX12_readGoer 82 = .ok (.aload_n 0, 1) := by decide +kernel
theorem dX12_readGoer_83 : decode cX12_readGoer 83 = .ok (.iconst 0, 1) := by decide +kernel
theorem dX12_readGoer_84 : decode cX12_readGoer 84 = .ok (.bipush 30, 2) := by decide +kernel
theorem dX12_readGoer_86 : decode cX12_readGoer 86 = .ok (.bipush 27, 2) := by decide +kernel
theorem dX12_readGoer_88 : decode cX12_readGoer 88 = .ok (.iload_n 2, 1) := by decide +kernel
theorem dX12_readGoer_89 : decode cX12_readGoer 89 = .ok (.iadd, 1) := by decide +kernel
theorem dX12_readGoer_90 : decode cX12_readGoer 90 = .ok (.bipush 59, 2) := by decide +kernel
theorem dX12_readGoer_92 : decode cX12_readGoer 92 = .ok (.invokevirtual 126, 3) := by decide +kernel
theorem dX12_readGoer_95 : decode cX12_readGoer 95 = .ok (.ifCond .eq 7, 3) := by decide +kernel
theorem dX12_readGoer_98 : decode cX12_readGoer 98 = .ok (.iconst 1, 1) := by decide +kernel
theorem dX12_readGoer_99 : decode cX12_readGoer 99 = .ok (.goto 4, 3) := by decide +kernel
theorem dX12_readGoer_102 : decode cX12_readGoer 102 = .ok (.iconst 0, 1) := by decide +kernel
theorem dX12_readGoer_103 : decode cX12_readGoer 103 = .ok (.ireturn, 1) := by decide +kernel
theorem dX12_kindBy_0 : decode cX12_kindBy 0 = .ok (.iload_n 0, 1) := by decide +kernel
theorem dX12_kindBy_1 : decode cX12_kindBy 1 = .ok (.bipush 99, 2) := by decide +kernel
theorem dX12_kindBy_3 : decode cX12_kindBy 3 = .ok (.if_icmp .ne 7, 3) := by decide +kernel
theorem dX12_kindBy_6 : decode cX12_kindBy 6 = .ok (.iconst 1, 1) := by decide +kernel
theorem dX12_kindBy_7 : decode cX12_kindBy 7 = .ok (.goto 44, 3) := by decide +kernel
theorem dX12_kindBy_10 : decode cX12_kindBy 10 = .ok (.iload_n 0, 1) := by decide +kernel
theorem dX12_kindBy_11 : decode cX12_kindBy 11 = .ok (.bipush 100, 2) := by decide +kernel
theorem dX12_kindBy_13 : decode cX12_kindBy 13 = .ok (.if_icmp .ne 7, 3) := by decide +kernel
theorem dX12_kindBy_16 : decode cX12_kindBy 16 = .ok (.iconst 2, 1) := by decide +kernel
theorem dX12_kindBy_17 : decode cX12_kindBy 17 = .ok (.goto 34, 3) := by decide +kernel
theorem dX12_kindBy_20 : decode cX12_kindBy 20 = .ok (.iload_n 0, 1) := by decide +kernel
theorem dX12_kindBy_21 : decode cX12_kindBy 21 = .ok (.bipush 107, 2) := by decide +kernel
theorem dX12_kindBy_23 : decode cX12_kindBy 23 = .ok (.if_icmp .ne 7, 3) := by decide +kernel
theorem dX12_kindBy_26 : decode cX12_kindBy 26 = .ok (.iconst 3, 1) := by decide +kernel
theorem dX12_kindBy_27 : decode cX12_kindBy 27 = .ok (.goto 24, 3) := by decide +kernel
theorem dX12_kindBy_30 : decode cX12_kindBy 30 = .ok (.iload_n 0, 1) := by decide +kernel
theorem dX12_kindBy_31 : decode cX12_kindBy 31 = .ok (.bipush 102, 2) := by decide +kernel
theorem dX12_kindBy_33 : decode cX12_kindBy 33 = .ok (.if_icmp .ne 7, 3) := by decide +kernel
theorem dX12_kindBy_36 : decode cX12_kindBy 36 = .ok (.iconst 4, 1) := by decide +kernel
theorem dX12_kindBy_37 : decode cX12_kindBy 37 = .ok (.goto 14, 3) := by decide +kernel
theorem dX12_kindBy_40 : decode cX12_kindBy 40 = .ok (.iload_n 0, 1) := by decide +kernel
theorem dX12_kindBy_41 : decode cX12_kindBy 41 = .ok (.bipush 103, 2) := by decide +kernel
theorem dX12_kindBy_43 : decode cX12_kindBy 43 = .ok (.if_icmp .ne 7, 3) := by decide +kernel
theorem dX12_kindBy_46 : decode cX12_kindBy 46 = .ok (.iconst 5, 1) := by decide +kernel
theorem dX12_kindBy_47 : decode cX12_kindBy 47 = .ok (.goto 4, 3) := by decide +kernel
theorem dX12_kindBy_50 : decode cX12_kindBy 50 = .ok (.iconst 0, 1) := by decide +kernel
theorem dX12_kindBy_51 : decode cX12_kindBy 51 = .ok (.ireturn, 1) := by decide +kernel
theorem dX12_readLake_0 : decode cX12_readLake 0 = .ok (.aload_n 0, 1) := by decide +kernel
theorem dX12_readLake_1 : decode cX12_readLake 1 = .ok (.iconst 0, 1) := by decide +kernel
theorem dX12_readLake_2 : decode cX12_readLake 2 = .ok (.putfield 88, 3) := by decide +kernel
theorem dX12_readLake_5 : decode cX12_readLake 5 = .ok (.aload_n 0, 1) := by decide +kernel
theorem dX12_readLake_6 : decode cX12_readLake 6 = .ok (.iconst 0, 1) := by decide +kernel
theorem dX12_readLake_7 : decode cX12_readLake 7 = .ok (.putfield 123, 3) := by decide +kernel
theorem dX12_readLake_10 : decode cX12_readLake 10 = .ok (.iconst 0, 1) := by decide +kernel
theorem dX12_readLake_11 : decode cX12_readLake 11 = .ok (.istore_n 1, 1) := by decide +kernel
theorem dX12_readLake_12 : decode cX12_readLake 12 = .ok (.iload_n 1, 1) := by decide +kernel
theorem dX12_readLake_13 : decode cX12_readLake 13 = .ok (.bipush 45, 2) := by decide +kernel
theorem dX12_readLake_15 : decode cX12_readLake 15 = .ok (.if_icmp .ge 16, 3) := by decide +kernel
theorem dX12_readLake_18 : decode cX12_readLake 18 = .ok (.aload_n 0, 1) := by decide +kernel
theorem dX12_readLake_19 : decode cX12_readLake 19 = .ok (.getfield 28, 3) := by decide +kernel
theorem dX12_readLake_22 : decode cX12_readLake 22 = .ok (.iload_n 1, 1) := by decide +kernel
theorem dX12_readLake_23 : decode cX12_readLake 23 = .ok (.iconst 0, 1) := by decide +kernel
theorem dX12_readLake_24 : decode cX12_readLake 24 = .ok (.iastore, 1) := by decide +kernel
theorem dX12_readLake_25 : decode cX12_readLake 25 = .ok (.iinc 1 1, 3) := by decide +kernel
theorem dX12_readLake_28 : decode cX12_readLake 28 = .ok (.goto (-16), 3) := by decide +kernel
theorem dX12_readLake_31 : decode cX12_readLake 31 = .ok (.aload_n 0, 1) := by decide +kernel
theorem dX12_readLake_32 : decode cX12_readLake 32 = .ok (.invokevirtual 117, 3) := by decide +kernel
theorem dX12_readLake_35 : decode cX12_readLake 35 = .ok (.aload_n 0, 1) := by decide +kernel
theorem dX12_readLake_36 : decode cX12_readLake 36 = .ok (.bipush 108, 2) := by decide +kernel
theorem dX12_readLake_38 : decode cX12_readLake 38 = .ok (.invokevirtual 120, 3) := by decide +kernel
theorem dX12_readLake_41 : decode cX12_readLake 41 = .ok (.ifCond .eq 29, 3) := by decide +kernel
theorem dX12_readLake_44 : decode cX12_readLake 44 = .ok (.aload_n 0, 1) := by decide +kernel
theorem dX12_readLake_45 : decode cX12_readLake 45 = .ok (.iconst 2, 1) := by decide +kernel
theorem dX12_readLake_46 : decode cX12_readLake 46 = .ok (.bipush 9, 2) := by decide +kernel
theorem dX12_readLake_48 : decode cX12_readLake 48 = .ok (.iconst 0, 1) := by decide +kernel
theorem dX12_readLake_49 : decode cX12_readLake 49 = .ok (.bipush 44, 2) := by decide +kernel
theorem dX12_readLake_51 : decode cX12_readLake 51 = .ok (.invokevirtual 126, 3) := by decide +kernel
theorem dX12_readLake_54 : decode cX12_readLake 54 = .ok (.ifCond .eq 16, 3) := by decide +kernel
theorem dX12_readLake_57 : decode cX12_readLake 57 = .ok (.aload_n 0, 1) := by decide +kernel
theorem dX12_readLake_58 : decode cX12_readLake 58 = .ok (.iconst 1, 1) := by decide +kernel
theorem dX12_readLake_59 : decode cX12_readLake 59 = .ok (.bipush 99, 2) := by decide +kernel
theorem dX12_readLake_61 : decode cX12_readLake 61 = .ok (.iconst 1, 1) := by decide +kernel
theorem dX12_readLake_62 : decode cX12_readLake 62 = .ok (.bipush 59, 2) := by decide +kernel
theorem dX12_readLake_64 : decode cX12_readLake 64 = .ok (.invokevirtual 126, 3) := by decide +kernel
theorem dX12_readLake_67 : decode cX12_readLake 67 = .ok (.ifCond .ne 5, 3) := by decide +kernel
theorem dX12_readLake_70 : decode cX12_readLake 70 = .ok (.iconst 0, 1) := by decide +kernel
theorem dX12_readLake_71 : decode cX12_readLake 71 = .ok (.ireturn, 1) := by decide +kernel
theorem dX12_readLake_72 : decode cX12_readLake 72 = .ok (.iconst 1, 1) := by decide +kernel
theorem dX12_readLake_73 : decode cX12_readLake 73 = .ok (.istore_n 1, 1) := by decide +kernel
theorem dX12_readLake_74 : decode cX12_readLake 74 = .ok (.iload_n 1, 1) := by decide +kernel
theorem dX12_readLake_75 : decode cX12_readLake 75 = .ok (.ifCond .eq 77, 3) := by decide +kernel
theorem dX12_readLake_78 : decode cX12_readLake 78 = .ok (.aload_n 0, 1) := by decide +kernel
theorem dX12_readLake_79 : decode cX12_readLake 79 = .ok (.getfield 94, 3) := by decide +kernel
theorem dX12_readLake_82 : decode cX12_readLake 82 = .ok (.iconst 3, 1) := by decide +kernel
theorem dX12_readLake_83 : decode cX12_readLake 83 = .ok (.if_icmp .ne 12, 3) := by decide +kernel
theorem dX12_readLake_86 : decode cX12_readLake 86 = .ok (.aload_n 0, 1) := by decide +kernel
theorem dX12_readLake_87 : decode cX12_readLake 87 = .ok (.getfield 28, 3) := by decide +kernel
theorem dX12_readLake_90 : decode cX12_readLake 90 = .ok (.iconst 2, 1) := by decide +kernel
theorem dX12_readLake_91 : decode cX12_readLake 91 = .ok (.iaload, 1) := by decide +kernel
theorem dX12_readLake_92 : decode cX12_readLake 92 = .ok (.ifCond .ne 60, 3) := by decide +kernel
theorem dX12_readLake_95 : decode cX12_readLake 95 = .ok (.aload_n 0, 1) := by decide +kernel
theorem dX12_readLake_96 : decode cX12_readLake 96 = .ok (.getfield 94, 3) := by decide +kernel
theorem dX12_readLake_99 : decode cX12_readLake 99 = .ok (.iconst 1, 1) := by decide +kernel
theorem dX12_readLake_100 : decode cX12_readLake 100 = .ok (.if_icmp .ne 13, 3) := by decide +kernel
theorem dX12_readLake_103 : decode cX12_readLake 103 = .ok (.aload_n 0, 1) := by decide +kernel
theorem dX12_readLake_104 : decode cX12_readLake 104 = .ok (.getfield 97, 3) := by decide +kernel
theorem dX12_readLake_107 : decode cX12_readLake 107 = .ok (.invokestatic 130, 3) := by decide +kernel
theorem dX12_readLake_110 : decode cX12_readLake 110 = .ok (.goto 4, 3) := by decide +kernel
theorem dX12_readLake_113 : decode cX12_readLake 113 = .ok (.iconst 0, 1) := by decide +kernel
theorem dX12_readLake_114 : decode cX12_readLake 114 = .ok (.istore_n 2, 1) := by decide +kernel
theorem dX12_readLake_115 : decode cX12_readLake 115 = .ok (.iload_n 2, 1) := by decide +kernel
theorem dX12_readLake_116 : decode cX12_readLake 116 = .ok (.ifCond .le 11, 3) := by decide +kernel
theorem dX12_readLake_119 : decode cX12_readLake 119 = .ok (.aload_n 0, 1) := by decide +kernel
theorem dX12_readLake_120 : decode cX12_readLake 120 = .ok (.iload_n 2, 1) := by decide +kernel
theorem dX12_readLake_121 : decode cX12_readLake 121 = .ok (.invokevirtual 133, 3) := by decide +kernel
theorem dX12_readLake_124 : decode cX12_readLake 124 = .ok (.goto 24, 3) := by decide +kernel
theorem dX12_readLake_127 : decode cX12_readLake 127 = .ok (.aload_n 0, 1) := by decide +kernel
theorem dX12_readLake_128 : decode cX12_readLake 128 = .ok (.bipush 114, 2) := by decide +kernel
theorem dX12_readLake_130 : decode cX12_readLake 130 = .ok (.invokevirtual 111, 3) := by decide +kernel
theorem dX12_readLake_133 : decode cX12_readLake 133 = .ok (.ifCond .eq 10, 3) := by decide +kernel
theorem dX12_readLake_136 : decode cX12_readLake 136 = .ok (.aload_n 0, 1) := by decide +kernel
theorem dX12_readLake_137 : decode cX12_readLake 137 = .ok (.invokevirtual 136, 3) := by decide +kernel
theorem dX12_readLake_140 : decode cX12_readLake 140 = .ok (.goto 8, 3) := by decide +kernel
theorem dX12_readLake_143 : decode cX12_readLake 143 = .ok (.aload_n 0, 1) := by decide +kernel
theorem dX12_readLake_144 : decode cX12_readLake 144 = .ok (.iconst 1, 1) := by decide +kernel
theorem dX12_readLake_145 : decode cX12_readLake 145 = .ok (.invokevirtual 114, 3) := by decide +kernel
theorem dX12_readLake_148 : decode cX12_readLake 148 = .ok (.istore_n 1, 1) := by decide +kernel
theorem dX12_readLake_149 : decode cX12_readLake 149 = .ok (.goto (-75), 3) := by decide +kernel
theorem dX12_readLake_152 : decode cX12_readLake 152 = .ok (.iload_n 1, 1) := by decide +kernel
theorem dX12_readLake_153 : decode cX12_readLake 153 = .ok (.ireturn, 1) := by decide +kernel
theorem dX12_lake_0 : decode cX12_lake 0 = .ok (.aload_n 0, 1) := by decide +kernel
theorem dX12_lake_1 : decode cX12_lake 1 = .ok (.invokevirtual 140, 3) := by decide +kernel
theorem dX12_lake_4 : decode cX12_lake 4 = .ok (.istore_n 1, 1) := by decide +kernel
theorem dX12_lake_5 : decode cX12_lake 5 = .ok (.aload_n 0, 1) := by decide +kernel
theorem dX12_lake_6 : decode cX12_lake 6 = .ok (.iconst 0, 1) := by decide +kernel
theorem dX12_lake_7 : decode cX12_lake 7 = .ok (.putfield 84, 3) := by decide +kernel
theorem dX12_lake_10 : decode cX12_lake 10 = .ok (.iload_n 1, 1) := by decide +kernel
theorem dX12_lake_11 : decode cX12_lake 11 = .ok (.ifCond .ne 19, 3) := by decide +kernel
theorem dX12_lake_14 : decode cX12_lake 14 = .ok (.aload_n 0, 1) := by decide +kernel
theorem dX12_lake_15 : decode cX12_lake 15 = .ok (.aload_n 0, 1) := by decide +kernel
theorem dX12_lake_16 : decode cX12_lake 16 = .ok (.getfield 108, 3) := by decide +kernel
theorem dX12_lake_19 : decode cX12_lake 19 = .ok (.putfield 143, 3) := by decide +kernel
theorem dX12_lake_22 : decode cX12_lake 22 = .ok (.ldc 146, 2) := by decide +kernel
theorem dX12_lake_24 : decode cX12_lake 24 = .ok (.aload_n 0, 1) := by decide +kernel
theorem dX12_lake_25 : decode cX12_lake 25 = .ok (.getfield 91, 3) := by decide +kernel
theorem dX12_lake_28 : decode cX12_lake 28 = .ok (.isub, 1) := by decide +kernel
theorem dX12_lake_29 : decode cX12_lake 29 = .ok (.ireturn, 1) := by decide +kernel
theorem dX12_lake_30 : decode cX12_lake 30 = .ok (.iconst 0, 1) := by decide +kernel
theorem dX12_lake_31 : decode cX12_lake 31 = .ok (.istore_n 2, 1) := by decide +kernel
theorem dX12_lake_32 : decode cX12_lake 32 = .ok (.iload_n 2, 1) := by decide +kernel
theorem dX12_lake_33 : decode cX12_lake 33 = .ok (.bipush 45, 2) := by decide +kernel
theorem dX12_lake_35 : decode cX12_lake 35 = .ok (.if_icmp .ge 21, 3) := by decide +kernel
theorem dX12_lake_38 : decode cX12_lake 38 = .ok (.aload_n 0, 1) := by decide +kernel
theorem dX12_lake_39 : decode cX12_lake 39 = .ok (.getfield 19, 3) := by decide +kernel
theorem dX12_lake_42 : decode cX12_lake 42 = .ok (.iload_n 2, 1) := by decide +kernel
theorem dX12_lake_43 : decode cX12_lake 43 = .ok (.aload_n 0, 1) := by decide +kernel
theorem dX12_lake_44 : decode cX12_lake 44 = .ok (.getfield 28, 3) := by decide +kernel
theorem dX12_lake_47 : decode cX12_lake 47 = .ok (.iload_n 2, 1) := by decide +kernel
theorem dX12_lake_48 : decode cX12_lake 48 = .ok (.iaload, 1) := by decide +kernel
theorem dX12_lake_49 : decode cX12_lake 49 = .ok (.iastore, 1) := by decide +kernel
theorem dX12_lake_50 : decode cX12_lake 50 = .ok (.iinc 2 1, 3) := by decide +kernel
theorem dX12_lake_53 : decode cX12_lake 53 = .ok (.goto (-21), 3) := by decide +kernel
theorem dX12_lake_56 : decode cX12_lake 56 = .ok (.aload_n 0, 1) := by decide +kernel
theorem dX12_lake_57 : decode cX12_lake 57 = .ok (.getfield 19, 3) := by decide +kernel
theorem dX12_lake_60 : decode cX12_lake 60 = .ok (.iconst 5, 1) := by decide +kernel
theorem dX12_lake_61 : decode cX12_lake 61 = .ok (.iconst 1, 1) := by decide +kernel
theorem dX12_lake_62 : decode cX12_lake 62 = .ok (.aload_n 0, 1) := by decide +kernel
theorem dX12_lake_63 : decode cX12_lake 63 = .ok (.getfield 19, 3) := by decide +kernel
theorem dX12_lake_66 : decode cX12_lake 66 = .ok (.iconst 2, 1) := by decide +kernel
theorem dX12_lake_67 : decode cX12_lake 67 = .ok (.iaload, 1) := by decide +kernel
theorem dX12_lake_68 : decode cX12_lake 68 = .ok (.ishl, 1) := by decide +kernel
theorem dX12_lake_69 : decode cX12_lake 69 = .ok (.iconst 1, 1) := by decide +kernel
theorem dX12_lake_70 : decode cX12_lake 70 = .ok (.isub, 1) := by decide +kernel
theorem dX12_lake_71 : decode cX12_lake 71 = .ok (.iastore, 1) := by decide +kernel
theorem dX12_lake_72 : decode cX12_lake 72 = .ok (.aload_n 0, 1) := by decide +kernel
theorem dX12_lake_73 : decode cX12_lake 73 = .ok (.iconst 1, 1) := by decide +kernel
theorem dX12_lake_74 : decode cX12_lake 74 = .ok (.putfield 147, 3) := by decide +kernel
theorem dX12_lake_77 : decode cX12_lake 77 = .ok (.aload_n 0, 1) := by decide +kernel
theorem dX12_lake_78 : decode cX12_lake 78 = .ok (.iconst 0, 1) := by decide +kernel
theorem dX12_lake_79 : decode cX12_lake 79 = .ok (.putfield 151, 3) := by decide +kernel
theorem dX12_lake_82 : decode cX12_lake 82 = .ok (.aload_n 0, 1) := by decide +kernel
theorem dX12_lake_83 : decode cX12_lake 83 = .ok (.getfield 19, 3) := by decide +kernel
theorem dX12_lake_86 : decode cX12_lake 86 = .ok (.iconst 2, 1) := by decide +kernel
theorem dX12_lake_87 : decode cX12_lake 87 = .ok (.iaload, 1) := by decide +kernel
theorem dX12_lake_88 : decode cX12_lake 88 = .ok (.ireturn, 1) := by decide +kernel
theorem dX12_fault_0 : decode cX12_fault 0 = .ok (.aload_n 0, 1) := by decide +kernel
theorem dX12_fault_1 : decode cX12_fault 1 = .ok (.getfield 143, 3) := by decide +kernel
theorem dX12_fault_4 : decode cX12_fault 4 = .ok (.ireturn, 1) := by decide +kernel
theorem dX12_isGoer_0 : decode cX12_isGoer 0 = .ok (.iload_n 1, 1) := by decide +kernel
theorem dX12_isGoer_1 : decode cX12_isGoer 1 = .ok (.i2l, 1) := by decide +kernel
theorem dX12_isGoer_2 : decode cX12_isGoer 2 = .ok (.lconst 0, 1) := by decide +kernel
theorem dX12_isGoer_3 : decode cX12_isGoer 3 = .ok (.aload_n 0, 1) := by decide +kernel
theorem dX12_isGoer_4 : decode cX12_isGoer 4 = .ok (.getfield 19, 3) := by decide +kernel
theorem dX12_isGoer_7 : decode cX12_isGoer 7 = .ok (.iconst 2, 1) := by decide +kernel
theorem dX12_isGoer_8 : decode cX12_isGoer 8 = .ok (.iaload, 1) := by decide +kernel
theorem dX12_isGoer_9 : decode cX12_isGoer 9 = .ok (.iconst 1, 1) := by decide +kernel
theorem dX12_isGoer_10 : decode cX12_isGoer 10 = .ok (.isub, 1) := by decide +kernel
theorem dX12_isGoer_11 : decode cX12_isGoer 11 = .ok (.i2l, 1) := by decide +kernel
theorem dX12_isGoer_12 : decode cX12_isGoer 12 = .ok (.invokestatic 60, 3) := by decide +kernel
theorem dX12_isGoer_15 : decode cX12_isGoer 15 = .ok (.ireturn, 1) := by decide +kernel
theorem dX12_isRung_0 : decode cX12_isRung 0 = .ok (.iload_n 1, 1) := by decide +kernel
theorem dX12_isRung_1 : decode cX12_isRung 1 = .ok (.i2l, 1) := by decide +kernel
theorem dX12_isRung_2 : decode cX12_isRung 2 = .ok (.lconst 0, 1) := by decide +kernel
theorem dX12_isRung_3 : decode cX12_isRung 3 = .ok (.aload_n 0, 1) := by decide +kernel
theorem dX12_isRung_4 : decode cX12_isRung 4 = .ok (.getfield 19, 3) := by decide +kernel
theorem dX12_isRung_7 : decode cX12_isRung 7 = .ok (.iconst 0, 1) := by decide +kernel
theorem dX12_isRung_8 : decode cX12_isRung 8 = .ok (.iaload, 1) := by decide +kernel
theorem dX12_isRung_9 : decode cX12_isRung 9 = .ok (.iconst 1, 1) := by decide +kernel
theorem dX12_isRung_10 : decode cX12_isRung 10 = .ok (.isub, 1) := by decide +kernel
theorem dX12_isRung_11 : decode cX12_isRung 11 = .ok (.i2l, 1) := by decide +kernel
theorem dX12_isRung_12 : decode cX12_isRung 12 = .ok (.invokestatic 60, 3) := by decide +kernel
theorem dX12_isRung_15 : decode cX12_isRung 15 = .ok (.ireturn, 1) := by decide +kernel
theorem dX12_isBroken_0 : decode cX12_isBroken 0 = .ok (.iload_n 1, 1) := by decide +kernel
theorem dX12_isBroken_1 : decode cX12_isBroken 1 = .ok (.i2l, 1) := by decide +kernel
theorem dX12_isBroken_2 : decode cX12_isBroken 2 = .ok (.lconst 1, 1) := by decide +kernel
theorem dX12_isBroken_3 : decode cX12_isBroken 3 = .ok (.aload_n 0, 1) := by decide +kernel
theorem dX12_isBroken_4 : decode cX12_isBroken 4 = .ok (.getfield 19, 3) := by decide +kernel
theorem dX12_isBroken_7 : decode cX12_isBroken 7 = .ok (.iconst 0, 1) := by decide +kernel
theorem dX12_isBroken_8 : decode cX12_isBroken 8 = .ok (.iaload, 1) := by decide +kernel
theorem dX12_isBroken_9 : decode cX12_isBroken 9 = .ok (.i2l, 1) := by decide +kernel
theorem dX12_isBroken_10 : decode cX12_isBroken 10 = .ok (.invokestatic 60, 3) := by decide +kernel
theorem dX12_isBroken_13 : decode cX12_isBroken 13 = .ok (.ifCond .eq 21, 3) := by decide +kernel
theorem dX12_isBroken_16 : decode cX12_isBroken 16 = .ok (.aload_n 0, 1) := by decide +kernel
theorem dX12_isBroken_17 : decode cX12_isBroken 17 = .ok (.getfield 19, 3) := by decide +kernel
theorem dX12_isBroken_20 : decode cX12_isBroken 20 = .ok (.bipush 6, 2) := by decide +kernel
theorem dX12_isBroken_22 : decode cX12_isBroken 22 = .ok (.iload_n 1, 1) := by decide +kernel
theorem dX12_isBroken_23 : decode cX12_isBroken 23 = .ok (.iadd, 1) := by decide +kernel
theorem dX12_isBroken_24 : decode cX12_isBroken 24 = .ok (.iconst 1, 1) := by decide +kernel
theorem dX12_isBroken_25 : decode cX12_isBroken 25 = .ok (.isub, 1) := by decide +kernel
theorem dX12_isBroken_26 : decode cX12_isBroken 26 = .ok (.iaload, 1) := by decide +kernel
theorem dX12_isBroken_27 : decode cX12_isBroken 27 = .ok (.ifCond .ne 7, 3) := by decide +kernel
theorem dX12_isBroken_30 : decode cX12_isBroken 30 = .ok (.iconst 1, 1) := by decide +kernel
theorem dX12_isBroken_31 : decode cX12_isBroken 31 = .ok (.goto 4, 3) := by decide +kernel
theorem dX12_isBroken_34 : decode cX12_isBroken 34 = .ok (.iconst 0, 1) := by decide +kernel
theorem dX12_isBroken_35 : decode cX12_isBroken 35 = .ok (.ireturn, 1) := by decide +kernel
theorem dX12_isAbove_0 : decode cX12_isAbove 0 = .ok (.aload_n 0, 1) := by decide +kernel
theorem dX12_isAbove_1 : decode cX12_isAbove 1 = .ok (.getfield 19, 3) := by decide +kernel
theorem dX12_isAbove_4 : decode cX12_isAbove 4 = .ok (.bipush 33, 2) := by decide +kernel
theorem dX12_isAbove_6 : decode cX12_isAbove 6 = .ok (.iload_n 1, 1) := by decide +kernel
theorem dX12_isAbove_7 : decode cX12_isAbove 7 = .ok (.iadd, 1) := by decide +kernel
theorem dX12_isAbove_8 : decode cX12_isAbove 8 = .ok (.iaload, 1) := by decide +kernel
theorem dX12_isAbove_9 : decode cX12_isAbove 9 = .ok (.aload_n 0, 1) := by decide +kernel
theorem dX12_isAbove_10 : decode cX12_isAbove 10 = .ok (.getfield 19, 3) := by decide +kernel
theorem dX12_isAbove_13 : decode cX12_isAbove 13 = .ok (.iconst 0, 1) := by decide +kernel
theorem dX12_isAbove_14 : decode cX12_isAbove 14 = .ok (.iaload, 1) := by decide +kernel
theorem dX12_isAbove_15 : decode cX12_isAbove 15 = .ok (.if_icmp .le 7, 3) := by decide +kernel
theorem dX12_isAbove_18 : decode cX12_isAbove 18 = .ok (.iconst 1, 1) := by decide +kernel
theorem dX12_isAbove_19 : decode cX12_isAbove 19 = .ok (.goto 4, 3) := by decide +kernel
theorem dX12_isAbove_22 : decode cX12_isAbove 22 = .ok (.iconst 0, 1) := by decide +kernel
theorem dX12_isAbove_23 : decode cX12_isAbove 23 = .ok (.ireturn, 1) := by decide +kernel
theorem dX12_loadOf_0 : decode cX12_loadOf 0 = .ok (.aload_n 0, 1) := by decide +kernel
theorem dX12_loadOf_1 : decode cX12_loadOf 1 = .ok (.getfield 19, 3) := by decide +kernel
theorem dX12_loadOf_4 : decode cX12_loadOf 4 = .ok (.bipush 15, 2) := by decide +kernel
theorem dX12_loadOf_6 : decode cX12_loadOf 6 = .ok (.iload_n 1, 1) := by decide +kernel
theorem dX12_loadOf_7 : decode cX12_loadOf 7 = .ok (.iadd, 1) := by decide +kernel
theorem dX12_loadOf_8 : decode cX12_loadOf 8 = .ok (.iaload, 1) := by decide +kernel
theorem dX12_loadOf_9 : decode cX12_loadOf 9 = .ok (.iconst 5, 1) := by decide +kernel
theorem dX12_loadOf_10 : decode cX12_loadOf 10 = .ok (.if_icmp .ne 17, 3) := by decide +kernel
theorem dX12_loadOf_13 : decode cX12_loadOf 13 = .ok (.aload_n 0, 1) := by decide +kernel
theorem dX12_loadOf_14 : decode cX12_loadOf 14 = .ok (.getfield 19, 3) := by decide +kernel
theorem dX12_loadOf_17 : decode cX12_loadOf 17 = .ok (.bipush 21, 2) := by decide +kernel
theorem dX12_loadOf_19 : decode cX12_loadOf 19 = .ok (.iload_n 1, 1) := by decide +kernel
theorem dX12_loadOf_20 : decode cX12_loadOf 20 = .ok (.iadd, 1) := by decide +kernel
theorem dX12_loadOf_21 : decode cX12_loadOf 21 = .ok (.iaload, 1) := by decide +kernel
theorem dX12_loadOf_22 : decode cX12_loadOf 22 = .ok (.iconst 2, 1) := by decide +kernel
theorem dX12_loadOf_23 : decode cX12_loadOf 23 = .ok (.idiv, 1) := by decide +kernel
theorem dX12_loadOf_24 : decode cX12_loadOf 24 = .ok (.goto 12, 3) := by decide +kernel
theorem dX12_loadOf_27 : decode cX12_loadOf 27 = .ok (.aload_n 0, 1) := by decide +kernel
theorem dX12_loadOf_28 : decode cX12_loadOf 28 = .ok (.getfield 19, 3) := by decide +kernel
theorem dX12_loadOf_31 : decode cX12_loadOf 31 = .ok (.bipush 21, 2) := by decide +kernel
theorem dX12_loadOf_33 : decode cX12_loadOf 33 = .ok (.iload_n 1, 1) := by decide +kernel
theorem dX12_loadOf_34 : decode cX12_loadOf 34 = .ok (.iadd, 1) := by decide +kernel
theorem dX12_loadOf_35 : decode cX12_loadOf 35 = .ok (.iaload, 1) := by decide +kernel
theorem dX12_loadOf_36 : decode cX12_loadOf 36 = .ok (.ireturn, 1) := by decide +kernel
theorem dX12_loadOn_0 : decode cX12_loadOn 0 = .ok (.iconst 0, 1) := by decide +kernel
theorem dX12_loadOn_1 : decode cX12_loadOn 1 = .ok (.istore_n 2, 1) := by decide +kernel
theorem dX12_loadOn_2 : decode cX12_loadOn 2 = .ok (.iconst 0, 1) := by decide +kernel
theorem dX12_loadOn_3 : decode cX12_loadOn 3 = .ok (.istore_n 3, 1) := by decide +kernel
theorem dX12_loadOn_4 : decode cX12_loadOn 4 = .ok (.iload_n 3, 1) := by decide +kernel
theorem dX12_loadOn_5 : decode cX12_loadOn 5 = .ok (.aload_n 0, 1) := by decide +kernel
theorem dX12_loadOn_6 : decode cX12_loadOn 6 = .ok (.getfield 19, 3) := by decide +kernel
theorem dX12_loadOn_9 : decode cX12_loadOn 9 = .ok (.iconst 2, 1) := by decide +kernel
theorem dX12_loadOn_10 : decode cX12_loadOn 10 = .ok (.iaload, 1) := by decide +kernel
theorem dX12_loadOn_11 : decode cX12_loadOn 11 = .ok (.if_icmp .ge 34, 3) := by decide +kernel
theorem dX12_loadOn_14 : decode cX12_loadOn 14 = .ok (.iload_n 2, 1) := by decide +kernel
theorem dX12_loadOn_15 : decode cX12_loadOn 15 = .ok (.aload_n 0, 1) := by decide +kernel
theorem dX12_loadOn_16 : decode cX12_loadOn 16 = .ok (.getfield 19, 3) := by decide +kernel
theorem dX12_loadOn_19 : decode cX12_loadOn 19 = .ok (.bipush 33, 2) := by decide +kernel
theorem dX12_loadOn_21 : decode cX12_loadOn 21 = .ok (.iload_n 3, 1) := by decide +kernel
theorem dX12_loadOn_22 : decode cX12_loadOn 22 = .ok (.iadd, 1) := by decide +kernel
theorem dX12_loadOn_23 : decode cX12_loadOn 23 = .ok (.iaload, 1) := by decide +kernel
theorem dX12_loadOn_24 : decode cX12_loadOn 24 = .ok (.iload_n 1, 1) := by decide +kernel
theorem dX12_loadOn_25 : decode cX12_loadOn 25 = .ok (.if_icmp .ne 11, 3) := by decide +kernel
theorem dX12_loadOn_28 : decode cX12_loadOn 28 = .ok (.aload_n 0, 1) := by decide +kernel
theorem dX12_loadOn_29 : decode cX12_loadOn 29 = .ok (.iload_n 3, 1) := by decide +kernel
theorem dX12_loadOn_30 : decode cX12_loadOn 30 = .ok (.invokevirtual 154, 3) := by decide +kernel
theorem dX12_loadOn_33 : decode cX12_loadOn 33 = .ok (.goto 4, 3) := by decide +kernel
theorem dX12_loadOn_36 : decode cX12_loadOn 36 = .ok (.iconst 0, 1) := by decide +kernel
theorem dX12_loadOn_37 : decode cX12_loadOn 37 = .ok (.iadd, 1) := by decide +kernel
theorem dX12_loadOn_38 : decode cX12_loadOn 38 = .ok (.istore_n 2, 1) := by decide +kernel
theorem dX12_loadOn_39 : decode cX12_loadOn 39 = .ok (.iinc 3 1, 3) := by decide +kernel
theorem dX12_loadOn_42 : decode cX12_loadOn 42 = .ok (.goto (-38), 3) := by decide +kernel
theorem dX12_loadOn_45 : decode cX12_loadOn 45 = .ok (.iload_n 2, 1) := by decide +kernel
theorem dX12_loadOn_46 : decode cX12_loadOn 46 = .ok (.ireturn, 1) := by decide +kernel
theorem dX12_loadAll_0 : decode cX12_loadAll 0 = .ok (.iconst 0, 1) := by decide +kernel
theorem dX12_loadAll_1 : decode cX12_loadAll 1 = .ok (.istore_n 1, 1) := by decide +kernel
theorem dX12_loadAll_2 : decode cX12_loadAll 2 = .ok (.iconst 1, 1) := by decide +kernel
theorem dX12_loadAll_3 : decode cX12_loadAll 3 = .ok (.istore_n 2, 1) := by decide +kernel
theorem dX12_loadAll_4 : decode cX12_loadAll 4 = .ok (.iload_n 2, 1) := by decide +kernel
theorem dX12_loadAll_5 : decode cX12_loadAll 5 = .ok (.aload_n 0, 1) := by decide +kernel
theorem dX12_loadAll_6 : decode cX12_loadAll 6 = .ok (.getfield 19, 3) := by decide +kernel
theorem dX12_loadAll_9 : decode cX12_loadAll 9 = .ok (.iconst 0, 1) := by decide +kernel
theorem dX12_loadAll_10 : decode cX12_loadAll 10 = .ok (.iaload, 1) := by decide +kernel
theorem dX12_loadAll_11 : decode cX12_loadAll 11 = .ok (.if_icmp .gt 17, 3) := by decide +kernel
theorem dX12_loadAll_14 : decode cX12_loadAll 14 = .ok (.iload_n 1, 1) := by decide +kernel
theorem dX12_loadAll_15 : decode cX12_loadAll 15 = .ok (.aload_n 0, 1) := by decide +kernel
theorem dX12_loadAll_16 : decode cX12_loadAll 16 = .ok (.iload_n 2, 1) := by decide +kernel
theorem dX12_loadAll_17 : decode cX12_loadAll 17 = .ok (.invokevirtual 157, 3) := by decide +kernel
theorem dX12_loadAll_20 : decode cX12_loadAll 20 = .ok (.iadd, 1) := by decide +kernel
theorem dX12_loadAll_21 : decode cX12_loadAll 21 = .ok (.istore_n 1, 1) := by decide +kernel
theorem dX12_loadAll_22 : decode cX12_loadAll 22 = .ok (.iinc 2 1, 3) := by decide +kernel
theorem dX12_loadAll_25 : decode cX12_loadAll 25 = .ok (.goto (-21), 3) := by decide +kernel
theorem dX12_loadAll_28 : decode cX12_loadAll 28 = .ok (.iload_n 1, 1) := by decide +kernel
theorem dX12_loadAll_29 : decode cX12_loadAll 29 = .ok (.ireturn, 1) := by decide +kernel
theorem dX12_whoOn_0 : decode cX12_whoOn 0 = .ok (.iconst 0, 1) := by decide +kernel
theorem dX12_whoOn_1 : decode cX12_whoOn 1 = .ok (.istore_n 2, 1) := by decide +kernel
theorem dX12_whoOn_2 : decode cX12_whoOn 2 = .ok (.iconst 0, 1) := by decide +kernel
theorem dX12_whoOn_3 : decode cX12_whoOn 3 = .ok (.istore_n 3, 1) := by decide +kernel
theorem dX12_whoOn_4 : decode cX12_whoOn 4 = .ok (.iload_n 3, 1) := by decide +kernel
theorem dX12_whoOn_5 : decode cX12_whoOn 5 = .ok (.aload_n 0, 1) := by decide +kernel
theorem dX12_whoOn_6 : decode cX12_whoOn 6 = .ok (.getfield 19, 3) := by decide +kernel
theorem dX12_whoOn_9 : decode cX12_whoOn 9 = .ok (.iconst 2, 1) := by decide +kernel
theorem dX12_whoOn_10 : decode cX12_whoOn 10 = .ok (.iaload, 1) := by decide +kernel
theorem dX12_whoOn_11 : decode cX12_whoOn 11 = .ok (.if_icmp .ge 32, 3) := by decide +kernel
theorem dX12_whoOn_14 : decode cX12_whoOn 14 = .ok (.iload_n 2, 1) := by decide +kernel
theorem dX12_whoOn_15 : decode cX12_whoOn 15 = .ok (.aload_n 0, 1) := by decide +kernel
theorem dX12_whoOn_16 : decode cX12_whoOn 16 = .ok (.getfield 19, 3) := by decide +kernel
theorem dX12_whoOn_19 : decode cX12_whoOn 19 = .ok (.bipush 33, 2) := by decide +kernel
theorem dX12_whoOn_21 : decode cX12_whoOn 21 = .ok (.iload_n 3, 1) := by decide +kernel
theorem dX12_whoOn_22 : decode cX12_whoOn 22 = .ok (.iadd, 1) := by decide +kernel
theorem dX12_whoOn_23 : decode cX12_whoOn 23 = .ok (.iaload, 1) := by decide +kernel
theorem dX12_whoOn_24 : decode cX12_whoOn 24 = .ok (.iload_n 1, 1) := by decide +kernel
theorem dX12_whoOn_25 : decode cX12_whoOn 25 = .ok (.if_icmp .ne 9, 3) := by decide +kernel
theorem dX12_whoOn_28 : decode cX12_whoOn 28 = .ok (.iconst 1, 1) := by decide +kernel
theorem dX12_whoOn_29 : decode cX12_whoOn 29 = .ok (.iload_n 3, 1) := by decide +kernel
theorem dX12_whoOn_30 : decode cX12_whoOn 30 = .ok (.ishl, 1) := by decide +kernel
theorem dX12_whoOn_31 : decode cX12_whoOn 31 = .ok (.goto 4, 3) := by decide +kernel
theorem dX12_whoOn_34 : decode cX12_whoOn 34 = .ok (.iconst 0, 1) := by decide +kernel
theorem dX12_whoOn_35 : decode cX12_whoOn 35 = .ok (.ior, 1) := by decide +kernel
theorem dX12_whoOn_36 : decode cX12_whoOn 36 = .ok (.istore_n 2, 1) := by decide +kernel
theorem dX12_whoOn_37 : decode cX12_whoOn 37 = .ok (.iinc 3 1, 3) := by decide +kernel
theorem dX12_whoOn_40 : decode cX12_whoOn 40 = .ok (.goto (-36), 3) := by decide +kernel
theorem dX12_whoOn_43 : decode cX12_whoOn 43 = .ok (.iload_n 2, 1) := by decide +kernel
theorem dX12_whoOn_44 : decode cX12_whoOn 44 = .ok (.ireturn, 1) := by decide +kernel
theorem dX12_aboveSet_0 : decode cX12_aboveSet 0 = .ok (.aload_n 0, 1) := by decide +kernel
theorem dX12_aboveSet_1 : decode cX12_aboveSet 1 = .ok (.aload_n 0, 1) := by decide +kernel
theorem dX12_aboveSet_2 : decode cX12_aboveSet 2 = .ok (.getfield 19, 3) := by decide +kernel
theorem dX12_aboveSet_5 : decode cX12_aboveSet 5 = .ok (.iconst 0, 1) := by decide +kernel
theorem dX12_aboveSet_6 : decode cX12_aboveSet 6 = .ok (.iaload, 1) := by decide +kernel
theorem dX12_aboveSet_7 : decode cX12_aboveSet 7 = .ok (.iconst 1, 1) := by decide +kernel
theorem dX12_aboveSet_8 : decode cX12_aboveSet 8 = .ok (.iadd, 1) := by decide +kernel
theorem dX12_aboveSet_9 : decode cX12_aboveSet 9 = .ok (.invokevirtual 160, 3) := by decide +kernel
theorem dX12_aboveSet_12 : decode cX12_aboveSet 12 = .ok (.ireturn, 1) := by decide +kernel
theorem dX12_stepTo_0 : decode cX12_stepTo 0 = .ok (.aload_n 0, 1) := by decide +kernel
theorem dX12_stepTo_1 : decode cX12_stepTo 1 = .ok (.getfield 19, 3) := by decide +kernel
theorem dX12_stepTo_4 : decode cX12_stepTo 4 = .ok (.bipush 33, 2) := by decide +kernel
theorem dX12_stepTo_6 : decode cX12_stepTo 6 = .ok (.iload_n 1, 1) := by decide +kernel
theorem dX12_stepTo_7 : decode cX12_stepTo 7 = .ok (.iadd, 1) := by decide +kernel
theorem dX12_stepTo_8 : decode cX12_stepTo 8 = .ok (.iaload, 1) := by decide +kernel
theorem dX12_stepTo_9 : decode cX12_stepTo 9 = .ok (.istore_n 3, 1) := by decide +kernel
theorem dX12_stepTo_10 : decode cX12_stepTo 10 = .ok (.iload_n 3, 1) := by decide +kernel
theorem dX12_stepTo_11 : decode cX12_stepTo 11 = .ok (.ifCond .ne 25, 3) := by decide +kernel
theorem dX12_stepTo_14 : decode cX12_stepTo 14 = .ok (.aload_n 0, 1) := by decide +kernel
theorem dX12_stepTo_15 : decode cX12_stepTo 15 = .ok (.invokevirtual 163, 3) := by decide +kernel
theorem dX12_stepTo_18 : decode cX12_stepTo 18 = .ok (.aload_n 0, 1) := by decide +kernel
theorem dX12_stepTo_19 : decode cX12_stepTo 19 = .ok (.iload_n 1, 1) := by decide +kernel
theorem dX12_stepTo_20 : decode cX12_stepTo 20 = .ok (.invokevirtual 154, 3) := by decide +kernel
theorem dX12_stepTo_23 : decode cX12_stepTo 23 = .ok (.iadd, 1) := by decide +kernel
theorem dX12_stepTo_24 : decode cX12_stepTo 24 = .ok (.aload_n 0, 1) := by decide +kernel
theorem dX12_stepTo_25 : decode cX12_stepTo 25 = .ok (.getfield 19, 3) := by decide +kernel
theorem dX12_stepTo_28 : decode cX12_stepTo 28 = .ok (.iconst 1, 1) := by decide +kernel
theorem dX12_stepTo_29 : decode cX12_stepTo 29 = .ok (.iaload, 1) := by decide +kernel
theorem dX12_stepTo_30 : decode cX12_stepTo 30 = .ok (.if_icmp .le 6, 3) := by decide +kernel
theorem dX12_stepTo_33 : decode cX12_stepTo 33 = .ok (.ldc 167, 2) := by decide +kernel
theorem dX12_stepTo_35 : decode cX12_stepTo 35 = .ok (.ireturn, 1) := by decide +kernel
theorem dX12_stepTo_36 : decode cX12_stepTo 36 = .ok (.iload_n 3, 1) := by decide +kernel
theorem dX12_stepTo_37 : decode cX12_stepTo 37 = .ok (.iload_n 2, 1) := by decide +kernel
theorem dX12_stepTo_38 : decode cX12_stepTo 38 = .ok (.iadd, 1) := by decide +kernel
theorem dX12_stepTo_39 : decode cX12_stepTo 39 = .ok (.istore 4, 2) := by decide +kernel
theorem dX12_stepTo_41 : decode cX12_stepTo 41 = .ok (.aload_n 0, 1) := by decide +kernel
theorem dX12_stepTo_42 : decode cX12_stepTo 42 = .ok (.iload 4, 2) := by decide +kernel
theorem dX12_stepTo_44 : decode cX12_stepTo 44 = .ok (.invokevirtual 168, 3) := by decide +kernel
theorem dX12_stepTo_47 : decode cX12_stepTo 47 = .ok (.ifCond .eq 10, 3) := by decide +kernel
theorem dX12_stepTo_50 : decode cX12_stepTo 50 = .ok (.iload 4, 2) := by decide +kernel
theorem dX12_stepTo_52 : decode cX12_stepTo 52 = .ok (.iload_n 2, 1) := by decide +kernel
theorem dX12_stepTo_53 : decode cX12_stepTo 53 = .ok (.iadd, 1) := by decide +kernel
theorem dX12_stepTo_54 : decode cX12_stepTo 54 = .ok (.goto 5, 3) := by decide +kernel
theorem dX12_stepTo_57 : decode cX12_stepTo 57 = .ok (.iload 4, 2) := by decide +kernel
theorem dX12_stepTo_59 : decode cX12_stepTo 59 = .ok (.istore 4, 2) := by decide +kernel
theorem dX12_stepTo_61 : decode cX12_stepTo 61 = .ok (.aload_n 0, 1) := by decide +kernel
theorem dX12_stepTo_62 : decode cX12_stepTo 62 = .ok (.iload 4, 2) := by decide +kernel
theorem dX12_stepTo_64 : decode cX12_stepTo 64 = .ok (.invokevirtual 168, 3) := by decide +kernel
theorem dX12_stepTo_67 : decode cX12_stepTo 67 = .ok (.ifCond .eq 8, 3) := by decide +kernel
theorem dX12_stepTo_70 : decode cX12_stepTo 70 = .ok (.ldc 167, 2) := by decide +kernel
theorem dX12_stepTo_72 : decode cX12_stepTo 72 = .ok (.goto 5, 3) := by decide +kernel
theorem dX12_stepTo_75 : decode cX12_stepTo 75 = .ok (.iload 4, 2) := by decide +kernel
theorem dX12_stepTo_77 : decode cX12_stepTo 77 = .ok (.ireturn, 1) := by decide +kernel
theorem dX12_goes_0 : decode cX12_goes 0 = .ok (.aload_n 0, 1) := by decide +kernel
theorem dX12_goes_1 : decode cX12_goes 1 = .ok (.iload_n 1, 1) := by decide +kernel
theorem dX12_goes_2 : decode cX12_goes 2 = .ok (.iload_n 2, 1) := by decide +kernel
theorem dX12_goes_3 : decode cX12_goes 3 = .ok (.invokevirtual 171, 3) := by decide +kernel
theorem dX12_goes_6 : decode cX12_goes 6 = .ok (.istore_n 3, 1) := by decide +kernel
theorem dX12_goes_7 : decode cX12_goes 7 = .ok (.iload_n 3, 1) := by decide +kernel
theorem dX12_goes_8 : decode cX12_goes 8 = .ok (.ifCond .ge 5, 3) := by decide +kernel
theorem dX12_goes_11 : decode cX12_goes 11 = .ok (.iconst 0, 1) := by decide +kernel
theorem dX12_goes_12 : decode cX12_goes 12 = .ok (.ireturn, 1) := by decide +kernel
theorem dX12_goes_13 : decode cX12_goes 13 = .ok (.aload_n 0, 1) := by decide +kernel
theorem dX12_goes_14 : decode cX12_goes 14 = .ok (.getfield 19, 3) := by decide +kernel
theorem dX12_goes_17 : decode cX12_goes 17 = .ok (.bipush 33, 2) := by decide +kernel
theorem dX12_goes_19 : decode cX12_goes 19 = .ok (.iload_n 1, 1) := by decide +kernel
theorem dX12_goes_20 : decode cX12_goes 20 = .ok (.iadd, 1) := by decide +kernel
theorem dX12_goes_21 : decode cX12_goes 21 = .ok (.iload_n 3, 1) := by decide +kernel
theorem dX12_goes_22 : decode cX12_goes 22 = .ok (.iastore, 1) := by decide +kernel
theorem dX12_goes_23 : decode cX12_goes 23 = .ok (.iconst 1, 1) := by decide +kernel
theorem dX12_goes_24 : decode cX12_goes 24 = .ok (.ireturn, 1) := by decide +kernel
theorem dX12_highest_0 : decode cX12_highest 0 = .ok (.aload_n 0, 1) := by decide +kernel
theorem dX12_highest_1 : decode cX12_highest 1 = .ok (.getfield 19, 3) := by decide +kernel
theorem dX12_highest_4 : decode cX12_highest 4 = .ok (.iconst 0, 1) := by decide +kernel
theorem dX12_highest_5 : decode cX12_highest 5 = .ok (.iaload, 1) := by decide +kernel
theorem dX12_highest_6 : decode cX12_highest 6 = .ok (.istore_n 1, 1) := by decide +kernel
theorem dX12_highest_7 : decode cX12_highest 7 = .ok (.iload_n 1, 1) := by decide +kernel
theorem dX12_highest_8 : decode cX12_highest 8 = .ok (.ifCond .le 17, 3) := by decide +kernel
theorem dX12_highest_11 : decode cX12_highest 11 = .ok (.aload_n 0, 1) := by decide +kernel
theorem dX12_highest_12 : decode cX12_highest 12 = .ok (.iload_n 1, 1) := by decide +kernel
theorem dX12_highest_13 : decode cX12_highest 13 = .ok (.invokevirtual 168, 3) := by decide +kernel
theorem dX12_highest_16 : decode cX12_highest 16 = .ok (.ifCond .eq 9, 3) := by decide +kernel
theorem dX12_highest_19 : decode cX12_highest 19 = .ok (.iinc 1 (-1), 3) := by decide +kernel
theorem dX12_highest_22 : decode cX12_highest 22 = .ok (.goto (-15), 3) := by decide +kernel
theorem dX12_highest_25 : decode cX12_highest 25 = .ok (.iload_n 1, 1) := by decide +kernel
theorem dX12_highest_26 : decode cX12_highest 26 = .ok (.ireturn, 1) := by decide +kernel
theorem dX12_fetches_0 : decode cX12_fetches 0 = .ok (.aload_n 0, 1) := by decide +kernel
theorem dX12_fetches_1 : decode cX12_fetches 1 = .ok (.getfield 19, 3) := by decide +kernel
theorem dX12_fetches_4 : decode cX12_fetches 4 = .ok (.bipush 33, 2) := by decide +kernel
theorem dX12_fetches_6 : decode cX12_fetches 6 = .ok (.iload_n 1, 1) := by decide +kernel
theorem dX12_fetches_7 : decode cX12_fetches 7 = .ok (.iadd, 1) := by decide +kernel
theorem dX12_fetches_8 : decode cX12_fetches 8 = .ok (.iaload, 1) := by decide +kernel
theorem dX12_fetches_9 : decode cX12_fetches 9 = .ok (.istore_n 2, 1) := by decide +kernel
theorem dX12_fetches_10 : decode cX12_fetches 10 = .ok (.aload_n 0, 1) := by decide +kernel
theorem dX12_fetches_11 : decode cX12_fetches 11 = .ok (.getfield 19, 3) := by decide +kernel
theorem dX12_fetches_14 : decode cX12_fetches 14 = .ok (.iconst 5, 1) := by decide +kernel
theorem dX12_fetches_15 : decode cX12_fetches 15 = .ok (.iaload, 1) := by decide +kernel
theorem dX12_fetches_16 : decode cX12_fetches 16 = .ok (.iload_n 1, 1) := by decide +kernel
theorem dX12_fetches_17 : decode cX12_fetches 17 = .ok (.invokestatic 174, 3) := by decide +kernel
theorem dX12_fetches_20 : decode cX12_fetches 20 = .ok (.istore_n 3, 1) := by decide +kernel
theorem dX12_fetches_21 : decode cX12_fetches 21 = .ok (.iload_n 3, 1) := by decide +kernel
theorem dX12_fetches_22 : decode cX12_fetches 22 = .ok (.ifCond .eq 26, 3) := by decide +kernel
theorem dX12_fetches_25 : decode cX12_fetches 25 = .ok (.iload_n 2, 1) := by decide +kernel
theorem dX12_fetches_26 : decode cX12_fetches 26 = .ok (.ifCond .le 22, 3) := by decide +kernel
theorem dX12_fetches_29 : decode cX12_fetches 29 = .ok (.iload_n 2, 1) := by decide +kernel
theorem dX12_fetches_30 : decode cX12_fetches 30 = .ok (.aload_n 0, 1) := by decide +kernel
theorem dX12_fetches_31 : decode cX12_fetches 31 = .ok (.invokevirtual 178, 3) := by decide +kernel
theorem dX12_fetches_34 : decode cX12_fetches 34 = .ok (.if_icmp .eq 12, 3) := by decide +kernel
theorem dX12_fetches_37 : decode cX12_fetches 37 = .ok (.aload_n 0, 1) := by decide +kernel
theorem dX12_fetches_38 : decode cX12_fetches 38 = .ok (.iload_n 1, 1) := by decide +kernel
theorem dX12_fetches_39 : decode cX12_fetches 39 = .ok (.iconst 1, 1) := by decide +kernel
theorem dX12_fetches_40 : decode cX12_fetches 40 = .ok (.invokevirtual 171, 3) := by decide +kernel
theorem dX12_fetches_43 : decode cX12_fetches 43 = .ok (.ifCond .ge 5, 3) := by decide +kernel
theorem dX12_fetches_46 : decode cX12_fetches 46 = .ok (.iconst 0, 1) := by decide +kernel
theorem dX12_fetches_47 : decode cX12_fetches 47 = .ok (.istore_n 3, 1) := by decide +kernel
theorem dX12_fetches_48 : decode cX12_fetches 48 = .ok (.aload_n 0, 1) := by decide +kernel
theorem dX12_fetches_49 : decode cX12_fetches 49 = .ok (.iload_n 1, 1) := by decide +kernel
theorem dX12_fetches_50 : decode cX12_fetches 50 = .ok (.iload_n 3, 1) := by decide +kernel
theorem dX12_fetches_51 : decode cX12_fetches 51 = .ok (.ifCond .eq 7, 3) := by decide +kernel
theorem dX12_fetches_54 : decode cX12_fetches 54 = .ok (.iconst 1, 1) := by decide +kernel
theorem dX12_fetches_55 : decode cX12_fetches 55 = .ok (.goto 4, 3) := by decide +kernel
theorem dX12_fetches_58 : decode cX12_fetches 58 = .ok (.iconst (-1), 1) := by decide +kernel
theorem dX12_fetches_59 : decode cX12_fetches 59 = .ok (.invokevirtual 181, 3) := by decide +kernel
theorem dX12_fetches_62 : decode cX12_fetches 62 = .ok (.pop, 1) := by decide +kernel
theorem dX12_fetches_63 : decode cX12_fetches 63 = .ok (.iload_n 3, 1) := by decide +kernel
theorem dX12_fetches_64 : decode cX12_fetches 64 = .ok (.ifCond .ne 15, 3) := by decide +kernel
theorem dX12_fetches_67 : decode cX12_fetches 67 = .ok (.aload_n 0, 1) := by decide +kernel
theorem dX12_fetches_68 : decode cX12_fetches 68 = .ok (.getfield 19, 3) := by decide +kernel
theorem dX12_fetches_71 : decode cX12_fetches 71 = .ok (.bipush 33, 2) := by decide +kernel
theorem dX12_fetches_73 : decode cX12_fetches 73 = .ok (.iload_n 1, 1) := by decide +kernel
theorem dX12_fetches_74 : decode cX12_fetches 74 = .ok (.iadd, 1) := by decide +kernel
theorem dX12_fetches_75 : decode cX12_fetches 75 = .ok (.iaload, 1) := by decide +kernel
theorem dX12_fetches_76 : decode cX12_fetches 76 = .ok (.ifCond .ne 7, 3) := by decide +kernel
theorem dX12_fetches_79 : decode cX12_fetches 79 = .ok (.iconst 1, 1) := by decide +kernel
theorem dX12_fetches_80 : decode cX12_fetches 80 = .ok (.goto 4, 3) := by decide +kernel
theorem dX12_fetches_83 : decode cX12_fetches 83 = .ok (.iconst 0, 1) := by decide +kernel
theorem dX12_fetches_84 : decode cX12_fetches 84 = .ok (.istore_n 3, 1) := by decide +kernel
theorem dX12_fetches_85 : decode cX12_fetches 85 = .ok (.aload_n 0, 1) := by decide +kernel
theorem dX12_fetches_86 : decode cX12_fetches 86 = .ok (.getfield 19, 3) := by decide +kernel
theorem dX12_fetches_89 : decode cX12_fetches 89 = .ok (.iconst 5, 1) := by decide +kernel
theorem dX12_fetches_90 : decode cX12_fetches 90 = .ok (.iload_n 3, 1) := by decide +kernel
theorem dX12_fetches_91 : decode cX12_fetches 91 = .ok (.ifCond .eq 16, 3) := by decide +kernel
theorem dX12_fetches_94 : decode cX12_fetches 94 = .ok (.aload_n 0, 1) := by decide +kernel
theorem dX12_fetches_95 : decode cX12_fetches 95 = .ok (.getfield 19, 3) := by decide +kernel
theorem dX12_fetches_98 : decode cX12_fetches 98 = .ok (.iconst 5, 1) := by decide +kernel
theorem dX12_fetches_99 : decode cX12_fetches 99 = .ok (.iaload, 1) := by decide +kernel
theorem dX12_fetches_100 : decode cX12_fetches 100 = .ok (.iconst 1, 1) := by decide +kernel
theorem dX12_fetches_101 : decode cX12_fetches 101 = .ok (.iload_n 1, 1) := by decide +kernel
theorem dX12_fetches_102 : decode cX12_fetches 102 = .ok (.ishl, 1) := by decide +kernel
theorem dX12_fetches_103 : decode cX12_fetches 103 = .ok (.ior, 1) := by decide +kernel
theorem dX12_fetches_104 : decode cX12_fetches 104 = .ok (.goto 15, 3) := by decide +kernel
theorem dX12_fetches_107 : decode cX12_fetches 107 = .ok (.aload_n 0, 1) := by decide +kernel
theorem dX12_fetches_108 : decode cX12_fetches 108 = .ok (.getfield 19, 3) := by decide +kernel
theorem dX12_fetches_111 : decode cX12_fetches 111 = .ok (.iconst 5, 1) := by decide +kernel
theorem dX12_fetches_112 : decode cX12_fetches 112 = .ok (.iaload, 1) := by decide +kernel
theorem dX12_fetches_113 : decode cX12_fetches 113 = .ok (.iconst 1, 1) := by decide +kernel
theorem dX12_fetches_114 : decode cX12_fetches 114 = .ok (.iload_n 1, 1) := by decide +kernel
theorem dX12_fetches_115 : decode cX12_fetches 115 = .ok (.ishl, 1) := by decide +kernel
theorem dX12_fetches_116 : decode cX12_fetches 116 = .ok (.iconst (-1), 1) := by decide +kernel
theorem dX12_fetches_117 : decode cX12_fetches 117 = .ok (.ixor, 1) := by decide +kernel
theorem dX12_fetches_118 : decode cX12_fetches 118 = .ok (.iand, 1) := by decide +kernel
theorem dX12_fetches_119 : decode cX12_fetches 119 = .ok (.iastore, 1) := by decide +kernel
theorem dX12_fetches_120 : decode cX12_fetches 120 = .ok (.return_, 1) := by decide +kernel
theorem dX12_move_0 : decode cX12_move 0 = .ok (.aload_n 0, 1) := by decide +kernel
theorem dX12_move_1 : decode cX12_move 1 = .ok (.getfield 19, 3) := by decide +kernel
theorem dX12_move_4 : decode cX12_move 4 = .ok (.bipush 15, 2) := by decide +kernel
theorem dX12_move_6 : decode cX12_move 6 = .ok (.iload_n 1, 1) := by decide +kernel
theorem dX12_move_7 : decode cX12_move 7 = .ok (.iadd, 1) := by decide +kernel
theorem dX12_move_8 : decode cX12_move 8 = .ok (.iaload, 1) := by decide +kernel
theorem dX12_move_9 : decode cX12_move 9 = .ok (.tableswitch 85 1 3 #[27, 37, 64], 27) := by decide +kernel
theorem dX12_move_36 : decode cX12_move 36 = .ok (.aload_n 0, 1) := by decide +kernel
theorem dX12_move_37 : decode cX12_move 37 = .ok (.iload_n 1, 1) := by decide +kernel
theorem dX12_move_38 : decode cX12_move 38 = .ok (.iconst 1, 1) := by decide +kernel
theorem dX12_move_39 : decode cX12_move 39 = .ok (.invokevirtual 181, 3) := by decide +kernel
theorem dX12_move_42 : decode cX12_move 42 = .ok (.pop, 1) := by decide +kernel
theorem dX12_move_43 : decode cX12_move 43 = .ok (.goto 56, 3) := by decide +kernel
theorem dX12_move_46 : decode cX12_move 46 = .ok (.aload_n 0, 1) := by decide +kernel
theorem dX12_move_47 : decode cX12_move 47 = .ok (.iload_n 1, 1) := by decide +kernel
theorem dX12_move_48 : decode cX12_move 48 = .ok (.iconst 1, 1) := by decide +kernel
theorem dX12_move_49 : decode cX12_move 49 = .ok (.invokevirtual 181, 3) := by decide +kernel
theorem dX12_move_52 : decode cX12_move 52 = .ok (.ifCond .eq 47, 3) := by decide +kernel
theorem dX12_move_55 : decode cX12_move 55 = .ok (.aload_n 0, 1) := by decide +kernel
theorem dX12_move_56 : decode cX12_move 56 = .ok (.iload_n 1, 1) := by decide +kernel
theorem dX12_move_57 : decode cX12_move 57 = .ok (.invokevirtual 184, 3) := by decide +kernel
theorem dX12_move_60 : decode cX12_move 60 = .ok (.ifCond .ne 39, 3) := by decide +kernel
theorem dX12_move_63 : decode cX12_move 63 = .ok (.aload_n 0, 1) := by decide +kernel
theorem dX12_move_64 : decode cX12_move 64 = .ok (.iload_n 1, 1) := by decide +kernel
theorem dX12_move_65 : decode cX12_move 65 = .ok (.iconst 1, 1) := by decide +kernel
theorem dX12_move_66 : decode cX12_move 66 = .ok (.invokevirtual 181, 3) := by decide +kernel
theorem dX12_move_69 : decode cX12_move 69 = .ok (.pop, 1) := by decide +kernel
theorem dX12_move_70 : decode cX12_move 70 = .ok (.goto 29, 3) := by decide +kernel
theorem dX12_move_73 : decode cX12_move 73 = .ok (.aload_n 0, 1) := by decide +kernel
theorem dX12_move_74 : decode cX12_move 74 = .ok (.getfield 19, 3) := by decide +kernel
theorem dX12_move_77 : decode cX12_move 77 = .ok (.iconst 3, 1) := by decide +kernel
theorem dX12_move_78 : decode cX12_move 78 = .ok (.iaload, 1) := by decide +kernel
theorem dX12_move_79 : decode cX12_move 79 = .ok (.iconst 2, 1) := by decide +kernel
theorem dX12_move_80 : decode cX12_move 80 = .ok (.irem, 1) := by decide +kernel
theorem dX12_move_81 : decode cX12_move 81 = .ok (.ifCond .ne 18, 3) := by decide +kernel
theorem dX12_move_84 : decode cX12_move 84 = .ok (.aload_n 0, 1) := by decide +kernel
theorem dX12_move_85 : decode cX12_move 85 = .ok (.iload_n 1, 1) := by decide +kernel
theorem dX12_move_86 : decode cX12_move 86 = .ok (.iconst 1, 1) := by decide +kernel
theorem dX12_move_87 : decode cX12_move 87 = .ok (.invokevirtual 181, 3) := by decide +kernel
theorem dX12_move_90 : decode cX12_move 90 = .ok (.pop, 1) := by decide +kernel
theorem dX12_move_91 : decode cX12_move 91 = .ok (.goto 8, 3) := by decide +kernel
theorem dX12_move_94 : decode cX12_move 94 = .ok (.aload_n 0, 1) := by decide +kernel
theorem dX12_move_95 : decode cX12_move 95 = .ok (.iload_n 1, 1) := by decide +kernel
theorem dX12_move_96 : decode cX12_move 96 = .ok (.invokevirtual 187, 3) := by decide +kernel
theorem dX12_move_99 : decode cX12_move 99 = .ok (.return_, 1) := by decide +kernel
theorem dX12_breaks_0 : decode cX12_breaks 0 = .ok (.aload_n 0, 1) := by decide +kernel
theorem dX12_breaks_1 : decode cX12_breaks 1 = .ok (.getfield 19, 3) := by decide +kernel
theorem dX12_breaks_4 : decode cX12_breaks 4 = .ok (.bipush 6, 2) := by decide +kernel
theorem dX12_breaks_6 : decode cX12_breaks 6 = .ok (.iload_n 1, 1) := by decide +kernel
theorem dX12_breaks_7 : decode cX12_breaks 7 = .ok (.iadd, 1) := by decide +kernel
theorem dX12_breaks_8 : decode cX12_breaks 8 = .ok (.iconst 1, 1) := by decide +kernel
theorem dX12_breaks_9 : decode cX12_breaks 9 = .ok (.isub, 1) := by decide +kernel
theorem dX12_breaks_10 : decode cX12_breaks 10 = .ok (.iconst 0, 1) := by decide +kernel
theorem dX12_breaks_11 : decode cX12_breaks 11 = .ok (.iastore, 1) := by decide +kernel
theorem dX12_breaks_12 : decode cX12_breaks 12 = .ok (.iconst 0, 1) := by decide +kernel
theorem dX12_breaks_13 : decode cX12_breaks 13 = .ok (.istore_n 2, 1) := by decide +kernel
theorem dX12_breaks_14 : decode cX12_breaks 14 = .ok (.iload_n 2, 1) := by decide +kernel
theorem dX12_breaks_15 : decode cX12_breaks 15 = .ok (.aload_n 0, 1) := by decide +kernel
theorem dX12_breaks_16 : decode cX12_breaks 16 = .ok (.getfield 19, 3) := by decide +kernel
theorem dX12_breaks_19 : decode cX12_breaks 19 = .ok (.iconst 2, 1) := by decide +kernel
theorem dX12_breaks_20 : decode cX12_breaks 20 = .ok (.iaload, 1) := by decide +kernel
theorem dX12_breaks_21 : decode cX12_breaks 21 = .ok (.if_icmp .ge 57, 3) := by decide +kernel
theorem dX12_breaks_24 : decode cX12_breaks 24 = .ok (.aload_n 0, 1) := by decide +kernel
theorem dX12_breaks_25 : decode cX12_breaks 25 = .ok (.getfield 19, 3) := by decide +kernel
theorem dX12_breaks_28 : decode cX12_breaks 28 = .ok (.bipush 33, 2) := by decide +kernel
theorem dX12_breaks_30 : decode cX12_breaks 30 = .ok (.iload_n 2, 1) := by decide +kernel
theorem dX12_breaks_31 : decode cX12_breaks 31 = .ok (.iadd, 1) := by decide +kernel
theorem dX12_breaks_32 : decode cX12_breaks 32 = .ok (.iaload, 1) := by decide +kernel
theorem dX12_breaks_33 : decode cX12_breaks 33 = .ok (.iload_n 1, 1) := by decide +kernel
theorem dX12_breaks_34 : decode cX12_breaks 34 = .ok (.if_icmp .ne 38, 3) := by decide +kernel
theorem dX12_breaks_37 : decode cX12_breaks 37 = .ok (.aload_n 0, 1) := by decide +kernel
theorem dX12_breaks_38 : decode cX12_breaks 38 = .ok (.getfield 19, 3) := by decide +kernel
theorem dX12_breaks_41 : decode cX12_breaks 41 = .ok (.bipush 33, 2) := by decide +kernel
theorem dX12_breaks_43 : decode cX12_breaks 43 = .ok (.iload_n 2, 1) := by decide +kernel
theorem dX12_breaks_44 : decode cX12_breaks 44 = .ok (.iadd, 1) := by decide +kernel
theorem dX12_breaks_45 : decode cX12_breaks 45 = .ok (.iconst 0, 1) := by decide +kernel
theorem dX12_breaks_46 : decode cX12_breaks 46 = .ok (.iastore, 1) := by decide +kernel
theorem dX12_breaks_47 : decode cX12_breaks 47 = .ok (.aload_n 0, 1) := by decide +kernel
theorem dX12_breaks_48 : decode cX12_breaks 48 = .ok (.getfield 19, 3) := by decide +kernel
theorem dX12_breaks_51 : decode cX12_breaks 51 = .ok (.iconst 5, 1) := by decide +kernel
theorem dX12_breaks_52 : decode cX12_breaks 52 = .ok (.dup2, 1) := by decide +kernel
theorem dX12_breaks_53 : decode cX12_breaks 53 = .ok (.iaload, 1) := by decide +kernel
theorem dX12_breaks_54 : decode cX12_breaks 54 = .ok (.iconst 1, 1) := by decide +kernel
theorem dX12_breaks_55 : decode cX12_breaks 55 = .ok (.iload_n 2, 1) := by decide +kernel
theorem dX12_breaks_56 : decode cX12_breaks 56 = .ok (.ishl, 1) := by decide +kernel
theorem dX12_breaks_57 : decode cX12_breaks 57 = .ok (.ior, 1) := by decide +kernel
theorem dX12_breaks_58 : decode cX12_breaks 58 = .ok (.iastore, 1) := by decide +kernel
theorem dX12_breaks_59 : decode cX12_breaks 59 = .ok (.aload_n 0, 1) := by decide +kernel
theorem dX12_breaks_60 : decode cX12_breaks 60 = .ok (.getfield 19, 3) := by decide +kernel
theorem dX12_breaks_63 : decode cX12_breaks 63 = .ok (.bipush 39, 2) := by decide +kernel
theorem dX12_breaks_65 : decode cX12_breaks 65 = .ok (.iload_n 2, 1) := by decide +kernel
theorem dX12_breaks_66 : decode cX12_breaks 66 = .ok (.iadd, 1) := by decide +kernel
theorem dX12_breaks_67 : decode cX12_breaks 67 = .ok (.dup2, 1) := by decide +kernel
theorem dX12_breaks_68 : decode cX12_breaks 68 = .ok (.iaload, 1) := by decide +kernel
theorem dX12_breaks_69 : decode cX12_breaks 69 = .ok (.iconst 1, 1) := by decide +kernel
theorem dX12_breaks_70 : decode cX12_breaks 70 = .ok (.iadd, 1) := by decide +kernel
theorem dX12_breaks_71 : decode cX12_breaks 71 = .ok (.iastore, 1) := by decide +kernel
theorem dX12_breaks_72 : decode cX12_breaks 72 = .ok (.iinc 2 1, 3) := by decide +kernel
theorem dX12_breaks_75 : decode cX12_breaks 75 = .ok (.goto (-61), 3) := by decide +kernel
theorem dX12_breaks_78 : decode cX12_breaks 78 = .ok (.return_, 1) := by decide +kernel
theorem dX12_oneHour_0 : decode cX12_oneHour 0 = .ok (.iconst 0, 1) := by decide +kernel
theorem dX12_oneHour_1 : decode cX12_oneHour 1 = .ok (.istore_n 1, 1) := by decide +kernel
theorem dX12_oneHour_2 : decode cX12_oneHour 2 = .ok (.iload_n 1, 1) := by decide +kernel
theorem dX12_oneHour_3 : decode cX12_oneHour 3 = .ok (.aload_n 0, 1) := by decide +kernel
theorem dX12_oneHour_4 : decode cX12_oneHour 4 = .ok (.getfield 19, 3) := by decide +kernel
theorem dX12_oneHour_7 : decode cX12_oneHour 7 = .ok (.iconst 2, 1) := by decide +kernel
theorem dX12_oneHour_8 : decode cX12_oneHour 8 = .ok (.iaload, 1) := by decide +kernel
theorem dX12_oneHour_9 : decode cX12_oneHour 9 = .ok (.if_icmp .ge 53, 3) := by decide +kernel
theorem dX12_oneHour_12 : decode cX12_oneHour 12 = .ok (.aload_n 0, 1) := by decide +kernel
theorem dX12_oneHour_13 : decode cX12_oneHour 13 = .ok (.iload_n 1, 1) := by decide +kernel
theorem dX12_oneHour_14 : decode cX12_oneHour 14 = .ok (.invokevirtual 184, 3) := by decide +kernel
theorem dX12_oneHour_17 : decode cX12_oneHour 17 = .ok (.ifCond .ne 39, 3) := by decide +kernel
theorem dX12_oneHour_20 : decode cX12_oneHour 20 = .ok (.aload_n 0, 1) := by decide +kernel
theorem dX12_oneHour_21 : decode cX12_oneHour 21 = .ok (.getfield 19, 3) := by decide +kernel
theorem dX12_oneHour_24 : decode cX12_oneHour 24 = .ok (.iconst 4, 1) := by decide +kernel
theorem dX12_oneHour_25 : decode cX12_oneHour 25 = .ok (.iaload, 1) := by decide +kernel
theorem dX12_oneHour_26 : decode cX12_oneHour 26 = .ok (.iload_n 1, 1) := by decide +kernel
theorem dX12_oneHour_27 : decode cX12_oneHour 27 = .ok (.invokestatic 174, 3) := by decide +kernel
theorem dX12_oneHour_30 : decode cX12_oneHour 30 = .ok (.ifCond .ne 26, 3) := by decide +kernel
theorem dX12_oneHour_33 : decode cX12_oneHour 33 = .ok (.aload_n 0, 1) := by decide +kernel
theorem dX12_oneHour_34 : decode cX12_oneHour 34 = .ok (.getfield 19, 3) := by decide +kernel
theorem dX12_oneHour_37 : decode cX12_oneHour 37 = .ok (.bipush 27, 2) := by decide +kernel
theorem dX12_oneHour_39 : decode cX12_oneHour 39 = .ok (.iload_n 1, 1) := by decide +kernel
theorem dX12_oneHour_40 : decode cX12_oneHour 40 = .ok (.iadd, 1) := by decide +kernel
theorem dX12_oneHour_41 : decode cX12_oneHour 41 = .ok (.iaload, 1) := by decide +kernel
theorem dX12_oneHour_42 : decode cX12_oneHour 42 = .ok (.aload_n 0, 1) := by decide +kernel
theorem dX12_oneHour_43 : decode cX12_oneHour 43 = .ok (.getfield 19, 3) := by decide +kernel
theorem dX12_oneHour_46 : decode cX12_oneHour 46 = .ok (.iconst 3, 1) := by decide +kernel
theorem dX12_oneHour_47 : decode cX12_oneHour 47 = .ok (.iaload, 1) := by decide +kernel
theorem dX12_oneHour_48 : decode cX12_oneHour 48 = .ok (.if_icmp .gt 8, 3) := by decide +kernel
theorem dX12_oneHour_51 : decode cX12_oneHour 51 = .ok (.aload_n 0, 1) := by decide +kernel
theorem dX12_oneHour_52 : decode cX12_oneHour 52 = .ok (.iload_n 1, 1) := by decide +kernel
theorem dX12_oneHour_53 : decode cX12_oneHour 53 = .ok (.invokevirtual 191, 3) := by decide +kernel
theorem dX12_oneHour_56 : decode cX12_oneHour 56 = .ok (.iinc 1 1, 3) := by decide +kernel
theorem dX12_oneHour_59 : decode cX12_oneHour 59 = .ok (.goto (-57), 3) := by decide +kernel
theorem dX12_oneHour_62 : decode cX12_oneHour 62 = .ok (.iconst 1, 1) := by decide +kernel
theorem dX12_oneHour_63 : decode cX12_oneHour 63 = .ok (.istore_n 1, 1) := by decide +kernel
theorem dX12_oneHour_64 : decode cX12_oneHour 64 = .ok (.iload_n 1, 1) := by decide +kernel
theorem dX12_oneHour_65 : decode cX12_oneHour 65 = .ok (.aload_n 0, 1) := by decide +kernel
theorem dX12_oneHour_66 : decode cX12_oneHour 66 = .ok (.getfield 19, 3) := by decide +kernel
theorem dX12_oneHour_69 : decode cX12_oneHour 69 = .ok (.iconst 0, 1) := by decide +kernel
theorem dX12_oneHour_70 : decode cX12_oneHour 70 = .ok (.iaload, 1) := by decide +kernel
theorem dX12_oneHour_71 : decode cX12_oneHour 71 = .ok (.if_icmp .gt 69, 3) := by decide +kernel
theorem dX12_oneHour_74 : decode cX12_oneHour 74 = .ok (.aload_n 0, 1) := by decide +kernel
theorem dX12_oneHour_75 : decode cX12_oneHour 75 = .ok (.iload_n 1, 1) := by decide +kernel
theorem dX12_oneHour_76 : decode cX12_oneHour 76 = .ok (.invokevirtual 157, 3) := by decide +kernel
theorem dX12_oneHour_79 : decode cX12_oneHour 79 = .ok (.istore_n 2, 1) := by decide +kernel
theorem dX12_oneHour_80 : decode cX12_oneHour 80 = .ok (.aload_n 0, 1) := by decide +kernel
theorem dX12_oneHour_81 : decode cX12_oneHour 81 = .ok (.getfield 19, 3) := by decide +kernel
theorem dX12_oneHour_84 : decode cX12_oneHour 84 = .ok (.bipush 6, 2) := by decide +kernel
theorem dX12_oneHour_86 : decode cX12_oneHour 86 = .ok (.iload_n 1, 1) := by decide +kernel
theorem dX12_oneHour_87 : decode cX12_oneHour 87 = .ok (.iadd, 1) := by decide +kernel
theorem dX12_oneHour_88 : decode cX12_oneHour 88 = .ok (.iconst 1, 1) := by decide +kernel
theorem dX12_oneHour_89 : decode cX12_oneHour 89 = .ok (.isub, 1) := by decide +kernel
theorem dX12_oneHour_90 : decode cX12_oneHour 90 = .ok (.iaload, 1) := by decide +kernel
theorem dX12_oneHour_91 : decode cX12_oneHour 91 = .ok (.istore_n 3, 1) := by decide +kernel
theorem dX12_oneHour_92 : decode cX12_oneHour 92 = .ok (.iload_n 2, 1) := by decide +kernel
theorem dX12_oneHour_93 : decode cX12_oneHour 93 = .ok (.iload_n 3, 1) := by decide +kernel
theorem dX12_oneHour_94 : decode cX12_oneHour 94 = .ok (.if_icmp .le 11, 3) := by decide +kernel
theorem dX12_oneHour_97 : decode cX12_oneHour 97 = .ok (.aload_n 0, 1) := by decide +kernel
theorem dX12_oneHour_98 : decode cX12_oneHour 98 = .ok (.iload_n 1, 1) := by decide +kernel
theorem dX12_oneHour_99 : decode cX12_oneHour 99 = .ok (.invokevirtual 194, 3) := by decide +kernel
theorem dX12_oneHour_102 : decode cX12_oneHour 102 = .ok (.goto 32, 3) := by decide +kernel
theorem dX12_oneHour_105 : decode cX12_oneHour 105 = .ok (.iload_n 2, 1) := by decide +kernel
theorem dX12_oneHour_106 : decode cX12_oneHour 106 = .ok (.ifCond .le 28, 3) := by decide +kernel
theorem dX12_oneHour_109 : decode cX12_oneHour 109 = .ok (.aload_n 0, 1) := by decide +kernel
theorem dX12_oneHour_110 : decode cX12_oneHour 110 = .ok (.getfield 19, 3) := by decide +kernel
theorem dX12_oneHour_113 : decode cX12_oneHour 113 = .ok (.bipush 6, 2) := by decide +kernel
theorem dX12_oneHour_115 : decode cX12_oneHour 115 = .ok (.iload_n 1, 1) := by decide +kernel
theorem dX12_oneHour_116 : decode cX12_oneHour 116 = .ok (.iadd, 1) := by decide +kernel
theorem dX12_oneHour_117 : decode cX12_oneHour 117 = .ok (.iconst 1, 1) := by decide +kernel
theorem dX12_oneHour_118 : decode cX12_oneHour 118 = .ok (.isub, 1) := by decide +kernel
theorem dX12_oneHour_119 : decode cX12_oneHour 119 = .ok (.dup2, 1) := by decide +kernel
theorem dX12_oneHour_120 : decode cX12_oneHour 120 = .ok (.iaload, 1) := by decide +kernel
theorem dX12_oneHour_121 : decode cX12_oneHour 121 = .ok (.iconst 1, 1) := by decide +kernel
theorem dX12_oneHour_122 : decode cX12_oneHour 122 = .ok (.isub, 1) := by decide +kernel
theorem dX12_oneHour_123 : decode cX12_oneHour 123 = .ok (.iastore, 1) := by decide +kernel
theorem dX12_oneHour_124 : decode cX12_oneHour 124 = .ok (.iload_n 3, 1) := by decide +kernel
theorem dX12_oneHour_125 : decode cX12_oneHour 125 = .ok (.iconst 1, 1) := by decide +kernel
theorem dX12_oneHour_126 : decode cX12_oneHour 126 = .ok (.if_icmp .ne 8, 3) := by decide +kernel
theorem dX12_oneHour_129 : decode cX12_oneHour 129 = .ok (.aload_n 0, 1) := by decide +kernel
theorem dX12_oneHour_130 : decode cX12_oneHour 130 = .ok (.iload_n 1, 1) := by decide +kernel
theorem dX12_oneHour_131 : decode cX12_oneHour 131 = .ok (.invokevirtual 194, 3) := by decide +kernel
theorem dX12_oneHour_134 : decode cX12_oneHour 134 = .ok (.iinc 1 1, 3) := by decide +kernel
theorem dX12_oneHour_137 : decode cX12_oneHour 137 = .ok (.goto (-73), 3) := by decide +kernel
theorem dX12_oneHour_140 : decode cX12_oneHour 140 = .ok (.aload_n 0, 1) := by decide +kernel
theorem dX12_oneHour_141 : decode cX12_oneHour 141 = .ok (.getfield 19, 3) := by decide +kernel
theorem dX12_oneHour_144 : decode cX12_oneHour 144 = .ok (.iconst 3, 1) := by decide +kernel
theorem dX12_oneHour_145 : decode cX12_oneHour 145 = .ok (.dup2, 1) := by decide +kernel
theorem dX12_oneHour_146 : decode cX12_oneHour 146 = .ok (.iaload, 1) := by decide +kernel
theorem dX12_oneHour_147 : decode cX12_oneHour 147 = .ok (.iconst 1, 1) := by decide +kernel
theorem dX12_oneHour_148 : decode cX12_oneHour 148 = .ok (.iadd, 1) := by decide +kernel
theorem dX12_oneHour_149 : decode cX12_oneHour 149 = .ok (.iastore, 1) := by decide +kernel
theorem dX12_oneHour_150 : decode cX12_oneHour 150 = .ok (.return_, 1) := by decide +kernel
theorem dX12_sumFell_0 : decode cX12_sumFell 0 = .ok (.iconst 0, 1) := by decide +kernel
theorem dX12_sumFell_1 : decode cX12_sumFell 1 = .ok (.istore_n 1, 1) := by decide +kernel
theorem dX12_sumFell_2 : decode cX12_sumFell 2 = .ok (.iconst 0, 1) := by decide +kernel
theorem dX12_sumFell_3 : decode cX12_sumFell 3 = .ok (.istore_n 2, 1) := by decide +kernel
theorem dX12_sumFell_4 : decode cX12_sumFell 4 = .ok (.iload_n 2, 1) := by decide +kernel
theorem dX12_sumFell_5 : decode cX12_sumFell 5 = .ok (.aload_n 0, 1) := by decide +kernel
theorem dX12_sumFell_6 : decode cX12_sumFell 6 = .ok (.getfield 19, 3) := by decide +kernel
theorem dX12_sumFell_9 : decode cX12_sumFell 9 = .ok (.iconst 2, 1) := by decide +kernel
theorem dX12_sumFell_10 : decode cX12_sumFell 10 = .ok (.iaload, 1) := by decide +kernel
theorem dX12_sumFell_11 : decode cX12_sumFell 11 = .ok (.if_icmp .ge 21, 3) := by decide +kernel
theorem dX12_sumFell_14 : decode cX12_sumFell 14 = .ok (.iload_n 1, 1) := by decide +kernel
theorem dX12_sumFell_15 : decode cX12_sumFell 15 = .ok (.aload_n 0, 1) := by decide +kernel
theorem dX12_sumFell_16 : decode cX12_sumFell 16 = .ok (.getfield 19, 3) := by decide +kernel
theorem dX12_sumFell_19 : decode cX12_sumFell 19 = .ok (.bipush 39, 2) := by decide +kernel
theorem dX12_sumFell_21 : decode cX12_sumFell 21 = .ok (.iload_n 2, 1) := by decide +kernel
theorem dX12_sumFell_22 : decode cX12_sumFell 22 = .ok (.iadd, 1) := by decide +kernel
theorem dX12_sumFell_23 : decode cX12_sumFell 23 = .ok (.iaload, 1) := by decide +kernel
theorem dX12_sumFell_24 : decode cX12_sumFell 24 = .ok (.iadd, 1) := by decide +kernel
theorem dX12_sumFell_25 : decode cX12_sumFell 25 = .ok (.istore_n 1, 1) := by decide +kernel
theorem dX12_sumFell_26 : decode cX12_sumFell 26 = .ok (.iinc 2 1, 3) := by decide +kernel
theorem dX12_sumFell_29 : decode cX12_sumFell 29 = .ok (.goto (-25), 3) := by decide +kernel
theorem dX12_sumFell_32 : decode cX12_sumFell 32 = .ok (.iload_n 1, 1) := by decide +kernel
theorem dX12_sumFell_33 : decode cX12_sumFell 33 = .ok (.ireturn, 1) := by decide +kernel
theorem dX12_note_0 : decode cX12_note 0 = .ok (.aload_n 0, 1) := by decide +kernel
theorem dX12_note_1 : decode cX12_note 1 = .ok (.getfield 151, 3) := by decide +kernel
theorem dX12_note_4 : decode cX12_note 4 = .ok (.bipush 24, 2) := by decide +kernel
theorem dX12_note_6 : decode cX12_note 6 = .ok (.if_icmp .ne 43, 3) := by decide +kernel
theorem dX12_note_9 : decode cX12_note 9 = .ok (.iconst 0, 1) := by decide +kernel
theorem dX12_note_10 : decode cX12_note 10 = .ok (.istore_n 1, 1) := by decide +kernel
theorem dX12_note_11 : decode cX12_note 11 = .ok (.iload_n 1, 1) := by decide +kernel
theorem dX12_note_12 : decode cX12_note 12 = .ok (.sipush 1035, 3) := by decide +kernel
theorem dX12_note_15 : decode cX12_note 15 = .ok (.if_icmp .ge 24, 3) := by decide +kernel
theorem dX12_note_18 : decode cX12_note 18 = .ok (.aload_n 0, 1) := by decide +kernel
theorem dX12_note_19 : decode cX12_note 19 = .ok (.getfield 31, 3) := by decide +kernel
theorem dX12_note_22 : decode cX12_note 22 = .ok (.iload_n 1, 1) := by decide +kernel
theorem dX12_note_23 : decode cX12_note 23 = .ok (.aload_n 0, 1) := by decide +kernel
theorem dX12_note_24 : decode cX12_note 24 = .ok (.getfield 31, 3) := by decide +kernel
theorem dX12_note_27 : decode cX12_note 27 = .ok (.iload_n 1, 1) := by decide +kernel
theorem dX12_note_28 : decode cX12_note 28 = .ok (.bipush 45, 2) := by decide +kernel
theorem dX12_note_30 : decode cX12_note 30 = .ok (.iadd, 1) := by decide +kernel
theorem dX12_note_31 : decode cX12_note 31 = .ok (.iaload, 1) := by decide +kernel
theorem dX12_note_32 : decode cX12_note 32 = .ok (.iastore, 1) := by decide +kernel
theorem dX12_note_33 : decode cX12_note 33 = .ok (.iinc 1 1, 3) := by decide +kernel
theorem dX12_note_36 : decode cX12_note 36 = .ok (.goto (-25), 3) := by decide +kernel
theorem dX12_note_39 : decode cX12_note 39 = .ok (.aload_n 0, 1) := by decide +kernel
theorem dX12_note_40 : decode cX12_note 40 = .ok (.dup, 1) := by decide +kernel
theorem dX12_note_41 : decode cX12_note 41 = .ok (.getfield 151, 3) := by decide +kernel
theorem dX12_note_44 : decode cX12_note 44 = .ok (.iconst 1, 1) := by decide +kernel
theorem dX12_note_45 : decode cX12_note 45 = .ok (.isub, 1) := by decide +kernel
theorem dX12_note_46 : decode cX12_note 46 = .ok (.putfield 151, 3) := by decide +kernel
theorem dX12_note_49 : decode cX12_note 49 = .ok (.iconst 0, 1) := by decide +kernel
theorem dX12_note_50 : decode cX12_note 50 = .ok (.istore_n 1, 1) := by decide +kernel
theorem dX12_note_51 : decode cX12_note 51 = .ok (.iload_n 1, 1) := by decide +kernel
theorem dX12_note_52 : decode cX12_note 52 = .ok (.bipush 45, 2) := by decide +kernel
theorem dX12_note_54 : decode cX12_note 54 = .ok (.if_icmp .ge 29, 3) := by decide +kernel
theorem dX12_note_57 : decode cX12_note 57 = .ok (.aload_n 0, 1) := by decide +kernel
theorem dX12_note_58 : decode cX12_note 58 = .ok (.getfield 31, 3) := by decide +kernel
theorem dX12_note_61 : decode cX12_note 61 = .ok (.bipush 45, 2) := by decide +kernel
theorem dX12_note_63 : decode cX12_note 63 = .ok (.aload_n 0, 1) := by decide +kernel
theorem dX12_note_64 : decode cX12_note 64 = .ok (.getfield 151, 3) := by decide +kernel
theorem dX12_note_67 : decode cX12_note 67 = .ok (.imul, 1) := by decide +kernel
theorem dX12_note_68 : decode cX12_note 68 = .ok (.iload_n 1, 1) := by decide +kernel
theorem dX12_note_69 : decode cX12_note 69 = .ok (.iadd, 1) := by decide +kernel
theorem dX12_note_70 : decode cX12_note 70 = .ok (.aload_n 0, 1) := by decide +kernel
theorem dX12_note_71 : decode cX12_note 71 = .ok (.getfield 19, 3) := by decide +kernel
theorem dX12_note_74 : decode cX12_note 74 = .ok (.iload_n 1, 1) := by decide +kernel
theorem dX12_note_75 : decode cX12_note 75 = .ok (.iaload, 1) := by decide +kernel
theorem dX12_note_76 : decode cX12_note 76 = .ok (.iastore, 1) := by decide +kernel
theorem dX12_note_77 : decode cX12_note 77 = .ok (.iinc 1 1, 3) := by decide +kernel
theorem dX12_note_80 : decode cX12_note 80 = .ok (.goto (-29), 3) := by decide +kernel
theorem dX12_note_83 : decode cX12_note 83 = .ok (.aload_n 0, 1) := by decide +kernel
theorem dX12_note_84 : decode cX12_note 84 = .ok (.dup, 1) := by decide +kernel
theorem dX12_note_85 : decode cX12_note 85 = .ok (.getfield 151, 3) := by decide +kernel
theorem dX12_note_88 : decode cX12_note 88 = .ok (.iconst 1, 1) := by decide +kernel
theorem dX12_note_89 : decode cX12_note 89 = .ok (.iadd, 1) := by decide +kernel
theorem dX12_note_90 : decode cX12_note 90 = .ok (.putfield 151, 3) := by decide +kernel
theorem dX12_note_93 : decode cX12_note 93 = .ok (.return_, 1) := by decide +kernel
theorem dX12_undo_0 : decode cX12_undo 0 = .ok (.aload_n 0, 1) := by decide +kernel
theorem dX12_undo_1 : decode cX12_undo 1 = .ok (.getfield 151, 3) := by decide +kernel
theorem dX12_undo_4 : decode cX12_undo 4 = .ok (.ifCond .ne 6, 3) := by decide +kernel
theorem dX12_undo_7 : decode cX12_undo 7 = .ok (.ldc 197, 2) := by decide +kernel
theorem dX12_undo_9 : decode cX12_undo 9 = .ok (.ireturn, 1) := by decide +kernel
theorem dX12_undo_10 : decode cX12_undo 10 = .ok (.aload_n 0, 1) := by decide +kernel
theorem dX12_undo_11 : decode cX12_undo 11 = .ok (.dup, 1) := by decide +kernel
theorem dX12_undo_12 : decode cX12_undo 12 = .ok (.getfield 151, 3) := by decide +kernel
theorem dX12_undo_15 : decode cX12_undo 15 = .ok (.iconst 1, 1) := by decide +kernel
theorem dX12_undo_16 : decode cX12_undo 16 = .ok (.isub, 1) := by decide +kernel
theorem dX12_undo_17 : decode cX12_undo 17 = .ok (.putfield 151, 3) := by decide +kernel
theorem dX12_undo_20 : decode cX12_undo 20 = .ok (.iconst 0, 1) := by decide +kernel
theorem dX12_undo_21 : decode cX12_undo 21 = .ok (.istore_n 1, 1) := by decide +kernel
theorem dX12_undo_22 : decode cX12_undo 22 = .ok (.iload_n 1, 1) := by decide +kernel
theorem dX12_undo_23 : decode cX12_undo 23 = .ok (.bipush 45, 2) := by decide +kernel
theorem dX12_undo_25 : decode cX12_undo 25 = .ok (.if_icmp .ge 29, 3) := by decide +kernel
theorem dX12_undo_28 : decode cX12_undo 28 = .ok (.aload_n 0, 1) := by decide +kernel
theorem dX12_undo_29 : decode cX12_undo 29 = .ok (.getfield 19, 3) := by decide +kernel
theorem dX12_undo_32 : decode cX12_undo 32 = .ok (.iload_n 1, 1) := by decide +kernel
theorem dX12_undo_33 : decode cX12_undo 33 = .ok (.aload_n 0, 1) := by decide +kernel
theorem dX12_undo_34 : decode cX12_undo 34 = .ok (.getfield 31, 3) := by decide +kernel
theorem dX12_undo_37 : decode cX12_undo 37 = .ok (.bipush 45, 2) := by decide +kernel
theorem dX12_undo_39 : decode cX12_undo 39 = .ok (.aload_n 0, 1) := by decide +kernel
theorem dX12_undo_40 : decode cX12_undo 40 = .ok (.getfield 151, 3) := by decide +kernel
theorem dX12_undo_43 : decode cX12_undo 43 = .ok (.imul, 1) := by decide +kernel
theorem dX12_undo_44 : decode cX12_undo 44 = .ok (.iload_n 1, 1) := by decide +kernel
theorem dX12_undo_45 : decode cX12_undo 45 = .ok (.iadd, 1) := by decide +kernel
theorem dX12_undo_46 : decode cX12_undo 46 = .ok (.iaload, 1) := by decide +kernel
theorem dX12_undo_47 : decode cX12_undo 47 = .ok (.iastore, 1) := by decide +kernel
theorem dX12_undo_48 : decode cX12_undo 48 = .ok (.iinc 1 1, 3) := by decide +kernel
theorem dX12_undo_51 : decode cX12_undo 51 = .ok (.goto (-29), 3) := by decide +kernel
theorem dX12_undo_54 : decode cX12_undo 54 = .ok (.aload_n 0, 1) := by decide +kernel
theorem dX12_undo_55 : decode cX12_undo 55 = .ok (.getfield 151, 3) := by decide +kernel
theorem dX12_undo_58 : decode cX12_undo 58 = .ok (.ireturn, 1) := by decide +kernel
theorem dX12_hours_0 : decode cX12_hours 0 = .ok (.aload_n 0, 1) := by decide +kernel
theorem dX12_hours_1 : decode cX12_hours 1 = .ok (.getfield 147, 3) := by decide +kernel
theorem dX12_hours_4 : decode cX12_hours 4 = .ok (.ifCond .ne 6, 3) := by decide +kernel
theorem dX12_hours_7 : decode cX12_hours 7 = .ok (.ldc 197, 2) := by decide +kernel
theorem dX12_hours_9 : decode cX12_hours 9 = .ok (.ireturn, 1) := by decide +kernel
theorem dX12_hours_10 : decode cX12_hours 10 = .ok (.iload_n 1, 1) := by decide +kernel
theorem dX12_hours_11 : decode cX12_hours 11 = .ok (.i2l, 1) := by decide +kernel
theorem dX12_hours_12 : decode cX12_hours 12 = .ok (.lconst 1, 1) := by decide +kernel
theorem dX12_hours_13 : decode cX12_hours 13 = .ok (.ldc2_w 198, 3) := by decide +kernel
theorem dX12_hours_16 : decode cX12_hours 16 = .ok (.invokestatic 60, 3) := by decide +kernel
theorem dX12_hours_19 : decode cX12_hours 19 = .ok (.ifCond .ne 6, 3) := by decide +kernel
theorem dX12_hours_22 : decode cX12_hours 22 = .ok (.ldc 70, 2) := by decide +kernel
theorem dX12_hours_24 : decode cX12_hours 24 = .ok (.ireturn, 1) := by decide +kernel
theorem dX12_hours_25 : decode cX12_hours 25 = .ok (.aload_n 0, 1) := by decide +kernel
theorem dX12_hours_26 : decode cX12_hours 26 = .ok (.getfield 19, 3) := by decide +kernel
theorem dX12_hours_29 : decode cX12_hours 29 = .ok (.iconst 3, 1) := by decide +kernel
theorem dX12_hours_30 : decode cX12_hours 30 = .ok (.iaload, 1) := by decide +kernel
theorem dX12_hours_31 : decode cX12_hours 31 = .ok (.iload_n 1, 1) := by decide +kernel
theorem dX12_hours_32 : decode cX12_hours 32 = .ok (.iadd, 1) := by decide +kernel
theorem dX12_hours_33 : decode cX12_hours 33 = .ok (.sipush 999, 3) := by decide +kernel
theorem dX12_hours_36 : decode cX12_hours 36 = .ok (.if_icmp .le 6, 3) := by decide +kernel
theorem dX12_hours_39 : decode cX12_hours 39 = .ok (.ldc 87, 2) := by decide +kernel
theorem dX12_hours_41 : decode cX12_hours 41 = .ok (.ireturn, 1) := by decide +kernel
theorem dX12_hours_42 : decode cX12_hours 42 = .ok (.iconst 0, 1) := by decide +kernel
theorem dX12_hours_43 : decode cX12_hours 43 = .ok (.istore_n 2, 1) := by decide +kernel
theorem dX12_hours_44 : decode cX12_hours 44 = .ok (.iload_n 2, 1) := by decide +kernel
theorem dX12_hours_45 : decode cX12_hours 45 = .ok (.iload_n 1, 1) := by decide +kernel
theorem dX12_hours_46 : decode cX12_hours 46 = .ok (.if_icmp .ge 17, 3) := by decide +kernel
theorem dX12_hours_49 : decode cX12_hours 49 = .ok (.aload_n 0, 1) := by decide +kernel
theorem dX12_hours_50 : decode cX12_hours 50 = .ok (.invokevirtual 200, 3) := by decide +kernel
theorem dX12_hours_53 : decode cX12_hours 53 = .ok (.aload_n 0, 1) := by decide +kernel
theorem dX12_hours_54 : decode cX12_hours 54 = .ok (.invokevirtual 203, 3) := by decide +kernel
theorem dX12_hours_57 : decode cX12_hours 57 = .ok (.iinc 2 1, 3) := by decide +kernel
theorem dX12_hours_60 : decode cX12_hours 60 = .ok (.goto (-16), 3) := by decide +kernel
theorem dX12_hours_63 : decode cX12_hours 63 = .ok (.aload_n 0, 1) := by decide +kernel
theorem dX12_hours_64 : decode cX12_hours 64 = .ok (.invokevirtual 206, 3) := by decide +kernel
theorem dX12_hours_67 : decode cX12_hours 67 = .ok (.ireturn, 1) := by decide +kernel
theorem dX12_begin_0 : decode cX12_begin 0 = .ok (.aload_n 0, 1) := by decide +kernel
theorem dX12_begin_1 : decode cX12_begin 1 = .ok (.iload_n 1, 1) := by decide +kernel
theorem dX12_begin_2 : decode cX12_begin 2 = .ok (.invokevirtual 209, 3) := by decide +kernel
theorem dX12_begin_5 : decode cX12_begin 5 = .ok (.ifCond .eq 15, 3) := by decide +kernel
theorem dX12_begin_8 : decode cX12_begin 8 = .ok (.iload_n 2, 1) := by decide +kernel
theorem dX12_begin_9 : decode cX12_begin 9 = .ok (.i2l, 1) := by decide +kernel
theorem dX12_begin_10 : decode cX12_begin 10 = .ok (.lconst 0, 1) := by decide +kernel
theorem dX12_begin_11 : decode cX12_begin 11 = .ok (.ldc2_w 212, 3) := by decide +kernel
theorem dX12_begin_14 : decode cX12_begin 14 = .ok (.invokestatic 60, 3) := by decide +kernel
theorem dX12_begin_17 : decode cX12_begin 17 = .ok (.ifCond .ne 6, 3) := by decide +kernel
theorem dX12_begin_20 : decode cX12_begin 20 = .ok (.ldc 70, 2) := by decide +kernel
theorem dX12_begin_22 : decode cX12_begin 22 = .ok (.ireturn, 1) := by decide +kernel
theorem dX12_begin_23 : decode cX12_begin 23 = .ok (.aload_n 0, 1) := by decide +kernel
theorem dX12_begin_24 : decode cX12_begin 24 = .ok (.invokevirtual 200, 3) := by decide +kernel
theorem dX12_begin_27 : decode cX12_begin 27 = .ok (.aload_n 0, 1) := by decide +kernel
theorem dX12_begin_28 : decode cX12_begin 28 = .ok (.getfield 19, 3) := by decide +kernel
theorem dX12_begin_31 : decode cX12_begin 31 = .ok (.bipush 27, 2) := by decide +kernel
theorem dX12_begin_33 : decode cX12_begin 33 = .ok (.iload_n 1, 1) := by decide +kernel
theorem dX12_begin_34 : decode cX12_begin 34 = .ok (.iadd, 1) := by decide +kernel
theorem dX12_begin_35 : decode cX12_begin 35 = .ok (.iaload, 1) := by decide +kernel
theorem dX12_begin_36 : decode cX12_begin 36 = .ok (.istore_n 3, 1) := by decide +kernel
theorem dX12_begin_37 : decode cX12_begin 37 = .ok (.aload_n 0, 1) := by decide +kernel
theorem dX12_begin_38 : decode cX12_begin 38 = .ok (.getfield 19, 3) := by decide +kernel
theorem dX12_begin_41 : decode cX12_begin 41 = .ok (.bipush 27, 2) := by decide +kernel
theorem dX12_begin_43 : decode cX12_begin 43 = .ok (.iload_n 1, 1) := by decide +kernel
theorem dX12_begin_44 : decode cX12_begin 44 = .ok (.iadd, 1) := by decide +kernel
theorem dX12_begin_45 : decode cX12_begin 45 = .ok (.iload_n 2, 1) := by decide +kernel
theorem dX12_begin_46 : decode cX12_begin 46 = .ok (.iastore, 1) := by decide +kernel
theorem dX12_begin_47 : decode cX12_begin 47 = .ok (.iload_n 3, 1) := by decide +kernel
theorem dX12_begin_48 : decode cX12_begin 48 = .ok (.ireturn, 1) := by decide +kernel
theorem dX12_hold_0 : decode cX12_hold 0 = .ok (.aload_n 0, 1) := by decide +kernel
theorem dX12_hold_1 : decode cX12_hold 1 = .ok (.iload_n 1, 1) := by decide +kernel
theorem dX12_hold_2 : decode cX12_hold 2 = .ok (.invokevirtual 209, 3) := by decide +kernel
theorem dX12_hold_5 : decode cX12_hold 5 = .ok (.ifCond .eq 13, 3) := by decide +kernel
theorem dX12_hold_8 : decode cX12_hold 8 = .ok (.iload_n 2, 1) := by decide +kernel
theorem dX12_hold_9 : decode cX12_hold 9 = .ok (.i2l, 1) := by decide +kernel
theorem dX12_hold_10 : decode cX12_hold 10 = .ok (.lconst 0, 1) := by decide +kernel
theorem dX12_hold_11 : decode cX12_hold 11 = .ok (.lconst 1, 1) := by decide +kernel
theorem dX12_hold_12 : decode cX12_hold 12 = .ok (.invokestatic 60, 3) := by decide +kernel
theorem dX12_hold_15 : decode cX12_hold 15 = .ok (.ifCond .ne 6, 3) := by decide +kernel
theorem dX12_hold_18 : decode cX12_hold 18 = .ok (.ldc 70, 2) := by decide +kernel
theorem dX12_hold_20 : decode cX12_hold 20 = .ok (.ireturn, 1) := by decide +kernel
theorem dX12_hold_21 : decode cX12_hold 21 = .ok (.aload_n 0, 1) := by decide +kernel
theorem dX12_hold_22 : decode cX12_hold 22 = .ok (.getfield 19, 3) := by decide +kernel
theorem dX12_hold_25 : decode cX12_hold 25 = .ok (.iconst 4, 1) := by decide +kernel
theorem dX12_hold_26 : decode cX12_hold 26 = .ok (.iaload, 1) := by decide +kernel
theorem dX12_hold_27 : decode cX12_hold 27 = .ok (.iload_n 1, 1) := by decide +kernel
theorem dX12_hold_28 : decode cX12_hold 28 = .ok (.invokestatic 174, 3) := by decide +kernel
theorem dX12_hold_31 : decode cX12_hold 31 = .ok (.iload_n 2, 1) := by decide +kernel
theorem dX12_hold_32 : decode cX12_hold 32 = .ok (.iconst 1, 1) := by decide +kernel
theorem dX12_hold_33 : decode cX12_hold 33 = .ok (.if_icmp .ne 7, 3) := by decide +kernel
theorem dX12_hold_36 : decode cX12_hold 36 = .ok (.iconst 1, 1) := by decide +kernel
theorem dX12_hold_37 : decode cX12_hold 37 = .ok (.goto 4, 3) := by decide +kernel
theorem dX12_hold_40 : decode cX12_hold 40 = .ok (.iconst 0, 1) := by decide +kernel
theorem dX12_hold_41 : decode cX12_hold 41 = .ok (.if_icmp .ne 6, 3) := by decide +kernel
theorem dX12_hold_44 : decode cX12_hold 44 = .ok (.ldc 197, 2) := by decide +kernel
theorem dX12_hold_46 : decode cX12_hold 46 = .ok (.ireturn, 1) := by decide +kernel
theorem dX12_hold_47 : decode cX12_hold 47 = .ok (.aload_n 0, 1) := by decide +kernel
theorem dX12_hold_48 : decode cX12_hold 48 = .ok (.invokevirtual 200, 3) := by decide +kernel
theorem dX12_hold_51 : decode cX12_hold 51 = .ok (.aload_n 0, 1) := by decide +kernel
theorem dX12_hold_52 : decode cX12_hold 52 = .ok (.getfield 19, 3) := by decide +kernel
theorem dX12_hold_55 : decode cX12_hold 55 = .ok (.iconst 4, 1) := by decide +kernel
theorem dX12_hold_56 : decode cX12_hold 56 = .ok (.dup2, 1) := by decide +kernel
theorem dX12_hold_57 : decode cX12_hold 57 = .ok (.iaload, 1) := by decide +kernel
theorem dX12_hold_58 : decode cX12_hold 58 = .ok (.iconst 1, 1) := by decide +kernel
theorem dX12_hold_59 : decode cX12_hold 59 = .ok (.iload_n 1, 1) := by decide +kernel
theorem dX12_hold_60 : decode cX12_hold 60 = .ok (.ishl, 1) := by decide +kernel
theorem dX12_hold_61 : decode cX12_hold 61 = .ok (.ixor, 1) := by decide +kernel
theorem dX12_hold_62 : decode cX12_hold 62 = .ok (.iastore, 1) := by decide +kernel
theorem dX12_hold_63 : decode cX12_hold 63 = .ok (.aload_n 0, 1) := by decide +kernel
theorem dX12_hold_64 : decode cX12_hold 64 = .ok (.getfield 19, 3) := by decide +kernel
theorem dX12_hold_67 : decode cX12_hold 67 = .ok (.iconst 4, 1) := by decide +kernel
theorem dX12_hold_68 : decode cX12_hold 68 = .ok (.iaload, 1) := by decide +kernel
theorem dX12_hold_69 : decode cX12_hold 69 = .ok (.ireturn, 1) := by decide +kernel
theorem dX12_mend_0 : decode cX12_mend 0 = .ok (.aload_n 0, 1) := by decide +kernel
theorem dX12_mend_1 : decode cX12_mend 1 = .ok (.iload_n 1, 1) := by decide +kernel
theorem dX12_mend_2 : decode cX12_mend 2 = .ok (.invokevirtual 214, 3) := by decide +kernel
theorem dX12_mend_5 : decode cX12_mend 5 = .ok (.ifCond .ne 6, 3) := by decide +kernel
theorem dX12_mend_8 : decode cX12_mend 8 = .ok (.ldc 70, 2) := by decide +kernel
theorem dX12_mend_10 : decode cX12_mend 10 = .ok (.ireturn, 1) := by decide +kernel
theorem dX12_mend_11 : decode cX12_mend 11 = .ok (.aload_n 0, 1) := by decide +kernel
theorem dX12_mend_12 : decode cX12_mend 12 = .ok (.invokevirtual 200, 3) := by decide +kernel
theorem dX12_mend_15 : decode cX12_mend 15 = .ok (.aload_n 0, 1) := by decide +kernel
theorem dX12_mend_16 : decode cX12_mend 16 = .ok (.getfield 19, 3) := by decide +kernel
theorem dX12_mend_19 : decode cX12_mend 19 = .ok (.bipush 6, 2) := by decide +kernel
theorem dX12_mend_21 : decode cX12_mend 21 = .ok (.iload_n 1, 1) := by decide +kernel
theorem dX12_mend_22 : decode cX12_mend 22 = .ok (.iadd, 1) := by decide +kernel
theorem dX12_mend_23 : decode cX12_mend 23 = .ok (.iaload, 1) := by decide +kernel
theorem dX12_mend_24 : decode cX12_mend 24 = .ok (.istore_n 2, 1) := by decide +kernel
theorem dX12_mend_25 : decode cX12_mend 25 = .ok (.aload_n 0, 1) := by decide +kernel
theorem dX12_mend_26 : decode cX12_mend 26 = .ok (.getfield 19, 3) := by decide +kernel
theorem dX12_mend_29 : decode cX12_mend 29 = .ok (.bipush 6, 2) := by decide +kernel
theorem dX12_mend_31 : decode cX12_mend 31 = .ok (.iload_n 1, 1) := by decide +kernel
theorem dX12_mend_32 : decode cX12_mend 32 = .ok (.iadd, 1) := by decide +kernel
theorem dX12_mend_33 : decode cX12_mend 33 = .ok (.bipush 99, 2) := by decide +kernel
theorem dX12_mend_35 : decode cX12_mend 35 = .ok (.iastore, 1) := by decide +kernel
theorem dX12_mend_36 : decode cX12_mend 36 = .ok (.iload_n 2, 1) := by decide +kernel
theorem dX12_mend_37 : decode cX12_mend 37 = .ok (.ireturn, 1) := by decide +kernel
theorem dX12_takeOut_0 : decode cX12_takeOut 0 = .ok (.aload_n 0, 1) := by decide +kernel
theorem dX12_takeOut_1 : decode cX12_takeOut 1 = .ok (.iload_n 1, 1) := by decide +kernel
theorem dX12_takeOut_2 : decode cX12_takeOut 2 = .ok (.invokevirtual 214, 3) := by decide +kernel
theorem dX12_takeOut_5 : decode cX12_takeOut 5 = .ok (.ifCond .ne 6, 3) := by decide +kernel
theorem dX12_takeOut_8 : decode cX12_takeOut 8 = .ok (.ldc 70, 2) := by decide +kernel
theorem dX12_takeOut_10 : decode cX12_takeOut 10 = .ok (.ireturn, 1) := by decide +kernel
theorem dX12_takeOut_11 : decode cX12_takeOut 11 = .ok (.aload_n 0, 1) := by decide +kernel
theorem dX12_takeOut_12 : decode cX12_takeOut 12 = .ok (.getfield 19, 3) := by decide +kernel
theorem dX12_takeOut_15 : decode cX12_takeOut 15 = .ok (.bipush 6, 2) := by decide +kernel
theorem dX12_takeOut_17 : decode cX12_takeOut 17 = .ok (.iload_n 1, 1) := by decide +kernel
theorem dX12_takeOut_18 : decode cX12_takeOut 18 = .ok (.iadd, 1) := by decide +kernel
theorem dX12_takeOut_19 : decode cX12_takeOut 19 = .ok (.iaload, 1) := by decide +kernel
theorem dX12_takeOut_20 : decode cX12_takeOut 20 = .ok (.ifCond .ne 6, 3) := by decide +kernel
theorem dX12_takeOut_23 : decode cX12_takeOut 23 = .ok (.ldc 197, 2) := by decide +kernel
theorem dX12_takeOut_25 : decode cX12_takeOut 25 = .ok (.ireturn, 1) := by decide +kernel
theorem dX12_takeOut_26 : decode cX12_takeOut 26 = .ok (.aload_n 0, 1) := by decide +kernel
theorem dX12_takeOut_27 : decode cX12_takeOut 27 = .ok (.invokevirtual 200, 3) := by decide +kernel
theorem dX12_takeOut_30 : decode cX12_takeOut 30 = .ok (.aload_n 0, 1) := by decide +kernel
theorem dX12_takeOut_31 : decode cX12_takeOut 31 = .ok (.iload_n 1, 1) := by decide +kernel
theorem dX12_takeOut_32 : decode cX12_takeOut 32 = .ok (.iconst 1, 1) := by decide +kernel
theorem dX12_takeOut_33 : decode cX12_takeOut 33 = .ok (.iadd, 1) := by decide +kernel
theorem dX12_takeOut_34 : decode cX12_takeOut 34 = .ok (.invokevirtual 160, 3) := by decide +kernel
theorem dX12_takeOut_37 : decode cX12_takeOut 37 = .ok (.istore_n 2, 1) := by decide +kernel
theorem dX12_takeOut_38 : decode cX12_takeOut 38 = .ok (.aload_n 0, 1) := by decide +kernel
theorem dX12_takeOut_39 : decode cX12_takeOut 39 = .ok (.iload_n 1, 1) := by decide +kernel
theorem dX12_takeOut_40 : decode cX12_takeOut 40 = .ok (.iconst 1, 1) := by decide +kernel
theorem dX12_takeOut_41 : decode cX12_takeOut 41 = .ok (.iadd, 1) := by decide +kernel
theorem dX12_takeOut_42 : decode cX12_takeOut 42 = .ok (.invokevirtual 194, 3) := by decide +kernel
theorem dX12_takeOut_45 : decode cX12_takeOut 45 = .ok (.iload_n 2, 1) := by decide +kernel
theorem dX12_takeOut_46 : decode cX12_takeOut 46 = .ok (.ireturn, 1) := by decide +kernel
theorem dX12_goer_0 : decode cX12_goer 0 = .ok (.aload_n 0, 1) := by decide +kernel
theorem dX12_goer_1 : decode cX12_goer 1 = .ok (.iload_n 1, 1) := by decide +kernel
theorem dX12_goer_2 : decode cX12_goer 2 = .ok (.invokevirtual 209, 3) := by decide +kernel
theorem dX12_goer_5 : decode cX12_goer 5 = .ok (.ifCond .ne 6, 3) := by decide +kernel
theorem dX12_goer_8 : decode cX12_goer 8 = .ok (.ldc 70, 2) := by decide +kernel
theorem dX12_goer_10 : decode cX12_goer 10 = .ok (.ireturn, 1) := by decide +kernel
theorem dX12_goer_11 : decode cX12_goer 11 = .ok (.iload_n 2, 1) := by decide +kernel
theorem dX12_goer_12 : decode cX12_goer 12 = .ok (.tableswitch 128 0 6 #[44, 54, 64, 74, 80, 99, 118], 44) := by decide +kernel
theorem dX12_goer_56 : decode cX12_goer 56 = .ok (.aload_n 0, 1) := by decide +kernel
theorem dX12_goer_57 : decode cX12_goer 57 = .ok (.getfield 19, 3) := by decide +kernel
theorem dX12_goer_60 : decode cX12_goer 60 = .ok (.bipush 33, 2) := by decide +kernel
theorem dX12_goer_62 : decode cX12_goer 62 = .ok (.iload_n 1, 1) := by decide +kernel
theorem dX12_goer_63 : decode cX12_goer 63 = .ok (.iadd, 1) := by decide +kernel
theorem dX12_goer_64 : decode cX12_goer 64 = .ok (.iaload, 1) := by decide +kernel
theorem dX12_goer_65 : decode cX12_goer 65 = .ok (.ireturn, 1) := by decide +kernel
theorem dX12_goer_66 : decode cX12_goer 66 = .ok (.aload_n 0, 1) := by decide +kernel
theorem dX12_goer_67 : decode cX12_goer 67 = .ok (.getfield 19, 3) := by decide +kernel
theorem dX12_goer_70 : decode cX12_goer 70 = .ok (.bipush 21, 2) := by decide +kernel
theorem dX12_goer_72 : decode cX12_goer 72 = .ok (.iload_n 1, 1) := by decide +kernel
theorem dX12_goer_73 : decode cX12_goer 73 = .ok (.iadd, 1) := by decide +kernel
theorem dX12_goer_74 : decode cX12_goer 74 = .ok (.iaload, 1) := by decide +kernel
theorem dX12_goer_75 : decode cX12_goer 75 = .ok (.ireturn, 1) := by decide +kernel
theorem dX12_goer_76 : decode cX12_goer 76 = .ok (.aload_n 0, 1) := by decide +kernel
theorem dX12_goer_77 : decode cX12_goer 77 = .ok (.getfield 19, 3) := by decide +kernel
theorem dX12_goer_80 : decode cX12_goer 80 = .ok (.bipush 27, 2) := by decide +kernel
theorem dX12_goer_82 : decode cX12_goer 82 = .ok (.iload_n 1, 1) := by decide +kernel
theorem dX12_goer_83 : decode cX12_goer 83 = .ok (.iadd, 1) := by decide +kernel
theorem dX12_goer_84 : decode cX12_goer 84 = .ok (.iaload, 1) := by decide +kernel
theorem dX12_goer_85 : decode cX12_goer 85 = .ok (.ireturn, 1) := by decide +kernel
theorem dX12_goer_86 : decode cX12_goer 86 = .ok (.aload_n 0, 1) := by decide +kernel
theorem dX12_goer_87 : decode cX12_goer 87 = .ok (.iload_n 1, 1) := by decide +kernel
theorem dX12_goer_88 : decode cX12_goer 88 = .ok (.invokevirtual 154, 3) := by decide +kernel
theorem dX12_goer_91 : decode cX12_goer 91 = .ok (.ireturn, 1) := by decide +kernel
theorem dX12_goer_92 : decode cX12_goer 92 = .ok (.aload_n 0, 1) := by decide +kernel
theorem dX12_goer_93 : decode cX12_goer 93 = .ok (.getfield 19, 3) := by decide +kernel
theorem dX12_goer_96 : decode cX12_goer 96 = .ok (.iconst 5, 1) := by decide +kernel
theorem dX12_goer_97 : decode cX12_goer 97 = .ok (.iaload, 1) := by decide +kernel
theorem dX12_goer_98 : decode cX12_goer 98 = .ok (.iload_n 1, 1) := by decide +kernel
theorem dX12_goer_99 : decode cX12_goer 99 = .ok (.invokestatic 174, 3) := by decide +kernel
theorem dX12_goer_102 : decode cX12_goer 102 = .ok (.ifCond .eq 7, 3) := by decide +kernel
theorem dX12_goer_105 : decode cX12_goer 105 = .ok (.iconst 1, 1) := by decide +kernel
theorem dX12_goer_106 : decode cX12_goer 106 = .ok (.goto 4, 3) := by decide +kernel
theorem dX12_goer_109 : decode cX12_goer 109 = .ok (.iconst 0, 1) := by decide +kernel
theorem dX12_goer_110 : decode cX12_goer 110 = .ok (.ireturn, 1) := by decide +kernel
theorem dX12_goer_111 : decode cX12_goer 111 = .ok (.aload_n 0, 1) := by decide +kernel
theorem dX12_goer_112 : decode cX12_goer 112 = .ok (.getfield 19, 3) := by decide +kernel
theorem dX12_goer_115 : decode cX12_goer 115 = .ok (.iconst 4, 1) := by decide +kernel
theorem dX12_goer_116 : decode cX12_goer 116 = .ok (.iaload, 1) := by decide +kernel
theorem dX12_goer_117 : decode cX12_goer 117 = .ok (.iload_n 1, 1) := by decide +kernel
theorem dX12_goer_118 : decode cX12_goer 118 = .ok (.invokestatic 174, 3) := by decide +kernel
theorem dX12_goer_121 : decode cX12_goer 121 = .ok (.ifCond .eq 7, 3) := by decide +kernel
theorem dX12_goer_124 : decode cX12_goer 124 = .ok (.iconst 1, 1) := by decide +kernel
theorem dX12_goer_125 : decode cX12_goer 125 = .ok (.goto 4, 3) := by decide +kernel
theorem dX12_goer_128 : decode cX12_goer 128 = .ok (.iconst 0, 1) := by decide +kernel
theorem dX12_goer_129 : decode cX12_goer 129 = .ok (.ireturn, 1) := by decide +kernel
theorem dX12_goer_130 : decode cX12_goer 130 = .ok (.aload_n 0, 1) := by decide +kernel
theorem dX12_goer_131 : decode cX12_goer 131 = .ok (.getfield 19, 3) := by decide +kernel
theorem dX12_goer_134 : decode cX12_goer 134 = .ok (.bipush 39, 2) := by decide +kernel
theorem dX12_goer_136 : decode cX12_goer 136 = .ok (.iload_n 1, 1) := by decide +kernel
theorem dX12_goer_137 : decode cX12_goer 137 = .ok (.iadd, 1) := by decide +kernel
theorem dX12_goer_138 : decode cX12_goer 138 = .ok (.iaload, 1) := by decide +kernel
theorem dX12_goer_139 : decode cX12_goer 139 = .ok (.ireturn, 1) := by decide +kernel
theorem dX12_goer_140 : decode cX12_goer 140 = .ok (.ldc 70, 2) := by decide +kernel
theorem dX12_goer_142 : decode cX12_goer 142 = .ok (.ireturn, 1) := by decide +kernel
theorem dX12_rung_0 : decode cX12_rung 0 = .ok (.aload_n 0, 1) := by decide +kernel
theorem dX12_rung_1 : decode cX12_rung 1 = .ok (.iload_n 1, 1) := by decide +kernel
theorem dX12_rung_2 : decode cX12_rung 2 = .ok (.invokevirtual 214, 3) := by decide +kernel
theorem dX12_rung_5 : decode cX12_rung 5 = .ok (.ifCond .eq 15, 3) := by decide +kernel
theorem dX12_rung_8 : decode cX12_rung 8 = .ok (.iload_n 2, 1) := by decide +kernel
theorem dX12_rung_9 : decode cX12_rung 9 = .ok (.i2l, 1) := by decide +kernel
theorem dX12_rung_10 : decode cX12_rung 10 = .ok (.lconst 0, 1) := by decide +kernel
theorem dX12_rung_11 : decode cX12_rung 11 = .ok (.ldc2_w 68, 3) := by decide +kernel
theorem dX12_rung_14 : decode cX12_rung 14 = .ok (.invokestatic 60, 3) := by decide +kernel
theorem dX12_rung_17 : decode cX12_rung 17 = .ok (.ifCond .ne 8, 3) := by decide +kernel
theorem dX12_rung_20 : decode cX12_rung 20 = .ok (.ldc 70, 2) := by decide +kernel
theorem dX12_rung_22 : decode cX12_rung 22 = .ok (.goto 41, 3) := by decide +kernel
theorem dX12_rung_25 : decode cX12_rung 25 = .ok (.iload_n 2, 1) := by decide +kernel
theorem dX12_rung_26 : decode cX12_rung 26 = .ok (.ifCond .ne 15, 3) := by decide +kernel
theorem dX12_rung_29 : decode cX12_rung 29 = .ok (.aload_n 0, 1) := by decide +kernel
theorem dX12_rung_30 : decode cX12_rung 30 = .ok (.getfield 19, 3) := by decide +kernel
theorem dX12_rung_33 : decode cX12_rung 33 = .ok (.bipush 6, 2) := by decide +kernel
theorem dX12_rung_35 : decode cX12_rung 35 = .ok (.iload_n 1, 1) := by decide +kernel
theorem dX12_rung_36 : decode cX12_rung 36 = .ok (.iadd, 1) := by decide +kernel
theorem dX12_rung_37 : decode cX12_rung 37 = .ok (.iaload, 1) := by decide +kernel
theorem dX12_rung_38 : decode cX12_rung 38 = .ok (.goto 25, 3) := by decide +kernel
theorem dX12_rung_41 : decode cX12_rung 41 = .ok (.iload_n 2, 1) := by decide +kernel
theorem dX12_rung_42 : decode cX12_rung 42 = .ok (.iconst 1, 1) := by decide +kernel
theorem dX12_rung_43 : decode cX12_rung 43 = .ok (.if_icmp .ne 13, 3) := by decide +kernel
theorem dX12_rung_46 : decode cX12_rung 46 = .ok (.aload_n 0, 1) := by decide +kernel
theorem dX12_rung_47 : decode cX12_rung 47 = .ok (.iload_n 1, 1) := by decide +kernel
theorem dX12_rung_48 : decode cX12_rung 48 = .ok (.iconst 1, 1) := by decide +kernel
theorem dX12_rung_49 : decode cX12_rung 49 = .ok (.iadd, 1) := by decide +kernel
theorem dX12_rung_50 : decode cX12_rung 50 = .ok (.invokevirtual 157, 3) := by decide +kernel
theorem dX12_rung_53 : decode cX12_rung 53 = .ok (.goto 10, 3) := by decide +kernel
theorem dX12_rung_56 : decode cX12_rung 56 = .ok (.aload_n 0, 1) := by decide +kernel
theorem dX12_rung_57 : decode cX12_rung 57 = .ok (.iload_n 1, 1) := by decide +kernel
theorem dX12_rung_58 : decode cX12_rung 58 = .ok (.iconst 1, 1) := by decide +kernel
theorem dX12_rung_59 : decode cX12_rung 59 = .ok (.iadd, 1) := by decide +kernel
theorem dX12_rung_60 : decode cX12_rung 60 = .ok (.invokevirtual 160, 3) := by decide +kernel
theorem dX12_rung_63 : decode cX12_rung 63 = .ok (.ireturn, 1) := by decide +kernel
theorem dX12_brokenSet_0 : decode cX12_brokenSet 0 = .ok (.iconst 0, 1) := by decide +kernel
theorem dX12_brokenSet_1 : decode cX12_brokenSet 1 = .ok (.istore_n 1, 1) := by decide +kernel
theorem dX12_brokenSet_2 : decode cX12_brokenSet 2 = .ok (.iconst 0, 1) := by decide +kernel
theorem dX12_brokenSet_3 : decode cX12_brokenSet 3 = .ok (.istore_n 2, 1) := by decide +kernel
theorem dX12_brokenSet_4 : decode cX12_brokenSet 4 = .ok (.iload_n 2, 1) := by decide +kernel
theorem dX12_brokenSet_5 : decode cX12_brokenSet 5 = .ok (.aload_n 0, 1) := by decide +kernel
theorem dX12_brokenSet_6 : decode cX12_brokenSet 6 = .ok (.getfield 19, 3) := by decide +kernel
theorem dX12_brokenSet_9 : decode cX12_brokenSet 9 = .ok (.iconst 0, 1) := by decide +kernel
theorem dX12_brokenSet_10 : decode cX12_brokenSet 10 = .ok (.iaload, 1) := by decide +kernel
theorem dX12_brokenSet_11 : decode cX12_brokenSet 11 = .ok (.if_icmp .ge 31, 3) := by decide +kernel
theorem dX12_brokenSet_14 : decode cX12_brokenSet 14 = .ok (.iload_n 1, 1) := by decide +kernel
theorem dX12_brokenSet_15 : decode cX12_brokenSet 15 = .ok (.aload_n 0, 1) := by decide +kernel
theorem dX12_brokenSet_16 : decode cX12_brokenSet 16 = .ok (.getfield 19, 3) := by decide +kernel
theorem dX12_brokenSet_19 : decode cX12_brokenSet 19 = .ok (.bipush 6, 2) := by decide +kernel
theorem dX12_brokenSet_21 : decode cX12_brokenSet 21 = .ok (.iload_n 2, 1) := by decide +kernel
theorem dX12_brokenSet_22 : decode cX12_brokenSet 22 = .ok (.iadd, 1) := by decide +kernel
theorem dX12_brokenSet_23 : decode cX12_brokenSet 23 = .ok (.iaload, 1) := by decide +kernel
theorem dX12_brokenSet_24 : decode cX12_brokenSet 24 = .ok (.ifCond .ne 9, 3) := by decide +kernel
theorem dX12_brokenSet_27 : decode cX12_brokenSet 27 = .ok (.iconst 1, 1) := by decide +kernel
theorem dX12_brokenSet_28 : decode cX12_brokenSet 28 = .ok (.iload_n 2, 1) := by decide +kernel
theorem dX12_brokenSet_29 : decode cX12_brokenSet 29 = .ok (.ishl, 1) := by decide +kernel
theorem dX12_brokenSet_30 : decode cX12_brokenSet 30 = .ok (.goto 4, 3) := by decide +kernel
theorem dX12_brokenSet_33 : decode cX12_brokenSet 33 = .ok (.iconst 0, 1) := by decide +kernel
theorem dX12_brokenSet_34 : decode cX12_brokenSet 34 = .ok (.ior, 1) := by decide +kernel
theorem dX12_brokenSet_35 : decode cX12_brokenSet 35 = .ok (.istore_n 1, 1) := by decide +kernel
theorem dX12_brokenSet_36 : decode cX12_brokenSet 36 = .ok (.iinc 2 1, 3) := by decide +kernel
theorem dX12_brokenSet_39 : decode cX12_brokenSet 39 = .ok (.goto (-35), 3) := by decide +kernel
theorem dX12_brokenSet_42 : decode cX12_brokenSet 42 = .ok (.iload_n 1, 1) := by decide +kernel
theorem dX12_brokenSet_43 : decode cX12_brokenSet 43 = .ok (.ireturn, 1) := by decide +kernel
theorem dX12_stand_0 : decode cX12_stand 0 = .ok (.aload_n 0, 1) := by decide +kernel
theorem dX12_stand_1 : decode cX12_stand 1 = .ok (.getfield 147, 3) := by decide +kernel
theorem dX12_stand_4 : decode cX12_stand 4 = .ok (.ifCond .ne 6, 3) := by decide +kernel
theorem dX12_stand_7 : decode cX12_stand 7 = .ok (.ldc 197, 2) := by decide +kernel
theorem dX12_stand_9 : decode cX12_stand 9 = .ok (.ireturn, 1) := by decide +kernel
theorem dX12_stand_10 : decode cX12_stand 10 = .ok (.iload_n 1, 1) := by decide +kernel
theorem dX12_stand_11 : decode cX12_stand 11 = .ok (.tableswitch 61 0 4 #[33, 38, 44, 49, 54], 33) := by decide +kernel
theorem dX12_stand_44 : decode cX12_stand 44 = .ok (.aload_n 0, 1) := by decide +kernel
theorem dX12_stand_45 : decode cX12_stand 45 = .ok (.invokevirtual 206, 3) := by decide +kernel
theorem dX12_stand_48 : decode cX12_stand 48 = .ok (.ireturn, 1) := by decide +kernel
theorem dX12_stand_49 : decode cX12_stand 49 = .ok (.aload_n 0, 1) := by decide +kernel
theorem dX12_stand_50 : decode cX12_stand 50 = .ok (.iconst 0, 1) := by decide +kernel
theorem dX12_stand_51 : decode cX12_stand 51 = .ok (.invokevirtual 160, 3) := by decide +kernel
theorem dX12_stand_54 : decode cX12_stand 54 = .ok (.ireturn, 1) := by decide +kernel
theorem dX12_stand_55 : decode cX12_stand 55 = .ok (.aload_n 0, 1) := by decide +kernel
theorem dX12_stand_56 : decode cX12_stand 56 = .ok (.invokevirtual 163, 3) := by decide +kernel
theorem dX12_stand_59 : decode cX12_stand 59 = .ok (.ireturn, 1) := by decide +kernel
theorem dX12_stand_60 : decode cX12_stand 60 = .ok (.aload_n 0, 1) := by decide +kernel
theorem dX12_stand_61 : decode cX12_stand 61 = .ok (.invokevirtual 217, 3) := by decide +kernel
theorem dX12_stand_64 : decode cX12_stand 64 = .ok (.ireturn, 1) := by decide +kernel
theorem dX12_stand_65 : decode cX12_stand 65 = .ok (.aload_n 0, 1) := by decide +kernel
theorem dX12_stand_66 : decode cX12_stand 66 = .ok (.getfield 19, 3) := by decide +kernel
theorem dX12_stand_69 : decode cX12_stand 69 = .ok (.iconst 4, 1) := by decide +kernel
theorem dX12_stand_70 : decode cX12_stand 70 = .ok (.iaload, 1) := by decide +kernel
theorem dX12_stand_71 : decode cX12_stand 71 = .ok (.ireturn, 1) := by decide +kernel
theorem dX12_stand_72 : decode cX12_stand 72 = .ok (.ldc 70, 2) := by decide +kernel
theorem dX12_stand_74 : decode cX12_stand 74 = .ok (.ireturn, 1) := by decide +kernel
theorem dX12_putAside_0 : decode cX12_putAside 0 = .ok (.iconst 0, 1) := by decide +kernel
theorem dX12_putAside_1 : decode cX12_putAside 1 = .ok (.istore_n 1, 1) := by decide +kernel
theorem dX12_putAside_2 : decode cX12_putAside 2 = .ok (.iload_n 1, 1) := by decide +kernel
theorem dX12_putAside_3 : decode cX12_putAside 3 = .ok (.bipush 45, 2) := by decide +kernel
theorem dX12_putAside_5 : decode cX12_putAside 5 = .ok (.if_icmp .ge 21, 3) := by decide +kernel
theorem dX12_putAside_8 : decode cX12_putAside 8 = .ok (.aload_n 0, 1) := by decide +kernel
theorem dX12_putAside_9 : decode cX12_putAside 9 = .ok (.getfield 34, 3) := by decide +kernel
theorem dX12_putAside_12 : decode cX12_putAside 12 = .ok (.iload_n 1, 1) := by decide +kernel
theorem dX12_putAside_13 : decode cX12_putAside 13 = .ok (.aload_n 0, 1) := by decide +kernel
theorem dX12_putAside_14 : decode cX12_putAside 14 = .ok (.getfield 19, 3) := by decide +kernel
theorem dX12_putAside_17 : decode cX12_putAside 17 = .ok (.iload_n 1, 1) := by decide +kernel
theorem dX12_putAside_18 : decode cX12_putAside 18 = .ok (.iaload, 1) := by decide +kernel
theorem dX12_putAside_19 : decode cX12_putAside 19 = .ok (.iastore, 1) := by decide +kernel
theorem dX12_putAside_20 : decode cX12_putAside 20 = .ok (.iinc 1 1, 3) := by decide +kernel
theorem dX12_putAside_23 : decode cX12_putAside 23 = .ok (.goto (-21), 3) := by decide +kernel
theorem dX12_putAside_26 : decode cX12_putAside 26 = .ok (.return_, 1) := by decide +kernel
theorem dX12_takeBack_0 : decode cX12_takeBack 0 = .ok (.iconst 0, 1) := by decide +kernel
theorem dX12_takeBack_1 : decode cX12_takeBack 1 = .ok (.istore_n 1, 1) := by decide +kernel
theorem dX12_takeBack_2 : decode cX12_takeBack 2 = .ok (.iload_n 1, 1) := by decide +kernel
theorem dX12_takeBack_3 : decode cX12_takeBack 3 = .ok (.bipush 45, 2) := by decide +kernel
theorem dX12_takeBack_5 : decode cX12_takeBack 5 = .ok (.if_icmp .ge 21, 3) := by decide +kernel
theorem dX12_takeBack_8 : decode cX12_takeBack 8 = .ok (.aload_n 0, 1) := by decide +kernel
theorem dX12_takeBack_9 : decode cX12_takeBack 9 = .ok (.getfield 19, 3) := by decide +kernel
theorem dX12_takeBack_12 : decode cX12_takeBack 12 = .ok (.iload_n 1, 1) := by decide +kernel
theorem dX12_takeBack_13 : decode cX12_takeBack 13 = .ok (.aload_n 0, 1) := by decide +kernel
theorem dX12_takeBack_14 : decode cX12_takeBack 14 = .ok (.getfield 34, 3) := by decide +kernel
theorem dX12_takeBack_17 : decode cX12_takeBack 17 = .ok (.iload_n 1, 1) := by decide +kernel
theorem dX12_takeBack_18 : decode cX12_takeBack 18 = .ok (.iaload, 1) := by decide +kernel
theorem dX12_takeBack_19 : decode cX12_takeBack 19 = .ok (.iastore, 1) := by decide +kernel
theorem dX12_takeBack_20 : decode cX12_takeBack 20 = .ok (.iinc 1 1, 3) := by decide +kernel
theorem dX12_takeBack_23 : decode cX12_takeBack 23 = .ok (.goto (-21), 3) := by decide +kernel
theorem dX12_takeBack_26 : decode cX12_takeBack 26 = .ok (.return_, 1) := by decide +kernel
theorem dX12_goOn_0 : decode cX12_goOn 0 = .ok (.iconst 0, 1) := by decide +kernel
theorem dX12_goOn_1 : decode cX12_goOn 1 = .ok (.istore_n 2, 1) := by decide +kernel
theorem dX12_goOn_2 : decode cX12_goOn 2 = .ok (.iload_n 2, 1) := by decide +kernel
theorem dX12_goOn_3 : decode cX12_goOn 3 = .ok (.iload_n 1, 1) := by decide +kernel
theorem dX12_goOn_4 : decode cX12_goOn 4 = .ok (.if_icmp .ge 13, 3) := by decide +kernel
theorem dX12_goOn_7 : decode cX12_goOn 7 = .ok (.aload_n 0, 1) := by decide +kernel
theorem dX12_goOn_8 : decode cX12_goOn 8 = .ok (.invokevirtual 203, 3) := by decide +kernel
theorem dX12_goOn_11 : decode cX12_goOn 11 = .ok (.iinc 2 1, 3) := by decide +kernel
theorem dX12_goOn_14 : decode cX12_goOn 14 = .ok (.goto (-12), 3) := by decide +kernel
theorem dX12_goOn_17 : decode cX12_goOn 17 = .ok (.return_, 1) := by decide +kernel
theorem dX12_isWhat_0 : decode cX12_isWhat 0 = .ok (.iload_n 0, 1) := by decide +kernel
theorem dX12_isWhat_1 : decode cX12_isWhat 1 = .ok (.i2l, 1) := by decide +kernel
theorem dX12_isWhat_2 : decode cX12_isWhat 2 = .ok (.lconst 0, 1) := by decide +kernel
theorem dX12_isWhat_3 : decode cX12_isWhat 3 = .ok (.lconst 1, 1) := by decide +kernel
theorem dX12_isWhat_4 : decode cX12_isWhat 4 = .ok (.invokestatic 60, 3) := by decide +kernel
theorem dX12_isWhat_7 : decode cX12_isWhat 7 = .ok (.ireturn, 1) := by decide +kernel
theorem dX12_isAboveBy_0 : decode cX12_isAboveBy 0 = .ok (.aload_n 0, 1) := by decide +kernel
theorem dX12_isAboveBy_1 : decode cX12_isAboveBy 1 = .ok (.iload_n 2, 1) := by decide +kernel
theorem dX12_isAboveBy_2 : decode cX12_isAboveBy 2 = .ok (.invokevirtual 220, 3) := by decide +kernel
theorem dX12_isAboveBy_5 : decode cX12_isAboveBy 5 = .ok (.aload_n 0, 1) := by decide +kernel
theorem dX12_isAboveBy_6 : decode cX12_isAboveBy 6 = .ok (.iload_n 1, 1) := by decide +kernel
theorem dX12_isAboveBy_7 : decode cX12_isAboveBy 7 = .ok (.invokevirtual 184, 3) := by decide +kernel
theorem dX12_isAboveBy_10 : decode cX12_isAboveBy 10 = .ok (.istore_n 3, 1) := by decide +kernel
theorem dX12_isAboveBy_11 : decode cX12_isAboveBy 11 = .ok (.aload_n 0, 1) := by decide +kernel
theorem dX12_isAboveBy_12 : decode cX12_isAboveBy 12 = .ok (.invokevirtual 223, 3) := by decide +kernel
theorem dX12_isAboveBy_15 : decode cX12_isAboveBy 15 = .ok (.iload_n 3, 1) := by decide +kernel
theorem dX12_isAboveBy_16 : decode cX12_isAboveBy 16 = .ok (.ireturn, 1) := by decide +kernel
theorem dX12_ahead_0 : decode cX12_ahead 0 = .ok (.aload_n 0, 1) := by decide +kernel
theorem dX12_ahead_1 : decode cX12_ahead 1 = .ok (.iload_n 1, 1) := by decide +kernel
theorem dX12_ahead_2 : decode cX12_ahead 2 = .ok (.invokevirtual 209, 3) := by decide +kernel
theorem dX12_ahead_5 : decode cX12_ahead 5 = .ok (.ifCond .eq 15, 3) := by decide +kernel
theorem dX12_ahead_8 : decode cX12_ahead 8 = .ok (.iload_n 2, 1) := by decide +kernel
theorem dX12_ahead_9 : decode cX12_ahead 9 = .ok (.i2l, 1) := by decide +kernel
theorem dX12_ahead_10 : decode cX12_ahead 10 = .ok (.lconst 0, 1) := by decide +kernel
theorem dX12_ahead_11 : decode cX12_ahead 11 = .ok (.ldc2_w 226, 3) := by decide +kernel
theorem dX12_ahead_14 : decode cX12_ahead 14 = .ok (.invokestatic 60, 3) := by decide +kernel
theorem dX12_ahead_17 : decode cX12_ahead 17 = .ok (.ifCond .ne 6, 3) := by decide +kernel
theorem dX12_ahead_20 : decode cX12_ahead 20 = .ok (.ldc 70, 2) := by decide +kernel
theorem dX12_ahead_22 : decode cX12_ahead 22 = .ok (.ireturn, 1) := by decide +kernel
theorem dX12_ahead_23 : decode cX12_ahead 23 = .ok (.aload_n 0, 1) := by decide +kernel
theorem dX12_ahead_24 : decode cX12_ahead 24 = .ok (.invokevirtual 228, 3) := by decide +kernel
theorem dX12_ahead_27 : decode cX12_ahead 27 = .ok (.aload_n 0, 1) := by decide +kernel
theorem dX12_ahead_28 : decode cX12_ahead 28 = .ok (.iload_n 2, 1) := by decide +kernel
theorem dX12_ahead_29 : decode cX12_ahead 29 = .ok (.invokevirtual 220, 3) := by decide +kernel
theorem dX12_ahead_32 : decode cX12_ahead 32 = .ok (.aload_n 0, 1) := by decide +kernel
theorem dX12_ahead_33 : decode cX12_ahead 33 = .ok (.getfield 19, 3) := by decide +kernel
theorem dX12_ahead_36 : decode cX12_ahead 36 = .ok (.bipush 33, 2) := by decide +kernel
theorem dX12_ahead_38 : decode cX12_ahead 38 = .ok (.iload_n 1, 1) := by decide +kernel
theorem dX12_ahead_39 : decode cX12_ahead 39 = .ok (.iadd, 1) := by decide +kernel
theorem dX12_ahead_40 : decode cX12_ahead 40 = .ok (.iaload, 1) := by decide +kernel
theorem dX12_ahead_41 : decode cX12_ahead 41 = .ok (.istore_n 3, 1) := by decide +kernel
theorem dX12_ahead_42 : decode cX12_ahead 42 = .ok (.aload_n 0, 1) := by decide +kernel
theorem dX12_ahead_43 : decode cX12_ahead 43 = .ok (.invokevirtual 223, 3) := by decide +kernel
theorem dX12_ahead_46 : decode cX12_ahead 46 = .ok (.iload_n 3, 1) := by decide +kernel
theorem dX12_ahead_47 : decode cX12_ahead 47 = .ok (.ireturn, 1) := by decide +kernel
theorem dX12_strength_0 : decode cX12_strength 0 = .ok (.aload_n 0, 1) := by decide +kernel
theorem dX12_strength_1 : decode cX12_strength 1 = .ok (.iload_n 1, 1) := by decide +kernel
theorem dX12_strength_2 : decode cX12_strength 2 = .ok (.invokevirtual 214, 3) := by decide +kernel
theorem dX12_strength_5 : decode cX12_strength 5 = .ok (.ifCond .eq 15, 3) := by decide +kernel
theorem dX12_strength_8 : decode cX12_strength 8 = .ok (.iload_n 2, 1) := by decide +kernel
theorem dX12_strength_9 : decode cX12_strength 9 = .ok (.i2l, 1) := by decide +kernel
theorem dX12_strength_10 : decode cX12_strength 10 = .ok (.lconst 0, 1) := by decide +kernel
theorem dX12_strength_11 : decode cX12_strength 11 = .ok (.ldc2_w 226, 3) := by decide +kernel
theorem dX12_strength_14 : decode cX12_strength 14 = .ok (.invokestatic 60, 3) := by decide +kernel
theorem dX12_strength_17 : decode cX12_strength 17 = .ok (.ifCond .ne 6, 3) := by decide +kernel
theorem dX12_strength_20 : decode cX12_strength 20 = .ok (.ldc 70, 2) := by decide +kernel
theorem dX12_strength_22 : decode cX12_strength 22 = .ok (.ireturn, 1) := by decide +kernel
theorem dX12_strength_23 : decode cX12_strength 23 = .ok (.aload_n 0, 1) := by decide +kernel
theorem dX12_strength_24 : decode cX12_strength 24 = .ok (.invokevirtual 228, 3) := by decide +kernel
theorem dX12_strength_27 : decode cX12_strength 27 = .ok (.aload_n 0, 1) := by decide +kernel
theorem dX12_strength_28 : decode cX12_strength 28 = .ok (.iload_n 2, 1) := by decide +kernel
theorem dX12_strength_29 : decode cX12_strength 29 = .ok (.invokevirtual 220, 3) := by decide +kernel
theorem dX12_strength_32 : decode cX12_strength 32 = .ok (.aload_n 0, 1) := by decide +kernel
theorem dX12_strength_33 : decode cX12_strength 33 = .ok (.getfield 19, 3) := by decide +kernel
theorem dX12_strength_36 : decode cX12_strength 36 = .ok (.bipush 6, 2) := by decide +kernel
theorem dX12_strength_38 : decode cX12_strength 38 = .ok (.iload_n 1, 1) := by decide +kernel
theorem dX12_strength_39 : decode cX12_strength 39 = .ok (.iadd, 1) := by decide +kernel
theorem dX12_strength_40 : decode cX12_strength 40 = .ok (.iaload, 1) := by decide +kernel
theorem dX12_strength_41 : decode cX12_strength 41 = .ok (.istore_n 3, 1) := by decide +kernel
theorem dX12_strength_42 : decode cX12_strength 42 = .ok (.aload_n 0, 1) := by decide +kernel
theorem dX12_strength_43 : decode cX12_strength 43 = .ok (.invokevirtual 223, 3) := by decide +kernel
theorem dX12_strength_46 : decode cX12_strength 46 = .ok (.iload_n 3, 1) := by decide +kernel
theorem dX12_strength_47 : decode cX12_strength 47 = .ok (.ireturn, 1) := by decide +kernel
theorem dX12_above_0 : decode cX12_above 0 = .ok (.aload_n 0, 1) := by decide +kernel
theorem dX12_above_1 : decode cX12_above 1 = .ok (.iload_n 1, 1) := by decide +kernel
theorem dX12_above_2 : decode cX12_above 2 = .ok (.invokevirtual 209, 3) := by decide +kernel
theorem dX12_above_5 : decode cX12_above 5 = .ok (.ifCond .ne 6, 3) := by decide +kernel
theorem dX12_above_8 : decode cX12_above 8 = .ok (.ldc 70, 2) := by decide +kernel
theorem dX12_above_10 : decode cX12_above 10 = .ok (.ireturn, 1) := by decide +kernel
theorem dX12_above_11 : decode cX12_above 11 = .ok (.aload_n 0, 1) := by decide +kernel
theorem dX12_above_12 : decode cX12_above 12 = .ok (.invokevirtual 228, 3) := by decide +kernel
theorem dX12_above_15 : decode cX12_above 15 = .ok (.iconst 0, 1) := by decide +kernel
theorem dX12_above_16 : decode cX12_above 16 = .ok (.istore_n 2, 1) := by decide +kernel
theorem dX12_above_17 : decode cX12_above 17 = .ok (.aload_n 0, 1) := by decide +kernel
theorem dX12_above_18 : decode cX12_above 18 = .ok (.iload_n 1, 1) := by decide +kernel
theorem dX12_above_19 : decode cX12_above 19 = .ok (.invokevirtual 184, 3) := by decide +kernel
theorem dX12_above_22 : decode cX12_above 22 = .ok (.ifCond .ne 19, 3) := by decide +kernel
theorem dX12_above_25 : decode cX12_above 25 = .ok (.iload_n 2, 1) := by decide +kernel
theorem dX12_above_26 : decode cX12_above 26 = .ok (.bipush 60, 2) := by decide +kernel
theorem dX12_above_28 : decode cX12_above 28 = .ok (.if_icmp .ge 13, 3) := by decide +kernel
theorem dX12_above_31 : decode cX12_above 31 = .ok (.aload_n 0, 1) := by decide +kernel
theorem dX12_above_32 : decode cX12_above 32 = .ok (.invokevirtual 203, 3) := by decide +kernel
theorem dX12_above_35 : decode cX12_above 35 = .ok (.iinc 2 1, 3) := by decide +kernel
theorem dX12_above_38 : decode cX12_above 38 = .ok (.goto (-21), 3) := by decide +kernel
theorem dX12_above_41 : decode cX12_above 41 = .ok (.aload_n 0, 1) := by decide +kernel
theorem dX12_above_42 : decode cX12_above 42 = .ok (.iload_n 1, 1) := by decide +kernel
theorem dX12_above_43 : decode cX12_above 43 = .ok (.invokevirtual 184, 3) := by decide +kernel
theorem dX12_above_46 : decode cX12_above 46 = .ok (.istore_n 3, 1) := by decide +kernel
theorem dX12_above_47 : decode cX12_above 47 = .ok (.aload_n 0, 1) := by decide +kernel
theorem dX12_above_48 : decode cX12_above 48 = .ok (.invokevirtual 223, 3) := by decide +kernel
theorem dX12_above_51 : decode cX12_above 51 = .ok (.iload_n 3, 1) := by decide +kernel
theorem dX12_above_52 : decode cX12_above 52 = .ok (.ifCond .eq 7, 3) := by decide +kernel
theorem dX12_above_55 : decode cX12_above 55 = .ok (.iload_n 2, 1) := by decide +kernel
theorem dX12_above_56 : decode cX12_above 56 = .ok (.goto 5, 3) := by decide +kernel
theorem dX12_above_59 : decode cX12_above 59 = .ok (.ldc 167, 2) := by decide +kernel
theorem dX12_above_61 : decode cX12_above 61 = .ok (.ireturn, 1) := by decide +kernel
theorem dX12_broken_0 : decode cX12_broken 0 = .ok (.aload_n 0, 1) := by decide +kernel
theorem dX12_broken_1 : decode cX12_broken 1 = .ok (.iload_n 1, 1) := by decide +kernel
theorem dX12_broken_2 : decode cX12_broken 2 = .ok (.invokevirtual 214, 3) := by decide +kernel
theorem dX12_broken_5 : decode cX12_broken 5 = .ok (.ifCond .ne 6, 3) := by decide +kernel
theorem dX12_broken_8 : decode cX12_broken 8 = .ok (.ldc 70, 2) := by decide +kernel
theorem dX12_broken_10 : decode cX12_broken 10 = .ok (.ireturn, 1) := by decide +kernel
theorem dX12_broken_11 : decode cX12_broken 11 = .ok (.aload_n 0, 1) := by decide +kernel
theorem dX12_broken_12 : decode cX12_broken 12 = .ok (.invokevirtual 228, 3) := by decide +kernel
theorem dX12_broken_15 : decode cX12_broken 15 = .ok (.iconst 0, 1) := by decide +kernel
theorem dX12_broken_16 : decode cX12_broken 16 = .ok (.istore_n 2, 1) := by decide +kernel
theorem dX12_broken_17 : decode cX12_broken 17 = .ok (.aload_n 0, 1) := by decide +kernel
theorem dX12_broken_18 : decode cX12_broken 18 = .ok (.getfield 19, 3) := by decide +kernel
theorem dX12_broken_21 : decode cX12_broken 21 = .ok (.bipush 6, 2) := by decide +kernel
theorem dX12_broken_23 : decode cX12_broken 23 = .ok (.iload_n 1, 1) := by decide +kernel
theorem dX12_broken_24 : decode cX12_broken 24 = .ok (.iadd, 1) := by decide +kernel
theorem dX12_broken_25 : decode cX12_broken 25 = .ok (.iaload, 1) := by decide +kernel
theorem dX12_broken_26 : decode cX12_broken 26 = .ok (.ifCond .le 19, 3) := by decide +kernel
theorem dX12_broken_29 : decode cX12_broken 29 = .ok (.iload_n 2, 1) := by decide +kernel
theorem dX12_broken_30 : decode cX12_broken 30 = .ok (.bipush 60, 2) := by decide +kernel
theorem dX12_broken_32 : decode cX12_broken 32 = .ok (.if_icmp .ge 13, 3) := by decide +kernel
theorem dX12_broken_35 : decode cX12_broken 35 = .ok (.aload_n 0, 1) := by decide +kernel
theorem dX12_broken_36 : decode cX12_broken 36 = .ok (.invokevirtual 203, 3) := by decide +kernel
theorem dX12_broken_39 : decode cX12_broken 39 = .ok (.iinc 2 1, 3) := by decide +kernel
theorem dX12_broken_42 : decode cX12_broken 42 = .ok (.goto (-25), 3) := by decide +kernel
theorem dX12_broken_45 : decode cX12_broken 45 = .ok (.aload_n 0, 1) := by decide +kernel
theorem dX12_broken_46 : decode cX12_broken 46 = .ok (.getfield 19, 3) := by decide +kernel
theorem dX12_broken_49 : decode cX12_broken 49 = .ok (.bipush 6, 2) := by decide +kernel
theorem dX12_broken_51 : decode cX12_broken 51 = .ok (.iload_n 1, 1) := by decide +kernel
theorem dX12_broken_52 : decode cX12_broken 52 = .ok (.iadd, 1) := by decide +kernel
theorem dX12_broken_53 : decode cX12_broken 53 = .ok (.iaload, 1) := by decide +kernel
theorem dX12_broken_54 : decode cX12_broken 54 = .ok (.ifCond .ne 7, 3) := by decide +kernel
theorem dX12_broken_57 : decode cX12_broken 57 = .ok (.iconst 1, 1) := by decide +kernel
theorem dX12_broken_58 : decode cX12_broken 58 = .ok (.goto 4, 3) := by decide +kernel
theorem dX12_broken_61 : decode cX12_broken 61 = .ok (.iconst 0, 1) := by decide +kernel
theorem dX12_broken_62 : decode cX12_broken 62 = .ok (.istore_n 3, 1) := by decide +kernel
theorem dX12_broken_63 : decode cX12_broken 63 = .ok (.aload_n 0, 1) := by decide +kernel
theorem dX12_broken_64 : decode cX12_broken 64 = .ok (.invokevirtual 223, 3) := by decide +kernel
theorem dX12_broken_67 : decode cX12_broken 67 = .ok (.iload_n 3, 1) := by decide +kernel
theorem dX12_broken_68 : decode cX12_broken 68 = .ok (.ifCond .eq 7, 3) := by decide +kernel
theorem dX12_broken_71 : decode cX12_broken 71 = .ok (.iload_n 2, 1) := by decide +kernel
theorem dX12_broken_72 : decode cX12_broken 72 = .ok (.goto 5, 3) := by decide +kernel
theorem dX12_broken_75 : decode cX12_broken 75 = .ok (.ldc 167, 2) := by decide +kernel
theorem dX12_broken_77 : decode cX12_broken 77 = .ok (.ireturn, 1) := by decide +kernel
theorem dX12_first_0 : decode cX12_first 0 = .ok (.aload_n 0, 1) := by decide +kernel
theorem dX12_first_1 : decode cX12_first 1 = .ok (.getfield 147, 3) := by decide +kernel
theorem dX12_first_4 : decode cX12_first 4 = .ok (.ifCond .ne 6, 3) := by decide +kernel
theorem dX12_first_7 : decode cX12_first 7 = .ok (.ldc 197, 2) := by decide +kernel
theorem dX12_first_9 : decode cX12_first 9 = .ok (.ireturn, 1) := by decide +kernel
theorem dX12_first_10 : decode cX12_first 10 = .ok (.iload_n 1, 1) := by decide +kernel
theorem dX12_first_11 : decode cX12_first 11 = .ok (.invokestatic 231, 3) := by decide +kernel
theorem dX12_first_14 : decode cX12_first 14 = .ok (.ifCond .ne 6, 3) := by decide +kernel
theorem dX12_first_17 : decode cX12_first 17 = .ok (.ldc 70, 2) := by decide +kernel
theorem dX12_first_19 : decode cX12_first 19 = .ok (.ireturn, 1) := by decide +kernel
theorem dX12_first_20 : decode cX12_first 20 = .ok (.aload_n 0, 1) := by decide +kernel
theorem dX12_first_21 : decode cX12_first 21 = .ok (.invokevirtual 228, 3) := by decide +kernel
theorem dX12_first_24 : decode cX12_first 24 = .ok (.aload_n 0, 1) := by decide +kernel
theorem dX12_first_25 : decode cX12_first 25 = .ok (.invokevirtual 217, 3) := by decide +kernel
theorem dX12_first_28 : decode cX12_first 28 = .ok (.istore_n 2, 1) := by decide +kernel
theorem dX12_first_29 : decode cX12_first 29 = .ok (.iconst 0, 1) := by decide +kernel
theorem dX12_first_30 : decode cX12_first 30 = .ok (.istore_n 3, 1) := by decide +kernel
theorem dX12_first_31 : decode cX12_first 31 = .ok (.aload_n 0, 1) := by decide +kernel
theorem dX12_first_32 : decode cX12_first 32 = .ok (.invokevirtual 217, 3) := by decide +kernel
theorem dX12_first_35 : decode cX12_first 35 = .ok (.iload_n 2, 1) := by decide +kernel
theorem dX12_first_36 : decode cX12_first 36 = .ok (.if_icmp .ne 19, 3) := by decide +kernel
theorem dX12_first_39 : decode cX12_first 39 = .ok (.iload_n 3, 1) := by decide +kernel
theorem dX12_first_40 : decode cX12_first 40 = .ok (.bipush 60, 2) := by decide +kernel
theorem dX12_first_42 : decode cX12_first 42 = .ok (.if_icmp .ge 13, 3) := by decide +kernel
theorem dX12_first_45 : decode cX12_first 45 = .ok (.aload_n 0, 1) := by decide +kernel
theorem dX12_first_46 : decode cX12_first 46 = .ok (.invokevirtual 203, 3) := by decide +kernel
theorem dX12_first_49 : decode cX12_first 49 = .ok (.iinc 3 1, 3) := by decide +kernel
theorem dX12_first_52 : decode cX12_first 52 = .ok (.goto (-21), 3) := by decide +kernel
theorem dX12_first_55 : decode cX12_first 55 = .ok (.aload_n 0, 1) := by decide +kernel
theorem dX12_first_56 : decode cX12_first 56 = .ok (.invokevirtual 217, 3) := by decide +kernel
theorem dX12_first_59 : decode cX12_first 59 = .ok (.iload_n 2, 1) := by decide +kernel
theorem dX12_first_60 : decode cX12_first 60 = .ok (.iconst (-1), 1) := by decide +kernel
theorem dX12_first_61 : decode cX12_first 61 = .ok (.ixor, 1) := by decide +kernel
theorem dX12_first_62 : decode cX12_first 62 = .ok (.iand, 1) := by decide +kernel
theorem dX12_first_63 : decode cX12_first 63 = .ok (.istore 4, 2) := by decide +kernel
theorem dX12_first_65 : decode cX12_first 65 = .ok (.aload_n 0, 1) := by decide +kernel
theorem dX12_first_66 : decode cX12_first 66 = .ok (.invokevirtual 223, 3) := by decide +kernel
theorem dX12_first_69 : decode cX12_first 69 = .ok (.iload 4, 2) := by decide +kernel
theorem dX12_first_71 : decode cX12_first 71 = .ok (.ifCond .ne 6, 3) := by decide +kernel
theorem dX12_first_74 : decode cX12_first 74 = .ok (.ldc 167, 2) := by decide +kernel
theorem dX12_first_76 : decode cX12_first 76 = .ok (.ireturn, 1) := by decide +kernel
theorem dX12_first_77 : decode cX12_first 77 = .ok (.iconst 0, 1) := by decide +kernel
theorem dX12_first_78 : decode cX12_first 78 = .ok (.istore 5, 2) := by decide +kernel
theorem dX12_first_80 : decode cX12_first 80 = .ok (.iload 4, 2) := by decide +kernel
theorem dX12_first_82 : decode cX12_first 82 = .ok (.iload 5, 2) := by decide +kernel
theorem dX12_first_84 : decode cX12_first 84 = .ok (.invokestatic 174, 3) := by decide +kernel
theorem dX12_first_87 : decode cX12_first 87 = .ok (.ifCond .ne 9, 3) := by decide +kernel
theorem dX12_first_90 : decode cX12_first 90 = .ok (.iinc 5 1, 3) := by decide +kernel
theorem dX12_first_93 : decode cX12_first 93 = .ok (.goto (-13), 3) := by decide +kernel
theorem dX12_first_96 : decode cX12_first 96 = .ok (.iload_n 1, 1) := by decide +kernel
theorem dX12_first_97 : decode cX12_first 97 = .ok (.ifCond .ne 8, 3) := by decide +kernel
theorem dX12_first_100 : decode cX12_first 100 = .ok (.iload 5, 2) := by decide +kernel
theorem dX12_first_102 : decode cX12_first 102 = .ok (.goto 4, 3) := by decide +kernel
theorem dX12_first_105 : decode cX12_first 105 = .ok (.iload_n 3, 1) := by decide +kernel
theorem dX12_first_106 : decode cX12_first 106 = .ok (.ireturn, 1) := by decide +kernel
theorem dX12_falls_0 : decode cX12_falls 0 = .ok (.aload_n 0, 1) := by decide +kernel
theorem dX12_falls_1 : decode cX12_falls 1 = .ok (.getfield 147, 3) := by decide +kernel
theorem dX12_falls_4 : decode cX12_falls 4 = .ok (.ifCond .ne 6, 3) := by decide +kernel
theorem dX12_falls_7 : decode cX12_falls 7 = .ok (.ldc 197, 2) := by decide +kernel
theorem dX12_falls_9 : decode cX12_falls 9 = .ok (.ireturn, 1) := by decide +kernel
theorem dX12_falls_10 : decode cX12_falls 10 = .ok (.iload_n 1, 1) := by decide +kernel
theorem dX12_falls_11 : decode cX12_falls 11 = .ok (.i2l, 1) := by decide +kernel
theorem dX12_falls_12 : decode cX12_falls 12 = .ok (.lconst 0, 1) := by decide +kernel
theorem dX12_falls_13 : decode cX12_falls 13 = .ok (.ldc2_w 226, 3) := by decide +kernel
theorem dX12_falls_16 : decode cX12_falls 16 = .ok (.invokestatic 60, 3) := by decide +kernel
theorem dX12_falls_19 : decode cX12_falls 19 = .ok (.ifCond .ne 6, 3) := by decide +kernel
theorem dX12_falls_22 : decode cX12_falls 22 = .ok (.ldc 70, 2) := by decide +kernel
theorem dX12_falls_24 : decode cX12_falls 24 = .ok (.ireturn, 1) := by decide +kernel
theorem dX12_falls_25 : decode cX12_falls 25 = .ok (.aload_n 0, 1) := by decide +kernel
theorem dX12_falls_26 : decode cX12_falls 26 = .ok (.invokevirtual 228, 3) := by decide +kernel
theorem dX12_falls_29 : decode cX12_falls 29 = .ok (.aload_n 0, 1) := by decide +kernel
theorem dX12_falls_30 : decode cX12_falls 30 = .ok (.iload_n 1, 1) := by decide +kernel
theorem dX12_falls_31 : decode cX12_falls 31 = .ok (.invokevirtual 220, 3) := by decide +kernel
theorem dX12_falls_34 : decode cX12_falls 34 = .ok (.aload_n 0, 1) := by decide +kernel
theorem dX12_falls_35 : decode cX12_falls 35 = .ok (.invokevirtual 234, 3) := by decide +kernel
theorem dX12_falls_38 : decode cX12_falls 38 = .ok (.istore_n 2, 1) := by decide +kernel
theorem dX12_falls_39 : decode cX12_falls 39 = .ok (.aload_n 0, 1) := by decide +kernel
theorem dX12_falls_40 : decode cX12_falls 40 = .ok (.invokevirtual 223, 3) := by decide +kernel
theorem dX12_falls_43 : decode cX12_falls 43 = .ok (.iload_n 2, 1) := by decide +kernel
theorem dX12_falls_44 : decode cX12_falls 44 = .ok (.aload_n 0, 1) := by decide +kernel
theorem dX12_falls_45 : decode cX12_falls 45 = .ok (.invokevirtual 234, 3) := by decide +kernel
theorem dX12_falls_48 : decode cX12_falls 48 = .ok (.isub, 1) := by decide +kernel
theorem dX12_falls_49 : decode cX12_falls 49 = .ok (.ireturn, 1) := by decide +kernel
theorem dX12_mends_0 : decode cX12_mends 0 = .ok (.aload_n 0, 1) := by decide +kernel
theorem dX12_mends_1 : decode cX12_mends 1 = .ok (.iload_n 1, 1) := by decide +kernel
theorem dX12_mends_2 : decode cX12_mends 2 = .ok (.invokevirtual 209, 3) := by decide +kernel
theorem dX12_mends_5 : decode cX12_mends 5 = .ok (.ifCond .eq 22, 3) := by decide +kernel
theorem dX12_mends_8 : decode cX12_mends 8 = .ok (.iload_n 2, 1) := by decide +kernel
theorem dX12_mends_9 : decode cX12_mends 9 = .ok (.i2l, 1) := by decide +kernel
theorem dX12_mends_10 : decode cX12_mends 10 = .ok (.lconst 1, 1) := by decide +kernel
theorem dX12_mends_11 : decode cX12_mends 11 = .ok (.ldc2_w 212, 3) := by decide +kernel
theorem dX12_mends_14 : decode cX12_mends 14 = .ok (.invokestatic 60, 3) := by decide +kernel
theorem dX12_mends_17 : decode cX12_mends 17 = .ok (.ifCond .eq 10, 3) := by decide +kernel
theorem dX12_mends_20 : decode cX12_mends 20 = .ok (.iload_n 3, 1) := by decide +kernel
theorem dX12_mends_21 : decode cX12_mends 21 = .ok (.invokestatic 231, 3) := by decide +kernel
theorem dX12_mends_24 : decode cX12_mends 24 = .ok (.ifCond .ne 6, 3) := by decide +kernel
theorem dX12_mends_27 : decode cX12_mends 27 = .ok (.ldc 70, 2) := by decide +kernel
theorem dX12_mends_29 : decode cX12_mends 29 = .ok (.ireturn, 1) := by decide +kernel
theorem dX12_mends_30 : decode cX12_mends 30 = .ok (.aload_n 0, 1) := by decide +kernel
theorem dX12_mends_31 : decode cX12_mends 31 = .ok (.invokevirtual 228, 3) := by decide +kernel
theorem dX12_mends_34 : decode cX12_mends 34 = .ok (.ldc 167, 2) := by decide +kernel
theorem dX12_mends_36 : decode cX12_mends 36 = .ok (.istore 4, 2) := by decide +kernel
theorem dX12_mends_38 : decode cX12_mends 38 = .ok (.iconst 0, 1) := by decide +kernel
theorem dX12_mends_39 : decode cX12_mends 39 = .ok (.istore 5, 2) := by decide +kernel
theorem dX12_mends_41 : decode cX12_mends 41 = .ok (.iload 5, 2) := by decide +kernel
theorem dX12_mends_43 : decode cX12_mends 43 = .ok (.iconst 1, 1) := by decide +kernel
theorem dX12_mends_44 : decode cX12_mends 44 = .ok (.aload_n 0, 1) := by decide +kernel
theorem dX12_mends_45 : decode cX12_mends 45 = .ok (.getfield 19, 3) := by decide +kernel
theorem dX12_mends_48 : decode cX12_mends 48 = .ok (.iconst 0, 1) := by decide +kernel
theorem dX12_mends_49 : decode cX12_mends 49 = .ok (.iaload, 1) := by decide +kernel
theorem dX12_mends_50 : decode cX12_mends 50 = .ok (.ishl, 1) := by decide +kernel
theorem dX12_mends_51 : decode cX12_mends 51 = .ok (.if_icmp .ge 100, 3) := by decide +kernel
theorem dX12_mends_54 : decode cX12_mends 54 = .ok (.iload 4, 2) := by decide +kernel
theorem dX12_mends_56 : decode cX12_mends 56 = .ok (.ifCond .lt 16, 3) := by decide +kernel
theorem dX12_mends_59 : decode cX12_mends 59 = .ok (.iload 5, 2) := by decide +kernel
theorem dX12_mends_61 : decode cX12_mends 61 = .ok (.invokestatic 237, 3) := by decide +kernel
theorem dX12_mends_64 : decode cX12_mends 64 = .ok (.iload 4, 2) := by decide +kernel
theorem dX12_mends_66 : decode cX12_mends 66 = .ok (.invokestatic 237, 3) := by decide +kernel
theorem dX12_mends_69 : decode cX12_mends 69 = .ok (.if_icmp .ge 76, 3) := by decide +kernel
theorem dX12_mends_72 : decode cX12_mends 72 = .ok (.iconst 0, 1) := by decide +kernel
theorem dX12_mends_73 : decode cX12_mends 73 = .ok (.istore 6, 2) := by decide +kernel
theorem dX12_mends_75 : decode cX12_mends 75 = .ok (.iload 6, 2) := by decide +kernel
theorem dX12_mends_77 : decode cX12_mends 77 = .ok (.aload_n 0, 1) := by decide +kernel
theorem dX12_mends_78 : decode cX12_mends 78 = .ok (.getfield 19, 3) := by decide +kernel
theorem dX12_mends_81 : decode cX12_mends 81 = .ok (.iconst 0, 1) := by decide +kernel
theorem dX12_mends_82 : decode cX12_mends 82 = .ok (.iaload, 1) := by decide +kernel
theorem dX12_mends_83 : decode cX12_mends 83 = .ok (.if_icmp .ge 44, 3) := by decide +kernel
theorem dX12_mends_86 : decode cX12_mends 86 = .ok (.aload_n 0, 1) := by decide +kernel
theorem dX12_mends_87 : decode cX12_mends 87 = .ok (.getfield 19, 3) := by decide +kernel
theorem dX12_mends_90 : decode cX12_mends 90 = .ok (.bipush 6, 2) := by decide +kernel
theorem dX12_mends_92 : decode cX12_mends 92 = .ok (.iload 6, 2) := by decide +kernel
theorem dX12_mends_94 : decode cX12_mends 94 = .ok (.iadd, 1) := by decide +kernel
theorem dX12_mends_95 : decode cX12_mends 95 = .ok (.iload 5, 2) := by decide +kernel
theorem dX12_mends_97 : decode cX12_mends 97 = .ok (.iload 6, 2) := by decide +kernel
theorem dX12_mends_99 : decode cX12_mends 99 = .ok (.invokestatic 174, 3) := by decide +kernel
theorem dX12_mends_102 : decode cX12_mends 102 = .ok (.ifCond .eq 8, 3) := by decide +kernel
theorem dX12_mends_105 : decode cX12_mends 105 = .ok (.bipush 99, 2) := by decide +kernel
theorem dX12_mends_107 : decode cX12_mends 107 = .ok (.goto 13, 3) := by decide +kernel
theorem dX12_mends_110 : decode cX12_mends 110 = .ok (.aload_n 0, 1) := by decide +kernel
theorem dX12_mends_111 : decode cX12_mends 111 = .ok (.getfield 19, 3) := by decide +kernel
theorem dX12_mends_114 : decode cX12_mends 114 = .ok (.bipush 6, 2) := by decide +kernel
theorem dX12_mends_116 : decode cX12_mends 116 = .ok (.iload 6, 2) := by decide +kernel
theorem dX12_mends_118 : decode cX12_mends 118 = .ok (.iadd, 1) := by decide +kernel
theorem dX12_mends_119 : decode cX12_mends 119 = .ok (.iaload, 1) := by decide +kernel
theorem dX12_mends_120 : decode cX12_mends 120 = .ok (.iastore, 1) := by decide +kernel
theorem dX12_mends_121 : decode cX12_mends 121 = .ok (.iinc 6 1, 3) := by decide +kernel
theorem dX12_mends_124 : decode cX12_mends 124 = .ok (.goto (-49), 3) := by decide +kernel
theorem dX12_mends_127 : decode cX12_mends 127 = .ok (.aload_n 0, 1) := by decide +kernel
theorem dX12_mends_128 : decode cX12_mends 128 = .ok (.iload_n 1, 1) := by decide +kernel
theorem dX12_mends_129 : decode cX12_mends 129 = .ok (.iload_n 2, 1) := by decide +kernel
theorem dX12_mends_130 : decode cX12_mends 130 = .ok (.invokevirtual 240, 3) := by decide +kernel
theorem dX12_mends_133 : decode cX12_mends 133 = .ok (.ifCond .eq 8, 3) := by decide +kernel
theorem dX12_mends_136 : decode cX12_mends 136 = .ok (.iload 5, 2) := by decide +kernel
theorem dX12_mends_138 : decode cX12_mends 138 = .ok (.goto 5, 3) := by decide +kernel
theorem dX12_mends_141 : decode cX12_mends 141 = .ok (.iload 4, 2) := by decide +kernel
theorem dX12_mends_143 : decode cX12_mends 143 = .ok (.istore 4, 2) := by decide +kernel
theorem dX12_mends_145 : decode cX12_mends 145 = .ok (.iinc 5 1, 3) := by decide +kernel
theorem dX12_mends_148 : decode cX12_mends 148 = .ok (.goto (-107), 3) := by decide +kernel
theorem dX12_mends_151 : decode cX12_mends 151 = .ok (.iload 4, 2) := by decide +kernel
theorem dX12_mends_153 : decode cX12_mends 153 = .ok (.ifCond .lt 8, 3) := by decide +kernel
theorem dX12_mends_156 : decode cX12_mends 156 = .ok (.iload_n 3, 1) := by decide +kernel
theorem dX12_mends_157 : decode cX12_mends 157 = .ok (.iconst 1, 1) := by decide +kernel
theorem dX12_mends_158 : decode cX12_mends 158 = .ok (.if_icmp .ne 8, 3) := by decide +kernel
theorem dX12_mends_161 : decode cX12_mends 161 = .ok (.iload 4, 2) := by decide +kernel
theorem dX12_mends_163 : decode cX12_mends 163 = .ok (.goto 8, 3) := by decide +kernel
theorem dX12_mends_166 : decode cX12_mends 166 = .ok (.iload 4, 2) := by decide +kernel
theorem dX12_mends_168 : decode cX12_mends 168 = .ok (.invokestatic 237, 3) := by decide +kernel
theorem dX12_mends_171 : decode cX12_mends 171 = .ok (.ireturn, 1) := by decide +kernel
theorem dX12_holds_0 : decode cX12_holds 0 = .ok (.aload_n 0, 1) := by decide +kernel
theorem dX12_holds_1 : decode cX12_holds 1 = .ok (.iload_n 1, 1) := by decide +kernel
theorem dX12_holds_2 : decode cX12_holds 2 = .ok (.invokevirtual 209, 3) := by decide +kernel
theorem dX12_holds_5 : decode cX12_holds 5 = .ok (.ifCond .eq 22, 3) := by decide +kernel
theorem dX12_holds_8 : decode cX12_holds 8 = .ok (.iload_n 2, 1) := by decide +kernel
theorem dX12_holds_9 : decode cX12_holds 9 = .ok (.i2l, 1) := by decide +kernel
theorem dX12_holds_10 : decode cX12_holds 10 = .ok (.lconst 1, 1) := by decide +kernel
theorem dX12_holds_11 : decode cX12_holds 11 = .ok (.ldc2_w 212, 3) := by decide +kernel
theorem dX12_holds_14 : decode cX12_holds 14 = .ok (.invokestatic 60, 3) := by decide +kernel
theorem dX12_holds_17 : decode cX12_holds 17 = .ok (.ifCond .eq 10, 3) := by decide +kernel
theorem dX12_holds_20 : decode cX12_holds 20 = .ok (.iload_n 3, 1) := by decide +kernel
theorem dX12_holds_21 : decode cX12_holds 21 = .ok (.invokestatic 231, 3) := by decide +kernel
theorem dX12_holds_24 : decode cX12_holds 24 = .ok (.ifCond .ne 6, 3) := by decide +kernel
theorem dX12_holds_27 : decode cX12_holds 27 = .ok (.ldc 70, 2) := by decide +kernel
theorem dX12_holds_29 : decode cX12_holds 29 = .ok (.ireturn, 1) := by decide +kernel
theorem dX12_holds_30 : decode cX12_holds 30 = .ok (.aload_n 0, 1) := by decide +kernel
theorem dX12_holds_31 : decode cX12_holds 31 = .ok (.invokevirtual 228, 3) := by decide +kernel
theorem dX12_holds_34 : decode cX12_holds 34 = .ok (.aload_n 0, 1) := by decide +kernel
theorem dX12_holds_35 : decode cX12_holds 35 = .ok (.getfield 34, 3) := by decide +kernel
theorem dX12_holds_38 : decode cX12_holds 38 = .ok (.iconst 4, 1) := by decide +kernel
theorem dX12_holds_39 : decode cX12_holds 39 = .ok (.iaload, 1) := by decide +kernel
theorem dX12_holds_40 : decode cX12_holds 40 = .ok (.iconst 1, 1) := by decide +kernel
theorem dX12_holds_41 : decode cX12_holds 41 = .ok (.iload_n 1, 1) := by decide +kernel
theorem dX12_holds_42 : decode cX12_holds 42 = .ok (.ishl, 1) := by decide +kernel
theorem dX12_holds_43 : decode cX12_holds 43 = .ok (.ior, 1) := by decide +kernel
theorem dX12_holds_44 : decode cX12_holds 44 = .ok (.istore 4, 2) := by decide +kernel
theorem dX12_holds_46 : decode cX12_holds 46 = .ok (.ldc 167, 2) := by decide +kernel
theorem dX12_holds_48 : decode cX12_holds 48 = .ok (.istore 5, 2) := by decide +kernel
theorem dX12_holds_50 : decode cX12_holds 50 = .ok (.iconst 0, 1) := by decide +kernel
theorem dX12_holds_51 : decode cX12_holds 51 = .ok (.istore 6, 2) := by decide +kernel
theorem dX12_holds_53 : decode cX12_holds 53 = .ok (.iload 6, 2) := by decide +kernel
theorem dX12_holds_55 : decode cX12_holds 55 = .ok (.iconst 1, 1) := by decide +kernel
theorem dX12_holds_56 : decode cX12_holds 56 = .ok (.aload_n 0, 1) := by decide +kernel
theorem dX12_holds_57 : decode cX12_holds 57 = .ok (.getfield 19, 3) := by decide +kernel
theorem dX12_holds_60 : decode cX12_holds 60 = .ok (.iconst 2, 1) := by decide +kernel
theorem dX12_holds_61 : decode cX12_holds 61 = .ok (.iaload, 1) := by decide +kernel
theorem dX12_holds_62 : decode cX12_holds 62 = .ok (.ishl, 1) := by decide +kernel
theorem dX12_holds_63 : decode cX12_holds 63 = .ok (.if_icmp .ge 64, 3) := by decide +kernel
theorem dX12_holds_66 : decode cX12_holds 66 = .ok (.iload 6, 2) := by decide +kernel
theorem dX12_holds_68 : decode cX12_holds 68 = .ok (.iload 4, 2) := by decide +kernel
theorem dX12_holds_70 : decode cX12_holds 70 = .ok (.iand, 1) := by decide +kernel
theorem dX12_holds_71 : decode cX12_holds 71 = .ok (.ifCond .ne 50, 3) := by decide +kernel
theorem dX12_holds_74 : decode cX12_holds 74 = .ok (.iload 5, 2) := by decide +kernel
theorem dX12_holds_76 : decode cX12_holds 76 = .ok (.ifCond .lt 16, 3) := by decide +kernel
theorem dX12_holds_79 : decode cX12_holds 79 = .ok (.iload 6, 2) := by decide +kernel
theorem dX12_holds_81 : decode cX12_holds 81 = .ok (.invokestatic 237, 3) := by decide +kernel
theorem dX12_holds_84 : decode cX12_holds 84 = .ok (.iload 5, 2) := by decide +kernel
theorem dX12_holds_86 : decode cX12_holds 86 = .ok (.invokestatic 237, 3) := by decide +kernel
theorem dX12_holds_89 : decode cX12_holds 89 = .ok (.if_icmp .ge 32, 3) := by decide +kernel
theorem dX12_holds_92 : decode cX12_holds 92 = .ok (.aload_n 0, 1) := by decide +kernel
theorem dX12_holds_93 : decode cX12_holds 93 = .ok (.getfield 19, 3) := by decide +kernel
theorem dX12_holds_96 : decode cX12_holds 96 = .ok (.iconst 4, 1) := by decide +kernel
theorem dX12_holds_97 : decode cX12_holds 97 = .ok (.dup2, 1) := by decide +kernel
theorem dX12_holds_98 : decode cX12_holds 98 = .ok (.iaload, 1) := by decide +kernel
theorem dX12_holds_99 : decode cX12_holds 99 = .ok (.iload 6, 2) := by decide +kernel
theorem dX12_holds_101 : decode cX12_holds 101 = .ok (.ior, 1) := by decide +kernel
theorem dX12_holds_102 : decode cX12_holds 102 = .ok (.iastore, 1) := by decide +kernel
theorem dX12_holds_103 : decode cX12_holds 103 = .ok (.aload_n 0, 1) := by decide +kernel
theorem dX12_holds_104 : decode cX12_holds 104 = .ok (.iload_n 1, 1) := by decide +kernel
theorem dX12_holds_105 : decode cX12_holds 105 = .ok (.iload_n 2, 1) := by decide +kernel
theorem dX12_holds_106 : decode cX12_holds 106 = .ok (.invokevirtual 240, 3) := by decide +kernel
theorem dX12_holds_109 : decode cX12_holds 109 = .ok (.ifCond .eq 8, 3) := by decide +kernel
theorem dX12_holds_112 : decode cX12_holds 112 = .ok (.iload 6, 2) := by decide +kernel
theorem dX12_holds_114 : decode cX12_holds 114 = .ok (.goto 5, 3) := by decide +kernel
theorem dX12_holds_117 : decode cX12_holds 117 = .ok (.iload 5, 2) := by decide +kernel
theorem dX12_holds_119 : decode cX12_holds 119 = .ok (.istore 5, 2) := by decide +kernel
theorem dX12_holds_121 : decode cX12_holds 121 = .ok (.iinc 6 1, 3) := by decide +kernel
theorem dX12_holds_124 : decode cX12_holds 124 = .ok (.goto (-71), 3) := by decide +kernel
theorem dX12_holds_127 : decode cX12_holds 127 = .ok (.iload 5, 2) := by decide +kernel
theorem dX12_holds_129 : decode cX12_holds 129 = .ok (.ifCond .lt 8, 3) := by decide +kernel
theorem dX12_holds_132 : decode cX12_holds 132 = .ok (.iload_n 3, 1) := by decide +kernel
theorem dX12_holds_133 : decode cX12_holds 133 = .ok (.iconst 1, 1) := by decide +kernel
theorem dX12_holds_134 : decode cX12_holds 134 = .ok (.if_icmp .ne 8, 3) := by decide +kernel
theorem dX12_holds_137 : decode cX12_holds 137 = .ok (.iload 5, 2) := by decide +kernel
theorem dX12_holds_139 : decode cX12_holds 139 = .ok (.goto 8, 3) := by decide +kernel
theorem dX12_holds_142 : decode cX12_holds 142 = .ok (.iload 5, 2) := by decide +kernel
theorem dX12_holds_144 : decode cX12_holds 144 = .ok (.invokestatic 237, 3) := by decide +kernel
theorem dX12_holds_147 : decode cX12_holds 147 = .ok (.ireturn, 1) := by decide +kernel
theorem dX12_isNext_0 : decode cX12_isNext 0 = .ok (.iload_n 1, 1) := by decide +kernel
theorem dX12_isNext_1 : decode cX12_isNext 1 = .ok (.iconst 2, 1) := by decide +kernel
theorem dX12_isNext_2 : decode cX12_isNext 2 = .ok (.isub, 1) := by decide +kernel
theorem dX12_isNext_3 : decode cX12_isNext 3 = .ok (.istore_n 2, 1) := by decide +kernel
theorem dX12_isNext_4 : decode cX12_isNext 4 = .ok (.iload_n 2, 1) := by decide +kernel
theorem dX12_isNext_5 : decode cX12_isNext 5 = .ok (.ifCond .lt 26, 3) := by decide +kernel
theorem dX12_isNext_8 : decode cX12_isNext 8 = .ok (.aload_n 0, 1) := by decide +kernel
theorem dX12_isNext_9 : decode cX12_isNext 9 = .ok (.getfield 37, 3) := by decide +kernel
theorem dX12_isNext_12 : decode cX12_isNext 12 = .ok (.iload_n 2, 1) := by decide +kernel
theorem dX12_isNext_13 : decode cX12_isNext 13 = .ok (.iaload, 1) := by decide +kernel
theorem dX12_isNext_14 : decode cX12_isNext 14 = .ok (.aload_n 0, 1) := by decide +kernel
theorem dX12_isNext_15 : decode cX12_isNext 15 = .ok (.getfield 37, 3) := by decide +kernel
theorem dX12_isNext_18 : decode cX12_isNext 18 = .ok (.iload_n 2, 1) := by decide +kernel
theorem dX12_isNext_19 : decode cX12_isNext 19 = .ok (.iconst 1, 1) := by decide +kernel
theorem dX12_isNext_20 : decode cX12_isNext 20 = .ok (.iadd, 1) := by decide +kernel
theorem dX12_isNext_21 : decode cX12_isNext 21 = .ok (.iaload, 1) := by decide +kernel
theorem dX12_isNext_22 : decode cX12_isNext 22 = .ok (.if_icmp .le 9, 3) := by decide +kernel
theorem dX12_isNext_25 : decode cX12_isNext 25 = .ok (.iinc 2 (-1), 3) := by decide +kernel
theorem dX12_isNext_28 : decode cX12_isNext 28 = .ok (.goto (-24), 3) := by decide +kernel
theorem dX12_isNext_31 : decode cX12_isNext 31 = .ok (.iload_n 2, 1) := by decide +kernel
theorem dX12_isNext_32 : decode cX12_isNext 32 = .ok (.ifCond .ge 5, 3) := by decide +kernel
theorem dX12_isNext_35 : decode cX12_isNext 35 = .ok (.iconst 0, 1) := by decide +kernel
theorem dX12_isNext_36 : decode cX12_isNext 36 = .ok (.ireturn, 1) := by decide +kernel
theorem dX12_isNext_37 : decode cX12_isNext 37 = .ok (.iload_n 1, 1) := by decide +kernel
theorem dX12_isNext_38 : decode cX12_isNext 38 = .ok (.iconst 1, 1) := by decide +kernel
theorem dX12_isNext_39 : decode cX12_isNext 39 = .ok (.isub, 1) := by decide +kernel
theorem dX12_isNext_40 : decode cX12_isNext 40 = .ok (.istore_n 3, 1) := by decide +kernel
theorem dX12_isNext_41 : decode cX12_isNext 41 = .ok (.aload_n 0, 1) := by decide +kernel
theorem dX12_isNext_42 : decode cX12_isNext 42 = .ok (.getfield 37, 3) := by decide +kernel
theorem dX12_isNext_45 : decode cX12_isNext 45 = .ok (.iload_n 3, 1) := by decide +kernel
theorem dX12_isNext_46 : decode cX12_isNext 46 = .ok (.iaload, 1) := by decide +kernel
theorem dX12_isNext_47 : decode cX12_isNext 47 = .ok (.aload_n 0, 1) := by decide +kernel
theorem dX12_isNext_48 : decode cX12_isNext 48 = .ok (.getfield 37, 3) := by decide +kernel
theorem dX12_isNext_51 : decode cX12_isNext 51 = .ok (.iload_n 2, 1) := by decide +kernel
theorem dX12_isNext_52 : decode cX12_isNext 52 = .ok (.iaload, 1) := by decide +kernel
theorem dX12_isNext_53 : decode cX12_isNext 53 = .ok (.if_icmp .ge 9, 3) := by decide +kernel
theorem dX12_isNext_56 : decode cX12_isNext 56 = .ok (.iinc 3 (-1), 3) := by decide +kernel
theorem dX12_isNext_59 : decode cX12_isNext 59 = .ok (.goto (-18), 3) := by decide +kernel
theorem dX12_isNext_62 : decode cX12_isNext 62 = .ok (.aload_n 0, 1) := by decide +kernel
theorem dX12_isNext_63 : decode cX12_isNext 63 = .ok (.iload_n 2, 1) := by decide +kernel
theorem dX12_isNext_64 : decode cX12_isNext 64 = .ok (.iload_n 3, 1) := by decide +kernel
theorem dX12_isNext_65 : decode cX12_isNext 65 = .ok (.invokevirtual 243, 3) := by decide +kernel
theorem dX12_isNext_68 : decode cX12_isNext 68 = .ok (.iload_n 2, 1) := by decide +kernel
theorem dX12_isNext_69 : decode cX12_isNext 69 = .ok (.iconst 1, 1) := by decide +kernel
theorem dX12_isNext_70 : decode cX12_isNext 70 = .ok (.iadd, 1) := by decide +kernel
theorem dX12_isNext_71 : decode cX12_isNext 71 = .ok (.istore 4, 2) := by decide +kernel
theorem dX12_isNext_73 : decode cX12_isNext 73 = .ok (.iload_n 1, 1) := by decide +kernel
theorem dX12_isNext_74 : decode cX12_isNext 74 = .ok (.iconst 1, 1) := by decide +kernel
theorem dX12_isNext_75 : decode cX12_isNext 75 = .ok (.isub, 1) := by decide +kernel
theorem dX12_isNext_76 : decode cX12_isNext 76 = .ok (.istore 5, 2) := by decide +kernel
theorem dX12_isNext_78 : decode cX12_isNext 78 = .ok (.iload 4, 2) := by decide +kernel
theorem dX12_isNext_80 : decode cX12_isNext 80 = .ok (.iload 5, 2) := by decide +kernel
theorem dX12_isNext_82 : decode cX12_isNext 82 = .ok (.if_icmp .ge 20, 3) := by decide +kernel
theorem dX12_isNext_85 : decode cX12_isNext 85 = .ok (.aload_n 0, 1) := by decide +kernel
theorem dX12_isNext_86 : decode cX12_isNext 86 = .ok (.iload 4, 2) := by decide +kernel
theorem dX12_isNext_88 : decode cX12_isNext 88 = .ok (.iload 5, 2) := by decide +kernel
theorem dX12_isNext_90 : decode cX12_isNext 90 = .ok (.invokevirtual 243, 3) := by decide +kernel
theorem dX12_isNext_93 : decode cX12_isNext 93 = .ok (.iinc 4 1, 3) := by decide +kernel
theorem dX12_isNext_96 : decode cX12_isNext 96 = .ok (.iinc 5 (-1), 3) := by decide +kernel
theorem dX12_isNext_99 : decode cX12_isNext 99 = .ok (.goto (-21), 3) := by decide +kernel
theorem dX12_isNext_102 : decode cX12_isNext 102 = .ok (.iconst 1, 1) := by decide +kernel
theorem dX12_isNext_103 : decode cX12_isNext 103 = .ok (.ireturn, 1) := by decide +kernel
theorem dX12_change_0 : decode cX12_change 0 = .ok (.aload_n 0, 1) := by decide +kernel
theorem dX12_change_1 : decode cX12_change 1 = .ok (.getfield 37, 3) := by decide +kernel
theorem dX12_change_4 : decode cX12_change 4 = .ok (.iload_n 1, 1) := by decide +kernel
theorem dX12_change_5 : decode cX12_change 5 = .ok (.iaload, 1) := by decide +kernel
theorem dX12_change_6 : decode cX12_change 6 = .ok (.istore_n 3, 1) := by decide +kernel
theorem dX12_change_7 : decode cX12_change 7 = .ok (.aload_n 0, 1) := by decide +kernel
theorem dX12_change_8 : decode cX12_change 8 = .ok (.getfield 37, 3) := by decide +kernel
theorem dX12_change_11 : decode cX12_change 11 = .ok (.iload_n 1, 1) := by decide +kernel
theorem dX12_change_12 : decode cX12_change 12 = .ok (.aload_n 0, 1) := by decide +kernel
theorem dX12_change_13 : decode cX12_change 13 = .ok (.getfield 37, 3) := by decide +kernel
theorem dX12_change_16 : decode cX12_change 16 = .ok (.iload_n 2, 1) := by decide +kernel
theorem dX12_change_17 : decode cX12_change 17 = .ok (.iaload, 1) := by decide +kernel
theorem dX12_change_18 : decode cX12_change 18 = .ok (.iastore, 1) := by decide +kernel
theorem dX12_change_19 : decode cX12_change 19 = .ok (.aload_n 0, 1) := by decide +kernel
theorem dX12_change_20 : decode cX12_change 20 = .ok (.getfield 37, 3) := by decide +kernel
theorem dX12_change_23 : decode cX12_change 23 = .ok (.iload_n 2, 1) := by decide +kernel
theorem dX12_change_24 : decode cX12_change 24 = .ok (.iload_n 3, 1) := by decide +kernel
theorem dX12_change_25 : decode cX12_change 25 = .ok (.iastore, 1) := by decide +kernel
theorem dX12_change_26 : decode cX12_change 26 = .ok (.return_, 1) := by decide +kernel
theorem dX12_line_0 : decode cX12_line 0 = .ok (.aload_n 0, 1) := by decide +kernel
theorem dX12_line_1 : decode cX12_line 1 = .ok (.getfield 147, 3) := by decide +kernel
theorem dX12_line_4 : decode cX12_line 4 = .ok (.ifCond .ne 6, 3) := by decide +kernel
theorem dX12_line_7 : decode cX12_line 7 = .ok (.ldc 197, 2) := by decide +kernel
theorem dX12_line_9 : decode cX12_line 9 = .ok (.ireturn, 1) := by decide +kernel
theorem dX12_line_10 : decode cX12_line 10 = .ok (.iload_n 1, 1) := by decide +kernel
theorem dX12_line_11 : decode cX12_line 11 = .ok (.i2l, 1) := by decide +kernel
theorem dX12_line_12 : decode cX12_line 12 = .ok (.lconst 1, 1) := by decide +kernel
theorem dX12_line_13 : decode cX12_line 13 = .ok (.ldc2_w 226, 3) := by decide +kernel
theorem dX12_line_16 : decode cX12_line 16 = .ok (.invokestatic 60, 3) := by decide +kernel
theorem dX12_line_19 : decode cX12_line 19 = .ok (.ifCond .eq 8, 3) := by decide +kernel
theorem dX12_line_22 : decode cX12_line 22 = .ok (.iload_n 2, 1) := by decide +kernel
theorem dX12_line_23 : decode cX12_line 23 = .ok (.iconst (-1), 1) := by decide +kernel
theorem dX12_line_24 : decode cX12_line 24 = .ok (.if_icmp .ge 6, 3) := by decide +kernel
theorem dX12_line_27 : decode cX12_line 27 = .ok (.ldc 70, 2) := by decide +kernel
theorem dX12_line_29 : decode cX12_line 29 = .ok (.ireturn, 1) := by decide +kernel
theorem dX12_line_30 : decode cX12_line 30 = .ok (.aload_n 0, 1) := by decide +kernel
theorem dX12_line_31 : decode cX12_line 31 = .ok (.invokevirtual 228, 3) := by decide +kernel
theorem dX12_line_34 : decode cX12_line 34 = .ok (.iconst 0, 1) := by decide +kernel
theorem dX12_line_35 : decode cX12_line 35 = .ok (.istore_n 3, 1) := by decide +kernel
theorem dX12_line_36 : decode cX12_line 36 = .ok (.iconst 0, 1) := by decide +kernel
theorem dX12_line_37 : decode cX12_line 37 = .ok (.istore 4, 2) := by decide +kernel
theorem dX12_line_39 : decode cX12_line 39 = .ok (.iload 4, 2) := by decide +kernel
theorem dX12_line_41 : decode cX12_line 41 = .ok (.aload_n 0, 1) := by decide +kernel
theorem dX12_line_42 : decode cX12_line 42 = .ok (.getfield 19, 3) := by decide +kernel
theorem dX12_line_45 : decode cX12_line 45 = .ok (.iconst 2, 1) := by decide +kernel
theorem dX12_line_46 : decode cX12_line 46 = .ok (.iaload, 1) := by decide +kernel
theorem dX12_line_47 : decode cX12_line 47 = .ok (.if_icmp .ge 47, 3) := by decide +kernel
theorem dX12_line_50 : decode cX12_line 50 = .ok (.aload_n 0, 1) := by decide +kernel
theorem dX12_line_51 : decode cX12_line 51 = .ok (.getfield 19, 3) := by decide +kernel
theorem dX12_line_54 : decode cX12_line 54 = .ok (.bipush 33, 2) := by decide +kernel
theorem dX12_line_56 : decode cX12_line 56 = .ok (.iload 4, 2) := by decide +kernel
theorem dX12_line_58 : decode cX12_line 58 = .ok (.iadd, 1) := by decide +kernel
theorem dX12_line_59 : decode cX12_line 59 = .ok (.iaload, 1) := by decide +kernel
theorem dX12_line_60 : decode cX12_line 60 = .ok (.ifCond .ne 28, 3) := by decide +kernel
theorem dX12_line_63 : decode cX12_line 63 = .ok (.aload_n 0, 1) := by decide +kernel
theorem dX12_line_64 : decode cX12_line 64 = .ok (.getfield 19, 3) := by decide +kernel
theorem dX12_line_67 : decode cX12_line 67 = .ok (.iconst 4, 1) := by decide +kernel
theorem dX12_line_68 : decode cX12_line 68 = .ok (.iaload, 1) := by decide +kernel
theorem dX12_line_69 : decode cX12_line 69 = .ok (.iload 4, 2) := by decide +kernel
theorem dX12_line_71 : decode cX12_line 71 = .ok (.invokestatic 174, 3) := by decide +kernel
theorem dX12_line_74 : decode cX12_line 74 = .ok (.ifCond .ne 14, 3) := by decide +kernel
theorem dX12_line_77 : decode cX12_line 77 = .ok (.aload_n 0, 1) := by decide +kernel
theorem dX12_line_78 : decode cX12_line 78 = .ok (.getfield 37, 3) := by decide +kernel
theorem dX12_line_81 : decode cX12_line 81 = .ok (.iload_n 3, 1) := by decide +kernel
theorem dX12_line_82 : decode cX12_line 82 = .ok (.iload 4, 2) := by decide +kernel
theorem dX12_line_84 : decode cX12_line 84 = .ok (.iastore, 1) := by decide +kernel
theorem dX12_line_85 : decode cX12_line 85 = .ok (.iinc 3 1, 3) := by decide +kernel
theorem dX12_line_88 : decode cX12_line 88 = .ok (.iinc 4 1, 3) := by decide +kernel
theorem dX12_line_91 : decode cX12_line 91 = .ok (.goto (-52), 3) := by decide +kernel
theorem dX12_line_94 : decode cX12_line 94 = .ok (.iconst (-1), 1) := by decide +kernel
theorem dX12_line_95 : decode cX12_line 95 = .ok (.istore 4, 2) := by decide +kernel
theorem dX12_line_97 : decode cX12_line 97 = .ok (.iconst 1, 1) := by decide +kernel
theorem dX12_line_98 : decode cX12_line 98 = .ok (.istore 5, 2) := by decide +kernel
theorem dX12_line_100 : decode cX12_line 100 = .ok (.iload 5, 2) := by decide +kernel
theorem dX12_line_102 : decode cX12_line 102 = .ok (.ifCond .eq 110, 3) := by decide +kernel
theorem dX12_line_105 : decode cX12_line 105 = .ok (.iconst 0, 1) := by decide +kernel
theorem dX12_line_106 : decode cX12_line 106 = .ok (.istore 6, 2) := by decide +kernel
theorem dX12_line_108 : decode cX12_line 108 = .ok (.iload 6, 2) := by decide +kernel
theorem dX12_line_110 : decode cX12_line 110 = .ok (.iload_n 3, 1) := by decide +kernel
theorem dX12_line_111 : decode cX12_line 111 = .ok (.if_icmp .ge 33, 3) := by decide +kernel
theorem dX12_line_114 : decode cX12_line 114 = .ok (.aload_n 0, 1) := by decide +kernel
theorem dX12_line_115 : decode cX12_line 115 = .ok (.getfield 19, 3) := by decide +kernel
theorem dX12_line_118 : decode cX12_line 118 = .ok (.bipush 27, 2) := by decide +kernel
theorem dX12_line_120 : decode cX12_line 120 = .ok (.aload_n 0, 1) := by decide +kernel
theorem dX12_line_121 : decode cX12_line 121 = .ok (.getfield 37, 3) := by decide +kernel
theorem dX12_line_124 : decode cX12_line 124 = .ok (.iload 6, 2) := by decide +kernel
theorem dX12_line_126 : decode cX12_line 126 = .ok (.iaload, 1) := by decide +kernel
theorem dX12_line_127 : decode cX12_line 127 = .ok (.iadd, 1) := by decide +kernel
theorem dX12_line_128 : decode cX12_line 128 = .ok (.aload_n 0, 1) := by decide +kernel
theorem dX12_line_129 : decode cX12_line 129 = .ok (.getfield 19, 3) := by decide +kernel
theorem dX12_line_132 : decode cX12_line 132 = .ok (.iconst 3, 1) := by decide +kernel
theorem dX12_line_133 : decode cX12_line 133 = .ok (.iaload, 1) := by decide +kernel
theorem dX12_line_134 : decode cX12_line 134 = .ok (.iload 6, 2) := by decide +kernel
theorem dX12_line_136 : decode cX12_line 136 = .ok (.iadd, 1) := by decide +kernel
theorem dX12_line_137 : decode cX12_line 137 = .ok (.iastore, 1) := by decide +kernel
theorem dX12_line_138 : decode cX12_line 138 = .ok (.iinc 6 1, 3) := by decide +kernel
theorem dX12_line_141 : decode cX12_line 141 = .ok (.goto (-33), 3) := by decide +kernel
theorem dX12_line_144 : decode cX12_line 144 = .ok (.aload_n 0, 1) := by decide +kernel
theorem dX12_line_145 : decode cX12_line 145 = .ok (.iload_n 1, 1) := by decide +kernel
theorem dX12_line_146 : decode cX12_line 146 = .ok (.invokevirtual 220, 3) := by decide +kernel
theorem dX12_line_149 : decode cX12_line 149 = .ok (.aload_n 0, 1) := by decide +kernel
theorem dX12_line_150 : decode cX12_line 150 = .ok (.invokevirtual 206, 3) := by decide +kernel
theorem dX12_line_153 : decode cX12_line 153 = .ok (.invokestatic 237, 3) := by decide +kernel
theorem dX12_line_156 : decode cX12_line 156 = .ok (.istore 6, 2) := by decide +kernel
theorem dX12_line_158 : decode cX12_line 158 = .ok (.aload_n 0, 1) := by decide +kernel
theorem dX12_line_159 : decode cX12_line 159 = .ok (.invokevirtual 223, 3) := by decide +kernel
theorem dX12_line_162 : decode cX12_line 162 = .ok (.iload 6, 2) := by decide +kernel
theorem dX12_line_164 : decode cX12_line 164 = .ok (.iload 4, 2) := by decide +kernel
theorem dX12_line_166 : decode cX12_line 166 = .ok (.if_icmp .le 36, 3) := by decide +kernel
theorem dX12_line_169 : decode cX12_line 169 = .ok (.iload 6, 2) := by decide +kernel
theorem dX12_line_171 : decode cX12_line 171 = .ok (.istore 4, 2) := by decide +kernel
theorem dX12_line_173 : decode cX12_line 173 = .ok (.iconst 0, 1) := by decide +kernel
theorem dX12_line_174 : decode cX12_line 174 = .ok (.istore 7, 2) := by decide +kernel
theorem dX12_line_176 : decode cX12_line 176 = .ok (.iload 7, 2) := by decide +kernel
theorem dX12_line_178 : decode cX12_line 178 = .ok (.iload_n 3, 1) := by decide +kernel
theorem dX12_line_179 : decode cX12_line 179 = .ok (.if_icmp .ge 23, 3) := by decide +kernel
theorem dX12_line_182 : decode cX12_line 182 = .ok (.aload_n 0, 1) := by decide +kernel
theorem dX12_line_183 : decode cX12_line 183 = .ok (.getfield 40, 3) := by decide +kernel
theorem dX12_line_186 : decode cX12_line 186 = .ok (.iload 7, 2) := by decide +kernel
theorem dX12_line_188 : decode cX12_line 188 = .ok (.aload_n 0, 1) := by decide +kernel
theorem dX12_line_189 : decode cX12_line 189 = .ok (.getfield 37, 3) := by decide +kernel
theorem dX12_line_192 : decode cX12_line 192 = .ok (.iload 7, 2) := by decide +kernel
theorem dX12_line_194 : decode cX12_line 194 = .ok (.iaload, 1) := by decide +kernel
theorem dX12_line_195 : decode cX12_line 195 = .ok (.iastore, 1) := by decide +kernel
theorem dX12_line_196 : decode cX12_line 196 = .ok (.iinc 7 1, 3) := by decide +kernel
theorem dX12_line_199 : decode cX12_line 199 = .ok (.goto (-23), 3) := by decide +kernel
theorem dX12_line_202 : decode cX12_line 202 = .ok (.aload_n 0, 1) := by decide +kernel
theorem dX12_line_203 : decode cX12_line 203 = .ok (.iload_n 3, 1) := by decide +kernel
theorem dX12_line_204 : decode cX12_line 204 = .ok (.invokevirtual 247, 3) := by decide +kernel
theorem dX12_line_207 : decode cX12_line 207 = .ok (.istore 5, 2) := by decide +kernel
theorem dX12_line_209 : decode cX12_line 209 = .ok (.goto (-109), 3) := by decide +kernel
theorem dX12_line_212 : decode cX12_line 212 = .ok (.iload_n 2, 1) := by decide +kernel
theorem dX12_line_213 : decode cX12_line 213 = .ok (.ifCond .ge 8, 3) := by decide +kernel
theorem dX12_line_216 : decode cX12_line 216 = .ok (.iload 4, 2) := by decide +kernel
theorem dX12_line_218 : decode cX12_line 218 = .ok (.goto 19, 3) := by decide +kernel
theorem dX12_line_221 : decode cX12_line 221 = .ok (.iload_n 2, 1) := by decide +kernel
theorem dX12_line_222 : decode cX12_line 222 = .ok (.iload_n 3, 1) := by decide +kernel
theorem dX12_line_223 : decode cX12_line 223 = .ok (.if_icmp .ge 12, 3) := by decide +kernel
theorem dX12_line_226 : decode cX12_line 226 = .ok (.aload_n 0, 1) := by decide +kernel
theorem dX12_line_227 : decode cX12_line 227 = .ok (.getfield 40, 3) := by decide +kernel
theorem dX12_line_230 : decode cX12_line 230 = .ok (.iload_n 2, 1) := by decide +kernel
theorem dX12_line_231 : decode cX12_line 231 = .ok (.iaload, 1) := by decide +kernel
theorem dX12_line_232 : decode cX12_line 232 = .ok (.goto 5, 3) := by decide +kernel
theorem dX12_line_235 : decode cX12_line 235 = .ok (.ldc 167, 2) := by decide +kernel
theorem dX12_line_237 : decode cX12_line 237 = .ok (.ireturn, 1) := by decide +kernel
theorem dX12_heavy_0 : decode cX12_heavy 0 = .ok (.aload_n 0, 1) := by decide +kernel
theorem dX12_heavy_1 : decode cX12_heavy 1 = .ok (.getfield 147, 3) := by decide +kernel
theorem dX12_heavy_4 : decode cX12_heavy 4 = .ok (.ifCond .ne 6, 3) := by decide +kernel
theorem dX12_heavy_7 : decode cX12_heavy 7 = .ok (.ldc 197, 2) := by decide +kernel
theorem dX12_heavy_9 : decode cX12_heavy 9 = .ok (.ireturn, 1) := by decide +kernel
theorem dX12_heavy_10 : decode cX12_heavy 10 = .ok (.iload_n 1, 1) := by decide +kernel
theorem dX12_heavy_11 : decode cX12_heavy 11 = .ok (.i2l, 1) := by decide +kernel
theorem dX12_heavy_12 : decode cX12_heavy 12 = .ok (.lconst 1, 1) := by decide +kernel
theorem dX12_heavy_13 : decode cX12_heavy 13 = .ok (.ldc2_w 226, 3) := by decide +kernel
theorem dX12_heavy_16 : decode cX12_heavy 16 = .ok (.invokestatic 60, 3) := by decide +kernel
theorem dX12_heavy_19 : decode cX12_heavy 19 = .ok (.ifCond .ne 6, 3) := by decide +kernel
theorem dX12_heavy_22 : decode cX12_heavy 22 = .ok (.ldc 70, 2) := by decide +kernel
theorem dX12_heavy_24 : decode cX12_heavy 24 = .ok (.ireturn, 1) := by decide +kernel
theorem dX12_heavy_25 : decode cX12_heavy 25 = .ok (.aload_n 0, 1) := by decide +kernel
theorem dX12_heavy_26 : decode cX12_heavy 26 = .ok (.getfield 19, 3) := by decide +kernel
theorem dX12_heavy_29 : decode cX12_heavy 29 = .ok (.iconst 2, 1) := by decide +kernel
theorem dX12_heavy_30 : decode cX12_heavy 30 = .ok (.iaload, 1) := by decide +kernel
theorem dX12_heavy_31 : decode cX12_heavy 31 = .ok (.istore_n 2, 1) := by decide +kernel
theorem dX12_heavy_32 : decode cX12_heavy 32 = .ok (.iload_n 2, 1) := by decide +kernel
theorem dX12_heavy_33 : decode cX12_heavy 33 = .ok (.bipush 6, 2) := by decide +kernel
theorem dX12_heavy_35 : decode cX12_heavy 35 = .ok (.if_icmp .ne 6, 3) := by decide +kernel
theorem dX12_heavy_38 : decode cX12_heavy 38 = .ok (.ldc 167, 2) := by decide +kernel
theorem dX12_heavy_40 : decode cX12_heavy 40 = .ok (.ireturn, 1) := by decide +kernel
theorem dX12_heavy_41 : decode cX12_heavy 41 = .ok (.aload_n 0, 1) := by decide +kernel
theorem dX12_heavy_42 : decode cX12_heavy 42 = .ok (.invokevirtual 228, 3) := by decide +kernel
theorem dX12_heavy_45 : decode cX12_heavy 45 = .ok (.ldc 167, 2) := by decide +kernel
theorem dX12_heavy_47 : decode cX12_heavy 47 = .ok (.istore_n 3, 1) := by decide +kernel
theorem dX12_heavy_48 : decode cX12_heavy 48 = .ok (.bipush 30, 2) := by decide +kernel
theorem dX12_heavy_50 : decode cX12_heavy 50 = .ok (.istore 4, 2) := by decide +kernel
theorem dX12_heavy_52 : decode cX12_heavy 52 = .ok (.iload 4, 2) := by decide +kernel
theorem dX12_heavy_54 : decode cX12_heavy 54 = .ok (.ifCond .le 106, 3) := by decide +kernel
theorem dX12_heavy_57 : decode cX12_heavy 57 = .ok (.iload_n 3, 1) := by decide +kernel
theorem dX12_heavy_58 : decode cX12_heavy 58 = .ok (.ifCond .ge 102, 3) := by decide +kernel
theorem dX12_heavy_61 : decode cX12_heavy 61 = .ok (.aload_n 0, 1) := by decide +kernel
theorem dX12_heavy_62 : decode cX12_heavy 62 = .ok (.getfield 19, 3) := by decide +kernel
theorem dX12_heavy_65 : decode cX12_heavy 65 = .ok (.bipush 15, 2) := by decide +kernel
theorem dX12_heavy_67 : decode cX12_heavy 67 = .ok (.iload_n 2, 1) := by decide +kernel
theorem dX12_heavy_68 : decode cX12_heavy 68 = .ok (.iadd, 1) := by decide +kernel
theorem dX12_heavy_69 : decode cX12_heavy 69 = .ok (.iconst 1, 1) := by decide +kernel
theorem dX12_heavy_70 : decode cX12_heavy 70 = .ok (.iastore, 1) := by decide +kernel
theorem dX12_heavy_71 : decode cX12_heavy 71 = .ok (.aload_n 0, 1) := by decide +kernel
theorem dX12_heavy_72 : decode cX12_heavy 72 = .ok (.getfield 19, 3) := by decide +kernel
theorem dX12_heavy_75 : decode cX12_heavy 75 = .ok (.bipush 21, 2) := by decide +kernel
theorem dX12_heavy_77 : decode cX12_heavy 77 = .ok (.iload_n 2, 1) := by decide +kernel
theorem dX12_heavy_78 : decode cX12_heavy 78 = .ok (.iadd, 1) := by decide +kernel
theorem dX12_heavy_79 : decode cX12_heavy 79 = .ok (.iload 4, 2) := by decide +kernel
theorem dX12_heavy_81 : decode cX12_heavy 81 = .ok (.iastore, 1) := by decide +kernel
theorem dX12_heavy_82 : decode cX12_heavy 82 = .ok (.aload_n 0, 1) := by decide +kernel
theorem dX12_heavy_83 : decode cX12_heavy 83 = .ok (.getfield 19, 3) := by decide +kernel
theorem dX12_heavy_86 : decode cX12_heavy 86 = .ok (.bipush 27, 2) := by decide +kernel
theorem dX12_heavy_88 : decode cX12_heavy 88 = .ok (.iload_n 2, 1) := by decide +kernel
theorem dX12_heavy_89 : decode cX12_heavy 89 = .ok (.iadd, 1) := by decide +kernel
theorem dX12_heavy_90 : decode cX12_heavy 90 = .ok (.aload_n 0, 1) := by decide +kernel
theorem dX12_heavy_91 : decode cX12_heavy 91 = .ok (.getfield 19, 3) := by decide +kernel
theorem dX12_heavy_94 : decode cX12_heavy 94 = .ok (.iconst 3, 1) := by decide +kernel
theorem dX12_heavy_95 : decode cX12_heavy 95 = .ok (.iaload, 1) := by decide +kernel
theorem dX12_heavy_96 : decode cX12_heavy 96 = .ok (.iastore, 1) := by decide +kernel
theorem dX12_heavy_97 : decode cX12_heavy 97 = .ok (.aload_n 0, 1) := by decide +kernel
theorem dX12_heavy_98 : decode cX12_heavy 98 = .ok (.getfield 19, 3) := by decide +kernel
theorem dX12_heavy_101 : decode cX12_heavy 101 = .ok (.bipush 33, 2) := by decide +kernel
theorem dX12_heavy_103 : decode cX12_heavy 103 = .ok (.iload_n 2, 1) := by decide +kernel
theorem dX12_heavy_104 : decode cX12_heavy 104 = .ok (.iadd, 1) := by decide +kernel
theorem dX12_heavy_105 : decode cX12_heavy 105 = .ok (.iconst 0, 1) := by decide +kernel
theorem dX12_heavy_106 : decode cX12_heavy 106 = .ok (.iastore, 1) := by decide +kernel
theorem dX12_heavy_107 : decode cX12_heavy 107 = .ok (.aload_n 0, 1) := by decide +kernel
theorem dX12_heavy_108 : decode cX12_heavy 108 = .ok (.getfield 19, 3) := by decide +kernel
theorem dX12_heavy_111 : decode cX12_heavy 111 = .ok (.bipush 39, 2) := by decide +kernel
theorem dX12_heavy_113 : decode cX12_heavy 113 = .ok (.iload_n 2, 1) := by decide +kernel
theorem dX12_heavy_114 : decode cX12_heavy 114 = .ok (.iadd, 1) := by decide +kernel
theorem dX12_heavy_115 : decode cX12_heavy 115 = .ok (.iconst 0, 1) := by decide +kernel
theorem dX12_heavy_116 : decode cX12_heavy 116 = .ok (.iastore, 1) := by decide +kernel
theorem dX12_heavy_117 : decode cX12_heavy 117 = .ok (.aload_n 0, 1) := by decide +kernel
theorem dX12_heavy_118 : decode cX12_heavy 118 = .ok (.getfield 19, 3) := by decide +kernel
theorem dX12_heavy_121 : decode cX12_heavy 121 = .ok (.iconst 5, 1) := by decide +kernel
theorem dX12_heavy_122 : decode cX12_heavy 122 = .ok (.dup2, 1) := by decide +kernel
theorem dX12_heavy_123 : decode cX12_heavy 123 = .ok (.iaload, 1) := by decide +kernel
theorem dX12_heavy_124 : decode cX12_heavy 124 = .ok (.iconst 1, 1) := by decide +kernel
theorem dX12_heavy_125 : decode cX12_heavy 125 = .ok (.iload_n 2, 1) := by decide +kernel
theorem dX12_heavy_126 : decode cX12_heavy 126 = .ok (.ishl, 1) := by decide +kernel
theorem dX12_heavy_127 : decode cX12_heavy 127 = .ok (.ior, 1) := by decide +kernel
theorem dX12_heavy_128 : decode cX12_heavy 128 = .ok (.iastore, 1) := by decide +kernel
theorem dX12_heavy_129 : decode cX12_heavy 129 = .ok (.aload_n 0, 1) := by decide +kernel
theorem dX12_heavy_130 : decode cX12_heavy 130 = .ok (.getfield 19, 3) := by decide +kernel
theorem dX12_heavy_133 : decode cX12_heavy 133 = .ok (.iconst 2, 1) := by decide +kernel
theorem dX12_heavy_134 : decode cX12_heavy 134 = .ok (.iload_n 2, 1) := by decide +kernel
theorem dX12_heavy_135 : decode cX12_heavy 135 = .ok (.iconst 1, 1) := by decide +kernel
theorem dX12_heavy_136 : decode cX12_heavy 136 = .ok (.iadd, 1) := by decide +kernel
theorem dX12_heavy_137 : decode cX12_heavy 137 = .ok (.iastore, 1) := by decide +kernel
theorem dX12_heavy_138 : decode cX12_heavy 138 = .ok (.aload_n 0, 1) := by decide +kernel
theorem dX12_heavy_139 : decode cX12_heavy 139 = .ok (.iload_n 2, 1) := by decide +kernel
theorem dX12_heavy_140 : decode cX12_heavy 140 = .ok (.iload_n 1, 1) := by decide +kernel
theorem dX12_heavy_141 : decode cX12_heavy 141 = .ok (.invokevirtual 240, 3) := by decide +kernel
theorem dX12_heavy_144 : decode cX12_heavy 144 = .ok (.ifCond .eq 8, 3) := by decide +kernel
theorem dX12_heavy_147 : decode cX12_heavy 147 = .ok (.iload 4, 2) := by decide +kernel
theorem dX12_heavy_149 : decode cX12_heavy 149 = .ok (.goto 4, 3) := by decide +kernel
theorem dX12_heavy_152 : decode cX12_heavy 152 = .ok (.iload_n 3, 1) := by decide +kernel
theorem dX12_heavy_153 : decode cX12_heavy 153 = .ok (.istore_n 3, 1) := by decide +kernel
theorem dX12_heavy_154 : decode cX12_heavy 154 = .ok (.iinc 4 (-1), 3) := by decide +kernel
theorem dX12_heavy_157 : decode cX12_heavy 157 = .ok (.goto (-105), 3) := by decide +kernel
theorem dX12_heavy_160 : decode cX12_heavy 160 = .ok (.iload_n 3, 1) := by decide +kernel
theorem dX12_heavy_161 : decode cX12_heavy 161 = .ok (.ireturn, 1) := by decide +kernel
theorem dX12_lacks_0 : decode cX12_lacks 0 = .ok (.aload_n 0, 1) := by decide +kernel
theorem dX12_lacks_1 : decode cX12_lacks 1 = .ok (.getfield 13, 3) := by decide +kernel
theorem dX12_lacks_4 : decode cX12_lacks 4 = .ok (.iload_n 1, 1) := by decide +kernel
theorem dX12_lacks_5 : decode cX12_lacks 5 = .ok (.iaload, 1) := by decide +kernel
theorem dX12_lacks_6 : decode cX12_lacks 6 = .ok (.ifCond .ge 9, 3) := by decide +kernel
theorem dX12_lacks_9 : decode cX12_lacks 9 = .ok (.aload_n 0, 1) := by decide +kernel
theorem dX12_lacks_10 : decode cX12_lacks 10 = .ok (.iconst 1, 1) := by decide +kernel
theorem dX12_lacks_11 : decode cX12_lacks 11 = .ok (.invokevirtual 71, 3) := by decide +kernel
theorem dX12_lacks_14 : decode cX12_lacks 14 = .ok (.ireturn, 1) := by decide +kernel
theorem dX12_lacks_15 : decode cX12_lacks 15 = .ok (.iload_n 2, 1) := by decide +kernel
theorem dX12_lacks_16 : decode cX12_lacks 16 = .ok (.i2l, 1) := by decide +kernel
theorem dX12_lacks_17 : decode cX12_lacks 17 = .ok (.lconst 0, 1) := by decide +kernel
theorem dX12_lacks_18 : decode cX12_lacks 18 = .ok (.aload_n 0, 1) := by decide +kernel
theorem dX12_lacks_19 : decode cX12_lacks 19 = .ok (.getfield 13, 3) := by decide +kernel
theorem dX12_lacks_22 : decode cX12_lacks 22 = .ok (.iload_n 1, 1) := by decide +kernel
theorem dX12_lacks_23 : decode cX12_lacks 23 = .ok (.iaload, 1) := by decide +kernel
theorem dX12_lacks_24 : decode cX12_lacks 24 = .ok (.iload_n 3, 1) := by decide +kernel
theorem dX12_lacks_25 : decode cX12_lacks 25 = .ok (.isub, 1) := by decide +kernel
theorem dX12_lacks_26 : decode cX12_lacks 26 = .ok (.i2l, 1) := by decide +kernel
theorem dX12_lacks_27 : decode cX12_lacks 27 = .ok (.invokestatic 60, 3) := by decide +kernel
theorem dX12_lacks_30 : decode cX12_lacks 30 = .ok (.ifCond .eq 7, 3) := by decide +kernel
theorem dX12_lacks_33 : decode cX12_lacks 33 = .ok (.iconst 0, 1) := by decide +kernel
theorem dX12_lacks_34 : decode cX12_lacks 34 = .ok (.goto 8, 3) := by decide +kernel
theorem dX12_lacks_37 : decode cX12_lacks 37 = .ok (.aload_n 0, 1) := by decide +kernel
theorem dX12_lacks_38 : decode cX12_lacks 38 = .ok (.iconst 2, 1) := by decide +kernel
theorem dX12_lacks_39 : decode cX12_lacks 39 = .ok (.invokevirtual 71, 3) := by decide +kernel
theorem dX12_lacks_42 : decode cX12_lacks 42 = .ok (.ireturn, 1) := by decide +kernel
theorem dX12_isSo_0 : decode cX12_isSo 0 = .ok (.iconst 1, 1) := by decide +kernel
theorem dX12_isSo_1 : decode cX12_isSo 1 = .ok (.istore 4, 2) := by decide +kernel
theorem dX12_isSo_3 : decode cX12_isSo 3 = .ok (.iconst 0, 1) := by decide +kernel
theorem dX12_isSo_4 : decode cX12_isSo 4 = .ok (.istore 5, 2) := by decide +kernel
theorem dX12_isSo_6 : decode cX12_isSo 6 = .ok (.iload 5, 2) := by decide +kernel
theorem dX12_isSo_8 : decode cX12_isSo 8 = .ok (.iload_n 3, 1) := by decide +kernel
theorem dX12_isSo_9 : decode cX12_isSo 9 = .ok (.if_icmp .ge 46, 3) := by decide +kernel
theorem dX12_isSo_12 : decode cX12_isSo 12 = .ok (.aload_n 0, 1) := by decide +kernel
theorem dX12_isSo_13 : decode cX12_isSo 13 = .ok (.invokevirtual 203, 3) := by decide +kernel
theorem dX12_isSo_16 : decode cX12_isSo 16 = .ok (.iload 4, 2) := by decide +kernel
theorem dX12_isSo_18 : decode cX12_isSo 18 = .ok (.ifCond .eq 28, 3) := by decide +kernel
theorem dX12_isSo_21 : decode cX12_isSo 21 = .ok (.aload_n 0, 1) := by decide +kernel
theorem dX12_isSo_22 : decode cX12_isSo 22 = .ok (.getfield 16, 3) := by decide +kernel
theorem dX12_isSo_25 : decode cX12_isSo 25 = .ok (.iload_n 2, 1) := by decide +kernel
theorem dX12_isSo_26 : decode cX12_isSo 26 = .ok (.iload 5, 2) := by decide +kernel
theorem dX12_isSo_28 : decode cX12_isSo 28 = .ok (.iadd, 1) := by decide +kernel
theorem dX12_isSo_29 : decode cX12_isSo 29 = .ok (.iaload, 1) := by decide +kernel
theorem dX12_isSo_30 : decode cX12_isSo 30 = .ok (.aload_n 0, 1) := by decide +kernel
theorem dX12_isSo_31 : decode cX12_isSo 31 = .ok (.getfield 19, 3) := by decide +kernel
theorem dX12_isSo_34 : decode cX12_isSo 34 = .ok (.bipush 33, 2) := by decide +kernel
theorem dX12_isSo_36 : decode cX12_isSo 36 = .ok (.iload_n 1, 1) := by decide +kernel
theorem dX12_isSo_37 : decode cX12_isSo 37 = .ok (.iadd, 1) := by decide +kernel
theorem dX12_isSo_38 : decode cX12_isSo 38 = .ok (.iaload, 1) := by decide +kernel
theorem dX12_isSo_39 : decode cX12_isSo 39 = .ok (.if_icmp .ne 7, 3) := by decide +kernel
theorem dX12_isSo_42 : decode cX12_isSo 42 = .ok (.iconst 1, 1) := by decide +kernel
theorem dX12_isSo_43 : decode cX12_isSo 43 = .ok (.goto 4, 3) := by decide +kernel
theorem dX12_isSo_46 : decode cX12_isSo 46 = .ok (.iconst 0, 1) := by decide +kernel
theorem dX12_isSo_47 : decode cX12_isSo 47 = .ok (.istore 4, 2) := by decide +kernel
theorem dX12_isSo_49 : decode cX12_isSo 49 = .ok (.iinc 5 1, 3) := by decide +kernel
theorem dX12_isSo_52 : decode cX12_isSo 52 = .ok (.goto (-46), 3) := by decide +kernel
theorem dX12_isSo_55 : decode cX12_isSo 55 = .ok (.aload_n 0, 1) := by decide +kernel
theorem dX12_isSo_56 : decode cX12_isSo 56 = .ok (.invokevirtual 223, 3) := by decide +kernel
theorem dX12_isSo_59 : decode cX12_isSo 59 = .ok (.iload 4, 2) := by decide +kernel
theorem dX12_isSo_61 : decode cX12_isSo 61 = .ok (.ireturn, 1) := by decide +kernel
theorem dX12_who_0 : decode cX12_who 0 = .ok (.aload_n 0, 1) := by decide +kernel
theorem dX12_who_1 : decode cX12_who 1 = .ok (.iload_n 1, 1) := by decide +kernel
theorem dX12_who_2 : decode cX12_who 2 = .ok (.invokevirtual 209, 3) := by decide +kernel
theorem dX12_who_5 : decode cX12_who 5 = .ok (.ifCond .eq 44, 3) := by decide +kernel
theorem dX12_who_8 : decode cX12_who 8 = .ok (.iload_n 2, 1) := by decide +kernel
theorem dX12_who_9 : decode cX12_who 9 = .ok (.i2l, 1) := by decide +kernel
theorem dX12_who_10 : decode cX12_who 10 = .ok (.lconst 0, 1) := by decide +kernel
theorem dX12_who_11 : decode cX12_who 11 = .ok (.ldc2_w 68, 3) := by decide +kernel
theorem dX12_who_14 : decode cX12_who 14 = .ok (.invokestatic 60, 3) := by decide +kernel
theorem dX12_who_17 : decode cX12_who 17 = .ok (.ifCond .eq 32, 3) := by decide +kernel
theorem dX12_who_20 : decode cX12_who 20 = .ok (.aload_n 0, 1) := by decide +kernel
theorem dX12_who_21 : decode cX12_who 21 = .ok (.iload_n 3, 1) := by decide +kernel
theorem dX12_who_22 : decode cX12_who 22 = .ok (.invokevirtual 209, 3) := by decide +kernel
theorem dX12_who_25 : decode cX12_who 25 = .ok (.ifCond .eq 24, 3) := by decide +kernel
theorem dX12_who_28 : decode cX12_who 28 = .ok (.iload 4, 2) := by decide +kernel
theorem dX12_who_30 : decode cX12_who 30 = .ok (.invokestatic 64, 3) := by decide +kernel
theorem dX12_who_33 : decode cX12_who 33 = .ok (.ifCond .eq 16, 3) := by decide +kernel
theorem dX12_who_36 : decode cX12_who 36 = .ok (.iload 6, 2) := by decide +kernel
theorem dX12_who_38 : decode cX12_who 38 = .ok (.i2l, 1) := by decide +kernel
theorem dX12_who_39 : decode cX12_who 39 = .ok (.lconst 1, 1) := by decide +kernel
theorem dX12_who_40 : decode cX12_who 40 = .ok (.ldc2_w 250, 3) := by decide +kernel
theorem dX12_who_43 : decode cX12_who 43 = .ok (.invokestatic 60, 3) := by decide +kernel
theorem dX12_who_46 : decode cX12_who 46 = .ok (.ifCond .ne 8, 3) := by decide +kernel
theorem dX12_who_49 : decode cX12_who 49 = .ok (.ldc 70, 2) := by decide +kernel
theorem dX12_who_51 : decode cX12_who 51 = .ok (.goto 13, 3) := by decide +kernel
theorem dX12_who_54 : decode cX12_who 54 = .ok (.aload_n 0, 1) := by decide +kernel
theorem dX12_who_55 : decode cX12_who 55 = .ok (.iload 4, 2) := by decide +kernel
theorem dX12_who_57 : decode cX12_who 57 = .ok (.iload 5, 2) := by decide +kernel
theorem dX12_who_59 : decode cX12_who 59 = .ok (.iload 6, 2) := by decide +kernel
theorem dX12_who_61 : decode cX12_who 61 = .ok (.invokevirtual 252, 3) := by decide +kernel
theorem dX12_who_64 : decode cX12_who 64 = .ok (.istore 7, 2) := by decide +kernel
theorem dX12_who_66 : decode cX12_who 66 = .ok (.iload 7, 2) := by decide +kernel
theorem dX12_who_68 : decode cX12_who 68 = .ok (.ifCond .ge 6, 3) := by decide +kernel
theorem dX12_who_71 : decode cX12_who 71 = .ok (.iload 7, 2) := by decide +kernel
theorem dX12_who_73 : decode cX12_who 73 = .ok (.ireturn, 1) := by decide +kernel
theorem dX12_who_74 : decode cX12_who 74 = .ok (.aload_n 0, 1) := by decide +kernel
theorem dX12_who_75 : decode cX12_who 75 = .ok (.invokevirtual 228, 3) := by decide +kernel
theorem dX12_who_78 : decode cX12_who 78 = .ok (.iload_n 2, 1) := by decide +kernel
theorem dX12_who_79 : decode cX12_who 79 = .ok (.ifCond .ne 10, 3) := by decide +kernel
theorem dX12_who_82 : decode cX12_who 82 = .ok (.bipush 15, 2) := by decide +kernel
theorem dX12_who_84 : decode cX12_who 84 = .ok (.iload_n 1, 1) := by decide +kernel
theorem dX12_who_85 : decode cX12_who 85 = .ok (.iadd, 1) := by decide +kernel
theorem dX12_who_86 : decode cX12_who 86 = .ok (.goto 19, 3) := by decide +kernel
theorem dX12_who_89 : decode cX12_who 89 = .ok (.iload_n 2, 1) := by decide +kernel
theorem dX12_who_90 : decode cX12_who 90 = .ok (.iconst 1, 1) := by decide +kernel
theorem dX12_who_91 : decode cX12_who 91 = .ok (.if_icmp .ne 10, 3) := by decide +kernel
theorem dX12_who_94 : decode cX12_who 94 = .ok (.bipush 21, 2) := by decide +kernel
theorem dX12_who_96 : decode cX12_who 96 = .ok (.iload_n 1, 1) := by decide +kernel
theorem dX12_who_97 : decode cX12_who 97 = .ok (.iadd, 1) := by decide +kernel
theorem dX12_who_98 : decode cX12_who 98 = .ok (.goto 7, 3) := by decide +kernel
theorem dX12_who_101 : decode cX12_who 101 = .ok (.bipush 27, 2) := by decide +kernel
theorem dX12_who_103 : decode cX12_who 103 = .ok (.iload_n 1, 1) := by decide +kernel
theorem dX12_who_104 : decode cX12_who 104 = .ok (.iadd, 1) := by decide +kernel
theorem dX12_who_105 : decode cX12_who 105 = .ok (.istore 8, 2) := by decide +kernel
theorem dX12_who_107 : decode cX12_who 107 = .ok (.iconst 0, 1) := by decide +kernel
theorem dX12_who_108 : decode cX12_who 108 = .ok (.istore 9, 2) := by decide +kernel
theorem dX12_who_110 : decode cX12_who 110 = .ok (.iload_n 2, 1) := by decide +kernel
theorem dX12_who_111 : decode cX12_who 111 = .ok (.iconst 2, 1) := by decide +kernel
theorem dX12_who_112 : decode cX12_who 112 = .ok (.if_icmp .ne 7, 3) := by decide +kernel
theorem dX12_who_115 : decode cX12_who 115 = .ok (.iconst 0, 1) := by decide +kernel
theorem dX12_who_116 : decode cX12_who 116 = .ok (.goto 4, 3) := by decide +kernel
theorem dX12_who_119 : decode cX12_who 119 = .ok (.iconst 1, 1) := by decide +kernel
theorem dX12_who_120 : decode cX12_who 120 = .ok (.istore 10, 2) := by decide +kernel
theorem dX12_who_122 : decode cX12_who 122 = .ok (.iload 10, 2) := by decide +kernel
theorem dX12_who_124 : decode cX12_who 124 = .ok (.iload_n 2, 1) := by decide +kernel
theorem dX12_who_125 : decode cX12_who 125 = .ok (.ifCond .ne 7, 3) := by decide +kernel
theorem dX12_who_128 : decode cX12_who 128 = .ok (.iconst 5, 1) := by decide +kernel
theorem dX12_who_129 : decode cX12_who 129 = .ok (.goto 5, 3) := by decide +kernel
theorem dX12_who_132 : decode cX12_who 132 = .ok (.bipush 30, 2) := by decide +kernel
theorem dX12_who_134 : decode cX12_who 134 = .ok (.if_icmp .gt 49, 3) := by decide +kernel
theorem dX12_who_137 : decode cX12_who 137 = .ok (.aload_n 0, 1) := by decide +kernel
theorem dX12_who_138 : decode cX12_who 138 = .ok (.getfield 19, 3) := by decide +kernel
theorem dX12_who_141 : decode cX12_who 141 = .ok (.iload 8, 2) := by decide +kernel
theorem dX12_who_143 : decode cX12_who 143 = .ok (.iload 10, 2) := by decide +kernel
theorem dX12_who_145 : decode cX12_who 145 = .ok (.iastore, 1) := by decide +kernel
theorem dX12_who_146 : decode cX12_who 146 = .ok (.iload 9, 2) := by decide +kernel
theorem dX12_who_148 : decode cX12_who 148 = .ok (.aload_n 0, 1) := by decide +kernel
theorem dX12_who_149 : decode cX12_who 149 = .ok (.iload_n 3, 1) := by decide +kernel
theorem dX12_who_150 : decode cX12_who 150 = .ok (.bipush 40, 2) := by decide +kernel
theorem dX12_who_152 : decode cX12_who 152 = .ok (.iload 4, 2) := by decide +kernel
theorem dX12_who_154 : decode cX12_who 154 = .ok (.imul, 1) := by decide +kernel
theorem dX12_who_155 : decode cX12_who 155 = .ok (.iload 5, 2) := by decide +kernel
theorem dX12_who_157 : decode cX12_who 157 = .ok (.iadd, 1) := by decide +kernel
theorem dX12_who_158 : decode cX12_who 158 = .ok (.iload 6, 2) := by decide +kernel
theorem dX12_who_160 : decode cX12_who 160 = .ok (.invokevirtual 256, 3) := by decide +kernel
theorem dX12_who_163 : decode cX12_who 163 = .ok (.ifCond .eq 10, 3) := by decide +kernel
theorem dX12_who_166 : decode cX12_who 166 = .ok (.iconst 1, 1) := by decide +kernel
theorem dX12_who_167 : decode cX12_who 167 = .ok (.iload 10, 2) := by decide +kernel
theorem dX12_who_169 : decode cX12_who 169 = .ok (.ishl, 1) := by decide +kernel
theorem dX12_who_170 : decode cX12_who 170 = .ok (.goto 4, 3) := by decide +kernel
theorem dX12_who_173 : decode cX12_who 173 = .ok (.iconst 0, 1) := by decide +kernel
theorem dX12_who_174 : decode cX12_who 174 = .ok (.ior, 1) := by decide +kernel
theorem dX12_who_175 : decode cX12_who 175 = .ok (.istore 9, 2) := by decide +kernel
theorem dX12_who_177 : decode cX12_who 177 = .ok (.iinc 10 1, 3) := by decide +kernel
theorem dX12_who_180 : decode cX12_who 180 = .ok (.goto (-58), 3) := by decide +kernel
theorem dX12_who_183 : decode cX12_who 183 = .ok (.aload_n 0, 1) := by decide +kernel
theorem dX12_who_184 : decode cX12_who 184 = .ok (.iload 9, 2) := by decide +kernel
theorem dX12_who_186 : decode cX12_who 186 = .ok (.invokevirtual 75, 3) := by decide +kernel
theorem dX12_who_189 : decode cX12_who 189 = .ok (.ireturn, 1) := by decide +kernel
theorem dX12_rotten_0 : decode cX12_rotten 0 = .ok (.aload_n 0, 1) := by decide +kernel
theorem dX12_rotten_1 : decode cX12_rotten 1 = .ok (.iload_n 1, 1) := by decide +kernel
theorem dX12_rotten_2 : decode cX12_rotten 2 = .ok (.invokevirtual 209, 3) := by decide +kernel
theorem dX12_rotten_5 : decode cX12_rotten 5 = .ok (.ifCond .eq 23, 3) := by decide +kernel
theorem dX12_rotten_8 : decode cX12_rotten 8 = .ok (.iload_n 2, 1) := by decide +kernel
theorem dX12_rotten_9 : decode cX12_rotten 9 = .ok (.invokestatic 64, 3) := by decide +kernel
theorem dX12_rotten_12 : decode cX12_rotten 12 = .ok (.ifCond .eq 16, 3) := by decide +kernel
theorem dX12_rotten_15 : decode cX12_rotten 15 = .ok (.iload 4, 2) := by decide +kernel
theorem dX12_rotten_17 : decode cX12_rotten 17 = .ok (.i2l, 1) := by decide +kernel
theorem dX12_rotten_18 : decode cX12_rotten 18 = .ok (.lconst 1, 1) := by decide +kernel
theorem dX12_rotten_19 : decode cX12_rotten 19 = .ok (.ldc2_w 250, 3) := by decide +kernel
theorem dX12_rotten_22 : decode cX12_rotten 22 = .ok (.invokestatic 60, 3) := by decide +kernel
theorem dX12_rotten_25 : decode cX12_rotten 25 = .ok (.ifCond .ne 8, 3) := by decide +kernel
theorem dX12_rotten_28 : decode cX12_rotten 28 = .ok (.ldc 70, 2) := by decide +kernel
theorem dX12_rotten_30 : decode cX12_rotten 30 = .ok (.goto 11, 3) := by decide +kernel
theorem dX12_rotten_33 : decode cX12_rotten 33 = .ok (.aload_n 0, 1) := by decide +kernel
theorem dX12_rotten_34 : decode cX12_rotten 34 = .ok (.iload_n 2, 1) := by decide +kernel
theorem dX12_rotten_35 : decode cX12_rotten 35 = .ok (.iload_n 3, 1) := by decide +kernel
theorem dX12_rotten_36 : decode cX12_rotten 36 = .ok (.iload 4, 2) := by decide +kernel
theorem dX12_rotten_38 : decode cX12_rotten 38 = .ok (.invokevirtual 252, 3) := by decide +kernel
theorem dX12_rotten_41 : decode cX12_rotten 41 = .ok (.istore 5, 2) := by decide +kernel
theorem dX12_rotten_43 : decode cX12_rotten 43 = .ok (.iload 5, 2) := by decide +kernel
theorem dX12_rotten_45 : decode cX12_rotten 45 = .ok (.ifCond .ge 6, 3) := by decide +kernel
theorem dX12_rotten_48 : decode cX12_rotten 48 = .ok (.iload 5, 2) := by decide +kernel
theorem dX12_rotten_50 : decode cX12_rotten 50 = .ok (.ireturn, 1) := by decide +kernel
theorem dX12_rotten_51 : decode cX12_rotten 51 = .ok (.aload_n 0, 1) := by decide +kernel
theorem dX12_rotten_52 : decode cX12_rotten 52 = .ok (.invokevirtual 228, 3) := by decide +kernel
theorem dX12_rotten_55 : decode cX12_rotten 55 = .ok (.aload_n 0, 1) := by decide +kernel
theorem dX12_rotten_56 : decode cX12_rotten 56 = .ok (.iload_n 1, 1) := by decide +kernel
theorem dX12_rotten_57 : decode cX12_rotten 57 = .ok (.bipush 40, 2) := by decide +kernel
theorem dX12_rotten_59 : decode cX12_rotten 59 = .ok (.iload_n 2, 1) := by decide +kernel
theorem dX12_rotten_60 : decode cX12_rotten 60 = .ok (.imul, 1) := by decide +kernel
theorem dX12_rotten_61 : decode cX12_rotten 61 = .ok (.iload_n 3, 1) := by decide +kernel
theorem dX12_rotten_62 : decode cX12_rotten 62 = .ok (.iadd, 1) := by decide +kernel
theorem dX12_rotten_63 : decode cX12_rotten 63 = .ok (.iload 4, 2) := by decide +kernel
theorem dX12_rotten_65 : decode cX12_rotten 65 = .ok (.invokevirtual 256, 3) := by decide +kernel
theorem dX12_rotten_68 : decode cX12_rotten 68 = .ok (.ifCond .eq 9, 3) := by decide +kernel
theorem dX12_rotten_71 : decode cX12_rotten 71 = .ok (.sipush 1024, 3) := by decide +kernel
theorem dX12_rotten_74 : decode cX12_rotten 74 = .ok (.goto 4, 3) := by decide +kernel
theorem dX12_rotten_77 : decode cX12_rotten 77 = .ok (.iconst 0, 1) := by decide +kernel
theorem dX12_rotten_78 : decode cX12_rotten 78 = .ok (.istore 6, 2) := by decide +kernel
theorem dX12_rotten_80 : decode cX12_rotten 80 = .ok (.iconst 0, 1) := by decide +kernel
theorem dX12_rotten_81 : decode cX12_rotten 81 = .ok (.istore 7, 2) := by decide +kernel
theorem dX12_rotten_83 : decode cX12_rotten 83 = .ok (.iload 7, 2) := by decide +kernel
theorem dX12_rotten_85 : decode cX12_rotten 85 = .ok (.aload_n 0, 1) := by decide +kernel
theorem dX12_rotten_86 : decode cX12_rotten 86 = .ok (.getfield 19, 3) := by decide +kernel
theorem dX12_rotten_89 : decode cX12_rotten 89 = .ok (.iconst 0, 1) := by decide +kernel
theorem dX12_rotten_90 : decode cX12_rotten 90 = .ok (.iaload, 1) := by decide +kernel
theorem dX12_rotten_91 : decode cX12_rotten 91 = .ok (.if_icmp .ge 59, 3) := by decide +kernel
theorem dX12_rotten_94 : decode cX12_rotten 94 = .ok (.aload_n 0, 1) := by decide +kernel
theorem dX12_rotten_95 : decode cX12_rotten 95 = .ok (.getfield 19, 3) := by decide +kernel
theorem dX12_rotten_98 : decode cX12_rotten 98 = .ok (.bipush 6, 2) := by decide +kernel
theorem dX12_rotten_100 : decode cX12_rotten 100 = .ok (.iload 7, 2) := by decide +kernel
theorem dX12_rotten_102 : decode cX12_rotten 102 = .ok (.iadd, 1) := by decide +kernel
theorem dX12_rotten_103 : decode cX12_rotten 103 = .ok (.iaload, 1) := by decide +kernel
theorem dX12_rotten_104 : decode cX12_rotten 104 = .ok (.ifCond .le 40, 3) := by decide +kernel
theorem dX12_rotten_107 : decode cX12_rotten 107 = .ok (.aload_n 0, 1) := by decide +kernel
theorem dX12_rotten_108 : decode cX12_rotten 108 = .ok (.iload 7, 2) := by decide +kernel
theorem dX12_rotten_110 : decode cX12_rotten 110 = .ok (.iconst 1, 1) := by decide +kernel
theorem dX12_rotten_111 : decode cX12_rotten 111 = .ok (.iadd, 1) := by decide +kernel
theorem dX12_rotten_112 : decode cX12_rotten 112 = .ok (.invokevirtual 194, 3) := by decide +kernel
theorem dX12_rotten_115 : decode cX12_rotten 115 = .ok (.iload 6, 2) := by decide +kernel
theorem dX12_rotten_117 : decode cX12_rotten 117 = .ok (.aload_n 0, 1) := by decide +kernel
theorem dX12_rotten_118 : decode cX12_rotten 118 = .ok (.iload_n 1, 1) := by decide +kernel
theorem dX12_rotten_119 : decode cX12_rotten 119 = .ok (.bipush 40, 2) := by decide +kernel
theorem dX12_rotten_121 : decode cX12_rotten 121 = .ok (.iload_n 2, 1) := by decide +kernel
theorem dX12_rotten_122 : decode cX12_rotten 122 = .ok (.imul, 1) := by decide +kernel
theorem dX12_rotten_123 : decode cX12_rotten 123 = .ok (.iload_n 3, 1) := by decide +kernel
theorem dX12_rotten_124 : decode cX12_rotten 124 = .ok (.iadd, 1) := by decide +kernel
theorem dX12_rotten_125 : decode cX12_rotten 125 = .ok (.iload 4, 2) := by decide +kernel
theorem dX12_rotten_127 : decode cX12_rotten 127 = .ok (.invokevirtual 256, 3) := by decide +kernel
theorem dX12_rotten_130 : decode cX12_rotten 130 = .ok (.ifCond .eq 10, 3) := by decide +kernel
theorem dX12_rotten_133 : decode cX12_rotten 133 = .ok (.iconst 1, 1) := by decide +kernel
theorem dX12_rotten_134 : decode cX12_rotten 134 = .ok (.iload 7, 2) := by decide +kernel
theorem dX12_rotten_136 : decode cX12_rotten 136 = .ok (.ishl, 1) := by decide +kernel
theorem dX12_rotten_137 : decode cX12_rotten 137 = .ok (.goto 4, 3) := by decide +kernel
theorem dX12_rotten_140 : decode cX12_rotten 140 = .ok (.iconst 0, 1) := by decide +kernel
theorem dX12_rotten_141 : decode cX12_rotten 141 = .ok (.ior, 1) := by decide +kernel
theorem dX12_rotten_142 : decode cX12_rotten 142 = .ok (.istore 6, 2) := by decide +kernel
theorem dX12_rotten_144 : decode cX12_rotten 144 = .ok (.iinc 7 1, 3) := by decide +kernel
theorem dX12_rotten_147 : decode cX12_rotten 147 = .ok (.goto (-64), 3) := by decide +kernel
theorem dX12_rotten_150 : decode cX12_rotten 150 = .ok (.aload_n 0, 1) := by decide +kernel
theorem dX12_rotten_151 : decode cX12_rotten 151 = .ok (.iload 6, 2) := by decide +kernel
theorem dX12_rotten_153 : decode cX12_rotten 153 = .ok (.invokevirtual 75, 3) := by decide +kernel
theorem dX12_rotten_156 : decode cX12_rotten 156 = .ok (.ireturn, 1) := by decide +kernel
theorem dX12_risk_0 : decode cX12_risk 0 = .ok (.aload_n 0, 1) := by decide +kernel
theorem dX12_risk_1 : decode cX12_risk 1 = .ok (.iload_n 1, 1) := by decide +kernel
theorem dX12_risk_2 : decode cX12_risk 2 = .ok (.invokevirtual 209, 3) := by decide +kernel
theorem dX12_risk_5 : decode cX12_risk 5 = .ok (.ifCond .eq 35, 3) := by decide +kernel
theorem dX12_risk_8 : decode cX12_risk 8 = .ok (.iload_n 2, 1) := by decide +kernel
theorem dX12_risk_9 : decode cX12_risk 9 = .ok (.i2l, 1) := by decide +kernel
theorem dX12_risk_10 : decode cX12_risk 10 = .ok (.lconst 0, 1) := by decide +kernel
theorem dX12_risk_11 : decode cX12_risk 11 = .ok (.ldc2_w 212, 3) := by decide +kernel
theorem dX12_risk_14 : decode cX12_risk 14 = .ok (.invokestatic 60, 3) := by decide +kernel
theorem dX12_risk_17 : decode cX12_risk 17 = .ok (.ifCond .eq 23, 3) := by decide +kernel
theorem dX12_risk_20 : decode cX12_risk 20 = .ok (.iload_n 3, 1) := by decide +kernel
theorem dX12_risk_21 : decode cX12_risk 21 = .ok (.i2l, 1) := by decide +kernel
theorem dX12_risk_22 : decode cX12_risk 22 = .ok (.lconst 0, 1) := by decide +kernel
theorem dX12_risk_23 : decode cX12_risk 23 = .ok (.ldc2_w 260, 3) := by decide +kernel
theorem dX12_risk_26 : decode cX12_risk 26 = .ok (.invokestatic 60, 3) := by decide +kernel
theorem dX12_risk_29 : decode cX12_risk 29 = .ok (.ifCond .eq 11, 3) := by decide +kernel
theorem dX12_risk_32 : decode cX12_risk 32 = .ok (.iload 4, 2) := by decide +kernel
theorem dX12_risk_34 : decode cX12_risk 34 = .ok (.invokestatic 231, 3) := by decide +kernel
theorem dX12_risk_37 : decode cX12_risk 37 = .ok (.ifCond .ne 7, 3) := by decide +kernel
theorem dX12_risk_40 : decode cX12_risk 40 = .ok (.ldc2_w 262, 3) := by decide +kernel
theorem dX12_risk_43 : decode cX12_risk 43 = .ok (.lreturn, 1) := by decide +kernel
theorem dX12_risk_44 : decode cX12_risk 44 = .ok (.aload_n 0, 1) := by decide +kernel
theorem dX12_risk_45 : decode cX12_risk 45 = .ok (.invokevirtual 228, 3) := by decide +kernel
theorem dX12_risk_48 : decode cX12_risk 48 = .ok (.iconst 0, 1) := by decide +kernel
theorem dX12_risk_49 : decode cX12_risk 49 = .ok (.istore 5, 2) := by decide +kernel
theorem dX12_risk_51 : decode cX12_risk 51 = .ok (.lconst 1, 1) := by decide +kernel
theorem dX12_risk_52 : decode cX12_risk 52 = .ok (.lstore 6, 2) := by decide +kernel
theorem dX12_risk_54 : decode cX12_risk 54 = .ok (.iconst 0, 1) := by decide +kernel
theorem dX12_risk_55 : decode cX12_risk 55 = .ok (.istore 8, 2) := by decide +kernel
theorem dX12_risk_57 : decode cX12_risk 57 = .ok (.iload 8, 2) := by decide +kernel
theorem dX12_risk_59 : decode cX12_risk 59 = .ok (.aload_n 0, 1) := by decide +kernel
theorem dX12_risk_60 : decode cX12_risk 60 = .ok (.getfield 19, 3) := by decide +kernel
theorem dX12_risk_63 : decode cX12_risk 63 = .ok (.iconst 0, 1) := by decide +kernel
theorem dX12_risk_64 : decode cX12_risk 64 = .ok (.iaload, 1) := by decide +kernel
theorem dX12_risk_65 : decode cX12_risk 65 = .ok (.if_icmp .ge 75, 3) := by decide +kernel
theorem dX12_risk_68 : decode cX12_risk 68 = .ok (.aload_n 0, 1) := by decide +kernel
theorem dX12_risk_69 : decode cX12_risk 69 = .ok (.getfield 19, 3) := by decide +kernel
theorem dX12_risk_72 : decode cX12_risk 72 = .ok (.bipush 6, 2) := by decide +kernel
theorem dX12_risk_74 : decode cX12_risk 74 = .ok (.iload 8, 2) := by decide +kernel
theorem dX12_risk_76 : decode cX12_risk 76 = .ok (.iadd, 1) := by decide +kernel
theorem dX12_risk_77 : decode cX12_risk 77 = .ok (.iaload, 1) := by decide +kernel
theorem dX12_risk_78 : decode cX12_risk 78 = .ok (.ifCond .le 18, 3) := by decide +kernel
theorem dX12_risk_81 : decode cX12_risk 81 = .ok (.aload_n 0, 1) := by decide +kernel
theorem dX12_risk_82 : decode cX12_risk 82 = .ok (.iload 8, 2) := by decide +kernel
theorem dX12_risk_84 : decode cX12_risk 84 = .ok (.iconst 1, 1) := by decide +kernel
theorem dX12_risk_85 : decode cX12_risk 85 = .ok (.iadd, 1) := by decide +kernel
theorem dX12_risk_86 : decode cX12_risk 86 = .ok (.invokevirtual 160, 3) := by decide +kernel
theorem dX12_risk_89 : decode cX12_risk 89 = .ok (.ifCond .ne 7, 3) := by decide +kernel
theorem dX12_risk_92 : decode cX12_risk 92 = .ok (.iconst 1, 1) := by decide +kernel
theorem dX12_risk_93 : decode cX12_risk 93 = .ok (.goto 4, 3) := by decide +kernel
theorem dX12_risk_96 : decode cX12_risk 96 = .ok (.iconst 0, 1) := by decide +kernel
theorem dX12_risk_97 : decode cX12_risk 97 = .ok (.istore 9, 2) := by decide +kernel
theorem dX12_risk_99 : decode cX12_risk 99 = .ok (.iload 5, 2) := by decide +kernel
theorem dX12_risk_101 : decode cX12_risk 101 = .ok (.iload 9, 2) := by decide +kernel
theorem dX12_risk_103 : decode cX12_risk 103 = .ok (.ifCond .eq 10, 3) := by decide +kernel
theorem dX12_risk_106 : decode cX12_risk 106 = .ok (.iconst 1, 1) := by decide +kernel
theorem dX12_risk_107 : decode cX12_risk 107 = .ok (.iload 8, 2) := by decide +kernel
theorem dX12_risk_109 : decode cX12_risk 109 = .ok (.ishl, 1) := by decide +kernel
theorem dX12_risk_110 : decode cX12_risk 110 = .ok (.goto 4, 3) := by decide +kernel
theorem dX12_risk_113 : decode cX12_risk 113 = .ok (.iconst 0, 1) := by decide +kernel
theorem dX12_risk_114 : decode cX12_risk 114 = .ok (.ior, 1) := by decide +kernel
theorem dX12_risk_115 : decode cX12_risk 115 = .ok (.istore 5, 2) := by decide +kernel
theorem dX12_risk_117 : decode cX12_risk 117 = .ok (.lload 6, 2) := by decide +kernel
theorem dX12_risk_119 : decode cX12_risk 119 = .ok (.iload 9, 2) := by decide +kernel
theorem dX12_risk_121 : decode cX12_risk 121 = .ok (.ifCond .eq 9, 3) := by decide +kernel
theorem dX12_risk_124 : decode cX12_risk 124 = .ok (.ldc2_w 260, 3) := by decide +kernel
theorem dX12_risk_127 : decode cX12_risk 127 = .ok (.goto 4, 3) := by decide +kernel
theorem dX12_risk_130 : decode cX12_risk 130 = .ok (.lconst 1, 1) := by decide +kernel
theorem dX12_risk_131 : decode cX12_risk 131 = .ok (.lmul, 1) := by decide +kernel
theorem dX12_risk_132 : decode cX12_risk 132 = .ok (.lstore 6, 2) := by decide +kernel
theorem dX12_risk_134 : decode cX12_risk 134 = .ok (.iinc 8 1, 3) := by decide +kernel
theorem dX12_risk_137 : decode cX12_risk 137 = .ok (.goto (-80), 3) := by decide +kernel
theorem dX12_risk_140 : decode cX12_risk 140 = .ok (.lconst 0, 1) := by decide +kernel
theorem dX12_risk_141 : decode cX12_risk 141 = .ok (.lstore 8, 2) := by decide +kernel
theorem dX12_risk_143 : decode cX12_risk 143 = .ok (.iconst 0, 1) := by decide +kernel
theorem dX12_risk_144 : decode cX12_risk 144 = .ok (.istore 10, 2) := by decide +kernel
theorem dX12_risk_146 : decode cX12_risk 146 = .ok (.iload 10, 2) := by decide +kernel
theorem dX12_risk_148 : decode cX12_risk 148 = .ok (.iload 5, 2) := by decide +kernel
theorem dX12_risk_150 : decode cX12_risk 150 = .ok (.if_icmp .gt 135, 3) := by decide +kernel
theorem dX12_risk_153 : decode cX12_risk 153 = .ok (.iload 10, 2) := by decide +kernel
theorem dX12_risk_155 : decode cX12_risk 155 = .ok (.iload 5, 2) := by decide +kernel
theorem dX12_risk_157 : decode cX12_risk 157 = .ok (.iconst (-1), 1) := by decide +kernel
theorem dX12_risk_158 : decode cX12_risk 158 = .ok (.ixor, 1) := by decide +kernel
theorem dX12_risk_159 : decode cX12_risk 159 = .ok (.iand, 1) := by decide +kernel
theorem dX12_risk_160 : decode cX12_risk 160 = .ok (.ifCond .ne 119, 3) := by decide +kernel
theorem dX12_risk_163 : decode cX12_risk 163 = .ok (.lconst 1, 1) := by decide +kernel
theorem dX12_risk_164 : decode cX12_risk 164 = .ok (.lstore 11, 2) := by decide +kernel
theorem dX12_risk_166 : decode cX12_risk 166 = .ok (.iconst 0, 1) := by decide +kernel
theorem dX12_risk_167 : decode cX12_risk 167 = .ok (.istore 13, 2) := by decide +kernel
theorem dX12_risk_169 : decode cX12_risk 169 = .ok (.iload 13, 2) := by decide +kernel
theorem dX12_risk_171 : decode cX12_risk 171 = .ok (.aload_n 0, 1) := by decide +kernel
theorem dX12_risk_172 : decode cX12_risk 172 = .ok (.getfield 19, 3) := by decide +kernel
theorem dX12_risk_175 : decode cX12_risk 175 = .ok (.iconst 0, 1) := by decide +kernel
theorem dX12_risk_176 : decode cX12_risk 176 = .ok (.iaload, 1) := by decide +kernel
theorem dX12_risk_177 : decode cX12_risk 177 = .ok (.if_icmp .ge 82, 3) := by decide +kernel
theorem dX12_risk_180 : decode cX12_risk 180 = .ok (.lload 11, 2) := by decide +kernel
theorem dX12_risk_182 : decode cX12_risk 182 = .ok (.iload 5, 2) := by decide +kernel
theorem dX12_risk_184 : decode cX12_risk 184 = .ok (.iload 13, 2) := by decide +kernel
theorem dX12_risk_186 : decode cX12_risk 186 = .ok (.invokestatic 174, 3) := by decide +kernel
theorem dX12_risk_189 : decode cX12_risk 189 = .ok (.ifCond .ne 7, 3) := by decide +kernel
theorem dX12_risk_192 : decode cX12_risk 192 = .ok (.lconst 1, 1) := by decide +kernel
theorem dX12_risk_193 : decode cX12_risk 193 = .ok (.goto 23, 3) := by decide +kernel
theorem dX12_risk_196 : decode cX12_risk 196 = .ok (.iload 10, 2) := by decide +kernel
theorem dX12_risk_198 : decode cX12_risk 198 = .ok (.iload 13, 2) := by decide +kernel
theorem dX12_risk_200 : decode cX12_risk 200 = .ok (.invokestatic 174, 3) := by decide +kernel
theorem dX12_risk_203 : decode cX12_risk 203 = .ok (.ifCond .eq 8, 3) := by decide +kernel
theorem dX12_risk_206 : decode cX12_risk 206 = .ok (.iload_n 3, 1) := by decide +kernel
theorem dX12_risk_207 : decode cX12_risk 207 = .ok (.i2l, 1) := by decide +kernel
theorem dX12_risk_208 : decode cX12_risk 208 = .ok (.goto 8, 3) := by decide +kernel
theorem dX12_risk_211 : decode cX12_risk 211 = .ok (.bipush 10, 2) := by decide +kernel
theorem dX12_risk_213 : decode cX12_risk 213 = .ok (.iload_n 3, 1) := by decide +kernel
theorem dX12_risk_214 : decode cX12_risk 214 = .ok (.isub, 1) := by decide +kernel
theorem dX12_risk_215 : decode cX12_risk 215 = .ok (.i2l, 1) := by decide +kernel
theorem dX12_risk_216 : decode cX12_risk 216 = .ok (.lmul, 1) := by decide +kernel
theorem dX12_risk_217 : decode cX12_risk 217 = .ok (.lstore 11, 2) := by decide +kernel
theorem dX12_risk_219 : decode cX12_risk 219 = .ok (.aload_n 0, 1) := by decide +kernel
theorem dX12_risk_220 : decode cX12_risk 220 = .ok (.getfield 19, 3) := by decide +kernel
theorem dX12_risk_223 : decode cX12_risk 223 = .ok (.bipush 6, 2) := by decide +kernel
theorem dX12_risk_225 : decode cX12_risk 225 = .ok (.iload 13, 2) := by decide +kernel
theorem dX12_risk_227 : decode cX12_risk 227 = .ok (.iadd, 1) := by decide +kernel
theorem dX12_risk_228 : decode cX12_risk 228 = .ok (.iload 10, 2) := by decide +kernel
theorem dX12_risk_230 : decode cX12_risk 230 = .ok (.iload 13, 2) := by decide +kernel
theorem dX12_risk_232 : decode cX12_risk 232 = .ok (.invokestatic 174, 3) := by decide +kernel
theorem dX12_risk_235 : decode cX12_risk 235 = .ok (.ifCond .eq 7, 3) := by decide +kernel
theorem dX12_risk_238 : decode cX12_risk 238 = .ok (.iconst 0, 1) := by decide +kernel
theorem dX12_risk_239 : decode cX12_risk 239 = .ok (.goto 13, 3) := by decide +kernel
theorem dX12_risk_242 : decode cX12_risk 242 = .ok (.aload_n 0, 1) := by decide +kernel
theorem dX12_risk_243 : decode cX12_risk 243 = .ok (.getfield 19, 3) := by decide +kernel
theorem dX12_risk_246 : decode cX12_risk 246 = .ok (.bipush 6, 2) := by decide +kernel
theorem dX12_risk_248 : decode cX12_risk 248 = .ok (.iload 13, 2) := by decide +kernel
theorem dX12_risk_250 : decode cX12_risk 250 = .ok (.iadd, 1) := by decide +kernel
theorem dX12_risk_251 : decode cX12_risk 251 = .ok (.iaload, 1) := by decide +kernel
theorem dX12_risk_252 : decode cX12_risk 252 = .ok (.iastore, 1) := by decide +kernel
theorem dX12_risk_253 : decode cX12_risk 253 = .ok (.iinc 13 1, 3) := by decide +kernel
theorem dX12_risk_256 : decode cX12_risk 256 = .ok (.goto (-87), 3) := by decide +kernel
theorem dX12_risk_259 : decode cX12_risk 259 = .ok (.lload 8, 2) := by decide +kernel
theorem dX12_risk_261 : decode cX12_risk 261 = .ok (.aload_n 0, 1) := by decide +kernel
theorem dX12_risk_262 : decode cX12_risk 262 = .ok (.iload_n 1, 1) := by decide +kernel
theorem dX12_risk_263 : decode cX12_risk 263 = .ok (.iload_n 2, 1) := by decide +kernel
theorem dX12_risk_264 : decode cX12_risk 264 = .ok (.invokevirtual 240, 3) := by decide +kernel
theorem dX12_risk_267 : decode cX12_risk 267 = .ok (.ifCond .eq 8, 3) := by decide +kernel
theorem dX12_risk_270 : decode cX12_risk 270 = .ok (.lload 11, 2) := by decide +kernel
theorem dX12_risk_272 : decode cX12_risk 272 = .ok (.goto 4, 3) := by decide +kernel
theorem dX12_risk_275 : decode cX12_risk 275 = .ok (.lconst 0, 1) := by decide +kernel
theorem dX12_risk_276 : decode cX12_risk 276 = .ok (.ladd, 1) := by decide +kernel
theorem dX12_risk_277 : decode cX12_risk 277 = .ok (.lstore 8, 2) := by decide +kernel
theorem dX12_risk_279 : decode cX12_risk 279 = .ok (.iinc 10 1, 3) := by decide +kernel
theorem dX12_risk_282 : decode cX12_risk 282 = .ok (.goto (-136), 3) := by decide +kernel
theorem dX12_risk_285 : decode cX12_risk 285 = .ok (.lload 8, 2) := by decide +kernel
theorem dX12_risk_287 : decode cX12_risk 287 = .ok (.lstore 10, 2) := by decide +kernel
theorem dX12_risk_289 : decode cX12_risk 289 = .ok (.lload 6, 2) := by decide +kernel
theorem dX12_risk_291 : decode cX12_risk 291 = .ok (.lstore 12, 2) := by decide +kernel
theorem dX12_risk_293 : decode cX12_risk 293 = .ok (.lload 12, 2) := by decide +kernel
theorem dX12_risk_295 : decode cX12_risk 295 = .ok (.lconst 0, 1) := by decide +kernel
theorem dX12_risk_296 : decode cX12_risk 296 = .ok (.lcmp, 1) := by decide +kernel
theorem dX12_risk_297 : decode cX12_risk 297 = .ok (.ifCond .eq 21, 3) := by decide +kernel
theorem dX12_risk_300 : decode cX12_risk 300 = .ok (.lload 10, 2) := by decide +kernel
theorem dX12_risk_302 : decode cX12_risk 302 = .ok (.lload 12, 2) := by decide +kernel
theorem dX12_risk_304 : decode cX12_risk 304 = .ok (.lrem, 1) := by decide +kernel
theorem dX12_risk_305 : decode cX12_risk 305 = .ok (.lstore 14, 2) := by decide +kernel
theorem dX12_risk_307 : decode cX12_risk 307 = .ok (.lload 12, 2) := by decide +kernel
theorem dX12_risk_309 : decode cX12_risk 309 = .ok (.lstore 10, 2) := by decide +kernel
theorem dX12_risk_311 : decode cX12_risk 311 = .ok (.lload 14, 2) := by decide +kernel
theorem dX12_risk_313 : decode cX12_risk 313 = .ok (.lstore 12, 2) := by decide +kernel
theorem dX12_risk_315 : decode cX12_risk 315 = .ok (.goto (-22), 3) := by decide +kernel
theorem dX12_risk_318 : decode cX12_risk 318 = .ok (.iload 4, 2) := by decide +kernel
theorem dX12_risk_320 : decode cX12_risk 320 = .ok (.ifCond .ne 11, 3) := by decide +kernel
theorem dX12_risk_323 : decode cX12_risk 323 = .ok (.lload 8, 2) := by decide +kernel
theorem dX12_risk_325 : decode cX12_risk 325 = .ok (.lload 10, 2) := by decide +kernel
theorem dX12_risk_327 : decode cX12_risk 327 = .ok (.ldiv, 1) := by decide +kernel
theorem dX12_risk_328 : decode cX12_risk 328 = .ok (.goto 8, 3) := by decide +kernel
theorem dX12_risk_331 : decode cX12_risk 331 = .ok (.lload 6, 2) := by decide +kernel
theorem dX12_risk_333 : decode cX12_risk 333 = .ok (.lload 10, 2) := by decide +kernel
theorem dX12_risk_335 : decode cX12_risk 335 = .ok (.ldiv, 1) := by decide +kernel
theorem dX12_risk_336 : decode cX12_risk 336 = .ok (.lreturn, 1) := by decide +kernel
theorem dX12_drawn_0 : decode cX12_drawn 0 = .ok (.aload_n 0, 1) := by decide +kernel
theorem dX12_drawn_1 : decode cX12_drawn 1 = .ok (.getfield 147, 3) := by decide +kernel
theorem dX12_drawn_4 : decode cX12_drawn 4 = .ok (.ifCond .ne 6, 3) := by decide +kernel
theorem dX12_drawn_7 : decode cX12_drawn 7 = .ok (.ldc 197, 2) := by decide +kernel
theorem dX12_drawn_9 : decode cX12_drawn 9 = .ok (.ireturn, 1) := by decide +kernel
theorem dX12_drawn_10 : decode cX12_drawn 10 = .ok (.iload_n 1, 1) := by decide +kernel
theorem dX12_drawn_11 : decode cX12_drawn 11 = .ok (.i2l, 1) := by decide +kernel
theorem dX12_drawn_12 : decode cX12_drawn 12 = .ok (.lconst 0, 1) := by decide +kernel
theorem dX12_drawn_13 : decode cX12_drawn 13 = .ok (.ldc2_w 226, 3) := by decide +kernel
theorem dX12_drawn_16 : decode cX12_drawn 16 = .ok (.invokestatic 60, 3) := by decide +kernel
theorem dX12_drawn_19 : decode cX12_drawn 19 = .ok (.ifCond .eq 22, 3) := by decide +kernel
theorem dX12_drawn_22 : decode cX12_drawn 22 = .ok (.iload_n 2, 1) := by decide +kernel
theorem dX12_drawn_23 : decode cX12_drawn 23 = .ok (.i2l, 1) := by decide +kernel
theorem dX12_drawn_24 : decode cX12_drawn 24 = .ok (.lconst 1, 1) := by decide +kernel
theorem dX12_drawn_25 : decode cX12_drawn 25 = .ok (.ldc2_w 264, 3) := by decide +kernel
theorem dX12_drawn_28 : decode cX12_drawn 28 = .ok (.invokestatic 60, 3) := by decide +kernel
theorem dX12_drawn_31 : decode cX12_drawn 31 = .ok (.ifCond .eq 10, 3) := by decide +kernel
theorem dX12_drawn_34 : decode cX12_drawn 34 = .ok (.iload_n 3, 1) := by decide +kernel
theorem dX12_drawn_35 : decode cX12_drawn 35 = .ok (.invokestatic 231, 3) := by decide +kernel
theorem dX12_drawn_38 : decode cX12_drawn 38 = .ok (.ifCond .ne 6, 3) := by decide +kernel
theorem dX12_drawn_41 : decode cX12_drawn 41 = .ok (.ldc 70, 2) := by decide +kernel
theorem dX12_drawn_43 : decode cX12_drawn 43 = .ok (.ireturn, 1) := by decide +kernel
theorem dX12_drawn_44 : decode cX12_drawn 44 = .ok (.aload_n 0, 1) := by decide +kernel
theorem dX12_drawn_45 : decode cX12_drawn 45 = .ok (.invokevirtual 228, 3) := by decide +kernel
theorem dX12_drawn_48 : decode cX12_drawn 48 = .ok (.aload_n 0, 1) := by decide +kernel
theorem dX12_drawn_49 : decode cX12_drawn 49 = .ok (.invokevirtual 234, 3) := by decide +kernel
theorem dX12_drawn_52 : decode cX12_drawn 52 = .ok (.istore 4, 2) := by decide +kernel
theorem dX12_drawn_54 : decode cX12_drawn 54 = .ok (.iload_n 2, 1) := by decide +kernel
theorem dX12_drawn_55 : decode cX12_drawn 55 = .ok (.i2l, 1) := by decide +kernel
theorem dX12_drawn_56 : decode cX12_drawn 56 = .ok (.lstore 5, 2) := by decide +kernel
theorem dX12_drawn_58 : decode cX12_drawn 58 = .ok (.iconst 0, 1) := by decide +kernel
theorem dX12_drawn_59 : decode cX12_drawn 59 = .ok (.istore 7, 2) := by decide +kernel
theorem dX12_drawn_61 : decode cX12_drawn 61 = .ok (.iload 7, 2) := by decide +kernel
theorem dX12_drawn_63 : decode cX12_drawn 63 = .ok (.iload_n 1, 1) := by decide +kernel
theorem dX12_drawn_64 : decode cX12_drawn 64 = .ok (.if_icmp .ge 96, 3) := by decide +kernel
theorem dX12_drawn_67 : decode cX12_drawn 67 = .ok (.lload 5, 2) := by decide +kernel
theorem dX12_drawn_69 : decode cX12_drawn 69 = .ok (.ldc2_w 266, 3) := by decide +kernel
theorem dX12_drawn_72 : decode cX12_drawn 72 = .ok (.lmul, 1) := by decide +kernel
theorem dX12_drawn_73 : decode cX12_drawn 73 = .ok (.ldc2_w 268, 3) := by decide +kernel
theorem dX12_drawn_76 : decode cX12_drawn 76 = .ok (.lrem, 1) := by decide +kernel
theorem dX12_drawn_77 : decode cX12_drawn 77 = .ok (.lstore 5, 2) := by decide +kernel
theorem dX12_drawn_79 : decode cX12_drawn 79 = .ok (.lload 5, 2) := by decide +kernel
theorem dX12_drawn_81 : decode cX12_drawn 81 = .ok (.aload_n 0, 1) := by decide +kernel
theorem dX12_drawn_82 : decode cX12_drawn 82 = .ok (.getfield 19, 3) := by decide +kernel
theorem dX12_drawn_85 : decode cX12_drawn 85 = .ok (.iconst 0, 1) := by decide +kernel
theorem dX12_drawn_86 : decode cX12_drawn 86 = .ok (.iaload, 1) := by decide +kernel
theorem dX12_drawn_87 : decode cX12_drawn 87 = .ok (.i2l, 1) := by decide +kernel
theorem dX12_drawn_88 : decode cX12_drawn 88 = .ok (.lrem, 1) := by decide +kernel
theorem dX12_drawn_89 : decode cX12_drawn 89 = .ok (.l2i, 1) := by decide +kernel
theorem dX12_drawn_90 : decode cX12_drawn 90 = .ok (.istore 8, 2) := by decide +kernel
theorem dX12_drawn_92 : decode cX12_drawn 92 = .ok (.lload 5, 2) := by decide +kernel
theorem dX12_drawn_94 : decode cX12_drawn 94 = .ok (.ldc2_w 270, 3) := by decide +kernel
theorem dX12_drawn_97 : decode cX12_drawn 97 = .ok (.lrem, 1) := by decide +kernel
theorem dX12_drawn_98 : decode cX12_drawn 98 = .ok (.lconst 0, 1) := by decide +kernel
theorem dX12_drawn_99 : decode cX12_drawn 99 = .ok (.lcmp, 1) := by decide +kernel
theorem dX12_drawn_100 : decode cX12_drawn 100 = .ok (.ifCond .ne 18, 3) := by decide +kernel
theorem dX12_drawn_103 : decode cX12_drawn 103 = .ok (.aload_n 0, 1) := by decide +kernel
theorem dX12_drawn_104 : decode cX12_drawn 104 = .ok (.getfield 19, 3) := by decide +kernel
theorem dX12_drawn_107 : decode cX12_drawn 107 = .ok (.bipush 6, 2) := by decide +kernel
theorem dX12_drawn_109 : decode cX12_drawn 109 = .ok (.iload 8, 2) := by decide +kernel
theorem dX12_drawn_111 : decode cX12_drawn 111 = .ok (.iadd, 1) := by decide +kernel
theorem dX12_drawn_112 : decode cX12_drawn 112 = .ok (.bipush 99, 2) := by decide +kernel
theorem dX12_drawn_114 : decode cX12_drawn 114 = .ok (.iastore, 1) := by decide +kernel
theorem dX12_drawn_115 : decode cX12_drawn 115 = .ok (.goto 35, 3) := by decide +kernel
theorem dX12_drawn_118 : decode cX12_drawn 118 = .ok (.lload 5, 2) := by decide +kernel
theorem dX12_drawn_120 : decode cX12_drawn 120 = .ok (.ldc2_w 58, 3) := by decide +kernel
theorem dX12_drawn_123 : decode cX12_drawn 123 = .ok (.lrem, 1) := by decide +kernel
theorem dX12_drawn_124 : decode cX12_drawn 124 = .ok (.lconst 0, 1) := by decide +kernel
theorem dX12_drawn_125 : decode cX12_drawn 125 = .ok (.lcmp, 1) := by decide +kernel
theorem dX12_drawn_126 : decode cX12_drawn 126 = .ok (.ifCond .ne 24, 3) := by decide +kernel
theorem dX12_drawn_129 : decode cX12_drawn 129 = .ok (.aload_n 0, 1) := by decide +kernel
theorem dX12_drawn_130 : decode cX12_drawn 130 = .ok (.getfield 19, 3) := by decide +kernel
theorem dX12_drawn_133 : decode cX12_drawn 133 = .ok (.bipush 6, 2) := by decide +kernel
theorem dX12_drawn_135 : decode cX12_drawn 135 = .ok (.iload 8, 2) := by decide +kernel
theorem dX12_drawn_137 : decode cX12_drawn 137 = .ok (.iadd, 1) := by decide +kernel
theorem dX12_drawn_138 : decode cX12_drawn 138 = .ok (.iaload, 1) := by decide +kernel
theorem dX12_drawn_139 : decode cX12_drawn 139 = .ok (.ifCond .le 11, 3) := by decide +kernel
theorem dX12_drawn_142 : decode cX12_drawn 142 = .ok (.aload_n 0, 1) := by decide +kernel
theorem dX12_drawn_143 : decode cX12_drawn 143 = .ok (.iload 8, 2) := by decide +kernel
theorem dX12_drawn_145 : decode cX12_drawn 145 = .ok (.iconst 1, 1) := by decide +kernel
theorem dX12_drawn_146 : decode cX12_drawn 146 = .ok (.iadd, 1) := by decide +kernel
theorem dX12_drawn_147 : decode cX12_drawn 147 = .ok (.invokevirtual 194, 3) := by decide +kernel
theorem dX12_drawn_150 : decode cX12_drawn 150 = .ok (.aload_n 0, 1) := by decide +kernel
theorem dX12_drawn_151 : decode cX12_drawn 151 = .ok (.invokevirtual 203, 3) := by decide +kernel
theorem dX12_drawn_154 : decode cX12_drawn 154 = .ok (.iinc 7 1, 3) := by decide +kernel
theorem dX12_drawn_157 : decode cX12_drawn 157 = .ok (.goto (-96), 3) := by decide +kernel
theorem dX12_drawn_160 : decode cX12_drawn 160 = .ok (.iload_n 3, 1) := by decide +kernel
theorem dX12_drawn_161 : decode cX12_drawn 161 = .ok (.ifCond .ne 13, 3) := by decide +kernel
theorem dX12_drawn_164 : decode cX12_drawn 164 = .ok (.aload_n 0, 1) := by decide +kernel
theorem dX12_drawn_165 : decode cX12_drawn 165 = .ok (.invokevirtual 206, 3) := by decide +kernel
theorem dX12_drawn_168 : decode cX12_drawn 168 = .ok (.invokestatic 237, 3) := by decide +kernel
theorem dX12_drawn_171 : decode cX12_drawn 171 = .ok (.goto 10, 3) := by decide +kernel
theorem dX12_drawn_174 : decode cX12_drawn 174 = .ok (.aload_n 0, 1) := by decide +kernel
theorem dX12_drawn_175 : decode cX12_drawn 175 = .ok (.invokevirtual 234, 3) := by decide +kernel
theorem dX12_drawn_178 : decode cX12_drawn 178 = .ok (.iload 4, 2) := by decide +kernel
theorem dX12_drawn_180 : decode cX12_drawn 180 = .ok (.isub, 1) := by decide +kernel
theorem dX12_drawn_181 : decode cX12_drawn 181 = .ok (.istore 7, 2) := by decide +kernel
theorem dX12_drawn_183 : decode cX12_drawn 183 = .ok (.aload_n 0, 1) := by decide +kernel
theorem dX12_drawn_184 : decode cX12_drawn 184 = .ok (.invokevirtual 223, 3) := by decide +kernel
theorem dX12_drawn_187 : decode cX12_drawn 187 = .ok (.iload 7, 2) := by decide +kernel
theorem dX12_drawn_189 : decode cX12_drawn 189 = .ok (.ireturn, 1) := by decide +kernel
theorem dX12_image_0 : decode cX12_image 0 = .ok (.iload_n 1, 1) := by decide +kernel
theorem dX12_image_1 : decode cX12_image 1 = .ok (.i2l, 1) := by decide +kernel
theorem dX12_image_2 : decode cX12_image 2 = .ok (.lconst 0, 1) := by decide +kernel
theorem dX12_image_3 : decode cX12_image 3 = .ok (.lconst 1, 1) := by decide +kernel
theorem dX12_image_4 : decode cX12_image 4 = .ok (.invokestatic 60, 3) := by decide +kernel
theorem dX12_image_7 : decode cX12_image 7 = .ok (.ifCond .ne 6, 3) := by decide +kernel
theorem dX12_image_10 : decode cX12_image 10 = .ok (.ldc 70, 2) := by decide +kernel
theorem dX12_image_12 : decode cX12_image 12 = .ok (.ireturn, 1) := by decide +kernel
theorem dX12_image_13 : decode cX12_image 13 = .ok (.aload_n 0, 1) := by decide +kernel
theorem dX12_image_14 : decode cX12_image 14 = .ok (.getfield 147, 3) := by decide +kernel
theorem dX12_image_17 : decode cX12_image 17 = .ok (.ifCond .ne 6, 3) := by decide +kernel
theorem dX12_image_20 : decode cX12_image 20 = .ok (.ldc 197, 2) := by decide +kernel
theorem dX12_image_22 : decode cX12_image 22 = .ok (.ireturn, 1) := by decide +kernel
theorem dX12_image_23 : decode cX12_image 23 = .ok (.iconst 0, 1) := by decide +kernel
theorem dX12_image_24 : decode cX12_image 24 = .ok (.istore_n 2, 1) := by decide +kernel
theorem dX12_image_25 : decode cX12_image 25 = .ok (.iload_n 2, 1) := by decide +kernel
theorem dX12_image_26 : decode cX12_image 26 = .ok (.bipush 45, 2) := by decide +kernel
theorem dX12_image_28 : decode cX12_image 28 = .ok (.if_icmp .ge 26, 3) := by decide +kernel
theorem dX12_image_31 : decode cX12_image 31 = .ok (.aload_n 0, 1) := by decide +kernel
theorem dX12_image_32 : decode cX12_image 32 = .ok (.getfield 47, 3) := by decide +kernel
theorem dX12_image_35 : decode cX12_image 35 = .ok (.bipush 45, 2) := by decide +kernel
theorem dX12_image_37 : decode cX12_image 37 = .ok (.iload_n 1, 1) := by decide +kernel
theorem dX12_image_38 : decode cX12_image 38 = .ok (.imul, 1) := by decide +kernel
theorem dX12_image_39 : decode cX12_image 39 = .ok (.iload_n 2, 1) := by decide +kernel
theorem dX12_image_40 : decode cX12_image 40 = .ok (.iadd, 1) := by decide +kernel
theorem dX12_image_41 : decode cX12_image 41 = .ok (.aload_n 0, 1) := by decide +kernel
theorem dX12_image_42 : decode cX12_image 42 = .ok (.getfield 19, 3) := by decide +kernel
theorem dX12_image_45 : decode cX12_image 45 = .ok (.iload_n 2, 1) := by decide +kernel
theorem dX12_image_46 : decode cX12_image 46 = .ok (.iaload, 1) := by decide +kernel
theorem dX12_image_47 : decode cX12_image 47 = .ok (.iastore, 1) := by decide +kernel
theorem dX12_image_48 : decode cX12_image 48 = .ok (.iinc 2 1, 3) := by decide +kernel
theorem dX12_image_51 : decode cX12_image 51 = .ok (.goto (-26), 3) := by decide +kernel
theorem dX12_image_54 : decode cX12_image 54 = .ok (.aload_n 0, 1) := by decide +kernel
theorem dX12_image_55 : decode cX12_image 55 = .ok (.getfield 43, 3) := by decide +kernel
theorem dX12_image_58 : decode cX12_image 58 = .ok (.iload_n 1, 1) := by decide +kernel
theorem dX12_image_59 : decode cX12_image 59 = .ok (.iconst 1, 1) := by decide +kernel
theorem dX12_image_60 : decode cX12_image 60 = .ok (.bastore, 1) := by decide +kernel
theorem dX12_image_61 : decode cX12_image 61 = .ok (.iconst 1, 1) := by decide +kernel
theorem dX12_image_62 : decode cX12_image 62 = .ok (.ireturn, 1) := by decide +kernel
theorem dX12_restore_0 : decode cX12_restore 0 = .ok (.iload_n 1, 1) := by decide +kernel
theorem dX12_restore_1 : decode cX12_restore 1 = .ok (.i2l, 1) := by decide +kernel
theorem dX12_restore_2 : decode cX12_restore 2 = .ok (.lconst 0, 1) := by decide +kernel
theorem dX12_restore_3 : decode cX12_restore 3 = .ok (.lconst 1, 1) := by decide +kernel
theorem dX12_restore_4 : decode cX12_restore 4 = .ok (.invokestatic 60, 3) := by decide +kernel
theorem dX12_restore_7 : decode cX12_restore 7 = .ok (.ifCond .ne 6, 3) := by decide +kernel
theorem dX12_restore_10 : decode cX12_restore 10 = .ok (.ldc 70, 2) := by decide +kernel
theorem dX12_restore_12 : decode cX12_restore 12 = .ok (.ireturn, 1) := by decide +kernel
theorem dX12_restore_13 : decode cX12_restore 13 = .ok (.aload_n 0, 1) := by decide +kernel
theorem dX12_restore_14 : decode cX12_restore 14 = .ok (.getfield 43, 3) := by decide +kernel
theorem dX12_restore_17 : decode cX12_restore 17 = .ok (.iload_n 1, 1) := by decide +kernel
theorem dX12_restore_18 : decode cX12_restore 18 = .ok (.baload, 1) := by decide +kernel
theorem dX12_restore_19 : decode cX12_restore 19 = .ok (.ifCond .ne 6, 3) := by decide +kernel
theorem dX12_restore_22 : decode cX12_restore 22 = .ok (.ldc 197, 2) := by decide +kernel
theorem dX12_restore_24 : decode cX12_restore 24 = .ok (.ireturn, 1) := by decide +kernel
theorem dX12_restore_25 : decode cX12_restore 25 = .ok (.iconst 0, 1) := by decide +kernel
theorem dX12_restore_26 : decode cX12_restore 26 = .ok (.istore_n 2, 1) := by decide +kernel
theorem dX12_restore_27 : decode cX12_restore 27 = .ok (.iload_n 2, 1) := by decide +kernel
theorem dX12_restore_28 : decode cX12_restore 28 = .ok (.bipush 45, 2) := by decide +kernel
theorem dX12_restore_30 : decode cX12_restore 30 = .ok (.if_icmp .ge 26, 3) := by decide +kernel
theorem dX12_restore_33 : decode cX12_restore 33 = .ok (.aload_n 0, 1) := by decide +kernel
theorem dX12_restore_34 : decode cX12_restore 34 = .ok (.getfield 19, 3) := by decide +kernel
theorem dX12_restore_37 : decode cX12_restore 37 = .ok (.iload_n 2, 1) := by decide +kernel
theorem dX12_restore_38 : decode cX12_restore 38 = .ok (.aload_n 0, 1) := by decide +kernel
theorem dX12_restore_39 : decode cX12_restore 39 = .ok (.getfield 47, 3) := by decide +kernel
theorem dX12_restore_42 : decode cX12_restore 42 = .ok (.bipush 45, 2) := by decide +kernel
theorem dX12_restore_44 : decode cX12_restore 44 = .ok (.iload_n 1, 1) := by decide +kernel
theorem dX12_restore_45 : decode cX12_restore 45 = .ok (.imul, 1) := by decide +kernel
theorem dX12_restore_46 : decode cX12_restore 46 = .ok (.iload_n 2, 1) := by decide +kernel
theorem dX12_restore_47 : decode cX12_restore 47 = .ok (.iadd, 1) := by decide +kernel
theorem dX12_restore_48 : decode cX12_restore 48 = .ok (.iaload, 1) := by decide +kernel
theorem dX12_restore_49 : decode cX12_restore 49 = .ok (.iastore, 1) := by decide +kernel
theorem dX12_restore_50 : decode cX12_restore 50 = .ok (.iinc 2 1, 3) := by decide +kernel
theorem dX12_restore_53 : decode cX12_restore 53 = .ok (.goto (-26), 3) := by decide +kernel
theorem dX12_restore_56 : decode cX12_restore 56 = .ok (.aload_n 0, 1) := by decide +kernel
theorem dX12_restore_57 : decode cX12_restore 57 = .ok (.iconst 0, 1) := by decide +kernel
theorem dX12_restore_58 : decode cX12_restore 58 = .ok (.putfield 151, 3) := by decide +kernel
theorem dX12_restore_61 : decode cX12_restore 61 = .ok (.iconst 1, 1) := by decide +kernel
theorem dX12_restore_62 : decode cX12_restore 62 = .ok (.ireturn, 1) := by decide +kernel
theorem dX12_kind_0 : decode cX12_kind 0 = .ok (.aload_n 0, 1) := by decide +kernel
theorem dX12_kind_1 : decode cX12_kind 1 = .ok (.iload_n 1, 1) := by decide +kernel
theorem dX12_kind_2 : decode cX12_kind 2 = .ok (.invokevirtual 209, 3) := by decide +kernel
theorem dX12_kind_5 : decode cX12_kind 5 = .ok (.ifCond .eq 15, 3) := by decide +kernel
theorem dX12_kind_8 : decode cX12_kind 8 = .ok (.aload_n 0, 1) := by decide +kernel
theorem dX12_kind_9 : decode cX12_kind 9 = .ok (.getfield 19, 3) := by decide +kernel
theorem dX12_kind_12 : decode cX12_kind 12 = .ok (.bipush 15, 2) := by decide +kernel
theorem dX12_kind_14 : decode cX12_kind 14 = .ok (.iload_n 1, 1) := by decide +kernel
theorem dX12_kind_15 : decode cX12_kind 15 = .ok (.iadd, 1) := by decide +kernel
theorem dX12_kind_16 : decode cX12_kind 16 = .ok (.iaload, 1) := by decide +kernel
theorem dX12_kind_17 : decode cX12_kind 17 = .ok (.goto 5, 3) := by decide +kernel
theorem dX12_kind_20 : decode cX12_kind 20 = .ok (.ldc 70, 2) := by decide +kernel
theorem dX12_kind_22 : decode cX12_kind 22 = .ok (.ireturn, 1) := by decide +kernel
theorem dX12_isKind_0 : decode cX12_isKind 0 = .ok (.iload_n 1, 1) := by decide +kernel
theorem dX12_isKind_1 : decode cX12_isKind 1 = .ok (.ifCond .eq 28, 3) := by decide +kernel
theorem dX12_isKind_4 : decode cX12_isKind 4 = .ok (.iload_n 0, 1) := by decide +kernel
theorem dX12_isKind_5 : decode cX12_isKind 5 = .ok (.iload_n 1, 1) := by decide +kernel
theorem dX12_isKind_6 : decode cX12_isKind 6 = .ok (.if_icmp .eq 23, 3) := by decide +kernel
theorem dX12_isKind_9 : decode cX12_isKind 9 = .ok (.iload_n 1, 1) := by decide +kernel
theorem dX12_isKind_10 : decode cX12_isKind 10 = .ok (.iconst 1, 1) := by decide +kernel
theorem dX12_isKind_11 : decode cX12_isKind 11 = .ok (.if_icmp .ne 8, 3) := by decide +kernel
theorem dX12_isKind_14 : decode cX12_isKind 14 = .ok (.iload_n 0, 1) := by decide +kernel
theorem dX12_isKind_15 : decode cX12_isKind 15 = .ok (.iconst 4, 1) := by decide +kernel
theorem dX12_isKind_16 : decode cX12_isKind 16 = .ok (.if_icmp .lt 13, 3) := by decide +kernel
theorem dX12_isKind_19 : decode cX12_isKind 19 = .ok (.iload_n 1, 1) := by decide +kernel
theorem dX12_isKind_20 : decode cX12_isKind 20 = .ok (.iconst 4, 1) := by decide +kernel
theorem dX12_isKind_21 : decode cX12_isKind 21 = .ok (.if_icmp .ne 12, 3) := by decide +kernel
theorem dX12_isKind_24 : decode cX12_isKind 24 = .ok (.iload_n 0, 1) := by decide +kernel
theorem dX12_isKind_25 : decode cX12_isKind 25 = .ok (.iconst 5, 1) := by decide +kernel
theorem dX12_isKind_26 : decode cX12_isKind 26 = .ok (.if_icmp .ne 7, 3) := by decide +kernel
theorem dX12_isKind_29 : decode cX12_isKind 29 = .ok (.iconst 1, 1) := by decide +kernel
theorem dX12_isKind_30 : decode cX12_isKind 30 = .ok (.goto 4, 3) := by decide +kernel
theorem dX12_isKind_33 : decode cX12_isKind 33 = .ok (.iconst 0, 1) := by decide +kernel
theorem dX12_isKind_34 : decode cX12_isKind 34 = .ok (.ireturn, 1) := by decide +kernel
theorem dX12_as_0 : decode cX12_as 0 = .ok (.aload_n 0, 1) := by decide +kernel
theorem dX12_as_1 : decode cX12_as 1 = .ok (.iload_n 1, 1) := by decide +kernel
theorem dX12_as_2 : decode cX12_as 2 = .ok (.invokevirtual 209, 3) := by decide +kernel
theorem dX12_as_5 : decode cX12_as 5 = .ok (.ifCond .eq 15, 3) := by decide +kernel
theorem dX12_as_8 : decode cX12_as 8 = .ok (.iload_n 2, 1) := by decide +kernel
theorem dX12_as_9 : decode cX12_as 9 = .ok (.i2l, 1) := by decide +kernel
theorem dX12_as_10 : decode cX12_as 10 = .ok (.lconst 0, 1) := by decide +kernel
theorem dX12_as_11 : decode cX12_as 11 = .ok (.ldc2_w 272, 3) := by decide +kernel
theorem dX12_as_14 : decode cX12_as 14 = .ok (.invokestatic 60, 3) := by decide +kernel
theorem dX12_as_17 : decode cX12_as 17 = .ok (.ifCond .ne 6, 3) := by decide +kernel
theorem dX12_as_20 : decode cX12_as 20 = .ok (.ldc 70, 2) := by decide +kernel
theorem dX12_as_22 : decode cX12_as 22 = .ok (.ireturn, 1) := by decide +kernel
theorem dX12_as_23 : decode cX12_as 23 = .ok (.aload_n 0, 1) := by decide +kernel
theorem dX12_as_24 : decode cX12_as 24 = .ok (.getfield 19, 3) := by decide +kernel
theorem dX12_as_27 : decode cX12_as 27 = .ok (.bipush 15, 2) := by decide +kernel
theorem dX12_as_29 : decode cX12_as 29 = .ok (.iload_n 1, 1) := by decide +kernel
theorem dX12_as_30 : decode cX12_as 30 = .ok (.iadd, 1) := by decide +kernel
theorem dX12_as_31 : decode cX12_as 31 = .ok (.iaload, 1) := by decide +kernel
theorem dX12_as_32 : decode cX12_as 32 = .ok (.iload_n 2, 1) := by decide +kernel
theorem dX12_as_33 : decode cX12_as 33 = .ok (.invokestatic 274, 3) := by decide +kernel
theorem dX12_as_36 : decode cX12_as 36 = .ok (.ifCond .eq 11, 3) := by decide +kernel
theorem dX12_as_39 : decode cX12_as 39 = .ok (.aload_n 0, 1) := by decide +kernel
theorem dX12_as_40 : decode cX12_as 40 = .ok (.iload_n 1, 1) := by decide +kernel
theorem dX12_as_41 : decode cX12_as 41 = .ok (.invokevirtual 75, 3) := by decide +kernel
theorem dX12_as_44 : decode cX12_as 44 = .ok (.goto 8, 3) := by decide +kernel
theorem dX12_as_47 : decode cX12_as 47 = .ok (.aload_n 0, 1) := by decide +kernel
theorem dX12_as_48 : decode cX12_as 48 = .ok (.iconst 3, 1) := by decide +kernel
theorem dX12_as_49 : decode cX12_as 49 = .ok (.invokevirtual 71, 3) := by decide +kernel
theorem dX12_as_52 : decode cX12_as 52 = .ok (.ireturn, 1) := by decide +kernel
theorem dX12_begin__0 : decode cX12_begin_ 0 = .ok (.aload_n 0, 1) := by decide +kernel
theorem dX12_begin__1 : decode cX12_begin_ 1 = .ok (.getfield 277, 3) := by decide +kernel
theorem dX12_begin__4 : decode cX12_begin_ 4 = .ok (.bipush 16, 2) := by decide +kernel
theorem dX12_begin__6 : decode cX12_begin_ 6 = .ok (.if_icmp .ge 23, 3) := by decide +kernel
theorem dX12_begin__9 : decode cX12_begin_ 9 = .ok (.aload_n 0, 1) := by decide +kernel
theorem dX12_begin__10 : decode cX12_begin_ 10 = .ok (.getfield 50, 3) := by decide +kernel
theorem dX12_begin__13 : decode cX12_begin_ 13 = .ok (.aload_n 0, 1) := by decide +kernel
theorem dX12_begin__14 : decode cX12_begin_ 14 = .ok (.getfield 277, 3) := by decide +kernel
theorem dX12_begin__17 : decode cX12_begin_ 17 = .ok (.iload_n 1, 1) := by decide +kernel
theorem dX12_begin__18 : decode cX12_begin_ 18 = .ok (.iastore, 1) := by decide +kernel
theorem dX12_begin__19 : decode cX12_begin_ 19 = .ok (.aload_n 0, 1) := by decide +kernel
theorem dX12_begin__20 : decode cX12_begin_ 20 = .ok (.dup, 1) := by decide +kernel
theorem dX12_begin__21 : decode cX12_begin_ 21 = .ok (.getfield 277, 3) := by decide +kernel
theorem dX12_begin__24 : decode cX12_begin_ 24 = .ok (.iconst 1, 1) := by decide +kernel
theorem dX12_begin__25 : decode cX12_begin_ 25 = .ok (.iadd, 1) := by decide +kernel
theorem dX12_begin__26 : decode cX12_begin_ 26 = .ok (.putfield 277, 3) := by decide +kernel
theorem dX12_begin__29 : decode cX12_begin_ 29 = .ok (.return_, 1) := by decide +kernel
theorem dX12_lent_0 : decode cX12_lent 0 = .ok (.aload_n 0, 1) := by decide +kernel
theorem dX12_lent_1 : decode cX12_lent 1 = .ok (.iload_n 2, 1) := by decide +kernel
theorem dX12_lent_2 : decode cX12_lent 2 = .ok (.invokevirtual 280, 3) := by decide +kernel
theorem dX12_lent_5 : decode cX12_lent 5 = .ok (.iload_n 2, 1) := by decide +kernel
theorem dX12_lent_6 : decode cX12_lent 6 = .ok (.bipush 10, 2) := by decide +kernel
theorem dX12_lent_8 : decode cX12_lent 8 = .ok (.if_icmp .ne 15, 3) := by decide +kernel
theorem dX12_lent_11 : decode cX12_lent 11 = .ok (.aload_n 0, 1) := by decide +kernel
theorem dX12_lent_12 : decode cX12_lent 12 = .ok (.getfield 19, 3) := by decide +kernel
theorem dX12_lent_15 : decode cX12_lent 15 = .ok (.bipush 21, 2) := by decide +kernel
theorem dX12_lent_17 : decode cX12_lent 17 = .ok (.iload_n 1, 1) := by decide +kernel
theorem dX12_lent_18 : decode cX12_lent 18 = .ok (.iadd, 1) := by decide +kernel
theorem dX12_lent_19 : decode cX12_lent 19 = .ok (.iaload, 1) := by decide +kernel
theorem dX12_lent_20 : decode cX12_lent 20 = .ok (.goto 4, 3) := by decide +kernel
theorem dX12_lent_23 : decode cX12_lent 23 = .ok (.iload_n 1, 1) := by decide +kernel
theorem dX12_lent_24 : decode cX12_lent 24 = .ok (.ireturn, 1) := by decide +kernel
theorem dX12_climberMark_0 : decode cX12_climberMark 0 = .ok (.aload_n 0, 1) := by decide +kernel
theorem dX12_climberMark_1 : decode cX12_climberMark 1 = .ok (.bipush 21, 2) := by decide +kernel
theorem dX12_climberMark_3 : decode cX12_climberMark 3 = .ok (.invokevirtual 280, 3) := by decide +kernel
theorem dX12_climberMark_6 : decode cX12_climberMark 6 = .ok (.aload_n 0, 1) := by decide +kernel
theorem dX12_climberMark_7 : decode cX12_climberMark 7 = .ok (.iload_n 1, 1) := by decide +kernel
theorem dX12_climberMark_8 : decode cX12_climberMark 8 = .ok (.bipush 20, 2) := by decide +kernel
theorem dX12_climberMark_10 : decode cX12_climberMark 10 = .ok (.invokevirtual 283, 3) := by decide +kernel
theorem dX12_climberMark_13 : decode cX12_climberMark 13 = .ok (.aload_n 0, 1) := by decide +kernel
theorem dX12_climberMark_14 : decode cX12_climberMark 14 = .ok (.getfield 19, 3) := by decide +kernel
theorem dX12_climberMark_17 : decode cX12_climberMark 17 = .ok (.bipush 33, 2) := by decide +kernel
theorem dX12_climberMark_19 : decode cX12_climberMark 19 = .ok (.iload_n 1, 1) := by decide +kernel
theorem dX12_climberMark_20 : decode cX12_climberMark 20 = .ok (.iadd, 1) := by decide +kernel
theorem dX12_climberMark_21 : decode cX12_climberMark 21 = .ok (.iaload, 1) := by decide +kernel
theorem dX12_climberMark_22 : decode cX12_climberMark 22 = .ok (.iadd, 1) := by decide +kernel
theorem dX12_climberMark_23 : decode cX12_climberMark 23 = .ok (.ireturn, 1) := by decide +kernel
theorem dX12_fetcherSize_0 : decode cX12_fetcherSize 0 = .ok (.aload_n 0, 1) := by decide +kernel
theorem dX12_fetcherSize_1 : decode cX12_fetcherSize 1 = .ok (.bipush 13, 2) := by decide +kernel
theorem dX12_fetcherSize_3 : decode cX12_fetcherSize 3 = .ok (.invokevirtual 280, 3) := by decide +kernel
theorem dX12_fetcherSize_6 : decode cX12_fetcherSize 6 = .ok (.aload_n 0, 1) := by decide +kernel
theorem dX12_fetcherSize_7 : decode cX12_fetcherSize 7 = .ok (.iload_n 1, 1) := by decide +kernel
theorem dX12_fetcherSize_8 : decode cX12_fetcherSize 8 = .ok (.bipush 10, 2) := by decide +kernel
theorem dX12_fetcherSize_10 : decode cX12_fetcherSize 10 = .ok (.invokevirtual 283, 3) := by decide +kernel
theorem dX12_fetcherSize_13 : decode cX12_fetcherSize 13 = .ok (.bipush 100, 2) := by decide +kernel
theorem dX12_fetcherSize_15 : decode cX12_fetcherSize 15 = .ok (.isub, 1) := by decide +kernel
theorem dX12_fetcherSize_16 : decode cX12_fetcherSize 16 = .ok (.ireturn, 1) := by decide +kernel
theorem dX12_sizeOfFetcher_0 : decode cX12_sizeOfFetcher 0 = .ok (.aload_n 0, 1) := by decide +kernel
theorem dX12_sizeOfFetcher_1 : decode cX12_sizeOfFetcher 1 = .ok (.getfield 19, 3) := by decide +kernel
theorem dX12_sizeOfFetcher_4 : decode cX12_sizeOfFetcher 4 = .ok (.bipush 15, 2) := by decide +kernel
theorem dX12_sizeOfFetcher_6 : decode cX12_sizeOfFetcher 6 = .ok (.iload_n 1, 1) := by decide +kernel
theorem dX12_sizeOfFetcher_7 : decode cX12_sizeOfFetcher 7 = .ok (.iadd, 1) := by decide +kernel
theorem dX12_sizeOfFetcher_8 : decode cX12_sizeOfFetcher 8 = .ok (.iaload, 1) := by decide +kernel
theorem dX12_sizeOfFetcher_9 : decode cX12_sizeOfFetcher 9 = .ok (.iconst 5, 1) := by decide +kernel
theorem dX12_sizeOfFetcher_10 : decode cX12_sizeOfFetcher 10 = .ok (.if_icmp .ne 17, 3) := by decide +kernel
theorem dX12_sizeOfFetcher_13 : decode cX12_sizeOfFetcher 13 = .ok (.aload_n 0, 1) := by decide +kernel
theorem dX12_sizeOfFetcher_14 : decode cX12_sizeOfFetcher 14 = .ok (.bipush 14, 2) := by decide +kernel
theorem dX12_sizeOfFetcher_16 : decode cX12_sizeOfFetcher 16 = .ok (.invokevirtual 280, 3) := by decide +kernel
theorem dX12_sizeOfFetcher_19 : decode cX12_sizeOfFetcher 19 = .ok (.iconst 2, 1) := by decide +kernel
theorem dX12_sizeOfFetcher_20 : decode cX12_sizeOfFetcher 20 = .ok (.aload_n 0, 1) := by decide +kernel
theorem dX12_sizeOfFetcher_21 : decode cX12_sizeOfFetcher 21 = .ok (.iload_n 1, 1) := by decide +kernel
theorem dX12_sizeOfFetcher_22 : decode cX12_sizeOfFetcher 22 = .ok (.invokevirtual 286, 3) := by decide +kernel
theorem dX12_sizeOfFetcher_25 : decode cX12_sizeOfFetcher 25 = .ok (.imul, 1) := by decide +kernel
theorem dX12_sizeOfFetcher_26 : decode cX12_sizeOfFetcher 26 = .ok (.ireturn, 1) := by decide +kernel
theorem dX12_sizeOfFetcher_27 : decode cX12_sizeOfFetcher 27 = .ok (.aload_n 0, 1) := by decide +kernel
theorem dX12_sizeOfFetcher_28 : decode cX12_sizeOfFetcher 28 = .ok (.iload_n 1, 1) := by decide +kernel
theorem dX12_sizeOfFetcher_29 : decode cX12_sizeOfFetcher 29 = .ok (.invokevirtual 286, 3) := by decide +kernel
theorem dX12_sizeOfFetcher_32 : decode cX12_sizeOfFetcher 32 = .ok (.ireturn, 1) := by decide +kernel
theorem dX12_markOf_0 : decode cX12_markOf 0 = .ok (.aload_n 0, 1) := by decide +kernel
theorem dX12_markOf_1 : decode cX12_markOf 1 = .ok (.getfield 19, 3) := by decide +kernel
theorem dX12_markOf_4 : decode cX12_markOf 4 = .ok (.bipush 15, 2) := by decide +kernel
theorem dX12_markOf_6 : decode cX12_markOf 6 = .ok (.iload_n 1, 1) := by decide +kernel
theorem dX12_markOf_7 : decode cX12_markOf 7 = .ok (.iadd, 1) := by decide +kernel
theorem dX12_markOf_8 : decode cX12_markOf 8 = .ok (.iaload, 1) := by decide +kernel
theorem dX12_markOf_9 : decode cX12_markOf 9 = .ok (.istore_n 2, 1) := by decide +kernel
theorem dX12_markOf_10 : decode cX12_markOf 10 = .ok (.iload_n 2, 1) := by decide +kernel
theorem dX12_markOf_11 : decode cX12_markOf 11 = .ok (.iconst 2, 1) := by decide +kernel
theorem dX12_markOf_12 : decode cX12_markOf 12 = .ok (.if_icmp .ne 17, 3) := by decide +kernel
theorem dX12_markOf_15 : decode cX12_markOf 15 = .ok (.aload_n 0, 1) := by decide +kernel
theorem dX12_markOf_16 : decode cX12_markOf 16 = .ok (.bipush 24, 2) := by decide +kernel
theorem dX12_markOf_18 : decode cX12_markOf 18 = .ok (.invokevirtual 280, 3) := by decide +kernel
theorem dX12_markOf_21 : decode cX12_markOf 21 = .ok (.iconst 2, 1) := by decide +kernel
theorem dX12_markOf_22 : decode cX12_markOf 22 = .ok (.aload_n 0, 1) := by decide +kernel
theorem dX12_markOf_23 : decode cX12_markOf 23 = .ok (.iload_n 1, 1) := by decide +kernel
theorem dX12_markOf_24 : decode cX12_markOf 24 = .ok (.invokevirtual 289, 3) := by decide +kernel
theorem dX12_markOf_27 : decode cX12_markOf 27 = .ok (.imul, 1) := by decide +kernel
theorem dX12_markOf_28 : decode cX12_markOf 28 = .ok (.ireturn, 1) := by decide +kernel
theorem dX12_markOf_29 : decode cX12_markOf 29 = .ok (.iload_n 2, 1) := by decide +kernel
theorem dX12_markOf_30 : decode cX12_markOf 30 = .ok (.iconst 3, 1) := by decide +kernel
theorem dX12_markOf_31 : decode cX12_markOf 31 = .ok (.if_icmp .ne 19, 3) := by decide +kernel
theorem dX12_markOf_34 : decode cX12_markOf 34 = .ok (.aload_n 0, 1) := by decide +kernel
theorem dX12_markOf_35 : decode cX12_markOf 35 = .ok (.bipush 22, 2) := by decide +kernel
theorem dX12_markOf_37 : decode cX12_markOf 37 = .ok (.invokevirtual 280, 3) := by decide +kernel
theorem dX12_markOf_40 : decode cX12_markOf 40 = .ok (.aload_n 0, 1) := by decide +kernel
theorem dX12_markOf_41 : decode cX12_markOf 41 = .ok (.iload_n 1, 1) := by decide +kernel
theorem dX12_markOf_42 : decode cX12_markOf 42 = .ok (.invokevirtual 289, 3) := by decide +kernel
theorem dX12_markOf_45 : decode cX12_markOf 45 = .ok (.sipush 1000, 3) := by decide +kernel
theorem dX12_markOf_48 : decode cX12_markOf 48 = .ok (.isub, 1) := by decide +kernel
theorem dX12_markOf_49 : decode cX12_markOf 49 = .ok (.ireturn, 1) := by decide +kernel
theorem dX12_markOf_50 : decode cX12_markOf 50 = .ok (.iload_n 2, 1) := by decide +kernel
theorem dX12_markOf_51 : decode cX12_markOf 51 = .ok (.iconst 1, 1) := by decide +kernel
theorem dX12_markOf_52 : decode cX12_markOf 52 = .ok (.if_icmp .ne 9, 3) := by decide +kernel
theorem dX12_markOf_55 : decode cX12_markOf 55 = .ok (.aload_n 0, 1) := by decide +kernel
theorem dX12_markOf_56 : decode cX12_markOf 56 = .ok (.iload_n 1, 1) := by decide +kernel
theorem dX12_markOf_57 : decode cX12_markOf 57 = .ok (.invokevirtual 289, 3) := by decide +kernel
theorem dX12_markOf_60 : decode cX12_markOf 60 = .ok (.ireturn, 1) := by decide +kernel
theorem dX12_markOf_61 : decode cX12_markOf 61 = .ok (.aload_n 0, 1) := by decide +kernel
theorem dX12_markOf_62 : decode cX12_markOf 62 = .ok (.bipush 23, 2) := by decide +kernel
theorem dX12_markOf_64 : decode cX12_markOf 64 = .ok (.invokevirtual 280, 3) := by decide +kernel
theorem dX12_markOf_67 : decode cX12_markOf 67 = .ok (.aload_n 0, 1) := by decide +kernel
theorem dX12_markOf_68 : decode cX12_markOf 68 = .ok (.iload_n 1, 1) := by decide +kernel
theorem dX12_markOf_69 : decode cX12_markOf 69 = .ok (.bipush 20, 2) := by decide +kernel
theorem dX12_markOf_71 : decode cX12_markOf 71 = .ok (.invokevirtual 283, 3) := by decide +kernel
theorem dX12_markOf_74 : decode cX12_markOf 74 = .ok (.istore_n 3, 1) := by decide +kernel
theorem dX12_markOf_75 : decode cX12_markOf 75 = .ok (.iload_n 3, 1) := by decide +kernel
theorem dX12_markOf_76 : decode cX12_markOf 76 = .ok (.aload_n 0, 1) := by decide +kernel
theorem dX12_markOf_77 : decode cX12_markOf 77 = .ok (.iload_n 1, 1) := by decide +kernel
theorem dX12_markOf_78 : decode cX12_markOf 78 = .ok (.invokevirtual 292, 3) := by decide +kernel
theorem dX12_markOf_81 : decode cX12_markOf 81 = .ok (.isub, 1) := by decide +kernel
theorem dX12_markOf_82 : decode cX12_markOf 82 = .ok (.ireturn, 1) := by decide +kernel
theorem dX12_climberSize_0 : decode cX12_climberSize 0 = .ok (.aload_n 0, 1) := by decide +kernel
theorem dX12_climberSize_1 : decode cX12_climberSize 1 = .ok (.bipush 11, 2) := by decide +kernel
theorem dX12_climberSize_3 : decode cX12_climberSize 3 = .ok (.invokevirtual 280, 3) := by decide +kernel
theorem dX12_climberSize_6 : decode cX12_climberSize 6 = .ok (.aload_n 0, 1) := by decide +kernel
theorem dX12_climberSize_7 : decode cX12_climberSize 7 = .ok (.iload_n 1, 1) := by decide +kernel
theorem dX12_climberSize_8 : decode cX12_climberSize 8 = .ok (.bipush 10, 2) := by decide +kernel
theorem dX12_climberSize_10 : decode cX12_climberSize 10 = .ok (.invokevirtual 283, 3) := by decide +kernel
theorem dX12_climberSize_13 : decode cX12_climberSize 13 = .ok (.istore_n 2, 1) := by decide +kernel
theorem dX12_climberSize_14 : decode cX12_climberSize 14 = .ok (.iload_n 2, 1) := by decide +kernel
theorem dX12_climberSize_15 : decode cX12_climberSize 15 = .ok (.aload_n 0, 1) := by decide +kernel
theorem dX12_climberSize_16 : decode cX12_climberSize 16 = .ok (.iload_n 1, 1) := by decide +kernel
theorem dX12_climberSize_17 : decode cX12_climberSize 17 = .ok (.invokevirtual 295, 3) := by decide +kernel
theorem dX12_climberSize_20 : decode cX12_climberSize 20 = .ok (.iadd, 1) := by decide +kernel
theorem dX12_climberSize_21 : decode cX12_climberSize 21 = .ok (.ireturn, 1) := by decide +kernel
theorem dX12_sizeOf_0 : decode cX12_sizeOf 0 = .ok (.aload_n 0, 1) := by decide +kernel
theorem dX12_sizeOf_1 : decode cX12_sizeOf 1 = .ok (.getfield 19, 3) := by decide +kernel
theorem dX12_sizeOf_4 : decode cX12_sizeOf 4 = .ok (.bipush 15, 2) := by decide +kernel
theorem dX12_sizeOf_6 : decode cX12_sizeOf 6 = .ok (.iload_n 1, 1) := by decide +kernel
theorem dX12_sizeOf_7 : decode cX12_sizeOf 7 = .ok (.iadd, 1) := by decide +kernel
theorem dX12_sizeOf_8 : decode cX12_sizeOf 8 = .ok (.iaload, 1) := by decide +kernel
theorem dX12_sizeOf_9 : decode cX12_sizeOf 9 = .ok (.istore_n 2, 1) := by decide +kernel
theorem dX12_sizeOf_10 : decode cX12_sizeOf 10 = .ok (.iload_n 2, 1) := by decide +kernel
theorem dX12_sizeOf_11 : decode cX12_sizeOf 11 = .ok (.iconst 2, 1) := by decide +kernel
theorem dX12_sizeOf_12 : decode cX12_sizeOf 12 = .ok (.if_icmp .ne 16, 3) := by decide +kernel
theorem dX12_sizeOf_15 : decode cX12_sizeOf 15 = .ok (.aload_n 0, 1) := by decide +kernel
theorem dX12_sizeOf_16 : decode cX12_sizeOf 16 = .ok (.bipush 12, 2) := by decide +kernel
theorem dX12_sizeOf_18 : decode cX12_sizeOf 18 = .ok (.invokevirtual 280, 3) := by decide +kernel
theorem dX12_sizeOf_21 : decode cX12_sizeOf 21 = .ok (.aload_n 0, 1) := by decide +kernel
theorem dX12_sizeOf_22 : decode cX12_sizeOf 22 = .ok (.iload_n 1, 1) := by decide +kernel
theorem dX12_sizeOf_23 : decode cX12_sizeOf 23 = .ok (.invokevirtual 298, 3) := by decide +kernel
theorem dX12_sizeOf_26 : decode cX12_sizeOf 26 = .ok (.ineg, 1) := by decide +kernel
theorem dX12_sizeOf_27 : decode cX12_sizeOf 27 = .ok (.ireturn, 1) := by decide +kernel
theorem dX12_sizeOf_28 : decode cX12_sizeOf 28 = .ok (.iload_n 2, 1) := by decide +kernel
theorem dX12_sizeOf_29 : decode cX12_sizeOf 29 = .ok (.iconst 4, 1) := by decide +kernel
theorem dX12_sizeOf_30 : decode cX12_sizeOf 30 = .ok (.if_icmp .lt 11, 3) := by decide +kernel
theorem dX12_sizeOf_33 : decode cX12_sizeOf 33 = .ok (.aload_n 0, 1) := by decide +kernel
theorem dX12_sizeOf_34 : decode cX12_sizeOf 34 = .ok (.iload_n 1, 1) := by decide +kernel
theorem dX12_sizeOf_35 : decode cX12_sizeOf 35 = .ok (.invokevirtual 292, 3) := by decide +kernel
theorem dX12_sizeOf_38 : decode cX12_sizeOf 38 = .ok (.goto 8, 3) := by decide +kernel
theorem dX12_sizeOf_41 : decode cX12_sizeOf 41 = .ok (.aload_n 0, 1) := by decide +kernel
theorem dX12_sizeOf_42 : decode cX12_sizeOf 42 = .ok (.iload_n 1, 1) := by decide +kernel
theorem dX12_sizeOf_43 : decode cX12_sizeOf 43 = .ok (.invokevirtual 298, 3) := by decide +kernel
theorem dX12_sizeOf_46 : decode cX12_sizeOf 46 = .ok (.ireturn, 1) := by decide +kernel
theorem dX12_ask_0 : decode cX12_ask 0 = .ok (.aload_n 0, 1) := by decide +kernel
theorem dX12_ask_1 : decode cX12_ask 1 = .ok (.iload_n 1, 1) := by decide +kernel
theorem dX12_ask_2 : decode cX12_ask 2 = .ok (.invokevirtual 209, 3) := by decide +kernel
theorem dX12_ask_5 : decode cX12_ask 5 = .ok (.ifCond .eq 13, 3) := by decide +kernel
theorem dX12_ask_8 : decode cX12_ask 8 = .ok (.iload_n 2, 1) := by decide +kernel
theorem dX12_ask_9 : decode cX12_ask 9 = .ok (.i2l, 1) := by decide +kernel
theorem dX12_ask_10 : decode cX12_ask 10 = .ok (.lconst 0, 1) := by decide +kernel
theorem dX12_ask_11 : decode cX12_ask 11 = .ok (.lconst 1, 1) := by decide +kernel
theorem dX12_ask_12 : decode cX12_ask 12 = .ok (.invokestatic 60, 3) := by decide +kernel
theorem dX12_ask_15 : decode cX12_ask 15 = .ok (.ifCond .ne 6, 3) := by decide +kernel
theorem dX12_ask_18 : decode cX12_ask 18 = .ok (.ldc 70, 2) := by decide +kernel
theorem dX12_ask_20 : decode cX12_ask 20 = .ok (.ireturn, 1) := by decide +kernel
theorem dX12_ask_21 : decode cX12_ask 21 = .ok (.aload_n 0, 1) := by decide +kernel
theorem dX12_ask_22 : decode cX12_ask 22 = .ok (.iconst 0, 1) := by decide +kernel
theorem dX12_ask_23 : decode cX12_ask 23 = .ok (.putfield 277, 3) := by decide +kernel
theorem dX12_ask_26 : decode cX12_ask 26 = .ok (.iload_n 2, 1) := by decide +kernel
theorem dX12_ask_27 : decode cX12_ask 27 = .ok (.ifCond .ne 11, 3) := by decide +kernel
theorem dX12_ask_30 : decode cX12_ask 30 = .ok (.aload_n 0, 1) := by decide +kernel
theorem dX12_ask_31 : decode cX12_ask 31 = .ok (.iload_n 1, 1) := by decide +kernel
theorem dX12_ask_32 : decode cX12_ask 32 = .ok (.invokevirtual 301, 3) := by decide +kernel
theorem dX12_ask_35 : decode cX12_ask 35 = .ok (.goto 8, 3) := by decide +kernel
theorem dX12_ask_38 : decode cX12_ask 38 = .ok (.aload_n 0, 1) := by decide +kernel
theorem dX12_ask_39 : decode cX12_ask 39 = .ok (.iload_n 1, 1) := by decide +kernel
theorem dX12_ask_40 : decode cX12_ask 40 = .ok (.invokevirtual 295, 3) := by decide +kernel
theorem dX12_ask_43 : decode cX12_ask 43 = .ok (.ireturn, 1) := by decide +kernel
theorem dX12_trace_0 : decode cX12_trace 0 = .ok (.iload_n 1, 1) := by decide +kernel
theorem dX12_trace_1 : decode cX12_trace 1 = .ok (.i2l, 1) := by decide +kernel
theorem dX12_trace_2 : decode cX12_trace 2 = .ok (.lconst 0, 1) := by decide +kernel
theorem dX12_trace_3 : decode cX12_trace 3 = .ok (.aload_n 0, 1) := by decide +kernel
theorem dX12_trace_4 : decode cX12_trace 4 = .ok (.getfield 277, 3) := by decide +kernel
theorem dX12_trace_7 : decode cX12_trace 7 = .ok (.iconst 1, 1) := by decide +kernel
theorem dX12_trace_8 : decode cX12_trace 8 = .ok (.isub, 1) := by decide +kernel
theorem dX12_trace_9 : decode cX12_trace 9 = .ok (.i2l, 1) := by decide +kernel
theorem dX12_trace_10 : decode cX12_trace 10 = .ok (.invokestatic 60, 3) := by decide +kernel
theorem dX12_trace_13 : decode cX12_trace 13 = .ok (.ifCond .eq 12, 3) := by decide +kernel
theorem dX12_trace_16 : decode cX12_trace 16 = .ok (.aload_n 0, 1) := by decide +kernel
theorem dX12_trace_17 : decode cX12_trace 17 = .ok (.getfield 50, 3) := by decide +kernel
theorem dX12_trace_20 : decode cX12_trace 20 = .ok (.iload_n 1, 1) := by decide +kernel
theorem dX12_trace_21 : decode cX12_trace 21 = .ok (.iaload, 1) := by decide +kernel
theorem dX12_trace_22 : decode cX12_trace 22 = .ok (.goto 5, 3) := by decide +kernel
theorem dX12_trace_25 : decode cX12_trace 25 = .ok (.ldc 167, 2) := by decide +kernel
theorem dX12_trace_27 : decode cX12_trace 27 = .ok (.ireturn, 1) := by decide +kernel
theorem dX12_count_0 : decode cX12_count 0 = .ok (.iconst 0, 1) := by decide +kernel
theorem dX12_count_1 : decode cX12_count 1 = .ok (.istore_n 2, 1) := by decide +kernel
theorem dX12_count_2 : decode cX12_count 2 = .ok (.iconst 0, 1) := by decide +kernel
theorem dX12_count_3 : decode cX12_count 3 = .ok (.istore_n 3, 1) := by decide +kernel
theorem dX12_count_4 : decode cX12_count 4 = .ok (.iload_n 3, 1) := by decide +kernel
theorem dX12_count_5 : decode cX12_count 5 = .ok (.bipush 8, 2) := by decide +kernel
theorem dX12_count_7 : decode cX12_count 7 = .ok (.if_icmp .ge 26, 3) := by decide +kernel
theorem dX12_count_10 : decode cX12_count 10 = .ok (.iload_n 2, 1) := by decide +kernel
theorem dX12_count_11 : decode cX12_count 11 = .ok (.aload_n 0, 1) := by decide +kernel
theorem dX12_count_12 : decode cX12_count 12 = .ok (.getfield 13, 3) := by decide +kernel
theorem dX12_count_15 : decode cX12_count 15 = .ok (.iload_n 3, 1) := by decide +kernel
theorem dX12_count_16 : decode cX12_count 16 = .ok (.iaload, 1) := by decide +kernel
theorem dX12_count_17 : decode cX12_count 17 = .ok (.ifCond .lt 7, 3) := by decide +kernel
theorem dX12_count_20 : decode cX12_count 20 = .ok (.iconst 1, 1) := by decide +kernel
theorem dX12_count_21 : decode cX12_count 21 = .ok (.goto 4, 3) := by decide +kernel
theorem dX12_count_24 : decode cX12_count 24 = .ok (.iconst 0, 1) := by decide +kernel
theorem dX12_count_25 : decode cX12_count 25 = .ok (.iadd, 1) := by decide +kernel
theorem dX12_count_26 : decode cX12_count 26 = .ok (.istore_n 2, 1) := by decide +kernel
theorem dX12_count_27 : decode cX12_count 27 = .ok (.iinc 3 1, 3) := by decide +kernel
theorem dX12_count_30 : decode cX12_count 30 = .ok (.goto (-26), 3) := by decide +kernel
theorem dX12_count_33 : decode cX12_count 33 = .ok (.iload_n 1, 1) := by decide +kernel
theorem dX12_count_34 : decode cX12_count 34 = .ok (.tableswitch 92 0 7 #[46, 48, 55, 62, 69, 77, 82, 87], 46) := by decide +kernel
theorem dX12_count_80 : decode cX12_count 80 = .ok (.iload_n 2, 1) := by decide +kernel
theorem dX12_count_81 : decode cX12_count 81 = .ok (.ireturn, 1) := by decide +kernel
theorem dX12_count_82 : decode cX12_count 82 = .ok (.aload_n 0, 1) := by decide +kernel
theorem dX12_count_83 : decode cX12_count 83 = .ok (.getfield 19, 3) := by decide +kernel
theorem dX12_count_86 : decode cX12_count 86 = .ok (.iconst 0, 1) := by decide +kernel
theorem dX12_count_87 : decode cX12_count 87 = .ok (.iaload, 1) := by decide +kernel
theorem dX12_count_88 : decode cX12_count 88 = .ok (.ireturn, 1) := by decide +kernel
theorem dX12_count_89 : decode cX12_count 89 = .ok (.aload_n 0, 1) := by decide +kernel
theorem dX12_count_90 : decode cX12_count 90 = .ok (.getfield 19, 3) := by decide +kernel
theorem dX12_count_93 : decode cX12_count 93 = .ok (.iconst 2, 1) := by decide +kernel
theorem dX12_count_94 : decode cX12_count 94 = .ok (.iaload, 1) := by decide +kernel
theorem dX12_count_95 : decode cX12_count 95 = .ok (.ireturn, 1) := by decide +kernel
theorem dX12_count_96 : decode cX12_count 96 = .ok (.aload_n 0, 1) := by decide +kernel
theorem dX12_count_97 : decode cX12_count 97 = .ok (.getfield 19, 3) := by decide +kernel
theorem dX12_count_100 : decode cX12_count 100 = .ok (.iconst 3, 1) := by decide +kernel
theorem dX12_count_101 : decode cX12_count 101 = .ok (.iaload, 1) := by decide +kernel
theorem dX12_count_102 : decode cX12_count 102 = .ok (.ireturn, 1) := by decide +kernel
theorem dX12_count_103 : decode cX12_count 103 = .ok (.aload_n 0, 1) := by decide +kernel
theorem dX12_count_104 : decode cX12_count 104 = .ok (.invokevirtual 206, 3) := by decide +kernel
theorem dX12_count_107 : decode cX12_count 107 = .ok (.invokestatic 237, 3) := by decide +kernel
theorem dX12_count_110 : decode cX12_count 110 = .ok (.ireturn, 1) := by decide +kernel
theorem dX12_count_111 : decode cX12_count 111 = .ok (.aload_n 0, 1) := by decide +kernel
theorem dX12_count_112 : decode cX12_count 112 = .ok (.invokevirtual 234, 3) := by decide +kernel
theorem dX12_count_115 : decode cX12_count 115 = .ok (.ireturn, 1) := by decide +kernel
theorem dX12_count_116 : decode cX12_count 116 = .ok (.aload_n 0, 1) := by decide +kernel
theorem dX12_count_117 : decode cX12_count 117 = .ok (.getfield 151, 3) := by decide +kernel
theorem dX12_count_120 : decode cX12_count 120 = .ok (.ireturn, 1) := by decide +kernel
theorem dX12_count_121 : decode cX12_count 121 = .ok (.aload_n 0, 1) := by decide +kernel
theorem dX12_count_122 : decode cX12_count 122 = .ok (.getfield 84, 3) := by decide +kernel
theorem dX12_count_125 : decode cX12_count 125 = .ok (.ireturn, 1) := by decide +kernel
theorem dX12_count_126 : decode cX12_count 126 = .ok (.ldc 70, 2) := by decide +kernel
theorem dX12_count_128 : decode cX12_count 128 = .ok (.ireturn, 1) := by decide +kernel
theorem dX12_status_0 : decode cX12_status 0 = .ok (.aload_n 0, 1) := by decide +kernel
theorem dX12_status_1 : decode cX12_status 1 = .ok (.getfield 53, 3) := by decide +kernel
theorem dX12_status_4 : decode cX12_status 4 = .ok (.ireturn, 1) := by decide +kernel
theorem dJ6_bitCount_0f7a4_0 : decode cJ6_bitCount_0f7a4 0 = .ok (.iload_n 0, 1) := by decide +kernel
theorem dJ6_bitCount_0f7a4_1 : decode cJ6_bitCount_0f7a4 1 = .ok (.iload_n 0, 1) := by decide +kernel
theorem dJ6_bitCount_0f7a4_2 : decode cJ6_bitCount_0f7a4 2 = .ok (.iconst 1, 1) := by decide +kernel
theorem dJ6_bitCount_0f7a4_3 : decode cJ6_bitCount_0f7a4 3 = .ok (.iushr, 1) := by decide +kernel
theorem dJ6_bitCount_0f7a4_4 : decode cJ6_bitCount_0f7a4 4 = .ok (.ldc_w 265, 3) := by decide +kernel
theorem dJ6_bitCount_0f7a4_7 : decode cJ6_bitCount_0f7a4 7 = .ok (.iand, 1) := by decide +kernel
theorem dJ6_bitCount_0f7a4_8 : decode cJ6_bitCount_0f7a4 8 = .ok (.isub, 1) := by decide +kernel
theorem dJ6_bitCount_0f7a4_9 : decode cJ6_bitCount_0f7a4 9 = .ok (.istore_n 0, 1) := by decide +kernel
theorem dJ6_bitCount_0f7a4_10 : decode cJ6_bitCount_0f7a4 10 = .ok (.iload_n 0, 1) := by decide +kernel
theorem dJ6_bitCount_0f7a4_11 : decode cJ6_bitCount_0f7a4 11 = .ok (.ldc_w 266, 3) := by decide +kernel
theorem dJ6_bitCount_0f7a4_14 : decode cJ6_bitCount_0f7a4 14 = .ok (.iand, 1) := by decide +kernel
theorem dJ6_bitCount_0f7a4_15 : decode cJ6_bitCount_0f7a4 15 = .ok (.iload_n 0, 1) := by decide +kernel
theorem dJ6_bitCount_0f7a4_16 : decode cJ6_bitCount_0f7a4 16 = .ok (.iconst 2, 1) := by decide +kernel
theorem dJ6_bitCount_0f7a4_17 : decode cJ6_bitCount_0f7a4 17 = .ok (.iushr, 1) := by decide +kernel
theorem dJ6_bitCount_0f7a4_18 : decode cJ6_bitCount_0f7a4 18 = .ok (.ldc_w 266, 3) := by decide +kernel
theorem dJ6_bitCount_0f7a4_21 : decode cJ6_bitCount_0f7a4 21 = .ok (.iand, 1) := by decide +kernel
theorem dJ6_bitCount_0f7a4_22 : decode cJ6_bitCount_0f7a4 22 = .ok (.iadd, 1) := by decide +kernel
theorem dJ6_bitCount_0f7a4_23 : decode cJ6_bitCount_0f7a4 23 = .ok (.istore_n 0, 1) := by decide +kernel
theorem dJ6_bitCount_0f7a4_24 : decode cJ6_bitCount_0f7a4 24 = .ok (.iload_n 0, 1) := by decide +kernel
theorem dJ6_bitCount_0f7a4_25 : decode cJ6_bitCount_0f7a4 25 = .ok (.iload_n 0, 1) := by decide +kernel
theorem dJ6_bitCount_0f7a4_26 : decode cJ6_bitCount_0f7a4 26 = .ok (.iconst 4, 1) := by decide +kernel
theorem dJ6_bitCount_0f7a4_27 : decode cJ6_bitCount_0f7a4 27 = .ok (.iushr, 1) := by decide +kernel
theorem dJ6_bitCount_0f7a4_28 : decode cJ6_bitCount_0f7a4 28 = .ok (.iadd, 1) := by decide +kernel
theorem dJ6_bitCount_0f7a4_29 : decode cJ6_bitCount_0f7a4 29 = .ok (.ldc_w 267, 3) := by decide +kernel
theorem dJ6_bitCount_0f7a4_32 : decode cJ6_bitCount_0f7a4 32 = .ok (.iand, 1) := by decide +kernel
theorem dJ6_bitCount_0f7a4_33 : decode cJ6_bitCount_0f7a4 33 = .ok (.istore_n 0, 1) := by decide +kernel
theorem dJ6_bitCount_0f7a4_34 : decode cJ6_bitCount_0f7a4 34 = .ok (.iload_n 0, 1) := by decide +kernel
theorem dJ6_bitCount_0f7a4_35 : decode cJ6_bitCount_0f7a4 35 = .ok (.iload_n 0, 1) := by decide +kernel
theorem dJ6_bitCount_0f7a4_36 : decode cJ6_bitCount_0f7a4 36 = .ok (.bipush 8, 2) := by decide +kernel
theorem dJ6_bitCount_0f7a4_38 : decode cJ6_bitCount_0f7a4 38 = .ok (.iushr, 1) := by decide +kernel
theorem dJ6_bitCount_0f7a4_39 : decode cJ6_bitCount_0f7a4 39 = .ok (.iadd, 1) := by decide +kernel
theorem dJ6_bitCount_0f7a4_40 : decode cJ6_bitCount_0f7a4 40 = .ok (.istore_n 0, 1) := by decide +kernel
theorem dJ6_bitCount_0f7a4_41 : decode cJ6_bitCount_0f7a4 41 = .ok (.iload_n 0, 1) := by decide +kernel
theorem dJ6_bitCount_0f7a4_42 : decode cJ6_bitCount_0f7a4 42 = .ok (.iload_n 0, 1) := by decide +kernel
theorem dJ6_bitCount_0f7a4_43 : decode cJ6_bitCount_0f7a4 43 = .ok (.bipush 16, 2) := by decide +kernel
theorem dJ6_bitCount_0f7a4_45 : decode cJ6_bitCount_0f7a4 45 = .ok (.iushr, 1) := by decide +kernel
theorem dJ6_bitCount_0f7a4_46 : decode cJ6_bitCount_0f7a4 46 = .ok (.iadd, 1) := by decide +kernel
theorem dJ6_bitCount_0f7a4_47 : decode cJ6_bitCount_0f7a4 47 = .ok (.istore_n 0, 1) := by decide +kernel
theorem dJ6_bitCount_0f7a4_48 : decode cJ6_bitCount_0f7a4 48 = .ok (.iload_n 0, 1) := by decide +kernel
theorem dJ6_bitCount_0f7a4_49 : decode cJ6_bitCount_0f7a4 49 = .ok (.bipush 63, 2) := by decide +kernel
theorem dJ6_bitCount_0f7a4_51 : decode cJ6_bitCount_0f7a4 51 = .ok (.iand, 1) := by decide +kernel
theorem dJ6_bitCount_0f7a4_52 : decode cJ6_bitCount_0f7a4 52 = .ok (.ireturn, 1) := by decide +kernel
