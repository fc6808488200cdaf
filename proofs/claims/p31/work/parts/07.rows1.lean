theorem dX5_readBetween_18 : decode cX5_readBetween 18 = .ok (.iload_n 2, 1) := by decide +kernel
theorem dX5_readBetween_19 : decode cX5_readBetween 19 = .ok (.if_icmp .le 6, 3) := by decide +kernel
theorem dX5_readBetween_22 : decode cX5_readBetween 22 = .ok (.bipush (-8), 2) := by decide +kernel
theorem dX5_readBetween_24 : decode cX5_readBetween 24 = .ok (.ireturn, 1) := by decide +kernel
theorem dX5_readBetween_25 : decode cX5_readBetween 25 = .ok (.aload_n 0, 1) := by decide +kernel
theorem dX5_readBetween_26 : decode cX5_readBetween 26 = .ok (.dup, 1) := by decide +kernel
theorem dX5_readBetween_27 : decode cX5_readBetween 27 = .ok (.getfield 18, 3) := by decide +kernel
theorem dX5_readBetween_30 : decode cX5_readBetween 30 = .ok (.iconst 1, 1) := by decide +kernel
theorem dX5_readBetween_31 : decode cX5_readBetween 31 = .ok (.iadd, 1) := by decide +kernel
theorem dX5_readBetween_32 : decode cX5_readBetween 32 = .ok (.putfield 18, 3) := by decide +kernel
theorem dX5_readBetween_35 : decode cX5_readBetween 35 = .ok (.iload_n 3, 1) := by decide +kernel
theorem dX5_readBetween_36 : decode cX5_readBetween 36 = .ok (.iload_n 1, 1) := by decide +kernel
theorem dX5_readBetween_37 : decode cX5_readBetween 37 = .ok (.isub, 1) := by decide +kernel
theorem dX5_readBetween_38 : decode cX5_readBetween 38 = .ok (.ireturn, 1) := by decide +kernel
theorem dX5_readNumber_0 : decode cX5_readNumber 0 = .ok (.aload_n 0, 1) := by decide +kernel
theorem dX5_readNumber_1 : decode cX5_readNumber 1 = .ok (.bipush 48, 2) := by decide +kernel
theorem dX5_readNumber_3 : decode cX5_readNumber 3 = .ok (.bipush 57, 2) := by decide +kernel
theorem dX5_readNumber_5 : decode cX5_readNumber 5 = .ok (.invokevirtual 98, 3) := by decide +kernel
theorem dX5_readNumber_8 : decode cX5_readNumber 8 = .ok (.istore_n 1, 1) := by decide +kernel
theorem dX5_readNumber_9 : decode cX5_readNumber 9 = .ok (.iconst 1, 1) := by decide +kernel
theorem dX5_readNumber_10 : decode cX5_readNumber 10 = .ok (.istore_n 2, 1) := by decide +kernel
theorem dX5_readNumber_11 : decode cX5_readNumber 11 = .ok (.iload_n 2, 1) := by decide +kernel
theorem dX5_readNumber_12 : decode cX5_readNumber 12 = .ok (.iconst 3, 1) := by decide +kernel
theorem dX5_readNumber_13 : decode cX5_readNumber 13 = .ok (.if_icmp .ge 38, 3) := by decide +kernel
theorem dX5_readNumber_16 : decode cX5_readNumber 16 = .ok (.iload_n 1, 1) := by decide +kernel
theorem dX5_readNumber_17 : decode cX5_readNumber 17 = .ok (.ifCond .le 34, 3) := by decide +kernel
theorem dX5_readNumber_20 : decode cX5_readNumber 20 = .ok (.aload_n 0, 1) := by decide +kernel
theorem dX5_readNumber_21 : decode cX5_readNumber 21 = .ok (.bipush 48, 2) := by decide +kernel
theorem dX5_readNumber_23 : decode cX5_readNumber 23 = .ok (.bipush 57, 2) := by decide +kernel
theorem dX5_readNumber_25 : decode cX5_readNumber 25 = .ok (.invokevirtual 98, 3) := by decide +kernel
theorem dX5_readNumber_28 : decode cX5_readNumber 28 = .ok (.istore_n 3, 1) := by decide +kernel
theorem dX5_readNumber_29 : decode cX5_readNumber 29 = .ok (.iload_n 3, 1) := by decide +kernel
theorem dX5_readNumber_30 : decode cX5_readNumber 30 = .ok (.bipush (-8), 2) := by decide +kernel
theorem dX5_readNumber_32 : decode cX5_readNumber 32 = .ok (.if_icmp .ne 6, 3) := by decide +kernel
theorem dX5_readNumber_35 : decode cX5_readNumber 35 = .ok (.goto 16, 3) := by decide +kernel
theorem dX5_readNumber_38 : decode cX5_readNumber 38 = .ok (.bipush 10, 2) := by decide +kernel
theorem dX5_readNumber_40 : decode cX5_readNumber 40 = .ok (.iload_n 1, 1) := by decide +kernel
theorem dX5_readNumber_41 : decode cX5_readNumber 41 = .ok (.imul, 1) := by decide +kernel
theorem dX5_readNumber_42 : decode cX5_readNumber 42 = .ok (.iload_n 3, 1) := by decide +kernel
theorem dX5_readNumber_43 : decode cX5_readNumber 43 = .ok (.iadd, 1) := by decide +kernel
theorem dX5_readNumber_44 : decode cX5_readNumber 44 = .ok (.istore_n 1, 1) := by decide +kernel
theorem dX5_readNumber_45 : decode cX5_readNumber 45 = .ok (.iinc 2 1, 3) := by decide +kernel
theorem dX5_readNumber_48 : decode cX5_readNumber 48 = .ok (.goto (-37), 3) := by decide +kernel
theorem dX5_readNumber_51 : decode cX5_readNumber 51 = .ok (.iload_n 1, 1) := by decide +kernel
theorem dX5_readNumber_52 : decode cX5_readNumber 52 = .ok (.ireturn, 1) := by decide +kernel
theorem dX6_init_0 : decode cX6_init 0 = .ok (.aload_n 0, 1) := by decide +kernel
theorem dX6_init_1 : decode cX6_init 1 = .ok (.invokespecial 3, 3) := by decide +kernel
theorem dX6_init_4 : decode cX6_init 4 = .ok (.aload_n 0, 1) := by decide +kernel
theorem dX6_init_5 : decode cX6_init 5 = .ok (.sipush 512, 3) := by decide +kernel
theorem dX6_init_8 : decode cX6_init 8 = .ok (.newarray .int, 2) := by decide +kernel
theorem dX6_init_10 : decode cX6_init 10 = .ok (.putfield 9, 3) := by decide +kernel
theorem dX6_init_13 : decode cX6_init 13 = .ok (.aload_n 0, 1) := by decide +kernel
theorem dX6_init_14 : decode cX6_init 14 = .ok (.new 15, 3) := by decide +kernel
theorem dX6_init_17 : decode cX6_init 17 = .ok (.dup, 1) := by decide +kernel
theorem dX6_init_18 : decode cX6_init 18 = .ok (.invokespecial 17, 3) := by decide +kernel
theorem dX6_init_21 : decode cX6_init 21 = .ok (.putfield 18, 3) := by decide +kernel
theorem dX6_init_24 : decode cX6_init 24 = .ok (.return_, 1) := by decide +kernel
theorem dX6_copyFrom_0 : decode cX6_copyFrom 0 = .ok (.aload_n 0, 1) := by decide +kernel
theorem dX6_copyFrom_1 : decode cX6_copyFrom 1 = .ok (.aload_n 1, 1) := by decide +kernel
theorem dX6_copyFrom_2 : decode cX6_copyFrom 2 = .ok (.getfield 22, 3) := by decide +kernel
theorem dX6_copyFrom_5 : decode cX6_copyFrom 5 = .ok (.putfield 22, 3) := by decide +kernel
theorem dX6_copyFrom_8 : decode cX6_copyFrom 8 = .ok (.aload_n 1, 1) := by decide +kernel
theorem dX6_copyFrom_9 : decode cX6_copyFrom 9 = .ok (.getfield 9, 3) := by decide +kernel
theorem dX6_copyFrom_12 : decode cX6_copyFrom 12 = .ok (.iconst 0, 1) := by decide +kernel
theorem dX6_copyFrom_13 : decode cX6_copyFrom 13 = .ok (.aload_n 0, 1) := by decide +kernel
theorem dX6_copyFrom_14 : decode cX6_copyFrom 14 = .ok (.getfield 9, 3) := by decide +kernel
theorem dX6_copyFrom_17 : decode cX6_copyFrom 17 = .ok (.iconst 0, 1) := by decide +kernel
theorem dX6_copyFrom_18 : decode cX6_copyFrom 18 = .ok (.aload_n 1, 1) := by decide +kernel
theorem dX6_copyFrom_19 : decode cX6_copyFrom 19 = .ok (.getfield 22, 3) := by decide +kernel
theorem dX6_copyFrom_22 : decode cX6_copyFrom 22 = .ok (.invokestatic 26, 3) := by decide +kernel
theorem dX6_copyFrom_25 : decode cX6_copyFrom 25 = .ok (.aload_n 0, 1) := by decide +kernel
theorem dX6_copyFrom_26 : decode cX6_copyFrom 26 = .ok (.getfield 18, 3) := by decide +kernel
theorem dX6_copyFrom_29 : decode cX6_copyFrom 29 = .ok (.aload_n 1, 1) := by decide +kernel
theorem dX6_copyFrom_30 : decode cX6_copyFrom 30 = .ok (.getfield 18, 3) := by decide +kernel
theorem dX6_copyFrom_33 : decode cX6_copyFrom 33 = .ok (.invokevirtual 32, 3) := by decide +kernel
theorem dX6_copyFrom_36 : decode cX6_copyFrom 36 = .ok (.return_, 1) := by decide +kernel
theorem dX6_beginAt_0 : decode cX6_beginAt 0 = .ok (.aload_n 0, 1) := by decide +kernel
theorem dX6_beginAt_1 : decode cX6_beginAt 1 = .ok (.iconst 0, 1) := by decide +kernel
theorem dX6_beginAt_2 : decode cX6_beginAt 2 = .ok (.putfield 22, 3) := by decide +kernel
theorem dX6_beginAt_5 : decode cX6_beginAt 5 = .ok (.aload_n 0, 1) := by decide +kernel
theorem dX6_beginAt_6 : decode cX6_beginAt 6 = .ok (.getfield 18, 3) := by decide +kernel
theorem dX6_beginAt_9 : decode cX6_beginAt 9 = .ok (.invokevirtual 36, 3) := by decide +kernel
theorem dX6_beginAt_12 : decode cX6_beginAt 12 = .ok (.aload_n 0, 1) := by decide +kernel
theorem dX6_beginAt_13 : decode cX6_beginAt 13 = .ok (.iload_n 1, 1) := by decide +kernel
theorem dX6_beginAt_14 : decode cX6_beginAt 14 = .ok (.iconst 0, 1) := by decide +kernel
theorem dX6_beginAt_15 : decode cX6_beginAt 15 = .ok (.invokevirtual 39, 3) := by decide +kernel
theorem dX6_beginAt_18 : decode cX6_beginAt 18 = .ok (.pop, 1) := by decide +kernel
theorem dX6_beginAt_19 : decode cX6_beginAt 19 = .ok (.return_, 1) := by decide +kernel
theorem dX6_add_0 : decode cX6_add 0 = .ok (.aload_n 0, 1) := by decide +kernel
theorem dX6_add_1 : decode cX6_add 1 = .ok (.getfield 18, 3) := by decide +kernel
theorem dX6_add_4 : decode cX6_add 4 = .ok (.iload_n 1, 1) := by decide +kernel
theorem dX6_add_5 : decode cX6_add 5 = .ok (.invokevirtual 43, 3) := by decide +kernel
theorem dX6_add_8 : decode cX6_add 8 = .ok (.ifCond .ne 13, 3) := by decide +kernel
theorem dX6_add_11 : decode cX6_add 11 = .ok (.aload_n 0, 1) := by decide +kernel
theorem dX6_add_12 : decode cX6_add 12 = .ok (.getfield 22, 3) := by decide +kernel
theorem dX6_add_15 : decode cX6_add 15 = .ok (.sipush 512, 3) := by decide +kernel
theorem dX6_add_18 : decode cX6_add 18 = .ok (.if_icmp .lt 5, 3) := by decide +kernel
theorem dX6_add_21 : decode cX6_add 21 = .ok (.iconst 0, 1) := by decide +kernel
theorem dX6_add_22 : decode cX6_add 22 = .ok (.ireturn, 1) := by decide +kernel
theorem dX6_add_23 : decode cX6_add 23 = .ok (.aload_n 0, 1) := by decide +kernel
theorem dX6_add_24 : decode cX6_add 24 = .ok (.getfield 9, 3) := by decide +kernel
theorem dX6_add_27 : decode cX6_add 27 = .ok (.aload_n 0, 1) := by decide +kernel
theorem dX6_add_28 : decode cX6_add 28 = .ok (.getfield 22, 3) := by decide +kernel
theorem dX6_add_31 : decode cX6_add 31 = .ok (.sipush 512, 3) := by decide +kernel
theorem dX6_add_34 : decode cX6_add 34 = .ok (.iload_n 2, 1) := by decide +kernel
theorem dX6_add_35 : decode cX6_add 35 = .ok (.imul, 1) := by decide +kernel
theorem dX6_add_36 : decode cX6_add 36 = .ok (.iload_n 1, 1) := by decide +kernel
theorem dX6_add_37 : decode cX6_add 37 = .ok (.iadd, 1) := by decide +kernel
theorem dX6_add_38 : decode cX6_add 38 = .ok (.iastore, 1) := by decide +kernel
theorem dX6_add_39 : decode cX6_add 39 = .ok (.aload_n 0, 1) := by decide +kernel
theorem dX6_add_40 : decode cX6_add 40 = .ok (.dup, 1) := by decide +kernel
theorem dX6_add_41 : decode cX6_add 41 = .ok (.getfield 22, 3) := by decide +kernel
theorem dX6_add_44 : decode cX6_add 44 = .ok (.iconst 1, 1) := by decide +kernel
theorem dX6_add_45 : decode cX6_add 45 = .ok (.iadd, 1) := by decide +kernel
theorem dX6_add_46 : decode cX6_add 46 = .ok (.putfield 22, 3) := by decide +kernel
theorem dX6_add_49 : decode cX6_add 49 = .ok (.aload_n 0, 1) := by decide +kernel
theorem dX6_add_50 : decode cX6_add 50 = .ok (.getfield 18, 3) := by decide +kernel
theorem dX6_add_53 : decode cX6_add 53 = .ok (.iload_n 1, 1) := by decide +kernel
theorem dX6_add_54 : decode cX6_add 54 = .ok (.invokevirtual 47, 3) := by decide +kernel
theorem dX6_add_57 : decode cX6_add 57 = .ok (.iconst 1, 1) := by decide +kernel
theorem dX6_add_58 : decode cX6_add 58 = .ok (.ireturn, 1) := by decide +kernel
theorem dX6_stateAt_0 : decode cX6_stateAt 0 = .ok (.aload_n 0, 1) := by decide +kernel
theorem dX6_stateAt_1 : decode cX6_stateAt 1 = .ok (.getfield 9, 3) := by decide +kernel
theorem dX6_stateAt_4 : decode cX6_stateAt 4 = .ok (.iload_n 1, 1) := by decide +kernel
theorem dX6_stateAt_5 : decode cX6_stateAt 5 = .ok (.iaload, 1) := by decide +kernel
theorem dX6_stateAt_6 : decode cX6_stateAt 6 = .ok (.sipush 512, 3) := by decide +kernel
theorem dX6_stateAt_9 : decode cX6_stateAt 9 = .ok (.irem, 1) := by decide +kernel
theorem dX6_stateAt_10 : decode cX6_stateAt 10 = .ok (.ireturn, 1) := by decide +kernel
theorem dX6_runAt_0 : decode cX6_runAt 0 = .ok (.aload_n 0, 1) := by decide +kernel
theorem dX6_runAt_1 : decode cX6_runAt 1 = .ok (.getfield 9, 3) := by decide +kernel
theorem dX6_runAt_4 : decode cX6_runAt 4 = .ok (.iload_n 1, 1) := by decide +kernel
theorem dX6_runAt_5 : decode cX6_runAt 5 = .ok (.iaload, 1) := by decide +kernel
theorem dX6_runAt_6 : decode cX6_runAt 6 = .ok (.sipush 512, 3) := by decide +kernel
theorem dX6_runAt_9 : decode cX6_runAt 9 = .ok (.idiv, 1) := by decide +kernel
theorem dX6_runAt_10 : decode cX6_runAt 10 = .ok (.ireturn, 1) := by decide +kernel
theorem dX6_firstMiss_0 : decode cX6_firstMiss 0 = .ok (.iconst 0, 1) := by decide +kernel
theorem dX6_firstMiss_1 : decode cX6_firstMiss 1 = .ok (.istore_n 2, 1) := by decide +kernel
theorem dX6_firstMiss_2 : decode cX6_firstMiss 2 = .ok (.iload_n 2, 1) := by decide +kernel
theorem dX6_firstMiss_3 : decode cX6_firstMiss 3 = .ok (.aload_n 0, 1) := by decide +kernel
theorem dX6_firstMiss_4 : decode cX6_firstMiss 4 = .ok (.getfield 22, 3) := by decide +kernel
theorem dX6_firstMiss_7 : decode cX6_firstMiss 7 = .ok (.if_icmp .ge 23, 3) := by decide +kernel
theorem dX6_firstMiss_10 : decode cX6_firstMiss 10 = .ok (.iload_n 1, 1) := by decide +kernel
theorem dX6_firstMiss_11 : decode cX6_firstMiss 11 = .ok (.aload_n 0, 1) := by decide +kernel
theorem dX6_firstMiss_12 : decode cX6_firstMiss 12 = .ok (.iload_n 2, 1) := by decide +kernel
theorem dX6_firstMiss_13 : decode cX6_firstMiss 13 = .ok (.invokevirtual 50, 3) := by decide +kernel
theorem dX6_firstMiss_16 : decode cX6_firstMiss 16 = .ok (.invokestatic 54, 3) := by decide +kernel
theorem dX6_firstMiss_19 : decode cX6_firstMiss 19 = .ok (.ifCond .ne 5, 3) := by decide +kernel
theorem dX6_firstMiss_22 : decode cX6_firstMiss 22 = .ok (.iload_n 2, 1) := by decide +kernel
theorem dX6_firstMiss_23 : decode cX6_firstMiss 23 = .ok (.ireturn, 1) := by decide +kernel
theorem dX6_firstMiss_24 : decode cX6_firstMiss 24 = .ok (.iinc 2 1, 3) := by decide +kernel
theorem dX6_firstMiss_27 : decode cX6_firstMiss 27 = .ok (.goto (-25), 3) := by decide +kernel
theorem dX6_firstMiss_30 : decode cX6_firstMiss 30 = .ok (.bipush (-6), 2) := by decide +kernel
theorem dX6_firstMiss_32 : decode cX6_firstMiss 32 = .ok (.ireturn, 1) := by decide +kernel
theorem dX7_init_0 : decode cX7_init 0 = .ok (.aload_n 0, 1) := by decide +kernel
theorem dX7_init_1 : decode cX7_init 1 = .ok (.invokespecial 3, 3) := by decide +kernel
theorem dX7_init_4 : decode cX7_init 4 = .ok (.aload_n 0, 1) := by decide +kernel
theorem dX7_init_5 : decode cX7_init 5 = .ok (.bipush 8, 2) := by decide +kernel
theorem dX7_init_7 : decode cX7_init 7 = .ok (.newarray .long, 2) := by decide +kernel
theorem dX7_init_9 : decode cX7_init 9 = .ok (.putfield 9, 3) := by decide +kernel
theorem dX7_init_12 : decode cX7_init 12 = .ok (.return_, 1) := by decide +kernel
theorem dX7_clear_0 : decode cX7_clear 0 = .ok (.iconst 0, 1) := by decide +kernel
theorem dX7_clear_1 : decode cX7_clear 1 = .ok (.istore_n 1, 1) := by decide +kernel
theorem dX7_clear_2 : decode cX7_clear 2 = .ok (.iload_n 1, 1) := by decide +kernel
theorem dX7_clear_3 : decode cX7_clear 3 = .ok (.aload_n 0, 1) := by decide +kernel
theorem dX7_clear_4 : decode cX7_clear 4 = .ok (.getfield 9, 3) := by decide +kernel
theorem dX7_clear_7 : decode cX7_clear 7 = .ok (.arraylength, 1) := by decide +kernel
theorem dX7_clear_8 : decode cX7_clear 8 = .ok (.if_icmp .ge 16, 3) := by decide +kernel
theorem dX7_clear_11 : decode cX7_clear 11 = .ok (.aload_n 0, 1) := by decide +kernel
theorem dX7_clear_12 : decode cX7_clear 12 = .ok (.getfield 9, 3) := by decide +kernel
theorem dX7_clear_15 : decode cX7_clear 15 = .ok (.iload_n 1, 1) := by decide +kernel
theorem dX7_clear_16 : decode cX7_clear 16 = .ok (.lconst 0, 1) := by decide +kernel
theorem dX7_clear_17 : decode cX7_clear 17 = .ok (.lastore, 1) := by decide +kernel
theorem dX7_clear_18 : decode cX7_clear 18 = .ok (.iinc 1 1, 3) := by decide +kernel
theorem dX7_clear_21 : decode cX7_clear 21 = .ok (.goto (-19), 3) := by decide +kernel
theorem dX7_clear_24 : decode cX7_clear 24 = .ok (.return_, 1) := by decide +kernel
theorem dX7_fill_0 : decode cX7_fill 0 = .ok (.iconst 0, 1) := by decide +kernel
theorem dX7_fill_1 : decode cX7_fill 1 = .ok (.istore_n 1, 1) := by decide +kernel
theorem dX7_fill_2 : decode cX7_fill 2 = .ok (.iload_n 1, 1) := by decide +kernel
theorem dX7_fill_3 : decode cX7_fill 3 = .ok (.aload_n 0, 1) := by decide +kernel
theorem dX7_fill_4 : decode cX7_fill 4 = .ok (.getfield 9, 3) := by decide +kernel
theorem dX7_fill_7 : decode cX7_fill 7 = .ok (.arraylength, 1) := by decide +kernel
theorem dX7_fill_8 : decode cX7_fill 8 = .ok (.if_icmp .ge 18, 3) := by decide +kernel
theorem dX7_fill_11 : decode cX7_fill 11 = .ok (.aload_n 0, 1) := by decide +kernel
theorem dX7_fill_12 : decode cX7_fill 12 = .ok (.getfield 9, 3) := by decide +kernel
theorem dX7_fill_15 : decode cX7_fill 15 = .ok (.iload_n 1, 1) := by decide +kernel
theorem dX7_fill_16 : decode cX7_fill 16 = .ok (.ldc2_w 15, 3) := by decide +kernel
theorem dX7_fill_19 : decode cX7_fill 19 = .ok (.lastore, 1) := by decide +kernel
theorem dX7_fill_20 : decode cX7_fill 20 = .ok (.iinc 1 1, 3) := by decide +kernel
theorem dX7_fill_23 : decode cX7_fill 23 = .ok (.goto (-21), 3) := by decide +kernel
theorem dX7_fill_26 : decode cX7_fill 26 = .ok (.return_, 1) := by decide +kernel
theorem dX7_copyFrom_0 : decode cX7_copyFrom 0 = .ok (.aload_n 1, 1) := by decide +kernel
theorem dX7_copyFrom_1 : decode cX7_copyFrom 1 = .ok (.getfield 9, 3) := by decide +kernel
theorem dX7_copyFrom_4 : decode cX7_copyFrom 4 = .ok (.iconst 0, 1) := by decide +kernel
theorem dX7_copyFrom_5 : decode cX7_copyFrom 5 = .ok (.aload_n 0, 1) := by decide +kernel
theorem dX7_copyFrom_6 : decode cX7_copyFrom 6 = .ok (.getfield 9, 3) := by decide +kernel
theorem dX7_copyFrom_9 : decode cX7_copyFrom 9 = .ok (.iconst 0, 1) := by decide +kernel
theorem dX7_copyFrom_10 : decode cX7_copyFrom 10 = .ok (.aload_n 0, 1) := by decide +kernel
theorem dX7_copyFrom_11 : decode cX7_copyFrom 11 = .ok (.getfield 9, 3) := by decide +kernel
theorem dX7_copyFrom_14 : decode cX7_copyFrom 14 = .ok (.arraylength, 1) := by decide +kernel
theorem dX7_copyFrom_15 : decode cX7_copyFrom 15 = .ok (.invokestatic 17, 3) := by decide +kernel
theorem dX7_copyFrom_18 : decode cX7_copyFrom 18 = .ok (.return_, 1) := by decide +kernel
theorem dX7_has_0 : decode cX7_has 0 = .ok (.iload_n 1, 1) := by decide +kernel
theorem dX7_has_1 : decode cX7_has 1 = .ok (.invokestatic 23, 3) := by decide +kernel
theorem dX7_has_4 : decode cX7_has 4 = .ok (.ifCond .eq 28, 3) := by decide +kernel
theorem dX7_has_7 : decode cX7_has 7 = .ok (.aload_n 0, 1) := by decide +kernel
theorem dX7_has_8 : decode cX7_has 8 = .ok (.getfield 9, 3) := by decide +kernel
theorem dX7_has_11 : decode cX7_has 11 = .ok (.iload_n 1, 1) := by decide +kernel
theorem dX7_has_12 : decode cX7_has 12 = .ok (.bipush 6, 2) := by decide +kernel
theorem dX7_has_14 : decode cX7_has 14 = .ok (.ishr, 1) := by decide +kernel
theorem dX7_has_15 : decode cX7_has 15 = .ok (.laload, 1) := by decide +kernel
theorem dX7_has_16 : decode cX7_has 16 = .ok (.iload_n 1, 1) := by decide +kernel
theorem dX7_has_17 : decode cX7_has 17 = .ok (.bipush 63, 2) := by decide +kernel
theorem dX7_has_19 : decode cX7_has 19 = .ok (.iand, 1) := by decide +kernel
theorem dX7_has_20 : decode cX7_has 20 = .ok (.lushr, 1) := by decide +kernel
theorem dX7_has_21 : decode cX7_has 21 = .ok (.lconst 1, 1) := by decide +kernel
theorem dX7_has_22 : decode cX7_has 22 = .ok (.land, 1) := by decide +kernel
theorem dX7_has_23 : decode cX7_has 23 = .ok (.lconst 0, 1) := by decide +kernel
theorem dX7_has_24 : decode cX7_has 24 = .ok (.lcmp, 1) := by decide +kernel
theorem dX7_has_25 : decode cX7_has 25 = .ok (.ifCond .eq 7, 3) := by decide +kernel
theorem dX7_has_28 : decode cX7_has 28 = .ok (.iconst 1, 1) := by decide +kernel
theorem dX7_has_29 : decode cX7_has 29 = .ok (.goto 4, 3) := by decide +kernel
theorem dX7_has_32 : decode cX7_has 32 = .ok (.iconst 0, 1) := by decide +kernel
theorem dX7_has_33 : decode cX7_has 33 = .ok (.ireturn, 1) := by decide +kernel
theorem dX7_add_0 : decode cX7_add 0 = .ok (.iload_n 1, 1) := by decide +kernel
theorem dX7_add_1 : decode cX7_add 1 = .ok (.invokestatic 23, 3) := by decide +kernel
theorem dX7_add_4 : decode cX7_add 4 = .ok (.ifCond .eq 21, 3) := by decide +kernel
theorem dX7_add_7 : decode cX7_add 7 = .ok (.aload_n 0, 1) := by decide +kernel
theorem dX7_add_8 : decode cX7_add 8 = .ok (.getfield 9, 3) := by decide +kernel
theorem dX7_add_11 : decode cX7_add 11 = .ok (.iload_n 1, 1) := by decide +kernel
theorem dX7_add_12 : decode cX7_add 12 = .ok (.bipush 6, 2) := by decide +kernel
theorem dX7_add_14 : decode cX7_add 14 = .ok (.ishr, 1) := by decide +kernel
theorem dX7_add_15 : decode cX7_add 15 = .ok (.dup2, 1) := by decide +kernel
theorem dX7_add_16 : decode cX7_add 16 = .ok (.laload, 1) := by decide +kernel
theorem dX7_add_17 : decode cX7_add 17 = .ok (.lconst 1, 1) := by decide +kernel
theorem dX7_add_18 : decode cX7_add 18 = .ok (.iload_n 1, 1) := by decide +kernel
theorem dX7_add_19 : decode cX7_add 19 = .ok (.bipush 63, 2) := by decide +kernel
theorem dX7_add_21 : decode cX7_add 21 = .ok (.iand, 1) := by decide +kernel
theorem dX7_add_22 : decode cX7_add 22 = .ok (.lshl, 1) := by decide +kernel
theorem dX7_add_23 : decode cX7_add 23 = .ok (.lor, 1) := by decide +kernel
theorem dX7_add_24 : decode cX7_add 24 = .ok (.lastore, 1) := by decide +kernel
theorem dX7_add_25 : decode cX7_add 25 = .ok (.return_, 1) := by decide +kernel
theorem dX7_size_0 : decode cX7_size 0 = .ok (.iconst 0, 1) := by decide +kernel
theorem dX7_size_1 : decode cX7_size 1 = .ok (.istore_n 1, 1) := by decide +kernel
theorem dX7_size_2 : decode cX7_size 2 = .ok (.iconst 0, 1) := by decide +kernel
theorem dX7_size_3 : decode cX7_size 3 = .ok (.istore_n 2, 1) := by decide +kernel
theorem dX7_size_4 : decode cX7_size 4 = .ok (.iload_n 2, 1) := by decide +kernel
theorem dX7_size_5 : decode cX7_size 5 = .ok (.aload_n 0, 1) := by decide +kernel
theorem dX7_size_6 : decode cX7_size 6 = .ok (.getfield 9, 3) := by decide +kernel
theorem dX7_size_9 : decode cX7_size 9 = .ok (.arraylength, 1) := by decide +kernel
theorem dX7_size_10 : decode cX7_size 10 = .ok (.if_icmp .ge 21, 3) := by decide +kernel
theorem dX7_size_13 : decode cX7_size 13 = .ok (.iload_n 1, 1) := by decide +kernel
theorem dX7_size_14 : decode cX7_size 14 = .ok (.aload_n 0, 1) := by decide +kernel
theorem dX7_size_15 : decode cX7_size 15 = .ok (.getfield 9, 3) := by decide +kernel
theorem dX7_size_18 : decode cX7_size 18 = .ok (.iload_n 2, 1) := by decide +kernel
theorem dX7_size_19 : decode cX7_size 19 = .ok (.laload, 1) := by decide +kernel
theorem dX7_size_20 : decode cX7_size 20 = .ok (.invokestatic 27, 3) := by decide +kernel
theorem dX7_size_23 : decode cX7_size 23 = .ok (.iadd, 1) := by decide +kernel
theorem dX7_size_24 : decode cX7_size 24 = .ok (.istore_n 1, 1) := by decide +kernel
theorem dX7_size_25 : decode cX7_size 25 = .ok (.iinc 2 1, 3) := by decide +kernel
theorem dX7_size_28 : decode cX7_size 28 = .ok (.goto (-24), 3) := by decide +kernel
theorem dX7_size_31 : decode cX7_size 31 = .ok (.iload_n 1, 1) := by decide +kernel
theorem dX7_size_32 : decode cX7_size 32 = .ok (.ireturn, 1) := by decide +kernel
theorem dX7_firstMiss_0 : decode cX7_firstMiss 0 = .ok (.iconst 0, 1) := by decide +kernel
theorem dX7_firstMiss_1 : decode cX7_firstMiss 1 = .ok (.istore_n 2, 1) := by decide +kernel
theorem dX7_firstMiss_2 : decode cX7_firstMiss 2 = .ok (.iload_n 2, 1) := by decide +kernel
theorem dX7_firstMiss_3 : decode cX7_firstMiss 3 = .ok (.sipush 512, 3) := by decide +kernel
theorem dX7_firstMiss_6 : decode cX7_firstMiss 6 = .ok (.if_icmp .ge 27, 3) := by decide +kernel
theorem dX7_firstMiss_9 : decode cX7_firstMiss 9 = .ok (.aload_n 0, 1) := by decide +kernel
theorem dX7_firstMiss_10 : decode cX7_firstMiss 10 = .ok (.iload_n 2, 1) := by decide +kernel
theorem dX7_firstMiss_11 : decode cX7_firstMiss 11 = .ok (.invokevirtual 33, 3) := by decide +kernel
theorem dX7_firstMiss_14 : decode cX7_firstMiss 14 = .ok (.ifCond .eq 13, 3) := by decide +kernel
theorem dX7_firstMiss_17 : decode cX7_firstMiss 17 = .ok (.iload_n 1, 1) := by decide +kernel
theorem dX7_firstMiss_18 : decode cX7_firstMiss 18 = .ok (.iload_n 2, 1) := by decide +kernel
theorem dX7_firstMiss_19 : decode cX7_firstMiss 19 = .ok (.invokestatic 36, 3) := by decide +kernel
theorem dX7_firstMiss_22 : decode cX7_firstMiss 22 = .ok (.ifCond .ne 5, 3) := by decide +kernel
theorem dX7_firstMiss_25 : decode cX7_firstMiss 25 = .ok (.iload_n 2, 1) := by decide +kernel
theorem dX7_firstMiss_26 : decode cX7_firstMiss 26 = .ok (.ireturn, 1) := by decide +kernel
theorem dX7_firstMiss_27 : decode cX7_firstMiss 27 = .ok (.iinc 2 1, 3) := by decide +kernel
theorem dX7_firstMiss_30 : decode cX7_firstMiss 30 = .ok (.goto (-28), 3) := by decide +kernel
theorem dX7_firstMiss_33 : decode cX7_firstMiss 33 = .ok (.bipush (-6), 2) := by decide +kernel
theorem dX7_firstMiss_35 : decode cX7_firstMiss 35 = .ok (.ireturn, 1) := by decide +kernel
theorem dX8_init_0 : decode cX8_init 0 = .ok (.aload_n 0, 1) := by decide +kernel
theorem dX8_init_1 : decode cX8_init 1 = .ok (.invokespecial 3, 3) := by decide +kernel
theorem dX8_init_4 : decode cX8_init 4 = .ok (.aload_n 0, 1) := by decide +kernel
theorem dX8_init_5 : decode cX8_init 5 = .ok (.bipush 8, 2) := by decide +kernel
theorem dX8_init_7 : decode cX8_init 7 = .ok (.newarray .int, 2) := by decide +kernel
theorem dX8_init_9 : decode cX8_init 9 = .ok (.putfield 9, 3) := by decide +kernel
theorem dX8_init_12 : decode cX8_init 12 = .ok (.aload_n 0, 1) := by decide +kernel
theorem dX8_init_13 : decode cX8_init 13 = .ok (.bipush 8, 2) := by decide +kernel
theorem dX8_init_15 : decode cX8_init 15 = .ok (.newarray .int, 2) := by decide +kernel
theorem dX8_init_17 : decode cX8_init 17 = .ok (.putfield 15, 3) := by decide +kernel
theorem dX8_init_20 : decode cX8_init 20 = .ok (.aload_n 0, 1) := by decide +kernel
theorem dX8_init_21 : decode cX8_init 21 = .ok (.bipush 8, 2) := by decide +kernel
theorem dX8_init_23 : decode cX8_init 23 = .ok (.newarray .int, 2) := by decide +kernel
theorem dX8_init_25 : decode cX8_init 25 = .ok (.putfield 18, 3) := by decide +kernel
theorem dX8_init_28 : decode cX8_init 28 = .ok (.aload_n 0, 1) := by decide +kernel
theorem dX8_init_29 : decode cX8_init 29 = .ok (.bipush 8, 2) := by decide +kernel
theorem dX8_init_31 : decode cX8_init 31 = .ok (.newarray .int, 2) := by decide +kernel
theorem dX8_init_33 : decode cX8_init 33 = .ok (.putfield 21, 3) := by decide +kernel
theorem dX8_init_36 : decode cX8_init 36 = .ok (.aload_n 0, 1) := by decide +kernel
theorem dX8_init_37 : decode cX8_init 37 = .ok (.bipush 8, 2) := by decide +kernel
theorem dX8_init_39 : decode cX8_init 39 = .ok (.newarray .int, 2) := by decide +kernel
theorem dX8_init_41 : decode cX8_init 41 = .ok (.putfield 24, 3) := by decide +kernel
theorem dX8_init_44 : decode cX8_init 44 = .ok (.return_, 1) := by decide +kernel
theorem dX8_copyFrom_0 : decode cX8_copyFrom 0 = .ok (.aload_n 0, 1) := by decide +kernel
theorem dX8_copyFrom_1 : decode cX8_copyFrom 1 = .ok (.aload_n 1, 1) := by decide +kernel
theorem dX8_copyFrom_2 : decode cX8_copyFrom 2 = .ok (.getfield 27, 3) := by decide +kernel
theorem dX8_copyFrom_5 : decode cX8_copyFrom 5 = .ok (.putfield 27, 3) := by decide +kernel
theorem dX8_copyFrom_8 : decode cX8_copyFrom 8 = .ok (.iconst 0, 1) := by decide +kernel
theorem dX8_copyFrom_9 : decode cX8_copyFrom 9 = .ok (.istore_n 2, 1) := by decide +kernel
theorem dX8_copyFrom_10 : decode cX8_copyFrom 10 = .ok (.iload_n 2, 1) := by decide +kernel
theorem dX8_copyFrom_11 : decode cX8_copyFrom 11 = .ok (.bipush 8, 2) := by decide +kernel
theorem dX8_copyFrom_13 : decode cX8_copyFrom 13 = .ok (.if_icmp .ge 16, 3) := by decide +kernel
theorem dX8_copyFrom_16 : decode cX8_copyFrom 16 = .ok (.aload_n 0, 1) := by decide +kernel
theorem dX8_copyFrom_17 : decode cX8_copyFrom 17 = .ok (.aload_n 1, 1) := by decide +kernel
theorem dX8_copyFrom_18 : decode cX8_copyFrom 18 = .ok (.iload_n 2, 1) := by decide +kernel
theorem dX8_copyFrom_19 : decode cX8_copyFrom 19 = .ok (.iload_n 2, 1) := by decide +kernel
theorem dX8_copyFrom_20 : decode cX8_copyFrom 20 = .ok (.invokevirtual 31, 3) := by decide +kernel
theorem dX8_copyFrom_23 : decode cX8_copyFrom 23 = .ok (.iinc 2 1, 3) := by decide +kernel
theorem dX8_copyFrom_26 : decode cX8_copyFrom 26 = .ok (.goto (-16), 3) := by decide +kernel
theorem dX8_copyFrom_29 : decode cX8_copyFrom 29 = .ok (.return_, 1) := by decide +kernel
theorem dX8_has_0 : decode cX8_has 0 = .ok (.iload_n 1, 1) := by decide +kernel
theorem dX8_has_1 : decode cX8_has 1 = .ok (.ifCond .lt 15, 3) := by decide +kernel
theorem dX8_has_4 : decode cX8_has 4 = .ok (.iload_n 1, 1) := by decide +kernel
theorem dX8_has_5 : decode cX8_has 5 = .ok (.aload_n 0, 1) := by decide +kernel
theorem dX8_has_6 : decode cX8_has 6 = .ok (.getfield 27, 3) := by decide +kernel
theorem dX8_has_9 : decode cX8_has 9 = .ok (.if_icmp .ge 7, 3) := by decide +kernel
theorem dX8_has_12 : decode cX8_has 12 = .ok (.iconst 1, 1) := by decide +kernel
theorem dX8_has_13 : decode cX8_has 13 = .ok (.goto 4, 3) := by decide +kernel
theorem dX8_has_16 : decode cX8_has 16 = .ok (.iconst 0, 1) := by decide +kernel
theorem dX8_has_17 : decode cX8_has 17 = .ok (.ireturn, 1) := by decide +kernel
theorem dX8_isAction_0 : decode cX8_isAction 0 = .ok (.iload_n 1, 1) := by decide +kernel
theorem dX8_isAction_1 : decode cX8_isAction 1 = .ok (.ifCond .lt 17, 3) := by decide +kernel
theorem dX8_isAction_4 : decode cX8_isAction 4 = .ok (.iload_n 1, 1) := by decide +kernel
theorem dX8_isAction_5 : decode cX8_isAction 5 = .ok (.iconst 2, 1) := by decide +kernel
theorem dX8_isAction_6 : decode cX8_isAction 6 = .ok (.if_icmp .gt 12, 3) := by decide +kernel
theorem dX8_isAction_9 : decode cX8_isAction 9 = .ok (.iload_n 2, 1) := by decide +kernel
theorem dX8_isAction_10 : decode cX8_isAction 10 = .ok (.ifCond .lt 8, 3) := by decide +kernel
theorem dX8_isAction_13 : decode cX8_isAction 13 = .ok (.iload_n 2, 1) := by decide +kernel
theorem dX8_isAction_14 : decode cX8_isAction 14 = .ok (.iconst 2, 1) := by decide +kernel
theorem dX8_isAction_15 : decode cX8_isAction 15 = .ok (.if_icmp .le 5, 3) := by decide +kernel
theorem dX8_isAction_18 : decode cX8_isAction 18 = .ok (.iconst 0, 1) := by decide +kernel
theorem dX8_isAction_19 : decode cX8_isAction 19 = .ok (.ireturn, 1) := by decide +kernel
theorem dX8_isAction_20 : decode cX8_isAction 20 = .ok (.iload_n 0, 1) := by decide +kernel
theorem dX8_isAction_21 : decode cX8_isAction 21 = .ok (.tableswitch 64 0 2 #[27, 44, 49], 27) := by decide +kernel
theorem dX8_isAction_48 : decode cX8_isAction 48 = .ok (.iload_n 2, 1) := by decide +kernel
theorem dX8_isAction_49 : decode cX8_isAction 49 = .ok (.ifCond .ne 14, 3) := by decide +kernel
theorem dX8_isAction_52 : decode cX8_isAction 52 = .ok (.iload_n 3, 1) := by decide +kernel
theorem dX8_isAction_53 : decode cX8_isAction 53 = .ok (.invokestatic 35, 3) := by decide +kernel
theorem dX8_isAction_56 : decode cX8_isAction 56 = .ok (.ifCond .eq 7, 3) := by decide +kernel
theorem dX8_isAction_59 : decode cX8_isAction 59 = .ok (.iconst 1, 1) := by decide +kernel
theorem dX8_isAction_60 : decode cX8_isAction 60 = .ok (.goto 4, 3) := by decide +kernel
theorem dX8_isAction_63 : decode cX8_isAction 63 = .ok (.iconst 0, 1) := by decide +kernel
theorem dX8_isAction_64 : decode cX8_isAction 64 = .ok (.ireturn, 1) := by decide +kernel
theorem dX8_isAction_65 : decode cX8_isAction 65 = .ok (.iload_n 3, 1) := by decide +kernel
theorem dX8_isAction_66 : decode cX8_isAction 66 = .ok (.invokestatic 41, 3) := by decide +kernel
theorem dX8_isAction_69 : decode cX8_isAction 69 = .ok (.ireturn, 1) := by decide +kernel
theorem dX8_isAction_70 : decode cX8_isAction 70 = .ok (.iload_n 2, 1) := by decide +kernel
theorem dX8_isAction_71 : decode cX8_isAction 71 = .ok (.iload_n 1, 1) := by decide +kernel
theorem dX8_isAction_72 : decode cX8_isAction 72 = .ok (.if_icmp .eq 11, 3) := by decide +kernel
theorem dX8_isAction_75 : decode cX8_isAction 75 = .ok (.iload_n 3, 1) := by decide +kernel
theorem dX8_isAction_76 : decode cX8_isAction 76 = .ok (.ifCond .ne 7, 3) := by decide +kernel
theorem dX8_isAction_79 : decode cX8_isAction 79 = .ok (.iconst 1, 1) := by decide +kernel
theorem dX8_isAction_80 : decode cX8_isAction 80 = .ok (.goto 4, 3) := by decide +kernel
theorem dX8_isAction_83 : decode cX8_isAction 83 = .ok (.iconst 0, 1) := by decide +kernel
theorem dX8_isAction_84 : decode cX8_isAction 84 = .ok (.ireturn, 1) := by decide +kernel
theorem dX8_isAction_85 : decode cX8_isAction 85 = .ok (.iconst 0, 1) := by decide +kernel
theorem dX8_isAction_86 : decode cX8_isAction 86 = .ok (.ireturn, 1) := by decide +kernel
theorem dX8_add_0 : decode cX8_add 0 = .ok (.iload_n 1, 1) := by decide +kernel
theorem dX8_add_1 : decode cX8_add 1 = .ok (.invokestatic 44, 3) := by decide +kernel
theorem dX8_add_4 : decode cX8_add 4 = .ok (.ifCond .eq 15, 3) := by decide +kernel
theorem dX8_add_7 : decode cX8_add 7 = .ok (.iload_n 2, 1) := by decide +kernel
theorem dX8_add_8 : decode cX8_add 8 = .ok (.iload_n 3, 1) := by decide +kernel
theorem dX8_add_9 : decode cX8_add 9 = .ok (.iload 4, 2) := by decide +kernel
theorem dX8_add_11 : decode cX8_add 11 = .ok (.iload 5, 2) := by decide +kernel
theorem dX8_add_13 : decode cX8_add 13 = .ok (.invokestatic 47, 3) := by decide +kernel
theorem dX8_add_16 : decode cX8_add 16 = .ok (.ifCond .ne 6, 3) := by decide +kernel
theorem dX8_add_19 : decode cX8_add 19 = .ok (.bipush (-2), 2) := by decide +kernel
theorem dX8_add_21 : decode cX8_add 21 = .ok (.ireturn, 1) := by decide +kernel
theorem dX8_add_22 : decode cX8_add 22 = .ok (.aload_n 0, 1) := by decide +kernel
theorem dX8_add_23 : decode cX8_add 23 = .ok (.getfield 27, 3) := by decide +kernel
theorem dX8_add_26 : decode cX8_add 26 = .ok (.bipush 8, 2) := by decide +kernel
theorem dX8_add_28 : decode cX8_add 28 = .ok (.if_icmp .lt 6, 3) := by decide +kernel
theorem dX8_add_31 : decode cX8_add 31 = .ok (.bipush (-4), 2) := by decide +kernel
theorem dX8_add_33 : decode cX8_add 33 = .ok (.ireturn, 1) := by decide +kernel
theorem dX8_add_34 : decode cX8_add 34 = .ok (.aload_n 0, 1) := by decide +kernel
theorem dX8_add_35 : decode cX8_add 35 = .ok (.getfield 9, 3) := by decide +kernel
theorem dX8_add_38 : decode cX8_add 38 = .ok (.aload_n 0, 1) := by decide +kernel
theorem dX8_add_39 : decode cX8_add 39 = .ok (.getfield 27, 3) := by decide +kernel
theorem dX8_add_42 : decode cX8_add 42 = .ok (.iload_n 1, 1) := by decide +kernel
theorem dX8_add_43 : decode cX8_add 43 = .ok (.iastore, 1) := by decide +kernel
theorem dX8_add_44 : decode cX8_add 44 = .ok (.aload_n 0, 1) := by decide +kernel
theorem dX8_add_45 : decode cX8_add 45 = .ok (.getfield 15, 3) := by decide +kernel
theorem dX8_add_48 : decode cX8_add 48 = .ok (.aload_n 0, 1) := by decide +kernel
theorem dX8_add_49 : decode cX8_add 49 = .ok (.getfield 27, 3) := by decide +kernel
theorem dX8_add_52 : decode cX8_add 52 = .ok (.iload_n 2, 1) := by decide +kernel
theorem dX8_add_53 : decode cX8_add 53 = .ok (.iastore, 1) := by decide +kernel
theorem dX8_add_54 : decode cX8_add 54 = .ok (.aload_n 0, 1) := by decide +kernel
theorem dX8_add_55 : decode cX8_add 55 = .ok (.getfield 18, 3) := by decide +kernel
theorem dX8_add_58 : decode cX8_add 58 = .ok (.aload_n 0, 1) := by decide +kernel
theorem dX8_add_59 : decode cX8_add 59 = .ok (.getfield 27, 3) := by decide +kernel
theorem dX8_add_62 : decode cX8_add 62 = .ok (.iload_n 3, 1) := by decide +kernel
theorem dX8_add_63 : decode cX8_add 63 = .ok (.iastore, 1) := by decide +kernel
theorem dX8_add_64 : decode cX8_add 64 = .ok (.aload_n 0, 1) := by decide +kernel
theorem dX8_add_65 : decode cX8_add 65 = .ok (.getfield 21, 3) := by decide +kernel
theorem dX8_add_68 : decode cX8_add 68 = .ok (.aload_n 0, 1) := by decide +kernel
theorem dX8_add_69 : decode cX8_add 69 = .ok (.getfield 27, 3) := by decide +kernel
theorem dX8_add_72 : decode cX8_add 72 = .ok (.iload 4, 2) := by decide +kernel
theorem dX8_add_74 : decode cX8_add 74 = .ok (.iastore, 1) := by decide +kernel
theorem dX8_add_75 : decode cX8_add 75 = .ok (.aload_n 0, 1) := by decide +kernel
theorem dX8_add_76 : decode cX8_add 76 = .ok (.getfield 24, 3) := by decide +kernel
theorem dX8_add_79 : decode cX8_add 79 = .ok (.aload_n 0, 1) := by decide +kernel
theorem dX8_add_80 : decode cX8_add 80 = .ok (.getfield 27, 3) := by decide +kernel
theorem dX8_add_83 : decode cX8_add 83 = .ok (.iload 5, 2) := by decide +kernel
theorem dX8_add_85 : decode cX8_add 85 = .ok (.iastore, 1) := by decide +kernel
theorem dX8_add_86 : decode cX8_add 86 = .ok (.aload_n 0, 1) := by decide +kernel
theorem dX8_add_87 : decode cX8_add 87 = .ok (.dup, 1) := by decide +kernel
theorem dX8_add_88 : decode cX8_add 88 = .ok (.getfield 27, 3) := by decide +kernel
theorem dX8_add_91 : decode cX8_add 91 = .ok (.iconst 1, 1) := by decide +kernel
theorem dX8_add_92 : decode cX8_add 92 = .ok (.iadd, 1) := by decide +kernel
theorem dX8_add_93 : decode cX8_add 93 = .ok (.putfield 27, 3) := by decide +kernel
theorem dX8_add_96 : decode cX8_add 96 = .ok (.aload_n 0, 1) := by decide +kernel
theorem dX8_add_97 : decode cX8_add 97 = .ok (.getfield 27, 3) := by decide +kernel
theorem dX8_add_100 : decode cX8_add 100 = .ok (.iconst 1, 1) := by decide +kernel
theorem dX8_add_101 : decode cX8_add 101 = .ok (.isub, 1) := by decide +kernel
theorem dX8_add_102 : decode cX8_add 102 = .ok (.ireturn, 1) := by decide +kernel
theorem dX8_remove_0 : decode cX8_remove 0 = .ok (.aload_n 0, 1) := by decide +kernel
theorem dX8_remove_1 : decode cX8_remove 1 = .ok (.iload_n 1, 1) := by decide +kernel
theorem dX8_remove_2 : decode cX8_remove 2 = .ok (.invokevirtual 51, 3) := by decide +kernel
theorem dX8_remove_5 : decode cX8_remove 5 = .ok (.ifCond .ne 5, 3) := by decide +kernel
theorem dX8_remove_8 : decode cX8_remove 8 = .ok (.iconst (-1), 1) := by decide +kernel
theorem dX8_remove_9 : decode cX8_remove 9 = .ok (.ireturn, 1) := by decide +kernel
theorem dX8_remove_10 : decode cX8_remove 10 = .ok (.iload_n 1, 1) := by decide +kernel
theorem dX8_remove_11 : decode cX8_remove 11 = .ok (.iconst 1, 1) := by decide +kernel
theorem dX8_remove_12 : decode cX8_remove 12 = .ok (.iadd, 1) := by decide +kernel
theorem dX8_remove_13 : decode cX8_remove 13 = .ok (.istore_n 2, 1) := by decide +kernel
theorem dX8_remove_14 : decode cX8_remove 14 = .ok (.iload_n 2, 1) := by decide +kernel
theorem dX8_remove_15 : decode cX8_remove 15 = .ok (.aload_n 0, 1) := by decide +kernel
theorem dX8_remove_16 : decode cX8_remove 16 = .ok (.getfield 27, 3) := by decide +kernel
theorem dX8_remove_19 : decode cX8_remove 19 = .ok (.if_icmp .ge 18, 3) := by decide +kernel
theorem dX8_remove_22 : decode cX8_remove 22 = .ok (.aload_n 0, 1) := by decide +kernel
theorem dX8_remove_23 : decode cX8_remove 23 = .ok (.aload_n 0, 1) := by decide +kernel
theorem dX8_remove_24 : decode cX8_remove 24 = .ok (.iload_n 2, 1) := by decide +kernel
theorem dX8_remove_25 : decode cX8_remove 25 = .ok (.iload_n 2, 1) := by decide +kernel
theorem dX8_remove_26 : decode cX8_remove 26 = .ok (.iconst 1, 1) := by decide +kernel
theorem dX8_remove_27 : decode cX8_remove 27 = .ok (.isub, 1) := by decide +kernel
theorem dX8_remove_28 : decode cX8_remove 28 = .ok (.invokevirtual 31, 3) := by decide +kernel
theorem dX8_remove_31 : decode cX8_remove 31 = .ok (.iinc 2 1, 3) := by decide +kernel
theorem dX8_remove_34 : decode cX8_remove 34 = .ok (.goto (-20), 3) := by decide +kernel
theorem dX8_remove_37 : decode cX8_remove 37 = .ok (.aload_n 0, 1) := by decide +kernel
theorem dX8_remove_38 : decode cX8_remove 38 = .ok (.dup, 1) := by decide +kernel
theorem dX8_remove_39 : decode cX8_remove 39 = .ok (.getfield 27, 3) := by decide +kernel
theorem dX8_remove_42 : decode cX8_remove 42 = .ok (.iconst 1, 1) := by decide +kernel
theorem dX8_remove_43 : decode cX8_remove 43 = .ok (.isub, 1) := by decide +kernel
theorem dX8_remove_44 : decode cX8_remove 44 = .ok (.putfield 27, 3) := by decide +kernel
theorem dX8_remove_47 : decode cX8_remove 47 = .ok (.aload_n 0, 1) := by decide +kernel
theorem dX8_remove_48 : decode cX8_remove 48 = .ok (.getfield 27, 3) := by decide +kernel
theorem dX8_remove_51 : decode cX8_remove 51 = .ok (.ireturn, 1) := by decide +kernel
theorem dX8_copyStep_0 : decode cX8_copyStep 0 = .ok (.aload_n 0, 1) := by decide +kernel
theorem dX8_copyStep_1 : decode cX8_copyStep 1 = .ok (.getfield 9, 3) := by decide +kernel
theorem dX8_copyStep_4 : decode cX8_copyStep 4 = .ok (.iload_n 3, 1) := by decide +kernel
theorem dX8_copyStep_5 : decode cX8_copyStep 5 = .ok (.aload_n 1, 1) := by decide +kernel
theorem dX8_copyStep_6 : decode cX8_copyStep 6 = .ok (.getfield 9, 3) := by decide +kernel
theorem dX8_copyStep_9 : decode cX8_copyStep 9 = .ok (.iload_n 2, 1) := by decide +kernel
theorem dX8_copyStep_10 : decode cX8_copyStep 10 = .ok (.iaload, 1) := by decide +kernel
theorem dX8_copyStep_11 : decode cX8_copyStep 11 = .ok (.iastore, 1) := by decide +kernel
theorem dX8_copyStep_12 : decode cX8_copyStep 12 = .ok (.aload_n 0, 1) := by decide +kernel
theorem dX8_copyStep_13 : decode cX8_copyStep 13 = .ok (.getfield 15, 3) := by decide +kernel
theorem dX8_copyStep_16 : decode cX8_copyStep 16 = .ok (.iload_n 3, 1) := by decide +kernel
theorem dX8_copyStep_17 : decode cX8_copyStep 17 = .ok (.aload_n 1, 1) := by decide +kernel
theorem dX8_copyStep_18 : decode cX8_copyStep 18 = .ok (.getfield 15, 3) := by decide +kernel
theorem dX8_copyStep_21 : decode cX8_copyStep 21 = .ok (.iload_n 2, 1) := by decide +kernel
theorem dX8_copyStep_22 : decode cX8_copyStep 22 = .ok (.iaload, 1) := by decide +kernel
theorem dX8_copyStep_23 : decode cX8_copyStep 23 = .ok (.iastore, 1) := by decide +kernel
theorem dX8_copyStep_24 : decode cX8_copyStep 24 = .ok (.aload_n 0, 1) := by decide +kernel
theorem dX8_copyStep_25 : decode cX8_copyStep 25 = .ok (.getfield 18, 3) := by decide +kernel
theorem dX8_copyStep_28 : decode cX8_copyStep 28 = .ok (.iload_n 3, 1) := by decide +kernel
theorem dX8_copyStep_29 : decode cX8_copyStep 29 = .ok (.aload_n 1, 1) := by decide +kernel
theorem dX8_copyStep_30 : decode cX8_copyStep 30 = .ok (.getfield 18, 3) := by decide +kernel
theorem dX8_copyStep_33 : decode cX8_copyStep 33 = .ok (.iload_n 2, 1) := by decide +kernel
theorem dX8_copyStep_34 : decode cX8_copyStep 34 = .ok (.iaload, 1) := by decide +kernel
theorem dX8_copyStep_35 : decode cX8_copyStep 35 = .ok (.iastore, 1) := by decide +kernel
theorem dX8_copyStep_36 : decode cX8_copyStep 36 = .ok (.aload_n 0, 1) := by decide +kernel
theorem dX8_copyStep_37 : decode cX8_copyStep 37 = .ok (.getfield 21, 3) := by decide +kernel
theorem dX8_copyStep_40 : decode cX8_copyStep 40 = .ok (.iload_n 3, 1) := by decide +kernel
theorem dX8_copyStep_41 : decode cX8_copyStep 41 = .ok (.aload_n 1, 1) := by decide +kernel
theorem dX8_copyStep_42 : decode cX8_copyStep 42 = .ok (.getfield 21, 3) := by decide +kernel
theorem dX8_copyStep_45 : decode cX8_copyStep 45 = .ok (.iload_n 2, 1) := by decide +kernel
theorem dX8_copyStep_46 : decode cX8_copyStep 46 = .ok (.iaload, 1) := by decide +kernel
theorem dX8_copyStep_47 : decode cX8_copyStep 47 = .ok (.iastore, 1) := by decide +kernel
theorem dX8_copyStep_48 : decode cX8_copyStep 48 = .ok (.aload_n 0, 1) := by decide +kernel
theorem dX8_copyStep_49 : decode cX8_copyStep 49 = .ok (.getfield 24, 3) := by decide +kernel
theorem dX8_copyStep_52 : decode cX8_copyStep 52 = .ok (.iload_n 3, 1) := by decide +kernel
theorem dX8_copyStep_53 : decode cX8_copyStep 53 = .ok (.aload_n 1, 1) := by decide +kernel
theorem dX8_copyStep_54 : decode cX8_copyStep 54 = .ok (.getfield 24, 3) := by decide +kernel
theorem dX8_copyStep_57 : decode cX8_copyStep 57 = .ok (.iload_n 2, 1) := by decide +kernel
theorem dX8_copyStep_58 : decode cX8_copyStep 58 = .ok (.iaload, 1) := by decide +kernel
theorem dX8_copyStep_59 : decode cX8_copyStep 59 = .ok (.iastore, 1) := by decide +kernel
theorem dX8_copyStep_60 : decode cX8_copyStep 60 = .ok (.return_, 1) := by decide +kernel
theorem dX8_target_0 : decode cX8_target 0 = .ok (.aload_n 0, 1) := by decide +kernel
theorem dX8_target_1 : decode cX8_target 1 = .ok (.getfield 9, 3) := by decide +kernel
theorem dX8_target_4 : decode cX8_target 4 = .ok (.iload_n 1, 1) := by decide +kernel
theorem dX8_target_5 : decode cX8_target 5 = .ok (.iaload, 1) := by decide +kernel
theorem dX8_target_6 : decode cX8_target 6 = .ok (.iload_n 2, 1) := by decide +kernel
theorem dX8_target_7 : decode cX8_target 7 = .ok (.invokestatic 54, 3) := by decide +kernel
theorem dX8_target_10 : decode cX8_target 10 = .ok (.ifCond .ne 6, 3) := by decide +kernel
theorem dX8_target_13 : decode cX8_target 13 = .ok (.bipush (-6), 2) := by decide +kernel
theorem dX8_target_15 : decode cX8_target 15 = .ok (.ireturn, 1) := by decide +kernel
theorem dX8_target_16 : decode cX8_target 16 = .ok (.iload_n 2, 1) := by decide +kernel
theorem dX8_target_17 : decode cX8_target 17 = .ok (.aload_n 0, 1) := by decide +kernel
theorem dX8_target_18 : decode cX8_target 18 = .ok (.getfield 21, 3) := by decide +kernel
theorem dX8_target_21 : decode cX8_target 21 = .ok (.iload_n 1, 1) := by decide +kernel
theorem dX8_target_22 : decode cX8_target 22 = .ok (.iaload, 1) := by decide +kernel
theorem dX8_target_23 : decode cX8_target 23 = .ok (.invokestatic 58, 3) := by decide +kernel
theorem dX8_target_26 : decode cX8_target 26 = .ok (.istore 4, 2) := by decide +kernel
theorem dX8_target_28 : decode cX8_target 28 = .ok (.aload_n 0, 1) := by decide +kernel
theorem dX8_target_29 : decode cX8_target 29 = .ok (.getfield 15, 3) := by decide +kernel
theorem dX8_target_32 : decode cX8_target 32 = .ok (.iload_n 1, 1) := by decide +kernel
theorem dX8_target_33 : decode cX8_target 33 = .ok (.iaload, 1) := by decide +kernel
theorem dX8_target_34 : decode cX8_target 34 = .ok (.lookupswitch 87 #[(0, 26), (1, 43)], 26) := by decide +kernel
theorem dX8_target_60 : decode cX8_target 60 = .ok (.iload_n 2, 1) := by decide +kernel
theorem dX8_target_61 : decode cX8_target 61 = .ok (.aload_n 0, 1) := by decide +kernel
theorem dX8_target_62 : decode cX8_target 62 = .ok (.getfield 18, 3) := by decide +kernel
theorem dX8_target_65 : decode cX8_target 65 = .ok (.iload_n 1, 1) := by decide +kernel
theorem dX8_target_66 : decode cX8_target 66 = .ok (.iaload, 1) := by decide +kernel
theorem dX8_target_67 : decode cX8_target 67 = .ok (.aload_n 0, 1) := by decide +kernel
theorem dX8_target_68 : decode cX8_target 68 = .ok (.getfield 24, 3) := by decide +kernel
theorem dX8_target_71 : decode cX8_target 71 = .ok (.iload_n 1, 1) := by decide +kernel
theorem dX8_target_72 : decode cX8_target 72 = .ok (.iaload, 1) := by decide +kernel
theorem dX8_target_73 : decode cX8_target 73 = .ok (.invokestatic 62, 3) := by decide +kernel
theorem dX8_target_76 : decode cX8_target 76 = .ok (.ireturn, 1) := by decide +kernel
theorem dX8_target_77 : decode cX8_target 77 = .ok (.iload 4, 2) := by decide +kernel
theorem dX8_target_79 : decode cX8_target 79 = .ok (.aload_n 0, 1) := by decide +kernel
theorem dX8_target_80 : decode cX8_target 80 = .ok (.getfield 24, 3) := by decide +kernel
theorem dX8_target_83 : decode cX8_target 83 = .ok (.iload_n 1, 1) := by decide +kernel
theorem dX8_target_84 : decode cX8_target 84 = .ok (.iaload, 1) := by decide +kernel
theorem dX8_target_85 : decode cX8_target 85 = .ok (.iadd, 1) := by decide +kernel
theorem dX8_target_86 : decode cX8_target 86 = .ok (.istore 5, 2) := by decide +kernel
theorem dX8_target_88 : decode cX8_target 88 = .ok (.iload_n 3, 1) := by decide +kernel
theorem dX8_target_89 : decode cX8_target 89 = .ok (.ifCond .ne 11, 3) := by decide +kernel
theorem dX8_target_92 : decode cX8_target 92 = .ok (.iload 5, 2) := by decide +kernel
theorem dX8_target_94 : decode cX8_target 94 = .ok (.invokestatic 35, 3) := by decide +kernel
theorem dX8_target_97 : decode cX8_target 97 = .ok (.ifCond .eq 21, 3) := by decide +kernel
theorem dX8_target_100 : decode cX8_target 100 = .ok (.iload_n 2, 1) := by decide +kernel
theorem dX8_target_101 : decode cX8_target 101 = .ok (.aload_n 0, 1) := by decide +kernel
theorem dX8_target_102 : decode cX8_target 102 = .ok (.getfield 18, 3) := by decide +kernel
theorem dX8_target_105 : decode cX8_target 105 = .ok (.iload_n 1, 1) := by decide +kernel
theorem dX8_target_106 : decode cX8_target 106 = .ok (.iaload, 1) := by decide +kernel
theorem dX8_target_107 : decode cX8_target 107 = .ok (.iload 5, 2) := by decide +kernel
theorem dX8_target_109 : decode cX8_target 109 = .ok (.bipush 7, 2) := by decide +kernel
theorem dX8_target_111 : decode cX8_target 111 = .ok (.iand, 1) := by decide +kernel
theorem dX8_target_112 : decode cX8_target 112 = .ok (.invokestatic 62, 3) := by decide +kernel
theorem dX8_target_115 : decode cX8_target 115 = .ok (.goto 5, 3) := by decide +kernel
theorem dX8_target_118 : decode cX8_target 118 = .ok (.bipush (-6), 2) := by decide +kernel
theorem dX8_target_120 : decode cX8_target 120 = .ok (.ireturn, 1) := by decide +kernel
theorem dX8_target_121 : decode cX8_target 121 = .ok (.iload_n 2, 1) := by decide +kernel
theorem dX8_target_122 : decode cX8_target 122 = .ok (.aload_n 0, 1) := by decide +kernel
theorem dX8_target_123 : decode cX8_target 123 = .ok (.getfield 21, 3) := by decide +kernel
theorem dX8_target_126 : decode cX8_target 126 = .ok (.iload_n 1, 1) := by decide +kernel
theorem dX8_target_127 : decode cX8_target 127 = .ok (.iaload, 1) := by decide +kernel
theorem dX8_target_128 : decode cX8_target 128 = .ok (.iload_n 2, 1) := by decide +kernel
theorem dX8_target_129 : decode cX8_target 129 = .ok (.aload_n 0, 1) := by decide +kernel
theorem dX8_target_130 : decode cX8_target 130 = .ok (.getfield 18, 3) := by decide +kernel
theorem dX8_target_133 : decode cX8_target 133 = .ok (.iload_n 1, 1) := by decide +kernel
theorem dX8_target_134 : decode cX8_target 134 = .ok (.iaload, 1) := by decide +kernel
theorem dX8_target_135 : decode cX8_target 135 = .ok (.invokestatic 58, 3) := by decide +kernel
theorem dX8_target_138 : decode cX8_target 138 = .ok (.invokestatic 62, 3) := by decide +kernel
theorem dX8_target_141 : decode cX8_target 141 = .ok (.istore 6, 2) := by decide +kernel
theorem dX8_target_143 : decode cX8_target 143 = .ok (.iload 6, 2) := by decide +kernel
theorem dX8_target_145 : decode cX8_target 145 = .ok (.aload_n 0, 1) := by decide +kernel
theorem dX8_target_146 : decode cX8_target 146 = .ok (.getfield 18, 3) := by decide +kernel
theorem dX8_target_149 : decode cX8_target 149 = .ok (.iload_n 1, 1) := by decide +kernel
theorem dX8_target_150 : decode cX8_target 150 = .ok (.iaload, 1) := by decide +kernel
theorem dX8_target_151 : decode cX8_target 151 = .ok (.iload 4, 2) := by decide +kernel
theorem dX8_target_153 : decode cX8_target 153 = .ok (.invokestatic 62, 3) := by decide +kernel
theorem dX8_target_156 : decode cX8_target 156 = .ok (.ireturn, 1) := by decide +kernel
theorem dX8_replace_0 : decode cX8_replace 0 = .ok (.bipush 6, 2) := by decide +kernel
theorem dX8_replace_2 : decode cX8_replace 2 = .ok (.iconst 3, 1) := by decide +kernel
theorem dX8_replace_3 : decode cX8_replace 3 = .ok (.iload_n 1, 1) := by decide +kernel
theorem dX8_replace_4 : decode cX8_replace 4 = .ok (.imul, 1) := by decide +kernel
theorem dX8_replace_5 : decode cX8_replace 5 = .ok (.isub, 1) := by decide +kernel
theorem dX8_replace_6 : decode cX8_replace 6 = .ok (.istore_n 3, 1) := by decide +kernel
theorem dX8_replace_7 : decode cX8_replace 7 = .ok (.iload_n 0, 1) := by decide +kernel
theorem dX8_replace_8 : decode cX8_replace 8 = .ok (.bipush 7, 2) := by decide +kernel
theorem dX8_replace_10 : decode cX8_replace 10 = .ok (.iload_n 3, 1) := by decide +kernel
theorem dX8_replace_11 : decode cX8_replace 11 = .ok (.ishl, 1) := by decide +kernel
theorem dX8_replace_12 : decode cX8_replace 12 = .ok (.iconst (-1), 1) := by decide +kernel
theorem dX8_replace_13 : decode cX8_replace 13 = .ok (.ixor, 1) := by decide +kernel
theorem dX8_replace_14 : decode cX8_replace 14 = .ok (.iand, 1) := by decide +kernel
theorem dX8_replace_15 : decode cX8_replace 15 = .ok (.iload_n 2, 1) := by decide +kernel
theorem dX8_replace_16 : decode cX8_replace 16 = .ok (.iload_n 3, 1) := by decide +kernel
theorem dX8_replace_17 : decode cX8_replace 17 = .ok (.ishl, 1) := by decide +kernel
theorem dX8_replace_18 : decode cX8_replace 18 = .ok (.ior, 1) := by decide +kernel
theorem dX8_replace_19 : decode cX8_replace 19 = .ok (.ireturn, 1) := by decide +kernel
theorem dX9_init_0 : decode cX9_init 0 = .ok (.aload_n 0, 1) := by decide +kernel
theorem dX9_init_1 : decode cX9_init 1 = .ok (.invokespecial 3, 3) := by decide +kernel
theorem dX9_init_4 : decode cX9_init 4 = .ok (.aload_n 0, 1) := by decide +kernel
theorem dX9_init_5 : decode cX9_init 5 = .ok (.new 9, 3) := by decide +kernel
theorem dX9_init_8 : decode cX9_init 8 = .ok (.dup, 1) := by decide +kernel
theorem dX9_init_9 : decode cX9_init 9 = .ok (.invokespecial 11, 3) := by decide +kernel
theorem dX9_init_12 : decode cX9_init 12 = .ok (.putfield 12, 3) := by decide +kernel
theorem dX9_init_15 : decode cX9_init 15 = .ok (.aload_n 0, 1) := by decide +kernel
theorem dX9_init_16 : decode cX9_init 16 = .ok (.new 9, 3) := by decide +kernel
theorem dX9_init_19 : decode cX9_init 19 = .ok (.dup, 1) := by decide +kernel
theorem dX9_init_20 : decode cX9_init 20 = .ok (.invokespecial 11, 3) := by decide +kernel
theorem dX9_init_23 : decode cX9_init 23 = .ok (.putfield 18, 3) := by decide +kernel
theorem dX9_init_26 : decode cX9_init 26 = .ok (.aload_n 0, 1) := by decide +kernel
theorem dX9_init_27 : decode cX9_init 27 = .ok (.new 9, 3) := by decide +kernel
theorem dX9_init_30 : decode cX9_init 30 = .ok (.dup, 1) := by decide +kernel
theorem dX9_init_31 : decode cX9_init 31 = .ok (.invokespecial 11, 3) := by decide +kernel
theorem dX9_init_34 : decode cX9_init 34 = .ok (.putfield 21, 3) := by decide +kernel
theorem dX9_init_37 : decode cX9_init 37 = .ok (.aload_n 0, 1) := by decide +kernel
theorem dX9_init_38 : decode cX9_init 38 = .ok (.sipush 512, 3) := by decide +kernel
theorem dX9_init_41 : decode cX9_init 41 = .ok (.newarray .int, 2) := by decide +kernel
theorem dX9_init_43 : decode cX9_init 43 = .ok (.putfield 24, 3) := by decide +kernel
theorem dX9_init_46 : decode cX9_init 46 = .ok (.aload_n 0, 1) := by decide +kernel
theorem dX9_init_47 : decode cX9_init 47 = .ok (.sipush 512, 3) := by decide +kernel
theorem dX9_init_50 : decode cX9_init 50 = .ok (.newarray .int, 2) := by decide +kernel
theorem dX9_init_52 : decode cX9_init 52 = .ok (.putfield 28, 3) := by decide +kernel
theorem dX9_init_55 : decode cX9_init 55 = .ok (.return_, 1) := by decide +kernel
theorem dX9_findReached_0 : decode cX9_findReached 0 = .ok (.aload_n 0, 1) := by decide +kernel
theorem dX9_findReached_1 : decode cX9_findReached 1 = .ok (.getfield 21, 3) := by decide +kernel
theorem dX9_findReached_4 : decode cX9_findReached 4 = .ok (.invokevirtual 31, 3) := by decide +kernel
theorem dX9_findReached_7 : decode cX9_findReached 7 = .ok (.aload_n 0, 1) := by decide +kernel
theorem dX9_findReached_8 : decode cX9_findReached 8 = .ok (.getfield 21, 3) := by decide +kernel
theorem dX9_findReached_11 : decode cX9_findReached 11 = .ok (.aload_n 1, 1) := by decide +kernel
theorem dX9_findReached_12 : decode cX9_findReached 12 = .ok (.getfield 34, 3) := by decide +kernel
theorem dX9_findReached_15 : decode cX9_findReached 15 = .ok (.invokevirtual 40, 3) := by decide +kernel
theorem dX9_findReached_18 : decode cX9_findReached 18 = .ok (.aload_n 0, 1) := by decide +kernel
theorem dX9_findReached_19 : decode cX9_findReached 19 = .ok (.getfield 24, 3) := by decide +kernel
theorem dX9_findReached_22 : decode cX9_findReached 22 = .ok (.iconst 0, 1) := by decide +kernel
theorem dX9_findReached_23 : decode cX9_findReached 23 = .ok (.aload_n 1, 1) := by decide +kernel
theorem dX9_findReached_24 : decode cX9_findReached 24 = .ok (.getfield 34, 3) := by decide +kernel
theorem dX9_findReached_27 : decode cX9_findReached 27 = .ok (.iastore, 1) := by decide +kernel
theorem dX9_findReached_28 : decode cX9_findReached 28 = .ok (.iconst 1, 1) := by decide +kernel
theorem dX9_findReached_29 : decode cX9_findReached 29 = .ok (.istore_n 2, 1) := by decide +kernel
theorem dX9_findReached_30 : decode cX9_findReached 30 = .ok (.iconst 0, 1) := by decide +kernel
theorem dX9_findReached_31 : decode cX9_findReached 31 = .ok (.istore_n 3, 1) := by decide +kernel
theorem dX9_findReached_32 : decode cX9_findReached 32 = .ok (.iload_n 3, 1) := by decide +kernel
theorem dX9_findReached_33 : decode cX9_findReached 33 = .ok (.iload_n 2, 1) := by decide +kernel
theorem dX9_findReached_34 : decode cX9_findReached 34 = .ok (.if_icmp .ge 97, 3) := by decide +kernel
theorem dX9_findReached_37 : decode cX9_findReached 37 = .ok (.iload_n 3, 1) := by decide +kernel
theorem dX9_findReached_38 : decode cX9_findReached 38 = .ok (.sipush 512, 3) := by decide +kernel
theorem dX9_findReached_41 : decode cX9_findReached 41 = .ok (.if_icmp .ge 90, 3) := by decide +kernel
theorem dX9_findReached_44 : decode cX9_findReached 44 = .ok (.iconst 0, 1) := by decide +kernel
theorem dX9_findReached_45 : decode cX9_findReached 45 = .ok (.istore 4, 2) := by decide +kernel
theorem dX9_findReached_47 : decode cX9_findReached 47 = .ok (.iload 4, 2) := by decide +kernel
theorem dX9_findReached_49 : decode cX9_findReached 49 = .ok (.aload_n 1, 1) := by decide +kernel
theorem dX9_findReached_50 : decode cX9_findReached 50 = .ok (.getfield 44, 3) := by decide +kernel
theorem dX9_findReached_53 : decode cX9_findReached 53 = .ok (.getfield 48, 3) := by decide +kernel
theorem dX9_findReached_56 : decode cX9_findReached 56 = .ok (.if_icmp .ge 69, 3) := by decide +kernel
theorem dX9_findReached_59 : decode cX9_findReached 59 = .ok (.aload_n 1, 1) := by decide +kernel
theorem dX9_findReached_60 : decode cX9_findReached 60 = .ok (.iload 4, 2) := by decide +kernel
theorem dX9_findReached_62 : decode cX9_findReached 62 = .ok (.aload_n 0, 1) := by decide +kernel
theorem dX9_findReached_63 : decode cX9_findReached 63 = .ok (.getfield 24, 3) := by decide +kernel
theorem dX9_findReached_66 : decode cX9_findReached 66 = .ok (.iload_n 3, 1) := by decide +kernel
theorem dX9_findReached_67 : decode cX9_findReached 67 = .ok (.iaload, 1) := by decide +kernel
theorem dX9_findReached_68 : decode cX9_findReached 68 = .ok (.invokevirtual 53, 3) := by decide +kernel
theorem dX9_findReached_71 : decode cX9_findReached 71 = .ok (.istore 5, 2) := by decide +kernel
theorem dX9_findReached_73 : decode cX9_findReached 73 = .ok (.iload 5, 2) := by decide +kernel
theorem dX9_findReached_75 : decode cX9_findReached 75 = .ok (.bipush (-6), 2) := by decide +kernel
theorem dX9_findReached_77 : decode cX9_findReached 77 = .ok (.if_icmp .eq 42, 3) := by decide +kernel
theorem dX9_findReached_80 : decode cX9_findReached 80 = .ok (.aload_n 0, 1) := by decide +kernel
theorem dX9_findReached_81 : decode cX9_findReached 81 = .ok (.getfield 21, 3) := by decide +kernel
theorem dX9_findReached_84 : decode cX9_findReached 84 = .ok (.iload 5, 2) := by decide +kernel
theorem dX9_findReached_86 : decode cX9_findReached 86 = .ok (.invokevirtual 57, 3) := by decide +kernel
theorem dX9_findReached_89 : decode cX9_findReached 89 = .ok (.ifCond .ne 30, 3) := by decide +kernel
theorem dX9_findReached_92 : decode cX9_findReached 92 = .ok (.iload_n 2, 1) := by decide +kernel
theorem dX9_findReached_93 : decode cX9_findReached 93 = .ok (.sipush 512, 3) := by decide +kernel
theorem dX9_findReached_96 : decode cX9_findReached 96 = .ok (.if_icmp .ge 23, 3) := by decide +kernel
theorem dX9_findReached_99 : decode cX9_findReached 99 = .ok (.aload_n 0, 1) := by decide +kernel
theorem dX9_findReached_100 : decode cX9_findReached 100 = .ok (.getfield 21, 3) := by decide +kernel
theorem dX9_findReached_103 : decode cX9_findReached 103 = .ok (.iload 5, 2) := by decide +kernel
theorem dX9_findReached_105 : decode cX9_findReached 105 = .ok (.invokevirtual 40, 3) := by decide +kernel
theorem dX9_findReached_108 : decode cX9_findReached 108 = .ok (.aload_n 0, 1) := by decide +kernel
theorem dX9_findReached_109 : decode cX9_findReached 109 = .ok (.getfield 24, 3) := by decide +kernel
theorem dX9_findReached_112 : decode cX9_findReached 112 = .ok (.iload_n 2, 1) := by decide +kernel
theorem dX9_findReached_113 : decode cX9_findReached 113 = .ok (.iload 5, 2) := by decide +kernel
theorem dX9_findReached_115 : decode cX9_findReached 115 = .ok (.iastore, 1) := by decide +kernel
theorem dX9_findReached_116 : decode cX9_findReached 116 = .ok (.iinc 2 1, 3) := by decide +kernel
theorem dX9_findReached_119 : decode cX9_findReached 119 = .ok (.iinc 4 1, 3) := by decide +kernel
theorem dX9_findReached_122 : decode cX9_findReached 122 = .ok (.goto (-75), 3) := by decide +kernel
theorem dX9_findReached_125 : decode cX9_findReached 125 = .ok (.iinc 3 1, 3) := by decide +kernel
theorem dX9_findReached_128 : decode cX9_findReached 128 = .ok (.goto (-96), 3) := by decide +kernel
theorem dX9_findReached_131 : decode cX9_findReached 131 = .ok (.return_, 1) := by decide +kernel
theorem dX9_isKernel_0 : decode cX9_isKernel 0 = .ok (.aload_n 1, 1) := by decide +kernel
theorem dX9_isKernel_1 : decode cX9_isKernel 1 = .ok (.aload_n 0, 1) := by decide +kernel
theorem dX9_isKernel_2 : decode cX9_isKernel 2 = .ok (.getfield 18, 3) := by decide +kernel
theorem dX9_isKernel_5 : decode cX9_isKernel 5 = .ok (.invokevirtual 61, 3) := by decide +kernel
theorem dX9_isKernel_8 : decode cX9_isKernel 8 = .ok (.aload_n 1, 1) := by decide +kernel
theorem dX9_isKernel_9 : decode cX9_isKernel 9 = .ok (.aload_n 0, 1) := by decide +kernel
theorem dX9_isKernel_10 : decode cX9_isKernel 10 = .ok (.getfield 18, 3) := by decide +kernel
theorem dX9_isKernel_13 : decode cX9_isKernel 13 = .ok (.invokevirtual 65, 3) := by decide +kernel
theorem dX9_isKernel_16 : decode cX9_isKernel 16 = .ok (.ireturn, 1) := by decide +kernel
theorem dX9_findCore_0 : decode cX9_findCore 0 = .ok (.aload_n 1, 1) := by decide +kernel
theorem dX9_findCore_1 : decode cX9_findCore 1 = .ok (.getfield 69, 3) := by decide +kernel
theorem dX9_findCore_4 : decode cX9_findCore 4 = .ok (.astore_n 3, 1) := by decide +kernel
theorem dX9_findCore_5 : decode cX9_findCore 5 = .ok (.aload_n 3, 1) := by decide +kernel
theorem dX9_findCore_6 : decode cX9_findCore 6 = .ok (.invokevirtual 73, 3) := by decide +kernel
theorem dX9_findCore_9 : decode cX9_findCore 9 = .ok (.lstore 4, 2) := by decide +kernel
theorem dX9_findCore_11 : decode cX9_findCore 11 = .ok (.aload_n 0, 1) := by decide +kernel
theorem dX9_findCore_12 : decode cX9_findCore 12 = .ok (.aload_n 3, 1) := by decide +kernel
theorem dX9_findCore_13 : decode cX9_findCore 13 = .ok (.invokevirtual 79, 3) := by decide +kernel
theorem dX9_findCore_16 : decode cX9_findCore 16 = .ok (.iconst 0, 1) := by decide +kernel
theorem dX9_findCore_17 : decode cX9_findCore 17 = .ok (.istore 6, 2) := by decide +kernel
theorem dX9_findCore_19 : decode cX9_findCore 19 = .ok (.iload 6, 2) := by decide +kernel
theorem dX9_findCore_21 : decode cX9_findCore 21 = .ok (.aload_n 3, 1) := by decide +kernel
theorem dX9_findCore_22 : decode cX9_findCore 22 = .ok (.getfield 83, 3) := by decide +kernel
theorem dX9_findCore_25 : decode cX9_findCore 25 = .ok (.if_icmp .ge 71, 3) := by decide +kernel
theorem dX9_findCore_28 : decode cX9_findCore 28 = .ok (.aload_n 3, 1) := by decide +kernel
theorem dX9_findCore_29 : decode cX9_findCore 29 = .ok (.getfield 84, 3) := by decide +kernel
theorem dX9_findCore_32 : decode cX9_findCore 32 = .ok (.iload 6, 2) := by decide +kernel
theorem dX9_findCore_34 : decode cX9_findCore 34 = .ok (.iaload, 1) := by decide +kernel
theorem dX9_findCore_35 : decode cX9_findCore 35 = .ok (.ifCond .eq 6, 3) := by decide +kernel
theorem dX9_findCore_38 : decode cX9_findCore 38 = .ok (.goto 52, 3) := by decide +kernel
theorem dX9_findCore_41 : decode cX9_findCore 41 = .ok (.aload_n 0, 1) := by decide +kernel
theorem dX9_findCore_42 : decode cX9_findCore 42 = .ok (.aload_n 3, 1) := by decide +kernel
theorem dX9_findCore_43 : decode cX9_findCore 43 = .ok (.getfield 87, 3) := by decide +kernel
theorem dX9_findCore_46 : decode cX9_findCore 46 = .ok (.iload 6, 2) := by decide +kernel
theorem dX9_findCore_48 : decode cX9_findCore 48 = .ok (.iaload, 1) := by decide +kernel
theorem dX9_findCore_49 : decode cX9_findCore 49 = .ok (.iconst (-1), 1) := by decide +kernel
theorem dX9_findCore_50 : decode cX9_findCore 50 = .ok (.invokevirtual 90, 3) := by decide +kernel
theorem dX9_findCore_53 : decode cX9_findCore 53 = .ok (.aload_n 0, 1) := by decide +kernel
theorem dX9_findCore_54 : decode cX9_findCore 54 = .ok (.aload_n 1, 1) := by decide +kernel
theorem dX9_findCore_55 : decode cX9_findCore 55 = .ok (.iload_n 2, 1) := by decide +kernel
theorem dX9_findCore_56 : decode cX9_findCore 56 = .ok (.invokevirtual 94, 3) := by decide +kernel
theorem dX9_findCore_59 : decode cX9_findCore 59 = .ok (.ifCond .eq 19, 3) := by decide +kernel
theorem dX9_findCore_62 : decode cX9_findCore 62 = .ok (.lload 4, 2) := by decide +kernel
theorem dX9_findCore_64 : decode cX9_findCore 64 = .ok (.lconst 1, 1) := by decide +kernel
theorem dX9_findCore_65 : decode cX9_findCore 65 = .ok (.iload 6, 2) := by decide +kernel
theorem dX9_findCore_67 : decode cX9_findCore 67 = .ok (.lshl, 1) := by decide +kernel
theorem dX9_findCore_68 : decode cX9_findCore 68 = .ok (.ldc2_w 98, 3) := by decide +kernel
theorem dX9_findCore_71 : decode cX9_findCore 71 = .ok (.lxor, 1) := by decide +kernel
theorem dX9_findCore_72 : decode cX9_findCore 72 = .ok (.land, 1) := by decide +kernel
theorem dX9_findCore_73 : decode cX9_findCore 73 = .ok (.lstore 4, 2) := by decide +kernel
theorem dX9_findCore_75 : decode cX9_findCore 75 = .ok (.goto 15, 3) := by decide +kernel
theorem dX9_findCore_78 : decode cX9_findCore 78 = .ok (.aload_n 0, 1) := by decide +kernel
theorem dX9_findCore_79 : decode cX9_findCore 79 = .ok (.aload_n 3, 1) := by decide +kernel
theorem dX9_findCore_80 : decode cX9_findCore 80 = .ok (.getfield 87, 3) := by decide +kernel
theorem dX9_findCore_83 : decode cX9_findCore 83 = .ok (.iload 6, 2) := by decide +kernel
theorem dX9_findCore_85 : decode cX9_findCore 85 = .ok (.iaload, 1) := by decide +kernel
theorem dX9_findCore_86 : decode cX9_findCore 86 = .ok (.iconst 1, 1) := by decide +kernel
theorem dX9_findCore_87 : decode cX9_findCore 87 = .ok (.invokevirtual 90, 3) := by decide +kernel
theorem dX9_findCore_90 : decode cX9_findCore 90 = .ok (.iinc 6 1, 3) := by decide +kernel
theorem dX9_findCore_93 : decode cX9_findCore 93 = .ok (.goto (-74), 3) := by decide +kernel
theorem dX9_findCore_96 : decode cX9_findCore 96 = .ok (.lload 4, 2) := by decide +kernel
theorem dX9_findCore_98 : decode cX9_findCore 98 = .ok (.lreturn, 1) := by decide +kernel
theorem dX9_countMisses_0 : decode cX9_countMisses 0 = .ok (.iconst 0, 1) := by decide +kernel
theorem dX9_countMisses_1 : decode cX9_countMisses 1 = .ok (.istore_n 2, 1) := by decide +kernel
theorem dX9_countMisses_2 : decode cX9_countMisses 2 = .ok (.iload_n 2, 1) := by decide +kernel
theorem dX9_countMisses_3 : decode cX9_countMisses 3 = .ok (.sipush 512, 3) := by decide +kernel
theorem dX9_countMisses_6 : decode cX9_countMisses 6 = .ok (.if_icmp .ge 16, 3) := by decide +kernel
theorem dX9_countMisses_9 : decode cX9_countMisses 9 = .ok (.aload_n 0, 1) := by decide +kernel
theorem dX9_countMisses_10 : decode cX9_countMisses 10 = .ok (.getfield 28, 3) := by decide +kernel
theorem dX9_countMisses_13 : decode cX9_countMisses 13 = .ok (.iload_n 2, 1) := by decide +kernel
theorem dX9_countMisses_14 : decode cX9_countMisses 14 = .ok (.iconst 0, 1) := by decide +kernel
theorem dX9_countMisses_15 : decode cX9_countMisses 15 = .ok (.iastore, 1) := by decide +kernel
theorem dX9_countMisses_16 : decode cX9_countMisses 16 = .ok (.iinc 2 1, 3) := by decide +kernel
theorem dX9_countMisses_19 : decode cX9_countMisses 19 = .ok (.goto (-17), 3) := by decide +kernel
theorem dX9_countMisses_22 : decode cX9_countMisses 22 = .ok (.iconst 0, 1) := by decide +kernel
theorem dX9_countMisses_23 : decode cX9_countMisses 23 = .ok (.istore_n 2, 1) := by decide +kernel
theorem dX9_countMisses_24 : decode cX9_countMisses 24 = .ok (.iload_n 2, 1) := by decide +kernel
theorem dX9_countMisses_25 : decode cX9_countMisses 25 = .ok (.aload_n 1, 1) := by decide +kernel
theorem dX9_countMisses_26 : decode cX9_countMisses 26 = .ok (.getfield 83, 3) := by decide +kernel
theorem dX9_countMisses_29 : decode cX9_countMisses 29 = .ok (.if_icmp .ge 29, 3) := by decide +kernel
theorem dX9_countMisses_32 : decode cX9_countMisses 32 = .ok (.aload_n 1, 1) := by decide +kernel
theorem dX9_countMisses_33 : decode cX9_countMisses 33 = .ok (.getfield 84, 3) := by decide +kernel
theorem dX9_countMisses_36 : decode cX9_countMisses 36 = .ok (.iload_n 2, 1) := by decide +kernel
theorem dX9_countMisses_37 : decode cX9_countMisses 37 = .ok (.iaload, 1) := by decide +kernel
theorem dX9_countMisses_38 : decode cX9_countMisses 38 = .ok (.ifCond .ne 14, 3) := by decide +kernel
theorem dX9_countMisses_41 : decode cX9_countMisses 41 = .ok (.aload_n 0, 1) := by decide +kernel
theorem dX9_countMisses_42 : decode cX9_countMisses 42 = .ok (.aload_n 1, 1) := by decide +kernel
theorem dX9_countMisses_43 : decode cX9_countMisses 43 = .ok (.getfield 87, 3) := by decide +kernel
theorem dX9_countMisses_46 : decode cX9_countMisses 46 = .ok (.iload_n 2, 1) := by decide +kernel
theorem dX9_countMisses_47 : decode cX9_countMisses 47 = .ok (.iaload, 1) := by decide +kernel
theorem dX9_countMisses_48 : decode cX9_countMisses 48 = .ok (.iconst 1, 1) := by decide +kernel
theorem dX9_countMisses_49 : decode cX9_countMisses 49 = .ok (.invokevirtual 90, 3) := by decide +kernel
theorem dX9_countMisses_52 : decode cX9_countMisses 52 = .ok (.iinc 2 1, 3) := by decide +kernel
theorem dX9_countMisses_55 : decode cX9_countMisses 55 = .ok (.goto (-31), 3) := by decide +kernel
theorem dX9_countMisses_58 : decode cX9_countMisses 58 = .ok (.return_, 1) := by decide +kernel
theorem dX9_addMisses_0 : decode cX9_addMisses 0 = .ok (.iconst 0, 1) := by decide +kernel
theorem dX9_addMisses_1 : decode cX9_addMisses 1 = .ok (.istore_n 3, 1) := by decide +kernel
theorem dX9_addMisses_2 : decode cX9_addMisses 2 = .ok (.iload_n 3, 1) := by decide +kernel
theorem dX9_addMisses_3 : decode cX9_addMisses 3 = .ok (.sipush 512, 3) := by decide +kernel
theorem dX9_addMisses_6 : decode cX9_addMisses 6 = .ok (.if_icmp .ge 27, 3) := by decide +kernel
theorem dX9_addMisses_9 : decode cX9_addMisses 9 = .ok (.iload_n 1, 1) := by decide +kernel
theorem dX9_addMisses_10 : decode cX9_addMisses 10 = .ok (.iload_n 3, 1) := by decide +kernel
theorem dX9_addMisses_11 : decode cX9_addMisses 11 = .ok (.invokestatic 100, 3) := by decide +kernel
theorem dX9_addMisses_14 : decode cX9_addMisses 14 = .ok (.ifCond .ne 13, 3) := by decide +kernel
theorem dX9_addMisses_17 : decode cX9_addMisses 17 = .ok (.aload_n 0, 1) := by decide +kernel
theorem dX9_addMisses_18 : decode cX9_addMisses 18 = .ok (.getfield 28, 3) := by decide +kernel
theorem dX9_addMisses_21 : decode cX9_addMisses 21 = .ok (.iload_n 3, 1) := by decide +kernel
theorem dX9_addMisses_22 : decode cX9_addMisses 22 = .ok (.dup2, 1) := by decide +kernel
theorem dX9_addMisses_23 : decode cX9_addMisses 23 = .ok (.iaload, 1) := by decide +kernel
theorem dX9_addMisses_24 : decode cX9_addMisses 24 = .ok (.iload_n 2, 1) := by decide +kernel
theorem dX9_addMisses_25 : decode cX9_addMisses 25 = .ok (.iadd, 1) := by decide +kernel
theorem dX9_addMisses_26 : decode cX9_addMisses 26 = .ok (.iastore, 1) := by decide +kernel
theorem dX9_addMisses_27 : decode cX9_addMisses 27 = .ok (.iinc 3 1, 3) := by decide +kernel
theorem dX9_addMisses_30 : decode cX9_addMisses 30 = .ok (.goto (-28), 3) := by decide +kernel
theorem dX9_addMisses_33 : decode cX9_addMisses 33 = .ok (.return_, 1) := by decide +kernel
theorem dX9_isEnough_0 : decode cX9_isEnough 0 = .ok (.aload_n 0, 1) := by decide +kernel
theorem dX9_isEnough_1 : decode cX9_isEnough 1 = .ok (.getfield 18, 3) := by decide +kernel
theorem dX9_isEnough_4 : decode cX9_isEnough 4 = .ok (.invokevirtual 31, 3) := by decide +kernel
theorem dX9_isEnough_7 : decode cX9_isEnough 7 = .ok (.iconst 0, 1) := by decide +kernel
theorem dX9_isEnough_8 : decode cX9_isEnough 8 = .ok (.istore_n 3, 1) := by decide +kernel
theorem dX9_isEnough_9 : decode cX9_isEnough 9 = .ok (.iload_n 3, 1) := by decide +kernel
theorem dX9_isEnough_10 : decode cX9_isEnough 10 = .ok (.sipush 512, 3) := by decide +kernel
theorem dX9_isEnough_13 : decode cX9_isEnough 13 = .ok (.if_icmp .ge 26, 3) := by decide +kernel
theorem dX9_isEnough_16 : decode cX9_isEnough 16 = .ok (.aload_n 0, 1) := by decide +kernel
theorem dX9_isEnough_17 : decode cX9_isEnough 17 = .ok (.getfield 28, 3) := by decide +kernel
theorem dX9_isEnough_20 : decode cX9_isEnough 20 = .ok (.iload_n 3, 1) := by decide +kernel
theorem dX9_isEnough_21 : decode cX9_isEnough 21 = .ok (.iaload, 1) := by decide +kernel
theorem dX9_isEnough_22 : decode cX9_isEnough 22 = .ok (.ifCond .ne 11, 3) := by decide +kernel
theorem dX9_isEnough_25 : decode cX9_isEnough 25 = .ok (.aload_n 0, 1) := by decide +kernel
theorem dX9_isEnough_26 : decode cX9_isEnough 26 = .ok (.getfield 18, 3) := by decide +kernel
theorem dX9_isEnough_29 : decode cX9_isEnough 29 = .ok (.iload_n 3, 1) := by decide +kernel
theorem dX9_isEnough_30 : decode cX9_isEnough 30 = .ok (.invokevirtual 40, 3) := by decide +kernel
theorem dX9_isEnough_33 : decode cX9_isEnough 33 = .ok (.iinc 3 1, 3) := by decide +kernel
theorem dX9_isEnough_36 : decode cX9_isEnough 36 = .ok (.goto (-27), 3) := by decide +kernel
theorem dX9_isEnough_39 : decode cX9_isEnough 39 = .ok (.aload_n 0, 1) := by decide +kernel
theorem dX9_isEnough_40 : decode cX9_isEnough 40 = .ok (.getfield 18, 3) := by decide +kernel
theorem dX9_isEnough_43 : decode cX9_isEnough 43 = .ok (.iload_n 2, 1) := by decide +kernel
theorem dX9_isEnough_44 : decode cX9_isEnough 44 = .ok (.invokevirtual 106, 3) := by decide +kernel
theorem dX9_isEnough_47 : decode cX9_isEnough 47 = .ok (.bipush (-6), 2) := by decide +kernel
theorem dX9_isEnough_49 : decode cX9_isEnough 49 = .ok (.if_icmp .ne 18, 3) := by decide +kernel
theorem dX9_isEnough_52 : decode cX9_isEnough 52 = .ok (.aload_n 1, 1) := by decide +kernel
theorem dX9_isEnough_53 : decode cX9_isEnough 53 = .ok (.aload_n 0, 1) := by decide +kernel
theorem dX9_isEnough_54 : decode cX9_isEnough 54 = .ok (.getfield 18, 3) := by decide +kernel
theorem dX9_isEnough_57 : decode cX9_isEnough 57 = .ok (.invokevirtual 65, 3) := by decide +kernel
theorem dX9_isEnough_60 : decode cX9_isEnough 60 = .ok (.ifCond .eq 7, 3) := by decide +kernel
theorem dX9_isEnough_63 : decode cX9_isEnough 63 = .ok (.iconst 1, 1) := by decide +kernel
theorem dX9_isEnough_64 : decode cX9_isEnough 64 = .ok (.goto 4, 3) := by decide +kernel
theorem dX9_isEnough_67 : decode cX9_isEnough 67 = .ok (.iconst 0, 1) := by decide +kernel
theorem dX9_isEnough_68 : decode cX9_isEnough 68 = .ok (.ireturn, 1) := by decide +kernel
theorem dX10_init_0 : decode cX10_init 0 = .ok (.aload_n 0, 1) := by decide +kernel
theorem dX10_init_1 : decode cX10_init 1 = .ok (.invokespecial 1, 3) := by decide +kernel
theorem dX10_init_4 : decode cX10_init 4 = .ok (.aload_n 0, 1) := by decide +kernel
theorem dX10_init_5 : decode cX10_init 5 = .ok (.new 7, 3) := by decide +kernel
theorem dX10_init_8 : decode cX10_init 8 = .ok (.dup, 1) := by decide +kernel
theorem dX10_init_9 : decode cX10_init 9 = .ok (.invokespecial 9, 3) := by decide +kernel
theorem dX10_init_12 : decode cX10_init 12 = .ok (.putfield 10, 3) := by decide +kernel
theorem dX10_init_15 : decode cX10_init 15 = .ok (.aload_n 0, 1) := by decide +kernel
theorem dX10_init_16 : decode cX10_init 16 = .ok (.new 16, 3) := by decide +kernel
theorem dX10_init_19 : decode cX10_init 19 = .ok (.dup, 1) := by decide +kernel
theorem dX10_init_20 : decode cX10_init 20 = .ok (.invokespecial 18, 3) := by decide +kernel
theorem dX10_init_23 : decode cX10_init 23 = .ok (.putfield 19, 3) := by decide +kernel
theorem dX10_init_26 : decode cX10_init 26 = .ok (.aload_n 0, 1) := by decide +kernel
theorem dX10_init_27 : decode cX10_init 27 = .ok (.iconst 2, 1) := by decide +kernel
theorem dX10_init_28 : decode cX10_init 28 = .ok (.anewarray 7, 3) := by decide +kernel
theorem dX10_init_31 : decode cX10_init 31 = .ok (.putfield 23, 3) := by decide +kernel
theorem dX10_init_34 : decode cX10_init 34 = .ok (.iconst 0, 1) := by decide +kernel
theorem dX10_init_35 : decode cX10_init 35 = .ok (.istore_n 1, 1) := by decide +kernel
theorem dX10_init_36 : decode cX10_init 36 = .ok (.iload_n 1, 1) := by decide +kernel
theorem dX10_init_37 : decode cX10_init 37 = .ok (.iconst 2, 1) := by decide +kernel
theorem dX10_init_38 : decode cX10_init 38 = .ok (.if_icmp .ge 22, 3) := by decide +kernel
theorem dX10_init_41 : decode cX10_init 41 = .ok (.aload_n 0, 1) := by decide +kernel
theorem dX10_init_42 : decode cX10_init 42 = .ok (.getfield 23, 3) := by decide +kernel
theorem dX10_init_45 : decode cX10_init 45 = .ok (.iload_n 1, 1) := by decide +kernel
theorem dX10_init_46 : decode cX10_init 46 = .ok (.new 7, 3) := by decide +kernel
theorem dX10_init_49 : decode cX10_init 49 = .ok (.dup, 1) := by decide +kernel
theorem dX10_init_50 : decode cX10_init 50 = .ok (.invokespecial 9, 3) := by decide +kernel
theorem dX10_init_53 : decode cX10_init 53 = .ok (.aastore, 1) := by decide +kernel
theorem dX10_init_54 : decode cX10_init 54 = .ok (.iinc 1 1, 3) := by decide +kernel
theorem dX10_init_57 : decode cX10_init 57 = .ok (.goto (-21), 3) := by decide +kernel
theorem dX10_init_60 : decode cX10_init 60 = .ok (.aload_n 0, 1) := by decide +kernel
theorem dX10_init_61 : decode cX10_init 61 = .ok (.iconst 2, 1) := by decide +kernel
theorem dX10_init_62 : decode cX10_init 62 = .ok (.newarray .boolean, 2) := by decide +kernel
theorem dX10_init_64 : decode cX10_init 64 = .ok (.putfield 27, 3) := by decide +kernel
theorem dX10_init_67 : decode cX10_init 67 = .ok (.aload_n 0, 1) := by decide +kernel
theorem dX10_init_68 : decode cX10_init 68 = .ok (.new 31, 3) := by decide +kernel
theorem dX10_init_71 : decode cX10_init 71 = .ok (.dup, 1) := by decide +kernel
theorem dX10_init_72 : decode cX10_init 72 = .ok (.invokespecial 33, 3) := by decide +kernel
theorem dX10_init_75 : decode cX10_init 75 = .ok (.putfield 34, 3) := by decide +kernel
theorem dX10_init_78 : decode cX10_init 78 = .ok (.aload_n 0, 1) := by decide +kernel
theorem dX10_init_79 : decode cX10_init 79 = .ok (.new 38, 3) := by decide +kernel
theorem dX10_init_82 : decode cX10_init 82 = .ok (.dup, 1) := by decide +kernel
theorem dX10_init_83 : decode cX10_init 83 = .ok (.invokespecial 40, 3) := by decide +kernel
theorem dX10_init_86 : decode cX10_init 86 = .ok (.putfield 41, 3) := by decide +kernel
theorem dX10_init_89 : decode cX10_init 89 = .ok (.aload_n 0, 1) := by decide +kernel
theorem dX10_init_90 : decode cX10_init 90 = .ok (.aload_n 0, 1) := by decide +kernel
theorem dX10_init_91 : decode cX10_init 91 = .ok (.getfield 41, 3) := by decide +kernel
theorem dX10_init_94 : decode cX10_init 94 = .ok (.getfield 45, 3) := by decide +kernel
theorem dX10_init_97 : decode cX10_init 97 = .ok (.putfield 49, 3) := by decide +kernel
theorem dX10_init_100 : decode cX10_init 100 = .ok (.return_, 1) := by decide +kernel
theorem dX10_start_0 : decode cX10_start 0 = .ok (.aload_n 0, 1) := by decide +kernel
theorem dX10_start_1 : decode cX10_start 1 = .ok (.getfield 19, 3) := by decide +kernel
theorem dX10_start_4 : decode cX10_start 4 = .ok (.aload_n 0, 1) := by decide +kernel
theorem dX10_start_5 : decode cX10_start 5 = .ok (.getfield 10, 3) := by decide +kernel
theorem dX10_start_8 : decode cX10_start 8 = .ok (.invokevirtual 50, 3) := by decide +kernel
theorem dX10_start_11 : decode cX10_start 11 = .ok (.aload_n 0, 1) := by decide +kernel
theorem dX10_start_12 : decode cX10_start 12 = .ok (.getfield 19, 3) := by decide +kernel
theorem dX10_start_15 : decode cX10_start 15 = .ok (.aload_n 0, 1) := by decide +kernel
theorem dX10_start_16 : decode cX10_start 16 = .ok (.getfield 10, 3) := by decide +kernel
theorem dX10_start_19 : decode cX10_start 19 = .ok (.iload_n 1, 1) := by decide +kernel
theorem dX10_start_20 : decode cX10_start 20 = .ok (.iload_n 2, 1) := by decide +kernel
theorem dX10_start_21 : decode cX10_start 21 = .ok (.iload_n 3, 1) := by decide +kernel
theorem dX10_start_22 : decode cX10_start 22 = .ok (.invokevirtual 54, 3) := by decide +kernel
theorem dX10_start_25 : decode cX10_start 25 = .ok (.invokevirtual 58, 3) := by decide +kernel
theorem dX10_start_28 : decode cX10_start 28 = .ok (.ireturn, 1) := by decide +kernel
theorem dX10_wrap_0 : decode cX10_wrap 0 = .ok (.aload_n 0, 1) := by decide +kernel
theorem dX10_wrap_1 : decode cX10_wrap 1 = .ok (.getfield 19, 3) := by decide +kernel
theorem dX10_wrap_4 : decode cX10_wrap 4 = .ok (.aload_n 0, 1) := by decide +kernel
theorem dX10_wrap_5 : decode cX10_wrap 5 = .ok (.getfield 10, 3) := by decide +kernel
theorem dX10_wrap_8 : decode cX10_wrap 8 = .ok (.invokevirtual 50, 3) := by decide +kernel
theorem dX10_wrap_11 : decode cX10_wrap 11 = .ok (.aload_n 0, 1) := by decide +kernel
theorem dX10_wrap_12 : decode cX10_wrap 12 = .ok (.getfield 19, 3) := by decide +kernel
theorem dX10_wrap_15 : decode cX10_wrap 15 = .ok (.aload_n 0, 1) := by decide +kernel
theorem dX10_wrap_16 : decode cX10_wrap 16 = .ok (.getfield 10, 3) := by decide +kernel
theorem dX10_wrap_19 : decode cX10_wrap 19 = .ok (.iload_n 1, 1) := by decide +kernel
theorem dX10_wrap_20 : decode cX10_wrap 20 = .ok (.invokevirtual 62, 3) := by decide +kernel
theorem dX10_wrap_23 : decode cX10_wrap 23 = .ok (.invokevirtual 58, 3) := by decide +kernel
theorem dX10_wrap_26 : decode cX10_wrap 26 = .ok (.ireturn, 1) := by decide +kernel
theorem dX10_step_0 : decode cX10_step 0 = .ok (.aload_n 0, 1) := by decide +kernel
theorem dX10_step_1 : decode cX10_step 1 = .ok (.getfield 19, 3) := by decide +kernel
theorem dX10_step_4 : decode cX10_step 4 = .ok (.aload_n 0, 1) := by decide +kernel
theorem dX10_step_5 : decode cX10_step 5 = .ok (.getfield 10, 3) := by decide +kernel
theorem dX10_step_8 : decode cX10_step 8 = .ok (.invokevirtual 50, 3) := by decide +kernel
theorem dX10_step_11 : decode cX10_step 11 = .ok (.aload_n 0, 1) := by decide +kernel
theorem dX10_step_12 : decode cX10_step 12 = .ok (.getfield 19, 3) := by decide +kernel
theorem dX10_step_15 : decode cX10_step 15 = .ok (.aload_n 0, 1) := by decide +kernel
theorem dX10_step_16 : decode cX10_step 16 = .ok (.getfield 10, 3) := by decide +kernel
theorem dX10_step_19 : decode cX10_step 19 = .ok (.iload_n 1, 1) := by decide +kernel
theorem dX10_step_20 : decode cX10_step 20 = .ok (.iload_n 2, 1) := by decide +kernel
theorem dX10_step_21 : decode cX10_step 21 = .ok (.iload_n 3, 1) := by decide +kernel
theorem dX10_step_22 : decode cX10_step 22 = .ok (.iload 4, 2) := by decide +kernel
theorem dX10_step_24 : decode cX10_step 24 = .ok (.iload 5, 2) := by decide +kernel
theorem dX10_step_26 : decode cX10_step 26 = .ok (.invokevirtual 65, 3) := by decide +kernel
theorem dX10_step_29 : decode cX10_step 29 = .ok (.invokevirtual 58, 3) := by decide +kernel
theorem dX10_step_32 : decode cX10_step 32 = .ok (.ireturn, 1) := by decide +kernel
theorem dX10_drop_0 : decode cX10_drop 0 = .ok (.aload_n 0, 1) := by decide +kernel
theorem dX10_drop_1 : decode cX10_drop 1 = .ok (.getfield 19, 3) := by decide +kernel
theorem dX10_drop_4 : decode cX10_drop 4 = .ok (.aload_n 0, 1) := by decide +kernel
theorem dX10_drop_5 : decode cX10_drop 5 = .ok (.getfield 10, 3) := by decide +kernel
theorem dX10_drop_8 : decode cX10_drop 8 = .ok (.invokevirtual 50, 3) := by decide +kernel
theorem dX10_drop_11 : decode cX10_drop 11 = .ok (.aload_n 0, 1) := by decide +kernel
theorem dX10_drop_12 : decode cX10_drop 12 = .ok (.getfield 19, 3) := by decide +kernel
theorem dX10_drop_15 : decode cX10_drop 15 = .ok (.aload_n 0, 1) := by decide +kernel
theorem dX10_drop_16 : decode cX10_drop 16 = .ok (.getfield 10, 3) := by decide +kernel
theorem dX10_drop_19 : decode cX10_drop 19 = .ok (.iload_n 1, 1) := by decide +kernel
theorem dX10_drop_20 : decode cX10_drop 20 = .ok (.invokevirtual 69, 3) := by decide +kernel
theorem dX10_drop_23 : decode cX10_drop 23 = .ok (.invokevirtual 58, 3) := by decide +kernel
theorem dX10_drop_26 : decode cX10_drop 26 = .ok (.ireturn, 1) := by decide +kernel
theorem dX10_candidate_0 : decode cX10_candidate 0 = .ok (.aload_n 0, 1) := by decide +kernel
theorem dX10_candidate_1 : decode cX10_candidate 1 = .ok (.getfield 19, 3) := by decide +kernel
theorem dX10_candidate_4 : decode cX10_candidate 4 = .ok (.aload_n 0, 1) := by decide +kernel
theorem dX10_candidate_5 : decode cX10_candidate 5 = .ok (.getfield 10, 3) := by decide +kernel
theorem dX10_candidate_8 : decode cX10_candidate 8 = .ok (.invokevirtual 50, 3) := by decide +kernel
theorem dX10_candidate_11 : decode cX10_candidate 11 = .ok (.aload_n 0, 1) := by decide +kernel
theorem dX10_candidate_12 : decode cX10_candidate 12 = .ok (.getfield 19, 3) := by decide +kernel
theorem dX10_candidate_15 : decode cX10_candidate 15 = .ok (.aload_n 0, 1) := by decide +kernel
theorem dX10_candidate_16 : decode cX10_candidate 16 = .ok (.getfield 10, 3) := by decide +kernel
theorem dX10_candidate_19 : decode cX10_candidate 19 = .ok (.iload_n 1, 1) := by decide +kernel
theorem dX10_candidate_20 : decode cX10_candidate 20 = .ok (.invokevirtual 72, 3) := by decide +kernel
theorem dX10_candidate_23 : decode cX10_candidate 23 = .ok (.invokevirtual 58, 3) := by decide +kernel
theorem dX10_candidate_26 : decode cX10_candidate 26 = .ok (.ireturn, 1) := by decide +kernel
theorem dX10_guess_0 : decode cX10_guess 0 = .ok (.aload_n 0, 1) := by decide +kernel
theorem dX10_guess_1 : decode cX10_guess 1 = .ok (.getfield 19, 3) := by decide +kernel
theorem dX10_guess_4 : decode cX10_guess 4 = .ok (.aload_n 0, 1) := by decide +kernel
theorem dX10_guess_5 : decode cX10_guess 5 = .ok (.getfield 10, 3) := by decide +kernel
theorem dX10_guess_8 : decode cX10_guess 8 = .ok (.invokevirtual 50, 3) := by decide +kernel
theorem dX10_guess_11 : decode cX10_guess 11 = .ok (.aload_n 0, 1) := by decide +kernel
theorem dX10_guess_12 : decode cX10_guess 12 = .ok (.getfield 19, 3) := by decide +kernel
theorem dX10_guess_15 : decode cX10_guess 15 = .ok (.aload_n 0, 1) := by decide +kernel
theorem dX10_guess_16 : decode cX10_guess 16 = .ok (.getfield 10, 3) := by decide +kernel
theorem dX10_guess_19 : decode cX10_guess 19 = .ok (.iload_n 1, 1) := by decide +kernel
theorem dX10_guess_20 : decode cX10_guess 20 = .ok (.invokevirtual 75, 3) := by decide +kernel
theorem dX10_guess_23 : decode cX10_guess 23 = .ok (.invokevirtual 58, 3) := by decide +kernel
theorem dX10_guess_26 : decode cX10_guess 26 = .ok (.ireturn, 1) := by decide +kernel
theorem dX10_run_0 : decode cX10_run 0 = .ok (.aload_n 0, 1) := by decide +kernel
theorem dX10_run_1 : decode cX10_run 1 = .ok (.getfield 19, 3) := by decide +kernel
theorem dX10_run_4 : decode cX10_run 4 = .ok (.aload_n 0, 1) := by decide +kernel
theorem dX10_run_5 : decode cX10_run 5 = .ok (.getfield 10, 3) := by decide +kernel
theorem dX10_run_8 : decode cX10_run 8 = .ok (.invokevirtual 50, 3) := by decide +kernel
theorem dX10_run_11 : decode cX10_run 11 = .ok (.aload_n 0, 1) := by decide +kernel
theorem dX10_run_12 : decode cX10_run 12 = .ok (.getfield 19, 3) := by decide +kernel
theorem dX10_run_15 : decode cX10_run 15 = .ok (.aload_n 0, 1) := by decide +kernel
theorem dX10_run_16 : decode cX10_run 16 = .ok (.getfield 10, 3) := by decide +kernel
theorem dX10_run_19 : decode cX10_run 19 = .ok (.iload_n 1, 1) := by decide +kernel
theorem dX10_run_20 : decode cX10_run 20 = .ok (.iload_n 2, 1) := by decide +kernel
theorem dX10_run_21 : decode cX10_run 21 = .ok (.invokevirtual 78, 3) := by decide +kernel
theorem dX10_run_24 : decode cX10_run 24 = .ok (.invokevirtual 58, 3) := by decide +kernel
theorem dX10_run_27 : decode cX10_run 27 = .ok (.ireturn, 1) := by decide +kernel
theorem dX10_strike_0 : decode cX10_strike 0 = .ok (.aload_n 0, 1) := by decide +kernel
theorem dX10_strike_1 : decode cX10_strike 1 = .ok (.getfield 19, 3) := by decide +kernel
theorem dX10_strike_4 : decode cX10_strike 4 = .ok (.aload_n 0, 1) := by decide +kernel
theorem dX10_strike_5 : decode cX10_strike 5 = .ok (.getfield 10, 3) := by decide +kernel
theorem dX10_strike_8 : decode cX10_strike 8 = .ok (.invokevirtual 50, 3) := by decide +kernel
theorem dX10_strike_11 : decode cX10_strike 11 = .ok (.aload_n 0, 1) := by decide +kernel
theorem dX10_strike_12 : decode cX10_strike 12 = .ok (.getfield 19, 3) := by decide +kernel
theorem dX10_strike_15 : decode cX10_strike 15 = .ok (.aload_n 0, 1) := by decide +kernel
theorem dX10_strike_16 : decode cX10_strike 16 = .ok (.getfield 10, 3) := by decide +kernel
theorem dX10_strike_19 : decode cX10_strike 19 = .ok (.aload_n 0, 1) := by decide +kernel
theorem dX10_strike_20 : decode cX10_strike 20 = .ok (.getfield 34, 3) := by decide +kernel
theorem dX10_strike_23 : decode cX10_strike 23 = .ok (.getfield 82, 3) := by decide +kernel
theorem dX10_strike_26 : decode cX10_strike 26 = .ok (.invokevirtual 86, 3) := by decide +kernel
theorem dX10_strike_29 : decode cX10_strike 29 = .ok (.invokevirtual 58, 3) := by decide +kernel
theorem dX10_strike_32 : decode cX10_strike 32 = .ok (.ireturn, 1) := by decide +kernel
theorem dX10_settle_0 : decode cX10_settle 0 = .ok (.aload_n 0, 1) := by decide +kernel
theorem dX10_settle_1 : decode cX10_settle 1 = .ok (.getfield 19, 3) := by decide +kernel
theorem dX10_settle_4 : decode cX10_settle 4 = .ok (.aload_n 0, 1) := by decide +kernel
theorem dX10_settle_5 : decode cX10_settle 5 = .ok (.getfield 10, 3) := by decide +kernel
theorem dX10_settle_8 : decode cX10_settle 8 = .ok (.invokevirtual 50, 3) := by decide +kernel
theorem dX10_settle_11 : decode cX10_settle 11 = .ok (.aload_n 0, 1) := by decide +kernel
theorem dX10_settle_12 : decode cX10_settle 12 = .ok (.getfield 19, 3) := by decide +kernel
theorem dX10_settle_15 : decode cX10_settle 15 = .ok (.aload_n 0, 1) := by decide +kernel
theorem dX10_settle_16 : decode cX10_settle 16 = .ok (.getfield 10, 3) := by decide +kernel
theorem dX10_settle_19 : decode cX10_settle 19 = .ok (.aload_n 0, 1) := by decide +kernel
theorem dX10_settle_20 : decode cX10_settle 20 = .ok (.getfield 34, 3) := by decide +kernel
theorem dX10_settle_23 : decode cX10_settle 23 = .ok (.getfield 82, 3) := by decide +kernel
theorem dX10_settle_26 : decode cX10_settle 26 = .ok (.invokevirtual 90, 3) := by decide +kernel
theorem dX10_settle_29 : decode cX10_settle 29 = .ok (.invokevirtual 58, 3) := by decide +kernel
theorem dX10_settle_32 : decode cX10_settle 32 = .ok (.ireturn, 1) := by decide +kernel
theorem dX10_claim_0 : decode cX10_claim 0 = .ok (.iload_n 1, 1) := by decide +kernel
theorem dX10_claim_1 : decode cX10_claim 1 = .ok (.iload_n 2, 1) := by decide +kernel
theorem dX10_claim_2 : decode cX10_claim 2 = .ok (.iload_n 3, 1) := by decide +kernel
theorem dX10_claim_3 : decode cX10_claim 3 = .ok (.iload 4, 2) := by decide +kernel
theorem dX10_claim_5 : decode cX10_claim 5 = .ok (.invokestatic 93, 3) := by decide +kernel
theorem dX10_claim_8 : decode cX10_claim 8 = .ok (.ireturn, 1) := by decide +kernel
theorem dX10_holds_0 : decode cX10_holds 0 = .ok (.iload_n 1, 1) := by decide +kernel
theorem dX10_holds_1 : decode cX10_holds 1 = .ok (.invokestatic 99, 3) := by decide +kernel
theorem dX10_holds_4 : decode cX10_holds 4 = .ok (.ifCond .eq 10, 3) := by decide +kernel
theorem dX10_holds_7 : decode cX10_holds 7 = .ok (.iload_n 2, 1) := by decide +kernel
theorem dX10_holds_8 : decode cX10_holds 8 = .ok (.invokestatic 103, 3) := by decide +kernel
theorem dX10_holds_11 : decode cX10_holds 11 = .ok (.ifCond .ne 6, 3) := by decide +kernel
theorem dX10_holds_14 : decode cX10_holds 14 = .ok (.bipush (-2), 2) := by decide +kernel
theorem dX10_holds_16 : decode cX10_holds 16 = .ok (.ireturn, 1) := by decide +kernel
theorem dX10_holds_17 : decode cX10_holds 17 = .ok (.iload_n 1, 1) := by decide +kernel
theorem dX10_holds_18 : decode cX10_holds 18 = .ok (.iload_n 2, 1) := by decide +kernel
theorem dX10_holds_19 : decode cX10_holds 19 = .ok (.invokestatic 106, 3) := by decide +kernel
theorem dX10_holds_22 : decode cX10_holds 22 = .ok (.invokestatic 110, 3) := by decide +kernel
theorem dX10_holds_25 : decode cX10_holds 25 = .ok (.ireturn, 1) := by decide +kernel
theorem dX10_ofStep_0 : decode cX10_ofStep 0 = .ok (.aload_n 0, 1) := by decide +kernel
theorem dX10_ofStep_1 : decode cX10_ofStep 1 = .ok (.getfield 10, 3) := by decide +kernel
theorem dX10_ofStep_4 : decode cX10_ofStep 4 = .ok (.getfield 114, 3) := by decide +kernel
theorem dX10_ofStep_7 : decode cX10_ofStep 7 = .ok (.astore_n 3, 1) := by decide +kernel
theorem dX10_ofStep_8 : decode cX10_ofStep 8 = .ok (.aload_n 3, 1) := by decide +kernel
theorem dX10_ofStep_9 : decode cX10_ofStep 9 = .ok (.iload_n 1, 1) := by decide +kernel
theorem dX10_ofStep_10 : decode cX10_ofStep 10 = .ok (.invokevirtual 118, 3) := by decide +kernel
theorem dX10_ofStep_13 : decode cX10_ofStep 13 = .ok (.ifCond .ne 5, 3) := by decide +kernel
theorem dX10_ofStep_16 : decode cX10_ofStep 16 = .ok (.iconst (-1), 1) := by decide +kernel
theorem dX10_ofStep_17 : decode cX10_ofStep 17 = .ok (.ireturn, 1) := by decide +kernel
theorem dX10_ofStep_18 : decode cX10_ofStep 18 = .ok (.iload_n 2, 1) := by decide +kernel
theorem dX10_ofStep_19 : decode cX10_ofStep 19 = .ok (.tableswitch 135 0 6 #[41, 48, 55, 62, 69, 79, 105], 41) := by decide +kernel
theorem dX10_ofStep_60 : decode cX10_ofStep 60 = .ok (.aload_n 3, 1) := by decide +kernel
theorem dX10_ofStep_61 : decode cX10_ofStep 61 = .ok (.getfield 123, 3) := by decide +kernel
theorem dX10_ofStep_64 : decode cX10_ofStep 64 = .ok (.iload_n 1, 1) := by decide +kernel
theorem dX10_ofStep_65 : decode cX10_ofStep 65 = .ok (.iaload, 1) := by decide +kernel
theorem dX10_ofStep_66 : decode cX10_ofStep 66 = .ok (.ireturn, 1) := by decide +kernel
theorem dX10_ofStep_67 : decode cX10_ofStep 67 = .ok (.aload_n 3, 1) := by decide +kernel
theorem dX10_ofStep_68 : decode cX10_ofStep 68 = .ok (.getfield 127, 3) := by decide +kernel
theorem dX10_ofStep_71 : decode cX10_ofStep 71 = .ok (.iload_n 1, 1) := by decide +kernel
theorem dX10_ofStep_72 : decode cX10_ofStep 72 = .ok (.iaload, 1) := by decide +kernel
theorem dX10_ofStep_73 : decode cX10_ofStep 73 = .ok (.ireturn, 1) := by decide +kernel
theorem dX10_ofStep_74 : decode cX10_ofStep 74 = .ok (.aload_n 3, 1) := by decide +kernel
theorem dX10_ofStep_75 : decode cX10_ofStep 75 = .ok (.getfield 130, 3) := by decide +kernel
theorem dX10_ofStep_78 : decode cX10_ofStep 78 = .ok (.iload_n 1, 1) := by decide +kernel
theorem dX10_ofStep_79 : decode cX10_ofStep 79 = .ok (.iaload, 1) := by decide +kernel
theorem dX10_ofStep_80 : decode cX10_ofStep 80 = .ok (.ireturn, 1) := by decide +kernel
theorem dX10_ofStep_81 : decode cX10_ofStep 81 = .ok (.aload_n 3, 1) := by decide +kernel
theorem dX10_ofStep_82 : decode cX10_ofStep 82 = .ok (.getfield 133, 3) := by decide +kernel
theorem dX10_ofStep_85 : decode cX10_ofStep 85 = .ok (.iload_n 1, 1) := by decide +kernel
theorem dX10_ofStep_86 : decode cX10_ofStep 86 = .ok (.iaload, 1) := by decide +kernel
theorem dX10_ofStep_87 : decode cX10_ofStep 87 = .ok (.ireturn, 1) := by decide +kernel
theorem dX10_ofStep_88 : decode cX10_ofStep 88 = .ok (.aload_n 3, 1) := by decide +kernel
theorem dX10_ofStep_89 : decode cX10_ofStep 89 = .ok (.getfield 136, 3) := by decide +kernel
theorem dX10_ofStep_92 : decode cX10_ofStep 92 = .ok (.iload_n 1, 1) := by decide +kernel
theorem dX10_ofStep_93 : decode cX10_ofStep 93 = .ok (.iaload, 1) := by decide +kernel
theorem dX10_ofStep_94 : decode cX10_ofStep 94 = .ok (.bipush 7, 2) := by decide +kernel
theorem dX10_ofStep_96 : decode cX10_ofStep 96 = .ok (.iadd, 1) := by decide +kernel
theorem dX10_ofStep_97 : decode cX10_ofStep 97 = .ok (.ireturn, 1) := by decide +kernel
theorem dX10_ofStep_98 : decode cX10_ofStep 98 = .ok (.aload_n 0, 1) := by decide +kernel
theorem dX10_ofStep_99 : decode cX10_ofStep 99 = .ok (.getfield 34, 3) := by decide +kernel
theorem dX10_ofStep_102 : decode cX10_ofStep 102 = .ok (.getfield 139, 3) := by decide +kernel
theorem dX10_ofStep_105 : decode cX10_ofStep 105 = .ok (.invokevirtual 142, 3) := by decide +kernel
theorem dX10_ofStep_108 : decode cX10_ofStep 108 = .ok (.aload_n 0, 1) := by decide +kernel
theorem dX10_ofStep_109 : decode cX10_ofStep 109 = .ok (.getfield 10, 3) := by decide +kernel
theorem dX10_ofStep_112 : decode cX10_ofStep 112 = .ok (.iload_n 1, 1) := by decide +kernel
theorem dX10_ofStep_113 : decode cX10_ofStep 113 = .ok (.aload_n 0, 1) := by decide +kernel
theorem dX10_ofStep_114 : decode cX10_ofStep 114 = .ok (.getfield 34, 3) := by decide +kernel
theorem dX10_ofStep_117 : decode cX10_ofStep 117 = .ok (.getfield 139, 3) := by decide +kernel
theorem dX10_ofStep_120 : decode cX10_ofStep 120 = .ok (.invokevirtual 147, 3) := by decide +kernel
theorem dX10_ofStep_123 : decode cX10_ofStep 123 = .ok (.ireturn, 1) := by decide +kernel
theorem dX10_ofStep_124 : decode cX10_ofStep 124 = .ok (.aload_n 0, 1) := by decide +kernel
theorem dX10_ofStep_125 : decode cX10_ofStep 125 = .ok (.getfield 10, 3) := by decide +kernel
theorem dX10_ofStep_128 : decode cX10_ofStep 128 = .ok (.aload_n 0, 1) := by decide +kernel
theorem dX10_ofStep_129 : decode cX10_ofStep 129 = .ok (.getfield 34, 3) := by decide +kernel
theorem dX10_ofStep_132 : decode cX10_ofStep 132 = .ok (.getfield 82, 3) := by decide +kernel
theorem dX10_ofStep_135 : decode cX10_ofStep 135 = .ok (.invokevirtual 151, 3) := by decide +kernel
theorem dX10_ofStep_138 : decode cX10_ofStep 138 = .ok (.aload_n 0, 1) := by decide +kernel
theorem dX10_ofStep_139 : decode cX10_ofStep 139 = .ok (.getfield 10, 3) := by decide +kernel
theorem dX10_ofStep_142 : decode cX10_ofStep 142 = .ok (.iload_n 1, 1) := by decide +kernel
theorem dX10_ofStep_143 : decode cX10_ofStep 143 = .ok (.aload_n 0, 1) := by decide +kernel
theorem dX10_ofStep_144 : decode cX10_ofStep 144 = .ok (.getfield 34, 3) := by decide +kernel
theorem dX10_ofStep_147 : decode cX10_ofStep 147 = .ok (.getfield 82, 3) := by decide +kernel
theorem dX10_ofStep_150 : decode cX10_ofStep 150 = .ok (.invokevirtual 147, 3) := by decide +kernel
theorem dX10_ofStep_153 : decode cX10_ofStep 153 = .ok (.ireturn, 1) := by decide +kernel
theorem dX10_ofStep_154 : decode cX10_ofStep 154 = .ok (.bipush (-2), 2) := by decide +kernel
theorem dX10_ofStep_156 : decode cX10_ofStep 156 = .ok (.ireturn, 1) := by decide +kernel
theorem dX10_leads_0 : decode cX10_leads 0 = .ok (.aload_n 0, 1) := by decide +kernel
theorem dX10_leads_1 : decode cX10_leads 1 = .ok (.getfield 10, 3) := by decide +kernel
theorem dX10_leads_4 : decode cX10_leads 4 = .ok (.getfield 114, 3) := by decide +kernel
theorem dX10_leads_7 : decode cX10_leads 7 = .ok (.iload_n 1, 1) := by decide +kernel
theorem dX10_leads_8 : decode cX10_leads 8 = .ok (.invokevirtual 118, 3) := by decide +kernel
theorem dX10_leads_11 : decode cX10_leads 11 = .ok (.ifCond .ne 5, 3) := by decide +kernel
theorem dX10_leads_14 : decode cX10_leads 14 = .ok (.iconst (-1), 1) := by decide +kernel
theorem dX10_leads_15 : decode cX10_leads 15 = .ok (.ireturn, 1) := by decide +kernel
theorem dX10_leads_16 : decode cX10_leads 16 = .ok (.iload_n 2, 1) := by decide +kernel
theorem dX10_leads_17 : decode cX10_leads 17 = .ok (.invokestatic 103, 3) := by decide +kernel
theorem dX10_leads_20 : decode cX10_leads 20 = .ok (.ifCond .ne 6, 3) := by decide +kernel
theorem dX10_leads_23 : decode cX10_leads 23 = .ok (.bipush (-2), 2) := by decide +kernel
theorem dX10_leads_25 : decode cX10_leads 25 = .ok (.ireturn, 1) := by decide +kernel
theorem dX10_leads_26 : decode cX10_leads 26 = .ok (.aload_n 0, 1) := by decide +kernel
theorem dX10_leads_27 : decode cX10_leads 27 = .ok (.getfield 10, 3) := by decide +kernel
theorem dX10_leads_30 : decode cX10_leads 30 = .ok (.iload_n 1, 1) := by decide +kernel
theorem dX10_leads_31 : decode cX10_leads 31 = .ok (.iload_n 2, 1) := by decide +kernel
theorem dX10_leads_32 : decode cX10_leads 32 = .ok (.invokevirtual 155, 3) := by decide +kernel
theorem dX10_leads_35 : decode cX10_leads 35 = .ok (.ireturn, 1) := by decide +kernel
theorem dX10_ofCandidate_0 : decode cX10_ofCandidate 0 = .ok (.aload_n 0, 1) := by decide +kernel
theorem dX10_ofCandidate_1 : decode cX10_ofCandidate 1 = .ok (.getfield 10, 3) := by decide +kernel
theorem dX10_ofCandidate_4 : decode cX10_ofCandidate 4 = .ok (.getfield 158, 3) := by decide +kernel
theorem dX10_ofCandidate_7 : decode cX10_ofCandidate 7 = .ok (.astore_n 3, 1) := by decide +kernel
theorem dX10_ofCandidate_8 : decode cX10_ofCandidate 8 = .ok (.aload_n 3, 1) := by decide +kernel
theorem dX10_ofCandidate_9 : decode cX10_ofCandidate 9 = .ok (.iload_n 1, 1) := by decide +kernel
theorem dX10_ofCandidate_10 : decode cX10_ofCandidate 10 = .ok (.invokevirtual 162, 3) := by decide +kernel
theorem dX10_ofCandidate_13 : decode cX10_ofCandidate 13 = .ok (.ifCond .ne 5, 3) := by decide +kernel
theorem dX10_ofCandidate_16 : decode cX10_ofCandidate 16 = .ok (.iconst (-1), 1) := by decide +kernel
theorem dX10_ofCandidate_17 : decode cX10_ofCandidate 17 = .ok (.ireturn, 1) := by decide +kernel
theorem dX10_ofCandidate_18 : decode cX10_ofCandidate 18 = .ok (.iload_n 2, 1) := by decide +kernel
theorem dX10_ofCandidate_19 : decode cX10_ofCandidate 19 = .ok (.tableswitch 68 0 4 #[33, 40, 47, 54, 61], 33) := by decide +kernel
theorem dX10_ofCandidate_52 : decode cX10_ofCandidate 52 = .ok (.aload_n 3, 1) := by decide +kernel
theorem dX10_ofCandidate_53 : decode cX10_ofCandidate 53 = .ok (.getfield 165, 3) := by decide +kernel
theorem dX10_ofCandidate_56 : decode cX10_ofCandidate 56 = .ok (.iload_n 1, 1) := by decide +kernel
theorem dX10_ofCandidate_57 : decode cX10_ofCandidate 57 = .ok (.iaload, 1) := by decide +kernel
theorem dX10_ofCandidate_58 : decode cX10_ofCandidate 58 = .ok (.ireturn, 1) := by decide +kernel
theorem dX10_ofCandidate_59 : decode cX10_ofCandidate 59 = .ok (.aload_n 3, 1) := by decide +kernel
theorem dX10_ofCandidate_60 : decode cX10_ofCandidate 60 = .ok (.getfield 168, 3) := by decide +kernel
theorem dX10_ofCandidate_63 : decode cX10_ofCandidate 63 = .ok (.iload_n 1, 1) := by decide +kernel
theorem dX10_ofCandidate_64 : decode cX10_ofCandidate 64 = .ok (.iaload, 1) := by decide +kernel
theorem dX10_ofCandidate_65 : decode cX10_ofCandidate 65 = .ok (.ireturn, 1) := by decide +kernel
theorem dX10_ofCandidate_66 : decode cX10_ofCandidate 66 = .ok (.aload_n 3, 1) := by decide +kernel
theorem dX10_ofCandidate_67 : decode cX10_ofCandidate 67 = .ok (.getfield 171, 3) := by decide +kernel
theorem dX10_ofCandidate_70 : decode cX10_ofCandidate 70 = .ok (.iload_n 1, 1) := by decide +kernel
theorem dX10_ofCandidate_71 : decode cX10_ofCandidate 71 = .ok (.iaload, 1) := by decide +kernel
theorem dX10_ofCandidate_72 : decode cX10_ofCandidate 72 = .ok (.ireturn, 1) := by decide +kernel
theorem dX10_ofCandidate_73 : decode cX10_ofCandidate 73 = .ok (.aload_n 3, 1) := by decide +kernel
theorem dX10_ofCandidate_74 : decode cX10_ofCandidate 74 = .ok (.getfield 174, 3) := by decide +kernel
theorem dX10_ofCandidate_77 : decode cX10_ofCandidate 77 = .ok (.iload_n 1, 1) := by decide +kernel
theorem dX10_ofCandidate_78 : decode cX10_ofCandidate 78 = .ok (.iaload, 1) := by decide +kernel
theorem dX10_ofCandidate_79 : decode cX10_ofCandidate 79 = .ok (.ireturn, 1) := by decide +kernel
theorem dX10_ofCandidate_80 : decode cX10_ofCandidate 80 = .ok (.aload_n 3, 1) := by decide +kernel
theorem dX10_ofCandidate_81 : decode cX10_ofCandidate 81 = .ok (.getfield 177, 3) := by decide +kernel
theorem dX10_ofCandidate_84 : decode cX10_ofCandidate 84 = .ok (.iload_n 1, 1) := by decide +kernel
theorem dX10_ofCandidate_85 : decode cX10_ofCandidate 85 = .ok (.iaload, 1) := by decide +kernel
theorem dX10_ofCandidate_86 : decode cX10_ofCandidate 86 = .ok (.ireturn, 1) := by decide +kernel
theorem dX10_ofCandidate_87 : decode cX10_ofCandidate 87 = .ok (.bipush (-2), 2) := by decide +kernel
theorem dX10_ofCandidate_89 : decode cX10_ofCandidate 89 = .ok (.ireturn, 1) := by decide +kernel
theorem dX10_count_0 : decode cX10_count 0 = .ok (.iload_n 1, 1) := by decide +kernel
theorem dX10_count_1 : decode cX10_count 1 = .ok (.tableswitch 221 0 12 #[67, 78, 89, 100, 111, 119, 127, 135, 143, 168, 190, 205, 213], 67) := by decide +kernel
theorem dX10_count_68 : decode cX10_count 68 = .ok (.aload_n 0, 1) := by decide +kernel
theorem dX10_count_69 : decode cX10_count 69 = .ok (.getfield 10, 3) := by decide +kernel
theorem dX10_count_72 : decode cX10_count 72 = .ok (.getfield 114, 3) := by decide +kernel
theorem dX10_count_75 : decode cX10_count 75 = .ok (.getfield 180, 3) := by decide +kernel
theorem dX10_count_78 : decode cX10_count 78 = .ok (.ireturn, 1) := by decide +kernel
theorem dX10_count_79 : decode cX10_count 79 = .ok (.aload_n 0, 1) := by decide +kernel
theorem dX10_count_80 : decode cX10_count 80 = .ok (.getfield 10, 3) := by decide +kernel
theorem dX10_count_83 : decode cX10_count 83 = .ok (.getfield 158, 3) := by decide +kernel
theorem dX10_count_86 : decode cX10_count 86 = .ok (.getfield 184, 3) := by decide +kernel
theorem dX10_count_89 : decode cX10_count 89 = .ok (.ireturn, 1) := by decide +kernel
theorem dX10_count_90 : decode cX10_count 90 = .ok (.aload_n 0, 1) := by decide +kernel
theorem dX10_count_91 : decode cX10_count 91 = .ok (.getfield 10, 3) := by decide +kernel
theorem dX10_count_94 : decode cX10_count 94 = .ok (.getfield 158, 3) := by decide +kernel
theorem dX10_count_97 : decode cX10_count 97 = .ok (.invokevirtual 185, 3) := by decide +kernel
theorem dX10_count_100 : decode cX10_count 100 = .ok (.ireturn, 1) := by decide +kernel
theorem dX10_count_101 : decode cX10_count 101 = .ok (.aload_n 0, 1) := by decide +kernel
theorem dX10_count_102 : decode cX10_count 102 = .ok (.getfield 10, 3) := by decide +kernel
theorem dX10_count_105 : decode cX10_count 105 = .ok (.getfield 189, 3) := by decide +kernel
theorem dX10_count_108 : decode cX10_count 108 = .ok (.getfield 193, 3) := by decide +kernel
theorem dX10_count_111 : decode cX10_count 111 = .ok (.ireturn, 1) := by decide +kernel
theorem dX10_count_112 : decode cX10_count 112 = .ok (.aload_n 0, 1) := by decide +kernel
theorem dX10_count_113 : decode cX10_count 113 = .ok (.getfield 10, 3) := by decide +kernel
theorem dX10_count_116 : decode cX10_count 116 = .ok (.getfield 196, 3) := by decide +kernel
theorem dX10_count_119 : decode cX10_count 119 = .ok (.ireturn, 1) := by decide +kernel
theorem dX10_count_120 : decode cX10_count 120 = .ok (.aload_n 0, 1) := by decide +kernel
theorem dX10_count_121 : decode cX10_count 121 = .ok (.getfield 10, 3) := by decide +kernel
theorem dX10_count_124 : decode cX10_count 124 = .ok (.getfield 199, 3) := by decide +kernel
theorem dX10_count_127 : decode cX10_count 127 = .ok (.ireturn, 1) := by decide +kernel
theorem dX10_count_128 : decode cX10_count 128 = .ok (.aload_n 0, 1) := by decide +kernel
theorem dX10_count_129 : decode cX10_count 129 = .ok (.getfield 10, 3) := by decide +kernel
theorem dX10_count_132 : decode cX10_count 132 = .ok (.getfield 202, 3) := by decide +kernel
theorem dX10_count_135 : decode cX10_count 135 = .ok (.ireturn, 1) := by decide +kernel
theorem dX10_count_136 : decode cX10_count 136 = .ok (.aload_n 0, 1) := by decide +kernel
theorem dX10_count_137 : decode cX10_count 137 = .ok (.getfield 10, 3) := by decide +kernel
theorem dX10_count_140 : decode cX10_count 140 = .ok (.getfield 205, 3) := by decide +kernel
theorem dX10_count_143 : decode cX10_count 143 = .ok (.ireturn, 1) := by decide +kernel
theorem dX10_count_144 : decode cX10_count 144 = .ok (.aload_n 0, 1) := by decide +kernel
theorem dX10_count_145 : decode cX10_count 145 = .ok (.getfield 10, 3) := by decide +kernel
theorem dX10_count_148 : decode cX10_count 148 = .ok (.aload_n 0, 1) := by decide +kernel
theorem dX10_count_149 : decode cX10_count 149 = .ok (.getfield 34, 3) := by decide +kernel
theorem dX10_count_152 : decode cX10_count 152 = .ok (.getfield 82, 3) := by decide +kernel
theorem dX10_count_155 : decode cX10_count 155 = .ok (.invokevirtual 151, 3) := by decide +kernel
theorem dX10_count_158 : decode cX10_count 158 = .ok (.aload_n 0, 1) := by decide +kernel
theorem dX10_count_159 : decode cX10_count 159 = .ok (.getfield 34, 3) := by decide +kernel
theorem dX10_count_162 : decode cX10_count 162 = .ok (.getfield 82, 3) := by decide +kernel
theorem dX10_count_165 : decode cX10_count 165 = .ok (.invokevirtual 208, 3) := by decide +kernel
theorem dX10_count_168 : decode cX10_count 168 = .ok (.ireturn, 1) := by decide +kernel
theorem dX10_count_169 : decode cX10_count 169 = .ok (.aload_n 0, 1) := by decide +kernel
theorem dX10_count_170 : decode cX10_count 170 = .ok (.getfield 34, 3) := by decide +kernel
theorem dX10_count_173 : decode cX10_count 173 = .ok (.aload_n 0, 1) := by decide +kernel
theorem dX10_count_174 : decode cX10_count 174 = .ok (.getfield 10, 3) := by decide +kernel
theorem dX10_count_177 : decode cX10_count 177 = .ok (.invokevirtual 211, 3) := by decide +kernel
theorem dX10_count_180 : decode cX10_count 180 = .ok (.aload_n 0, 1) := by decide +kernel
theorem dX10_count_181 : decode cX10_count 181 = .ok (.getfield 34, 3) := by decide +kernel
theorem dX10_count_184 : decode cX10_count 184 = .ok (.getfield 214, 3) := by decide +kernel
theorem dX10_count_187 : decode cX10_count 187 = .ok (.invokevirtual 208, 3) := by decide +kernel
theorem dX10_count_190 : decode cX10_count 190 = .ok (.ireturn, 1) := by decide +kernel
theorem dX10_count_191 : decode cX10_count 191 = .ok (.aload_n 0, 1) := by decide +kernel
theorem dX10_count_192 : decode cX10_count 192 = .ok (.getfield 34, 3) := by decide +kernel
theorem dX10_count_195 : decode cX10_count 195 = .ok (.aload_n 0, 1) := by decide +kernel
theorem dX10_count_196 : decode cX10_count 196 = .ok (.getfield 10, 3) := by decide +kernel
theorem dX10_count_199 : decode cX10_count 199 = .ok (.invokevirtual 217, 3) := by decide +kernel
theorem dX10_count_202 : decode cX10_count 202 = .ok (.invokestatic 110, 3) := by decide +kernel
theorem dX10_count_205 : decode cX10_count 205 = .ok (.ireturn, 1) := by decide +kernel
theorem dX10_count_206 : decode cX10_count 206 = .ok (.aload_n 0, 1) := by decide +kernel
theorem dX10_count_207 : decode cX10_count 207 = .ok (.getfield 49, 3) := by decide +kernel
theorem dX10_count_210 : decode cX10_count 210 = .ok (.getfield 221, 3) := by decide +kernel
theorem dX10_count_213 : decode cX10_count 213 = .ok (.ireturn, 1) := by decide +kernel
theorem dX10_count_214 : decode cX10_count 214 = .ok (.aload_n 0, 1) := by decide +kernel
theorem dX10_count_215 : decode cX10_count 215 = .ok (.getfield 19, 3) := by decide +kernel
theorem dX10_count_218 : decode cX10_count 218 = .ok (.getfield 226, 3) := by decide +kernel
theorem dX10_count_221 : decode cX10_count 221 = .ok (.ireturn, 1) := by decide +kernel
theorem dX10_count_222 : decode cX10_count 222 = .ok (.bipush (-2), 2) := by decide +kernel
theorem dX10_count_224 : decode cX10_count 224 = .ok (.ireturn, 1) := by decide +kernel
theorem dX10_ofState_0 : decode cX10_ofState 0 = .ok (.iload_n 1, 1) := by decide +kernel
theorem dX10_ofState_1 : decode cX10_ofState 1 = .ok (.invokestatic 103, 3) := by decide +kernel
theorem dX10_ofState_4 : decode cX10_ofState 4 = .ok (.ifCond .ne 6, 3) := by decide +kernel
theorem dX10_ofState_7 : decode cX10_ofState 7 = .ok (.bipush (-2), 2) := by decide +kernel
theorem dX10_ofState_9 : decode cX10_ofState 9 = .ok (.ireturn, 1) := by decide +kernel
theorem dX10_ofState_10 : decode cX10_ofState 10 = .ok (.aload_n 0, 1) := by decide +kernel
theorem dX10_ofState_11 : decode cX10_ofState 11 = .ok (.getfield 34, 3) := by decide +kernel
theorem dX10_ofState_14 : decode cX10_ofState 14 = .ok (.aload_n 0, 1) := by decide +kernel
theorem dX10_ofState_15 : decode cX10_ofState 15 = .ok (.getfield 10, 3) := by decide +kernel
theorem dX10_ofState_18 : decode cX10_ofState 18 = .ok (.invokevirtual 211, 3) := by decide +kernel
theorem dX10_ofState_21 : decode cX10_ofState 21 = .ok (.aload_n 0, 1) := by decide +kernel
theorem dX10_ofState_22 : decode cX10_ofState 22 = .ok (.getfield 10, 3) := by decide +kernel
theorem dX10_ofState_25 : decode cX10_ofState 25 = .ok (.getfield 189, 3) := by decide +kernel
theorem dX10_ofState_28 : decode cX10_ofState 28 = .ok (.getfield 227, 3) := by decide +kernel
theorem dX10_ofState_31 : decode cX10_ofState 31 = .ok (.iload_n 1, 1) := by decide +kernel
theorem dX10_ofState_32 : decode cX10_ofState 32 = .ok (.invokevirtual 230, 3) := by decide +kernel
theorem dX10_ofState_35 : decode cX10_ofState 35 = .ok (.invokestatic 110, 3) := by decide +kernel
theorem dX10_ofState_38 : decode cX10_ofState 38 = .ok (.iconst 2, 1) := by decide +kernel
theorem dX10_ofState_39 : decode cX10_ofState 39 = .ok (.aload_n 0, 1) := by decide +kernel
theorem dX10_ofState_40 : decode cX10_ofState 40 = .ok (.getfield 34, 3) := by decide +kernel
theorem dX10_ofState_43 : decode cX10_ofState 43 = .ok (.getfield 214, 3) := by decide +kernel
theorem dX10_ofState_46 : decode cX10_ofState 46 = .ok (.iload_n 1, 1) := by decide +kernel
theorem dX10_ofState_47 : decode cX10_ofState 47 = .ok (.invokevirtual 230, 3) := by decide +kernel
theorem dX10_ofState_50 : decode cX10_ofState 50 = .ok (.invokestatic 110, 3) := by decide +kernel
theorem dX10_ofState_53 : decode cX10_ofState 53 = .ok (.imul, 1) := by decide +kernel
theorem dX10_ofState_54 : decode cX10_ofState 54 = .ok (.iadd, 1) := by decide +kernel
theorem dX10_ofState_55 : decode cX10_ofState 55 = .ok (.iconst 4, 1) := by decide +kernel
theorem dX10_ofState_56 : decode cX10_ofState 56 = .ok (.aload_n 0, 1) := by decide +kernel
theorem dX10_ofState_57 : decode cX10_ofState 57 = .ok (.getfield 10, 3) := by decide +kernel
theorem dX10_ofState_60 : decode cX10_ofState 60 = .ok (.getfield 158, 3) := by decide +kernel
theorem dX10_ofState_63 : decode cX10_ofState 63 = .ok (.iload_n 1, 1) := by decide +kernel
theorem dX10_ofState_64 : decode cX10_ofState 64 = .ok (.invokevirtual 231, 3) := by decide +kernel
theorem dX10_ofState_67 : decode cX10_ofState 67 = .ok (.invokestatic 110, 3) := by decide +kernel
theorem dX10_ofState_70 : decode cX10_ofState 70 = .ok (.imul, 1) := by decide +kernel
theorem dX10_ofState_71 : decode cX10_ofState 71 = .ok (.iadd, 1) := by decide +kernel
theorem dX10_ofState_72 : decode cX10_ofState 72 = .ok (.ireturn, 1) := by decide +kernel
theorem dX10_proves_0 : decode cX10_proves 0 = .ok (.iload_n 1, 1) := by decide +kernel
theorem dX10_proves_1 : decode cX10_proves 1 = .ok (.invokestatic 99, 3) := by decide +kernel
theorem dX10_proves_4 : decode cX10_proves 4 = .ok (.ifCond .ne 6, 3) := by decide +kernel
theorem dX10_proves_7 : decode cX10_proves 7 = .ok (.bipush (-2), 2) := by decide +kernel
theorem dX10_proves_9 : decode cX10_proves 9 = .ok (.ireturn, 1) := by decide +kernel
theorem dX10_proves_10 : decode cX10_proves 10 = .ok (.aload_n 0, 1) := by decide +kernel
theorem dX10_proves_11 : decode cX10_proves 11 = .ok (.getfield 34, 3) := by decide +kernel
theorem dX10_proves_14 : decode cX10_proves 14 = .ok (.aload_n 0, 1) := by decide +kernel
theorem dX10_proves_15 : decode cX10_proves 15 = .ok (.getfield 10, 3) := by decide +kernel
theorem dX10_proves_18 : decode cX10_proves 18 = .ok (.invokevirtual 217, 3) := by decide +kernel
theorem dX10_proves_21 : decode cX10_proves 21 = .ok (.ifCond .ne 6, 3) := by decide +kernel
theorem dX10_proves_24 : decode cX10_proves 24 = .ok (.bipush (-5), 2) := by decide +kernel
theorem dX10_proves_26 : decode cX10_proves 26 = .ok (.ireturn, 1) := by decide +kernel
theorem dX10_proves_27 : decode cX10_proves 27 = .ok (.aload_n 0, 1) := by decide +kernel
theorem dX10_proves_28 : decode cX10_proves 28 = .ok (.getfield 34, 3) := by decide +kernel
theorem dX10_proves_31 : decode cX10_proves 31 = .ok (.getfield 82, 3) := by decide +kernel
theorem dX10_proves_34 : decode cX10_proves 34 = .ok (.iload_n 1, 1) := by decide +kernel
theorem dX10_proves_35 : decode cX10_proves 35 = .ok (.invokevirtual 234, 3) := by decide +kernel
theorem dX10_proves_38 : decode cX10_proves 38 = .ok (.bipush (-6), 2) := by decide +kernel
theorem dX10_proves_40 : decode cX10_proves 40 = .ok (.if_icmp .ne 7, 3) := by decide +kernel
theorem dX10_proves_43 : decode cX10_proves 43 = .ok (.iconst 1, 1) := by decide +kernel
theorem dX10_proves_44 : decode cX10_proves 44 = .ok (.goto 4, 3) := by decide +kernel
theorem dX10_proves_47 : decode cX10_proves 47 = .ok (.iconst 0, 1) := by decide +kernel
theorem dX10_proves_48 : decode cX10_proves 48 = .ok (.invokestatic 110, 3) := by decide +kernel
theorem dX10_proves_51 : decode cX10_proves 51 = .ok (.ireturn, 1) := by decide +kernel
theorem dX10_witness_0 : decode cX10_witness 0 = .ok (.iload_n 1, 1) := by decide +kernel
theorem dX10_witness_1 : decode cX10_witness 1 = .ok (.invokestatic 99, 3) := by decide +kernel
theorem dX10_witness_4 : decode cX10_witness 4 = .ok (.ifCond .ne 6, 3) := by decide +kernel
theorem dX10_witness_7 : decode cX10_witness 7 = .ok (.bipush (-2), 2) := by decide +kernel
theorem dX10_witness_9 : decode cX10_witness 9 = .ok (.ireturn, 1) := by decide +kernel
theorem dX10_witness_10 : decode cX10_witness 10 = .ok (.aload_n 0, 1) := by decide +kernel
theorem dX10_witness_11 : decode cX10_witness 11 = .ok (.getfield 10, 3) := by decide +kernel
theorem dX10_witness_14 : decode cX10_witness 14 = .ok (.aload_n 0, 1) := by decide +kernel
theorem dX10_witness_15 : decode cX10_witness 15 = .ok (.getfield 34, 3) := by decide +kernel
theorem dX10_witness_18 : decode cX10_witness 18 = .ok (.getfield 82, 3) := by decide +kernel
theorem dX10_witness_21 : decode cX10_witness 21 = .ok (.invokevirtual 151, 3) := by decide +kernel
theorem dX10_witness_24 : decode cX10_witness 24 = .ok (.aload_n 0, 1) := by decide +kernel
theorem dX10_witness_25 : decode cX10_witness 25 = .ok (.getfield 34, 3) := by decide +kernel
theorem dX10_witness_28 : decode cX10_witness 28 = .ok (.getfield 82, 3) := by decide +kernel
theorem dX10_witness_31 : decode cX10_witness 31 = .ok (.iload_n 1, 1) := by decide +kernel
theorem dX10_witness_32 : decode cX10_witness 32 = .ok (.invokevirtual 234, 3) := by decide +kernel
theorem dX10_witness_35 : decode cX10_witness 35 = .ok (.ireturn, 1) := by decide +kernel
theorem dX10_isTrue_0 : decode cX10_isTrue 0 = .ok (.iload_n 1, 1) := by decide +kernel
theorem dX10_isTrue_1 : decode cX10_isTrue 1 = .ok (.invokestatic 99, 3) := by decide +kernel
theorem dX10_isTrue_4 : decode cX10_isTrue 4 = .ok (.ifCond .ne 6, 3) := by decide +kernel
theorem dX10_isTrue_7 : decode cX10_isTrue 7 = .ok (.bipush (-2), 2) := by decide +kernel
theorem dX10_isTrue_9 : decode cX10_isTrue 9 = .ok (.ireturn, 1) := by decide +kernel
theorem dX10_isTrue_10 : decode cX10_isTrue 10 = .ok (.aload_n 0, 1) := by decide +kernel
theorem dX10_isTrue_11 : decode cX10_isTrue 11 = .ok (.getfield 34, 3) := by decide +kernel
theorem dX10_isTrue_14 : decode cX10_isTrue 14 = .ok (.aload_n 0, 1) := by decide +kernel
theorem dX10_isTrue_15 : decode cX10_isTrue 15 = .ok (.getfield 10, 3) := by decide +kernel
theorem dX10_isTrue_18 : decode cX10_isTrue 18 = .ok (.invokevirtual 211, 3) := by decide +kernel
theorem dX10_isTrue_21 : decode cX10_isTrue 21 = .ok (.aload_n 0, 1) := by decide +kernel
theorem dX10_isTrue_22 : decode cX10_isTrue 22 = .ok (.getfield 34, 3) := by decide +kernel
theorem dX10_isTrue_25 : decode cX10_isTrue 25 = .ok (.getfield 214, 3) := by decide +kernel
theorem dX10_isTrue_28 : decode cX10_isTrue 28 = .ok (.iload_n 1, 1) := by decide +kernel
theorem dX10_isTrue_29 : decode cX10_isTrue 29 = .ok (.invokevirtual 234, 3) := by decide +kernel
theorem dX10_isTrue_32 : decode cX10_isTrue 32 = .ok (.bipush (-6), 2) := by decide +kernel
theorem dX10_isTrue_34 : decode cX10_isTrue 34 = .ok (.if_icmp .ne 7, 3) := by decide +kernel
theorem dX10_isTrue_37 : decode cX10_isTrue 37 = .ok (.iconst 1, 1) := by decide +kernel
theorem dX10_isTrue_38 : decode cX10_isTrue 38 = .ok (.goto 4, 3) := by decide +kernel
theorem dX10_isTrue_41 : decode cX10_isTrue 41 = .ok (.iconst 0, 1) := by decide +kernel
theorem dX10_isTrue_42 : decode cX10_isTrue 42 = .ok (.invokestatic 110, 3) := by decide +kernel
theorem dX10_isTrue_45 : decode cX10_isTrue 45 = .ok (.ireturn, 1) := by decide +kernel
theorem dX10_needless_0 : decode cX10_needless 0 = .ok (.aload_n 0, 1) := by decide +kernel
theorem dX10_needless_1 : decode cX10_needless 1 = .ok (.getfield 10, 3) := by decide +kernel
theorem dX10_needless_4 : decode cX10_needless 4 = .ok (.getfield 158, 3) := by decide +kernel
theorem dX10_needless_7 : decode cX10_needless 7 = .ok (.invokevirtual 237, 3) := by decide +kernel
theorem dX10_needless_10 : decode cX10_needless 10 = .ok (.lreturn, 1) := by decide +kernel
theorem dX10_core_0 : decode cX10_core 0 = .ok (.iload_n 1, 1) := by decide +kernel
theorem dX10_core_1 : decode cX10_core 1 = .ok (.invokestatic 99, 3) := by decide +kernel
theorem dX10_core_4 : decode cX10_core 4 = .ok (.ifCond .ne 7, 3) := by decide +kernel
theorem dX10_core_7 : decode cX10_core 7 = .ok (.ldc2_w 241, 3) := by decide +kernel
theorem dX10_core_10 : decode cX10_core 10 = .ok (.lreturn, 1) := by decide +kernel
theorem dX10_core_11 : decode cX10_core 11 = .ok (.aload_n 0, 1) := by decide +kernel
theorem dX10_core_12 : decode cX10_core 12 = .ok (.getfield 34, 3) := by decide +kernel
theorem dX10_core_15 : decode cX10_core 15 = .ok (.aload_n 0, 1) := by decide +kernel
theorem dX10_core_16 : decode cX10_core 16 = .ok (.getfield 10, 3) := by decide +kernel
theorem dX10_core_19 : decode cX10_core 19 = .ok (.invokevirtual 217, 3) := by decide +kernel
theorem dX10_core_22 : decode cX10_core 22 = .ok (.ifCond .ne 7, 3) := by decide +kernel
theorem dX10_core_25 : decode cX10_core 25 = .ok (.ldc2_w 243, 3) := by decide +kernel
theorem dX10_core_28 : decode cX10_core 28 = .ok (.lreturn, 1) := by decide +kernel
theorem dX10_core_29 : decode cX10_core 29 = .ok (.aload_n 0, 1) := by decide +kernel
theorem dX10_core_30 : decode cX10_core 30 = .ok (.getfield 34, 3) := by decide +kernel
theorem dX10_core_33 : decode cX10_core 33 = .ok (.getfield 82, 3) := by decide +kernel
theorem dX10_core_36 : decode cX10_core 36 = .ok (.iload_n 1, 1) := by decide +kernel
theorem dX10_core_37 : decode cX10_core 37 = .ok (.invokevirtual 234, 3) := by decide +kernel
theorem dX10_core_40 : decode cX10_core 40 = .ok (.bipush (-6), 2) := by decide +kernel
theorem dX10_core_42 : decode cX10_core 42 = .ok (.if_icmp .eq 7, 3) := by decide +kernel
theorem dX10_core_45 : decode cX10_core 45 = .ok (.ldc2_w 245, 3) := by decide +kernel
theorem dX10_core_48 : decode cX10_core 48 = .ok (.lreturn, 1) := by decide +kernel
theorem dX10_core_49 : decode cX10_core 49 = .ok (.aload_n 0, 1) := by decide +kernel
theorem dX10_core_50 : decode cX10_core 50 = .ok (.getfield 34, 3) := by decide +kernel
theorem dX10_core_53 : decode cX10_core 53 = .ok (.aload_n 0, 1) := by decide +kernel
theorem dX10_core_54 : decode cX10_core 54 = .ok (.getfield 10, 3) := by decide +kernel
theorem dX10_core_57 : decode cX10_core 57 = .ok (.iload_n 1, 1) := by decide +kernel
theorem dX10_core_58 : decode cX10_core 58 = .ok (.invokevirtual 247, 3) := by decide +kernel
theorem dX10_core_61 : decode cX10_core 61 = .ok (.lreturn, 1) := by decide +kernel
theorem dX10_put_0 : decode cX10_put 0 = .ok (.lload_n 1, 1) := by decide +kernel
theorem dX10_put_1 : decode cX10_put 1 = .ok (.invokestatic 251, 3) := by decide +kernel
theorem dX10_put_4 : decode cX10_put 4 = .ok (.istore_n 3, 1) := by decide +kernel
theorem dX10_put_5 : decode cX10_put 5 = .ok (.iload_n 3, 1) := by decide +kernel
theorem dX10_put_6 : decode cX10_put 6 = .ok (.ifCond .ne 6, 3) := by decide +kernel
theorem dX10_put_9 : decode cX10_put 9 = .ok (.bipush (-2), 2) := by decide +kernel
theorem dX10_put_11 : decode cX10_put 11 = .ok (.ireturn, 1) := by decide +kernel
theorem dX10_put_12 : decode cX10_put 12 = .ok (.aload_n 0, 1) := by decide +kernel
theorem dX10_put_13 : decode cX10_put 13 = .ok (.getfield 49, 3) := by decide +kernel
theorem dX10_put_16 : decode cX10_put 16 = .ok (.getfield 221, 3) := by decide +kernel
theorem dX10_put_19 : decode cX10_put 19 = .ok (.iload_n 3, 1) := by decide +kernel
theorem dX10_put_20 : decode cX10_put 20 = .ok (.iadd, 1) := by decide +kernel
theorem dX10_put_21 : decode cX10_put 21 = .ok (.bipush 80, 2) := by decide +kernel
theorem dX10_put_23 : decode cX10_put 23 = .ok (.if_icmp .le 6, 3) := by decide +kernel
theorem dX10_put_26 : decode cX10_put 26 = .ok (.bipush (-4), 2) := by decide +kernel
theorem dX10_put_28 : decode cX10_put 28 = .ok (.ireturn, 1) := by decide +kernel
theorem dX10_put_29 : decode cX10_put 29 = .ok (.aload_n 0, 1) := by decide +kernel
theorem dX10_put_30 : decode cX10_put 30 = .ok (.getfield 49, 3) := by decide +kernel
theorem dX10_put_33 : decode cX10_put 33 = .ok (.lload_n 1, 1) := by decide +kernel
theorem dX10_put_34 : decode cX10_put 34 = .ok (.iload_n 3, 1) := by decide +kernel
theorem dX10_put_35 : decode cX10_put 35 = .ok (.invokevirtual 255, 3) := by decide +kernel
theorem dX10_put_38 : decode cX10_put 38 = .ok (.aload_n 0, 1) := by decide +kernel
theorem dX10_put_39 : decode cX10_put 39 = .ok (.getfield 49, 3) := by decide +kernel
theorem dX10_put_42 : decode cX10_put 42 = .ok (.getfield 221, 3) := by decide +kernel
theorem dX10_put_45 : decode cX10_put 45 = .ok (.ireturn, 1) := by decide +kernel
theorem dX10_wipe_0 : decode cX10_wipe 0 = .ok (.aload_n 0, 1) := by decide +kernel
theorem dX10_wipe_1 : decode cX10_wipe 1 = .ok (.getfield 49, 3) := by decide +kernel
theorem dX10_wipe_4 : decode cX10_wipe 4 = .ok (.getfield 221, 3) := by decide +kernel
theorem dX10_wipe_7 : decode cX10_wipe 7 = .ok (.istore_n 1, 1) := by decide +kernel
theorem dX10_wipe_8 : decode cX10_wipe 8 = .ok (.aload_n 0, 1) := by decide +kernel
theorem dX10_wipe_9 : decode cX10_wipe 9 = .ok (.getfield 49, 3) := by decide +kernel
theorem dX10_wipe_12 : decode cX10_wipe 12 = .ok (.iconst 0, 1) := by decide +kernel
theorem dX10_wipe_13 : decode cX10_wipe 13 = .ok (.putfield 221, 3) := by decide +kernel
theorem dX10_wipe_16 : decode cX10_wipe 16 = .ok (.iload_n 1, 1) := by decide +kernel
theorem dX10_wipe_17 : decode cX10_wipe 17 = .ok (.ireturn, 1) := by decide +kernel
theorem dX10_fault_0 : decode cX10_fault 0 = .ok (.aload_n 0, 1) := by decide +kernel
theorem dX10_fault_1 : decode cX10_fault 1 = .ok (.getfield 41, 3) := by decide +kernel
theorem dX10_fault_4 : decode cX10_fault 4 = .ok (.invokevirtual 259, 3) := by decide +kernel
theorem dX10_fault_7 : decode cX10_fault 7 = .ok (.ireturn, 1) := by decide +kernel
theorem dX10_carryOut_0 : decode cX10_carryOut 0 = .ok (.aload_n 0, 1) := by decide +kernel
theorem dX10_carryOut_1 : decode cX10_carryOut 1 = .ok (.getfield 41, 3) := by decide +kernel
theorem dX10_carryOut_4 : decode cX10_carryOut 4 = .ok (.invokevirtual 259, 3) := by decide +kernel
theorem dX10_carryOut_7 : decode cX10_carryOut 7 = .ok (.bipush (-6), 2) := by decide +kernel
theorem dX10_carryOut_9 : decode cX10_carryOut 9 = .ok (.if_icmp .eq 6, 3) := by decide +kernel
theorem dX10_carryOut_12 : decode cX10_carryOut 12 = .ok (.bipush (-3), 2) := by decide +kernel
theorem dX10_carryOut_14 : decode cX10_carryOut 14 = .ok (.ireturn, 1) := by decide +kernel
theorem dX10_carryOut_15 : decode cX10_carryOut 15 = .ok (.aload_n 0, 1) := by decide +kernel
theorem dX10_carryOut_16 : decode cX10_carryOut 16 = .ok (.getfield 19, 3) := by decide +kernel
theorem dX10_carryOut_19 : decode cX10_carryOut 19 = .ok (.aload_n 0, 1) := by decide +kernel
theorem dX10_carryOut_20 : decode cX10_carryOut 20 = .ok (.getfield 10, 3) := by decide +kernel
theorem dX10_carryOut_23 : decode cX10_carryOut 23 = .ok (.invokevirtual 50, 3) := by decide +kernel
theorem dX10_carryOut_26 : decode cX10_carryOut 26 = .ok (.aload_n 0, 1) := by decide +kernel
theorem dX10_carryOut_27 : decode cX10_carryOut 27 = .ok (.getfield 41, 3) := by decide +kernel
theorem dX10_carryOut_30 : decode cX10_carryOut 30 = .ok (.invokevirtual 262, 3) := by decide +kernel
theorem dX10_carryOut_33 : decode cX10_carryOut 33 = .ok (.iconst 0, 1) := by decide +kernel
theorem dX10_carryOut_34 : decode cX10_carryOut 34 = .ok (.istore_n 1, 1) := by decide +kernel
theorem dX10_carryOut_35 : decode cX10_carryOut 35 = .ok (.iload_n 1, 1) := by decide +kernel
theorem dX10_carryOut_36 : decode cX10_carryOut 36 = .ok (.bipush 80, 2) := by decide +kernel
theorem dX10_carryOut_38 : decode cX10_carryOut 38 = .ok (.if_icmp .ge 26, 3) := by decide +kernel
theorem dX10_carryOut_41 : decode cX10_carryOut 41 = .ok (.aload_n 0, 1) := by decide +kernel
theorem dX10_carryOut_42 : decode cX10_carryOut 42 = .ok (.getfield 41, 3) := by decide +kernel
theorem dX10_carryOut_45 : decode cX10_carryOut 45 = .ok (.invokevirtual 265, 3) := by decide +kernel
theorem dX10_carryOut_48 : decode cX10_carryOut 48 = .ok (.ifCond .eq 16, 3) := by decide +kernel
theorem dX10_carryOut_51 : decode cX10_carryOut 51 = .ok (.aload_n 0, 1) := by decide +kernel
theorem dX10_carryOut_52 : decode cX10_carryOut 52 = .ok (.invokevirtual 269, 3) := by decide +kernel
theorem dX10_carryOut_55 : decode cX10_carryOut 55 = .ok (.ifCond .lt 9, 3) := by decide +kernel
theorem dX10_carryOut_58 : decode cX10_carryOut 58 = .ok (.iinc 1 1, 3) := by decide +kernel
theorem dX10_carryOut_61 : decode cX10_carryOut 61 = .ok (.goto (-26), 3) := by decide +kernel
theorem dX10_carryOut_64 : decode cX10_carryOut 64 = .ok (.aload_n 0, 1) := by decide +kernel
theorem dX10_carryOut_65 : decode cX10_carryOut 65 = .ok (.getfield 49, 3) := by decide +kernel
theorem dX10_carryOut_68 : decode cX10_carryOut 68 = .ok (.iconst 0, 1) := by decide +kernel
theorem dX10_carryOut_69 : decode cX10_carryOut 69 = .ok (.putfield 221, 3) := by decide +kernel
theorem dX10_carryOut_72 : decode cX10_carryOut 72 = .ok (.aload_n 0, 1) := by decide +kernel
theorem dX10_carryOut_73 : decode cX10_carryOut 73 = .ok (.getfield 19, 3) := by decide +kernel
theorem dX10_carryOut_76 : decode cX10_carryOut 76 = .ok (.iload_n 1, 1) := by decide +kernel
theorem dX10_carryOut_77 : decode cX10_carryOut 77 = .ok (.invokevirtual 58, 3) := by decide +kernel
theorem dX10_carryOut_80 : decode cX10_carryOut 80 = .ok (.ireturn, 1) := by decide +kernel
theorem dX10_undo_0 : decode cX10_undo 0 = .ok (.aload_n 0, 1) := by decide +kernel
theorem dX10_undo_1 : decode cX10_undo 1 = .ok (.getfield 19, 3) := by decide +kernel
theorem dX10_undo_4 : decode cX10_undo 4 = .ok (.aload_n 0, 1) := by decide +kernel
theorem dX10_undo_5 : decode cX10_undo 5 = .ok (.getfield 10, 3) := by decide +kernel
theorem dX10_undo_8 : decode cX10_undo 8 = .ok (.invokevirtual 272, 3) := by decide +kernel
theorem dX10_undo_11 : decode cX10_undo 11 = .ok (.ifCond .ne 6, 3) := by decide +kernel
theorem dX10_undo_14 : decode cX10_undo 14 = .ok (.bipush (-5), 2) := by decide +kernel
theorem dX10_undo_16 : decode cX10_undo 16 = .ok (.ireturn, 1) := by decide +kernel
theorem dX10_undo_17 : decode cX10_undo 17 = .ok (.aload_n 0, 1) := by decide +kernel
theorem dX10_undo_18 : decode cX10_undo 18 = .ok (.getfield 19, 3) := by decide +kernel
theorem dX10_undo_21 : decode cX10_undo 21 = .ok (.getfield 226, 3) := by decide +kernel
theorem dX10_undo_24 : decode cX10_undo 24 = .ok (.ireturn, 1) := by decide +kernel
theorem dX10_save_0 : decode cX10_save 0 = .ok (.iload_n 1, 1) := by decide +kernel
theorem dX10_save_1 : decode cX10_save 1 = .ok (.ifCond .lt 8, 3) := by decide +kernel
theorem dX10_save_4 : decode cX10_save 4 = .ok (.iload_n 1, 1) := by decide +kernel
theorem dX10_save_5 : decode cX10_save 5 = .ok (.iconst 2, 1) := by decide +kernel
theorem dX10_save_6 : decode cX10_save 6 = .ok (.if_icmp .lt 6, 3) := by decide +kernel
theorem dX10_save_9 : decode cX10_save 9 = .ok (.bipush (-2), 2) := by decide +kernel
theorem dX10_save_11 : decode cX10_save 11 = .ok (.ireturn, 1) := by decide +kernel
theorem dX10_save_12 : decode cX10_save 12 = .ok (.aload_n 0, 1) := by decide +kernel
theorem dX10_save_13 : decode cX10_save 13 = .ok (.getfield 23, 3) := by decide +kernel
theorem dX10_save_16 : decode cX10_save 16 = .ok (.iload_n 1, 1) := by decide +kernel
theorem dX10_save_17 : decode cX10_save 17 = .ok (.aaload, 1) := by decide +kernel
theorem dX10_save_18 : decode cX10_save 18 = .ok (.aload_n 0, 1) := by decide +kernel
theorem dX10_save_19 : decode cX10_save 19 = .ok (.getfield 10, 3) := by decide +kernel
theorem dX10_save_22 : decode cX10_save 22 = .ok (.invokevirtual 275, 3) := by decide +kernel
theorem dX10_save_25 : decode cX10_save 25 = .ok (.aload_n 0, 1) := by decide +kernel
theorem dX10_save_26 : decode cX10_save 26 = .ok (.getfield 27, 3) := by decide +kernel
theorem dX10_save_29 : decode cX10_save 29 = .ok (.iload_n 1, 1) := by decide +kernel
theorem dX10_save_30 : decode cX10_save 30 = .ok (.iconst 1, 1) := by decide +kernel
theorem dX10_save_31 : decode cX10_save 31 = .ok (.bastore, 1) := by decide +kernel
theorem dX10_save_32 : decode cX10_save 32 = .ok (.aload_n 0, 1) := by decide +kernel
theorem dX10_save_33 : decode cX10_save 33 = .ok (.getfield 10, 3) := by decide +kernel
theorem dX10_save_36 : decode cX10_save 36 = .ok (.getfield 158, 3) := by decide +kernel
theorem dX10_save_39 : decode cX10_save 39 = .ok (.invokevirtual 185, 3) := by decide +kernel
theorem dX10_save_42 : decode cX10_save 42 = .ok (.ireturn, 1) := by decide +kernel
theorem dX10_restore_0 : decode cX10_restore 0 = .ok (.iload_n 1, 1) := by decide +kernel
theorem dX10_restore_1 : decode cX10_restore 1 = .ok (.ifCond .lt 8, 3) := by decide +kernel
theorem dX10_restore_4 : decode cX10_restore 4 = .ok (.iload_n 1, 1) := by decide +kernel
theorem dX10_restore_5 : decode cX10_restore 5 = .ok (.iconst 2, 1) := by decide +kernel
theorem dX10_restore_6 : decode cX10_restore 6 = .ok (.if_icmp .lt 6, 3) := by decide +kernel
theorem dX10_restore_9 : decode cX10_restore 9 = .ok (.bipush (-2), 2) := by decide +kernel
theorem dX10_restore_11 : decode cX10_restore 11 = .ok (.ireturn, 1) := by decide +kernel
theorem dX10_restore_12 : decode cX10_restore 12 = .ok (.aload_n 0, 1) := by decide +kernel
theorem dX10_restore_13 : decode cX10_restore 13 = .ok (.getfield 27, 3) := by decide +kernel
theorem dX10_restore_16 : decode cX10_restore 16 = .ok (.iload_n 1, 1) := by decide +kernel
theorem dX10_restore_17 : decode cX10_restore 17 = .ok (.baload, 1) := by decide +kernel
theorem dX10_restore_18 : decode cX10_restore 18 = .ok (.ifCond .ne 6, 3) := by decide +kernel
theorem dX10_restore_21 : decode cX10_restore 21 = .ok (.bipush (-5), 2) := by decide +kernel
theorem dX10_restore_23 : decode cX10_restore 23 = .ok (.ireturn, 1) := by decide +kernel
theorem dX10_restore_24 : decode cX10_restore 24 = .ok (.aload_n 0, 1) := by decide +kernel
theorem dX10_restore_25 : decode cX10_restore 25 = .ok (.getfield 19, 3) := by decide +kernel
theorem dX10_restore_28 : decode cX10_restore 28 = .ok (.aload_n 0, 1) := by decide +kernel
theorem dX10_restore_29 : decode cX10_restore 29 = .ok (.getfield 10, 3) := by decide +kernel
theorem dX10_restore_32 : decode cX10_restore 32 = .ok (.invokevirtual 50, 3) := by decide +kernel
theorem dX10_restore_35 : decode cX10_restore 35 = .ok (.aload_n 0, 1) := by decide +kernel
theorem dX10_restore_36 : decode cX10_restore 36 = .ok (.getfield 10, 3) := by decide +kernel
theorem dX10_restore_39 : decode cX10_restore 39 = .ok (.aload_n 0, 1) := by decide +kernel
theorem dX10_restore_40 : decode cX10_restore 40 = .ok (.getfield 23, 3) := by decide +kernel
theorem dX10_restore_43 : decode cX10_restore 43 = .ok (.iload_n 1, 1) := by decide +kernel
theorem dX10_restore_44 : decode cX10_restore 44 = .ok (.aaload, 1) := by decide +kernel
theorem dX10_restore_45 : decode cX10_restore 45 = .ok (.invokevirtual 275, 3) := by decide +kernel
theorem dX10_restore_48 : decode cX10_restore 48 = .ok (.aload_n 0, 1) := by decide +kernel
theorem dX10_restore_49 : decode cX10_restore 49 = .ok (.getfield 19, 3) := by decide +kernel
theorem dX10_restore_52 : decode cX10_restore 52 = .ok (.aload_n 0, 1) := by decide +kernel
theorem dX10_restore_53 : decode cX10_restore 53 = .ok (.getfield 10, 3) := by decide +kernel
theorem dX10_restore_56 : decode cX10_restore 56 = .ok (.getfield 158, 3) := by decide +kernel
theorem dX10_restore_59 : decode cX10_restore 59 = .ok (.invokevirtual 185, 3) := by decide +kernel
theorem dX10_restore_62 : decode cX10_restore 62 = .ok (.invokevirtual 58, 3) := by decide +kernel
theorem dX10_restore_65 : decode cX10_restore 65 = .ok (.ireturn, 1) := by decide +kernel
theorem dX10_carryOrderOut_0 : decode cX10_carryOrderOut 0 = .ok (.aload_n 0, 1) := by decide +kernel
theorem dX10_carryOrderOut_1 : decode cX10_carryOrderOut 1 = .ok (.getfield 41, 3) := by decide +kernel
theorem dX10_carryOrderOut_4 : decode cX10_carryOrderOut 4 = .ok (.getfield 278, 3) := by decide +kernel
theorem dX10_carryOrderOut_7 : decode cX10_carryOrderOut 7 = .ok (.lookupswitch 113 #[(99, 33), (114, 91), (115, 48)], 33) := by decide +kernel
theorem dX10_carryOrderOut_40 : decode cX10_carryOrderOut 40 = .ok (.aload_n 0, 1) := by decide +kernel
theorem dX10_carryOrderOut_41 : decode cX10_carryOrderOut 41 = .ok (.getfield 10, 3) := by decide +kernel
theorem dX10_carryOrderOut_44 : decode cX10_carryOrderOut 44 = .ok (.aload_n 0, 1) := by decide +kernel
theorem dX10_carryOrderOut_45 : decode cX10_carryOrderOut 45 = .ok (.getfield 41, 3) := by decide +kernel
theorem dX10_carryOrderOut_48 : decode cX10_carryOrderOut 48 = .ok (.getfield 281, 3) := by decide +kernel
theorem dX10_carryOrderOut_51 : decode cX10_carryOrderOut 51 = .ok (.invokevirtual 72, 3) := by decide +kernel
theorem dX10_carryOrderOut_54 : decode cX10_carryOrderOut 54 = .ok (.ireturn, 1) := by decide +kernel
theorem dX10_carryOrderOut_55 : decode cX10_carryOrderOut 55 = .ok (.aload_n 0, 1) := by decide +kernel
theorem dX10_carryOrderOut_56 : decode cX10_carryOrderOut 56 = .ok (.getfield 10, 3) := by decide +kernel
theorem dX10_carryOrderOut_59 : decode cX10_carryOrderOut 59 = .ok (.aload_n 0, 1) := by decide +kernel
theorem dX10_carryOrderOut_60 : decode cX10_carryOrderOut 60 = .ok (.getfield 41, 3) := by decide +kernel
theorem dX10_carryOrderOut_63 : decode cX10_carryOrderOut 63 = .ok (.getfield 281, 3) := by decide +kernel
theorem dX10_carryOrderOut_66 : decode cX10_carryOrderOut 66 = .ok (.aload_n 0, 1) := by decide +kernel
theorem dX10_carryOrderOut_67 : decode cX10_carryOrderOut 67 = .ok (.getfield 41, 3) := by decide +kernel
theorem dX10_carryOrderOut_70 : decode cX10_carryOrderOut 70 = .ok (.getfield 284, 3) := by decide +kernel
theorem dX10_carryOrderOut_73 : decode cX10_carryOrderOut 73 = .ok (.aload_n 0, 1) := by decide +kernel
theorem dX10_carryOrderOut_74 : decode cX10_carryOrderOut 74 = .ok (.getfield 41, 3) := by decide +kernel
theorem dX10_carryOrderOut_77 : decode cX10_carryOrderOut 77 = .ok (.getfield 286, 3) := by decide +kernel
theorem dX10_carryOrderOut_80 : decode cX10_carryOrderOut 80 = .ok (.aload_n 0, 1) := by decide +kernel
theorem dX10_carryOrderOut_81 : decode cX10_carryOrderOut 81 = .ok (.getfield 41, 3) := by decide +kernel
theorem dX10_carryOrderOut_84 : decode cX10_carryOrderOut 84 = .ok (.getfield 288, 3) := by decide +kernel
theorem dX10_carryOrderOut_87 : decode cX10_carryOrderOut 87 = .ok (.aload_n 0, 1) := by decide +kernel
theorem dX10_carryOrderOut_88 : decode cX10_carryOrderOut 88 = .ok (.getfield 41, 3) := by decide +kernel
theorem dX10_carryOrderOut_91 : decode cX10_carryOrderOut 91 = .ok (.getfield 290, 3) := by decide +kernel
theorem dX10_carryOrderOut_94 : decode cX10_carryOrderOut 94 = .ok (.invokevirtual 65, 3) := by decide +kernel
theorem dX10_carryOrderOut_97 : decode cX10_carryOrderOut 97 = .ok (.ireturn, 1) := by decide +kernel
theorem dX10_carryOrderOut_98 : decode cX10_carryOrderOut 98 = .ok (.aload_n 0, 1) := by decide +kernel
theorem dX10_carryOrderOut_99 : decode cX10_carryOrderOut 99 = .ok (.getfield 10, 3) := by decide +kernel
theorem dX10_carryOrderOut_102 : decode cX10_carryOrderOut 102 = .ok (.aload_n 0, 1) := by decide +kernel
theorem dX10_carryOrderOut_103 : decode cX10_carryOrderOut 103 = .ok (.getfield 41, 3) := by decide +kernel
theorem dX10_carryOrderOut_106 : decode cX10_carryOrderOut 106 = .ok (.getfield 292, 3) := by decide +kernel
theorem dX10_carryOrderOut_109 : decode cX10_carryOrderOut 109 = .ok (.aload_n 0, 1) := by decide +kernel
theorem dX10_carryOrderOut_110 : decode cX10_carryOrderOut 110 = .ok (.getfield 41, 3) := by decide +kernel
theorem dX10_carryOrderOut_113 : decode cX10_carryOrderOut 113 = .ok (.getfield 295, 3) := by decide +kernel
theorem dX10_carryOrderOut_116 : decode cX10_carryOrderOut 116 = .ok (.invokevirtual 78, 3) := by decide +kernel
theorem dX10_carryOrderOut_119 : decode cX10_carryOrderOut 119 = .ok (.ireturn, 1) := by decide +kernel
theorem dX10_carryOrderOut_120 : decode cX10_carryOrderOut 120 = .ok (.aload_n 0, 1) := by decide +kernel
theorem dX10_carryOrderOut_121 : decode cX10_carryOrderOut 121 = .ok (.getfield 10, 3) := by decide +kernel
theorem dX10_carryOrderOut_124 : decode cX10_carryOrderOut 124 = .ok (.aload_n 0, 1) := by decide +kernel
theorem dX10_carryOrderOut_125 : decode cX10_carryOrderOut 125 = .ok (.getfield 34, 3) := by decide +kernel
theorem dX10_carryOrderOut_128 : decode cX10_carryOrderOut 128 = .ok (.getfield 82, 3) := by decide +kernel
theorem dX10_carryOrderOut_131 : decode cX10_carryOrderOut 131 = .ok (.invokevirtual 90, 3) := by decide +kernel
theorem dX10_carryOrderOut_134 : decode cX10_carryOrderOut 134 = .ok (.ireturn, 1) := by decide +kernel
theorem dX10_isState_0 : decode cX10_isState 0 = .ok (.iload_n 0, 1) := by decide +kernel
theorem dX10_isState_1 : decode cX10_isState 1 = .ok (.ifCond .lt 14, 3) := by decide +kernel
theorem dX10_isState_4 : decode cX10_isState 4 = .ok (.iload_n 0, 1) := by decide +kernel
theorem dX10_isState_5 : decode cX10_isState 5 = .ok (.sipush 512, 3) := by decide +kernel
theorem dX10_isState_8 : decode cX10_isState 8 = .ok (.if_icmp .ge 7, 3) := by decide +kernel
theorem dX10_isState_11 : decode cX10_isState 11 = .ok (.iconst 1, 1) := by decide +kernel
theorem dX10_isState_12 : decode cX10_isState 12 = .ok (.goto 4, 3) := by decide +kernel
theorem dX10_isState_15 : decode cX10_isState 15 = .ok (.iconst 0, 1) := by decide +kernel
theorem dX10_isState_16 : decode cX10_isState 16 = .ok (.ireturn, 1) := by decide +kernel
theorem dX10_asNumber_0 : decode cX10_asNumber 0 = .ok (.iload_n 0, 1) := by decide +kernel
theorem dX10_asNumber_1 : decode cX10_asNumber 1 = .ok (.ifCond .eq 7, 3) := by decide +kernel
theorem dX10_asNumber_4 : decode cX10_asNumber 4 = .ok (.iconst 1, 1) := by decide +kernel
theorem dX10_asNumber_5 : decode cX10_asNumber 5 = .ok (.goto 4, 3) := by decide +kernel
theorem dX10_asNumber_8 : decode cX10_asNumber 8 = .ok (.iconst 0, 1) := by decide +kernel
theorem dX10_asNumber_9 : decode cX10_asNumber 9 = .ok (.ireturn, 1) := by decide +kernel
theorem dJ13_bitCount_95d88_0 : decode cJ13_bitCount_95d88 0 = .ok (.lload_n 0, 1) := by decide +kernel
theorem dJ13_bitCount_95d88_1 : decode cJ13_bitCount_95d88 1 = .ok (.lload_n 0, 1) := by decide +kernel
theorem dJ13_bitCount_95d88_2 : decode cJ13_bitCount_95d88 2 = .ok (.iconst 1, 1) := by decide +kernel
theorem dJ13_bitCount_95d88_3 : decode cJ13_bitCount_95d88 3 = .ok (.lushr, 1) := by decide +kernel
theorem dJ13_bitCount_95d88_4 : decode cJ13_bitCount_95d88 4 = .ok (.ldc2_w 314, 3) := by decide +kernel
theorem dJ13_bitCount_95d88_7 : decode cJ13_bitCount_95d88 7 = .ok (.land, 1) := by decide +kernel
theorem dJ13_bitCount_95d88_8 : decode cJ13_bitCount_95d88 8 = .ok (.lsub, 1) := by decide +kernel
theorem dJ13_bitCount_95d88_9 : decode cJ13_bitCount_95d88 9 = .ok (.lstore_n 0, 1) := by decide +kernel
theorem dJ13_bitCount_95d88_10 : decode cJ13_bitCount_95d88 10 = .ok (.lload_n 0, 1) := by decide +kernel
theorem dJ13_bitCount_95d88_11 : decode cJ13_bitCount_95d88 11 = .ok (.ldc2_w 316, 3) := by decide +kernel
theorem dJ13_bitCount_95d88_14 : decode cJ13_bitCount_95d88 14 = .ok (.land, 1) := by decide +kernel
theorem dJ13_bitCount_95d88_15 : decode cJ13_bitCount_95d88 15 = .ok (.lload_n 0, 1) := by decide +kernel
theorem dJ13_bitCount_95d88_16 : decode cJ13_bitCount_95d88 16 = .ok (.iconst 2, 1) := by decide +kernel
theorem dJ13_bitCount_95d88_17 : decode cJ13_bitCount_95d88 17 = .ok (.lushr, 1) := by decide +kernel
theorem dJ13_bitCount_95d88_18 : decode cJ13_bitCount_95d88 18 = .ok (.ldc2_w 316, 3) := by decide +kernel
theorem dJ13_bitCount_95d88_21 : decode cJ13_bitCount_95d88 21 = .ok (.land, 1) := by decide +kernel
theorem dJ13_bitCount_95d88_22 : decode cJ13_bitCount_95d88 22 = .ok (.ladd, 1) := by decide +kernel
theorem dJ13_bitCount_95d88_23 : decode cJ13_bitCount_95d88 23 = .ok (.lstore_n 0, 1) := by decide +kernel
theorem dJ13_bitCount_95d88_24 : decode cJ13_bitCount_95d88 24 = .ok (.lload_n 0, 1) := by decide +kernel
theorem dJ13_bitCount_95d88_25 : decode cJ13_bitCount_95d88 25 = .ok (.lload_n 0, 1) := by decide +kernel
theorem dJ13_bitCount_95d88_26 : decode cJ13_bitCount_95d88 26 = .ok (.iconst 4, 1) := by decide +kernel
theorem dJ13_bitCount_95d88_27 : decode cJ13_bitCount_95d88 27 = .ok (.lushr, 1) := by decide +kernel
theorem dJ13_bitCount_95d88_28 : decode cJ13_bitCount_95d88 28 = .ok (.ladd, 1) := by decide +kernel
theorem dJ13_bitCount_95d88_29 : decode cJ13_bitCount_95d88 29 = .ok (.ldc2_w 318, 3) := by decide +kernel
theorem dJ13_bitCount_95d88_32 : decode cJ13_bitCount_95d88 32 = .ok (.land, 1) := by decide +kernel
theorem dJ13_bitCount_95d88_33 : decode cJ13_bitCount_95d88 33 = .ok (.lstore_n 0, 1) := by decide +kernel
theorem dJ13_bitCount_95d88_34 : decode cJ13_bitCount_95d88 34 = .ok (.lload_n 0, 1) := by decide +kernel
theorem dJ13_bitCount_95d88_35 : decode cJ13_bitCount_95d88 35 = .ok (.lload_n 0, 1) := by decide +kernel
theorem dJ13_bitCount_95d88_36 : decode cJ13_bitCount_95d88 36 = .ok (.bipush 8, 2) := by decide +kernel
theorem dJ13_bitCount_95d88_38 : decode cJ13_bitCount_95d88 38 = .ok (.lushr, 1) := by decide +kernel
theorem dJ13_bitCount_95d88_39 : decode cJ13_bitCount_95d88 39 = .ok (.ladd, 1) := by decide +kernel
theorem dJ13_bitCount_95d88_40 : decode cJ13_bitCount_95d88 40 = .ok (.lstore_n 0, 1) := by decide +kernel
theorem dJ13_bitCount_95d88_41 : decode cJ13_bitCount_95d88 41 = .ok (.lload_n 0, 1) := by decide +kernel
theorem dJ13_bitCount_95d88_42 : decode cJ13_bitCount_95d88 42 = .ok (.lload_n 0, 1) := by decide +kernel
theorem dJ13_bitCount_95d88_43 : decode cJ13_bitCount_95d88 43 = .ok (.bipush 16, 2) := by decide +kernel
theorem dJ13_bitCount_95d88_45 : decode cJ13_bitCount_95d88 45 = .ok (.lushr, 1) := by decide +kernel
theorem dJ13_bitCount_95d88_46 : decode cJ13_bitCount_95d88 46 = .ok (.ladd, 1) := by decide +kernel
theorem dJ13_bitCount_95d88_47 : decode cJ13_bitCount_95d88 47 = .ok (.lstore_n 0, 1) := by decide +kernel
theorem dJ13_bitCount_95d88_48 : decode cJ13_bitCount_95d88 48 = .ok (.lload_n 0, 1) := by decide +kernel
theorem dJ13_bitCount_95d88_49 : decode cJ13_bitCount_95d88 49 = .ok (.lload_n 0, 1) := by decide +kernel
theorem dJ13_bitCount_95d88_50 : decode cJ13_bitCount_95d88 50 = .ok (.bipush 32, 2) := by decide +kernel
theorem dJ13_bitCount_95d88_52 : decode cJ13_bitCount_95d88 52 = .ok (.lushr, 1) := by decide +kernel
theorem dJ13_bitCount_95d88_53 : decode cJ13_bitCount_95d88 53 = .ok (.ladd, 1) := by decide +kernel
theorem dJ13_bitCount_95d88_54 : decode cJ13_bitCount_95d88 54 = .ok (.lstore_n 0, 1) := by decide +kernel
theorem dJ13_bitCount_95d88_55 : decode cJ13_bitCount_95d88 55 = .ok (.lload_n 0, 1) := by decide +kernel
theorem dJ13_bitCount_95d88_56 : decode cJ13_bitCount_95d88 56 = .ok (.l2i, 1) := by decide +kernel
theorem dJ13_bitCount_95d88_57 : decode cJ13_bitCount_95d88 57 = .ok (.bipush 127, 2) := by decide +kernel
theorem dJ13_bitCount_95d88_59 : decode cJ13_bitCount_95d88 59 = .ok (.iand, 1) := by decide +kernel
theorem dJ13_bitCount_95d88_60 : decode cJ13_bitCount_95d88 60 = .ok (.ireturn, 1) := by decide +kernel
theorem dL_part_0 : decode cL_part 0 = .ok (.iload_n 0, 1) := by decide +kernel
theorem dL_part_1 : decode cL_part 1 = .ok (.ldc 7, 2) := by decide +kernel
theorem dL_part_3 : decode cL_part 3 = .ok (.iand, 1) := by decide +kernel
theorem dL_part_4 : decode cL_part 4 = .ok (.iload_n 1, 1) := by decide +kernel
theorem dL_part_5 : decode cL_part 5 = .ok (.irem, 1) := by decide +kernel
theorem dL_part_6 : decode cL_part 6 = .ok (.ireturn, 1) := by decide +kernel
theorem dL_drawn_0 : decode cL_drawn 0 = .ok (.aload_n 0, 1) := by decide +kernel
theorem dL_drawn_1 : decode cL_drawn 1 = .ok (.arraylength, 1) := by decide +kernel
theorem dL_drawn_2 : decode cL_drawn 2 = .ok (.ifCond .ne 13, 3) := by decide +kernel
theorem dL_drawn_5 : decode cL_drawn 5 = .ok (.sipush 7919, 3) := by decide +kernel
theorem dL_drawn_8 : decode cL_drawn 8 = .ok (.iload_n 1, 1) := by decide +kernel
theorem dL_drawn_9 : decode cL_drawn 9 = .ok (.imul, 1) := by decide +kernel
theorem dL_drawn_10 : decode cL_drawn 10 = .ok (.iconst 3, 1) := by decide +kernel
theorem dL_drawn_11 : decode cL_drawn 11 = .ok (.iadd, 1) := by decide +kernel
theorem dL_drawn_12 : decode cL_drawn 12 = .ok (.goto 27, 3) := by decide +kernel
theorem dL_drawn_15 : decode cL_drawn 15 = .ok (.aload_n 0, 1) := by decide +kernel
theorem dL_drawn_16 : decode cL_drawn 16 = .ok (.iload_n 1, 1) := by decide +kernel
theorem dL_drawn_17 : decode cL_drawn 17 = .ok (.aload_n 0, 1) := by decide +kernel
theorem dL_drawn_18 : decode cL_drawn 18 = .ok (.arraylength, 1) := by decide +kernel
theorem dL_drawn_19 : decode cL_drawn 19 = .ok (.irem, 1) := by decide +kernel
theorem dL_drawn_20 : decode cL_drawn 20 = .ok (.iaload, 1) := by decide +kernel
theorem dL_drawn_21 : decode cL_drawn 21 = .ok (.iload_n 1, 1) := by decide +kernel
theorem dL_drawn_22 : decode cL_drawn 22 = .ok (.bipush 7, 2) := by decide +kernel
theorem dL_drawn_24 : decode cL_drawn 24 = .ok (.irem, 1) := by decide +kernel
theorem dL_drawn_25 : decode cL_drawn 25 = .ok (.ishr, 1) := by decide +kernel
theorem dL_drawn_26 : decode cL_drawn 26 = .ok (.iload_n 1, 1) := by decide +kernel
theorem dL_drawn_27 : decode cL_drawn 27 = .ok (.aload_n 0, 1) := by decide +kernel
theorem dL_drawn_28 : decode cL_drawn 28 = .ok (.arraylength, 1) := by decide +kernel
theorem dL_drawn_29 : decode cL_drawn 29 = .ok (.idiv, 1) := by decide +kernel
theorem dL_drawn_30 : decode cL_drawn 30 = .ok (.bipush 31, 2) := by decide +kernel
theorem dL_drawn_32 : decode cL_drawn 32 = .ok (.imul, 1) := by decide +kernel
theorem dL_drawn_33 : decode cL_drawn 33 = .ok (.ixor, 1) := by decide +kernel
theorem dL_drawn_34 : decode cL_drawn 34 = .ok (.iload_n 1, 1) := by decide +kernel
theorem dL_drawn_35 : decode cL_drawn 35 = .ok (.ldc 8, 2) := by decide +kernel
theorem dL_drawn_37 : decode cL_drawn 37 = .ok (.imul, 1) := by decide +kernel
theorem dL_drawn_38 : decode cL_drawn 38 = .ok (.ixor, 1) := by decide +kernel
theorem dL_drawn_39 : decode cL_drawn 39 = .ok (.ireturn, 1) := by decide +kernel
theorem dL_seen_0 : decode cL_seen 0 = .ok (.ldc2_w 9, 3) := by decide +kernel
theorem dL_seen_3 : decode cL_seen 3 = .ok (.lstore_n 1, 1) := by decide +kernel
theorem dL_seen_4 : decode cL_seen 4 = .ok (.iconst 0, 1) := by decide +kernel
theorem dL_seen_5 : decode cL_seen 5 = .ok (.istore_n 3, 1) := by decide +kernel
theorem dL_seen_6 : decode cL_seen 6 = .ok (.iload_n 3, 1) := by decide +kernel
theorem dL_seen_7 : decode cL_seen 7 = .ok (.bipush 11, 2) := by decide +kernel
theorem dL_seen_9 : decode cL_seen 9 = .ok (.if_icmp .ge 22, 3) := by decide +kernel
theorem dL_seen_12 : decode cL_seen 12 = .ok (.ldc2_w 11, 3) := by decide +kernel
theorem dL_seen_15 : decode cL_seen 15 = .ok (.lload_n 1, 1) := by decide +kernel
theorem dL_seen_16 : decode cL_seen 16 = .ok (.lmul, 1) := by decide +kernel
theorem dL_seen_17 : decode cL_seen 17 = .ok (.aload_n 0, 1) := by decide +kernel
theorem dL_seen_18 : decode cL_seen 18 = .ok (.iload_n 3, 1) := by decide +kernel
theorem dL_seen_19 : decode cL_seen 19 = .ok (.invokevirtual 13, 3) := by decide +kernel
theorem dL_seen_22 : decode cL_seen 22 = .ok (.i2l, 1) := by decide +kernel
theorem dL_seen_23 : decode cL_seen 23 = .ok (.ladd, 1) := by decide +kernel
theorem dL_seen_24 : decode cL_seen 24 = .ok (.lstore_n 1, 1) := by decide +kernel
theorem dL_seen_25 : decode cL_seen 25 = .ok (.iinc 3 1, 3) := by decide +kernel
theorem dL_seen_28 : decode cL_seen 28 = .ok (.goto (-22), 3) := by decide +kernel
theorem dL_seen_31 : decode cL_seen 31 = .ok (.iconst 0, 1) := by decide +kernel
theorem dL_seen_32 : decode cL_seen 32 = .ok (.istore_n 3, 1) := by decide +kernel
theorem dL_seen_33 : decode cL_seen 33 = .ok (.iload_n 3, 1) := by decide +kernel
theorem dL_seen_34 : decode cL_seen 34 = .ok (.bipush 40, 2) := by decide +kernel
theorem dL_seen_36 : decode cL_seen 36 = .ok (.if_icmp .ge 27, 3) := by decide +kernel
theorem dL_seen_39 : decode cL_seen 39 = .ok (.ldc2_w 11, 3) := by decide +kernel
theorem dL_seen_42 : decode cL_seen 42 = .ok (.lload_n 1, 1) := by decide +kernel
theorem dL_seen_43 : decode cL_seen 43 = .ok (.lmul, 1) := by decide +kernel
theorem dL_seen_44 : decode cL_seen 44 = .ok (.aload_n 0, 1) := by decide +kernel
theorem dL_seen_45 : decode cL_seen 45 = .ok (.iload_n 3, 1) := by decide +kernel
theorem dL_seen_46 : decode cL_seen 46 = .ok (.iconst 5, 1) := by decide +kernel
theorem dL_seen_47 : decode cL_seen 47 = .ok (.idiv, 1) := by decide +kernel
theorem dL_seen_48 : decode cL_seen 48 = .ok (.iload_n 3, 1) := by decide +kernel
theorem dL_seen_49 : decode cL_seen 49 = .ok (.iconst 5, 1) := by decide +kernel
theorem dL_seen_50 : decode cL_seen 50 = .ok (.irem, 1) := by decide +kernel
theorem dL_seen_51 : decode cL_seen 51 = .ok (.invokevirtual 19, 3) := by decide +kernel
theorem dL_seen_54 : decode cL_seen 54 = .ok (.i2l, 1) := by decide +kernel
theorem dL_seen_55 : decode cL_seen 55 = .ok (.ladd, 1) := by decide +kernel
theorem dL_seen_56 : decode cL_seen 56 = .ok (.lstore_n 1, 1) := by decide +kernel
theorem dL_seen_57 : decode cL_seen 57 = .ok (.iinc 3 1, 3) := by decide +kernel
theorem dL_seen_60 : decode cL_seen 60 = .ok (.goto (-27), 3) := by decide +kernel
