theorem dX0_init_0 : decode cX0_init 0 = .ok (.aload_n 0, 1) := by decide +kernel
theorem dX0_init_1 : decode cX0_init 1 = .ok (.invokespecial 3, 3) := by decide +kernel
theorem dX0_init_4 : decode cX0_init 4 = .ok (.aload_n 0, 1) := by decide +kernel
theorem dX0_init_5 : decode cX0_init 5 = .ok (.bipush 40, 2) := by decide +kernel
theorem dX0_init_7 : decode cX0_init 7 = .ok (.newarray .int, 2) := by decide +kernel
theorem dX0_init_9 : decode cX0_init 9 = .ok (.putfield 9, 3) := by decide +kernel
theorem dX0_init_12 : decode cX0_init 12 = .ok (.aload_n 0, 1) := by decide +kernel
theorem dX0_init_13 : decode cX0_init 13 = .ok (.bipush 40, 2) := by decide +kernel
theorem dX0_init_15 : decode cX0_init 15 = .ok (.newarray .int, 2) := by decide +kernel
theorem dX0_init_17 : decode cX0_init 17 = .ok (.putfield 15, 3) := by decide +kernel
theorem dX0_init_20 : decode cX0_init 20 = .ok (.aload_n 0, 1) := by decide +kernel
theorem dX0_init_21 : decode cX0_init 21 = .ok (.bipush 40, 2) := by decide +kernel
theorem dX0_init_23 : decode cX0_init 23 = .ok (.newarray .int, 2) := by decide +kernel
theorem dX0_init_25 : decode cX0_init 25 = .ok (.putfield 18, 3) := by decide +kernel
theorem dX0_init_28 : decode cX0_init 28 = .ok (.aload_n 0, 1) := by decide +kernel
theorem dX0_init_29 : decode cX0_init 29 = .ok (.bipush 40, 2) := by decide +kernel
theorem dX0_init_31 : decode cX0_init 31 = .ok (.newarray .int, 2) := by decide +kernel
theorem dX0_init_33 : decode cX0_init 33 = .ok (.putfield 21, 3) := by decide +kernel
theorem dX0_init_36 : decode cX0_init 36 = .ok (.aload_n 0, 1) := by decide +kernel
theorem dX0_init_37 : decode cX0_init 37 = .ok (.bipush 40, 2) := by decide +kernel
theorem dX0_init_39 : decode cX0_init 39 = .ok (.newarray .int, 2) := by decide +kernel
theorem dX0_init_41 : decode cX0_init 41 = .ok (.putfield 24, 3) := by decide +kernel
theorem dX0_init_44 : decode cX0_init 44 = .ok (.return_, 1) := by decide +kernel
theorem dX0_copyFrom_0 : decode cX0_copyFrom 0 = .ok (.aload_n 0, 1) := by decide +kernel
theorem dX0_copyFrom_1 : decode cX0_copyFrom 1 = .ok (.aload_n 1, 1) := by decide +kernel
theorem dX0_copyFrom_2 : decode cX0_copyFrom 2 = .ok (.getfield 27, 3) := by decide +kernel
theorem dX0_copyFrom_5 : decode cX0_copyFrom 5 = .ok (.putfield 27, 3) := by decide +kernel
theorem dX0_copyFrom_8 : decode cX0_copyFrom 8 = .ok (.aload_n 1, 1) := by decide +kernel
theorem dX0_copyFrom_9 : decode cX0_copyFrom 9 = .ok (.getfield 9, 3) := by decide +kernel
theorem dX0_copyFrom_12 : decode cX0_copyFrom 12 = .ok (.iconst 0, 1) := by decide +kernel
theorem dX0_copyFrom_13 : decode cX0_copyFrom 13 = .ok (.aload_n 0, 1) := by decide +kernel
theorem dX0_copyFrom_14 : decode cX0_copyFrom 14 = .ok (.getfield 9, 3) := by decide +kernel
theorem dX0_copyFrom_17 : decode cX0_copyFrom 17 = .ok (.iconst 0, 1) := by decide +kernel
theorem dX0_copyFrom_18 : decode cX0_copyFrom 18 = .ok (.bipush 40, 2) := by decide +kernel
theorem dX0_copyFrom_20 : decode cX0_copyFrom 20 = .ok (.invokestatic 31, 3) := by decide +kernel
theorem dX0_copyFrom_23 : decode cX0_copyFrom 23 = .ok (.aload_n 1, 1) := by decide +kernel
theorem dX0_copyFrom_24 : decode cX0_copyFrom 24 = .ok (.getfield 15, 3) := by decide +kernel
theorem dX0_copyFrom_27 : decode cX0_copyFrom 27 = .ok (.iconst 0, 1) := by decide +kernel
theorem dX0_copyFrom_28 : decode cX0_copyFrom 28 = .ok (.aload_n 0, 1) := by decide +kernel
theorem dX0_copyFrom_29 : decode cX0_copyFrom 29 = .ok (.getfield 15, 3) := by decide +kernel
theorem dX0_copyFrom_32 : decode cX0_copyFrom 32 = .ok (.iconst 0, 1) := by decide +kernel
theorem dX0_copyFrom_33 : decode cX0_copyFrom 33 = .ok (.bipush 40, 2) := by decide +kernel
theorem dX0_copyFrom_35 : decode cX0_copyFrom 35 = .ok (.invokestatic 31, 3) := by decide +kernel
theorem dX0_copyFrom_38 : decode cX0_copyFrom 38 = .ok (.aload_n 1, 1) := by decide +kernel
theorem dX0_copyFrom_39 : decode cX0_copyFrom 39 = .ok (.getfield 18, 3) := by decide +kernel
theorem dX0_copyFrom_42 : decode cX0_copyFrom 42 = .ok (.iconst 0, 1) := by decide +kernel
theorem dX0_copyFrom_43 : decode cX0_copyFrom 43 = .ok (.aload_n 0, 1) := by decide +kernel
theorem dX0_copyFrom_44 : decode cX0_copyFrom 44 = .ok (.getfield 18, 3) := by decide +kernel
theorem dX0_copyFrom_47 : decode cX0_copyFrom 47 = .ok (.iconst 0, 1) := by decide +kernel
theorem dX0_copyFrom_48 : decode cX0_copyFrom 48 = .ok (.bipush 40, 2) := by decide +kernel
theorem dX0_copyFrom_50 : decode cX0_copyFrom 50 = .ok (.invokestatic 31, 3) := by decide +kernel
theorem dX0_copyFrom_53 : decode cX0_copyFrom 53 = .ok (.aload_n 1, 1) := by decide +kernel
theorem dX0_copyFrom_54 : decode cX0_copyFrom 54 = .ok (.getfield 21, 3) := by decide +kernel
theorem dX0_copyFrom_57 : decode cX0_copyFrom 57 = .ok (.iconst 0, 1) := by decide +kernel
theorem dX0_copyFrom_58 : decode cX0_copyFrom 58 = .ok (.aload_n 0, 1) := by decide +kernel
theorem dX0_copyFrom_59 : decode cX0_copyFrom 59 = .ok (.getfield 21, 3) := by decide +kernel
theorem dX0_copyFrom_62 : decode cX0_copyFrom 62 = .ok (.iconst 0, 1) := by decide +kernel
theorem dX0_copyFrom_63 : decode cX0_copyFrom 63 = .ok (.bipush 40, 2) := by decide +kernel
theorem dX0_copyFrom_65 : decode cX0_copyFrom 65 = .ok (.invokestatic 31, 3) := by decide +kernel
theorem dX0_copyFrom_68 : decode cX0_copyFrom 68 = .ok (.aload_n 1, 1) := by decide +kernel
theorem dX0_copyFrom_69 : decode cX0_copyFrom 69 = .ok (.getfield 24, 3) := by decide +kernel
theorem dX0_copyFrom_72 : decode cX0_copyFrom 72 = .ok (.iconst 0, 1) := by decide +kernel
theorem dX0_copyFrom_73 : decode cX0_copyFrom 73 = .ok (.aload_n 0, 1) := by decide +kernel
theorem dX0_copyFrom_74 : decode cX0_copyFrom 74 = .ok (.getfield 24, 3) := by decide +kernel
theorem dX0_copyFrom_77 : decode cX0_copyFrom 77 = .ok (.iconst 0, 1) := by decide +kernel
theorem dX0_copyFrom_78 : decode cX0_copyFrom 78 = .ok (.bipush 40, 2) := by decide +kernel
theorem dX0_copyFrom_80 : decode cX0_copyFrom 80 = .ok (.invokestatic 31, 3) := by decide +kernel
theorem dX0_copyFrom_83 : decode cX0_copyFrom 83 = .ok (.return_, 1) := by decide +kernel
theorem dX0_has_0 : decode cX0_has 0 = .ok (.iload_n 1, 1) := by decide +kernel
theorem dX0_has_1 : decode cX0_has 1 = .ok (.ifCond .lt 15, 3) := by decide +kernel
theorem dX0_has_4 : decode cX0_has 4 = .ok (.iload_n 1, 1) := by decide +kernel
theorem dX0_has_5 : decode cX0_has 5 = .ok (.aload_n 0, 1) := by decide +kernel
theorem dX0_has_6 : decode cX0_has 6 = .ok (.getfield 27, 3) := by decide +kernel
theorem dX0_has_9 : decode cX0_has 9 = .ok (.if_icmp .ge 7, 3) := by decide +kernel
theorem dX0_has_12 : decode cX0_has 12 = .ok (.iconst 1, 1) := by decide +kernel
theorem dX0_has_13 : decode cX0_has 13 = .ok (.goto 4, 3) := by decide +kernel
theorem dX0_has_16 : decode cX0_has 16 = .ok (.iconst 0, 1) := by decide +kernel
theorem dX0_has_17 : decode cX0_has 17 = .ok (.ireturn, 1) := by decide +kernel
theorem dX0_hasCode_0 : decode cX0_hasCode 0 = .ok (.iconst 0, 1) := by decide +kernel
theorem dX0_hasCode_1 : decode cX0_hasCode 1 = .ok (.istore_n 2, 1) := by decide +kernel
theorem dX0_hasCode_2 : decode cX0_hasCode 2 = .ok (.iload_n 2, 1) := by decide +kernel
theorem dX0_hasCode_3 : decode cX0_hasCode 3 = .ok (.aload_n 0, 1) := by decide +kernel
theorem dX0_hasCode_4 : decode cX0_hasCode 4 = .ok (.getfield 27, 3) := by decide +kernel
theorem dX0_hasCode_7 : decode cX0_hasCode 7 = .ok (.if_icmp .ge 21, 3) := by decide +kernel
theorem dX0_hasCode_10 : decode cX0_hasCode 10 = .ok (.aload_n 0, 1) := by decide +kernel
theorem dX0_hasCode_11 : decode cX0_hasCode 11 = .ok (.getfield 9, 3) := by decide +kernel
theorem dX0_hasCode_14 : decode cX0_hasCode 14 = .ok (.iload_n 2, 1) := by decide +kernel
theorem dX0_hasCode_15 : decode cX0_hasCode 15 = .ok (.iaload, 1) := by decide +kernel
theorem dX0_hasCode_16 : decode cX0_hasCode 16 = .ok (.iload_n 1, 1) := by decide +kernel
theorem dX0_hasCode_17 : decode cX0_hasCode 17 = .ok (.if_icmp .ne 5, 3) := by decide +kernel
theorem dX0_hasCode_20 : decode cX0_hasCode 20 = .ok (.iconst 1, 1) := by decide +kernel
theorem dX0_hasCode_21 : decode cX0_hasCode 21 = .ok (.ireturn, 1) := by decide +kernel
theorem dX0_hasCode_22 : decode cX0_hasCode 22 = .ok (.iinc 2 1, 3) := by decide +kernel
theorem dX0_hasCode_25 : decode cX0_hasCode 25 = .ok (.goto (-23), 3) := by decide +kernel
theorem dX0_hasCode_28 : decode cX0_hasCode 28 = .ok (.iconst 0, 1) := by decide +kernel
theorem dX0_hasCode_29 : decode cX0_hasCode 29 = .ok (.ireturn, 1) := by decide +kernel
theorem dX0_setFate_0 : decode cX0_setFate 0 = .ok (.aload_n 0, 1) := by decide +kernel
theorem dX0_setFate_1 : decode cX0_setFate 1 = .ok (.getfield 15, 3) := by decide +kernel
theorem dX0_setFate_4 : decode cX0_setFate 4 = .ok (.iload_n 1, 1) := by decide +kernel
theorem dX0_setFate_5 : decode cX0_setFate 5 = .ok (.iload_n 2, 1) := by decide +kernel
theorem dX0_setFate_6 : decode cX0_setFate 6 = .ok (.iastore, 1) := by decide +kernel
theorem dX0_setFate_7 : decode cX0_setFate 7 = .ok (.aload_n 0, 1) := by decide +kernel
theorem dX0_setFate_8 : decode cX0_setFate 8 = .ok (.getfield 18, 3) := by decide +kernel
theorem dX0_setFate_11 : decode cX0_setFate 11 = .ok (.iload_n 1, 1) := by decide +kernel
theorem dX0_setFate_12 : decode cX0_setFate 12 = .ok (.iload_n 3, 1) := by decide +kernel
theorem dX0_setFate_13 : decode cX0_setFate 13 = .ok (.iastore, 1) := by decide +kernel
theorem dX0_setFate_14 : decode cX0_setFate 14 = .ok (.aload_n 0, 1) := by decide +kernel
theorem dX0_setFate_15 : decode cX0_setFate 15 = .ok (.getfield 21, 3) := by decide +kernel
theorem dX0_setFate_18 : decode cX0_setFate 18 = .ok (.iload_n 1, 1) := by decide +kernel
theorem dX0_setFate_19 : decode cX0_setFate 19 = .ok (.iload 4, 2) := by decide +kernel
theorem dX0_setFate_21 : decode cX0_setFate 21 = .ok (.iastore, 1) := by decide +kernel
theorem dX0_setFate_22 : decode cX0_setFate 22 = .ok (.aload_n 0, 1) := by decide +kernel
theorem dX0_setFate_23 : decode cX0_setFate 23 = .ok (.getfield 24, 3) := by decide +kernel
theorem dX0_setFate_26 : decode cX0_setFate 26 = .ok (.iload_n 1, 1) := by decide +kernel
theorem dX0_setFate_27 : decode cX0_setFate 27 = .ok (.iload 5, 2) := by decide +kernel
theorem dX0_setFate_29 : decode cX0_setFate 29 = .ok (.iastore, 1) := by decide +kernel
theorem dX0_setFate_30 : decode cX0_setFate 30 = .ok (.return_, 1) := by decide +kernel
theorem dX0_countStanding_0 : decode cX0_countStanding 0 = .ok (.aload_n 0, 1) := by decide +kernel
theorem dX0_countStanding_1 : decode cX0_countStanding 1 = .ok (.invokevirtual 37, 3) := by decide +kernel
theorem dX0_countStanding_4 : decode cX0_countStanding 4 = .ok (.invokestatic 41, 3) := by decide +kernel
theorem dX0_countStanding_7 : decode cX0_countStanding 7 = .ok (.ireturn, 1) := by decide +kernel
theorem dX0_findStanding_0 : decode cX0_findStanding 0 = .ok (.lconst 0, 1) := by decide +kernel
theorem dX0_findStanding_1 : decode cX0_findStanding 1 = .ok (.lstore_n 1, 1) := by decide +kernel
theorem dX0_findStanding_2 : decode cX0_findStanding 2 = .ok (.iconst 0, 1) := by decide +kernel
theorem dX0_findStanding_3 : decode cX0_findStanding 3 = .ok (.istore_n 3, 1) := by decide +kernel
theorem dX0_findStanding_4 : decode cX0_findStanding 4 = .ok (.iload_n 3, 1) := by decide +kernel
theorem dX0_findStanding_5 : decode cX0_findStanding 5 = .ok (.aload_n 0, 1) := by decide +kernel
theorem dX0_findStanding_6 : decode cX0_findStanding 6 = .ok (.getfield 27, 3) := by decide +kernel
theorem dX0_findStanding_9 : decode cX0_findStanding 9 = .ok (.if_icmp .ge 24, 3) := by decide +kernel
theorem dX0_findStanding_12 : decode cX0_findStanding 12 = .ok (.aload_n 0, 1) := by decide +kernel
theorem dX0_findStanding_13 : decode cX0_findStanding 13 = .ok (.getfield 15, 3) := by decide +kernel
theorem dX0_findStanding_16 : decode cX0_findStanding 16 = .ok (.iload_n 3, 1) := by decide +kernel
theorem dX0_findStanding_17 : decode cX0_findStanding 17 = .ok (.iaload, 1) := by decide +kernel
theorem dX0_findStanding_18 : decode cX0_findStanding 18 = .ok (.ifCond .ne 9, 3) := by decide +kernel
theorem dX0_findStanding_21 : decode cX0_findStanding 21 = .ok (.lload_n 1, 1) := by decide +kernel
theorem dX0_findStanding_22 : decode cX0_findStanding 22 = .ok (.lconst 1, 1) := by decide +kernel
theorem dX0_findStanding_23 : decode cX0_findStanding 23 = .ok (.iload_n 3, 1) := by decide +kernel
theorem dX0_findStanding_24 : decode cX0_findStanding 24 = .ok (.lshl, 1) := by decide +kernel
theorem dX0_findStanding_25 : decode cX0_findStanding 25 = .ok (.lor, 1) := by decide +kernel
theorem dX0_findStanding_26 : decode cX0_findStanding 26 = .ok (.lstore_n 1, 1) := by decide +kernel
theorem dX0_findStanding_27 : decode cX0_findStanding 27 = .ok (.iinc 3 1, 3) := by decide +kernel
theorem dX0_findStanding_30 : decode cX0_findStanding 30 = .ok (.goto (-26), 3) := by decide +kernel
theorem dX0_findStanding_33 : decode cX0_findStanding 33 = .ok (.lload_n 1, 1) := by decide +kernel
theorem dX0_findStanding_34 : decode cX0_findStanding 34 = .ok (.lreturn, 1) := by decide +kernel
theorem dX0_standsAgainst_0 : decode cX0_standsAgainst 0 = .ok (.aload_n 0, 1) := by decide +kernel
theorem dX0_standsAgainst_1 : decode cX0_standsAgainst 1 = .ok (.getfield 15, 3) := by decide +kernel
theorem dX0_standsAgainst_4 : decode cX0_standsAgainst 4 = .ok (.iload_n 1, 1) := by decide +kernel
theorem dX0_standsAgainst_5 : decode cX0_standsAgainst 5 = .ok (.iaload, 1) := by decide +kernel
theorem dX0_standsAgainst_6 : decode cX0_standsAgainst 6 = .ok (.ifCond .ne 20, 3) := by decide +kernel
theorem dX0_standsAgainst_9 : decode cX0_standsAgainst 9 = .ok (.aload_n 0, 1) := by decide +kernel
theorem dX0_standsAgainst_10 : decode cX0_standsAgainst 10 = .ok (.getfield 9, 3) := by decide +kernel
theorem dX0_standsAgainst_13 : decode cX0_standsAgainst 13 = .ok (.iload_n 1, 1) := by decide +kernel
theorem dX0_standsAgainst_14 : decode cX0_standsAgainst 14 = .ok (.iaload, 1) := by decide +kernel
theorem dX0_standsAgainst_15 : decode cX0_standsAgainst 15 = .ok (.iload_n 2, 1) := by decide +kernel
theorem dX0_standsAgainst_16 : decode cX0_standsAgainst 16 = .ok (.invokestatic 47, 3) := by decide +kernel
theorem dX0_standsAgainst_19 : decode cX0_standsAgainst 19 = .ok (.ifCond .ne 7, 3) := by decide +kernel
theorem dX0_standsAgainst_22 : decode cX0_standsAgainst 22 = .ok (.iconst 1, 1) := by decide +kernel
theorem dX0_standsAgainst_23 : decode cX0_standsAgainst 23 = .ok (.goto 4, 3) := by decide +kernel
theorem dX0_standsAgainst_26 : decode cX0_standsAgainst 26 = .ok (.iconst 0, 1) := by decide +kernel
theorem dX0_standsAgainst_27 : decode cX0_standsAgainst 27 = .ok (.ireturn, 1) := by decide +kernel
theorem dX0_nextMiss_0 : decode cX0_nextMiss 0 = .ok (.iload_n 2, 1) := by decide +kernel
theorem dX0_nextMiss_1 : decode cX0_nextMiss 1 = .ok (.istore_n 3, 1) := by decide +kernel
theorem dX0_nextMiss_2 : decode cX0_nextMiss 2 = .ok (.iload_n 3, 1) := by decide +kernel
theorem dX0_nextMiss_3 : decode cX0_nextMiss 3 = .ok (.aload_n 0, 1) := by decide +kernel
theorem dX0_nextMiss_4 : decode cX0_nextMiss 4 = .ok (.getfield 27, 3) := by decide +kernel
theorem dX0_nextMiss_7 : decode cX0_nextMiss 7 = .ok (.if_icmp .ge 20, 3) := by decide +kernel
theorem dX0_nextMiss_10 : decode cX0_nextMiss 10 = .ok (.aload_n 0, 1) := by decide +kernel
theorem dX0_nextMiss_11 : decode cX0_nextMiss 11 = .ok (.iload_n 3, 1) := by decide +kernel
theorem dX0_nextMiss_12 : decode cX0_nextMiss 12 = .ok (.iload_n 1, 1) := by decide +kernel
theorem dX0_nextMiss_13 : decode cX0_nextMiss 13 = .ok (.invokevirtual 53, 3) := by decide +kernel
theorem dX0_nextMiss_16 : decode cX0_nextMiss 16 = .ok (.ifCond .eq 5, 3) := by decide +kernel
theorem dX0_nextMiss_19 : decode cX0_nextMiss 19 = .ok (.iload_n 3, 1) := by decide +kernel
theorem dX0_nextMiss_20 : decode cX0_nextMiss 20 = .ok (.ireturn, 1) := by decide +kernel
theorem dX0_nextMiss_21 : decode cX0_nextMiss 21 = .ok (.iinc 3 1, 3) := by decide +kernel
theorem dX0_nextMiss_24 : decode cX0_nextMiss 24 = .ok (.goto (-22), 3) := by decide +kernel
theorem dX0_nextMiss_27 : decode cX0_nextMiss 27 = .ok (.aload_n 0, 1) := by decide +kernel
theorem dX0_nextMiss_28 : decode cX0_nextMiss 28 = .ok (.getfield 27, 3) := by decide +kernel
theorem dX0_nextMiss_31 : decode cX0_nextMiss 31 = .ok (.ireturn, 1) := by decide +kernel
theorem dX0_allow_0 : decode cX0_allow 0 = .ok (.iconst 0, 1) := by decide +kernel
theorem dX0_allow_1 : decode cX0_allow 1 = .ok (.istore_n 2, 1) := by decide +kernel
theorem dX0_allow_2 : decode cX0_allow 2 = .ok (.iload_n 2, 1) := by decide +kernel
theorem dX0_allow_3 : decode cX0_allow 3 = .ok (.aload_n 0, 1) := by decide +kernel
theorem dX0_allow_4 : decode cX0_allow 4 = .ok (.getfield 27, 3) := by decide +kernel
theorem dX0_allow_7 : decode cX0_allow 7 = .ok (.if_icmp .ge 33, 3) := by decide +kernel
theorem dX0_allow_10 : decode cX0_allow 10 = .ok (.aload_n 0, 1) := by decide +kernel
theorem dX0_allow_11 : decode cX0_allow 11 = .ok (.getfield 15, 3) := by decide +kernel
theorem dX0_allow_14 : decode cX0_allow 14 = .ok (.iload_n 2, 1) := by decide +kernel
theorem dX0_allow_15 : decode cX0_allow 15 = .ok (.iaload, 1) := by decide +kernel
theorem dX0_allow_16 : decode cX0_allow 16 = .ok (.ifCond .ne 18, 3) := by decide +kernel
theorem dX0_allow_19 : decode cX0_allow 19 = .ok (.aload_n 0, 1) := by decide +kernel
theorem dX0_allow_20 : decode cX0_allow 20 = .ok (.getfield 9, 3) := by decide +kernel
theorem dX0_allow_23 : decode cX0_allow 23 = .ok (.iload_n 2, 1) := by decide +kernel
theorem dX0_allow_24 : decode cX0_allow 24 = .ok (.iaload, 1) := by decide +kernel
theorem dX0_allow_25 : decode cX0_allow 25 = .ok (.iload_n 1, 1) := by decide +kernel
theorem dX0_allow_26 : decode cX0_allow 26 = .ok (.invokestatic 47, 3) := by decide +kernel
theorem dX0_allow_29 : decode cX0_allow 29 = .ok (.ifCond .ne 5, 3) := by decide +kernel
theorem dX0_allow_32 : decode cX0_allow 32 = .ok (.iconst 0, 1) := by decide +kernel
theorem dX0_allow_33 : decode cX0_allow 33 = .ok (.ireturn, 1) := by decide +kernel
theorem dX0_allow_34 : decode cX0_allow 34 = .ok (.iinc 2 1, 3) := by decide +kernel
theorem dX0_allow_37 : decode cX0_allow 37 = .ok (.goto (-35), 3) := by decide +kernel
theorem dX0_allow_40 : decode cX0_allow 40 = .ok (.iconst 1, 1) := by decide +kernel
theorem dX0_allow_41 : decode cX0_allow 41 = .ok (.ireturn, 1) := by decide +kernel
theorem dX0_findNeedless_0 : decode cX0_findNeedless 0 = .ok (.aload_n 0, 1) := by decide +kernel
theorem dX0_findNeedless_1 : decode cX0_findNeedless 1 = .ok (.invokevirtual 37, 3) := by decide +kernel
theorem dX0_findNeedless_4 : decode cX0_findNeedless 4 = .ok (.lstore_n 1, 1) := by decide +kernel
theorem dX0_findNeedless_5 : decode cX0_findNeedless 5 = .ok (.iconst 0, 1) := by decide +kernel
theorem dX0_findNeedless_6 : decode cX0_findNeedless 6 = .ok (.istore_n 3, 1) := by decide +kernel
theorem dX0_findNeedless_7 : decode cX0_findNeedless 7 = .ok (.iload_n 3, 1) := by decide +kernel
theorem dX0_findNeedless_8 : decode cX0_findNeedless 8 = .ok (.sipush 512, 3) := by decide +kernel
theorem dX0_findNeedless_11 : decode cX0_findNeedless 11 = .ok (.if_icmp .ge 53, 3) := by decide +kernel
theorem dX0_findNeedless_14 : decode cX0_findNeedless 14 = .ok (.aload_n 0, 1) := by decide +kernel
theorem dX0_findNeedless_15 : decode cX0_findNeedless 15 = .ok (.iload_n 3, 1) := by decide +kernel
theorem dX0_findNeedless_16 : decode cX0_findNeedless 16 = .ok (.iconst 0, 1) := by decide +kernel
theorem dX0_findNeedless_17 : decode cX0_findNeedless 17 = .ok (.invokevirtual 56, 3) := by decide +kernel
theorem dX0_findNeedless_20 : decode cX0_findNeedless 20 = .ok (.istore 4, 2) := by decide +kernel
theorem dX0_findNeedless_22 : decode cX0_findNeedless 22 = .ok (.iload 4, 2) := by decide +kernel
theorem dX0_findNeedless_24 : decode cX0_findNeedless 24 = .ok (.aload_n 0, 1) := by decide +kernel
theorem dX0_findNeedless_25 : decode cX0_findNeedless 25 = .ok (.getfield 27, 3) := by decide +kernel
theorem dX0_findNeedless_28 : decode cX0_findNeedless 28 = .ok (.if_icmp .ge 30, 3) := by decide +kernel
theorem dX0_findNeedless_31 : decode cX0_findNeedless 31 = .ok (.aload_n 0, 1) := by decide +kernel
theorem dX0_findNeedless_32 : decode cX0_findNeedless 32 = .ok (.iload_n 3, 1) := by decide +kernel
theorem dX0_findNeedless_33 : decode cX0_findNeedless 33 = .ok (.iload 4, 2) := by decide +kernel
theorem dX0_findNeedless_35 : decode cX0_findNeedless 35 = .ok (.iconst 1, 1) := by decide +kernel
theorem dX0_findNeedless_36 : decode cX0_findNeedless 36 = .ok (.iadd, 1) := by decide +kernel
theorem dX0_findNeedless_37 : decode cX0_findNeedless 37 = .ok (.invokevirtual 56, 3) := by decide +kernel
theorem dX0_findNeedless_40 : decode cX0_findNeedless 40 = .ok (.aload_n 0, 1) := by decide +kernel
theorem dX0_findNeedless_41 : decode cX0_findNeedless 41 = .ok (.getfield 27, 3) := by decide +kernel
theorem dX0_findNeedless_44 : decode cX0_findNeedless 44 = .ok (.if_icmp .ne 14, 3) := by decide +kernel
theorem dX0_findNeedless_47 : decode cX0_findNeedless 47 = .ok (.lload_n 1, 1) := by decide +kernel
theorem dX0_findNeedless_48 : decode cX0_findNeedless 48 = .ok (.lconst 1, 1) := by decide +kernel
theorem dX0_findNeedless_49 : decode cX0_findNeedless 49 = .ok (.iload 4, 2) := by decide +kernel
theorem dX0_findNeedless_51 : decode cX0_findNeedless 51 = .ok (.lshl, 1) := by decide +kernel
theorem dX0_findNeedless_52 : decode cX0_findNeedless 52 = .ok (.ldc2_w 60, 3) := by decide +kernel
theorem dX0_findNeedless_55 : decode cX0_findNeedless 55 = .ok (.lxor, 1) := by decide +kernel
theorem dX0_findNeedless_56 : decode cX0_findNeedless 56 = .ok (.land, 1) := by decide +kernel
theorem dX0_findNeedless_57 : decode cX0_findNeedless 57 = .ok (.lstore_n 1, 1) := by decide +kernel
theorem dX0_findNeedless_58 : decode cX0_findNeedless 58 = .ok (.iinc 3 1, 3) := by decide +kernel
theorem dX0_findNeedless_61 : decode cX0_findNeedless 61 = .ok (.goto (-54), 3) := by decide +kernel
theorem dX0_findNeedless_64 : decode cX0_findNeedless 64 = .ok (.lload_n 1, 1) := by decide +kernel
theorem dX0_findNeedless_65 : decode cX0_findNeedless 65 = .ok (.lreturn, 1) := by decide +kernel
theorem dX1_encode_0 : decode cX1_encode 0 = .ok (.iload_n 0, 1) := by decide +kernel
theorem dX1_encode_1 : decode cX1_encode 1 = .ok (.iload_n 1, 1) := by decide +kernel
theorem dX1_encode_2 : decode cX1_encode 2 = .ok (.iload_n 2, 1) := by decide +kernel
theorem dX1_encode_3 : decode cX1_encode 3 = .ok (.iload_n 3, 1) := by decide +kernel
theorem dX1_encode_4 : decode cX1_encode 4 = .ok (.invokestatic 9, 3) := by decide +kernel
theorem dX1_encode_7 : decode cX1_encode 7 = .ok (.ifCond .eq 24, 3) := by decide +kernel
theorem dX1_encode_10 : decode cX1_encode 10 = .ok (.bipush 15, 2) := by decide +kernel
theorem dX1_encode_12 : decode cX1_encode 12 = .ok (.bipush 9, 2) := by decide +kernel
theorem dX1_encode_14 : decode cX1_encode 14 = .ok (.iload_n 0, 1) := by decide +kernel
theorem dX1_encode_15 : decode cX1_encode 15 = .ok (.imul, 1) := by decide +kernel
theorem dX1_encode_16 : decode cX1_encode 16 = .ok (.iconst 3, 1) := by decide +kernel
theorem dX1_encode_17 : decode cX1_encode 17 = .ok (.iload_n 1, 1) := by decide +kernel
theorem dX1_encode_18 : decode cX1_encode 18 = .ok (.imul, 1) := by decide +kernel
theorem dX1_encode_19 : decode cX1_encode 19 = .ok (.iadd, 1) := by decide +kernel
theorem dX1_encode_20 : decode cX1_encode 20 = .ok (.iload_n 2, 1) := by decide +kernel
theorem dX1_encode_21 : decode cX1_encode 21 = .ok (.iadd, 1) := by decide +kernel
theorem dX1_encode_22 : decode cX1_encode 22 = .ok (.imul, 1) := by decide +kernel
theorem dX1_encode_23 : decode cX1_encode 23 = .ok (.iload_n 3, 1) := by decide +kernel
theorem dX1_encode_24 : decode cX1_encode 24 = .ok (.iadd, 1) := by decide +kernel
theorem dX1_encode_25 : decode cX1_encode 25 = .ok (.bipush 7, 2) := by decide +kernel
theorem dX1_encode_27 : decode cX1_encode 27 = .ok (.iadd, 1) := by decide +kernel
theorem dX1_encode_28 : decode cX1_encode 28 = .ok (.goto 5, 3) := by decide +kernel
theorem dX1_encode_31 : decode cX1_encode 31 = .ok (.bipush (-2), 2) := by decide +kernel
theorem dX1_encode_33 : decode cX1_encode 33 = .ok (.ireturn, 1) := by decide +kernel
theorem dX1_isCode_0 : decode cX1_isCode 0 = .ok (.iload_n 0, 1) := by decide +kernel
theorem dX1_isCode_1 : decode cX1_isCode 1 = .ok (.ifCond .ge 5, 3) := by decide +kernel
theorem dX1_isCode_4 : decode cX1_isCode 4 = .ok (.iconst 0, 1) := by decide +kernel
theorem dX1_isCode_5 : decode cX1_isCode 5 = .ok (.ireturn, 1) := by decide +kernel
theorem dX1_isCode_6 : decode cX1_isCode 6 = .ok (.iload_n 0, 1) := by decide +kernel
theorem dX1_isCode_7 : decode cX1_isCode 7 = .ok (.bipush 15, 2) := by decide +kernel
theorem dX1_isCode_9 : decode cX1_isCode 9 = .ok (.idiv, 1) := by decide +kernel
theorem dX1_isCode_10 : decode cX1_isCode 10 = .ok (.istore_n 1, 1) := by decide +kernel
theorem dX1_isCode_11 : decode cX1_isCode 11 = .ok (.iload_n 1, 1) := by decide +kernel
theorem dX1_isCode_12 : decode cX1_isCode 12 = .ok (.bipush 9, 2) := by decide +kernel
theorem dX1_isCode_14 : decode cX1_isCode 14 = .ok (.idiv, 1) := by decide +kernel
theorem dX1_isCode_15 : decode cX1_isCode 15 = .ok (.iload_n 1, 1) := by decide +kernel
theorem dX1_isCode_16 : decode cX1_isCode 16 = .ok (.bipush 9, 2) := by decide +kernel
theorem dX1_isCode_18 : decode cX1_isCode 18 = .ok (.irem, 1) := by decide +kernel
theorem dX1_isCode_19 : decode cX1_isCode 19 = .ok (.iconst 3, 1) := by decide +kernel
theorem dX1_isCode_20 : decode cX1_isCode 20 = .ok (.idiv, 1) := by decide +kernel
theorem dX1_isCode_21 : decode cX1_isCode 21 = .ok (.iload_n 1, 1) := by decide +kernel
theorem dX1_isCode_22 : decode cX1_isCode 22 = .ok (.iconst 3, 1) := by decide +kernel
theorem dX1_isCode_23 : decode cX1_isCode 23 = .ok (.irem, 1) := by decide +kernel
theorem dX1_isCode_24 : decode cX1_isCode 24 = .ok (.iload_n 0, 1) := by decide +kernel
theorem dX1_isCode_25 : decode cX1_isCode 25 = .ok (.bipush 15, 2) := by decide +kernel
theorem dX1_isCode_27 : decode cX1_isCode 27 = .ok (.irem, 1) := by decide +kernel
theorem dX1_isCode_28 : decode cX1_isCode 28 = .ok (.bipush 7, 2) := by decide +kernel
theorem dX1_isCode_30 : decode cX1_isCode 30 = .ok (.isub, 1) := by decide +kernel
theorem dX1_isCode_31 : decode cX1_isCode 31 = .ok (.invokestatic 9, 3) := by decide +kernel
theorem dX1_isCode_34 : decode cX1_isCode 34 = .ok (.ireturn, 1) := by decide +kernel
theorem dX1_isClaim_0 : decode cX1_isClaim 0 = .ok (.iload_n 1, 1) := by decide +kernel
theorem dX1_isClaim_1 : decode cX1_isClaim 1 = .ok (.ifCond .lt 17, 3) := by decide +kernel
theorem dX1_isClaim_4 : decode cX1_isClaim 4 = .ok (.iload_n 1, 1) := by decide +kernel
theorem dX1_isClaim_5 : decode cX1_isClaim 5 = .ok (.iconst 2, 1) := by decide +kernel
theorem dX1_isClaim_6 : decode cX1_isClaim 6 = .ok (.if_icmp .gt 12, 3) := by decide +kernel
theorem dX1_isClaim_9 : decode cX1_isClaim 9 = .ok (.iload_n 2, 1) := by decide +kernel
theorem dX1_isClaim_10 : decode cX1_isClaim 10 = .ok (.ifCond .lt 8, 3) := by decide +kernel
theorem dX1_isClaim_13 : decode cX1_isClaim 13 = .ok (.iload_n 2, 1) := by decide +kernel
theorem dX1_isClaim_14 : decode cX1_isClaim 14 = .ok (.iconst 2, 1) := by decide +kernel
theorem dX1_isClaim_15 : decode cX1_isClaim 15 = .ok (.if_icmp .le 5, 3) := by decide +kernel
theorem dX1_isClaim_18 : decode cX1_isClaim 18 = .ok (.iconst 0, 1) := by decide +kernel
theorem dX1_isClaim_19 : decode cX1_isClaim 19 = .ok (.ireturn, 1) := by decide +kernel
theorem dX1_isClaim_20 : decode cX1_isClaim 20 = .ok (.iload_n 0, 1) := by decide +kernel
theorem dX1_isClaim_21 : decode cX1_isClaim 21 = .ok (.tableswitch 146 0 9 #[55, 73, 73, 73, 73, 90, 90, 90, 108, 126], 55) := by decide +kernel
theorem dX1_isClaim_76 : decode cX1_isClaim 76 = .ok (.iload_n 1, 1) := by decide +kernel
theorem dX1_isClaim_77 : decode cX1_isClaim 77 = .ok (.ifCond .ne 15, 3) := by decide +kernel
theorem dX1_isClaim_80 : decode cX1_isClaim 80 = .ok (.iload_n 2, 1) := by decide +kernel
theorem dX1_isClaim_81 : decode cX1_isClaim 81 = .ok (.ifCond .ne 11, 3) := by decide +kernel
theorem dX1_isClaim_84 : decode cX1_isClaim 84 = .ok (.iload_n 3, 1) := by decide +kernel
theorem dX1_isClaim_85 : decode cX1_isClaim 85 = .ok (.ifCond .ne 7, 3) := by decide +kernel
theorem dX1_isClaim_88 : decode cX1_isClaim 88 = .ok (.iconst 1, 1) := by decide +kernel
theorem dX1_isClaim_89 : decode cX1_isClaim 89 = .ok (.goto 4, 3) := by decide +kernel
theorem dX1_isClaim_92 : decode cX1_isClaim 92 = .ok (.iconst 0, 1) := by decide +kernel
theorem dX1_isClaim_93 : decode cX1_isClaim 93 = .ok (.ireturn, 1) := by decide +kernel
theorem dX1_isClaim_94 : decode cX1_isClaim 94 = .ok (.iload_n 2, 1) := by decide +kernel
theorem dX1_isClaim_95 : decode cX1_isClaim 95 = .ok (.ifCond .ne 14, 3) := by decide +kernel
theorem dX1_isClaim_98 : decode cX1_isClaim 98 = .ok (.iload_n 3, 1) := by decide +kernel
theorem dX1_isClaim_99 : decode cX1_isClaim 99 = .ok (.invokestatic 15, 3) := by decide +kernel
theorem dX1_isClaim_102 : decode cX1_isClaim 102 = .ok (.ifCond .eq 7, 3) := by decide +kernel
theorem dX1_isClaim_105 : decode cX1_isClaim 105 = .ok (.iconst 1, 1) := by decide +kernel
theorem dX1_isClaim_106 : decode cX1_isClaim 106 = .ok (.goto 4, 3) := by decide +kernel
theorem dX1_isClaim_109 : decode cX1_isClaim 109 = .ok (.iconst 0, 1) := by decide +kernel
theorem dX1_isClaim_110 : decode cX1_isClaim 110 = .ok (.ireturn, 1) := by decide +kernel
theorem dX1_isClaim_111 : decode cX1_isClaim 111 = .ok (.iload_n 2, 1) := by decide +kernel
theorem dX1_isClaim_112 : decode cX1_isClaim 112 = .ok (.iload_n 1, 1) := by decide +kernel
theorem dX1_isClaim_113 : decode cX1_isClaim 113 = .ok (.if_icmp .eq 14, 3) := by decide +kernel
theorem dX1_isClaim_116 : decode cX1_isClaim 116 = .ok (.iload_n 3, 1) := by decide +kernel
theorem dX1_isClaim_117 : decode cX1_isClaim 117 = .ok (.invokestatic 19, 3) := by decide +kernel
theorem dX1_isClaim_120 : decode cX1_isClaim 120 = .ok (.ifCond .eq 7, 3) := by decide +kernel
theorem dX1_isClaim_123 : decode cX1_isClaim 123 = .ok (.iconst 1, 1) := by decide +kernel
theorem dX1_isClaim_124 : decode cX1_isClaim 124 = .ok (.goto 4, 3) := by decide +kernel
theorem dX1_isClaim_127 : decode cX1_isClaim 127 = .ok (.iconst 0, 1) := by decide +kernel
theorem dX1_isClaim_128 : decode cX1_isClaim 128 = .ok (.ireturn, 1) := by decide +kernel
theorem dX1_isClaim_129 : decode cX1_isClaim 129 = .ok (.iload_n 2, 1) := by decide +kernel
theorem dX1_isClaim_130 : decode cX1_isClaim 130 = .ok (.iload_n 1, 1) := by decide +kernel
theorem dX1_isClaim_131 : decode cX1_isClaim 131 = .ok (.if_icmp .le 14, 3) := by decide +kernel
theorem dX1_isClaim_134 : decode cX1_isClaim 134 = .ok (.iload_n 3, 1) := by decide +kernel
theorem dX1_isClaim_135 : decode cX1_isClaim 135 = .ok (.invokestatic 15, 3) := by decide +kernel
theorem dX1_isClaim_138 : decode cX1_isClaim 138 = .ok (.ifCond .eq 7, 3) := by decide +kernel
theorem dX1_isClaim_141 : decode cX1_isClaim 141 = .ok (.iconst 1, 1) := by decide +kernel
theorem dX1_isClaim_142 : decode cX1_isClaim 142 = .ok (.goto 4, 3) := by decide +kernel
theorem dX1_isClaim_145 : decode cX1_isClaim 145 = .ok (.iconst 0, 1) := by decide +kernel
theorem dX1_isClaim_146 : decode cX1_isClaim 146 = .ok (.ireturn, 1) := by decide +kernel
theorem dX1_isClaim_147 : decode cX1_isClaim 147 = .ok (.iload_n 2, 1) := by decide +kernel
theorem dX1_isClaim_148 : decode cX1_isClaim 148 = .ok (.iload_n 1, 1) := by decide +kernel
theorem dX1_isClaim_149 : decode cX1_isClaim 149 = .ok (.if_icmp .le 16, 3) := by decide +kernel
theorem dX1_isClaim_152 : decode cX1_isClaim 152 = .ok (.iload_n 3, 1) := by decide +kernel
theorem dX1_isClaim_153 : decode cX1_isClaim 153 = .ok (.ifCond .eq 8, 3) := by decide +kernel
theorem dX1_isClaim_156 : decode cX1_isClaim 156 = .ok (.iload_n 3, 1) := by decide +kernel
theorem dX1_isClaim_157 : decode cX1_isClaim 157 = .ok (.iconst 1, 1) := by decide +kernel
theorem dX1_isClaim_158 : decode cX1_isClaim 158 = .ok (.if_icmp .ne 7, 3) := by decide +kernel
theorem dX1_isClaim_161 : decode cX1_isClaim 161 = .ok (.iconst 1, 1) := by decide +kernel
theorem dX1_isClaim_162 : decode cX1_isClaim 162 = .ok (.goto 4, 3) := by decide +kernel
theorem dX1_isClaim_165 : decode cX1_isClaim 165 = .ok (.iconst 0, 1) := by decide +kernel
theorem dX1_isClaim_166 : decode cX1_isClaim 166 = .ok (.ireturn, 1) := by decide +kernel
theorem dX1_isClaim_167 : decode cX1_isClaim 167 = .ok (.iconst 0, 1) := by decide +kernel
theorem dX1_isClaim_168 : decode cX1_isClaim 168 = .ok (.ireturn, 1) := by decide +kernel
theorem dX1_isDigit_0 : decode cX1_isDigit 0 = .ok (.iload_n 0, 1) := by decide +kernel
theorem dX1_isDigit_1 : decode cX1_isDigit 1 = .ok (.ifCond .lt 13, 3) := by decide +kernel
theorem dX1_isDigit_4 : decode cX1_isDigit 4 = .ok (.iload_n 0, 1) := by decide +kernel
theorem dX1_isDigit_5 : decode cX1_isDigit 5 = .ok (.bipush 7, 2) := by decide +kernel
theorem dX1_isDigit_7 : decode cX1_isDigit 7 = .ok (.if_icmp .gt 7, 3) := by decide +kernel
theorem dX1_isDigit_10 : decode cX1_isDigit 10 = .ok (.iconst 1, 1) := by decide +kernel
theorem dX1_isDigit_11 : decode cX1_isDigit 11 = .ok (.goto 4, 3) := by decide +kernel
theorem dX1_isDigit_14 : decode cX1_isDigit 14 = .ok (.iconst 0, 1) := by decide +kernel
theorem dX1_isDigit_15 : decode cX1_isDigit 15 = .ok (.ireturn, 1) := by decide +kernel
theorem dX1_isOffset_0 : decode cX1_isOffset 0 = .ok (.iload_n 0, 1) := by decide +kernel
theorem dX1_isOffset_1 : decode cX1_isOffset 1 = .ok (.bipush (-7), 2) := by decide +kernel
theorem dX1_isOffset_3 : decode cX1_isOffset 3 = .ok (.if_icmp .lt 13, 3) := by decide +kernel
theorem dX1_isOffset_6 : decode cX1_isOffset 6 = .ok (.iload_n 0, 1) := by decide +kernel
theorem dX1_isOffset_7 : decode cX1_isOffset 7 = .ok (.bipush 7, 2) := by decide +kernel
theorem dX1_isOffset_9 : decode cX1_isOffset 9 = .ok (.if_icmp .gt 7, 3) := by decide +kernel
theorem dX1_isOffset_12 : decode cX1_isOffset 12 = .ok (.iconst 1, 1) := by decide +kernel
theorem dX1_isOffset_13 : decode cX1_isOffset 13 = .ok (.goto 4, 3) := by decide +kernel
theorem dX1_isOffset_16 : decode cX1_isOffset 16 = .ok (.iconst 0, 1) := by decide +kernel
theorem dX1_isOffset_17 : decode cX1_isOffset 17 = .ok (.ireturn, 1) := by decide +kernel
theorem dX1_numberOf_0 : decode cX1_numberOf 0 = .ok (.iload_n 0, 1) := by decide +kernel
theorem dX1_numberOf_1 : decode cX1_numberOf 1 = .ok (.bipush 6, 2) := by decide +kernel
theorem dX1_numberOf_3 : decode cX1_numberOf 3 = .ok (.iconst 3, 1) := by decide +kernel
theorem dX1_numberOf_4 : decode cX1_numberOf 4 = .ok (.iload_n 1, 1) := by decide +kernel
theorem dX1_numberOf_5 : decode cX1_numberOf 5 = .ok (.imul, 1) := by decide +kernel
theorem dX1_numberOf_6 : decode cX1_numberOf 6 = .ok (.isub, 1) := by decide +kernel
theorem dX1_numberOf_7 : decode cX1_numberOf 7 = .ok (.ishr, 1) := by decide +kernel
theorem dX1_numberOf_8 : decode cX1_numberOf 8 = .ok (.bipush 7, 2) := by decide +kernel
theorem dX1_numberOf_10 : decode cX1_numberOf 10 = .ok (.iand, 1) := by decide +kernel
theorem dX1_numberOf_11 : decode cX1_numberOf 11 = .ok (.ireturn, 1) := by decide +kernel
theorem dX1_isMetBy_0 : decode cX1_isMetBy 0 = .ok (.iload_n 0, 1) := by decide +kernel
theorem dX1_isMetBy_1 : decode cX1_isMetBy 1 = .ok (.bipush 15, 2) := by decide +kernel
theorem dX1_isMetBy_3 : decode cX1_isMetBy 3 = .ok (.idiv, 1) := by decide +kernel
theorem dX1_isMetBy_4 : decode cX1_isMetBy 4 = .ok (.istore_n 2, 1) := by decide +kernel
theorem dX1_isMetBy_5 : decode cX1_isMetBy 5 = .ok (.iload_n 0, 1) := by decide +kernel
theorem dX1_isMetBy_6 : decode cX1_isMetBy 6 = .ok (.bipush 15, 2) := by decide +kernel
theorem dX1_isMetBy_8 : decode cX1_isMetBy 8 = .ok (.irem, 1) := by decide +kernel
theorem dX1_isMetBy_9 : decode cX1_isMetBy 9 = .ok (.bipush 7, 2) := by decide +kernel
theorem dX1_isMetBy_11 : decode cX1_isMetBy 11 = .ok (.isub, 1) := by decide +kernel
theorem dX1_isMetBy_12 : decode cX1_isMetBy 12 = .ok (.istore_n 3, 1) := by decide +kernel
theorem dX1_isMetBy_13 : decode cX1_isMetBy 13 = .ok (.iload_n 1, 1) := by decide +kernel
theorem dX1_isMetBy_14 : decode cX1_isMetBy 14 = .ok (.iload_n 2, 1) := by decide +kernel
theorem dX1_isMetBy_15 : decode cX1_isMetBy 15 = .ok (.bipush 9, 2) := by decide +kernel
theorem dX1_isMetBy_17 : decode cX1_isMetBy 17 = .ok (.irem, 1) := by decide +kernel
theorem dX1_isMetBy_18 : decode cX1_isMetBy 18 = .ok (.iconst 3, 1) := by decide +kernel
theorem dX1_isMetBy_19 : decode cX1_isMetBy 19 = .ok (.idiv, 1) := by decide +kernel
theorem dX1_isMetBy_20 : decode cX1_isMetBy 20 = .ok (.invokestatic 22, 3) := by decide +kernel
theorem dX1_isMetBy_23 : decode cX1_isMetBy 23 = .ok (.istore 4, 2) := by decide +kernel
theorem dX1_isMetBy_25 : decode cX1_isMetBy 25 = .ok (.iload_n 1, 1) := by decide +kernel
theorem dX1_isMetBy_26 : decode cX1_isMetBy 26 = .ok (.iload_n 2, 1) := by decide +kernel
theorem dX1_isMetBy_27 : decode cX1_isMetBy 27 = .ok (.iconst 3, 1) := by decide +kernel
theorem dX1_isMetBy_28 : decode cX1_isMetBy 28 = .ok (.irem, 1) := by decide +kernel
theorem dX1_isMetBy_29 : decode cX1_isMetBy 29 = .ok (.invokestatic 22, 3) := by decide +kernel
theorem dX1_isMetBy_32 : decode cX1_isMetBy 32 = .ok (.istore 5, 2) := by decide +kernel
theorem dX1_isMetBy_34 : decode cX1_isMetBy 34 = .ok (.iload_n 2, 1) := by decide +kernel
theorem dX1_isMetBy_35 : decode cX1_isMetBy 35 = .ok (.bipush 9, 2) := by decide +kernel
theorem dX1_isMetBy_37 : decode cX1_isMetBy 37 = .ok (.idiv, 1) := by decide +kernel
theorem dX1_isMetBy_38 : decode cX1_isMetBy 38 = .ok (.tableswitch 176 1 9 #[50, 62, 74, 86, 98, 113, 128, 143, 158], 50) := by decide +kernel
theorem dX1_isMetBy_88 : decode cX1_isMetBy 88 = .ok (.iload 4, 2) := by decide +kernel
theorem dX1_isMetBy_90 : decode cX1_isMetBy 90 = .ok (.iload_n 3, 1) := by decide +kernel
theorem dX1_isMetBy_91 : decode cX1_isMetBy 91 = .ok (.if_icmp .ne 7, 3) := by decide +kernel
theorem dX1_isMetBy_94 : decode cX1_isMetBy 94 = .ok (.iconst 1, 1) := by decide +kernel
theorem dX1_isMetBy_95 : decode cX1_isMetBy 95 = .ok (.goto 4, 3) := by decide +kernel
theorem dX1_isMetBy_98 : decode cX1_isMetBy 98 = .ok (.iconst 0, 1) := by decide +kernel
theorem dX1_isMetBy_99 : decode cX1_isMetBy 99 = .ok (.ireturn, 1) := by decide +kernel
theorem dX1_isMetBy_100 : decode cX1_isMetBy 100 = .ok (.iload 4, 2) := by decide +kernel
theorem dX1_isMetBy_102 : decode cX1_isMetBy 102 = .ok (.iload_n 3, 1) := by decide +kernel
theorem dX1_isMetBy_103 : decode cX1_isMetBy 103 = .ok (.if_icmp .eq 7, 3) := by decide +kernel
theorem dX1_isMetBy_106 : decode cX1_isMetBy 106 = .ok (.iconst 1, 1) := by decide +kernel
theorem dX1_isMetBy_107 : decode cX1_isMetBy 107 = .ok (.goto 4, 3) := by decide +kernel
theorem dX1_isMetBy_110 : decode cX1_isMetBy 110 = .ok (.iconst 0, 1) := by decide +kernel
theorem dX1_isMetBy_111 : decode cX1_isMetBy 111 = .ok (.ireturn, 1) := by decide +kernel
theorem dX1_isMetBy_112 : decode cX1_isMetBy 112 = .ok (.iload 4, 2) := by decide +kernel
theorem dX1_isMetBy_114 : decode cX1_isMetBy 114 = .ok (.iload_n 3, 1) := by decide +kernel
theorem dX1_isMetBy_115 : decode cX1_isMetBy 115 = .ok (.if_icmp .gt 7, 3) := by decide +kernel
theorem dX1_isMetBy_118 : decode cX1_isMetBy 118 = .ok (.iconst 1, 1) := by decide +kernel
theorem dX1_isMetBy_119 : decode cX1_isMetBy 119 = .ok (.goto 4, 3) := by decide +kernel
theorem dX1_isMetBy_122 : decode cX1_isMetBy 122 = .ok (.iconst 0, 1) := by decide +kernel
theorem dX1_isMetBy_123 : decode cX1_isMetBy 123 = .ok (.ireturn, 1) := by decide +kernel
theorem dX1_isMetBy_124 : decode cX1_isMetBy 124 = .ok (.iload 4, 2) := by decide +kernel
theorem dX1_isMetBy_126 : decode cX1_isMetBy 126 = .ok (.iload_n 3, 1) := by decide +kernel
theorem dX1_isMetBy_127 : decode cX1_isMetBy 127 = .ok (.if_icmp .lt 7, 3) := by decide +kernel
theorem dX1_isMetBy_130 : decode cX1_isMetBy 130 = .ok (.iconst 1, 1) := by decide +kernel
theorem dX1_isMetBy_131 : decode cX1_isMetBy 131 = .ok (.goto 4, 3) := by decide +kernel
theorem dX1_isMetBy_134 : decode cX1_isMetBy 134 = .ok (.iconst 0, 1) := by decide +kernel
theorem dX1_isMetBy_135 : decode cX1_isMetBy 135 = .ok (.ireturn, 1) := by decide +kernel
theorem dX1_isMetBy_136 : decode cX1_isMetBy 136 = .ok (.iload 4, 2) := by decide +kernel
theorem dX1_isMetBy_138 : decode cX1_isMetBy 138 = .ok (.iload 5, 2) := by decide +kernel
theorem dX1_isMetBy_140 : decode cX1_isMetBy 140 = .ok (.iload_n 3, 1) := by decide +kernel
theorem dX1_isMetBy_141 : decode cX1_isMetBy 141 = .ok (.iadd, 1) := by decide +kernel
theorem dX1_isMetBy_142 : decode cX1_isMetBy 142 = .ok (.if_icmp .ne 7, 3) := by decide +kernel
theorem dX1_isMetBy_145 : decode cX1_isMetBy 145 = .ok (.iconst 1, 1) := by decide +kernel
theorem dX1_isMetBy_146 : decode cX1_isMetBy 146 = .ok (.goto 4, 3) := by decide +kernel
theorem dX1_isMetBy_149 : decode cX1_isMetBy 149 = .ok (.iconst 0, 1) := by decide +kernel
theorem dX1_isMetBy_150 : decode cX1_isMetBy 150 = .ok (.ireturn, 1) := by decide +kernel
theorem dX1_isMetBy_151 : decode cX1_isMetBy 151 = .ok (.iload 4, 2) := by decide +kernel
theorem dX1_isMetBy_153 : decode cX1_isMetBy 153 = .ok (.iload 5, 2) := by decide +kernel
theorem dX1_isMetBy_155 : decode cX1_isMetBy 155 = .ok (.iload_n 3, 1) := by decide +kernel
theorem dX1_isMetBy_156 : decode cX1_isMetBy 156 = .ok (.iadd, 1) := by decide +kernel
theorem dX1_isMetBy_157 : decode cX1_isMetBy 157 = .ok (.if_icmp .eq 7, 3) := by decide +kernel
theorem dX1_isMetBy_160 : decode cX1_isMetBy 160 = .ok (.iconst 1, 1) := by decide +kernel
theorem dX1_isMetBy_161 : decode cX1_isMetBy 161 = .ok (.goto 4, 3) := by decide +kernel
theorem dX1_isMetBy_164 : decode cX1_isMetBy 164 = .ok (.iconst 0, 1) := by decide +kernel
theorem dX1_isMetBy_165 : decode cX1_isMetBy 165 = .ok (.ireturn, 1) := by decide +kernel
theorem dX1_isMetBy_166 : decode cX1_isMetBy 166 = .ok (.iload 4, 2) := by decide +kernel
theorem dX1_isMetBy_168 : decode cX1_isMetBy 168 = .ok (.iload 5, 2) := by decide +kernel
theorem dX1_isMetBy_170 : decode cX1_isMetBy 170 = .ok (.iload_n 3, 1) := by decide +kernel
theorem dX1_isMetBy_171 : decode cX1_isMetBy 171 = .ok (.iadd, 1) := by decide +kernel
theorem dX1_isMetBy_172 : decode cX1_isMetBy 172 = .ok (.if_icmp .gt 7, 3) := by decide +kernel
theorem dX1_isMetBy_175 : decode cX1_isMetBy 175 = .ok (.iconst 1, 1) := by decide +kernel
theorem dX1_isMetBy_176 : decode cX1_isMetBy 176 = .ok (.goto 4, 3) := by decide +kernel
theorem dX1_isMetBy_179 : decode cX1_isMetBy 179 = .ok (.iconst 0, 1) := by decide +kernel
theorem dX1_isMetBy_180 : decode cX1_isMetBy 180 = .ok (.ireturn, 1) := by decide +kernel
theorem dX1_isMetBy_181 : decode cX1_isMetBy 181 = .ok (.iload 4, 2) := by decide +kernel
theorem dX1_isMetBy_183 : decode cX1_isMetBy 183 = .ok (.iload 5, 2) := by decide +kernel
theorem dX1_isMetBy_185 : decode cX1_isMetBy 185 = .ok (.iadd, 1) := by decide +kernel
theorem dX1_isMetBy_186 : decode cX1_isMetBy 186 = .ok (.iload_n 3, 1) := by decide +kernel
theorem dX1_isMetBy_187 : decode cX1_isMetBy 187 = .ok (.if_icmp .ne 7, 3) := by decide +kernel
theorem dX1_isMetBy_190 : decode cX1_isMetBy 190 = .ok (.iconst 1, 1) := by decide +kernel
theorem dX1_isMetBy_191 : decode cX1_isMetBy 191 = .ok (.goto 4, 3) := by decide +kernel
theorem dX1_isMetBy_194 : decode cX1_isMetBy 194 = .ok (.iconst 0, 1) := by decide +kernel
theorem dX1_isMetBy_195 : decode cX1_isMetBy 195 = .ok (.ireturn, 1) := by decide +kernel
theorem dX1_isMetBy_196 : decode cX1_isMetBy 196 = .ok (.iload 4, 2) := by decide +kernel
theorem dX1_isMetBy_198 : decode cX1_isMetBy 198 = .ok (.iload 5, 2) := by decide +kernel
theorem dX1_isMetBy_200 : decode cX1_isMetBy 200 = .ok (.iadd, 1) := by decide +kernel
theorem dX1_isMetBy_201 : decode cX1_isMetBy 201 = .ok (.iload_n 3, 1) := by decide +kernel
theorem dX1_isMetBy_202 : decode cX1_isMetBy 202 = .ok (.iadd, 1) := by decide +kernel
theorem dX1_isMetBy_203 : decode cX1_isMetBy 203 = .ok (.iconst 1, 1) := by decide +kernel
theorem dX1_isMetBy_204 : decode cX1_isMetBy 204 = .ok (.iand, 1) := by decide +kernel
theorem dX1_isMetBy_205 : decode cX1_isMetBy 205 = .ok (.ifCond .ne 7, 3) := by decide +kernel
theorem dX1_isMetBy_208 : decode cX1_isMetBy 208 = .ok (.iconst 1, 1) := by decide +kernel
theorem dX1_isMetBy_209 : decode cX1_isMetBy 209 = .ok (.goto 4, 3) := by decide +kernel
theorem dX1_isMetBy_212 : decode cX1_isMetBy 212 = .ok (.iconst 0, 1) := by decide +kernel
theorem dX1_isMetBy_213 : decode cX1_isMetBy 213 = .ok (.ireturn, 1) := by decide +kernel
theorem dX1_isMetBy_214 : decode cX1_isMetBy 214 = .ok (.iconst 1, 1) := by decide +kernel
theorem dX1_isMetBy_215 : decode cX1_isMetBy 215 = .ok (.ireturn, 1) := by decide +kernel
theorem dX2_init_0 : decode cX2_init 0 = .ok (.aload_n 0, 1) := by decide +kernel
theorem dX2_init_1 : decode cX2_init 1 = .ok (.invokespecial 3, 3) := by decide +kernel
theorem dX2_init_4 : decode cX2_init 4 = .ok (.aload_n 0, 1) := by decide +kernel
theorem dX2_init_5 : decode cX2_init 5 = .ok (.bipush 7, 2) := by decide +kernel
theorem dX2_init_7 : decode cX2_init 7 = .ok (.anewarray 9, 3) := by decide +kernel
theorem dX2_init_10 : decode cX2_init 10 = .ok (.putfield 11, 3) := by decide +kernel
theorem dX2_init_13 : decode cX2_init 13 = .ok (.iconst 0, 1) := by decide +kernel
theorem dX2_init_14 : decode cX2_init 14 = .ok (.istore_n 1, 1) := by decide +kernel
theorem dX2_init_15 : decode cX2_init 15 = .ok (.iload_n 1, 1) := by decide +kernel
theorem dX2_init_16 : decode cX2_init 16 = .ok (.aload_n 0, 1) := by decide +kernel
theorem dX2_init_17 : decode cX2_init 17 = .ok (.getfield 11, 3) := by decide +kernel
theorem dX2_init_20 : decode cX2_init 20 = .ok (.arraylength, 1) := by decide +kernel
theorem dX2_init_21 : decode cX2_init 21 = .ok (.if_icmp .ge 22, 3) := by decide +kernel
theorem dX2_init_24 : decode cX2_init 24 = .ok (.aload_n 0, 1) := by decide +kernel
theorem dX2_init_25 : decode cX2_init 25 = .ok (.getfield 11, 3) := by decide +kernel
theorem dX2_init_28 : decode cX2_init 28 = .ok (.iload_n 1, 1) := by decide +kernel
theorem dX2_init_29 : decode cX2_init 29 = .ok (.new 9, 3) := by decide +kernel
theorem dX2_init_32 : decode cX2_init 32 = .ok (.dup, 1) := by decide +kernel
theorem dX2_init_33 : decode cX2_init 33 = .ok (.invokespecial 17, 3) := by decide +kernel
theorem dX2_init_36 : decode cX2_init 36 = .ok (.aastore, 1) := by decide +kernel
theorem dX2_init_37 : decode cX2_init 37 = .ok (.iinc 1 1, 3) := by decide +kernel
theorem dX2_init_40 : decode cX2_init 40 = .ok (.goto (-25), 3) := by decide +kernel
theorem dX2_init_43 : decode cX2_init 43 = .ok (.return_, 1) := by decide +kernel
theorem dX2_prepare_0 : decode cX2_prepare 0 = .ok (.aload_n 0, 1) := by decide +kernel
theorem dX2_prepare_1 : decode cX2_prepare 1 = .ok (.getfield 11, 3) := by decide +kernel
theorem dX2_prepare_4 : decode cX2_prepare 4 = .ok (.aload_n 0, 1) := by decide +kernel
theorem dX2_prepare_5 : decode cX2_prepare 5 = .ok (.getfield 18, 3) := by decide +kernel
theorem dX2_prepare_8 : decode cX2_prepare 8 = .ok (.aaload, 1) := by decide +kernel
theorem dX2_prepare_9 : decode cX2_prepare 9 = .ok (.aload_n 1, 1) := by decide +kernel
theorem dX2_prepare_10 : decode cX2_prepare 10 = .ok (.invokevirtual 22, 3) := by decide +kernel
theorem dX2_prepare_13 : decode cX2_prepare 13 = .ok (.return_, 1) := by decide +kernel
theorem dX2_confirm_0 : decode cX2_confirm 0 = .ok (.iload_n 1, 1) := by decide +kernel
theorem dX2_confirm_1 : decode cX2_confirm 1 = .ok (.ifCond .ge 5, 3) := by decide +kernel
theorem dX2_confirm_4 : decode cX2_confirm 4 = .ok (.iload_n 1, 1) := by decide +kernel
theorem dX2_confirm_5 : decode cX2_confirm 5 = .ok (.ireturn, 1) := by decide +kernel
theorem dX2_confirm_6 : decode cX2_confirm 6 = .ok (.aload_n 0, 1) := by decide +kernel
theorem dX2_confirm_7 : decode cX2_confirm 7 = .ok (.getfield 18, 3) := by decide +kernel
theorem dX2_confirm_10 : decode cX2_confirm 10 = .ok (.bipush 6, 2) := by decide +kernel
theorem dX2_confirm_12 : decode cX2_confirm 12 = .ok (.if_icmp .ge 16, 3) := by decide +kernel
theorem dX2_confirm_15 : decode cX2_confirm 15 = .ok (.aload_n 0, 1) := by decide +kernel
theorem dX2_confirm_16 : decode cX2_confirm 16 = .ok (.dup, 1) := by decide +kernel
theorem dX2_confirm_17 : decode cX2_confirm 17 = .ok (.getfield 18, 3) := by decide +kernel
theorem dX2_confirm_20 : decode cX2_confirm 20 = .ok (.iconst 1, 1) := by decide +kernel
theorem dX2_confirm_21 : decode cX2_confirm 21 = .ok (.iadd, 1) := by decide +kernel
theorem dX2_confirm_22 : decode cX2_confirm 22 = .ok (.putfield 18, 3) := by decide +kernel
theorem dX2_confirm_25 : decode cX2_confirm 25 = .ok (.goto 7, 3) := by decide +kernel
theorem dX2_confirm_28 : decode cX2_confirm 28 = .ok (.aload_n 0, 1) := by decide +kernel
theorem dX2_confirm_29 : decode cX2_confirm 29 = .ok (.invokevirtual 26, 3) := by decide +kernel
theorem dX2_confirm_32 : decode cX2_confirm 32 = .ok (.iload_n 1, 1) := by decide +kernel
theorem dX2_confirm_33 : decode cX2_confirm 33 = .ok (.ireturn, 1) := by decide +kernel
theorem dX2_moveOldestBehind_0 : decode cX2_moveOldestBehind 0 = .ok (.aload_n 0, 1) := by decide +kernel
theorem dX2_moveOldestBehind_1 : decode cX2_moveOldestBehind 1 = .ok (.getfield 11, 3) := by decide +kernel
theorem dX2_moveOldestBehind_4 : decode cX2_moveOldestBehind 4 = .ok (.iconst 0, 1) := by decide +kernel
theorem dX2_moveOldestBehind_5 : decode cX2_moveOldestBehind 5 = .ok (.aaload, 1) := by decide +kernel
theorem dX2_moveOldestBehind_6 : decode cX2_moveOldestBehind 6 = .ok (.astore_n 1, 1) := by decide +kernel
theorem dX2_moveOldestBehind_7 : decode cX2_moveOldestBehind 7 = .ok (.iconst 0, 1) := by decide +kernel
theorem dX2_moveOldestBehind_8 : decode cX2_moveOldestBehind 8 = .ok (.istore_n 2, 1) := by decide +kernel
theorem dX2_moveOldestBehind_9 : decode cX2_moveOldestBehind 9 = .ok (.iload_n 2, 1) := by decide +kernel
theorem dX2_moveOldestBehind_10 : decode cX2_moveOldestBehind 10 = .ok (.bipush 6, 2) := by decide +kernel
theorem dX2_moveOldestBehind_12 : decode cX2_moveOldestBehind 12 = .ok (.if_icmp .ge 23, 3) := by decide +kernel
theorem dX2_moveOldestBehind_15 : decode cX2_moveOldestBehind 15 = .ok (.aload_n 0, 1) := by decide +kernel
theorem dX2_moveOldestBehind_16 : decode cX2_moveOldestBehind 16 = .ok (.getfield 11, 3) := by decide +kernel
theorem dX2_moveOldestBehind_19 : decode cX2_moveOldestBehind 19 = .ok (.iload_n 2, 1) := by decide +kernel
theorem dX2_moveOldestBehind_20 : decode cX2_moveOldestBehind 20 = .ok (.aload_n 0, 1) := by decide +kernel
theorem dX2_moveOldestBehind_21 : decode cX2_moveOldestBehind 21 = .ok (.getfield 11, 3) := by decide +kernel
theorem dX2_moveOldestBehind_24 : decode cX2_moveOldestBehind 24 = .ok (.iload_n 2, 1) := by decide +kernel
theorem dX2_moveOldestBehind_25 : decode cX2_moveOldestBehind 25 = .ok (.iconst 1, 1) := by decide +kernel
theorem dX2_moveOldestBehind_26 : decode cX2_moveOldestBehind 26 = .ok (.iadd, 1) := by decide +kernel
theorem dX2_moveOldestBehind_27 : decode cX2_moveOldestBehind 27 = .ok (.aaload, 1) := by decide +kernel
theorem dX2_moveOldestBehind_28 : decode cX2_moveOldestBehind 28 = .ok (.aastore, 1) := by decide +kernel
theorem dX2_moveOldestBehind_29 : decode cX2_moveOldestBehind 29 = .ok (.iinc 2 1, 3) := by decide +kernel
theorem dX2_moveOldestBehind_32 : decode cX2_moveOldestBehind 32 = .ok (.goto (-23), 3) := by decide +kernel
theorem dX2_moveOldestBehind_35 : decode cX2_moveOldestBehind 35 = .ok (.aload_n 0, 1) := by decide +kernel
theorem dX2_moveOldestBehind_36 : decode cX2_moveOldestBehind 36 = .ok (.getfield 11, 3) := by decide +kernel
theorem dX2_moveOldestBehind_39 : decode cX2_moveOldestBehind 39 = .ok (.bipush 6, 2) := by decide +kernel
theorem dX2_moveOldestBehind_41 : decode cX2_moveOldestBehind 41 = .ok (.aload_n 1, 1) := by decide +kernel
theorem dX2_moveOldestBehind_42 : decode cX2_moveOldestBehind 42 = .ok (.aastore, 1) := by decide +kernel
theorem dX2_moveOldestBehind_43 : decode cX2_moveOldestBehind 43 = .ok (.return_, 1) := by decide +kernel
theorem dX2_takeBack_0 : decode cX2_takeBack 0 = .ok (.aload_n 0, 1) := by decide +kernel
theorem dX2_takeBack_1 : decode cX2_takeBack 1 = .ok (.getfield 18, 3) := by decide +kernel
theorem dX2_takeBack_4 : decode cX2_takeBack 4 = .ok (.ifCond .gt 5, 3) := by decide +kernel
theorem dX2_takeBack_7 : decode cX2_takeBack 7 = .ok (.iconst 0, 1) := by decide +kernel
theorem dX2_takeBack_8 : decode cX2_takeBack 8 = .ok (.ireturn, 1) := by decide +kernel
theorem dX2_takeBack_9 : decode cX2_takeBack 9 = .ok (.aload_n 0, 1) := by decide +kernel
theorem dX2_takeBack_10 : decode cX2_takeBack 10 = .ok (.dup, 1) := by decide +kernel
theorem dX2_takeBack_11 : decode cX2_takeBack 11 = .ok (.getfield 18, 3) := by decide +kernel
theorem dX2_takeBack_14 : decode cX2_takeBack 14 = .ok (.iconst 1, 1) := by decide +kernel
theorem dX2_takeBack_15 : decode cX2_takeBack 15 = .ok (.isub, 1) := by decide +kernel
theorem dX2_takeBack_16 : decode cX2_takeBack 16 = .ok (.putfield 18, 3) := by decide +kernel
theorem dX2_takeBack_19 : decode cX2_takeBack 19 = .ok (.aload_n 1, 1) := by decide +kernel
theorem dX2_takeBack_20 : decode cX2_takeBack 20 = .ok (.aload_n 0, 1) := by decide +kernel
theorem dX2_takeBack_21 : decode cX2_takeBack 21 = .ok (.getfield 11, 3) := by decide +kernel
theorem dX2_takeBack_24 : decode cX2_takeBack 24 = .ok (.aload_n 0, 1) := by decide +kernel
theorem dX2_takeBack_25 : decode cX2_takeBack 25 = .ok (.getfield 18, 3) := by decide +kernel
theorem dX2_takeBack_28 : decode cX2_takeBack 28 = .ok (.aaload, 1) := by decide +kernel
theorem dX2_takeBack_29 : decode cX2_takeBack 29 = .ok (.invokevirtual 22, 3) := by decide +kernel
theorem dX2_takeBack_32 : decode cX2_takeBack 32 = .ok (.iconst 1, 1) := by decide +kernel
theorem dX2_takeBack_33 : decode cX2_takeBack 33 = .ok (.ireturn, 1) := by decide +kernel
theorem dX3_init_0 : decode cX3_init 0 = .ok (.aload_n 0, 1) := by decide +kernel
theorem dX3_init_1 : decode cX3_init 1 = .ok (.invokespecial 3, 3) := by decide +kernel
theorem dX3_init_4 : decode cX3_init 4 = .ok (.aload_n 0, 1) := by decide +kernel
theorem dX3_init_5 : decode cX3_init 5 = .ok (.new 9, 3) := by decide +kernel
theorem dX3_init_8 : decode cX3_init 8 = .ok (.dup, 1) := by decide +kernel
theorem dX3_init_9 : decode cX3_init 9 = .ok (.invokespecial 11, 3) := by decide +kernel
theorem dX3_init_12 : decode cX3_init 12 = .ok (.putfield 12, 3) := by decide +kernel
theorem dX3_init_15 : decode cX3_init 15 = .ok (.aload_n 0, 1) := by decide +kernel
theorem dX3_init_16 : decode cX3_init 16 = .ok (.new 18, 3) := by decide +kernel
theorem dX3_init_19 : decode cX3_init 19 = .ok (.dup, 1) := by decide +kernel
theorem dX3_init_20 : decode cX3_init 20 = .ok (.invokespecial 20, 3) := by decide +kernel
theorem dX3_init_23 : decode cX3_init 23 = .ok (.putfield 21, 3) := by decide +kernel
theorem dX3_init_26 : decode cX3_init 26 = .ok (.aload_n 0, 1) := by decide +kernel
theorem dX3_init_27 : decode cX3_init 27 = .ok (.new 25, 3) := by decide +kernel
theorem dX3_init_30 : decode cX3_init 30 = .ok (.dup, 1) := by decide +kernel
theorem dX3_init_31 : decode cX3_init 31 = .ok (.invokespecial 27, 3) := by decide +kernel
theorem dX3_init_34 : decode cX3_init 34 = .ok (.putfield 28, 3) := by decide +kernel
theorem dX3_init_37 : decode cX3_init 37 = .ok (.aload_n 0, 1) := by decide +kernel
theorem dX3_init_38 : decode cX3_init 38 = .ok (.getfield 28, 3) := by decide +kernel
theorem dX3_init_41 : decode cX3_init 41 = .ok (.aload_n 0, 1) := by decide +kernel
theorem dX3_init_42 : decode cX3_init 42 = .ok (.getfield 32, 3) := by decide +kernel
theorem dX3_init_45 : decode cX3_init 45 = .ok (.invokevirtual 36, 3) := by decide +kernel
theorem dX3_init_48 : decode cX3_init 48 = .ok (.return_, 1) := by decide +kernel
theorem dX3_copyFrom_0 : decode cX3_copyFrom 0 = .ok (.aload_n 0, 1) := by decide +kernel
theorem dX3_copyFrom_1 : decode cX3_copyFrom 1 = .ok (.aload_n 1, 1) := by decide +kernel
theorem dX3_copyFrom_2 : decode cX3_copyFrom 2 = .ok (.getfield 32, 3) := by decide +kernel
theorem dX3_copyFrom_5 : decode cX3_copyFrom 5 = .ok (.putfield 32, 3) := by decide +kernel
theorem dX3_copyFrom_8 : decode cX3_copyFrom 8 = .ok (.aload_n 0, 1) := by decide +kernel
theorem dX3_copyFrom_9 : decode cX3_copyFrom 9 = .ok (.aload_n 1, 1) := by decide +kernel
theorem dX3_copyFrom_10 : decode cX3_copyFrom 10 = .ok (.getfield 40, 3) := by decide +kernel
theorem dX3_copyFrom_13 : decode cX3_copyFrom 13 = .ok (.putfield 40, 3) := by decide +kernel
theorem dX3_copyFrom_16 : decode cX3_copyFrom 16 = .ok (.aload_n 0, 1) := by decide +kernel
theorem dX3_copyFrom_17 : decode cX3_copyFrom 17 = .ok (.aload_n 1, 1) := by decide +kernel
theorem dX3_copyFrom_18 : decode cX3_copyFrom 18 = .ok (.getfield 43, 3) := by decide +kernel
theorem dX3_copyFrom_21 : decode cX3_copyFrom 21 = .ok (.putfield 43, 3) := by decide +kernel
theorem dX3_copyFrom_24 : decode cX3_copyFrom 24 = .ok (.aload_n 0, 1) := by decide +kernel
theorem dX3_copyFrom_25 : decode cX3_copyFrom 25 = .ok (.aload_n 1, 1) := by decide +kernel
theorem dX3_copyFrom_26 : decode cX3_copyFrom 26 = .ok (.getfield 46, 3) := by decide +kernel
theorem dX3_copyFrom_29 : decode cX3_copyFrom 29 = .ok (.putfield 46, 3) := by decide +kernel
theorem dX3_copyFrom_32 : decode cX3_copyFrom 32 = .ok (.aload_n 0, 1) := by decide +kernel
theorem dX3_copyFrom_33 : decode cX3_copyFrom 33 = .ok (.getfield 12, 3) := by decide +kernel
theorem dX3_copyFrom_36 : decode cX3_copyFrom 36 = .ok (.aload_n 1, 1) := by decide +kernel
theorem dX3_copyFrom_37 : decode cX3_copyFrom 37 = .ok (.getfield 12, 3) := by decide +kernel
theorem dX3_copyFrom_40 : decode cX3_copyFrom 40 = .ok (.invokevirtual 49, 3) := by decide +kernel
theorem dX3_copyFrom_43 : decode cX3_copyFrom 43 = .ok (.aload_n 0, 1) := by decide +kernel
theorem dX3_copyFrom_44 : decode cX3_copyFrom 44 = .ok (.getfield 21, 3) := by decide +kernel
theorem dX3_copyFrom_47 : decode cX3_copyFrom 47 = .ok (.aload_n 1, 1) := by decide +kernel
theorem dX3_copyFrom_48 : decode cX3_copyFrom 48 = .ok (.getfield 21, 3) := by decide +kernel
theorem dX3_copyFrom_51 : decode cX3_copyFrom 51 = .ok (.invokevirtual 53, 3) := by decide +kernel
theorem dX3_copyFrom_54 : decode cX3_copyFrom 54 = .ok (.aload_n 0, 1) := by decide +kernel
theorem dX3_copyFrom_55 : decode cX3_copyFrom 55 = .ok (.getfield 28, 3) := by decide +kernel
theorem dX3_copyFrom_58 : decode cX3_copyFrom 58 = .ok (.aload_n 1, 1) := by decide +kernel
theorem dX3_copyFrom_59 : decode cX3_copyFrom 59 = .ok (.getfield 28, 3) := by decide +kernel
theorem dX3_copyFrom_62 : decode cX3_copyFrom 62 = .ok (.invokevirtual 56, 3) := by decide +kernel
theorem dX3_copyFrom_65 : decode cX3_copyFrom 65 = .ok (.return_, 1) := by decide +kernel
theorem dX3_beginAnew_0 : decode cX3_beginAnew 0 = .ok (.aload_n 0, 1) := by decide +kernel
theorem dX3_beginAnew_1 : decode cX3_beginAnew 1 = .ok (.iconst 0, 1) := by decide +kernel
theorem dX3_beginAnew_2 : decode cX3_beginAnew 2 = .ok (.putfield 43, 3) := by decide +kernel
theorem dX3_beginAnew_5 : decode cX3_beginAnew 5 = .ok (.aload_n 0, 1) := by decide +kernel
theorem dX3_beginAnew_6 : decode cX3_beginAnew 6 = .ok (.iconst 0, 1) := by decide +kernel
theorem dX3_beginAnew_7 : decode cX3_beginAnew 7 = .ok (.putfield 46, 3) := by decide +kernel
theorem dX3_beginAnew_10 : decode cX3_beginAnew 10 = .ok (.aload_n 0, 1) := by decide +kernel
theorem dX3_beginAnew_11 : decode cX3_beginAnew 11 = .ok (.getfield 28, 3) := by decide +kernel
theorem dX3_beginAnew_14 : decode cX3_beginAnew 14 = .ok (.aload_n 0, 1) := by decide +kernel
theorem dX3_beginAnew_15 : decode cX3_beginAnew 15 = .ok (.getfield 32, 3) := by decide +kernel
theorem dX3_beginAnew_18 : decode cX3_beginAnew 18 = .ok (.invokevirtual 36, 3) := by decide +kernel
theorem dX3_beginAnew_21 : decode cX3_beginAnew 21 = .ok (.iconst 0, 1) := by decide +kernel
theorem dX3_beginAnew_22 : decode cX3_beginAnew 22 = .ok (.istore_n 1, 1) := by decide +kernel
theorem dX3_beginAnew_23 : decode cX3_beginAnew 23 = .ok (.iload_n 1, 1) := by decide +kernel
theorem dX3_beginAnew_24 : decode cX3_beginAnew 24 = .ok (.aload_n 0, 1) := by decide +kernel
theorem dX3_beginAnew_25 : decode cX3_beginAnew 25 = .ok (.getfield 21, 3) := by decide +kernel
theorem dX3_beginAnew_28 : decode cX3_beginAnew 28 = .ok (.getfield 59, 3) := by decide +kernel
theorem dX3_beginAnew_31 : decode cX3_beginAnew 31 = .ok (.if_icmp .ge 14, 3) := by decide +kernel
theorem dX3_beginAnew_34 : decode cX3_beginAnew 34 = .ok (.aload_n 0, 1) := by decide +kernel
theorem dX3_beginAnew_35 : decode cX3_beginAnew 35 = .ok (.iload_n 1, 1) := by decide +kernel
theorem dX3_beginAnew_36 : decode cX3_beginAnew 36 = .ok (.invokevirtual 62, 3) := by decide +kernel
theorem dX3_beginAnew_39 : decode cX3_beginAnew 39 = .ok (.iinc 1 1, 3) := by decide +kernel
theorem dX3_beginAnew_42 : decode cX3_beginAnew 42 = .ok (.goto (-19), 3) := by decide +kernel
theorem dX3_beginAnew_45 : decode cX3_beginAnew 45 = .ok (.return_, 1) := by decide +kernel
theorem dX3_judgeBySeen_0 : decode cX3_judgeBySeen 0 = .ok (.aload_n 0, 1) := by decide +kernel
theorem dX3_judgeBySeen_1 : decode cX3_judgeBySeen 1 = .ok (.getfield 28, 3) := by decide +kernel
theorem dX3_judgeBySeen_4 : decode cX3_judgeBySeen 4 = .ok (.aload_n 0, 1) := by decide +kernel
theorem dX3_judgeBySeen_5 : decode cX3_judgeBySeen 5 = .ok (.getfield 21, 3) := by decide +kernel
theorem dX3_judgeBySeen_8 : decode cX3_judgeBySeen 8 = .ok (.getfield 65, 3) := by decide +kernel
theorem dX3_judgeBySeen_11 : decode cX3_judgeBySeen 11 = .ok (.iload_n 1, 1) := by decide +kernel
theorem dX3_judgeBySeen_12 : decode cX3_judgeBySeen 12 = .ok (.iaload, 1) := by decide +kernel
theorem dX3_judgeBySeen_13 : decode cX3_judgeBySeen 13 = .ok (.invokevirtual 69, 3) := by decide +kernel
theorem dX3_judgeBySeen_16 : decode cX3_judgeBySeen 16 = .ok (.istore_n 2, 1) := by decide +kernel
theorem dX3_judgeBySeen_17 : decode cX3_judgeBySeen 17 = .ok (.iload_n 2, 1) := by decide +kernel
theorem dX3_judgeBySeen_18 : decode cX3_judgeBySeen 18 = .ok (.ifCond .ge 21, 3) := by decide +kernel
theorem dX3_judgeBySeen_21 : decode cX3_judgeBySeen 21 = .ok (.aload_n 0, 1) := by decide +kernel
theorem dX3_judgeBySeen_22 : decode cX3_judgeBySeen 22 = .ok (.getfield 21, 3) := by decide +kernel
theorem dX3_judgeBySeen_25 : decode cX3_judgeBySeen 25 = .ok (.iload_n 1, 1) := by decide +kernel
theorem dX3_judgeBySeen_26 : decode cX3_judgeBySeen 26 = .ok (.iconst 0, 1) := by decide +kernel
theorem dX3_judgeBySeen_27 : decode cX3_judgeBySeen 27 = .ok (.bipush (-6), 2) := by decide +kernel
theorem dX3_judgeBySeen_29 : decode cX3_judgeBySeen 29 = .ok (.bipush (-6), 2) := by decide +kernel
theorem dX3_judgeBySeen_31 : decode cX3_judgeBySeen 31 = .ok (.bipush (-6), 2) := by decide +kernel
theorem dX3_judgeBySeen_33 : decode cX3_judgeBySeen 33 = .ok (.invokevirtual 73, 3) := by decide +kernel
theorem dX3_judgeBySeen_36 : decode cX3_judgeBySeen 36 = .ok (.goto 54, 3) := by decide +kernel
theorem dX3_judgeBySeen_39 : decode cX3_judgeBySeen 39 = .ok (.iload_n 2, 1) := by decide +kernel
theorem dX3_judgeBySeen_40 : decode cX3_judgeBySeen 40 = .ok (.ifCond .ne 23, 3) := by decide +kernel
theorem dX3_judgeBySeen_43 : decode cX3_judgeBySeen 43 = .ok (.aload_n 0, 1) := by decide +kernel
theorem dX3_judgeBySeen_44 : decode cX3_judgeBySeen 44 = .ok (.getfield 21, 3) := by decide +kernel
theorem dX3_judgeBySeen_47 : decode cX3_judgeBySeen 47 = .ok (.iload_n 1, 1) := by decide +kernel
theorem dX3_judgeBySeen_48 : decode cX3_judgeBySeen 48 = .ok (.iconst 1, 1) := by decide +kernel
theorem dX3_judgeBySeen_49 : decode cX3_judgeBySeen 49 = .ok (.aload_n 0, 1) := by decide +kernel
theorem dX3_judgeBySeen_50 : decode cX3_judgeBySeen 50 = .ok (.getfield 32, 3) := by decide +kernel
theorem dX3_judgeBySeen_53 : decode cX3_judgeBySeen 53 = .ok (.bipush (-6), 2) := by decide +kernel
theorem dX3_judgeBySeen_55 : decode cX3_judgeBySeen 55 = .ok (.bipush (-6), 2) := by decide +kernel
theorem dX3_judgeBySeen_57 : decode cX3_judgeBySeen 57 = .ok (.invokevirtual 73, 3) := by decide +kernel
theorem dX3_judgeBySeen_60 : decode cX3_judgeBySeen 60 = .ok (.goto 30, 3) := by decide +kernel
theorem dX3_judgeBySeen_63 : decode cX3_judgeBySeen 63 = .ok (.aload_n 0, 1) := by decide +kernel
theorem dX3_judgeBySeen_64 : decode cX3_judgeBySeen 64 = .ok (.getfield 21, 3) := by decide +kernel
theorem dX3_judgeBySeen_67 : decode cX3_judgeBySeen 67 = .ok (.iload_n 1, 1) := by decide +kernel
theorem dX3_judgeBySeen_68 : decode cX3_judgeBySeen 68 = .ok (.iconst 2, 1) := by decide +kernel
theorem dX3_judgeBySeen_69 : decode cX3_judgeBySeen 69 = .ok (.aload_n 0, 1) := by decide +kernel
theorem dX3_judgeBySeen_70 : decode cX3_judgeBySeen 70 = .ok (.getfield 28, 3) := by decide +kernel
theorem dX3_judgeBySeen_73 : decode cX3_judgeBySeen 73 = .ok (.iload_n 2, 1) := by decide +kernel
theorem dX3_judgeBySeen_74 : decode cX3_judgeBySeen 74 = .ok (.invokevirtual 77, 3) := by decide +kernel
theorem dX3_judgeBySeen_77 : decode cX3_judgeBySeen 77 = .ok (.aload_n 0, 1) := by decide +kernel
theorem dX3_judgeBySeen_78 : decode cX3_judgeBySeen 78 = .ok (.getfield 28, 3) := by decide +kernel
theorem dX3_judgeBySeen_81 : decode cX3_judgeBySeen 81 = .ok (.iload_n 2, 1) := by decide +kernel
theorem dX3_judgeBySeen_82 : decode cX3_judgeBySeen 82 = .ok (.invokevirtual 80, 3) := by decide +kernel
theorem dX3_judgeBySeen_85 : decode cX3_judgeBySeen 85 = .ok (.bipush (-6), 2) := by decide +kernel
theorem dX3_judgeBySeen_87 : decode cX3_judgeBySeen 87 = .ok (.invokevirtual 73, 3) := by decide +kernel
theorem dX3_judgeBySeen_90 : decode cX3_judgeBySeen 90 = .ok (.return_, 1) := by decide +kernel
theorem dX3_setStart_0 : decode cX3_setStart 0 = .ok (.iload_n 1, 1) := by decide +kernel
theorem dX3_setStart_1 : decode cX3_setStart 1 = .ok (.invokestatic 83, 3) := by decide +kernel
theorem dX3_setStart_4 : decode cX3_setStart 4 = .ok (.ifCond .eq 17, 3) := by decide +kernel
theorem dX3_setStart_7 : decode cX3_setStart 7 = .ok (.iload_n 2, 1) := by decide +kernel
theorem dX3_setStart_8 : decode cX3_setStart 8 = .ok (.invokestatic 83, 3) := by decide +kernel
theorem dX3_setStart_11 : decode cX3_setStart 11 = .ok (.ifCond .eq 10, 3) := by decide +kernel
theorem dX3_setStart_14 : decode cX3_setStart 14 = .ok (.iload_n 3, 1) := by decide +kernel
theorem dX3_setStart_15 : decode cX3_setStart 15 = .ok (.invokestatic 83, 3) := by decide +kernel
theorem dX3_setStart_18 : decode cX3_setStart 18 = .ok (.ifCond .ne 6, 3) := by decide +kernel
theorem dX3_setStart_21 : decode cX3_setStart 21 = .ok (.bipush (-2), 2) := by decide +kernel
theorem dX3_setStart_23 : decode cX3_setStart 23 = .ok (.ireturn, 1) := by decide +kernel
theorem dX3_setStart_24 : decode cX3_setStart 24 = .ok (.aload_n 0, 1) := by decide +kernel
theorem dX3_setStart_25 : decode cX3_setStart 25 = .ok (.getfield 32, 3) := by decide +kernel
theorem dX3_setStart_28 : decode cX3_setStart 28 = .ok (.istore 4, 2) := by decide +kernel
theorem dX3_setStart_30 : decode cX3_setStart 30 = .ok (.aload_n 0, 1) := by decide +kernel
theorem dX3_setStart_31 : decode cX3_setStart 31 = .ok (.bipush 64, 2) := by decide +kernel
theorem dX3_setStart_33 : decode cX3_setStart 33 = .ok (.iload_n 1, 1) := by decide +kernel
theorem dX3_setStart_34 : decode cX3_setStart 34 = .ok (.imul, 1) := by decide +kernel
theorem dX3_setStart_35 : decode cX3_setStart 35 = .ok (.bipush 8, 2) := by decide +kernel
theorem dX3_setStart_37 : decode cX3_setStart 37 = .ok (.iload_n 2, 1) := by decide +kernel
theorem dX3_setStart_38 : decode cX3_setStart 38 = .ok (.imul, 1) := by decide +kernel
theorem dX3_setStart_39 : decode cX3_setStart 39 = .ok (.iadd, 1) := by decide +kernel
theorem dX3_setStart_40 : decode cX3_setStart 40 = .ok (.iload_n 3, 1) := by decide +kernel
theorem dX3_setStart_41 : decode cX3_setStart 41 = .ok (.iadd, 1) := by decide +kernel
theorem dX3_setStart_42 : decode cX3_setStart 42 = .ok (.putfield 32, 3) := by decide +kernel
theorem dX3_setStart_45 : decode cX3_setStart 45 = .ok (.aload_n 0, 1) := by decide +kernel
theorem dX3_setStart_46 : decode cX3_setStart 46 = .ok (.invokevirtual 89, 3) := by decide +kernel
theorem dX3_setStart_49 : decode cX3_setStart 49 = .ok (.iload 4, 2) := by decide +kernel
theorem dX3_setStart_51 : decode cX3_setStart 51 = .ok (.ireturn, 1) := by decide +kernel
theorem dX3_setWrap_0 : decode cX3_setWrap 0 = .ok (.iload_n 1, 1) := by decide +kernel
theorem dX3_setWrap_1 : decode cX3_setWrap 1 = .ok (.ifCond .eq 11, 3) := by decide +kernel
theorem dX3_setWrap_4 : decode cX3_setWrap 4 = .ok (.iload_n 1, 1) := by decide +kernel
theorem dX3_setWrap_5 : decode cX3_setWrap 5 = .ok (.iconst 1, 1) := by decide +kernel
theorem dX3_setWrap_6 : decode cX3_setWrap 6 = .ok (.if_icmp .eq 6, 3) := by decide +kernel
theorem dX3_setWrap_9 : decode cX3_setWrap 9 = .ok (.bipush (-2), 2) := by decide +kernel
theorem dX3_setWrap_11 : decode cX3_setWrap 11 = .ok (.ireturn, 1) := by decide +kernel
theorem dX3_setWrap_12 : decode cX3_setWrap 12 = .ok (.aload_n 0, 1) := by decide +kernel
theorem dX3_setWrap_13 : decode cX3_setWrap 13 = .ok (.getfield 40, 3) := by decide +kernel
theorem dX3_setWrap_16 : decode cX3_setWrap 16 = .ok (.istore_n 2, 1) := by decide +kernel
theorem dX3_setWrap_17 : decode cX3_setWrap 17 = .ok (.aload_n 0, 1) := by decide +kernel
theorem dX3_setWrap_18 : decode cX3_setWrap 18 = .ok (.iload_n 1, 1) := by decide +kernel
theorem dX3_setWrap_19 : decode cX3_setWrap 19 = .ok (.putfield 40, 3) := by decide +kernel
theorem dX3_setWrap_22 : decode cX3_setWrap 22 = .ok (.aload_n 0, 1) := by decide +kernel
theorem dX3_setWrap_23 : decode cX3_setWrap 23 = .ok (.invokevirtual 89, 3) := by decide +kernel
theorem dX3_setWrap_26 : decode cX3_setWrap 26 = .ok (.iload_n 2, 1) := by decide +kernel
theorem dX3_setWrap_27 : decode cX3_setWrap 27 = .ok (.ireturn, 1) := by decide +kernel
theorem dX3_addStep_0 : decode cX3_addStep 0 = .ok (.aload_n 0, 1) := by decide +kernel
theorem dX3_addStep_1 : decode cX3_addStep 1 = .ok (.getfield 12, 3) := by decide +kernel
theorem dX3_addStep_4 : decode cX3_addStep 4 = .ok (.iload_n 1, 1) := by decide +kernel
theorem dX3_addStep_5 : decode cX3_addStep 5 = .ok (.iload_n 2, 1) := by decide +kernel
theorem dX3_addStep_6 : decode cX3_addStep 6 = .ok (.iload_n 3, 1) := by decide +kernel
theorem dX3_addStep_7 : decode cX3_addStep 7 = .ok (.iload 4, 2) := by decide +kernel
theorem dX3_addStep_9 : decode cX3_addStep 9 = .ok (.iload 5, 2) := by decide +kernel
theorem dX3_addStep_11 : decode cX3_addStep 11 = .ok (.invokevirtual 92, 3) := by decide +kernel
theorem dX3_addStep_14 : decode cX3_addStep 14 = .ok (.istore 6, 2) := by decide +kernel
theorem dX3_addStep_16 : decode cX3_addStep 16 = .ok (.iload 6, 2) := by decide +kernel
theorem dX3_addStep_18 : decode cX3_addStep 18 = .ok (.ifCond .lt 7, 3) := by decide +kernel
theorem dX3_addStep_21 : decode cX3_addStep 21 = .ok (.aload_n 0, 1) := by decide +kernel
theorem dX3_addStep_22 : decode cX3_addStep 22 = .ok (.invokevirtual 89, 3) := by decide +kernel
theorem dX3_addStep_25 : decode cX3_addStep 25 = .ok (.iload 6, 2) := by decide +kernel
theorem dX3_addStep_27 : decode cX3_addStep 27 = .ok (.ireturn, 1) := by decide +kernel
theorem dX3_removeStep_0 : decode cX3_removeStep 0 = .ok (.aload_n 0, 1) := by decide +kernel
theorem dX3_removeStep_1 : decode cX3_removeStep 1 = .ok (.getfield 12, 3) := by decide +kernel
theorem dX3_removeStep_4 : decode cX3_removeStep 4 = .ok (.iload_n 1, 1) := by decide +kernel
theorem dX3_removeStep_5 : decode cX3_removeStep 5 = .ok (.invokevirtual 96, 3) := by decide +kernel
theorem dX3_removeStep_8 : decode cX3_removeStep 8 = .ok (.istore_n 2, 1) := by decide +kernel
theorem dX3_removeStep_9 : decode cX3_removeStep 9 = .ok (.iload_n 2, 1) := by decide +kernel
theorem dX3_removeStep_10 : decode cX3_removeStep 10 = .ok (.ifCond .lt 7, 3) := by decide +kernel
theorem dX3_removeStep_13 : decode cX3_removeStep 13 = .ok (.aload_n 0, 1) := by decide +kernel
theorem dX3_removeStep_14 : decode cX3_removeStep 14 = .ok (.invokevirtual 89, 3) := by decide +kernel
theorem dX3_removeStep_17 : decode cX3_removeStep 17 = .ok (.iload_n 2, 1) := by decide +kernel
theorem dX3_removeStep_18 : decode cX3_removeStep 18 = .ok (.ireturn, 1) := by decide +kernel
theorem dX3_addCandidate_0 : decode cX3_addCandidate 0 = .ok (.iload_n 1, 1) := by decide +kernel
theorem dX3_addCandidate_1 : decode cX3_addCandidate 1 = .ok (.invokestatic 99, 3) := by decide +kernel
theorem dX3_addCandidate_4 : decode cX3_addCandidate 4 = .ok (.ifCond .ne 6, 3) := by decide +kernel
theorem dX3_addCandidate_7 : decode cX3_addCandidate 7 = .ok (.bipush (-2), 2) := by decide +kernel
theorem dX3_addCandidate_9 : decode cX3_addCandidate 9 = .ok (.ireturn, 1) := by decide +kernel
theorem dX3_addCandidate_10 : decode cX3_addCandidate 10 = .ok (.aload_n 0, 1) := by decide +kernel
theorem dX3_addCandidate_11 : decode cX3_addCandidate 11 = .ok (.getfield 21, 3) := by decide +kernel
theorem dX3_addCandidate_14 : decode cX3_addCandidate 14 = .ok (.getfield 59, 3) := by decide +kernel
theorem dX3_addCandidate_17 : decode cX3_addCandidate 17 = .ok (.istore_n 2, 1) := by decide +kernel
theorem dX3_addCandidate_18 : decode cX3_addCandidate 18 = .ok (.iload_n 2, 1) := by decide +kernel
theorem dX3_addCandidate_19 : decode cX3_addCandidate 19 = .ok (.bipush 40, 2) := by decide +kernel
theorem dX3_addCandidate_21 : decode cX3_addCandidate 21 = .ok (.if_icmp .lt 6, 3) := by decide +kernel
theorem dX3_addCandidate_24 : decode cX3_addCandidate 24 = .ok (.bipush (-4), 2) := by decide +kernel
theorem dX3_addCandidate_26 : decode cX3_addCandidate 26 = .ok (.ireturn, 1) := by decide +kernel
theorem dX3_addCandidate_27 : decode cX3_addCandidate 27 = .ok (.aload_n 0, 1) := by decide +kernel
theorem dX3_addCandidate_28 : decode cX3_addCandidate 28 = .ok (.getfield 21, 3) := by decide +kernel
theorem dX3_addCandidate_31 : decode cX3_addCandidate 31 = .ok (.iload_n 1, 1) := by decide +kernel
theorem dX3_addCandidate_32 : decode cX3_addCandidate 32 = .ok (.invokevirtual 102, 3) := by decide +kernel
theorem dX3_addCandidate_35 : decode cX3_addCandidate 35 = .ok (.ifCond .eq 6, 3) := by decide +kernel
theorem dX3_addCandidate_38 : decode cX3_addCandidate 38 = .ok (.bipush (-5), 2) := by decide +kernel
theorem dX3_addCandidate_40 : decode cX3_addCandidate 40 = .ok (.ireturn, 1) := by decide +kernel
theorem dX3_addCandidate_41 : decode cX3_addCandidate 41 = .ok (.aload_n 0, 1) := by decide +kernel
theorem dX3_addCandidate_42 : decode cX3_addCandidate 42 = .ok (.getfield 21, 3) := by decide +kernel
theorem dX3_addCandidate_45 : decode cX3_addCandidate 45 = .ok (.getfield 65, 3) := by decide +kernel
theorem dX3_addCandidate_48 : decode cX3_addCandidate 48 = .ok (.iload_n 2, 1) := by decide +kernel
theorem dX3_addCandidate_49 : decode cX3_addCandidate 49 = .ok (.iload_n 1, 1) := by decide +kernel
theorem dX3_addCandidate_50 : decode cX3_addCandidate 50 = .ok (.iastore, 1) := by decide +kernel
theorem dX3_addCandidate_51 : decode cX3_addCandidate 51 = .ok (.aload_n 0, 1) := by decide +kernel
theorem dX3_addCandidate_52 : decode cX3_addCandidate 52 = .ok (.getfield 21, 3) := by decide +kernel
theorem dX3_addCandidate_55 : decode cX3_addCandidate 55 = .ok (.dup, 1) := by decide +kernel
theorem dX3_addCandidate_56 : decode cX3_addCandidate 56 = .ok (.getfield 59, 3) := by decide +kernel
theorem dX3_addCandidate_59 : decode cX3_addCandidate 59 = .ok (.iconst 1, 1) := by decide +kernel
theorem dX3_addCandidate_60 : decode cX3_addCandidate 60 = .ok (.iadd, 1) := by decide +kernel
theorem dX3_addCandidate_61 : decode cX3_addCandidate 61 = .ok (.putfield 59, 3) := by decide +kernel
theorem dX3_addCandidate_64 : decode cX3_addCandidate 64 = .ok (.aload_n 0, 1) := by decide +kernel
theorem dX3_addCandidate_65 : decode cX3_addCandidate 65 = .ok (.iload_n 2, 1) := by decide +kernel
theorem dX3_addCandidate_66 : decode cX3_addCandidate 66 = .ok (.invokevirtual 62, 3) := by decide +kernel
theorem dX3_addCandidate_69 : decode cX3_addCandidate 69 = .ok (.iload_n 2, 1) := by decide +kernel
theorem dX3_addCandidate_70 : decode cX3_addCandidate 70 = .ok (.ireturn, 1) := by decide +kernel
theorem dX3_addGuesses_0 : decode cX3_addGuesses 0 = .ok (.iload_n 1, 1) := by decide +kernel
theorem dX3_addGuesses_1 : decode cX3_addGuesses 1 = .ok (.iconst 1, 1) := by decide +kernel
theorem dX3_addGuesses_2 : decode cX3_addGuesses 2 = .ok (.if_icmp .lt 9, 3) := by decide +kernel
theorem dX3_addGuesses_5 : decode cX3_addGuesses 5 = .ok (.iload_n 1, 1) := by decide +kernel
theorem dX3_addGuesses_6 : decode cX3_addGuesses 6 = .ok (.bipush 9, 2) := by decide +kernel
theorem dX3_addGuesses_8 : decode cX3_addGuesses 8 = .ok (.if_icmp .le 6, 3) := by decide +kernel
theorem dX3_addGuesses_11 : decode cX3_addGuesses 11 = .ok (.bipush (-2), 2) := by decide +kernel
theorem dX3_addGuesses_13 : decode cX3_addGuesses 13 = .ok (.ireturn, 1) := by decide +kernel
theorem dX3_addGuesses_14 : decode cX3_addGuesses 14 = .ok (.iconst 0, 1) := by decide +kernel
theorem dX3_addGuesses_15 : decode cX3_addGuesses 15 = .ok (.istore_n 2, 1) := by decide +kernel
theorem dX3_addGuesses_16 : decode cX3_addGuesses 16 = .ok (.sipush 135, 3) := by decide +kernel
theorem dX3_addGuesses_19 : decode cX3_addGuesses 19 = .ok (.iload_n 1, 1) := by decide +kernel
theorem dX3_addGuesses_20 : decode cX3_addGuesses 20 = .ok (.imul, 1) := by decide +kernel
theorem dX3_addGuesses_21 : decode cX3_addGuesses 21 = .ok (.istore_n 3, 1) := by decide +kernel
theorem dX3_addGuesses_22 : decode cX3_addGuesses 22 = .ok (.iload_n 3, 1) := by decide +kernel
theorem dX3_addGuesses_23 : decode cX3_addGuesses 23 = .ok (.istore 4, 2) := by decide +kernel
theorem dX3_addGuesses_25 : decode cX3_addGuesses 25 = .ok (.iload 4, 2) := by decide +kernel
theorem dX3_addGuesses_27 : decode cX3_addGuesses 27 = .ok (.iload_n 3, 1) := by decide +kernel
theorem dX3_addGuesses_28 : decode cX3_addGuesses 28 = .ok (.sipush 135, 3) := by decide +kernel
theorem dX3_addGuesses_31 : decode cX3_addGuesses 31 = .ok (.iadd, 1) := by decide +kernel
theorem dX3_addGuesses_32 : decode cX3_addGuesses 32 = .ok (.if_icmp .ge 43, 3) := by decide +kernel
theorem dX3_addGuesses_35 : decode cX3_addGuesses 35 = .ok (.iload 4, 2) := by decide +kernel
theorem dX3_addGuesses_37 : decode cX3_addGuesses 37 = .ok (.invokestatic 99, 3) := by decide +kernel
theorem dX3_addGuesses_40 : decode cX3_addGuesses 40 = .ok (.ifCond .eq 29, 3) := by decide +kernel
theorem dX3_addGuesses_43 : decode cX3_addGuesses 43 = .ok (.aload_n 0, 1) := by decide +kernel
theorem dX3_addGuesses_44 : decode cX3_addGuesses 44 = .ok (.getfield 28, 3) := by decide +kernel
theorem dX3_addGuesses_47 : decode cX3_addGuesses 47 = .ok (.iload 4, 2) := by decide +kernel
theorem dX3_addGuesses_49 : decode cX3_addGuesses 49 = .ok (.invokevirtual 69, 3) := by decide +kernel
theorem dX3_addGuesses_52 : decode cX3_addGuesses 52 = .ok (.bipush (-6), 2) := by decide +kernel
theorem dX3_addGuesses_54 : decode cX3_addGuesses 54 = .ok (.if_icmp .ne 15, 3) := by decide +kernel
theorem dX3_addGuesses_57 : decode cX3_addGuesses 57 = .ok (.aload_n 0, 1) := by decide +kernel
theorem dX3_addGuesses_58 : decode cX3_addGuesses 58 = .ok (.iload 4, 2) := by decide +kernel
theorem dX3_addGuesses_60 : decode cX3_addGuesses 60 = .ok (.invokevirtual 105, 3) := by decide +kernel
theorem dX3_addGuesses_63 : decode cX3_addGuesses 63 = .ok (.ifCond .lt 6, 3) := by decide +kernel
theorem dX3_addGuesses_66 : decode cX3_addGuesses 66 = .ok (.iinc 2 1, 3) := by decide +kernel
theorem dX3_addGuesses_69 : decode cX3_addGuesses 69 = .ok (.iinc 4 1, 3) := by decide +kernel
theorem dX3_addGuesses_72 : decode cX3_addGuesses 72 = .ok (.goto (-47), 3) := by decide +kernel
theorem dX3_addGuesses_75 : decode cX3_addGuesses 75 = .ok (.iload_n 2, 1) := by decide +kernel
theorem dX3_addGuesses_76 : decode cX3_addGuesses 76 = .ok (.ireturn, 1) := by decide +kernel
theorem dX3_target_0 : decode cX3_target 0 = .ok (.aload_n 0, 1) := by decide +kernel
theorem dX3_target_1 : decode cX3_target 1 = .ok (.getfield 12, 3) := by decide +kernel
theorem dX3_target_4 : decode cX3_target 4 = .ok (.iload_n 1, 1) := by decide +kernel
theorem dX3_target_5 : decode cX3_target 5 = .ok (.invokevirtual 108, 3) := by decide +kernel
theorem dX3_target_8 : decode cX3_target 8 = .ok (.ifCond .eq 28, 3) := by decide +kernel
theorem dX3_target_11 : decode cX3_target 11 = .ok (.aload_n 0, 1) := by decide +kernel
theorem dX3_target_12 : decode cX3_target 12 = .ok (.getfield 12, 3) := by decide +kernel
theorem dX3_target_15 : decode cX3_target 15 = .ok (.iload_n 1, 1) := by decide +kernel
theorem dX3_target_16 : decode cX3_target 16 = .ok (.iload_n 2, 1) := by decide +kernel
theorem dX3_target_17 : decode cX3_target 17 = .ok (.aload_n 0, 1) := by decide +kernel
theorem dX3_target_18 : decode cX3_target 18 = .ok (.getfield 40, 3) := by decide +kernel
theorem dX3_target_21 : decode cX3_target 21 = .ok (.iconst 1, 1) := by decide +kernel
theorem dX3_target_22 : decode cX3_target 22 = .ok (.if_icmp .ne 7, 3) := by decide +kernel
theorem dX3_target_25 : decode cX3_target 25 = .ok (.iconst 1, 1) := by decide +kernel
theorem dX3_target_26 : decode cX3_target 26 = .ok (.goto 4, 3) := by decide +kernel
theorem dX3_target_29 : decode cX3_target 29 = .ok (.iconst 0, 1) := by decide +kernel
theorem dX3_target_30 : decode cX3_target 30 = .ok (.invokevirtual 111, 3) := by decide +kernel
theorem dX3_target_33 : decode cX3_target 33 = .ok (.goto 5, 3) := by decide +kernel
theorem dX3_target_36 : decode cX3_target 36 = .ok (.bipush (-6), 2) := by decide +kernel
theorem dX3_target_38 : decode cX3_target 38 = .ok (.ireturn, 1) := by decide +kernel
theorem dX3_makeRun_0 : decode cX3_makeRun 0 = .ok (.iload_n 1, 1) := by decide +kernel
theorem dX3_makeRun_1 : decode cX3_makeRun 1 = .ok (.ifCond .lt 14, 3) := by decide +kernel
theorem dX3_makeRun_4 : decode cX3_makeRun 4 = .ok (.iload_n 2, 1) := by decide +kernel
theorem dX3_makeRun_5 : decode cX3_makeRun 5 = .ok (.iconst 1, 1) := by decide +kernel
theorem dX3_makeRun_6 : decode cX3_makeRun 6 = .ok (.if_icmp .lt 9, 3) := by decide +kernel
theorem dX3_makeRun_9 : decode cX3_makeRun 9 = .ok (.iload_n 2, 1) := by decide +kernel
theorem dX3_makeRun_10 : decode cX3_makeRun 10 = .ok (.bipush 99, 2) := by decide +kernel
theorem dX3_makeRun_12 : decode cX3_makeRun 12 = .ok (.if_icmp .le 6, 3) := by decide +kernel
theorem dX3_makeRun_15 : decode cX3_makeRun 15 = .ok (.bipush (-2), 2) := by decide +kernel
theorem dX3_makeRun_17 : decode cX3_makeRun 17 = .ok (.ireturn, 1) := by decide +kernel
theorem dX3_makeRun_18 : decode cX3_makeRun 18 = .ok (.aload_n 0, 1) := by decide +kernel
theorem dX3_makeRun_19 : decode cX3_makeRun 19 = .ok (.getfield 28, 3) := by decide +kernel
theorem dX3_makeRun_22 : decode cX3_makeRun 22 = .ok (.getfield 115, 3) := by decide +kernel
theorem dX3_makeRun_25 : decode cX3_makeRun 25 = .ok (.istore_n 3, 1) := by decide +kernel
theorem dX3_makeRun_26 : decode cX3_makeRun 26 = .ok (.iload_n 1, 1) := by decide +kernel
theorem dX3_makeRun_27 : decode cX3_makeRun 27 = .ok (.i2l, 1) := by decide +kernel
theorem dX3_makeRun_28 : decode cX3_makeRun 28 = .ok (.lstore 4, 2) := by decide +kernel
theorem dX3_makeRun_30 : decode cX3_makeRun 30 = .ok (.aload_n 0, 1) := by decide +kernel
theorem dX3_makeRun_31 : decode cX3_makeRun 31 = .ok (.getfield 32, 3) := by decide +kernel
theorem dX3_makeRun_34 : decode cX3_makeRun 34 = .ok (.istore 6, 2) := by decide +kernel
theorem dX3_makeRun_36 : decode cX3_makeRun 36 = .ok (.iconst 0, 1) := by decide +kernel
theorem dX3_makeRun_37 : decode cX3_makeRun 37 = .ok (.istore 7, 2) := by decide +kernel
theorem dX3_makeRun_39 : decode cX3_makeRun 39 = .ok (.iload 7, 2) := by decide +kernel
theorem dX3_makeRun_41 : decode cX3_makeRun 41 = .ok (.iload_n 2, 1) := by decide +kernel
theorem dX3_makeRun_42 : decode cX3_makeRun 42 = .ok (.if_icmp .ge 71, 3) := by decide +kernel
theorem dX3_makeRun_45 : decode cX3_makeRun 45 = .ok (.lload 4, 2) := by decide +kernel
theorem dX3_makeRun_47 : decode cX3_makeRun 47 = .ok (.ldc2_w 116, 3) := by decide +kernel
theorem dX3_makeRun_50 : decode cX3_makeRun 50 = .ok (.lmul, 1) := by decide +kernel
theorem dX3_makeRun_51 : decode cX3_makeRun 51 = .ok (.ldc2_w 118, 3) := by decide +kernel
theorem dX3_makeRun_54 : decode cX3_makeRun 54 = .ok (.ladd, 1) := by decide +kernel
theorem dX3_makeRun_55 : decode cX3_makeRun 55 = .ok (.ldc2_w 120, 3) := by decide +kernel
theorem dX3_makeRun_58 : decode cX3_makeRun 58 = .ok (.lrem, 1) := by decide +kernel
theorem dX3_makeRun_59 : decode cX3_makeRun 59 = .ok (.lstore 4, 2) := by decide +kernel
theorem dX3_makeRun_61 : decode cX3_makeRun 61 = .ok (.aload_n 0, 1) := by decide +kernel
theorem dX3_makeRun_62 : decode cX3_makeRun 62 = .ok (.iload 6, 2) := by decide +kernel
theorem dX3_makeRun_64 : decode cX3_makeRun 64 = .ok (.lload 4, 2) := by decide +kernel
theorem dX3_makeRun_66 : decode cX3_makeRun 66 = .ok (.ldc2_w 122, 3) := by decide +kernel
theorem dX3_makeRun_69 : decode cX3_makeRun 69 = .ok (.ldiv, 1) := by decide +kernel
theorem dX3_makeRun_70 : decode cX3_makeRun 70 = .ok (.invokevirtual 124, 3) := by decide +kernel
theorem dX3_makeRun_73 : decode cX3_makeRun 73 = .ok (.istore 6, 2) := by decide +kernel
theorem dX3_makeRun_75 : decode cX3_makeRun 75 = .ok (.iload 6, 2) := by decide +kernel
theorem dX3_makeRun_77 : decode cX3_makeRun 77 = .ok (.bipush (-6), 2) := by decide +kernel
theorem dX3_makeRun_79 : decode cX3_makeRun 79 = .ok (.if_icmp .ne 6, 3) := by decide +kernel
theorem dX3_makeRun_82 : decode cX3_makeRun 82 = .ok (.goto 31, 3) := by decide +kernel
theorem dX3_makeRun_85 : decode cX3_makeRun 85 = .ok (.aload_n 0, 1) := by decide +kernel
theorem dX3_makeRun_86 : decode cX3_makeRun 86 = .ok (.getfield 28, 3) := by decide +kernel
theorem dX3_makeRun_89 : decode cX3_makeRun 89 = .ok (.iload 6, 2) := by decide +kernel
theorem dX3_makeRun_91 : decode cX3_makeRun 91 = .ok (.aload_n 0, 1) := by decide +kernel
theorem dX3_makeRun_92 : decode cX3_makeRun 92 = .ok (.getfield 43, 3) := by decide +kernel
theorem dX3_makeRun_95 : decode cX3_makeRun 95 = .ok (.invokevirtual 128, 3) := by decide +kernel
theorem dX3_makeRun_98 : decode cX3_makeRun 98 = .ok (.ifCond .eq 9, 3) := by decide +kernel
theorem dX3_makeRun_101 : decode cX3_makeRun 101 = .ok (.aload_n 0, 1) := by decide +kernel
theorem dX3_makeRun_102 : decode cX3_makeRun 102 = .ok (.iload 6, 2) := by decide +kernel
theorem dX3_makeRun_104 : decode cX3_makeRun 104 = .ok (.invokevirtual 131, 3) := by decide +kernel
theorem dX3_makeRun_107 : decode cX3_makeRun 107 = .ok (.iinc 7 1, 3) := by decide +kernel
theorem dX3_makeRun_110 : decode cX3_makeRun 110 = .ok (.goto (-71), 3) := by decide +kernel
theorem dX3_makeRun_113 : decode cX3_makeRun 113 = .ok (.aload_n 0, 1) := by decide +kernel
theorem dX3_makeRun_114 : decode cX3_makeRun 114 = .ok (.dup, 1) := by decide +kernel
theorem dX3_makeRun_115 : decode cX3_makeRun 115 = .ok (.getfield 43, 3) := by decide +kernel
theorem dX3_makeRun_118 : decode cX3_makeRun 118 = .ok (.iconst 1, 1) := by decide +kernel
theorem dX3_makeRun_119 : decode cX3_makeRun 119 = .ok (.iadd, 1) := by decide +kernel
theorem dX3_makeRun_120 : decode cX3_makeRun 120 = .ok (.putfield 43, 3) := by decide +kernel
theorem dX3_makeRun_123 : decode cX3_makeRun 123 = .ok (.aload_n 0, 1) := by decide +kernel
theorem dX3_makeRun_124 : decode cX3_makeRun 124 = .ok (.getfield 28, 3) := by decide +kernel
theorem dX3_makeRun_127 : decode cX3_makeRun 127 = .ok (.getfield 115, 3) := by decide +kernel
theorem dX3_makeRun_130 : decode cX3_makeRun 130 = .ok (.iload_n 3, 1) := by decide +kernel
theorem dX3_makeRun_131 : decode cX3_makeRun 131 = .ok (.isub, 1) := by decide +kernel
theorem dX3_makeRun_132 : decode cX3_makeRun 132 = .ok (.ireturn, 1) := by decide +kernel
theorem dX3_pickTarget_0 : decode cX3_pickTarget 0 = .ok (.iconst 0, 1) := by decide +kernel
theorem dX3_pickTarget_1 : decode cX3_pickTarget 1 = .ok (.istore 4, 2) := by decide +kernel
theorem dX3_pickTarget_3 : decode cX3_pickTarget 3 = .ok (.iconst 0, 1) := by decide +kernel
theorem dX3_pickTarget_4 : decode cX3_pickTarget 4 = .ok (.istore 5, 2) := by decide +kernel
theorem dX3_pickTarget_6 : decode cX3_pickTarget 6 = .ok (.iload 5, 2) := by decide +kernel
theorem dX3_pickTarget_8 : decode cX3_pickTarget 8 = .ok (.aload_n 0, 1) := by decide +kernel
theorem dX3_pickTarget_9 : decode cX3_pickTarget 9 = .ok (.getfield 12, 3) := by decide +kernel
theorem dX3_pickTarget_12 : decode cX3_pickTarget 12 = .ok (.getfield 134, 3) := by decide +kernel
theorem dX3_pickTarget_15 : decode cX3_pickTarget 15 = .ok (.if_icmp .ge 24, 3) := by decide +kernel
theorem dX3_pickTarget_18 : decode cX3_pickTarget 18 = .ok (.aload_n 0, 1) := by decide +kernel
theorem dX3_pickTarget_19 : decode cX3_pickTarget 19 = .ok (.iload 5, 2) := by decide +kernel
theorem dX3_pickTarget_21 : decode cX3_pickTarget 21 = .ok (.iload_n 1, 1) := by decide +kernel
theorem dX3_pickTarget_22 : decode cX3_pickTarget 22 = .ok (.invokevirtual 135, 3) := by decide +kernel
theorem dX3_pickTarget_25 : decode cX3_pickTarget 25 = .ok (.bipush (-6), 2) := by decide +kernel
theorem dX3_pickTarget_27 : decode cX3_pickTarget 27 = .ok (.if_icmp .eq 6, 3) := by decide +kernel
theorem dX3_pickTarget_30 : decode cX3_pickTarget 30 = .ok (.iinc 4 1, 3) := by decide +kernel
theorem dX3_pickTarget_33 : decode cX3_pickTarget 33 = .ok (.iinc 5 1, 3) := by decide +kernel
theorem dX3_pickTarget_36 : decode cX3_pickTarget 36 = .ok (.goto (-30), 3) := by decide +kernel
theorem dX3_pickTarget_39 : decode cX3_pickTarget 39 = .ok (.iload 4, 2) := by decide +kernel
theorem dX3_pickTarget_41 : decode cX3_pickTarget 41 = .ok (.ifCond .ne 7, 3) := by decide +kernel
theorem dX3_pickTarget_44 : decode cX3_pickTarget 44 = .ok (.lconst 0, 1) := by decide +kernel
theorem dX3_pickTarget_45 : decode cX3_pickTarget 45 = .ok (.goto 8, 3) := by decide +kernel
theorem dX3_pickTarget_48 : decode cX3_pickTarget 48 = .ok (.lload_n 2, 1) := by decide +kernel
theorem dX3_pickTarget_49 : decode cX3_pickTarget 49 = .ok (.iload 4, 2) := by decide +kernel
theorem dX3_pickTarget_51 : decode cX3_pickTarget 51 = .ok (.i2l, 1) := by decide +kernel
theorem dX3_pickTarget_52 : decode cX3_pickTarget 52 = .ok (.lrem, 1) := by decide +kernel
theorem dX3_pickTarget_53 : decode cX3_pickTarget 53 = .ok (.lstore 5, 2) := by decide +kernel
theorem dX3_pickTarget_55 : decode cX3_pickTarget 55 = .ok (.iconst 0, 1) := by decide +kernel
theorem dX3_pickTarget_56 : decode cX3_pickTarget 56 = .ok (.istore 7, 2) := by decide +kernel
theorem dX3_pickTarget_58 : decode cX3_pickTarget 58 = .ok (.iload 7, 2) := by decide +kernel
theorem dX3_pickTarget_60 : decode cX3_pickTarget 60 = .ok (.aload_n 0, 1) := by decide +kernel
theorem dX3_pickTarget_61 : decode cX3_pickTarget 61 = .ok (.getfield 12, 3) := by decide +kernel
theorem dX3_pickTarget_64 : decode cX3_pickTarget 64 = .ok (.getfield 134, 3) := by decide +kernel
theorem dX3_pickTarget_67 : decode cX3_pickTarget 67 = .ok (.if_icmp .ge 56, 3) := by decide +kernel
theorem dX3_pickTarget_70 : decode cX3_pickTarget 70 = .ok (.aload_n 0, 1) := by decide +kernel
theorem dX3_pickTarget_71 : decode cX3_pickTarget 71 = .ok (.iload 7, 2) := by decide +kernel
theorem dX3_pickTarget_73 : decode cX3_pickTarget 73 = .ok (.iload_n 1, 1) := by decide +kernel
theorem dX3_pickTarget_74 : decode cX3_pickTarget 74 = .ok (.invokevirtual 135, 3) := by decide +kernel
theorem dX3_pickTarget_77 : decode cX3_pickTarget 77 = .ok (.istore 8, 2) := by decide +kernel
theorem dX3_pickTarget_79 : decode cX3_pickTarget 79 = .ok (.iload 8, 2) := by decide +kernel
theorem dX3_pickTarget_81 : decode cX3_pickTarget 81 = .ok (.bipush (-6), 2) := by decide +kernel
theorem dX3_pickTarget_83 : decode cX3_pickTarget 83 = .ok (.if_icmp .eq 13, 3) := by decide +kernel
theorem dX3_pickTarget_86 : decode cX3_pickTarget 86 = .ok (.lload 5, 2) := by decide +kernel
theorem dX3_pickTarget_88 : decode cX3_pickTarget 88 = .ok (.lconst 0, 1) := by decide +kernel
theorem dX3_pickTarget_89 : decode cX3_pickTarget 89 = .ok (.lcmp, 1) := by decide +kernel
theorem dX3_pickTarget_90 : decode cX3_pickTarget 90 = .ok (.ifCond .ne 6, 3) := by decide +kernel
theorem dX3_pickTarget_93 : decode cX3_pickTarget 93 = .ok (.iload 8, 2) := by decide +kernel
theorem dX3_pickTarget_95 : decode cX3_pickTarget 95 = .ok (.ireturn, 1) := by decide +kernel
theorem dX3_pickTarget_96 : decode cX3_pickTarget 96 = .ok (.lload 5, 2) := by decide +kernel
theorem dX3_pickTarget_98 : decode cX3_pickTarget 98 = .ok (.iload 8, 2) := by decide +kernel
theorem dX3_pickTarget_100 : decode cX3_pickTarget 100 = .ok (.bipush (-6), 2) := by decide +kernel
theorem dX3_pickTarget_102 : decode cX3_pickTarget 102 = .ok (.if_icmp .eq 7, 3) := by decide +kernel
theorem dX3_pickTarget_105 : decode cX3_pickTarget 105 = .ok (.iconst 1, 1) := by decide +kernel
theorem dX3_pickTarget_106 : decode cX3_pickTarget 106 = .ok (.goto 4, 3) := by decide +kernel
theorem dX3_pickTarget_109 : decode cX3_pickTarget 109 = .ok (.iconst 0, 1) := by decide +kernel
theorem dX3_pickTarget_110 : decode cX3_pickTarget 110 = .ok (.invokestatic 138, 3) := by decide +kernel
theorem dX3_pickTarget_113 : decode cX3_pickTarget 113 = .ok (.i2l, 1) := by decide +kernel
theorem dX3_pickTarget_114 : decode cX3_pickTarget 114 = .ok (.lsub, 1) := by decide +kernel
theorem dX3_pickTarget_115 : decode cX3_pickTarget 115 = .ok (.lstore 5, 2) := by decide +kernel
theorem dX3_pickTarget_117 : decode cX3_pickTarget 117 = .ok (.iinc 7 1, 3) := by decide +kernel
theorem dX3_pickTarget_120 : decode cX3_pickTarget 120 = .ok (.goto (-62), 3) := by decide +kernel
theorem dX3_pickTarget_123 : decode cX3_pickTarget 123 = .ok (.bipush (-6), 2) := by decide +kernel
theorem dX3_pickTarget_125 : decode cX3_pickTarget 125 = .ok (.ireturn, 1) := by decide +kernel
theorem dX3_strikeByRun_0 : decode cX3_strikeByRun 0 = .ok (.iconst 0, 1) := by decide +kernel
theorem dX3_strikeByRun_1 : decode cX3_strikeByRun 1 = .ok (.istore_n 2, 1) := by decide +kernel
theorem dX3_strikeByRun_2 : decode cX3_strikeByRun 2 = .ok (.iload_n 2, 1) := by decide +kernel
theorem dX3_strikeByRun_3 : decode cX3_strikeByRun 3 = .ok (.aload_n 0, 1) := by decide +kernel
theorem dX3_strikeByRun_4 : decode cX3_strikeByRun 4 = .ok (.getfield 21, 3) := by decide +kernel
theorem dX3_strikeByRun_7 : decode cX3_strikeByRun 7 = .ok (.getfield 59, 3) := by decide +kernel
theorem dX3_strikeByRun_10 : decode cX3_strikeByRun 10 = .ok (.if_icmp .ge 37, 3) := by decide +kernel
theorem dX3_strikeByRun_13 : decode cX3_strikeByRun 13 = .ok (.aload_n 0, 1) := by decide +kernel
theorem dX3_strikeByRun_14 : decode cX3_strikeByRun 14 = .ok (.getfield 21, 3) := by decide +kernel
theorem dX3_strikeByRun_17 : decode cX3_strikeByRun 17 = .ok (.iload_n 2, 1) := by decide +kernel
theorem dX3_strikeByRun_18 : decode cX3_strikeByRun 18 = .ok (.iload_n 1, 1) := by decide +kernel
theorem dX3_strikeByRun_19 : decode cX3_strikeByRun 19 = .ok (.invokevirtual 142, 3) := by decide +kernel
theorem dX3_strikeByRun_22 : decode cX3_strikeByRun 22 = .ok (.ifCond .eq 19, 3) := by decide +kernel
theorem dX3_strikeByRun_25 : decode cX3_strikeByRun 25 = .ok (.aload_n 0, 1) := by decide +kernel
theorem dX3_strikeByRun_26 : decode cX3_strikeByRun 26 = .ok (.getfield 21, 3) := by decide +kernel
theorem dX3_strikeByRun_29 : decode cX3_strikeByRun 29 = .ok (.iload_n 2, 1) := by decide +kernel
theorem dX3_strikeByRun_30 : decode cX3_strikeByRun 30 = .ok (.iconst 2, 1) := by decide +kernel
theorem dX3_strikeByRun_31 : decode cX3_strikeByRun 31 = .ok (.iload_n 1, 1) := by decide +kernel
theorem dX3_strikeByRun_32 : decode cX3_strikeByRun 32 = .ok (.aload_n 0, 1) := by decide +kernel
theorem dX3_strikeByRun_33 : decode cX3_strikeByRun 33 = .ok (.getfield 43, 3) := by decide +kernel
theorem dX3_strikeByRun_36 : decode cX3_strikeByRun 36 = .ok (.bipush (-6), 2) := by decide +kernel
theorem dX3_strikeByRun_38 : decode cX3_strikeByRun 38 = .ok (.invokevirtual 73, 3) := by decide +kernel
theorem dX3_strikeByRun_41 : decode cX3_strikeByRun 41 = .ok (.iinc 2 1, 3) := by decide +kernel
theorem dX3_strikeByRun_44 : decode cX3_strikeByRun 44 = .ok (.goto (-42), 3) := by decide +kernel
theorem dX3_strikeByRun_47 : decode cX3_strikeByRun 47 = .ok (.return_, 1) := by decide +kernel
theorem dX3_findAllowed_0 : decode cX3_findAllowed 0 = .ok (.aload_n 1, 1) := by decide +kernel
theorem dX3_findAllowed_1 : decode cX3_findAllowed 1 = .ok (.invokevirtual 145, 3) := by decide +kernel
theorem dX3_findAllowed_4 : decode cX3_findAllowed 4 = .ok (.iconst 0, 1) := by decide +kernel
theorem dX3_findAllowed_5 : decode cX3_findAllowed 5 = .ok (.istore_n 2, 1) := by decide +kernel
theorem dX3_findAllowed_6 : decode cX3_findAllowed 6 = .ok (.iload_n 2, 1) := by decide +kernel
theorem dX3_findAllowed_7 : decode cX3_findAllowed 7 = .ok (.sipush 512, 3) := by decide +kernel
theorem dX3_findAllowed_10 : decode cX3_findAllowed 10 = .ok (.if_icmp .ge 25, 3) := by decide +kernel
theorem dX3_findAllowed_13 : decode cX3_findAllowed 13 = .ok (.aload_n 0, 1) := by decide +kernel
theorem dX3_findAllowed_14 : decode cX3_findAllowed 14 = .ok (.getfield 21, 3) := by decide +kernel
theorem dX3_findAllowed_17 : decode cX3_findAllowed 17 = .ok (.iload_n 2, 1) := by decide +kernel
theorem dX3_findAllowed_18 : decode cX3_findAllowed 18 = .ok (.invokevirtual 150, 3) := by decide +kernel
theorem dX3_findAllowed_21 : decode cX3_findAllowed 21 = .ok (.ifCond .eq 8, 3) := by decide +kernel
theorem dX3_findAllowed_24 : decode cX3_findAllowed 24 = .ok (.aload_n 1, 1) := by decide +kernel
theorem dX3_findAllowed_25 : decode cX3_findAllowed 25 = .ok (.iload_n 2, 1) := by decide +kernel
theorem dX3_findAllowed_26 : decode cX3_findAllowed 26 = .ok (.invokevirtual 153, 3) := by decide +kernel
theorem dX3_findAllowed_29 : decode cX3_findAllowed 29 = .ok (.iinc 2 1, 3) := by decide +kernel
theorem dX3_findAllowed_32 : decode cX3_findAllowed 32 = .ok (.goto (-26), 3) := by decide +kernel
theorem dX3_findAllowed_35 : decode cX3_findAllowed 35 = .ok (.return_, 1) := by decide +kernel
theorem dX3_countAble_0 : decode cX3_countAble 0 = .ok (.iconst 0, 1) := by decide +kernel
theorem dX3_countAble_1 : decode cX3_countAble 1 = .ok (.istore_n 3, 1) := by decide +kernel
theorem dX3_countAble_2 : decode cX3_countAble 2 = .ok (.iconst 0, 1) := by decide +kernel
theorem dX3_countAble_3 : decode cX3_countAble 3 = .ok (.istore 4, 2) := by decide +kernel
theorem dX3_countAble_5 : decode cX3_countAble 5 = .ok (.iload 4, 2) := by decide +kernel
theorem dX3_countAble_7 : decode cX3_countAble 7 = .ok (.sipush 512, 3) := by decide +kernel
theorem dX3_countAble_10 : decode cX3_countAble 10 = .ok (.if_icmp .ge 33, 3) := by decide +kernel
theorem dX3_countAble_13 : decode cX3_countAble 13 = .ok (.aload_n 2, 1) := by decide +kernel
theorem dX3_countAble_14 : decode cX3_countAble 14 = .ok (.iload 4, 2) := by decide +kernel
theorem dX3_countAble_16 : decode cX3_countAble 16 = .ok (.invokevirtual 155, 3) := by decide +kernel
theorem dX3_countAble_19 : decode cX3_countAble 19 = .ok (.ifCond .eq 18, 3) := by decide +kernel
theorem dX3_countAble_22 : decode cX3_countAble 22 = .ok (.aload_n 0, 1) := by decide +kernel
theorem dX3_countAble_23 : decode cX3_countAble 23 = .ok (.iload_n 1, 1) := by decide +kernel
theorem dX3_countAble_24 : decode cX3_countAble 24 = .ok (.iload 4, 2) := by decide +kernel
theorem dX3_countAble_26 : decode cX3_countAble 26 = .ok (.invokevirtual 135, 3) := by decide +kernel
theorem dX3_countAble_29 : decode cX3_countAble 29 = .ok (.bipush (-6), 2) := by decide +kernel
theorem dX3_countAble_31 : decode cX3_countAble 31 = .ok (.if_icmp .eq 6, 3) := by decide +kernel
theorem dX3_countAble_34 : decode cX3_countAble 34 = .ok (.iinc 3 1, 3) := by decide +kernel
theorem dX3_countAble_37 : decode cX3_countAble 37 = .ok (.iinc 4 1, 3) := by decide +kernel
theorem dX3_countAble_40 : decode cX3_countAble 40 = .ok (.goto (-35), 3) := by decide +kernel
theorem dX3_countAble_43 : decode cX3_countAble 43 = .ok (.iload_n 3, 1) := by decide +kernel
theorem dX3_countAble_44 : decode cX3_countAble 44 = .ok (.ireturn, 1) := by decide +kernel
theorem dX3_keeps_0 : decode cX3_keeps 0 = .ok (.iconst 0, 1) := by decide +kernel
theorem dX3_keeps_1 : decode cX3_keeps 1 = .ok (.istore_n 2, 1) := by decide +kernel
theorem dX3_keeps_2 : decode cX3_keeps 2 = .ok (.iload_n 2, 1) := by decide +kernel
theorem dX3_keeps_3 : decode cX3_keeps 3 = .ok (.sipush 512, 3) := by decide +kernel
theorem dX3_keeps_6 : decode cX3_keeps 6 = .ok (.if_icmp .ge 62, 3) := by decide +kernel
theorem dX3_keeps_9 : decode cX3_keeps 9 = .ok (.iconst 0, 1) := by decide +kernel
theorem dX3_keeps_10 : decode cX3_keeps 10 = .ok (.istore_n 3, 1) := by decide +kernel
theorem dX3_keeps_11 : decode cX3_keeps 11 = .ok (.iload_n 3, 1) := by decide +kernel
theorem dX3_keeps_12 : decode cX3_keeps 12 = .ok (.aload_n 0, 1) := by decide +kernel
theorem dX3_keeps_13 : decode cX3_keeps 13 = .ok (.getfield 12, 3) := by decide +kernel
theorem dX3_keeps_16 : decode cX3_keeps 16 = .ok (.getfield 134, 3) := by decide +kernel
theorem dX3_keeps_19 : decode cX3_keeps 19 = .ok (.if_icmp .ge 43, 3) := by decide +kernel
theorem dX3_keeps_22 : decode cX3_keeps 22 = .ok (.aload_n 1, 1) := by decide +kernel
theorem dX3_keeps_23 : decode cX3_keeps 23 = .ok (.iload_n 2, 1) := by decide +kernel
theorem dX3_keeps_24 : decode cX3_keeps 24 = .ok (.invokevirtual 155, 3) := by decide +kernel
theorem dX3_keeps_27 : decode cX3_keeps 27 = .ok (.ifCond .eq 35, 3) := by decide +kernel
theorem dX3_keeps_30 : decode cX3_keeps 30 = .ok (.aload_n 0, 1) := by decide +kernel
theorem dX3_keeps_31 : decode cX3_keeps 31 = .ok (.iload_n 3, 1) := by decide +kernel
theorem dX3_keeps_32 : decode cX3_keeps 32 = .ok (.iload_n 2, 1) := by decide +kernel
theorem dX3_keeps_33 : decode cX3_keeps 33 = .ok (.invokevirtual 135, 3) := by decide +kernel
theorem dX3_keeps_36 : decode cX3_keeps 36 = .ok (.istore 4, 2) := by decide +kernel
theorem dX3_keeps_38 : decode cX3_keeps 38 = .ok (.iload 4, 2) := by decide +kernel
theorem dX3_keeps_40 : decode cX3_keeps 40 = .ok (.bipush (-6), 2) := by decide +kernel
theorem dX3_keeps_42 : decode cX3_keeps 42 = .ok (.if_icmp .eq 14, 3) := by decide +kernel
theorem dX3_keeps_45 : decode cX3_keeps 45 = .ok (.aload_n 1, 1) := by decide +kernel
theorem dX3_keeps_46 : decode cX3_keeps 46 = .ok (.iload 4, 2) := by decide +kernel
theorem dX3_keeps_48 : decode cX3_keeps 48 = .ok (.invokevirtual 155, 3) := by decide +kernel
theorem dX3_keeps_51 : decode cX3_keeps 51 = .ok (.ifCond .ne 5, 3) := by decide +kernel
theorem dX3_keeps_54 : decode cX3_keeps 54 = .ok (.iconst 0, 1) := by decide +kernel
theorem dX3_keeps_55 : decode cX3_keeps 55 = .ok (.ireturn, 1) := by decide +kernel
theorem dX3_keeps_56 : decode cX3_keeps 56 = .ok (.iinc 3 1, 3) := by decide +kernel
theorem dX3_keeps_59 : decode cX3_keeps 59 = .ok (.goto (-48), 3) := by decide +kernel
theorem dX3_keeps_62 : decode cX3_keeps 62 = .ok (.iinc 2 1, 3) := by decide +kernel
theorem dX3_keeps_65 : decode cX3_keeps 65 = .ok (.goto (-63), 3) := by decide +kernel
theorem dX3_keeps_68 : decode cX3_keeps 68 = .ok (.iconst 1, 1) := by decide +kernel
theorem dX3_keeps_69 : decode cX3_keeps 69 = .ok (.ireturn, 1) := by decide +kernel
theorem dX3_makeRound_0 : decode cX3_makeRound 0 = .ok (.aload_n 0, 1) := by decide +kernel
theorem dX3_makeRound_1 : decode cX3_makeRound 1 = .ok (.aload_n 1, 1) := by decide +kernel
theorem dX3_makeRound_2 : decode cX3_makeRound 2 = .ok (.invokevirtual 156, 3) := by decide +kernel
theorem dX3_makeRound_5 : decode cX3_makeRound 5 = .ok (.iconst 0, 1) := by decide +kernel
theorem dX3_makeRound_6 : decode cX3_makeRound 6 = .ok (.istore_n 2, 1) := by decide +kernel
theorem dX3_makeRound_7 : decode cX3_makeRound 7 = .ok (.iconst 0, 1) := by decide +kernel
theorem dX3_makeRound_8 : decode cX3_makeRound 8 = .ok (.istore_n 3, 1) := by decide +kernel
theorem dX3_makeRound_9 : decode cX3_makeRound 9 = .ok (.iload_n 3, 1) := by decide +kernel
theorem dX3_makeRound_10 : decode cX3_makeRound 10 = .ok (.sipush 512, 3) := by decide +kernel
theorem dX3_makeRound_13 : decode cX3_makeRound 13 = .ok (.if_icmp .ge 75, 3) := by decide +kernel
theorem dX3_makeRound_16 : decode cX3_makeRound 16 = .ok (.iconst 0, 1) := by decide +kernel
theorem dX3_makeRound_17 : decode cX3_makeRound 17 = .ok (.istore 4, 2) := by decide +kernel
theorem dX3_makeRound_19 : decode cX3_makeRound 19 = .ok (.iload 4, 2) := by decide +kernel
theorem dX3_makeRound_21 : decode cX3_makeRound 21 = .ok (.aload_n 0, 1) := by decide +kernel
theorem dX3_makeRound_22 : decode cX3_makeRound 22 = .ok (.getfield 12, 3) := by decide +kernel
theorem dX3_makeRound_25 : decode cX3_makeRound 25 = .ok (.getfield 134, 3) := by decide +kernel
theorem dX3_makeRound_28 : decode cX3_makeRound 28 = .ok (.if_icmp .ge 54, 3) := by decide +kernel
theorem dX3_makeRound_31 : decode cX3_makeRound 31 = .ok (.aload_n 1, 1) := by decide +kernel
theorem dX3_makeRound_32 : decode cX3_makeRound 32 = .ok (.iload_n 3, 1) := by decide +kernel
theorem dX3_makeRound_33 : decode cX3_makeRound 33 = .ok (.invokevirtual 155, 3) := by decide +kernel
theorem dX3_makeRound_36 : decode cX3_makeRound 36 = .ok (.ifCond .eq 46, 3) := by decide +kernel
theorem dX3_makeRound_39 : decode cX3_makeRound 39 = .ok (.aload_n 0, 1) := by decide +kernel
theorem dX3_makeRound_40 : decode cX3_makeRound 40 = .ok (.iload 4, 2) := by decide +kernel
theorem dX3_makeRound_42 : decode cX3_makeRound 42 = .ok (.iload_n 3, 1) := by decide +kernel
theorem dX3_makeRound_43 : decode cX3_makeRound 43 = .ok (.invokevirtual 135, 3) := by decide +kernel
theorem dX3_makeRound_46 : decode cX3_makeRound 46 = .ok (.istore 5, 2) := by decide +kernel
theorem dX3_makeRound_48 : decode cX3_makeRound 48 = .ok (.iload 5, 2) := by decide +kernel
theorem dX3_makeRound_50 : decode cX3_makeRound 50 = .ok (.bipush (-6), 2) := by decide +kernel
theorem dX3_makeRound_52 : decode cX3_makeRound 52 = .ok (.if_icmp .eq 24, 3) := by decide +kernel
theorem dX3_makeRound_55 : decode cX3_makeRound 55 = .ok (.aload_n 1, 1) := by decide +kernel
theorem dX3_makeRound_56 : decode cX3_makeRound 56 = .ok (.iload 5, 2) := by decide +kernel
theorem dX3_makeRound_58 : decode cX3_makeRound 58 = .ok (.invokevirtual 155, 3) := by decide +kernel
theorem dX3_makeRound_61 : decode cX3_makeRound 61 = .ok (.ifCond .ne 15, 3) := by decide +kernel
theorem dX3_makeRound_64 : decode cX3_makeRound 64 = .ok (.iload_n 2, 1) := by decide +kernel
theorem dX3_makeRound_65 : decode cX3_makeRound 65 = .ok (.aload_n 0, 1) := by decide +kernel
theorem dX3_makeRound_66 : decode cX3_makeRound 66 = .ok (.iload 4, 2) := by decide +kernel
theorem dX3_makeRound_68 : decode cX3_makeRound 68 = .ok (.iload_n 3, 1) := by decide +kernel
theorem dX3_makeRound_69 : decode cX3_makeRound 69 = .ok (.iload 5, 2) := by decide +kernel
theorem dX3_makeRound_71 : decode cX3_makeRound 71 = .ok (.invokevirtual 160, 3) := by decide +kernel
theorem dX3_makeRound_74 : decode cX3_makeRound 74 = .ok (.iadd, 1) := by decide +kernel
theorem dX3_makeRound_75 : decode cX3_makeRound 75 = .ok (.istore_n 2, 1) := by decide +kernel
theorem dX3_makeRound_76 : decode cX3_makeRound 76 = .ok (.iinc 4 1, 3) := by decide +kernel
theorem dX3_makeRound_79 : decode cX3_makeRound 79 = .ok (.goto (-60), 3) := by decide +kernel
theorem dX3_makeRound_82 : decode cX3_makeRound 82 = .ok (.iinc 3 1, 3) := by decide +kernel
theorem dX3_makeRound_85 : decode cX3_makeRound 85 = .ok (.goto (-76), 3) := by decide +kernel
theorem dX3_makeRound_88 : decode cX3_makeRound 88 = .ok (.iload_n 2, 1) := by decide +kernel
theorem dX3_makeRound_89 : decode cX3_makeRound 89 = .ok (.ifCond .le 13, 3) := by decide +kernel
theorem dX3_makeRound_92 : decode cX3_makeRound 92 = .ok (.aload_n 0, 1) := by decide +kernel
theorem dX3_makeRound_93 : decode cX3_makeRound 93 = .ok (.dup, 1) := by decide +kernel
theorem dX3_makeRound_94 : decode cX3_makeRound 94 = .ok (.getfield 46, 3) := by decide +kernel
theorem dX3_makeRound_97 : decode cX3_makeRound 97 = .ok (.iconst 1, 1) := by decide +kernel
theorem dX3_makeRound_98 : decode cX3_makeRound 98 = .ok (.iadd, 1) := by decide +kernel
theorem dX3_makeRound_99 : decode cX3_makeRound 99 = .ok (.putfield 46, 3) := by decide +kernel
theorem dX3_makeRound_102 : decode cX3_makeRound 102 = .ok (.iload_n 2, 1) := by decide +kernel
theorem dX3_makeRound_103 : decode cX3_makeRound 103 = .ok (.ireturn, 1) := by decide +kernel
theorem dX3_strikeByStep_0 : decode cX3_strikeByStep 0 = .ok (.iconst 0, 1) := by decide +kernel
theorem dX3_strikeByStep_1 : decode cX3_strikeByStep 1 = .ok (.istore 4, 2) := by decide +kernel
theorem dX3_strikeByStep_3 : decode cX3_strikeByStep 3 = .ok (.iconst 0, 1) := by decide +kernel
theorem dX3_strikeByStep_4 : decode cX3_strikeByStep 4 = .ok (.istore 5, 2) := by decide +kernel
theorem dX3_strikeByStep_6 : decode cX3_strikeByStep 6 = .ok (.iload 5, 2) := by decide +kernel
theorem dX3_strikeByStep_8 : decode cX3_strikeByStep 8 = .ok (.aload_n 0, 1) := by decide +kernel
theorem dX3_strikeByStep_9 : decode cX3_strikeByStep 9 = .ok (.getfield 21, 3) := by decide +kernel
theorem dX3_strikeByStep_12 : decode cX3_strikeByStep 12 = .ok (.getfield 59, 3) := by decide +kernel
theorem dX3_strikeByStep_15 : decode cX3_strikeByStep 15 = .ok (.if_icmp .ge 43, 3) := by decide +kernel
theorem dX3_strikeByStep_18 : decode cX3_strikeByStep 18 = .ok (.aload_n 0, 1) := by decide +kernel
theorem dX3_strikeByStep_19 : decode cX3_strikeByStep 19 = .ok (.getfield 21, 3) := by decide +kernel
theorem dX3_strikeByStep_22 : decode cX3_strikeByStep 22 = .ok (.iload 5, 2) := by decide +kernel
theorem dX3_strikeByStep_24 : decode cX3_strikeByStep 24 = .ok (.iload_n 3, 1) := by decide +kernel
theorem dX3_strikeByStep_25 : decode cX3_strikeByStep 25 = .ok (.invokevirtual 142, 3) := by decide +kernel
theorem dX3_strikeByStep_28 : decode cX3_strikeByStep 28 = .ok (.ifCond .eq 24, 3) := by decide +kernel
theorem dX3_strikeByStep_31 : decode cX3_strikeByStep 31 = .ok (.aload_n 0, 1) := by decide +kernel
theorem dX3_strikeByStep_32 : decode cX3_strikeByStep 32 = .ok (.getfield 21, 3) := by decide +kernel
theorem dX3_strikeByStep_35 : decode cX3_strikeByStep 35 = .ok (.iload 5, 2) := by decide +kernel
theorem dX3_strikeByStep_37 : decode cX3_strikeByStep 37 = .ok (.iconst 3, 1) := by decide +kernel
theorem dX3_strikeByStep_38 : decode cX3_strikeByStep 38 = .ok (.iload_n 2, 1) := by decide +kernel
theorem dX3_strikeByStep_39 : decode cX3_strikeByStep 39 = .ok (.iload_n 1, 1) := by decide +kernel
theorem dX3_strikeByStep_40 : decode cX3_strikeByStep 40 = .ok (.aload_n 0, 1) := by decide +kernel
theorem dX3_strikeByStep_41 : decode cX3_strikeByStep 41 = .ok (.getfield 46, 3) := by decide +kernel
theorem dX3_strikeByStep_44 : decode cX3_strikeByStep 44 = .ok (.iconst 1, 1) := by decide +kernel
theorem dX3_strikeByStep_45 : decode cX3_strikeByStep 45 = .ok (.iadd, 1) := by decide +kernel
theorem dX3_strikeByStep_46 : decode cX3_strikeByStep 46 = .ok (.invokevirtual 73, 3) := by decide +kernel
theorem dX3_strikeByStep_49 : decode cX3_strikeByStep 49 = .ok (.iinc 4 1, 3) := by decide +kernel
theorem dX3_strikeByStep_52 : decode cX3_strikeByStep 52 = .ok (.iinc 5 1, 3) := by decide +kernel
theorem dX3_strikeByStep_55 : decode cX3_strikeByStep 55 = .ok (.goto (-49), 3) := by decide +kernel
theorem dX3_strikeByStep_58 : decode cX3_strikeByStep 58 = .ok (.iload 4, 2) := by decide +kernel
theorem dX3_strikeByStep_60 : decode cX3_strikeByStep 60 = .ok (.ireturn, 1) := by decide +kernel
theorem dX3_makeRounds_0 : decode cX3_makeRounds 0 = .ok (.iconst 0, 1) := by decide +kernel
theorem dX3_makeRounds_1 : decode cX3_makeRounds 1 = .ok (.istore_n 2, 1) := by decide +kernel
theorem dX3_makeRounds_2 : decode cX3_makeRounds 2 = .ok (.iload_n 2, 1) := by decide +kernel
theorem dX3_makeRounds_3 : decode cX3_makeRounds 3 = .ok (.bipush 40, 2) := by decide +kernel
theorem dX3_makeRounds_5 : decode cX3_makeRounds 5 = .ok (.if_icmp .ge 17, 3) := by decide +kernel
theorem dX3_makeRounds_8 : decode cX3_makeRounds 8 = .ok (.aload_n 0, 1) := by decide +kernel
theorem dX3_makeRounds_9 : decode cX3_makeRounds 9 = .ok (.aload_n 1, 1) := by decide +kernel
theorem dX3_makeRounds_10 : decode cX3_makeRounds 10 = .ok (.invokevirtual 164, 3) := by decide +kernel
theorem dX3_makeRounds_13 : decode cX3_makeRounds 13 = .ok (.ifCond .le 9, 3) := by decide +kernel
theorem dX3_makeRounds_16 : decode cX3_makeRounds 16 = .ok (.iinc 2 1, 3) := by decide +kernel
theorem dX3_makeRounds_19 : decode cX3_makeRounds 19 = .ok (.goto (-17), 3) := by decide +kernel
theorem dX3_makeRounds_22 : decode cX3_makeRounds 22 = .ok (.iload_n 2, 1) := by decide +kernel
theorem dX3_makeRounds_23 : decode cX3_makeRounds 23 = .ok (.ireturn, 1) := by decide +kernel
theorem dX4_init_0 : decode cX4_init 0 = .ok (.aload_n 0, 1) := by decide +kernel
theorem dX4_init_1 : decode cX4_init 1 = .ok (.invokespecial 3, 3) := by decide +kernel
theorem dX4_init_4 : decode cX4_init 4 = .ok (.aload_n 0, 1) := by decide +kernel
theorem dX4_init_5 : decode cX4_init 5 = .ok (.bipush 80, 2) := by decide +kernel
theorem dX4_init_7 : decode cX4_init 7 = .ok (.newarray .char, 2) := by decide +kernel
theorem dX4_init_9 : decode cX4_init 9 = .ok (.putfield 9, 3) := by decide +kernel
theorem dX4_init_12 : decode cX4_init 12 = .ok (.return_, 1) := by decide +kernel
theorem dX4_signAt_0 : decode cX4_signAt 0 = .ok (.iload_n 1, 1) := by decide +kernel
theorem dX4_signAt_1 : decode cX4_signAt 1 = .ok (.ifCond .lt 20, 3) := by decide +kernel
theorem dX4_signAt_4 : decode cX4_signAt 4 = .ok (.iload_n 1, 1) := by decide +kernel
theorem dX4_signAt_5 : decode cX4_signAt 5 = .ok (.aload_n 0, 1) := by decide +kernel
theorem dX4_signAt_6 : decode cX4_signAt 6 = .ok (.getfield 15, 3) := by decide +kernel
theorem dX4_signAt_9 : decode cX4_signAt 9 = .ok (.if_icmp .ge 12, 3) := by decide +kernel
theorem dX4_signAt_12 : decode cX4_signAt 12 = .ok (.aload_n 0, 1) := by decide +kernel
theorem dX4_signAt_13 : decode cX4_signAt 13 = .ok (.getfield 9, 3) := by decide +kernel
theorem dX4_signAt_16 : decode cX4_signAt 16 = .ok (.iload_n 1, 1) := by decide +kernel
theorem dX4_signAt_17 : decode cX4_signAt 17 = .ok (.caload, 1) := by decide +kernel
theorem dX4_signAt_18 : decode cX4_signAt 18 = .ok (.goto 4, 3) := by decide +kernel
theorem dX4_signAt_21 : decode cX4_signAt 21 = .ok (.iconst 0, 1) := by decide +kernel
theorem dX4_signAt_22 : decode cX4_signAt 22 = .ok (.ireturn, 1) := by decide +kernel
theorem dX4_countSigns_0 : decode cX4_countSigns 0 = .ok (.iconst 0, 1) := by decide +kernel
theorem dX4_countSigns_1 : decode cX4_countSigns 1 = .ok (.istore_n 2, 1) := by decide +kernel
theorem dX4_countSigns_2 : decode cX4_countSigns 2 = .ok (.lload_n 0, 1) := by decide +kernel
theorem dX4_countSigns_3 : decode cX4_countSigns 3 = .ok (.lstore_n 3, 1) := by decide +kernel
theorem dX4_countSigns_4 : decode cX4_countSigns 4 = .ok (.iload_n 2, 1) := by decide +kernel
theorem dX4_countSigns_5 : decode cX4_countSigns 5 = .ok (.bipush 8, 2) := by decide +kernel
theorem dX4_countSigns_7 : decode cX4_countSigns 7 = .ok (.if_icmp .ge 47, 3) := by decide +kernel
theorem dX4_countSigns_10 : decode cX4_countSigns 10 = .ok (.lload_n 3, 1) := by decide +kernel
theorem dX4_countSigns_11 : decode cX4_countSigns 11 = .ok (.lconst 0, 1) := by decide +kernel
theorem dX4_countSigns_12 : decode cX4_countSigns 12 = .ok (.lcmp, 1) := by decide +kernel
theorem dX4_countSigns_13 : decode cX4_countSigns 13 = .ok (.ifCond .eq 41, 3) := by decide +kernel
theorem dX4_countSigns_16 : decode cX4_countSigns 16 = .ok (.lload_n 3, 1) := by decide +kernel
theorem dX4_countSigns_17 : decode cX4_countSigns 17 = .ok (.ldc2_w 19, 3) := by decide +kernel
theorem dX4_countSigns_20 : decode cX4_countSigns 20 = .ok (.land, 1) := by decide +kernel
theorem dX4_countSigns_21 : decode cX4_countSigns 21 = .ok (.lstore 5, 2) := by decide +kernel
theorem dX4_countSigns_23 : decode cX4_countSigns 23 = .ok (.lload 5, 2) := by decide +kernel
theorem dX4_countSigns_25 : decode cX4_countSigns 25 = .ok (.ldc2_w 21, 3) := by decide +kernel
theorem dX4_countSigns_28 : decode cX4_countSigns 28 = .ok (.lcmp, 1) := by decide +kernel
theorem dX4_countSigns_29 : decode cX4_countSigns 29 = .ok (.ifCond .lt 12, 3) := by decide +kernel
theorem dX4_countSigns_32 : decode cX4_countSigns 32 = .ok (.lload 5, 2) := by decide +kernel
theorem dX4_countSigns_34 : decode cX4_countSigns 34 = .ok (.ldc2_w 23, 3) := by decide +kernel
theorem dX4_countSigns_37 : decode cX4_countSigns 37 = .ok (.lcmp, 1) := by decide +kernel
theorem dX4_countSigns_38 : decode cX4_countSigns 38 = .ok (.ifCond .le 5, 3) := by decide +kernel
theorem dX4_countSigns_41 : decode cX4_countSigns 41 = .ok (.iconst 0, 1) := by decide +kernel
theorem dX4_countSigns_42 : decode cX4_countSigns 42 = .ok (.ireturn, 1) := by decide +kernel
theorem dX4_countSigns_43 : decode cX4_countSigns 43 = .ok (.lload_n 3, 1) := by decide +kernel
theorem dX4_countSigns_44 : decode cX4_countSigns 44 = .ok (.bipush 8, 2) := by decide +kernel
theorem dX4_countSigns_46 : decode cX4_countSigns 46 = .ok (.lushr, 1) := by decide +kernel
theorem dX4_countSigns_47 : decode cX4_countSigns 47 = .ok (.lstore_n 3, 1) := by decide +kernel
theorem dX4_countSigns_48 : decode cX4_countSigns 48 = .ok (.iinc 2 1, 3) := by decide +kernel
theorem dX4_countSigns_51 : decode cX4_countSigns 51 = .ok (.goto (-47), 3) := by decide +kernel
theorem dX4_countSigns_54 : decode cX4_countSigns 54 = .ok (.iload_n 2, 1) := by decide +kernel
theorem dX4_countSigns_55 : decode cX4_countSigns 55 = .ok (.ireturn, 1) := by decide +kernel
theorem dX4_append_0 : decode cX4_append 0 = .ok (.iload_n 3, 1) := by decide +kernel
theorem dX4_append_1 : decode cX4_append 1 = .ok (.iconst 1, 1) := by decide +kernel
theorem dX4_append_2 : decode cX4_append 2 = .ok (.isub, 1) := by decide +kernel
theorem dX4_append_3 : decode cX4_append 3 = .ok (.istore 4, 2) := by decide +kernel
theorem dX4_append_5 : decode cX4_append 5 = .ok (.iload 4, 2) := by decide +kernel
theorem dX4_append_7 : decode cX4_append 7 = .ok (.ifCond .lt 50, 3) := by decide +kernel
theorem dX4_append_10 : decode cX4_append 10 = .ok (.aload_n 0, 1) := by decide +kernel
theorem dX4_append_11 : decode cX4_append 11 = .ok (.getfield 15, 3) := by decide +kernel
theorem dX4_append_14 : decode cX4_append 14 = .ok (.bipush 80, 2) := by decide +kernel
theorem dX4_append_16 : decode cX4_append 16 = .ok (.if_icmp .ge 41, 3) := by decide +kernel
theorem dX4_append_19 : decode cX4_append 19 = .ok (.aload_n 0, 1) := by decide +kernel
theorem dX4_append_20 : decode cX4_append 20 = .ok (.getfield 9, 3) := by decide +kernel
theorem dX4_append_23 : decode cX4_append 23 = .ok (.aload_n 0, 1) := by decide +kernel
theorem dX4_append_24 : decode cX4_append 24 = .ok (.getfield 15, 3) := by decide +kernel
theorem dX4_append_27 : decode cX4_append 27 = .ok (.lload_n 1, 1) := by decide +kernel
theorem dX4_append_28 : decode cX4_append 28 = .ok (.bipush 8, 2) := by decide +kernel
theorem dX4_append_30 : decode cX4_append 30 = .ok (.iload 4, 2) := by decide +kernel
theorem dX4_append_32 : decode cX4_append 32 = .ok (.imul, 1) := by decide +kernel
theorem dX4_append_33 : decode cX4_append 33 = .ok (.lushr, 1) := by decide +kernel
theorem dX4_append_34 : decode cX4_append 34 = .ok (.ldc2_w 19, 3) := by decide +kernel
theorem dX4_append_37 : decode cX4_append 37 = .ok (.land, 1) := by decide +kernel
theorem dX4_append_38 : decode cX4_append 38 = .ok (.l2i, 1) := by decide +kernel
theorem dX4_append_39 : decode cX4_append 39 = .ok (.i2c, 1) := by decide +kernel
theorem dX4_append_40 : decode cX4_append 40 = .ok (.castore, 1) := by decide +kernel
theorem dX4_append_41 : decode cX4_append 41 = .ok (.aload_n 0, 1) := by decide +kernel
theorem dX4_append_42 : decode cX4_append 42 = .ok (.dup, 1) := by decide +kernel
theorem dX4_append_43 : decode cX4_append 43 = .ok (.getfield 15, 3) := by decide +kernel
theorem dX4_append_46 : decode cX4_append 46 = .ok (.iconst 1, 1) := by decide +kernel
theorem dX4_append_47 : decode cX4_append 47 = .ok (.iadd, 1) := by decide +kernel
theorem dX4_append_48 : decode cX4_append 48 = .ok (.putfield 15, 3) := by decide +kernel
theorem dX4_append_51 : decode cX4_append 51 = .ok (.iinc 4 (-1), 3) := by decide +kernel
theorem dX4_append_54 : decode cX4_append 54 = .ok (.goto (-49), 3) := by decide +kernel
theorem dX4_append_57 : decode cX4_append 57 = .ok (.return_, 1) := by decide +kernel
theorem dX5_init_0 : decode cX5_init 0 = .ok (.aload_n 0, 1) := by decide +kernel
theorem dX5_init_1 : decode cX5_init 1 = .ok (.invokespecial 3, 3) := by decide +kernel
theorem dX5_init_4 : decode cX5_init 4 = .ok (.aload_n 0, 1) := by decide +kernel
theorem dX5_init_5 : decode cX5_init 5 = .ok (.new 9, 3) := by decide +kernel
theorem dX5_init_8 : decode cX5_init 8 = .ok (.dup, 1) := by decide +kernel
theorem dX5_init_9 : decode cX5_init 9 = .ok (.invokespecial 11, 3) := by decide +kernel
theorem dX5_init_12 : decode cX5_init 12 = .ok (.putfield 12, 3) := by decide +kernel
theorem dX5_init_15 : decode cX5_init 15 = .ok (.return_, 1) := by decide +kernel
theorem dX5_begin_0 : decode cX5_begin 0 = .ok (.aload_n 0, 1) := by decide +kernel
theorem dX5_begin_1 : decode cX5_begin 1 = .ok (.iconst 0, 1) := by decide +kernel
theorem dX5_begin_2 : decode cX5_begin 2 = .ok (.putfield 18, 3) := by decide +kernel
theorem dX5_begin_5 : decode cX5_begin 5 = .ok (.return_, 1) := by decide +kernel
theorem dX5_findFault_0 : decode cX5_findFault 0 = .ok (.aload_n 0, 1) := by decide +kernel
theorem dX5_findFault_1 : decode cX5_findFault 1 = .ok (.invokevirtual 22, 3) := by decide +kernel
theorem dX5_findFault_4 : decode cX5_findFault 4 = .ok (.iconst 0, 1) := by decide +kernel
theorem dX5_findFault_5 : decode cX5_findFault 5 = .ok (.istore_n 1, 1) := by decide +kernel
theorem dX5_findFault_6 : decode cX5_findFault 6 = .ok (.iload_n 1, 1) := by decide +kernel
theorem dX5_findFault_7 : decode cX5_findFault 7 = .ok (.bipush 80, 2) := by decide +kernel
theorem dX5_findFault_9 : decode cX5_findFault 9 = .ok (.if_icmp .ge 38, 3) := by decide +kernel
theorem dX5_findFault_12 : decode cX5_findFault 12 = .ok (.aload_n 0, 1) := by decide +kernel
theorem dX5_findFault_13 : decode cX5_findFault 13 = .ok (.invokevirtual 25, 3) := by decide +kernel
theorem dX5_findFault_16 : decode cX5_findFault 16 = .ok (.ifCond .ne 8, 3) := by decide +kernel
theorem dX5_findFault_19 : decode cX5_findFault 19 = .ok (.aload_n 0, 1) := by decide +kernel
theorem dX5_findFault_20 : decode cX5_findFault 20 = .ok (.getfield 18, 3) := by decide +kernel
theorem dX5_findFault_23 : decode cX5_findFault 23 = .ok (.ireturn, 1) := by decide +kernel
theorem dX5_findFault_24 : decode cX5_findFault 24 = .ok (.aload_n 0, 1) := by decide +kernel
theorem dX5_findFault_25 : decode cX5_findFault 25 = .ok (.getfield 18, 3) := by decide +kernel
theorem dX5_findFault_28 : decode cX5_findFault 28 = .ok (.aload_n 0, 1) := by decide +kernel
theorem dX5_findFault_29 : decode cX5_findFault 29 = .ok (.getfield 12, 3) := by decide +kernel
theorem dX5_findFault_32 : decode cX5_findFault 32 = .ok (.getfield 29, 3) := by decide +kernel
theorem dX5_findFault_35 : decode cX5_findFault 35 = .ok (.if_icmp .lt 6, 3) := by decide +kernel
theorem dX5_findFault_38 : decode cX5_findFault 38 = .ok (.bipush (-6), 2) := by decide +kernel
theorem dX5_findFault_40 : decode cX5_findFault 40 = .ok (.ireturn, 1) := by decide +kernel
theorem dX5_findFault_41 : decode cX5_findFault 41 = .ok (.iinc 1 1, 3) := by decide +kernel
theorem dX5_findFault_44 : decode cX5_findFault 44 = .ok (.goto (-38), 3) := by decide +kernel
theorem dX5_findFault_47 : decode cX5_findFault 47 = .ok (.aload_n 0, 1) := by decide +kernel
theorem dX5_findFault_48 : decode cX5_findFault 48 = .ok (.getfield 18, 3) := by decide +kernel
theorem dX5_findFault_51 : decode cX5_findFault 51 = .ok (.ireturn, 1) := by decide +kernel
theorem dX5_readNextOrder_0 : decode cX5_readNextOrder 0 = .ok (.aload_n 0, 1) := by decide +kernel
theorem dX5_readNextOrder_1 : decode cX5_readNextOrder 1 = .ok (.getfield 18, 3) := by decide +kernel
theorem dX5_readNextOrder_4 : decode cX5_readNextOrder 4 = .ok (.ifCond .le 14, 3) := by decide +kernel
theorem dX5_readNextOrder_7 : decode cX5_readNextOrder 7 = .ok (.aload_n 0, 1) := by decide +kernel
theorem dX5_readNextOrder_8 : decode cX5_readNextOrder 8 = .ok (.bipush 59, 2) := by decide +kernel
theorem dX5_readNextOrder_10 : decode cX5_readNextOrder 10 = .ok (.invokevirtual 32, 3) := by decide +kernel
theorem dX5_readNextOrder_13 : decode cX5_readNextOrder 13 = .ok (.ifCond .ne 5, 3) := by decide +kernel
theorem dX5_readNextOrder_16 : decode cX5_readNextOrder 16 = .ok (.iconst 0, 1) := by decide +kernel
theorem dX5_readNextOrder_17 : decode cX5_readNextOrder 17 = .ok (.ireturn, 1) := by decide +kernel
theorem dX5_readNextOrder_18 : decode cX5_readNextOrder 18 = .ok (.aload_n 0, 1) := by decide +kernel
theorem dX5_readNextOrder_19 : decode cX5_readNextOrder 19 = .ok (.aload_n 0, 1) := by decide +kernel
theorem dX5_readNextOrder_20 : decode cX5_readNextOrder 20 = .ok (.getfield 12, 3) := by decide +kernel
theorem dX5_readNextOrder_23 : decode cX5_readNextOrder 23 = .ok (.aload_n 0, 1) := by decide +kernel
theorem dX5_readNextOrder_24 : decode cX5_readNextOrder 24 = .ok (.getfield 18, 3) := by decide +kernel
theorem dX5_readNextOrder_27 : decode cX5_readNextOrder 27 = .ok (.invokevirtual 36, 3) := by decide +kernel
theorem dX5_readNextOrder_30 : decode cX5_readNextOrder 30 = .ok (.putfield 40, 3) := by decide +kernel
theorem dX5_readNextOrder_33 : decode cX5_readNextOrder 33 = .ok (.aload_n 0, 1) := by decide +kernel
theorem dX5_readNextOrder_34 : decode cX5_readNextOrder 34 = .ok (.getfield 40, 3) := by decide +kernel
theorem dX5_readNextOrder_37 : decode cX5_readNextOrder 37 = .ok (.lookupswitch 124 #[(99, 43), (107, 112), (114, 97), (115, 58)], 43) := by decide +kernel
theorem dX5_readNextOrder_80 : decode cX5_readNextOrder 80 = .ok (.aload_n 0, 1) := by decide +kernel
theorem dX5_readNextOrder_81 : decode cX5_readNextOrder 81 = .ok (.dup, 1) := by decide +kernel
theorem dX5_readNextOrder_82 : decode cX5_readNextOrder 82 = .ok (.getfield 18, 3) := by decide +kernel
theorem dX5_readNextOrder_85 : decode cX5_readNextOrder 85 = .ok (.iconst 1, 1) := by decide +kernel
theorem dX5_readNextOrder_86 : decode cX5_readNextOrder 86 = .ok (.iadd, 1) := by decide +kernel
theorem dX5_readNextOrder_87 : decode cX5_readNextOrder 87 = .ok (.putfield 18, 3) := by decide +kernel
theorem dX5_readNextOrder_90 : decode cX5_readNextOrder 90 = .ok (.aload_n 0, 1) := by decide +kernel
theorem dX5_readNextOrder_91 : decode cX5_readNextOrder 91 = .ok (.invokevirtual 43, 3) := by decide +kernel
theorem dX5_readNextOrder_94 : decode cX5_readNextOrder 94 = .ok (.ireturn, 1) := by decide +kernel
theorem dX5_readNextOrder_95 : decode cX5_readNextOrder 95 = .ok (.aload_n 0, 1) := by decide +kernel
theorem dX5_readNextOrder_96 : decode cX5_readNextOrder 96 = .ok (.dup, 1) := by decide +kernel
theorem dX5_readNextOrder_97 : decode cX5_readNextOrder 97 = .ok (.getfield 18, 3) := by decide +kernel
theorem dX5_readNextOrder_100 : decode cX5_readNextOrder 100 = .ok (.iconst 1, 1) := by decide +kernel
theorem dX5_readNextOrder_101 : decode cX5_readNextOrder 101 = .ok (.iadd, 1) := by decide +kernel
theorem dX5_readNextOrder_102 : decode cX5_readNextOrder 102 = .ok (.putfield 18, 3) := by decide +kernel
theorem dX5_readNextOrder_105 : decode cX5_readNextOrder 105 = .ok (.aload_n 0, 1) := by decide +kernel
theorem dX5_readNextOrder_106 : decode cX5_readNextOrder 106 = .ok (.invokevirtual 43, 3) := by decide +kernel
theorem dX5_readNextOrder_109 : decode cX5_readNextOrder 109 = .ok (.ifCond .eq 23, 3) := by decide +kernel
theorem dX5_readNextOrder_112 : decode cX5_readNextOrder 112 = .ok (.aload_n 0, 1) := by decide +kernel
theorem dX5_readNextOrder_113 : decode cX5_readNextOrder 113 = .ok (.bipush 58, 2) := by decide +kernel
theorem dX5_readNextOrder_115 : decode cX5_readNextOrder 115 = .ok (.invokevirtual 32, 3) := by decide +kernel
theorem dX5_readNextOrder_118 : decode cX5_readNextOrder 118 = .ok (.ifCond .eq 14, 3) := by decide +kernel
theorem dX5_readNextOrder_121 : decode cX5_readNextOrder 121 = .ok (.aload_n 0, 1) := by decide +kernel
theorem dX5_readNextOrder_122 : decode cX5_readNextOrder 122 = .ok (.invokevirtual 46, 3) := by decide +kernel
theorem dX5_readNextOrder_125 : decode cX5_readNextOrder 125 = .ok (.ifCond .eq 7, 3) := by decide +kernel
theorem dX5_readNextOrder_128 : decode cX5_readNextOrder 128 = .ok (.iconst 1, 1) := by decide +kernel
theorem dX5_readNextOrder_129 : decode cX5_readNextOrder 129 = .ok (.goto 4, 3) := by decide +kernel
theorem dX5_readNextOrder_132 : decode cX5_readNextOrder 132 = .ok (.iconst 0, 1) := by decide +kernel
theorem dX5_readNextOrder_133 : decode cX5_readNextOrder 133 = .ok (.ireturn, 1) := by decide +kernel
theorem dX5_readNextOrder_134 : decode cX5_readNextOrder 134 = .ok (.aload_n 0, 1) := by decide +kernel
theorem dX5_readNextOrder_135 : decode cX5_readNextOrder 135 = .ok (.dup, 1) := by decide +kernel
theorem dX5_readNextOrder_136 : decode cX5_readNextOrder 136 = .ok (.getfield 18, 3) := by decide +kernel
theorem dX5_readNextOrder_139 : decode cX5_readNextOrder 139 = .ok (.iconst 1, 1) := by decide +kernel
theorem dX5_readNextOrder_140 : decode cX5_readNextOrder 140 = .ok (.iadd, 1) := by decide +kernel
theorem dX5_readNextOrder_141 : decode cX5_readNextOrder 141 = .ok (.putfield 18, 3) := by decide +kernel
theorem dX5_readNextOrder_144 : decode cX5_readNextOrder 144 = .ok (.aload_n 0, 1) := by decide +kernel
theorem dX5_readNextOrder_145 : decode cX5_readNextOrder 145 = .ok (.invokevirtual 49, 3) := by decide +kernel
theorem dX5_readNextOrder_148 : decode cX5_readNextOrder 148 = .ok (.ireturn, 1) := by decide +kernel
theorem dX5_readNextOrder_149 : decode cX5_readNextOrder 149 = .ok (.aload_n 0, 1) := by decide +kernel
theorem dX5_readNextOrder_150 : decode cX5_readNextOrder 150 = .ok (.dup, 1) := by decide +kernel
theorem dX5_readNextOrder_151 : decode cX5_readNextOrder 151 = .ok (.getfield 18, 3) := by decide +kernel
theorem dX5_readNextOrder_154 : decode cX5_readNextOrder 154 = .ok (.iconst 1, 1) := by decide +kernel
theorem dX5_readNextOrder_155 : decode cX5_readNextOrder 155 = .ok (.iadd, 1) := by decide +kernel
theorem dX5_readNextOrder_156 : decode cX5_readNextOrder 156 = .ok (.putfield 18, 3) := by decide +kernel
theorem dX5_readNextOrder_159 : decode cX5_readNextOrder 159 = .ok (.iconst 1, 1) := by decide +kernel
theorem dX5_readNextOrder_160 : decode cX5_readNextOrder 160 = .ok (.ireturn, 1) := by decide +kernel
theorem dX5_readNextOrder_161 : decode cX5_readNextOrder 161 = .ok (.iconst 0, 1) := by decide +kernel
theorem dX5_readNextOrder_162 : decode cX5_readNextOrder 162 = .ok (.ireturn, 1) := by decide +kernel
theorem dX5_readRun_0 : decode cX5_readRun 0 = .ok (.aload_n 0, 1) := by decide +kernel
theorem dX5_readRun_1 : decode cX5_readRun 1 = .ok (.aload_n 0, 1) := by decide +kernel
theorem dX5_readRun_2 : decode cX5_readRun 2 = .ok (.invokevirtual 52, 3) := by decide +kernel
theorem dX5_readRun_5 : decode cX5_readRun 5 = .ok (.putfield 56, 3) := by decide +kernel
theorem dX5_readRun_8 : decode cX5_readRun 8 = .ok (.aload_n 0, 1) := by decide +kernel
theorem dX5_readRun_9 : decode cX5_readRun 9 = .ok (.getfield 56, 3) := by decide +kernel
theorem dX5_readRun_12 : decode cX5_readRun 12 = .ok (.bipush (-8), 2) := by decide +kernel
theorem dX5_readRun_14 : decode cX5_readRun 14 = .ok (.if_icmp .eq 12, 3) := by decide +kernel
theorem dX5_readRun_17 : decode cX5_readRun 17 = .ok (.aload_n 0, 1) := by decide +kernel
theorem dX5_readRun_18 : decode cX5_readRun 18 = .ok (.bipush 42, 2) := by decide +kernel
theorem dX5_readRun_20 : decode cX5_readRun 20 = .ok (.invokevirtual 32, 3) := by decide +kernel
theorem dX5_readRun_23 : decode cX5_readRun 23 = .ok (.ifCond .ne 5, 3) := by decide +kernel
theorem dX5_readRun_26 : decode cX5_readRun 26 = .ok (.iconst 0, 1) := by decide +kernel
theorem dX5_readRun_27 : decode cX5_readRun 27 = .ok (.ireturn, 1) := by decide +kernel
theorem dX5_readRun_28 : decode cX5_readRun 28 = .ok (.aload_n 0, 1) := by decide +kernel
theorem dX5_readRun_29 : decode cX5_readRun 29 = .ok (.aload_n 0, 1) := by decide +kernel
theorem dX5_readRun_30 : decode cX5_readRun 30 = .ok (.invokevirtual 52, 3) := by decide +kernel
theorem dX5_readRun_33 : decode cX5_readRun 33 = .ok (.putfield 59, 3) := by decide +kernel
theorem dX5_readRun_36 : decode cX5_readRun 36 = .ok (.aload_n 0, 1) := by decide +kernel
theorem dX5_readRun_37 : decode cX5_readRun 37 = .ok (.getfield 59, 3) := by decide +kernel
theorem dX5_readRun_40 : decode cX5_readRun 40 = .ok (.bipush (-8), 2) := by decide +kernel
theorem dX5_readRun_42 : decode cX5_readRun 42 = .ok (.if_icmp .eq 7, 3) := by decide +kernel
theorem dX5_readRun_45 : decode cX5_readRun 45 = .ok (.iconst 1, 1) := by decide +kernel
theorem dX5_readRun_46 : decode cX5_readRun 46 = .ok (.goto 4, 3) := by decide +kernel
theorem dX5_readRun_49 : decode cX5_readRun 49 = .ok (.iconst 0, 1) := by decide +kernel
theorem dX5_readRun_50 : decode cX5_readRun 50 = .ok (.ireturn, 1) := by decide +kernel
theorem dX5_readClaim_0 : decode cX5_readClaim 0 = .ok (.aload_n 0, 1) := by decide +kernel
theorem dX5_readClaim_1 : decode cX5_readClaim 1 = .ok (.bipush 42, 2) := by decide +kernel
theorem dX5_readClaim_3 : decode cX5_readClaim 3 = .ok (.invokevirtual 32, 3) := by decide +kernel
theorem dX5_readClaim_6 : decode cX5_readClaim 6 = .ok (.ifCond .eq 16, 3) := by decide +kernel
theorem dX5_readClaim_9 : decode cX5_readClaim 9 = .ok (.aload_n 0, 1) := by decide +kernel
theorem dX5_readClaim_10 : decode cX5_readClaim 10 = .ok (.iconst 0, 1) := by decide +kernel
theorem dX5_readClaim_11 : decode cX5_readClaim 11 = .ok (.iconst 0, 1) := by decide +kernel
theorem dX5_readClaim_12 : decode cX5_readClaim 12 = .ok (.iconst 0, 1) := by decide +kernel
theorem dX5_readClaim_13 : decode cX5_readClaim 13 = .ok (.iconst 0, 1) := by decide +kernel
theorem dX5_readClaim_14 : decode cX5_readClaim 14 = .ok (.invokestatic 62, 3) := by decide +kernel
theorem dX5_readClaim_17 : decode cX5_readClaim 17 = .ok (.putfield 68, 3) := by decide +kernel
theorem dX5_readClaim_20 : decode cX5_readClaim 20 = .ok (.iconst 1, 1) := by decide +kernel
theorem dX5_readClaim_21 : decode cX5_readClaim 21 = .ok (.ireturn, 1) := by decide +kernel
theorem dX5_readClaim_22 : decode cX5_readClaim 22 = .ok (.aload_n 0, 1) := by decide +kernel
theorem dX5_readClaim_23 : decode cX5_readClaim 23 = .ok (.invokevirtual 71, 3) := by decide +kernel
theorem dX5_readClaim_26 : decode cX5_readClaim 26 = .ok (.istore_n 1, 1) := by decide +kernel
theorem dX5_readClaim_27 : decode cX5_readClaim 27 = .ok (.iload_n 1, 1) := by decide +kernel
theorem dX5_readClaim_28 : decode cX5_readClaim 28 = .ok (.bipush (-8), 2) := by decide +kernel
theorem dX5_readClaim_30 : decode cX5_readClaim 30 = .ok (.if_icmp .ne 8, 3) := by decide +kernel
theorem dX5_readClaim_33 : decode cX5_readClaim 33 = .ok (.bipush (-8), 2) := by decide +kernel
theorem dX5_readClaim_35 : decode cX5_readClaim 35 = .ok (.goto 7, 3) := by decide +kernel
theorem dX5_readClaim_38 : decode cX5_readClaim 38 = .ok (.aload_n 0, 1) := by decide +kernel
theorem dX5_readClaim_39 : decode cX5_readClaim 39 = .ok (.invokevirtual 74, 3) := by decide +kernel
theorem dX5_readClaim_42 : decode cX5_readClaim 42 = .ok (.istore_n 2, 1) := by decide +kernel
theorem dX5_readClaim_43 : decode cX5_readClaim 43 = .ok (.iload_n 2, 1) := by decide +kernel
theorem dX5_readClaim_44 : decode cX5_readClaim 44 = .ok (.bipush (-8), 2) := by decide +kernel
theorem dX5_readClaim_46 : decode cX5_readClaim 46 = .ok (.if_icmp .ne 5, 3) := by decide +kernel
theorem dX5_readClaim_49 : decode cX5_readClaim 49 = .ok (.iconst 0, 1) := by decide +kernel
theorem dX5_readClaim_50 : decode cX5_readClaim 50 = .ok (.ireturn, 1) := by decide +kernel
theorem dX5_readClaim_51 : decode cX5_readClaim 51 = .ok (.iload_n 2, 1) := by decide +kernel
theorem dX5_readClaim_52 : decode cX5_readClaim 52 = .ok (.bipush 8, 2) := by decide +kernel
theorem dX5_readClaim_54 : decode cX5_readClaim 54 = .ok (.if_icmp .eq 9, 3) := by decide +kernel
theorem dX5_readClaim_57 : decode cX5_readClaim 57 = .ok (.iload_n 2, 1) := by decide +kernel
theorem dX5_readClaim_58 : decode cX5_readClaim 58 = .ok (.bipush 9, 2) := by decide +kernel
theorem dX5_readClaim_60 : decode cX5_readClaim 60 = .ok (.if_icmp .ne 7, 3) := by decide +kernel
theorem dX5_readClaim_63 : decode cX5_readClaim 63 = .ok (.iconst 1, 1) := by decide +kernel
theorem dX5_readClaim_64 : decode cX5_readClaim 64 = .ok (.goto 4, 3) := by decide +kernel
theorem dX5_readClaim_67 : decode cX5_readClaim 67 = .ok (.iconst 0, 1) := by decide +kernel
theorem dX5_readClaim_68 : decode cX5_readClaim 68 = .ok (.istore_n 3, 1) := by decide +kernel
theorem dX5_readClaim_69 : decode cX5_readClaim 69 = .ok (.iload_n 2, 1) := by decide +kernel
theorem dX5_readClaim_70 : decode cX5_readClaim 70 = .ok (.iconst 4, 1) := by decide +kernel
theorem dX5_readClaim_71 : decode cX5_readClaim 71 = .ok (.if_icmp .ne 8, 3) := by decide +kernel
theorem dX5_readClaim_74 : decode cX5_readClaim 74 = .ok (.bipush (-8), 2) := by decide +kernel
theorem dX5_readClaim_76 : decode cX5_readClaim 76 = .ok (.goto 7, 3) := by decide +kernel
theorem dX5_readClaim_79 : decode cX5_readClaim 79 = .ok (.aload_n 0, 1) := by decide +kernel
theorem dX5_readClaim_80 : decode cX5_readClaim 80 = .ok (.invokevirtual 71, 3) := by decide +kernel
theorem dX5_readClaim_83 : decode cX5_readClaim 83 = .ok (.istore 4, 2) := by decide +kernel
theorem dX5_readClaim_85 : decode cX5_readClaim 85 = .ok (.iload_n 3, 1) := by decide +kernel
theorem dX5_readClaim_86 : decode cX5_readClaim 86 = .ok (.ifCond .eq 12, 3) := by decide +kernel
theorem dX5_readClaim_89 : decode cX5_readClaim 89 = .ok (.iload 4, 2) := by decide +kernel
theorem dX5_readClaim_91 : decode cX5_readClaim 91 = .ok (.bipush (-8), 2) := by decide +kernel
theorem dX5_readClaim_93 : decode cX5_readClaim 93 = .ok (.if_icmp .ne 5, 3) := by decide +kernel
theorem dX5_readClaim_96 : decode cX5_readClaim 96 = .ok (.iconst 0, 1) := by decide +kernel
theorem dX5_readClaim_97 : decode cX5_readClaim 97 = .ok (.ireturn, 1) := by decide +kernel
theorem dX5_readClaim_98 : decode cX5_readClaim 98 = .ok (.iload_n 3, 1) := by decide +kernel
theorem dX5_readClaim_99 : decode cX5_readClaim 99 = .ok (.ifCond .ne 14, 3) := by decide +kernel
theorem dX5_readClaim_102 : decode cX5_readClaim 102 = .ok (.iload 4, 2) := by decide +kernel
theorem dX5_readClaim_104 : decode cX5_readClaim 104 = .ok (.bipush (-8), 2) := by decide +kernel
theorem dX5_readClaim_106 : decode cX5_readClaim 106 = .ok (.if_icmp .eq 7, 3) := by decide +kernel
theorem dX5_readClaim_109 : decode cX5_readClaim 109 = .ok (.iconst 1, 1) := by decide +kernel
theorem dX5_readClaim_110 : decode cX5_readClaim 110 = .ok (.goto 4, 3) := by decide +kernel
theorem dX5_readClaim_113 : decode cX5_readClaim 113 = .ok (.iconst 0, 1) := by decide +kernel
theorem dX5_readClaim_114 : decode cX5_readClaim 114 = .ok (.istore 5, 2) := by decide +kernel
theorem dX5_readClaim_116 : decode cX5_readClaim 116 = .ok (.iload 5, 2) := by decide +kernel
theorem dX5_readClaim_118 : decode cX5_readClaim 118 = .ok (.ifCond .eq 10, 3) := by decide +kernel
theorem dX5_readClaim_121 : decode cX5_readClaim 121 = .ok (.aload_n 0, 1) := by decide +kernel
theorem dX5_readClaim_122 : decode cX5_readClaim 122 = .ok (.invokevirtual 77, 3) := by decide +kernel
theorem dX5_readClaim_125 : decode cX5_readClaim 125 = .ok (.goto 7, 3) := by decide +kernel
theorem dX5_readClaim_128 : decode cX5_readClaim 128 = .ok (.aload_n 0, 1) := by decide +kernel
theorem dX5_readClaim_129 : decode cX5_readClaim 129 = .ok (.invokevirtual 80, 3) := by decide +kernel
theorem dX5_readClaim_132 : decode cX5_readClaim 132 = .ok (.istore 6, 2) := by decide +kernel
theorem dX5_readClaim_134 : decode cX5_readClaim 134 = .ok (.aload_n 0, 1) := by decide +kernel
theorem dX5_readClaim_135 : decode cX5_readClaim 135 = .ok (.iload 5, 2) := by decide +kernel
theorem dX5_readClaim_137 : decode cX5_readClaim 137 = .ok (.ifCond .eq 11, 3) := by decide +kernel
theorem dX5_readClaim_140 : decode cX5_readClaim 140 = .ok (.iload_n 2, 1) := by decide +kernel
theorem dX5_readClaim_141 : decode cX5_readClaim 141 = .ok (.iconst 1, 1) := by decide +kernel
theorem dX5_readClaim_142 : decode cX5_readClaim 142 = .ok (.isub, 1) := by decide +kernel
theorem dX5_readClaim_143 : decode cX5_readClaim 143 = .ok (.iconst 5, 1) := by decide +kernel
theorem dX5_readClaim_144 : decode cX5_readClaim 144 = .ok (.iadd, 1) := by decide +kernel
theorem dX5_readClaim_145 : decode cX5_readClaim 145 = .ok (.goto 4, 3) := by decide +kernel
theorem dX5_readClaim_148 : decode cX5_readClaim 148 = .ok (.iload_n 2, 1) := by decide +kernel
theorem dX5_readClaim_149 : decode cX5_readClaim 149 = .ok (.iload_n 1, 1) := by decide +kernel
theorem dX5_readClaim_150 : decode cX5_readClaim 150 = .ok (.iload 4, 2) := by decide +kernel
theorem dX5_readClaim_152 : decode cX5_readClaim 152 = .ok (.bipush (-8), 2) := by decide +kernel
theorem dX5_readClaim_154 : decode cX5_readClaim 154 = .ok (.if_icmp .ne 7, 3) := by decide +kernel
theorem dX5_readClaim_157 : decode cX5_readClaim 157 = .ok (.iconst 0, 1) := by decide +kernel
theorem dX5_readClaim_158 : decode cX5_readClaim 158 = .ok (.goto 5, 3) := by decide +kernel
theorem dX5_readClaim_161 : decode cX5_readClaim 161 = .ok (.iload 4, 2) := by decide +kernel
theorem dX5_readClaim_163 : decode cX5_readClaim 163 = .ok (.iload 6, 2) := by decide +kernel
theorem dX5_readClaim_165 : decode cX5_readClaim 165 = .ok (.invokestatic 62, 3) := by decide +kernel
theorem dX5_readClaim_168 : decode cX5_readClaim 168 = .ok (.putfield 68, 3) := by decide +kernel
theorem dX5_readClaim_171 : decode cX5_readClaim 171 = .ok (.iload 6, 2) := by decide +kernel
theorem dX5_readClaim_173 : decode cX5_readClaim 173 = .ok (.bipush (-8), 2) := by decide +kernel
theorem dX5_readClaim_175 : decode cX5_readClaim 175 = .ok (.if_icmp .eq 7, 3) := by decide +kernel
theorem dX5_readClaim_178 : decode cX5_readClaim 178 = .ok (.iconst 1, 1) := by decide +kernel
theorem dX5_readClaim_179 : decode cX5_readClaim 179 = .ok (.goto 4, 3) := by decide +kernel
theorem dX5_readClaim_182 : decode cX5_readClaim 182 = .ok (.iconst 0, 1) := by decide +kernel
theorem dX5_readClaim_183 : decode cX5_readClaim 183 = .ok (.ireturn, 1) := by decide +kernel
theorem dX5_readForm_0 : decode cX5_readForm 0 = .ok (.aload_n 0, 1) := by decide +kernel
theorem dX5_readForm_1 : decode cX5_readForm 1 = .ok (.getfield 12, 3) := by decide +kernel
theorem dX5_readForm_4 : decode cX5_readForm 4 = .ok (.aload_n 0, 1) := by decide +kernel
theorem dX5_readForm_5 : decode cX5_readForm 5 = .ok (.getfield 18, 3) := by decide +kernel
theorem dX5_readForm_8 : decode cX5_readForm 8 = .ok (.invokevirtual 36, 3) := by decide +kernel
theorem dX5_readForm_11 : decode cX5_readForm 11 = .ok (.invokestatic 83, 3) := by decide +kernel
theorem dX5_readForm_14 : decode cX5_readForm 14 = .ok (.istore_n 1, 1) := by decide +kernel
theorem dX5_readForm_15 : decode cX5_readForm 15 = .ok (.iload_n 1, 1) := by decide +kernel
theorem dX5_readForm_16 : decode cX5_readForm 16 = .ok (.bipush (-8), 2) := by decide +kernel
theorem dX5_readForm_18 : decode cX5_readForm 18 = .ok (.if_icmp .eq 13, 3) := by decide +kernel
theorem dX5_readForm_21 : decode cX5_readForm 21 = .ok (.aload_n 0, 1) := by decide +kernel
theorem dX5_readForm_22 : decode cX5_readForm 22 = .ok (.dup, 1) := by decide +kernel
theorem dX5_readForm_23 : decode cX5_readForm 23 = .ok (.getfield 18, 3) := by decide +kernel
theorem dX5_readForm_26 : decode cX5_readForm 26 = .ok (.iconst 1, 1) := by decide +kernel
theorem dX5_readForm_27 : decode cX5_readForm 27 = .ok (.iadd, 1) := by decide +kernel
theorem dX5_readForm_28 : decode cX5_readForm 28 = .ok (.putfield 18, 3) := by decide +kernel
theorem dX5_readForm_31 : decode cX5_readForm 31 = .ok (.iload_n 1, 1) := by decide +kernel
theorem dX5_readForm_32 : decode cX5_readForm 32 = .ok (.ireturn, 1) := by decide +kernel
theorem dX5_formOf_0 : decode cX5_formOf 0 = .ok (.iload_n 0, 1) := by decide +kernel
theorem dX5_formOf_1 : decode cX5_formOf 1 = .ok (.lookupswitch 73 #[(33, 61), (37, 70), (38, 67), (60, 63), (61, 59), (62, 65)], 59) := by decide +kernel
theorem dX5_formOf_60 : decode cX5_formOf 60 = .ok (.iconst 1, 1) := by decide +kernel
theorem dX5_formOf_61 : decode cX5_formOf 61 = .ok (.ireturn, 1) := by decide +kernel
theorem dX5_formOf_62 : decode cX5_formOf 62 = .ok (.iconst 2, 1) := by decide +kernel
theorem dX5_formOf_63 : decode cX5_formOf 63 = .ok (.ireturn, 1) := by decide +kernel
theorem dX5_formOf_64 : decode cX5_formOf 64 = .ok (.iconst 3, 1) := by decide +kernel
theorem dX5_formOf_65 : decode cX5_formOf 65 = .ok (.ireturn, 1) := by decide +kernel
theorem dX5_formOf_66 : decode cX5_formOf 66 = .ok (.iconst 4, 1) := by decide +kernel
theorem dX5_formOf_67 : decode cX5_formOf 67 = .ok (.ireturn, 1) := by decide +kernel
theorem dX5_formOf_68 : decode cX5_formOf 68 = .ok (.bipush 8, 2) := by decide +kernel
theorem dX5_formOf_70 : decode cX5_formOf 70 = .ok (.ireturn, 1) := by decide +kernel
theorem dX5_formOf_71 : decode cX5_formOf 71 = .ok (.bipush 9, 2) := by decide +kernel
theorem dX5_formOf_73 : decode cX5_formOf 73 = .ok (.ireturn, 1) := by decide +kernel
theorem dX5_formOf_74 : decode cX5_formOf 74 = .ok (.bipush (-8), 2) := by decide +kernel
theorem dX5_formOf_76 : decode cX5_formOf 76 = .ok (.ireturn, 1) := by decide +kernel
theorem dX5_readAction_0 : decode cX5_readAction 0 = .ok (.aload_n 0, 1) := by decide +kernel
theorem dX5_readAction_1 : decode cX5_readAction 1 = .ok (.aload_n 0, 1) := by decide +kernel
theorem dX5_readAction_2 : decode cX5_readAction 2 = .ok (.invokevirtual 71, 3) := by decide +kernel
theorem dX5_readAction_5 : decode cX5_readAction 5 = .ok (.putfield 86, 3) := by decide +kernel
theorem dX5_readAction_8 : decode cX5_readAction 8 = .ok (.aload_n 0, 1) := by decide +kernel
theorem dX5_readAction_9 : decode cX5_readAction 9 = .ok (.getfield 86, 3) := by decide +kernel
theorem dX5_readAction_12 : decode cX5_readAction 12 = .ok (.bipush (-8), 2) := by decide +kernel
theorem dX5_readAction_14 : decode cX5_readAction 14 = .ok (.if_icmp .ne 5, 3) := by decide +kernel
theorem dX5_readAction_17 : decode cX5_readAction 17 = .ok (.iconst 0, 1) := by decide +kernel
theorem dX5_readAction_18 : decode cX5_readAction 18 = .ok (.ireturn, 1) := by decide +kernel
theorem dX5_readAction_19 : decode cX5_readAction 19 = .ok (.aload_n 0, 1) := by decide +kernel
theorem dX5_readAction_20 : decode cX5_readAction 20 = .ok (.bipush 126, 2) := by decide +kernel
theorem dX5_readAction_22 : decode cX5_readAction 22 = .ok (.invokevirtual 32, 3) := by decide +kernel
theorem dX5_readAction_25 : decode cX5_readAction 25 = .ok (.ifCond .eq 36, 3) := by decide +kernel
theorem dX5_readAction_28 : decode cX5_readAction 28 = .ok (.aload_n 0, 1) := by decide +kernel
theorem dX5_readAction_29 : decode cX5_readAction 29 = .ok (.iconst 2, 1) := by decide +kernel
theorem dX5_readAction_30 : decode cX5_readAction 30 = .ok (.putfield 89, 3) := by decide +kernel
theorem dX5_readAction_33 : decode cX5_readAction 33 = .ok (.aload_n 0, 1) := by decide +kernel
theorem dX5_readAction_34 : decode cX5_readAction 34 = .ok (.aload_n 0, 1) := by decide +kernel
theorem dX5_readAction_35 : decode cX5_readAction 35 = .ok (.invokevirtual 71, 3) := by decide +kernel
theorem dX5_readAction_38 : decode cX5_readAction 38 = .ok (.putfield 92, 3) := by decide +kernel
theorem dX5_readAction_41 : decode cX5_readAction 41 = .ok (.aload_n 0, 1) := by decide +kernel
theorem dX5_readAction_42 : decode cX5_readAction 42 = .ok (.iconst 0, 1) := by decide +kernel
theorem dX5_readAction_43 : decode cX5_readAction 43 = .ok (.putfield 95, 3) := by decide +kernel
theorem dX5_readAction_46 : decode cX5_readAction 46 = .ok (.aload_n 0, 1) := by decide +kernel
theorem dX5_readAction_47 : decode cX5_readAction 47 = .ok (.getfield 92, 3) := by decide +kernel
theorem dX5_readAction_50 : decode cX5_readAction 50 = .ok (.bipush (-8), 2) := by decide +kernel
theorem dX5_readAction_52 : decode cX5_readAction 52 = .ok (.if_icmp .eq 7, 3) := by decide +kernel
theorem dX5_readAction_55 : decode cX5_readAction 55 = .ok (.iconst 1, 1) := by decide +kernel
theorem dX5_readAction_56 : decode cX5_readAction 56 = .ok (.goto 4, 3) := by decide +kernel
theorem dX5_readAction_59 : decode cX5_readAction 59 = .ok (.iconst 0, 1) := by decide +kernel
theorem dX5_readAction_60 : decode cX5_readAction 60 = .ok (.ireturn, 1) := by decide +kernel
theorem dX5_readAction_61 : decode cX5_readAction 61 = .ok (.aload_n 0, 1) := by decide +kernel
theorem dX5_readAction_62 : decode cX5_readAction 62 = .ok (.bipush 61, 2) := by decide +kernel
theorem dX5_readAction_64 : decode cX5_readAction 64 = .ok (.invokevirtual 32, 3) := by decide +kernel
theorem dX5_readAction_67 : decode cX5_readAction 67 = .ok (.ifCond .ne 5, 3) := by decide +kernel
theorem dX5_readAction_70 : decode cX5_readAction 70 = .ok (.iconst 0, 1) := by decide +kernel
theorem dX5_readAction_71 : decode cX5_readAction 71 = .ok (.ireturn, 1) := by decide +kernel
theorem dX5_readAction_72 : decode cX5_readAction 72 = .ok (.aload_n 0, 1) := by decide +kernel
theorem dX5_readAction_73 : decode cX5_readAction 73 = .ok (.aload_n 0, 1) := by decide +kernel
theorem dX5_readAction_74 : decode cX5_readAction 74 = .ok (.invokevirtual 71, 3) := by decide +kernel
theorem dX5_readAction_77 : decode cX5_readAction 77 = .ok (.putfield 92, 3) := by decide +kernel
theorem dX5_readAction_80 : decode cX5_readAction 80 = .ok (.aload_n 0, 1) := by decide +kernel
theorem dX5_readAction_81 : decode cX5_readAction 81 = .ok (.getfield 92, 3) := by decide +kernel
theorem dX5_readAction_84 : decode cX5_readAction 84 = .ok (.bipush (-8), 2) := by decide +kernel
theorem dX5_readAction_86 : decode cX5_readAction 86 = .ok (.if_icmp .ne 24, 3) := by decide +kernel
theorem dX5_readAction_89 : decode cX5_readAction 89 = .ok (.aload_n 0, 1) := by decide +kernel
theorem dX5_readAction_90 : decode cX5_readAction 90 = .ok (.iconst 0, 1) := by decide +kernel
theorem dX5_readAction_91 : decode cX5_readAction 91 = .ok (.putfield 89, 3) := by decide +kernel
theorem dX5_readAction_94 : decode cX5_readAction 94 = .ok (.aload_n 0, 1) := by decide +kernel
theorem dX5_readAction_95 : decode cX5_readAction 95 = .ok (.iconst 0, 1) := by decide +kernel
theorem dX5_readAction_96 : decode cX5_readAction 96 = .ok (.putfield 92, 3) := by decide +kernel
theorem dX5_readAction_99 : decode cX5_readAction 99 = .ok (.aload_n 0, 1) := by decide +kernel
theorem dX5_readAction_100 : decode cX5_readAction 100 = .ok (.aload_n 0, 1) := by decide +kernel
theorem dX5_readAction_101 : decode cX5_readAction 101 = .ok (.invokevirtual 80, 3) := by decide +kernel
theorem dX5_readAction_104 : decode cX5_readAction 104 = .ok (.putfield 95, 3) := by decide +kernel
theorem dX5_readAction_107 : decode cX5_readAction 107 = .ok (.goto 16, 3) := by decide +kernel
theorem dX5_readAction_110 : decode cX5_readAction 110 = .ok (.aload_n 0, 1) := by decide +kernel
theorem dX5_readAction_111 : decode cX5_readAction 111 = .ok (.iconst 1, 1) := by decide +kernel
theorem dX5_readAction_112 : decode cX5_readAction 112 = .ok (.putfield 89, 3) := by decide +kernel
theorem dX5_readAction_115 : decode cX5_readAction 115 = .ok (.aload_n 0, 1) := by decide +kernel
theorem dX5_readAction_116 : decode cX5_readAction 116 = .ok (.aload_n 0, 1) := by decide +kernel
theorem dX5_readAction_117 : decode cX5_readAction 117 = .ok (.invokevirtual 77, 3) := by decide +kernel
theorem dX5_readAction_120 : decode cX5_readAction 120 = .ok (.putfield 95, 3) := by decide +kernel
theorem dX5_readAction_123 : decode cX5_readAction 123 = .ok (.aload_n 0, 1) := by decide +kernel
theorem dX5_readAction_124 : decode cX5_readAction 124 = .ok (.getfield 95, 3) := by decide +kernel
theorem dX5_readAction_127 : decode cX5_readAction 127 = .ok (.bipush (-8), 2) := by decide +kernel
theorem dX5_readAction_129 : decode cX5_readAction 129 = .ok (.if_icmp .eq 7, 3) := by decide +kernel
theorem dX5_readAction_132 : decode cX5_readAction 132 = .ok (.iconst 1, 1) := by decide +kernel
theorem dX5_readAction_133 : decode cX5_readAction 133 = .ok (.goto 4, 3) := by decide +kernel
theorem dX5_readAction_136 : decode cX5_readAction 136 = .ok (.iconst 0, 1) := by decide +kernel
theorem dX5_readAction_137 : decode cX5_readAction 137 = .ok (.ireturn, 1) := by decide +kernel
theorem dX5_readOffset_0 : decode cX5_readOffset 0 = .ok (.aload_n 0, 1) := by decide +kernel
theorem dX5_readOffset_1 : decode cX5_readOffset 1 = .ok (.bipush 45, 2) := by decide +kernel
theorem dX5_readOffset_3 : decode cX5_readOffset 3 = .ok (.invokevirtual 32, 3) := by decide +kernel
theorem dX5_readOffset_6 : decode cX5_readOffset 6 = .ok (.istore_n 1, 1) := by decide +kernel
theorem dX5_readOffset_7 : decode cX5_readOffset 7 = .ok (.iload_n 1, 1) := by decide +kernel
theorem dX5_readOffset_8 : decode cX5_readOffset 8 = .ok (.ifCond .ne 14, 3) := by decide +kernel
theorem dX5_readOffset_11 : decode cX5_readOffset 11 = .ok (.aload_n 0, 1) := by decide +kernel
theorem dX5_readOffset_12 : decode cX5_readOffset 12 = .ok (.bipush 43, 2) := by decide +kernel
theorem dX5_readOffset_14 : decode cX5_readOffset 14 = .ok (.invokevirtual 32, 3) := by decide +kernel
theorem dX5_readOffset_17 : decode cX5_readOffset 17 = .ok (.ifCond .ne 5, 3) := by decide +kernel
theorem dX5_readOffset_20 : decode cX5_readOffset 20 = .ok (.iconst 0, 1) := by decide +kernel
theorem dX5_readOffset_21 : decode cX5_readOffset 21 = .ok (.ireturn, 1) := by decide +kernel
theorem dX5_readOffset_22 : decode cX5_readOffset 22 = .ok (.aload_n 0, 1) := by decide +kernel
theorem dX5_readOffset_23 : decode cX5_readOffset 23 = .ok (.invokevirtual 80, 3) := by decide +kernel
theorem dX5_readOffset_26 : decode cX5_readOffset 26 = .ok (.istore_n 2, 1) := by decide +kernel
theorem dX5_readOffset_27 : decode cX5_readOffset 27 = .ok (.iload_n 1, 1) := by decide +kernel
theorem dX5_readOffset_28 : decode cX5_readOffset 28 = .ok (.ifCond .eq 14, 3) := by decide +kernel
theorem dX5_readOffset_31 : decode cX5_readOffset 31 = .ok (.iload_n 2, 1) := by decide +kernel
theorem dX5_readOffset_32 : decode cX5_readOffset 32 = .ok (.bipush (-8), 2) := by decide +kernel
theorem dX5_readOffset_34 : decode cX5_readOffset 34 = .ok (.if_icmp .eq 8, 3) := by decide +kernel
theorem dX5_readOffset_37 : decode cX5_readOffset 37 = .ok (.iload_n 2, 1) := by decide +kernel
theorem dX5_readOffset_38 : decode cX5_readOffset 38 = .ok (.ineg, 1) := by decide +kernel
theorem dX5_readOffset_39 : decode cX5_readOffset 39 = .ok (.goto 4, 3) := by decide +kernel
theorem dX5_readOffset_42 : decode cX5_readOffset 42 = .ok (.iload_n 2, 1) := by decide +kernel
theorem dX5_readOffset_43 : decode cX5_readOffset 43 = .ok (.ireturn, 1) := by decide +kernel
theorem dX5_take_0 : decode cX5_take 0 = .ok (.aload_n 0, 1) := by decide +kernel
theorem dX5_take_1 : decode cX5_take 1 = .ok (.getfield 12, 3) := by decide +kernel
theorem dX5_take_4 : decode cX5_take 4 = .ok (.aload_n 0, 1) := by decide +kernel
theorem dX5_take_5 : decode cX5_take 5 = .ok (.getfield 18, 3) := by decide +kernel
theorem dX5_take_8 : decode cX5_take 8 = .ok (.invokevirtual 36, 3) := by decide +kernel
theorem dX5_take_11 : decode cX5_take 11 = .ok (.iload_n 1, 1) := by decide +kernel
theorem dX5_take_12 : decode cX5_take 12 = .ok (.if_icmp .eq 5, 3) := by decide +kernel
theorem dX5_take_15 : decode cX5_take 15 = .ok (.iconst 0, 1) := by decide +kernel
theorem dX5_take_16 : decode cX5_take 16 = .ok (.ireturn, 1) := by decide +kernel
theorem dX5_take_17 : decode cX5_take 17 = .ok (.aload_n 0, 1) := by decide +kernel
theorem dX5_take_18 : decode cX5_take 18 = .ok (.dup, 1) := by decide +kernel
theorem dX5_take_19 : decode cX5_take 19 = .ok (.getfield 18, 3) := by decide +kernel
theorem dX5_take_22 : decode cX5_take 22 = .ok (.iconst 1, 1) := by decide +kernel
theorem dX5_take_23 : decode cX5_take 23 = .ok (.iadd, 1) := by decide +kernel
theorem dX5_take_24 : decode cX5_take 24 = .ok (.putfield 18, 3) := by decide +kernel
theorem dX5_take_27 : decode cX5_take 27 = .ok (.iconst 1, 1) := by decide +kernel
theorem dX5_take_28 : decode cX5_take 28 = .ok (.ireturn, 1) := by decide +kernel
theorem dX5_readVar_0 : decode cX5_readVar 0 = .ok (.aload_n 0, 1) := by decide +kernel
theorem dX5_readVar_1 : decode cX5_readVar 1 = .ok (.bipush 97, 2) := by decide +kernel
theorem dX5_readVar_3 : decode cX5_readVar 3 = .ok (.bipush 99, 2) := by decide +kernel
theorem dX5_readVar_5 : decode cX5_readVar 5 = .ok (.invokevirtual 98, 3) := by decide +kernel
theorem dX5_readVar_8 : decode cX5_readVar 8 = .ok (.ireturn, 1) := by decide +kernel
theorem dX5_readDigit_0 : decode cX5_readDigit 0 = .ok (.aload_n 0, 1) := by decide +kernel
theorem dX5_readDigit_1 : decode cX5_readDigit 1 = .ok (.bipush 48, 2) := by decide +kernel
theorem dX5_readDigit_3 : decode cX5_readDigit 3 = .ok (.bipush 55, 2) := by decide +kernel
theorem dX5_readDigit_5 : decode cX5_readDigit 5 = .ok (.invokevirtual 98, 3) := by decide +kernel
theorem dX5_readDigit_8 : decode cX5_readDigit 8 = .ok (.ireturn, 1) := by decide +kernel
theorem dX5_readBetween_0 : decode cX5_readBetween 0 = .ok (.aload_n 0, 1) := by decide +kernel
theorem dX5_readBetween_1 : decode cX5_readBetween 1 = .ok (.getfield 12, 3) := by decide +kernel
theorem dX5_readBetween_4 : decode cX5_readBetween 4 = .ok (.aload_n 0, 1) := by decide +kernel
theorem dX5_readBetween_5 : decode cX5_readBetween 5 = .ok (.getfield 18, 3) := by decide +kernel
theorem dX5_readBetween_8 : decode cX5_readBetween 8 = .ok (.invokevirtual 36, 3) := by decide +kernel
theorem dX5_readBetween_11 : decode cX5_readBetween 11 = .ok (.istore_n 3, 1) := by decide +kernel
theorem dX5_readBetween_12 : decode cX5_readBetween 12 = .ok (.iload_n 3, 1) := by decide +kernel
theorem dX5_readBetween_13 : decode cX5_readBetween 13 = .ok (.iload_n 1, 1) := by decide +kernel
theorem dX5_readBetween_14 : decode cX5_readBetween 14 = .ok (.if_icmp .lt 8, 3) := by decide +kernel
theorem dX5_readBetween_17 : decode cX5_readBetween 17 = .ok (.iload_n 3, 1) := by decide +kernel
