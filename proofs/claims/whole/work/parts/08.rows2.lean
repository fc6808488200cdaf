theorem dX11_undo_35 : decode cX11_undo 35 = .ok (.getfield 13, 3) := by decide +kernel
theorem dX11_undo_38 : decode cX11_undo 38 = .ok (.sipush 1271, 3) := by decide +kernel
theorem dX11_undo_41 : decode cX11_undo 41 = .ok (.aload_n 0, 1) := by decide +kernel
theorem dX11_undo_42 : decode cX11_undo 42 = .ok (.getfield 42, 3) := by decide +kernel
theorem dX11_undo_45 : decode cX11_undo 45 = .ok (.imul, 1) := by decide +kernel
theorem dX11_undo_46 : decode cX11_undo 46 = .ok (.iload_n 1, 1) := by decide +kernel
theorem dX11_undo_47 : decode cX11_undo 47 = .ok (.iadd, 1) := by decide +kernel
theorem dX11_undo_48 : decode cX11_undo 48 = .ok (.iaload, 1) := by decide +kernel
theorem dX11_undo_49 : decode cX11_undo 49 = .ok (.iastore, 1) := by decide +kernel
theorem dX11_undo_50 : decode cX11_undo 50 = .ok (.iinc 1 1, 3) := by decide +kernel
theorem dX11_undo_53 : decode cX11_undo 53 = .ok (.goto (-31), 3) := by decide +kernel
theorem dX11_undo_56 : decode cX11_undo 56 = .ok (.aload_n 0, 1) := by decide +kernel
theorem dX11_undo_57 : decode cX11_undo 57 = .ok (.getfield 42, 3) := by decide +kernel
theorem dX11_undo_60 : decode cX11_undo 60 = .ok (.ireturn, 1) := by decide +kernel
theorem dX11_save_0 : decode cX11_save 0 = .ok (.iload_n 1, 1) := by decide +kernel
theorem dX11_save_1 : decode cX11_save 1 = .ok (.iconst 0, 1) := by decide +kernel
theorem dX11_save_2 : decode cX11_save 2 = .ok (.iconst 1, 1) := by decide +kernel
theorem dX11_save_3 : decode cX11_save 3 = .ok (.invokestatic 46, 3) := by decide +kernel
theorem dX11_save_6 : decode cX11_save 6 = .ok (.ifCond .ne 6, 3) := by decide +kernel
theorem dX11_save_9 : decode cX11_save 9 = .ok (.bipush (-2), 2) := by decide +kernel
theorem dX11_save_11 : decode cX11_save 11 = .ok (.ireturn, 1) := by decide +kernel
theorem dX11_save_12 : decode cX11_save 12 = .ok (.iconst 0, 1) := by decide +kernel
theorem dX11_save_13 : decode cX11_save 13 = .ok (.istore_n 2, 1) := by decide +kernel
theorem dX11_save_14 : decode cX11_save 14 = .ok (.iload_n 2, 1) := by decide +kernel
theorem dX11_save_15 : decode cX11_save 15 = .ok (.sipush 1271, 3) := by decide +kernel
theorem dX11_save_18 : decode cX11_save 18 = .ok (.if_icmp .ge 27, 3) := by decide +kernel
theorem dX11_save_21 : decode cX11_save 21 = .ok (.aload_n 0, 1) := by decide +kernel
theorem dX11_save_22 : decode cX11_save 22 = .ok (.getfield 16, 3) := by decide +kernel
theorem dX11_save_25 : decode cX11_save 25 = .ok (.sipush 1271, 3) := by decide +kernel
theorem dX11_save_28 : decode cX11_save 28 = .ok (.iload_n 1, 1) := by decide +kernel
theorem dX11_save_29 : decode cX11_save 29 = .ok (.imul, 1) := by decide +kernel
theorem dX11_save_30 : decode cX11_save 30 = .ok (.iload_n 2, 1) := by decide +kernel
theorem dX11_save_31 : decode cX11_save 31 = .ok (.iadd, 1) := by decide +kernel
theorem dX11_save_32 : decode cX11_save 32 = .ok (.aload_n 0, 1) := by decide +kernel
theorem dX11_save_33 : decode cX11_save 33 = .ok (.getfield 7, 3) := by decide +kernel
theorem dX11_save_36 : decode cX11_save 36 = .ok (.iload_n 2, 1) := by decide +kernel
theorem dX11_save_37 : decode cX11_save 37 = .ok (.iaload, 1) := by decide +kernel
theorem dX11_save_38 : decode cX11_save 38 = .ok (.iastore, 1) := by decide +kernel
theorem dX11_save_39 : decode cX11_save 39 = .ok (.iinc 2 1, 3) := by decide +kernel
theorem dX11_save_42 : decode cX11_save 42 = .ok (.goto (-28), 3) := by decide +kernel
theorem dX11_save_45 : decode cX11_save 45 = .ok (.aload_n 0, 1) := by decide +kernel
theorem dX11_save_46 : decode cX11_save 46 = .ok (.getfield 19, 3) := by decide +kernel
theorem dX11_save_49 : decode cX11_save 49 = .ok (.iload_n 1, 1) := by decide +kernel
theorem dX11_save_50 : decode cX11_save 50 = .ok (.iconst 1, 1) := by decide +kernel
theorem dX11_save_51 : decode cX11_save 51 = .ok (.bastore, 1) := by decide +kernel
theorem dX11_save_52 : decode cX11_save 52 = .ok (.aload_n 0, 1) := by decide +kernel
theorem dX11_save_53 : decode cX11_save 53 = .ok (.invokevirtual 50, 3) := by decide +kernel
theorem dX11_save_56 : decode cX11_save 56 = .ok (.invokestatic 54, 3) := by decide +kernel
theorem dX11_save_59 : decode cX11_save 59 = .ok (.ireturn, 1) := by decide +kernel
theorem dX11_restore_0 : decode cX11_restore 0 = .ok (.iload_n 1, 1) := by decide +kernel
theorem dX11_restore_1 : decode cX11_restore 1 = .ok (.iconst 0, 1) := by decide +kernel
theorem dX11_restore_2 : decode cX11_restore 2 = .ok (.iconst 1, 1) := by decide +kernel
theorem dX11_restore_3 : decode cX11_restore 3 = .ok (.invokestatic 46, 3) := by decide +kernel
theorem dX11_restore_6 : decode cX11_restore 6 = .ok (.ifCond .ne 6, 3) := by decide +kernel
theorem dX11_restore_9 : decode cX11_restore 9 = .ok (.bipush (-2), 2) := by decide +kernel
theorem dX11_restore_11 : decode cX11_restore 11 = .ok (.ireturn, 1) := by decide +kernel
theorem dX11_restore_12 : decode cX11_restore 12 = .ok (.aload_n 0, 1) := by decide +kernel
theorem dX11_restore_13 : decode cX11_restore 13 = .ok (.getfield 19, 3) := by decide +kernel
theorem dX11_restore_16 : decode cX11_restore 16 = .ok (.iload_n 1, 1) := by decide +kernel
theorem dX11_restore_17 : decode cX11_restore 17 = .ok (.baload, 1) := by decide +kernel
theorem dX11_restore_18 : decode cX11_restore 18 = .ok (.ifCond .ne 6, 3) := by decide +kernel
theorem dX11_restore_21 : decode cX11_restore 21 = .ok (.bipush (-5), 2) := by decide +kernel
theorem dX11_restore_23 : decode cX11_restore 23 = .ok (.ireturn, 1) := by decide +kernel
theorem dX11_restore_24 : decode cX11_restore 24 = .ok (.aload_n 0, 1) := by decide +kernel
theorem dX11_restore_25 : decode cX11_restore 25 = .ok (.invokevirtual 58, 3) := by decide +kernel
theorem dX11_restore_28 : decode cX11_restore 28 = .ok (.iconst 0, 1) := by decide +kernel
theorem dX11_restore_29 : decode cX11_restore 29 = .ok (.istore_n 2, 1) := by decide +kernel
theorem dX11_restore_30 : decode cX11_restore 30 = .ok (.iload_n 2, 1) := by decide +kernel
theorem dX11_restore_31 : decode cX11_restore 31 = .ok (.sipush 1271, 3) := by decide +kernel
theorem dX11_restore_34 : decode cX11_restore 34 = .ok (.if_icmp .ge 27, 3) := by decide +kernel
theorem dX11_restore_37 : decode cX11_restore 37 = .ok (.aload_n 0, 1) := by decide +kernel
theorem dX11_restore_38 : decode cX11_restore 38 = .ok (.getfield 7, 3) := by decide +kernel
theorem dX11_restore_41 : decode cX11_restore 41 = .ok (.iload_n 2, 1) := by decide +kernel
theorem dX11_restore_42 : decode cX11_restore 42 = .ok (.aload_n 0, 1) := by decide +kernel
theorem dX11_restore_43 : decode cX11_restore 43 = .ok (.getfield 16, 3) := by decide +kernel
theorem dX11_restore_46 : decode cX11_restore 46 = .ok (.sipush 1271, 3) := by decide +kernel
theorem dX11_restore_49 : decode cX11_restore 49 = .ok (.iload_n 1, 1) := by decide +kernel
theorem dX11_restore_50 : decode cX11_restore 50 = .ok (.imul, 1) := by decide +kernel
theorem dX11_restore_51 : decode cX11_restore 51 = .ok (.iload_n 2, 1) := by decide +kernel
theorem dX11_restore_52 : decode cX11_restore 52 = .ok (.iadd, 1) := by decide +kernel
theorem dX11_restore_53 : decode cX11_restore 53 = .ok (.iaload, 1) := by decide +kernel
theorem dX11_restore_54 : decode cX11_restore 54 = .ok (.iastore, 1) := by decide +kernel
theorem dX11_restore_55 : decode cX11_restore 55 = .ok (.iinc 2 1, 3) := by decide +kernel
theorem dX11_restore_58 : decode cX11_restore 58 = .ok (.goto (-28), 3) := by decide +kernel
theorem dX11_restore_61 : decode cX11_restore 61 = .ok (.aload_n 0, 1) := by decide +kernel
theorem dX11_restore_62 : decode cX11_restore 62 = .ok (.invokevirtual 50, 3) := by decide +kernel
theorem dX11_restore_65 : decode cX11_restore 65 = .ok (.invokestatic 54, 3) := by decide +kernel
theorem dX11_restore_68 : decode cX11_restore 68 = .ok (.ireturn, 1) := by decide +kernel
theorem dX11_size_0 : decode cX11_size 0 = .ok (.iconst 0, 1) := by decide +kernel
theorem dX11_size_1 : decode cX11_size 1 = .ok (.istore_n 2, 1) := by decide +kernel
theorem dX11_size_2 : decode cX11_size 2 = .ok (.iconst 0, 1) := by decide +kernel
theorem dX11_size_3 : decode cX11_size 3 = .ok (.istore_n 3, 1) := by decide +kernel
theorem dX11_size_4 : decode cX11_size 4 = .ok (.iload_n 3, 1) := by decide +kernel
theorem dX11_size_5 : decode cX11_size 5 = .ok (.bipush 40, 2) := by decide +kernel
theorem dX11_size_7 : decode cX11_size 7 = .ok (.if_icmp .ge 18, 3) := by decide +kernel
theorem dX11_size_10 : decode cX11_size 10 = .ok (.iload_n 2, 1) := by decide +kernel
theorem dX11_size_11 : decode cX11_size 11 = .ok (.lload_n 0, 1) := by decide +kernel
theorem dX11_size_12 : decode cX11_size 12 = .ok (.iload_n 3, 1) := by decide +kernel
theorem dX11_size_13 : decode cX11_size 13 = .ok (.lshr, 1) := by decide +kernel
theorem dX11_size_14 : decode cX11_size 14 = .ok (.lconst 1, 1) := by decide +kernel
theorem dX11_size_15 : decode cX11_size 15 = .ok (.land, 1) := by decide +kernel
theorem dX11_size_16 : decode cX11_size 16 = .ok (.l2i, 1) := by decide +kernel
theorem dX11_size_17 : decode cX11_size 17 = .ok (.iadd, 1) := by decide +kernel
theorem dX11_size_18 : decode cX11_size 18 = .ok (.istore_n 2, 1) := by decide +kernel
theorem dX11_size_19 : decode cX11_size 19 = .ok (.iinc 3 1, 3) := by decide +kernel
theorem dX11_size_22 : decode cX11_size 22 = .ok (.goto (-18), 3) := by decide +kernel
theorem dX11_size_25 : decode cX11_size 25 = .ok (.iload_n 2, 1) := by decide +kernel
theorem dX11_size_26 : decode cX11_size 26 = .ok (.ireturn, 1) := by decide +kernel
theorem dX11_part_0 : decode cX11_part 0 = .ok (.iload_n 0, 1) := by decide +kernel
theorem dX11_part_1 : decode cX11_part 1 = .ok (.bipush 6, 2) := by decide +kernel
theorem dX11_part_3 : decode cX11_part 3 = .ok (.iconst 3, 1) := by decide +kernel
theorem dX11_part_4 : decode cX11_part 4 = .ok (.iload_n 1, 1) := by decide +kernel
theorem dX11_part_5 : decode cX11_part 5 = .ok (.imul, 1) := by decide +kernel
theorem dX11_part_6 : decode cX11_part 6 = .ok (.isub, 1) := by decide +kernel
theorem dX11_part_7 : decode cX11_part 7 = .ok (.ishr, 1) := by decide +kernel
theorem dX11_part_8 : decode cX11_part 8 = .ok (.bipush 7, 2) := by decide +kernel
theorem dX11_part_10 : decode cX11_part 10 = .ok (.iand, 1) := by decide +kernel
theorem dX11_part_11 : decode cX11_part 11 = .ok (.ireturn, 1) := by decide +kernel
theorem dX11_with_0 : decode cX11_with 0 = .ok (.bipush 6, 2) := by decide +kernel
theorem dX11_with_2 : decode cX11_with 2 = .ok (.iconst 3, 1) := by decide +kernel
theorem dX11_with_3 : decode cX11_with 3 = .ok (.iload_n 1, 1) := by decide +kernel
theorem dX11_with_4 : decode cX11_with 4 = .ok (.imul, 1) := by decide +kernel
theorem dX11_with_5 : decode cX11_with 5 = .ok (.isub, 1) := by decide +kernel
theorem dX11_with_6 : decode cX11_with 6 = .ok (.istore_n 3, 1) := by decide +kernel
theorem dX11_with_7 : decode cX11_with 7 = .ok (.iload_n 0, 1) := by decide +kernel
theorem dX11_with_8 : decode cX11_with 8 = .ok (.iload_n 2, 1) := by decide +kernel
theorem dX11_with_9 : decode cX11_with 9 = .ok (.iload_n 0, 1) := by decide +kernel
theorem dX11_with_10 : decode cX11_with 10 = .ok (.iload_n 1, 1) := by decide +kernel
theorem dX11_with_11 : decode cX11_with 11 = .ok (.invokestatic 61, 3) := by decide +kernel
theorem dX11_with_14 : decode cX11_with 14 = .ok (.isub, 1) := by decide +kernel
theorem dX11_with_15 : decode cX11_with 15 = .ok (.iload_n 3, 1) := by decide +kernel
theorem dX11_with_16 : decode cX11_with 16 = .ok (.ishl, 1) := by decide +kernel
theorem dX11_with_17 : decode cX11_with 17 = .ok (.iadd, 1) := by decide +kernel
theorem dX11_with_18 : decode cX11_with 18 = .ok (.ireturn, 1) := by decide +kernel
theorem dX11_isClaim_0 : decode cX11_isClaim 0 = .ok (.iload_n 0, 1) := by decide +kernel
theorem dX11_isClaim_1 : decode cX11_isClaim 1 = .ok (.iconst 0, 1) := by decide +kernel
theorem dX11_isClaim_2 : decode cX11_isClaim 2 = .ok (.bipush 9, 2) := by decide +kernel
theorem dX11_isClaim_4 : decode cX11_isClaim 4 = .ok (.invokestatic 46, 3) := by decide +kernel
theorem dX11_isClaim_7 : decode cX11_isClaim 7 = .ok (.ifCond .eq 21, 3) := by decide +kernel
theorem dX11_isClaim_10 : decode cX11_isClaim 10 = .ok (.iload_n 1, 1) := by decide +kernel
theorem dX11_isClaim_11 : decode cX11_isClaim 11 = .ok (.iconst 0, 1) := by decide +kernel
theorem dX11_isClaim_12 : decode cX11_isClaim 12 = .ok (.iconst 2, 1) := by decide +kernel
theorem dX11_isClaim_13 : decode cX11_isClaim 13 = .ok (.invokestatic 46, 3) := by decide +kernel
theorem dX11_isClaim_16 : decode cX11_isClaim 16 = .ok (.ifCond .eq 12, 3) := by decide +kernel
theorem dX11_isClaim_19 : decode cX11_isClaim 19 = .ok (.iload_n 2, 1) := by decide +kernel
theorem dX11_isClaim_20 : decode cX11_isClaim 20 = .ok (.iconst 0, 1) := by decide +kernel
theorem dX11_isClaim_21 : decode cX11_isClaim 21 = .ok (.iconst 2, 1) := by decide +kernel
theorem dX11_isClaim_22 : decode cX11_isClaim 22 = .ok (.invokestatic 46, 3) := by decide +kernel
theorem dX11_isClaim_25 : decode cX11_isClaim 25 = .ok (.ifCond .ne 5, 3) := by decide +kernel
theorem dX11_isClaim_28 : decode cX11_isClaim 28 = .ok (.iconst 0, 1) := by decide +kernel
theorem dX11_isClaim_29 : decode cX11_isClaim 29 = .ok (.ireturn, 1) := by decide +kernel
theorem dX11_isClaim_30 : decode cX11_isClaim 30 = .ok (.iload_n 0, 1) := by decide +kernel
theorem dX11_isClaim_31 : decode cX11_isClaim 31 = .ok (.ifCond .ne 21, 3) := by decide +kernel
theorem dX11_isClaim_34 : decode cX11_isClaim 34 = .ok (.iload_n 1, 1) := by decide +kernel
theorem dX11_isClaim_35 : decode cX11_isClaim 35 = .ok (.ifCond .ne 15, 3) := by decide +kernel
theorem dX11_isClaim_38 : decode cX11_isClaim 38 = .ok (.iload_n 2, 1) := by decide +kernel
theorem dX11_isClaim_39 : decode cX11_isClaim 39 = .ok (.ifCond .ne 11, 3) := by decide +kernel
theorem dX11_isClaim_42 : decode cX11_isClaim 42 = .ok (.iload_n 3, 1) := by decide +kernel
theorem dX11_isClaim_43 : decode cX11_isClaim 43 = .ok (.ifCond .ne 7, 3) := by decide +kernel
theorem dX11_isClaim_46 : decode cX11_isClaim 46 = .ok (.iconst 1, 1) := by decide +kernel
theorem dX11_isClaim_47 : decode cX11_isClaim 47 = .ok (.goto 4, 3) := by decide +kernel
theorem dX11_isClaim_50 : decode cX11_isClaim 50 = .ok (.iconst 0, 1) := by decide +kernel
theorem dX11_isClaim_51 : decode cX11_isClaim 51 = .ok (.ireturn, 1) := by decide +kernel
theorem dX11_isClaim_52 : decode cX11_isClaim 52 = .ok (.iload_n 0, 1) := by decide +kernel
theorem dX11_isClaim_53 : decode cX11_isClaim 53 = .ok (.iconst 4, 1) := by decide +kernel
theorem dX11_isClaim_54 : decode cX11_isClaim 54 = .ok (.if_icmp .gt 23, 3) := by decide +kernel
theorem dX11_isClaim_57 : decode cX11_isClaim 57 = .ok (.iload_n 2, 1) := by decide +kernel
theorem dX11_isClaim_58 : decode cX11_isClaim 58 = .ok (.ifCond .ne 17, 3) := by decide +kernel
theorem dX11_isClaim_61 : decode cX11_isClaim 61 = .ok (.iload_n 3, 1) := by decide +kernel
theorem dX11_isClaim_62 : decode cX11_isClaim 62 = .ok (.iconst 0, 1) := by decide +kernel
theorem dX11_isClaim_63 : decode cX11_isClaim 63 = .ok (.bipush 7, 2) := by decide +kernel
theorem dX11_isClaim_65 : decode cX11_isClaim 65 = .ok (.invokestatic 46, 3) := by decide +kernel
theorem dX11_isClaim_68 : decode cX11_isClaim 68 = .ok (.ifCond .eq 7, 3) := by decide +kernel
theorem dX11_isClaim_71 : decode cX11_isClaim 71 = .ok (.iconst 1, 1) := by decide +kernel
theorem dX11_isClaim_72 : decode cX11_isClaim 72 = .ok (.goto 4, 3) := by decide +kernel
theorem dX11_isClaim_75 : decode cX11_isClaim 75 = .ok (.iconst 0, 1) := by decide +kernel
theorem dX11_isClaim_76 : decode cX11_isClaim 76 = .ok (.ireturn, 1) := by decide +kernel
theorem dX11_isClaim_77 : decode cX11_isClaim 77 = .ok (.iload_n 0, 1) := by decide +kernel
theorem dX11_isClaim_78 : decode cX11_isClaim 78 = .ok (.bipush 7, 2) := by decide +kernel
theorem dX11_isClaim_80 : decode cX11_isClaim 80 = .ok (.if_icmp .gt 25, 3) := by decide +kernel
theorem dX11_isClaim_83 : decode cX11_isClaim 83 = .ok (.iload_n 2, 1) := by decide +kernel
theorem dX11_isClaim_84 : decode cX11_isClaim 84 = .ok (.iload_n 1, 1) := by decide +kernel
theorem dX11_isClaim_85 : decode cX11_isClaim 85 = .ok (.if_icmp .eq 18, 3) := by decide +kernel
theorem dX11_isClaim_88 : decode cX11_isClaim 88 = .ok (.iload_n 3, 1) := by decide +kernel
theorem dX11_isClaim_89 : decode cX11_isClaim 89 = .ok (.bipush (-7), 2) := by decide +kernel
theorem dX11_isClaim_91 : decode cX11_isClaim 91 = .ok (.bipush 7, 2) := by decide +kernel
theorem dX11_isClaim_93 : decode cX11_isClaim 93 = .ok (.invokestatic 46, 3) := by decide +kernel
theorem dX11_isClaim_96 : decode cX11_isClaim 96 = .ok (.ifCond .eq 7, 3) := by decide +kernel
theorem dX11_isClaim_99 : decode cX11_isClaim 99 = .ok (.iconst 1, 1) := by decide +kernel
theorem dX11_isClaim_100 : decode cX11_isClaim 100 = .ok (.goto 4, 3) := by decide +kernel
theorem dX11_isClaim_103 : decode cX11_isClaim 103 = .ok (.iconst 0, 1) := by decide +kernel
theorem dX11_isClaim_104 : decode cX11_isClaim 104 = .ok (.ireturn, 1) := by decide +kernel
theorem dX11_isClaim_105 : decode cX11_isClaim 105 = .ok (.iload_n 2, 1) := by decide +kernel
theorem dX11_isClaim_106 : decode cX11_isClaim 106 = .ok (.iload_n 1, 1) := by decide +kernel
theorem dX11_isClaim_107 : decode cX11_isClaim 107 = .ok (.if_icmp .le 27, 3) := by decide +kernel
theorem dX11_isClaim_110 : decode cX11_isClaim 110 = .ok (.iload_n 3, 1) := by decide +kernel
theorem dX11_isClaim_111 : decode cX11_isClaim 111 = .ok (.iconst 0, 1) := by decide +kernel
theorem dX11_isClaim_112 : decode cX11_isClaim 112 = .ok (.iload_n 0, 1) := by decide +kernel
theorem dX11_isClaim_113 : decode cX11_isClaim 113 = .ok (.bipush 8, 2) := by decide +kernel
theorem dX11_isClaim_115 : decode cX11_isClaim 115 = .ok (.if_icmp .ne 8, 3) := by decide +kernel
theorem dX11_isClaim_118 : decode cX11_isClaim 118 = .ok (.bipush 7, 2) := by decide +kernel
theorem dX11_isClaim_120 : decode cX11_isClaim 120 = .ok (.goto 4, 3) := by decide +kernel
theorem dX11_isClaim_123 : decode cX11_isClaim 123 = .ok (.iconst 1, 1) := by decide +kernel
theorem dX11_isClaim_124 : decode cX11_isClaim 124 = .ok (.invokestatic 46, 3) := by decide +kernel
theorem dX11_isClaim_127 : decode cX11_isClaim 127 = .ok (.ifCond .eq 7, 3) := by decide +kernel
theorem dX11_isClaim_130 : decode cX11_isClaim 130 = .ok (.iconst 1, 1) := by decide +kernel
theorem dX11_isClaim_131 : decode cX11_isClaim 131 = .ok (.goto 4, 3) := by decide +kernel
theorem dX11_isClaim_134 : decode cX11_isClaim 134 = .ok (.iconst 0, 1) := by decide +kernel
theorem dX11_isClaim_135 : decode cX11_isClaim 135 = .ok (.ireturn, 1) := by decide +kernel
theorem dX11_codeOf_0 : decode cX11_codeOf 0 = .ok (.bipush 15, 2) := by decide +kernel
theorem dX11_codeOf_2 : decode cX11_codeOf 2 = .ok (.bipush 9, 2) := by decide +kernel
theorem dX11_codeOf_4 : decode cX11_codeOf 4 = .ok (.iload_n 0, 1) := by decide +kernel
theorem dX11_codeOf_5 : decode cX11_codeOf 5 = .ok (.imul, 1) := by decide +kernel
theorem dX11_codeOf_6 : decode cX11_codeOf 6 = .ok (.iconst 3, 1) := by decide +kernel
theorem dX11_codeOf_7 : decode cX11_codeOf 7 = .ok (.iload_n 1, 1) := by decide +kernel
theorem dX11_codeOf_8 : decode cX11_codeOf 8 = .ok (.imul, 1) := by decide +kernel
theorem dX11_codeOf_9 : decode cX11_codeOf 9 = .ok (.iadd, 1) := by decide +kernel
theorem dX11_codeOf_10 : decode cX11_codeOf 10 = .ok (.iload_n 2, 1) := by decide +kernel
theorem dX11_codeOf_11 : decode cX11_codeOf 11 = .ok (.iadd, 1) := by decide +kernel
theorem dX11_codeOf_12 : decode cX11_codeOf 12 = .ok (.imul, 1) := by decide +kernel
theorem dX11_codeOf_13 : decode cX11_codeOf 13 = .ok (.iload_n 3, 1) := by decide +kernel
theorem dX11_codeOf_14 : decode cX11_codeOf 14 = .ok (.iadd, 1) := by decide +kernel
theorem dX11_codeOf_15 : decode cX11_codeOf 15 = .ok (.bipush 7, 2) := by decide +kernel
theorem dX11_codeOf_17 : decode cX11_codeOf 17 = .ok (.iadd, 1) := by decide +kernel
theorem dX11_codeOf_18 : decode cX11_codeOf 18 = .ok (.ireturn, 1) := by decide +kernel
theorem dX11_formOf_0 : decode cX11_formOf 0 = .ok (.iload_n 0, 1) := by decide +kernel
theorem dX11_formOf_1 : decode cX11_formOf 1 = .ok (.sipush 135, 3) := by decide +kernel
theorem dX11_formOf_4 : decode cX11_formOf 4 = .ok (.idiv, 1) := by decide +kernel
theorem dX11_formOf_5 : decode cX11_formOf 5 = .ok (.ireturn, 1) := by decide +kernel
theorem dX11_xOf_0 : decode cX11_xOf 0 = .ok (.iload_n 0, 1) := by decide +kernel
theorem dX11_xOf_1 : decode cX11_xOf 1 = .ok (.bipush 45, 2) := by decide +kernel
theorem dX11_xOf_3 : decode cX11_xOf 3 = .ok (.idiv, 1) := by decide +kernel
theorem dX11_xOf_4 : decode cX11_xOf 4 = .ok (.iconst 3, 1) := by decide +kernel
theorem dX11_xOf_5 : decode cX11_xOf 5 = .ok (.irem, 1) := by decide +kernel
theorem dX11_xOf_6 : decode cX11_xOf 6 = .ok (.ireturn, 1) := by decide +kernel
theorem dX11_yOf_0 : decode cX11_yOf 0 = .ok (.iload_n 0, 1) := by decide +kernel
theorem dX11_yOf_1 : decode cX11_yOf 1 = .ok (.bipush 15, 2) := by decide +kernel
theorem dX11_yOf_3 : decode cX11_yOf 3 = .ok (.idiv, 1) := by decide +kernel
theorem dX11_yOf_4 : decode cX11_yOf 4 = .ok (.iconst 3, 1) := by decide +kernel
theorem dX11_yOf_5 : decode cX11_yOf 5 = .ok (.irem, 1) := by decide +kernel
theorem dX11_yOf_6 : decode cX11_yOf 6 = .ok (.ireturn, 1) := by decide +kernel
theorem dX11_kOf_0 : decode cX11_kOf 0 = .ok (.iload_n 0, 1) := by decide +kernel
theorem dX11_kOf_1 : decode cX11_kOf 1 = .ok (.bipush 15, 2) := by decide +kernel
theorem dX11_kOf_3 : decode cX11_kOf 3 = .ok (.irem, 1) := by decide +kernel
theorem dX11_kOf_4 : decode cX11_kOf 4 = .ok (.bipush 7, 2) := by decide +kernel
theorem dX11_kOf_6 : decode cX11_kOf 6 = .ok (.isub, 1) := by decide +kernel
theorem dX11_kOf_7 : decode cX11_kOf 7 = .ok (.ireturn, 1) := by decide +kernel
theorem dX11_isCode_0 : decode cX11_isCode 0 = .ok (.iload_n 0, 1) := by decide +kernel
theorem dX11_isCode_1 : decode cX11_isCode 1 = .ok (.iconst 0, 1) := by decide +kernel
theorem dX11_isCode_2 : decode cX11_isCode 2 = .ok (.sipush 1349, 3) := by decide +kernel
theorem dX11_isCode_5 : decode cX11_isCode 5 = .ok (.invokestatic 46, 3) := by decide +kernel
theorem dX11_isCode_8 : decode cX11_isCode 8 = .ok (.ifCond .eq 29, 3) := by decide +kernel
theorem dX11_isCode_11 : decode cX11_isCode 11 = .ok (.iload_n 0, 1) := by decide +kernel
theorem dX11_isCode_12 : decode cX11_isCode 12 = .ok (.invokestatic 65, 3) := by decide +kernel
theorem dX11_isCode_15 : decode cX11_isCode 15 = .ok (.iload_n 0, 1) := by decide +kernel
theorem dX11_isCode_16 : decode cX11_isCode 16 = .ok (.invokestatic 69, 3) := by decide +kernel
theorem dX11_isCode_19 : decode cX11_isCode 19 = .ok (.iload_n 0, 1) := by decide +kernel
theorem dX11_isCode_20 : decode cX11_isCode 20 = .ok (.invokestatic 72, 3) := by decide +kernel
theorem dX11_isCode_23 : decode cX11_isCode 23 = .ok (.iload_n 0, 1) := by decide +kernel
theorem dX11_isCode_24 : decode cX11_isCode 24 = .ok (.invokestatic 75, 3) := by decide +kernel
theorem dX11_isCode_27 : decode cX11_isCode 27 = .ok (.invokestatic 78, 3) := by decide +kernel
theorem dX11_isCode_30 : decode cX11_isCode 30 = .ok (.ifCond .eq 7, 3) := by decide +kernel
theorem dX11_isCode_33 : decode cX11_isCode 33 = .ok (.iconst 1, 1) := by decide +kernel
theorem dX11_isCode_34 : decode cX11_isCode 34 = .ok (.goto 4, 3) := by decide +kernel
theorem dX11_isCode_37 : decode cX11_isCode 37 = .ok (.iconst 0, 1) := by decide +kernel
theorem dX11_isCode_38 : decode cX11_isCode 38 = .ok (.ireturn, 1) := by decide +kernel
theorem dX11_isSo_0 : decode cX11_isSo 0 = .ok (.iload_n 1, 1) := by decide +kernel
theorem dX11_isSo_1 : decode cX11_isSo 1 = .ok (.iload_n 0, 1) := by decide +kernel
theorem dX11_isSo_2 : decode cX11_isSo 2 = .ok (.invokestatic 69, 3) := by decide +kernel
theorem dX11_isSo_5 : decode cX11_isSo 5 = .ok (.invokestatic 61, 3) := by decide +kernel
theorem dX11_isSo_8 : decode cX11_isSo 8 = .ok (.istore_n 2, 1) := by decide +kernel
theorem dX11_isSo_9 : decode cX11_isSo 9 = .ok (.iload_n 1, 1) := by decide +kernel
theorem dX11_isSo_10 : decode cX11_isSo 10 = .ok (.iload_n 0, 1) := by decide +kernel
theorem dX11_isSo_11 : decode cX11_isSo 11 = .ok (.invokestatic 72, 3) := by decide +kernel
theorem dX11_isSo_14 : decode cX11_isSo 14 = .ok (.invokestatic 61, 3) := by decide +kernel
theorem dX11_isSo_17 : decode cX11_isSo 17 = .ok (.istore_n 3, 1) := by decide +kernel
theorem dX11_isSo_18 : decode cX11_isSo 18 = .ok (.iload_n 0, 1) := by decide +kernel
theorem dX11_isSo_19 : decode cX11_isSo 19 = .ok (.invokestatic 75, 3) := by decide +kernel
theorem dX11_isSo_22 : decode cX11_isSo 22 = .ok (.istore 4, 2) := by decide +kernel
theorem dX11_isSo_24 : decode cX11_isSo 24 = .ok (.iload_n 0, 1) := by decide +kernel
theorem dX11_isSo_25 : decode cX11_isSo 25 = .ok (.invokestatic 65, 3) := by decide +kernel
theorem dX11_isSo_28 : decode cX11_isSo 28 = .ok (.tableswitch 158 0 8 #[52, 54, 66, 78, 90, 102, 116, 130, 144], 52) := by decide +kernel
theorem dX11_isSo_80 : decode cX11_isSo 80 = .ok (.iconst 1, 1) := by decide +kernel
theorem dX11_isSo_81 : decode cX11_isSo 81 = .ok (.ireturn, 1) := by decide +kernel
theorem dX11_isSo_82 : decode cX11_isSo 82 = .ok (.iload_n 2, 1) := by decide +kernel
theorem dX11_isSo_83 : decode cX11_isSo 83 = .ok (.iload 4, 2) := by decide +kernel
theorem dX11_isSo_85 : decode cX11_isSo 85 = .ok (.if_icmp .ne 7, 3) := by decide +kernel
theorem dX11_isSo_88 : decode cX11_isSo 88 = .ok (.iconst 1, 1) := by decide +kernel
theorem dX11_isSo_89 : decode cX11_isSo 89 = .ok (.goto 4, 3) := by decide +kernel
theorem dX11_isSo_92 : decode cX11_isSo 92 = .ok (.iconst 0, 1) := by decide +kernel
theorem dX11_isSo_93 : decode cX11_isSo 93 = .ok (.ireturn, 1) := by decide +kernel
theorem dX11_isSo_94 : decode cX11_isSo 94 = .ok (.iload_n 2, 1) := by decide +kernel
theorem dX11_isSo_95 : decode cX11_isSo 95 = .ok (.iload 4, 2) := by decide +kernel
theorem dX11_isSo_97 : decode cX11_isSo 97 = .ok (.if_icmp .eq 7, 3) := by decide +kernel
theorem dX11_isSo_100 : decode cX11_isSo 100 = .ok (.iconst 1, 1) := by decide +kernel
theorem dX11_isSo_101 : decode cX11_isSo 101 = .ok (.goto 4, 3) := by decide +kernel
theorem dX11_isSo_104 : decode cX11_isSo 104 = .ok (.iconst 0, 1) := by decide +kernel
theorem dX11_isSo_105 : decode cX11_isSo 105 = .ok (.ireturn, 1) := by decide +kernel
theorem dX11_isSo_106 : decode cX11_isSo 106 = .ok (.iload_n 2, 1) := by decide +kernel
theorem dX11_isSo_107 : decode cX11_isSo 107 = .ok (.iload 4, 2) := by decide +kernel
theorem dX11_isSo_109 : decode cX11_isSo 109 = .ok (.if_icmp .gt 7, 3) := by decide +kernel
theorem dX11_isSo_112 : decode cX11_isSo 112 = .ok (.iconst 1, 1) := by decide +kernel
theorem dX11_isSo_113 : decode cX11_isSo 113 = .ok (.goto 4, 3) := by decide +kernel
theorem dX11_isSo_116 : decode cX11_isSo 116 = .ok (.iconst 0, 1) := by decide +kernel
theorem dX11_isSo_117 : decode cX11_isSo 117 = .ok (.ireturn, 1) := by decide +kernel
theorem dX11_isSo_118 : decode cX11_isSo 118 = .ok (.iload_n 2, 1) := by decide +kernel
theorem dX11_isSo_119 : decode cX11_isSo 119 = .ok (.iload 4, 2) := by decide +kernel
theorem dX11_isSo_121 : decode cX11_isSo 121 = .ok (.if_icmp .lt 7, 3) := by decide +kernel
theorem dX11_isSo_124 : decode cX11_isSo 124 = .ok (.iconst 1, 1) := by decide +kernel
theorem dX11_isSo_125 : decode cX11_isSo 125 = .ok (.goto 4, 3) := by decide +kernel
theorem dX11_isSo_128 : decode cX11_isSo 128 = .ok (.iconst 0, 1) := by decide +kernel
theorem dX11_isSo_129 : decode cX11_isSo 129 = .ok (.ireturn, 1) := by decide +kernel
theorem dX11_isSo_130 : decode cX11_isSo 130 = .ok (.iload_n 2, 1) := by decide +kernel
theorem dX11_isSo_131 : decode cX11_isSo 131 = .ok (.iload_n 3, 1) := by decide +kernel
theorem dX11_isSo_132 : decode cX11_isSo 132 = .ok (.iload 4, 2) := by decide +kernel
theorem dX11_isSo_134 : decode cX11_isSo 134 = .ok (.iadd, 1) := by decide +kernel
theorem dX11_isSo_135 : decode cX11_isSo 135 = .ok (.if_icmp .ne 7, 3) := by decide +kernel
theorem dX11_isSo_138 : decode cX11_isSo 138 = .ok (.iconst 1, 1) := by decide +kernel
theorem dX11_isSo_139 : decode cX11_isSo 139 = .ok (.goto 4, 3) := by decide +kernel
theorem dX11_isSo_142 : decode cX11_isSo 142 = .ok (.iconst 0, 1) := by decide +kernel
theorem dX11_isSo_143 : decode cX11_isSo 143 = .ok (.ireturn, 1) := by decide +kernel
theorem dX11_isSo_144 : decode cX11_isSo 144 = .ok (.iload_n 2, 1) := by decide +kernel
theorem dX11_isSo_145 : decode cX11_isSo 145 = .ok (.iload_n 3, 1) := by decide +kernel
theorem dX11_isSo_146 : decode cX11_isSo 146 = .ok (.iload 4, 2) := by decide +kernel
theorem dX11_isSo_148 : decode cX11_isSo 148 = .ok (.iadd, 1) := by decide +kernel
theorem dX11_isSo_149 : decode cX11_isSo 149 = .ok (.if_icmp .eq 7, 3) := by decide +kernel
theorem dX11_isSo_152 : decode cX11_isSo 152 = .ok (.iconst 1, 1) := by decide +kernel
theorem dX11_isSo_153 : decode cX11_isSo 153 = .ok (.goto 4, 3) := by decide +kernel
theorem dX11_isSo_156 : decode cX11_isSo 156 = .ok (.iconst 0, 1) := by decide +kernel
theorem dX11_isSo_157 : decode cX11_isSo 157 = .ok (.ireturn, 1) := by decide +kernel
theorem dX11_isSo_158 : decode cX11_isSo 158 = .ok (.iload_n 2, 1) := by decide +kernel
theorem dX11_isSo_159 : decode cX11_isSo 159 = .ok (.iload_n 3, 1) := by decide +kernel
theorem dX11_isSo_160 : decode cX11_isSo 160 = .ok (.iload 4, 2) := by decide +kernel
theorem dX11_isSo_162 : decode cX11_isSo 162 = .ok (.iadd, 1) := by decide +kernel
theorem dX11_isSo_163 : decode cX11_isSo 163 = .ok (.if_icmp .gt 7, 3) := by decide +kernel
theorem dX11_isSo_166 : decode cX11_isSo 166 = .ok (.iconst 1, 1) := by decide +kernel
theorem dX11_isSo_167 : decode cX11_isSo 167 = .ok (.goto 4, 3) := by decide +kernel
theorem dX11_isSo_170 : decode cX11_isSo 170 = .ok (.iconst 0, 1) := by decide +kernel
theorem dX11_isSo_171 : decode cX11_isSo 171 = .ok (.ireturn, 1) := by decide +kernel
theorem dX11_isSo_172 : decode cX11_isSo 172 = .ok (.iload_n 2, 1) := by decide +kernel
theorem dX11_isSo_173 : decode cX11_isSo 173 = .ok (.iload_n 3, 1) := by decide +kernel
theorem dX11_isSo_174 : decode cX11_isSo 174 = .ok (.iadd, 1) := by decide +kernel
theorem dX11_isSo_175 : decode cX11_isSo 175 = .ok (.iload 4, 2) := by decide +kernel
theorem dX11_isSo_177 : decode cX11_isSo 177 = .ok (.if_icmp .ne 7, 3) := by decide +kernel
theorem dX11_isSo_180 : decode cX11_isSo 180 = .ok (.iconst 1, 1) := by decide +kernel
theorem dX11_isSo_181 : decode cX11_isSo 181 = .ok (.goto 4, 3) := by decide +kernel
theorem dX11_isSo_184 : decode cX11_isSo 184 = .ok (.iconst 0, 1) := by decide +kernel
theorem dX11_isSo_185 : decode cX11_isSo 185 = .ok (.ireturn, 1) := by decide +kernel
theorem dX11_isSo_186 : decode cX11_isSo 186 = .ok (.iload_n 2, 1) := by decide +kernel
theorem dX11_isSo_187 : decode cX11_isSo 187 = .ok (.iload_n 3, 1) := by decide +kernel
theorem dX11_isSo_188 : decode cX11_isSo 188 = .ok (.iadd, 1) := by decide +kernel
theorem dX11_isSo_189 : decode cX11_isSo 189 = .ok (.iload 4, 2) := by decide +kernel
theorem dX11_isSo_191 : decode cX11_isSo 191 = .ok (.iadd, 1) := by decide +kernel
theorem dX11_isSo_192 : decode cX11_isSo 192 = .ok (.iconst 2, 1) := by decide +kernel
theorem dX11_isSo_193 : decode cX11_isSo 193 = .ok (.irem, 1) := by decide +kernel
theorem dX11_isSo_194 : decode cX11_isSo 194 = .ok (.ifCond .ne 7, 3) := by decide +kernel
theorem dX11_isSo_197 : decode cX11_isSo 197 = .ok (.iconst 1, 1) := by decide +kernel
theorem dX11_isSo_198 : decode cX11_isSo 198 = .ok (.goto 4, 3) := by decide +kernel
theorem dX11_isSo_201 : decode cX11_isSo 201 = .ok (.iconst 0, 1) := by decide +kernel
theorem dX11_isSo_202 : decode cX11_isSo 202 = .ok (.ireturn, 1) := by decide +kernel
theorem dX11_claim_0 : decode cX11_claim 0 = .ok (.iload_n 1, 1) := by decide +kernel
theorem dX11_claim_1 : decode cX11_claim 1 = .ok (.iload_n 2, 1) := by decide +kernel
theorem dX11_claim_2 : decode cX11_claim 2 = .ok (.iload_n 3, 1) := by decide +kernel
theorem dX11_claim_3 : decode cX11_claim 3 = .ok (.iload 4, 2) := by decide +kernel
theorem dX11_claim_5 : decode cX11_claim 5 = .ok (.invokestatic 78, 3) := by decide +kernel
theorem dX11_claim_8 : decode cX11_claim 8 = .ok (.ifCond .eq 14, 3) := by decide +kernel
theorem dX11_claim_11 : decode cX11_claim 11 = .ok (.iload_n 1, 1) := by decide +kernel
theorem dX11_claim_12 : decode cX11_claim 12 = .ok (.iload_n 2, 1) := by decide +kernel
theorem dX11_claim_13 : decode cX11_claim 13 = .ok (.iload_n 3, 1) := by decide +kernel
theorem dX11_claim_14 : decode cX11_claim 14 = .ok (.iload 4, 2) := by decide +kernel
theorem dX11_claim_16 : decode cX11_claim 16 = .ok (.invokestatic 82, 3) := by decide +kernel
theorem dX11_claim_19 : decode cX11_claim 19 = .ok (.goto 5, 3) := by decide +kernel
theorem dX11_claim_22 : decode cX11_claim 22 = .ok (.bipush (-2), 2) := by decide +kernel
theorem dX11_claim_24 : decode cX11_claim 24 = .ok (.ireturn, 1) := by decide +kernel
theorem dX11_holds_0 : decode cX11_holds 0 = .ok (.iload_n 1, 1) := by decide +kernel
theorem dX11_holds_1 : decode cX11_holds 1 = .ok (.invokestatic 86, 3) := by decide +kernel
theorem dX11_holds_4 : decode cX11_holds 4 = .ok (.ifCond .eq 14, 3) := by decide +kernel
theorem dX11_holds_7 : decode cX11_holds 7 = .ok (.iload_n 2, 1) := by decide +kernel
theorem dX11_holds_8 : decode cX11_holds 8 = .ok (.iconst 0, 1) := by decide +kernel
theorem dX11_holds_9 : decode cX11_holds 9 = .ok (.sipush 511, 3) := by decide +kernel
theorem dX11_holds_12 : decode cX11_holds 12 = .ok (.invokestatic 46, 3) := by decide +kernel
theorem dX11_holds_15 : decode cX11_holds 15 = .ok (.ifCond .ne 6, 3) := by decide +kernel
theorem dX11_holds_18 : decode cX11_holds 18 = .ok (.bipush (-2), 2) := by decide +kernel
theorem dX11_holds_20 : decode cX11_holds 20 = .ok (.ireturn, 1) := by decide +kernel
theorem dX11_holds_21 : decode cX11_holds 21 = .ok (.iload_n 1, 1) := by decide +kernel
theorem dX11_holds_22 : decode cX11_holds 22 = .ok (.iload_n 2, 1) := by decide +kernel
theorem dX11_holds_23 : decode cX11_holds 23 = .ok (.invokestatic 90, 3) := by decide +kernel
theorem dX11_holds_26 : decode cX11_holds 26 = .ok (.ifCond .eq 7, 3) := by decide +kernel
theorem dX11_holds_29 : decode cX11_holds 29 = .ok (.iconst 1, 1) := by decide +kernel
theorem dX11_holds_30 : decode cX11_holds 30 = .ok (.goto 4, 3) := by decide +kernel
theorem dX11_holds_33 : decode cX11_holds 33 = .ok (.iconst 0, 1) := by decide +kernel
theorem dX11_holds_34 : decode cX11_holds 34 = .ok (.ireturn, 1) := by decide +kernel
theorem dX11_ofRow_0 : decode cX11_ofRow 0 = .ok (.aload_n 0, 1) := by decide +kernel
theorem dX11_ofRow_1 : decode cX11_ofRow 1 = .ok (.getfield 7, 3) := by decide +kernel
theorem dX11_ofRow_4 : decode cX11_ofRow 4 = .ok (.bipush 7, 2) := by decide +kernel
theorem dX11_ofRow_6 : decode cX11_ofRow 6 = .ok (.iconst 5, 1) := by decide +kernel
theorem dX11_ofRow_7 : decode cX11_ofRow 7 = .ok (.iload_n 1, 1) := by decide +kernel
theorem dX11_ofRow_8 : decode cX11_ofRow 8 = .ok (.imul, 1) := by decide +kernel
theorem dX11_ofRow_9 : decode cX11_ofRow 9 = .ok (.iadd, 1) := by decide +kernel
theorem dX11_ofRow_10 : decode cX11_ofRow 10 = .ok (.iload_n 2, 1) := by decide +kernel
theorem dX11_ofRow_11 : decode cX11_ofRow 11 = .ok (.iadd, 1) := by decide +kernel
theorem dX11_ofRow_12 : decode cX11_ofRow 12 = .ok (.iaload, 1) := by decide +kernel
theorem dX11_ofRow_13 : decode cX11_ofRow 13 = .ok (.ireturn, 1) := by decide +kernel
theorem dX11_next_0 : decode cX11_next 0 = .ok (.aload_n 0, 1) := by decide +kernel
theorem dX11_next_1 : decode cX11_next 1 = .ok (.iload_n 1, 1) := by decide +kernel
theorem dX11_next_2 : decode cX11_next 2 = .ok (.iconst 0, 1) := by decide +kernel
theorem dX11_next_3 : decode cX11_next 3 = .ok (.invokevirtual 94, 3) := by decide +kernel
theorem dX11_next_6 : decode cX11_next 6 = .ok (.iload_n 2, 1) := by decide +kernel
theorem dX11_next_7 : decode cX11_next 7 = .ok (.invokestatic 90, 3) := by decide +kernel
theorem dX11_next_10 : decode cX11_next 10 = .ok (.ifCond .ne 6, 3) := by decide +kernel
theorem dX11_next_13 : decode cX11_next 13 = .ok (.bipush (-6), 2) := by decide +kernel
theorem dX11_next_15 : decode cX11_next 15 = .ok (.ireturn, 1) := by decide +kernel
theorem dX11_next_16 : decode cX11_next 16 = .ok (.aload_n 0, 1) := by decide +kernel
theorem dX11_next_17 : decode cX11_next 17 = .ok (.iload_n 1, 1) := by decide +kernel
theorem dX11_next_18 : decode cX11_next 18 = .ok (.iconst 2, 1) := by decide +kernel
theorem dX11_next_19 : decode cX11_next 19 = .ok (.invokevirtual 94, 3) := by decide +kernel
theorem dX11_next_22 : decode cX11_next 22 = .ok (.istore_n 3, 1) := by decide +kernel
theorem dX11_next_23 : decode cX11_next 23 = .ok (.aload_n 0, 1) := by decide +kernel
theorem dX11_next_24 : decode cX11_next 24 = .ok (.iload_n 1, 1) := by decide +kernel
theorem dX11_next_25 : decode cX11_next 25 = .ok (.iconst 3, 1) := by decide +kernel
theorem dX11_next_26 : decode cX11_next 26 = .ok (.invokevirtual 94, 3) := by decide +kernel
theorem dX11_next_29 : decode cX11_next 29 = .ok (.istore 4, 2) := by decide +kernel
theorem dX11_next_31 : decode cX11_next 31 = .ok (.aload_n 0, 1) := by decide +kernel
theorem dX11_next_32 : decode cX11_next 32 = .ok (.iload_n 1, 1) := by decide +kernel
theorem dX11_next_33 : decode cX11_next 33 = .ok (.iconst 1, 1) := by decide +kernel
theorem dX11_next_34 : decode cX11_next 34 = .ok (.invokevirtual 94, 3) := by decide +kernel
theorem dX11_next_37 : decode cX11_next 37 = .ok (.iconst 2, 1) := by decide +kernel
theorem dX11_next_38 : decode cX11_next 38 = .ok (.if_icmp .ne 25, 3) := by decide +kernel
theorem dX11_next_41 : decode cX11_next 41 = .ok (.iload_n 2, 1) := by decide +kernel
theorem dX11_next_42 : decode cX11_next 42 = .ok (.iload_n 3, 1) := by decide +kernel
theorem dX11_next_43 : decode cX11_next 43 = .ok (.iload_n 2, 1) := by decide +kernel
theorem dX11_next_44 : decode cX11_next 44 = .ok (.iload 4, 2) := by decide +kernel
theorem dX11_next_46 : decode cX11_next 46 = .ok (.invokestatic 61, 3) := by decide +kernel
theorem dX11_next_49 : decode cX11_next 49 = .ok (.invokestatic 97, 3) := by decide +kernel
theorem dX11_next_52 : decode cX11_next 52 = .ok (.iload 4, 2) := by decide +kernel
theorem dX11_next_54 : decode cX11_next 54 = .ok (.iload_n 2, 1) := by decide +kernel
theorem dX11_next_55 : decode cX11_next 55 = .ok (.iload_n 3, 1) := by decide +kernel
theorem dX11_next_56 : decode cX11_next 56 = .ok (.invokestatic 61, 3) := by decide +kernel
theorem dX11_next_59 : decode cX11_next 59 = .ok (.invokestatic 97, 3) := by decide +kernel
theorem dX11_next_62 : decode cX11_next 62 = .ok (.ireturn, 1) := by decide +kernel
theorem dX11_next_63 : decode cX11_next 63 = .ok (.aload_n 0, 1) := by decide +kernel
theorem dX11_next_64 : decode cX11_next 64 = .ok (.iload_n 1, 1) := by decide +kernel
theorem dX11_next_65 : decode cX11_next 65 = .ok (.iconst 4, 1) := by decide +kernel
theorem dX11_next_66 : decode cX11_next 66 = .ok (.invokevirtual 94, 3) := by decide +kernel
theorem dX11_next_69 : decode cX11_next 69 = .ok (.aload_n 0, 1) := by decide +kernel
theorem dX11_next_70 : decode cX11_next 70 = .ok (.iload_n 1, 1) := by decide +kernel
theorem dX11_next_71 : decode cX11_next 71 = .ok (.iconst 1, 1) := by decide +kernel
theorem dX11_next_72 : decode cX11_next 72 = .ok (.invokevirtual 94, 3) := by decide +kernel
theorem dX11_next_75 : decode cX11_next 75 = .ok (.iconst 1, 1) := by decide +kernel
theorem dX11_next_76 : decode cX11_next 76 = .ok (.if_icmp .ne 12, 3) := by decide +kernel
theorem dX11_next_79 : decode cX11_next 79 = .ok (.iload_n 2, 1) := by decide +kernel
theorem dX11_next_80 : decode cX11_next 80 = .ok (.iload 4, 2) := by decide +kernel
theorem dX11_next_82 : decode cX11_next 82 = .ok (.invokestatic 61, 3) := by decide +kernel
theorem dX11_next_85 : decode cX11_next 85 = .ok (.goto 4, 3) := by decide +kernel
theorem dX11_next_88 : decode cX11_next 88 = .ok (.iconst 0, 1) := by decide +kernel
theorem dX11_next_89 : decode cX11_next 89 = .ok (.iadd, 1) := by decide +kernel
theorem dX11_next_90 : decode cX11_next 90 = .ok (.istore 5, 2) := by decide +kernel
theorem dX11_next_92 : decode cX11_next 92 = .ok (.iload 5, 2) := by decide +kernel
theorem dX11_next_94 : decode cX11_next 94 = .ok (.iconst 0, 1) := by decide +kernel
theorem dX11_next_95 : decode cX11_next 95 = .ok (.bipush 7, 2) := by decide +kernel
theorem dX11_next_97 : decode cX11_next 97 = .ok (.invokestatic 46, 3) := by decide +kernel
theorem dX11_next_100 : decode cX11_next 100 = .ok (.ifCond .ne 15, 3) := by decide +kernel
theorem dX11_next_103 : decode cX11_next 103 = .ok (.aload_n 0, 1) := by decide +kernel
theorem dX11_next_104 : decode cX11_next 104 = .ok (.getfield 7, 3) := by decide +kernel
theorem dX11_next_107 : decode cX11_next 107 = .ok (.iconst 1, 1) := by decide +kernel
theorem dX11_next_108 : decode cX11_next 108 = .ok (.iaload, 1) := by decide +kernel
theorem dX11_next_109 : decode cX11_next 109 = .ok (.ifCond .ne 6, 3) := by decide +kernel
theorem dX11_next_112 : decode cX11_next 112 = .ok (.bipush (-6), 2) := by decide +kernel
theorem dX11_next_114 : decode cX11_next 114 = .ok (.ireturn, 1) := by decide +kernel
theorem dX11_next_115 : decode cX11_next 115 = .ok (.iload_n 2, 1) := by decide +kernel
theorem dX11_next_116 : decode cX11_next 116 = .ok (.iload_n 3, 1) := by decide +kernel
theorem dX11_next_117 : decode cX11_next 117 = .ok (.iload 5, 2) := by decide +kernel
theorem dX11_next_119 : decode cX11_next 119 = .ok (.bipush 7, 2) := by decide +kernel
theorem dX11_next_121 : decode cX11_next 121 = .ok (.iand, 1) := by decide +kernel
theorem dX11_next_122 : decode cX11_next 122 = .ok (.invokestatic 97, 3) := by decide +kernel
theorem dX11_next_125 : decode cX11_next 125 = .ok (.ireturn, 1) := by decide +kernel
theorem dX11_of_0 : decode cX11_of 0 = .ok (.aload_n 0, 1) := by decide +kernel
theorem dX11_of_1 : decode cX11_of 1 = .ok (.getfield 7, 3) := by decide +kernel
theorem dX11_of_4 : decode cX11_of 4 = .ok (.bipush 47, 2) := by decide +kernel
theorem dX11_of_6 : decode cX11_of 6 = .ok (.iconst 5, 1) := by decide +kernel
theorem dX11_of_7 : decode cX11_of 7 = .ok (.iload_n 1, 1) := by decide +kernel
theorem dX11_of_8 : decode cX11_of 8 = .ok (.imul, 1) := by decide +kernel
theorem dX11_of_9 : decode cX11_of 9 = .ok (.iadd, 1) := by decide +kernel
theorem dX11_of_10 : decode cX11_of 10 = .ok (.iload_n 2, 1) := by decide +kernel
theorem dX11_of_11 : decode cX11_of 11 = .ok (.iadd, 1) := by decide +kernel
theorem dX11_of_12 : decode cX11_of 12 = .ok (.iaload, 1) := by decide +kernel
theorem dX11_of_13 : decode cX11_of 13 = .ok (.ireturn, 1) := by decide +kernel
theorem dX11_judges_0 : decode cX11_judges 0 = .ok (.bipush 47, 2) := by decide +kernel
theorem dX11_judges_2 : decode cX11_judges 2 = .ok (.iconst 5, 1) := by decide +kernel
theorem dX11_judges_3 : decode cX11_judges 3 = .ok (.iload_n 1, 1) := by decide +kernel
theorem dX11_judges_4 : decode cX11_judges 4 = .ok (.imul, 1) := by decide +kernel
theorem dX11_judges_5 : decode cX11_judges 5 = .ok (.iadd, 1) := by decide +kernel
theorem dX11_judges_6 : decode cX11_judges 6 = .ok (.istore 6, 2) := by decide +kernel
theorem dX11_judges_8 : decode cX11_judges 8 = .ok (.aload_n 0, 1) := by decide +kernel
theorem dX11_judges_9 : decode cX11_judges 9 = .ok (.getfield 7, 3) := by decide +kernel
theorem dX11_judges_12 : decode cX11_judges 12 = .ok (.iload 6, 2) := by decide +kernel
theorem dX11_judges_14 : decode cX11_judges 14 = .ok (.iconst 1, 1) := by decide +kernel
theorem dX11_judges_15 : decode cX11_judges 15 = .ok (.iadd, 1) := by decide +kernel
theorem dX11_judges_16 : decode cX11_judges 16 = .ok (.iload_n 2, 1) := by decide +kernel
theorem dX11_judges_17 : decode cX11_judges 17 = .ok (.iastore, 1) := by decide +kernel
theorem dX11_judges_18 : decode cX11_judges 18 = .ok (.aload_n 0, 1) := by decide +kernel
theorem dX11_judges_19 : decode cX11_judges 19 = .ok (.getfield 7, 3) := by decide +kernel
theorem dX11_judges_22 : decode cX11_judges 22 = .ok (.iload 6, 2) := by decide +kernel
theorem dX11_judges_24 : decode cX11_judges 24 = .ok (.iconst 2, 1) := by decide +kernel
theorem dX11_judges_25 : decode cX11_judges 25 = .ok (.iadd, 1) := by decide +kernel
theorem dX11_judges_26 : decode cX11_judges 26 = .ok (.iload_n 3, 1) := by decide +kernel
theorem dX11_judges_27 : decode cX11_judges 27 = .ok (.iastore, 1) := by decide +kernel
theorem dX11_judges_28 : decode cX11_judges 28 = .ok (.aload_n 0, 1) := by decide +kernel
theorem dX11_judges_29 : decode cX11_judges 29 = .ok (.getfield 7, 3) := by decide +kernel
theorem dX11_judges_32 : decode cX11_judges 32 = .ok (.iload 6, 2) := by decide +kernel
theorem dX11_judges_34 : decode cX11_judges 34 = .ok (.iconst 3, 1) := by decide +kernel
theorem dX11_judges_35 : decode cX11_judges 35 = .ok (.iadd, 1) := by decide +kernel
theorem dX11_judges_36 : decode cX11_judges 36 = .ok (.iload 4, 2) := by decide +kernel
theorem dX11_judges_38 : decode cX11_judges 38 = .ok (.iastore, 1) := by decide +kernel
theorem dX11_judges_39 : decode cX11_judges 39 = .ok (.aload_n 0, 1) := by decide +kernel
theorem dX11_judges_40 : decode cX11_judges 40 = .ok (.getfield 7, 3) := by decide +kernel
theorem dX11_judges_43 : decode cX11_judges 43 = .ok (.iload 6, 2) := by decide +kernel
theorem dX11_judges_45 : decode cX11_judges 45 = .ok (.iconst 4, 1) := by decide +kernel
theorem dX11_judges_46 : decode cX11_judges 46 = .ok (.iadd, 1) := by decide +kernel
theorem dX11_judges_47 : decode cX11_judges 47 = .ok (.iload 5, 2) := by decide +kernel
theorem dX11_judges_49 : decode cX11_judges 49 = .ok (.iastore, 1) := by decide +kernel
theorem dX11_judges_50 : decode cX11_judges 50 = .ok (.return_, 1) := by decide +kernel
theorem dX11_weighs_0 : decode cX11_weighs 0 = .ok (.aload_n 0, 1) := by decide +kernel
theorem dX11_weighs_1 : decode cX11_weighs 1 = .ok (.iload_n 1, 1) := by decide +kernel
theorem dX11_weighs_2 : decode cX11_weighs 2 = .ok (.iconst 0, 1) := by decide +kernel
theorem dX11_weighs_3 : decode cX11_weighs 3 = .ok (.bipush (-6), 2) := by decide +kernel
theorem dX11_weighs_5 : decode cX11_weighs 5 = .ok (.bipush (-6), 2) := by decide +kernel
theorem dX11_weighs_7 : decode cX11_weighs 7 = .ok (.bipush (-6), 2) := by decide +kernel
theorem dX11_weighs_9 : decode cX11_weighs 9 = .ok (.invokevirtual 101, 3) := by decide +kernel
theorem dX11_weighs_12 : decode cX11_weighs 12 = .ok (.aload_n 0, 1) := by decide +kernel
theorem dX11_weighs_13 : decode cX11_weighs 13 = .ok (.getfield 7, 3) := by decide +kernel
theorem dX11_weighs_16 : decode cX11_weighs 16 = .ok (.iconst 4, 1) := by decide +kernel
theorem dX11_weighs_17 : decode cX11_weighs 17 = .ok (.iaload, 1) := by decide +kernel
theorem dX11_weighs_18 : decode cX11_weighs 18 = .ok (.iconst 1, 1) := by decide +kernel
theorem dX11_weighs_19 : decode cX11_weighs 19 = .ok (.isub, 1) := by decide +kernel
theorem dX11_weighs_20 : decode cX11_weighs 20 = .ok (.istore_n 2, 1) := by decide +kernel
theorem dX11_weighs_21 : decode cX11_weighs 21 = .ok (.iload_n 2, 1) := by decide +kernel
theorem dX11_weighs_22 : decode cX11_weighs 22 = .ok (.ifCond .lt 69, 3) := by decide +kernel
theorem dX11_weighs_25 : decode cX11_weighs 25 = .ok (.aload_n 0, 1) := by decide +kernel
theorem dX11_weighs_26 : decode cX11_weighs 26 = .ok (.getfield 7, 3) := by decide +kernel
theorem dX11_weighs_29 : decode cX11_weighs 29 = .ok (.sipush 247, 3) := by decide +kernel
theorem dX11_weighs_32 : decode cX11_weighs 32 = .ok (.iload_n 2, 1) := by decide +kernel
theorem dX11_weighs_33 : decode cX11_weighs 33 = .ok (.iadd, 1) := by decide +kernel
theorem dX11_weighs_34 : decode cX11_weighs 34 = .ok (.iaload, 1) := by decide +kernel
theorem dX11_weighs_35 : decode cX11_weighs 35 = .ok (.istore_n 3, 1) := by decide +kernel
theorem dX11_weighs_36 : decode cX11_weighs 36 = .ok (.aload_n 0, 1) := by decide +kernel
theorem dX11_weighs_37 : decode cX11_weighs 37 = .ok (.iload_n 1, 1) := by decide +kernel
theorem dX11_weighs_38 : decode cX11_weighs 38 = .ok (.iconst 0, 1) := by decide +kernel
theorem dX11_weighs_39 : decode cX11_weighs 39 = .ok (.invokevirtual 105, 3) := by decide +kernel
theorem dX11_weighs_42 : decode cX11_weighs 42 = .ok (.iload_n 3, 1) := by decide +kernel
theorem dX11_weighs_43 : decode cX11_weighs 43 = .ok (.invokestatic 90, 3) := by decide +kernel
theorem dX11_weighs_46 : decode cX11_weighs 46 = .ok (.ifCond .ne 39, 3) := by decide +kernel
theorem dX11_weighs_49 : decode cX11_weighs 49 = .ok (.aload_n 0, 1) := by decide +kernel
theorem dX11_weighs_50 : decode cX11_weighs 50 = .ok (.iload_n 1, 1) := by decide +kernel
theorem dX11_weighs_51 : decode cX11_weighs 51 = .ok (.iload_n 2, 1) := by decide +kernel
theorem dX11_weighs_52 : decode cX11_weighs 52 = .ok (.ifCond .ne 7, 3) := by decide +kernel
theorem dX11_weighs_55 : decode cX11_weighs 55 = .ok (.iconst 1, 1) := by decide +kernel
theorem dX11_weighs_56 : decode cX11_weighs 56 = .ok (.goto 4, 3) := by decide +kernel
theorem dX11_weighs_59 : decode cX11_weighs 59 = .ok (.iconst 2, 1) := by decide +kernel
theorem dX11_weighs_60 : decode cX11_weighs 60 = .ok (.iload_n 3, 1) := by decide +kernel
theorem dX11_weighs_61 : decode cX11_weighs 61 = .ok (.iload_n 2, 1) := by decide +kernel
theorem dX11_weighs_62 : decode cX11_weighs 62 = .ok (.ifCond .ne 8, 3) := by decide +kernel
theorem dX11_weighs_65 : decode cX11_weighs 65 = .ok (.bipush (-6), 2) := by decide +kernel
theorem dX11_weighs_67 : decode cX11_weighs 67 = .ok (.goto 13, 3) := by decide +kernel
theorem dX11_weighs_70 : decode cX11_weighs 70 = .ok (.aload_n 0, 1) := by decide +kernel
theorem dX11_weighs_71 : decode cX11_weighs 71 = .ok (.getfield 7, 3) := by decide +kernel
theorem dX11_weighs_74 : decode cX11_weighs 74 = .ok (.sipush 759, 3) := by decide +kernel
theorem dX11_weighs_77 : decode cX11_weighs 77 = .ok (.iload_n 2, 1) := by decide +kernel
theorem dX11_weighs_78 : decode cX11_weighs 78 = .ok (.iadd, 1) := by decide +kernel
theorem dX11_weighs_79 : decode cX11_weighs 79 = .ok (.iaload, 1) := by decide +kernel
theorem dX11_weighs_80 : decode cX11_weighs 80 = .ok (.bipush (-6), 2) := by decide +kernel
theorem dX11_weighs_82 : decode cX11_weighs 82 = .ok (.invokevirtual 101, 3) := by decide +kernel
theorem dX11_weighs_85 : decode cX11_weighs 85 = .ok (.iinc 2 (-1), 3) := by decide +kernel
theorem dX11_weighs_88 : decode cX11_weighs 88 = .ok (.goto (-67), 3) := by decide +kernel
theorem dX11_weighs_91 : decode cX11_weighs 91 = .ok (.return_, 1) := by decide +kernel
theorem dX11_begins_0 : decode cX11_begins 0 = .ok (.aload_n 0, 1) := by decide +kernel
theorem dX11_begins_1 : decode cX11_begins 1 = .ok (.getfield 7, 3) := by decide +kernel
theorem dX11_begins_4 : decode cX11_begins 4 = .ok (.iconst 4, 1) := by decide +kernel
theorem dX11_begins_5 : decode cX11_begins 5 = .ok (.iconst 1, 1) := by decide +kernel
theorem dX11_begins_6 : decode cX11_begins 6 = .ok (.iastore, 1) := by decide +kernel
theorem dX11_begins_7 : decode cX11_begins 7 = .ok (.aload_n 0, 1) := by decide +kernel
theorem dX11_begins_8 : decode cX11_begins 8 = .ok (.getfield 7, 3) := by decide +kernel
theorem dX11_begins_11 : decode cX11_begins 11 = .ok (.sipush 247, 3) := by decide +kernel
theorem dX11_begins_14 : decode cX11_begins 14 = .ok (.aload_n 0, 1) := by decide +kernel
theorem dX11_begins_15 : decode cX11_begins 15 = .ok (.getfield 7, 3) := by decide +kernel
theorem dX11_begins_18 : decode cX11_begins 18 = .ok (.iconst 0, 1) := by decide +kernel
theorem dX11_begins_19 : decode cX11_begins 19 = .ok (.iaload, 1) := by decide +kernel
theorem dX11_begins_20 : decode cX11_begins 20 = .ok (.iastore, 1) := by decide +kernel
theorem dX11_begins_21 : decode cX11_begins 21 = .ok (.aload_n 0, 1) := by decide +kernel
theorem dX11_begins_22 : decode cX11_begins 22 = .ok (.getfield 7, 3) := by decide +kernel
theorem dX11_begins_25 : decode cX11_begins 25 = .ok (.sipush 759, 3) := by decide +kernel
theorem dX11_begins_28 : decode cX11_begins 28 = .ok (.bipush (-6), 2) := by decide +kernel
theorem dX11_begins_30 : decode cX11_begins 30 = .ok (.iastore, 1) := by decide +kernel
theorem dX11_begins_31 : decode cX11_begins 31 = .ok (.aload_n 0, 1) := by decide +kernel
theorem dX11_begins_32 : decode cX11_begins 32 = .ok (.getfield 7, 3) := by decide +kernel
theorem dX11_begins_35 : decode cX11_begins 35 = .ok (.iconst 5, 1) := by decide +kernel
theorem dX11_begins_36 : decode cX11_begins 36 = .ok (.iconst 0, 1) := by decide +kernel
theorem dX11_begins_37 : decode cX11_begins 37 = .ok (.iastore, 1) := by decide +kernel
theorem dX11_begins_38 : decode cX11_begins 38 = .ok (.aload_n 0, 1) := by decide +kernel
theorem dX11_begins_39 : decode cX11_begins 39 = .ok (.getfield 7, 3) := by decide +kernel
theorem dX11_begins_42 : decode cX11_begins 42 = .ok (.bipush 6, 2) := by decide +kernel
theorem dX11_begins_44 : decode cX11_begins 44 = .ok (.iconst 0, 1) := by decide +kernel
theorem dX11_begins_45 : decode cX11_begins 45 = .ok (.iastore, 1) := by decide +kernel
theorem dX11_begins_46 : decode cX11_begins 46 = .ok (.iconst 0, 1) := by decide +kernel
theorem dX11_begins_47 : decode cX11_begins 47 = .ok (.istore_n 1, 1) := by decide +kernel
theorem dX11_begins_48 : decode cX11_begins 48 = .ok (.iload_n 1, 1) := by decide +kernel
theorem dX11_begins_49 : decode cX11_begins 49 = .ok (.aload_n 0, 1) := by decide +kernel
theorem dX11_begins_50 : decode cX11_begins 50 = .ok (.getfield 7, 3) := by decide +kernel
theorem dX11_begins_53 : decode cX11_begins 53 = .ok (.iconst 3, 1) := by decide +kernel
theorem dX11_begins_54 : decode cX11_begins 54 = .ok (.iaload, 1) := by decide +kernel
theorem dX11_begins_55 : decode cX11_begins 55 = .ok (.if_icmp .ge 14, 3) := by decide +kernel
theorem dX11_begins_58 : decode cX11_begins 58 = .ok (.aload_n 0, 1) := by decide +kernel
theorem dX11_begins_59 : decode cX11_begins 59 = .ok (.iload_n 1, 1) := by decide +kernel
theorem dX11_begins_60 : decode cX11_begins 60 = .ok (.invokevirtual 108, 3) := by decide +kernel
theorem dX11_begins_63 : decode cX11_begins 63 = .ok (.iinc 1 1, 3) := by decide +kernel
theorem dX11_begins_66 : decode cX11_begins 66 = .ok (.goto (-18), 3) := by decide +kernel
theorem dX11_begins_69 : decode cX11_begins 69 = .ok (.return_, 1) := by decide +kernel
theorem dX11_start_0 : decode cX11_start 0 = .ok (.iload_n 1, 1) := by decide +kernel
theorem dX11_start_1 : decode cX11_start 1 = .ok (.iconst 0, 1) := by decide +kernel
theorem dX11_start_2 : decode cX11_start 2 = .ok (.bipush 7, 2) := by decide +kernel
theorem dX11_start_4 : decode cX11_start 4 = .ok (.invokestatic 46, 3) := by decide +kernel
theorem dX11_start_7 : decode cX11_start 7 = .ok (.ifCond .eq 23, 3) := by decide +kernel
theorem dX11_start_10 : decode cX11_start 10 = .ok (.iload_n 2, 1) := by decide +kernel
theorem dX11_start_11 : decode cX11_start 11 = .ok (.iconst 0, 1) := by decide +kernel
theorem dX11_start_12 : decode cX11_start 12 = .ok (.bipush 7, 2) := by decide +kernel
theorem dX11_start_14 : decode cX11_start 14 = .ok (.invokestatic 46, 3) := by decide +kernel
theorem dX11_start_17 : decode cX11_start 17 = .ok (.ifCond .eq 13, 3) := by decide +kernel
theorem dX11_start_20 : decode cX11_start 20 = .ok (.iload_n 3, 1) := by decide +kernel
theorem dX11_start_21 : decode cX11_start 21 = .ok (.iconst 0, 1) := by decide +kernel
theorem dX11_start_22 : decode cX11_start 22 = .ok (.bipush 7, 2) := by decide +kernel
theorem dX11_start_24 : decode cX11_start 24 = .ok (.invokestatic 46, 3) := by decide +kernel
theorem dX11_start_27 : decode cX11_start 27 = .ok (.ifCond .ne 6, 3) := by decide +kernel
theorem dX11_start_30 : decode cX11_start 30 = .ok (.bipush (-2), 2) := by decide +kernel
theorem dX11_start_32 : decode cX11_start 32 = .ok (.ireturn, 1) := by decide +kernel
theorem dX11_start_33 : decode cX11_start 33 = .ok (.aload_n 0, 1) := by decide +kernel
theorem dX11_start_34 : decode cX11_start 34 = .ok (.invokevirtual 58, 3) := by decide +kernel
theorem dX11_start_37 : decode cX11_start 37 = .ok (.aload_n 0, 1) := by decide +kernel
theorem dX11_start_38 : decode cX11_start 38 = .ok (.getfield 7, 3) := by decide +kernel
theorem dX11_start_41 : decode cX11_start 41 = .ok (.iconst 0, 1) := by decide +kernel
theorem dX11_start_42 : decode cX11_start 42 = .ok (.iaload, 1) := by decide +kernel
theorem dX11_start_43 : decode cX11_start 43 = .ok (.istore 4, 2) := by decide +kernel
theorem dX11_start_45 : decode cX11_start 45 = .ok (.aload_n 0, 1) := by decide +kernel
theorem dX11_start_46 : decode cX11_start 46 = .ok (.getfield 7, 3) := by decide +kernel
theorem dX11_start_49 : decode cX11_start 49 = .ok (.iconst 0, 1) := by decide +kernel
theorem dX11_start_50 : decode cX11_start 50 = .ok (.bipush 64, 2) := by decide +kernel
theorem dX11_start_52 : decode cX11_start 52 = .ok (.iload_n 1, 1) := by decide +kernel
theorem dX11_start_53 : decode cX11_start 53 = .ok (.imul, 1) := by decide +kernel
theorem dX11_start_54 : decode cX11_start 54 = .ok (.bipush 8, 2) := by decide +kernel
theorem dX11_start_56 : decode cX11_start 56 = .ok (.iload_n 2, 1) := by decide +kernel
theorem dX11_start_57 : decode cX11_start 57 = .ok (.imul, 1) := by decide +kernel
theorem dX11_start_58 : decode cX11_start 58 = .ok (.iadd, 1) := by decide +kernel
theorem dX11_start_59 : decode cX11_start 59 = .ok (.iload_n 3, 1) := by decide +kernel
theorem dX11_start_60 : decode cX11_start 60 = .ok (.iadd, 1) := by decide +kernel
theorem dX11_start_61 : decode cX11_start 61 = .ok (.iastore, 1) := by decide +kernel
theorem dX11_start_62 : decode cX11_start 62 = .ok (.aload_n 0, 1) := by decide +kernel
theorem dX11_start_63 : decode cX11_start 63 = .ok (.invokevirtual 35, 3) := by decide +kernel
theorem dX11_start_66 : decode cX11_start 66 = .ok (.iload 4, 2) := by decide +kernel
theorem dX11_start_68 : decode cX11_start 68 = .ok (.ireturn, 1) := by decide +kernel
theorem dX11_wrap_0 : decode cX11_wrap 0 = .ok (.iload_n 1, 1) := by decide +kernel
theorem dX11_wrap_1 : decode cX11_wrap 1 = .ok (.iconst 0, 1) := by decide +kernel
theorem dX11_wrap_2 : decode cX11_wrap 2 = .ok (.iconst 1, 1) := by decide +kernel
theorem dX11_wrap_3 : decode cX11_wrap 3 = .ok (.invokestatic 46, 3) := by decide +kernel
theorem dX11_wrap_6 : decode cX11_wrap 6 = .ok (.ifCond .ne 6, 3) := by decide +kernel
theorem dX11_wrap_9 : decode cX11_wrap 9 = .ok (.bipush (-2), 2) := by decide +kernel
theorem dX11_wrap_11 : decode cX11_wrap 11 = .ok (.ireturn, 1) := by decide +kernel
theorem dX11_wrap_12 : decode cX11_wrap 12 = .ok (.aload_n 0, 1) := by decide +kernel
theorem dX11_wrap_13 : decode cX11_wrap 13 = .ok (.invokevirtual 58, 3) := by decide +kernel
theorem dX11_wrap_16 : decode cX11_wrap 16 = .ok (.aload_n 0, 1) := by decide +kernel
theorem dX11_wrap_17 : decode cX11_wrap 17 = .ok (.getfield 7, 3) := by decide +kernel
theorem dX11_wrap_20 : decode cX11_wrap 20 = .ok (.iconst 1, 1) := by decide +kernel
theorem dX11_wrap_21 : decode cX11_wrap 21 = .ok (.iaload, 1) := by decide +kernel
theorem dX11_wrap_22 : decode cX11_wrap 22 = .ok (.istore_n 2, 1) := by decide +kernel
theorem dX11_wrap_23 : decode cX11_wrap 23 = .ok (.aload_n 0, 1) := by decide +kernel
theorem dX11_wrap_24 : decode cX11_wrap 24 = .ok (.getfield 7, 3) := by decide +kernel
theorem dX11_wrap_27 : decode cX11_wrap 27 = .ok (.iconst 1, 1) := by decide +kernel
theorem dX11_wrap_28 : decode cX11_wrap 28 = .ok (.iload_n 1, 1) := by decide +kernel
theorem dX11_wrap_29 : decode cX11_wrap 29 = .ok (.iastore, 1) := by decide +kernel
theorem dX11_wrap_30 : decode cX11_wrap 30 = .ok (.aload_n 0, 1) := by decide +kernel
theorem dX11_wrap_31 : decode cX11_wrap 31 = .ok (.invokevirtual 35, 3) := by decide +kernel
theorem dX11_wrap_34 : decode cX11_wrap 34 = .ok (.iload_n 2, 1) := by decide +kernel
theorem dX11_wrap_35 : decode cX11_wrap 35 = .ok (.ireturn, 1) := by decide +kernel
theorem dX11_isAction_0 : decode cX11_isAction 0 = .ok (.iload_n 0, 1) := by decide +kernel
theorem dX11_isAction_1 : decode cX11_isAction 1 = .ok (.iconst 0, 1) := by decide +kernel
theorem dX11_isAction_2 : decode cX11_isAction 2 = .ok (.iconst 2, 1) := by decide +kernel
theorem dX11_isAction_3 : decode cX11_isAction 3 = .ok (.invokestatic 46, 3) := by decide +kernel
theorem dX11_isAction_6 : decode cX11_isAction 6 = .ok (.ifCond .eq 21, 3) := by decide +kernel
theorem dX11_isAction_9 : decode cX11_isAction 9 = .ok (.iload_n 1, 1) := by decide +kernel
theorem dX11_isAction_10 : decode cX11_isAction 10 = .ok (.iconst 0, 1) := by decide +kernel
theorem dX11_isAction_11 : decode cX11_isAction 11 = .ok (.iconst 2, 1) := by decide +kernel
theorem dX11_isAction_12 : decode cX11_isAction 12 = .ok (.invokestatic 46, 3) := by decide +kernel
theorem dX11_isAction_15 : decode cX11_isAction 15 = .ok (.ifCond .eq 12, 3) := by decide +kernel
theorem dX11_isAction_18 : decode cX11_isAction 18 = .ok (.iload_n 2, 1) := by decide +kernel
theorem dX11_isAction_19 : decode cX11_isAction 19 = .ok (.iconst 0, 1) := by decide +kernel
theorem dX11_isAction_20 : decode cX11_isAction 20 = .ok (.iconst 2, 1) := by decide +kernel
theorem dX11_isAction_21 : decode cX11_isAction 21 = .ok (.invokestatic 46, 3) := by decide +kernel
theorem dX11_isAction_24 : decode cX11_isAction 24 = .ok (.ifCond .ne 5, 3) := by decide +kernel
theorem dX11_isAction_27 : decode cX11_isAction 27 = .ok (.iconst 0, 1) := by decide +kernel
theorem dX11_isAction_28 : decode cX11_isAction 28 = .ok (.ireturn, 1) := by decide +kernel
theorem dX11_isAction_29 : decode cX11_isAction 29 = .ok (.iload_n 0, 1) := by decide +kernel
theorem dX11_isAction_30 : decode cX11_isAction 30 = .ok (.ifCond .ne 25, 3) := by decide +kernel
theorem dX11_isAction_33 : decode cX11_isAction 33 = .ok (.iload_n 2, 1) := by decide +kernel
theorem dX11_isAction_34 : decode cX11_isAction 34 = .ok (.ifCond .ne 17, 3) := by decide +kernel
theorem dX11_isAction_37 : decode cX11_isAction 37 = .ok (.iload_n 3, 1) := by decide +kernel
theorem dX11_isAction_38 : decode cX11_isAction 38 = .ok (.iconst 0, 1) := by decide +kernel
theorem dX11_isAction_39 : decode cX11_isAction 39 = .ok (.bipush 7, 2) := by decide +kernel
theorem dX11_isAction_41 : decode cX11_isAction 41 = .ok (.invokestatic 46, 3) := by decide +kernel
theorem dX11_isAction_44 : decode cX11_isAction 44 = .ok (.ifCond .eq 7, 3) := by decide +kernel
theorem dX11_isAction_47 : decode cX11_isAction 47 = .ok (.iconst 1, 1) := by decide +kernel
theorem dX11_isAction_48 : decode cX11_isAction 48 = .ok (.goto 37, 3) := by decide +kernel
theorem dX11_isAction_51 : decode cX11_isAction 51 = .ok (.iconst 0, 1) := by decide +kernel
theorem dX11_isAction_52 : decode cX11_isAction 52 = .ok (.goto 33, 3) := by decide +kernel
theorem dX11_isAction_55 : decode cX11_isAction 55 = .ok (.iload_n 0, 1) := by decide +kernel
theorem dX11_isAction_56 : decode cX11_isAction 56 = .ok (.iconst 1, 1) := by decide +kernel
theorem dX11_isAction_57 : decode cX11_isAction 57 = .ok (.if_icmp .ne 14, 3) := by decide +kernel
theorem dX11_isAction_60 : decode cX11_isAction 60 = .ok (.iload_n 3, 1) := by decide +kernel
theorem dX11_isAction_61 : decode cX11_isAction 61 = .ok (.bipush (-7), 2) := by decide +kernel
theorem dX11_isAction_63 : decode cX11_isAction 63 = .ok (.bipush 7, 2) := by decide +kernel
theorem dX11_isAction_65 : decode cX11_isAction 65 = .ok (.invokestatic 46, 3) := by decide +kernel
theorem dX11_isAction_68 : decode cX11_isAction 68 = .ok (.goto 17, 3) := by decide +kernel
theorem dX11_isAction_71 : decode cX11_isAction 71 = .ok (.iload_n 2, 1) := by decide +kernel
theorem dX11_isAction_72 : decode cX11_isAction 72 = .ok (.iload_n 1, 1) := by decide +kernel
theorem dX11_isAction_73 : decode cX11_isAction 73 = .ok (.if_icmp .eq 11, 3) := by decide +kernel
theorem dX11_isAction_76 : decode cX11_isAction 76 = .ok (.iload_n 3, 1) := by decide +kernel
theorem dX11_isAction_77 : decode cX11_isAction 77 = .ok (.ifCond .ne 7, 3) := by decide +kernel
theorem dX11_isAction_80 : decode cX11_isAction 80 = .ok (.iconst 1, 1) := by decide +kernel
theorem dX11_isAction_81 : decode cX11_isAction 81 = .ok (.goto 4, 3) := by decide +kernel
theorem dX11_isAction_84 : decode cX11_isAction 84 = .ok (.iconst 0, 1) := by decide +kernel
theorem dX11_isAction_85 : decode cX11_isAction 85 = .ok (.ireturn, 1) := by decide +kernel
theorem dX11_step_0 : decode cX11_step 0 = .ok (.iload_n 1, 1) := by decide +kernel
theorem dX11_step_1 : decode cX11_step 1 = .ok (.invokestatic 86, 3) := by decide +kernel
theorem dX11_step_4 : decode cX11_step 4 = .ok (.ifCond .eq 15, 3) := by decide +kernel
theorem dX11_step_7 : decode cX11_step 7 = .ok (.iload_n 2, 1) := by decide +kernel
theorem dX11_step_8 : decode cX11_step 8 = .ok (.iload_n 3, 1) := by decide +kernel
theorem dX11_step_9 : decode cX11_step 9 = .ok (.iload 4, 2) := by decide +kernel
theorem dX11_step_11 : decode cX11_step 11 = .ok (.iload 5, 2) := by decide +kernel
theorem dX11_step_13 : decode cX11_step 13 = .ok (.invokestatic 112, 3) := by decide +kernel
theorem dX11_step_16 : decode cX11_step 16 = .ok (.ifCond .ne 6, 3) := by decide +kernel
theorem dX11_step_19 : decode cX11_step 19 = .ok (.bipush (-2), 2) := by decide +kernel
theorem dX11_step_21 : decode cX11_step 21 = .ok (.ireturn, 1) := by decide +kernel
theorem dX11_step_22 : decode cX11_step 22 = .ok (.aload_n 0, 1) := by decide +kernel
theorem dX11_step_23 : decode cX11_step 23 = .ok (.getfield 7, 3) := by decide +kernel
theorem dX11_step_26 : decode cX11_step 26 = .ok (.iconst 2, 1) := by decide +kernel
theorem dX11_step_27 : decode cX11_step 27 = .ok (.iaload, 1) := by decide +kernel
theorem dX11_step_28 : decode cX11_step 28 = .ok (.istore 6, 2) := by decide +kernel
theorem dX11_step_30 : decode cX11_step 30 = .ok (.iload 6, 2) := by decide +kernel
theorem dX11_step_32 : decode cX11_step 32 = .ok (.bipush 8, 2) := by decide +kernel
theorem dX11_step_34 : decode cX11_step 34 = .ok (.if_icmp .ne 6, 3) := by decide +kernel
theorem dX11_step_37 : decode cX11_step 37 = .ok (.bipush (-4), 2) := by decide +kernel
theorem dX11_step_39 : decode cX11_step 39 = .ok (.ireturn, 1) := by decide +kernel
theorem dX11_step_40 : decode cX11_step 40 = .ok (.aload_n 0, 1) := by decide +kernel
theorem dX11_step_41 : decode cX11_step 41 = .ok (.invokevirtual 58, 3) := by decide +kernel
theorem dX11_step_44 : decode cX11_step 44 = .ok (.bipush 7, 2) := by decide +kernel
theorem dX11_step_46 : decode cX11_step 46 = .ok (.iconst 5, 1) := by decide +kernel
theorem dX11_step_47 : decode cX11_step 47 = .ok (.iload 6, 2) := by decide +kernel
theorem dX11_step_49 : decode cX11_step 49 = .ok (.imul, 1) := by decide +kernel
theorem dX11_step_50 : decode cX11_step 50 = .ok (.iadd, 1) := by decide +kernel
theorem dX11_step_51 : decode cX11_step 51 = .ok (.istore 7, 2) := by decide +kernel
theorem dX11_step_53 : decode cX11_step 53 = .ok (.aload_n 0, 1) := by decide +kernel
theorem dX11_step_54 : decode cX11_step 54 = .ok (.getfield 7, 3) := by decide +kernel
theorem dX11_step_57 : decode cX11_step 57 = .ok (.iload 7, 2) := by decide +kernel
theorem dX11_step_59 : decode cX11_step 59 = .ok (.iload_n 1, 1) := by decide +kernel
theorem dX11_step_60 : decode cX11_step 60 = .ok (.iastore, 1) := by decide +kernel
theorem dX11_step_61 : decode cX11_step 61 = .ok (.aload_n 0, 1) := by decide +kernel
theorem dX11_step_62 : decode cX11_step 62 = .ok (.getfield 7, 3) := by decide +kernel
theorem dX11_step_65 : decode cX11_step 65 = .ok (.iload 7, 2) := by decide +kernel
theorem dX11_step_67 : decode cX11_step 67 = .ok (.iconst 1, 1) := by decide +kernel
theorem dX11_step_68 : decode cX11_step 68 = .ok (.iadd, 1) := by decide +kernel
theorem dX11_step_69 : decode cX11_step 69 = .ok (.iload_n 2, 1) := by decide +kernel
theorem dX11_step_70 : decode cX11_step 70 = .ok (.iastore, 1) := by decide +kernel
theorem dX11_step_71 : decode cX11_step 71 = .ok (.aload_n 0, 1) := by decide +kernel
theorem dX11_step_72 : decode cX11_step 72 = .ok (.getfield 7, 3) := by decide +kernel
theorem dX11_step_75 : decode cX11_step 75 = .ok (.iload 7, 2) := by decide +kernel
theorem dX11_step_77 : decode cX11_step 77 = .ok (.iconst 2, 1) := by decide +kernel
theorem dX11_step_78 : decode cX11_step 78 = .ok (.iadd, 1) := by decide +kernel
theorem dX11_step_79 : decode cX11_step 79 = .ok (.iload_n 3, 1) := by decide +kernel
theorem dX11_step_80 : decode cX11_step 80 = .ok (.iastore, 1) := by decide +kernel
theorem dX11_step_81 : decode cX11_step 81 = .ok (.aload_n 0, 1) := by decide +kernel
theorem dX11_step_82 : decode cX11_step 82 = .ok (.getfield 7, 3) := by decide +kernel
theorem dX11_step_85 : decode cX11_step 85 = .ok (.iload 7, 2) := by decide +kernel
theorem dX11_step_87 : decode cX11_step 87 = .ok (.iconst 3, 1) := by decide +kernel
theorem dX11_step_88 : decode cX11_step 88 = .ok (.iadd, 1) := by decide +kernel
theorem dX11_step_89 : decode cX11_step 89 = .ok (.iload 4, 2) := by decide +kernel
theorem dX11_step_91 : decode cX11_step 91 = .ok (.iastore, 1) := by decide +kernel
theorem dX11_step_92 : decode cX11_step 92 = .ok (.aload_n 0, 1) := by decide +kernel
theorem dX11_step_93 : decode cX11_step 93 = .ok (.getfield 7, 3) := by decide +kernel
theorem dX11_step_96 : decode cX11_step 96 = .ok (.iload 7, 2) := by decide +kernel
theorem dX11_step_98 : decode cX11_step 98 = .ok (.iconst 4, 1) := by decide +kernel
theorem dX11_step_99 : decode cX11_step 99 = .ok (.iadd, 1) := by decide +kernel
theorem dX11_step_100 : decode cX11_step 100 = .ok (.iload 5, 2) := by decide +kernel
theorem dX11_step_102 : decode cX11_step 102 = .ok (.iastore, 1) := by decide +kernel
theorem dX11_step_103 : decode cX11_step 103 = .ok (.aload_n 0, 1) := by decide +kernel
theorem dX11_step_104 : decode cX11_step 104 = .ok (.getfield 7, 3) := by decide +kernel
theorem dX11_step_107 : decode cX11_step 107 = .ok (.iconst 2, 1) := by decide +kernel
theorem dX11_step_108 : decode cX11_step 108 = .ok (.dup2, 1) := by decide +kernel
theorem dX11_step_109 : decode cX11_step 109 = .ok (.iaload, 1) := by decide +kernel
theorem dX11_step_110 : decode cX11_step 110 = .ok (.iconst 1, 1) := by decide +kernel
theorem dX11_step_111 : decode cX11_step 111 = .ok (.iadd, 1) := by decide +kernel
theorem dX11_step_112 : decode cX11_step 112 = .ok (.iastore, 1) := by decide +kernel
theorem dX11_step_113 : decode cX11_step 113 = .ok (.aload_n 0, 1) := by decide +kernel
theorem dX11_step_114 : decode cX11_step 114 = .ok (.invokevirtual 35, 3) := by decide +kernel
theorem dX11_step_117 : decode cX11_step 117 = .ok (.iload 6, 2) := by decide +kernel
theorem dX11_step_119 : decode cX11_step 119 = .ok (.ireturn, 1) := by decide +kernel
theorem dX11_isStep_0 : decode cX11_isStep 0 = .ok (.iload_n 1, 1) := by decide +kernel
theorem dX11_isStep_1 : decode cX11_isStep 1 = .ok (.iconst 0, 1) := by decide +kernel
theorem dX11_isStep_2 : decode cX11_isStep 2 = .ok (.aload_n 0, 1) := by decide +kernel
theorem dX11_isStep_3 : decode cX11_isStep 3 = .ok (.getfield 7, 3) := by decide +kernel
theorem dX11_isStep_6 : decode cX11_isStep 6 = .ok (.iconst 2, 1) := by decide +kernel
theorem dX11_isStep_7 : decode cX11_isStep 7 = .ok (.iaload, 1) := by decide +kernel
theorem dX11_isStep_8 : decode cX11_isStep 8 = .ok (.iconst 1, 1) := by decide +kernel
theorem dX11_isStep_9 : decode cX11_isStep 9 = .ok (.isub, 1) := by decide +kernel
theorem dX11_isStep_10 : decode cX11_isStep 10 = .ok (.invokestatic 46, 3) := by decide +kernel
theorem dX11_isStep_13 : decode cX11_isStep 13 = .ok (.ireturn, 1) := by decide +kernel
theorem dX11_drop_0 : decode cX11_drop 0 = .ok (.aload_n 0, 1) := by decide +kernel
theorem dX11_drop_1 : decode cX11_drop 1 = .ok (.iload_n 1, 1) := by decide +kernel
theorem dX11_drop_2 : decode cX11_drop 2 = .ok (.invokevirtual 115, 3) := by decide +kernel
theorem dX11_drop_5 : decode cX11_drop 5 = .ok (.ifCond .ne 5, 3) := by decide +kernel
theorem dX11_drop_8 : decode cX11_drop 8 = .ok (.iconst (-1), 1) := by decide +kernel
theorem dX11_drop_9 : decode cX11_drop 9 = .ok (.ireturn, 1) := by decide +kernel
theorem dX11_drop_10 : decode cX11_drop 10 = .ok (.aload_n 0, 1) := by decide +kernel
theorem dX11_drop_11 : decode cX11_drop 11 = .ok (.invokevirtual 58, 3) := by decide +kernel
theorem dX11_drop_14 : decode cX11_drop 14 = .ok (.aload_n 0, 1) := by decide +kernel
theorem dX11_drop_15 : decode cX11_drop 15 = .ok (.getfield 7, 3) := by decide +kernel
theorem dX11_drop_18 : decode cX11_drop 18 = .ok (.iconst 2, 1) := by decide +kernel
theorem dX11_drop_19 : decode cX11_drop 19 = .ok (.dup2, 1) := by decide +kernel
theorem dX11_drop_20 : decode cX11_drop 20 = .ok (.iaload, 1) := by decide +kernel
theorem dX11_drop_21 : decode cX11_drop 21 = .ok (.iconst 1, 1) := by decide +kernel
theorem dX11_drop_22 : decode cX11_drop 22 = .ok (.isub, 1) := by decide +kernel
theorem dX11_drop_23 : decode cX11_drop 23 = .ok (.iastore, 1) := by decide +kernel
theorem dX11_drop_24 : decode cX11_drop 24 = .ok (.bipush 7, 2) := by decide +kernel
theorem dX11_drop_26 : decode cX11_drop 26 = .ok (.iconst 5, 1) := by decide +kernel
theorem dX11_drop_27 : decode cX11_drop 27 = .ok (.iload_n 1, 1) := by decide +kernel
theorem dX11_drop_28 : decode cX11_drop 28 = .ok (.imul, 1) := by decide +kernel
theorem dX11_drop_29 : decode cX11_drop 29 = .ok (.iadd, 1) := by decide +kernel
theorem dX11_drop_30 : decode cX11_drop 30 = .ok (.istore_n 2, 1) := by decide +kernel
theorem dX11_drop_31 : decode cX11_drop 31 = .ok (.iload_n 2, 1) := by decide +kernel
theorem dX11_drop_32 : decode cX11_drop 32 = .ok (.bipush 7, 2) := by decide +kernel
theorem dX11_drop_34 : decode cX11_drop 34 = .ok (.iconst 5, 1) := by decide +kernel
theorem dX11_drop_35 : decode cX11_drop 35 = .ok (.aload_n 0, 1) := by decide +kernel
theorem dX11_drop_36 : decode cX11_drop 36 = .ok (.getfield 7, 3) := by decide +kernel
theorem dX11_drop_39 : decode cX11_drop 39 = .ok (.iconst 2, 1) := by decide +kernel
theorem dX11_drop_40 : decode cX11_drop 40 = .ok (.iaload, 1) := by decide +kernel
theorem dX11_drop_41 : decode cX11_drop 41 = .ok (.imul, 1) := by decide +kernel
theorem dX11_drop_42 : decode cX11_drop 42 = .ok (.iadd, 1) := by decide +kernel
theorem dX11_drop_43 : decode cX11_drop 43 = .ok (.if_icmp .ge 23, 3) := by decide +kernel
theorem dX11_drop_46 : decode cX11_drop 46 = .ok (.aload_n 0, 1) := by decide +kernel
theorem dX11_drop_47 : decode cX11_drop 47 = .ok (.getfield 7, 3) := by decide +kernel
theorem dX11_drop_50 : decode cX11_drop 50 = .ok (.iload_n 2, 1) := by decide +kernel
theorem dX11_drop_51 : decode cX11_drop 51 = .ok (.aload_n 0, 1) := by decide +kernel
theorem dX11_drop_52 : decode cX11_drop 52 = .ok (.getfield 7, 3) := by decide +kernel
theorem dX11_drop_55 : decode cX11_drop 55 = .ok (.iload_n 2, 1) := by decide +kernel
theorem dX11_drop_56 : decode cX11_drop 56 = .ok (.iconst 5, 1) := by decide +kernel
theorem dX11_drop_57 : decode cX11_drop 57 = .ok (.iadd, 1) := by decide +kernel
theorem dX11_drop_58 : decode cX11_drop 58 = .ok (.iaload, 1) := by decide +kernel
theorem dX11_drop_59 : decode cX11_drop 59 = .ok (.iastore, 1) := by decide +kernel
theorem dX11_drop_60 : decode cX11_drop 60 = .ok (.iinc 2 1, 3) := by decide +kernel
theorem dX11_drop_63 : decode cX11_drop 63 = .ok (.goto (-32), 3) := by decide +kernel
theorem dX11_drop_66 : decode cX11_drop 66 = .ok (.aload_n 0, 1) := by decide +kernel
theorem dX11_drop_67 : decode cX11_drop 67 = .ok (.invokevirtual 35, 3) := by decide +kernel
theorem dX11_drop_70 : decode cX11_drop 70 = .ok (.aload_n 0, 1) := by decide +kernel
theorem dX11_drop_71 : decode cX11_drop 71 = .ok (.getfield 7, 3) := by decide +kernel
theorem dX11_drop_74 : decode cX11_drop 74 = .ok (.iconst 2, 1) := by decide +kernel
theorem dX11_drop_75 : decode cX11_drop 75 = .ok (.iaload, 1) := by decide +kernel
theorem dX11_drop_76 : decode cX11_drop 76 = .ok (.ireturn, 1) := by decide +kernel
theorem dX11_isThere_0 : decode cX11_isThere 0 = .ok (.iconst 0, 1) := by decide +kernel
theorem dX11_isThere_1 : decode cX11_isThere 1 = .ok (.istore_n 2, 1) := by decide +kernel
theorem dX11_isThere_2 : decode cX11_isThere 2 = .ok (.iconst 0, 1) := by decide +kernel
theorem dX11_isThere_3 : decode cX11_isThere 3 = .ok (.istore_n 3, 1) := by decide +kernel
theorem dX11_isThere_4 : decode cX11_isThere 4 = .ok (.iload_n 3, 1) := by decide +kernel
theorem dX11_isThere_5 : decode cX11_isThere 5 = .ok (.aload_n 0, 1) := by decide +kernel
theorem dX11_isThere_6 : decode cX11_isThere 6 = .ok (.getfield 7, 3) := by decide +kernel
theorem dX11_isThere_9 : decode cX11_isThere 9 = .ok (.iconst 3, 1) := by decide +kernel
theorem dX11_isThere_10 : decode cX11_isThere 10 = .ok (.iaload, 1) := by decide +kernel
theorem dX11_isThere_11 : decode cX11_isThere 11 = .ok (.if_icmp .ge 29, 3) := by decide +kernel
theorem dX11_isThere_14 : decode cX11_isThere 14 = .ok (.iload_n 2, 1) := by decide +kernel
theorem dX11_isThere_15 : decode cX11_isThere 15 = .ok (.ifCond .ne 13, 3) := by decide +kernel
theorem dX11_isThere_18 : decode cX11_isThere 18 = .ok (.aload_n 0, 1) := by decide +kernel
theorem dX11_isThere_19 : decode cX11_isThere 19 = .ok (.iload_n 3, 1) := by decide +kernel
theorem dX11_isThere_20 : decode cX11_isThere 20 = .ok (.iconst 0, 1) := by decide +kernel
theorem dX11_isThere_21 : decode cX11_isThere 21 = .ok (.invokevirtual 105, 3) := by decide +kernel
theorem dX11_isThere_24 : decode cX11_isThere 24 = .ok (.iload_n 1, 1) := by decide +kernel
theorem dX11_isThere_25 : decode cX11_isThere 25 = .ok (.if_icmp .ne 7, 3) := by decide +kernel
theorem dX11_isThere_28 : decode cX11_isThere 28 = .ok (.iconst 1, 1) := by decide +kernel
theorem dX11_isThere_29 : decode cX11_isThere 29 = .ok (.goto 4, 3) := by decide +kernel
theorem dX11_isThere_32 : decode cX11_isThere 32 = .ok (.iconst 0, 1) := by decide +kernel
theorem dX11_isThere_33 : decode cX11_isThere 33 = .ok (.istore_n 2, 1) := by decide +kernel
theorem dX11_isThere_34 : decode cX11_isThere 34 = .ok (.iinc 3 1, 3) := by decide +kernel
theorem dX11_isThere_37 : decode cX11_isThere 37 = .ok (.goto (-33), 3) := by decide +kernel
theorem dX11_isThere_40 : decode cX11_isThere 40 = .ok (.iload_n 2, 1) := by decide +kernel
theorem dX11_isThere_41 : decode cX11_isThere 41 = .ok (.ireturn, 1) := by decide +kernel
theorem dX11_comes_0 : decode cX11_comes 0 = .ok (.aload_n 0, 1) := by decide +kernel
theorem dX11_comes_1 : decode cX11_comes 1 = .ok (.getfield 7, 3) := by decide +kernel
theorem dX11_comes_4 : decode cX11_comes 4 = .ok (.bipush 47, 2) := by decide +kernel
theorem dX11_comes_6 : decode cX11_comes 6 = .ok (.iconst 5, 1) := by decide +kernel
theorem dX11_comes_7 : decode cX11_comes 7 = .ok (.aload_n 0, 1) := by decide +kernel
theorem dX11_comes_8 : decode cX11_comes 8 = .ok (.getfield 7, 3) := by decide +kernel
theorem dX11_comes_11 : decode cX11_comes 11 = .ok (.iconst 3, 1) := by decide +kernel
theorem dX11_comes_12 : decode cX11_comes 12 = .ok (.iaload, 1) := by decide +kernel
theorem dX11_comes_13 : decode cX11_comes 13 = .ok (.imul, 1) := by decide +kernel
theorem dX11_comes_14 : decode cX11_comes 14 = .ok (.iadd, 1) := by decide +kernel
theorem dX11_comes_15 : decode cX11_comes 15 = .ok (.iload_n 1, 1) := by decide +kernel
theorem dX11_comes_16 : decode cX11_comes 16 = .ok (.iastore, 1) := by decide +kernel
theorem dX11_comes_17 : decode cX11_comes 17 = .ok (.aload_n 0, 1) := by decide +kernel
theorem dX11_comes_18 : decode cX11_comes 18 = .ok (.getfield 7, 3) := by decide +kernel
theorem dX11_comes_21 : decode cX11_comes 21 = .ok (.iconst 3, 1) := by decide +kernel
theorem dX11_comes_22 : decode cX11_comes 22 = .ok (.dup2, 1) := by decide +kernel
theorem dX11_comes_23 : decode cX11_comes 23 = .ok (.iaload, 1) := by decide +kernel
theorem dX11_comes_24 : decode cX11_comes 24 = .ok (.iconst 1, 1) := by decide +kernel
theorem dX11_comes_25 : decode cX11_comes 25 = .ok (.iadd, 1) := by decide +kernel
theorem dX11_comes_26 : decode cX11_comes 26 = .ok (.iastore, 1) := by decide +kernel
theorem dX11_comes_27 : decode cX11_comes 27 = .ok (.aload_n 0, 1) := by decide +kernel
theorem dX11_comes_28 : decode cX11_comes 28 = .ok (.aload_n 0, 1) := by decide +kernel
theorem dX11_comes_29 : decode cX11_comes 29 = .ok (.getfield 7, 3) := by decide +kernel
theorem dX11_comes_32 : decode cX11_comes 32 = .ok (.iconst 3, 1) := by decide +kernel
theorem dX11_comes_33 : decode cX11_comes 33 = .ok (.iaload, 1) := by decide +kernel
theorem dX11_comes_34 : decode cX11_comes 34 = .ok (.iconst 1, 1) := by decide +kernel
theorem dX11_comes_35 : decode cX11_comes 35 = .ok (.isub, 1) := by decide +kernel
theorem dX11_comes_36 : decode cX11_comes 36 = .ok (.invokevirtual 108, 3) := by decide +kernel
theorem dX11_comes_39 : decode cX11_comes 39 = .ok (.return_, 1) := by decide +kernel
theorem dX11_candidate_0 : decode cX11_candidate 0 = .ok (.iload_n 1, 1) := by decide +kernel
theorem dX11_candidate_1 : decode cX11_candidate 1 = .ok (.invokestatic 86, 3) := by decide +kernel
theorem dX11_candidate_4 : decode cX11_candidate 4 = .ok (.ifCond .ne 6, 3) := by decide +kernel
theorem dX11_candidate_7 : decode cX11_candidate 7 = .ok (.bipush (-2), 2) := by decide +kernel
theorem dX11_candidate_9 : decode cX11_candidate 9 = .ok (.ireturn, 1) := by decide +kernel
theorem dX11_candidate_10 : decode cX11_candidate 10 = .ok (.aload_n 0, 1) := by decide +kernel
theorem dX11_candidate_11 : decode cX11_candidate 11 = .ok (.getfield 7, 3) := by decide +kernel
theorem dX11_candidate_14 : decode cX11_candidate 14 = .ok (.iconst 3, 1) := by decide +kernel
theorem dX11_candidate_15 : decode cX11_candidate 15 = .ok (.iaload, 1) := by decide +kernel
theorem dX11_candidate_16 : decode cX11_candidate 16 = .ok (.bipush 40, 2) := by decide +kernel
theorem dX11_candidate_18 : decode cX11_candidate 18 = .ok (.if_icmp .ne 6, 3) := by decide +kernel
theorem dX11_candidate_21 : decode cX11_candidate 21 = .ok (.bipush (-4), 2) := by decide +kernel
theorem dX11_candidate_23 : decode cX11_candidate 23 = .ok (.ireturn, 1) := by decide +kernel
theorem dX11_candidate_24 : decode cX11_candidate 24 = .ok (.aload_n 0, 1) := by decide +kernel
theorem dX11_candidate_25 : decode cX11_candidate 25 = .ok (.iload_n 1, 1) := by decide +kernel
theorem dX11_candidate_26 : decode cX11_candidate 26 = .ok (.invokevirtual 118, 3) := by decide +kernel
theorem dX11_candidate_29 : decode cX11_candidate 29 = .ok (.ifCond .eq 6, 3) := by decide +kernel
theorem dX11_candidate_32 : decode cX11_candidate 32 = .ok (.bipush (-5), 2) := by decide +kernel
theorem dX11_candidate_34 : decode cX11_candidate 34 = .ok (.ireturn, 1) := by decide +kernel
theorem dX11_candidate_35 : decode cX11_candidate 35 = .ok (.aload_n 0, 1) := by decide +kernel
theorem dX11_candidate_36 : decode cX11_candidate 36 = .ok (.invokevirtual 58, 3) := by decide +kernel
theorem dX11_candidate_39 : decode cX11_candidate 39 = .ok (.aload_n 0, 1) := by decide +kernel
theorem dX11_candidate_40 : decode cX11_candidate 40 = .ok (.iload_n 1, 1) := by decide +kernel
theorem dX11_candidate_41 : decode cX11_candidate 41 = .ok (.invokevirtual 121, 3) := by decide +kernel
theorem dX11_candidate_44 : decode cX11_candidate 44 = .ok (.aload_n 0, 1) := by decide +kernel
theorem dX11_candidate_45 : decode cX11_candidate 45 = .ok (.getfield 7, 3) := by decide +kernel
theorem dX11_candidate_48 : decode cX11_candidate 48 = .ok (.iconst 3, 1) := by decide +kernel
theorem dX11_candidate_49 : decode cX11_candidate 49 = .ok (.iaload, 1) := by decide +kernel
theorem dX11_candidate_50 : decode cX11_candidate 50 = .ok (.iconst 1, 1) := by decide +kernel
theorem dX11_candidate_51 : decode cX11_candidate 51 = .ok (.isub, 1) := by decide +kernel
theorem dX11_candidate_52 : decode cX11_candidate 52 = .ok (.ireturn, 1) := by decide +kernel
theorem dX11_isSeenSo_0 : decode cX11_isSeenSo 0 = .ok (.iconst 1, 1) := by decide +kernel
theorem dX11_isSeenSo_1 : decode cX11_isSeenSo 1 = .ok (.istore_n 2, 1) := by decide +kernel
theorem dX11_isSeenSo_2 : decode cX11_isSeenSo 2 = .ok (.iconst 0, 1) := by decide +kernel
theorem dX11_isSeenSo_3 : decode cX11_isSeenSo 3 = .ok (.istore_n 3, 1) := by decide +kernel
theorem dX11_isSeenSo_4 : decode cX11_isSeenSo 4 = .ok (.iload_n 3, 1) := by decide +kernel
theorem dX11_isSeenSo_5 : decode cX11_isSeenSo 5 = .ok (.aload_n 0, 1) := by decide +kernel
theorem dX11_isSeenSo_6 : decode cX11_isSeenSo 6 = .ok (.getfield 7, 3) := by decide +kernel
theorem dX11_isSeenSo_9 : decode cX11_isSeenSo 9 = .ok (.iconst 4, 1) := by decide +kernel
theorem dX11_isSeenSo_10 : decode cX11_isSeenSo 10 = .ok (.iaload, 1) := by decide +kernel
theorem dX11_isSeenSo_11 : decode cX11_isSeenSo 11 = .ok (.if_icmp .ge 28, 3) := by decide +kernel
theorem dX11_isSeenSo_14 : decode cX11_isSeenSo 14 = .ok (.iload_n 2, 1) := by decide +kernel
theorem dX11_isSeenSo_15 : decode cX11_isSeenSo 15 = .ok (.ifCond .eq 24, 3) := by decide +kernel
theorem dX11_isSeenSo_18 : decode cX11_isSeenSo 18 = .ok (.iload_n 1, 1) := by decide +kernel
theorem dX11_isSeenSo_19 : decode cX11_isSeenSo 19 = .ok (.aload_n 0, 1) := by decide +kernel
theorem dX11_isSeenSo_20 : decode cX11_isSeenSo 20 = .ok (.getfield 7, 3) := by decide +kernel
theorem dX11_isSeenSo_23 : decode cX11_isSeenSo 23 = .ok (.sipush 247, 3) := by decide +kernel
theorem dX11_isSeenSo_26 : decode cX11_isSeenSo 26 = .ok (.iload_n 3, 1) := by decide +kernel
theorem dX11_isSeenSo_27 : decode cX11_isSeenSo 27 = .ok (.iadd, 1) := by decide +kernel
theorem dX11_isSeenSo_28 : decode cX11_isSeenSo 28 = .ok (.iaload, 1) := by decide +kernel
theorem dX11_isSeenSo_29 : decode cX11_isSeenSo 29 = .ok (.invokestatic 90, 3) := by decide +kernel
theorem dX11_isSeenSo_32 : decode cX11_isSeenSo 32 = .ok (.istore_n 2, 1) := by decide +kernel
theorem dX11_isSeenSo_33 : decode cX11_isSeenSo 33 = .ok (.iinc 3 1, 3) := by decide +kernel
theorem dX11_isSeenSo_36 : decode cX11_isSeenSo 36 = .ok (.goto (-32), 3) := by decide +kernel
theorem dX11_isSeenSo_39 : decode cX11_isSeenSo 39 = .ok (.iload_n 2, 1) := by decide +kernel
theorem dX11_isSeenSo_40 : decode cX11_isSeenSo 40 = .ok (.ireturn, 1) := by decide +kernel
theorem dX11_guess_0 : decode cX11_guess 0 = .ok (.iload_n 1, 1) := by decide +kernel
theorem dX11_guess_1 : decode cX11_guess 1 = .ok (.iconst 1, 1) := by decide +kernel
theorem dX11_guess_2 : decode cX11_guess 2 = .ok (.bipush 9, 2) := by decide +kernel
theorem dX11_guess_4 : decode cX11_guess 4 = .ok (.invokestatic 46, 3) := by decide +kernel
theorem dX11_guess_7 : decode cX11_guess 7 = .ok (.ifCond .ne 6, 3) := by decide +kernel
theorem dX11_guess_10 : decode cX11_guess 10 = .ok (.bipush (-2), 2) := by decide +kernel
theorem dX11_guess_12 : decode cX11_guess 12 = .ok (.ireturn, 1) := by decide +kernel
theorem dX11_guess_13 : decode cX11_guess 13 = .ok (.aload_n 0, 1) := by decide +kernel
theorem dX11_guess_14 : decode cX11_guess 14 = .ok (.invokevirtual 58, 3) := by decide +kernel
theorem dX11_guess_17 : decode cX11_guess 17 = .ok (.iconst 0, 1) := by decide +kernel
theorem dX11_guess_18 : decode cX11_guess 18 = .ok (.istore_n 2, 1) := by decide +kernel
theorem dX11_guess_19 : decode cX11_guess 19 = .ok (.sipush 135, 3) := by decide +kernel
theorem dX11_guess_22 : decode cX11_guess 22 = .ok (.iload_n 1, 1) := by decide +kernel
theorem dX11_guess_23 : decode cX11_guess 23 = .ok (.imul, 1) := by decide +kernel
theorem dX11_guess_24 : decode cX11_guess 24 = .ok (.istore_n 3, 1) := by decide +kernel
theorem dX11_guess_25 : decode cX11_guess 25 = .ok (.iload_n 3, 1) := by decide +kernel
theorem dX11_guess_26 : decode cX11_guess 26 = .ok (.sipush 135, 3) := by decide +kernel
theorem dX11_guess_29 : decode cX11_guess 29 = .ok (.iload_n 1, 1) := by decide +kernel
theorem dX11_guess_30 : decode cX11_guess 30 = .ok (.imul, 1) := by decide +kernel
theorem dX11_guess_31 : decode cX11_guess 31 = .ok (.sipush 135, 3) := by decide +kernel
theorem dX11_guess_34 : decode cX11_guess 34 = .ok (.iadd, 1) := by decide +kernel
theorem dX11_guess_35 : decode cX11_guess 35 = .ok (.if_icmp .ge 51, 3) := by decide +kernel
theorem dX11_guess_38 : decode cX11_guess 38 = .ok (.aload_n 0, 1) := by decide +kernel
theorem dX11_guess_39 : decode cX11_guess 39 = .ok (.getfield 7, 3) := by decide +kernel
theorem dX11_guess_42 : decode cX11_guess 42 = .ok (.iconst 3, 1) := by decide +kernel
theorem dX11_guess_43 : decode cX11_guess 43 = .ok (.iaload, 1) := by decide +kernel
theorem dX11_guess_44 : decode cX11_guess 44 = .ok (.bipush 40, 2) := by decide +kernel
theorem dX11_guess_46 : decode cX11_guess 46 = .ok (.if_icmp .ge 40, 3) := by decide +kernel
theorem dX11_guess_49 : decode cX11_guess 49 = .ok (.iload_n 3, 1) := by decide +kernel
theorem dX11_guess_50 : decode cX11_guess 50 = .ok (.invokestatic 86, 3) := by decide +kernel
theorem dX11_guess_53 : decode cX11_guess 53 = .ok (.ifCond .eq 27, 3) := by decide +kernel
theorem dX11_guess_56 : decode cX11_guess 56 = .ok (.aload_n 0, 1) := by decide +kernel
theorem dX11_guess_57 : decode cX11_guess 57 = .ok (.iload_n 3, 1) := by decide +kernel
theorem dX11_guess_58 : decode cX11_guess 58 = .ok (.invokevirtual 118, 3) := by decide +kernel
theorem dX11_guess_61 : decode cX11_guess 61 = .ok (.ifCond .ne 19, 3) := by decide +kernel
theorem dX11_guess_64 : decode cX11_guess 64 = .ok (.aload_n 0, 1) := by decide +kernel
theorem dX11_guess_65 : decode cX11_guess 65 = .ok (.iload_n 3, 1) := by decide +kernel
theorem dX11_guess_66 : decode cX11_guess 66 = .ok (.invokevirtual 124, 3) := by decide +kernel
theorem dX11_guess_69 : decode cX11_guess 69 = .ok (.ifCond .eq 11, 3) := by decide +kernel
theorem dX11_guess_72 : decode cX11_guess 72 = .ok (.aload_n 0, 1) := by decide +kernel
theorem dX11_guess_73 : decode cX11_guess 73 = .ok (.iload_n 3, 1) := by decide +kernel
theorem dX11_guess_74 : decode cX11_guess 74 = .ok (.invokevirtual 121, 3) := by decide +kernel
theorem dX11_guess_77 : decode cX11_guess 77 = .ok (.iinc 2 1, 3) := by decide +kernel
theorem dX11_guess_80 : decode cX11_guess 80 = .ok (.iinc 3 1, 3) := by decide +kernel
theorem dX11_guess_83 : decode cX11_guess 83 = .ok (.goto (-58), 3) := by decide +kernel
theorem dX11_guess_86 : decode cX11_guess 86 = .ok (.iload_n 2, 1) := by decide +kernel
theorem dX11_guess_87 : decode cX11_guess 87 = .ok (.ireturn, 1) := by decide +kernel
theorem dX11_isSeen_0 : decode cX11_isSeen 0 = .ok (.iconst 0, 1) := by decide +kernel
theorem dX11_isSeen_1 : decode cX11_isSeen 1 = .ok (.istore_n 2, 1) := by decide +kernel
theorem dX11_isSeen_2 : decode cX11_isSeen 2 = .ok (.iconst 0, 1) := by decide +kernel
theorem dX11_isSeen_3 : decode cX11_isSeen 3 = .ok (.istore_n 3, 1) := by decide +kernel
theorem dX11_isSeen_4 : decode cX11_isSeen 4 = .ok (.iload_n 3, 1) := by decide +kernel
theorem dX11_isSeen_5 : decode cX11_isSeen 5 = .ok (.aload_n 0, 1) := by decide +kernel
theorem dX11_isSeen_6 : decode cX11_isSeen 6 = .ok (.getfield 7, 3) := by decide +kernel
theorem dX11_isSeen_9 : decode cX11_isSeen 9 = .ok (.iconst 4, 1) := by decide +kernel
theorem dX11_isSeen_10 : decode cX11_isSeen 10 = .ok (.iaload, 1) := by decide +kernel
theorem dX11_isSeen_11 : decode cX11_isSeen 11 = .ok (.if_icmp .ge 33, 3) := by decide +kernel
theorem dX11_isSeen_14 : decode cX11_isSeen 14 = .ok (.iload_n 2, 1) := by decide +kernel
theorem dX11_isSeen_15 : decode cX11_isSeen 15 = .ok (.ifCond .ne 29, 3) := by decide +kernel
theorem dX11_isSeen_18 : decode cX11_isSeen 18 = .ok (.aload_n 0, 1) := by decide +kernel
theorem dX11_isSeen_19 : decode cX11_isSeen 19 = .ok (.getfield 7, 3) := by decide +kernel
theorem dX11_isSeen_22 : decode cX11_isSeen 22 = .ok (.sipush 247, 3) := by decide +kernel
theorem dX11_isSeen_25 : decode cX11_isSeen 25 = .ok (.iload_n 3, 1) := by decide +kernel
theorem dX11_isSeen_26 : decode cX11_isSeen 26 = .ok (.iadd, 1) := by decide +kernel
theorem dX11_isSeen_27 : decode cX11_isSeen 27 = .ok (.iaload, 1) := by decide +kernel
theorem dX11_isSeen_28 : decode cX11_isSeen 28 = .ok (.iload_n 1, 1) := by decide +kernel
theorem dX11_isSeen_29 : decode cX11_isSeen 29 = .ok (.if_icmp .ne 7, 3) := by decide +kernel
theorem dX11_isSeen_32 : decode cX11_isSeen 32 = .ok (.iconst 1, 1) := by decide +kernel
theorem dX11_isSeen_33 : decode cX11_isSeen 33 = .ok (.goto 4, 3) := by decide +kernel
theorem dX11_isSeen_36 : decode cX11_isSeen 36 = .ok (.iconst 0, 1) := by decide +kernel
theorem dX11_isSeen_37 : decode cX11_isSeen 37 = .ok (.istore_n 2, 1) := by decide +kernel
theorem dX11_isSeen_38 : decode cX11_isSeen 38 = .ok (.iinc 3 1, 3) := by decide +kernel
theorem dX11_isSeen_41 : decode cX11_isSeen 41 = .ok (.goto (-37), 3) := by decide +kernel
theorem dX11_isSeen_44 : decode cX11_isSeen 44 = .ok (.iload_n 2, 1) := by decide +kernel
theorem dX11_isSeen_45 : decode cX11_isSeen 45 = .ok (.ireturn, 1) := by decide +kernel
theorem dX11_sees_0 : decode cX11_sees 0 = .ok (.aload_n 0, 1) := by decide +kernel
theorem dX11_sees_1 : decode cX11_sees 1 = .ok (.getfield 7, 3) := by decide +kernel
theorem dX11_sees_4 : decode cX11_sees 4 = .ok (.sipush 247, 3) := by decide +kernel
theorem dX11_sees_7 : decode cX11_sees 7 = .ok (.aload_n 0, 1) := by decide +kernel
theorem dX11_sees_8 : decode cX11_sees 8 = .ok (.getfield 7, 3) := by decide +kernel
theorem dX11_sees_11 : decode cX11_sees 11 = .ok (.iconst 4, 1) := by decide +kernel
theorem dX11_sees_12 : decode cX11_sees 12 = .ok (.iaload, 1) := by decide +kernel
theorem dX11_sees_13 : decode cX11_sees 13 = .ok (.iadd, 1) := by decide +kernel
theorem dX11_sees_14 : decode cX11_sees 14 = .ok (.iload_n 1, 1) := by decide +kernel
theorem dX11_sees_15 : decode cX11_sees 15 = .ok (.iastore, 1) := by decide +kernel
theorem dX11_sees_16 : decode cX11_sees 16 = .ok (.aload_n 0, 1) := by decide +kernel
theorem dX11_sees_17 : decode cX11_sees 17 = .ok (.getfield 7, 3) := by decide +kernel
theorem dX11_sees_20 : decode cX11_sees 20 = .ok (.sipush 759, 3) := by decide +kernel
theorem dX11_sees_23 : decode cX11_sees 23 = .ok (.aload_n 0, 1) := by decide +kernel
theorem dX11_sees_24 : decode cX11_sees 24 = .ok (.getfield 7, 3) := by decide +kernel
theorem dX11_sees_27 : decode cX11_sees 27 = .ok (.iconst 4, 1) := by decide +kernel
theorem dX11_sees_28 : decode cX11_sees 28 = .ok (.iaload, 1) := by decide +kernel
theorem dX11_sees_29 : decode cX11_sees 29 = .ok (.iadd, 1) := by decide +kernel
theorem dX11_sees_30 : decode cX11_sees 30 = .ok (.aload_n 0, 1) := by decide +kernel
theorem dX11_sees_31 : decode cX11_sees 31 = .ok (.getfield 7, 3) := by decide +kernel
theorem dX11_sees_34 : decode cX11_sees 34 = .ok (.iconst 5, 1) := by decide +kernel
theorem dX11_sees_35 : decode cX11_sees 35 = .ok (.iaload, 1) := by decide +kernel
theorem dX11_sees_36 : decode cX11_sees 36 = .ok (.iastore, 1) := by decide +kernel
theorem dX11_sees_37 : decode cX11_sees 37 = .ok (.aload_n 0, 1) := by decide +kernel
theorem dX11_sees_38 : decode cX11_sees 38 = .ok (.getfield 7, 3) := by decide +kernel
theorem dX11_sees_41 : decode cX11_sees 41 = .ok (.iconst 4, 1) := by decide +kernel
theorem dX11_sees_42 : decode cX11_sees 42 = .ok (.dup2, 1) := by decide +kernel
theorem dX11_sees_43 : decode cX11_sees 43 = .ok (.iaload, 1) := by decide +kernel
theorem dX11_sees_44 : decode cX11_sees 44 = .ok (.iconst 1, 1) := by decide +kernel
theorem dX11_sees_45 : decode cX11_sees 45 = .ok (.iadd, 1) := by decide +kernel
theorem dX11_sees_46 : decode cX11_sees 46 = .ok (.iastore, 1) := by decide +kernel
theorem dX11_sees_47 : decode cX11_sees 47 = .ok (.iconst 0, 1) := by decide +kernel
theorem dX11_sees_48 : decode cX11_sees 48 = .ok (.istore_n 2, 1) := by decide +kernel
theorem dX11_sees_49 : decode cX11_sees 49 = .ok (.iload_n 2, 1) := by decide +kernel
theorem dX11_sees_50 : decode cX11_sees 50 = .ok (.aload_n 0, 1) := by decide +kernel
theorem dX11_sees_51 : decode cX11_sees 51 = .ok (.getfield 7, 3) := by decide +kernel
theorem dX11_sees_54 : decode cX11_sees 54 = .ok (.iconst 3, 1) := by decide +kernel
theorem dX11_sees_55 : decode cX11_sees 55 = .ok (.iaload, 1) := by decide +kernel
theorem dX11_sees_56 : decode cX11_sees 56 = .ok (.if_icmp .ge 46, 3) := by decide +kernel
theorem dX11_sees_59 : decode cX11_sees 59 = .ok (.aload_n 0, 1) := by decide +kernel
theorem dX11_sees_60 : decode cX11_sees 60 = .ok (.iload_n 2, 1) := by decide +kernel
theorem dX11_sees_61 : decode cX11_sees 61 = .ok (.iconst 1, 1) := by decide +kernel
theorem dX11_sees_62 : decode cX11_sees 62 = .ok (.invokevirtual 105, 3) := by decide +kernel
theorem dX11_sees_65 : decode cX11_sees 65 = .ok (.ifCond .ne 31, 3) := by decide +kernel
theorem dX11_sees_68 : decode cX11_sees 68 = .ok (.aload_n 0, 1) := by decide +kernel
theorem dX11_sees_69 : decode cX11_sees 69 = .ok (.iload_n 2, 1) := by decide +kernel
theorem dX11_sees_70 : decode cX11_sees 70 = .ok (.iconst 0, 1) := by decide +kernel
theorem dX11_sees_71 : decode cX11_sees 71 = .ok (.invokevirtual 105, 3) := by decide +kernel
theorem dX11_sees_74 : decode cX11_sees 74 = .ok (.iload_n 1, 1) := by decide +kernel
theorem dX11_sees_75 : decode cX11_sees 75 = .ok (.invokestatic 90, 3) := by decide +kernel
theorem dX11_sees_78 : decode cX11_sees 78 = .ok (.ifCond .ne 18, 3) := by decide +kernel
theorem dX11_sees_81 : decode cX11_sees 81 = .ok (.aload_n 0, 1) := by decide +kernel
theorem dX11_sees_82 : decode cX11_sees 82 = .ok (.iload_n 2, 1) := by decide +kernel
theorem dX11_sees_83 : decode cX11_sees 83 = .ok (.iconst 2, 1) := by decide +kernel
theorem dX11_sees_84 : decode cX11_sees 84 = .ok (.iload_n 1, 1) := by decide +kernel
theorem dX11_sees_85 : decode cX11_sees 85 = .ok (.aload_n 0, 1) := by decide +kernel
theorem dX11_sees_86 : decode cX11_sees 86 = .ok (.getfield 7, 3) := by decide +kernel
theorem dX11_sees_89 : decode cX11_sees 89 = .ok (.iconst 5, 1) := by decide +kernel
theorem dX11_sees_90 : decode cX11_sees 90 = .ok (.iaload, 1) := by decide +kernel
theorem dX11_sees_91 : decode cX11_sees 91 = .ok (.bipush (-6), 2) := by decide +kernel
theorem dX11_sees_93 : decode cX11_sees 93 = .ok (.invokevirtual 101, 3) := by decide +kernel
theorem dX11_sees_96 : decode cX11_sees 96 = .ok (.iinc 2 1, 3) := by decide +kernel
theorem dX11_sees_99 : decode cX11_sees 99 = .ok (.goto (-50), 3) := by decide +kernel
theorem dX11_sees_102 : decode cX11_sees 102 = .ok (.return_, 1) := by decide +kernel
theorem dX11_moves_0 : decode cX11_moves 0 = .ok (.iconst 0, 1) := by decide +kernel
theorem dX11_moves_1 : decode cX11_moves 1 = .ok (.istore_n 3, 1) := by decide +kernel
theorem dX11_moves_2 : decode cX11_moves 2 = .ok (.iconst 0, 1) := by decide +kernel
theorem dX11_moves_3 : decode cX11_moves 3 = .ok (.istore 4, 2) := by decide +kernel
theorem dX11_moves_5 : decode cX11_moves 5 = .ok (.iload 4, 2) := by decide +kernel
theorem dX11_moves_7 : decode cX11_moves 7 = .ok (.aload_n 0, 1) := by decide +kernel
theorem dX11_moves_8 : decode cX11_moves 8 = .ok (.getfield 7, 3) := by decide +kernel
theorem dX11_moves_11 : decode cX11_moves 11 = .ok (.iconst 2, 1) := by decide +kernel
theorem dX11_moves_12 : decode cX11_moves 12 = .ok (.iaload, 1) := by decide +kernel
theorem dX11_moves_13 : decode cX11_moves 13 = .ok (.if_icmp .ge 29, 3) := by decide +kernel
theorem dX11_moves_16 : decode cX11_moves 16 = .ok (.iload_n 3, 1) := by decide +kernel
theorem dX11_moves_17 : decode cX11_moves 17 = .ok (.aload_n 0, 1) := by decide +kernel
theorem dX11_moves_18 : decode cX11_moves 18 = .ok (.iload 4, 2) := by decide +kernel
theorem dX11_moves_20 : decode cX11_moves 20 = .ok (.iload_n 1, 1) := by decide +kernel
theorem dX11_moves_21 : decode cX11_moves 21 = .ok (.invokevirtual 127, 3) := by decide +kernel
theorem dX11_moves_24 : decode cX11_moves 24 = .ok (.bipush (-6), 2) := by decide +kernel
theorem dX11_moves_26 : decode cX11_moves 26 = .ok (.if_icmp .ne 7, 3) := by decide +kernel
theorem dX11_moves_29 : decode cX11_moves 29 = .ok (.iconst 0, 1) := by decide +kernel
theorem dX11_moves_30 : decode cX11_moves 30 = .ok (.goto 4, 3) := by decide +kernel
theorem dX11_moves_33 : decode cX11_moves 33 = .ok (.iconst 1, 1) := by decide +kernel
theorem dX11_moves_34 : decode cX11_moves 34 = .ok (.iadd, 1) := by decide +kernel
theorem dX11_moves_35 : decode cX11_moves 35 = .ok (.istore_n 3, 1) := by decide +kernel
theorem dX11_moves_36 : decode cX11_moves 36 = .ok (.iinc 4 1, 3) := by decide +kernel
theorem dX11_moves_39 : decode cX11_moves 39 = .ok (.goto (-34), 3) := by decide +kernel
theorem dX11_moves_42 : decode cX11_moves 42 = .ok (.iload_n 3, 1) := by decide +kernel
theorem dX11_moves_43 : decode cX11_moves 43 = .ok (.ifCond .ne 7, 3) := by decide +kernel
theorem dX11_moves_46 : decode cX11_moves 46 = .ok (.iconst 0, 1) := by decide +kernel
theorem dX11_moves_47 : decode cX11_moves 47 = .ok (.goto 6, 3) := by decide +kernel
theorem dX11_moves_50 : decode cX11_moves 50 = .ok (.iload_n 2, 1) := by decide +kernel
theorem dX11_moves_51 : decode cX11_moves 51 = .ok (.iload_n 3, 1) := by decide +kernel
theorem dX11_moves_52 : decode cX11_moves 52 = .ok (.irem, 1) := by decide +kernel
theorem dX11_moves_53 : decode cX11_moves 53 = .ok (.istore 4, 2) := by decide +kernel
theorem dX11_moves_55 : decode cX11_moves 55 = .ok (.iconst 0, 1) := by decide +kernel
theorem dX11_moves_56 : decode cX11_moves 56 = .ok (.istore 5, 2) := by decide +kernel
theorem dX11_moves_58 : decode cX11_moves 58 = .ok (.iload 5, 2) := by decide +kernel
theorem dX11_moves_60 : decode cX11_moves 60 = .ok (.aload_n 0, 1) := by decide +kernel
theorem dX11_moves_61 : decode cX11_moves 61 = .ok (.getfield 7, 3) := by decide +kernel
theorem dX11_moves_64 : decode cX11_moves 64 = .ok (.iconst 2, 1) := by decide +kernel
theorem dX11_moves_65 : decode cX11_moves 65 = .ok (.iaload, 1) := by decide +kernel
theorem dX11_moves_66 : decode cX11_moves 66 = .ok (.if_icmp .ge 50, 3) := by decide +kernel
theorem dX11_moves_69 : decode cX11_moves 69 = .ok (.aload_n 0, 1) := by decide +kernel
theorem dX11_moves_70 : decode cX11_moves 70 = .ok (.iload 5, 2) := by decide +kernel
theorem dX11_moves_72 : decode cX11_moves 72 = .ok (.iload_n 1, 1) := by decide +kernel
theorem dX11_moves_73 : decode cX11_moves 73 = .ok (.invokevirtual 127, 3) := by decide +kernel
theorem dX11_moves_76 : decode cX11_moves 76 = .ok (.istore 6, 2) := by decide +kernel
theorem dX11_moves_78 : decode cX11_moves 78 = .ok (.iload 6, 2) := by decide +kernel
theorem dX11_moves_80 : decode cX11_moves 80 = .ok (.bipush (-6), 2) := by decide +kernel
theorem dX11_moves_82 : decode cX11_moves 82 = .ok (.if_icmp .eq 11, 3) := by decide +kernel
theorem dX11_moves_85 : decode cX11_moves 85 = .ok (.iload 4, 2) := by decide +kernel
theorem dX11_moves_87 : decode cX11_moves 87 = .ok (.ifCond .ne 6, 3) := by decide +kernel
theorem dX11_moves_90 : decode cX11_moves 90 = .ok (.iload 6, 2) := by decide +kernel
theorem dX11_moves_92 : decode cX11_moves 92 = .ok (.ireturn, 1) := by decide +kernel
theorem dX11_moves_93 : decode cX11_moves 93 = .ok (.iload 4, 2) := by decide +kernel
theorem dX11_moves_95 : decode cX11_moves 95 = .ok (.iload 6, 2) := by decide +kernel
theorem dX11_moves_97 : decode cX11_moves 97 = .ok (.bipush (-6), 2) := by decide +kernel
theorem dX11_moves_99 : decode cX11_moves 99 = .ok (.if_icmp .ne 7, 3) := by decide +kernel
theorem dX11_moves_102 : decode cX11_moves 102 = .ok (.iconst 0, 1) := by decide +kernel
theorem dX11_moves_103 : decode cX11_moves 103 = .ok (.goto 4, 3) := by decide +kernel
theorem dX11_moves_106 : decode cX11_moves 106 = .ok (.iconst 1, 1) := by decide +kernel
theorem dX11_moves_107 : decode cX11_moves 107 = .ok (.isub, 1) := by decide +kernel
theorem dX11_moves_108 : decode cX11_moves 108 = .ok (.istore 4, 2) := by decide +kernel
theorem dX11_moves_110 : decode cX11_moves 110 = .ok (.iinc 5 1, 3) := by decide +kernel
theorem dX11_moves_113 : decode cX11_moves 113 = .ok (.goto (-55), 3) := by decide +kernel
theorem dX11_moves_116 : decode cX11_moves 116 = .ok (.bipush (-6), 2) := by decide +kernel
theorem dX11_moves_118 : decode cX11_moves 118 = .ok (.ireturn, 1) := by decide +kernel
theorem dX11_run_0 : decode cX11_run 0 = .ok (.iload_n 1, 1) := by decide +kernel
theorem dX11_run_1 : decode cX11_run 1 = .ok (.ifCond .lt 13, 3) := by decide +kernel
theorem dX11_run_4 : decode cX11_run 4 = .ok (.iload_n 2, 1) := by decide +kernel
theorem dX11_run_5 : decode cX11_run 5 = .ok (.iconst 1, 1) := by decide +kernel
theorem dX11_run_6 : decode cX11_run 6 = .ok (.bipush 99, 2) := by decide +kernel
theorem dX11_run_8 : decode cX11_run 8 = .ok (.invokestatic 46, 3) := by decide +kernel
theorem dX11_run_11 : decode cX11_run 11 = .ok (.ifCond .ne 6, 3) := by decide +kernel
theorem dX11_run_14 : decode cX11_run 14 = .ok (.bipush (-2), 2) := by decide +kernel
theorem dX11_run_16 : decode cX11_run 16 = .ok (.ireturn, 1) := by decide +kernel
theorem dX11_run_17 : decode cX11_run 17 = .ok (.aload_n 0, 1) := by decide +kernel
theorem dX11_run_18 : decode cX11_run 18 = .ok (.invokevirtual 58, 3) := by decide +kernel
theorem dX11_run_21 : decode cX11_run 21 = .ok (.aload_n 0, 1) := by decide +kernel
theorem dX11_run_22 : decode cX11_run 22 = .ok (.getfield 7, 3) := by decide +kernel
theorem dX11_run_25 : decode cX11_run 25 = .ok (.iconst 4, 1) := by decide +kernel
theorem dX11_run_26 : decode cX11_run 26 = .ok (.iaload, 1) := by decide +kernel
theorem dX11_run_27 : decode cX11_run 27 = .ok (.istore_n 3, 1) := by decide +kernel
theorem dX11_run_28 : decode cX11_run 28 = .ok (.aload_n 0, 1) := by decide +kernel
theorem dX11_run_29 : decode cX11_run 29 = .ok (.getfield 7, 3) := by decide +kernel
theorem dX11_run_32 : decode cX11_run 32 = .ok (.iconst 0, 1) := by decide +kernel
theorem dX11_run_33 : decode cX11_run 33 = .ok (.iaload, 1) := by decide +kernel
theorem dX11_run_34 : decode cX11_run 34 = .ok (.istore 4, 2) := by decide +kernel
theorem dX11_run_36 : decode cX11_run 36 = .ok (.iload_n 1, 1) := by decide +kernel
theorem dX11_run_37 : decode cX11_run 37 = .ok (.i2l, 1) := by decide +kernel
theorem dX11_run_38 : decode cX11_run 38 = .ok (.lstore 5, 2) := by decide +kernel
theorem dX11_run_40 : decode cX11_run 40 = .ok (.iconst 0, 1) := by decide +kernel
theorem dX11_run_41 : decode cX11_run 41 = .ok (.istore 7, 2) := by decide +kernel
theorem dX11_run_43 : decode cX11_run 43 = .ok (.iload 7, 2) := by decide +kernel
theorem dX11_run_45 : decode cX11_run 45 = .ok (.iload_n 2, 1) := by decide +kernel
theorem dX11_run_46 : decode cX11_run 46 = .ok (.if_icmp .ge 69, 3) := by decide +kernel
theorem dX11_run_49 : decode cX11_run 49 = .ok (.iload 4, 2) := by decide +kernel
theorem dX11_run_51 : decode cX11_run 51 = .ok (.bipush (-6), 2) := by decide +kernel
theorem dX11_run_53 : decode cX11_run 53 = .ok (.if_icmp .eq 62, 3) := by decide +kernel
theorem dX11_run_56 : decode cX11_run 56 = .ok (.lload 5, 2) := by decide +kernel
theorem dX11_run_58 : decode cX11_run 58 = .ok (.ldc2_w 130, 3) := by decide +kernel
theorem dX11_run_61 : decode cX11_run 61 = .ok (.lmul, 1) := by decide +kernel
theorem dX11_run_62 : decode cX11_run 62 = .ok (.ldc2_w 132, 3) := by decide +kernel
theorem dX11_run_65 : decode cX11_run 65 = .ok (.ladd, 1) := by decide +kernel
theorem dX11_run_66 : decode cX11_run 66 = .ok (.ldc2_w 134, 3) := by decide +kernel
theorem dX11_run_69 : decode cX11_run 69 = .ok (.lrem, 1) := by decide +kernel
theorem dX11_run_70 : decode cX11_run 70 = .ok (.lstore 5, 2) := by decide +kernel
theorem dX11_run_72 : decode cX11_run 72 = .ok (.aload_n 0, 1) := by decide +kernel
theorem dX11_run_73 : decode cX11_run 73 = .ok (.iload 4, 2) := by decide +kernel
theorem dX11_run_75 : decode cX11_run 75 = .ok (.lload 5, 2) := by decide +kernel
theorem dX11_run_77 : decode cX11_run 77 = .ok (.ldc2_w 136, 3) := by decide +kernel
theorem dX11_run_80 : decode cX11_run 80 = .ok (.ldiv, 1) := by decide +kernel
theorem dX11_run_81 : decode cX11_run 81 = .ok (.l2i, 1) := by decide +kernel
theorem dX11_run_82 : decode cX11_run 82 = .ok (.invokevirtual 138, 3) := by decide +kernel
theorem dX11_run_85 : decode cX11_run 85 = .ok (.istore 4, 2) := by decide +kernel
theorem dX11_run_87 : decode cX11_run 87 = .ok (.iload 4, 2) := by decide +kernel
theorem dX11_run_89 : decode cX11_run 89 = .ok (.bipush (-6), 2) := by decide +kernel
theorem dX11_run_91 : decode cX11_run 91 = .ok (.if_icmp .eq 18, 3) := by decide +kernel
theorem dX11_run_94 : decode cX11_run 94 = .ok (.aload_n 0, 1) := by decide +kernel
theorem dX11_run_95 : decode cX11_run 95 = .ok (.iload 4, 2) := by decide +kernel
theorem dX11_run_97 : decode cX11_run 97 = .ok (.invokevirtual 141, 3) := by decide +kernel
theorem dX11_run_100 : decode cX11_run 100 = .ok (.ifCond .ne 9, 3) := by decide +kernel
theorem dX11_run_103 : decode cX11_run 103 = .ok (.aload_n 0, 1) := by decide +kernel
theorem dX11_run_104 : decode cX11_run 104 = .ok (.iload 4, 2) := by decide +kernel
theorem dX11_run_106 : decode cX11_run 106 = .ok (.invokevirtual 144, 3) := by decide +kernel
theorem dX11_run_109 : decode cX11_run 109 = .ok (.iinc 7 1, 3) := by decide +kernel
theorem dX11_run_112 : decode cX11_run 112 = .ok (.goto (-69), 3) := by decide +kernel
theorem dX11_run_115 : decode cX11_run 115 = .ok (.aload_n 0, 1) := by decide +kernel
theorem dX11_run_116 : decode cX11_run 116 = .ok (.getfield 7, 3) := by decide +kernel
theorem dX11_run_119 : decode cX11_run 119 = .ok (.iconst 5, 1) := by decide +kernel
theorem dX11_run_120 : decode cX11_run 120 = .ok (.dup2, 1) := by decide +kernel
theorem dX11_run_121 : decode cX11_run 121 = .ok (.iaload, 1) := by decide +kernel
theorem dX11_run_122 : decode cX11_run 122 = .ok (.iconst 1, 1) := by decide +kernel
theorem dX11_run_123 : decode cX11_run 123 = .ok (.iadd, 1) := by decide +kernel
theorem dX11_run_124 : decode cX11_run 124 = .ok (.iastore, 1) := by decide +kernel
theorem dX11_run_125 : decode cX11_run 125 = .ok (.aload_n 0, 1) := by decide +kernel
theorem dX11_run_126 : decode cX11_run 126 = .ok (.getfield 7, 3) := by decide +kernel
theorem dX11_run_129 : decode cX11_run 129 = .ok (.iconst 4, 1) := by decide +kernel
theorem dX11_run_130 : decode cX11_run 130 = .ok (.iaload, 1) := by decide +kernel
theorem dX11_run_131 : decode cX11_run 131 = .ok (.iload_n 3, 1) := by decide +kernel
theorem dX11_run_132 : decode cX11_run 132 = .ok (.isub, 1) := by decide +kernel
theorem dX11_run_133 : decode cX11_run 133 = .ok (.ireturn, 1) := by decide +kernel
theorem dX11_standing_0 : decode cX11_standing 0 = .ok (.lconst 0, 1) := by decide +kernel
theorem dX11_standing_1 : decode cX11_standing 1 = .ok (.lstore_n 1, 1) := by decide +kernel
theorem dX11_standing_2 : decode cX11_standing 2 = .ok (.iconst 0, 1) := by decide +kernel
theorem dX11_standing_3 : decode cX11_standing 3 = .ok (.istore_n 3, 1) := by decide +kernel
theorem dX11_standing_4 : decode cX11_standing 4 = .ok (.iload_n 3, 1) := by decide +kernel
theorem dX11_standing_5 : decode cX11_standing 5 = .ok (.aload_n 0, 1) := by decide +kernel
theorem dX11_standing_6 : decode cX11_standing 6 = .ok (.getfield 7, 3) := by decide +kernel
theorem dX11_standing_9 : decode cX11_standing 9 = .ok (.iconst 3, 1) := by decide +kernel
theorem dX11_standing_10 : decode cX11_standing 10 = .ok (.iaload, 1) := by decide +kernel
theorem dX11_standing_11 : decode cX11_standing 11 = .ok (.if_icmp .ge 28, 3) := by decide +kernel
theorem dX11_standing_14 : decode cX11_standing 14 = .ok (.lload_n 1, 1) := by decide +kernel
theorem dX11_standing_15 : decode cX11_standing 15 = .ok (.aload_n 0, 1) := by decide +kernel
theorem dX11_standing_16 : decode cX11_standing 16 = .ok (.iload_n 3, 1) := by decide +kernel
theorem dX11_standing_17 : decode cX11_standing 17 = .ok (.iconst 1, 1) := by decide +kernel
theorem dX11_standing_18 : decode cX11_standing 18 = .ok (.invokevirtual 105, 3) := by decide +kernel
theorem dX11_standing_21 : decode cX11_standing 21 = .ok (.ifCond .ne 9, 3) := by decide +kernel
theorem dX11_standing_24 : decode cX11_standing 24 = .ok (.lconst 1, 1) := by decide +kernel
theorem dX11_standing_25 : decode cX11_standing 25 = .ok (.iload_n 3, 1) := by decide +kernel
theorem dX11_standing_26 : decode cX11_standing 26 = .ok (.lshl, 1) := by decide +kernel
theorem dX11_standing_27 : decode cX11_standing 27 = .ok (.goto 4, 3) := by decide +kernel
theorem dX11_standing_30 : decode cX11_standing 30 = .ok (.lconst 0, 1) := by decide +kernel
theorem dX11_standing_31 : decode cX11_standing 31 = .ok (.lor, 1) := by decide +kernel
theorem dX11_standing_32 : decode cX11_standing 32 = .ok (.lstore_n 1, 1) := by decide +kernel
theorem dX11_standing_33 : decode cX11_standing 33 = .ok (.iinc 3 1, 3) := by decide +kernel
theorem dX11_standing_36 : decode cX11_standing 36 = .ok (.goto (-32), 3) := by decide +kernel
theorem dX11_standing_39 : decode cX11_standing 39 = .ok (.lload_n 1, 1) := by decide +kernel
theorem dX11_standing_40 : decode cX11_standing 40 = .ok (.lreturn, 1) := by decide +kernel
theorem dX11_has_0 : decode cX11_has 0 = .ok (.lload_n 0, 1) := by decide +kernel
theorem dX11_has_1 : decode cX11_has 1 = .ok (.iload_n 2, 1) := by decide +kernel
theorem dX11_has_2 : decode cX11_has 2 = .ok (.lshr, 1) := by decide +kernel
theorem dX11_has_3 : decode cX11_has 3 = .ok (.lconst 1, 1) := by decide +kernel
theorem dX11_has_4 : decode cX11_has 4 = .ok (.land, 1) := by decide +kernel
theorem dX11_has_5 : decode cX11_has 5 = .ok (.lconst 1, 1) := by decide +kernel
theorem dX11_has_6 : decode cX11_has 6 = .ok (.lcmp, 1) := by decide +kernel
theorem dX11_has_7 : decode cX11_has 7 = .ok (.ifCond .ne 7, 3) := by decide +kernel
theorem dX11_has_10 : decode cX11_has 10 = .ok (.iconst 1, 1) := by decide +kernel
theorem dX11_has_11 : decode cX11_has 11 = .ok (.goto 4, 3) := by decide +kernel
theorem dX11_has_14 : decode cX11_has 14 = .ok (.iconst 0, 1) := by decide +kernel
theorem dX11_has_15 : decode cX11_has 15 = .ok (.ireturn, 1) := by decide +kernel
theorem dX11_areSo_0 : decode cX11_areSo 0 = .ok (.iconst 1, 1) := by decide +kernel
theorem dX11_areSo_1 : decode cX11_areSo 1 = .ok (.istore 4, 2) := by decide +kernel
theorem dX11_areSo_3 : decode cX11_areSo 3 = .ok (.iconst 0, 1) := by decide +kernel
theorem dX11_areSo_4 : decode cX11_areSo 4 = .ok (.istore 5, 2) := by decide +kernel
theorem dX11_areSo_6 : decode cX11_areSo 6 = .ok (.iload 5, 2) := by decide +kernel
theorem dX11_areSo_8 : decode cX11_areSo 8 = .ok (.aload_n 0, 1) := by decide +kernel
theorem dX11_areSo_9 : decode cX11_areSo 9 = .ok (.getfield 7, 3) := by decide +kernel
theorem dX11_areSo_12 : decode cX11_areSo 12 = .ok (.iconst 3, 1) := by decide +kernel
theorem dX11_areSo_13 : decode cX11_areSo 13 = .ok (.iaload, 1) := by decide +kernel
theorem dX11_areSo_14 : decode cX11_areSo 14 = .ok (.if_icmp .ge 44, 3) := by decide +kernel
theorem dX11_areSo_17 : decode cX11_areSo 17 = .ok (.iload 4, 2) := by decide +kernel
theorem dX11_areSo_19 : decode cX11_areSo 19 = .ok (.ifCond .eq 39, 3) := by decide +kernel
theorem dX11_areSo_22 : decode cX11_areSo 22 = .ok (.lload_n 1, 1) := by decide +kernel
theorem dX11_areSo_23 : decode cX11_areSo 23 = .ok (.iload 5, 2) := by decide +kernel
theorem dX11_areSo_25 : decode cX11_areSo 25 = .ok (.invokestatic 147, 3) := by decide +kernel
theorem dX11_areSo_28 : decode cX11_areSo 28 = .ok (.ifCond .eq 17, 3) := by decide +kernel
theorem dX11_areSo_31 : decode cX11_areSo 31 = .ok (.aload_n 0, 1) := by decide +kernel
theorem dX11_areSo_32 : decode cX11_areSo 32 = .ok (.iload 5, 2) := by decide +kernel
theorem dX11_areSo_34 : decode cX11_areSo 34 = .ok (.iconst 0, 1) := by decide +kernel
theorem dX11_areSo_35 : decode cX11_areSo 35 = .ok (.invokevirtual 105, 3) := by decide +kernel
theorem dX11_areSo_38 : decode cX11_areSo 38 = .ok (.iload_n 3, 1) := by decide +kernel
theorem dX11_areSo_39 : decode cX11_areSo 39 = .ok (.invokestatic 90, 3) := by decide +kernel
theorem dX11_areSo_42 : decode cX11_areSo 42 = .ok (.ifCond .eq 7, 3) := by decide +kernel
theorem dX11_areSo_45 : decode cX11_areSo 45 = .ok (.iconst 1, 1) := by decide +kernel
theorem dX11_areSo_46 : decode cX11_areSo 46 = .ok (.goto 4, 3) := by decide +kernel
theorem dX11_areSo_49 : decode cX11_areSo 49 = .ok (.iconst 0, 1) := by decide +kernel
theorem dX11_areSo_50 : decode cX11_areSo 50 = .ok (.istore 4, 2) := by decide +kernel
theorem dX11_areSo_52 : decode cX11_areSo 52 = .ok (.iinc 5 1, 3) := by decide +kernel
theorem dX11_areSo_55 : decode cX11_areSo 55 = .ok (.goto (-49), 3) := by decide +kernel
theorem dX11_areSo_58 : decode cX11_areSo 58 = .ok (.iload 4, 2) := by decide +kernel
theorem dX11_areSo_60 : decode cX11_areSo 60 = .ok (.ireturn, 1) := by decide +kernel
theorem dX11_laysAllowed_0 : decode cX11_laysAllowed 0 = .ok (.iconst 0, 1) := by decide +kernel
theorem dX11_laysAllowed_1 : decode cX11_laysAllowed 1 = .ok (.istore_n 3, 1) := by decide +kernel
theorem dX11_laysAllowed_2 : decode cX11_laysAllowed 2 = .ok (.iload_n 3, 1) := by decide +kernel
theorem dX11_laysAllowed_3 : decode cX11_laysAllowed 3 = .ok (.sipush 512, 3) := by decide +kernel
theorem dX11_laysAllowed_6 : decode cX11_laysAllowed 6 = .ok (.if_icmp .ge 21, 3) := by decide +kernel
theorem dX11_laysAllowed_9 : decode cX11_laysAllowed 9 = .ok (.aload_n 0, 1) := by decide +kernel
theorem dX11_laysAllowed_10 : decode cX11_laysAllowed 10 = .ok (.getfield 26, 3) := by decide +kernel
theorem dX11_laysAllowed_13 : decode cX11_laysAllowed 13 = .ok (.iload_n 3, 1) := by decide +kernel
theorem dX11_laysAllowed_14 : decode cX11_laysAllowed 14 = .ok (.aload_n 0, 1) := by decide +kernel
theorem dX11_laysAllowed_15 : decode cX11_laysAllowed 15 = .ok (.lload_n 1, 1) := by decide +kernel
theorem dX11_laysAllowed_16 : decode cX11_laysAllowed 16 = .ok (.iload_n 3, 1) := by decide +kernel
theorem dX11_laysAllowed_17 : decode cX11_laysAllowed 17 = .ok (.invokevirtual 151, 3) := by decide +kernel
theorem dX11_laysAllowed_20 : decode cX11_laysAllowed 20 = .ok (.bastore, 1) := by decide +kernel
theorem dX11_laysAllowed_21 : decode cX11_laysAllowed 21 = .ok (.iinc 3 1, 3) := by decide +kernel
theorem dX11_laysAllowed_24 : decode cX11_laysAllowed 24 = .ok (.goto (-22), 3) := by decide +kernel
theorem dX11_laysAllowed_27 : decode cX11_laysAllowed 27 = .ok (.return_, 1) := by decide +kernel
theorem dX11_isKernel_0 : decode cX11_isKernel 0 = .ok (.aload_n 0, 1) := by decide +kernel
theorem dX11_isKernel_1 : decode cX11_isKernel 1 = .ok (.lload_n 1, 1) := by decide +kernel
theorem dX11_isKernel_2 : decode cX11_isKernel 2 = .ok (.invokevirtual 154, 3) := by decide +kernel
theorem dX11_isKernel_5 : decode cX11_isKernel 5 = .ok (.iconst 1, 1) := by decide +kernel
theorem dX11_isKernel_6 : decode cX11_isKernel 6 = .ok (.istore_n 3, 1) := by decide +kernel
theorem dX11_isKernel_7 : decode cX11_isKernel 7 = .ok (.iconst 0, 1) := by decide +kernel
theorem dX11_isKernel_8 : decode cX11_isKernel 8 = .ok (.istore 4, 2) := by decide +kernel
theorem dX11_isKernel_10 : decode cX11_isKernel 10 = .ok (.iload 4, 2) := by decide +kernel
theorem dX11_isKernel_12 : decode cX11_isKernel 12 = .ok (.sipush 512, 3) := by decide +kernel
theorem dX11_isKernel_15 : decode cX11_isKernel 15 = .ok (.if_icmp .ge 80, 3) := by decide +kernel
theorem dX11_isKernel_18 : decode cX11_isKernel 18 = .ok (.iload_n 3, 1) := by decide +kernel
theorem dX11_isKernel_19 : decode cX11_isKernel 19 = .ok (.ifCond .eq 76, 3) := by decide +kernel
theorem dX11_isKernel_22 : decode cX11_isKernel 22 = .ok (.iconst 0, 1) := by decide +kernel
theorem dX11_isKernel_23 : decode cX11_isKernel 23 = .ok (.istore 5, 2) := by decide +kernel
theorem dX11_isKernel_25 : decode cX11_isKernel 25 = .ok (.iload 5, 2) := by decide +kernel
theorem dX11_isKernel_27 : decode cX11_isKernel 27 = .ok (.aload_n 0, 1) := by decide +kernel
theorem dX11_isKernel_28 : decode cX11_isKernel 28 = .ok (.getfield 7, 3) := by decide +kernel
theorem dX11_isKernel_31 : decode cX11_isKernel 31 = .ok (.iconst 2, 1) := by decide +kernel
theorem dX11_isKernel_32 : decode cX11_isKernel 32 = .ok (.iaload, 1) := by decide +kernel
theorem dX11_isKernel_33 : decode cX11_isKernel 33 = .ok (.if_icmp .ge 56, 3) := by decide +kernel
theorem dX11_isKernel_36 : decode cX11_isKernel 36 = .ok (.iload_n 3, 1) := by decide +kernel
theorem dX11_isKernel_37 : decode cX11_isKernel 37 = .ok (.ifCond .eq 52, 3) := by decide +kernel
theorem dX11_isKernel_40 : decode cX11_isKernel 40 = .ok (.aload_n 0, 1) := by decide +kernel
theorem dX11_isKernel_41 : decode cX11_isKernel 41 = .ok (.getfield 26, 3) := by decide +kernel
theorem dX11_isKernel_44 : decode cX11_isKernel 44 = .ok (.iload 4, 2) := by decide +kernel
theorem dX11_isKernel_46 : decode cX11_isKernel 46 = .ok (.baload, 1) := by decide +kernel
theorem dX11_isKernel_47 : decode cX11_isKernel 47 = .ok (.ifCond .eq 42, 3) := by decide +kernel
theorem dX11_isKernel_50 : decode cX11_isKernel 50 = .ok (.aload_n 0, 1) := by decide +kernel
theorem dX11_isKernel_51 : decode cX11_isKernel 51 = .ok (.iload 5, 2) := by decide +kernel
theorem dX11_isKernel_53 : decode cX11_isKernel 53 = .ok (.iload 4, 2) := by decide +kernel
theorem dX11_isKernel_55 : decode cX11_isKernel 55 = .ok (.invokevirtual 127, 3) := by decide +kernel
theorem dX11_isKernel_58 : decode cX11_isKernel 58 = .ok (.istore 6, 2) := by decide +kernel
theorem dX11_isKernel_60 : decode cX11_isKernel 60 = .ok (.iload 6, 2) := by decide +kernel
theorem dX11_isKernel_62 : decode cX11_isKernel 62 = .ok (.bipush (-6), 2) := by decide +kernel
theorem dX11_isKernel_64 : decode cX11_isKernel 64 = .ok (.if_icmp .eq 13, 3) := by decide +kernel
theorem dX11_isKernel_67 : decode cX11_isKernel 67 = .ok (.aload_n 0, 1) := by decide +kernel
theorem dX11_isKernel_68 : decode cX11_isKernel 68 = .ok (.getfield 26, 3) := by decide +kernel
theorem dX11_isKernel_71 : decode cX11_isKernel 71 = .ok (.iload 6, 2) := by decide +kernel
theorem dX11_isKernel_73 : decode cX11_isKernel 73 = .ok (.baload, 1) := by decide +kernel
theorem dX11_isKernel_74 : decode cX11_isKernel 74 = .ok (.ifCond .eq 7, 3) := by decide +kernel
theorem dX11_isKernel_77 : decode cX11_isKernel 77 = .ok (.iconst 1, 1) := by decide +kernel
theorem dX11_isKernel_78 : decode cX11_isKernel 78 = .ok (.goto 4, 3) := by decide +kernel
theorem dX11_isKernel_81 : decode cX11_isKernel 81 = .ok (.iconst 0, 1) := by decide +kernel
theorem dX11_isKernel_82 : decode cX11_isKernel 82 = .ok (.istore_n 3, 1) := by decide +kernel
theorem dX11_isKernel_83 : decode cX11_isKernel 83 = .ok (.iinc 5 1, 3) := by decide +kernel
theorem dX11_isKernel_86 : decode cX11_isKernel 86 = .ok (.goto (-61), 3) := by decide +kernel
theorem dX11_isKernel_89 : decode cX11_isKernel 89 = .ok (.iinc 4 1, 3) := by decide +kernel
theorem dX11_isKernel_92 : decode cX11_isKernel 92 = .ok (.goto (-82), 3) := by decide +kernel
theorem dX11_isKernel_95 : decode cX11_isKernel 95 = .ok (.iload_n 3, 1) := by decide +kernel
theorem dX11_isKernel_96 : decode cX11_isKernel 96 = .ok (.ireturn, 1) := by decide +kernel
theorem dX11_strikes_0 : decode cX11_strikes 0 = .ok (.iconst 0, 1) := by decide +kernel
theorem dX11_strikes_1 : decode cX11_strikes 1 = .ok (.istore_n 2, 1) := by decide +kernel
theorem dX11_strikes_2 : decode cX11_strikes 2 = .ok (.iload_n 2, 1) := by decide +kernel
theorem dX11_strikes_3 : decode cX11_strikes 3 = .ok (.sipush 512, 3) := by decide +kernel
theorem dX11_strikes_6 : decode cX11_strikes 6 = .ok (.if_icmp .ge 84, 3) := by decide +kernel
theorem dX11_strikes_9 : decode cX11_strikes 9 = .ok (.iconst 0, 1) := by decide +kernel
theorem dX11_strikes_10 : decode cX11_strikes 10 = .ok (.istore_n 3, 1) := by decide +kernel
theorem dX11_strikes_11 : decode cX11_strikes 11 = .ok (.iload_n 3, 1) := by decide +kernel
theorem dX11_strikes_12 : decode cX11_strikes 12 = .ok (.aload_n 0, 1) := by decide +kernel
theorem dX11_strikes_13 : decode cX11_strikes 13 = .ok (.getfield 7, 3) := by decide +kernel
theorem dX11_strikes_16 : decode cX11_strikes 16 = .ok (.iconst 2, 1) := by decide +kernel
theorem dX11_strikes_17 : decode cX11_strikes 17 = .ok (.iaload, 1) := by decide +kernel
theorem dX11_strikes_18 : decode cX11_strikes 18 = .ok (.if_icmp .ge 66, 3) := by decide +kernel
theorem dX11_strikes_21 : decode cX11_strikes 21 = .ok (.aload_n 0, 1) := by decide +kernel
theorem dX11_strikes_22 : decode cX11_strikes 22 = .ok (.getfield 26, 3) := by decide +kernel
theorem dX11_strikes_25 : decode cX11_strikes 25 = .ok (.iload_n 2, 1) := by decide +kernel
theorem dX11_strikes_26 : decode cX11_strikes 26 = .ok (.baload, 1) := by decide +kernel
theorem dX11_strikes_27 : decode cX11_strikes 27 = .ok (.ifCond .eq 57, 3) := by decide +kernel
theorem dX11_strikes_30 : decode cX11_strikes 30 = .ok (.aload_n 0, 1) := by decide +kernel
theorem dX11_strikes_31 : decode cX11_strikes 31 = .ok (.iload_n 3, 1) := by decide +kernel
theorem dX11_strikes_32 : decode cX11_strikes 32 = .ok (.iload_n 2, 1) := by decide +kernel
theorem dX11_strikes_33 : decode cX11_strikes 33 = .ok (.invokevirtual 127, 3) := by decide +kernel
theorem dX11_strikes_36 : decode cX11_strikes 36 = .ok (.istore 4, 2) := by decide +kernel
theorem dX11_strikes_38 : decode cX11_strikes 38 = .ok (.iload 4, 2) := by decide +kernel
theorem dX11_strikes_40 : decode cX11_strikes 40 = .ok (.bipush (-6), 2) := by decide +kernel
theorem dX11_strikes_42 : decode cX11_strikes 42 = .ok (.if_icmp .eq 36, 3) := by decide +kernel
theorem dX11_strikes_45 : decode cX11_strikes 45 = .ok (.aload_n 0, 1) := by decide +kernel
theorem dX11_strikes_46 : decode cX11_strikes 46 = .ok (.iload_n 1, 1) := by decide +kernel
theorem dX11_strikes_47 : decode cX11_strikes 47 = .ok (.iconst 0, 1) := by decide +kernel
theorem dX11_strikes_48 : decode cX11_strikes 48 = .ok (.invokevirtual 105, 3) := by decide +kernel
theorem dX11_strikes_51 : decode cX11_strikes 51 = .ok (.iload 4, 2) := by decide +kernel
theorem dX11_strikes_53 : decode cX11_strikes 53 = .ok (.invokestatic 90, 3) := by decide +kernel
theorem dX11_strikes_56 : decode cX11_strikes 56 = .ok (.ifCond .ne 22, 3) := by decide +kernel
theorem dX11_strikes_59 : decode cX11_strikes 59 = .ok (.aload_n 0, 1) := by decide +kernel
theorem dX11_strikes_60 : decode cX11_strikes 60 = .ok (.iload_n 1, 1) := by decide +kernel
theorem dX11_strikes_61 : decode cX11_strikes 61 = .ok (.iconst 3, 1) := by decide +kernel
theorem dX11_strikes_62 : decode cX11_strikes 62 = .ok (.iload_n 2, 1) := by decide +kernel
theorem dX11_strikes_63 : decode cX11_strikes 63 = .ok (.iload_n 3, 1) := by decide +kernel
theorem dX11_strikes_64 : decode cX11_strikes 64 = .ok (.aload_n 0, 1) := by decide +kernel
theorem dX11_strikes_65 : decode cX11_strikes 65 = .ok (.getfield 7, 3) := by decide +kernel
theorem dX11_strikes_68 : decode cX11_strikes 68 = .ok (.bipush 6, 2) := by decide +kernel
theorem dX11_strikes_70 : decode cX11_strikes 70 = .ok (.iaload, 1) := by decide +kernel
theorem dX11_strikes_71 : decode cX11_strikes 71 = .ok (.iconst 1, 1) := by decide +kernel
theorem dX11_strikes_72 : decode cX11_strikes 72 = .ok (.iadd, 1) := by decide +kernel
theorem dX11_strikes_73 : decode cX11_strikes 73 = .ok (.invokevirtual 101, 3) := by decide +kernel
theorem dX11_strikes_76 : decode cX11_strikes 76 = .ok (.iconst 1, 1) := by decide +kernel
theorem dX11_strikes_77 : decode cX11_strikes 77 = .ok (.ireturn, 1) := by decide +kernel
theorem dX11_strikes_78 : decode cX11_strikes 78 = .ok (.iinc 3 1, 3) := by decide +kernel
theorem dX11_strikes_81 : decode cX11_strikes 81 = .ok (.goto (-70), 3) := by decide +kernel
theorem dX11_strikes_84 : decode cX11_strikes 84 = .ok (.iinc 2 1, 3) := by decide +kernel
theorem dX11_strikes_87 : decode cX11_strikes 87 = .ok (.goto (-85), 3) := by decide +kernel
theorem dX11_strikes_90 : decode cX11_strikes 90 = .ok (.iconst 0, 1) := by decide +kernel
theorem dX11_strikes_91 : decode cX11_strikes 91 = .ok (.ireturn, 1) := by decide +kernel
theorem dX11_round_0 : decode cX11_round 0 = .ok (.aload_n 0, 1) := by decide +kernel
theorem dX11_round_1 : decode cX11_round 1 = .ok (.aload_n 0, 1) := by decide +kernel
theorem dX11_round_2 : decode cX11_round 2 = .ok (.invokevirtual 50, 3) := by decide +kernel
theorem dX11_round_5 : decode cX11_round 5 = .ok (.invokevirtual 154, 3) := by decide +kernel
theorem dX11_round_8 : decode cX11_round 8 = .ok (.iconst 0, 1) := by decide +kernel
theorem dX11_round_9 : decode cX11_round 9 = .ok (.istore_n 1, 1) := by decide +kernel
theorem dX11_round_10 : decode cX11_round 10 = .ok (.iconst 0, 1) := by decide +kernel
theorem dX11_round_11 : decode cX11_round 11 = .ok (.istore_n 2, 1) := by decide +kernel
theorem dX11_round_12 : decode cX11_round 12 = .ok (.iload_n 2, 1) := by decide +kernel
theorem dX11_round_13 : decode cX11_round 13 = .ok (.aload_n 0, 1) := by decide +kernel
theorem dX11_round_14 : decode cX11_round 14 = .ok (.getfield 7, 3) := by decide +kernel
theorem dX11_round_17 : decode cX11_round 17 = .ok (.iconst 3, 1) := by decide +kernel
theorem dX11_round_18 : decode cX11_round 18 = .ok (.iaload, 1) := by decide +kernel
theorem dX11_round_19 : decode cX11_round 19 = .ok (.if_icmp .ge 34, 3) := by decide +kernel
theorem dX11_round_22 : decode cX11_round 22 = .ok (.iload_n 1, 1) := by decide +kernel
theorem dX11_round_23 : decode cX11_round 23 = .ok (.aload_n 0, 1) := by decide +kernel
theorem dX11_round_24 : decode cX11_round 24 = .ok (.iload_n 2, 1) := by decide +kernel
theorem dX11_round_25 : decode cX11_round 25 = .ok (.iconst 1, 1) := by decide +kernel
theorem dX11_round_26 : decode cX11_round 26 = .ok (.invokevirtual 105, 3) := by decide +kernel
theorem dX11_round_29 : decode cX11_round 29 = .ok (.ifCond .ne 15, 3) := by decide +kernel
theorem dX11_round_32 : decode cX11_round 32 = .ok (.aload_n 0, 1) := by decide +kernel
theorem dX11_round_33 : decode cX11_round 33 = .ok (.iload_n 2, 1) := by decide +kernel
theorem dX11_round_34 : decode cX11_round 34 = .ok (.invokevirtual 158, 3) := by decide +kernel
theorem dX11_round_37 : decode cX11_round 37 = .ok (.ifCond .eq 7, 3) := by decide +kernel
theorem dX11_round_40 : decode cX11_round 40 = .ok (.iconst 1, 1) := by decide +kernel
theorem dX11_round_41 : decode cX11_round 41 = .ok (.goto 4, 3) := by decide +kernel
theorem dX11_round_44 : decode cX11_round 44 = .ok (.iconst 0, 1) := by decide +kernel
theorem dX11_round_45 : decode cX11_round 45 = .ok (.iadd, 1) := by decide +kernel
theorem dX11_round_46 : decode cX11_round 46 = .ok (.istore_n 1, 1) := by decide +kernel
theorem dX11_round_47 : decode cX11_round 47 = .ok (.iinc 2 1, 3) := by decide +kernel
theorem dX11_round_50 : decode cX11_round 50 = .ok (.goto (-38), 3) := by decide +kernel
theorem dX11_round_53 : decode cX11_round 53 = .ok (.aload_n 0, 1) := by decide +kernel
theorem dX11_round_54 : decode cX11_round 54 = .ok (.getfield 7, 3) := by decide +kernel
theorem dX11_round_57 : decode cX11_round 57 = .ok (.bipush 6, 2) := by decide +kernel
theorem dX11_round_59 : decode cX11_round 59 = .ok (.dup2, 1) := by decide +kernel
theorem dX11_round_60 : decode cX11_round 60 = .ok (.iaload, 1) := by decide +kernel
theorem dX11_round_61 : decode cX11_round 61 = .ok (.iload_n 1, 1) := by decide +kernel
theorem dX11_round_62 : decode cX11_round 62 = .ok (.ifCond .le 7, 3) := by decide +kernel
theorem dX11_round_65 : decode cX11_round 65 = .ok (.iconst 1, 1) := by decide +kernel
theorem dX11_round_66 : decode cX11_round 66 = .ok (.goto 4, 3) := by decide +kernel
theorem dX11_round_69 : decode cX11_round 69 = .ok (.iconst 0, 1) := by decide +kernel
theorem dX11_round_70 : decode cX11_round 70 = .ok (.iadd, 1) := by decide +kernel
theorem dX11_round_71 : decode cX11_round 71 = .ok (.iastore, 1) := by decide +kernel
theorem dX11_round_72 : decode cX11_round 72 = .ok (.iload_n 1, 1) := by decide +kernel
theorem dX11_round_73 : decode cX11_round 73 = .ok (.ireturn, 1) := by decide +kernel
theorem dX11_strike_0 : decode cX11_strike 0 = .ok (.aload_n 0, 1) := by decide +kernel
theorem dX11_strike_1 : decode cX11_strike 1 = .ok (.invokevirtual 58, 3) := by decide +kernel
theorem dX11_strike_4 : decode cX11_strike 4 = .ok (.aload_n 0, 1) := by decide +kernel
theorem dX11_strike_5 : decode cX11_strike 5 = .ok (.invokevirtual 161, 3) := by decide +kernel
theorem dX11_strike_8 : decode cX11_strike 8 = .ok (.ireturn, 1) := by decide +kernel
theorem dX11_settle_0 : decode cX11_settle 0 = .ok (.aload_n 0, 1) := by decide +kernel
theorem dX11_settle_1 : decode cX11_settle 1 = .ok (.invokevirtual 58, 3) := by decide +kernel
theorem dX11_settle_4 : decode cX11_settle 4 = .ok (.iconst 0, 1) := by decide +kernel
theorem dX11_settle_5 : decode cX11_settle 5 = .ok (.istore_n 1, 1) := by decide +kernel
theorem dX11_settle_6 : decode cX11_settle 6 = .ok (.aload_n 0, 1) := by decide +kernel
theorem dX11_settle_7 : decode cX11_settle 7 = .ok (.invokevirtual 161, 3) := by decide +kernel
theorem dX11_settle_10 : decode cX11_settle 10 = .ok (.ifCond .le 9, 3) := by decide +kernel
theorem dX11_settle_13 : decode cX11_settle 13 = .ok (.iinc 1 1, 3) := by decide +kernel
theorem dX11_settle_16 : decode cX11_settle 16 = .ok (.goto (-10), 3) := by decide +kernel
theorem dX11_settle_19 : decode cX11_settle 19 = .ok (.iload_n 1, 1) := by decide +kernel
theorem dX11_settle_20 : decode cX11_settle 20 = .ok (.ireturn, 1) := by decide +kernel
theorem dX11_ofStep_0 : decode cX11_ofStep 0 = .ok (.aload_n 0, 1) := by decide +kernel
theorem dX11_ofStep_1 : decode cX11_ofStep 1 = .ok (.iload_n 1, 1) := by decide +kernel
theorem dX11_ofStep_2 : decode cX11_ofStep 2 = .ok (.invokevirtual 115, 3) := by decide +kernel
theorem dX11_ofStep_5 : decode cX11_ofStep 5 = .ok (.ifCond .ne 5, 3) := by decide +kernel
theorem dX11_ofStep_8 : decode cX11_ofStep 8 = .ok (.iconst (-1), 1) := by decide +kernel
theorem dX11_ofStep_9 : decode cX11_ofStep 9 = .ok (.ireturn, 1) := by decide +kernel
theorem dX11_ofStep_10 : decode cX11_ofStep 10 = .ok (.iload_n 2, 1) := by decide +kernel
theorem dX11_ofStep_11 : decode cX11_ofStep 11 = .ok (.iconst 0, 1) := by decide +kernel
theorem dX11_ofStep_12 : decode cX11_ofStep 12 = .ok (.bipush 6, 2) := by decide +kernel
theorem dX11_ofStep_14 : decode cX11_ofStep 14 = .ok (.invokestatic 46, 3) := by decide +kernel
theorem dX11_ofStep_17 : decode cX11_ofStep 17 = .ok (.ifCond .ne 6, 3) := by decide +kernel
theorem dX11_ofStep_20 : decode cX11_ofStep 20 = .ok (.bipush (-2), 2) := by decide +kernel
theorem dX11_ofStep_22 : decode cX11_ofStep 22 = .ok (.ireturn, 1) := by decide +kernel
theorem dX11_ofStep_23 : decode cX11_ofStep 23 = .ok (.iload_n 2, 1) := by decide +kernel
theorem dX11_ofStep_24 : decode cX11_ofStep 24 = .ok (.iconst 5, 1) := by decide +kernel
theorem dX11_ofStep_25 : decode cX11_ofStep 25 = .ok (.if_icmp .ge 22, 3) := by decide +kernel
theorem dX11_ofStep_28 : decode cX11_ofStep 28 = .ok (.aload_n 0, 1) := by decide +kernel
theorem dX11_ofStep_29 : decode cX11_ofStep 29 = .ok (.iload_n 1, 1) := by decide +kernel
theorem dX11_ofStep_30 : decode cX11_ofStep 30 = .ok (.iload_n 2, 1) := by decide +kernel
theorem dX11_ofStep_31 : decode cX11_ofStep 31 = .ok (.invokevirtual 94, 3) := by decide +kernel
theorem dX11_ofStep_34 : decode cX11_ofStep 34 = .ok (.iload_n 2, 1) := by decide +kernel
theorem dX11_ofStep_35 : decode cX11_ofStep 35 = .ok (.iconst 4, 1) := by decide +kernel
theorem dX11_ofStep_36 : decode cX11_ofStep 36 = .ok (.if_icmp .ne 8, 3) := by decide +kernel
theorem dX11_ofStep_39 : decode cX11_ofStep 39 = .ok (.bipush 7, 2) := by decide +kernel
theorem dX11_ofStep_41 : decode cX11_ofStep 41 = .ok (.goto 4, 3) := by decide +kernel
theorem dX11_ofStep_44 : decode cX11_ofStep 44 = .ok (.iconst 0, 1) := by decide +kernel
theorem dX11_ofStep_45 : decode cX11_ofStep 45 = .ok (.iadd, 1) := by decide +kernel
theorem dX11_ofStep_46 : decode cX11_ofStep 46 = .ok (.ireturn, 1) := by decide +kernel
theorem dX11_ofStep_47 : decode cX11_ofStep 47 = .ok (.aload_n 0, 1) := by decide +kernel
theorem dX11_ofStep_48 : decode cX11_ofStep 48 = .ok (.aload_n 0, 1) := by decide +kernel
theorem dX11_ofStep_49 : decode cX11_ofStep 49 = .ok (.invokevirtual 50, 3) := by decide +kernel
theorem dX11_ofStep_52 : decode cX11_ofStep 52 = .ok (.invokevirtual 154, 3) := by decide +kernel
theorem dX11_ofStep_55 : decode cX11_ofStep 55 = .ok (.iconst 0, 1) := by decide +kernel
theorem dX11_ofStep_56 : decode cX11_ofStep 56 = .ok (.istore_n 3, 1) := by decide +kernel
theorem dX11_ofStep_57 : decode cX11_ofStep 57 = .ok (.iconst 0, 1) := by decide +kernel
theorem dX11_ofStep_58 : decode cX11_ofStep 58 = .ok (.istore 4, 2) := by decide +kernel
theorem dX11_ofStep_60 : decode cX11_ofStep 60 = .ok (.iload 4, 2) := by decide +kernel
theorem dX11_ofStep_62 : decode cX11_ofStep 62 = .ok (.sipush 512, 3) := by decide +kernel
theorem dX11_ofStep_65 : decode cX11_ofStep 65 = .ok (.if_icmp .ge 44, 3) := by decide +kernel
theorem dX11_ofStep_68 : decode cX11_ofStep 68 = .ok (.iload_n 3, 1) := by decide +kernel
theorem dX11_ofStep_69 : decode cX11_ofStep 69 = .ok (.aload_n 0, 1) := by decide +kernel
theorem dX11_ofStep_70 : decode cX11_ofStep 70 = .ok (.iload_n 1, 1) := by decide +kernel
theorem dX11_ofStep_71 : decode cX11_ofStep 71 = .ok (.iload 4, 2) := by decide +kernel
theorem dX11_ofStep_73 : decode cX11_ofStep 73 = .ok (.invokevirtual 127, 3) := by decide +kernel
theorem dX11_ofStep_76 : decode cX11_ofStep 76 = .ok (.bipush (-6), 2) := by decide +kernel
theorem dX11_ofStep_78 : decode cX11_ofStep 78 = .ok (.if_icmp .eq 22, 3) := by decide +kernel
theorem dX11_ofStep_81 : decode cX11_ofStep 81 = .ok (.iload_n 2, 1) := by decide +kernel
theorem dX11_ofStep_82 : decode cX11_ofStep 82 = .ok (.iconst 5, 1) := by decide +kernel
theorem dX11_ofStep_83 : decode cX11_ofStep 83 = .ok (.if_icmp .eq 13, 3) := by decide +kernel
theorem dX11_ofStep_86 : decode cX11_ofStep 86 = .ok (.aload_n 0, 1) := by decide +kernel
theorem dX11_ofStep_87 : decode cX11_ofStep 87 = .ok (.getfield 26, 3) := by decide +kernel
theorem dX11_ofStep_90 : decode cX11_ofStep 90 = .ok (.iload 4, 2) := by decide +kernel
theorem dX11_ofStep_92 : decode cX11_ofStep 92 = .ok (.baload, 1) := by decide +kernel
theorem dX11_ofStep_93 : decode cX11_ofStep 93 = .ok (.ifCond .eq 7, 3) := by decide +kernel
theorem dX11_ofStep_96 : decode cX11_ofStep 96 = .ok (.iconst 1, 1) := by decide +kernel
theorem dX11_ofStep_97 : decode cX11_ofStep 97 = .ok (.goto 4, 3) := by decide +kernel
theorem dX11_ofStep_100 : decode cX11_ofStep 100 = .ok (.iconst 0, 1) := by decide +kernel
theorem dX11_ofStep_101 : decode cX11_ofStep 101 = .ok (.iadd, 1) := by decide +kernel
theorem dX11_ofStep_102 : decode cX11_ofStep 102 = .ok (.istore_n 3, 1) := by decide +kernel
theorem dX11_ofStep_103 : decode cX11_ofStep 103 = .ok (.iinc 4 1, 3) := by decide +kernel
theorem dX11_ofStep_106 : decode cX11_ofStep 106 = .ok (.goto (-46), 3) := by decide +kernel
theorem dX11_ofStep_109 : decode cX11_ofStep 109 = .ok (.iload_n 3, 1) := by decide +kernel
theorem dX11_ofStep_110 : decode cX11_ofStep 110 = .ok (.ireturn, 1) := by decide +kernel
theorem dX11_leads_0 : decode cX11_leads 0 = .ok (.aload_n 0, 1) := by decide +kernel
theorem dX11_leads_1 : decode cX11_leads 1 = .ok (.iload_n 1, 1) := by decide +kernel
theorem dX11_leads_2 : decode cX11_leads 2 = .ok (.invokevirtual 115, 3) := by decide +kernel
theorem dX11_leads_5 : decode cX11_leads 5 = .ok (.ifCond .ne 5, 3) := by decide +kernel
theorem dX11_leads_8 : decode cX11_leads 8 = .ok (.iconst (-1), 1) := by decide +kernel
theorem dX11_leads_9 : decode cX11_leads 9 = .ok (.ireturn, 1) := by decide +kernel
theorem dX11_leads_10 : decode cX11_leads 10 = .ok (.iload_n 2, 1) := by decide +kernel
theorem dX11_leads_11 : decode cX11_leads 11 = .ok (.iconst 0, 1) := by decide +kernel
theorem dX11_leads_12 : decode cX11_leads 12 = .ok (.sipush 511, 3) := by decide +kernel
theorem dX11_leads_15 : decode cX11_leads 15 = .ok (.invokestatic 46, 3) := by decide +kernel
theorem dX11_leads_18 : decode cX11_leads 18 = .ok (.ifCond .eq 12, 3) := by decide +kernel
theorem dX11_leads_21 : decode cX11_leads 21 = .ok (.aload_n 0, 1) := by decide +kernel
theorem dX11_leads_22 : decode cX11_leads 22 = .ok (.iload_n 1, 1) := by decide +kernel
theorem dX11_leads_23 : decode cX11_leads 23 = .ok (.iload_n 2, 1) := by decide +kernel
theorem dX11_leads_24 : decode cX11_leads 24 = .ok (.invokevirtual 127, 3) := by decide +kernel
theorem dX11_leads_27 : decode cX11_leads 27 = .ok (.goto 5, 3) := by decide +kernel
theorem dX11_leads_30 : decode cX11_leads 30 = .ok (.bipush (-2), 2) := by decide +kernel
theorem dX11_leads_32 : decode cX11_leads 32 = .ok (.ireturn, 1) := by decide +kernel
theorem dX11_ofCandidate_0 : decode cX11_ofCandidate 0 = .ok (.iload_n 1, 1) := by decide +kernel
theorem dX11_ofCandidate_1 : decode cX11_ofCandidate 1 = .ok (.iconst 0, 1) := by decide +kernel
theorem dX11_ofCandidate_2 : decode cX11_ofCandidate 2 = .ok (.aload_n 0, 1) := by decide +kernel
theorem dX11_ofCandidate_3 : decode cX11_ofCandidate 3 = .ok (.getfield 7, 3) := by decide +kernel
theorem dX11_ofCandidate_6 : decode cX11_ofCandidate 6 = .ok (.iconst 3, 1) := by decide +kernel
theorem dX11_ofCandidate_7 : decode cX11_ofCandidate 7 = .ok (.iaload, 1) := by decide +kernel
theorem dX11_ofCandidate_8 : decode cX11_ofCandidate 8 = .ok (.iconst 1, 1) := by decide +kernel
theorem dX11_ofCandidate_9 : decode cX11_ofCandidate 9 = .ok (.isub, 1) := by decide +kernel
theorem dX11_ofCandidate_10 : decode cX11_ofCandidate 10 = .ok (.invokestatic 46, 3) := by decide +kernel
theorem dX11_ofCandidate_13 : decode cX11_ofCandidate 13 = .ok (.ifCond .ne 5, 3) := by decide +kernel
theorem dX11_ofCandidate_16 : decode cX11_ofCandidate 16 = .ok (.iconst (-1), 1) := by decide +kernel
theorem dX11_ofCandidate_17 : decode cX11_ofCandidate 17 = .ok (.ireturn, 1) := by decide +kernel
theorem dX11_ofCandidate_18 : decode cX11_ofCandidate 18 = .ok (.iload_n 2, 1) := by decide +kernel
theorem dX11_ofCandidate_19 : decode cX11_ofCandidate 19 = .ok (.iconst 0, 1) := by decide +kernel
theorem dX11_ofCandidate_20 : decode cX11_ofCandidate 20 = .ok (.iconst 4, 1) := by decide +kernel
theorem dX11_ofCandidate_21 : decode cX11_ofCandidate 21 = .ok (.invokestatic 46, 3) := by decide +kernel
theorem dX11_ofCandidate_24 : decode cX11_ofCandidate 24 = .ok (.ifCond .eq 12, 3) := by decide +kernel
theorem dX11_ofCandidate_27 : decode cX11_ofCandidate 27 = .ok (.aload_n 0, 1) := by decide +kernel
theorem dX11_ofCandidate_28 : decode cX11_ofCandidate 28 = .ok (.iload_n 1, 1) := by decide +kernel
theorem dX11_ofCandidate_29 : decode cX11_ofCandidate 29 = .ok (.iload_n 2, 1) := by decide +kernel
theorem dX11_ofCandidate_30 : decode cX11_ofCandidate 30 = .ok (.invokevirtual 105, 3) := by decide +kernel
theorem dX11_ofCandidate_33 : decode cX11_ofCandidate 33 = .ok (.goto 5, 3) := by decide +kernel
theorem dX11_ofCandidate_36 : decode cX11_ofCandidate 36 = .ok (.bipush (-2), 2) := by decide +kernel
theorem dX11_ofCandidate_38 : decode cX11_ofCandidate 38 = .ok (.ireturn, 1) := by decide +kernel
theorem dX11_allowedMany_0 : decode cX11_allowedMany 0 = .ok (.aload_n 0, 1) := by decide +kernel
theorem dX11_allowedMany_1 : decode cX11_allowedMany 1 = .ok (.aload_n 0, 1) := by decide +kernel
theorem dX11_allowedMany_2 : decode cX11_allowedMany 2 = .ok (.invokevirtual 50, 3) := by decide +kernel
theorem dX11_allowedMany_5 : decode cX11_allowedMany 5 = .ok (.invokevirtual 154, 3) := by decide +kernel
theorem dX11_allowedMany_8 : decode cX11_allowedMany 8 = .ok (.iconst 0, 1) := by decide +kernel
theorem dX11_allowedMany_9 : decode cX11_allowedMany 9 = .ok (.istore_n 1, 1) := by decide +kernel
theorem dX11_allowedMany_10 : decode cX11_allowedMany 10 = .ok (.iconst 0, 1) := by decide +kernel
theorem dX11_allowedMany_11 : decode cX11_allowedMany 11 = .ok (.istore_n 2, 1) := by decide +kernel
theorem dX11_allowedMany_12 : decode cX11_allowedMany 12 = .ok (.iload_n 2, 1) := by decide +kernel
theorem dX11_allowedMany_13 : decode cX11_allowedMany 13 = .ok (.sipush 512, 3) := by decide +kernel
theorem dX11_allowedMany_16 : decode cX11_allowedMany 16 = .ok (.if_icmp .ge 26, 3) := by decide +kernel
theorem dX11_allowedMany_19 : decode cX11_allowedMany 19 = .ok (.iload_n 1, 1) := by decide +kernel
theorem dX11_allowedMany_20 : decode cX11_allowedMany 20 = .ok (.aload_n 0, 1) := by decide +kernel
theorem dX11_allowedMany_21 : decode cX11_allowedMany 21 = .ok (.getfield 26, 3) := by decide +kernel
theorem dX11_allowedMany_24 : decode cX11_allowedMany 24 = .ok (.iload_n 2, 1) := by decide +kernel
theorem dX11_allowedMany_25 : decode cX11_allowedMany 25 = .ok (.baload, 1) := by decide +kernel
theorem dX11_allowedMany_26 : decode cX11_allowedMany 26 = .ok (.ifCond .eq 7, 3) := by decide +kernel
theorem dX11_allowedMany_29 : decode cX11_allowedMany 29 = .ok (.iconst 1, 1) := by decide +kernel
theorem dX11_allowedMany_30 : decode cX11_allowedMany 30 = .ok (.goto 4, 3) := by decide +kernel
theorem dX11_allowedMany_33 : decode cX11_allowedMany 33 = .ok (.iconst 0, 1) := by decide +kernel
theorem dX11_allowedMany_34 : decode cX11_allowedMany 34 = .ok (.iadd, 1) := by decide +kernel
theorem dX11_allowedMany_35 : decode cX11_allowedMany 35 = .ok (.istore_n 1, 1) := by decide +kernel
theorem dX11_allowedMany_36 : decode cX11_allowedMany 36 = .ok (.iinc 2 1, 3) := by decide +kernel
theorem dX11_allowedMany_39 : decode cX11_allowedMany 39 = .ok (.goto (-27), 3) := by decide +kernel
theorem dX11_allowedMany_42 : decode cX11_allowedMany 42 = .ok (.iload_n 1, 1) := by decide +kernel
theorem dX11_allowedMany_43 : decode cX11_allowedMany 43 = .ok (.ireturn, 1) := by decide +kernel
theorem dX11_reaches_0 : decode cX11_reaches 0 = .ok (.iconst 0, 1) := by decide +kernel
theorem dX11_reaches_1 : decode cX11_reaches 1 = .ok (.istore_n 1, 1) := by decide +kernel
theorem dX11_reaches_2 : decode cX11_reaches 2 = .ok (.iload_n 1, 1) := by decide +kernel
theorem dX11_reaches_3 : decode cX11_reaches 3 = .ok (.sipush 512, 3) := by decide +kernel
theorem dX11_reaches_6 : decode cX11_reaches 6 = .ok (.if_icmp .ge 16, 3) := by decide +kernel
theorem dX11_reaches_9 : decode cX11_reaches 9 = .ok (.aload_n 0, 1) := by decide +kernel
theorem dX11_reaches_10 : decode cX11_reaches 10 = .ok (.getfield 29, 3) := by decide +kernel
theorem dX11_reaches_13 : decode cX11_reaches 13 = .ok (.iload_n 1, 1) := by decide +kernel
theorem dX11_reaches_14 : decode cX11_reaches 14 = .ok (.iconst 0, 1) := by decide +kernel
theorem dX11_reaches_15 : decode cX11_reaches 15 = .ok (.bastore, 1) := by decide +kernel
theorem dX11_reaches_16 : decode cX11_reaches 16 = .ok (.iinc 1 1, 3) := by decide +kernel
theorem dX11_reaches_19 : decode cX11_reaches 19 = .ok (.goto (-17), 3) := by decide +kernel
theorem dX11_reaches_22 : decode cX11_reaches 22 = .ok (.aload_n 0, 1) := by decide +kernel
theorem dX11_reaches_23 : decode cX11_reaches 23 = .ok (.getfield 29, 3) := by decide +kernel
theorem dX11_reaches_26 : decode cX11_reaches 26 = .ok (.aload_n 0, 1) := by decide +kernel
theorem dX11_reaches_27 : decode cX11_reaches 27 = .ok (.getfield 7, 3) := by decide +kernel
theorem dX11_reaches_30 : decode cX11_reaches 30 = .ok (.iconst 0, 1) := by decide +kernel
theorem dX11_reaches_31 : decode cX11_reaches 31 = .ok (.iaload, 1) := by decide +kernel
theorem dX11_reaches_32 : decode cX11_reaches 32 = .ok (.iconst 1, 1) := by decide +kernel
theorem dX11_reaches_33 : decode cX11_reaches 33 = .ok (.bastore, 1) := by decide +kernel
theorem dX11_reaches_34 : decode cX11_reaches 34 = .ok (.aload_n 0, 1) := by decide +kernel
theorem dX11_reaches_35 : decode cX11_reaches 35 = .ok (.getfield 32, 3) := by decide +kernel
theorem dX11_reaches_38 : decode cX11_reaches 38 = .ok (.iconst 0, 1) := by decide +kernel
theorem dX11_reaches_39 : decode cX11_reaches 39 = .ok (.aload_n 0, 1) := by decide +kernel
theorem dX11_reaches_40 : decode cX11_reaches 40 = .ok (.getfield 7, 3) := by decide +kernel
theorem dX11_reaches_43 : decode cX11_reaches 43 = .ok (.iconst 0, 1) := by decide +kernel
theorem dX11_reaches_44 : decode cX11_reaches 44 = .ok (.iaload, 1) := by decide +kernel
theorem dX11_reaches_45 : decode cX11_reaches 45 = .ok (.iastore, 1) := by decide +kernel
theorem dX11_reaches_46 : decode cX11_reaches 46 = .ok (.iconst 1, 1) := by decide +kernel
theorem dX11_reaches_47 : decode cX11_reaches 47 = .ok (.istore_n 1, 1) := by decide +kernel
theorem dX11_reaches_48 : decode cX11_reaches 48 = .ok (.iconst 0, 1) := by decide +kernel
theorem dX11_reaches_49 : decode cX11_reaches 49 = .ok (.istore_n 2, 1) := by decide +kernel
theorem dX11_reaches_50 : decode cX11_reaches 50 = .ok (.iload_n 2, 1) := by decide +kernel
theorem dX11_reaches_51 : decode cX11_reaches 51 = .ok (.iload_n 1, 1) := by decide +kernel
theorem dX11_reaches_52 : decode cX11_reaches 52 = .ok (.if_icmp .ge 76, 3) := by decide +kernel
theorem dX11_reaches_55 : decode cX11_reaches 55 = .ok (.iconst 0, 1) := by decide +kernel
theorem dX11_reaches_56 : decode cX11_reaches 56 = .ok (.istore_n 3, 1) := by decide +kernel
theorem dX11_reaches_57 : decode cX11_reaches 57 = .ok (.iload_n 3, 1) := by decide +kernel
theorem dX11_reaches_58 : decode cX11_reaches 58 = .ok (.aload_n 0, 1) := by decide +kernel
theorem dX11_reaches_59 : decode cX11_reaches 59 = .ok (.getfield 7, 3) := by decide +kernel
theorem dX11_reaches_62 : decode cX11_reaches 62 = .ok (.iconst 2, 1) := by decide +kernel
theorem dX11_reaches_63 : decode cX11_reaches 63 = .ok (.iaload, 1) := by decide +kernel
theorem dX11_reaches_64 : decode cX11_reaches 64 = .ok (.if_icmp .ge 58, 3) := by decide +kernel
theorem dX11_reaches_67 : decode cX11_reaches 67 = .ok (.aload_n 0, 1) := by decide +kernel
theorem dX11_reaches_68 : decode cX11_reaches 68 = .ok (.iload_n 3, 1) := by decide +kernel
theorem dX11_reaches_69 : decode cX11_reaches 69 = .ok (.aload_n 0, 1) := by decide +kernel
theorem dX11_reaches_70 : decode cX11_reaches 70 = .ok (.getfield 32, 3) := by decide +kernel
theorem dX11_reaches_73 : decode cX11_reaches 73 = .ok (.iload_n 2, 1) := by decide +kernel
theorem dX11_reaches_74 : decode cX11_reaches 74 = .ok (.iaload, 1) := by decide +kernel
theorem dX11_reaches_75 : decode cX11_reaches 75 = .ok (.invokevirtual 127, 3) := by decide +kernel
theorem dX11_reaches_78 : decode cX11_reaches 78 = .ok (.istore 4, 2) := by decide +kernel
theorem dX11_reaches_80 : decode cX11_reaches 80 = .ok (.iload 4, 2) := by decide +kernel
theorem dX11_reaches_82 : decode cX11_reaches 82 = .ok (.bipush (-6), 2) := by decide +kernel
theorem dX11_reaches_84 : decode cX11_reaches 84 = .ok (.if_icmp .eq 32, 3) := by decide +kernel
theorem dX11_reaches_87 : decode cX11_reaches 87 = .ok (.aload_n 0, 1) := by decide +kernel
theorem dX11_reaches_88 : decode cX11_reaches 88 = .ok (.getfield 29, 3) := by decide +kernel
theorem dX11_reaches_91 : decode cX11_reaches 91 = .ok (.iload 4, 2) := by decide +kernel
theorem dX11_reaches_93 : decode cX11_reaches 93 = .ok (.baload, 1) := by decide +kernel
theorem dX11_reaches_94 : decode cX11_reaches 94 = .ok (.ifCond .ne 22, 3) := by decide +kernel
theorem dX11_reaches_97 : decode cX11_reaches 97 = .ok (.aload_n 0, 1) := by decide +kernel
theorem dX11_reaches_98 : decode cX11_reaches 98 = .ok (.getfield 29, 3) := by decide +kernel
theorem dX11_reaches_101 : decode cX11_reaches 101 = .ok (.iload 4, 2) := by decide +kernel
theorem dX11_reaches_103 : decode cX11_reaches 103 = .ok (.iconst 1, 1) := by decide +kernel
theorem dX11_reaches_104 : decode cX11_reaches 104 = .ok (.bastore, 1) := by decide +kernel
theorem dX11_reaches_105 : decode cX11_reaches 105 = .ok (.aload_n 0, 1) := by decide +kernel
theorem dX11_reaches_106 : decode cX11_reaches 106 = .ok (.getfield 32, 3) := by decide +kernel
