theorem dX11_reaches_109 : decode cX11_reaches 109 = .ok (.iload_n 1, 1) := by decide +kernel
theorem dX11_reaches_110 : decode cX11_reaches 110 = .ok (.iload 4, 2) := by decide +kernel
theorem dX11_reaches_112 : decode cX11_reaches 112 = .ok (.iastore, 1) := by decide +kernel
theorem dX11_reaches_113 : decode cX11_reaches 113 = .ok (.iinc 1 1, 3) := by decide +kernel
theorem dX11_reaches_116 : decode cX11_reaches 116 = .ok (.iinc 3 1, 3) := by decide +kernel
theorem dX11_reaches_119 : decode cX11_reaches 119 = .ok (.goto (-62), 3) := by decide +kernel
theorem dX11_reaches_122 : decode cX11_reaches 122 = .ok (.iinc 2 1, 3) := by decide +kernel
theorem dX11_reaches_125 : decode cX11_reaches 125 = .ok (.goto (-75), 3) := by decide +kernel
theorem dX11_reaches_128 : decode cX11_reaches 128 = .ok (.iload_n 1, 1) := by decide +kernel
theorem dX11_reaches_129 : decode cX11_reaches 129 = .ok (.ireturn, 1) := by decide +kernel
theorem dX11_count_0 : decode cX11_count 0 = .ok (.iload_n 1, 1) := by decide +kernel
theorem dX11_count_1 : decode cX11_count 1 = .ok (.tableswitch 162 0 12 #[67, 74, 81, 89, 96, 103, 111, 118, 125, 130, 135, 152, 157], 67) := by decide +kernel
theorem dX11_count_68 : decode cX11_count 68 = .ok (.aload_n 0, 1) := by decide +kernel
theorem dX11_count_69 : decode cX11_count 69 = .ok (.getfield 7, 3) := by decide +kernel
theorem dX11_count_72 : decode cX11_count 72 = .ok (.iconst 2, 1) := by decide +kernel
theorem dX11_count_73 : decode cX11_count 73 = .ok (.iaload, 1) := by decide +kernel
theorem dX11_count_74 : decode cX11_count 74 = .ok (.ireturn, 1) := by decide +kernel
theorem dX11_count_75 : decode cX11_count 75 = .ok (.aload_n 0, 1) := by decide +kernel
theorem dX11_count_76 : decode cX11_count 76 = .ok (.getfield 7, 3) := by decide +kernel
theorem dX11_count_79 : decode cX11_count 79 = .ok (.iconst 3, 1) := by decide +kernel
theorem dX11_count_80 : decode cX11_count 80 = .ok (.iaload, 1) := by decide +kernel
theorem dX11_count_81 : decode cX11_count 81 = .ok (.ireturn, 1) := by decide +kernel
theorem dX11_count_82 : decode cX11_count 82 = .ok (.aload_n 0, 1) := by decide +kernel
theorem dX11_count_83 : decode cX11_count 83 = .ok (.invokevirtual 50, 3) := by decide +kernel
theorem dX11_count_86 : decode cX11_count 86 = .ok (.invokestatic 54, 3) := by decide +kernel
theorem dX11_count_89 : decode cX11_count 89 = .ok (.ireturn, 1) := by decide +kernel
theorem dX11_count_90 : decode cX11_count 90 = .ok (.aload_n 0, 1) := by decide +kernel
theorem dX11_count_91 : decode cX11_count 91 = .ok (.getfield 7, 3) := by decide +kernel
theorem dX11_count_94 : decode cX11_count 94 = .ok (.iconst 4, 1) := by decide +kernel
theorem dX11_count_95 : decode cX11_count 95 = .ok (.iaload, 1) := by decide +kernel
theorem dX11_count_96 : decode cX11_count 96 = .ok (.ireturn, 1) := by decide +kernel
theorem dX11_count_97 : decode cX11_count 97 = .ok (.aload_n 0, 1) := by decide +kernel
theorem dX11_count_98 : decode cX11_count 98 = .ok (.getfield 7, 3) := by decide +kernel
theorem dX11_count_101 : decode cX11_count 101 = .ok (.iconst 5, 1) := by decide +kernel
theorem dX11_count_102 : decode cX11_count 102 = .ok (.iaload, 1) := by decide +kernel
theorem dX11_count_103 : decode cX11_count 103 = .ok (.ireturn, 1) := by decide +kernel
theorem dX11_count_104 : decode cX11_count 104 = .ok (.aload_n 0, 1) := by decide +kernel
theorem dX11_count_105 : decode cX11_count 105 = .ok (.getfield 7, 3) := by decide +kernel
theorem dX11_count_108 : decode cX11_count 108 = .ok (.bipush 6, 2) := by decide +kernel
theorem dX11_count_110 : decode cX11_count 110 = .ok (.iaload, 1) := by decide +kernel
theorem dX11_count_111 : decode cX11_count 111 = .ok (.ireturn, 1) := by decide +kernel
theorem dX11_count_112 : decode cX11_count 112 = .ok (.aload_n 0, 1) := by decide +kernel
theorem dX11_count_113 : decode cX11_count 113 = .ok (.getfield 7, 3) := by decide +kernel
theorem dX11_count_116 : decode cX11_count 116 = .ok (.iconst 0, 1) := by decide +kernel
theorem dX11_count_117 : decode cX11_count 117 = .ok (.iaload, 1) := by decide +kernel
theorem dX11_count_118 : decode cX11_count 118 = .ok (.ireturn, 1) := by decide +kernel
theorem dX11_count_119 : decode cX11_count 119 = .ok (.aload_n 0, 1) := by decide +kernel
theorem dX11_count_120 : decode cX11_count 120 = .ok (.getfield 7, 3) := by decide +kernel
theorem dX11_count_123 : decode cX11_count 123 = .ok (.iconst 1, 1) := by decide +kernel
theorem dX11_count_124 : decode cX11_count 124 = .ok (.iaload, 1) := by decide +kernel
theorem dX11_count_125 : decode cX11_count 125 = .ok (.ireturn, 1) := by decide +kernel
theorem dX11_count_126 : decode cX11_count 126 = .ok (.aload_n 0, 1) := by decide +kernel
theorem dX11_count_127 : decode cX11_count 127 = .ok (.invokevirtual 165, 3) := by decide +kernel
theorem dX11_count_130 : decode cX11_count 130 = .ok (.ireturn, 1) := by decide +kernel
theorem dX11_count_131 : decode cX11_count 131 = .ok (.aload_n 0, 1) := by decide +kernel
theorem dX11_count_132 : decode cX11_count 132 = .ok (.invokevirtual 168, 3) := by decide +kernel
theorem dX11_count_135 : decode cX11_count 135 = .ok (.ireturn, 1) := by decide +kernel
theorem dX11_count_136 : decode cX11_count 136 = .ok (.aload_n 0, 1) := by decide +kernel
theorem dX11_count_137 : decode cX11_count 137 = .ok (.aload_n 0, 1) := by decide +kernel
theorem dX11_count_138 : decode cX11_count 138 = .ok (.invokevirtual 50, 3) := by decide +kernel
theorem dX11_count_141 : decode cX11_count 141 = .ok (.invokevirtual 171, 3) := by decide +kernel
theorem dX11_count_144 : decode cX11_count 144 = .ok (.ifCond .eq 7, 3) := by decide +kernel
theorem dX11_count_147 : decode cX11_count 147 = .ok (.iconst 1, 1) := by decide +kernel
theorem dX11_count_148 : decode cX11_count 148 = .ok (.goto 4, 3) := by decide +kernel
theorem dX11_count_151 : decode cX11_count 151 = .ok (.iconst 0, 1) := by decide +kernel
theorem dX11_count_152 : decode cX11_count 152 = .ok (.ireturn, 1) := by decide +kernel
theorem dX11_count_153 : decode cX11_count 153 = .ok (.aload_n 0, 1) := by decide +kernel
theorem dX11_count_154 : decode cX11_count 154 = .ok (.getfield 175, 3) := by decide +kernel
theorem dX11_count_157 : decode cX11_count 157 = .ok (.ireturn, 1) := by decide +kernel
theorem dX11_count_158 : decode cX11_count 158 = .ok (.aload_n 0, 1) := by decide +kernel
theorem dX11_count_159 : decode cX11_count 159 = .ok (.getfield 42, 3) := by decide +kernel
theorem dX11_count_162 : decode cX11_count 162 = .ok (.ireturn, 1) := by decide +kernel
theorem dX11_count_163 : decode cX11_count 163 = .ok (.bipush (-2), 2) := by decide +kernel
theorem dX11_count_165 : decode cX11_count 165 = .ok (.ireturn, 1) := by decide +kernel
theorem dX11_ofState_0 : decode cX11_ofState 0 = .ok (.iload_n 1, 1) := by decide +kernel
theorem dX11_ofState_1 : decode cX11_ofState 1 = .ok (.iconst 0, 1) := by decide +kernel
theorem dX11_ofState_2 : decode cX11_ofState 2 = .ok (.sipush 511, 3) := by decide +kernel
theorem dX11_ofState_5 : decode cX11_ofState 5 = .ok (.invokestatic 46, 3) := by decide +kernel
theorem dX11_ofState_8 : decode cX11_ofState 8 = .ok (.ifCond .ne 6, 3) := by decide +kernel
theorem dX11_ofState_11 : decode cX11_ofState 11 = .ok (.bipush (-2), 2) := by decide +kernel
theorem dX11_ofState_13 : decode cX11_ofState 13 = .ok (.ireturn, 1) := by decide +kernel
theorem dX11_ofState_14 : decode cX11_ofState 14 = .ok (.aload_n 0, 1) := by decide +kernel
theorem dX11_ofState_15 : decode cX11_ofState 15 = .ok (.invokevirtual 168, 3) := by decide +kernel
theorem dX11_ofState_18 : decode cX11_ofState 18 = .ok (.istore_n 2, 1) := by decide +kernel
theorem dX11_ofState_19 : decode cX11_ofState 19 = .ok (.iload_n 2, 1) := by decide +kernel
theorem dX11_ofState_20 : decode cX11_ofState 20 = .ok (.ifCond .le 16, 3) := by decide +kernel
theorem dX11_ofState_23 : decode cX11_ofState 23 = .ok (.aload_n 0, 1) := by decide +kernel
theorem dX11_ofState_24 : decode cX11_ofState 24 = .ok (.getfield 29, 3) := by decide +kernel
theorem dX11_ofState_27 : decode cX11_ofState 27 = .ok (.iload_n 1, 1) := by decide +kernel
theorem dX11_ofState_28 : decode cX11_ofState 28 = .ok (.baload, 1) := by decide +kernel
theorem dX11_ofState_29 : decode cX11_ofState 29 = .ok (.ifCond .eq 7, 3) := by decide +kernel
theorem dX11_ofState_32 : decode cX11_ofState 32 = .ok (.iconst 1, 1) := by decide +kernel
theorem dX11_ofState_33 : decode cX11_ofState 33 = .ok (.goto 4, 3) := by decide +kernel
theorem dX11_ofState_36 : decode cX11_ofState 36 = .ok (.iconst 0, 1) := by decide +kernel
theorem dX11_ofState_37 : decode cX11_ofState 37 = .ok (.istore_n 3, 1) := by decide +kernel
theorem dX11_ofState_38 : decode cX11_ofState 38 = .ok (.aload_n 0, 1) := by decide +kernel
theorem dX11_ofState_39 : decode cX11_ofState 39 = .ok (.iload_n 1, 1) := by decide +kernel
theorem dX11_ofState_40 : decode cX11_ofState 40 = .ok (.invokevirtual 141, 3) := by decide +kernel
theorem dX11_ofState_43 : decode cX11_ofState 43 = .ok (.ifCond .eq 7, 3) := by decide +kernel
theorem dX11_ofState_46 : decode cX11_ofState 46 = .ok (.iconst 1, 1) := by decide +kernel
theorem dX11_ofState_47 : decode cX11_ofState 47 = .ok (.goto 4, 3) := by decide +kernel
theorem dX11_ofState_50 : decode cX11_ofState 50 = .ok (.iconst 0, 1) := by decide +kernel
theorem dX11_ofState_51 : decode cX11_ofState 51 = .ok (.iload_n 3, 1) := by decide +kernel
theorem dX11_ofState_52 : decode cX11_ofState 52 = .ok (.ifCond .eq 7, 3) := by decide +kernel
theorem dX11_ofState_55 : decode cX11_ofState 55 = .ok (.iconst 2, 1) := by decide +kernel
theorem dX11_ofState_56 : decode cX11_ofState 56 = .ok (.goto 4, 3) := by decide +kernel
theorem dX11_ofState_59 : decode cX11_ofState 59 = .ok (.iconst 0, 1) := by decide +kernel
theorem dX11_ofState_60 : decode cX11_ofState 60 = .ok (.iadd, 1) := by decide +kernel
theorem dX11_ofState_61 : decode cX11_ofState 61 = .ok (.aload_n 0, 1) := by decide +kernel
theorem dX11_ofState_62 : decode cX11_ofState 62 = .ok (.aload_n 0, 1) := by decide +kernel
theorem dX11_ofState_63 : decode cX11_ofState 63 = .ok (.invokevirtual 50, 3) := by decide +kernel
theorem dX11_ofState_66 : decode cX11_ofState 66 = .ok (.iload_n 1, 1) := by decide +kernel
theorem dX11_ofState_67 : decode cX11_ofState 67 = .ok (.invokevirtual 151, 3) := by decide +kernel
theorem dX11_ofState_70 : decode cX11_ofState 70 = .ok (.ifCond .eq 7, 3) := by decide +kernel
theorem dX11_ofState_73 : decode cX11_ofState 73 = .ok (.iconst 4, 1) := by decide +kernel
theorem dX11_ofState_74 : decode cX11_ofState 74 = .ok (.goto 4, 3) := by decide +kernel
theorem dX11_ofState_77 : decode cX11_ofState 77 = .ok (.iconst 0, 1) := by decide +kernel
theorem dX11_ofState_78 : decode cX11_ofState 78 = .ok (.iadd, 1) := by decide +kernel
theorem dX11_ofState_79 : decode cX11_ofState 79 = .ok (.ireturn, 1) := by decide +kernel
theorem dX11_against_0 : decode cX11_against 0 = .ok (.iconst 0, 1) := by decide +kernel
theorem dX11_against_1 : decode cX11_against 1 = .ok (.istore 4, 2) := by decide +kernel
theorem dX11_against_3 : decode cX11_against 3 = .ok (.iload 4, 2) := by decide +kernel
theorem dX11_against_5 : decode cX11_against 5 = .ok (.sipush 512, 3) := by decide +kernel
theorem dX11_against_8 : decode cX11_against 8 = .ok (.if_icmp .ge 31, 3) := by decide +kernel
theorem dX11_against_11 : decode cX11_against 11 = .ok (.iload_n 3, 1) := by decide +kernel
theorem dX11_against_12 : decode cX11_against 12 = .ok (.iload 4, 2) := by decide +kernel
theorem dX11_against_14 : decode cX11_against 14 = .ok (.invokestatic 90, 3) := by decide +kernel
theorem dX11_against_17 : decode cX11_against 17 = .ok (.ifCond .ne 16, 3) := by decide +kernel
theorem dX11_against_20 : decode cX11_against 20 = .ok (.aload_n 0, 1) := by decide +kernel
theorem dX11_against_21 : decode cX11_against 21 = .ok (.lload_n 1, 1) := by decide +kernel
theorem dX11_against_22 : decode cX11_against 22 = .ok (.iload 4, 2) := by decide +kernel
theorem dX11_against_24 : decode cX11_against 24 = .ok (.invokevirtual 151, 3) := by decide +kernel
theorem dX11_against_27 : decode cX11_against 27 = .ok (.ifCond .eq 6, 3) := by decide +kernel
theorem dX11_against_30 : decode cX11_against 30 = .ok (.iload 4, 2) := by decide +kernel
theorem dX11_against_32 : decode cX11_against 32 = .ok (.ireturn, 1) := by decide +kernel
theorem dX11_against_33 : decode cX11_against 33 = .ok (.iinc 4 1, 3) := by decide +kernel
theorem dX11_against_36 : decode cX11_against 36 = .ok (.goto (-33), 3) := by decide +kernel
theorem dX11_against_39 : decode cX11_against 39 = .ok (.bipush (-6), 2) := by decide +kernel
theorem dX11_against_41 : decode cX11_against 41 = .ok (.ireturn, 1) := by decide +kernel
theorem dX11_proves_0 : decode cX11_proves 0 = .ok (.iload_n 1, 1) := by decide +kernel
theorem dX11_proves_1 : decode cX11_proves 1 = .ok (.invokestatic 86, 3) := by decide +kernel
theorem dX11_proves_4 : decode cX11_proves 4 = .ok (.ifCond .ne 6, 3) := by decide +kernel
theorem dX11_proves_7 : decode cX11_proves 7 = .ok (.bipush (-2), 2) := by decide +kernel
theorem dX11_proves_9 : decode cX11_proves 9 = .ok (.ireturn, 1) := by decide +kernel
theorem dX11_proves_10 : decode cX11_proves 10 = .ok (.aload_n 0, 1) := by decide +kernel
theorem dX11_proves_11 : decode cX11_proves 11 = .ok (.aload_n 0, 1) := by decide +kernel
theorem dX11_proves_12 : decode cX11_proves 12 = .ok (.invokevirtual 50, 3) := by decide +kernel
theorem dX11_proves_15 : decode cX11_proves 15 = .ok (.invokevirtual 171, 3) := by decide +kernel
theorem dX11_proves_18 : decode cX11_proves 18 = .ok (.ifCond .ne 6, 3) := by decide +kernel
theorem dX11_proves_21 : decode cX11_proves 21 = .ok (.bipush (-5), 2) := by decide +kernel
theorem dX11_proves_23 : decode cX11_proves 23 = .ok (.ireturn, 1) := by decide +kernel
theorem dX11_proves_24 : decode cX11_proves 24 = .ok (.aload_n 0, 1) := by decide +kernel
theorem dX11_proves_25 : decode cX11_proves 25 = .ok (.aload_n 0, 1) := by decide +kernel
theorem dX11_proves_26 : decode cX11_proves 26 = .ok (.invokevirtual 50, 3) := by decide +kernel
theorem dX11_proves_29 : decode cX11_proves 29 = .ok (.iload_n 1, 1) := by decide +kernel
theorem dX11_proves_30 : decode cX11_proves 30 = .ok (.invokevirtual 178, 3) := by decide +kernel
theorem dX11_proves_33 : decode cX11_proves 33 = .ok (.bipush (-6), 2) := by decide +kernel
theorem dX11_proves_35 : decode cX11_proves 35 = .ok (.if_icmp .ne 7, 3) := by decide +kernel
theorem dX11_proves_38 : decode cX11_proves 38 = .ok (.iconst 1, 1) := by decide +kernel
theorem dX11_proves_39 : decode cX11_proves 39 = .ok (.goto 4, 3) := by decide +kernel
theorem dX11_proves_42 : decode cX11_proves 42 = .ok (.iconst 0, 1) := by decide +kernel
theorem dX11_proves_43 : decode cX11_proves 43 = .ok (.ireturn, 1) := by decide +kernel
theorem dX11_witness_0 : decode cX11_witness 0 = .ok (.iload_n 1, 1) := by decide +kernel
theorem dX11_witness_1 : decode cX11_witness 1 = .ok (.invokestatic 86, 3) := by decide +kernel
theorem dX11_witness_4 : decode cX11_witness 4 = .ok (.ifCond .eq 15, 3) := by decide +kernel
theorem dX11_witness_7 : decode cX11_witness 7 = .ok (.aload_n 0, 1) := by decide +kernel
theorem dX11_witness_8 : decode cX11_witness 8 = .ok (.aload_n 0, 1) := by decide +kernel
theorem dX11_witness_9 : decode cX11_witness 9 = .ok (.invokevirtual 50, 3) := by decide +kernel
theorem dX11_witness_12 : decode cX11_witness 12 = .ok (.iload_n 1, 1) := by decide +kernel
theorem dX11_witness_13 : decode cX11_witness 13 = .ok (.invokevirtual 178, 3) := by decide +kernel
theorem dX11_witness_16 : decode cX11_witness 16 = .ok (.goto 5, 3) := by decide +kernel
theorem dX11_witness_19 : decode cX11_witness 19 = .ok (.bipush (-2), 2) := by decide +kernel
theorem dX11_witness_21 : decode cX11_witness 21 = .ok (.ireturn, 1) := by decide +kernel
theorem dX11_isTrue_0 : decode cX11_isTrue 0 = .ok (.iload_n 1, 1) := by decide +kernel
theorem dX11_isTrue_1 : decode cX11_isTrue 1 = .ok (.invokestatic 86, 3) := by decide +kernel
theorem dX11_isTrue_4 : decode cX11_isTrue 4 = .ok (.ifCond .ne 6, 3) := by decide +kernel
theorem dX11_isTrue_7 : decode cX11_isTrue 7 = .ok (.bipush (-2), 2) := by decide +kernel
theorem dX11_isTrue_9 : decode cX11_isTrue 9 = .ok (.ireturn, 1) := by decide +kernel
theorem dX11_isTrue_10 : decode cX11_isTrue 10 = .ok (.aload_n 0, 1) := by decide +kernel
theorem dX11_isTrue_11 : decode cX11_isTrue 11 = .ok (.invokevirtual 168, 3) := by decide +kernel
theorem dX11_isTrue_14 : decode cX11_isTrue 14 = .ok (.ifCond .le 7, 3) := by decide +kernel
theorem dX11_isTrue_17 : decode cX11_isTrue 17 = .ok (.iconst 1, 1) := by decide +kernel
theorem dX11_isTrue_18 : decode cX11_isTrue 18 = .ok (.goto 4, 3) := by decide +kernel
theorem dX11_isTrue_21 : decode cX11_isTrue 21 = .ok (.iconst 0, 1) := by decide +kernel
theorem dX11_isTrue_22 : decode cX11_isTrue 22 = .ok (.istore_n 2, 1) := by decide +kernel
theorem dX11_isTrue_23 : decode cX11_isTrue 23 = .ok (.iconst 0, 1) := by decide +kernel
theorem dX11_isTrue_24 : decode cX11_isTrue 24 = .ok (.istore_n 3, 1) := by decide +kernel
theorem dX11_isTrue_25 : decode cX11_isTrue 25 = .ok (.iload_n 3, 1) := by decide +kernel
theorem dX11_isTrue_26 : decode cX11_isTrue 26 = .ok (.sipush 512, 3) := by decide +kernel
theorem dX11_isTrue_29 : decode cX11_isTrue 29 = .ok (.if_icmp .ge 36, 3) := by decide +kernel
theorem dX11_isTrue_32 : decode cX11_isTrue 32 = .ok (.iload_n 2, 1) := by decide +kernel
theorem dX11_isTrue_33 : decode cX11_isTrue 33 = .ok (.ifCond .eq 32, 3) := by decide +kernel
theorem dX11_isTrue_36 : decode cX11_isTrue 36 = .ok (.aload_n 0, 1) := by decide +kernel
theorem dX11_isTrue_37 : decode cX11_isTrue 37 = .ok (.getfield 29, 3) := by decide +kernel
theorem dX11_isTrue_40 : decode cX11_isTrue 40 = .ok (.iload_n 3, 1) := by decide +kernel
theorem dX11_isTrue_41 : decode cX11_isTrue 41 = .ok (.baload, 1) := by decide +kernel
theorem dX11_isTrue_42 : decode cX11_isTrue 42 = .ok (.ifCond .eq 11, 3) := by decide +kernel
theorem dX11_isTrue_45 : decode cX11_isTrue 45 = .ok (.iload_n 1, 1) := by decide +kernel
theorem dX11_isTrue_46 : decode cX11_isTrue 46 = .ok (.iload_n 3, 1) := by decide +kernel
theorem dX11_isTrue_47 : decode cX11_isTrue 47 = .ok (.invokestatic 90, 3) := by decide +kernel
theorem dX11_isTrue_50 : decode cX11_isTrue 50 = .ok (.ifCond .eq 7, 3) := by decide +kernel
theorem dX11_isTrue_53 : decode cX11_isTrue 53 = .ok (.iconst 1, 1) := by decide +kernel
theorem dX11_isTrue_54 : decode cX11_isTrue 54 = .ok (.goto 4, 3) := by decide +kernel
theorem dX11_isTrue_57 : decode cX11_isTrue 57 = .ok (.iconst 0, 1) := by decide +kernel
theorem dX11_isTrue_58 : decode cX11_isTrue 58 = .ok (.istore_n 2, 1) := by decide +kernel
theorem dX11_isTrue_59 : decode cX11_isTrue 59 = .ok (.iinc 3 1, 3) := by decide +kernel
theorem dX11_isTrue_62 : decode cX11_isTrue 62 = .ok (.goto (-37), 3) := by decide +kernel
theorem dX11_isTrue_65 : decode cX11_isTrue 65 = .ok (.iload_n 2, 1) := by decide +kernel
theorem dX11_isTrue_66 : decode cX11_isTrue 66 = .ok (.ifCond .eq 7, 3) := by decide +kernel
theorem dX11_isTrue_69 : decode cX11_isTrue 69 = .ok (.iconst 1, 1) := by decide +kernel
theorem dX11_isTrue_70 : decode cX11_isTrue 70 = .ok (.goto 4, 3) := by decide +kernel
theorem dX11_isTrue_73 : decode cX11_isTrue 73 = .ok (.iconst 0, 1) := by decide +kernel
theorem dX11_isTrue_74 : decode cX11_isTrue 74 = .ok (.ireturn, 1) := by decide +kernel
theorem dX11_needless_0 : decode cX11_needless 0 = .ok (.aload_n 0, 1) := by decide +kernel
theorem dX11_needless_1 : decode cX11_needless 1 = .ok (.invokevirtual 50, 3) := by decide +kernel
theorem dX11_needless_4 : decode cX11_needless 4 = .ok (.lstore_n 1, 1) := by decide +kernel
theorem dX11_needless_5 : decode cX11_needless 5 = .ok (.lconst 0, 1) := by decide +kernel
theorem dX11_needless_6 : decode cX11_needless 6 = .ok (.lstore_n 3, 1) := by decide +kernel
theorem dX11_needless_7 : decode cX11_needless 7 = .ok (.iconst 0, 1) := by decide +kernel
theorem dX11_needless_8 : decode cX11_needless 8 = .ok (.istore 5, 2) := by decide +kernel
theorem dX11_needless_10 : decode cX11_needless 10 = .ok (.iload 5, 2) := by decide +kernel
theorem dX11_needless_12 : decode cX11_needless 12 = .ok (.aload_n 0, 1) := by decide +kernel
theorem dX11_needless_13 : decode cX11_needless 13 = .ok (.getfield 7, 3) := by decide +kernel
theorem dX11_needless_16 : decode cX11_needless 16 = .ok (.iconst 3, 1) := by decide +kernel
theorem dX11_needless_17 : decode cX11_needless 17 = .ok (.iaload, 1) := by decide +kernel
theorem dX11_needless_18 : decode cX11_needless 18 = .ok (.if_icmp .ge 67, 3) := by decide +kernel
theorem dX11_needless_21 : decode cX11_needless 21 = .ok (.lload_n 1, 1) := by decide +kernel
theorem dX11_needless_22 : decode cX11_needless 22 = .ok (.iload 5, 2) := by decide +kernel
theorem dX11_needless_24 : decode cX11_needless 24 = .ok (.invokestatic 147, 3) := by decide +kernel
theorem dX11_needless_27 : decode cX11_needless 27 = .ok (.ifCond .eq 33, 3) := by decide +kernel
theorem dX11_needless_30 : decode cX11_needless 30 = .ok (.aload_n 0, 1) := by decide +kernel
theorem dX11_needless_31 : decode cX11_needless 31 = .ok (.lload_n 1, 1) := by decide +kernel
theorem dX11_needless_32 : decode cX11_needless 32 = .ok (.lconst 1, 1) := by decide +kernel
theorem dX11_needless_33 : decode cX11_needless 33 = .ok (.iload 5, 2) := by decide +kernel
theorem dX11_needless_35 : decode cX11_needless 35 = .ok (.lshl, 1) := by decide +kernel
theorem dX11_needless_36 : decode cX11_needless 36 = .ok (.ldc2_w 182, 3) := by decide +kernel
theorem dX11_needless_39 : decode cX11_needless 39 = .ok (.lxor, 1) := by decide +kernel
theorem dX11_needless_40 : decode cX11_needless 40 = .ok (.land, 1) := by decide +kernel
theorem dX11_needless_41 : decode cX11_needless 41 = .ok (.aload_n 0, 1) := by decide +kernel
theorem dX11_needless_42 : decode cX11_needless 42 = .ok (.iload 5, 2) := by decide +kernel
theorem dX11_needless_44 : decode cX11_needless 44 = .ok (.iconst 0, 1) := by decide +kernel
theorem dX11_needless_45 : decode cX11_needless 45 = .ok (.invokevirtual 105, 3) := by decide +kernel
theorem dX11_needless_48 : decode cX11_needless 48 = .ok (.invokevirtual 178, 3) := by decide +kernel
theorem dX11_needless_51 : decode cX11_needless 51 = .ok (.bipush (-6), 2) := by decide +kernel
theorem dX11_needless_53 : decode cX11_needless 53 = .ok (.if_icmp .ne 7, 3) := by decide +kernel
theorem dX11_needless_56 : decode cX11_needless 56 = .ok (.iconst 1, 1) := by decide +kernel
theorem dX11_needless_57 : decode cX11_needless 57 = .ok (.goto 4, 3) := by decide +kernel
theorem dX11_needless_60 : decode cX11_needless 60 = .ok (.iconst 0, 1) := by decide +kernel
theorem dX11_needless_61 : decode cX11_needless 61 = .ok (.istore 6, 2) := by decide +kernel
theorem dX11_needless_63 : decode cX11_needless 63 = .ok (.lload_n 3, 1) := by decide +kernel
theorem dX11_needless_64 : decode cX11_needless 64 = .ok (.iload 6, 2) := by decide +kernel
theorem dX11_needless_66 : decode cX11_needless 66 = .ok (.ifCond .eq 10, 3) := by decide +kernel
theorem dX11_needless_69 : decode cX11_needless 69 = .ok (.lconst 1, 1) := by decide +kernel
theorem dX11_needless_70 : decode cX11_needless 70 = .ok (.iload 5, 2) := by decide +kernel
theorem dX11_needless_72 : decode cX11_needless 72 = .ok (.lshl, 1) := by decide +kernel
theorem dX11_needless_73 : decode cX11_needless 73 = .ok (.goto 4, 3) := by decide +kernel
theorem dX11_needless_76 : decode cX11_needless 76 = .ok (.lconst 0, 1) := by decide +kernel
theorem dX11_needless_77 : decode cX11_needless 77 = .ok (.lor, 1) := by decide +kernel
theorem dX11_needless_78 : decode cX11_needless 78 = .ok (.lstore_n 3, 1) := by decide +kernel
theorem dX11_needless_79 : decode cX11_needless 79 = .ok (.iinc 5 1, 3) := by decide +kernel
theorem dX11_needless_82 : decode cX11_needless 82 = .ok (.goto (-72), 3) := by decide +kernel
theorem dX11_needless_85 : decode cX11_needless 85 = .ok (.lload_n 3, 1) := by decide +kernel
theorem dX11_needless_86 : decode cX11_needless 86 = .ok (.lreturn, 1) := by decide +kernel
theorem dX11_core_0 : decode cX11_core 0 = .ok (.iload_n 1, 1) := by decide +kernel
theorem dX11_core_1 : decode cX11_core 1 = .ok (.invokestatic 86, 3) := by decide +kernel
theorem dX11_core_4 : decode cX11_core 4 = .ok (.ifCond .ne 7, 3) := by decide +kernel
theorem dX11_core_7 : decode cX11_core 7 = .ok (.ldc2_w 184, 3) := by decide +kernel
theorem dX11_core_10 : decode cX11_core 10 = .ok (.lreturn, 1) := by decide +kernel
theorem dX11_core_11 : decode cX11_core 11 = .ok (.aload_n 0, 1) := by decide +kernel
theorem dX11_core_12 : decode cX11_core 12 = .ok (.invokevirtual 50, 3) := by decide +kernel
theorem dX11_core_15 : decode cX11_core 15 = .ok (.lstore_n 2, 1) := by decide +kernel
theorem dX11_core_16 : decode cX11_core 16 = .ok (.aload_n 0, 1) := by decide +kernel
theorem dX11_core_17 : decode cX11_core 17 = .ok (.lload_n 2, 1) := by decide +kernel
theorem dX11_core_18 : decode cX11_core 18 = .ok (.invokevirtual 171, 3) := by decide +kernel
theorem dX11_core_21 : decode cX11_core 21 = .ok (.ifCond .ne 7, 3) := by decide +kernel
theorem dX11_core_24 : decode cX11_core 24 = .ok (.ldc2_w 186, 3) := by decide +kernel
theorem dX11_core_27 : decode cX11_core 27 = .ok (.lreturn, 1) := by decide +kernel
theorem dX11_core_28 : decode cX11_core 28 = .ok (.aload_n 0, 1) := by decide +kernel
theorem dX11_core_29 : decode cX11_core 29 = .ok (.lload_n 2, 1) := by decide +kernel
theorem dX11_core_30 : decode cX11_core 30 = .ok (.iload_n 1, 1) := by decide +kernel
theorem dX11_core_31 : decode cX11_core 31 = .ok (.invokevirtual 178, 3) := by decide +kernel
theorem dX11_core_34 : decode cX11_core 34 = .ok (.bipush (-6), 2) := by decide +kernel
theorem dX11_core_36 : decode cX11_core 36 = .ok (.if_icmp .eq 7, 3) := by decide +kernel
theorem dX11_core_39 : decode cX11_core 39 = .ok (.ldc2_w 188, 3) := by decide +kernel
theorem dX11_core_42 : decode cX11_core 42 = .ok (.lreturn, 1) := by decide +kernel
theorem dX11_core_43 : decode cX11_core 43 = .ok (.iconst 0, 1) := by decide +kernel
theorem dX11_core_44 : decode cX11_core 44 = .ok (.istore 4, 2) := by decide +kernel
theorem dX11_core_46 : decode cX11_core 46 = .ok (.iload 4, 2) := by decide +kernel
theorem dX11_core_48 : decode cX11_core 48 = .ok (.aload_n 0, 1) := by decide +kernel
theorem dX11_core_49 : decode cX11_core 49 = .ok (.getfield 7, 3) := by decide +kernel
theorem dX11_core_52 : decode cX11_core 52 = .ok (.iconst 3, 1) := by decide +kernel
theorem dX11_core_53 : decode cX11_core 53 = .ok (.iaload, 1) := by decide +kernel
theorem dX11_core_54 : decode cX11_core 54 = .ok (.if_icmp .ge 54, 3) := by decide +kernel
theorem dX11_core_57 : decode cX11_core 57 = .ok (.lload_n 2, 1) := by decide +kernel
theorem dX11_core_58 : decode cX11_core 58 = .ok (.lconst 1, 1) := by decide +kernel
theorem dX11_core_59 : decode cX11_core 59 = .ok (.iload 4, 2) := by decide +kernel
theorem dX11_core_61 : decode cX11_core 61 = .ok (.lshl, 1) := by decide +kernel
theorem dX11_core_62 : decode cX11_core 62 = .ok (.ldc2_w 182, 3) := by decide +kernel
theorem dX11_core_65 : decode cX11_core 65 = .ok (.lxor, 1) := by decide +kernel
theorem dX11_core_66 : decode cX11_core 66 = .ok (.land, 1) := by decide +kernel
theorem dX11_core_67 : decode cX11_core 67 = .ok (.lstore 5, 2) := by decide +kernel
theorem dX11_core_69 : decode cX11_core 69 = .ok (.lload_n 2, 1) := by decide +kernel
theorem dX11_core_70 : decode cX11_core 70 = .ok (.iload 4, 2) := by decide +kernel
theorem dX11_core_72 : decode cX11_core 72 = .ok (.invokestatic 147, 3) := by decide +kernel
theorem dX11_core_75 : decode cX11_core 75 = .ok (.ifCond .eq 27, 3) := by decide +kernel
theorem dX11_core_78 : decode cX11_core 78 = .ok (.aload_n 0, 1) := by decide +kernel
theorem dX11_core_79 : decode cX11_core 79 = .ok (.lload 5, 2) := by decide +kernel
theorem dX11_core_81 : decode cX11_core 81 = .ok (.iload_n 1, 1) := by decide +kernel
theorem dX11_core_82 : decode cX11_core 82 = .ok (.invokevirtual 178, 3) := by decide +kernel
theorem dX11_core_85 : decode cX11_core 85 = .ok (.bipush (-6), 2) := by decide +kernel
theorem dX11_core_87 : decode cX11_core 87 = .ok (.if_icmp .ne 15, 3) := by decide +kernel
theorem dX11_core_90 : decode cX11_core 90 = .ok (.aload_n 0, 1) := by decide +kernel
theorem dX11_core_91 : decode cX11_core 91 = .ok (.lload 5, 2) := by decide +kernel
theorem dX11_core_93 : decode cX11_core 93 = .ok (.invokevirtual 171, 3) := by decide +kernel
theorem dX11_core_96 : decode cX11_core 96 = .ok (.ifCond .eq 6, 3) := by decide +kernel
theorem dX11_core_99 : decode cX11_core 99 = .ok (.lload 5, 2) := by decide +kernel
theorem dX11_core_101 : decode cX11_core 101 = .ok (.lstore_n 2, 1) := by decide +kernel
theorem dX11_core_102 : decode cX11_core 102 = .ok (.iinc 4 1, 3) := by decide +kernel
theorem dX11_core_105 : decode cX11_core 105 = .ok (.goto (-59), 3) := by decide +kernel
theorem dX11_core_108 : decode cX11_core 108 = .ok (.lload_n 2, 1) := by decide +kernel
theorem dX11_core_109 : decode cX11_core 109 = .ok (.lreturn, 1) := by decide +kernel
theorem dX11_put_0 : decode cX11_put 0 = .ok (.iconst 0, 1) := by decide +kernel
theorem dX11_put_1 : decode cX11_put 1 = .ok (.istore_n 3, 1) := by decide +kernel
theorem dX11_put_2 : decode cX11_put 2 = .ok (.lload_n 1, 1) := by decide +kernel
theorem dX11_put_3 : decode cX11_put 3 = .ok (.lstore 4, 2) := by decide +kernel
theorem dX11_put_5 : decode cX11_put 5 = .ok (.iconst 1, 1) := by decide +kernel
theorem dX11_put_6 : decode cX11_put 6 = .ok (.istore 6, 2) := by decide +kernel
theorem dX11_put_8 : decode cX11_put 8 = .ok (.iload_n 3, 1) := by decide +kernel
theorem dX11_put_9 : decode cX11_put 9 = .ok (.bipush 8, 2) := by decide +kernel
theorem dX11_put_11 : decode cX11_put 11 = .ok (.if_icmp .ge 56, 3) := by decide +kernel
theorem dX11_put_14 : decode cX11_put 14 = .ok (.lload 4, 2) := by decide +kernel
theorem dX11_put_16 : decode cX11_put 16 = .ok (.ldc2_w 190, 3) := by decide +kernel
theorem dX11_put_19 : decode cX11_put 19 = .ok (.land, 1) := by decide +kernel
theorem dX11_put_20 : decode cX11_put 20 = .ok (.lconst 0, 1) := by decide +kernel
theorem dX11_put_21 : decode cX11_put 21 = .ok (.lcmp, 1) := by decide +kernel
theorem dX11_put_22 : decode cX11_put 22 = .ok (.ifCond .eq 45, 3) := by decide +kernel
theorem dX11_put_25 : decode cX11_put 25 = .ok (.iload 6, 2) := by decide +kernel
theorem dX11_put_27 : decode cX11_put 27 = .ok (.ifCond .eq 24, 3) := by decide +kernel
theorem dX11_put_30 : decode cX11_put 30 = .ok (.lload 4, 2) := by decide +kernel
theorem dX11_put_32 : decode cX11_put 32 = .ok (.ldc2_w 190, 3) := by decide +kernel
theorem dX11_put_35 : decode cX11_put 35 = .ok (.land, 1) := by decide +kernel
theorem dX11_put_36 : decode cX11_put 36 = .ok (.l2i, 1) := by decide +kernel
theorem dX11_put_37 : decode cX11_put 37 = .ok (.bipush 33, 2) := by decide +kernel
theorem dX11_put_39 : decode cX11_put 39 = .ok (.bipush 126, 2) := by decide +kernel
theorem dX11_put_41 : decode cX11_put 41 = .ok (.invokestatic 46, 3) := by decide +kernel
theorem dX11_put_44 : decode cX11_put 44 = .ok (.ifCond .eq 7, 3) := by decide +kernel
theorem dX11_put_47 : decode cX11_put 47 = .ok (.iconst 1, 1) := by decide +kernel
theorem dX11_put_48 : decode cX11_put 48 = .ok (.goto 4, 3) := by decide +kernel
theorem dX11_put_51 : decode cX11_put 51 = .ok (.iconst 0, 1) := by decide +kernel
theorem dX11_put_52 : decode cX11_put 52 = .ok (.istore 6, 2) := by decide +kernel
theorem dX11_put_54 : decode cX11_put 54 = .ok (.lload 4, 2) := by decide +kernel
theorem dX11_put_56 : decode cX11_put 56 = .ok (.bipush 8, 2) := by decide +kernel
theorem dX11_put_58 : decode cX11_put 58 = .ok (.lushr, 1) := by decide +kernel
theorem dX11_put_59 : decode cX11_put 59 = .ok (.lstore 4, 2) := by decide +kernel
theorem dX11_put_61 : decode cX11_put 61 = .ok (.iinc 3 1, 3) := by decide +kernel
theorem dX11_put_64 : decode cX11_put 64 = .ok (.goto (-56), 3) := by decide +kernel
theorem dX11_put_67 : decode cX11_put 67 = .ok (.iload_n 3, 1) := by decide +kernel
theorem dX11_put_68 : decode cX11_put 68 = .ok (.ifCond .eq 15, 3) := by decide +kernel
theorem dX11_put_71 : decode cX11_put 71 = .ok (.iload 6, 2) := by decide +kernel
theorem dX11_put_73 : decode cX11_put 73 = .ok (.ifCond .eq 10, 3) := by decide +kernel
theorem dX11_put_76 : decode cX11_put 76 = .ok (.lload 4, 2) := by decide +kernel
theorem dX11_put_78 : decode cX11_put 78 = .ok (.lconst 0, 1) := by decide +kernel
theorem dX11_put_79 : decode cX11_put 79 = .ok (.lcmp, 1) := by decide +kernel
theorem dX11_put_80 : decode cX11_put 80 = .ok (.ifCond .eq 6, 3) := by decide +kernel
theorem dX11_put_83 : decode cX11_put 83 = .ok (.bipush (-2), 2) := by decide +kernel
theorem dX11_put_85 : decode cX11_put 85 = .ok (.ireturn, 1) := by decide +kernel
theorem dX11_put_86 : decode cX11_put 86 = .ok (.aload_n 0, 1) := by decide +kernel
theorem dX11_put_87 : decode cX11_put 87 = .ok (.getfield 175, 3) := by decide +kernel
theorem dX11_put_90 : decode cX11_put 90 = .ok (.iload_n 3, 1) := by decide +kernel
theorem dX11_put_91 : decode cX11_put 91 = .ok (.iadd, 1) := by decide +kernel
theorem dX11_put_92 : decode cX11_put 92 = .ok (.bipush 80, 2) := by decide +kernel
theorem dX11_put_94 : decode cX11_put 94 = .ok (.if_icmp .le 6, 3) := by decide +kernel
theorem dX11_put_97 : decode cX11_put 97 = .ok (.bipush (-4), 2) := by decide +kernel
theorem dX11_put_99 : decode cX11_put 99 = .ok (.ireturn, 1) := by decide +kernel
theorem dX11_put_100 : decode cX11_put 100 = .ok (.iload_n 3, 1) := by decide +kernel
theorem dX11_put_101 : decode cX11_put 101 = .ok (.iconst 1, 1) := by decide +kernel
theorem dX11_put_102 : decode cX11_put 102 = .ok (.isub, 1) := by decide +kernel
theorem dX11_put_103 : decode cX11_put 103 = .ok (.istore 7, 2) := by decide +kernel
theorem dX11_put_105 : decode cX11_put 105 = .ok (.iload 7, 2) := by decide +kernel
theorem dX11_put_107 : decode cX11_put 107 = .ok (.ifCond .lt 40, 3) := by decide +kernel
theorem dX11_put_110 : decode cX11_put 110 = .ok (.aload_n 0, 1) := by decide +kernel
theorem dX11_put_111 : decode cX11_put 111 = .ok (.getfield 23, 3) := by decide +kernel
theorem dX11_put_114 : decode cX11_put 114 = .ok (.aload_n 0, 1) := by decide +kernel
theorem dX11_put_115 : decode cX11_put 115 = .ok (.getfield 175, 3) := by decide +kernel
theorem dX11_put_118 : decode cX11_put 118 = .ok (.lload_n 1, 1) := by decide +kernel
theorem dX11_put_119 : decode cX11_put 119 = .ok (.bipush 8, 2) := by decide +kernel
theorem dX11_put_121 : decode cX11_put 121 = .ok (.iload 7, 2) := by decide +kernel
theorem dX11_put_123 : decode cX11_put 123 = .ok (.imul, 1) := by decide +kernel
theorem dX11_put_124 : decode cX11_put 124 = .ok (.lushr, 1) := by decide +kernel
theorem dX11_put_125 : decode cX11_put 125 = .ok (.ldc2_w 190, 3) := by decide +kernel
theorem dX11_put_128 : decode cX11_put 128 = .ok (.land, 1) := by decide +kernel
theorem dX11_put_129 : decode cX11_put 129 = .ok (.l2i, 1) := by decide +kernel
theorem dX11_put_130 : decode cX11_put 130 = .ok (.iastore, 1) := by decide +kernel
theorem dX11_put_131 : decode cX11_put 131 = .ok (.aload_n 0, 1) := by decide +kernel
theorem dX11_put_132 : decode cX11_put 132 = .ok (.dup, 1) := by decide +kernel
theorem dX11_put_133 : decode cX11_put 133 = .ok (.getfield 175, 3) := by decide +kernel
theorem dX11_put_136 : decode cX11_put 136 = .ok (.iconst 1, 1) := by decide +kernel
theorem dX11_put_137 : decode cX11_put 137 = .ok (.iadd, 1) := by decide +kernel
theorem dX11_put_138 : decode cX11_put 138 = .ok (.putfield 175, 3) := by decide +kernel
theorem dX11_put_141 : decode cX11_put 141 = .ok (.iinc 7 (-1), 3) := by decide +kernel
theorem dX11_put_144 : decode cX11_put 144 = .ok (.goto (-39), 3) := by decide +kernel
theorem dX11_put_147 : decode cX11_put 147 = .ok (.aload_n 0, 1) := by decide +kernel
theorem dX11_put_148 : decode cX11_put 148 = .ok (.getfield 175, 3) := by decide +kernel
theorem dX11_put_151 : decode cX11_put 151 = .ok (.ireturn, 1) := by decide +kernel
theorem dX11_wipe_0 : decode cX11_wipe 0 = .ok (.aload_n 0, 1) := by decide +kernel
theorem dX11_wipe_1 : decode cX11_wipe 1 = .ok (.getfield 175, 3) := by decide +kernel
theorem dX11_wipe_4 : decode cX11_wipe 4 = .ok (.istore_n 1, 1) := by decide +kernel
theorem dX11_wipe_5 : decode cX11_wipe 5 = .ok (.aload_n 0, 1) := by decide +kernel
theorem dX11_wipe_6 : decode cX11_wipe 6 = .ok (.iconst 0, 1) := by decide +kernel
theorem dX11_wipe_7 : decode cX11_wipe 7 = .ok (.putfield 175, 3) := by decide +kernel
theorem dX11_wipe_10 : decode cX11_wipe 10 = .ok (.iload_n 1, 1) := by decide +kernel
theorem dX11_wipe_11 : decode cX11_wipe 11 = .ok (.ireturn, 1) := by decide +kernel
theorem dX11_isAt_0 : decode cX11_isAt 0 = .ok (.aload_n 0, 1) := by decide +kernel
theorem dX11_isAt_1 : decode cX11_isAt 1 = .ok (.getfield 192, 3) := by decide +kernel
theorem dX11_isAt_4 : decode cX11_isAt 4 = .ok (.aload_n 0, 1) := by decide +kernel
theorem dX11_isAt_5 : decode cX11_isAt 5 = .ok (.getfield 175, 3) := by decide +kernel
theorem dX11_isAt_8 : decode cX11_isAt 8 = .ok (.if_icmp .ge 24, 3) := by decide +kernel
theorem dX11_isAt_11 : decode cX11_isAt 11 = .ok (.aload_n 0, 1) := by decide +kernel
theorem dX11_isAt_12 : decode cX11_isAt 12 = .ok (.getfield 23, 3) := by decide +kernel
theorem dX11_isAt_15 : decode cX11_isAt 15 = .ok (.aload_n 0, 1) := by decide +kernel
theorem dX11_isAt_16 : decode cX11_isAt 16 = .ok (.getfield 192, 3) := by decide +kernel
theorem dX11_isAt_19 : decode cX11_isAt 19 = .ok (.iaload, 1) := by decide +kernel
theorem dX11_isAt_20 : decode cX11_isAt 20 = .ok (.iload_n 1, 1) := by decide +kernel
theorem dX11_isAt_21 : decode cX11_isAt 21 = .ok (.iload_n 2, 1) := by decide +kernel
theorem dX11_isAt_22 : decode cX11_isAt 22 = .ok (.invokestatic 46, 3) := by decide +kernel
theorem dX11_isAt_25 : decode cX11_isAt 25 = .ok (.ifCond .eq 7, 3) := by decide +kernel
theorem dX11_isAt_28 : decode cX11_isAt 28 = .ok (.iconst 1, 1) := by decide +kernel
theorem dX11_isAt_29 : decode cX11_isAt 29 = .ok (.goto 4, 3) := by decide +kernel
theorem dX11_isAt_32 : decode cX11_isAt 32 = .ok (.iconst 0, 1) := by decide +kernel
theorem dX11_isAt_33 : decode cX11_isAt 33 = .ok (.ireturn, 1) := by decide +kernel
theorem dX11_takes_0 : decode cX11_takes 0 = .ok (.aload_n 0, 1) := by decide +kernel
theorem dX11_takes_1 : decode cX11_takes 1 = .ok (.iload_n 1, 1) := by decide +kernel
theorem dX11_takes_2 : decode cX11_takes 2 = .ok (.iload_n 1, 1) := by decide +kernel
theorem dX11_takes_3 : decode cX11_takes 3 = .ok (.invokevirtual 195, 3) := by decide +kernel
theorem dX11_takes_6 : decode cX11_takes 6 = .ok (.istore_n 2, 1) := by decide +kernel
theorem dX11_takes_7 : decode cX11_takes 7 = .ok (.aload_n 0, 1) := by decide +kernel
theorem dX11_takes_8 : decode cX11_takes 8 = .ok (.dup, 1) := by decide +kernel
theorem dX11_takes_9 : decode cX11_takes 9 = .ok (.getfield 192, 3) := by decide +kernel
theorem dX11_takes_12 : decode cX11_takes 12 = .ok (.iload_n 2, 1) := by decide +kernel
theorem dX11_takes_13 : decode cX11_takes 13 = .ok (.ifCond .eq 7, 3) := by decide +kernel
theorem dX11_takes_16 : decode cX11_takes 16 = .ok (.iconst 1, 1) := by decide +kernel
theorem dX11_takes_17 : decode cX11_takes 17 = .ok (.goto 4, 3) := by decide +kernel
theorem dX11_takes_20 : decode cX11_takes 20 = .ok (.iconst 0, 1) := by decide +kernel
theorem dX11_takes_21 : decode cX11_takes 21 = .ok (.iadd, 1) := by decide +kernel
theorem dX11_takes_22 : decode cX11_takes 22 = .ok (.putfield 192, 3) := by decide +kernel
theorem dX11_takes_25 : decode cX11_takes 25 = .ok (.iload_n 2, 1) := by decide +kernel
theorem dX11_takes_26 : decode cX11_takes 26 = .ok (.ireturn, 1) := by decide +kernel
theorem dX11_taken_0 : decode cX11_taken 0 = .ok (.aload_n 0, 1) := by decide +kernel
theorem dX11_taken_1 : decode cX11_taken 1 = .ok (.iload_n 1, 1) := by decide +kernel
theorem dX11_taken_2 : decode cX11_taken 2 = .ok (.iload_n 2, 1) := by decide +kernel
theorem dX11_taken_3 : decode cX11_taken 3 = .ok (.invokevirtual 195, 3) := by decide +kernel
theorem dX11_taken_6 : decode cX11_taken 6 = .ok (.ifCond .ne 5, 3) := by decide +kernel
theorem dX11_taken_9 : decode cX11_taken 9 = .ok (.iconst (-1), 1) := by decide +kernel
theorem dX11_taken_10 : decode cX11_taken 10 = .ok (.ireturn, 1) := by decide +kernel
theorem dX11_taken_11 : decode cX11_taken 11 = .ok (.aload_n 0, 1) := by decide +kernel
theorem dX11_taken_12 : decode cX11_taken 12 = .ok (.dup, 1) := by decide +kernel
theorem dX11_taken_13 : decode cX11_taken 13 = .ok (.getfield 192, 3) := by decide +kernel
theorem dX11_taken_16 : decode cX11_taken 16 = .ok (.iconst 1, 1) := by decide +kernel
theorem dX11_taken_17 : decode cX11_taken 17 = .ok (.iadd, 1) := by decide +kernel
theorem dX11_taken_18 : decode cX11_taken 18 = .ok (.putfield 192, 3) := by decide +kernel
theorem dX11_taken_21 : decode cX11_taken 21 = .ok (.aload_n 0, 1) := by decide +kernel
theorem dX11_taken_22 : decode cX11_taken 22 = .ok (.getfield 23, 3) := by decide +kernel
theorem dX11_taken_25 : decode cX11_taken 25 = .ok (.aload_n 0, 1) := by decide +kernel
theorem dX11_taken_26 : decode cX11_taken 26 = .ok (.getfield 192, 3) := by decide +kernel
theorem dX11_taken_29 : decode cX11_taken 29 = .ok (.iconst 1, 1) := by decide +kernel
theorem dX11_taken_30 : decode cX11_taken 30 = .ok (.isub, 1) := by decide +kernel
theorem dX11_taken_31 : decode cX11_taken 31 = .ok (.iaload, 1) := by decide +kernel
theorem dX11_taken_32 : decode cX11_taken 32 = .ok (.iload_n 1, 1) := by decide +kernel
theorem dX11_taken_33 : decode cX11_taken 33 = .ok (.isub, 1) := by decide +kernel
theorem dX11_taken_34 : decode cX11_taken 34 = .ok (.ireturn, 1) := by decide +kernel
theorem dX11_takenOffset_0 : decode cX11_takenOffset 0 = .ok (.aload_n 0, 1) := by decide +kernel
theorem dX11_takenOffset_1 : decode cX11_takenOffset 1 = .ok (.bipush 43, 2) := by decide +kernel
theorem dX11_takenOffset_3 : decode cX11_takenOffset 3 = .ok (.invokevirtual 198, 3) := by decide +kernel
theorem dX11_takenOffset_6 : decode cX11_takenOffset 6 = .ok (.ifCond .eq 7, 3) := by decide +kernel
theorem dX11_takenOffset_9 : decode cX11_takenOffset 9 = .ok (.iconst 1, 1) := by decide +kernel
theorem dX11_takenOffset_10 : decode cX11_takenOffset 10 = .ok (.goto 17, 3) := by decide +kernel
theorem dX11_takenOffset_13 : decode cX11_takenOffset 13 = .ok (.aload_n 0, 1) := by decide +kernel
theorem dX11_takenOffset_14 : decode cX11_takenOffset 14 = .ok (.bipush 45, 2) := by decide +kernel
theorem dX11_takenOffset_16 : decode cX11_takenOffset 16 = .ok (.invokevirtual 198, 3) := by decide +kernel
theorem dX11_takenOffset_19 : decode cX11_takenOffset 19 = .ok (.ifCond .eq 7, 3) := by decide +kernel
theorem dX11_takenOffset_22 : decode cX11_takenOffset 22 = .ok (.iconst (-1), 1) := by decide +kernel
theorem dX11_takenOffset_23 : decode cX11_takenOffset 23 = .ok (.goto 4, 3) := by decide +kernel
theorem dX11_takenOffset_26 : decode cX11_takenOffset 26 = .ok (.iconst 0, 1) := by decide +kernel
theorem dX11_takenOffset_27 : decode cX11_takenOffset 27 = .ok (.istore_n 1, 1) := by decide +kernel
theorem dX11_takenOffset_28 : decode cX11_takenOffset 28 = .ok (.iload_n 1, 1) := by decide +kernel
theorem dX11_takenOffset_29 : decode cX11_takenOffset 29 = .ok (.ifCond .ne 5, 3) := by decide +kernel
theorem dX11_takenOffset_32 : decode cX11_takenOffset 32 = .ok (.iconst 0, 1) := by decide +kernel
theorem dX11_takenOffset_33 : decode cX11_takenOffset 33 = .ok (.ireturn, 1) := by decide +kernel
theorem dX11_takenOffset_34 : decode cX11_takenOffset 34 = .ok (.aload_n 0, 1) := by decide +kernel
theorem dX11_takenOffset_35 : decode cX11_takenOffset 35 = .ok (.bipush 48, 2) := by decide +kernel
theorem dX11_takenOffset_37 : decode cX11_takenOffset 37 = .ok (.bipush 55, 2) := by decide +kernel
theorem dX11_takenOffset_39 : decode cX11_takenOffset 39 = .ok (.invokevirtual 201, 3) := by decide +kernel
theorem dX11_takenOffset_42 : decode cX11_takenOffset 42 = .ok (.istore_n 2, 1) := by decide +kernel
theorem dX11_takenOffset_43 : decode cX11_takenOffset 43 = .ok (.iload_n 2, 1) := by decide +kernel
theorem dX11_takenOffset_44 : decode cX11_takenOffset 44 = .ok (.ifCond .ge 8, 3) := by decide +kernel
theorem dX11_takenOffset_47 : decode cX11_takenOffset 47 = .ok (.bipush (-60), 2) := by decide +kernel
theorem dX11_takenOffset_49 : decode cX11_takenOffset 49 = .ok (.goto 6, 3) := by decide +kernel
theorem dX11_takenOffset_52 : decode cX11_takenOffset 52 = .ok (.iload_n 1, 1) := by decide +kernel
theorem dX11_takenOffset_53 : decode cX11_takenOffset 53 = .ok (.iload_n 2, 1) := by decide +kernel
theorem dX11_takenOffset_54 : decode cX11_takenOffset 54 = .ok (.imul, 1) := by decide +kernel
theorem dX11_takenOffset_55 : decode cX11_takenOffset 55 = .ok (.ireturn, 1) := by decide +kernel
theorem dX11_takesPair_0 : decode cX11_takesPair 0 = .ok (.aload_n 0, 1) := by decide +kernel
theorem dX11_takesPair_1 : decode cX11_takesPair 1 = .ok (.iload_n 1, 1) := by decide +kernel
theorem dX11_takesPair_2 : decode cX11_takesPair 2 = .ok (.putfield 204, 3) := by decide +kernel
theorem dX11_takesPair_5 : decode cX11_takesPair 5 = .ok (.aload_n 0, 1) := by decide +kernel
theorem dX11_takesPair_6 : decode cX11_takesPair 6 = .ok (.aload_n 0, 1) := by decide +kernel
theorem dX11_takesPair_7 : decode cX11_takesPair 7 = .ok (.bipush 97, 2) := by decide +kernel
theorem dX11_takesPair_9 : decode cX11_takesPair 9 = .ok (.bipush 99, 2) := by decide +kernel
theorem dX11_takesPair_11 : decode cX11_takesPair 11 = .ok (.invokevirtual 201, 3) := by decide +kernel
theorem dX11_takesPair_14 : decode cX11_takesPair 14 = .ok (.putfield 207, 3) := by decide +kernel
theorem dX11_takesPair_17 : decode cX11_takesPair 17 = .ok (.aload_n 0, 1) := by decide +kernel
theorem dX11_takesPair_18 : decode cX11_takesPair 18 = .ok (.aload_n 0, 1) := by decide +kernel
theorem dX11_takesPair_19 : decode cX11_takesPair 19 = .ok (.getfield 207, 3) := by decide +kernel
theorem dX11_takesPair_22 : decode cX11_takesPair 22 = .ok (.ifCond .ge 7, 3) := by decide +kernel
theorem dX11_takesPair_25 : decode cX11_takesPair 25 = .ok (.iconst (-1), 1) := by decide +kernel
theorem dX11_takesPair_26 : decode cX11_takesPair 26 = .ok (.goto 11, 3) := by decide +kernel
theorem dX11_takesPair_29 : decode cX11_takesPair 29 = .ok (.aload_n 0, 1) := by decide +kernel
theorem dX11_takesPair_30 : decode cX11_takesPair 30 = .ok (.bipush 48, 2) := by decide +kernel
theorem dX11_takesPair_32 : decode cX11_takesPair 32 = .ok (.bipush 55, 2) := by decide +kernel
theorem dX11_takesPair_34 : decode cX11_takesPair 34 = .ok (.invokevirtual 201, 3) := by decide +kernel
theorem dX11_takesPair_37 : decode cX11_takesPair 37 = .ok (.putfield 210, 3) := by decide +kernel
theorem dX11_takesPair_40 : decode cX11_takesPair 40 = .ok (.aload_n 0, 1) := by decide +kernel
theorem dX11_takesPair_41 : decode cX11_takesPair 41 = .ok (.getfield 210, 3) := by decide +kernel
theorem dX11_takesPair_44 : decode cX11_takesPair 44 = .ok (.ifCond .lt 7, 3) := by decide +kernel
theorem dX11_takesPair_47 : decode cX11_takesPair 47 = .ok (.iconst 1, 1) := by decide +kernel
theorem dX11_takesPair_48 : decode cX11_takesPair 48 = .ok (.goto 4, 3) := by decide +kernel
theorem dX11_takesPair_51 : decode cX11_takesPair 51 = .ok (.iconst 0, 1) := by decide +kernel
theorem dX11_takesPair_52 : decode cX11_takesPair 52 = .ok (.ireturn, 1) := by decide +kernel
theorem dX11_takesEither_0 : decode cX11_takesEither 0 = .ok (.aload_n 0, 1) := by decide +kernel
theorem dX11_takesEither_1 : decode cX11_takesEither 1 = .ok (.iconst 0, 1) := by decide +kernel
theorem dX11_takesEither_2 : decode cX11_takesEither 2 = .ok (.putfield 207, 3) := by decide +kernel
theorem dX11_takesEither_5 : decode cX11_takesEither 5 = .ok (.aload_n 0, 1) := by decide +kernel
theorem dX11_takesEither_6 : decode cX11_takesEither 6 = .ok (.iload_n 1, 1) := by decide +kernel
theorem dX11_takesEither_7 : decode cX11_takesEither 7 = .ok (.putfield 204, 3) := by decide +kernel
theorem dX11_takesEither_10 : decode cX11_takesEither 10 = .ok (.aload_n 0, 1) := by decide +kernel
theorem dX11_takesEither_11 : decode cX11_takesEither 11 = .ok (.aload_n 0, 1) := by decide +kernel
theorem dX11_takesEither_12 : decode cX11_takesEither 12 = .ok (.bipush 48, 2) := by decide +kernel
theorem dX11_takesEither_14 : decode cX11_takesEither 14 = .ok (.bipush 55, 2) := by decide +kernel
theorem dX11_takesEither_16 : decode cX11_takesEither 16 = .ok (.invokevirtual 201, 3) := by decide +kernel
theorem dX11_takesEither_19 : decode cX11_takesEither 19 = .ok (.putfield 210, 3) := by decide +kernel
theorem dX11_takesEither_22 : decode cX11_takesEither 22 = .ok (.aload_n 0, 1) := by decide +kernel
theorem dX11_takesEither_23 : decode cX11_takesEither 23 = .ok (.getfield 210, 3) := by decide +kernel
theorem dX11_takesEither_26 : decode cX11_takesEither 26 = .ok (.ifCond .lt 5, 3) := by decide +kernel
theorem dX11_takesEither_29 : decode cX11_takesEither 29 = .ok (.iconst 1, 1) := by decide +kernel
theorem dX11_takesEither_30 : decode cX11_takesEither 30 = .ok (.ireturn, 1) := by decide +kernel
theorem dX11_takesEither_31 : decode cX11_takesEither 31 = .ok (.aload_n 0, 1) := by decide +kernel
theorem dX11_takesEither_32 : decode cX11_takesEither 32 = .ok (.iload_n 1, 1) := by decide +kernel
theorem dX11_takesEither_33 : decode cX11_takesEither 33 = .ok (.iconst 4, 1) := by decide +kernel
theorem dX11_takesEither_34 : decode cX11_takesEither 34 = .ok (.iadd, 1) := by decide +kernel
theorem dX11_takesEither_35 : decode cX11_takesEither 35 = .ok (.putfield 204, 3) := by decide +kernel
theorem dX11_takesEither_38 : decode cX11_takesEither 38 = .ok (.aload_n 0, 1) := by decide +kernel
theorem dX11_takesEither_39 : decode cX11_takesEither 39 = .ok (.aload_n 0, 1) := by decide +kernel
theorem dX11_takesEither_40 : decode cX11_takesEither 40 = .ok (.bipush 97, 2) := by decide +kernel
theorem dX11_takesEither_42 : decode cX11_takesEither 42 = .ok (.bipush 99, 2) := by decide +kernel
theorem dX11_takesEither_44 : decode cX11_takesEither 44 = .ok (.invokevirtual 201, 3) := by decide +kernel
theorem dX11_takesEither_47 : decode cX11_takesEither 47 = .ok (.putfield 207, 3) := by decide +kernel
theorem dX11_takesEither_50 : decode cX11_takesEither 50 = .ok (.aload_n 0, 1) := by decide +kernel
theorem dX11_takesEither_51 : decode cX11_takesEither 51 = .ok (.aload_n 0, 1) := by decide +kernel
theorem dX11_takesEither_52 : decode cX11_takesEither 52 = .ok (.getfield 207, 3) := by decide +kernel
theorem dX11_takesEither_55 : decode cX11_takesEither 55 = .ok (.ifCond .ge 7, 3) := by decide +kernel
theorem dX11_takesEither_58 : decode cX11_takesEither 58 = .ok (.iconst 0, 1) := by decide +kernel
theorem dX11_takesEither_59 : decode cX11_takesEither 59 = .ok (.goto 7, 3) := by decide +kernel
theorem dX11_takesEither_62 : decode cX11_takesEither 62 = .ok (.aload_n 0, 1) := by decide +kernel
theorem dX11_takesEither_63 : decode cX11_takesEither 63 = .ok (.invokevirtual 213, 3) := by decide +kernel
theorem dX11_takesEither_66 : decode cX11_takesEither 66 = .ok (.putfield 210, 3) := by decide +kernel
theorem dX11_takesEither_69 : decode cX11_takesEither 69 = .ok (.aload_n 0, 1) := by decide +kernel
theorem dX11_takesEither_70 : decode cX11_takesEither 70 = .ok (.getfield 207, 3) := by decide +kernel
theorem dX11_takesEither_73 : decode cX11_takesEither 73 = .ok (.ifCond .lt 16, 3) := by decide +kernel
theorem dX11_takesEither_76 : decode cX11_takesEither 76 = .ok (.aload_n 0, 1) := by decide +kernel
theorem dX11_takesEither_77 : decode cX11_takesEither 77 = .ok (.getfield 210, 3) := by decide +kernel
theorem dX11_takesEither_80 : decode cX11_takesEither 80 = .ok (.bipush (-60), 2) := by decide +kernel
theorem dX11_takesEither_82 : decode cX11_takesEither 82 = .ok (.if_icmp .eq 7, 3) := by decide +kernel
theorem dX11_takesEither_85 : decode cX11_takesEither 85 = .ok (.iconst 1, 1) := by decide +kernel
theorem dX11_takesEither_86 : decode cX11_takesEither 86 = .ok (.goto 4, 3) := by decide +kernel
theorem dX11_takesEither_89 : decode cX11_takesEither 89 = .ok (.iconst 0, 1) := by decide +kernel
theorem dX11_takesEither_90 : decode cX11_takesEither 90 = .ok (.ireturn, 1) := by decide +kernel
theorem dX11_takesClaim_0 : decode cX11_takesClaim 0 = .ok (.aload_n 0, 1) := by decide +kernel
theorem dX11_takesClaim_1 : decode cX11_takesClaim 1 = .ok (.iconst 0, 1) := by decide +kernel
theorem dX11_takesClaim_2 : decode cX11_takesClaim 2 = .ok (.putfield 204, 3) := by decide +kernel
theorem dX11_takesClaim_5 : decode cX11_takesClaim 5 = .ok (.aload_n 0, 1) := by decide +kernel
theorem dX11_takesClaim_6 : decode cX11_takesClaim 6 = .ok (.iconst 0, 1) := by decide +kernel
theorem dX11_takesClaim_7 : decode cX11_takesClaim 7 = .ok (.putfield 216, 3) := by decide +kernel
theorem dX11_takesClaim_10 : decode cX11_takesClaim 10 = .ok (.aload_n 0, 1) := by decide +kernel
theorem dX11_takesClaim_11 : decode cX11_takesClaim 11 = .ok (.iconst 0, 1) := by decide +kernel
theorem dX11_takesClaim_12 : decode cX11_takesClaim 12 = .ok (.putfield 207, 3) := by decide +kernel
theorem dX11_takesClaim_15 : decode cX11_takesClaim 15 = .ok (.aload_n 0, 1) := by decide +kernel
theorem dX11_takesClaim_16 : decode cX11_takesClaim 16 = .ok (.iconst 0, 1) := by decide +kernel
theorem dX11_takesClaim_17 : decode cX11_takesClaim 17 = .ok (.putfield 210, 3) := by decide +kernel
theorem dX11_takesClaim_20 : decode cX11_takesClaim 20 = .ok (.aload_n 0, 1) := by decide +kernel
theorem dX11_takesClaim_21 : decode cX11_takesClaim 21 = .ok (.bipush 42, 2) := by decide +kernel
theorem dX11_takesClaim_23 : decode cX11_takesClaim 23 = .ok (.invokevirtual 198, 3) := by decide +kernel
theorem dX11_takesClaim_26 : decode cX11_takesClaim 26 = .ok (.ifCond .eq 5, 3) := by decide +kernel
theorem dX11_takesClaim_29 : decode cX11_takesClaim 29 = .ok (.iconst 1, 1) := by decide +kernel
theorem dX11_takesClaim_30 : decode cX11_takesClaim 30 = .ok (.ireturn, 1) := by decide +kernel
theorem dX11_takesClaim_31 : decode cX11_takesClaim 31 = .ok (.aload_n 0, 1) := by decide +kernel
theorem dX11_takesClaim_32 : decode cX11_takesClaim 32 = .ok (.aload_n 0, 1) := by decide +kernel
theorem dX11_takesClaim_33 : decode cX11_takesClaim 33 = .ok (.bipush 97, 2) := by decide +kernel
theorem dX11_takesClaim_35 : decode cX11_takesClaim 35 = .ok (.bipush 99, 2) := by decide +kernel
theorem dX11_takesClaim_37 : decode cX11_takesClaim 37 = .ok (.invokevirtual 201, 3) := by decide +kernel
theorem dX11_takesClaim_40 : decode cX11_takesClaim 40 = .ok (.putfield 216, 3) := by decide +kernel
theorem dX11_takesClaim_43 : decode cX11_takesClaim 43 = .ok (.aload_n 0, 1) := by decide +kernel
theorem dX11_takesClaim_44 : decode cX11_takesClaim 44 = .ok (.getfield 216, 3) := by decide +kernel
theorem dX11_takesClaim_47 : decode cX11_takesClaim 47 = .ok (.ifCond .ge 5, 3) := by decide +kernel
theorem dX11_takesClaim_50 : decode cX11_takesClaim 50 = .ok (.iconst 0, 1) := by decide +kernel
theorem dX11_takesClaim_51 : decode cX11_takesClaim 51 = .ok (.ireturn, 1) := by decide +kernel
theorem dX11_takesClaim_52 : decode cX11_takesClaim 52 = .ok (.aload_n 0, 1) := by decide +kernel
theorem dX11_takesClaim_53 : decode cX11_takesClaim 53 = .ok (.bipush 62, 2) := by decide +kernel
theorem dX11_takesClaim_55 : decode cX11_takesClaim 55 = .ok (.invokevirtual 198, 3) := by decide +kernel
theorem dX11_takesClaim_58 : decode cX11_takesClaim 58 = .ok (.ifCond .eq 33, 3) := by decide +kernel
theorem dX11_takesClaim_61 : decode cX11_takesClaim 61 = .ok (.aload_n 0, 1) := by decide +kernel
theorem dX11_takesClaim_62 : decode cX11_takesClaim 62 = .ok (.iconst 4, 1) := by decide +kernel
theorem dX11_takesClaim_63 : decode cX11_takesClaim 63 = .ok (.putfield 204, 3) := by decide +kernel
theorem dX11_takesClaim_66 : decode cX11_takesClaim 66 = .ok (.aload_n 0, 1) := by decide +kernel
theorem dX11_takesClaim_67 : decode cX11_takesClaim 67 = .ok (.aload_n 0, 1) := by decide +kernel
theorem dX11_takesClaim_68 : decode cX11_takesClaim 68 = .ok (.bipush 48, 2) := by decide +kernel
theorem dX11_takesClaim_70 : decode cX11_takesClaim 70 = .ok (.bipush 55, 2) := by decide +kernel
theorem dX11_takesClaim_72 : decode cX11_takesClaim 72 = .ok (.invokevirtual 201, 3) := by decide +kernel
theorem dX11_takesClaim_75 : decode cX11_takesClaim 75 = .ok (.putfield 210, 3) := by decide +kernel
theorem dX11_takesClaim_78 : decode cX11_takesClaim 78 = .ok (.aload_n 0, 1) := by decide +kernel
theorem dX11_takesClaim_79 : decode cX11_takesClaim 79 = .ok (.getfield 210, 3) := by decide +kernel
theorem dX11_takesClaim_82 : decode cX11_takesClaim 82 = .ok (.ifCond .lt 7, 3) := by decide +kernel
theorem dX11_takesClaim_85 : decode cX11_takesClaim 85 = .ok (.iconst 1, 1) := by decide +kernel
theorem dX11_takesClaim_86 : decode cX11_takesClaim 86 = .ok (.goto 4, 3) := by decide +kernel
theorem dX11_takesClaim_89 : decode cX11_takesClaim 89 = .ok (.iconst 0, 1) := by decide +kernel
theorem dX11_takesClaim_90 : decode cX11_takesClaim 90 = .ok (.ireturn, 1) := by decide +kernel
theorem dX11_takesClaim_91 : decode cX11_takesClaim 91 = .ok (.aload_n 0, 1) := by decide +kernel
theorem dX11_takesClaim_92 : decode cX11_takesClaim 92 = .ok (.bipush 38, 2) := by decide +kernel
theorem dX11_takesClaim_94 : decode cX11_takesClaim 94 = .ok (.invokevirtual 198, 3) := by decide +kernel
theorem dX11_takesClaim_97 : decode cX11_takesClaim 97 = .ok (.ifCond .ne 12, 3) := by decide +kernel
theorem dX11_takesClaim_100 : decode cX11_takesClaim 100 = .ok (.aload_n 0, 1) := by decide +kernel
theorem dX11_takesClaim_101 : decode cX11_takesClaim 101 = .ok (.bipush 37, 2) := by decide +kernel
theorem dX11_takesClaim_103 : decode cX11_takesClaim 103 = .ok (.invokevirtual 198, 3) := by decide +kernel
theorem dX11_takesClaim_106 : decode cX11_takesClaim 106 = .ok (.ifCond .eq 31, 3) := by decide +kernel
theorem dX11_takesClaim_109 : decode cX11_takesClaim 109 = .ok (.aload_n 0, 1) := by decide +kernel
theorem dX11_takesClaim_110 : decode cX11_takesClaim 110 = .ok (.aload_n 0, 1) := by decide +kernel
theorem dX11_takesClaim_111 : decode cX11_takesClaim 111 = .ok (.getfield 23, 3) := by decide +kernel
theorem dX11_takesClaim_114 : decode cX11_takesClaim 114 = .ok (.aload_n 0, 1) := by decide +kernel
theorem dX11_takesClaim_115 : decode cX11_takesClaim 115 = .ok (.getfield 192, 3) := by decide +kernel
theorem dX11_takesClaim_118 : decode cX11_takesClaim 118 = .ok (.iconst 1, 1) := by decide +kernel
theorem dX11_takesClaim_119 : decode cX11_takesClaim 119 = .ok (.isub, 1) := by decide +kernel
theorem dX11_takesClaim_120 : decode cX11_takesClaim 120 = .ok (.iaload, 1) := by decide +kernel
theorem dX11_takesClaim_121 : decode cX11_takesClaim 121 = .ok (.bipush 38, 2) := by decide +kernel
theorem dX11_takesClaim_123 : decode cX11_takesClaim 123 = .ok (.if_icmp .ne 8, 3) := by decide +kernel
theorem dX11_takesClaim_126 : decode cX11_takesClaim 126 = .ok (.bipush 8, 2) := by decide +kernel
theorem dX11_takesClaim_128 : decode cX11_takesClaim 128 = .ok (.goto 5, 3) := by decide +kernel
theorem dX11_takesClaim_131 : decode cX11_takesClaim 131 = .ok (.bipush 9, 2) := by decide +kernel
theorem dX11_takesClaim_133 : decode cX11_takesClaim 133 = .ok (.invokevirtual 219, 3) := by decide +kernel
theorem dX11_takesClaim_136 : decode cX11_takesClaim 136 = .ok (.ireturn, 1) := by decide +kernel
theorem dX11_takesClaim_137 : decode cX11_takesClaim 137 = .ok (.aload_n 0, 1) := by decide +kernel
theorem dX11_takesClaim_138 : decode cX11_takesClaim 138 = .ok (.bipush 61, 2) := by decide +kernel
theorem dX11_takesClaim_140 : decode cX11_takesClaim 140 = .ok (.invokevirtual 198, 3) := by decide +kernel
theorem dX11_takesClaim_143 : decode cX11_takesClaim 143 = .ok (.ifCond .eq 11, 3) := by decide +kernel
theorem dX11_takesClaim_146 : decode cX11_takesClaim 146 = .ok (.aload_n 0, 1) := by decide +kernel
theorem dX11_takesClaim_147 : decode cX11_takesClaim 147 = .ok (.iconst 1, 1) := by decide +kernel
theorem dX11_takesClaim_148 : decode cX11_takesClaim 148 = .ok (.invokevirtual 222, 3) := by decide +kernel
theorem dX11_takesClaim_151 : decode cX11_takesClaim 151 = .ok (.goto 42, 3) := by decide +kernel
theorem dX11_takesClaim_154 : decode cX11_takesClaim 154 = .ok (.aload_n 0, 1) := by decide +kernel
theorem dX11_takesClaim_155 : decode cX11_takesClaim 155 = .ok (.bipush 33, 2) := by decide +kernel
theorem dX11_takesClaim_157 : decode cX11_takesClaim 157 = .ok (.invokevirtual 198, 3) := by decide +kernel
theorem dX11_takesClaim_160 : decode cX11_takesClaim 160 = .ok (.ifCond .eq 11, 3) := by decide +kernel
theorem dX11_takesClaim_163 : decode cX11_takesClaim 163 = .ok (.aload_n 0, 1) := by decide +kernel
theorem dX11_takesClaim_164 : decode cX11_takesClaim 164 = .ok (.iconst 2, 1) := by decide +kernel
theorem dX11_takesClaim_165 : decode cX11_takesClaim 165 = .ok (.invokevirtual 222, 3) := by decide +kernel
theorem dX11_takesClaim_168 : decode cX11_takesClaim 168 = .ok (.goto 25, 3) := by decide +kernel
theorem dX11_takesClaim_171 : decode cX11_takesClaim 171 = .ok (.aload_n 0, 1) := by decide +kernel
theorem dX11_takesClaim_172 : decode cX11_takesClaim 172 = .ok (.bipush 60, 2) := by decide +kernel
theorem dX11_takesClaim_174 : decode cX11_takesClaim 174 = .ok (.invokevirtual 198, 3) := by decide +kernel
theorem dX11_takesClaim_177 : decode cX11_takesClaim 177 = .ok (.ifCond .eq 15, 3) := by decide +kernel
theorem dX11_takesClaim_180 : decode cX11_takesClaim 180 = .ok (.aload_n 0, 1) := by decide +kernel
theorem dX11_takesClaim_181 : decode cX11_takesClaim 181 = .ok (.iconst 3, 1) := by decide +kernel
theorem dX11_takesClaim_182 : decode cX11_takesClaim 182 = .ok (.invokevirtual 222, 3) := by decide +kernel
theorem dX11_takesClaim_185 : decode cX11_takesClaim 185 = .ok (.ifCond .eq 7, 3) := by decide +kernel
theorem dX11_takesClaim_188 : decode cX11_takesClaim 188 = .ok (.iconst 1, 1) := by decide +kernel
theorem dX11_takesClaim_189 : decode cX11_takesClaim 189 = .ok (.goto 4, 3) := by decide +kernel
theorem dX11_takesClaim_192 : decode cX11_takesClaim 192 = .ok (.iconst 0, 1) := by decide +kernel
theorem dX11_takesClaim_193 : decode cX11_takesClaim 193 = .ok (.ireturn, 1) := by decide +kernel
theorem dX11_takesAction_0 : decode cX11_takesAction 0 = .ok (.aload_n 0, 1) := by decide +kernel
theorem dX11_takesAction_1 : decode cX11_takesAction 1 = .ok (.aload_n 0, 1) := by decide +kernel
theorem dX11_takesAction_2 : decode cX11_takesAction 2 = .ok (.bipush 97, 2) := by decide +kernel
theorem dX11_takesAction_4 : decode cX11_takesAction 4 = .ok (.bipush 99, 2) := by decide +kernel
theorem dX11_takesAction_6 : decode cX11_takesAction 6 = .ok (.invokevirtual 201, 3) := by decide +kernel
theorem dX11_takesAction_9 : decode cX11_takesAction 9 = .ok (.putfield 225, 3) := by decide +kernel
theorem dX11_takesAction_12 : decode cX11_takesAction 12 = .ok (.aload_n 0, 1) := by decide +kernel
theorem dX11_takesAction_13 : decode cX11_takesAction 13 = .ok (.iconst 0, 1) := by decide +kernel
theorem dX11_takesAction_14 : decode cX11_takesAction 14 = .ok (.putfield 228, 3) := by decide +kernel
theorem dX11_takesAction_17 : decode cX11_takesAction 17 = .ok (.aload_n 0, 1) := by decide +kernel
theorem dX11_takesAction_18 : decode cX11_takesAction 18 = .ok (.iconst 0, 1) := by decide +kernel
theorem dX11_takesAction_19 : decode cX11_takesAction 19 = .ok (.putfield 231, 3) := by decide +kernel
theorem dX11_takesAction_22 : decode cX11_takesAction 22 = .ok (.aload_n 0, 1) := by decide +kernel
theorem dX11_takesAction_23 : decode cX11_takesAction 23 = .ok (.getfield 225, 3) := by decide +kernel
theorem dX11_takesAction_26 : decode cX11_takesAction 26 = .ok (.ifCond .ge 5, 3) := by decide +kernel
theorem dX11_takesAction_29 : decode cX11_takesAction 29 = .ok (.iconst 0, 1) := by decide +kernel
theorem dX11_takesAction_30 : decode cX11_takesAction 30 = .ok (.ireturn, 1) := by decide +kernel
theorem dX11_takesAction_31 : decode cX11_takesAction 31 = .ok (.aload_n 0, 1) := by decide +kernel
theorem dX11_takesAction_32 : decode cX11_takesAction 32 = .ok (.bipush 126, 2) := by decide +kernel
theorem dX11_takesAction_34 : decode cX11_takesAction 34 = .ok (.invokevirtual 198, 3) := by decide +kernel
theorem dX11_takesAction_37 : decode cX11_takesAction 37 = .ok (.ifCond .eq 33, 3) := by decide +kernel
theorem dX11_takesAction_40 : decode cX11_takesAction 40 = .ok (.aload_n 0, 1) := by decide +kernel
theorem dX11_takesAction_41 : decode cX11_takesAction 41 = .ok (.iconst 2, 1) := by decide +kernel
theorem dX11_takesAction_42 : decode cX11_takesAction 42 = .ok (.putfield 234, 3) := by decide +kernel
theorem dX11_takesAction_45 : decode cX11_takesAction 45 = .ok (.aload_n 0, 1) := by decide +kernel
theorem dX11_takesAction_46 : decode cX11_takesAction 46 = .ok (.aload_n 0, 1) := by decide +kernel
theorem dX11_takesAction_47 : decode cX11_takesAction 47 = .ok (.bipush 97, 2) := by decide +kernel
theorem dX11_takesAction_49 : decode cX11_takesAction 49 = .ok (.bipush 99, 2) := by decide +kernel
theorem dX11_takesAction_51 : decode cX11_takesAction 51 = .ok (.invokevirtual 201, 3) := by decide +kernel
theorem dX11_takesAction_54 : decode cX11_takesAction 54 = .ok (.putfield 228, 3) := by decide +kernel
theorem dX11_takesAction_57 : decode cX11_takesAction 57 = .ok (.aload_n 0, 1) := by decide +kernel
theorem dX11_takesAction_58 : decode cX11_takesAction 58 = .ok (.getfield 228, 3) := by decide +kernel
theorem dX11_takesAction_61 : decode cX11_takesAction 61 = .ok (.ifCond .lt 7, 3) := by decide +kernel
theorem dX11_takesAction_64 : decode cX11_takesAction 64 = .ok (.iconst 1, 1) := by decide +kernel
theorem dX11_takesAction_65 : decode cX11_takesAction 65 = .ok (.goto 4, 3) := by decide +kernel
theorem dX11_takesAction_68 : decode cX11_takesAction 68 = .ok (.iconst 0, 1) := by decide +kernel
theorem dX11_takesAction_69 : decode cX11_takesAction 69 = .ok (.ireturn, 1) := by decide +kernel
theorem dX11_takesAction_70 : decode cX11_takesAction 70 = .ok (.aload_n 0, 1) := by decide +kernel
theorem dX11_takesAction_71 : decode cX11_takesAction 71 = .ok (.bipush 61, 2) := by decide +kernel
theorem dX11_takesAction_73 : decode cX11_takesAction 73 = .ok (.invokevirtual 198, 3) := by decide +kernel
theorem dX11_takesAction_76 : decode cX11_takesAction 76 = .ok (.ifCond .ne 5, 3) := by decide +kernel
theorem dX11_takesAction_79 : decode cX11_takesAction 79 = .ok (.iconst 0, 1) := by decide +kernel
theorem dX11_takesAction_80 : decode cX11_takesAction 80 = .ok (.ireturn, 1) := by decide +kernel
theorem dX11_takesAction_81 : decode cX11_takesAction 81 = .ok (.aload_n 0, 1) := by decide +kernel
theorem dX11_takesAction_82 : decode cX11_takesAction 82 = .ok (.iconst 0, 1) := by decide +kernel
theorem dX11_takesAction_83 : decode cX11_takesAction 83 = .ok (.putfield 234, 3) := by decide +kernel
theorem dX11_takesAction_86 : decode cX11_takesAction 86 = .ok (.aload_n 0, 1) := by decide +kernel
theorem dX11_takesAction_87 : decode cX11_takesAction 87 = .ok (.aload_n 0, 1) := by decide +kernel
theorem dX11_takesAction_88 : decode cX11_takesAction 88 = .ok (.bipush 48, 2) := by decide +kernel
theorem dX11_takesAction_90 : decode cX11_takesAction 90 = .ok (.bipush 55, 2) := by decide +kernel
theorem dX11_takesAction_92 : decode cX11_takesAction 92 = .ok (.invokevirtual 201, 3) := by decide +kernel
theorem dX11_takesAction_95 : decode cX11_takesAction 95 = .ok (.putfield 231, 3) := by decide +kernel
theorem dX11_takesAction_98 : decode cX11_takesAction 98 = .ok (.aload_n 0, 1) := by decide +kernel
theorem dX11_takesAction_99 : decode cX11_takesAction 99 = .ok (.getfield 231, 3) := by decide +kernel
theorem dX11_takesAction_102 : decode cX11_takesAction 102 = .ok (.ifCond .lt 5, 3) := by decide +kernel
theorem dX11_takesAction_105 : decode cX11_takesAction 105 = .ok (.iconst 1, 1) := by decide +kernel
theorem dX11_takesAction_106 : decode cX11_takesAction 106 = .ok (.ireturn, 1) := by decide +kernel
theorem dX11_takesAction_107 : decode cX11_takesAction 107 = .ok (.aload_n 0, 1) := by decide +kernel
theorem dX11_takesAction_108 : decode cX11_takesAction 108 = .ok (.iconst 1, 1) := by decide +kernel
theorem dX11_takesAction_109 : decode cX11_takesAction 109 = .ok (.putfield 234, 3) := by decide +kernel
theorem dX11_takesAction_112 : decode cX11_takesAction 112 = .ok (.aload_n 0, 1) := by decide +kernel
theorem dX11_takesAction_113 : decode cX11_takesAction 113 = .ok (.aload_n 0, 1) := by decide +kernel
theorem dX11_takesAction_114 : decode cX11_takesAction 114 = .ok (.bipush 97, 2) := by decide +kernel
theorem dX11_takesAction_116 : decode cX11_takesAction 116 = .ok (.bipush 99, 2) := by decide +kernel
theorem dX11_takesAction_118 : decode cX11_takesAction 118 = .ok (.invokevirtual 201, 3) := by decide +kernel
theorem dX11_takesAction_121 : decode cX11_takesAction 121 = .ok (.putfield 228, 3) := by decide +kernel
theorem dX11_takesAction_124 : decode cX11_takesAction 124 = .ok (.aload_n 0, 1) := by decide +kernel
theorem dX11_takesAction_125 : decode cX11_takesAction 125 = .ok (.aload_n 0, 1) := by decide +kernel
theorem dX11_takesAction_126 : decode cX11_takesAction 126 = .ok (.getfield 228, 3) := by decide +kernel
theorem dX11_takesAction_129 : decode cX11_takesAction 129 = .ok (.ifCond .ge 7, 3) := by decide +kernel
theorem dX11_takesAction_132 : decode cX11_takesAction 132 = .ok (.iconst 0, 1) := by decide +kernel
theorem dX11_takesAction_133 : decode cX11_takesAction 133 = .ok (.goto 7, 3) := by decide +kernel
theorem dX11_takesAction_136 : decode cX11_takesAction 136 = .ok (.aload_n 0, 1) := by decide +kernel
theorem dX11_takesAction_137 : decode cX11_takesAction 137 = .ok (.invokevirtual 213, 3) := by decide +kernel
theorem dX11_takesAction_140 : decode cX11_takesAction 140 = .ok (.putfield 231, 3) := by decide +kernel
theorem dX11_takesAction_143 : decode cX11_takesAction 143 = .ok (.aload_n 0, 1) := by decide +kernel
theorem dX11_takesAction_144 : decode cX11_takesAction 144 = .ok (.getfield 228, 3) := by decide +kernel
theorem dX11_takesAction_147 : decode cX11_takesAction 147 = .ok (.ifCond .lt 16, 3) := by decide +kernel
theorem dX11_takesAction_150 : decode cX11_takesAction 150 = .ok (.aload_n 0, 1) := by decide +kernel
theorem dX11_takesAction_151 : decode cX11_takesAction 151 = .ok (.getfield 231, 3) := by decide +kernel
theorem dX11_takesAction_154 : decode cX11_takesAction 154 = .ok (.bipush (-60), 2) := by decide +kernel
theorem dX11_takesAction_156 : decode cX11_takesAction 156 = .ok (.if_icmp .eq 7, 3) := by decide +kernel
theorem dX11_takesAction_159 : decode cX11_takesAction 159 = .ok (.iconst 1, 1) := by decide +kernel
theorem dX11_takesAction_160 : decode cX11_takesAction 160 = .ok (.goto 4, 3) := by decide +kernel
theorem dX11_takesAction_163 : decode cX11_takesAction 163 = .ok (.iconst 0, 1) := by decide +kernel
theorem dX11_takesAction_164 : decode cX11_takesAction 164 = .ok (.ireturn, 1) := by decide +kernel
theorem dX11_takenNumber_0 : decode cX11_takenNumber 0 = .ok (.aload_n 0, 1) := by decide +kernel
theorem dX11_takenNumber_1 : decode cX11_takenNumber 1 = .ok (.bipush 48, 2) := by decide +kernel
theorem dX11_takenNumber_3 : decode cX11_takenNumber 3 = .ok (.bipush 57, 2) := by decide +kernel
theorem dX11_takenNumber_5 : decode cX11_takenNumber 5 = .ok (.invokevirtual 201, 3) := by decide +kernel
theorem dX11_takenNumber_8 : decode cX11_takenNumber 8 = .ok (.istore_n 1, 1) := by decide +kernel
theorem dX11_takenNumber_9 : decode cX11_takenNumber 9 = .ok (.iload_n 1, 1) := by decide +kernel
theorem dX11_takenNumber_10 : decode cX11_takenNumber 10 = .ok (.ifCond .le 37, 3) := by decide +kernel
theorem dX11_takenNumber_13 : decode cX11_takenNumber 13 = .ok (.iload_n 1, 1) := by decide +kernel
theorem dX11_takenNumber_14 : decode cX11_takenNumber 14 = .ok (.bipush 100, 2) := by decide +kernel
theorem dX11_takenNumber_16 : decode cX11_takenNumber 16 = .ok (.if_icmp .ge 31, 3) := by decide +kernel
theorem dX11_takenNumber_19 : decode cX11_takenNumber 19 = .ok (.aload_n 0, 1) := by decide +kernel
theorem dX11_takenNumber_20 : decode cX11_takenNumber 20 = .ok (.bipush 48, 2) := by decide +kernel
theorem dX11_takenNumber_22 : decode cX11_takenNumber 22 = .ok (.bipush 57, 2) := by decide +kernel
theorem dX11_takenNumber_24 : decode cX11_takenNumber 24 = .ok (.invokevirtual 195, 3) := by decide +kernel
theorem dX11_takenNumber_27 : decode cX11_takenNumber 27 = .ok (.ifCond .eq 20, 3) := by decide +kernel
theorem dX11_takenNumber_30 : decode cX11_takenNumber 30 = .ok (.bipush 10, 2) := by decide +kernel
theorem dX11_takenNumber_32 : decode cX11_takenNumber 32 = .ok (.iload_n 1, 1) := by decide +kernel
theorem dX11_takenNumber_33 : decode cX11_takenNumber 33 = .ok (.imul, 1) := by decide +kernel
theorem dX11_takenNumber_34 : decode cX11_takenNumber 34 = .ok (.aload_n 0, 1) := by decide +kernel
theorem dX11_takenNumber_35 : decode cX11_takenNumber 35 = .ok (.bipush 48, 2) := by decide +kernel
theorem dX11_takenNumber_37 : decode cX11_takenNumber 37 = .ok (.bipush 57, 2) := by decide +kernel
theorem dX11_takenNumber_39 : decode cX11_takenNumber 39 = .ok (.invokevirtual 201, 3) := by decide +kernel
theorem dX11_takenNumber_42 : decode cX11_takenNumber 42 = .ok (.iadd, 1) := by decide +kernel
theorem dX11_takenNumber_43 : decode cX11_takenNumber 43 = .ok (.istore_n 1, 1) := by decide +kernel
theorem dX11_takenNumber_44 : decode cX11_takenNumber 44 = .ok (.goto (-35), 3) := by decide +kernel
theorem dX11_takenNumber_47 : decode cX11_takenNumber 47 = .ok (.iload_n 1, 1) := by decide +kernel
theorem dX11_takenNumber_48 : decode cX11_takenNumber 48 = .ok (.ireturn, 1) := by decide +kernel
theorem dX11_takesRun_0 : decode cX11_takesRun 0 = .ok (.aload_n 0, 1) := by decide +kernel
theorem dX11_takesRun_1 : decode cX11_takesRun 1 = .ok (.aload_n 0, 1) := by decide +kernel
theorem dX11_takesRun_2 : decode cX11_takesRun 2 = .ok (.invokevirtual 237, 3) := by decide +kernel
theorem dX11_takesRun_5 : decode cX11_takesRun 5 = .ok (.putfield 216, 3) := by decide +kernel
theorem dX11_takesRun_8 : decode cX11_takesRun 8 = .ok (.aload_n 0, 1) := by decide +kernel
theorem dX11_takesRun_9 : decode cX11_takesRun 9 = .ok (.getfield 216, 3) := by decide +kernel
theorem dX11_takesRun_12 : decode cX11_takesRun 12 = .ok (.ifCond .lt 12, 3) := by decide +kernel
theorem dX11_takesRun_15 : decode cX11_takesRun 15 = .ok (.aload_n 0, 1) := by decide +kernel
theorem dX11_takesRun_16 : decode cX11_takesRun 16 = .ok (.bipush 42, 2) := by decide +kernel
theorem dX11_takesRun_18 : decode cX11_takesRun 18 = .ok (.invokevirtual 198, 3) := by decide +kernel
theorem dX11_takesRun_21 : decode cX11_takesRun 21 = .ok (.ifCond .ne 5, 3) := by decide +kernel
theorem dX11_takesRun_24 : decode cX11_takesRun 24 = .ok (.iconst 0, 1) := by decide +kernel
theorem dX11_takesRun_25 : decode cX11_takesRun 25 = .ok (.ireturn, 1) := by decide +kernel
theorem dX11_takesRun_26 : decode cX11_takesRun 26 = .ok (.aload_n 0, 1) := by decide +kernel
theorem dX11_takesRun_27 : decode cX11_takesRun 27 = .ok (.aload_n 0, 1) := by decide +kernel
theorem dX11_takesRun_28 : decode cX11_takesRun 28 = .ok (.invokevirtual 237, 3) := by decide +kernel
theorem dX11_takesRun_31 : decode cX11_takesRun 31 = .ok (.putfield 207, 3) := by decide +kernel
theorem dX11_takesRun_34 : decode cX11_takesRun 34 = .ok (.aload_n 0, 1) := by decide +kernel
theorem dX11_takesRun_35 : decode cX11_takesRun 35 = .ok (.getfield 207, 3) := by decide +kernel
theorem dX11_takesRun_38 : decode cX11_takesRun 38 = .ok (.ifCond .lt 7, 3) := by decide +kernel
theorem dX11_takesRun_41 : decode cX11_takesRun 41 = .ok (.iconst 1, 1) := by decide +kernel
theorem dX11_takesRun_42 : decode cX11_takesRun 42 = .ok (.goto 4, 3) := by decide +kernel
theorem dX11_takesRun_45 : decode cX11_takesRun 45 = .ok (.iconst 0, 1) := by decide +kernel
theorem dX11_takesRun_46 : decode cX11_takesRun 46 = .ok (.ireturn, 1) := by decide +kernel
theorem dX11_takesOrder_0 : decode cX11_takesOrder 0 = .ok (.aload_n 0, 1) := by decide +kernel
theorem dX11_takesOrder_1 : decode cX11_takesOrder 1 = .ok (.aload_n 0, 1) := by decide +kernel
theorem dX11_takesOrder_2 : decode cX11_takesOrder 2 = .ok (.getfield 192, 3) := by decide +kernel
theorem dX11_takesOrder_5 : decode cX11_takesOrder 5 = .ok (.aload_n 0, 1) := by decide +kernel
theorem dX11_takesOrder_6 : decode cX11_takesOrder 6 = .ok (.getfield 175, 3) := by decide +kernel
theorem dX11_takesOrder_9 : decode cX11_takesOrder 9 = .ok (.if_icmp .ge 15, 3) := by decide +kernel
theorem dX11_takesOrder_12 : decode cX11_takesOrder 12 = .ok (.aload_n 0, 1) := by decide +kernel
theorem dX11_takesOrder_13 : decode cX11_takesOrder 13 = .ok (.getfield 23, 3) := by decide +kernel
theorem dX11_takesOrder_16 : decode cX11_takesOrder 16 = .ok (.aload_n 0, 1) := by decide +kernel
theorem dX11_takesOrder_17 : decode cX11_takesOrder 17 = .ok (.getfield 192, 3) := by decide +kernel
theorem dX11_takesOrder_20 : decode cX11_takesOrder 20 = .ok (.iaload, 1) := by decide +kernel
theorem dX11_takesOrder_21 : decode cX11_takesOrder 21 = .ok (.goto 4, 3) := by decide +kernel
theorem dX11_takesOrder_24 : decode cX11_takesOrder 24 = .ok (.iconst 0, 1) := by decide +kernel
theorem dX11_takesOrder_25 : decode cX11_takesOrder 25 = .ok (.putfield 240, 3) := by decide +kernel
theorem dX11_takesOrder_28 : decode cX11_takesOrder 28 = .ok (.aload_n 0, 1) := by decide +kernel
theorem dX11_takesOrder_29 : decode cX11_takesOrder 29 = .ok (.getfield 240, 3) := by decide +kernel
theorem dX11_takesOrder_32 : decode cX11_takesOrder 32 = .ok (.bipush 99, 2) := by decide +kernel
theorem dX11_takesOrder_34 : decode cX11_takesOrder 34 = .ok (.if_icmp .eq 30, 3) := by decide +kernel
theorem dX11_takesOrder_37 : decode cX11_takesOrder 37 = .ok (.aload_n 0, 1) := by decide +kernel
theorem dX11_takesOrder_38 : decode cX11_takesOrder 38 = .ok (.getfield 240, 3) := by decide +kernel
theorem dX11_takesOrder_41 : decode cX11_takesOrder 41 = .ok (.bipush 115, 2) := by decide +kernel
theorem dX11_takesOrder_43 : decode cX11_takesOrder 43 = .ok (.if_icmp .eq 21, 3) := by decide +kernel
theorem dX11_takesOrder_46 : decode cX11_takesOrder 46 = .ok (.aload_n 0, 1) := by decide +kernel
theorem dX11_takesOrder_47 : decode cX11_takesOrder 47 = .ok (.getfield 240, 3) := by decide +kernel
theorem dX11_takesOrder_50 : decode cX11_takesOrder 50 = .ok (.bipush 114, 2) := by decide +kernel
theorem dX11_takesOrder_52 : decode cX11_takesOrder 52 = .ok (.if_icmp .eq 12, 3) := by decide +kernel
theorem dX11_takesOrder_55 : decode cX11_takesOrder 55 = .ok (.aload_n 0, 1) := by decide +kernel
theorem dX11_takesOrder_56 : decode cX11_takesOrder 56 = .ok (.getfield 240, 3) := by decide +kernel
theorem dX11_takesOrder_59 : decode cX11_takesOrder 59 = .ok (.bipush 107, 2) := by decide +kernel
theorem dX11_takesOrder_61 : decode cX11_takesOrder 61 = .ok (.if_icmp .ne 7, 3) := by decide +kernel
theorem dX11_takesOrder_64 : decode cX11_takesOrder 64 = .ok (.iconst 1, 1) := by decide +kernel
theorem dX11_takesOrder_65 : decode cX11_takesOrder 65 = .ok (.goto 4, 3) := by decide +kernel
theorem dX11_takesOrder_68 : decode cX11_takesOrder 68 = .ok (.iconst 0, 1) := by decide +kernel
theorem dX11_takesOrder_69 : decode cX11_takesOrder 69 = .ok (.istore_n 1, 1) := by decide +kernel
theorem dX11_takesOrder_70 : decode cX11_takesOrder 70 = .ok (.aload_n 0, 1) := by decide +kernel
theorem dX11_takesOrder_71 : decode cX11_takesOrder 71 = .ok (.dup, 1) := by decide +kernel
theorem dX11_takesOrder_72 : decode cX11_takesOrder 72 = .ok (.getfield 192, 3) := by decide +kernel
theorem dX11_takesOrder_75 : decode cX11_takesOrder 75 = .ok (.iload_n 1, 1) := by decide +kernel
theorem dX11_takesOrder_76 : decode cX11_takesOrder 76 = .ok (.ifCond .eq 7, 3) := by decide +kernel
theorem dX11_takesOrder_79 : decode cX11_takesOrder 79 = .ok (.iconst 1, 1) := by decide +kernel
theorem dX11_takesOrder_80 : decode cX11_takesOrder 80 = .ok (.goto 4, 3) := by decide +kernel
theorem dX11_takesOrder_83 : decode cX11_takesOrder 83 = .ok (.iconst 0, 1) := by decide +kernel
theorem dX11_takesOrder_84 : decode cX11_takesOrder 84 = .ok (.iadd, 1) := by decide +kernel
theorem dX11_takesOrder_85 : decode cX11_takesOrder 85 = .ok (.putfield 192, 3) := by decide +kernel
theorem dX11_takesOrder_88 : decode cX11_takesOrder 88 = .ok (.aload_n 0, 1) := by decide +kernel
theorem dX11_takesOrder_89 : decode cX11_takesOrder 89 = .ok (.getfield 240, 3) := by decide +kernel
theorem dX11_takesOrder_92 : decode cX11_takesOrder 92 = .ok (.bipush 115, 2) := by decide +kernel
theorem dX11_takesOrder_94 : decode cX11_takesOrder 94 = .ok (.if_icmp .ne 32, 3) := by decide +kernel
theorem dX11_takesOrder_97 : decode cX11_takesOrder 97 = .ok (.aload_n 0, 1) := by decide +kernel
theorem dX11_takesOrder_98 : decode cX11_takesOrder 98 = .ok (.invokevirtual 243, 3) := by decide +kernel
theorem dX11_takesOrder_101 : decode cX11_takesOrder 101 = .ok (.ifCond .eq 23, 3) := by decide +kernel
theorem dX11_takesOrder_104 : decode cX11_takesOrder 104 = .ok (.aload_n 0, 1) := by decide +kernel
theorem dX11_takesOrder_105 : decode cX11_takesOrder 105 = .ok (.bipush 58, 2) := by decide +kernel
theorem dX11_takesOrder_107 : decode cX11_takesOrder 107 = .ok (.invokevirtual 198, 3) := by decide +kernel
theorem dX11_takesOrder_110 : decode cX11_takesOrder 110 = .ok (.ifCond .eq 14, 3) := by decide +kernel
theorem dX11_takesOrder_113 : decode cX11_takesOrder 113 = .ok (.aload_n 0, 1) := by decide +kernel
theorem dX11_takesOrder_114 : decode cX11_takesOrder 114 = .ok (.invokevirtual 247, 3) := by decide +kernel
theorem dX11_takesOrder_117 : decode cX11_takesOrder 117 = .ok (.ifCond .eq 7, 3) := by decide +kernel
theorem dX11_takesOrder_120 : decode cX11_takesOrder 120 = .ok (.iconst 1, 1) := by decide +kernel
theorem dX11_takesOrder_121 : decode cX11_takesOrder 121 = .ok (.goto 4, 3) := by decide +kernel
theorem dX11_takesOrder_124 : decode cX11_takesOrder 124 = .ok (.iconst 0, 1) := by decide +kernel
theorem dX11_takesOrder_125 : decode cX11_takesOrder 125 = .ok (.ireturn, 1) := by decide +kernel
theorem dX11_takesOrder_126 : decode cX11_takesOrder 126 = .ok (.iload_n 1, 1) := by decide +kernel
theorem dX11_takesOrder_127 : decode cX11_takesOrder 127 = .ok (.ifCond .eq 42, 3) := by decide +kernel
theorem dX11_takesOrder_130 : decode cX11_takesOrder 130 = .ok (.aload_n 0, 1) := by decide +kernel
theorem dX11_takesOrder_131 : decode cX11_takesOrder 131 = .ok (.getfield 240, 3) := by decide +kernel
theorem dX11_takesOrder_134 : decode cX11_takesOrder 134 = .ok (.bipush 107, 2) := by decide +kernel
theorem dX11_takesOrder_136 : decode cX11_takesOrder 136 = .ok (.if_icmp .eq 29, 3) := by decide +kernel
theorem dX11_takesOrder_139 : decode cX11_takesOrder 139 = .ok (.aload_n 0, 1) := by decide +kernel
theorem dX11_takesOrder_140 : decode cX11_takesOrder 140 = .ok (.getfield 240, 3) := by decide +kernel
theorem dX11_takesOrder_143 : decode cX11_takesOrder 143 = .ok (.bipush 99, 2) := by decide +kernel
theorem dX11_takesOrder_145 : decode cX11_takesOrder 145 = .ok (.if_icmp .ne 13, 3) := by decide +kernel
theorem dX11_takesOrder_148 : decode cX11_takesOrder 148 = .ok (.aload_n 0, 1) := by decide +kernel
theorem dX11_takesOrder_149 : decode cX11_takesOrder 149 = .ok (.invokevirtual 243, 3) := by decide +kernel
theorem dX11_takesOrder_152 : decode cX11_takesOrder 152 = .ok (.ifCond .eq 17, 3) := by decide +kernel
theorem dX11_takesOrder_155 : decode cX11_takesOrder 155 = .ok (.goto 10, 3) := by decide +kernel
theorem dX11_takesOrder_158 : decode cX11_takesOrder 158 = .ok (.aload_n 0, 1) := by decide +kernel
theorem dX11_takesOrder_159 : decode cX11_takesOrder 159 = .ok (.invokevirtual 250, 3) := by decide +kernel
theorem dX11_takesOrder_162 : decode cX11_takesOrder 162 = .ok (.ifCond .eq 7, 3) := by decide +kernel
theorem dX11_takesOrder_165 : decode cX11_takesOrder 165 = .ok (.iconst 1, 1) := by decide +kernel
theorem dX11_takesOrder_166 : decode cX11_takesOrder 166 = .ok (.goto 4, 3) := by decide +kernel
theorem dX11_takesOrder_169 : decode cX11_takesOrder 169 = .ok (.iconst 0, 1) := by decide +kernel
theorem dX11_takesOrder_170 : decode cX11_takesOrder 170 = .ok (.ireturn, 1) := by decide +kernel
theorem dX11_fault_0 : decode cX11_fault 0 = .ok (.aload_n 0, 1) := by decide +kernel
theorem dX11_fault_1 : decode cX11_fault 1 = .ok (.iconst 0, 1) := by decide +kernel
theorem dX11_fault_2 : decode cX11_fault 2 = .ok (.putfield 192, 3) := by decide +kernel
theorem dX11_fault_5 : decode cX11_fault 5 = .ok (.iconst 1, 1) := by decide +kernel
theorem dX11_fault_6 : decode cX11_fault 6 = .ok (.istore_n 1, 1) := by decide +kernel
theorem dX11_fault_7 : decode cX11_fault 7 = .ok (.iload_n 1, 1) := by decide +kernel
theorem dX11_fault_8 : decode cX11_fault 8 = .ok (.ifCond .eq 25, 3) := by decide +kernel
theorem dX11_fault_11 : decode cX11_fault 11 = .ok (.aload_n 0, 1) := by decide +kernel
theorem dX11_fault_12 : decode cX11_fault 12 = .ok (.invokevirtual 253, 3) := by decide +kernel
theorem dX11_fault_15 : decode cX11_fault 15 = .ok (.ifCond .ne 8, 3) := by decide +kernel
theorem dX11_fault_18 : decode cX11_fault 18 = .ok (.aload_n 0, 1) := by decide +kernel
theorem dX11_fault_19 : decode cX11_fault 19 = .ok (.getfield 192, 3) := by decide +kernel
theorem dX11_fault_22 : decode cX11_fault 22 = .ok (.ireturn, 1) := by decide +kernel
theorem dX11_fault_23 : decode cX11_fault 23 = .ok (.aload_n 0, 1) := by decide +kernel
theorem dX11_fault_24 : decode cX11_fault 24 = .ok (.bipush 59, 2) := by decide +kernel
theorem dX11_fault_26 : decode cX11_fault 26 = .ok (.invokevirtual 198, 3) := by decide +kernel
theorem dX11_fault_29 : decode cX11_fault 29 = .ok (.istore_n 1, 1) := by decide +kernel
theorem dX11_fault_30 : decode cX11_fault 30 = .ok (.goto (-23), 3) := by decide +kernel
theorem dX11_fault_33 : decode cX11_fault 33 = .ok (.aload_n 0, 1) := by decide +kernel
theorem dX11_fault_34 : decode cX11_fault 34 = .ok (.getfield 192, 3) := by decide +kernel
theorem dX11_fault_37 : decode cX11_fault 37 = .ok (.aload_n 0, 1) := by decide +kernel
theorem dX11_fault_38 : decode cX11_fault 38 = .ok (.getfield 175, 3) := by decide +kernel
theorem dX11_fault_41 : decode cX11_fault 41 = .ok (.if_icmp .ne 8, 3) := by decide +kernel
theorem dX11_fault_44 : decode cX11_fault 44 = .ok (.bipush (-6), 2) := by decide +kernel
theorem dX11_fault_46 : decode cX11_fault 46 = .ok (.goto 7, 3) := by decide +kernel
theorem dX11_fault_49 : decode cX11_fault 49 = .ok (.aload_n 0, 1) := by decide +kernel
theorem dX11_fault_50 : decode cX11_fault 50 = .ok (.getfield 192, 3) := by decide +kernel
theorem dX11_fault_53 : decode cX11_fault 53 = .ok (.ireturn, 1) := by decide +kernel
theorem dX11_does_0 : decode cX11_does 0 = .ok (.aload_n 0, 1) := by decide +kernel
theorem dX11_does_1 : decode cX11_does 1 = .ok (.getfield 240, 3) := by decide +kernel
theorem dX11_does_4 : decode cX11_does 4 = .ok (.bipush 107, 2) := by decide +kernel
theorem dX11_does_6 : decode cX11_does 6 = .ok (.if_icmp .ne 8, 3) := by decide +kernel
theorem dX11_does_9 : decode cX11_does 9 = .ok (.aload_n 0, 1) := by decide +kernel
theorem dX11_does_10 : decode cX11_does 10 = .ok (.invokevirtual 256, 3) := by decide +kernel
theorem dX11_does_13 : decode cX11_does 13 = .ok (.ireturn, 1) := by decide +kernel
theorem dX11_does_14 : decode cX11_does 14 = .ok (.aload_n 0, 1) := by decide +kernel
theorem dX11_does_15 : decode cX11_does 15 = .ok (.getfield 240, 3) := by decide +kernel
theorem dX11_does_18 : decode cX11_does 18 = .ok (.bipush 114, 2) := by decide +kernel
theorem dX11_does_20 : decode cX11_does 20 = .ok (.if_icmp .ne 16, 3) := by decide +kernel
theorem dX11_does_23 : decode cX11_does 23 = .ok (.aload_n 0, 1) := by decide +kernel
theorem dX11_does_24 : decode cX11_does 24 = .ok (.aload_n 0, 1) := by decide +kernel
theorem dX11_does_25 : decode cX11_does 25 = .ok (.getfield 216, 3) := by decide +kernel
theorem dX11_does_28 : decode cX11_does 28 = .ok (.aload_n 0, 1) := by decide +kernel
theorem dX11_does_29 : decode cX11_does 29 = .ok (.getfield 207, 3) := by decide +kernel
theorem dX11_does_32 : decode cX11_does 32 = .ok (.invokevirtual 259, 3) := by decide +kernel
theorem dX11_does_35 : decode cX11_does 35 = .ok (.ireturn, 1) := by decide +kernel
theorem dX11_does_36 : decode cX11_does 36 = .ok (.aload_n 0, 1) := by decide +kernel
theorem dX11_does_37 : decode cX11_does 37 = .ok (.getfield 204, 3) := by decide +kernel
theorem dX11_does_40 : decode cX11_does 40 = .ok (.aload_n 0, 1) := by decide +kernel
theorem dX11_does_41 : decode cX11_does 41 = .ok (.getfield 216, 3) := by decide +kernel
theorem dX11_does_44 : decode cX11_does 44 = .ok (.aload_n 0, 1) := by decide +kernel
theorem dX11_does_45 : decode cX11_does 45 = .ok (.getfield 207, 3) := by decide +kernel
theorem dX11_does_48 : decode cX11_does 48 = .ok (.aload_n 0, 1) := by decide +kernel
theorem dX11_does_49 : decode cX11_does 49 = .ok (.getfield 210, 3) := by decide +kernel
theorem dX11_does_52 : decode cX11_does 52 = .ok (.invokestatic 78, 3) := by decide +kernel
theorem dX11_does_55 : decode cX11_does 55 = .ok (.ifCond .ne 6, 3) := by decide +kernel
theorem dX11_does_58 : decode cX11_does 58 = .ok (.bipush (-2), 2) := by decide +kernel
theorem dX11_does_60 : decode cX11_does 60 = .ok (.ireturn, 1) := by decide +kernel
theorem dX11_does_61 : decode cX11_does 61 = .ok (.aload_n 0, 1) := by decide +kernel
theorem dX11_does_62 : decode cX11_does 62 = .ok (.getfield 204, 3) := by decide +kernel
theorem dX11_does_65 : decode cX11_does 65 = .ok (.aload_n 0, 1) := by decide +kernel
theorem dX11_does_66 : decode cX11_does 66 = .ok (.getfield 216, 3) := by decide +kernel
theorem dX11_does_69 : decode cX11_does 69 = .ok (.aload_n 0, 1) := by decide +kernel
theorem dX11_does_70 : decode cX11_does 70 = .ok (.getfield 207, 3) := by decide +kernel
theorem dX11_does_73 : decode cX11_does 73 = .ok (.aload_n 0, 1) := by decide +kernel
theorem dX11_does_74 : decode cX11_does 74 = .ok (.getfield 210, 3) := by decide +kernel
theorem dX11_does_77 : decode cX11_does 77 = .ok (.invokestatic 82, 3) := by decide +kernel
theorem dX11_does_80 : decode cX11_does 80 = .ok (.istore_n 1, 1) := by decide +kernel
theorem dX11_does_81 : decode cX11_does 81 = .ok (.aload_n 0, 1) := by decide +kernel
theorem dX11_does_82 : decode cX11_does 82 = .ok (.getfield 240, 3) := by decide +kernel
theorem dX11_does_85 : decode cX11_does 85 = .ok (.bipush 99, 2) := by decide +kernel
theorem dX11_does_87 : decode cX11_does 87 = .ok (.if_icmp .ne 11, 3) := by decide +kernel
theorem dX11_does_90 : decode cX11_does 90 = .ok (.aload_n 0, 1) := by decide +kernel
theorem dX11_does_91 : decode cX11_does 91 = .ok (.iload_n 1, 1) := by decide +kernel
theorem dX11_does_92 : decode cX11_does 92 = .ok (.invokevirtual 262, 3) := by decide +kernel
theorem dX11_does_95 : decode cX11_does 95 = .ok (.goto 24, 3) := by decide +kernel
theorem dX11_does_98 : decode cX11_does 98 = .ok (.aload_n 0, 1) := by decide +kernel
theorem dX11_does_99 : decode cX11_does 99 = .ok (.iload_n 1, 1) := by decide +kernel
theorem dX11_does_100 : decode cX11_does 100 = .ok (.aload_n 0, 1) := by decide +kernel
theorem dX11_does_101 : decode cX11_does 101 = .ok (.getfield 234, 3) := by decide +kernel
theorem dX11_does_104 : decode cX11_does 104 = .ok (.aload_n 0, 1) := by decide +kernel
theorem dX11_does_105 : decode cX11_does 105 = .ok (.getfield 225, 3) := by decide +kernel
theorem dX11_does_108 : decode cX11_does 108 = .ok (.aload_n 0, 1) := by decide +kernel
theorem dX11_does_109 : decode cX11_does 109 = .ok (.getfield 228, 3) := by decide +kernel
theorem dX11_does_112 : decode cX11_does 112 = .ok (.aload_n 0, 1) := by decide +kernel
theorem dX11_does_113 : decode cX11_does 113 = .ok (.getfield 231, 3) := by decide +kernel
theorem dX11_does_116 : decode cX11_does 116 = .ok (.invokevirtual 265, 3) := by decide +kernel
theorem dX11_does_119 : decode cX11_does 119 = .ok (.ireturn, 1) := by decide +kernel
theorem dX11_carryOut_0 : decode cX11_carryOut 0 = .ok (.aload_n 0, 1) := by decide +kernel
theorem dX11_carryOut_1 : decode cX11_carryOut 1 = .ok (.invokevirtual 269, 3) := by decide +kernel
theorem dX11_carryOut_4 : decode cX11_carryOut 4 = .ok (.bipush (-6), 2) := by decide +kernel
theorem dX11_carryOut_6 : decode cX11_carryOut 6 = .ok (.if_icmp .eq 6, 3) := by decide +kernel
theorem dX11_carryOut_9 : decode cX11_carryOut 9 = .ok (.bipush (-3), 2) := by decide +kernel
theorem dX11_carryOut_11 : decode cX11_carryOut 11 = .ok (.ireturn, 1) := by decide +kernel
theorem dX11_carryOut_12 : decode cX11_carryOut 12 = .ok (.aload_n 0, 1) := by decide +kernel
theorem dX11_carryOut_13 : decode cX11_carryOut 13 = .ok (.invokevirtual 58, 3) := by decide +kernel
theorem dX11_carryOut_16 : decode cX11_carryOut 16 = .ok (.aload_n 0, 1) := by decide +kernel
theorem dX11_carryOut_17 : decode cX11_carryOut 17 = .ok (.iconst 1, 1) := by decide +kernel
theorem dX11_carryOut_18 : decode cX11_carryOut 18 = .ok (.putfield 38, 3) := by decide +kernel
theorem dX11_carryOut_21 : decode cX11_carryOut 21 = .ok (.iconst 0, 1) := by decide +kernel
theorem dX11_carryOut_22 : decode cX11_carryOut 22 = .ok (.istore_n 1, 1) := by decide +kernel
theorem dX11_carryOut_23 : decode cX11_carryOut 23 = .ok (.iconst 1, 1) := by decide +kernel
theorem dX11_carryOut_24 : decode cX11_carryOut 24 = .ok (.istore_n 2, 1) := by decide +kernel
theorem dX11_carryOut_25 : decode cX11_carryOut 25 = .ok (.aload_n 0, 1) := by decide +kernel
theorem dX11_carryOut_26 : decode cX11_carryOut 26 = .ok (.iconst 0, 1) := by decide +kernel
theorem dX11_carryOut_27 : decode cX11_carryOut 27 = .ok (.putfield 192, 3) := by decide +kernel
theorem dX11_carryOut_30 : decode cX11_carryOut 30 = .ok (.iload_n 2, 1) := by decide +kernel
theorem dX11_carryOut_31 : decode cX11_carryOut 31 = .ok (.ifCond .eq 68, 3) := by decide +kernel
theorem dX11_carryOut_34 : decode cX11_carryOut 34 = .ok (.aload_n 0, 1) := by decide +kernel
theorem dX11_carryOut_35 : decode cX11_carryOut 35 = .ok (.getfield 192, 3) := by decide +kernel
theorem dX11_carryOut_38 : decode cX11_carryOut 38 = .ok (.aload_n 0, 1) := by decide +kernel
theorem dX11_carryOut_39 : decode cX11_carryOut 39 = .ok (.getfield 175, 3) := by decide +kernel
theorem dX11_carryOut_42 : decode cX11_carryOut 42 = .ok (.if_icmp .ge 57, 3) := by decide +kernel
theorem dX11_carryOut_45 : decode cX11_carryOut 45 = .ok (.aload_n 0, 1) := by decide +kernel
theorem dX11_carryOut_46 : decode cX11_carryOut 46 = .ok (.invokevirtual 253, 3) := by decide +kernel
theorem dX11_carryOut_49 : decode cX11_carryOut 49 = .ok (.ifCond .eq 14, 3) := by decide +kernel
theorem dX11_carryOut_52 : decode cX11_carryOut 52 = .ok (.aload_n 0, 1) := by decide +kernel
theorem dX11_carryOut_53 : decode cX11_carryOut 53 = .ok (.invokevirtual 272, 3) := by decide +kernel
theorem dX11_carryOut_56 : decode cX11_carryOut 56 = .ok (.ifCond .lt 7, 3) := by decide +kernel
theorem dX11_carryOut_59 : decode cX11_carryOut 59 = .ok (.iconst 1, 1) := by decide +kernel
theorem dX11_carryOut_60 : decode cX11_carryOut 60 = .ok (.goto 4, 3) := by decide +kernel
theorem dX11_carryOut_63 : decode cX11_carryOut 63 = .ok (.iconst 0, 1) := by decide +kernel
theorem dX11_carryOut_64 : decode cX11_carryOut 64 = .ok (.istore_n 2, 1) := by decide +kernel
theorem dX11_carryOut_65 : decode cX11_carryOut 65 = .ok (.iload_n 1, 1) := by decide +kernel
theorem dX11_carryOut_66 : decode cX11_carryOut 66 = .ok (.iload_n 2, 1) := by decide +kernel
theorem dX11_carryOut_67 : decode cX11_carryOut 67 = .ok (.ifCond .eq 7, 3) := by decide +kernel
theorem dX11_carryOut_70 : decode cX11_carryOut 70 = .ok (.iconst 1, 1) := by decide +kernel
theorem dX11_carryOut_71 : decode cX11_carryOut 71 = .ok (.goto 4, 3) := by decide +kernel
theorem dX11_carryOut_74 : decode cX11_carryOut 74 = .ok (.iconst 0, 1) := by decide +kernel
theorem dX11_carryOut_75 : decode cX11_carryOut 75 = .ok (.iadd, 1) := by decide +kernel
theorem dX11_carryOut_76 : decode cX11_carryOut 76 = .ok (.istore_n 1, 1) := by decide +kernel
theorem dX11_carryOut_77 : decode cX11_carryOut 77 = .ok (.aload_n 0, 1) := by decide +kernel
theorem dX11_carryOut_78 : decode cX11_carryOut 78 = .ok (.bipush 59, 2) := by decide +kernel
theorem dX11_carryOut_80 : decode cX11_carryOut 80 = .ok (.invokevirtual 198, 3) := by decide +kernel
theorem dX11_carryOut_83 : decode cX11_carryOut 83 = .ok (.ifCond .eq 11, 3) := by decide +kernel
theorem dX11_carryOut_86 : decode cX11_carryOut 86 = .ok (.iload_n 2, 1) := by decide +kernel
theorem dX11_carryOut_87 : decode cX11_carryOut 87 = .ok (.ifCond .eq 7, 3) := by decide +kernel
theorem dX11_carryOut_90 : decode cX11_carryOut 90 = .ok (.iconst 1, 1) := by decide +kernel
theorem dX11_carryOut_91 : decode cX11_carryOut 91 = .ok (.goto 4, 3) := by decide +kernel
theorem dX11_carryOut_94 : decode cX11_carryOut 94 = .ok (.iconst 0, 1) := by decide +kernel
theorem dX11_carryOut_95 : decode cX11_carryOut 95 = .ok (.istore_n 2, 1) := by decide +kernel
theorem dX11_carryOut_96 : decode cX11_carryOut 96 = .ok (.goto (-66), 3) := by decide +kernel
theorem dX11_carryOut_99 : decode cX11_carryOut 99 = .ok (.aload_n 0, 1) := by decide +kernel
theorem dX11_carryOut_100 : decode cX11_carryOut 100 = .ok (.iconst 0, 1) := by decide +kernel
theorem dX11_carryOut_101 : decode cX11_carryOut 101 = .ok (.putfield 38, 3) := by decide +kernel
theorem dX11_carryOut_104 : decode cX11_carryOut 104 = .ok (.aload_n 0, 1) := by decide +kernel
theorem dX11_carryOut_105 : decode cX11_carryOut 105 = .ok (.iconst 0, 1) := by decide +kernel
theorem dX11_carryOut_106 : decode cX11_carryOut 106 = .ok (.putfield 175, 3) := by decide +kernel
theorem dX11_carryOut_109 : decode cX11_carryOut 109 = .ok (.iload_n 1, 1) := by decide +kernel
theorem dX11_carryOut_110 : decode cX11_carryOut 110 = .ok (.ireturn, 1) := by decide +kernel
theorem dJ13_bitCount_95d88_0 : decode cJ13_bitCount_95d88 0 = .ok (.lload_n 0, 1) := by decide +kernel
theorem dJ13_bitCount_95d88_1 : decode cJ13_bitCount_95d88 1 = .ok (.lload_n 0, 1) := by decide +kernel
theorem dJ13_bitCount_95d88_2 : decode cJ13_bitCount_95d88 2 = .ok (.iconst 1, 1) := by decide +kernel
theorem dJ13_bitCount_95d88_3 : decode cJ13_bitCount_95d88 3 = .ok (.lushr, 1) := by decide +kernel
theorem dJ13_bitCount_95d88_4 : decode cJ13_bitCount_95d88 4 = .ok (.ldc2_w 314, 3) := by decide +kernel
theorem dJ13_bitCount_95d88_7 : decode cJ13_bitCount_95d88 7 = .ok (.land, 1) := by decide +kernel
theorem dJ13_bitCount_95d88_8 : decode cJ13_bitCount_95d88 8 = .ok (.lsub, 1) := by decide +kernel
theorem dJ13_bitCount_95d88_9 : decode cJ13_bitCount_95d88 9 = .ok (.lstore_n 0, 1) := by decide +kernel
theorem dJ13_bitCount_95d88_10 : decode cJ13_bitCount_95d88 10 = .ok (.lload_n 0, 1) := by decide +kernel
theorem dJ13_bitCount_95d88_11 : decode cJ13_bitCount_95d88 11 = .ok (.ldc2_w 316, 3) := by decide +kernel
theorem dJ13_bitCount_95d88_14 : decode cJ13_bitCount_95d88 14 = .ok (.land, 1) := by decide +kernel
theorem dJ13_bitCount_95d88_15 : decode cJ13_bitCount_95d88 15 = .ok (.lload_n 0, 1) := by decide +kernel
theorem dJ13_bitCount_95d88_16 : decode cJ13_bitCount_95d88 16 = .ok (.iconst 2, 1) := by decide +kernel
theorem dJ13_bitCount_95d88_17 : decode cJ13_bitCount_95d88 17 = .ok (.lushr, 1) := by decide +kernel
theorem dJ13_bitCount_95d88_18 : decode cJ13_bitCount_95d88 18 = .ok (.ldc2_w 316, 3) := by decide +kernel
theorem dJ13_bitCount_95d88_21 : decode cJ13_bitCount_95d88 21 = .ok (.land, 1) := by decide +kernel
theorem dJ13_bitCount_95d88_22 : decode cJ13_bitCount_95d88 22 = .ok (.ladd, 1) := by decide +kernel
theorem dJ13_bitCount_95d88_23 : decode cJ13_bitCount_95d88 23 = .ok (.lstore_n 0, 1) := by decide +kernel
theorem dJ13_bitCount_95d88_24 : decode cJ13_bitCount_95d88 24 = .ok (.lload_n 0, 1) := by decide +kernel
theorem dJ13_bitCount_95d88_25 : decode cJ13_bitCount_95d88 25 = .ok (.lload_n 0, 1) := by decide +kernel
theorem dJ13_bitCount_95d88_26 : decode cJ13_bitCount_95d88 26 = .ok (.iconst 4, 1) := by decide +kernel
theorem dJ13_bitCount_95d88_27 : decode cJ13_bitCount_95d88 27 = .ok (.lushr, 1) := by decide +kernel
theorem dJ13_bitCount_95d88_28 : decode cJ13_bitCount_95d88 28 = .ok (.ladd, 1) := by decide +kernel
theorem dJ13_bitCount_95d88_29 : decode cJ13_bitCount_95d88 29 = .ok (.ldc2_w 318, 3) := by decide +kernel
theorem dJ13_bitCount_95d88_32 : decode cJ13_bitCount_95d88 32 = .ok (.land, 1) := by decide +kernel
theorem dJ13_bitCount_95d88_33 : decode cJ13_bitCount_95d88 33 = .ok (.lstore_n 0, 1) := by decide +kernel
theorem dJ13_bitCount_95d88_34 : decode cJ13_bitCount_95d88 34 = .ok (.lload_n 0, 1) := by decide +kernel
theorem dJ13_bitCount_95d88_35 : decode cJ13_bitCount_95d88 35 = .ok (.lload_n 0, 1) := by decide +kernel
theorem dJ13_bitCount_95d88_36 : decode cJ13_bitCount_95d88 36 = .ok (.bipush 8, 2) := by decide +kernel
theorem dJ13_bitCount_95d88_38 : decode cJ13_bitCount_95d88 38 = .ok (.lushr, 1) := by decide +kernel
theorem dJ13_bitCount_95d88_39 : decode cJ13_bitCount_95d88 39 = .ok (.ladd, 1) := by decide +kernel
theorem dJ13_bitCount_95d88_40 : decode cJ13_bitCount_95d88 40 = .ok (.lstore_n 0, 1) := by decide +kernel
theorem dJ13_bitCount_95d88_41 : decode cJ13_bitCount_95d88 41 = .ok (.lload_n 0, 1) := by decide +kernel
theorem dJ13_bitCount_95d88_42 : decode cJ13_bitCount_95d88 42 = .ok (.lload_n 0, 1) := by decide +kernel
theorem dJ13_bitCount_95d88_43 : decode cJ13_bitCount_95d88 43 = .ok (.bipush 16, 2) := by decide +kernel
theorem dJ13_bitCount_95d88_45 : decode cJ13_bitCount_95d88 45 = .ok (.lushr, 1) := by decide +kernel
theorem dJ13_bitCount_95d88_46 : decode cJ13_bitCount_95d88 46 = .ok (.ladd, 1) := by decide +kernel
theorem dJ13_bitCount_95d88_47 : decode cJ13_bitCount_95d88 47 = .ok (.lstore_n 0, 1) := by decide +kernel
theorem dJ13_bitCount_95d88_48 : decode cJ13_bitCount_95d88 48 = .ok (.lload_n 0, 1) := by decide +kernel
theorem dJ13_bitCount_95d88_49 : decode cJ13_bitCount_95d88 49 = .ok (.lload_n 0, 1) := by decide +kernel
theorem dJ13_bitCount_95d88_50 : decode cJ13_bitCount_95d88 50 = .ok (.bipush 32, 2) := by decide +kernel
theorem dJ13_bitCount_95d88_52 : decode cJ13_bitCount_95d88 52 = .ok (.lushr, 1) := by decide +kernel
theorem dJ13_bitCount_95d88_53 : decode cJ13_bitCount_95d88 53 = .ok (.ladd, 1) := by decide +kernel
theorem dJ13_bitCount_95d88_54 : decode cJ13_bitCount_95d88 54 = .ok (.lstore_n 0, 1) := by decide +kernel
theorem dJ13_bitCount_95d88_55 : decode cJ13_bitCount_95d88 55 = .ok (.lload_n 0, 1) := by decide +kernel
theorem dJ13_bitCount_95d88_56 : decode cJ13_bitCount_95d88 56 = .ok (.l2i, 1) := by decide +kernel
theorem dJ13_bitCount_95d88_57 : decode cJ13_bitCount_95d88 57 = .ok (.bipush 127, 2) := by decide +kernel
theorem dJ13_bitCount_95d88_59 : decode cJ13_bitCount_95d88 59 = .ok (.iand, 1) := by decide +kernel
theorem dJ13_bitCount_95d88_60 : decode cJ13_bitCount_95d88 60 = .ok (.ireturn, 1) := by decide +kernel
theorem dL_law_0 : decode cL_law 0 = .ok (.new 7, 3) := by decide +kernel
theorem dL_law_3 : decode cL_law 3 = .ok (.dup, 1) := by decide +kernel
theorem dL_law_4 : decode cL_law 4 = .ok (.invokespecial 9, 3) := by decide +kernel
theorem dL_law_7 : decode cL_law 7 = .ok (.astore_n 1, 1) := by decide +kernel
theorem dL_law_8 : decode cL_law 8 = .ok (.new 10, 3) := by decide +kernel
theorem dL_law_11 : decode cL_law 11 = .ok (.dup, 1) := by decide +kernel
theorem dL_law_12 : decode cL_law 12 = .ok (.invokespecial 12, 3) := by decide +kernel
theorem dL_law_15 : decode cL_law 15 = .ok (.astore_n 2, 1) := by decide +kernel
theorem dL_law_16 : decode cL_law 16 = .ok (.iconst 0, 1) := by decide +kernel
theorem dL_law_17 : decode cL_law 17 = .ok (.istore_n 3, 1) := by decide +kernel
theorem dL_law_18 : decode cL_law 18 = .ok (.iload_n 3, 1) := by decide +kernel
theorem dL_law_19 : decode cL_law 19 = .ok (.aload_n 0, 1) := by decide +kernel
theorem dL_law_20 : decode cL_law 20 = .ok (.arraylength, 1) := by decide +kernel
theorem dL_law_21 : decode cL_law 21 = .ok (.bipush 6, 2) := by decide +kernel
theorem dL_law_23 : decode cL_law 23 = .ok (.isub, 1) := by decide +kernel
theorem dL_law_24 : decode cL_law 24 = .ok (.if_icmp .gt 888, 3) := by decide +kernel
theorem dL_law_27 : decode cL_law 27 = .ok (.aload_n 0, 1) := by decide +kernel
theorem dL_law_28 : decode cL_law 28 = .ok (.iload_n 3, 1) := by decide +kernel
theorem dL_law_29 : decode cL_law 29 = .ok (.iaload, 1) := by decide +kernel
theorem dL_law_30 : decode cL_law 30 = .ok (.bipush 31, 2) := by decide +kernel
theorem dL_law_32 : decode cL_law 32 = .ok (.iand, 1) := by decide +kernel
theorem dL_law_33 : decode cL_law 33 = .ok (.tableswitch 873 0 27 #[127, 170, 193, 256, 279, 302, 325, 358, 371, 384, 437, 470, 503, 536, 569, 592, 615, 638, 661, 684, 698, 722, 775, 788, 801, 814, 827, 850], 127) := by decide +kernel
theorem dL_law_160 : decode cL_law 160 = .ok (.aload_n 1, 1) := by decide +kernel
theorem dL_law_161 : decode cL_law 161 = .ok (.aload_n 0, 1) := by decide +kernel
theorem dL_law_162 : decode cL_law 162 = .ok (.iload_n 3, 1) := by decide +kernel
theorem dL_law_163 : decode cL_law 163 = .ok (.iconst 1, 1) := by decide +kernel
theorem dL_law_164 : decode cL_law 164 = .ok (.iadd, 1) := by decide +kernel
theorem dL_law_165 : decode cL_law 165 = .ok (.iaload, 1) := by decide +kernel
theorem dL_law_166 : decode cL_law 166 = .ok (.aload_n 0, 1) := by decide +kernel
theorem dL_law_167 : decode cL_law 167 = .ok (.iload_n 3, 1) := by decide +kernel
theorem dL_law_168 : decode cL_law 168 = .ok (.iconst 2, 1) := by decide +kernel
theorem dL_law_169 : decode cL_law 169 = .ok (.iadd, 1) := by decide +kernel
theorem dL_law_170 : decode cL_law 170 = .ok (.iaload, 1) := by decide +kernel
theorem dL_law_171 : decode cL_law 171 = .ok (.aload_n 0, 1) := by decide +kernel
theorem dL_law_172 : decode cL_law 172 = .ok (.iload_n 3, 1) := by decide +kernel
theorem dL_law_173 : decode cL_law 173 = .ok (.iconst 3, 1) := by decide +kernel
theorem dL_law_174 : decode cL_law 174 = .ok (.iadd, 1) := by decide +kernel
theorem dL_law_175 : decode cL_law 175 = .ok (.iaload, 1) := by decide +kernel
theorem dL_law_176 : decode cL_law 176 = .ok (.invokevirtual 13, 3) := by decide +kernel
theorem dL_law_179 : decode cL_law 179 = .ok (.aload_n 2, 1) := by decide +kernel
theorem dL_law_180 : decode cL_law 180 = .ok (.aload_n 0, 1) := by decide +kernel
theorem dL_law_181 : decode cL_law 181 = .ok (.iload_n 3, 1) := by decide +kernel
theorem dL_law_182 : decode cL_law 182 = .ok (.iconst 1, 1) := by decide +kernel
theorem dL_law_183 : decode cL_law 183 = .ok (.iadd, 1) := by decide +kernel
theorem dL_law_184 : decode cL_law 184 = .ok (.iaload, 1) := by decide +kernel
theorem dL_law_185 : decode cL_law 185 = .ok (.aload_n 0, 1) := by decide +kernel
theorem dL_law_186 : decode cL_law 186 = .ok (.iload_n 3, 1) := by decide +kernel
theorem dL_law_187 : decode cL_law 187 = .ok (.iconst 2, 1) := by decide +kernel
theorem dL_law_188 : decode cL_law 188 = .ok (.iadd, 1) := by decide +kernel
theorem dL_law_189 : decode cL_law 189 = .ok (.iaload, 1) := by decide +kernel
theorem dL_law_190 : decode cL_law 190 = .ok (.aload_n 0, 1) := by decide +kernel
theorem dL_law_191 : decode cL_law 191 = .ok (.iload_n 3, 1) := by decide +kernel
theorem dL_law_192 : decode cL_law 192 = .ok (.iconst 3, 1) := by decide +kernel
theorem dL_law_193 : decode cL_law 193 = .ok (.iadd, 1) := by decide +kernel
theorem dL_law_194 : decode cL_law 194 = .ok (.iaload, 1) := by decide +kernel
theorem dL_law_195 : decode cL_law 195 = .ok (.invokevirtual 17, 3) := by decide +kernel
theorem dL_law_198 : decode cL_law 198 = .ok (.if_icmp .eq 708, 3) := by decide +kernel
theorem dL_law_201 : decode cL_law 201 = .ok (.iconst 0, 1) := by decide +kernel
theorem dL_law_202 : decode cL_law 202 = .ok (.ireturn, 1) := by decide +kernel
theorem dL_law_203 : decode cL_law 203 = .ok (.aload_n 1, 1) := by decide +kernel
theorem dL_law_204 : decode cL_law 204 = .ok (.aload_n 0, 1) := by decide +kernel
theorem dL_law_205 : decode cL_law 205 = .ok (.iload_n 3, 1) := by decide +kernel
theorem dL_law_206 : decode cL_law 206 = .ok (.iconst 1, 1) := by decide +kernel
theorem dL_law_207 : decode cL_law 207 = .ok (.iadd, 1) := by decide +kernel
theorem dL_law_208 : decode cL_law 208 = .ok (.iaload, 1) := by decide +kernel
theorem dL_law_209 : decode cL_law 209 = .ok (.invokevirtual 18, 3) := by decide +kernel
theorem dL_law_212 : decode cL_law 212 = .ok (.aload_n 2, 1) := by decide +kernel
theorem dL_law_213 : decode cL_law 213 = .ok (.aload_n 0, 1) := by decide +kernel
theorem dL_law_214 : decode cL_law 214 = .ok (.iload_n 3, 1) := by decide +kernel
theorem dL_law_215 : decode cL_law 215 = .ok (.iconst 1, 1) := by decide +kernel
theorem dL_law_216 : decode cL_law 216 = .ok (.iadd, 1) := by decide +kernel
theorem dL_law_217 : decode cL_law 217 = .ok (.iaload, 1) := by decide +kernel
theorem dL_law_218 : decode cL_law 218 = .ok (.invokevirtual 22, 3) := by decide +kernel
theorem dL_law_221 : decode cL_law 221 = .ok (.if_icmp .eq 685, 3) := by decide +kernel
theorem dL_law_224 : decode cL_law 224 = .ok (.iconst 0, 1) := by decide +kernel
theorem dL_law_225 : decode cL_law 225 = .ok (.ireturn, 1) := by decide +kernel
theorem dL_law_226 : decode cL_law 226 = .ok (.aload_n 1, 1) := by decide +kernel
theorem dL_law_227 : decode cL_law 227 = .ok (.aload_n 0, 1) := by decide +kernel
theorem dL_law_228 : decode cL_law 228 = .ok (.iload_n 3, 1) := by decide +kernel
theorem dL_law_229 : decode cL_law 229 = .ok (.iconst 1, 1) := by decide +kernel
theorem dL_law_230 : decode cL_law 230 = .ok (.iadd, 1) := by decide +kernel
theorem dL_law_231 : decode cL_law 231 = .ok (.iaload, 1) := by decide +kernel
theorem dL_law_232 : decode cL_law 232 = .ok (.aload_n 0, 1) := by decide +kernel
theorem dL_law_233 : decode cL_law 233 = .ok (.iload_n 3, 1) := by decide +kernel
theorem dL_law_234 : decode cL_law 234 = .ok (.iconst 2, 1) := by decide +kernel
theorem dL_law_235 : decode cL_law 235 = .ok (.iadd, 1) := by decide +kernel
theorem dL_law_236 : decode cL_law 236 = .ok (.iaload, 1) := by decide +kernel
theorem dL_law_237 : decode cL_law 237 = .ok (.aload_n 0, 1) := by decide +kernel
theorem dL_law_238 : decode cL_law 238 = .ok (.iload_n 3, 1) := by decide +kernel
theorem dL_law_239 : decode cL_law 239 = .ok (.iconst 3, 1) := by decide +kernel
theorem dL_law_240 : decode cL_law 240 = .ok (.iadd, 1) := by decide +kernel
theorem dL_law_241 : decode cL_law 241 = .ok (.iaload, 1) := by decide +kernel
theorem dL_law_242 : decode cL_law 242 = .ok (.aload_n 0, 1) := by decide +kernel
theorem dL_law_243 : decode cL_law 243 = .ok (.iload_n 3, 1) := by decide +kernel
theorem dL_law_244 : decode cL_law 244 = .ok (.iconst 4, 1) := by decide +kernel
theorem dL_law_245 : decode cL_law 245 = .ok (.iadd, 1) := by decide +kernel
theorem dL_law_246 : decode cL_law 246 = .ok (.iaload, 1) := by decide +kernel
theorem dL_law_247 : decode cL_law 247 = .ok (.aload_n 0, 1) := by decide +kernel
theorem dL_law_248 : decode cL_law 248 = .ok (.iload_n 3, 1) := by decide +kernel
theorem dL_law_249 : decode cL_law 249 = .ok (.iconst 5, 1) := by decide +kernel
theorem dL_law_250 : decode cL_law 250 = .ok (.iadd, 1) := by decide +kernel
theorem dL_law_251 : decode cL_law 251 = .ok (.iaload, 1) := by decide +kernel
theorem dL_law_252 : decode cL_law 252 = .ok (.invokevirtual 23, 3) := by decide +kernel
theorem dL_law_255 : decode cL_law 255 = .ok (.aload_n 2, 1) := by decide +kernel
theorem dL_law_256 : decode cL_law 256 = .ok (.aload_n 0, 1) := by decide +kernel
theorem dL_law_257 : decode cL_law 257 = .ok (.iload_n 3, 1) := by decide +kernel
theorem dL_law_258 : decode cL_law 258 = .ok (.iconst 1, 1) := by decide +kernel
theorem dL_law_259 : decode cL_law 259 = .ok (.iadd, 1) := by decide +kernel
theorem dL_law_260 : decode cL_law 260 = .ok (.iaload, 1) := by decide +kernel
theorem dL_law_261 : decode cL_law 261 = .ok (.aload_n 0, 1) := by decide +kernel
theorem dL_law_262 : decode cL_law 262 = .ok (.iload_n 3, 1) := by decide +kernel
theorem dL_law_263 : decode cL_law 263 = .ok (.iconst 2, 1) := by decide +kernel
theorem dL_law_264 : decode cL_law 264 = .ok (.iadd, 1) := by decide +kernel
theorem dL_law_265 : decode cL_law 265 = .ok (.iaload, 1) := by decide +kernel
theorem dL_law_266 : decode cL_law 266 = .ok (.aload_n 0, 1) := by decide +kernel
theorem dL_law_267 : decode cL_law 267 = .ok (.iload_n 3, 1) := by decide +kernel
theorem dL_law_268 : decode cL_law 268 = .ok (.iconst 3, 1) := by decide +kernel
theorem dL_law_269 : decode cL_law 269 = .ok (.iadd, 1) := by decide +kernel
theorem dL_law_270 : decode cL_law 270 = .ok (.iaload, 1) := by decide +kernel
theorem dL_law_271 : decode cL_law 271 = .ok (.aload_n 0, 1) := by decide +kernel
theorem dL_law_272 : decode cL_law 272 = .ok (.iload_n 3, 1) := by decide +kernel
theorem dL_law_273 : decode cL_law 273 = .ok (.iconst 4, 1) := by decide +kernel
theorem dL_law_274 : decode cL_law 274 = .ok (.iadd, 1) := by decide +kernel
theorem dL_law_275 : decode cL_law 275 = .ok (.iaload, 1) := by decide +kernel
theorem dL_law_276 : decode cL_law 276 = .ok (.aload_n 0, 1) := by decide +kernel
theorem dL_law_277 : decode cL_law 277 = .ok (.iload_n 3, 1) := by decide +kernel
theorem dL_law_278 : decode cL_law 278 = .ok (.iconst 5, 1) := by decide +kernel
theorem dL_law_279 : decode cL_law 279 = .ok (.iadd, 1) := by decide +kernel
theorem dL_law_280 : decode cL_law 280 = .ok (.iaload, 1) := by decide +kernel
theorem dL_law_281 : decode cL_law 281 = .ok (.invokevirtual 27, 3) := by decide +kernel
theorem dL_law_284 : decode cL_law 284 = .ok (.if_icmp .eq 622, 3) := by decide +kernel
theorem dL_law_287 : decode cL_law 287 = .ok (.iconst 0, 1) := by decide +kernel
theorem dL_law_288 : decode cL_law 288 = .ok (.ireturn, 1) := by decide +kernel
theorem dL_law_289 : decode cL_law 289 = .ok (.aload_n 1, 1) := by decide +kernel
theorem dL_law_290 : decode cL_law 290 = .ok (.aload_n 0, 1) := by decide +kernel
theorem dL_law_291 : decode cL_law 291 = .ok (.iload_n 3, 1) := by decide +kernel
theorem dL_law_292 : decode cL_law 292 = .ok (.iconst 1, 1) := by decide +kernel
theorem dL_law_293 : decode cL_law 293 = .ok (.iadd, 1) := by decide +kernel
theorem dL_law_294 : decode cL_law 294 = .ok (.iaload, 1) := by decide +kernel
theorem dL_law_295 : decode cL_law 295 = .ok (.invokevirtual 28, 3) := by decide +kernel
theorem dL_law_298 : decode cL_law 298 = .ok (.aload_n 2, 1) := by decide +kernel
theorem dL_law_299 : decode cL_law 299 = .ok (.aload_n 0, 1) := by decide +kernel
theorem dL_law_300 : decode cL_law 300 = .ok (.iload_n 3, 1) := by decide +kernel
theorem dL_law_301 : decode cL_law 301 = .ok (.iconst 1, 1) := by decide +kernel
theorem dL_law_302 : decode cL_law 302 = .ok (.iadd, 1) := by decide +kernel
theorem dL_law_303 : decode cL_law 303 = .ok (.iaload, 1) := by decide +kernel
theorem dL_law_304 : decode cL_law 304 = .ok (.invokevirtual 31, 3) := by decide +kernel
theorem dL_law_307 : decode cL_law 307 = .ok (.if_icmp .eq 599, 3) := by decide +kernel
theorem dL_law_310 : decode cL_law 310 = .ok (.iconst 0, 1) := by decide +kernel
theorem dL_law_311 : decode cL_law 311 = .ok (.ireturn, 1) := by decide +kernel
theorem dL_law_312 : decode cL_law 312 = .ok (.aload_n 1, 1) := by decide +kernel
theorem dL_law_313 : decode cL_law 313 = .ok (.aload_n 0, 1) := by decide +kernel
theorem dL_law_314 : decode cL_law 314 = .ok (.iload_n 3, 1) := by decide +kernel
theorem dL_law_315 : decode cL_law 315 = .ok (.iconst 1, 1) := by decide +kernel
theorem dL_law_316 : decode cL_law 316 = .ok (.iadd, 1) := by decide +kernel
theorem dL_law_317 : decode cL_law 317 = .ok (.iaload, 1) := by decide +kernel
theorem dL_law_318 : decode cL_law 318 = .ok (.invokevirtual 32, 3) := by decide +kernel
theorem dL_law_321 : decode cL_law 321 = .ok (.aload_n 2, 1) := by decide +kernel
theorem dL_law_322 : decode cL_law 322 = .ok (.aload_n 0, 1) := by decide +kernel
theorem dL_law_323 : decode cL_law 323 = .ok (.iload_n 3, 1) := by decide +kernel
theorem dL_law_324 : decode cL_law 324 = .ok (.iconst 1, 1) := by decide +kernel
theorem dL_law_325 : decode cL_law 325 = .ok (.iadd, 1) := by decide +kernel
theorem dL_law_326 : decode cL_law 326 = .ok (.iaload, 1) := by decide +kernel
theorem dL_law_327 : decode cL_law 327 = .ok (.invokevirtual 35, 3) := by decide +kernel
theorem dL_law_330 : decode cL_law 330 = .ok (.if_icmp .eq 576, 3) := by decide +kernel
theorem dL_law_333 : decode cL_law 333 = .ok (.iconst 0, 1) := by decide +kernel
theorem dL_law_334 : decode cL_law 334 = .ok (.ireturn, 1) := by decide +kernel
theorem dL_law_335 : decode cL_law 335 = .ok (.aload_n 1, 1) := by decide +kernel
theorem dL_law_336 : decode cL_law 336 = .ok (.aload_n 0, 1) := by decide +kernel
theorem dL_law_337 : decode cL_law 337 = .ok (.iload_n 3, 1) := by decide +kernel
theorem dL_law_338 : decode cL_law 338 = .ok (.iconst 1, 1) := by decide +kernel
theorem dL_law_339 : decode cL_law 339 = .ok (.iadd, 1) := by decide +kernel
theorem dL_law_340 : decode cL_law 340 = .ok (.iaload, 1) := by decide +kernel
theorem dL_law_341 : decode cL_law 341 = .ok (.invokevirtual 36, 3) := by decide +kernel
theorem dL_law_344 : decode cL_law 344 = .ok (.aload_n 2, 1) := by decide +kernel
theorem dL_law_345 : decode cL_law 345 = .ok (.aload_n 0, 1) := by decide +kernel
theorem dL_law_346 : decode cL_law 346 = .ok (.iload_n 3, 1) := by decide +kernel
theorem dL_law_347 : decode cL_law 347 = .ok (.iconst 1, 1) := by decide +kernel
theorem dL_law_348 : decode cL_law 348 = .ok (.iadd, 1) := by decide +kernel
theorem dL_law_349 : decode cL_law 349 = .ok (.iaload, 1) := by decide +kernel
theorem dL_law_350 : decode cL_law 350 = .ok (.invokevirtual 39, 3) := by decide +kernel
theorem dL_law_353 : decode cL_law 353 = .ok (.if_icmp .eq 553, 3) := by decide +kernel
theorem dL_law_356 : decode cL_law 356 = .ok (.iconst 0, 1) := by decide +kernel
theorem dL_law_357 : decode cL_law 357 = .ok (.ireturn, 1) := by decide +kernel
theorem dL_law_358 : decode cL_law 358 = .ok (.aload_n 1, 1) := by decide +kernel
theorem dL_law_359 : decode cL_law 359 = .ok (.aload_n 0, 1) := by decide +kernel
theorem dL_law_360 : decode cL_law 360 = .ok (.iload_n 3, 1) := by decide +kernel
theorem dL_law_361 : decode cL_law 361 = .ok (.iconst 1, 1) := by decide +kernel
theorem dL_law_362 : decode cL_law 362 = .ok (.iadd, 1) := by decide +kernel
theorem dL_law_363 : decode cL_law 363 = .ok (.iaload, 1) := by decide +kernel
theorem dL_law_364 : decode cL_law 364 = .ok (.aload_n 0, 1) := by decide +kernel
theorem dL_law_365 : decode cL_law 365 = .ok (.iload_n 3, 1) := by decide +kernel
theorem dL_law_366 : decode cL_law 366 = .ok (.iconst 2, 1) := by decide +kernel
theorem dL_law_367 : decode cL_law 367 = .ok (.iadd, 1) := by decide +kernel
theorem dL_law_368 : decode cL_law 368 = .ok (.iaload, 1) := by decide +kernel
theorem dL_law_369 : decode cL_law 369 = .ok (.invokevirtual 40, 3) := by decide +kernel
theorem dL_law_372 : decode cL_law 372 = .ok (.aload_n 2, 1) := by decide +kernel
theorem dL_law_373 : decode cL_law 373 = .ok (.aload_n 0, 1) := by decide +kernel
theorem dL_law_374 : decode cL_law 374 = .ok (.iload_n 3, 1) := by decide +kernel
theorem dL_law_375 : decode cL_law 375 = .ok (.iconst 1, 1) := by decide +kernel
theorem dL_law_376 : decode cL_law 376 = .ok (.iadd, 1) := by decide +kernel
theorem dL_law_377 : decode cL_law 377 = .ok (.iaload, 1) := by decide +kernel
theorem dL_law_378 : decode cL_law 378 = .ok (.aload_n 0, 1) := by decide +kernel
theorem dL_law_379 : decode cL_law 379 = .ok (.iload_n 3, 1) := by decide +kernel
theorem dL_law_380 : decode cL_law 380 = .ok (.iconst 2, 1) := by decide +kernel
theorem dL_law_381 : decode cL_law 381 = .ok (.iadd, 1) := by decide +kernel
theorem dL_law_382 : decode cL_law 382 = .ok (.iaload, 1) := by decide +kernel
theorem dL_law_383 : decode cL_law 383 = .ok (.invokevirtual 44, 3) := by decide +kernel
theorem dL_law_386 : decode cL_law 386 = .ok (.if_icmp .eq 520, 3) := by decide +kernel
theorem dL_law_389 : decode cL_law 389 = .ok (.iconst 0, 1) := by decide +kernel
theorem dL_law_390 : decode cL_law 390 = .ok (.ireturn, 1) := by decide +kernel
theorem dL_law_391 : decode cL_law 391 = .ok (.aload_n 1, 1) := by decide +kernel
theorem dL_law_392 : decode cL_law 392 = .ok (.invokevirtual 45, 3) := by decide +kernel
theorem dL_law_395 : decode cL_law 395 = .ok (.aload_n 2, 1) := by decide +kernel
theorem dL_law_396 : decode cL_law 396 = .ok (.invokevirtual 49, 3) := by decide +kernel
theorem dL_law_399 : decode cL_law 399 = .ok (.if_icmp .eq 507, 3) := by decide +kernel
theorem dL_law_402 : decode cL_law 402 = .ok (.iconst 0, 1) := by decide +kernel
theorem dL_law_403 : decode cL_law 403 = .ok (.ireturn, 1) := by decide +kernel
theorem dL_law_404 : decode cL_law 404 = .ok (.aload_n 1, 1) := by decide +kernel
theorem dL_law_405 : decode cL_law 405 = .ok (.invokevirtual 50, 3) := by decide +kernel
theorem dL_law_408 : decode cL_law 408 = .ok (.aload_n 2, 1) := by decide +kernel
theorem dL_law_409 : decode cL_law 409 = .ok (.invokevirtual 53, 3) := by decide +kernel
theorem dL_law_412 : decode cL_law 412 = .ok (.if_icmp .eq 494, 3) := by decide +kernel
theorem dL_law_415 : decode cL_law 415 = .ok (.iconst 0, 1) := by decide +kernel
theorem dL_law_416 : decode cL_law 416 = .ok (.ireturn, 1) := by decide +kernel
theorem dL_law_417 : decode cL_law 417 = .ok (.aload_n 1, 1) := by decide +kernel
theorem dL_law_418 : decode cL_law 418 = .ok (.aload_n 0, 1) := by decide +kernel
theorem dL_law_419 : decode cL_law 419 = .ok (.iload_n 3, 1) := by decide +kernel
theorem dL_law_420 : decode cL_law 420 = .ok (.iconst 1, 1) := by decide +kernel
theorem dL_law_421 : decode cL_law 421 = .ok (.iadd, 1) := by decide +kernel
theorem dL_law_422 : decode cL_law 422 = .ok (.iaload, 1) := by decide +kernel
theorem dL_law_423 : decode cL_law 423 = .ok (.aload_n 0, 1) := by decide +kernel
theorem dL_law_424 : decode cL_law 424 = .ok (.iload_n 3, 1) := by decide +kernel
theorem dL_law_425 : decode cL_law 425 = .ok (.iconst 2, 1) := by decide +kernel
theorem dL_law_426 : decode cL_law 426 = .ok (.iadd, 1) := by decide +kernel
theorem dL_law_427 : decode cL_law 427 = .ok (.iaload, 1) := by decide +kernel
theorem dL_law_428 : decode cL_law 428 = .ok (.aload_n 0, 1) := by decide +kernel
theorem dL_law_429 : decode cL_law 429 = .ok (.iload_n 3, 1) := by decide +kernel
theorem dL_law_430 : decode cL_law 430 = .ok (.iconst 3, 1) := by decide +kernel
theorem dL_law_431 : decode cL_law 431 = .ok (.iadd, 1) := by decide +kernel
theorem dL_law_432 : decode cL_law 432 = .ok (.iaload, 1) := by decide +kernel
theorem dL_law_433 : decode cL_law 433 = .ok (.aload_n 0, 1) := by decide +kernel
theorem dL_law_434 : decode cL_law 434 = .ok (.iload_n 3, 1) := by decide +kernel
theorem dL_law_435 : decode cL_law 435 = .ok (.iconst 4, 1) := by decide +kernel
theorem dL_law_436 : decode cL_law 436 = .ok (.iadd, 1) := by decide +kernel
theorem dL_law_437 : decode cL_law 437 = .ok (.iaload, 1) := by decide +kernel
theorem dL_law_438 : decode cL_law 438 = .ok (.invokevirtual 54, 3) := by decide +kernel
theorem dL_law_441 : decode cL_law 441 = .ok (.aload_n 2, 1) := by decide +kernel
theorem dL_law_442 : decode cL_law 442 = .ok (.aload_n 0, 1) := by decide +kernel
theorem dL_law_443 : decode cL_law 443 = .ok (.iload_n 3, 1) := by decide +kernel
theorem dL_law_444 : decode cL_law 444 = .ok (.iconst 1, 1) := by decide +kernel
theorem dL_law_445 : decode cL_law 445 = .ok (.iadd, 1) := by decide +kernel
theorem dL_law_446 : decode cL_law 446 = .ok (.iaload, 1) := by decide +kernel
theorem dL_law_447 : decode cL_law 447 = .ok (.aload_n 0, 1) := by decide +kernel
theorem dL_law_448 : decode cL_law 448 = .ok (.iload_n 3, 1) := by decide +kernel
theorem dL_law_449 : decode cL_law 449 = .ok (.iconst 2, 1) := by decide +kernel
theorem dL_law_450 : decode cL_law 450 = .ok (.iadd, 1) := by decide +kernel
theorem dL_law_451 : decode cL_law 451 = .ok (.iaload, 1) := by decide +kernel
theorem dL_law_452 : decode cL_law 452 = .ok (.aload_n 0, 1) := by decide +kernel
theorem dL_law_453 : decode cL_law 453 = .ok (.iload_n 3, 1) := by decide +kernel
theorem dL_law_454 : decode cL_law 454 = .ok (.iconst 3, 1) := by decide +kernel
theorem dL_law_455 : decode cL_law 455 = .ok (.iadd, 1) := by decide +kernel
theorem dL_law_456 : decode cL_law 456 = .ok (.iaload, 1) := by decide +kernel
theorem dL_law_457 : decode cL_law 457 = .ok (.aload_n 0, 1) := by decide +kernel
theorem dL_law_458 : decode cL_law 458 = .ok (.iload_n 3, 1) := by decide +kernel
theorem dL_law_459 : decode cL_law 459 = .ok (.iconst 4, 1) := by decide +kernel
theorem dL_law_460 : decode cL_law 460 = .ok (.iadd, 1) := by decide +kernel
theorem dL_law_461 : decode cL_law 461 = .ok (.iaload, 1) := by decide +kernel
theorem dL_law_462 : decode cL_law 462 = .ok (.invokevirtual 58, 3) := by decide +kernel
theorem dL_law_465 : decode cL_law 465 = .ok (.if_icmp .eq 441, 3) := by decide +kernel
theorem dL_law_468 : decode cL_law 468 = .ok (.iconst 0, 1) := by decide +kernel
theorem dL_law_469 : decode cL_law 469 = .ok (.ireturn, 1) := by decide +kernel
theorem dL_law_470 : decode cL_law 470 = .ok (.aload_n 1, 1) := by decide +kernel
theorem dL_law_471 : decode cL_law 471 = .ok (.aload_n 0, 1) := by decide +kernel
theorem dL_law_472 : decode cL_law 472 = .ok (.iload_n 3, 1) := by decide +kernel
theorem dL_law_473 : decode cL_law 473 = .ok (.iconst 1, 1) := by decide +kernel
theorem dL_law_474 : decode cL_law 474 = .ok (.iadd, 1) := by decide +kernel
theorem dL_law_475 : decode cL_law 475 = .ok (.iaload, 1) := by decide +kernel
theorem dL_law_476 : decode cL_law 476 = .ok (.aload_n 0, 1) := by decide +kernel
theorem dL_law_477 : decode cL_law 477 = .ok (.iload_n 3, 1) := by decide +kernel
theorem dL_law_478 : decode cL_law 478 = .ok (.iconst 2, 1) := by decide +kernel
theorem dL_law_479 : decode cL_law 479 = .ok (.iadd, 1) := by decide +kernel
theorem dL_law_480 : decode cL_law 480 = .ok (.iaload, 1) := by decide +kernel
theorem dL_law_481 : decode cL_law 481 = .ok (.invokevirtual 59, 3) := by decide +kernel
theorem dL_law_484 : decode cL_law 484 = .ok (.aload_n 2, 1) := by decide +kernel
theorem dL_law_485 : decode cL_law 485 = .ok (.aload_n 0, 1) := by decide +kernel
theorem dL_law_486 : decode cL_law 486 = .ok (.iload_n 3, 1) := by decide +kernel
theorem dL_law_487 : decode cL_law 487 = .ok (.iconst 1, 1) := by decide +kernel
theorem dL_law_488 : decode cL_law 488 = .ok (.iadd, 1) := by decide +kernel
theorem dL_law_489 : decode cL_law 489 = .ok (.iaload, 1) := by decide +kernel
theorem dL_law_490 : decode cL_law 490 = .ok (.aload_n 0, 1) := by decide +kernel
theorem dL_law_491 : decode cL_law 491 = .ok (.iload_n 3, 1) := by decide +kernel
theorem dL_law_492 : decode cL_law 492 = .ok (.iconst 2, 1) := by decide +kernel
theorem dL_law_493 : decode cL_law 493 = .ok (.iadd, 1) := by decide +kernel
theorem dL_law_494 : decode cL_law 494 = .ok (.iaload, 1) := by decide +kernel
theorem dL_law_495 : decode cL_law 495 = .ok (.invokevirtual 62, 3) := by decide +kernel
theorem dL_law_498 : decode cL_law 498 = .ok (.if_icmp .eq 408, 3) := by decide +kernel
theorem dL_law_501 : decode cL_law 501 = .ok (.iconst 0, 1) := by decide +kernel
theorem dL_law_502 : decode cL_law 502 = .ok (.ireturn, 1) := by decide +kernel
theorem dL_law_503 : decode cL_law 503 = .ok (.aload_n 1, 1) := by decide +kernel
theorem dL_law_504 : decode cL_law 504 = .ok (.aload_n 0, 1) := by decide +kernel
theorem dL_law_505 : decode cL_law 505 = .ok (.iload_n 3, 1) := by decide +kernel
theorem dL_law_506 : decode cL_law 506 = .ok (.iconst 1, 1) := by decide +kernel
theorem dL_law_507 : decode cL_law 507 = .ok (.iadd, 1) := by decide +kernel
theorem dL_law_508 : decode cL_law 508 = .ok (.iaload, 1) := by decide +kernel
theorem dL_law_509 : decode cL_law 509 = .ok (.aload_n 0, 1) := by decide +kernel
theorem dL_law_510 : decode cL_law 510 = .ok (.iload_n 3, 1) := by decide +kernel
theorem dL_law_511 : decode cL_law 511 = .ok (.iconst 2, 1) := by decide +kernel
theorem dL_law_512 : decode cL_law 512 = .ok (.iadd, 1) := by decide +kernel
theorem dL_law_513 : decode cL_law 513 = .ok (.iaload, 1) := by decide +kernel
theorem dL_law_514 : decode cL_law 514 = .ok (.invokevirtual 63, 3) := by decide +kernel
theorem dL_law_517 : decode cL_law 517 = .ok (.aload_n 2, 1) := by decide +kernel
theorem dL_law_518 : decode cL_law 518 = .ok (.aload_n 0, 1) := by decide +kernel
theorem dL_law_519 : decode cL_law 519 = .ok (.iload_n 3, 1) := by decide +kernel
theorem dL_law_520 : decode cL_law 520 = .ok (.iconst 1, 1) := by decide +kernel
theorem dL_law_521 : decode cL_law 521 = .ok (.iadd, 1) := by decide +kernel
theorem dL_law_522 : decode cL_law 522 = .ok (.iaload, 1) := by decide +kernel
theorem dL_law_523 : decode cL_law 523 = .ok (.aload_n 0, 1) := by decide +kernel
theorem dL_law_524 : decode cL_law 524 = .ok (.iload_n 3, 1) := by decide +kernel
theorem dL_law_525 : decode cL_law 525 = .ok (.iconst 2, 1) := by decide +kernel
theorem dL_law_526 : decode cL_law 526 = .ok (.iadd, 1) := by decide +kernel
theorem dL_law_527 : decode cL_law 527 = .ok (.iaload, 1) := by decide +kernel
theorem dL_law_528 : decode cL_law 528 = .ok (.invokevirtual 66, 3) := by decide +kernel
theorem dL_law_531 : decode cL_law 531 = .ok (.if_icmp .eq 375, 3) := by decide +kernel
theorem dL_law_534 : decode cL_law 534 = .ok (.iconst 0, 1) := by decide +kernel
theorem dL_law_535 : decode cL_law 535 = .ok (.ireturn, 1) := by decide +kernel
theorem dL_law_536 : decode cL_law 536 = .ok (.aload_n 1, 1) := by decide +kernel
theorem dL_law_537 : decode cL_law 537 = .ok (.aload_n 0, 1) := by decide +kernel
theorem dL_law_538 : decode cL_law 538 = .ok (.iload_n 3, 1) := by decide +kernel
theorem dL_law_539 : decode cL_law 539 = .ok (.iconst 1, 1) := by decide +kernel
theorem dL_law_540 : decode cL_law 540 = .ok (.iadd, 1) := by decide +kernel
theorem dL_law_541 : decode cL_law 541 = .ok (.iaload, 1) := by decide +kernel
theorem dL_law_542 : decode cL_law 542 = .ok (.aload_n 0, 1) := by decide +kernel
theorem dL_law_543 : decode cL_law 543 = .ok (.iload_n 3, 1) := by decide +kernel
theorem dL_law_544 : decode cL_law 544 = .ok (.iconst 2, 1) := by decide +kernel
theorem dL_law_545 : decode cL_law 545 = .ok (.iadd, 1) := by decide +kernel
theorem dL_law_546 : decode cL_law 546 = .ok (.iaload, 1) := by decide +kernel
theorem dL_law_547 : decode cL_law 547 = .ok (.invokevirtual 67, 3) := by decide +kernel
theorem dL_law_550 : decode cL_law 550 = .ok (.aload_n 2, 1) := by decide +kernel
theorem dL_law_551 : decode cL_law 551 = .ok (.aload_n 0, 1) := by decide +kernel
theorem dL_law_552 : decode cL_law 552 = .ok (.iload_n 3, 1) := by decide +kernel
theorem dL_law_553 : decode cL_law 553 = .ok (.iconst 1, 1) := by decide +kernel
theorem dL_law_554 : decode cL_law 554 = .ok (.iadd, 1) := by decide +kernel
theorem dL_law_555 : decode cL_law 555 = .ok (.iaload, 1) := by decide +kernel
theorem dL_law_556 : decode cL_law 556 = .ok (.aload_n 0, 1) := by decide +kernel
theorem dL_law_557 : decode cL_law 557 = .ok (.iload_n 3, 1) := by decide +kernel
theorem dL_law_558 : decode cL_law 558 = .ok (.iconst 2, 1) := by decide +kernel
theorem dL_law_559 : decode cL_law 559 = .ok (.iadd, 1) := by decide +kernel
theorem dL_law_560 : decode cL_law 560 = .ok (.iaload, 1) := by decide +kernel
theorem dL_law_561 : decode cL_law 561 = .ok (.invokevirtual 70, 3) := by decide +kernel
theorem dL_law_564 : decode cL_law 564 = .ok (.if_icmp .eq 342, 3) := by decide +kernel
theorem dL_law_567 : decode cL_law 567 = .ok (.iconst 0, 1) := by decide +kernel
theorem dL_law_568 : decode cL_law 568 = .ok (.ireturn, 1) := by decide +kernel
theorem dL_law_569 : decode cL_law 569 = .ok (.aload_n 1, 1) := by decide +kernel
theorem dL_law_570 : decode cL_law 570 = .ok (.aload_n 0, 1) := by decide +kernel
theorem dL_law_571 : decode cL_law 571 = .ok (.iload_n 3, 1) := by decide +kernel
theorem dL_law_572 : decode cL_law 572 = .ok (.iconst 1, 1) := by decide +kernel
theorem dL_law_573 : decode cL_law 573 = .ok (.iadd, 1) := by decide +kernel
theorem dL_law_574 : decode cL_law 574 = .ok (.iaload, 1) := by decide +kernel
theorem dL_law_575 : decode cL_law 575 = .ok (.aload_n 0, 1) := by decide +kernel
theorem dL_law_576 : decode cL_law 576 = .ok (.iload_n 3, 1) := by decide +kernel
theorem dL_law_577 : decode cL_law 577 = .ok (.iconst 2, 1) := by decide +kernel
theorem dL_law_578 : decode cL_law 578 = .ok (.iadd, 1) := by decide +kernel
theorem dL_law_579 : decode cL_law 579 = .ok (.iaload, 1) := by decide +kernel
theorem dL_law_580 : decode cL_law 580 = .ok (.invokevirtual 71, 3) := by decide +kernel
theorem dL_law_583 : decode cL_law 583 = .ok (.aload_n 2, 1) := by decide +kernel
theorem dL_law_584 : decode cL_law 584 = .ok (.aload_n 0, 1) := by decide +kernel
theorem dL_law_585 : decode cL_law 585 = .ok (.iload_n 3, 1) := by decide +kernel
theorem dL_law_586 : decode cL_law 586 = .ok (.iconst 1, 1) := by decide +kernel
theorem dL_law_587 : decode cL_law 587 = .ok (.iadd, 1) := by decide +kernel
theorem dL_law_588 : decode cL_law 588 = .ok (.iaload, 1) := by decide +kernel
theorem dL_law_589 : decode cL_law 589 = .ok (.aload_n 0, 1) := by decide +kernel
theorem dL_law_590 : decode cL_law 590 = .ok (.iload_n 3, 1) := by decide +kernel
theorem dL_law_591 : decode cL_law 591 = .ok (.iconst 2, 1) := by decide +kernel
theorem dL_law_592 : decode cL_law 592 = .ok (.iadd, 1) := by decide +kernel
theorem dL_law_593 : decode cL_law 593 = .ok (.iaload, 1) := by decide +kernel
theorem dL_law_594 : decode cL_law 594 = .ok (.invokevirtual 74, 3) := by decide +kernel
theorem dL_law_597 : decode cL_law 597 = .ok (.if_icmp .eq 309, 3) := by decide +kernel
theorem dL_law_600 : decode cL_law 600 = .ok (.iconst 0, 1) := by decide +kernel
theorem dL_law_601 : decode cL_law 601 = .ok (.ireturn, 1) := by decide +kernel
theorem dL_law_602 : decode cL_law 602 = .ok (.aload_n 1, 1) := by decide +kernel
theorem dL_law_603 : decode cL_law 603 = .ok (.aload_n 0, 1) := by decide +kernel
theorem dL_law_604 : decode cL_law 604 = .ok (.iload_n 3, 1) := by decide +kernel
theorem dL_law_605 : decode cL_law 605 = .ok (.iconst 1, 1) := by decide +kernel
theorem dL_law_606 : decode cL_law 606 = .ok (.iadd, 1) := by decide +kernel
theorem dL_law_607 : decode cL_law 607 = .ok (.iaload, 1) := by decide +kernel
theorem dL_law_608 : decode cL_law 608 = .ok (.invokevirtual 75, 3) := by decide +kernel
theorem dL_law_611 : decode cL_law 611 = .ok (.aload_n 2, 1) := by decide +kernel
theorem dL_law_612 : decode cL_law 612 = .ok (.aload_n 0, 1) := by decide +kernel
theorem dL_law_613 : decode cL_law 613 = .ok (.iload_n 3, 1) := by decide +kernel
theorem dL_law_614 : decode cL_law 614 = .ok (.iconst 1, 1) := by decide +kernel
theorem dL_law_615 : decode cL_law 615 = .ok (.iadd, 1) := by decide +kernel
theorem dL_law_616 : decode cL_law 616 = .ok (.iaload, 1) := by decide +kernel
theorem dL_law_617 : decode cL_law 617 = .ok (.invokevirtual 78, 3) := by decide +kernel
theorem dL_law_620 : decode cL_law 620 = .ok (.if_icmp .eq 286, 3) := by decide +kernel
theorem dL_law_623 : decode cL_law 623 = .ok (.iconst 0, 1) := by decide +kernel
theorem dL_law_624 : decode cL_law 624 = .ok (.ireturn, 1) := by decide +kernel
theorem dL_law_625 : decode cL_law 625 = .ok (.aload_n 1, 1) := by decide +kernel
theorem dL_law_626 : decode cL_law 626 = .ok (.aload_n 0, 1) := by decide +kernel
theorem dL_law_627 : decode cL_law 627 = .ok (.iload_n 3, 1) := by decide +kernel
theorem dL_law_628 : decode cL_law 628 = .ok (.iconst 1, 1) := by decide +kernel
theorem dL_law_629 : decode cL_law 629 = .ok (.iadd, 1) := by decide +kernel
theorem dL_law_630 : decode cL_law 630 = .ok (.iaload, 1) := by decide +kernel
theorem dL_law_631 : decode cL_law 631 = .ok (.invokevirtual 79, 3) := by decide +kernel
theorem dL_law_634 : decode cL_law 634 = .ok (.aload_n 2, 1) := by decide +kernel
theorem dL_law_635 : decode cL_law 635 = .ok (.aload_n 0, 1) := by decide +kernel
theorem dL_law_636 : decode cL_law 636 = .ok (.iload_n 3, 1) := by decide +kernel
theorem dL_law_637 : decode cL_law 637 = .ok (.iconst 1, 1) := by decide +kernel
theorem dL_law_638 : decode cL_law 638 = .ok (.iadd, 1) := by decide +kernel
theorem dL_law_639 : decode cL_law 639 = .ok (.iaload, 1) := by decide +kernel
theorem dL_law_640 : decode cL_law 640 = .ok (.invokevirtual 82, 3) := by decide +kernel
theorem dL_law_643 : decode cL_law 643 = .ok (.if_icmp .eq 263, 3) := by decide +kernel
theorem dL_law_646 : decode cL_law 646 = .ok (.iconst 0, 1) := by decide +kernel
theorem dL_law_647 : decode cL_law 647 = .ok (.ireturn, 1) := by decide +kernel
theorem dL_law_648 : decode cL_law 648 = .ok (.aload_n 1, 1) := by decide +kernel
theorem dL_law_649 : decode cL_law 649 = .ok (.aload_n 0, 1) := by decide +kernel
theorem dL_law_650 : decode cL_law 650 = .ok (.iload_n 3, 1) := by decide +kernel
theorem dL_law_651 : decode cL_law 651 = .ok (.iconst 1, 1) := by decide +kernel
theorem dL_law_652 : decode cL_law 652 = .ok (.iadd, 1) := by decide +kernel
theorem dL_law_653 : decode cL_law 653 = .ok (.iaload, 1) := by decide +kernel
theorem dL_law_654 : decode cL_law 654 = .ok (.invokevirtual 83, 3) := by decide +kernel
theorem dL_law_657 : decode cL_law 657 = .ok (.aload_n 2, 1) := by decide +kernel
theorem dL_law_658 : decode cL_law 658 = .ok (.aload_n 0, 1) := by decide +kernel
theorem dL_law_659 : decode cL_law 659 = .ok (.iload_n 3, 1) := by decide +kernel
theorem dL_law_660 : decode cL_law 660 = .ok (.iconst 1, 1) := by decide +kernel
theorem dL_law_661 : decode cL_law 661 = .ok (.iadd, 1) := by decide +kernel
theorem dL_law_662 : decode cL_law 662 = .ok (.iaload, 1) := by decide +kernel
theorem dL_law_663 : decode cL_law 663 = .ok (.invokevirtual 86, 3) := by decide +kernel
theorem dL_law_666 : decode cL_law 666 = .ok (.if_icmp .eq 240, 3) := by decide +kernel
theorem dL_law_669 : decode cL_law 669 = .ok (.iconst 0, 1) := by decide +kernel
theorem dL_law_670 : decode cL_law 670 = .ok (.ireturn, 1) := by decide +kernel
theorem dL_law_671 : decode cL_law 671 = .ok (.aload_n 1, 1) := by decide +kernel
theorem dL_law_672 : decode cL_law 672 = .ok (.aload_n 0, 1) := by decide +kernel
theorem dL_law_673 : decode cL_law 673 = .ok (.iload_n 3, 1) := by decide +kernel
theorem dL_law_674 : decode cL_law 674 = .ok (.iconst 1, 1) := by decide +kernel
theorem dL_law_675 : decode cL_law 675 = .ok (.iadd, 1) := by decide +kernel
theorem dL_law_676 : decode cL_law 676 = .ok (.iaload, 1) := by decide +kernel
theorem dL_law_677 : decode cL_law 677 = .ok (.invokevirtual 87, 3) := by decide +kernel
theorem dL_law_680 : decode cL_law 680 = .ok (.aload_n 2, 1) := by decide +kernel
theorem dL_law_681 : decode cL_law 681 = .ok (.aload_n 0, 1) := by decide +kernel
theorem dL_law_682 : decode cL_law 682 = .ok (.iload_n 3, 1) := by decide +kernel
theorem dL_law_683 : decode cL_law 683 = .ok (.iconst 1, 1) := by decide +kernel
theorem dL_law_684 : decode cL_law 684 = .ok (.iadd, 1) := by decide +kernel
theorem dL_law_685 : decode cL_law 685 = .ok (.iaload, 1) := by decide +kernel
theorem dL_law_686 : decode cL_law 686 = .ok (.invokevirtual 90, 3) := by decide +kernel
theorem dL_law_689 : decode cL_law 689 = .ok (.if_icmp .eq 217, 3) := by decide +kernel
theorem dL_law_692 : decode cL_law 692 = .ok (.iconst 0, 1) := by decide +kernel
theorem dL_law_693 : decode cL_law 693 = .ok (.ireturn, 1) := by decide +kernel
theorem dL_law_694 : decode cL_law 694 = .ok (.aload_n 1, 1) := by decide +kernel
theorem dL_law_695 : decode cL_law 695 = .ok (.aload_n 0, 1) := by decide +kernel
theorem dL_law_696 : decode cL_law 696 = .ok (.iload_n 3, 1) := by decide +kernel
theorem dL_law_697 : decode cL_law 697 = .ok (.iconst 1, 1) := by decide +kernel
theorem dL_law_698 : decode cL_law 698 = .ok (.iadd, 1) := by decide +kernel
theorem dL_law_699 : decode cL_law 699 = .ok (.iaload, 1) := by decide +kernel
theorem dL_law_700 : decode cL_law 700 = .ok (.invokevirtual 91, 3) := by decide +kernel
theorem dL_law_703 : decode cL_law 703 = .ok (.aload_n 2, 1) := by decide +kernel
theorem dL_law_704 : decode cL_law 704 = .ok (.aload_n 0, 1) := by decide +kernel
theorem dL_law_705 : decode cL_law 705 = .ok (.iload_n 3, 1) := by decide +kernel
theorem dL_law_706 : decode cL_law 706 = .ok (.iconst 1, 1) := by decide +kernel
theorem dL_law_707 : decode cL_law 707 = .ok (.iadd, 1) := by decide +kernel
theorem dL_law_708 : decode cL_law 708 = .ok (.iaload, 1) := by decide +kernel
theorem dL_law_709 : decode cL_law 709 = .ok (.invokevirtual 94, 3) := by decide +kernel
theorem dL_law_712 : decode cL_law 712 = .ok (.if_icmp .eq 194, 3) := by decide +kernel
theorem dL_law_715 : decode cL_law 715 = .ok (.iconst 0, 1) := by decide +kernel
theorem dL_law_716 : decode cL_law 716 = .ok (.ireturn, 1) := by decide +kernel
theorem dL_law_717 : decode cL_law 717 = .ok (.aload_n 1, 1) := by decide +kernel
theorem dL_law_718 : decode cL_law 718 = .ok (.invokevirtual 95, 3) := by decide +kernel
theorem dL_law_721 : decode cL_law 721 = .ok (.aload_n 2, 1) := by decide +kernel
theorem dL_law_722 : decode cL_law 722 = .ok (.invokevirtual 99, 3) := by decide +kernel
theorem dL_law_725 : decode cL_law 725 = .ok (.lcmp, 1) := by decide +kernel
theorem dL_law_726 : decode cL_law 726 = .ok (.ifCond .eq 180, 3) := by decide +kernel
theorem dL_law_729 : decode cL_law 729 = .ok (.iconst 0, 1) := by decide +kernel
theorem dL_law_730 : decode cL_law 730 = .ok (.ireturn, 1) := by decide +kernel
theorem dL_law_731 : decode cL_law 731 = .ok (.aload_n 1, 1) := by decide +kernel
theorem dL_law_732 : decode cL_law 732 = .ok (.aload_n 0, 1) := by decide +kernel
theorem dL_law_733 : decode cL_law 733 = .ok (.iload_n 3, 1) := by decide +kernel
theorem dL_law_734 : decode cL_law 734 = .ok (.iconst 1, 1) := by decide +kernel
theorem dL_law_735 : decode cL_law 735 = .ok (.iadd, 1) := by decide +kernel
theorem dL_law_736 : decode cL_law 736 = .ok (.iaload, 1) := by decide +kernel
theorem dL_law_737 : decode cL_law 737 = .ok (.invokevirtual 100, 3) := by decide +kernel
theorem dL_law_740 : decode cL_law 740 = .ok (.aload_n 2, 1) := by decide +kernel
theorem dL_law_741 : decode cL_law 741 = .ok (.aload_n 0, 1) := by decide +kernel
theorem dL_law_742 : decode cL_law 742 = .ok (.iload_n 3, 1) := by decide +kernel
theorem dL_law_743 : decode cL_law 743 = .ok (.iconst 1, 1) := by decide +kernel
theorem dL_law_744 : decode cL_law 744 = .ok (.iadd, 1) := by decide +kernel
theorem dL_law_745 : decode cL_law 745 = .ok (.iaload, 1) := by decide +kernel
theorem dL_law_746 : decode cL_law 746 = .ok (.invokevirtual 104, 3) := by decide +kernel
theorem dL_law_749 : decode cL_law 749 = .ok (.lcmp, 1) := by decide +kernel
theorem dL_law_750 : decode cL_law 750 = .ok (.ifCond .eq 156, 3) := by decide +kernel
theorem dL_law_753 : decode cL_law 753 = .ok (.iconst 0, 1) := by decide +kernel
theorem dL_law_754 : decode cL_law 754 = .ok (.ireturn, 1) := by decide +kernel
theorem dL_law_755 : decode cL_law 755 = .ok (.aload_n 1, 1) := by decide +kernel
theorem dL_law_756 : decode cL_law 756 = .ok (.aload_n 0, 1) := by decide +kernel
theorem dL_law_757 : decode cL_law 757 = .ok (.iload_n 3, 1) := by decide +kernel
theorem dL_law_758 : decode cL_law 758 = .ok (.iconst 1, 1) := by decide +kernel
theorem dL_law_759 : decode cL_law 759 = .ok (.iadd, 1) := by decide +kernel
theorem dL_law_760 : decode cL_law 760 = .ok (.iaload, 1) := by decide +kernel
theorem dL_law_761 : decode cL_law 761 = .ok (.i2l, 1) := by decide +kernel
theorem dL_law_762 : decode cL_law 762 = .ok (.bipush 32, 2) := by decide +kernel
theorem dL_law_764 : decode cL_law 764 = .ok (.lshl, 1) := by decide +kernel
theorem dL_law_765 : decode cL_law 765 = .ok (.aload_n 0, 1) := by decide +kernel
theorem dL_law_766 : decode cL_law 766 = .ok (.iload_n 3, 1) := by decide +kernel
theorem dL_law_767 : decode cL_law 767 = .ok (.iconst 2, 1) := by decide +kernel
theorem dL_law_768 : decode cL_law 768 = .ok (.iadd, 1) := by decide +kernel
theorem dL_law_769 : decode cL_law 769 = .ok (.iaload, 1) := by decide +kernel
theorem dL_law_770 : decode cL_law 770 = .ok (.i2l, 1) := by decide +kernel
theorem dL_law_771 : decode cL_law 771 = .ok (.ldc2_w 105, 3) := by decide +kernel
theorem dL_law_774 : decode cL_law 774 = .ok (.land, 1) := by decide +kernel
theorem dL_law_775 : decode cL_law 775 = .ok (.lor, 1) := by decide +kernel
theorem dL_law_776 : decode cL_law 776 = .ok (.invokevirtual 107, 3) := by decide +kernel
theorem dL_law_779 : decode cL_law 779 = .ok (.aload_n 2, 1) := by decide +kernel
theorem dL_law_780 : decode cL_law 780 = .ok (.aload_n 0, 1) := by decide +kernel
theorem dL_law_781 : decode cL_law 781 = .ok (.iload_n 3, 1) := by decide +kernel
theorem dL_law_782 : decode cL_law 782 = .ok (.iconst 1, 1) := by decide +kernel
theorem dL_law_783 : decode cL_law 783 = .ok (.iadd, 1) := by decide +kernel
theorem dL_law_784 : decode cL_law 784 = .ok (.iaload, 1) := by decide +kernel
theorem dL_law_785 : decode cL_law 785 = .ok (.i2l, 1) := by decide +kernel
theorem dL_law_786 : decode cL_law 786 = .ok (.bipush 32, 2) := by decide +kernel
theorem dL_law_788 : decode cL_law 788 = .ok (.lshl, 1) := by decide +kernel
theorem dL_law_789 : decode cL_law 789 = .ok (.aload_n 0, 1) := by decide +kernel
theorem dL_law_790 : decode cL_law 790 = .ok (.iload_n 3, 1) := by decide +kernel
theorem dL_law_791 : decode cL_law 791 = .ok (.iconst 2, 1) := by decide +kernel
theorem dL_law_792 : decode cL_law 792 = .ok (.iadd, 1) := by decide +kernel
theorem dL_law_793 : decode cL_law 793 = .ok (.iaload, 1) := by decide +kernel
theorem dL_law_794 : decode cL_law 794 = .ok (.i2l, 1) := by decide +kernel
theorem dL_law_795 : decode cL_law 795 = .ok (.ldc2_w 105, 3) := by decide +kernel
theorem dL_law_798 : decode cL_law 798 = .ok (.land, 1) := by decide +kernel
theorem dL_law_799 : decode cL_law 799 = .ok (.lor, 1) := by decide +kernel
theorem dL_law_800 : decode cL_law 800 = .ok (.invokevirtual 111, 3) := by decide +kernel
theorem dL_law_803 : decode cL_law 803 = .ok (.if_icmp .eq 103, 3) := by decide +kernel
theorem dL_law_806 : decode cL_law 806 = .ok (.iconst 0, 1) := by decide +kernel
theorem dL_law_807 : decode cL_law 807 = .ok (.ireturn, 1) := by decide +kernel
theorem dL_law_808 : decode cL_law 808 = .ok (.aload_n 1, 1) := by decide +kernel
theorem dL_law_809 : decode cL_law 809 = .ok (.invokevirtual 112, 3) := by decide +kernel
theorem dL_law_812 : decode cL_law 812 = .ok (.aload_n 2, 1) := by decide +kernel
theorem dL_law_813 : decode cL_law 813 = .ok (.invokevirtual 115, 3) := by decide +kernel
theorem dL_law_816 : decode cL_law 816 = .ok (.if_icmp .eq 90, 3) := by decide +kernel
theorem dL_law_819 : decode cL_law 819 = .ok (.iconst 0, 1) := by decide +kernel
theorem dL_law_820 : decode cL_law 820 = .ok (.ireturn, 1) := by decide +kernel
theorem dL_law_821 : decode cL_law 821 = .ok (.aload_n 1, 1) := by decide +kernel
theorem dL_law_822 : decode cL_law 822 = .ok (.invokevirtual 116, 3) := by decide +kernel
theorem dL_law_825 : decode cL_law 825 = .ok (.aload_n 2, 1) := by decide +kernel
theorem dL_law_826 : decode cL_law 826 = .ok (.invokevirtual 119, 3) := by decide +kernel
theorem dL_law_829 : decode cL_law 829 = .ok (.if_icmp .eq 77, 3) := by decide +kernel
theorem dL_law_832 : decode cL_law 832 = .ok (.iconst 0, 1) := by decide +kernel
theorem dL_law_833 : decode cL_law 833 = .ok (.ireturn, 1) := by decide +kernel
theorem dL_law_834 : decode cL_law 834 = .ok (.aload_n 1, 1) := by decide +kernel
theorem dL_law_835 : decode cL_law 835 = .ok (.invokevirtual 120, 3) := by decide +kernel
theorem dL_law_838 : decode cL_law 838 = .ok (.aload_n 2, 1) := by decide +kernel
theorem dL_law_839 : decode cL_law 839 = .ok (.invokevirtual 123, 3) := by decide +kernel
theorem dL_law_842 : decode cL_law 842 = .ok (.if_icmp .eq 64, 3) := by decide +kernel
theorem dL_law_845 : decode cL_law 845 = .ok (.iconst 0, 1) := by decide +kernel
theorem dL_law_846 : decode cL_law 846 = .ok (.ireturn, 1) := by decide +kernel
theorem dL_law_847 : decode cL_law 847 = .ok (.aload_n 1, 1) := by decide +kernel
theorem dL_law_848 : decode cL_law 848 = .ok (.invokevirtual 124, 3) := by decide +kernel
theorem dL_law_851 : decode cL_law 851 = .ok (.aload_n 2, 1) := by decide +kernel
theorem dL_law_852 : decode cL_law 852 = .ok (.invokevirtual 127, 3) := by decide +kernel
theorem dL_law_855 : decode cL_law 855 = .ok (.if_icmp .eq 51, 3) := by decide +kernel
theorem dL_law_858 : decode cL_law 858 = .ok (.iconst 0, 1) := by decide +kernel
theorem dL_law_859 : decode cL_law 859 = .ok (.ireturn, 1) := by decide +kernel
theorem dL_law_860 : decode cL_law 860 = .ok (.aload_n 1, 1) := by decide +kernel
theorem dL_law_861 : decode cL_law 861 = .ok (.aload_n 0, 1) := by decide +kernel
theorem dL_law_862 : decode cL_law 862 = .ok (.iload_n 3, 1) := by decide +kernel
theorem dL_law_863 : decode cL_law 863 = .ok (.iconst 1, 1) := by decide +kernel
theorem dL_law_864 : decode cL_law 864 = .ok (.iadd, 1) := by decide +kernel
theorem dL_law_865 : decode cL_law 865 = .ok (.iaload, 1) := by decide +kernel
theorem dL_law_866 : decode cL_law 866 = .ok (.invokevirtual 128, 3) := by decide +kernel
theorem dL_law_869 : decode cL_law 869 = .ok (.aload_n 2, 1) := by decide +kernel
theorem dL_law_870 : decode cL_law 870 = .ok (.aload_n 0, 1) := by decide +kernel
theorem dL_law_871 : decode cL_law 871 = .ok (.iload_n 3, 1) := by decide +kernel
theorem dL_law_872 : decode cL_law 872 = .ok (.iconst 1, 1) := by decide +kernel
theorem dL_law_873 : decode cL_law 873 = .ok (.iadd, 1) := by decide +kernel
theorem dL_law_874 : decode cL_law 874 = .ok (.iaload, 1) := by decide +kernel
theorem dL_law_875 : decode cL_law 875 = .ok (.invokevirtual 131, 3) := by decide +kernel
theorem dL_law_878 : decode cL_law 878 = .ok (.if_icmp .eq 28, 3) := by decide +kernel
theorem dL_law_881 : decode cL_law 881 = .ok (.iconst 0, 1) := by decide +kernel
theorem dL_law_882 : decode cL_law 882 = .ok (.ireturn, 1) := by decide +kernel
theorem dL_law_883 : decode cL_law 883 = .ok (.aload_n 1, 1) := by decide +kernel
theorem dL_law_884 : decode cL_law 884 = .ok (.aload_n 0, 1) := by decide +kernel
theorem dL_law_885 : decode cL_law 885 = .ok (.iload_n 3, 1) := by decide +kernel
theorem dL_law_886 : decode cL_law 886 = .ok (.iconst 1, 1) := by decide +kernel
theorem dL_law_887 : decode cL_law 887 = .ok (.iadd, 1) := by decide +kernel
theorem dL_law_888 : decode cL_law 888 = .ok (.iaload, 1) := by decide +kernel
theorem dL_law_889 : decode cL_law 889 = .ok (.invokevirtual 132, 3) := by decide +kernel
theorem dL_law_892 : decode cL_law 892 = .ok (.aload_n 2, 1) := by decide +kernel
theorem dL_law_893 : decode cL_law 893 = .ok (.aload_n 0, 1) := by decide +kernel
theorem dL_law_894 : decode cL_law 894 = .ok (.iload_n 3, 1) := by decide +kernel
theorem dL_law_895 : decode cL_law 895 = .ok (.iconst 1, 1) := by decide +kernel
theorem dL_law_896 : decode cL_law 896 = .ok (.iadd, 1) := by decide +kernel
theorem dL_law_897 : decode cL_law 897 = .ok (.iaload, 1) := by decide +kernel
theorem dL_law_898 : decode cL_law 898 = .ok (.invokevirtual 135, 3) := by decide +kernel
theorem dL_law_901 : decode cL_law 901 = .ok (.if_icmp .eq 5, 3) := by decide +kernel
theorem dL_law_904 : decode cL_law 904 = .ok (.iconst 0, 1) := by decide +kernel
theorem dL_law_905 : decode cL_law 905 = .ok (.ireturn, 1) := by decide +kernel
theorem dL_law_906 : decode cL_law 906 = .ok (.iinc 3 6, 3) := by decide +kernel
theorem dL_law_909 : decode cL_law 909 = .ok (.goto (-891), 3) := by decide +kernel
theorem dL_law_912 : decode cL_law 912 = .ok (.iconst 1, 1) := by decide +kernel
theorem dL_law_913 : decode cL_law 913 = .ok (.ireturn, 1) := by decide +kernel
