theorem dL_seen_63 : decode cL_seen 63 = .ok (.iconst 0, 1) := by decide +kernel
theorem dL_seen_64 : decode cL_seen 64 = .ok (.istore_n 3, 1) := by decide +kernel
theorem dL_seen_65 : decode cL_seen 65 = .ok (.iload_n 3, 1) := by decide +kernel
theorem dL_seen_66 : decode cL_seen 66 = .ok (.iconst 5, 1) := by decide +kernel
theorem dL_seen_67 : decode cL_seen 67 = .ok (.aload_n 0, 1) := by decide +kernel
theorem dL_seen_68 : decode cL_seen 68 = .ok (.iconst 1, 1) := by decide +kernel
theorem dL_seen_69 : decode cL_seen 69 = .ok (.invokevirtual 13, 3) := by decide +kernel
theorem dL_seen_72 : decode cL_seen 72 = .ok (.imul, 1) := by decide +kernel
theorem dL_seen_73 : decode cL_seen 73 = .ok (.if_icmp .ge 27, 3) := by decide +kernel
theorem dL_seen_76 : decode cL_seen 76 = .ok (.ldc2_w 11, 3) := by decide +kernel
theorem dL_seen_79 : decode cL_seen 79 = .ok (.lload_n 1, 1) := by decide +kernel
theorem dL_seen_80 : decode cL_seen 80 = .ok (.lmul, 1) := by decide +kernel
theorem dL_seen_81 : decode cL_seen 81 = .ok (.aload_n 0, 1) := by decide +kernel
theorem dL_seen_82 : decode cL_seen 82 = .ok (.iload_n 3, 1) := by decide +kernel
theorem dL_seen_83 : decode cL_seen 83 = .ok (.iconst 5, 1) := by decide +kernel
theorem dL_seen_84 : decode cL_seen 84 = .ok (.idiv, 1) := by decide +kernel
theorem dL_seen_85 : decode cL_seen 85 = .ok (.iload_n 3, 1) := by decide +kernel
theorem dL_seen_86 : decode cL_seen 86 = .ok (.iconst 5, 1) := by decide +kernel
theorem dL_seen_87 : decode cL_seen 87 = .ok (.irem, 1) := by decide +kernel
theorem dL_seen_88 : decode cL_seen 88 = .ok (.invokevirtual 23, 3) := by decide +kernel
theorem dL_seen_91 : decode cL_seen 91 = .ok (.i2l, 1) := by decide +kernel
theorem dL_seen_92 : decode cL_seen 92 = .ok (.ladd, 1) := by decide +kernel
theorem dL_seen_93 : decode cL_seen 93 = .ok (.lstore_n 1, 1) := by decide +kernel
theorem dL_seen_94 : decode cL_seen 94 = .ok (.iinc 3 1, 3) := by decide +kernel
theorem dL_seen_97 : decode cL_seen 97 = .ok (.goto (-32), 3) := by decide +kernel
theorem dL_seen_100 : decode cL_seen 100 = .ok (.lload_n 1, 1) := by decide +kernel
theorem dL_seen_101 : decode cL_seen 101 = .ok (.lreturn, 1) := by decide +kernel
theorem dL_refusesAny_0 : decode cL_refusesAny 0 = .ok (.iload_n 1, 1) := by decide +kernel
theorem dL_refusesAny_1 : decode cL_refusesAny 1 = .ok (.ifCond .ne 7, 3) := by decide +kernel
theorem dL_refusesAny_4 : decode cL_refusesAny 4 = .ok (.iconst (-1), 1) := by decide +kernel
theorem dL_refusesAny_5 : decode cL_refusesAny 5 = .ok (.goto 5, 3) := by decide +kernel
theorem dL_refusesAny_8 : decode cL_refusesAny 8 = .ok (.bipush 8, 2) := by decide +kernel
theorem dL_refusesAny_10 : decode cL_refusesAny 10 = .ok (.istore_n 2, 1) := by decide +kernel
theorem dL_refusesAny_11 : decode cL_refusesAny 11 = .ok (.aload_n 0, 1) := by decide +kernel
theorem dL_refusesAny_12 : decode cL_refusesAny 12 = .ok (.iload_n 2, 1) := by decide +kernel
theorem dL_refusesAny_13 : decode cL_refusesAny 13 = .ok (.iconst 0, 1) := by decide +kernel
theorem dL_refusesAny_14 : decode cL_refusesAny 14 = .ok (.iconst 0, 1) := by decide +kernel
theorem dL_refusesAny_15 : decode cL_refusesAny 15 = .ok (.invokevirtual 26, 3) := by decide +kernel
theorem dL_refusesAny_18 : decode cL_refusesAny 18 = .ok (.bipush (-2), 2) := by decide +kernel
theorem dL_refusesAny_20 : decode cL_refusesAny 20 = .ok (.if_icmp .ne 225, 3) := by decide +kernel
theorem dL_refusesAny_23 : decode cL_refusesAny 23 = .ok (.aload_n 0, 1) := by decide +kernel
theorem dL_refusesAny_24 : decode cL_refusesAny 24 = .ok (.iconst 0, 1) := by decide +kernel
theorem dL_refusesAny_25 : decode cL_refusesAny 25 = .ok (.iload_n 2, 1) := by decide +kernel
theorem dL_refusesAny_26 : decode cL_refusesAny 26 = .ok (.iconst 0, 1) := by decide +kernel
theorem dL_refusesAny_27 : decode cL_refusesAny 27 = .ok (.invokevirtual 26, 3) := by decide +kernel
theorem dL_refusesAny_30 : decode cL_refusesAny 30 = .ok (.bipush (-2), 2) := by decide +kernel
theorem dL_refusesAny_32 : decode cL_refusesAny 32 = .ok (.if_icmp .ne 213, 3) := by decide +kernel
theorem dL_refusesAny_35 : decode cL_refusesAny 35 = .ok (.aload_n 0, 1) := by decide +kernel
theorem dL_refusesAny_36 : decode cL_refusesAny 36 = .ok (.iconst 0, 1) := by decide +kernel
theorem dL_refusesAny_37 : decode cL_refusesAny 37 = .ok (.iconst 0, 1) := by decide +kernel
theorem dL_refusesAny_38 : decode cL_refusesAny 38 = .ok (.iload_n 2, 1) := by decide +kernel
theorem dL_refusesAny_39 : decode cL_refusesAny 39 = .ok (.invokevirtual 26, 3) := by decide +kernel
theorem dL_refusesAny_42 : decode cL_refusesAny 42 = .ok (.bipush (-2), 2) := by decide +kernel
theorem dL_refusesAny_44 : decode cL_refusesAny 44 = .ok (.if_icmp .ne 201, 3) := by decide +kernel
theorem dL_refusesAny_47 : decode cL_refusesAny 47 = .ok (.aload_n 0, 1) := by decide +kernel
theorem dL_refusesAny_48 : decode cL_refusesAny 48 = .ok (.iload_n 1, 1) := by decide +kernel
theorem dL_refusesAny_49 : decode cL_refusesAny 49 = .ok (.ifCond .ne 7, 3) := by decide +kernel
theorem dL_refusesAny_52 : decode cL_refusesAny 52 = .ok (.iconst (-1), 1) := by decide +kernel
theorem dL_refusesAny_53 : decode cL_refusesAny 53 = .ok (.goto 4, 3) := by decide +kernel
theorem dL_refusesAny_56 : decode cL_refusesAny 56 = .ok (.iconst 2, 1) := by decide +kernel
theorem dL_refusesAny_57 : decode cL_refusesAny 57 = .ok (.invokevirtual 32, 3) := by decide +kernel
theorem dL_refusesAny_60 : decode cL_refusesAny 60 = .ok (.bipush (-2), 2) := by decide +kernel
theorem dL_refusesAny_62 : decode cL_refusesAny 62 = .ok (.if_icmp .ne 183, 3) := by decide +kernel
theorem dL_refusesAny_65 : decode cL_refusesAny 65 = .ok (.aload_n 0, 1) := by decide +kernel
theorem dL_refusesAny_66 : decode cL_refusesAny 66 = .ok (.iload_n 1, 1) := by decide +kernel
theorem dL_refusesAny_67 : decode cL_refusesAny 67 = .ok (.ifCond .ne 8, 3) := by decide +kernel
theorem dL_refusesAny_70 : decode cL_refusesAny 70 = .ok (.bipush 6, 2) := by decide +kernel
theorem dL_refusesAny_72 : decode cL_refusesAny 72 = .ok (.goto 6, 3) := by decide +kernel
theorem dL_refusesAny_75 : decode cL_refusesAny 75 = .ok (.sipush 1350, 3) := by decide +kernel
theorem dL_refusesAny_78 : decode cL_refusesAny 78 = .ok (.iconst 0, 1) := by decide +kernel
theorem dL_refusesAny_79 : decode cL_refusesAny 79 = .ok (.iconst 0, 1) := by decide +kernel
theorem dL_refusesAny_80 : decode cL_refusesAny 80 = .ok (.iconst 0, 1) := by decide +kernel
theorem dL_refusesAny_81 : decode cL_refusesAny 81 = .ok (.iconst 0, 1) := by decide +kernel
theorem dL_refusesAny_82 : decode cL_refusesAny 82 = .ok (.invokevirtual 35, 3) := by decide +kernel
theorem dL_refusesAny_85 : decode cL_refusesAny 85 = .ok (.bipush (-2), 2) := by decide +kernel
theorem dL_refusesAny_87 : decode cL_refusesAny 87 = .ok (.if_icmp .ne 158, 3) := by decide +kernel
theorem dL_refusesAny_90 : decode cL_refusesAny 90 = .ok (.aload_n 0, 1) := by decide +kernel
theorem dL_refusesAny_91 : decode cL_refusesAny 91 = .ok (.bipush 7, 2) := by decide +kernel
theorem dL_refusesAny_93 : decode cL_refusesAny 93 = .ok (.iload_n 1, 1) := by decide +kernel
theorem dL_refusesAny_94 : decode cL_refusesAny 94 = .ok (.ifCond .ne 7, 3) := by decide +kernel
theorem dL_refusesAny_97 : decode cL_refusesAny 97 = .ok (.iconst (-1), 1) := by decide +kernel
theorem dL_refusesAny_98 : decode cL_refusesAny 98 = .ok (.goto 4, 3) := by decide +kernel
theorem dL_refusesAny_101 : decode cL_refusesAny 101 = .ok (.iconst 3, 1) := by decide +kernel
theorem dL_refusesAny_102 : decode cL_refusesAny 102 = .ok (.iconst 0, 1) := by decide +kernel
theorem dL_refusesAny_103 : decode cL_refusesAny 103 = .ok (.iconst 0, 1) := by decide +kernel
theorem dL_refusesAny_104 : decode cL_refusesAny 104 = .ok (.iconst 0, 1) := by decide +kernel
theorem dL_refusesAny_105 : decode cL_refusesAny 105 = .ok (.invokevirtual 35, 3) := by decide +kernel
theorem dL_refusesAny_108 : decode cL_refusesAny 108 = .ok (.bipush (-2), 2) := by decide +kernel
theorem dL_refusesAny_110 : decode cL_refusesAny 110 = .ok (.if_icmp .ne 135, 3) := by decide +kernel
theorem dL_refusesAny_113 : decode cL_refusesAny 113 = .ok (.aload_n 0, 1) := by decide +kernel
theorem dL_refusesAny_114 : decode cL_refusesAny 114 = .ok (.bipush 7, 2) := by decide +kernel
theorem dL_refusesAny_116 : decode cL_refusesAny 116 = .ok (.iconst 0, 1) := by decide +kernel
theorem dL_refusesAny_117 : decode cL_refusesAny 117 = .ok (.iload_n 1, 1) := by decide +kernel
theorem dL_refusesAny_118 : decode cL_refusesAny 118 = .ok (.ifCond .ne 7, 3) := by decide +kernel
theorem dL_refusesAny_121 : decode cL_refusesAny 121 = .ok (.iconst (-1), 1) := by decide +kernel
theorem dL_refusesAny_122 : decode cL_refusesAny 122 = .ok (.goto 4, 3) := by decide +kernel
theorem dL_refusesAny_125 : decode cL_refusesAny 125 = .ok (.iconst 3, 1) := by decide +kernel
theorem dL_refusesAny_126 : decode cL_refusesAny 126 = .ok (.iconst 0, 1) := by decide +kernel
theorem dL_refusesAny_127 : decode cL_refusesAny 127 = .ok (.iconst 0, 1) := by decide +kernel
theorem dL_refusesAny_128 : decode cL_refusesAny 128 = .ok (.invokevirtual 35, 3) := by decide +kernel
theorem dL_refusesAny_131 : decode cL_refusesAny 131 = .ok (.bipush (-2), 2) := by decide +kernel
theorem dL_refusesAny_133 : decode cL_refusesAny 133 = .ok (.if_icmp .ne 112, 3) := by decide +kernel
theorem dL_refusesAny_136 : decode cL_refusesAny 136 = .ok (.aload_n 0, 1) := by decide +kernel
theorem dL_refusesAny_137 : decode cL_refusesAny 137 = .ok (.bipush 7, 2) := by decide +kernel
theorem dL_refusesAny_139 : decode cL_refusesAny 139 = .ok (.iconst 0, 1) := by decide +kernel
theorem dL_refusesAny_140 : decode cL_refusesAny 140 = .ok (.iconst 0, 1) := by decide +kernel
theorem dL_refusesAny_141 : decode cL_refusesAny 141 = .ok (.iload_n 1, 1) := by decide +kernel
theorem dL_refusesAny_142 : decode cL_refusesAny 142 = .ok (.ifCond .ne 7, 3) := by decide +kernel
theorem dL_refusesAny_145 : decode cL_refusesAny 145 = .ok (.iconst 1, 1) := by decide +kernel
theorem dL_refusesAny_146 : decode cL_refusesAny 146 = .ok (.goto 4, 3) := by decide +kernel
theorem dL_refusesAny_149 : decode cL_refusesAny 149 = .ok (.iconst (-1), 1) := by decide +kernel
theorem dL_refusesAny_150 : decode cL_refusesAny 150 = .ok (.iconst 0, 1) := by decide +kernel
theorem dL_refusesAny_151 : decode cL_refusesAny 151 = .ok (.invokevirtual 35, 3) := by decide +kernel
theorem dL_refusesAny_154 : decode cL_refusesAny 154 = .ok (.bipush (-2), 2) := by decide +kernel
theorem dL_refusesAny_156 : decode cL_refusesAny 156 = .ok (.if_icmp .ne 89, 3) := by decide +kernel
theorem dL_refusesAny_159 : decode cL_refusesAny 159 = .ok (.aload_n 0, 1) := by decide +kernel
theorem dL_refusesAny_160 : decode cL_refusesAny 160 = .ok (.bipush 7, 2) := by decide +kernel
theorem dL_refusesAny_162 : decode cL_refusesAny 162 = .ok (.iconst 0, 1) := by decide +kernel
theorem dL_refusesAny_163 : decode cL_refusesAny 163 = .ok (.iconst 0, 1) := by decide +kernel
theorem dL_refusesAny_164 : decode cL_refusesAny 164 = .ok (.iconst 0, 1) := by decide +kernel
theorem dL_refusesAny_165 : decode cL_refusesAny 165 = .ok (.iload_n 2, 1) := by decide +kernel
theorem dL_refusesAny_166 : decode cL_refusesAny 166 = .ok (.invokevirtual 35, 3) := by decide +kernel
theorem dL_refusesAny_169 : decode cL_refusesAny 169 = .ok (.bipush (-2), 2) := by decide +kernel
theorem dL_refusesAny_171 : decode cL_refusesAny 171 = .ok (.if_icmp .ne 74, 3) := by decide +kernel
theorem dL_refusesAny_174 : decode cL_refusesAny 174 = .ok (.aload_n 0, 1) := by decide +kernel
theorem dL_refusesAny_175 : decode cL_refusesAny 175 = .ok (.bipush 7, 2) := by decide +kernel
theorem dL_refusesAny_177 : decode cL_refusesAny 177 = .ok (.iconst 1, 1) := by decide +kernel
theorem dL_refusesAny_178 : decode cL_refusesAny 178 = .ok (.iconst 0, 1) := by decide +kernel
theorem dL_refusesAny_179 : decode cL_refusesAny 179 = .ok (.iconst 1, 1) := by decide +kernel
theorem dL_refusesAny_180 : decode cL_refusesAny 180 = .ok (.iload_n 1, 1) := by decide +kernel
theorem dL_refusesAny_181 : decode cL_refusesAny 181 = .ok (.ifCond .ne 8, 3) := by decide +kernel
theorem dL_refusesAny_184 : decode cL_refusesAny 184 = .ok (.bipush (-8), 2) := by decide +kernel
theorem dL_refusesAny_186 : decode cL_refusesAny 186 = .ok (.goto 5, 3) := by decide +kernel
theorem dL_refusesAny_189 : decode cL_refusesAny 189 = .ok (.bipush 8, 2) := by decide +kernel
theorem dL_refusesAny_191 : decode cL_refusesAny 191 = .ok (.invokevirtual 35, 3) := by decide +kernel
theorem dL_refusesAny_194 : decode cL_refusesAny 194 = .ok (.bipush (-2), 2) := by decide +kernel
theorem dL_refusesAny_196 : decode cL_refusesAny 196 = .ok (.if_icmp .ne 49, 3) := by decide +kernel
theorem dL_refusesAny_199 : decode cL_refusesAny 199 = .ok (.aload_n 0, 1) := by decide +kernel
theorem dL_refusesAny_200 : decode cL_refusesAny 200 = .ok (.bipush 7, 2) := by decide +kernel
theorem dL_refusesAny_202 : decode cL_refusesAny 202 = .ok (.iconst 1, 1) := by decide +kernel
theorem dL_refusesAny_203 : decode cL_refusesAny 203 = .ok (.iconst 0, 1) := by decide +kernel
theorem dL_refusesAny_204 : decode cL_refusesAny 204 = .ok (.iload_n 1, 1) := by decide +kernel
theorem dL_refusesAny_205 : decode cL_refusesAny 205 = .ok (.ifCond .ne 7, 3) := by decide +kernel
theorem dL_refusesAny_208 : decode cL_refusesAny 208 = .ok (.iconst (-1), 1) := by decide +kernel
theorem dL_refusesAny_209 : decode cL_refusesAny 209 = .ok (.goto 4, 3) := by decide +kernel
theorem dL_refusesAny_212 : decode cL_refusesAny 212 = .ok (.iconst 3, 1) := by decide +kernel
theorem dL_refusesAny_213 : decode cL_refusesAny 213 = .ok (.iconst 0, 1) := by decide +kernel
theorem dL_refusesAny_214 : decode cL_refusesAny 214 = .ok (.invokevirtual 35, 3) := by decide +kernel
theorem dL_refusesAny_217 : decode cL_refusesAny 217 = .ok (.bipush (-2), 2) := by decide +kernel
theorem dL_refusesAny_219 : decode cL_refusesAny 219 = .ok (.if_icmp .ne 26, 3) := by decide +kernel
theorem dL_refusesAny_222 : decode cL_refusesAny 222 = .ok (.aload_n 0, 1) := by decide +kernel
theorem dL_refusesAny_223 : decode cL_refusesAny 223 = .ok (.bipush 7, 2) := by decide +kernel
theorem dL_refusesAny_225 : decode cL_refusesAny 225 = .ok (.iconst 2, 1) := by decide +kernel
theorem dL_refusesAny_226 : decode cL_refusesAny 226 = .ok (.iconst 1, 1) := by decide +kernel
theorem dL_refusesAny_227 : decode cL_refusesAny 227 = .ok (.iload_n 1, 1) := by decide +kernel
theorem dL_refusesAny_228 : decode cL_refusesAny 228 = .ok (.ifCond .ne 7, 3) := by decide +kernel
theorem dL_refusesAny_231 : decode cL_refusesAny 231 = .ok (.iconst 1, 1) := by decide +kernel
theorem dL_refusesAny_232 : decode cL_refusesAny 232 = .ok (.goto 4, 3) := by decide +kernel
theorem dL_refusesAny_235 : decode cL_refusesAny 235 = .ok (.iconst 2, 1) := by decide +kernel
theorem dL_refusesAny_236 : decode cL_refusesAny 236 = .ok (.iload_n 1, 1) := by decide +kernel
theorem dL_refusesAny_237 : decode cL_refusesAny 237 = .ok (.invokevirtual 35, 3) := by decide +kernel
theorem dL_refusesAny_240 : decode cL_refusesAny 240 = .ok (.bipush (-2), 2) := by decide +kernel
theorem dL_refusesAny_242 : decode cL_refusesAny 242 = .ok (.if_icmp .eq 5, 3) := by decide +kernel
theorem dL_refusesAny_245 : decode cL_refusesAny 245 = .ok (.iconst 0, 1) := by decide +kernel
theorem dL_refusesAny_246 : decode cL_refusesAny 246 = .ok (.ireturn, 1) := by decide +kernel
theorem dL_refusesAny_247 : decode cL_refusesAny 247 = .ok (.aload_n 0, 1) := by decide +kernel
theorem dL_refusesAny_248 : decode cL_refusesAny 248 = .ok (.iload_n 1, 1) := by decide +kernel
theorem dL_refusesAny_249 : decode cL_refusesAny 249 = .ok (.ifCond .ne 7, 3) := by decide +kernel
theorem dL_refusesAny_252 : decode cL_refusesAny 252 = .ok (.iconst (-1), 1) := by decide +kernel
theorem dL_refusesAny_253 : decode cL_refusesAny 253 = .ok (.goto 8, 3) := by decide +kernel
theorem dL_refusesAny_256 : decode cL_refusesAny 256 = .ok (.aload_n 0, 1) := by decide +kernel
theorem dL_refusesAny_257 : decode cL_refusesAny 257 = .ok (.iconst 0, 1) := by decide +kernel
theorem dL_refusesAny_258 : decode cL_refusesAny 258 = .ok (.invokevirtual 13, 3) := by decide +kernel
theorem dL_refusesAny_261 : decode cL_refusesAny 261 = .ok (.invokevirtual 39, 3) := by decide +kernel
theorem dL_refusesAny_264 : decode cL_refusesAny 264 = .ok (.iconst (-1), 1) := by decide +kernel
theorem dL_refusesAny_265 : decode cL_refusesAny 265 = .ok (.if_icmp .ne 157, 3) := by decide +kernel
theorem dL_refusesAny_268 : decode cL_refusesAny 268 = .ok (.aload_n 0, 1) := by decide +kernel
theorem dL_refusesAny_269 : decode cL_refusesAny 269 = .ok (.iload_n 1, 1) := by decide +kernel
theorem dL_refusesAny_270 : decode cL_refusesAny 270 = .ok (.ifCond .ne 8, 3) := by decide +kernel
theorem dL_refusesAny_273 : decode cL_refusesAny 273 = .ok (.bipush 8, 2) := by decide +kernel
theorem dL_refusesAny_275 : decode cL_refusesAny 275 = .ok (.goto 4, 3) := by decide +kernel
theorem dL_refusesAny_278 : decode cL_refusesAny 278 = .ok (.iconst (-1), 1) := by decide +kernel
theorem dL_refusesAny_279 : decode cL_refusesAny 279 = .ok (.invokevirtual 42, 3) := by decide +kernel
theorem dL_refusesAny_282 : decode cL_refusesAny 282 = .ok (.bipush (-2), 2) := by decide +kernel
theorem dL_refusesAny_284 : decode cL_refusesAny 284 = .ok (.if_icmp .ne 138, 3) := by decide +kernel
theorem dL_refusesAny_287 : decode cL_refusesAny 287 = .ok (.aload_n 0, 1) := by decide +kernel
theorem dL_refusesAny_288 : decode cL_refusesAny 288 = .ok (.iload_n 1, 1) := by decide +kernel
theorem dL_refusesAny_289 : decode cL_refusesAny 289 = .ok (.ifCond .ne 7, 3) := by decide +kernel
theorem dL_refusesAny_292 : decode cL_refusesAny 292 = .ok (.iconst 0, 1) := by decide +kernel
theorem dL_refusesAny_293 : decode cL_refusesAny 293 = .ok (.goto 5, 3) := by decide +kernel
theorem dL_refusesAny_296 : decode cL_refusesAny 296 = .ok (.bipush 10, 2) := by decide +kernel
theorem dL_refusesAny_298 : decode cL_refusesAny 298 = .ok (.invokevirtual 45, 3) := by decide +kernel
theorem dL_refusesAny_301 : decode cL_refusesAny 301 = .ok (.bipush (-2), 2) := by decide +kernel
theorem dL_refusesAny_303 : decode cL_refusesAny 303 = .ok (.if_icmp .ne 119, 3) := by decide +kernel
theorem dL_refusesAny_306 : decode cL_refusesAny 306 = .ok (.aload_n 0, 1) := by decide +kernel
theorem dL_refusesAny_307 : decode cL_refusesAny 307 = .ok (.iconst (-1), 1) := by decide +kernel
theorem dL_refusesAny_308 : decode cL_refusesAny 308 = .ok (.iconst 5, 1) := by decide +kernel
theorem dL_refusesAny_309 : decode cL_refusesAny 309 = .ok (.invokevirtual 48, 3) := by decide +kernel
theorem dL_refusesAny_312 : decode cL_refusesAny 312 = .ok (.bipush (-2), 2) := by decide +kernel
theorem dL_refusesAny_314 : decode cL_refusesAny 314 = .ok (.if_icmp .ne 108, 3) := by decide +kernel
theorem dL_refusesAny_317 : decode cL_refusesAny 317 = .ok (.aload_n 0, 1) := by decide +kernel
theorem dL_refusesAny_318 : decode cL_refusesAny 318 = .ok (.iconst 1, 1) := by decide +kernel
theorem dL_refusesAny_319 : decode cL_refusesAny 319 = .ok (.iload_n 1, 1) := by decide +kernel
theorem dL_refusesAny_320 : decode cL_refusesAny 320 = .ok (.ifCond .ne 7, 3) := by decide +kernel
theorem dL_refusesAny_323 : decode cL_refusesAny 323 = .ok (.iconst 0, 1) := by decide +kernel
theorem dL_refusesAny_324 : decode cL_refusesAny 324 = .ok (.goto 5, 3) := by decide +kernel
theorem dL_refusesAny_327 : decode cL_refusesAny 327 = .ok (.bipush 100, 2) := by decide +kernel
theorem dL_refusesAny_329 : decode cL_refusesAny 329 = .ok (.invokevirtual 48, 3) := by decide +kernel
theorem dL_refusesAny_332 : decode cL_refusesAny 332 = .ok (.bipush (-2), 2) := by decide +kernel
theorem dL_refusesAny_334 : decode cL_refusesAny 334 = .ok (.if_icmp .ne 88, 3) := by decide +kernel
theorem dL_refusesAny_337 : decode cL_refusesAny 337 = .ok (.aload_n 0, 1) := by decide +kernel
theorem dL_refusesAny_338 : decode cL_refusesAny 338 = .ok (.bipush 6, 2) := by decide +kernel
theorem dL_refusesAny_340 : decode cL_refusesAny 340 = .ok (.iconst 0, 1) := by decide +kernel
theorem dL_refusesAny_341 : decode cL_refusesAny 341 = .ok (.invokevirtual 51, 3) := by decide +kernel
theorem dL_refusesAny_344 : decode cL_refusesAny 344 = .ok (.bipush (-2), 2) := by decide +kernel
theorem dL_refusesAny_346 : decode cL_refusesAny 346 = .ok (.if_icmp .ne 76, 3) := by decide +kernel
theorem dL_refusesAny_349 : decode cL_refusesAny 349 = .ok (.aload_n 0, 1) := by decide +kernel
theorem dL_refusesAny_350 : decode cL_refusesAny 350 = .ok (.bipush 7, 2) := by decide +kernel
theorem dL_refusesAny_352 : decode cL_refusesAny 352 = .ok (.iload_n 1, 1) := by decide +kernel
theorem dL_refusesAny_353 : decode cL_refusesAny 353 = .ok (.ifCond .ne 7, 3) := by decide +kernel
theorem dL_refusesAny_356 : decode cL_refusesAny 356 = .ok (.iconst (-1), 1) := by decide +kernel
theorem dL_refusesAny_357 : decode cL_refusesAny 357 = .ok (.goto 6, 3) := by decide +kernel
theorem dL_refusesAny_360 : decode cL_refusesAny 360 = .ok (.sipush 512, 3) := by decide +kernel
theorem dL_refusesAny_363 : decode cL_refusesAny 363 = .ok (.invokevirtual 51, 3) := by decide +kernel
theorem dL_refusesAny_366 : decode cL_refusesAny 366 = .ok (.bipush (-2), 2) := by decide +kernel
theorem dL_refusesAny_368 : decode cL_refusesAny 368 = .ok (.if_icmp .ne 54, 3) := by decide +kernel
theorem dL_refusesAny_371 : decode cL_refusesAny 371 = .ok (.aload_n 0, 1) := by decide +kernel
theorem dL_refusesAny_372 : decode cL_refusesAny 372 = .ok (.iload_n 1, 1) := by decide +kernel
theorem dL_refusesAny_373 : decode cL_refusesAny 373 = .ok (.ifCond .ne 7, 3) := by decide +kernel
theorem dL_refusesAny_376 : decode cL_refusesAny 376 = .ok (.iconst (-1), 1) := by decide +kernel
theorem dL_refusesAny_377 : decode cL_refusesAny 377 = .ok (.goto 8, 3) := by decide +kernel
theorem dL_refusesAny_380 : decode cL_refusesAny 380 = .ok (.aload_n 0, 1) := by decide +kernel
theorem dL_refusesAny_381 : decode cL_refusesAny 381 = .ok (.iconst 0, 1) := by decide +kernel
theorem dL_refusesAny_382 : decode cL_refusesAny 382 = .ok (.invokevirtual 13, 3) := by decide +kernel
theorem dL_refusesAny_385 : decode cL_refusesAny 385 = .ok (.bipush 9, 2) := by decide +kernel
theorem dL_refusesAny_387 : decode cL_refusesAny 387 = .ok (.invokevirtual 19, 3) := by decide +kernel
theorem dL_refusesAny_390 : decode cL_refusesAny 390 = .ok (.iconst (-1), 1) := by decide +kernel
theorem dL_refusesAny_391 : decode cL_refusesAny 391 = .ok (.if_icmp .ne 31, 3) := by decide +kernel
theorem dL_refusesAny_394 : decode cL_refusesAny 394 = .ok (.aload_n 0, 1) := by decide +kernel
theorem dL_refusesAny_395 : decode cL_refusesAny 395 = .ok (.iconst 0, 1) := by decide +kernel
theorem dL_refusesAny_396 : decode cL_refusesAny 396 = .ok (.invokevirtual 13, 3) := by decide +kernel
theorem dL_refusesAny_399 : decode cL_refusesAny 399 = .ok (.ifCond .le 25, 3) := by decide +kernel
theorem dL_refusesAny_402 : decode cL_refusesAny 402 = .ok (.aload_n 0, 1) := by decide +kernel
theorem dL_refusesAny_403 : decode cL_refusesAny 403 = .ok (.iconst 0, 1) := by decide +kernel
theorem dL_refusesAny_404 : decode cL_refusesAny 404 = .ok (.iload_n 1, 1) := by decide +kernel
theorem dL_refusesAny_405 : decode cL_refusesAny 405 = .ok (.ifCond .ne 7, 3) := by decide +kernel
theorem dL_refusesAny_408 : decode cL_refusesAny 408 = .ok (.iconst (-1), 1) := by decide +kernel
theorem dL_refusesAny_409 : decode cL_refusesAny 409 = .ok (.goto 5, 3) := by decide +kernel
theorem dL_refusesAny_412 : decode cL_refusesAny 412 = .ok (.bipush 7, 2) := by decide +kernel
theorem dL_refusesAny_414 : decode cL_refusesAny 414 = .ok (.invokevirtual 19, 3) := by decide +kernel
theorem dL_refusesAny_417 : decode cL_refusesAny 417 = .ok (.bipush (-2), 2) := by decide +kernel
theorem dL_refusesAny_419 : decode cL_refusesAny 419 = .ok (.if_icmp .eq 5, 3) := by decide +kernel
theorem dL_refusesAny_422 : decode cL_refusesAny 422 = .ok (.iconst 0, 1) := by decide +kernel
theorem dL_refusesAny_423 : decode cL_refusesAny 423 = .ok (.ireturn, 1) := by decide +kernel
theorem dL_refusesAny_424 : decode cL_refusesAny 424 = .ok (.aload_n 0, 1) := by decide +kernel
theorem dL_refusesAny_425 : decode cL_refusesAny 425 = .ok (.iload_n 1, 1) := by decide +kernel
theorem dL_refusesAny_426 : decode cL_refusesAny 426 = .ok (.ifCond .ne 7, 3) := by decide +kernel
theorem dL_refusesAny_429 : decode cL_refusesAny 429 = .ok (.iconst (-1), 1) := by decide +kernel
theorem dL_refusesAny_430 : decode cL_refusesAny 430 = .ok (.goto 8, 3) := by decide +kernel
theorem dL_refusesAny_433 : decode cL_refusesAny 433 = .ok (.aload_n 0, 1) := by decide +kernel
theorem dL_refusesAny_434 : decode cL_refusesAny 434 = .ok (.iconst 0, 1) := by decide +kernel
theorem dL_refusesAny_435 : decode cL_refusesAny 435 = .ok (.invokevirtual 13, 3) := by decide +kernel
theorem dL_refusesAny_438 : decode cL_refusesAny 438 = .ok (.sipush 999, 3) := by decide +kernel
theorem dL_refusesAny_441 : decode cL_refusesAny 441 = .ok (.invokevirtual 54, 3) := by decide +kernel
theorem dL_refusesAny_444 : decode cL_refusesAny 444 = .ok (.iconst (-1), 1) := by decide +kernel
theorem dL_refusesAny_445 : decode cL_refusesAny 445 = .ok (.if_icmp .ne 186, 3) := by decide +kernel
theorem dL_refusesAny_448 : decode cL_refusesAny 448 = .ok (.aload_n 0, 1) := by decide +kernel
theorem dL_refusesAny_449 : decode cL_refusesAny 449 = .ok (.iconst 0, 1) := by decide +kernel
theorem dL_refusesAny_450 : decode cL_refusesAny 450 = .ok (.invokevirtual 13, 3) := by decide +kernel
theorem dL_refusesAny_453 : decode cL_refusesAny 453 = .ok (.ifCond .le 24, 3) := by decide +kernel
theorem dL_refusesAny_456 : decode cL_refusesAny 456 = .ok (.aload_n 0, 1) := by decide +kernel
theorem dL_refusesAny_457 : decode cL_refusesAny 457 = .ok (.iconst 0, 1) := by decide +kernel
theorem dL_refusesAny_458 : decode cL_refusesAny 458 = .ok (.iload_n 1, 1) := by decide +kernel
theorem dL_refusesAny_459 : decode cL_refusesAny 459 = .ok (.ifCond .ne 7, 3) := by decide +kernel
theorem dL_refusesAny_462 : decode cL_refusesAny 462 = .ok (.iconst (-1), 1) := by decide +kernel
theorem dL_refusesAny_463 : decode cL_refusesAny 463 = .ok (.goto 6, 3) := by decide +kernel
theorem dL_refusesAny_466 : decode cL_refusesAny 466 = .ok (.sipush 512, 3) := by decide +kernel
theorem dL_refusesAny_469 : decode cL_refusesAny 469 = .ok (.invokevirtual 54, 3) := by decide +kernel
theorem dL_refusesAny_472 : decode cL_refusesAny 472 = .ok (.bipush (-2), 2) := by decide +kernel
theorem dL_refusesAny_474 : decode cL_refusesAny 474 = .ok (.if_icmp .ne 157, 3) := by decide +kernel
theorem dL_refusesAny_477 : decode cL_refusesAny 477 = .ok (.aload_n 0, 1) := by decide +kernel
theorem dL_refusesAny_478 : decode cL_refusesAny 478 = .ok (.iload_n 1, 1) := by decide +kernel
theorem dL_refusesAny_479 : decode cL_refusesAny 479 = .ok (.ifCond .ne 7, 3) := by decide +kernel
theorem dL_refusesAny_482 : decode cL_refusesAny 482 = .ok (.iconst (-1), 1) := by decide +kernel
theorem dL_refusesAny_483 : decode cL_refusesAny 483 = .ok (.goto 8, 3) := by decide +kernel
theorem dL_refusesAny_486 : decode cL_refusesAny 486 = .ok (.aload_n 0, 1) := by decide +kernel
theorem dL_refusesAny_487 : decode cL_refusesAny 487 = .ok (.iconst 1, 1) := by decide +kernel
theorem dL_refusesAny_488 : decode cL_refusesAny 488 = .ok (.invokevirtual 13, 3) := by decide +kernel
theorem dL_refusesAny_491 : decode cL_refusesAny 491 = .ok (.bipush 9, 2) := by decide +kernel
theorem dL_refusesAny_493 : decode cL_refusesAny 493 = .ok (.invokevirtual 23, 3) := by decide +kernel
theorem dL_refusesAny_496 : decode cL_refusesAny 496 = .ok (.iconst (-1), 1) := by decide +kernel
theorem dL_refusesAny_497 : decode cL_refusesAny 497 = .ok (.if_icmp .ne 134, 3) := by decide +kernel
theorem dL_refusesAny_500 : decode cL_refusesAny 500 = .ok (.aload_n 0, 1) := by decide +kernel
theorem dL_refusesAny_501 : decode cL_refusesAny 501 = .ok (.iconst 1, 1) := by decide +kernel
theorem dL_refusesAny_502 : decode cL_refusesAny 502 = .ok (.invokevirtual 13, 3) := by decide +kernel
theorem dL_refusesAny_505 : decode cL_refusesAny 505 = .ok (.ifCond .le 22, 3) := by decide +kernel
theorem dL_refusesAny_508 : decode cL_refusesAny 508 = .ok (.aload_n 0, 1) := by decide +kernel
theorem dL_refusesAny_509 : decode cL_refusesAny 509 = .ok (.iconst 0, 1) := by decide +kernel
theorem dL_refusesAny_510 : decode cL_refusesAny 510 = .ok (.iload_n 1, 1) := by decide +kernel
theorem dL_refusesAny_511 : decode cL_refusesAny 511 = .ok (.ifCond .ne 7, 3) := by decide +kernel
theorem dL_refusesAny_514 : decode cL_refusesAny 514 = .ok (.iconst (-1), 1) := by decide +kernel
theorem dL_refusesAny_515 : decode cL_refusesAny 515 = .ok (.goto 4, 3) := by decide +kernel
theorem dL_refusesAny_518 : decode cL_refusesAny 518 = .ok (.iconst 5, 1) := by decide +kernel
theorem dL_refusesAny_519 : decode cL_refusesAny 519 = .ok (.invokevirtual 23, 3) := by decide +kernel
theorem dL_refusesAny_522 : decode cL_refusesAny 522 = .ok (.bipush (-2), 2) := by decide +kernel
theorem dL_refusesAny_524 : decode cL_refusesAny 524 = .ok (.if_icmp .ne 107, 3) := by decide +kernel
theorem dL_refusesAny_527 : decode cL_refusesAny 527 = .ok (.aload_n 0, 1) := by decide +kernel
theorem dL_refusesAny_528 : decode cL_refusesAny 528 = .ok (.iload_n 1, 1) := by decide +kernel
theorem dL_refusesAny_529 : decode cL_refusesAny 529 = .ok (.ifCond .ne 7, 3) := by decide +kernel
theorem dL_refusesAny_532 : decode cL_refusesAny 532 = .ok (.iconst (-1), 1) := by decide +kernel
theorem dL_refusesAny_533 : decode cL_refusesAny 533 = .ok (.goto 5, 3) := by decide +kernel
theorem dL_refusesAny_536 : decode cL_refusesAny 536 = .ok (.bipush 13, 2) := by decide +kernel
theorem dL_refusesAny_538 : decode cL_refusesAny 538 = .ok (.invokevirtual 13, 3) := by decide +kernel
theorem dL_refusesAny_541 : decode cL_refusesAny 541 = .ok (.bipush (-2), 2) := by decide +kernel
theorem dL_refusesAny_543 : decode cL_refusesAny 543 = .ok (.if_icmp .ne 88, 3) := by decide +kernel
theorem dL_refusesAny_546 : decode cL_refusesAny 546 = .ok (.aload_n 0, 1) := by decide +kernel
theorem dL_refusesAny_547 : decode cL_refusesAny 547 = .ok (.iload_n 1, 1) := by decide +kernel
theorem dL_refusesAny_548 : decode cL_refusesAny 548 = .ok (.ifCond .ne 7, 3) := by decide +kernel
theorem dL_refusesAny_551 : decode cL_refusesAny 551 = .ok (.iconst (-1), 1) := by decide +kernel
theorem dL_refusesAny_552 : decode cL_refusesAny 552 = .ok (.goto 6, 3) := by decide +kernel
theorem dL_refusesAny_555 : decode cL_refusesAny 555 = .ok (.sipush 512, 3) := by decide +kernel
theorem dL_refusesAny_558 : decode cL_refusesAny 558 = .ok (.invokevirtual 57, 3) := by decide +kernel
theorem dL_refusesAny_561 : decode cL_refusesAny 561 = .ok (.bipush (-2), 2) := by decide +kernel
theorem dL_refusesAny_563 : decode cL_refusesAny 563 = .ok (.if_icmp .ne 68, 3) := by decide +kernel
theorem dL_refusesAny_566 : decode cL_refusesAny 566 = .ok (.aload_n 0, 1) := by decide +kernel
theorem dL_refusesAny_567 : decode cL_refusesAny 567 = .ok (.iload_n 1, 1) := by decide +kernel
theorem dL_refusesAny_568 : decode cL_refusesAny 568 = .ok (.ifCond .ne 8, 3) := by decide +kernel
theorem dL_refusesAny_571 : decode cL_refusesAny 571 = .ok (.bipush 6, 2) := by decide +kernel
theorem dL_refusesAny_573 : decode cL_refusesAny 573 = .ok (.goto 5, 3) := by decide +kernel
theorem dL_refusesAny_576 : decode cL_refusesAny 576 = .ok (.bipush (-7), 2) := by decide +kernel
theorem dL_refusesAny_578 : decode cL_refusesAny 578 = .ok (.invokevirtual 60, 3) := by decide +kernel
theorem dL_refusesAny_581 : decode cL_refusesAny 581 = .ok (.bipush (-2), 2) := by decide +kernel
theorem dL_refusesAny_583 : decode cL_refusesAny 583 = .ok (.if_icmp .ne 48, 3) := by decide +kernel
theorem dL_refusesAny_586 : decode cL_refusesAny 586 = .ok (.aload_n 0, 1) := by decide +kernel
theorem dL_refusesAny_587 : decode cL_refusesAny 587 = .ok (.bipush 8, 2) := by decide +kernel
theorem dL_refusesAny_589 : decode cL_refusesAny 589 = .ok (.invokevirtual 63, 3) := by decide +kernel
theorem dL_refusesAny_592 : decode cL_refusesAny 592 = .ok (.bipush (-2), 2) := by decide +kernel
theorem dL_refusesAny_594 : decode cL_refusesAny 594 = .ok (.if_icmp .ne 37, 3) := by decide +kernel
theorem dL_refusesAny_597 : decode cL_refusesAny 597 = .ok (.aload_n 0, 1) := by decide +kernel
theorem dL_refusesAny_598 : decode cL_refusesAny 598 = .ok (.sipush 1350, 3) := by decide +kernel
theorem dL_refusesAny_601 : decode cL_refusesAny 601 = .ok (.invokevirtual 66, 3) := by decide +kernel
theorem dL_refusesAny_604 : decode cL_refusesAny 604 = .ok (.bipush (-2), 2) := by decide +kernel
theorem dL_refusesAny_606 : decode cL_refusesAny 606 = .ok (.if_icmp .ne 25, 3) := by decide +kernel
theorem dL_refusesAny_609 : decode cL_refusesAny 609 = .ok (.aload_n 0, 1) := by decide +kernel
theorem dL_refusesAny_610 : decode cL_refusesAny 610 = .ok (.iload_n 1, 1) := by decide +kernel
theorem dL_refusesAny_611 : decode cL_refusesAny 611 = .ok (.ifCond .ne 8, 3) := by decide +kernel
theorem dL_refusesAny_614 : decode cL_refusesAny 614 = .ok (.bipush 8, 2) := by decide +kernel
theorem dL_refusesAny_616 : decode cL_refusesAny 616 = .ok (.goto 5, 3) := by decide +kernel
theorem dL_refusesAny_619 : decode cL_refusesAny 619 = .ok (.ldc 69, 2) := by decide +kernel
theorem dL_refusesAny_621 : decode cL_refusesAny 621 = .ok (.invokevirtual 70, 3) := by decide +kernel
theorem dL_refusesAny_624 : decode cL_refusesAny 624 = .ok (.ldc2_w 74, 3) := by decide +kernel
theorem dL_refusesAny_627 : decode cL_refusesAny 627 = .ok (.lcmp, 1) := by decide +kernel
theorem dL_refusesAny_628 : decode cL_refusesAny 628 = .ok (.ifCond .eq 5, 3) := by decide +kernel
theorem dL_refusesAny_631 : decode cL_refusesAny 631 = .ok (.iconst 0, 1) := by decide +kernel
theorem dL_refusesAny_632 : decode cL_refusesAny 632 = .ok (.ireturn, 1) := by decide +kernel
theorem dL_refusesAny_633 : decode cL_refusesAny 633 = .ok (.aload_n 0, 1) := by decide +kernel
theorem dL_refusesAny_634 : decode cL_refusesAny 634 = .ok (.iload_n 1, 1) := by decide +kernel
theorem dL_refusesAny_635 : decode cL_refusesAny 635 = .ok (.ifCond .ne 7, 3) := by decide +kernel
theorem dL_refusesAny_638 : decode cL_refusesAny 638 = .ok (.lconst 0, 1) := by decide +kernel
theorem dL_refusesAny_639 : decode cL_refusesAny 639 = .ok (.goto 6, 3) := by decide +kernel
theorem dL_refusesAny_642 : decode cL_refusesAny 642 = .ok (.ldc2_w 76, 3) := by decide +kernel
theorem dL_refusesAny_645 : decode cL_refusesAny 645 = .ok (.invokevirtual 78, 3) := by decide +kernel
theorem dL_refusesAny_648 : decode cL_refusesAny 648 = .ok (.bipush (-2), 2) := by decide +kernel
theorem dL_refusesAny_650 : decode cL_refusesAny 650 = .ok (.if_icmp .ne 65, 3) := by decide +kernel
theorem dL_refusesAny_653 : decode cL_refusesAny 653 = .ok (.aload_n 0, 1) := by decide +kernel
theorem dL_refusesAny_654 : decode cL_refusesAny 654 = .ok (.iload_n 1, 1) := by decide +kernel
theorem dL_refusesAny_655 : decode cL_refusesAny 655 = .ok (.ifCond .ne 9, 3) := by decide +kernel
theorem dL_refusesAny_658 : decode cL_refusesAny 658 = .ok (.ldc2_w 82, 3) := by decide +kernel
theorem dL_refusesAny_661 : decode cL_refusesAny 661 = .ok (.goto 6, 3) := by decide +kernel
theorem dL_refusesAny_664 : decode cL_refusesAny 664 = .ok (.ldc2_w 84, 3) := by decide +kernel
theorem dL_refusesAny_667 : decode cL_refusesAny 667 = .ok (.invokevirtual 78, 3) := by decide +kernel
theorem dL_refusesAny_670 : decode cL_refusesAny 670 = .ok (.bipush (-2), 2) := by decide +kernel
theorem dL_refusesAny_672 : decode cL_refusesAny 672 = .ok (.if_icmp .ne 43, 3) := by decide +kernel
theorem dL_refusesAny_675 : decode cL_refusesAny 675 = .ok (.aload_n 0, 1) := by decide +kernel
theorem dL_refusesAny_676 : decode cL_refusesAny 676 = .ok (.iload_n 1, 1) := by decide +kernel
theorem dL_refusesAny_677 : decode cL_refusesAny 677 = .ok (.ifCond .ne 7, 3) := by decide +kernel
theorem dL_refusesAny_680 : decode cL_refusesAny 680 = .ok (.iconst (-1), 1) := by decide +kernel
theorem dL_refusesAny_681 : decode cL_refusesAny 681 = .ok (.goto 4, 3) := by decide +kernel
theorem dL_refusesAny_684 : decode cL_refusesAny 684 = .ok (.iconst 2, 1) := by decide +kernel
theorem dL_refusesAny_685 : decode cL_refusesAny 685 = .ok (.invokevirtual 86, 3) := by decide +kernel
theorem dL_refusesAny_688 : decode cL_refusesAny 688 = .ok (.bipush (-2), 2) := by decide +kernel
theorem dL_refusesAny_690 : decode cL_refusesAny 690 = .ok (.if_icmp .ne 25, 3) := by decide +kernel
theorem dL_refusesAny_693 : decode cL_refusesAny 693 = .ok (.aload_n 0, 1) := by decide +kernel
theorem dL_refusesAny_694 : decode cL_refusesAny 694 = .ok (.iload_n 1, 1) := by decide +kernel
theorem dL_refusesAny_695 : decode cL_refusesAny 695 = .ok (.ifCond .ne 7, 3) := by decide +kernel
theorem dL_refusesAny_698 : decode cL_refusesAny 698 = .ok (.iconst (-1), 1) := by decide +kernel
theorem dL_refusesAny_699 : decode cL_refusesAny 699 = .ok (.goto 4, 3) := by decide +kernel
theorem dL_refusesAny_702 : decode cL_refusesAny 702 = .ok (.iconst 2, 1) := by decide +kernel
theorem dL_refusesAny_703 : decode cL_refusesAny 703 = .ok (.invokevirtual 89, 3) := by decide +kernel
theorem dL_refusesAny_706 : decode cL_refusesAny 706 = .ok (.bipush (-2), 2) := by decide +kernel
theorem dL_refusesAny_708 : decode cL_refusesAny 708 = .ok (.if_icmp .ne 7, 3) := by decide +kernel
theorem dL_refusesAny_711 : decode cL_refusesAny 711 = .ok (.iconst 1, 1) := by decide +kernel
theorem dL_refusesAny_712 : decode cL_refusesAny 712 = .ok (.goto 4, 3) := by decide +kernel
theorem dL_refusesAny_715 : decode cL_refusesAny 715 = .ok (.iconst 0, 1) := by decide +kernel
theorem dL_refusesAny_716 : decode cL_refusesAny 716 = .ok (.ireturn, 1) := by decide +kernel
theorem dL_refused_0 : decode cL_refused 0 = .ok (.aload_n 0, 1) := by decide +kernel
theorem dL_refused_1 : decode cL_refused 1 = .ok (.invokestatic 92, 3) := by decide +kernel
theorem dL_refused_4 : decode cL_refused 4 = .ok (.lstore_n 1, 1) := by decide +kernel
theorem dL_refused_5 : decode cL_refused 5 = .ok (.aload_n 0, 1) := by decide +kernel
theorem dL_refused_6 : decode cL_refused 6 = .ok (.bipush 12, 2) := by decide +kernel
theorem dL_refused_8 : decode cL_refused 8 = .ok (.invokevirtual 13, 3) := by decide +kernel
theorem dL_refused_11 : decode cL_refused 11 = .ok (.istore_n 3, 1) := by decide +kernel
theorem dL_refused_12 : decode cL_refused 12 = .ok (.aload_n 0, 1) := by decide +kernel
theorem dL_refused_13 : decode cL_refused 13 = .ok (.bipush 11, 2) := by decide +kernel
theorem dL_refused_15 : decode cL_refused 15 = .ok (.invokevirtual 13, 3) := by decide +kernel
theorem dL_refused_18 : decode cL_refused 18 = .ok (.istore 4, 2) := by decide +kernel
theorem dL_refused_20 : decode cL_refused 20 = .ok (.aload_n 0, 1) := by decide +kernel
theorem dL_refused_21 : decode cL_refused 21 = .ok (.iconst 0, 1) := by decide +kernel
theorem dL_refused_22 : decode cL_refused 22 = .ok (.invokestatic 96, 3) := by decide +kernel
theorem dL_refused_25 : decode cL_refused 25 = .ok (.ifCond .eq 45, 3) := by decide +kernel
theorem dL_refused_28 : decode cL_refused 28 = .ok (.aload_n 0, 1) := by decide +kernel
theorem dL_refused_29 : decode cL_refused 29 = .ok (.iconst 1, 1) := by decide +kernel
theorem dL_refused_30 : decode cL_refused 30 = .ok (.invokestatic 96, 3) := by decide +kernel
theorem dL_refused_33 : decode cL_refused 33 = .ok (.ifCond .eq 37, 3) := by decide +kernel
theorem dL_refused_36 : decode cL_refused 36 = .ok (.aload_n 0, 1) := by decide +kernel
theorem dL_refused_37 : decode cL_refused 37 = .ok (.invokestatic 92, 3) := by decide +kernel
theorem dL_refused_40 : decode cL_refused 40 = .ok (.lload_n 1, 1) := by decide +kernel
theorem dL_refused_41 : decode cL_refused 41 = .ok (.lcmp, 1) := by decide +kernel
theorem dL_refused_42 : decode cL_refused 42 = .ok (.ifCond .ne 28, 3) := by decide +kernel
theorem dL_refused_45 : decode cL_refused 45 = .ok (.aload_n 0, 1) := by decide +kernel
theorem dL_refused_46 : decode cL_refused 46 = .ok (.bipush 12, 2) := by decide +kernel
theorem dL_refused_48 : decode cL_refused 48 = .ok (.invokevirtual 13, 3) := by decide +kernel
theorem dL_refused_51 : decode cL_refused 51 = .ok (.iload_n 3, 1) := by decide +kernel
theorem dL_refused_52 : decode cL_refused 52 = .ok (.if_icmp .ne 18, 3) := by decide +kernel
theorem dL_refused_55 : decode cL_refused 55 = .ok (.aload_n 0, 1) := by decide +kernel
theorem dL_refused_56 : decode cL_refused 56 = .ok (.bipush 11, 2) := by decide +kernel
theorem dL_refused_58 : decode cL_refused 58 = .ok (.invokevirtual 13, 3) := by decide +kernel
theorem dL_refused_61 : decode cL_refused 61 = .ok (.iload 4, 2) := by decide +kernel
theorem dL_refused_63 : decode cL_refused 63 = .ok (.if_icmp .ne 7, 3) := by decide +kernel
theorem dL_refused_66 : decode cL_refused 66 = .ok (.iconst 1, 1) := by decide +kernel
theorem dL_refused_67 : decode cL_refused 67 = .ok (.goto 4, 3) := by decide +kernel
theorem dL_refused_70 : decode cL_refused 70 = .ok (.iconst 0, 1) := by decide +kernel
theorem dL_refused_71 : decode cL_refused 71 = .ok (.ireturn, 1) := by decide +kernel
theorem dL_codes_0 : decode cL_codes 0 = .ok (.new 14, 3) := by decide +kernel
theorem dL_codes_3 : decode cL_codes 3 = .ok (.dup, 1) := by decide +kernel
theorem dL_codes_4 : decode cL_codes 4 = .ok (.invokespecial 100, 3) := by decide +kernel
theorem dL_codes_7 : decode cL_codes 7 = .ok (.astore_n 0, 1) := by decide +kernel
theorem dL_codes_8 : decode cL_codes 8 = .ok (.aload_n 0, 1) := by decide +kernel
theorem dL_codes_9 : decode cL_codes 9 = .ok (.iconst 0, 1) := by decide +kernel
theorem dL_codes_10 : decode cL_codes 10 = .ok (.iconst 0, 1) := by decide +kernel
theorem dL_codes_11 : decode cL_codes 11 = .ok (.iconst 0, 1) := by decide +kernel
theorem dL_codes_12 : decode cL_codes 12 = .ok (.iconst 0, 1) := by decide +kernel
theorem dL_codes_13 : decode cL_codes 13 = .ok (.invokevirtual 101, 3) := by decide +kernel
theorem dL_codes_16 : decode cL_codes 16 = .ok (.bipush 7, 2) := by decide +kernel
theorem dL_codes_18 : decode cL_codes 18 = .ok (.if_icmp .ne 224, 3) := by decide +kernel
theorem dL_codes_21 : decode cL_codes 21 = .ok (.aload_n 0, 1) := by decide +kernel
theorem dL_codes_22 : decode cL_codes 22 = .ok (.iconst 1, 1) := by decide +kernel
theorem dL_codes_23 : decode cL_codes 23 = .ok (.iconst 2, 1) := by decide +kernel
theorem dL_codes_24 : decode cL_codes 24 = .ok (.iconst 0, 1) := by decide +kernel
theorem dL_codes_25 : decode cL_codes 25 = .ok (.iconst 5, 1) := by decide +kernel
theorem dL_codes_26 : decode cL_codes 26 = .ok (.invokevirtual 101, 3) := by decide +kernel
theorem dL_codes_29 : decode cL_codes 29 = .ok (.sipush 237, 3) := by decide +kernel
theorem dL_codes_32 : decode cL_codes 32 = .ok (.if_icmp .ne 210, 3) := by decide +kernel
theorem dL_codes_35 : decode cL_codes 35 = .ok (.aload_n 0, 1) := by decide +kernel
theorem dL_codes_36 : decode cL_codes 36 = .ok (.iconst 5, 1) := by decide +kernel
theorem dL_codes_37 : decode cL_codes 37 = .ok (.iconst 0, 1) := by decide +kernel
theorem dL_codes_38 : decode cL_codes 38 = .ok (.iconst 1, 1) := by decide +kernel
theorem dL_codes_39 : decode cL_codes 39 = .ok (.bipush (-7), 2) := by decide +kernel
theorem dL_codes_41 : decode cL_codes 41 = .ok (.invokevirtual 101, 3) := by decide +kernel
theorem dL_codes_44 : decode cL_codes 44 = .ok (.sipush 690, 3) := by decide +kernel
theorem dL_codes_47 : decode cL_codes 47 = .ok (.if_icmp .ne 195, 3) := by decide +kernel
theorem dL_codes_50 : decode cL_codes 50 = .ok (.aload_n 0, 1) := by decide +kernel
theorem dL_codes_51 : decode cL_codes 51 = .ok (.bipush 9, 2) := by decide +kernel
theorem dL_codes_53 : decode cL_codes 53 = .ok (.iconst 1, 1) := by decide +kernel
theorem dL_codes_54 : decode cL_codes 54 = .ok (.iconst 2, 1) := by decide +kernel
theorem dL_codes_55 : decode cL_codes 55 = .ok (.iconst 1, 1) := by decide +kernel
theorem dL_codes_56 : decode cL_codes 56 = .ok (.invokevirtual 101, 3) := by decide +kernel
theorem dL_codes_59 : decode cL_codes 59 = .ok (.sipush 1298, 3) := by decide +kernel
theorem dL_codes_62 : decode cL_codes 62 = .ok (.if_icmp .ne 180, 3) := by decide +kernel
theorem dL_codes_65 : decode cL_codes 65 = .ok (.aload_n 0, 1) := by decide +kernel
theorem dL_codes_66 : decode cL_codes 66 = .ok (.iconst 0, 1) := by decide +kernel
theorem dL_codes_67 : decode cL_codes 67 = .ok (.iconst 1, 1) := by decide +kernel
theorem dL_codes_68 : decode cL_codes 68 = .ok (.iconst 0, 1) := by decide +kernel
theorem dL_codes_69 : decode cL_codes 69 = .ok (.iconst 0, 1) := by decide +kernel
theorem dL_codes_70 : decode cL_codes 70 = .ok (.invokevirtual 101, 3) := by decide +kernel
theorem dL_codes_73 : decode cL_codes 73 = .ok (.bipush (-2), 2) := by decide +kernel
theorem dL_codes_75 : decode cL_codes 75 = .ok (.if_icmp .ne 167, 3) := by decide +kernel
theorem dL_codes_78 : decode cL_codes 78 = .ok (.aload_n 0, 1) := by decide +kernel
theorem dL_codes_79 : decode cL_codes 79 = .ok (.iconst 0, 1) := by decide +kernel
theorem dL_codes_80 : decode cL_codes 80 = .ok (.iconst 0, 1) := by decide +kernel
theorem dL_codes_81 : decode cL_codes 81 = .ok (.iconst 0, 1) := by decide +kernel
theorem dL_codes_82 : decode cL_codes 82 = .ok (.iconst 1, 1) := by decide +kernel
theorem dL_codes_83 : decode cL_codes 83 = .ok (.invokevirtual 101, 3) := by decide +kernel
theorem dL_codes_86 : decode cL_codes 86 = .ok (.bipush (-2), 2) := by decide +kernel
theorem dL_codes_88 : decode cL_codes 88 = .ok (.if_icmp .ne 154, 3) := by decide +kernel
theorem dL_codes_91 : decode cL_codes 91 = .ok (.aload_n 0, 1) := by decide +kernel
theorem dL_codes_92 : decode cL_codes 92 = .ok (.iconst 1, 1) := by decide +kernel
theorem dL_codes_93 : decode cL_codes 93 = .ok (.iconst 0, 1) := by decide +kernel
theorem dL_codes_94 : decode cL_codes 94 = .ok (.iconst 1, 1) := by decide +kernel
theorem dL_codes_95 : decode cL_codes 95 = .ok (.iconst 0, 1) := by decide +kernel
theorem dL_codes_96 : decode cL_codes 96 = .ok (.invokevirtual 101, 3) := by decide +kernel
theorem dL_codes_99 : decode cL_codes 99 = .ok (.bipush (-2), 2) := by decide +kernel
theorem dL_codes_101 : decode cL_codes 101 = .ok (.if_icmp .ne 141, 3) := by decide +kernel
theorem dL_codes_104 : decode cL_codes 104 = .ok (.aload_n 0, 1) := by decide +kernel
theorem dL_codes_105 : decode cL_codes 105 = .ok (.iconst 1, 1) := by decide +kernel
theorem dL_codes_106 : decode cL_codes 106 = .ok (.iconst 0, 1) := by decide +kernel
theorem dL_codes_107 : decode cL_codes 107 = .ok (.iconst 0, 1) := by decide +kernel
theorem dL_codes_108 : decode cL_codes 108 = .ok (.bipush 8, 2) := by decide +kernel
theorem dL_codes_110 : decode cL_codes 110 = .ok (.invokevirtual 101, 3) := by decide +kernel
theorem dL_codes_113 : decode cL_codes 113 = .ok (.bipush (-2), 2) := by decide +kernel
theorem dL_codes_115 : decode cL_codes 115 = .ok (.if_icmp .ne 127, 3) := by decide +kernel
theorem dL_codes_118 : decode cL_codes 118 = .ok (.aload_n 0, 1) := by decide +kernel
theorem dL_codes_119 : decode cL_codes 119 = .ok (.iconst 4, 1) := by decide +kernel
theorem dL_codes_120 : decode cL_codes 120 = .ok (.iconst 0, 1) := by decide +kernel
theorem dL_codes_121 : decode cL_codes 121 = .ok (.iconst 0, 1) := by decide +kernel
theorem dL_codes_122 : decode cL_codes 122 = .ok (.iconst (-1), 1) := by decide +kernel
theorem dL_codes_123 : decode cL_codes 123 = .ok (.invokevirtual 101, 3) := by decide +kernel
theorem dL_codes_126 : decode cL_codes 126 = .ok (.bipush (-2), 2) := by decide +kernel
theorem dL_codes_128 : decode cL_codes 128 = .ok (.if_icmp .ne 114, 3) := by decide +kernel
theorem dL_codes_131 : decode cL_codes 131 = .ok (.aload_n 0, 1) := by decide +kernel
theorem dL_codes_132 : decode cL_codes 132 = .ok (.iconst 5, 1) := by decide +kernel
theorem dL_codes_133 : decode cL_codes 133 = .ok (.iconst 1, 1) := by decide +kernel
theorem dL_codes_134 : decode cL_codes 134 = .ok (.iconst 1, 1) := by decide +kernel
theorem dL_codes_135 : decode cL_codes 135 = .ok (.iconst 0, 1) := by decide +kernel
theorem dL_codes_136 : decode cL_codes 136 = .ok (.invokevirtual 101, 3) := by decide +kernel
theorem dL_codes_139 : decode cL_codes 139 = .ok (.bipush (-2), 2) := by decide +kernel
theorem dL_codes_141 : decode cL_codes 141 = .ok (.if_icmp .ne 101, 3) := by decide +kernel
theorem dL_codes_144 : decode cL_codes 144 = .ok (.aload_n 0, 1) := by decide +kernel
theorem dL_codes_145 : decode cL_codes 145 = .ok (.bipush 7, 2) := by decide +kernel
theorem dL_codes_147 : decode cL_codes 147 = .ok (.iconst 0, 1) := by decide +kernel
theorem dL_codes_148 : decode cL_codes 148 = .ok (.iconst 1, 1) := by decide +kernel
theorem dL_codes_149 : decode cL_codes 149 = .ok (.bipush 8, 2) := by decide +kernel
theorem dL_codes_151 : decode cL_codes 151 = .ok (.invokevirtual 101, 3) := by decide +kernel
theorem dL_codes_154 : decode cL_codes 154 = .ok (.bipush (-2), 2) := by decide +kernel
theorem dL_codes_156 : decode cL_codes 156 = .ok (.if_icmp .ne 86, 3) := by decide +kernel
theorem dL_codes_159 : decode cL_codes 159 = .ok (.aload_n 0, 1) := by decide +kernel
theorem dL_codes_160 : decode cL_codes 160 = .ok (.bipush 8, 2) := by decide +kernel
theorem dL_codes_162 : decode cL_codes 162 = .ok (.iconst 1, 1) := by decide +kernel
theorem dL_codes_163 : decode cL_codes 163 = .ok (.iconst 0, 1) := by decide +kernel
theorem dL_codes_164 : decode cL_codes 164 = .ok (.iconst 3, 1) := by decide +kernel
theorem dL_codes_165 : decode cL_codes 165 = .ok (.invokevirtual 101, 3) := by decide +kernel
theorem dL_codes_168 : decode cL_codes 168 = .ok (.bipush (-2), 2) := by decide +kernel
theorem dL_codes_170 : decode cL_codes 170 = .ok (.if_icmp .ne 72, 3) := by decide +kernel
theorem dL_codes_173 : decode cL_codes 173 = .ok (.aload_n 0, 1) := by decide +kernel
theorem dL_codes_174 : decode cL_codes 174 = .ok (.bipush 8, 2) := by decide +kernel
theorem dL_codes_176 : decode cL_codes 176 = .ok (.iconst 0, 1) := by decide +kernel
theorem dL_codes_177 : decode cL_codes 177 = .ok (.iconst 1, 1) := by decide +kernel
theorem dL_codes_178 : decode cL_codes 178 = .ok (.bipush 8, 2) := by decide +kernel
theorem dL_codes_180 : decode cL_codes 180 = .ok (.invokevirtual 101, 3) := by decide +kernel
theorem dL_codes_183 : decode cL_codes 183 = .ok (.bipush (-2), 2) := by decide +kernel
theorem dL_codes_185 : decode cL_codes 185 = .ok (.if_icmp .ne 57, 3) := by decide +kernel
theorem dL_codes_188 : decode cL_codes 188 = .ok (.aload_n 0, 1) := by decide +kernel
theorem dL_codes_189 : decode cL_codes 189 = .ok (.bipush 9, 2) := by decide +kernel
theorem dL_codes_191 : decode cL_codes 191 = .ok (.iconst 0, 1) := by decide +kernel
theorem dL_codes_192 : decode cL_codes 192 = .ok (.iconst 1, 1) := by decide +kernel
theorem dL_codes_193 : decode cL_codes 193 = .ok (.iconst 2, 1) := by decide +kernel
theorem dL_codes_194 : decode cL_codes 194 = .ok (.invokevirtual 101, 3) := by decide +kernel
theorem dL_codes_197 : decode cL_codes 197 = .ok (.bipush (-2), 2) := by decide +kernel
theorem dL_codes_199 : decode cL_codes 199 = .ok (.if_icmp .ne 43, 3) := by decide +kernel
theorem dL_codes_202 : decode cL_codes 202 = .ok (.aload_n 0, 1) := by decide +kernel
theorem dL_codes_203 : decode cL_codes 203 = .ok (.bipush 10, 2) := by decide +kernel
theorem dL_codes_205 : decode cL_codes 205 = .ok (.iconst 0, 1) := by decide +kernel
theorem dL_codes_206 : decode cL_codes 206 = .ok (.iconst 0, 1) := by decide +kernel
theorem dL_codes_207 : decode cL_codes 207 = .ok (.iconst 0, 1) := by decide +kernel
theorem dL_codes_208 : decode cL_codes 208 = .ok (.invokevirtual 101, 3) := by decide +kernel
theorem dL_codes_211 : decode cL_codes 211 = .ok (.bipush (-2), 2) := by decide +kernel
theorem dL_codes_213 : decode cL_codes 213 = .ok (.if_icmp .ne 29, 3) := by decide +kernel
theorem dL_codes_216 : decode cL_codes 216 = .ok (.aload_n 0, 1) := by decide +kernel
theorem dL_codes_217 : decode cL_codes 217 = .ok (.iconst 1, 1) := by decide +kernel
theorem dL_codes_218 : decode cL_codes 218 = .ok (.iconst 3, 1) := by decide +kernel
theorem dL_codes_219 : decode cL_codes 219 = .ok (.iconst 0, 1) := by decide +kernel
theorem dL_codes_220 : decode cL_codes 220 = .ok (.iconst 0, 1) := by decide +kernel
theorem dL_codes_221 : decode cL_codes 221 = .ok (.invokevirtual 101, 3) := by decide +kernel
theorem dL_codes_224 : decode cL_codes 224 = .ok (.bipush (-2), 2) := by decide +kernel
theorem dL_codes_226 : decode cL_codes 226 = .ok (.if_icmp .ne 16, 3) := by decide +kernel
theorem dL_codes_229 : decode cL_codes 229 = .ok (.aload_n 0, 1) := by decide +kernel
theorem dL_codes_230 : decode cL_codes 230 = .ok (.iconst (-1), 1) := by decide +kernel
theorem dL_codes_231 : decode cL_codes 231 = .ok (.iconst 0, 1) := by decide +kernel
theorem dL_codes_232 : decode cL_codes 232 = .ok (.iconst 0, 1) := by decide +kernel
theorem dL_codes_233 : decode cL_codes 233 = .ok (.iconst 0, 1) := by decide +kernel
theorem dL_codes_234 : decode cL_codes 234 = .ok (.invokevirtual 101, 3) := by decide +kernel
theorem dL_codes_237 : decode cL_codes 237 = .ok (.bipush (-2), 2) := by decide +kernel
theorem dL_codes_239 : decode cL_codes 239 = .ok (.if_icmp .eq 5, 3) := by decide +kernel
theorem dL_codes_242 : decode cL_codes 242 = .ok (.iconst 0, 1) := by decide +kernel
theorem dL_codes_243 : decode cL_codes 243 = .ok (.ireturn, 1) := by decide +kernel
theorem dL_codes_244 : decode cL_codes 244 = .ok (.aload_n 0, 1) := by decide +kernel
theorem dL_codes_245 : decode cL_codes 245 = .ok (.aload_n 0, 1) := by decide +kernel
theorem dL_codes_246 : decode cL_codes 246 = .ok (.iconst 5, 1) := by decide +kernel
theorem dL_codes_247 : decode cL_codes 247 = .ok (.iconst 0, 1) := by decide +kernel
theorem dL_codes_248 : decode cL_codes 248 = .ok (.iconst 1, 1) := by decide +kernel
theorem dL_codes_249 : decode cL_codes 249 = .ok (.iconst 2, 1) := by decide +kernel
theorem dL_codes_250 : decode cL_codes 250 = .ok (.invokevirtual 101, 3) := by decide +kernel
theorem dL_codes_253 : decode cL_codes 253 = .ok (.sipush 275, 3) := by decide +kernel
theorem dL_codes_256 : decode cL_codes 256 = .ok (.invokevirtual 51, 3) := by decide +kernel
theorem dL_codes_259 : decode cL_codes 259 = .ok (.iconst 1, 1) := by decide +kernel
theorem dL_codes_260 : decode cL_codes 260 = .ok (.if_icmp .ne 193, 3) := by decide +kernel
theorem dL_codes_263 : decode cL_codes 263 = .ok (.aload_n 0, 1) := by decide +kernel
theorem dL_codes_264 : decode cL_codes 264 = .ok (.aload_n 0, 1) := by decide +kernel
theorem dL_codes_265 : decode cL_codes 265 = .ok (.bipush 6, 2) := by decide +kernel
theorem dL_codes_267 : decode cL_codes 267 = .ok (.iconst 0, 1) := by decide +kernel
theorem dL_codes_268 : decode cL_codes 268 = .ok (.iconst 1, 1) := by decide +kernel
theorem dL_codes_269 : decode cL_codes 269 = .ok (.iconst 2, 1) := by decide +kernel
theorem dL_codes_270 : decode cL_codes 270 = .ok (.invokevirtual 101, 3) := by decide +kernel
theorem dL_codes_273 : decode cL_codes 273 = .ok (.sipush 275, 3) := by decide +kernel
theorem dL_codes_276 : decode cL_codes 276 = .ok (.invokevirtual 51, 3) := by decide +kernel
theorem dL_codes_279 : decode cL_codes 279 = .ok (.ifCond .ne 174, 3) := by decide +kernel
theorem dL_codes_282 : decode cL_codes 282 = .ok (.aload_n 0, 1) := by decide +kernel
theorem dL_codes_283 : decode cL_codes 283 = .ok (.aload_n 0, 1) := by decide +kernel
theorem dL_codes_284 : decode cL_codes 284 = .ok (.bipush 7, 2) := by decide +kernel
theorem dL_codes_286 : decode cL_codes 286 = .ok (.iconst 2, 1) := by decide +kernel
theorem dL_codes_287 : decode cL_codes 287 = .ok (.iconst 1, 1) := by decide +kernel
theorem dL_codes_288 : decode cL_codes 288 = .ok (.iconst 0, 1) := by decide +kernel
theorem dL_codes_289 : decode cL_codes 289 = .ok (.invokevirtual 101, 3) := by decide +kernel
theorem dL_codes_292 : decode cL_codes 292 = .ok (.sipush 275, 3) := by decide +kernel
theorem dL_codes_295 : decode cL_codes 295 = .ok (.invokevirtual 51, 3) := by decide +kernel
theorem dL_codes_298 : decode cL_codes 298 = .ok (.ifCond .ne 155, 3) := by decide +kernel
theorem dL_codes_301 : decode cL_codes 301 = .ok (.aload_n 0, 1) := by decide +kernel
theorem dL_codes_302 : decode cL_codes 302 = .ok (.aload_n 0, 1) := by decide +kernel
theorem dL_codes_303 : decode cL_codes 303 = .ok (.bipush 7, 2) := by decide +kernel
theorem dL_codes_305 : decode cL_codes 305 = .ok (.iconst 2, 1) := by decide +kernel
theorem dL_codes_306 : decode cL_codes 306 = .ok (.iconst 1, 1) := by decide +kernel
theorem dL_codes_307 : decode cL_codes 307 = .ok (.iconst 1, 1) := by decide +kernel
theorem dL_codes_308 : decode cL_codes 308 = .ok (.invokevirtual 101, 3) := by decide +kernel
theorem dL_codes_311 : decode cL_codes 311 = .ok (.sipush 275, 3) := by decide +kernel
theorem dL_codes_314 : decode cL_codes 314 = .ok (.invokevirtual 51, 3) := by decide +kernel
theorem dL_codes_317 : decode cL_codes 317 = .ok (.iconst 1, 1) := by decide +kernel
theorem dL_codes_318 : decode cL_codes 318 = .ok (.if_icmp .ne 135, 3) := by decide +kernel
theorem dL_codes_321 : decode cL_codes 321 = .ok (.aload_n 0, 1) := by decide +kernel
theorem dL_codes_322 : decode cL_codes 322 = .ok (.aload_n 0, 1) := by decide +kernel
theorem dL_codes_323 : decode cL_codes 323 = .ok (.bipush 8, 2) := by decide +kernel
theorem dL_codes_325 : decode cL_codes 325 = .ok (.iconst 0, 1) := by decide +kernel
theorem dL_codes_326 : decode cL_codes 326 = .ok (.iconst 2, 1) := by decide +kernel
theorem dL_codes_327 : decode cL_codes 327 = .ok (.bipush 7, 2) := by decide +kernel
theorem dL_codes_329 : decode cL_codes 329 = .ok (.invokevirtual 101, 3) := by decide +kernel
theorem dL_codes_332 : decode cL_codes 332 = .ok (.sipush 275, 3) := by decide +kernel
theorem dL_codes_335 : decode cL_codes 335 = .ok (.invokevirtual 51, 3) := by decide +kernel
theorem dL_codes_338 : decode cL_codes 338 = .ok (.iconst 1, 1) := by decide +kernel
theorem dL_codes_339 : decode cL_codes 339 = .ok (.if_icmp .ne 114, 3) := by decide +kernel
theorem dL_codes_342 : decode cL_codes 342 = .ok (.aload_n 0, 1) := by decide +kernel
theorem dL_codes_343 : decode cL_codes 343 = .ok (.aload_n 0, 1) := by decide +kernel
theorem dL_codes_344 : decode cL_codes 344 = .ok (.bipush 9, 2) := by decide +kernel
theorem dL_codes_346 : decode cL_codes 346 = .ok (.iconst 0, 1) := by decide +kernel
theorem dL_codes_347 : decode cL_codes 347 = .ok (.iconst 2, 1) := by decide +kernel
theorem dL_codes_348 : decode cL_codes 348 = .ok (.iconst 1, 1) := by decide +kernel
theorem dL_codes_349 : decode cL_codes 349 = .ok (.invokevirtual 101, 3) := by decide +kernel
theorem dL_codes_352 : decode cL_codes 352 = .ok (.sipush 275, 3) := by decide +kernel
theorem dL_codes_355 : decode cL_codes 355 = .ok (.invokevirtual 51, 3) := by decide +kernel
theorem dL_codes_358 : decode cL_codes 358 = .ok (.iconst 1, 1) := by decide +kernel
theorem dL_codes_359 : decode cL_codes 359 = .ok (.if_icmp .ne 94, 3) := by decide +kernel
theorem dL_codes_362 : decode cL_codes 362 = .ok (.aload_n 0, 1) := by decide +kernel
theorem dL_codes_363 : decode cL_codes 363 = .ok (.aload_n 0, 1) := by decide +kernel
theorem dL_codes_364 : decode cL_codes 364 = .ok (.bipush 9, 2) := by decide +kernel
theorem dL_codes_366 : decode cL_codes 366 = .ok (.iconst 0, 1) := by decide +kernel
theorem dL_codes_367 : decode cL_codes 367 = .ok (.iconst 1, 1) := by decide +kernel
theorem dL_codes_368 : decode cL_codes 368 = .ok (.iconst 1, 1) := by decide +kernel
theorem dL_codes_369 : decode cL_codes 369 = .ok (.invokevirtual 101, 3) := by decide +kernel
theorem dL_codes_372 : decode cL_codes 372 = .ok (.sipush 275, 3) := by decide +kernel
theorem dL_codes_375 : decode cL_codes 375 = .ok (.invokevirtual 51, 3) := by decide +kernel
theorem dL_codes_378 : decode cL_codes 378 = .ok (.ifCond .ne 75, 3) := by decide +kernel
theorem dL_codes_381 : decode cL_codes 381 = .ok (.aload_n 0, 1) := by decide +kernel
theorem dL_codes_382 : decode cL_codes 382 = .ok (.aload_n 0, 1) := by decide +kernel
theorem dL_codes_383 : decode cL_codes 383 = .ok (.iconst 3, 1) := by decide +kernel
theorem dL_codes_384 : decode cL_codes 384 = .ok (.iconst 2, 1) := by decide +kernel
theorem dL_codes_385 : decode cL_codes 385 = .ok (.iconst 0, 1) := by decide +kernel
theorem dL_codes_386 : decode cL_codes 386 = .ok (.iconst 3, 1) := by decide +kernel
theorem dL_codes_387 : decode cL_codes 387 = .ok (.invokevirtual 101, 3) := by decide +kernel
theorem dL_codes_390 : decode cL_codes 390 = .ok (.sipush 275, 3) := by decide +kernel
theorem dL_codes_393 : decode cL_codes 393 = .ok (.invokevirtual 51, 3) := by decide +kernel
theorem dL_codes_396 : decode cL_codes 396 = .ok (.iconst 1, 1) := by decide +kernel
theorem dL_codes_397 : decode cL_codes 397 = .ok (.if_icmp .ne 56, 3) := by decide +kernel
theorem dL_codes_400 : decode cL_codes 400 = .ok (.aload_n 0, 1) := by decide +kernel
theorem dL_codes_401 : decode cL_codes 401 = .ok (.aload_n 0, 1) := by decide +kernel
theorem dL_codes_402 : decode cL_codes 402 = .ok (.iconst 4, 1) := by decide +kernel
theorem dL_codes_403 : decode cL_codes 403 = .ok (.iconst 2, 1) := by decide +kernel
theorem dL_codes_404 : decode cL_codes 404 = .ok (.iconst 0, 1) := by decide +kernel
theorem dL_codes_405 : decode cL_codes 405 = .ok (.iconst 4, 1) := by decide +kernel
theorem dL_codes_406 : decode cL_codes 406 = .ok (.invokevirtual 101, 3) := by decide +kernel
theorem dL_codes_409 : decode cL_codes 409 = .ok (.sipush 275, 3) := by decide +kernel
theorem dL_codes_412 : decode cL_codes 412 = .ok (.invokevirtual 51, 3) := by decide +kernel
theorem dL_codes_415 : decode cL_codes 415 = .ok (.ifCond .ne 38, 3) := by decide +kernel
theorem dL_codes_418 : decode cL_codes 418 = .ok (.aload_n 0, 1) := by decide +kernel
theorem dL_codes_419 : decode cL_codes 419 = .ok (.aload_n 0, 1) := by decide +kernel
theorem dL_codes_420 : decode cL_codes 420 = .ok (.iconst 2, 1) := by decide +kernel
theorem dL_codes_421 : decode cL_codes 421 = .ok (.iconst 1, 1) := by decide +kernel
theorem dL_codes_422 : decode cL_codes 422 = .ok (.iconst 0, 1) := by decide +kernel
theorem dL_codes_423 : decode cL_codes 423 = .ok (.iconst 2, 1) := by decide +kernel
theorem dL_codes_424 : decode cL_codes 424 = .ok (.invokevirtual 101, 3) := by decide +kernel
theorem dL_codes_427 : decode cL_codes 427 = .ok (.sipush 275, 3) := by decide +kernel
theorem dL_codes_430 : decode cL_codes 430 = .ok (.invokevirtual 51, 3) := by decide +kernel
theorem dL_codes_433 : decode cL_codes 433 = .ok (.ifCond .ne 20, 3) := by decide +kernel
theorem dL_codes_436 : decode cL_codes 436 = .ok (.aload_n 0, 1) := by decide +kernel
theorem dL_codes_437 : decode cL_codes 437 = .ok (.sipush 690, 3) := by decide +kernel
theorem dL_codes_440 : decode cL_codes 440 = .ok (.bipush 56, 2) := by decide +kernel
theorem dL_codes_442 : decode cL_codes 442 = .ok (.invokevirtual 51, 3) := by decide +kernel
theorem dL_codes_445 : decode cL_codes 445 = .ok (.iconst 1, 1) := by decide +kernel
theorem dL_codes_446 : decode cL_codes 446 = .ok (.if_icmp .ne 7, 3) := by decide +kernel
theorem dL_codes_449 : decode cL_codes 449 = .ok (.iconst 1, 1) := by decide +kernel
theorem dL_codes_450 : decode cL_codes 450 = .ok (.goto 4, 3) := by decide +kernel
theorem dL_codes_453 : decode cL_codes 453 = .ok (.iconst 0, 1) := by decide +kernel
theorem dL_codes_454 : decode cL_codes 454 = .ok (.ireturn, 1) := by decide +kernel
theorem dL_isCandidate_0 : decode cL_isCandidate 0 = .ok (.aload_n 0, 1) := by decide +kernel
theorem dL_isCandidate_1 : decode cL_isCandidate 1 = .ok (.iload_n 1, 1) := by decide +kernel
theorem dL_isCandidate_2 : decode cL_isCandidate 2 = .ok (.iconst 1, 1) := by decide +kernel
theorem dL_isCandidate_3 : decode cL_isCandidate 3 = .ok (.invokevirtual 23, 3) := by decide +kernel
theorem dL_isCandidate_6 : decode cL_isCandidate 6 = .ok (.iload_n 2, 1) := by decide +kernel
theorem dL_isCandidate_7 : decode cL_isCandidate 7 = .ok (.if_icmp .ne 39, 3) := by decide +kernel
theorem dL_isCandidate_10 : decode cL_isCandidate 10 = .ok (.aload_n 0, 1) := by decide +kernel
theorem dL_isCandidate_11 : decode cL_isCandidate 11 = .ok (.iload_n 1, 1) := by decide +kernel
theorem dL_isCandidate_12 : decode cL_isCandidate 12 = .ok (.iconst 2, 1) := by decide +kernel
theorem dL_isCandidate_13 : decode cL_isCandidate 13 = .ok (.invokevirtual 23, 3) := by decide +kernel
theorem dL_isCandidate_16 : decode cL_isCandidate 16 = .ok (.iload_n 3, 1) := by decide +kernel
theorem dL_isCandidate_17 : decode cL_isCandidate 17 = .ok (.if_icmp .ne 29, 3) := by decide +kernel
theorem dL_isCandidate_20 : decode cL_isCandidate 20 = .ok (.aload_n 0, 1) := by decide +kernel
theorem dL_isCandidate_21 : decode cL_isCandidate 21 = .ok (.iload_n 1, 1) := by decide +kernel
theorem dL_isCandidate_22 : decode cL_isCandidate 22 = .ok (.iconst 3, 1) := by decide +kernel
theorem dL_isCandidate_23 : decode cL_isCandidate 23 = .ok (.invokevirtual 23, 3) := by decide +kernel
theorem dL_isCandidate_26 : decode cL_isCandidate 26 = .ok (.iload 4, 2) := by decide +kernel
theorem dL_isCandidate_28 : decode cL_isCandidate 28 = .ok (.if_icmp .ne 18, 3) := by decide +kernel
theorem dL_isCandidate_31 : decode cL_isCandidate 31 = .ok (.aload_n 0, 1) := by decide +kernel
theorem dL_isCandidate_32 : decode cL_isCandidate 32 = .ok (.iload_n 1, 1) := by decide +kernel
theorem dL_isCandidate_33 : decode cL_isCandidate 33 = .ok (.iconst 4, 1) := by decide +kernel
theorem dL_isCandidate_34 : decode cL_isCandidate 34 = .ok (.invokevirtual 23, 3) := by decide +kernel
theorem dL_isCandidate_37 : decode cL_isCandidate 37 = .ok (.iload 5, 2) := by decide +kernel
theorem dL_isCandidate_39 : decode cL_isCandidate 39 = .ok (.if_icmp .ne 7, 3) := by decide +kernel
theorem dL_isCandidate_42 : decode cL_isCandidate 42 = .ok (.iconst 1, 1) := by decide +kernel
theorem dL_isCandidate_43 : decode cL_isCandidate 43 = .ok (.goto 4, 3) := by decide +kernel
theorem dL_isCandidate_46 : decode cL_isCandidate 46 = .ok (.iconst 0, 1) := by decide +kernel
theorem dL_isCandidate_47 : decode cL_isCandidate 47 = .ok (.ireturn, 1) := by decide +kernel
theorem dL_counts_0 : decode cL_counts 0 = .ok (.new 14, 3) := by decide +kernel
theorem dL_counts_3 : decode cL_counts 3 = .ok (.dup, 1) := by decide +kernel
theorem dL_counts_4 : decode cL_counts 4 = .ok (.invokespecial 100, 3) := by decide +kernel
theorem dL_counts_7 : decode cL_counts 7 = .ok (.astore_n 0, 1) := by decide +kernel
theorem dL_counts_8 : decode cL_counts 8 = .ok (.aload_n 0, 1) := by decide +kernel
theorem dL_counts_9 : decode cL_counts 9 = .ok (.invokevirtual 105, 3) := by decide +kernel
theorem dL_counts_12 : decode cL_counts 12 = .ok (.bipush (-5), 2) := by decide +kernel
theorem dL_counts_14 : decode cL_counts 14 = .ok (.if_icmp .ne 127, 3) := by decide +kernel
theorem dL_counts_17 : decode cL_counts 17 = .ok (.aload_n 0, 1) := by decide +kernel
theorem dL_counts_18 : decode cL_counts 18 = .ok (.iconst 0, 1) := by decide +kernel
theorem dL_counts_19 : decode cL_counts 19 = .ok (.invokevirtual 89, 3) := by decide +kernel
theorem dL_counts_22 : decode cL_counts 22 = .ok (.bipush (-5), 2) := by decide +kernel
theorem dL_counts_24 : decode cL_counts 24 = .ok (.if_icmp .ne 117, 3) := by decide +kernel
theorem dL_counts_27 : decode cL_counts 27 = .ok (.aload_n 0, 1) := by decide +kernel
theorem dL_counts_28 : decode cL_counts 28 = .ok (.bipush 8, 2) := by decide +kernel
theorem dL_counts_30 : decode cL_counts 30 = .ok (.invokevirtual 13, 3) := by decide +kernel
theorem dL_counts_33 : decode cL_counts 33 = .ok (.sipush 512, 3) := by decide +kernel
theorem dL_counts_36 : decode cL_counts 36 = .ok (.if_icmp .ne 105, 3) := by decide +kernel
theorem dL_counts_39 : decode cL_counts 39 = .ok (.aload_n 0, 1) := by decide +kernel
theorem dL_counts_40 : decode cL_counts 40 = .ok (.bipush 9, 2) := by decide +kernel
theorem dL_counts_42 : decode cL_counts 42 = .ok (.invokevirtual 13, 3) := by decide +kernel
theorem dL_counts_45 : decode cL_counts 45 = .ok (.iconst 1, 1) := by decide +kernel
theorem dL_counts_46 : decode cL_counts 46 = .ok (.if_icmp .ne 95, 3) := by decide +kernel
theorem dL_counts_49 : decode cL_counts 49 = .ok (.aload_n 0, 1) := by decide +kernel
theorem dL_counts_50 : decode cL_counts 50 = .ok (.bipush 10, 2) := by decide +kernel
theorem dL_counts_52 : decode cL_counts 52 = .ok (.invokevirtual 13, 3) := by decide +kernel
theorem dL_counts_55 : decode cL_counts 55 = .ok (.iconst 1, 1) := by decide +kernel
theorem dL_counts_56 : decode cL_counts 56 = .ok (.if_icmp .ne 85, 3) := by decide +kernel
theorem dL_counts_59 : decode cL_counts 59 = .ok (.aload_n 0, 1) := by decide +kernel
theorem dL_counts_60 : decode cL_counts 60 = .ok (.bipush 7, 2) := by decide +kernel
theorem dL_counts_62 : decode cL_counts 62 = .ok (.invokevirtual 70, 3) := by decide +kernel
theorem dL_counts_65 : decode cL_counts 65 = .ok (.lconst 0, 1) := by decide +kernel
theorem dL_counts_66 : decode cL_counts 66 = .ok (.lcmp, 1) := by decide +kernel
theorem dL_counts_67 : decode cL_counts 67 = .ok (.ifCond .ne 74, 3) := by decide +kernel
theorem dL_counts_70 : decode cL_counts 70 = .ok (.aload_n 0, 1) := by decide +kernel
theorem dL_counts_71 : decode cL_counts 71 = .ok (.bipush 7, 2) := by decide +kernel
theorem dL_counts_73 : decode cL_counts 73 = .ok (.iconst 1, 1) := by decide +kernel
theorem dL_counts_74 : decode cL_counts 74 = .ok (.iconst 0, 1) := by decide +kernel
theorem dL_counts_75 : decode cL_counts 75 = .ok (.iconst 0, 1) := by decide +kernel
theorem dL_counts_76 : decode cL_counts 76 = .ok (.iconst 1, 1) := by decide +kernel
theorem dL_counts_77 : decode cL_counts 77 = .ok (.invokevirtual 35, 3) := by decide +kernel
theorem dL_counts_80 : decode cL_counts 80 = .ok (.ifCond .ne 61, 3) := by decide +kernel
theorem dL_counts_83 : decode cL_counts 83 = .ok (.aload_n 0, 1) := by decide +kernel
theorem dL_counts_84 : decode cL_counts 84 = .ok (.iconst 0, 1) := by decide +kernel
theorem dL_counts_85 : decode cL_counts 85 = .ok (.iconst 0, 1) := by decide +kernel
theorem dL_counts_86 : decode cL_counts 86 = .ok (.invokevirtual 54, 3) := by decide +kernel
theorem dL_counts_89 : decode cL_counts 89 = .ok (.bipush 64, 2) := by decide +kernel
theorem dL_counts_91 : decode cL_counts 91 = .ok (.if_icmp .ne 50, 3) := by decide +kernel
theorem dL_counts_94 : decode cL_counts 94 = .ok (.aload_n 0, 1) := by decide +kernel
theorem dL_counts_95 : decode cL_counts 95 = .ok (.iconst 0, 1) := by decide +kernel
theorem dL_counts_96 : decode cL_counts 96 = .ok (.sipush 448, 3) := by decide +kernel
theorem dL_counts_99 : decode cL_counts 99 = .ok (.invokevirtual 54, 3) := by decide +kernel
theorem dL_counts_102 : decode cL_counts 102 = .ok (.bipush (-6), 2) := by decide +kernel
theorem dL_counts_104 : decode cL_counts 104 = .ok (.if_icmp .ne 37, 3) := by decide +kernel
theorem dL_counts_107 : decode cL_counts 107 = .ok (.aload_n 0, 1) := by decide +kernel
theorem dL_counts_108 : decode cL_counts 108 = .ok (.bipush 9, 2) := by decide +kernel
theorem dL_counts_110 : decode cL_counts 110 = .ok (.invokevirtual 13, 3) := by decide +kernel
theorem dL_counts_113 : decode cL_counts 113 = .ok (.bipush 8, 2) := by decide +kernel
theorem dL_counts_115 : decode cL_counts 115 = .ok (.if_icmp .ne 26, 3) := by decide +kernel
theorem dL_counts_118 : decode cL_counts 118 = .ok (.aload_n 0, 1) := by decide +kernel
theorem dL_counts_119 : decode cL_counts 119 = .ok (.iconst 0, 1) := by decide +kernel
theorem dL_counts_120 : decode cL_counts 120 = .ok (.iconst 4, 1) := by decide +kernel
theorem dL_counts_121 : decode cL_counts 121 = .ok (.invokevirtual 19, 3) := by decide +kernel
theorem dL_counts_124 : decode cL_counts 124 = .ok (.bipush 8, 2) := by decide +kernel
theorem dL_counts_126 : decode cL_counts 126 = .ok (.if_icmp .ne 15, 3) := by decide +kernel
theorem dL_counts_129 : decode cL_counts 129 = .ok (.aload_n 0, 1) := by decide +kernel
theorem dL_counts_130 : decode cL_counts 130 = .ok (.iconst 0, 1) := by decide +kernel
theorem dL_counts_131 : decode cL_counts 131 = .ok (.iconst 5, 1) := by decide +kernel
theorem dL_counts_132 : decode cL_counts 132 = .ok (.invokevirtual 19, 3) := by decide +kernel
theorem dL_counts_135 : decode cL_counts 135 = .ok (.sipush 448, 3) := by decide +kernel
theorem dL_counts_138 : decode cL_counts 138 = .ok (.if_icmp .eq 5, 3) := by decide +kernel
theorem dL_counts_141 : decode cL_counts 141 = .ok (.iconst 0, 1) := by decide +kernel
theorem dL_counts_142 : decode cL_counts 142 = .ok (.ireturn, 1) := by decide +kernel
theorem dL_counts_143 : decode cL_counts 143 = .ok (.aload_n 0, 1) := by decide +kernel
theorem dL_counts_144 : decode cL_counts 144 = .ok (.sipush 418, 3) := by decide +kernel
theorem dL_counts_147 : decode cL_counts 147 = .ok (.invokevirtual 42, 3) := by decide +kernel
theorem dL_counts_150 : decode cL_counts 150 = .ok (.ifCond .ne 152, 3) := by decide +kernel
theorem dL_counts_153 : decode cL_counts 153 = .ok (.aload_n 0, 1) := by decide +kernel
theorem dL_counts_154 : decode cL_counts 154 = .ok (.sipush 232, 3) := by decide +kernel
theorem dL_counts_157 : decode cL_counts 157 = .ok (.invokevirtual 42, 3) := by decide +kernel
theorem dL_counts_160 : decode cL_counts 160 = .ok (.iconst 1, 1) := by decide +kernel
theorem dL_counts_161 : decode cL_counts 161 = .ok (.if_icmp .ne 141, 3) := by decide +kernel
theorem dL_counts_164 : decode cL_counts 164 = .ok (.aload_n 0, 1) := by decide +kernel
theorem dL_counts_165 : decode cL_counts 165 = .ok (.sipush 1237, 3) := by decide +kernel
theorem dL_counts_168 : decode cL_counts 168 = .ok (.invokevirtual 42, 3) := by decide +kernel
theorem dL_counts_171 : decode cL_counts 171 = .ok (.iconst 2, 1) := by decide +kernel
theorem dL_counts_172 : decode cL_counts 172 = .ok (.if_icmp .ne 130, 3) := by decide +kernel
theorem dL_counts_175 : decode cL_counts 175 = .ok (.aload_n 0, 1) := by decide +kernel
theorem dL_counts_176 : decode cL_counts 176 = .ok (.sipush 232, 3) := by decide +kernel
theorem dL_counts_179 : decode cL_counts 179 = .ok (.invokevirtual 42, 3) := by decide +kernel
theorem dL_counts_182 : decode cL_counts 182 = .ok (.bipush (-5), 2) := by decide +kernel
theorem dL_counts_184 : decode cL_counts 184 = .ok (.if_icmp .ne 118, 3) := by decide +kernel
theorem dL_counts_187 : decode cL_counts 187 = .ok (.aload_n 0, 1) := by decide +kernel
theorem dL_counts_188 : decode cL_counts 188 = .ok (.aload_n 0, 1) := by decide +kernel
theorem dL_counts_189 : decode cL_counts 189 = .ok (.iconst 1, 1) := by decide +kernel
theorem dL_counts_190 : decode cL_counts 190 = .ok (.iconst 0, 1) := by decide +kernel
theorem dL_counts_191 : decode cL_counts 191 = .ok (.iconst 0, 1) := by decide +kernel
theorem dL_counts_192 : decode cL_counts 192 = .ok (.iconst 3, 1) := by decide +kernel
theorem dL_counts_193 : decode cL_counts 193 = .ok (.invokevirtual 101, 3) := by decide +kernel
theorem dL_counts_196 : decode cL_counts 196 = .ok (.invokevirtual 42, 3) := by decide +kernel
theorem dL_counts_199 : decode cL_counts 199 = .ok (.iconst 3, 1) := by decide +kernel
theorem dL_counts_200 : decode cL_counts 200 = .ok (.if_icmp .ne 102, 3) := by decide +kernel
theorem dL_counts_203 : decode cL_counts 203 = .ok (.aload_n 0, 1) := by decide +kernel
theorem dL_counts_204 : decode cL_counts 204 = .ok (.iconst 3, 1) := by decide +kernel
theorem dL_counts_205 : decode cL_counts 205 = .ok (.iconst 1, 1) := by decide +kernel
theorem dL_counts_206 : decode cL_counts 206 = .ok (.iconst 0, 1) := by decide +kernel
theorem dL_counts_207 : decode cL_counts 207 = .ok (.bipush (-6), 2) := by decide +kernel
theorem dL_counts_209 : decode cL_counts 209 = .ok (.bipush (-6), 2) := by decide +kernel
theorem dL_counts_211 : decode cL_counts 211 = .ok (.invokestatic 109, 3) := by decide +kernel
theorem dL_counts_214 : decode cL_counts 214 = .ok (.ifCond .eq 88, 3) := by decide +kernel
theorem dL_counts_217 : decode cL_counts 217 = .ok (.aload_n 0, 1) := by decide +kernel
theorem dL_counts_218 : decode cL_counts 218 = .ok (.iconst 2, 1) := by decide +kernel
theorem dL_counts_219 : decode cL_counts 219 = .ok (.invokevirtual 13, 3) := by decide +kernel
theorem dL_counts_222 : decode cL_counts 222 = .ok (.iconst 3, 1) := by decide +kernel
theorem dL_counts_223 : decode cL_counts 223 = .ok (.if_icmp .ne 79, 3) := by decide +kernel
theorem dL_counts_226 : decode cL_counts 226 = .ok (.aload_n 0, 1) := by decide +kernel
theorem dL_counts_227 : decode cL_counts 227 = .ok (.iconst 0, 1) := by decide +kernel
theorem dL_counts_228 : decode cL_counts 228 = .ok (.iconst 3, 1) := by decide +kernel
theorem dL_counts_229 : decode cL_counts 229 = .ok (.invokevirtual 48, 3) := by decide +kernel
theorem dL_counts_232 : decode cL_counts 232 = .ok (.iconst 3, 1) := by decide +kernel
theorem dL_counts_233 : decode cL_counts 233 = .ok (.if_icmp .ne 69, 3) := by decide +kernel
theorem dL_counts_236 : decode cL_counts 236 = .ok (.aload_n 0, 1) := by decide +kernel
theorem dL_counts_237 : decode cL_counts 237 = .ok (.iconst 3, 1) := by decide +kernel
theorem dL_counts_238 : decode cL_counts 238 = .ok (.invokevirtual 13, 3) := by decide +kernel
theorem dL_counts_241 : decode cL_counts 241 = .ok (.iconst 4, 1) := by decide +kernel
theorem dL_counts_242 : decode cL_counts 242 = .ok (.if_icmp .ne 60, 3) := by decide +kernel
theorem dL_counts_245 : decode cL_counts 245 = .ok (.aload_n 0, 1) := by decide +kernel
theorem dL_counts_246 : decode cL_counts 246 = .ok (.iconst 4, 1) := by decide +kernel
theorem dL_counts_247 : decode cL_counts 247 = .ok (.invokevirtual 13, 3) := by decide +kernel
theorem dL_counts_250 : decode cL_counts 250 = .ok (.iconst 1, 1) := by decide +kernel
theorem dL_counts_251 : decode cL_counts 251 = .ok (.if_icmp .ne 51, 3) := by decide +kernel
theorem dL_counts_254 : decode cL_counts 254 = .ok (.aload_n 0, 1) := by decide +kernel
theorem dL_counts_255 : decode cL_counts 255 = .ok (.iconst 2, 1) := by decide +kernel
theorem dL_counts_256 : decode cL_counts 256 = .ok (.iconst 2, 1) := by decide +kernel
theorem dL_counts_257 : decode cL_counts 257 = .ok (.bipush 64, 2) := by decide +kernel
theorem dL_counts_259 : decode cL_counts 259 = .ok (.iconst 0, 1) := by decide +kernel
theorem dL_counts_260 : decode cL_counts 260 = .ok (.bipush (-6), 2) := by decide +kernel
theorem dL_counts_262 : decode cL_counts 262 = .ok (.invokestatic 109, 3) := by decide +kernel
theorem dL_counts_265 : decode cL_counts 265 = .ok (.ifCond .eq 37, 3) := by decide +kernel
theorem dL_counts_268 : decode cL_counts 268 = .ok (.aload_n 0, 1) := by decide +kernel
theorem dL_counts_269 : decode cL_counts 269 = .ok (.iconst 0, 1) := by decide +kernel
theorem dL_counts_270 : decode cL_counts 270 = .ok (.iconst 0, 1) := by decide +kernel
theorem dL_counts_271 : decode cL_counts 271 = .ok (.bipush (-6), 2) := by decide +kernel
theorem dL_counts_273 : decode cL_counts 273 = .ok (.bipush (-6), 2) := by decide +kernel
theorem dL_counts_275 : decode cL_counts 275 = .ok (.bipush (-6), 2) := by decide +kernel
theorem dL_counts_277 : decode cL_counts 277 = .ok (.invokestatic 109, 3) := by decide +kernel
theorem dL_counts_280 : decode cL_counts 280 = .ok (.ifCond .eq 22, 3) := by decide +kernel
theorem dL_counts_283 : decode cL_counts 283 = .ok (.aload_n 0, 1) := by decide +kernel
theorem dL_counts_284 : decode cL_counts 284 = .ok (.bipush 77, 2) := by decide +kernel
theorem dL_counts_286 : decode cL_counts 286 = .ok (.iconst 3, 1) := by decide +kernel
theorem dL_counts_287 : decode cL_counts 287 = .ok (.invokevirtual 48, 3) := by decide +kernel
theorem dL_counts_290 : decode cL_counts 290 = .ok (.ifCond .ne 12, 3) := by decide +kernel
theorem dL_counts_293 : decode cL_counts 293 = .ok (.aload_n 0, 1) := by decide +kernel
theorem dL_counts_294 : decode cL_counts 294 = .ok (.iconst 4, 1) := by decide +kernel
theorem dL_counts_295 : decode cL_counts 295 = .ok (.invokevirtual 13, 3) := by decide +kernel
theorem dL_counts_298 : decode cL_counts 298 = .ok (.iconst 2, 1) := by decide +kernel
theorem dL_counts_299 : decode cL_counts 299 = .ok (.if_icmp .eq 5, 3) := by decide +kernel
theorem dL_counts_302 : decode cL_counts 302 = .ok (.iconst 0, 1) := by decide +kernel
theorem dL_counts_303 : decode cL_counts 303 = .ok (.ireturn, 1) := by decide +kernel
theorem dL_counts_304 : decode cL_counts 304 = .ok (.aload_n 0, 1) := by decide +kernel
theorem dL_counts_305 : decode cL_counts 305 = .ok (.bipush 10, 2) := by decide +kernel
theorem dL_counts_307 : decode cL_counts 307 = .ok (.invokevirtual 13, 3) := by decide +kernel
theorem dL_counts_310 : decode cL_counts 310 = .ok (.ifCond .ne 116, 3) := by decide +kernel
theorem dL_counts_313 : decode cL_counts 313 = .ok (.aload_n 0, 1) := by decide +kernel
theorem dL_counts_314 : decode cL_counts 314 = .ok (.sipush 232, 3) := by decide +kernel
theorem dL_counts_317 : decode cL_counts 317 = .ok (.invokevirtual 60, 3) := by decide +kernel
theorem dL_counts_320 : decode cL_counts 320 = .ok (.bipush (-5), 2) := by decide +kernel
theorem dL_counts_322 : decode cL_counts 322 = .ok (.if_icmp .ne 104, 3) := by decide +kernel
theorem dL_counts_325 : decode cL_counts 325 = .ok (.aload_n 0, 1) := by decide +kernel
theorem dL_counts_326 : decode cL_counts 326 = .ok (.sipush 232, 3) := by decide +kernel
theorem dL_counts_329 : decode cL_counts 329 = .ok (.invokevirtual 70, 3) := by decide +kernel
theorem dL_counts_332 : decode cL_counts 332 = .ok (.ldc2_w 113, 3) := by decide +kernel
theorem dL_counts_335 : decode cL_counts 335 = .ok (.lcmp, 1) := by decide +kernel
theorem dL_counts_336 : decode cL_counts 336 = .ok (.ifCond .ne 90, 3) := by decide +kernel
theorem dL_counts_339 : decode cL_counts 339 = .ok (.aload_n 0, 1) := by decide +kernel
theorem dL_counts_340 : decode cL_counts 340 = .ok (.sipush 232, 3) := by decide +kernel
theorem dL_counts_343 : decode cL_counts 343 = .ok (.invokevirtual 63, 3) := by decide +kernel
theorem dL_counts_346 : decode cL_counts 346 = .ok (.bipush (-6), 2) := by decide +kernel
theorem dL_counts_348 : decode cL_counts 348 = .ok (.if_icmp .ne 78, 3) := by decide +kernel
theorem dL_counts_351 : decode cL_counts 351 = .ok (.aload_n 0, 1) := by decide +kernel
theorem dL_counts_352 : decode cL_counts 352 = .ok (.invokevirtual 115, 3) := by decide +kernel
theorem dL_counts_355 : decode cL_counts 355 = .ok (.iconst 1, 1) := by decide +kernel
theorem dL_counts_356 : decode cL_counts 356 = .ok (.if_icmp .ne 70, 3) := by decide +kernel
theorem dL_counts_359 : decode cL_counts 359 = .ok (.aload_n 0, 1) := by decide +kernel
theorem dL_counts_360 : decode cL_counts 360 = .ok (.iconst 0, 1) := by decide +kernel
theorem dL_counts_361 : decode cL_counts 361 = .ok (.iconst 3, 1) := by decide +kernel
theorem dL_counts_362 : decode cL_counts 362 = .ok (.sipush 384, 3) := by decide +kernel
theorem dL_counts_365 : decode cL_counts 365 = .ok (.iconst 0, 1) := by decide +kernel
theorem dL_counts_366 : decode cL_counts 366 = .ok (.iconst 1, 1) := by decide +kernel
theorem dL_counts_367 : decode cL_counts 367 = .ok (.invokestatic 109, 3) := by decide +kernel
theorem dL_counts_370 : decode cL_counts 370 = .ok (.ifCond .eq 56, 3) := by decide +kernel
theorem dL_counts_373 : decode cL_counts 373 = .ok (.aload_n 0, 1) := by decide +kernel
theorem dL_counts_374 : decode cL_counts 374 = .ok (.iconst 5, 1) := by decide +kernel
theorem dL_counts_375 : decode cL_counts 375 = .ok (.invokevirtual 13, 3) := by decide +kernel
theorem dL_counts_378 : decode cL_counts 378 = .ok (.iconst 1, 1) := by decide +kernel
theorem dL_counts_379 : decode cL_counts 379 = .ok (.if_icmp .ne 47, 3) := by decide +kernel
theorem dL_counts_382 : decode cL_counts 382 = .ok (.aload_n 0, 1) := by decide +kernel
theorem dL_counts_383 : decode cL_counts 383 = .ok (.invokevirtual 115, 3) := by decide +kernel
theorem dL_counts_386 : decode cL_counts 386 = .ok (.ifCond .ne 40, 3) := by decide +kernel
theorem dL_counts_389 : decode cL_counts 389 = .ok (.aload_n 0, 1) := by decide +kernel
theorem dL_counts_390 : decode cL_counts 390 = .ok (.iconst 5, 1) := by decide +kernel
theorem dL_counts_391 : decode cL_counts 391 = .ok (.invokevirtual 13, 3) := by decide +kernel
theorem dL_counts_394 : decode cL_counts 394 = .ok (.iconst 1, 1) := by decide +kernel
theorem dL_counts_395 : decode cL_counts 395 = .ok (.if_icmp .ne 31, 3) := by decide +kernel
theorem dL_counts_398 : decode cL_counts 398 = .ok (.aload_n 0, 1) := by decide +kernel
theorem dL_counts_399 : decode cL_counts 399 = .ok (.invokevirtual 118, 3) := by decide +kernel
theorem dL_counts_402 : decode cL_counts 402 = .ok (.ifCond .ne 24, 3) := by decide +kernel
theorem dL_counts_405 : decode cL_counts 405 = .ok (.aload_n 0, 1) := by decide +kernel
theorem dL_counts_406 : decode cL_counts 406 = .ok (.bipush 10, 2) := by decide +kernel
theorem dL_counts_408 : decode cL_counts 408 = .ok (.invokevirtual 13, 3) := by decide +kernel
theorem dL_counts_411 : decode cL_counts 411 = .ok (.iconst 1, 1) := by decide +kernel
theorem dL_counts_412 : decode cL_counts 412 = .ok (.if_icmp .ne 14, 3) := by decide +kernel
theorem dL_counts_415 : decode cL_counts 415 = .ok (.aload_n 0, 1) := by decide +kernel
theorem dL_counts_416 : decode cL_counts 416 = .ok (.bipush 8, 2) := by decide +kernel
theorem dL_counts_418 : decode cL_counts 418 = .ok (.invokevirtual 13, 3) := by decide +kernel
theorem dL_counts_421 : decode cL_counts 421 = .ok (.bipush 64, 2) := by decide +kernel
theorem dL_counts_423 : decode cL_counts 423 = .ok (.if_icmp .eq 5, 3) := by decide +kernel
theorem dL_counts_426 : decode cL_counts 426 = .ok (.iconst 0, 1) := by decide +kernel
theorem dL_counts_427 : decode cL_counts 427 = .ok (.ireturn, 1) := by decide +kernel
theorem dL_counts_428 : decode cL_counts 428 = .ok (.aload_n 0, 1) := by decide +kernel
theorem dL_counts_429 : decode cL_counts 429 = .ok (.iconst 1, 1) := by decide +kernel
theorem dL_counts_430 : decode cL_counts 430 = .ok (.iconst 1, 1) := by decide +kernel
theorem dL_counts_431 : decode cL_counts 431 = .ok (.iconst 0, 1) := by decide +kernel
theorem dL_counts_432 : decode cL_counts 432 = .ok (.iconst 0, 1) := by decide +kernel
theorem dL_counts_433 : decode cL_counts 433 = .ok (.invokevirtual 101, 3) := by decide +kernel
theorem dL_counts_436 : decode cL_counts 436 = .ok (.istore_n 1, 1) := by decide +kernel
theorem dL_counts_437 : decode cL_counts 437 = .ok (.aload_n 0, 1) := by decide +kernel
theorem dL_counts_438 : decode cL_counts 438 = .ok (.sipush 232, 3) := by decide +kernel
theorem dL_counts_441 : decode cL_counts 441 = .ok (.invokevirtual 60, 3) := by decide +kernel
theorem dL_counts_444 : decode cL_counts 444 = .ok (.iconst 1, 1) := by decide +kernel
theorem dL_counts_445 : decode cL_counts 445 = .ok (.if_icmp .ne 156, 3) := by decide +kernel
theorem dL_counts_448 : decode cL_counts 448 = .ok (.aload_n 0, 1) := by decide +kernel
theorem dL_counts_449 : decode cL_counts 449 = .ok (.sipush 418, 3) := by decide +kernel
theorem dL_counts_452 : decode cL_counts 452 = .ok (.invokevirtual 63, 3) := by decide +kernel
theorem dL_counts_455 : decode cL_counts 455 = .ok (.sipush 448, 3) := by decide +kernel
theorem dL_counts_458 : decode cL_counts 458 = .ok (.if_icmp .ne 143, 3) := by decide +kernel
theorem dL_counts_461 : decode cL_counts 461 = .ok (.aload_n 0, 1) := by decide +kernel
theorem dL_counts_462 : decode cL_counts 462 = .ok (.iload_n 1, 1) := by decide +kernel
theorem dL_counts_463 : decode cL_counts 463 = .ok (.invokevirtual 66, 3) := by decide +kernel
theorem dL_counts_466 : decode cL_counts 466 = .ok (.iconst 1, 1) := by decide +kernel
theorem dL_counts_467 : decode cL_counts 467 = .ok (.if_icmp .ne 134, 3) := by decide +kernel
theorem dL_counts_470 : decode cL_counts 470 = .ok (.aload_n 0, 1) := by decide +kernel
theorem dL_counts_471 : decode cL_counts 471 = .ok (.iload_n 1, 1) := by decide +kernel
theorem dL_counts_472 : decode cL_counts 472 = .ok (.invokevirtual 60, 3) := by decide +kernel
theorem dL_counts_475 : decode cL_counts 475 = .ok (.ifCond .ne 126, 3) := by decide +kernel
theorem dL_counts_478 : decode cL_counts 478 = .ok (.aload_n 0, 1) := by decide +kernel
theorem dL_counts_479 : decode cL_counts 479 = .ok (.iload_n 1, 1) := by decide +kernel
theorem dL_counts_480 : decode cL_counts 480 = .ok (.invokevirtual 63, 3) := by decide +kernel
theorem dL_counts_483 : decode cL_counts 483 = .ok (.bipush 8, 2) := by decide +kernel
theorem dL_counts_485 : decode cL_counts 485 = .ok (.if_icmp .ne 116, 3) := by decide +kernel
theorem dL_counts_488 : decode cL_counts 488 = .ok (.aload_n 0, 1) := by decide +kernel
theorem dL_counts_489 : decode cL_counts 489 = .ok (.iload_n 1, 1) := by decide +kernel
theorem dL_counts_490 : decode cL_counts 490 = .ok (.invokevirtual 70, 3) := by decide +kernel
theorem dL_counts_493 : decode cL_counts 493 = .ok (.ldc2_w 121, 3) := by decide +kernel
theorem dL_counts_496 : decode cL_counts 496 = .ok (.lcmp, 1) := by decide +kernel
theorem dL_counts_497 : decode cL_counts 497 = .ok (.ifCond .ne 104, 3) := by decide +kernel
theorem dL_counts_500 : decode cL_counts 500 = .ok (.aload_n 0, 1) := by decide +kernel
theorem dL_counts_501 : decode cL_counts 501 = .ok (.sipush 232, 3) := by decide +kernel
theorem dL_counts_504 : decode cL_counts 504 = .ok (.invokevirtual 70, 3) := by decide +kernel
theorem dL_counts_507 : decode cL_counts 507 = .ok (.ldc2_w 123, 3) := by decide +kernel
theorem dL_counts_510 : decode cL_counts 510 = .ok (.lcmp, 1) := by decide +kernel
theorem dL_counts_511 : decode cL_counts 511 = .ok (.ifCond .ne 90, 3) := by decide +kernel
theorem dL_counts_514 : decode cL_counts 514 = .ok (.aload_n 0, 1) := by decide +kernel
theorem dL_counts_515 : decode cL_counts 515 = .ok (.invokevirtual 125, 3) := by decide +kernel
theorem dL_counts_518 : decode cL_counts 518 = .ok (.lconst 0, 1) := by decide +kernel
theorem dL_counts_519 : decode cL_counts 519 = .ok (.lcmp, 1) := by decide +kernel
theorem dL_counts_520 : decode cL_counts 520 = .ok (.ifCond .ne 81, 3) := by decide +kernel
theorem dL_counts_523 : decode cL_counts 523 = .ok (.aload_n 0, 1) := by decide +kernel
theorem dL_counts_524 : decode cL_counts 524 = .ok (.bipush 7, 2) := by decide +kernel
theorem dL_counts_526 : decode cL_counts 526 = .ok (.invokevirtual 42, 3) := by decide +kernel
theorem dL_counts_529 : decode cL_counts 529 = .ok (.iconst 4, 1) := by decide +kernel
theorem dL_counts_530 : decode cL_counts 530 = .ok (.if_icmp .ne 71, 3) := by decide +kernel
theorem dL_counts_533 : decode cL_counts 533 = .ok (.aload_n 0, 1) := by decide +kernel
theorem dL_counts_534 : decode cL_counts 534 = .ok (.invokevirtual 125, 3) := by decide +kernel
theorem dL_counts_537 : decode cL_counts 537 = .ok (.ldc2_w 129, 3) := by decide +kernel
theorem dL_counts_540 : decode cL_counts 540 = .ok (.lcmp, 1) := by decide +kernel
theorem dL_counts_541 : decode cL_counts 541 = .ok (.ifCond .ne 60, 3) := by decide +kernel
theorem dL_counts_544 : decode cL_counts 544 = .ok (.aload_n 0, 1) := by decide +kernel
theorem dL_counts_545 : decode cL_counts 545 = .ok (.sipush 232, 3) := by decide +kernel
theorem dL_counts_548 : decode cL_counts 548 = .ok (.invokevirtual 70, 3) := by decide +kernel
theorem dL_counts_551 : decode cL_counts 551 = .ok (.ldc2_w 123, 3) := by decide +kernel
theorem dL_counts_554 : decode cL_counts 554 = .ok (.lcmp, 1) := by decide +kernel
theorem dL_counts_555 : decode cL_counts 555 = .ok (.ifCond .ne 46, 3) := by decide +kernel
theorem dL_counts_558 : decode cL_counts 558 = .ok (.aload_n 0, 1) := by decide +kernel
theorem dL_counts_559 : decode cL_counts 559 = .ok (.iconst 0, 1) := by decide +kernel
theorem dL_counts_560 : decode cL_counts 560 = .ok (.bipush 6, 2) := by decide +kernel
theorem dL_counts_562 : decode cL_counts 562 = .ok (.invokevirtual 19, 3) := by decide +kernel
theorem dL_counts_565 : decode cL_counts 565 = .ok (.bipush 56, 2) := by decide +kernel
theorem dL_counts_567 : decode cL_counts 567 = .ok (.if_icmp .ne 34, 3) := by decide +kernel
theorem dL_counts_570 : decode cL_counts 570 = .ok (.aload_n 0, 1) := by decide +kernel
theorem dL_counts_571 : decode cL_counts 571 = .ok (.bipush 64, 2) := by decide +kernel
theorem dL_counts_573 : decode cL_counts 573 = .ok (.invokevirtual 57, 3) := by decide +kernel
theorem dL_counts_576 : decode cL_counts 576 = .ok (.bipush 7, 2) := by decide +kernel
theorem dL_counts_578 : decode cL_counts 578 = .ok (.if_icmp .ne 23, 3) := by decide +kernel
theorem dL_counts_581 : decode cL_counts 581 = .ok (.aload_n 0, 1) := by decide +kernel
theorem dL_counts_582 : decode cL_counts 582 = .ok (.sipush 448, 3) := by decide +kernel
theorem dL_counts_585 : decode cL_counts 585 = .ok (.invokevirtual 57, 3) := by decide +kernel
theorem dL_counts_588 : decode cL_counts 588 = .ok (.bipush 6, 2) := by decide +kernel
theorem dL_counts_590 : decode cL_counts 590 = .ok (.if_icmp .ne 11, 3) := by decide +kernel
theorem dL_counts_593 : decode cL_counts 593 = .ok (.aload_n 0, 1) := by decide +kernel
theorem dL_counts_594 : decode cL_counts 594 = .ok (.iconst 1, 1) := by decide +kernel
theorem dL_counts_595 : decode cL_counts 595 = .ok (.invokevirtual 57, 3) := by decide +kernel
theorem dL_counts_598 : decode cL_counts 598 = .ok (.ifCond .eq 5, 3) := by decide +kernel
theorem dL_counts_601 : decode cL_counts 601 = .ok (.iconst 0, 1) := by decide +kernel
theorem dL_counts_602 : decode cL_counts 602 = .ok (.ireturn, 1) := by decide +kernel
theorem dL_counts_603 : decode cL_counts 603 = .ok (.aload_n 0, 1) := by decide +kernel
theorem dL_counts_604 : decode cL_counts 604 = .ok (.iconst 5, 1) := by decide +kernel
theorem dL_counts_605 : decode cL_counts 605 = .ok (.invokevirtual 45, 3) := by decide +kernel
theorem dL_counts_608 : decode cL_counts 608 = .ok (.iconst 2, 1) := by decide +kernel
theorem dL_counts_609 : decode cL_counts 609 = .ok (.if_icmp .ne 76, 3) := by decide +kernel
theorem dL_counts_612 : decode cL_counts 612 = .ok (.aload_n 0, 1) := by decide +kernel
theorem dL_counts_613 : decode cL_counts 613 = .ok (.iconst 5, 1) := by decide +kernel
theorem dL_counts_614 : decode cL_counts 614 = .ok (.iconst 0, 1) := by decide +kernel
theorem dL_counts_615 : decode cL_counts 615 = .ok (.invokevirtual 23, 3) := by decide +kernel
theorem dL_counts_618 : decode cL_counts 618 = .ok (.sipush 757, 3) := by decide +kernel
theorem dL_counts_621 : decode cL_counts 621 = .ok (.if_icmp .ne 64, 3) := by decide +kernel
theorem dL_counts_624 : decode cL_counts 624 = .ok (.aload_n 0, 1) := by decide +kernel
theorem dL_counts_625 : decode cL_counts 625 = .ok (.bipush 6, 2) := by decide +kernel
theorem dL_counts_627 : decode cL_counts 627 = .ok (.iconst 0, 1) := by decide +kernel
theorem dL_counts_628 : decode cL_counts 628 = .ok (.invokevirtual 23, 3) := by decide +kernel
theorem dL_counts_631 : decode cL_counts 631 = .ok (.sipush 787, 3) := by decide +kernel
theorem dL_counts_634 : decode cL_counts 634 = .ok (.if_icmp .ne 51, 3) := by decide +kernel
theorem dL_counts_637 : decode cL_counts 637 = .ok (.aload_n 0, 1) := by decide +kernel
theorem dL_counts_638 : decode cL_counts 638 = .ok (.iconst 5, 1) := by decide +kernel
theorem dL_counts_639 : decode cL_counts 639 = .ok (.invokevirtual 45, 3) := by decide +kernel
theorem dL_counts_642 : decode cL_counts 642 = .ok (.ifCond .ne 43, 3) := by decide +kernel
theorem dL_counts_645 : decode cL_counts 645 = .ok (.aload_n 0, 1) := by decide +kernel
theorem dL_counts_646 : decode cL_counts 646 = .ok (.aload_n 0, 1) := by decide +kernel
theorem dL_counts_647 : decode cL_counts 647 = .ok (.iconst 2, 1) := by decide +kernel
theorem dL_counts_648 : decode cL_counts 648 = .ok (.iconst 0, 1) := by decide +kernel
theorem dL_counts_649 : decode cL_counts 649 = .ok (.iconst 0, 1) := by decide +kernel
theorem dL_counts_650 : decode cL_counts 650 = .ok (.iconst 2, 1) := by decide +kernel
theorem dL_counts_651 : decode cL_counts 651 = .ok (.invokevirtual 101, 3) := by decide +kernel
theorem dL_counts_654 : decode cL_counts 654 = .ok (.invokevirtual 42, 3) := by decide +kernel
theorem dL_counts_657 : decode cL_counts 657 = .ok (.bipush 7, 2) := by decide +kernel
theorem dL_counts_659 : decode cL_counts 659 = .ok (.if_icmp .ne 26, 3) := by decide +kernel
theorem dL_counts_662 : decode cL_counts 662 = .ok (.aload_n 0, 1) := by decide +kernel
theorem dL_counts_663 : decode cL_counts 663 = .ok (.bipush 7, 2) := by decide +kernel
theorem dL_counts_665 : decode cL_counts 665 = .ok (.iconst 2, 1) := by decide +kernel
theorem dL_counts_666 : decode cL_counts 666 = .ok (.sipush 128, 3) := by decide +kernel
theorem dL_counts_669 : decode cL_counts 669 = .ok (.iconst 0, 1) := by decide +kernel
theorem dL_counts_670 : decode cL_counts 670 = .ok (.bipush (-6), 2) := by decide +kernel
theorem dL_counts_672 : decode cL_counts 672 = .ok (.invokestatic 109, 3) := by decide +kernel
theorem dL_counts_675 : decode cL_counts 675 = .ok (.ifCond .eq 10, 3) := by decide +kernel
theorem dL_counts_678 : decode cL_counts 678 = .ok (.aload_n 0, 1) := by decide +kernel
theorem dL_counts_679 : decode cL_counts 679 = .ok (.invokestatic 131, 3) := by decide +kernel
theorem dL_counts_682 : decode cL_counts 682 = .ok (.ifCond .ne 5, 3) := by decide +kernel
theorem dL_counts_685 : decode cL_counts 685 = .ok (.iconst 0, 1) := by decide +kernel
theorem dL_counts_686 : decode cL_counts 686 = .ok (.ireturn, 1) := by decide +kernel
theorem dL_counts_687 : decode cL_counts 687 = .ok (.aload_n 0, 1) := by decide +kernel
theorem dL_counts_688 : decode cL_counts 688 = .ok (.iconst 1, 1) := by decide +kernel
theorem dL_counts_689 : decode cL_counts 689 = .ok (.invokevirtual 32, 3) := by decide +kernel
theorem dL_counts_692 : decode cL_counts 692 = .ok (.ifCond .ne 95, 3) := by decide +kernel
theorem dL_counts_695 : decode cL_counts 695 = .ok (.aload_n 0, 1) := by decide +kernel
theorem dL_counts_696 : decode cL_counts 696 = .ok (.iconst 0, 1) := by decide +kernel
theorem dL_counts_697 : decode cL_counts 697 = .ok (.sipush 448, 3) := by decide +kernel
theorem dL_counts_700 : decode cL_counts 700 = .ok (.invokevirtual 54, 3) := by decide +kernel
theorem dL_counts_703 : decode cL_counts 703 = .ok (.ifCond .ne 84, 3) := by decide +kernel
theorem dL_counts_706 : decode cL_counts 706 = .ok (.aload_n 0, 1) := by decide +kernel
theorem dL_counts_707 : decode cL_counts 707 = .ok (.iconst 3, 1) := by decide +kernel
theorem dL_counts_708 : decode cL_counts 708 = .ok (.invokevirtual 13, 3) := by decide +kernel
theorem dL_counts_711 : decode cL_counts 711 = .ok (.iconst 1, 1) := by decide +kernel
theorem dL_counts_712 : decode cL_counts 712 = .ok (.if_icmp .ne 75, 3) := by decide +kernel
theorem dL_counts_715 : decode cL_counts 715 = .ok (.aload_n 0, 1) := by decide +kernel
theorem dL_counts_716 : decode cL_counts 716 = .ok (.iconst 4, 1) := by decide +kernel
theorem dL_counts_717 : decode cL_counts 717 = .ok (.invokevirtual 13, 3) := by decide +kernel
theorem dL_counts_720 : decode cL_counts 720 = .ok (.ifCond .ne 67, 3) := by decide +kernel
theorem dL_counts_723 : decode cL_counts 723 = .ok (.aload_n 0, 1) := by decide +kernel
theorem dL_counts_724 : decode cL_counts 724 = .ok (.iconst 5, 1) := by decide +kernel
theorem dL_counts_725 : decode cL_counts 725 = .ok (.invokevirtual 13, 3) := by decide +kernel
theorem dL_counts_728 : decode cL_counts 728 = .ok (.ifCond .ne 59, 3) := by decide +kernel
theorem dL_counts_731 : decode cL_counts 731 = .ok (.aload_n 0, 1) := by decide +kernel
theorem dL_counts_732 : decode cL_counts 732 = .ok (.iconst 0, 1) := by decide +kernel
theorem dL_counts_733 : decode cL_counts 733 = .ok (.iconst 0, 1) := by decide +kernel
theorem dL_counts_734 : decode cL_counts 734 = .ok (.bipush (-6), 2) := by decide +kernel
theorem dL_counts_736 : decode cL_counts 736 = .ok (.bipush (-6), 2) := by decide +kernel
theorem dL_counts_738 : decode cL_counts 738 = .ok (.bipush (-6), 2) := by decide +kernel
theorem dL_counts_740 : decode cL_counts 740 = .ok (.invokestatic 109, 3) := by decide +kernel
theorem dL_counts_743 : decode cL_counts 743 = .ok (.ifCond .eq 44, 3) := by decide +kernel
theorem dL_counts_746 : decode cL_counts 746 = .ok (.aload_n 0, 1) := by decide +kernel
theorem dL_counts_747 : decode cL_counts 747 = .ok (.iconst 3, 1) := by decide +kernel
theorem dL_counts_748 : decode cL_counts 748 = .ok (.iconst 1, 1) := by decide +kernel
theorem dL_counts_749 : decode cL_counts 749 = .ok (.iconst 0, 1) := by decide +kernel
theorem dL_counts_750 : decode cL_counts 750 = .ok (.bipush (-6), 2) := by decide +kernel
theorem dL_counts_752 : decode cL_counts 752 = .ok (.bipush (-6), 2) := by decide +kernel
theorem dL_counts_754 : decode cL_counts 754 = .ok (.invokestatic 109, 3) := by decide +kernel
theorem dL_counts_757 : decode cL_counts 757 = .ok (.ifCond .eq 30, 3) := by decide +kernel
theorem dL_counts_760 : decode cL_counts 760 = .ok (.aload_n 0, 1) := by decide +kernel
theorem dL_counts_761 : decode cL_counts 761 = .ok (.iconst 0, 1) := by decide +kernel
theorem dL_counts_762 : decode cL_counts 762 = .ok (.invokevirtual 39, 3) := by decide +kernel
theorem dL_counts_765 : decode cL_counts 765 = .ok (.ifCond .ne 22, 3) := by decide +kernel
theorem dL_counts_768 : decode cL_counts 768 = .ok (.aload_n 0, 1) := by decide +kernel
theorem dL_counts_769 : decode cL_counts 769 = .ok (.iconst 5, 1) := by decide +kernel
theorem dL_counts_770 : decode cL_counts 770 = .ok (.bipush 9, 2) := by decide +kernel
theorem dL_counts_772 : decode cL_counts 772 = .ok (.invokevirtual 48, 3) := by decide +kernel
theorem dL_counts_775 : decode cL_counts 775 = .ok (.ifCond .ne 12, 3) := by decide +kernel
theorem dL_counts_778 : decode cL_counts 778 = .ok (.aload_n 0, 1) := by decide +kernel
theorem dL_counts_779 : decode cL_counts 779 = .ok (.iconst 4, 1) := by decide +kernel
theorem dL_counts_780 : decode cL_counts 780 = .ok (.invokevirtual 13, 3) := by decide +kernel
theorem dL_counts_783 : decode cL_counts 783 = .ok (.iconst 1, 1) := by decide +kernel
theorem dL_counts_784 : decode cL_counts 784 = .ok (.if_icmp .eq 5, 3) := by decide +kernel
theorem dL_counts_787 : decode cL_counts 787 = .ok (.iconst 0, 1) := by decide +kernel
theorem dL_counts_788 : decode cL_counts 788 = .ok (.ireturn, 1) := by decide +kernel
theorem dL_counts_789 : decode cL_counts 789 = .ok (.aload_n 0, 1) := by decide +kernel
theorem dL_counts_790 : decode cL_counts 790 = .ok (.iconst 3, 1) := by decide +kernel
theorem dL_counts_791 : decode cL_counts 791 = .ok (.iconst 0, 1) := by decide +kernel
theorem dL_counts_792 : decode cL_counts 792 = .ok (.iconst 0, 1) := by decide +kernel
theorem dL_counts_793 : decode cL_counts 793 = .ok (.invokevirtual 26, 3) := by decide +kernel
theorem dL_counts_796 : decode cL_counts 796 = .ok (.bipush (-6), 2) := by decide +kernel
theorem dL_counts_798 : decode cL_counts 798 = .ok (.if_icmp .eq 108, 3) := by decide +kernel
theorem dL_counts_801 : decode cL_counts 801 = .ok (.aload_n 0, 1) := by decide +kernel
theorem dL_counts_802 : decode cL_counts 802 = .ok (.iconst 2, 1) := by decide +kernel
theorem dL_counts_803 : decode cL_counts 803 = .ok (.iconst 1, 1) := by decide +kernel
theorem dL_counts_804 : decode cL_counts 804 = .ok (.sipush 192, 3) := by decide +kernel
theorem dL_counts_807 : decode cL_counts 807 = .ok (.bipush (-6), 2) := by decide +kernel
theorem dL_counts_809 : decode cL_counts 809 = .ok (.bipush (-6), 2) := by decide +kernel
theorem dL_counts_811 : decode cL_counts 811 = .ok (.invokestatic 109, 3) := by decide +kernel
theorem dL_counts_814 : decode cL_counts 814 = .ok (.ifCond .eq 92, 3) := by decide +kernel
theorem dL_counts_817 : decode cL_counts 817 = .ok (.aload_n 0, 1) := by decide +kernel
theorem dL_counts_818 : decode cL_counts 818 = .ok (.iconst 3, 1) := by decide +kernel
theorem dL_counts_819 : decode cL_counts 819 = .ok (.iconst 0, 1) := by decide +kernel
theorem dL_counts_820 : decode cL_counts 820 = .ok (.bipush (-6), 2) := by decide +kernel
theorem dL_counts_822 : decode cL_counts 822 = .ok (.bipush (-6), 2) := by decide +kernel
theorem dL_counts_824 : decode cL_counts 824 = .ok (.bipush (-6), 2) := by decide +kernel
theorem dL_counts_826 : decode cL_counts 826 = .ok (.invokestatic 109, 3) := by decide +kernel
theorem dL_counts_829 : decode cL_counts 829 = .ok (.ifCond .eq 77, 3) := by decide +kernel
theorem dL_counts_832 : decode cL_counts 832 = .ok (.aload_n 0, 1) := by decide +kernel
theorem dL_counts_833 : decode cL_counts 833 = .ok (.bipush 7, 2) := by decide +kernel
theorem dL_counts_835 : decode cL_counts 835 = .ok (.iconst 2, 1) := by decide +kernel
theorem dL_counts_836 : decode cL_counts 836 = .ok (.iconst 0, 1) := by decide +kernel
theorem dL_counts_837 : decode cL_counts 837 = .ok (.iconst 1, 1) := by decide +kernel
theorem dL_counts_838 : decode cL_counts 838 = .ok (.iconst 0, 1) := by decide +kernel
theorem dL_counts_839 : decode cL_counts 839 = .ok (.invokevirtual 35, 3) := by decide +kernel
theorem dL_counts_842 : decode cL_counts 842 = .ok (.ifCond .ne 64, 3) := by decide +kernel
theorem dL_counts_845 : decode cL_counts 845 = .ok (.aload_n 0, 1) := by decide +kernel
theorem dL_counts_846 : decode cL_counts 846 = .ok (.iconst 0, 1) := by decide +kernel
theorem dL_counts_847 : decode cL_counts 847 = .ok (.sipush 192, 3) := by decide +kernel
theorem dL_counts_850 : decode cL_counts 850 = .ok (.invokevirtual 54, 3) := by decide +kernel
theorem dL_counts_853 : decode cL_counts 853 = .ok (.bipush 24, 2) := by decide +kernel
theorem dL_counts_855 : decode cL_counts 855 = .ok (.if_icmp .ne 51, 3) := by decide +kernel
theorem dL_counts_858 : decode cL_counts 858 = .ok (.aload_n 0, 1) := by decide +kernel
theorem dL_counts_859 : decode cL_counts 859 = .ok (.iconst 0, 1) := by decide +kernel
theorem dL_counts_860 : decode cL_counts 860 = .ok (.sipush 511, 3) := by decide +kernel
theorem dL_counts_863 : decode cL_counts 863 = .ok (.invokevirtual 54, 3) := by decide +kernel
theorem dL_counts_866 : decode cL_counts 866 = .ok (.sipush 511, 3) := by decide +kernel
theorem dL_counts_869 : decode cL_counts 869 = .ok (.if_icmp .ne 37, 3) := by decide +kernel
theorem dL_counts_872 : decode cL_counts 872 = .ok (.aload_n 0, 1) := by decide +kernel
theorem dL_counts_873 : decode cL_counts 873 = .ok (.bipush 9, 2) := by decide +kernel
theorem dL_counts_875 : decode cL_counts 875 = .ok (.invokevirtual 13, 3) := by decide +kernel
theorem dL_counts_878 : decode cL_counts 878 = .ok (.iconst 2, 1) := by decide +kernel
theorem dL_counts_879 : decode cL_counts 879 = .ok (.if_icmp .ne 27, 3) := by decide +kernel
theorem dL_counts_882 : decode cL_counts 882 = .ok (.aload_n 0, 1) := by decide +kernel
theorem dL_counts_883 : decode cL_counts 883 = .ok (.iconst 1, 1) := by decide +kernel
theorem dL_counts_884 : decode cL_counts 884 = .ok (.invokevirtual 86, 3) := by decide +kernel
theorem dL_counts_887 : decode cL_counts 887 = .ok (.aload_n 0, 1) := by decide +kernel
theorem dL_counts_888 : decode cL_counts 888 = .ok (.iconst 2, 1) := by decide +kernel
theorem dL_counts_889 : decode cL_counts 889 = .ok (.invokevirtual 13, 3) := by decide +kernel
theorem dL_counts_892 : decode cL_counts 892 = .ok (.if_icmp .ne 14, 3) := by decide +kernel
theorem dL_counts_895 : decode cL_counts 895 = .ok (.aload_n 0, 1) := by decide +kernel
theorem dL_counts_896 : decode cL_counts 896 = .ok (.invokestatic 131, 3) := by decide +kernel
theorem dL_counts_899 : decode cL_counts 899 = .ok (.ifCond .eq 7, 3) := by decide +kernel
theorem dL_counts_902 : decode cL_counts 902 = .ok (.iconst 1, 1) := by decide +kernel
theorem dL_counts_903 : decode cL_counts 903 = .ok (.goto 4, 3) := by decide +kernel
theorem dL_counts_906 : decode cL_counts 906 = .ok (.iconst 0, 1) := by decide +kernel
theorem dL_counts_907 : decode cL_counts 907 = .ok (.ireturn, 1) := by decide +kernel
theorem dL_puts_0 : decode cL_puts 0 = .ok (.lload_n 1, 1) := by decide +kernel
theorem dL_puts_1 : decode cL_puts 1 = .ok (.lconst 0, 1) := by decide +kernel
theorem dL_puts_2 : decode cL_puts 2 = .ok (.lcmp, 1) := by decide +kernel
theorem dL_puts_3 : decode cL_puts 3 = .ok (.ifCond .eq 11, 3) := by decide +kernel
theorem dL_puts_6 : decode cL_puts 6 = .ok (.aload_n 0, 1) := by decide +kernel
theorem dL_puts_7 : decode cL_puts 7 = .ok (.lload_n 1, 1) := by decide +kernel
theorem dL_puts_8 : decode cL_puts 8 = .ok (.invokevirtual 78, 3) := by decide +kernel
theorem dL_puts_11 : decode cL_puts 11 = .ok (.ifCond .le 7, 3) := by decide +kernel
theorem dL_puts_14 : decode cL_puts 14 = .ok (.iconst 1, 1) := by decide +kernel
theorem dL_puts_15 : decode cL_puts 15 = .ok (.goto 4, 3) := by decide +kernel
theorem dL_puts_18 : decode cL_puts 18 = .ok (.iconst 0, 1) := by decide +kernel
theorem dL_puts_19 : decode cL_puts 19 = .ok (.ireturn, 1) := by decide +kernel
theorem dL_faultOf_0 : decode cL_faultOf 0 = .ok (.new 14, 3) := by decide +kernel
theorem dL_faultOf_3 : decode cL_faultOf 3 = .ok (.dup, 1) := by decide +kernel
theorem dL_faultOf_4 : decode cL_faultOf 4 = .ok (.invokespecial 100, 3) := by decide +kernel
theorem dL_faultOf_7 : decode cL_faultOf 7 = .ok (.astore 4, 2) := by decide +kernel
theorem dL_faultOf_9 : decode cL_faultOf 9 = .ok (.aload 4, 2) := by decide +kernel
theorem dL_faultOf_11 : decode cL_faultOf 11 = .ok (.lload_n 0, 1) := by decide +kernel
theorem dL_faultOf_12 : decode cL_faultOf 12 = .ok (.invokestatic 135, 3) := by decide +kernel
theorem dL_faultOf_15 : decode cL_faultOf 15 = .ok (.ifCond .eq 20, 3) := by decide +kernel
theorem dL_faultOf_18 : decode cL_faultOf 18 = .ok (.aload 4, 2) := by decide +kernel
theorem dL_faultOf_20 : decode cL_faultOf 20 = .ok (.lload_n 2, 1) := by decide +kernel
theorem dL_faultOf_21 : decode cL_faultOf 21 = .ok (.invokestatic 135, 3) := by decide +kernel
theorem dL_faultOf_24 : decode cL_faultOf 24 = .ok (.ifCond .eq 11, 3) := by decide +kernel
theorem dL_faultOf_27 : decode cL_faultOf 27 = .ok (.aload 4, 2) := by decide +kernel
theorem dL_faultOf_29 : decode cL_faultOf 29 = .ok (.invokevirtual 139, 3) := by decide +kernel
theorem dL_faultOf_32 : decode cL_faultOf 32 = .ok (.goto 5, 3) := by decide +kernel
theorem dL_faultOf_35 : decode cL_faultOf 35 = .ok (.bipush (-99), 2) := by decide +kernel
theorem dL_faultOf_37 : decode cL_faultOf 37 = .ok (.ireturn, 1) := by decide +kernel
theorem dL_texts_0 : decode cL_texts 0 = .ok (.lconst 0, 1) := by decide +kernel
theorem dL_texts_1 : decode cL_texts 1 = .ok (.lconst 0, 1) := by decide +kernel
theorem dL_texts_2 : decode cL_texts 2 = .ok (.invokestatic 142, 3) := by decide +kernel
theorem dL_texts_5 : decode cL_texts 5 = .ok (.ifCond .ne 162, 3) := by decide +kernel
theorem dL_texts_8 : decode cL_texts 8 = .ok (.ldc2_w 146, 3) := by decide +kernel
theorem dL_texts_11 : decode cL_texts 11 = .ok (.lconst 0, 1) := by decide +kernel
theorem dL_texts_12 : decode cL_texts 12 = .ok (.invokestatic 142, 3) := by decide +kernel
theorem dL_texts_15 : decode cL_texts 15 = .ok (.iconst 1, 1) := by decide +kernel
theorem dL_texts_16 : decode cL_texts 16 = .ok (.if_icmp .ne 151, 3) := by decide +kernel
theorem dL_texts_19 : decode cL_texts 19 = .ok (.ldc2_w 148, 3) := by decide +kernel
theorem dL_texts_22 : decode cL_texts 22 = .ok (.lconst 0, 1) := by decide +kernel
theorem dL_texts_23 : decode cL_texts 23 = .ok (.invokestatic 142, 3) := by decide +kernel
theorem dL_texts_26 : decode cL_texts 26 = .ok (.bipush (-6), 2) := by decide +kernel
theorem dL_texts_28 : decode cL_texts 28 = .ok (.if_icmp .ne 139, 3) := by decide +kernel
theorem dL_texts_31 : decode cL_texts 31 = .ok (.ldc2_w 150, 3) := by decide +kernel
theorem dL_texts_34 : decode cL_texts 34 = .ok (.lconst 0, 1) := by decide +kernel
theorem dL_texts_35 : decode cL_texts 35 = .ok (.invokestatic 142, 3) := by decide +kernel
theorem dL_texts_38 : decode cL_texts 38 = .ok (.iconst 2, 1) := by decide +kernel
theorem dL_texts_39 : decode cL_texts 39 = .ok (.if_icmp .ne 128, 3) := by decide +kernel
theorem dL_texts_42 : decode cL_texts 42 = .ok (.ldc2_w 152, 3) := by decide +kernel
theorem dL_texts_45 : decode cL_texts 45 = .ok (.lconst 0, 1) := by decide +kernel
theorem dL_texts_46 : decode cL_texts 46 = .ok (.invokestatic 142, 3) := by decide +kernel
theorem dL_texts_49 : decode cL_texts 49 = .ok (.iconst 3, 1) := by decide +kernel
theorem dL_texts_50 : decode cL_texts 50 = .ok (.if_icmp .ne 117, 3) := by decide +kernel
theorem dL_texts_53 : decode cL_texts 53 = .ok (.ldc2_w 154, 3) := by decide +kernel
theorem dL_texts_56 : decode cL_texts 56 = .ok (.lconst 0, 1) := by decide +kernel
theorem dL_texts_57 : decode cL_texts 57 = .ok (.invokestatic 142, 3) := by decide +kernel
theorem dL_texts_60 : decode cL_texts 60 = .ok (.iconst 3, 1) := by decide +kernel
theorem dL_texts_61 : decode cL_texts 61 = .ok (.if_icmp .ne 106, 3) := by decide +kernel
theorem dL_texts_64 : decode cL_texts 64 = .ok (.ldc2_w 156, 3) := by decide +kernel
theorem dL_texts_67 : decode cL_texts 67 = .ok (.lconst 0, 1) := by decide +kernel
theorem dL_texts_68 : decode cL_texts 68 = .ok (.invokestatic 142, 3) := by decide +kernel
theorem dL_texts_71 : decode cL_texts 71 = .ok (.bipush (-6), 2) := by decide +kernel
theorem dL_texts_73 : decode cL_texts 73 = .ok (.if_icmp .ne 94, 3) := by decide +kernel
theorem dL_texts_76 : decode cL_texts 76 = .ok (.ldc2_w 158, 3) := by decide +kernel
theorem dL_texts_79 : decode cL_texts 79 = .ok (.lconst 0, 1) := by decide +kernel
theorem dL_texts_80 : decode cL_texts 80 = .ok (.invokestatic 142, 3) := by decide +kernel
theorem dL_texts_83 : decode cL_texts 83 = .ok (.bipush (-6), 2) := by decide +kernel
theorem dL_texts_85 : decode cL_texts 85 = .ok (.if_icmp .ne 82, 3) := by decide +kernel
theorem dL_texts_88 : decode cL_texts 88 = .ok (.ldc2_w 160, 3) := by decide +kernel
theorem dL_texts_91 : decode cL_texts 91 = .ok (.lconst 0, 1) := by decide +kernel
theorem dL_texts_92 : decode cL_texts 92 = .ok (.invokestatic 142, 3) := by decide +kernel
theorem dL_texts_95 : decode cL_texts 95 = .ok (.iconst 5, 1) := by decide +kernel
theorem dL_texts_96 : decode cL_texts 96 = .ok (.if_icmp .ne 71, 3) := by decide +kernel
theorem dL_texts_99 : decode cL_texts 99 = .ok (.ldc2_w 162, 3) := by decide +kernel
theorem dL_texts_102 : decode cL_texts 102 = .ok (.lconst 0, 1) := by decide +kernel
theorem dL_texts_103 : decode cL_texts 103 = .ok (.invokestatic 142, 3) := by decide +kernel
theorem dL_texts_106 : decode cL_texts 106 = .ok (.bipush (-6), 2) := by decide +kernel
theorem dL_texts_108 : decode cL_texts 108 = .ok (.if_icmp .ne 59, 3) := by decide +kernel
theorem dL_texts_111 : decode cL_texts 111 = .ok (.ldc2_w 164, 3) := by decide +kernel
theorem dL_texts_114 : decode cL_texts 114 = .ok (.lconst 0, 1) := by decide +kernel
theorem dL_texts_115 : decode cL_texts 115 = .ok (.invokestatic 142, 3) := by decide +kernel
theorem dL_texts_118 : decode cL_texts 118 = .ok (.iconst 3, 1) := by decide +kernel
theorem dL_texts_119 : decode cL_texts 119 = .ok (.if_icmp .ne 48, 3) := by decide +kernel
theorem dL_texts_122 : decode cL_texts 122 = .ok (.ldc2_w 166, 3) := by decide +kernel
theorem dL_texts_125 : decode cL_texts 125 = .ok (.lconst 0, 1) := by decide +kernel
theorem dL_texts_126 : decode cL_texts 126 = .ok (.invokestatic 142, 3) := by decide +kernel
theorem dL_texts_129 : decode cL_texts 129 = .ok (.iconst 3, 1) := by decide +kernel
theorem dL_texts_130 : decode cL_texts 130 = .ok (.if_icmp .ne 37, 3) := by decide +kernel
theorem dL_texts_133 : decode cL_texts 133 = .ok (.ldc2_w 168, 3) := by decide +kernel
theorem dL_texts_136 : decode cL_texts 136 = .ok (.lconst 0, 1) := by decide +kernel
theorem dL_texts_137 : decode cL_texts 137 = .ok (.invokestatic 142, 3) := by decide +kernel
theorem dL_texts_140 : decode cL_texts 140 = .ok (.iconst 4, 1) := by decide +kernel
theorem dL_texts_141 : decode cL_texts 141 = .ok (.if_icmp .ne 26, 3) := by decide +kernel
theorem dL_texts_144 : decode cL_texts 144 = .ok (.ldc2_w 170, 3) := by decide +kernel
theorem dL_texts_147 : decode cL_texts 147 = .ok (.lconst 0, 1) := by decide +kernel
theorem dL_texts_148 : decode cL_texts 148 = .ok (.invokestatic 142, 3) := by decide +kernel
theorem dL_texts_151 : decode cL_texts 151 = .ok (.bipush (-6), 2) := by decide +kernel
theorem dL_texts_153 : decode cL_texts 153 = .ok (.if_icmp .ne 14, 3) := by decide +kernel
theorem dL_texts_156 : decode cL_texts 156 = .ok (.ldc2_w 172, 3) := by decide +kernel
theorem dL_texts_159 : decode cL_texts 159 = .ok (.lconst 0, 1) := by decide +kernel
theorem dL_texts_160 : decode cL_texts 160 = .ok (.invokestatic 142, 3) := by decide +kernel
theorem dL_texts_163 : decode cL_texts 163 = .ok (.iconst 4, 1) := by decide +kernel
theorem dL_texts_164 : decode cL_texts 164 = .ok (.if_icmp .eq 5, 3) := by decide +kernel
theorem dL_texts_167 : decode cL_texts 167 = .ok (.iconst 0, 1) := by decide +kernel
theorem dL_texts_168 : decode cL_texts 168 = .ok (.ireturn, 1) := by decide +kernel
theorem dL_texts_169 : decode cL_texts 169 = .ok (.ldc2_w 174, 3) := by decide +kernel
theorem dL_texts_172 : decode cL_texts 172 = .ok (.lconst 0, 1) := by decide +kernel
theorem dL_texts_173 : decode cL_texts 173 = .ok (.invokestatic 142, 3) := by decide +kernel
theorem dL_texts_176 : decode cL_texts 176 = .ok (.iconst 4, 1) := by decide +kernel
theorem dL_texts_177 : decode cL_texts 177 = .ok (.if_icmp .ne 166, 3) := by decide +kernel
theorem dL_texts_180 : decode cL_texts 180 = .ok (.ldc2_w 176, 3) := by decide +kernel
theorem dL_texts_183 : decode cL_texts 183 = .ok (.lconst 0, 1) := by decide +kernel
theorem dL_texts_184 : decode cL_texts 184 = .ok (.invokestatic 142, 3) := by decide +kernel
theorem dL_texts_187 : decode cL_texts 187 = .ok (.iconst 4, 1) := by decide +kernel
theorem dL_texts_188 : decode cL_texts 188 = .ok (.if_icmp .ne 155, 3) := by decide +kernel
theorem dL_texts_191 : decode cL_texts 191 = .ok (.ldc2_w 178, 3) := by decide +kernel
theorem dL_texts_194 : decode cL_texts 194 = .ok (.lconst 0, 1) := by decide +kernel
theorem dL_texts_195 : decode cL_texts 195 = .ok (.invokestatic 142, 3) := by decide +kernel
theorem dL_texts_198 : decode cL_texts 198 = .ok (.bipush (-6), 2) := by decide +kernel
theorem dL_texts_200 : decode cL_texts 200 = .ok (.if_icmp .ne 143, 3) := by decide +kernel
theorem dL_texts_203 : decode cL_texts 203 = .ok (.ldc2_w 180, 3) := by decide +kernel
theorem dL_texts_206 : decode cL_texts 206 = .ok (.lconst 0, 1) := by decide +kernel
theorem dL_texts_207 : decode cL_texts 207 = .ok (.invokestatic 142, 3) := by decide +kernel
theorem dL_texts_210 : decode cL_texts 210 = .ok (.bipush (-6), 2) := by decide +kernel
theorem dL_texts_212 : decode cL_texts 212 = .ok (.if_icmp .ne 131, 3) := by decide +kernel
theorem dL_texts_215 : decode cL_texts 215 = .ok (.ldc2_w 182, 3) := by decide +kernel
theorem dL_texts_218 : decode cL_texts 218 = .ok (.lconst 0, 1) := by decide +kernel
theorem dL_texts_219 : decode cL_texts 219 = .ok (.invokestatic 142, 3) := by decide +kernel
theorem dL_texts_222 : decode cL_texts 222 = .ok (.bipush 7, 2) := by decide +kernel
theorem dL_texts_224 : decode cL_texts 224 = .ok (.if_icmp .ne 119, 3) := by decide +kernel
theorem dL_texts_227 : decode cL_texts 227 = .ok (.ldc2_w 184, 3) := by decide +kernel
theorem dL_texts_230 : decode cL_texts 230 = .ok (.lconst 0, 1) := by decide +kernel
theorem dL_texts_231 : decode cL_texts 231 = .ok (.invokestatic 142, 3) := by decide +kernel
theorem dL_texts_234 : decode cL_texts 234 = .ok (.iconst 4, 1) := by decide +kernel
theorem dL_texts_235 : decode cL_texts 235 = .ok (.if_icmp .ne 108, 3) := by decide +kernel
theorem dL_texts_238 : decode cL_texts 238 = .ok (.ldc2_w 186, 3) := by decide +kernel
theorem dL_texts_241 : decode cL_texts 241 = .ok (.lconst 0, 1) := by decide +kernel
theorem dL_texts_242 : decode cL_texts 242 = .ok (.invokestatic 142, 3) := by decide +kernel
theorem dL_texts_245 : decode cL_texts 245 = .ok (.iconst 2, 1) := by decide +kernel
theorem dL_texts_246 : decode cL_texts 246 = .ok (.if_icmp .ne 97, 3) := by decide +kernel
theorem dL_texts_249 : decode cL_texts 249 = .ok (.ldc2_w 188, 3) := by decide +kernel
theorem dL_texts_252 : decode cL_texts 252 = .ok (.lconst 0, 1) := by decide +kernel
theorem dL_texts_253 : decode cL_texts 253 = .ok (.invokestatic 142, 3) := by decide +kernel
theorem dL_texts_256 : decode cL_texts 256 = .ok (.iconst 2, 1) := by decide +kernel
theorem dL_texts_257 : decode cL_texts 257 = .ok (.if_icmp .ne 86, 3) := by decide +kernel
theorem dL_texts_260 : decode cL_texts 260 = .ok (.ldc2_w 190, 3) := by decide +kernel
theorem dL_texts_263 : decode cL_texts 263 = .ok (.lconst 0, 1) := by decide +kernel
theorem dL_texts_264 : decode cL_texts 264 = .ok (.invokestatic 142, 3) := by decide +kernel
theorem dL_texts_267 : decode cL_texts 267 = .ok (.iconst 4, 1) := by decide +kernel
theorem dL_texts_268 : decode cL_texts 268 = .ok (.if_icmp .ne 75, 3) := by decide +kernel
theorem dL_texts_271 : decode cL_texts 271 = .ok (.ldc2_w 192, 3) := by decide +kernel
theorem dL_texts_274 : decode cL_texts 274 = .ok (.lconst 0, 1) := by decide +kernel
theorem dL_texts_275 : decode cL_texts 275 = .ok (.invokestatic 142, 3) := by decide +kernel
theorem dL_texts_278 : decode cL_texts 278 = .ok (.bipush (-6), 2) := by decide +kernel
theorem dL_texts_280 : decode cL_texts 280 = .ok (.if_icmp .ne 63, 3) := by decide +kernel
theorem dL_texts_283 : decode cL_texts 283 = .ok (.ldc2_w 194, 3) := by decide +kernel
theorem dL_texts_286 : decode cL_texts 286 = .ok (.lconst 0, 1) := by decide +kernel
theorem dL_texts_287 : decode cL_texts 287 = .ok (.invokestatic 142, 3) := by decide +kernel
theorem dL_texts_290 : decode cL_texts 290 = .ok (.iconst 2, 1) := by decide +kernel
theorem dL_texts_291 : decode cL_texts 291 = .ok (.if_icmp .ne 52, 3) := by decide +kernel
theorem dL_texts_294 : decode cL_texts 294 = .ok (.ldc2_w 196, 3) := by decide +kernel
theorem dL_texts_297 : decode cL_texts 297 = .ok (.lconst 0, 1) := by decide +kernel
theorem dL_texts_298 : decode cL_texts 298 = .ok (.invokestatic 142, 3) := by decide +kernel
theorem dL_texts_301 : decode cL_texts 301 = .ok (.iconst 1, 1) := by decide +kernel
theorem dL_texts_302 : decode cL_texts 302 = .ok (.if_icmp .ne 41, 3) := by decide +kernel
theorem dL_texts_305 : decode cL_texts 305 = .ok (.ldc2_w 198, 3) := by decide +kernel
theorem dL_texts_308 : decode cL_texts 308 = .ok (.lconst 0, 1) := by decide +kernel
theorem dL_texts_309 : decode cL_texts 309 = .ok (.invokestatic 142, 3) := by decide +kernel
theorem dL_texts_312 : decode cL_texts 312 = .ok (.iconst 2, 1) := by decide +kernel
theorem dL_texts_313 : decode cL_texts 313 = .ok (.if_icmp .ne 30, 3) := by decide +kernel
theorem dL_texts_316 : decode cL_texts 316 = .ok (.ldc2_w 200, 3) := by decide +kernel
theorem dL_texts_319 : decode cL_texts 319 = .ok (.lconst 0, 1) := by decide +kernel
theorem dL_texts_320 : decode cL_texts 320 = .ok (.invokestatic 142, 3) := by decide +kernel
theorem dL_texts_323 : decode cL_texts 323 = .ok (.bipush (-6), 2) := by decide +kernel
theorem dL_texts_325 : decode cL_texts 325 = .ok (.if_icmp .ne 18, 3) := by decide +kernel
theorem dL_texts_328 : decode cL_texts 328 = .ok (.ldc2_w 202, 3) := by decide +kernel
theorem dL_texts_331 : decode cL_texts 331 = .ok (.lconst 0, 1) := by decide +kernel
theorem dL_texts_332 : decode cL_texts 332 = .ok (.invokestatic 142, 3) := by decide +kernel
theorem dL_texts_335 : decode cL_texts 335 = .ok (.iconst 2, 1) := by decide +kernel
theorem dL_texts_336 : decode cL_texts 336 = .ok (.if_icmp .ne 7, 3) := by decide +kernel
theorem dL_texts_339 : decode cL_texts 339 = .ok (.iconst 1, 1) := by decide +kernel
theorem dL_texts_340 : decode cL_texts 340 = .ok (.goto 4, 3) := by decide +kernel
theorem dL_texts_343 : decode cL_texts 343 = .ok (.iconst 0, 1) := by decide +kernel
theorem dL_texts_344 : decode cL_texts 344 = .ok (.ireturn, 1) := by decide +kernel
theorem dL_carried_0 : decode cL_carried 0 = .ok (.new 14, 3) := by decide +kernel
theorem dL_carried_3 : decode cL_carried 3 = .ok (.dup, 1) := by decide +kernel
theorem dL_carried_4 : decode cL_carried 4 = .ok (.invokespecial 100, 3) := by decide +kernel
theorem dL_carried_7 : decode cL_carried 7 = .ok (.astore_n 0, 1) := by decide +kernel
theorem dL_carried_8 : decode cL_carried 8 = .ok (.aload_n 0, 1) := by decide +kernel
theorem dL_carried_9 : decode cL_carried 9 = .ok (.ldc2_w 204, 3) := by decide +kernel
theorem dL_carried_12 : decode cL_carried 12 = .ok (.invokestatic 135, 3) := by decide +kernel
theorem dL_carried_15 : decode cL_carried 15 = .ok (.ifCond .eq 142, 3) := by decide +kernel
theorem dL_carried_18 : decode cL_carried 18 = .ok (.aload_n 0, 1) := by decide +kernel
theorem dL_carried_19 : decode cL_carried 19 = .ok (.ldc2_w 206, 3) := by decide +kernel
theorem dL_carried_22 : decode cL_carried 22 = .ok (.invokestatic 135, 3) := by decide +kernel
theorem dL_carried_25 : decode cL_carried 25 = .ok (.ifCond .eq 132, 3) := by decide +kernel
theorem dL_carried_28 : decode cL_carried 28 = .ok (.aload_n 0, 1) := by decide +kernel
theorem dL_carried_29 : decode cL_carried 29 = .ok (.ldc2_w 208, 3) := by decide +kernel
theorem dL_carried_32 : decode cL_carried 32 = .ok (.invokestatic 135, 3) := by decide +kernel
theorem dL_carried_35 : decode cL_carried 35 = .ok (.ifCond .eq 122, 3) := by decide +kernel
theorem dL_carried_38 : decode cL_carried 38 = .ok (.aload_n 0, 1) := by decide +kernel
theorem dL_carried_39 : decode cL_carried 39 = .ok (.ldc2_w 210, 3) := by decide +kernel
theorem dL_carried_42 : decode cL_carried 42 = .ok (.invokestatic 135, 3) := by decide +kernel
theorem dL_carried_45 : decode cL_carried 45 = .ok (.ifCond .eq 112, 3) := by decide +kernel
theorem dL_carried_48 : decode cL_carried 48 = .ok (.aload_n 0, 1) := by decide +kernel
theorem dL_carried_49 : decode cL_carried 49 = .ok (.bipush 11, 2) := by decide +kernel
theorem dL_carried_51 : decode cL_carried 51 = .ok (.invokevirtual 13, 3) := by decide +kernel
theorem dL_carried_54 : decode cL_carried 54 = .ok (.bipush 31, 2) := by decide +kernel
theorem dL_carried_56 : decode cL_carried 56 = .ok (.if_icmp .ne 101, 3) := by decide +kernel
theorem dL_carried_59 : decode cL_carried 59 = .ok (.aload_n 0, 1) := by decide +kernel
theorem dL_carried_60 : decode cL_carried 60 = .ok (.invokevirtual 212, 3) := by decide +kernel
theorem dL_carried_63 : decode cL_carried 63 = .ok (.bipush 6, 2) := by decide +kernel
theorem dL_carried_65 : decode cL_carried 65 = .ok (.if_icmp .ne 92, 3) := by decide +kernel
theorem dL_carried_68 : decode cL_carried 68 = .ok (.aload_n 0, 1) := by decide +kernel
theorem dL_carried_69 : decode cL_carried 69 = .ok (.bipush 11, 2) := by decide +kernel
theorem dL_carried_71 : decode cL_carried 71 = .ok (.invokevirtual 13, 3) := by decide +kernel
theorem dL_carried_74 : decode cL_carried 74 = .ok (.ifCond .ne 83, 3) := by decide +kernel
theorem dL_carried_77 : decode cL_carried 77 = .ok (.aload_n 0, 1) := by decide +kernel
theorem dL_carried_78 : decode cL_carried 78 = .ok (.bipush 12, 2) := by decide +kernel
theorem dL_carried_80 : decode cL_carried 80 = .ok (.invokevirtual 13, 3) := by decide +kernel
theorem dL_carried_83 : decode cL_carried 83 = .ok (.iconst 1, 1) := by decide +kernel
theorem dL_carried_84 : decode cL_carried 84 = .ok (.if_icmp .ne 73, 3) := by decide +kernel
theorem dL_carried_87 : decode cL_carried 87 = .ok (.aload_n 0, 1) := by decide +kernel
theorem dL_carried_88 : decode cL_carried 88 = .ok (.iconst 0, 1) := by decide +kernel
theorem dL_carried_89 : decode cL_carried 89 = .ok (.invokevirtual 13, 3) := by decide +kernel
theorem dL_carried_92 : decode cL_carried 92 = .ok (.iconst 1, 1) := by decide +kernel
theorem dL_carried_93 : decode cL_carried 93 = .ok (.if_icmp .ne 64, 3) := by decide +kernel
theorem dL_carried_96 : decode cL_carried 96 = .ok (.aload_n 0, 1) := by decide +kernel
theorem dL_carried_97 : decode cL_carried 97 = .ok (.iconst 1, 1) := by decide +kernel
theorem dL_carried_98 : decode cL_carried 98 = .ok (.invokevirtual 13, 3) := by decide +kernel
theorem dL_carried_101 : decode cL_carried 101 = .ok (.iconst 3, 1) := by decide +kernel
theorem dL_carried_102 : decode cL_carried 102 = .ok (.if_icmp .ne 55, 3) := by decide +kernel
theorem dL_carried_105 : decode cL_carried 105 = .ok (.aload_n 0, 1) := by decide +kernel
theorem dL_carried_106 : decode cL_carried 106 = .ok (.iconst 0, 1) := by decide +kernel
theorem dL_carried_107 : decode cL_carried 107 = .ok (.iconst 3, 1) := by decide +kernel
theorem dL_carried_108 : decode cL_carried 108 = .ok (.sipush 384, 3) := by decide +kernel
theorem dL_carried_111 : decode cL_carried 111 = .ok (.iconst 0, 1) := by decide +kernel
theorem dL_carried_112 : decode cL_carried 112 = .ok (.iconst 1, 1) := by decide +kernel
theorem dL_carried_113 : decode cL_carried 113 = .ok (.invokestatic 109, 3) := by decide +kernel
theorem dL_carried_116 : decode cL_carried 116 = .ok (.ifCond .eq 41, 3) := by decide +kernel
theorem dL_carried_119 : decode cL_carried 119 = .ok (.aload_n 0, 1) := by decide +kernel
theorem dL_carried_120 : decode cL_carried 120 = .ok (.iconst 0, 1) := by decide +kernel
theorem dL_carried_121 : decode cL_carried 121 = .ok (.iconst 0, 1) := by decide +kernel
theorem dL_carried_122 : decode cL_carried 122 = .ok (.invokevirtual 23, 3) := by decide +kernel
theorem dL_carried_125 : decode cL_carried 125 = .ok (.sipush 418, 3) := by decide +kernel
theorem dL_carried_128 : decode cL_carried 128 = .ok (.if_icmp .ne 29, 3) := by decide +kernel
theorem dL_carried_131 : decode cL_carried 131 = .ok (.aload_n 0, 1) := by decide +kernel
theorem dL_carried_132 : decode cL_carried 132 = .ok (.iconst 1, 1) := by decide +kernel
theorem dL_carried_133 : decode cL_carried 133 = .ok (.iconst 0, 1) := by decide +kernel
theorem dL_carried_134 : decode cL_carried 134 = .ok (.invokevirtual 23, 3) := by decide +kernel
theorem dL_carried_137 : decode cL_carried 137 = .ok (.sipush 232, 3) := by decide +kernel
theorem dL_carried_140 : decode cL_carried 140 = .ok (.if_icmp .ne 17, 3) := by decide +kernel
theorem dL_carried_143 : decode cL_carried 143 = .ok (.aload_n 0, 1) := by decide +kernel
theorem dL_carried_144 : decode cL_carried 144 = .ok (.iconst 2, 1) := by decide +kernel
theorem dL_carried_145 : decode cL_carried 145 = .ok (.iconst 2, 1) := by decide +kernel
theorem dL_carried_146 : decode cL_carried 146 = .ok (.bipush 64, 2) := by decide +kernel
theorem dL_carried_148 : decode cL_carried 148 = .ok (.iconst 0, 1) := by decide +kernel
theorem dL_carried_149 : decode cL_carried 149 = .ok (.bipush (-6), 2) := by decide +kernel
theorem dL_carried_151 : decode cL_carried 151 = .ok (.invokestatic 109, 3) := by decide +kernel
theorem dL_carried_154 : decode cL_carried 154 = .ok (.ifCond .ne 5, 3) := by decide +kernel
theorem dL_carried_157 : decode cL_carried 157 = .ok (.iconst 0, 1) := by decide +kernel
theorem dL_carried_158 : decode cL_carried 158 = .ok (.ireturn, 1) := by decide +kernel
theorem dL_carried_159 : decode cL_carried 159 = .ok (.aload_n 0, 1) := by decide +kernel
theorem dL_carried_160 : decode cL_carried 160 = .ok (.ldc2_w 215, 3) := by decide +kernel
theorem dL_carried_163 : decode cL_carried 163 = .ok (.invokestatic 135, 3) := by decide +kernel
theorem dL_carried_166 : decode cL_carried 166 = .ok (.ifCond .eq 205, 3) := by decide +kernel
theorem dL_carried_169 : decode cL_carried 169 = .ok (.aload_n 0, 1) := by decide +kernel
theorem dL_carried_170 : decode cL_carried 170 = .ok (.invokevirtual 212, 3) := by decide +kernel
theorem dL_carried_173 : decode cL_carried 173 = .ok (.ifCond .ne 198, 3) := by decide +kernel
theorem dL_carried_176 : decode cL_carried 176 = .ok (.aload_n 0, 1) := by decide +kernel
theorem dL_carried_177 : decode cL_carried 177 = .ok (.bipush 12, 2) := by decide +kernel
theorem dL_carried_179 : decode cL_carried 179 = .ok (.invokevirtual 13, 3) := by decide +kernel
theorem dL_carried_182 : decode cL_carried 182 = .ok (.iconst 2, 1) := by decide +kernel
theorem dL_carried_183 : decode cL_carried 183 = .ok (.if_icmp .ne 188, 3) := by decide +kernel
theorem dL_carried_186 : decode cL_carried 186 = .ok (.aload_n 0, 1) := by decide +kernel
theorem dL_carried_187 : decode cL_carried 187 = .ok (.ldc2_w 217, 3) := by decide +kernel
theorem dL_carried_190 : decode cL_carried 190 = .ok (.invokestatic 135, 3) := by decide +kernel
theorem dL_carried_193 : decode cL_carried 193 = .ok (.ifCond .eq 178, 3) := by decide +kernel
theorem dL_carried_196 : decode cL_carried 196 = .ok (.aload_n 0, 1) := by decide +kernel
theorem dL_carried_197 : decode cL_carried 197 = .ok (.invokevirtual 212, 3) := by decide +kernel
theorem dL_carried_200 : decode cL_carried 200 = .ok (.ifCond .ne 171, 3) := by decide +kernel
theorem dL_carried_203 : decode cL_carried 203 = .ok (.aload_n 0, 1) := by decide +kernel
theorem dL_carried_204 : decode cL_carried 204 = .ok (.bipush 12, 2) := by decide +kernel
theorem dL_carried_206 : decode cL_carried 206 = .ok (.invokevirtual 13, 3) := by decide +kernel
theorem dL_carried_209 : decode cL_carried 209 = .ok (.iconst 3, 1) := by decide +kernel
theorem dL_carried_210 : decode cL_carried 210 = .ok (.if_icmp .ne 161, 3) := by decide +kernel
theorem dL_carried_213 : decode cL_carried 213 = .ok (.aload_n 0, 1) := by decide +kernel
theorem dL_carried_214 : decode cL_carried 214 = .ok (.ldc2_w 219, 3) := by decide +kernel
theorem dL_carried_217 : decode cL_carried 217 = .ok (.invokestatic 135, 3) := by decide +kernel
theorem dL_carried_220 : decode cL_carried 220 = .ok (.ifCond .eq 151, 3) := by decide +kernel
theorem dL_carried_223 : decode cL_carried 223 = .ok (.aload_n 0, 1) := by decide +kernel
theorem dL_carried_224 : decode cL_carried 224 = .ok (.invokevirtual 212, 3) := by decide +kernel
theorem dL_carried_227 : decode cL_carried 227 = .ok (.iconst 1, 1) := by decide +kernel
theorem dL_carried_228 : decode cL_carried 228 = .ok (.if_icmp .ne 143, 3) := by decide +kernel
theorem dL_carried_231 : decode cL_carried 231 = .ok (.aload_n 0, 1) := by decide +kernel
theorem dL_carried_232 : decode cL_carried 232 = .ok (.iconst 1, 1) := by decide +kernel
theorem dL_carried_233 : decode cL_carried 233 = .ok (.iconst 0, 1) := by decide +kernel
theorem dL_carried_234 : decode cL_carried 234 = .ok (.invokevirtual 19, 3) := by decide +kernel
theorem dL_carried_237 : decode cL_carried 237 = .ok (.aload_n 0, 1) := by decide +kernel
theorem dL_carried_238 : decode cL_carried 238 = .ok (.iconst 4, 1) := by decide +kernel
theorem dL_carried_239 : decode cL_carried 239 = .ok (.iconst 1, 1) := by decide +kernel
theorem dL_carried_240 : decode cL_carried 240 = .ok (.iconst 0, 1) := by decide +kernel
theorem dL_carried_241 : decode cL_carried 241 = .ok (.iconst 2, 1) := by decide +kernel
theorem dL_carried_242 : decode cL_carried 242 = .ok (.invokevirtual 101, 3) := by decide +kernel
theorem dL_carried_245 : decode cL_carried 245 = .ok (.if_icmp .ne 126, 3) := by decide +kernel
theorem dL_carried_248 : decode cL_carried 248 = .ok (.aload_n 0, 1) := by decide +kernel
theorem dL_carried_249 : decode cL_carried 249 = .ok (.iconst 1, 1) := by decide +kernel
theorem dL_carried_250 : decode cL_carried 250 = .ok (.iconst 1, 1) := by decide +kernel
theorem dL_carried_251 : decode cL_carried 251 = .ok (.invokevirtual 19, 3) := by decide +kernel
theorem dL_carried_254 : decode cL_carried 254 = .ok (.iconst 2, 1) := by decide +kernel
theorem dL_carried_255 : decode cL_carried 255 = .ok (.if_icmp .ne 116, 3) := by decide +kernel
theorem dL_carried_258 : decode cL_carried 258 = .ok (.aload_n 0, 1) := by decide +kernel
theorem dL_carried_259 : decode cL_carried 259 = .ok (.iconst 1, 1) := by decide +kernel
theorem dL_carried_260 : decode cL_carried 260 = .ok (.iconst 2, 1) := by decide +kernel
theorem dL_carried_261 : decode cL_carried 261 = .ok (.invokevirtual 19, 3) := by decide +kernel
theorem dL_carried_264 : decode cL_carried 264 = .ok (.iconst 2, 1) := by decide +kernel
theorem dL_carried_265 : decode cL_carried 265 = .ok (.if_icmp .ne 106, 3) := by decide +kernel
theorem dL_carried_268 : decode cL_carried 268 = .ok (.aload_n 0, 1) := by decide +kernel
theorem dL_carried_269 : decode cL_carried 269 = .ok (.iconst 1, 1) := by decide +kernel
theorem dL_carried_270 : decode cL_carried 270 = .ok (.iconst 3, 1) := by decide +kernel
theorem dL_carried_271 : decode cL_carried 271 = .ok (.invokevirtual 19, 3) := by decide +kernel
theorem dL_carried_274 : decode cL_carried 274 = .ok (.ifCond .ne 97, 3) := by decide +kernel
theorem dL_carried_277 : decode cL_carried 277 = .ok (.aload_n 0, 1) := by decide +kernel
theorem dL_carried_278 : decode cL_carried 278 = .ok (.iconst 1, 1) := by decide +kernel
theorem dL_carried_279 : decode cL_carried 279 = .ok (.iconst 4, 1) := by decide +kernel
theorem dL_carried_280 : decode cL_carried 280 = .ok (.invokevirtual 19, 3) := by decide +kernel
theorem dL_carried_283 : decode cL_carried 283 = .ok (.bipush 7, 2) := by decide +kernel
theorem dL_carried_285 : decode cL_carried 285 = .ok (.if_icmp .ne 86, 3) := by decide +kernel
theorem dL_carried_288 : decode cL_carried 288 = .ok (.aload_n 0, 1) := by decide +kernel
theorem dL_carried_289 : decode cL_carried 289 = .ok (.ldc2_w 221, 3) := by decide +kernel
theorem dL_carried_292 : decode cL_carried 292 = .ok (.invokestatic 135, 3) := by decide +kernel
theorem dL_carried_295 : decode cL_carried 295 = .ok (.ifCond .eq 76, 3) := by decide +kernel
theorem dL_carried_298 : decode cL_carried 298 = .ok (.aload_n 0, 1) := by decide +kernel
theorem dL_carried_299 : decode cL_carried 299 = .ok (.ldc2_w 148, 3) := by decide +kernel
theorem dL_carried_302 : decode cL_carried 302 = .ok (.invokestatic 135, 3) := by decide +kernel
theorem dL_carried_305 : decode cL_carried 305 = .ok (.ifCond .eq 66, 3) := by decide +kernel
theorem dL_carried_308 : decode cL_carried 308 = .ok (.aload_n 0, 1) := by decide +kernel
theorem dL_carried_309 : decode cL_carried 309 = .ok (.invokevirtual 212, 3) := by decide +kernel
theorem dL_carried_312 : decode cL_carried 312 = .ok (.iconst 2, 1) := by decide +kernel
theorem dL_carried_313 : decode cL_carried 313 = .ok (.if_icmp .ne 58, 3) := by decide +kernel
theorem dL_carried_316 : decode cL_carried 316 = .ok (.aload_n 0, 1) := by decide +kernel
theorem dL_carried_317 : decode cL_carried 317 = .ok (.iconst 3, 1) := by decide +kernel
theorem dL_carried_318 : decode cL_carried 318 = .ok (.iconst 0, 1) := by decide +kernel
theorem dL_carried_319 : decode cL_carried 319 = .ok (.invokevirtual 23, 3) := by decide +kernel
theorem dL_carried_322 : decode cL_carried 322 = .ok (.aload_n 0, 1) := by decide +kernel
theorem dL_carried_323 : decode cL_carried 323 = .ok (.bipush 6, 2) := by decide +kernel
theorem dL_carried_325 : decode cL_carried 325 = .ok (.iconst 1, 1) := by decide +kernel
theorem dL_carried_326 : decode cL_carried 326 = .ok (.iconst 0, 1) := by decide +kernel
theorem dL_carried_327 : decode cL_carried 327 = .ok (.iconst (-1), 1) := by decide +kernel
theorem dL_carried_328 : decode cL_carried 328 = .ok (.invokevirtual 101, 3) := by decide +kernel
theorem dL_carried_331 : decode cL_carried 331 = .ok (.if_icmp .ne 40, 3) := by decide +kernel
theorem dL_carried_334 : decode cL_carried 334 = .ok (.aload_n 0, 1) := by decide +kernel
theorem dL_carried_335 : decode cL_carried 335 = .ok (.ldc2_w 194, 3) := by decide +kernel
theorem dL_carried_338 : decode cL_carried 338 = .ok (.invokestatic 135, 3) := by decide +kernel
theorem dL_carried_341 : decode cL_carried 341 = .ok (.ifCond .eq 30, 3) := by decide +kernel
theorem dL_carried_344 : decode cL_carried 344 = .ok (.aload_n 0, 1) := by decide +kernel
theorem dL_carried_345 : decode cL_carried 345 = .ok (.invokevirtual 212, 3) := by decide +kernel
theorem dL_carried_348 : decode cL_carried 348 = .ok (.bipush (-3), 2) := by decide +kernel
theorem dL_carried_350 : decode cL_carried 350 = .ok (.if_icmp .ne 21, 3) := by decide +kernel
theorem dL_carried_353 : decode cL_carried 353 = .ok (.aload_n 0, 1) := by decide +kernel
theorem dL_carried_354 : decode cL_carried 354 = .ok (.bipush 11, 2) := by decide +kernel
theorem dL_carried_356 : decode cL_carried 356 = .ok (.invokevirtual 13, 3) := by decide +kernel
theorem dL_carried_359 : decode cL_carried 359 = .ok (.iconst 2, 1) := by decide +kernel
theorem dL_carried_360 : decode cL_carried 360 = .ok (.if_icmp .ne 11, 3) := by decide +kernel
theorem dL_carried_363 : decode cL_carried 363 = .ok (.aload_n 0, 1) := by decide +kernel
theorem dL_carried_364 : decode cL_carried 364 = .ok (.invokevirtual 223, 3) := by decide +kernel
theorem dL_carried_367 : decode cL_carried 367 = .ok (.iconst 2, 1) := by decide +kernel
theorem dL_carried_368 : decode cL_carried 368 = .ok (.if_icmp .eq 5, 3) := by decide +kernel
theorem dL_carried_371 : decode cL_carried 371 = .ok (.iconst 0, 1) := by decide +kernel
theorem dL_carried_372 : decode cL_carried 372 = .ok (.ireturn, 1) := by decide +kernel
theorem dL_carried_373 : decode cL_carried 373 = .ok (.iconst 0, 1) := by decide +kernel
theorem dL_carried_374 : decode cL_carried 374 = .ok (.istore_n 1, 1) := by decide +kernel
theorem dL_carried_375 : decode cL_carried 375 = .ok (.iload_n 1, 1) := by decide +kernel
theorem dL_carried_376 : decode cL_carried 376 = .ok (.bipush 10, 2) := by decide +kernel
theorem dL_carried_378 : decode cL_carried 378 = .ok (.if_icmp .ge 28, 3) := by decide +kernel
theorem dL_carried_381 : decode cL_carried 381 = .ok (.aload_n 0, 1) := by decide +kernel
theorem dL_carried_382 : decode cL_carried 382 = .ok (.ldc2_w 226, 3) := by decide +kernel
theorem dL_carried_385 : decode cL_carried 385 = .ok (.invokevirtual 78, 3) := by decide +kernel
theorem dL_carried_388 : decode cL_carried 388 = .ok (.bipush 8, 2) := by decide +kernel
theorem dL_carried_390 : decode cL_carried 390 = .ok (.iload_n 1, 1) := by decide +kernel
theorem dL_carried_391 : decode cL_carried 391 = .ok (.imul, 1) := by decide +kernel
theorem dL_carried_392 : decode cL_carried 392 = .ok (.bipush 8, 2) := by decide +kernel
theorem dL_carried_394 : decode cL_carried 394 = .ok (.iadd, 1) := by decide +kernel
theorem dL_carried_395 : decode cL_carried 395 = .ok (.if_icmp .eq 5, 3) := by decide +kernel
theorem dL_carried_398 : decode cL_carried 398 = .ok (.iconst 0, 1) := by decide +kernel
theorem dL_carried_399 : decode cL_carried 399 = .ok (.ireturn, 1) := by decide +kernel
theorem dL_carried_400 : decode cL_carried 400 = .ok (.iinc 1 1, 3) := by decide +kernel
theorem dL_carried_403 : decode cL_carried 403 = .ok (.goto (-28), 3) := by decide +kernel
theorem dL_carried_406 : decode cL_carried 406 = .ok (.aload_n 0, 1) := by decide +kernel
theorem dL_carried_407 : decode cL_carried 407 = .ok (.ldc2_w 228, 3) := by decide +kernel
theorem dL_carried_410 : decode cL_carried 410 = .ok (.invokevirtual 78, 3) := by decide +kernel
theorem dL_carried_413 : decode cL_carried 413 = .ok (.bipush (-4), 2) := by decide +kernel
theorem dL_carried_415 : decode cL_carried 415 = .ok (.if_icmp .ne 33, 3) := by decide +kernel
theorem dL_carried_418 : decode cL_carried 418 = .ok (.aload_n 0, 1) := by decide +kernel
theorem dL_carried_419 : decode cL_carried 419 = .ok (.invokevirtual 223, 3) := by decide +kernel
theorem dL_carried_422 : decode cL_carried 422 = .ok (.bipush 80, 2) := by decide +kernel
theorem dL_carried_424 : decode cL_carried 424 = .ok (.if_icmp .ne 24, 3) := by decide +kernel
theorem dL_carried_427 : decode cL_carried 427 = .ok (.aload_n 0, 1) := by decide +kernel
theorem dL_carried_428 : decode cL_carried 428 = .ok (.invokevirtual 105, 3) := by decide +kernel
theorem dL_carried_431 : decode cL_carried 431 = .ok (.iconst 4, 1) := by decide +kernel
theorem dL_carried_432 : decode cL_carried 432 = .ok (.if_icmp .ne 16, 3) := by decide +kernel
theorem dL_carried_435 : decode cL_carried 435 = .ok (.aload_n 0, 1) := by decide +kernel
theorem dL_carried_436 : decode cL_carried 436 = .ok (.iconst 1, 1) := by decide +kernel
theorem dL_carried_437 : decode cL_carried 437 = .ok (.invokevirtual 13, 3) := by decide +kernel
theorem dL_carried_440 : decode cL_carried 440 = .ok (.iconst 3, 1) := by decide +kernel
theorem dL_carried_441 : decode cL_carried 441 = .ok (.if_icmp .ne 7, 3) := by decide +kernel
theorem dL_carried_444 : decode cL_carried 444 = .ok (.iconst 1, 1) := by decide +kernel
theorem dL_carried_445 : decode cL_carried 445 = .ok (.goto 4, 3) := by decide +kernel
theorem dL_carried_448 : decode cL_carried 448 = .ok (.iconst 0, 1) := by decide +kernel
theorem dL_carried_449 : decode cL_carried 449 = .ok (.ireturn, 1) := by decide +kernel
theorem dL_law_0 : decode cL_law 0 = .ok (.invokestatic 230, 3) := by decide +kernel
theorem dL_law_3 : decode cL_law 3 = .ok (.ifCond .eq 21, 3) := by decide +kernel
theorem dL_law_6 : decode cL_law 6 = .ok (.invokestatic 234, 3) := by decide +kernel
theorem dL_law_9 : decode cL_law 9 = .ok (.ifCond .eq 15, 3) := by decide +kernel
theorem dL_law_12 : decode cL_law 12 = .ok (.invokestatic 237, 3) := by decide +kernel
theorem dL_law_15 : decode cL_law 15 = .ok (.ifCond .eq 9, 3) := by decide +kernel
theorem dL_law_18 : decode cL_law 18 = .ok (.invokestatic 240, 3) := by decide +kernel
theorem dL_law_21 : decode cL_law 21 = .ok (.ifCond .ne 5, 3) := by decide +kernel
theorem dL_law_24 : decode cL_law 24 = .ok (.iconst 0, 1) := by decide +kernel
theorem dL_law_25 : decode cL_law 25 = .ok (.ireturn, 1) := by decide +kernel
theorem dL_law_26 : decode cL_law 26 = .ok (.new 14, 3) := by decide +kernel
theorem dL_law_29 : decode cL_law 29 = .ok (.dup, 1) := by decide +kernel
theorem dL_law_30 : decode cL_law 30 = .ok (.invokespecial 100, 3) := by decide +kernel
theorem dL_law_33 : decode cL_law 33 = .ok (.astore_n 1, 1) := by decide +kernel
theorem dL_law_34 : decode cL_law 34 = .ok (.bipush 64, 2) := by decide +kernel
theorem dL_law_36 : decode cL_law 36 = .ok (.newarray .long, 2) := by decide +kernel
theorem dL_law_38 : decode cL_law 38 = .ok (.astore_n 2, 1) := by decide +kernel
theorem dL_law_39 : decode cL_law 39 = .ok (.iconst 0, 1) := by decide +kernel
theorem dL_law_40 : decode cL_law 40 = .ok (.istore_n 3, 1) := by decide +kernel
theorem dL_law_41 : decode cL_law 41 = .ok (.iconst 0, 1) := by decide +kernel
theorem dL_law_42 : decode cL_law 42 = .ok (.istore 4, 2) := by decide +kernel
theorem dL_law_44 : decode cL_law 44 = .ok (.iload 4, 2) := by decide +kernel
theorem dL_law_46 : decode cL_law 46 = .ok (.bipush 24, 2) := by decide +kernel
theorem dL_law_48 : decode cL_law 48 = .ok (.if_icmp .ge 358, 3) := by decide +kernel
theorem dL_law_51 : decode cL_law 51 = .ok (.aload_n 0, 1) := by decide +kernel
theorem dL_law_52 : decode cL_law 52 = .ok (.iload 4, 2) := by decide +kernel
theorem dL_law_54 : decode cL_law 54 = .ok (.invokestatic 243, 3) := by decide +kernel
theorem dL_law_57 : decode cL_law 57 = .ok (.istore 5, 2) := by decide +kernel
theorem dL_law_59 : decode cL_law 59 = .ok (.iload 5, 2) := by decide +kernel
theorem dL_law_61 : decode cL_law 61 = .ok (.bipush 9, 2) := by decide +kernel
theorem dL_law_63 : decode cL_law 63 = .ok (.invokestatic 247, 3) := by decide +kernel
theorem dL_law_66 : decode cL_law 66 = .ok (.istore 6, 2) := by decide +kernel
theorem dL_law_68 : decode cL_law 68 = .ok (.aload_n 2, 1) := by decide +kernel
theorem dL_law_69 : decode cL_law 69 = .ok (.iload_n 3, 1) := by decide +kernel
theorem dL_law_70 : decode cL_law 70 = .ok (.aload_n 1, 1) := by decide +kernel
theorem dL_law_71 : decode cL_law 71 = .ok (.invokestatic 92, 3) := by decide +kernel
theorem dL_law_74 : decode cL_law 74 = .ok (.lastore, 1) := by decide +kernel
theorem dL_law_75 : decode cL_law 75 = .ok (.aload_n 1, 1) := by decide +kernel
theorem dL_law_76 : decode cL_law 76 = .ok (.bipush 12, 2) := by decide +kernel
theorem dL_law_78 : decode cL_law 78 = .ok (.invokevirtual 13, 3) := by decide +kernel
theorem dL_law_81 : decode cL_law 81 = .ok (.istore 7, 2) := by decide +kernel
theorem dL_law_83 : decode cL_law 83 = .ok (.aload_n 1, 1) := by decide +kernel
theorem dL_law_84 : decode cL_law 84 = .ok (.iconst 1, 1) := by decide +kernel
theorem dL_law_85 : decode cL_law 85 = .ok (.iload 5, 2) := by decide +kernel
theorem dL_law_87 : decode cL_law 87 = .ok (.iconst 4, 1) := by decide +kernel
theorem dL_law_88 : decode cL_law 88 = .ok (.ishr, 1) := by decide +kernel
theorem dL_law_89 : decode cL_law 89 = .ok (.iconst 4, 1) := by decide +kernel
theorem dL_law_90 : decode cL_law 90 = .ok (.invokestatic 247, 3) := by decide +kernel
theorem dL_law_93 : decode cL_law 93 = .ok (.iadd, 1) := by decide +kernel
theorem dL_law_94 : decode cL_law 94 = .ok (.iload 5, 2) := by decide +kernel
theorem dL_law_96 : decode cL_law 96 = .ok (.bipush 6, 2) := by decide +kernel
theorem dL_law_98 : decode cL_law 98 = .ok (.ishr, 1) := by decide +kernel
theorem dL_law_99 : decode cL_law 99 = .ok (.iconst 3, 1) := by decide +kernel
theorem dL_law_100 : decode cL_law 100 = .ok (.invokestatic 247, 3) := by decide +kernel
theorem dL_law_103 : decode cL_law 103 = .ok (.iconst 0, 1) := by decide +kernel
theorem dL_law_104 : decode cL_law 104 = .ok (.iload 5, 2) := by decide +kernel
theorem dL_law_106 : decode cL_law 106 = .ok (.bipush 8, 2) := by decide +kernel
theorem dL_law_108 : decode cL_law 108 = .ok (.ishr, 1) := by decide +kernel
theorem dL_law_109 : decode cL_law 109 = .ok (.bipush 8, 2) := by decide +kernel
theorem dL_law_111 : decode cL_law 111 = .ok (.invokestatic 247, 3) := by decide +kernel
theorem dL_law_114 : decode cL_law 114 = .ok (.invokevirtual 101, 3) := by decide +kernel
theorem dL_law_117 : decode cL_law 117 = .ok (.istore 8, 2) := by decide +kernel
theorem dL_law_119 : decode cL_law 119 = .ok (.iload 6, 2) := by decide +kernel
theorem dL_law_121 : decode cL_law 121 = .ok (.ifCond .ne 39, 3) := by decide +kernel
theorem dL_law_124 : decode cL_law 124 = .ok (.aload_n 1, 1) := by decide +kernel
theorem dL_law_125 : decode cL_law 125 = .ok (.iload 5, 2) := by decide +kernel
theorem dL_law_127 : decode cL_law 127 = .ok (.iconst 4, 1) := by decide +kernel
theorem dL_law_128 : decode cL_law 128 = .ok (.ishr, 1) := by decide +kernel
theorem dL_law_129 : decode cL_law 129 = .ok (.bipush 8, 2) := by decide +kernel
theorem dL_law_131 : decode cL_law 131 = .ok (.invokestatic 247, 3) := by decide +kernel
theorem dL_law_134 : decode cL_law 134 = .ok (.iload 5, 2) := by decide +kernel
theorem dL_law_136 : decode cL_law 136 = .ok (.bipush 7, 2) := by decide +kernel
theorem dL_law_138 : decode cL_law 138 = .ok (.ishr, 1) := by decide +kernel
theorem dL_law_139 : decode cL_law 139 = .ok (.bipush 8, 2) := by decide +kernel
theorem dL_law_141 : decode cL_law 141 = .ok (.invokestatic 247, 3) := by decide +kernel
theorem dL_law_144 : decode cL_law 144 = .ok (.iload 5, 2) := by decide +kernel
theorem dL_law_146 : decode cL_law 146 = .ok (.bipush 10, 2) := by decide +kernel
theorem dL_law_148 : decode cL_law 148 = .ok (.ishr, 1) := by decide +kernel
theorem dL_law_149 : decode cL_law 149 = .ok (.bipush 8, 2) := by decide +kernel
theorem dL_law_151 : decode cL_law 151 = .ok (.invokestatic 247, 3) := by decide +kernel
theorem dL_law_154 : decode cL_law 154 = .ok (.invokevirtual 26, 3) := by decide +kernel
theorem dL_law_157 : decode cL_law 157 = .ok (.goto 199, 3) := by decide +kernel
theorem dL_law_160 : decode cL_law 160 = .ok (.iload 6, 2) := by decide +kernel
theorem dL_law_162 : decode cL_law 162 = .ok (.iconst 1, 1) := by decide +kernel
theorem dL_law_163 : decode cL_law 163 = .ok (.if_icmp .ne 18, 3) := by decide +kernel
theorem dL_law_166 : decode cL_law 166 = .ok (.aload_n 1, 1) := by decide +kernel
theorem dL_law_167 : decode cL_law 167 = .ok (.iload 5, 2) := by decide +kernel
theorem dL_law_169 : decode cL_law 169 = .ok (.iconst 4, 1) := by decide +kernel
theorem dL_law_170 : decode cL_law 170 = .ok (.ishr, 1) := by decide +kernel
theorem dL_law_171 : decode cL_law 171 = .ok (.iconst 2, 1) := by decide +kernel
theorem dL_law_172 : decode cL_law 172 = .ok (.invokestatic 247, 3) := by decide +kernel
theorem dL_law_175 : decode cL_law 175 = .ok (.invokevirtual 32, 3) := by decide +kernel
theorem dL_law_178 : decode cL_law 178 = .ok (.goto 178, 3) := by decide +kernel
theorem dL_law_181 : decode cL_law 181 = .ok (.iload 6, 2) := by decide +kernel
theorem dL_law_183 : decode cL_law 183 = .ok (.iconst 2, 1) := by decide +kernel
theorem dL_law_184 : decode cL_law 184 = .ok (.if_icmp .eq 9, 3) := by decide +kernel
theorem dL_law_187 : decode cL_law 187 = .ok (.iload 6, 2) := by decide +kernel
theorem dL_law_189 : decode cL_law 189 = .ok (.iconst 3, 1) := by decide +kernel
theorem dL_law_190 : decode cL_law 190 = .ok (.if_icmp .ne 59, 3) := by decide +kernel
theorem dL_law_193 : decode cL_law 193 = .ok (.aload_n 1, 1) := by decide +kernel
theorem dL_law_194 : decode cL_law 194 = .ok (.iload 5, 2) := by decide +kernel
theorem dL_law_196 : decode cL_law 196 = .ok (.iconst 3, 1) := by decide +kernel
theorem dL_law_197 : decode cL_law 197 = .ok (.ishr, 1) := by decide +kernel
theorem dL_law_198 : decode cL_law 198 = .ok (.iconst 2, 1) := by decide +kernel
theorem dL_law_199 : decode cL_law 199 = .ok (.invokestatic 247, 3) := by decide +kernel
theorem dL_law_202 : decode cL_law 202 = .ok (.ifCond .ne 8, 3) := by decide +kernel
theorem dL_law_205 : decode cL_law 205 = .ok (.bipush 7, 2) := by decide +kernel
