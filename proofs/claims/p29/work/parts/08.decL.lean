theorem dL_cell_0 : decode cL_cell 0 = .ok (.iload_n 1, 1) := by decide +kernel
theorem dL_cell_1 : decode cL_cell 1 = .ok (.aload_n 0, 1) := by decide +kernel
theorem dL_cell_2 : decode cL_cell 2 = .ok (.arraylength, 1) := by decide +kernel
theorem dL_cell_3 : decode cL_cell 3 = .ok (.if_icmp .ge 9, 3) := by decide +kernel
theorem dL_cell_6 : decode cL_cell 6 = .ok (.aload_n 0, 1) := by decide +kernel
theorem dL_cell_7 : decode cL_cell 7 = .ok (.iload_n 1, 1) := by decide +kernel
theorem dL_cell_8 : decode cL_cell 8 = .ok (.iaload, 1) := by decide +kernel
theorem dL_cell_9 : decode cL_cell 9 = .ok (.goto 12, 3) := by decide +kernel
theorem dL_cell_12 : decode cL_cell 12 = .ok (.ldc 7, 2) := by decide +kernel
theorem dL_cell_14 : decode cL_cell 14 = .ok (.iload_n 1, 1) := by decide +kernel
theorem dL_cell_15 : decode cL_cell 15 = .ok (.iconst 1, 1) := by decide +kernel
theorem dL_cell_16 : decode cL_cell 16 = .ok (.iadd, 1) := by decide +kernel
theorem dL_cell_17 : decode cL_cell 17 = .ok (.imul, 1) := by decide +kernel
theorem dL_cell_18 : decode cL_cell 18 = .ok (.ldc 8, 2) := by decide +kernel
theorem dL_cell_20 : decode cL_cell 20 = .ok (.iadd, 1) := by decide +kernel
theorem dL_cell_21 : decode cL_cell 21 = .ok (.ireturn, 1) := by decide +kernel
theorem dL_low_0 : decode cL_low 0 = .ok (.iload_n 0, 1) := by decide +kernel
theorem dL_low_1 : decode cL_low 1 = .ok (.ldc 9, 2) := by decide +kernel
theorem dL_low_3 : decode cL_low 3 = .ok (.iand, 1) := by decide +kernel
theorem dL_low_4 : decode cL_low 4 = .ok (.iload_n 1, 1) := by decide +kernel
theorem dL_low_5 : decode cL_low 5 = .ok (.irem, 1) := by decide +kernel
theorem dL_low_6 : decode cL_low 6 = .ok (.ireturn, 1) := by decide +kernel
theorem dL_ones_0 : decode cL_ones 0 = .ok (.iconst 0, 1) := by decide +kernel
theorem dL_ones_1 : decode cL_ones 1 = .ok (.istore_n 1, 1) := by decide +kernel
theorem dL_ones_2 : decode cL_ones 2 = .ok (.iload_n 0, 1) := by decide +kernel
theorem dL_ones_3 : decode cL_ones 3 = .ok (.istore_n 2, 1) := by decide +kernel
theorem dL_ones_4 : decode cL_ones 4 = .ok (.iload_n 2, 1) := by decide +kernel
theorem dL_ones_5 : decode cL_ones 5 = .ok (.ifCond .le 16, 3) := by decide +kernel
theorem dL_ones_8 : decode cL_ones 8 = .ok (.iload_n 1, 1) := by decide +kernel
theorem dL_ones_9 : decode cL_ones 9 = .ok (.iload_n 2, 1) := by decide +kernel
theorem dL_ones_10 : decode cL_ones 10 = .ok (.iconst 2, 1) := by decide +kernel
theorem dL_ones_11 : decode cL_ones 11 = .ok (.irem, 1) := by decide +kernel
theorem dL_ones_12 : decode cL_ones 12 = .ok (.iadd, 1) := by decide +kernel
theorem dL_ones_13 : decode cL_ones 13 = .ok (.istore_n 1, 1) := by decide +kernel
theorem dL_ones_14 : decode cL_ones 14 = .ok (.iload_n 2, 1) := by decide +kernel
theorem dL_ones_15 : decode cL_ones 15 = .ok (.iconst 2, 1) := by decide +kernel
theorem dL_ones_16 : decode cL_ones 16 = .ok (.idiv, 1) := by decide +kernel
theorem dL_ones_17 : decode cL_ones 17 = .ok (.istore_n 2, 1) := by decide +kernel
theorem dL_ones_18 : decode cL_ones 18 = .ok (.goto (-14), 3) := by decide +kernel
theorem dL_ones_21 : decode cL_ones 21 = .ok (.iload_n 1, 1) := by decide +kernel
theorem dL_ones_22 : decode cL_ones 22 = .ok (.ireturn, 1) := by decide +kernel
theorem dL_kittens_0 : decode cL_kittens 0 = .ok (.aload_n 0, 1) := by decide +kernel
theorem dL_kittens_1 : decode cL_kittens 1 = .ok (.iconst 1, 1) := by decide +kernel
theorem dL_kittens_2 : decode cL_kittens 2 = .ok (.invokevirtual 10, 3) := by decide +kernel
theorem dL_kittens_5 : decode cL_kittens 5 = .ok (.istore_n 1, 1) := by decide +kernel
theorem dL_kittens_6 : decode cL_kittens 6 = .ok (.iconst 0, 1) := by decide +kernel
theorem dL_kittens_7 : decode cL_kittens 7 = .ok (.istore_n 2, 1) := by decide +kernel
theorem dL_kittens_8 : decode cL_kittens 8 = .ok (.iconst 0, 1) := by decide +kernel
theorem dL_kittens_9 : decode cL_kittens 9 = .ok (.istore_n 3, 1) := by decide +kernel
theorem dL_kittens_10 : decode cL_kittens 10 = .ok (.iconst 0, 1) := by decide +kernel
theorem dL_kittens_11 : decode cL_kittens 11 = .ok (.istore 4, 2) := by decide +kernel
theorem dL_kittens_13 : decode cL_kittens 13 = .ok (.iconst 0, 1) := by decide +kernel
theorem dL_kittens_14 : decode cL_kittens 14 = .ok (.istore 5, 2) := by decide +kernel
theorem dL_kittens_16 : decode cL_kittens 16 = .ok (.iconst 0, 1) := by decide +kernel
theorem dL_kittens_17 : decode cL_kittens 17 = .ok (.istore 6, 2) := by decide +kernel
theorem dL_kittens_19 : decode cL_kittens 19 = .ok (.iconst 0, 1) := by decide +kernel
theorem dL_kittens_20 : decode cL_kittens 20 = .ok (.istore 7, 2) := by decide +kernel
theorem dL_kittens_22 : decode cL_kittens 22 = .ok (.iconst 0, 1) := by decide +kernel
theorem dL_kittens_23 : decode cL_kittens 23 = .ok (.istore 8, 2) := by decide +kernel
theorem dL_kittens_25 : decode cL_kittens 25 = .ok (.iload 8, 2) := by decide +kernel
theorem dL_kittens_27 : decode cL_kittens 27 = .ok (.iload_n 1, 1) := by decide +kernel
theorem dL_kittens_28 : decode cL_kittens 28 = .ok (.if_icmp .ge 371, 3) := by decide +kernel
theorem dL_kittens_31 : decode cL_kittens 31 = .ok (.iload_n 2, 1) := by decide +kernel
theorem dL_kittens_32 : decode cL_kittens 32 = .ok (.aload_n 0, 1) := by decide +kernel
theorem dL_kittens_33 : decode cL_kittens 33 = .ok (.iload 8, 2) := by decide +kernel
theorem dL_kittens_35 : decode cL_kittens 35 = .ok (.iconst 4, 1) := by decide +kernel
theorem dL_kittens_36 : decode cL_kittens 36 = .ok (.invokevirtual 16, 3) := by decide +kernel
theorem dL_kittens_39 : decode cL_kittens 39 = .ok (.iadd, 1) := by decide +kernel
theorem dL_kittens_40 : decode cL_kittens 40 = .ok (.istore_n 2, 1) := by decide +kernel
theorem dL_kittens_41 : decode cL_kittens 41 = .ok (.iload_n 3, 1) := by decide +kernel
theorem dL_kittens_42 : decode cL_kittens 42 = .ok (.aload_n 0, 1) := by decide +kernel
theorem dL_kittens_43 : decode cL_kittens 43 = .ok (.iload 8, 2) := by decide +kernel
theorem dL_kittens_45 : decode cL_kittens 45 = .ok (.iconst 5, 1) := by decide +kernel
theorem dL_kittens_46 : decode cL_kittens 46 = .ok (.invokevirtual 16, 3) := by decide +kernel
theorem dL_kittens_49 : decode cL_kittens 49 = .ok (.iadd, 1) := by decide +kernel
theorem dL_kittens_50 : decode cL_kittens 50 = .ok (.istore_n 3, 1) := by decide +kernel
theorem dL_kittens_51 : decode cL_kittens 51 = .ok (.iload 4, 2) := by decide +kernel
theorem dL_kittens_53 : decode cL_kittens 53 = .ok (.aload_n 0, 1) := by decide +kernel
theorem dL_kittens_54 : decode cL_kittens 54 = .ok (.iload 8, 2) := by decide +kernel
theorem dL_kittens_56 : decode cL_kittens 56 = .ok (.bipush 6, 2) := by decide +kernel
theorem dL_kittens_58 : decode cL_kittens 58 = .ok (.invokevirtual 16, 3) := by decide +kernel
theorem dL_kittens_61 : decode cL_kittens 61 = .ok (.iadd, 1) := by decide +kernel
theorem dL_kittens_62 : decode cL_kittens 62 = .ok (.istore 4, 2) := by decide +kernel
theorem dL_kittens_64 : decode cL_kittens 64 = .ok (.iload 5, 2) := by decide +kernel
theorem dL_kittens_66 : decode cL_kittens 66 = .ok (.aload_n 0, 1) := by decide +kernel
theorem dL_kittens_67 : decode cL_kittens 67 = .ok (.iload 8, 2) := by decide +kernel
theorem dL_kittens_69 : decode cL_kittens 69 = .ok (.bipush 7, 2) := by decide +kernel
theorem dL_kittens_71 : decode cL_kittens 71 = .ok (.invokevirtual 16, 3) := by decide +kernel
theorem dL_kittens_74 : decode cL_kittens 74 = .ok (.iadd, 1) := by decide +kernel
theorem dL_kittens_75 : decode cL_kittens 75 = .ok (.istore 5, 2) := by decide +kernel
theorem dL_kittens_77 : decode cL_kittens 77 = .ok (.iload 6, 2) := by decide +kernel
theorem dL_kittens_79 : decode cL_kittens 79 = .ok (.aload_n 0, 1) := by decide +kernel
theorem dL_kittens_80 : decode cL_kittens 80 = .ok (.iload 8, 2) := by decide +kernel
theorem dL_kittens_82 : decode cL_kittens 82 = .ok (.iconst 2, 1) := by decide +kernel
theorem dL_kittens_83 : decode cL_kittens 83 = .ok (.invokevirtual 16, 3) := by decide +kernel
theorem dL_kittens_86 : decode cL_kittens 86 = .ok (.bipush (-6), 2) := by decide +kernel
theorem dL_kittens_88 : decode cL_kittens 88 = .ok (.if_icmp .ne 7, 3) := by decide +kernel
theorem dL_kittens_91 : decode cL_kittens 91 = .ok (.iconst 0, 1) := by decide +kernel
theorem dL_kittens_92 : decode cL_kittens 92 = .ok (.goto 7, 3) := by decide +kernel
theorem dL_kittens_95 : decode cL_kittens 95 = .ok (.iconst 1, 1) := by decide +kernel
theorem dL_kittens_96 : decode cL_kittens 96 = .ok (.iload 8, 2) := by decide +kernel
theorem dL_kittens_98 : decode cL_kittens 98 = .ok (.ishl, 1) := by decide +kernel
theorem dL_kittens_99 : decode cL_kittens 99 = .ok (.ior, 1) := by decide +kernel
theorem dL_kittens_100 : decode cL_kittens 100 = .ok (.istore 6, 2) := by decide +kernel
theorem dL_kittens_102 : decode cL_kittens 102 = .ok (.iload 7, 2) := by decide +kernel
theorem dL_kittens_104 : decode cL_kittens 104 = .ok (.aload_n 0, 1) := by decide +kernel
theorem dL_kittens_105 : decode cL_kittens 105 = .ok (.iload 8, 2) := by decide +kernel
theorem dL_kittens_107 : decode cL_kittens 107 = .ok (.bipush 8, 2) := by decide +kernel
theorem dL_kittens_109 : decode cL_kittens 109 = .ok (.invokevirtual 16, 3) := by decide +kernel
theorem dL_kittens_112 : decode cL_kittens 112 = .ok (.invokestatic 20, 3) := by decide +kernel
theorem dL_kittens_115 : decode cL_kittens 115 = .ok (.iadd, 1) := by decide +kernel
theorem dL_kittens_116 : decode cL_kittens 116 = .ok (.istore 7, 2) := by decide +kernel
theorem dL_kittens_118 : decode cL_kittens 118 = .ok (.aload_n 0, 1) := by decide +kernel
theorem dL_kittens_119 : decode cL_kittens 119 = .ok (.iload 8, 2) := by decide +kernel
theorem dL_kittens_121 : decode cL_kittens 121 = .ok (.iconst 3, 1) := by decide +kernel
theorem dL_kittens_122 : decode cL_kittens 122 = .ok (.invokevirtual 16, 3) := by decide +kernel
theorem dL_kittens_125 : decode cL_kittens 125 = .ok (.ifCond .lt 99, 3) := by decide +kernel
theorem dL_kittens_128 : decode cL_kittens 128 = .ok (.aload_n 0, 1) := by decide +kernel
theorem dL_kittens_129 : decode cL_kittens 129 = .ok (.iload 8, 2) := by decide +kernel
theorem dL_kittens_131 : decode cL_kittens 131 = .ok (.iconst 3, 1) := by decide +kernel
theorem dL_kittens_132 : decode cL_kittens 132 = .ok (.invokevirtual 16, 3) := by decide +kernel
theorem dL_kittens_135 : decode cL_kittens 135 = .ok (.aload_n 0, 1) := by decide +kernel
theorem dL_kittens_136 : decode cL_kittens 136 = .ok (.iload 8, 2) := by decide +kernel
theorem dL_kittens_138 : decode cL_kittens 138 = .ok (.iconst 4, 1) := by decide +kernel
theorem dL_kittens_139 : decode cL_kittens 139 = .ok (.invokevirtual 16, 3) := by decide +kernel
theorem dL_kittens_142 : decode cL_kittens 142 = .ok (.iadd, 1) := by decide +kernel
theorem dL_kittens_143 : decode cL_kittens 143 = .ok (.aload_n 0, 1) := by decide +kernel
theorem dL_kittens_144 : decode cL_kittens 144 = .ok (.iload 8, 2) := by decide +kernel
theorem dL_kittens_146 : decode cL_kittens 146 = .ok (.bipush 7, 2) := by decide +kernel
theorem dL_kittens_148 : decode cL_kittens 148 = .ok (.invokevirtual 16, 3) := by decide +kernel
theorem dL_kittens_151 : decode cL_kittens 151 = .ok (.iadd, 1) := by decide +kernel
theorem dL_kittens_152 : decode cL_kittens 152 = .ok (.bipush 40, 2) := by decide +kernel
theorem dL_kittens_154 : decode cL_kittens 154 = .ok (.if_icmp .ne 70, 3) := by decide +kernel
theorem dL_kittens_157 : decode cL_kittens 157 = .ok (.aload_n 0, 1) := by decide +kernel
theorem dL_kittens_158 : decode cL_kittens 158 = .ok (.iload 8, 2) := by decide +kernel
theorem dL_kittens_160 : decode cL_kittens 160 = .ok (.iconst 5, 1) := by decide +kernel
theorem dL_kittens_161 : decode cL_kittens 161 = .ok (.invokevirtual 16, 3) := by decide +kernel
theorem dL_kittens_164 : decode cL_kittens 164 = .ok (.aload_n 0, 1) := by decide +kernel
theorem dL_kittens_165 : decode cL_kittens 165 = .ok (.iload 8, 2) := by decide +kernel
theorem dL_kittens_167 : decode cL_kittens 167 = .ok (.iconst 4, 1) := by decide +kernel
theorem dL_kittens_168 : decode cL_kittens 168 = .ok (.invokevirtual 16, 3) := by decide +kernel
theorem dL_kittens_171 : decode cL_kittens 171 = .ok (.aload_n 0, 1) := by decide +kernel
theorem dL_kittens_172 : decode cL_kittens 172 = .ok (.iload 8, 2) := by decide +kernel
theorem dL_kittens_174 : decode cL_kittens 174 = .ok (.bipush 6, 2) := by decide +kernel
theorem dL_kittens_176 : decode cL_kittens 176 = .ok (.invokevirtual 16, 3) := by decide +kernel
theorem dL_kittens_179 : decode cL_kittens 179 = .ok (.iadd, 1) := by decide +kernel
theorem dL_kittens_180 : decode cL_kittens 180 = .ok (.aload_n 0, 1) := by decide +kernel
theorem dL_kittens_181 : decode cL_kittens 181 = .ok (.iload 8, 2) := by decide +kernel
theorem dL_kittens_183 : decode cL_kittens 183 = .ok (.bipush 7, 2) := by decide +kernel
theorem dL_kittens_185 : decode cL_kittens 185 = .ok (.invokevirtual 16, 3) := by decide +kernel
theorem dL_kittens_188 : decode cL_kittens 188 = .ok (.iadd, 1) := by decide +kernel
theorem dL_kittens_189 : decode cL_kittens 189 = .ok (.if_icmp .ne 35, 3) := by decide +kernel
theorem dL_kittens_192 : decode cL_kittens 192 = .ok (.aload_n 0, 1) := by decide +kernel
theorem dL_kittens_193 : decode cL_kittens 193 = .ok (.iload 8, 2) := by decide +kernel
theorem dL_kittens_195 : decode cL_kittens 195 = .ok (.iconst 1, 1) := by decide +kernel
theorem dL_kittens_196 : decode cL_kittens 196 = .ok (.invokevirtual 16, 3) := by decide +kernel
theorem dL_kittens_199 : decode cL_kittens 199 = .ok (.ifCond .lt 25, 3) := by decide +kernel
theorem dL_kittens_202 : decode cL_kittens 202 = .ok (.aload_n 0, 1) := by decide +kernel
theorem dL_kittens_203 : decode cL_kittens 203 = .ok (.iload 8, 2) := by decide +kernel
theorem dL_kittens_205 : decode cL_kittens 205 = .ok (.iconst 0, 1) := by decide +kernel
theorem dL_kittens_206 : decode cL_kittens 206 = .ok (.invokevirtual 16, 3) := by decide +kernel
theorem dL_kittens_209 : decode cL_kittens 209 = .ok (.ifCond .lt 15, 3) := by decide +kernel
theorem dL_kittens_212 : decode cL_kittens 212 = .ok (.aload_n 0, 1) := by decide +kernel
theorem dL_kittens_213 : decode cL_kittens 213 = .ok (.iload 8, 2) := by decide +kernel
theorem dL_kittens_215 : decode cL_kittens 215 = .ok (.iconst 0, 1) := by decide +kernel
theorem dL_kittens_216 : decode cL_kittens 216 = .ok (.invokevirtual 16, 3) := by decide +kernel
theorem dL_kittens_219 : decode cL_kittens 219 = .ok (.bipush 15, 2) := by decide +kernel
theorem dL_kittens_221 : decode cL_kittens 221 = .ok (.if_icmp .le 5, 3) := by decide +kernel
theorem dL_kittens_224 : decode cL_kittens 224 = .ok (.iconst 0, 1) := by decide +kernel
theorem dL_kittens_225 : decode cL_kittens 225 = .ok (.ireturn, 1) := by decide +kernel
theorem dL_kittens_226 : decode cL_kittens 226 = .ok (.iconst 0, 1) := by decide +kernel
theorem dL_kittens_227 : decode cL_kittens 227 = .ok (.istore 9, 2) := by decide +kernel
theorem dL_kittens_229 : decode cL_kittens 229 = .ok (.iload 9, 2) := by decide +kernel
theorem dL_kittens_231 : decode cL_kittens 231 = .ok (.iload_n 1, 1) := by decide +kernel
theorem dL_kittens_232 : decode cL_kittens 232 = .ok (.if_icmp .ge 161, 3) := by decide +kernel
theorem dL_kittens_235 : decode cL_kittens 235 = .ok (.iload 9, 2) := by decide +kernel
theorem dL_kittens_237 : decode cL_kittens 237 = .ok (.iload 8, 2) := by decide +kernel
theorem dL_kittens_239 : decode cL_kittens 239 = .ok (.if_icmp .eq 44, 3) := by decide +kernel
theorem dL_kittens_242 : decode cL_kittens 242 = .ok (.aload_n 0, 1) := by decide +kernel
theorem dL_kittens_243 : decode cL_kittens 243 = .ok (.iload 8, 2) := by decide +kernel
theorem dL_kittens_245 : decode cL_kittens 245 = .ok (.bipush 8, 2) := by decide +kernel
theorem dL_kittens_247 : decode cL_kittens 247 = .ok (.invokevirtual 16, 3) := by decide +kernel
theorem dL_kittens_250 : decode cL_kittens 250 = .ok (.iload 9, 2) := by decide +kernel
theorem dL_kittens_252 : decode cL_kittens 252 = .ok (.ishr, 1) := by decide +kernel
theorem dL_kittens_253 : decode cL_kittens 253 = .ok (.iconst 1, 1) := by decide +kernel
theorem dL_kittens_254 : decode cL_kittens 254 = .ok (.iand, 1) := by decide +kernel
theorem dL_kittens_255 : decode cL_kittens 255 = .ok (.iconst 1, 1) := by decide +kernel
theorem dL_kittens_256 : decode cL_kittens 256 = .ok (.if_icmp .ne 7, 3) := by decide +kernel
theorem dL_kittens_259 : decode cL_kittens 259 = .ok (.iconst 1, 1) := by decide +kernel
theorem dL_kittens_260 : decode cL_kittens 260 = .ok (.goto 4, 3) := by decide +kernel
theorem dL_kittens_263 : decode cL_kittens 263 = .ok (.iconst 0, 1) := by decide +kernel
theorem dL_kittens_264 : decode cL_kittens 264 = .ok (.aload_n 0, 1) := by decide +kernel
theorem dL_kittens_265 : decode cL_kittens 265 = .ok (.iload 8, 2) := by decide +kernel
theorem dL_kittens_267 : decode cL_kittens 267 = .ok (.iload 9, 2) := by decide +kernel
theorem dL_kittens_269 : decode cL_kittens 269 = .ok (.invokevirtual 25, 3) := by decide +kernel
theorem dL_kittens_272 : decode cL_kittens 272 = .ok (.ifCond .eq 7, 3) := by decide +kernel
theorem dL_kittens_275 : decode cL_kittens 275 = .ok (.iconst 1, 1) := by decide +kernel
theorem dL_kittens_276 : decode cL_kittens 276 = .ok (.goto 4, 3) := by decide +kernel
theorem dL_kittens_279 : decode cL_kittens 279 = .ok (.iconst 0, 1) := by decide +kernel
theorem dL_kittens_280 : decode cL_kittens 280 = .ok (.if_icmp .ne 105, 3) := by decide +kernel
theorem dL_kittens_283 : decode cL_kittens 283 = .ok (.iload 9, 2) := by decide +kernel
theorem dL_kittens_285 : decode cL_kittens 285 = .ok (.iload 8, 2) := by decide +kernel
theorem dL_kittens_287 : decode cL_kittens 287 = .ok (.if_icmp .eq 100, 3) := by decide +kernel
theorem dL_kittens_290 : decode cL_kittens 290 = .ok (.aload_n 0, 1) := by decide +kernel
theorem dL_kittens_291 : decode cL_kittens 291 = .ok (.iload 8, 2) := by decide +kernel
theorem dL_kittens_293 : decode cL_kittens 293 = .ok (.iload 9, 2) := by decide +kernel
theorem dL_kittens_295 : decode cL_kittens 295 = .ok (.invokevirtual 25, 3) := by decide +kernel
theorem dL_kittens_298 : decode cL_kittens 298 = .ok (.aload_n 0, 1) := by decide +kernel
theorem dL_kittens_299 : decode cL_kittens 299 = .ok (.iload 9, 2) := by decide +kernel
theorem dL_kittens_301 : decode cL_kittens 301 = .ok (.iload 8, 2) := by decide +kernel
theorem dL_kittens_303 : decode cL_kittens 303 = .ok (.invokevirtual 25, 3) := by decide +kernel
theorem dL_kittens_306 : decode cL_kittens 306 = .ok (.if_icmp .ne 79, 3) := by decide +kernel
theorem dL_kittens_309 : decode cL_kittens 309 = .ok (.aload_n 0, 1) := by decide +kernel
theorem dL_kittens_310 : decode cL_kittens 310 = .ok (.iload 8, 2) := by decide +kernel
theorem dL_kittens_312 : decode cL_kittens 312 = .ok (.iload 9, 2) := by decide +kernel
theorem dL_kittens_314 : decode cL_kittens 314 = .ok (.invokevirtual 28, 3) := by decide +kernel
theorem dL_kittens_317 : decode cL_kittens 317 = .ok (.aload_n 0, 1) := by decide +kernel
theorem dL_kittens_318 : decode cL_kittens 318 = .ok (.iload 9, 2) := by decide +kernel
theorem dL_kittens_320 : decode cL_kittens 320 = .ok (.iload 8, 2) := by decide +kernel
theorem dL_kittens_322 : decode cL_kittens 322 = .ok (.invokevirtual 28, 3) := by decide +kernel
theorem dL_kittens_325 : decode cL_kittens 325 = .ok (.if_icmp .ne 60, 3) := by decide +kernel
theorem dL_kittens_328 : decode cL_kittens 328 = .ok (.aload_n 0, 1) := by decide +kernel
theorem dL_kittens_329 : decode cL_kittens 329 = .ok (.iload 8, 2) := by decide +kernel
theorem dL_kittens_331 : decode cL_kittens 331 = .ok (.iload 9, 2) := by decide +kernel
theorem dL_kittens_333 : decode cL_kittens 333 = .ok (.invokevirtual 28, 3) := by decide +kernel
theorem dL_kittens_336 : decode cL_kittens 336 = .ok (.ifCond .ne 7, 3) := by decide +kernel
theorem dL_kittens_339 : decode cL_kittens 339 = .ok (.iconst 1, 1) := by decide +kernel
theorem dL_kittens_340 : decode cL_kittens 340 = .ok (.goto 4, 3) := by decide +kernel
theorem dL_kittens_343 : decode cL_kittens 343 = .ok (.iconst 0, 1) := by decide +kernel
theorem dL_kittens_344 : decode cL_kittens 344 = .ok (.aload_n 0, 1) := by decide +kernel
theorem dL_kittens_345 : decode cL_kittens 345 = .ok (.iload 8, 2) := by decide +kernel
theorem dL_kittens_347 : decode cL_kittens 347 = .ok (.iload 9, 2) := by decide +kernel
theorem dL_kittens_349 : decode cL_kittens 349 = .ok (.invokevirtual 25, 3) := by decide +kernel
theorem dL_kittens_352 : decode cL_kittens 352 = .ok (.ifCond .ne 7, 3) := by decide +kernel
theorem dL_kittens_355 : decode cL_kittens 355 = .ok (.iconst 1, 1) := by decide +kernel
theorem dL_kittens_356 : decode cL_kittens 356 = .ok (.goto 4, 3) := by decide +kernel
theorem dL_kittens_359 : decode cL_kittens 359 = .ok (.iconst 0, 1) := by decide +kernel
theorem dL_kittens_360 : decode cL_kittens 360 = .ok (.if_icmp .ne 25, 3) := by decide +kernel
theorem dL_kittens_363 : decode cL_kittens 363 = .ok (.aload_n 0, 1) := by decide +kernel
theorem dL_kittens_364 : decode cL_kittens 364 = .ok (.iload 8, 2) := by decide +kernel
theorem dL_kittens_366 : decode cL_kittens 366 = .ok (.iload 9, 2) := by decide +kernel
theorem dL_kittens_368 : decode cL_kittens 368 = .ok (.invokevirtual 28, 3) := by decide +kernel
theorem dL_kittens_371 : decode cL_kittens 371 = .ok (.aload_n 0, 1) := by decide +kernel
theorem dL_kittens_372 : decode cL_kittens 372 = .ok (.iload 8, 2) := by decide +kernel
theorem dL_kittens_374 : decode cL_kittens 374 = .ok (.iload 9, 2) := by decide +kernel
theorem dL_kittens_376 : decode cL_kittens 376 = .ok (.invokevirtual 25, 3) := by decide +kernel
theorem dL_kittens_379 : decode cL_kittens 379 = .ok (.invokestatic 20, 3) := by decide +kernel
theorem dL_kittens_382 : decode cL_kittens 382 = .ok (.if_icmp .ge 5, 3) := by decide +kernel
theorem dL_kittens_385 : decode cL_kittens 385 = .ok (.iconst 0, 1) := by decide +kernel
theorem dL_kittens_386 : decode cL_kittens 386 = .ok (.ireturn, 1) := by decide +kernel
theorem dL_kittens_387 : decode cL_kittens 387 = .ok (.iinc 9 1, 3) := by decide +kernel
theorem dL_kittens_390 : decode cL_kittens 390 = .ok (.goto (-161), 3) := by decide +kernel
theorem dL_kittens_393 : decode cL_kittens 393 = .ok (.iinc 8 1, 3) := by decide +kernel
theorem dL_kittens_396 : decode cL_kittens 396 = .ok (.goto (-371), 3) := by decide +kernel
theorem dL_kittens_399 : decode cL_kittens 399 = .ok (.aload_n 0, 1) := by decide +kernel
theorem dL_kittens_400 : decode cL_kittens 400 = .ok (.iconst 3, 1) := by decide +kernel
theorem dL_kittens_401 : decode cL_kittens 401 = .ok (.invokevirtual 10, 3) := by decide +kernel
theorem dL_kittens_404 : decode cL_kittens 404 = .ok (.iload_n 2, 1) := by decide +kernel
theorem dL_kittens_405 : decode cL_kittens 405 = .ok (.if_icmp .ne 70, 3) := by decide +kernel
theorem dL_kittens_408 : decode cL_kittens 408 = .ok (.aload_n 0, 1) := by decide +kernel
theorem dL_kittens_409 : decode cL_kittens 409 = .ok (.iconst 4, 1) := by decide +kernel
theorem dL_kittens_410 : decode cL_kittens 410 = .ok (.invokevirtual 10, 3) := by decide +kernel
theorem dL_kittens_413 : decode cL_kittens 413 = .ok (.iload_n 3, 1) := by decide +kernel
theorem dL_kittens_414 : decode cL_kittens 414 = .ok (.if_icmp .ne 61, 3) := by decide +kernel
theorem dL_kittens_417 : decode cL_kittens 417 = .ok (.aload_n 0, 1) := by decide +kernel
theorem dL_kittens_418 : decode cL_kittens 418 = .ok (.iconst 5, 1) := by decide +kernel
theorem dL_kittens_419 : decode cL_kittens 419 = .ok (.invokevirtual 10, 3) := by decide +kernel
theorem dL_kittens_422 : decode cL_kittens 422 = .ok (.iload 4, 2) := by decide +kernel
theorem dL_kittens_424 : decode cL_kittens 424 = .ok (.if_icmp .ne 51, 3) := by decide +kernel
theorem dL_kittens_427 : decode cL_kittens 427 = .ok (.aload_n 0, 1) := by decide +kernel
theorem dL_kittens_428 : decode cL_kittens 428 = .ok (.bipush 6, 2) := by decide +kernel
theorem dL_kittens_430 : decode cL_kittens 430 = .ok (.invokevirtual 10, 3) := by decide +kernel
theorem dL_kittens_433 : decode cL_kittens 433 = .ok (.iload 5, 2) := by decide +kernel
theorem dL_kittens_435 : decode cL_kittens 435 = .ok (.if_icmp .ne 40, 3) := by decide +kernel
theorem dL_kittens_438 : decode cL_kittens 438 = .ok (.aload_n 0, 1) := by decide +kernel
theorem dL_kittens_439 : decode cL_kittens 439 = .ok (.iconst 2, 1) := by decide +kernel
theorem dL_kittens_440 : decode cL_kittens 440 = .ok (.invokevirtual 10, 3) := by decide +kernel
theorem dL_kittens_443 : decode cL_kittens 443 = .ok (.iload 6, 2) := by decide +kernel
theorem dL_kittens_445 : decode cL_kittens 445 = .ok (.if_icmp .ne 30, 3) := by decide +kernel
theorem dL_kittens_448 : decode cL_kittens 448 = .ok (.iconst 2, 1) := by decide +kernel
theorem dL_kittens_449 : decode cL_kittens 449 = .ok (.aload_n 0, 1) := by decide +kernel
theorem dL_kittens_450 : decode cL_kittens 450 = .ok (.bipush 7, 2) := by decide +kernel
theorem dL_kittens_452 : decode cL_kittens 452 = .ok (.invokevirtual 10, 3) := by decide +kernel
theorem dL_kittens_455 : decode cL_kittens 455 = .ok (.imul, 1) := by decide +kernel
theorem dL_kittens_456 : decode cL_kittens 456 = .ok (.iload 7, 2) := by decide +kernel
theorem dL_kittens_458 : decode cL_kittens 458 = .ok (.if_icmp .ne 17, 3) := by decide +kernel
theorem dL_kittens_461 : decode cL_kittens 461 = .ok (.aload_n 0, 1) := by decide +kernel
theorem dL_kittens_462 : decode cL_kittens 462 = .ok (.iload_n 1, 1) := by decide +kernel
theorem dL_kittens_463 : decode cL_kittens 463 = .ok (.iconst 0, 1) := by decide +kernel
theorem dL_kittens_464 : decode cL_kittens 464 = .ok (.invokevirtual 16, 3) := by decide +kernel
theorem dL_kittens_467 : decode cL_kittens 467 = .ok (.iconst (-1), 1) := by decide +kernel
theorem dL_kittens_468 : decode cL_kittens 468 = .ok (.if_icmp .ne 7, 3) := by decide +kernel
theorem dL_kittens_471 : decode cL_kittens 471 = .ok (.iconst 1, 1) := by decide +kernel
theorem dL_kittens_472 : decode cL_kittens 472 = .ok (.goto 4, 3) := by decide +kernel
theorem dL_kittens_475 : decode cL_kittens 475 = .ok (.iconst 0, 1) := by decide +kernel
theorem dL_kittens_476 : decode cL_kittens 476 = .ok (.ireturn, 1) := by decide +kernel
theorem dL_edges_0 : decode cL_edges 0 = .ok (.iconst 0, 1) := by decide +kernel
theorem dL_edges_1 : decode cL_edges 1 = .ok (.istore_n 1, 1) := by decide +kernel
theorem dL_edges_2 : decode cL_edges 2 = .ok (.iconst 0, 1) := by decide +kernel
theorem dL_edges_3 : decode cL_edges 3 = .ok (.istore_n 2, 1) := by decide +kernel
theorem dL_edges_4 : decode cL_edges 4 = .ok (.bipush (-6), 2) := by decide +kernel
theorem dL_edges_6 : decode cL_edges 6 = .ok (.istore_n 3, 1) := by decide +kernel
theorem dL_edges_7 : decode cL_edges 7 = .ok (.iconst 0, 1) := by decide +kernel
theorem dL_edges_8 : decode cL_edges 8 = .ok (.istore 4, 2) := by decide +kernel
theorem dL_edges_10 : decode cL_edges 10 = .ok (.iload 4, 2) := by decide +kernel
theorem dL_edges_12 : decode cL_edges 12 = .ok (.bipush 15, 2) := by decide +kernel
theorem dL_edges_14 : decode cL_edges 14 = .ok (.if_icmp .ge 244, 3) := by decide +kernel
theorem dL_edges_17 : decode cL_edges 17 = .ok (.aload_n 0, 1) := by decide +kernel
theorem dL_edges_18 : decode cL_edges 18 = .ok (.iload 4, 2) := by decide +kernel
theorem dL_edges_20 : decode cL_edges 20 = .ok (.iconst 0, 1) := by decide +kernel
theorem dL_edges_21 : decode cL_edges 21 = .ok (.invokevirtual 31, 3) := by decide +kernel
theorem dL_edges_24 : decode cL_edges 24 = .ok (.istore 5, 2) := by decide +kernel
theorem dL_edges_26 : decode cL_edges 26 = .ok (.iconst 0, 1) := by decide +kernel
theorem dL_edges_27 : decode cL_edges 27 = .ok (.istore 6, 2) := by decide +kernel
theorem dL_edges_29 : decode cL_edges 29 = .ok (.iconst 0, 1) := by decide +kernel
theorem dL_edges_30 : decode cL_edges 30 = .ok (.istore 7, 2) := by decide +kernel
theorem dL_edges_32 : decode cL_edges 32 = .ok (.iconst 0, 1) := by decide +kernel
theorem dL_edges_33 : decode cL_edges 33 = .ok (.istore 8, 2) := by decide +kernel
theorem dL_edges_35 : decode cL_edges 35 = .ok (.iload 8, 2) := by decide +kernel
theorem dL_edges_37 : decode cL_edges 37 = .ok (.iload 5, 2) := by decide +kernel
theorem dL_edges_39 : decode cL_edges 39 = .ok (.if_icmp .ge 61, 3) := by decide +kernel
theorem dL_edges_42 : decode cL_edges 42 = .ok (.iload 6, 2) := by decide +kernel
theorem dL_edges_44 : decode cL_edges 44 = .ok (.iconst 1, 1) := by decide +kernel
theorem dL_edges_45 : decode cL_edges 45 = .ok (.aload_n 0, 1) := by decide +kernel
theorem dL_edges_46 : decode cL_edges 46 = .ok (.iload 4, 2) := by decide +kernel
theorem dL_edges_48 : decode cL_edges 48 = .ok (.iload 8, 2) := by decide +kernel
theorem dL_edges_50 : decode cL_edges 50 = .ok (.invokevirtual 34, 3) := by decide +kernel
theorem dL_edges_53 : decode cL_edges 53 = .ok (.ishl, 1) := by decide +kernel
theorem dL_edges_54 : decode cL_edges 54 = .ok (.ior, 1) := by decide +kernel
theorem dL_edges_55 : decode cL_edges 55 = .ok (.istore 6, 2) := by decide +kernel
theorem dL_edges_57 : decode cL_edges 57 = .ok (.iload 8, 2) := by decide +kernel
theorem dL_edges_59 : decode cL_edges 59 = .ok (.ifCond .le 35, 3) := by decide +kernel
theorem dL_edges_62 : decode cL_edges 62 = .ok (.aload_n 0, 1) := by decide +kernel
theorem dL_edges_63 : decode cL_edges 63 = .ok (.iload 4, 2) := by decide +kernel
theorem dL_edges_65 : decode cL_edges 65 = .ok (.iload 8, 2) := by decide +kernel
theorem dL_edges_67 : decode cL_edges 67 = .ok (.invokevirtual 34, 3) := by decide +kernel
theorem dL_edges_70 : decode cL_edges 70 = .ok (.aload_n 0, 1) := by decide +kernel
theorem dL_edges_71 : decode cL_edges 71 = .ok (.iload 4, 2) := by decide +kernel
theorem dL_edges_73 : decode cL_edges 73 = .ok (.iload 8, 2) := by decide +kernel
theorem dL_edges_75 : decode cL_edges 75 = .ok (.iconst 1, 1) := by decide +kernel
theorem dL_edges_76 : decode cL_edges 76 = .ok (.isub, 1) := by decide +kernel
theorem dL_edges_77 : decode cL_edges 77 = .ok (.invokevirtual 34, 3) := by decide +kernel
theorem dL_edges_80 : decode cL_edges 80 = .ok (.if_icmp .ne 14, 3) := by decide +kernel
theorem dL_edges_83 : decode cL_edges 83 = .ok (.aload_n 0, 1) := by decide +kernel
theorem dL_edges_84 : decode cL_edges 84 = .ok (.bipush 6, 2) := by decide +kernel
theorem dL_edges_86 : decode cL_edges 86 = .ok (.invokevirtual 10, 3) := by decide +kernel
theorem dL_edges_89 : decode cL_edges 89 = .ok (.ifCond .ne 5, 3) := by decide +kernel
theorem dL_edges_92 : decode cL_edges 92 = .ok (.iconst 0, 1) := by decide +kernel
theorem dL_edges_93 : decode cL_edges 93 = .ok (.ireturn, 1) := by decide +kernel
theorem dL_edges_94 : decode cL_edges 94 = .ok (.iinc 8 1, 3) := by decide +kernel
theorem dL_edges_97 : decode cL_edges 97 = .ok (.goto (-62), 3) := by decide +kernel
theorem dL_edges_100 : decode cL_edges 100 = .ok (.iconst 0, 1) := by decide +kernel
theorem dL_edges_101 : decode cL_edges 101 = .ok (.istore 8, 2) := by decide +kernel
theorem dL_edges_103 : decode cL_edges 103 = .ok (.iload 8, 2) := by decide +kernel
theorem dL_edges_105 : decode cL_edges 105 = .ok (.aload_n 0, 1) := by decide +kernel
theorem dL_edges_106 : decode cL_edges 106 = .ok (.iconst 1, 1) := by decide +kernel
theorem dL_edges_107 : decode cL_edges 107 = .ok (.invokevirtual 10, 3) := by decide +kernel
theorem dL_edges_110 : decode cL_edges 110 = .ok (.if_icmp .ge 43, 3) := by decide +kernel
theorem dL_edges_113 : decode cL_edges 113 = .ok (.iconst 0, 1) := by decide +kernel
theorem dL_edges_114 : decode cL_edges 114 = .ok (.istore 9, 2) := by decide +kernel
theorem dL_edges_116 : decode cL_edges 116 = .ok (.iload 9, 2) := by decide +kernel
theorem dL_edges_118 : decode cL_edges 118 = .ok (.iload 8, 2) := by decide +kernel
theorem dL_edges_120 : decode cL_edges 120 = .ok (.if_icmp .ge 27, 3) := by decide +kernel
theorem dL_edges_123 : decode cL_edges 123 = .ok (.iload 7, 2) := by decide +kernel
theorem dL_edges_125 : decode cL_edges 125 = .ok (.aload_n 0, 1) := by decide +kernel
theorem dL_edges_126 : decode cL_edges 126 = .ok (.iload 8, 2) := by decide +kernel
theorem dL_edges_128 : decode cL_edges 128 = .ok (.iload 9, 2) := by decide +kernel
theorem dL_edges_130 : decode cL_edges 130 = .ok (.invokevirtual 25, 3) := by decide +kernel
theorem dL_edges_133 : decode cL_edges 133 = .ok (.iload 4, 2) := by decide +kernel
theorem dL_edges_135 : decode cL_edges 135 = .ok (.ishr, 1) := by decide +kernel
theorem dL_edges_136 : decode cL_edges 136 = .ok (.iconst 1, 1) := by decide +kernel
theorem dL_edges_137 : decode cL_edges 137 = .ok (.iand, 1) := by decide +kernel
theorem dL_edges_138 : decode cL_edges 138 = .ok (.iadd, 1) := by decide +kernel
theorem dL_edges_139 : decode cL_edges 139 = .ok (.istore 7, 2) := by decide +kernel
theorem dL_edges_141 : decode cL_edges 141 = .ok (.iinc 9 1, 3) := by decide +kernel
theorem dL_edges_144 : decode cL_edges 144 = .ok (.goto (-28), 3) := by decide +kernel
theorem dL_edges_147 : decode cL_edges 147 = .ok (.iinc 8 1, 3) := by decide +kernel
theorem dL_edges_150 : decode cL_edges 150 = .ok (.goto (-47), 3) := by decide +kernel
theorem dL_edges_153 : decode cL_edges 153 = .ok (.iload_n 1, 1) := by decide +kernel
theorem dL_edges_154 : decode cL_edges 154 = .ok (.iload 5, 2) := by decide +kernel
theorem dL_edges_156 : decode cL_edges 156 = .ok (.iadd, 1) := by decide +kernel
theorem dL_edges_157 : decode cL_edges 157 = .ok (.istore_n 1, 1) := by decide +kernel
theorem dL_edges_158 : decode cL_edges 158 = .ok (.iload 5, 2) := by decide +kernel
theorem dL_edges_160 : decode cL_edges 160 = .ok (.iload_n 2, 1) := by decide +kernel
theorem dL_edges_161 : decode cL_edges 161 = .ok (.if_icmp .le 8, 3) := by decide +kernel
theorem dL_edges_164 : decode cL_edges 164 = .ok (.iload 4, 2) := by decide +kernel
theorem dL_edges_166 : decode cL_edges 166 = .ok (.goto 4, 3) := by decide +kernel
theorem dL_edges_169 : decode cL_edges 169 = .ok (.iload_n 3, 1) := by decide +kernel
theorem dL_edges_170 : decode cL_edges 170 = .ok (.istore_n 3, 1) := by decide +kernel
theorem dL_edges_171 : decode cL_edges 171 = .ok (.iload 5, 2) := by decide +kernel
theorem dL_edges_173 : decode cL_edges 173 = .ok (.iload_n 2, 1) := by decide +kernel
theorem dL_edges_174 : decode cL_edges 174 = .ok (.if_icmp .le 8, 3) := by decide +kernel
theorem dL_edges_177 : decode cL_edges 177 = .ok (.iload 5, 2) := by decide +kernel
theorem dL_edges_179 : decode cL_edges 179 = .ok (.goto 4, 3) := by decide +kernel
theorem dL_edges_182 : decode cL_edges 182 = .ok (.iload_n 2, 1) := by decide +kernel
theorem dL_edges_183 : decode cL_edges 183 = .ok (.istore_n 2, 1) := by decide +kernel
theorem dL_edges_184 : decode cL_edges 184 = .ok (.aload_n 0, 1) := by decide +kernel
theorem dL_edges_185 : decode cL_edges 185 = .ok (.iload 4, 2) := by decide +kernel
theorem dL_edges_187 : decode cL_edges 187 = .ok (.iconst 1, 1) := by decide +kernel
theorem dL_edges_188 : decode cL_edges 188 = .ok (.invokevirtual 31, 3) := by decide +kernel
theorem dL_edges_191 : decode cL_edges 191 = .ok (.iload 5, 2) := by decide +kernel
theorem dL_edges_193 : decode cL_edges 193 = .ok (.ifCond .ne 8, 3) := by decide +kernel
theorem dL_edges_196 : decode cL_edges 196 = .ok (.bipush (-6), 2) := by decide +kernel
theorem dL_edges_198 : decode cL_edges 198 = .ok (.goto 13, 3) := by decide +kernel
theorem dL_edges_201 : decode cL_edges 201 = .ok (.aload_n 0, 1) := by decide +kernel
theorem dL_edges_202 : decode cL_edges 202 = .ok (.iload 4, 2) := by decide +kernel
theorem dL_edges_204 : decode cL_edges 204 = .ok (.iload 5, 2) := by decide +kernel
theorem dL_edges_206 : decode cL_edges 206 = .ok (.iconst 1, 1) := by decide +kernel
theorem dL_edges_207 : decode cL_edges 207 = .ok (.isub, 1) := by decide +kernel
theorem dL_edges_208 : decode cL_edges 208 = .ok (.invokevirtual 34, 3) := by decide +kernel
theorem dL_edges_211 : decode cL_edges 211 = .ok (.if_icmp .ne 39, 3) := by decide +kernel
theorem dL_edges_214 : decode cL_edges 214 = .ok (.aload_n 0, 1) := by decide +kernel
theorem dL_edges_215 : decode cL_edges 215 = .ok (.iload 4, 2) := by decide +kernel
theorem dL_edges_217 : decode cL_edges 217 = .ok (.iconst 2, 1) := by decide +kernel
theorem dL_edges_218 : decode cL_edges 218 = .ok (.invokevirtual 31, 3) := by decide +kernel
theorem dL_edges_221 : decode cL_edges 221 = .ok (.iload 6, 2) := by decide +kernel
theorem dL_edges_223 : decode cL_edges 223 = .ok (.if_icmp .ne 27, 3) := by decide +kernel
theorem dL_edges_226 : decode cL_edges 226 = .ok (.aload_n 0, 1) := by decide +kernel
theorem dL_edges_227 : decode cL_edges 227 = .ok (.iload 4, 2) := by decide +kernel
theorem dL_edges_229 : decode cL_edges 229 = .ok (.iconst 3, 1) := by decide +kernel
theorem dL_edges_230 : decode cL_edges 230 = .ok (.invokevirtual 31, 3) := by decide +kernel
theorem dL_edges_233 : decode cL_edges 233 = .ok (.iload 7, 2) := by decide +kernel
theorem dL_edges_235 : decode cL_edges 235 = .ok (.if_icmp .ne 15, 3) := by decide +kernel
theorem dL_edges_238 : decode cL_edges 238 = .ok (.aload_n 0, 1) := by decide +kernel
theorem dL_edges_239 : decode cL_edges 239 = .ok (.iload 4, 2) := by decide +kernel
theorem dL_edges_241 : decode cL_edges 241 = .ok (.iload 5, 2) := by decide +kernel
theorem dL_edges_243 : decode cL_edges 243 = .ok (.invokevirtual 34, 3) := by decide +kernel
theorem dL_edges_246 : decode cL_edges 246 = .ok (.iconst (-1), 1) := by decide +kernel
theorem dL_edges_247 : decode cL_edges 247 = .ok (.if_icmp .eq 5, 3) := by decide +kernel
theorem dL_edges_250 : decode cL_edges 250 = .ok (.iconst 0, 1) := by decide +kernel
theorem dL_edges_251 : decode cL_edges 251 = .ok (.ireturn, 1) := by decide +kernel
theorem dL_edges_252 : decode cL_edges 252 = .ok (.iinc 4 1, 3) := by decide +kernel
theorem dL_edges_255 : decode cL_edges 255 = .ok (.goto (-245), 3) := by decide +kernel
theorem dL_edges_258 : decode cL_edges 258 = .ok (.iload_n 1, 1) := by decide +kernel
theorem dL_edges_259 : decode cL_edges 259 = .ok (.aload_n 0, 1) := by decide +kernel
theorem dL_edges_260 : decode cL_edges 260 = .ok (.iconst 3, 1) := by decide +kernel
theorem dL_edges_261 : decode cL_edges 261 = .ok (.invokevirtual 10, 3) := by decide +kernel
theorem dL_edges_264 : decode cL_edges 264 = .ok (.if_icmp .ne 15, 3) := by decide +kernel
theorem dL_edges_267 : decode cL_edges 267 = .ok (.aload_n 0, 1) := by decide +kernel
theorem dL_edges_268 : decode cL_edges 268 = .ok (.invokevirtual 37, 3) := by decide +kernel
theorem dL_edges_271 : decode cL_edges 271 = .ok (.iload_n 3, 1) := by decide +kernel
theorem dL_edges_272 : decode cL_edges 272 = .ok (.if_icmp .ne 7, 3) := by decide +kernel
theorem dL_edges_275 : decode cL_edges 275 = .ok (.iconst 1, 1) := by decide +kernel
theorem dL_edges_276 : decode cL_edges 276 = .ok (.goto 4, 3) := by decide +kernel
theorem dL_edges_279 : decode cL_edges 279 = .ok (.iconst 0, 1) := by decide +kernel
theorem dL_edges_280 : decode cL_edges 280 = .ok (.ireturn, 1) := by decide +kernel
theorem dL_plans_0 : decode cL_plans 0 = .ok (.aload_n 0, 1) := by decide +kernel
theorem dL_plans_1 : decode cL_plans 1 = .ok (.bipush 10, 2) := by decide +kernel
theorem dL_plans_3 : decode cL_plans 3 = .ok (.invokevirtual 10, 3) := by decide +kernel
theorem dL_plans_6 : decode cL_plans 6 = .ok (.istore_n 1, 1) := by decide +kernel
theorem dL_plans_7 : decode cL_plans 7 = .ok (.aload_n 0, 1) := by decide +kernel
theorem dL_plans_8 : decode cL_plans 8 = .ok (.iconst 0, 1) := by decide +kernel
theorem dL_plans_9 : decode cL_plans 9 = .ok (.invokevirtual 10, 3) := by decide +kernel
theorem dL_plans_12 : decode cL_plans 12 = .ok (.istore_n 2, 1) := by decide +kernel
theorem dL_plans_13 : decode cL_plans 13 = .ok (.iconst 0, 1) := by decide +kernel
theorem dL_plans_14 : decode cL_plans 14 = .ok (.istore_n 3, 1) := by decide +kernel
theorem dL_plans_15 : decode cL_plans 15 = .ok (.iload_n 3, 1) := by decide +kernel
theorem dL_plans_16 : decode cL_plans 16 = .ok (.iload_n 1, 1) := by decide +kernel
theorem dL_plans_17 : decode cL_plans 17 = .ok (.if_icmp .ge 89, 3) := by decide +kernel
theorem dL_plans_20 : decode cL_plans 20 = .ok (.aload_n 0, 1) := by decide +kernel
theorem dL_plans_21 : decode cL_plans 21 = .ok (.iload_n 3, 1) := by decide +kernel
theorem dL_plans_22 : decode cL_plans 22 = .ok (.iconst 0, 1) := by decide +kernel
theorem dL_plans_23 : decode cL_plans 23 = .ok (.invokevirtual 41, 3) := by decide +kernel
theorem dL_plans_26 : decode cL_plans 26 = .ok (.istore 4, 2) := by decide +kernel
theorem dL_plans_28 : decode cL_plans 28 = .ok (.iload 4, 2) := by decide +kernel
theorem dL_plans_30 : decode cL_plans 30 = .ok (.iload_n 2, 1) := by decide +kernel
theorem dL_plans_31 : decode cL_plans 31 = .ok (.if_icmp .le 8, 3) := by decide +kernel
theorem dL_plans_34 : decode cL_plans 34 = .ok (.iload 4, 2) := by decide +kernel
theorem dL_plans_36 : decode cL_plans 36 = .ok (.goto 4, 3) := by decide +kernel
theorem dL_plans_39 : decode cL_plans 39 = .ok (.iload_n 2, 1) := by decide +kernel
theorem dL_plans_40 : decode cL_plans 40 = .ok (.istore_n 2, 1) := by decide +kernel
theorem dL_plans_41 : decode cL_plans 41 = .ok (.iload 4, 2) := by decide +kernel
theorem dL_plans_43 : decode cL_plans 43 = .ok (.aload_n 0, 1) := by decide +kernel
theorem dL_plans_44 : decode cL_plans 44 = .ok (.iconst 0, 1) := by decide +kernel
theorem dL_plans_45 : decode cL_plans 45 = .ok (.invokevirtual 10, 3) := by decide +kernel
theorem dL_plans_48 : decode cL_plans 48 = .ok (.if_icmp .le 50, 3) := by decide +kernel
theorem dL_plans_51 : decode cL_plans 51 = .ok (.iload_n 3, 1) := by decide +kernel
theorem dL_plans_52 : decode cL_plans 52 = .ok (.ifCond .le 48, 3) := by decide +kernel
theorem dL_plans_55 : decode cL_plans 55 = .ok (.iload 4, 2) := by decide +kernel
theorem dL_plans_57 : decode cL_plans 57 = .ok (.aload_n 0, 1) := by decide +kernel
theorem dL_plans_58 : decode cL_plans 58 = .ok (.iload_n 3, 1) := by decide +kernel
theorem dL_plans_59 : decode cL_plans 59 = .ok (.iconst 1, 1) := by decide +kernel
theorem dL_plans_60 : decode cL_plans 60 = .ok (.isub, 1) := by decide +kernel
theorem dL_plans_61 : decode cL_plans 61 = .ok (.iconst 0, 1) := by decide +kernel
theorem dL_plans_62 : decode cL_plans 62 = .ok (.invokevirtual 41, 3) := by decide +kernel
theorem dL_plans_65 : decode cL_plans 65 = .ok (.if_icmp .lt 33, 3) := by decide +kernel
theorem dL_plans_68 : decode cL_plans 68 = .ok (.iload 4, 2) := by decide +kernel
theorem dL_plans_70 : decode cL_plans 70 = .ok (.aload_n 0, 1) := by decide +kernel
theorem dL_plans_71 : decode cL_plans 71 = .ok (.iload_n 3, 1) := by decide +kernel
theorem dL_plans_72 : decode cL_plans 72 = .ok (.iconst 1, 1) := by decide +kernel
theorem dL_plans_73 : decode cL_plans 73 = .ok (.isub, 1) := by decide +kernel
theorem dL_plans_74 : decode cL_plans 74 = .ok (.iconst 0, 1) := by decide +kernel
theorem dL_plans_75 : decode cL_plans 75 = .ok (.invokevirtual 41, 3) := by decide +kernel
theorem dL_plans_78 : decode cL_plans 78 = .ok (.if_icmp .ne 22, 3) := by decide +kernel
theorem dL_plans_81 : decode cL_plans 81 = .ok (.aload_n 0, 1) := by decide +kernel
theorem dL_plans_82 : decode cL_plans 82 = .ok (.iload_n 3, 1) := by decide +kernel
theorem dL_plans_83 : decode cL_plans 83 = .ok (.iconst 1, 1) := by decide +kernel
theorem dL_plans_84 : decode cL_plans 84 = .ok (.invokevirtual 41, 3) := by decide +kernel
theorem dL_plans_87 : decode cL_plans 87 = .ok (.aload_n 0, 1) := by decide +kernel
theorem dL_plans_88 : decode cL_plans 88 = .ok (.iload_n 3, 1) := by decide +kernel
theorem dL_plans_89 : decode cL_plans 89 = .ok (.iconst 1, 1) := by decide +kernel
theorem dL_plans_90 : decode cL_plans 90 = .ok (.isub, 1) := by decide +kernel
theorem dL_plans_91 : decode cL_plans 91 = .ok (.iconst 1, 1) := by decide +kernel
theorem dL_plans_92 : decode cL_plans 92 = .ok (.invokevirtual 41, 3) := by decide +kernel
theorem dL_plans_95 : decode cL_plans 95 = .ok (.if_icmp .ge 5, 3) := by decide +kernel
theorem dL_plans_98 : decode cL_plans 98 = .ok (.iconst 0, 1) := by decide +kernel
theorem dL_plans_99 : decode cL_plans 99 = .ok (.ireturn, 1) := by decide +kernel
theorem dL_plans_100 : decode cL_plans 100 = .ok (.iinc 3 1, 3) := by decide +kernel
theorem dL_plans_103 : decode cL_plans 103 = .ok (.goto (-88), 3) := by decide +kernel
theorem dL_plans_106 : decode cL_plans 106 = .ok (.iconst 0, 1) := by decide +kernel
theorem dL_plans_107 : decode cL_plans 107 = .ok (.istore_n 3, 1) := by decide +kernel
theorem dL_plans_108 : decode cL_plans 108 = .ok (.iload_n 3, 1) := by decide +kernel
theorem dL_plans_109 : decode cL_plans 109 = .ok (.aload_n 0, 1) := by decide +kernel
theorem dL_plans_110 : decode cL_plans 110 = .ok (.iconst 1, 1) := by decide +kernel
theorem dL_plans_111 : decode cL_plans 111 = .ok (.invokevirtual 10, 3) := by decide +kernel
theorem dL_plans_114 : decode cL_plans 114 = .ok (.if_icmp .ge 57, 3) := by decide +kernel
theorem dL_plans_117 : decode cL_plans 117 = .ok (.aload_n 0, 1) := by decide +kernel
theorem dL_plans_118 : decode cL_plans 118 = .ok (.iload_n 3, 1) := by decide +kernel
theorem dL_plans_119 : decode cL_plans 119 = .ok (.iconst 2, 1) := by decide +kernel
theorem dL_plans_120 : decode cL_plans 120 = .ok (.invokevirtual 16, 3) := by decide +kernel
theorem dL_plans_123 : decode cL_plans 123 = .ok (.iload_n 2, 1) := by decide +kernel
theorem dL_plans_124 : decode cL_plans 124 = .ok (.if_icmp .le 12, 3) := by decide +kernel
theorem dL_plans_127 : decode cL_plans 127 = .ok (.aload_n 0, 1) := by decide +kernel
theorem dL_plans_128 : decode cL_plans 128 = .ok (.iload_n 3, 1) := by decide +kernel
theorem dL_plans_129 : decode cL_plans 129 = .ok (.iconst 2, 1) := by decide +kernel
theorem dL_plans_130 : decode cL_plans 130 = .ok (.invokevirtual 16, 3) := by decide +kernel
theorem dL_plans_133 : decode cL_plans 133 = .ok (.goto 4, 3) := by decide +kernel
theorem dL_plans_136 : decode cL_plans 136 = .ok (.iload_n 2, 1) := by decide +kernel
theorem dL_plans_137 : decode cL_plans 137 = .ok (.istore_n 2, 1) := by decide +kernel
theorem dL_plans_138 : decode cL_plans 138 = .ok (.aload_n 0, 1) := by decide +kernel
theorem dL_plans_139 : decode cL_plans 139 = .ok (.iload_n 3, 1) := by decide +kernel
theorem dL_plans_140 : decode cL_plans 140 = .ok (.iconst 2, 1) := by decide +kernel
theorem dL_plans_141 : decode cL_plans 141 = .ok (.invokevirtual 16, 3) := by decide +kernel
theorem dL_plans_144 : decode cL_plans 144 = .ok (.bipush (-6), 2) := by decide +kernel
theorem dL_plans_146 : decode cL_plans 146 = .ok (.if_icmp .eq 19, 3) := by decide +kernel
theorem dL_plans_149 : decode cL_plans 149 = .ok (.aload_n 0, 1) := by decide +kernel
theorem dL_plans_150 : decode cL_plans 150 = .ok (.iload_n 3, 1) := by decide +kernel
theorem dL_plans_151 : decode cL_plans 151 = .ok (.iconst 2, 1) := by decide +kernel
theorem dL_plans_152 : decode cL_plans 152 = .ok (.invokevirtual 16, 3) := by decide +kernel
theorem dL_plans_155 : decode cL_plans 155 = .ok (.aload_n 0, 1) := by decide +kernel
theorem dL_plans_156 : decode cL_plans 156 = .ok (.iconst 0, 1) := by decide +kernel
theorem dL_plans_157 : decode cL_plans 157 = .ok (.invokevirtual 10, 3) := by decide +kernel
theorem dL_plans_160 : decode cL_plans 160 = .ok (.if_icmp .gt 5, 3) := by decide +kernel
theorem dL_plans_163 : decode cL_plans 163 = .ok (.iconst 0, 1) := by decide +kernel
theorem dL_plans_164 : decode cL_plans 164 = .ok (.ireturn, 1) := by decide +kernel
theorem dL_plans_165 : decode cL_plans 165 = .ok (.iinc 3 1, 3) := by decide +kernel
theorem dL_plans_168 : decode cL_plans 168 = .ok (.goto (-60), 3) := by decide +kernel
theorem dL_plans_171 : decode cL_plans 171 = .ok (.aload_n 0, 1) := by decide +kernel
theorem dL_plans_172 : decode cL_plans 172 = .ok (.invokevirtual 44, 3) := by decide +kernel
theorem dL_plans_175 : decode cL_plans 175 = .ok (.iload_n 2, 1) := by decide +kernel
theorem dL_plans_176 : decode cL_plans 176 = .ok (.aload_n 0, 1) := by decide +kernel
theorem dL_plans_177 : decode cL_plans 177 = .ok (.iconst 0, 1) := by decide +kernel
theorem dL_plans_178 : decode cL_plans 178 = .ok (.invokevirtual 10, 3) := by decide +kernel
theorem dL_plans_181 : decode cL_plans 181 = .ok (.isub, 1) := by decide +kernel
theorem dL_plans_182 : decode cL_plans 182 = .ok (.if_icmp .ne 17, 3) := by decide +kernel
theorem dL_plans_185 : decode cL_plans 185 = .ok (.aload_n 0, 1) := by decide +kernel
theorem dL_plans_186 : decode cL_plans 186 = .ok (.iload_n 1, 1) := by decide +kernel
theorem dL_plans_187 : decode cL_plans 187 = .ok (.iconst 0, 1) := by decide +kernel
theorem dL_plans_188 : decode cL_plans 188 = .ok (.invokevirtual 41, 3) := by decide +kernel
theorem dL_plans_191 : decode cL_plans 191 = .ok (.iconst (-1), 1) := by decide +kernel
theorem dL_plans_192 : decode cL_plans 192 = .ok (.if_icmp .ne 7, 3) := by decide +kernel
theorem dL_plans_195 : decode cL_plans 195 = .ok (.iconst 1, 1) := by decide +kernel
theorem dL_plans_196 : decode cL_plans 196 = .ok (.goto 4, 3) := by decide +kernel
theorem dL_plans_199 : decode cL_plans 199 = .ok (.iconst 0, 1) := by decide +kernel
theorem dL_plans_200 : decode cL_plans 200 = .ok (.ireturn, 1) := by decide +kernel
theorem dL_print_0 : decode cL_print 0 = .ok (.aload_n 0, 1) := by decide +kernel
theorem dL_print_1 : decode cL_print 1 = .ok (.invokevirtual 37, 3) := by decide +kernel
theorem dL_print_4 : decode cL_print 4 = .ok (.i2l, 1) := by decide +kernel
theorem dL_print_5 : decode cL_print 5 = .ok (.lstore_n 1, 1) := by decide +kernel
theorem dL_print_6 : decode cL_print 6 = .ok (.iconst 0, 1) := by decide +kernel
theorem dL_print_7 : decode cL_print 7 = .ok (.istore_n 3, 1) := by decide +kernel
theorem dL_print_8 : decode cL_print 8 = .ok (.iload_n 3, 1) := by decide +kernel
theorem dL_print_9 : decode cL_print 9 = .ok (.bipush 15, 2) := by decide +kernel
theorem dL_print_11 : decode cL_print 11 = .ok (.if_icmp .ge 22, 3) := by decide +kernel
theorem dL_print_14 : decode cL_print 14 = .ok (.ldc2_w 47, 3) := by decide +kernel
theorem dL_print_17 : decode cL_print 17 = .ok (.lload_n 1, 1) := by decide +kernel
theorem dL_print_18 : decode cL_print 18 = .ok (.lmul, 1) := by decide +kernel
theorem dL_print_19 : decode cL_print 19 = .ok (.aload_n 0, 1) := by decide +kernel
theorem dL_print_20 : decode cL_print 20 = .ok (.iload_n 3, 1) := by decide +kernel
theorem dL_print_21 : decode cL_print 21 = .ok (.invokevirtual 10, 3) := by decide +kernel
theorem dL_print_24 : decode cL_print 24 = .ok (.i2l, 1) := by decide +kernel
theorem dL_print_25 : decode cL_print 25 = .ok (.ladd, 1) := by decide +kernel
theorem dL_print_26 : decode cL_print 26 = .ok (.lstore_n 1, 1) := by decide +kernel
theorem dL_print_27 : decode cL_print 27 = .ok (.iinc 3 1, 3) := by decide +kernel
theorem dL_print_30 : decode cL_print 30 = .ok (.goto (-22), 3) := by decide +kernel
theorem dL_print_33 : decode cL_print 33 = .ok (.iconst 0, 1) := by decide +kernel
theorem dL_print_34 : decode cL_print 34 = .ok (.istore_n 3, 1) := by decide +kernel
theorem dL_print_35 : decode cL_print 35 = .ok (.iload_n 3, 1) := by decide +kernel
theorem dL_print_36 : decode cL_print 36 = .ok (.bipush 10, 2) := by decide +kernel
theorem dL_print_38 : decode cL_print 38 = .ok (.aload_n 0, 1) := by decide +kernel
theorem dL_print_39 : decode cL_print 39 = .ok (.iconst 1, 1) := by decide +kernel
theorem dL_print_40 : decode cL_print 40 = .ok (.invokevirtual 10, 3) := by decide +kernel
theorem dL_print_43 : decode cL_print 43 = .ok (.imul, 1) := by decide +kernel
theorem dL_print_44 : decode cL_print 44 = .ok (.if_icmp .ge 29, 3) := by decide +kernel
theorem dL_print_47 : decode cL_print 47 = .ok (.ldc2_w 47, 3) := by decide +kernel
theorem dL_print_50 : decode cL_print 50 = .ok (.lload_n 1, 1) := by decide +kernel
theorem dL_print_51 : decode cL_print 51 = .ok (.lmul, 1) := by decide +kernel
theorem dL_print_52 : decode cL_print 52 = .ok (.aload_n 0, 1) := by decide +kernel
theorem dL_print_53 : decode cL_print 53 = .ok (.iload_n 3, 1) := by decide +kernel
theorem dL_print_54 : decode cL_print 54 = .ok (.bipush 10, 2) := by decide +kernel
theorem dL_print_56 : decode cL_print 56 = .ok (.idiv, 1) := by decide +kernel
theorem dL_print_57 : decode cL_print 57 = .ok (.iload_n 3, 1) := by decide +kernel
theorem dL_print_58 : decode cL_print 58 = .ok (.bipush 10, 2) := by decide +kernel
theorem dL_print_60 : decode cL_print 60 = .ok (.irem, 1) := by decide +kernel
theorem dL_print_61 : decode cL_print 61 = .ok (.invokevirtual 16, 3) := by decide +kernel
theorem dL_print_64 : decode cL_print 64 = .ok (.i2l, 1) := by decide +kernel
theorem dL_print_65 : decode cL_print 65 = .ok (.ladd, 1) := by decide +kernel
theorem dL_print_66 : decode cL_print 66 = .ok (.lstore_n 1, 1) := by decide +kernel
theorem dL_print_67 : decode cL_print 67 = .ok (.iinc 3 1, 3) := by decide +kernel
theorem dL_print_70 : decode cL_print 70 = .ok (.goto (-35), 3) := by decide +kernel
theorem dL_print_73 : decode cL_print 73 = .ok (.iconst 0, 1) := by decide +kernel
theorem dL_print_74 : decode cL_print 74 = .ok (.istore_n 3, 1) := by decide +kernel
theorem dL_print_75 : decode cL_print 75 = .ok (.iload_n 3, 1) := by decide +kernel
theorem dL_print_76 : decode cL_print 76 = .ok (.bipush 15, 2) := by decide +kernel
theorem dL_print_78 : decode cL_print 78 = .ok (.if_icmp .ge 51, 3) := by decide +kernel
theorem dL_print_81 : decode cL_print 81 = .ok (.iconst 0, 1) := by decide +kernel
theorem dL_print_82 : decode cL_print 82 = .ok (.istore 4, 2) := by decide +kernel
theorem dL_print_84 : decode cL_print 84 = .ok (.iload 4, 2) := by decide +kernel
theorem dL_print_86 : decode cL_print 86 = .ok (.aload_n 0, 1) := by decide +kernel
theorem dL_print_87 : decode cL_print 87 = .ok (.iload_n 3, 1) := by decide +kernel
theorem dL_print_88 : decode cL_print 88 = .ok (.iconst 0, 1) := by decide +kernel
theorem dL_print_89 : decode cL_print 89 = .ok (.invokevirtual 31, 3) := by decide +kernel
theorem dL_print_92 : decode cL_print 92 = .ok (.if_icmp .ge 31, 3) := by decide +kernel
theorem dL_print_95 : decode cL_print 95 = .ok (.ldc2_w 47, 3) := by decide +kernel
theorem dL_print_98 : decode cL_print 98 = .ok (.lload_n 1, 1) := by decide +kernel
theorem dL_print_99 : decode cL_print 99 = .ok (.lmul, 1) := by decide +kernel
theorem dL_print_100 : decode cL_print 100 = .ok (.ldc2_w 49, 3) := by decide +kernel
theorem dL_print_103 : decode cL_print 103 = .ok (.iload_n 3, 1) := by decide +kernel
theorem dL_print_104 : decode cL_print 104 = .ok (.i2l, 1) := by decide +kernel
theorem dL_print_105 : decode cL_print 105 = .ok (.lmul, 1) := by decide +kernel
theorem dL_print_106 : decode cL_print 106 = .ok (.ladd, 1) := by decide +kernel
theorem dL_print_107 : decode cL_print 107 = .ok (.aload_n 0, 1) := by decide +kernel
theorem dL_print_108 : decode cL_print 108 = .ok (.iload_n 3, 1) := by decide +kernel
theorem dL_print_109 : decode cL_print 109 = .ok (.iload 4, 2) := by decide +kernel
theorem dL_print_111 : decode cL_print 111 = .ok (.invokevirtual 34, 3) := by decide +kernel
theorem dL_print_114 : decode cL_print 114 = .ok (.i2l, 1) := by decide +kernel
theorem dL_print_115 : decode cL_print 115 = .ok (.ladd, 1) := by decide +kernel
theorem dL_print_116 : decode cL_print 116 = .ok (.lstore_n 1, 1) := by decide +kernel
theorem dL_print_117 : decode cL_print 117 = .ok (.iinc 4 1, 3) := by decide +kernel
theorem dL_print_120 : decode cL_print 120 = .ok (.goto (-36), 3) := by decide +kernel
theorem dL_print_123 : decode cL_print 123 = .ok (.iinc 3 1, 3) := by decide +kernel
theorem dL_print_126 : decode cL_print 126 = .ok (.goto (-51), 3) := by decide +kernel
theorem dL_print_129 : decode cL_print 129 = .ok (.iconst 0, 1) := by decide +kernel
theorem dL_print_130 : decode cL_print 130 = .ok (.istore_n 3, 1) := by decide +kernel
theorem dL_print_131 : decode cL_print 131 = .ok (.iload_n 3, 1) := by decide +kernel
theorem dL_print_132 : decode cL_print 132 = .ok (.iconst 3, 1) := by decide +kernel
theorem dL_print_133 : decode cL_print 133 = .ok (.aload_n 0, 1) := by decide +kernel
theorem dL_print_134 : decode cL_print 134 = .ok (.bipush 10, 2) := by decide +kernel
theorem dL_print_136 : decode cL_print 136 = .ok (.invokevirtual 10, 3) := by decide +kernel
theorem dL_print_139 : decode cL_print 139 = .ok (.imul, 1) := by decide +kernel
theorem dL_print_140 : decode cL_print 140 = .ok (.if_icmp .ge 27, 3) := by decide +kernel
theorem dL_print_143 : decode cL_print 143 = .ok (.ldc2_w 47, 3) := by decide +kernel
theorem dL_print_146 : decode cL_print 146 = .ok (.lload_n 1, 1) := by decide +kernel
theorem dL_print_147 : decode cL_print 147 = .ok (.lmul, 1) := by decide +kernel
theorem dL_print_148 : decode cL_print 148 = .ok (.aload_n 0, 1) := by decide +kernel
theorem dL_print_149 : decode cL_print 149 = .ok (.iload_n 3, 1) := by decide +kernel
theorem dL_print_150 : decode cL_print 150 = .ok (.iconst 3, 1) := by decide +kernel
theorem dL_print_151 : decode cL_print 151 = .ok (.idiv, 1) := by decide +kernel
theorem dL_print_152 : decode cL_print 152 = .ok (.iload_n 3, 1) := by decide +kernel
theorem dL_print_153 : decode cL_print 153 = .ok (.iconst 3, 1) := by decide +kernel
theorem dL_print_154 : decode cL_print 154 = .ok (.irem, 1) := by decide +kernel
theorem dL_print_155 : decode cL_print 155 = .ok (.invokevirtual 41, 3) := by decide +kernel
theorem dL_print_158 : decode cL_print 158 = .ok (.i2l, 1) := by decide +kernel
theorem dL_print_159 : decode cL_print 159 = .ok (.ladd, 1) := by decide +kernel
theorem dL_print_160 : decode cL_print 160 = .ok (.lstore_n 1, 1) := by decide +kernel
theorem dL_print_161 : decode cL_print 161 = .ok (.iinc 3 1, 3) := by decide +kernel
theorem dL_print_164 : decode cL_print 164 = .ok (.goto (-33), 3) := by decide +kernel
theorem dL_print_167 : decode cL_print 167 = .ok (.lload_n 1, 1) := by decide +kernel
theorem dL_print_168 : decode cL_print 168 = .ok (.lreturn, 1) := by decide +kernel
theorem dL_leaps_0 : decode cL_leaps 0 = .ok (.aload_n 0, 1) := by decide +kernel
theorem dL_leaps_1 : decode cL_leaps 1 = .ok (.iload_n 1, 1) := by decide +kernel
theorem dL_leaps_2 : decode cL_leaps 2 = .ok (.iconst 0, 1) := by decide +kernel
theorem dL_leaps_3 : decode cL_leaps 3 = .ok (.invokevirtual 16, 3) := by decide +kernel
theorem dL_leaps_6 : decode cL_leaps 6 = .ok (.istore_n 3, 1) := by decide +kernel
theorem dL_leaps_7 : decode cL_leaps 7 = .ok (.aload_n 0, 1) := by decide +kernel
theorem dL_leaps_8 : decode cL_leaps 8 = .ok (.iload_n 1, 1) := by decide +kernel
theorem dL_leaps_9 : decode cL_leaps 9 = .ok (.iload_n 2, 1) := by decide +kernel
theorem dL_leaps_10 : decode cL_leaps 10 = .ok (.invokevirtual 51, 3) := by decide +kernel
theorem dL_leaps_13 : decode cL_leaps 13 = .ok (.istore 4, 2) := by decide +kernel
theorem dL_leaps_15 : decode cL_leaps 15 = .ok (.aload_n 0, 1) := by decide +kernel
theorem dL_leaps_16 : decode cL_leaps 16 = .ok (.iload_n 1, 1) := by decide +kernel
theorem dL_leaps_17 : decode cL_leaps 17 = .ok (.bipush 8, 2) := by decide +kernel
theorem dL_leaps_19 : decode cL_leaps 19 = .ok (.invokevirtual 16, 3) := by decide +kernel
theorem dL_leaps_22 : decode cL_leaps 22 = .ok (.istore 5, 2) := by decide +kernel
theorem dL_leaps_24 : decode cL_leaps 24 = .ok (.aload_n 0, 1) := by decide +kernel
theorem dL_leaps_25 : decode cL_leaps 25 = .ok (.iload_n 1, 1) := by decide +kernel
theorem dL_leaps_26 : decode cL_leaps 26 = .ok (.iconst 3, 1) := by decide +kernel
theorem dL_leaps_27 : decode cL_leaps 27 = .ok (.invokevirtual 16, 3) := by decide +kernel
theorem dL_leaps_30 : decode cL_leaps 30 = .ok (.istore 6, 2) := by decide +kernel
theorem dL_leaps_32 : decode cL_leaps 32 = .ok (.aload_n 0, 1) := by decide +kernel
theorem dL_leaps_33 : decode cL_leaps 33 = .ok (.iload_n 1, 1) := by decide +kernel
theorem dL_leaps_34 : decode cL_leaps 34 = .ok (.iconst 1, 1) := by decide +kernel
theorem dL_leaps_35 : decode cL_leaps 35 = .ok (.invokevirtual 16, 3) := by decide +kernel
theorem dL_leaps_38 : decode cL_leaps 38 = .ok (.istore 7, 2) := by decide +kernel
theorem dL_leaps_40 : decode cL_leaps 40 = .ok (.aload_n 0, 1) := by decide +kernel
theorem dL_leaps_41 : decode cL_leaps 41 = .ok (.iload_n 1, 1) := by decide +kernel
theorem dL_leaps_42 : decode cL_leaps 42 = .ok (.iload_n 2, 1) := by decide +kernel
theorem dL_leaps_43 : decode cL_leaps 43 = .ok (.iconst 0, 1) := by decide +kernel
theorem dL_leaps_44 : decode cL_leaps 44 = .ok (.invokevirtual 54, 3) := by decide +kernel
theorem dL_leaps_47 : decode cL_leaps 47 = .ok (.istore 8, 2) := by decide +kernel
theorem dL_leaps_49 : decode cL_leaps 49 = .ok (.aload_n 0, 1) := by decide +kernel
theorem dL_leaps_50 : decode cL_leaps 50 = .ok (.iload_n 1, 1) := by decide +kernel
theorem dL_leaps_51 : decode cL_leaps 51 = .ok (.iload_n 2, 1) := by decide +kernel
theorem dL_leaps_52 : decode cL_leaps 52 = .ok (.iconst 1, 1) := by decide +kernel
theorem dL_leaps_53 : decode cL_leaps 53 = .ok (.invokevirtual 54, 3) := by decide +kernel
theorem dL_leaps_56 : decode cL_leaps 56 = .ok (.istore 9, 2) := by decide +kernel
theorem dL_leaps_58 : decode cL_leaps 58 = .ok (.aload_n 0, 1) := by decide +kernel
theorem dL_leaps_59 : decode cL_leaps 59 = .ok (.iload_n 1, 1) := by decide +kernel
theorem dL_leaps_60 : decode cL_leaps 60 = .ok (.iload_n 2, 1) := by decide +kernel
theorem dL_leaps_61 : decode cL_leaps 61 = .ok (.iconst 2, 1) := by decide +kernel
theorem dL_leaps_62 : decode cL_leaps 62 = .ok (.invokevirtual 54, 3) := by decide +kernel
theorem dL_leaps_65 : decode cL_leaps 65 = .ok (.istore 10, 2) := by decide +kernel
theorem dL_leaps_67 : decode cL_leaps 67 = .ok (.aload_n 0, 1) := by decide +kernel
theorem dL_leaps_68 : decode cL_leaps 68 = .ok (.iload_n 1, 1) := by decide +kernel
theorem dL_leaps_69 : decode cL_leaps 69 = .ok (.iload_n 2, 1) := by decide +kernel
theorem dL_leaps_70 : decode cL_leaps 70 = .ok (.iconst 3, 1) := by decide +kernel
theorem dL_leaps_71 : decode cL_leaps 71 = .ok (.invokevirtual 54, 3) := by decide +kernel
theorem dL_leaps_74 : decode cL_leaps 74 = .ok (.istore 11, 2) := by decide +kernel
theorem dL_leaps_76 : decode cL_leaps 76 = .ok (.aload_n 0, 1) := by decide +kernel
theorem dL_leaps_77 : decode cL_leaps 77 = .ok (.bipush 8, 2) := by decide +kernel
theorem dL_leaps_79 : decode cL_leaps 79 = .ok (.invokevirtual 10, 3) := by decide +kernel
theorem dL_leaps_82 : decode cL_leaps 82 = .ok (.istore 12, 2) := by decide +kernel
theorem dL_leaps_84 : decode cL_leaps 84 = .ok (.iload_n 3, 1) := by decide +kernel
theorem dL_leaps_85 : decode cL_leaps 85 = .ok (.iload_n 2, 1) := by decide +kernel
theorem dL_leaps_86 : decode cL_leaps 86 = .ok (.iadd, 1) := by decide +kernel
theorem dL_leaps_87 : decode cL_leaps 87 = .ok (.ifCond .lt 32, 3) := by decide +kernel
theorem dL_leaps_90 : decode cL_leaps 90 = .ok (.iload_n 3, 1) := by decide +kernel
theorem dL_leaps_91 : decode cL_leaps 91 = .ok (.iload_n 2, 1) := by decide +kernel
theorem dL_leaps_92 : decode cL_leaps 92 = .ok (.iadd, 1) := by decide +kernel
theorem dL_leaps_93 : decode cL_leaps 93 = .ok (.bipush 16, 2) := by decide +kernel
theorem dL_leaps_95 : decode cL_leaps 95 = .ok (.if_icmp .ge 24, 3) := by decide +kernel
theorem dL_leaps_98 : decode cL_leaps 98 = .ok (.aload_n 0, 1) := by decide +kernel
theorem dL_leaps_99 : decode cL_leaps 99 = .ok (.iload_n 1, 1) := by decide +kernel
theorem dL_leaps_100 : decode cL_leaps 100 = .ok (.bipush 9, 2) := by decide +kernel
theorem dL_leaps_102 : decode cL_leaps 102 = .ok (.invokevirtual 16, 3) := by decide +kernel
theorem dL_leaps_105 : decode cL_leaps 105 = .ok (.iload_n 3, 1) := by decide +kernel
theorem dL_leaps_106 : decode cL_leaps 106 = .ok (.iload_n 2, 1) := by decide +kernel
theorem dL_leaps_107 : decode cL_leaps 107 = .ok (.iadd, 1) := by decide +kernel
theorem dL_leaps_108 : decode cL_leaps 108 = .ok (.ishr, 1) := by decide +kernel
theorem dL_leaps_109 : decode cL_leaps 109 = .ok (.iconst 1, 1) := by decide +kernel
theorem dL_leaps_110 : decode cL_leaps 110 = .ok (.iand, 1) := by decide +kernel
theorem dL_leaps_111 : decode cL_leaps 111 = .ok (.iconst 1, 1) := by decide +kernel
theorem dL_leaps_112 : decode cL_leaps 112 = .ok (.if_icmp .ne 7, 3) := by decide +kernel
theorem dL_leaps_115 : decode cL_leaps 115 = .ok (.iconst 1, 1) := by decide +kernel
theorem dL_leaps_116 : decode cL_leaps 116 = .ok (.goto 4, 3) := by decide +kernel
theorem dL_leaps_119 : decode cL_leaps 119 = .ok (.iconst 0, 1) := by decide +kernel
theorem dL_leaps_120 : decode cL_leaps 120 = .ok (.istore 13, 2) := by decide +kernel
theorem dL_leaps_122 : decode cL_leaps 122 = .ok (.aload_n 0, 1) := by decide +kernel
theorem dL_leaps_123 : decode cL_leaps 123 = .ok (.iload_n 1, 1) := by decide +kernel
theorem dL_leaps_124 : decode cL_leaps 124 = .ok (.iload_n 2, 1) := by decide +kernel
theorem dL_leaps_125 : decode cL_leaps 125 = .ok (.invokevirtual 58, 3) := by decide +kernel
theorem dL_leaps_128 : decode cL_leaps 128 = .ok (.istore 14, 2) := by decide +kernel
theorem dL_leaps_130 : decode cL_leaps 130 = .ok (.iload 4, 2) := by decide +kernel
theorem dL_leaps_132 : decode cL_leaps 132 = .ok (.ifCond .le 56, 3) := by decide +kernel
theorem dL_leaps_135 : decode cL_leaps 135 = .ok (.iload 4, 2) := by decide +kernel
theorem dL_leaps_137 : decode cL_leaps 137 = .ok (.bipush 7, 2) := by decide +kernel
theorem dL_leaps_139 : decode cL_leaps 139 = .ok (.if_icmp .ge 47, 3) := by decide +kernel
theorem dL_leaps_142 : decode cL_leaps 142 = .ok (.iload 14, 2) := by decide +kernel
theorem dL_leaps_144 : decode cL_leaps 144 = .ok (.bipush (-5), 2) := by decide +kernel
theorem dL_leaps_146 : decode cL_leaps 146 = .ok (.if_icmp .ne 40, 3) := by decide +kernel
theorem dL_leaps_149 : decode cL_leaps 149 = .ok (.iload 8, 2) := by decide +kernel
theorem dL_leaps_151 : decode cL_leaps 151 = .ok (.iload 14, 2) := by decide +kernel
theorem dL_leaps_153 : decode cL_leaps 153 = .ok (.if_icmp .ne 33, 3) := by decide +kernel
theorem dL_leaps_156 : decode cL_leaps 156 = .ok (.iload 9, 2) := by decide +kernel
theorem dL_leaps_158 : decode cL_leaps 158 = .ok (.iload 14, 2) := by decide +kernel
theorem dL_leaps_160 : decode cL_leaps 160 = .ok (.if_icmp .ne 26, 3) := by decide +kernel
theorem dL_leaps_163 : decode cL_leaps 163 = .ok (.iload 10, 2) := by decide +kernel
theorem dL_leaps_165 : decode cL_leaps 165 = .ok (.iload 14, 2) := by decide +kernel
theorem dL_leaps_167 : decode cL_leaps 167 = .ok (.if_icmp .ne 19, 3) := by decide +kernel
theorem dL_leaps_170 : decode cL_leaps 170 = .ok (.iload 11, 2) := by decide +kernel
theorem dL_leaps_172 : decode cL_leaps 172 = .ok (.iload 14, 2) := by decide +kernel
theorem dL_leaps_174 : decode cL_leaps 174 = .ok (.if_icmp .ne 12, 3) := by decide +kernel
theorem dL_leaps_177 : decode cL_leaps 177 = .ok (.iload 13, 2) := by decide +kernel
theorem dL_leaps_179 : decode cL_leaps 179 = .ok (.ifCond .ne 7, 3) := by decide +kernel
theorem dL_leaps_182 : decode cL_leaps 182 = .ok (.iconst 1, 1) := by decide +kernel
theorem dL_leaps_183 : decode cL_leaps 183 = .ok (.goto 4, 3) := by decide +kernel
theorem dL_leaps_186 : decode cL_leaps 186 = .ok (.iconst 0, 1) := by decide +kernel
theorem dL_leaps_187 : decode cL_leaps 187 = .ok (.ireturn, 1) := by decide +kernel
theorem dL_leaps_188 : decode cL_leaps 188 = .ok (.iload 13, 2) := by decide +kernel
theorem dL_leaps_190 : decode cL_leaps 190 = .ok (.ifCond .eq 136, 3) := by decide +kernel
theorem dL_leaps_193 : decode cL_leaps 193 = .ok (.iload 14, 2) := by decide +kernel
theorem dL_leaps_195 : decode cL_leaps 195 = .ok (.iload_n 3, 1) := by decide +kernel
theorem dL_leaps_196 : decode cL_leaps 196 = .ok (.iload_n 2, 1) := by decide +kernel
theorem dL_leaps_197 : decode cL_leaps 197 = .ok (.iadd, 1) := by decide +kernel
theorem dL_leaps_198 : decode cL_leaps 198 = .ok (.if_icmp .ne 128, 3) := by decide +kernel
theorem dL_leaps_201 : decode cL_leaps 201 = .ok (.aload_n 0, 1) := by decide +kernel
theorem dL_leaps_202 : decode cL_leaps 202 = .ok (.iload_n 1, 1) := by decide +kernel
theorem dL_leaps_203 : decode cL_leaps 203 = .ok (.iconst 0, 1) := by decide +kernel
theorem dL_leaps_204 : decode cL_leaps 204 = .ok (.invokevirtual 16, 3) := by decide +kernel
theorem dL_leaps_207 : decode cL_leaps 207 = .ok (.iload 14, 2) := by decide +kernel
theorem dL_leaps_209 : decode cL_leaps 209 = .ok (.if_icmp .ne 117, 3) := by decide +kernel
theorem dL_leaps_212 : decode cL_leaps 212 = .ok (.iload 8, 2) := by decide +kernel
theorem dL_leaps_214 : decode cL_leaps 214 = .ok (.iload 9, 2) := by decide +kernel
theorem dL_leaps_216 : decode cL_leaps 216 = .ok (.iadd, 1) := by decide +kernel
theorem dL_leaps_217 : decode cL_leaps 217 = .ok (.iload_n 2, 1) := by decide +kernel
theorem dL_leaps_218 : decode cL_leaps 218 = .ok (.ifCond .le 7, 3) := by decide +kernel
theorem dL_leaps_221 : decode cL_leaps 221 = .ok (.iload_n 2, 1) := by decide +kernel
theorem dL_leaps_222 : decode cL_leaps 222 = .ok (.goto 5, 3) := by decide +kernel
theorem dL_leaps_225 : decode cL_leaps 225 = .ok (.iload_n 2, 1) := by decide +kernel
theorem dL_leaps_226 : decode cL_leaps 226 = .ok (.ineg, 1) := by decide +kernel
theorem dL_leaps_227 : decode cL_leaps 227 = .ok (.if_icmp .ne 99, 3) := by decide +kernel
theorem dL_leaps_230 : decode cL_leaps 230 = .ok (.aload_n 0, 1) := by decide +kernel
theorem dL_leaps_231 : decode cL_leaps 231 = .ok (.iload_n 1, 1) := by decide +kernel
theorem dL_leaps_232 : decode cL_leaps 232 = .ok (.iconst 3, 1) := by decide +kernel
theorem dL_leaps_233 : decode cL_leaps 233 = .ok (.invokevirtual 16, 3) := by decide +kernel
theorem dL_leaps_236 : decode cL_leaps 236 = .ok (.iload 6, 2) := by decide +kernel
theorem dL_leaps_238 : decode cL_leaps 238 = .ok (.iload 8, 2) := by decide +kernel
theorem dL_leaps_240 : decode cL_leaps 240 = .ok (.isub, 1) := by decide +kernel
theorem dL_leaps_241 : decode cL_leaps 241 = .ok (.iload 9, 2) := by decide +kernel
theorem dL_leaps_243 : decode cL_leaps 243 = .ok (.iadd, 1) := by decide +kernel
theorem dL_leaps_244 : decode cL_leaps 244 = .ok (.if_icmp .ne 82, 3) := by decide +kernel
theorem dL_leaps_247 : decode cL_leaps 247 = .ok (.aload_n 0, 1) := by decide +kernel
theorem dL_leaps_248 : decode cL_leaps 248 = .ok (.iload_n 1, 1) := by decide +kernel
theorem dL_leaps_249 : decode cL_leaps 249 = .ok (.iconst 1, 1) := by decide +kernel
theorem dL_leaps_250 : decode cL_leaps 250 = .ok (.invokevirtual 16, 3) := by decide +kernel
theorem dL_leaps_253 : decode cL_leaps 253 = .ok (.iload 7, 2) := by decide +kernel
theorem dL_leaps_255 : decode cL_leaps 255 = .ok (.iload_n 2, 1) := by decide +kernel
theorem dL_leaps_256 : decode cL_leaps 256 = .ok (.ifCond .le 9, 3) := by decide +kernel
theorem dL_leaps_259 : decode cL_leaps 259 = .ok (.iconst 2, 1) := by decide +kernel
theorem dL_leaps_260 : decode cL_leaps 260 = .ok (.iload_n 2, 1) := by decide +kernel
theorem dL_leaps_261 : decode cL_leaps 261 = .ok (.imul, 1) := by decide +kernel
theorem dL_leaps_262 : decode cL_leaps 262 = .ok (.goto 5, 3) := by decide +kernel
theorem dL_leaps_265 : decode cL_leaps 265 = .ok (.iload_n 2, 1) := by decide +kernel
theorem dL_leaps_266 : decode cL_leaps 266 = .ok (.ineg, 1) := by decide +kernel
theorem dL_leaps_267 : decode cL_leaps 267 = .ok (.isub, 1) := by decide +kernel
theorem dL_leaps_268 : decode cL_leaps 268 = .ok (.if_icmp .ne 58, 3) := by decide +kernel
theorem dL_leaps_271 : decode cL_leaps 271 = .ok (.aload_n 0, 1) := by decide +kernel
theorem dL_leaps_272 : decode cL_leaps 272 = .ok (.iload_n 1, 1) := by decide +kernel
theorem dL_leaps_273 : decode cL_leaps 273 = .ok (.bipush 8, 2) := by decide +kernel
theorem dL_leaps_275 : decode cL_leaps 275 = .ok (.invokevirtual 16, 3) := by decide +kernel
theorem dL_leaps_278 : decode cL_leaps 278 = .ok (.iload 5, 2) := by decide +kernel
theorem dL_leaps_280 : decode cL_leaps 280 = .ok (.iload 10, 2) := by decide +kernel
theorem dL_leaps_282 : decode cL_leaps 282 = .ok (.ior, 1) := by decide +kernel
theorem dL_leaps_283 : decode cL_leaps 283 = .ok (.iload 11, 2) := by decide +kernel
theorem dL_leaps_285 : decode cL_leaps 285 = .ok (.iconst (-1), 1) := by decide +kernel
theorem dL_leaps_286 : decode cL_leaps 286 = .ok (.ixor, 1) := by decide +kernel
theorem dL_leaps_287 : decode cL_leaps 287 = .ok (.iand, 1) := by decide +kernel
theorem dL_leaps_288 : decode cL_leaps 288 = .ok (.if_icmp .ne 38, 3) := by decide +kernel
theorem dL_leaps_291 : decode cL_leaps 291 = .ok (.iload 5, 2) := by decide +kernel
theorem dL_leaps_293 : decode cL_leaps 293 = .ok (.iload 10, 2) := by decide +kernel
theorem dL_leaps_295 : decode cL_leaps 295 = .ok (.iand, 1) := by decide +kernel
theorem dL_leaps_296 : decode cL_leaps 296 = .ok (.ifCond .ne 30, 3) := by decide +kernel
theorem dL_leaps_299 : decode cL_leaps 299 = .ok (.iload 11, 2) := by decide +kernel
theorem dL_leaps_301 : decode cL_leaps 301 = .ok (.iload 5, 2) := by decide +kernel
theorem dL_leaps_303 : decode cL_leaps 303 = .ok (.iconst (-1), 1) := by decide +kernel
theorem dL_leaps_304 : decode cL_leaps 304 = .ok (.ixor, 1) := by decide +kernel
theorem dL_leaps_305 : decode cL_leaps 305 = .ok (.iand, 1) := by decide +kernel
theorem dL_leaps_306 : decode cL_leaps 306 = .ok (.ifCond .ne 20, 3) := by decide +kernel
theorem dL_leaps_309 : decode cL_leaps 309 = .ok (.aload_n 0, 1) := by decide +kernel
theorem dL_leaps_310 : decode cL_leaps 310 = .ok (.bipush 8, 2) := by decide +kernel
theorem dL_leaps_312 : decode cL_leaps 312 = .ok (.invokevirtual 10, 3) := by decide +kernel
theorem dL_leaps_315 : decode cL_leaps 315 = .ok (.iload 12, 2) := by decide +kernel
theorem dL_leaps_317 : decode cL_leaps 317 = .ok (.iconst 1, 1) := by decide +kernel
theorem dL_leaps_318 : decode cL_leaps 318 = .ok (.iadd, 1) := by decide +kernel
theorem dL_leaps_319 : decode cL_leaps 319 = .ok (.if_icmp .ne 7, 3) := by decide +kernel
theorem dL_leaps_322 : decode cL_leaps 322 = .ok (.iconst 1, 1) := by decide +kernel
theorem dL_leaps_323 : decode cL_leaps 323 = .ok (.goto 4, 3) := by decide +kernel
theorem dL_leaps_326 : decode cL_leaps 326 = .ok (.iconst 0, 1) := by decide +kernel
theorem dL_leaps_327 : decode cL_leaps 327 = .ok (.istore 15, 2) := by decide +kernel
theorem dL_leaps_329 : decode cL_leaps 329 = .ok (.iconst 0, 1) := by decide +kernel
theorem dL_leaps_330 : decode cL_leaps 330 = .ok (.istore 16, 2) := by decide +kernel
theorem dL_leaps_332 : decode cL_leaps 332 = .ok (.iload 16, 2) := by decide +kernel
theorem dL_leaps_334 : decode cL_leaps 334 = .ok (.aload_n 0, 1) := by decide +kernel
theorem dL_leaps_335 : decode cL_leaps 335 = .ok (.iconst 1, 1) := by decide +kernel
theorem dL_leaps_336 : decode cL_leaps 336 = .ok (.invokevirtual 10, 3) := by decide +kernel
theorem dL_leaps_339 : decode cL_leaps 339 = .ok (.if_icmp .ge 120, 3) := by decide +kernel
theorem dL_leaps_342 : decode cL_leaps 342 = .ok (.iload 14, 2) := by decide +kernel
theorem dL_leaps_344 : decode cL_leaps 344 = .ok (.aload_n 0, 1) := by decide +kernel
theorem dL_leaps_345 : decode cL_leaps 345 = .ok (.iload 16, 2) := by decide +kernel
theorem dL_leaps_347 : decode cL_leaps 347 = .ok (.iconst 0, 1) := by decide +kernel
theorem dL_leaps_348 : decode cL_leaps 348 = .ok (.invokevirtual 16, 3) := by decide +kernel
theorem dL_leaps_351 : decode cL_leaps 351 = .ok (.if_icmp .le 16, 3) := by decide +kernel
theorem dL_leaps_354 : decode cL_leaps 354 = .ok (.iload 14, 2) := by decide +kernel
theorem dL_leaps_356 : decode cL_leaps 356 = .ok (.aload_n 0, 1) := by decide +kernel
theorem dL_leaps_357 : decode cL_leaps 357 = .ok (.iload 16, 2) := by decide +kernel
theorem dL_leaps_359 : decode cL_leaps 359 = .ok (.iconst 0, 1) := by decide +kernel
theorem dL_leaps_360 : decode cL_leaps 360 = .ok (.invokevirtual 16, 3) := by decide +kernel
theorem dL_leaps_363 : decode cL_leaps 363 = .ok (.isub, 1) := by decide +kernel
theorem dL_leaps_364 : decode cL_leaps 364 = .ok (.goto 13, 3) := by decide +kernel
theorem dL_leaps_367 : decode cL_leaps 367 = .ok (.aload_n 0, 1) := by decide +kernel
theorem dL_leaps_368 : decode cL_leaps 368 = .ok (.iload 16, 2) := by decide +kernel
theorem dL_leaps_370 : decode cL_leaps 370 = .ok (.iconst 0, 1) := by decide +kernel
theorem dL_leaps_371 : decode cL_leaps 371 = .ok (.invokevirtual 16, 3) := by decide +kernel
theorem dL_leaps_374 : decode cL_leaps 374 = .ok (.iload 14, 2) := by decide +kernel
theorem dL_leaps_376 : decode cL_leaps 376 = .ok (.isub, 1) := by decide +kernel
theorem dL_leaps_377 : decode cL_leaps 377 = .ok (.istore 17, 2) := by decide +kernel
theorem dL_leaps_379 : decode cL_leaps 379 = .ok (.iload_n 3, 1) := by decide +kernel
theorem dL_leaps_380 : decode cL_leaps 380 = .ok (.aload_n 0, 1) := by decide +kernel
theorem dL_leaps_381 : decode cL_leaps 381 = .ok (.iload 16, 2) := by decide +kernel
theorem dL_leaps_383 : decode cL_leaps 383 = .ok (.iconst 0, 1) := by decide +kernel
theorem dL_leaps_384 : decode cL_leaps 384 = .ok (.invokevirtual 16, 3) := by decide +kernel
theorem dL_leaps_387 : decode cL_leaps 387 = .ok (.if_icmp .le 15, 3) := by decide +kernel
theorem dL_leaps_390 : decode cL_leaps 390 = .ok (.iload_n 3, 1) := by decide +kernel
theorem dL_leaps_391 : decode cL_leaps 391 = .ok (.aload_n 0, 1) := by decide +kernel
theorem dL_leaps_392 : decode cL_leaps 392 = .ok (.iload 16, 2) := by decide +kernel
theorem dL_leaps_394 : decode cL_leaps 394 = .ok (.iconst 0, 1) := by decide +kernel
theorem dL_leaps_395 : decode cL_leaps 395 = .ok (.invokevirtual 16, 3) := by decide +kernel
theorem dL_leaps_398 : decode cL_leaps 398 = .ok (.isub, 1) := by decide +kernel
theorem dL_leaps_399 : decode cL_leaps 399 = .ok (.goto 12, 3) := by decide +kernel
theorem dL_leaps_402 : decode cL_leaps 402 = .ok (.aload_n 0, 1) := by decide +kernel
theorem dL_leaps_403 : decode cL_leaps 403 = .ok (.iload 16, 2) := by decide +kernel
theorem dL_leaps_405 : decode cL_leaps 405 = .ok (.iconst 0, 1) := by decide +kernel
theorem dL_leaps_406 : decode cL_leaps 406 = .ok (.invokevirtual 16, 3) := by decide +kernel
theorem dL_leaps_409 : decode cL_leaps 409 = .ok (.iload_n 3, 1) := by decide +kernel
theorem dL_leaps_410 : decode cL_leaps 410 = .ok (.isub, 1) := by decide +kernel
theorem dL_leaps_411 : decode cL_leaps 411 = .ok (.istore 18, 2) := by decide +kernel
theorem dL_leaps_413 : decode cL_leaps 413 = .ok (.iload 15, 2) := by decide +kernel
theorem dL_leaps_415 : decode cL_leaps 415 = .ok (.ifCond .eq 35, 3) := by decide +kernel
theorem dL_leaps_418 : decode cL_leaps 418 = .ok (.iload 5, 2) := by decide +kernel
theorem dL_leaps_420 : decode cL_leaps 420 = .ok (.iload 16, 2) := by decide +kernel
theorem dL_leaps_422 : decode cL_leaps 422 = .ok (.ishr, 1) := by decide +kernel
theorem dL_leaps_423 : decode cL_leaps 423 = .ok (.iconst 1, 1) := by decide +kernel
theorem dL_leaps_424 : decode cL_leaps 424 = .ok (.iand, 1) := by decide +kernel
theorem dL_leaps_425 : decode cL_leaps 425 = .ok (.ifCond .eq 21, 3) := by decide +kernel
theorem dL_leaps_428 : decode cL_leaps 428 = .ok (.iload 17, 2) := by decide +kernel
theorem dL_leaps_430 : decode cL_leaps 430 = .ok (.aload_n 0, 1) := by decide +kernel
theorem dL_leaps_431 : decode cL_leaps 431 = .ok (.bipush 12, 2) := by decide +kernel
theorem dL_leaps_433 : decode cL_leaps 433 = .ok (.invokevirtual 10, 3) := by decide +kernel
theorem dL_leaps_436 : decode cL_leaps 436 = .ok (.if_icmp .le 10, 3) := by decide +kernel
theorem dL_leaps_439 : decode cL_leaps 439 = .ok (.iload 17, 2) := by decide +kernel
theorem dL_leaps_441 : decode cL_leaps 441 = .ok (.iload 18, 2) := by decide +kernel
theorem dL_leaps_443 : decode cL_leaps 443 = .ok (.if_icmp .gt 7, 3) := by decide +kernel
theorem dL_leaps_446 : decode cL_leaps 446 = .ok (.iconst 1, 1) := by decide +kernel
theorem dL_leaps_447 : decode cL_leaps 447 = .ok (.goto 4, 3) := by decide +kernel
theorem dL_leaps_450 : decode cL_leaps 450 = .ok (.iconst 0, 1) := by decide +kernel
theorem dL_leaps_451 : decode cL_leaps 451 = .ok (.istore 15, 2) := by decide +kernel
theorem dL_leaps_453 : decode cL_leaps 453 = .ok (.iinc 16 1, 3) := by decide +kernel
theorem dL_leaps_456 : decode cL_leaps 456 = .ok (.goto (-124), 3) := by decide +kernel
theorem dL_leaps_459 : decode cL_leaps 459 = .ok (.iload 15, 2) := by decide +kernel
theorem dL_leaps_461 : decode cL_leaps 461 = .ok (.ifCond .eq 14, 3) := by decide +kernel
theorem dL_leaps_464 : decode cL_leaps 464 = .ok (.aload_n 0, 1) := by decide +kernel
theorem dL_leaps_465 : decode cL_leaps 465 = .ok (.invokevirtual 61, 3) := by decide +kernel
theorem dL_leaps_468 : decode cL_leaps 468 = .ok (.ifCond .lt 7, 3) := by decide +kernel
theorem dL_leaps_471 : decode cL_leaps 471 = .ok (.iconst 1, 1) := by decide +kernel
theorem dL_leaps_472 : decode cL_leaps 472 = .ok (.goto 4, 3) := by decide +kernel
theorem dL_leaps_475 : decode cL_leaps 475 = .ok (.iconst 0, 1) := by decide +kernel
theorem dL_leaps_476 : decode cL_leaps 476 = .ok (.ireturn, 1) := by decide +kernel
theorem dL_waits_0 : decode cL_waits 0 = .ok (.aload_n 0, 1) := by decide +kernel
theorem dL_waits_1 : decode cL_waits 1 = .ok (.iload_n 1, 1) := by decide +kernel
theorem dL_waits_2 : decode cL_waits 2 = .ok (.iload_n 2, 1) := by decide +kernel
theorem dL_waits_3 : decode cL_waits 3 = .ok (.invokevirtual 64, 3) := by decide +kernel
theorem dL_waits_6 : decode cL_waits 6 = .ok (.istore_n 3, 1) := by decide +kernel
theorem dL_waits_7 : decode cL_waits 7 = .ok (.aload_n 0, 1) := by decide +kernel
theorem dL_waits_8 : decode cL_waits 8 = .ok (.invokevirtual 44, 3) := by decide +kernel
theorem dL_waits_11 : decode cL_waits 11 = .ok (.istore 4, 2) := by decide +kernel
theorem dL_waits_13 : decode cL_waits 13 = .ok (.aload_n 0, 1) := by decide +kernel
theorem dL_waits_14 : decode cL_waits 14 = .ok (.bipush 8, 2) := by decide +kernel
theorem dL_waits_16 : decode cL_waits 16 = .ok (.invokevirtual 10, 3) := by decide +kernel
theorem dL_waits_19 : decode cL_waits 19 = .ok (.istore 5, 2) := by decide +kernel
theorem dL_waits_21 : decode cL_waits 21 = .ok (.aload_n 0, 1) := by decide +kernel
theorem dL_waits_22 : decode cL_waits 22 = .ok (.bipush 9, 2) := by decide +kernel
theorem dL_waits_24 : decode cL_waits 24 = .ok (.invokevirtual 10, 3) := by decide +kernel
theorem dL_waits_27 : decode cL_waits 27 = .ok (.istore 6, 2) := by decide +kernel
theorem dL_waits_29 : decode cL_waits 29 = .ok (.aload_n 0, 1) := by decide +kernel
theorem dL_waits_30 : decode cL_waits 30 = .ok (.bipush 10, 2) := by decide +kernel
theorem dL_waits_32 : decode cL_waits 32 = .ok (.invokevirtual 10, 3) := by decide +kernel
theorem dL_waits_35 : decode cL_waits 35 = .ok (.istore 7, 2) := by decide +kernel
theorem dL_waits_37 : decode cL_waits 37 = .ok (.aload_n 0, 1) := by decide +kernel
theorem dL_waits_38 : decode cL_waits 38 = .ok (.invokestatic 67, 3) := by decide +kernel
theorem dL_waits_41 : decode cL_waits 41 = .ok (.lstore 8, 2) := by decide +kernel
theorem dL_waits_43 : decode cL_waits 43 = .ok (.aload_n 0, 1) := by decide +kernel
theorem dL_waits_44 : decode cL_waits 44 = .ok (.iload_n 2, 1) := by decide +kernel
theorem dL_waits_45 : decode cL_waits 45 = .ok (.invokevirtual 71, 3) := by decide +kernel
theorem dL_waits_48 : decode cL_waits 48 = .ok (.istore 10, 2) := by decide +kernel
theorem dL_waits_50 : decode cL_waits 50 = .ok (.iload 10, 2) := by decide +kernel
theorem dL_waits_52 : decode cL_waits 52 = .ok (.ifCond .lt 106, 3) := by decide +kernel
theorem dL_waits_55 : decode cL_waits 55 = .ok (.aload_n 0, 1) := by decide +kernel
theorem dL_waits_56 : decode cL_waits 56 = .ok (.iload_n 1, 1) := by decide +kernel
theorem dL_waits_57 : decode cL_waits 57 = .ok (.iconst 0, 1) := by decide +kernel
theorem dL_waits_58 : decode cL_waits 58 = .ok (.invokevirtual 16, 3) := by decide +kernel
theorem dL_waits_61 : decode cL_waits 61 = .ok (.iload_n 3, 1) := by decide +kernel
theorem dL_waits_62 : decode cL_waits 62 = .ok (.if_icmp .ne 96, 3) := by decide +kernel
theorem dL_waits_65 : decode cL_waits 65 = .ok (.aload_n 0, 1) := by decide +kernel
theorem dL_waits_66 : decode cL_waits 66 = .ok (.bipush 8, 2) := by decide +kernel
theorem dL_waits_68 : decode cL_waits 68 = .ok (.invokevirtual 10, 3) := by decide +kernel
theorem dL_waits_71 : decode cL_waits 71 = .ok (.iload 5, 2) := by decide +kernel
theorem dL_waits_73 : decode cL_waits 73 = .ok (.iload 10, 2) := by decide +kernel
theorem dL_waits_75 : decode cL_waits 75 = .ok (.iadd, 1) := by decide +kernel
theorem dL_waits_76 : decode cL_waits 76 = .ok (.if_icmp .ne 82, 3) := by decide +kernel
theorem dL_waits_79 : decode cL_waits 79 = .ok (.aload_n 0, 1) := by decide +kernel
theorem dL_waits_80 : decode cL_waits 80 = .ok (.bipush 8, 2) := by decide +kernel
theorem dL_waits_82 : decode cL_waits 82 = .ok (.invokevirtual 10, 3) := by decide +kernel
theorem dL_waits_85 : decode cL_waits 85 = .ok (.iload 5, 2) := by decide +kernel
theorem dL_waits_87 : decode cL_waits 87 = .ok (.isub, 1) := by decide +kernel
theorem dL_waits_88 : decode cL_waits 88 = .ok (.aload_n 0, 1) := by decide +kernel
theorem dL_waits_89 : decode cL_waits 89 = .ok (.bipush 9, 2) := by decide +kernel
theorem dL_waits_91 : decode cL_waits 91 = .ok (.invokevirtual 10, 3) := by decide +kernel
theorem dL_waits_94 : decode cL_waits 94 = .ok (.iadd, 1) := by decide +kernel
theorem dL_waits_95 : decode cL_waits 95 = .ok (.iload 6, 2) := by decide +kernel
theorem dL_waits_97 : decode cL_waits 97 = .ok (.isub, 1) := by decide +kernel
theorem dL_waits_98 : decode cL_waits 98 = .ok (.iload 7, 2) := by decide +kernel
theorem dL_waits_100 : decode cL_waits 100 = .ok (.aload_n 0, 1) := by decide +kernel
theorem dL_waits_101 : decode cL_waits 101 = .ok (.bipush 10, 2) := by decide +kernel
theorem dL_waits_103 : decode cL_waits 103 = .ok (.invokevirtual 10, 3) := by decide +kernel
theorem dL_waits_106 : decode cL_waits 106 = .ok (.isub, 1) := by decide +kernel
theorem dL_waits_107 : decode cL_waits 107 = .ok (.if_icmp .ne 51, 3) := by decide +kernel
theorem dL_waits_110 : decode cL_waits 110 = .ok (.aload_n 0, 1) := by decide +kernel
theorem dL_waits_111 : decode cL_waits 111 = .ok (.invokevirtual 44, 3) := by decide +kernel
theorem dL_waits_114 : decode cL_waits 114 = .ok (.iload 4, 2) := by decide +kernel
theorem dL_waits_116 : decode cL_waits 116 = .ok (.iload_n 2, 1) := by decide +kernel
theorem dL_waits_117 : decode cL_waits 117 = .ok (.if_icmp .le 10, 3) := by decide +kernel
theorem dL_waits_120 : decode cL_waits 120 = .ok (.iload 4, 2) := by decide +kernel
theorem dL_waits_122 : decode cL_waits 122 = .ok (.iload_n 2, 1) := by decide +kernel
theorem dL_waits_123 : decode cL_waits 123 = .ok (.isub, 1) := by decide +kernel
theorem dL_waits_124 : decode cL_waits 124 = .ok (.goto 4, 3) := by decide +kernel
theorem dL_waits_127 : decode cL_waits 127 = .ok (.iconst 0, 1) := by decide +kernel
theorem dL_waits_128 : decode cL_waits 128 = .ok (.if_icmp .ne 30, 3) := by decide +kernel
theorem dL_waits_131 : decode cL_waits 131 = .ok (.iload 4, 2) := by decide +kernel
theorem dL_waits_133 : decode cL_waits 133 = .ok (.iload_n 2, 1) := by decide +kernel
theorem dL_waits_134 : decode cL_waits 134 = .ok (.if_icmp .gt 20, 3) := by decide +kernel
theorem dL_waits_137 : decode cL_waits 137 = .ok (.aload_n 0, 1) := by decide +kernel
theorem dL_waits_138 : decode cL_waits 138 = .ok (.bipush 10, 2) := by decide +kernel
theorem dL_waits_140 : decode cL_waits 140 = .ok (.invokevirtual 10, 3) := by decide +kernel
theorem dL_waits_143 : decode cL_waits 143 = .ok (.ifCond .ne 15, 3) := by decide +kernel
theorem dL_waits_146 : decode cL_waits 146 = .ok (.aload_n 0, 1) := by decide +kernel
theorem dL_waits_147 : decode cL_waits 147 = .ok (.iconst 2, 1) := by decide +kernel
theorem dL_waits_148 : decode cL_waits 148 = .ok (.invokevirtual 10, 3) := by decide +kernel
theorem dL_waits_151 : decode cL_waits 151 = .ok (.ifCond .ne 7, 3) := by decide +kernel
theorem dL_waits_154 : decode cL_waits 154 = .ok (.iconst 1, 1) := by decide +kernel
theorem dL_waits_155 : decode cL_waits 155 = .ok (.goto 4, 3) := by decide +kernel
theorem dL_waits_158 : decode cL_waits 158 = .ok (.iconst 0, 1) := by decide +kernel
theorem dL_waits_159 : decode cL_waits 159 = .ok (.istore 11, 2) := by decide +kernel
theorem dL_waits_161 : decode cL_waits 161 = .ok (.iload 11, 2) := by decide +kernel
theorem dL_waits_163 : decode cL_waits 163 = .ok (.ifCond .eq 31, 3) := by decide +kernel
theorem dL_waits_166 : decode cL_waits 166 = .ok (.aload_n 0, 1) := by decide +kernel
theorem dL_waits_167 : decode cL_waits 167 = .ok (.invokestatic 74, 3) := by decide +kernel
theorem dL_waits_170 : decode cL_waits 170 = .ok (.ifCond .eq 24, 3) := by decide +kernel
theorem dL_waits_173 : decode cL_waits 173 = .ok (.aload_n 0, 1) := by decide +kernel
theorem dL_waits_174 : decode cL_waits 174 = .ok (.invokevirtual 61, 3) := by decide +kernel
theorem dL_waits_177 : decode cL_waits 177 = .ok (.ifCond .lt 17, 3) := by decide +kernel
theorem dL_waits_180 : decode cL_waits 180 = .ok (.aload_n 0, 1) := by decide +kernel
theorem dL_waits_181 : decode cL_waits 181 = .ok (.invokestatic 67, 3) := by decide +kernel
theorem dL_waits_184 : decode cL_waits 184 = .ok (.lload 8, 2) := by decide +kernel
theorem dL_waits_186 : decode cL_waits 186 = .ok (.lcmp, 1) := by decide +kernel
theorem dL_waits_187 : decode cL_waits 187 = .ok (.ifCond .ne 7, 3) := by decide +kernel
theorem dL_waits_190 : decode cL_waits 190 = .ok (.iconst 1, 1) := by decide +kernel
theorem dL_waits_191 : decode cL_waits 191 = .ok (.goto 4, 3) := by decide +kernel
theorem dL_waits_194 : decode cL_waits 194 = .ok (.iconst 0, 1) := by decide +kernel
theorem dL_waits_195 : decode cL_waits 195 = .ok (.ireturn, 1) := by decide +kernel
theorem dL_act_0 : decode cL_act 0 = .ok (.iload_n 1, 1) := by decide +kernel
theorem dL_act_1 : decode cL_act 1 = .ok (.iconst 4, 1) := by decide +kernel
theorem dL_act_2 : decode cL_act 2 = .ok (.ishr, 1) := by decide +kernel
theorem dL_act_3 : decode cL_act 3 = .ok (.iconst 4, 1) := by decide +kernel
theorem dL_act_4 : decode cL_act 4 = .ok (.invokestatic 78, 3) := by decide +kernel
theorem dL_act_7 : decode cL_act 7 = .ok (.istore_n 3, 1) := by decide +kernel
theorem dL_act_8 : decode cL_act 8 = .ok (.iload_n 1, 1) := by decide +kernel
theorem dL_act_9 : decode cL_act 9 = .ok (.bipush 7, 2) := by decide +kernel
theorem dL_act_11 : decode cL_act 11 = .ok (.ishr, 1) := by decide +kernel
theorem dL_act_12 : decode cL_act 12 = .ok (.bipush 6, 2) := by decide +kernel
theorem dL_act_14 : decode cL_act 14 = .ok (.invokestatic 78, 3) := by decide +kernel
theorem dL_act_17 : decode cL_act 17 = .ok (.ifCond .ne 15, 3) := by decide +kernel
theorem dL_act_20 : decode cL_act 20 = .ok (.iload_n 2, 1) := by decide +kernel
theorem dL_act_21 : decode cL_act 21 = .ok (.bipush 31, 2) := by decide +kernel
theorem dL_act_23 : decode cL_act 23 = .ok (.invokestatic 78, 3) := by decide +kernel
theorem dL_act_26 : decode cL_act 26 = .ok (.bipush 15, 2) := by decide +kernel
theorem dL_act_28 : decode cL_act 28 = .ok (.isub, 1) := by decide +kernel
theorem dL_act_29 : decode cL_act 29 = .ok (.goto 11, 3) := by decide +kernel
theorem dL_act_32 : decode cL_act 32 = .ok (.iload_n 2, 1) := by decide +kernel
theorem dL_act_33 : decode cL_act 33 = .ok (.bipush 8, 2) := by decide +kernel
theorem dL_act_35 : decode cL_act 35 = .ok (.invokestatic 78, 3) := by decide +kernel
theorem dL_act_38 : decode cL_act 38 = .ok (.iconst 4, 1) := by decide +kernel
theorem dL_act_39 : decode cL_act 39 = .ok (.isub, 1) := by decide +kernel
theorem dL_act_40 : decode cL_act 40 = .ok (.istore 4, 2) := by decide +kernel
theorem dL_act_42 : decode cL_act 42 = .ok (.iload_n 1, 1) := by decide +kernel
theorem dL_act_43 : decode cL_act 43 = .ok (.bipush 14, 2) := by decide +kernel
theorem dL_act_45 : decode cL_act 45 = .ok (.invokestatic 78, 3) := by decide +kernel
theorem dL_act_48 : decode cL_act 48 = .ok (.tableswitch 175 0 6 #[44, 55, 127, 133, 145, 145, 163], 44) := by decide +kernel
theorem dL_act_92 : decode cL_act 92 = .ok (.aload_n 0, 1) := by decide +kernel
theorem dL_act_93 : decode cL_act 93 = .ok (.iload_n 2, 1) := by decide +kernel
theorem dL_act_94 : decode cL_act 94 = .ok (.bipush 16, 2) := by decide +kernel
theorem dL_act_96 : decode cL_act 96 = .ok (.invokestatic 78, 3) := by decide +kernel
theorem dL_act_99 : decode cL_act 99 = .ok (.invokevirtual 81, 3) := by decide +kernel
theorem dL_act_102 : decode cL_act 102 = .ok (.ireturn, 1) := by decide +kernel
theorem dL_act_103 : decode cL_act 103 = .ok (.iload_n 1, 1) := by decide +kernel
theorem dL_act_104 : decode cL_act 104 = .ok (.iconst 4, 1) := by decide +kernel
theorem dL_act_105 : decode cL_act 105 = .ok (.ishr, 1) := by decide +kernel
theorem dL_act_106 : decode cL_act 106 = .ok (.iconst 4, 1) := by decide +kernel
theorem dL_act_107 : decode cL_act 107 = .ok (.invokestatic 78, 3) := by decide +kernel
theorem dL_act_110 : decode cL_act 110 = .ok (.istore 5, 2) := by decide +kernel
theorem dL_act_112 : decode cL_act 112 = .ok (.aload_n 0, 1) := by decide +kernel
theorem dL_act_113 : decode cL_act 113 = .ok (.iload 5, 2) := by decide +kernel
theorem dL_act_115 : decode cL_act 115 = .ok (.iload 5, 2) := by decide +kernel
theorem dL_act_117 : decode cL_act 117 = .ok (.ifCond .ne 14, 3) := by decide +kernel
theorem dL_act_120 : decode cL_act 120 = .ok (.iconst 1, 1) := by decide +kernel
theorem dL_act_121 : decode cL_act 121 = .ok (.iload_n 2, 1) := by decide +kernel
theorem dL_act_122 : decode cL_act 122 = .ok (.bipush 8, 2) := by decide +kernel
theorem dL_act_124 : decode cL_act 124 = .ok (.invokestatic 78, 3) := by decide +kernel
theorem dL_act_127 : decode cL_act 127 = .ok (.iadd, 1) := by decide +kernel
theorem dL_act_128 : decode cL_act 128 = .ok (.goto 43, 3) := by decide +kernel
theorem dL_act_131 : decode cL_act 131 = .ok (.iload 5, 2) := by decide +kernel
theorem dL_act_133 : decode cL_act 133 = .ok (.iconst 1, 1) := by decide +kernel
theorem dL_act_134 : decode cL_act 134 = .ok (.if_icmp .ne 12, 3) := by decide +kernel
theorem dL_act_137 : decode cL_act 137 = .ok (.iload_n 2, 1) := by decide +kernel
theorem dL_act_138 : decode cL_act 138 = .ok (.bipush 16, 2) := by decide +kernel
theorem dL_act_140 : decode cL_act 140 = .ok (.invokestatic 78, 3) := by decide +kernel
theorem dL_act_143 : decode cL_act 143 = .ok (.goto 28, 3) := by decide +kernel
theorem dL_act_146 : decode cL_act 146 = .ok (.iload 5, 2) := by decide +kernel
theorem dL_act_148 : decode cL_act 148 = .ok (.iconst 2, 1) := by decide +kernel
theorem dL_act_149 : decode cL_act 149 = .ok (.if_icmp .ne 14, 3) := by decide +kernel
theorem dL_act_152 : decode cL_act 152 = .ok (.iconst 1, 1) := by decide +kernel
theorem dL_act_153 : decode cL_act 153 = .ok (.iload_n 2, 1) := by decide +kernel
theorem dL_act_154 : decode cL_act 154 = .ok (.bipush 12, 2) := by decide +kernel
theorem dL_act_156 : decode cL_act 156 = .ok (.invokestatic 78, 3) := by decide +kernel
theorem dL_act_159 : decode cL_act 159 = .ok (.iadd, 1) := by decide +kernel
theorem dL_act_160 : decode cL_act 160 = .ok (.goto 11, 3) := by decide +kernel
theorem dL_act_163 : decode cL_act 163 = .ok (.iconst 2, 1) := by decide +kernel
theorem dL_act_164 : decode cL_act 164 = .ok (.iload_n 2, 1) := by decide +kernel
theorem dL_act_165 : decode cL_act 165 = .ok (.bipush 59, 2) := by decide +kernel
theorem dL_act_167 : decode cL_act 167 = .ok (.invokestatic 78, 3) := by decide +kernel
theorem dL_act_170 : decode cL_act 170 = .ok (.iadd, 1) := by decide +kernel
theorem dL_act_171 : decode cL_act 171 = .ok (.invokevirtual 84, 3) := by decide +kernel
theorem dL_act_174 : decode cL_act 174 = .ok (.ireturn, 1) := by decide +kernel
theorem dL_act_175 : decode cL_act 175 = .ok (.aload_n 0, 1) := by decide +kernel
theorem dL_act_176 : decode cL_act 176 = .ok (.iload_n 3, 1) := by decide +kernel
theorem dL_act_177 : decode cL_act 177 = .ok (.invokevirtual 87, 3) := by decide +kernel
theorem dL_act_180 : decode cL_act 180 = .ok (.ireturn, 1) := by decide +kernel
theorem dL_act_181 : decode cL_act 181 = .ok (.aload_n 0, 1) := by decide +kernel
theorem dL_act_182 : decode cL_act 182 = .ok (.iload_n 2, 1) := by decide +kernel
theorem dL_act_183 : decode cL_act 183 = .ok (.bipush 15, 2) := by decide +kernel
theorem dL_act_185 : decode cL_act 185 = .ok (.invokestatic 78, 3) := by decide +kernel
theorem dL_act_188 : decode cL_act 188 = .ok (.iload_n 3, 1) := by decide +kernel
theorem dL_act_189 : decode cL_act 189 = .ok (.invokevirtual 90, 3) := by decide +kernel
theorem dL_act_192 : decode cL_act 192 = .ok (.ireturn, 1) := by decide +kernel
theorem dL_act_193 : decode cL_act 193 = .ok (.aload_n 0, 1) := by decide +kernel
theorem dL_act_194 : decode cL_act 194 = .ok (.iconst 1, 1) := by decide +kernel
theorem dL_act_195 : decode cL_act 195 = .ok (.iload_n 2, 1) := by decide +kernel
theorem dL_act_196 : decode cL_act 196 = .ok (.iconst 4, 1) := by decide +kernel
theorem dL_act_197 : decode cL_act 197 = .ok (.ishr, 1) := by decide +kernel
theorem dL_act_198 : decode cL_act 198 = .ok (.bipush 8, 2) := by decide +kernel
theorem dL_act_200 : decode cL_act 200 = .ok (.invokestatic 78, 3) := by decide +kernel
theorem dL_act_203 : decode cL_act 203 = .ok (.iadd, 1) := by decide +kernel
theorem dL_act_204 : decode cL_act 204 = .ok (.iload_n 3, 1) := by decide +kernel
theorem dL_act_205 : decode cL_act 205 = .ok (.iload 4, 2) := by decide +kernel
theorem dL_act_207 : decode cL_act 207 = .ok (.invokevirtual 93, 3) := by decide +kernel
theorem dL_act_210 : decode cL_act 210 = .ok (.ireturn, 1) := by decide +kernel
theorem dL_act_211 : decode cL_act 211 = .ok (.aload_n 0, 1) := by decide +kernel
theorem dL_act_212 : decode cL_act 212 = .ok (.iconst 1, 1) := by decide +kernel
theorem dL_act_213 : decode cL_act 213 = .ok (.iload_n 2, 1) := by decide +kernel
theorem dL_act_214 : decode cL_act 214 = .ok (.iconst 4, 1) := by decide +kernel
theorem dL_act_215 : decode cL_act 215 = .ok (.invokestatic 78, 3) := by decide +kernel
theorem dL_act_218 : decode cL_act 218 = .ok (.iadd, 1) := by decide +kernel
theorem dL_act_219 : decode cL_act 219 = .ok (.invokevirtual 71, 3) := by decide +kernel
theorem dL_act_222 : decode cL_act 222 = .ok (.ireturn, 1) := by decide +kernel
theorem dL_act_223 : decode cL_act 223 = .ok (.aload_n 0, 1) := by decide +kernel
theorem dL_act_224 : decode cL_act 224 = .ok (.iload_n 3, 1) := by decide +kernel
theorem dL_act_225 : decode cL_act 225 = .ok (.iload 4, 2) := by decide +kernel
theorem dL_act_227 : decode cL_act 227 = .ok (.invokevirtual 58, 3) := by decide +kernel
theorem dL_act_230 : decode cL_act 230 = .ok (.ireturn, 1) := by decide +kernel
theorem dL_law_0 : decode cL_law 0 = .ok (.new 11, 3) := by decide +kernel
theorem dL_law_3 : decode cL_law 3 = .ok (.dup, 1) := by decide +kernel
theorem dL_law_4 : decode cL_law 4 = .ok (.invokespecial 96, 3) := by decide +kernel
theorem dL_law_7 : decode cL_law 7 = .ok (.astore_n 1, 1) := by decide +kernel
theorem dL_law_8 : decode cL_law 8 = .ok (.aload_n 1, 1) := by decide +kernel
theorem dL_law_9 : decode cL_law 9 = .ok (.aload_n 0, 1) := by decide +kernel
theorem dL_law_10 : decode cL_law 10 = .ok (.iconst 0, 1) := by decide +kernel
theorem dL_law_11 : decode cL_law 11 = .ok (.invokestatic 97, 3) := by decide +kernel
theorem dL_law_14 : decode cL_law 14 = .ok (.bipush 16, 2) := by decide +kernel
theorem dL_law_16 : decode cL_law 16 = .ok (.invokestatic 78, 3) := by decide +kernel
theorem dL_law_19 : decode cL_law 19 = .ok (.invokevirtual 81, 3) := by decide +kernel
theorem dL_law_22 : decode cL_law 22 = .ok (.ifCond .ne 43, 3) := by decide +kernel
theorem dL_law_25 : decode cL_law 25 = .ok (.aload_n 1, 1) := by decide +kernel
theorem dL_law_26 : decode cL_law 26 = .ok (.aload_n 0, 1) := by decide +kernel
theorem dL_law_27 : decode cL_law 27 = .ok (.iconst 1, 1) := by decide +kernel
theorem dL_law_28 : decode cL_law 28 = .ok (.invokestatic 97, 3) := by decide +kernel
theorem dL_law_31 : decode cL_law 31 = .ok (.bipush 16, 2) := by decide +kernel
theorem dL_law_33 : decode cL_law 33 = .ok (.invokestatic 78, 3) := by decide +kernel
theorem dL_law_36 : decode cL_law 36 = .ok (.invokevirtual 81, 3) := by decide +kernel
theorem dL_law_39 : decode cL_law 39 = .ok (.iconst 1, 1) := by decide +kernel
theorem dL_law_40 : decode cL_law 40 = .ok (.if_icmp .ne 25, 3) := by decide +kernel
theorem dL_law_43 : decode cL_law 43 = .ok (.aload_n 1, 1) := by decide +kernel
theorem dL_law_44 : decode cL_law 44 = .ok (.aload_n 0, 1) := by decide +kernel
theorem dL_law_45 : decode cL_law 45 = .ok (.iconst 2, 1) := by decide +kernel
theorem dL_law_46 : decode cL_law 46 = .ok (.invokestatic 97, 3) := by decide +kernel
theorem dL_law_49 : decode cL_law 49 = .ok (.bipush 16, 2) := by decide +kernel
theorem dL_law_51 : decode cL_law 51 = .ok (.invokestatic 78, 3) := by decide +kernel
theorem dL_law_54 : decode cL_law 54 = .ok (.invokevirtual 81, 3) := by decide +kernel
theorem dL_law_57 : decode cL_law 57 = .ok (.iconst 2, 1) := by decide +kernel
theorem dL_law_58 : decode cL_law 58 = .ok (.if_icmp .ne 7, 3) := by decide +kernel
theorem dL_law_61 : decode cL_law 61 = .ok (.iconst 1, 1) := by decide +kernel
theorem dL_law_62 : decode cL_law 62 = .ok (.goto 4, 3) := by decide +kernel
theorem dL_law_65 : decode cL_law 65 = .ok (.iconst 0, 1) := by decide +kernel
theorem dL_law_66 : decode cL_law 66 = .ok (.istore_n 2, 1) := by decide +kernel
theorem dL_law_67 : decode cL_law 67 = .ok (.iconst 0, 1) := by decide +kernel
theorem dL_law_68 : decode cL_law 68 = .ok (.istore_n 3, 1) := by decide +kernel
theorem dL_law_69 : decode cL_law 69 = .ok (.iload_n 3, 1) := by decide +kernel
theorem dL_law_70 : decode cL_law 70 = .ok (.bipush 32, 2) := by decide +kernel
theorem dL_law_72 : decode cL_law 72 = .ok (.if_icmp .ge 302, 3) := by decide +kernel
theorem dL_law_75 : decode cL_law 75 = .ok (.iload_n 2, 1) := by decide +kernel
theorem dL_law_76 : decode cL_law 76 = .ok (.ifCond .eq 298, 3) := by decide +kernel
theorem dL_law_79 : decode cL_law 79 = .ok (.aload_n 0, 1) := by decide +kernel
theorem dL_law_80 : decode cL_law 80 = .ok (.iconst 3, 1) := by decide +kernel
theorem dL_law_81 : decode cL_law 81 = .ok (.iconst 2, 1) := by decide +kernel
theorem dL_law_82 : decode cL_law 82 = .ok (.iload_n 3, 1) := by decide +kernel
theorem dL_law_83 : decode cL_law 83 = .ok (.imul, 1) := by decide +kernel
theorem dL_law_84 : decode cL_law 84 = .ok (.iadd, 1) := by decide +kernel
theorem dL_law_85 : decode cL_law 85 = .ok (.invokestatic 97, 3) := by decide +kernel
theorem dL_law_88 : decode cL_law 88 = .ok (.istore 4, 2) := by decide +kernel
theorem dL_law_90 : decode cL_law 90 = .ok (.aload_n 0, 1) := by decide +kernel
theorem dL_law_91 : decode cL_law 91 = .ok (.iconst 4, 1) := by decide +kernel
theorem dL_law_92 : decode cL_law 92 = .ok (.iconst 2, 1) := by decide +kernel
theorem dL_law_93 : decode cL_law 93 = .ok (.iload_n 3, 1) := by decide +kernel
theorem dL_law_94 : decode cL_law 94 = .ok (.imul, 1) := by decide +kernel
theorem dL_law_95 : decode cL_law 95 = .ok (.iadd, 1) := by decide +kernel
theorem dL_law_96 : decode cL_law 96 = .ok (.invokestatic 97, 3) := by decide +kernel
theorem dL_law_99 : decode cL_law 99 = .ok (.istore 5, 2) := by decide +kernel
theorem dL_law_101 : decode cL_law 101 = .ok (.aload_n 1, 1) := by decide +kernel
theorem dL_law_102 : decode cL_law 102 = .ok (.bipush 16, 2) := by decide +kernel
theorem dL_law_104 : decode cL_law 104 = .ok (.invokevirtual 10, 3) := by decide +kernel
theorem dL_law_107 : decode cL_law 107 = .ok (.istore 6, 2) := by decide +kernel
theorem dL_law_109 : decode cL_law 109 = .ok (.aload_n 1, 1) := by decide +kernel
theorem dL_law_110 : decode cL_law 110 = .ok (.invokestatic 67, 3) := by decide +kernel
theorem dL_law_113 : decode cL_law 113 = .ok (.lstore 7, 2) := by decide +kernel
theorem dL_law_115 : decode cL_law 115 = .ok (.aload_n 1, 1) := by decide +kernel
theorem dL_law_116 : decode cL_law 116 = .ok (.iload 4, 2) := by decide +kernel
theorem dL_law_118 : decode cL_law 118 = .ok (.iload 5, 2) := by decide +kernel
theorem dL_law_120 : decode cL_law 120 = .ok (.invokestatic 101, 3) := by decide +kernel
theorem dL_law_123 : decode cL_law 123 = .ok (.istore 9, 2) := by decide +kernel
theorem dL_law_125 : decode cL_law 125 = .ok (.iload 9, 2) := by decide +kernel
theorem dL_law_127 : decode cL_law 127 = .ok (.ifCond .ge 33, 3) := by decide +kernel
theorem dL_law_130 : decode cL_law 130 = .ok (.aload_n 1, 1) := by decide +kernel
theorem dL_law_131 : decode cL_law 131 = .ok (.bipush 16, 2) := by decide +kernel
theorem dL_law_133 : decode cL_law 133 = .ok (.invokevirtual 10, 3) := by decide +kernel
theorem dL_law_136 : decode cL_law 136 = .ok (.iload 6, 2) := by decide +kernel
theorem dL_law_138 : decode cL_law 138 = .ok (.if_icmp .ne 17, 3) := by decide +kernel
theorem dL_law_141 : decode cL_law 141 = .ok (.aload_n 1, 1) := by decide +kernel
theorem dL_law_142 : decode cL_law 142 = .ok (.invokestatic 67, 3) := by decide +kernel
theorem dL_law_145 : decode cL_law 145 = .ok (.lload 7, 2) := by decide +kernel
theorem dL_law_147 : decode cL_law 147 = .ok (.lcmp, 1) := by decide +kernel
theorem dL_law_148 : decode cL_law 148 = .ok (.ifCond .ne 7, 3) := by decide +kernel
theorem dL_law_151 : decode cL_law 151 = .ok (.iconst 1, 1) := by decide +kernel
theorem dL_law_152 : decode cL_law 152 = .ok (.goto 4, 3) := by decide +kernel
theorem dL_law_155 : decode cL_law 155 = .ok (.iconst 0, 1) := by decide +kernel
theorem dL_law_156 : decode cL_law 156 = .ok (.istore_n 2, 1) := by decide +kernel
theorem dL_law_157 : decode cL_law 157 = .ok (.goto 95, 3) := by decide +kernel
theorem dL_law_160 : decode cL_law 160 = .ok (.aload_n 1, 1) := by decide +kernel
theorem dL_law_161 : decode cL_law 161 = .ok (.bipush 16, 2) := by decide +kernel
theorem dL_law_163 : decode cL_law 163 = .ok (.invokevirtual 10, 3) := by decide +kernel
theorem dL_law_166 : decode cL_law 166 = .ok (.iload 6, 2) := by decide +kernel
theorem dL_law_168 : decode cL_law 168 = .ok (.bipush 6, 2) := by decide +kernel
theorem dL_law_170 : decode cL_law 170 = .ok (.if_icmp .ge 10, 3) := by decide +kernel
theorem dL_law_173 : decode cL_law 173 = .ok (.iload 6, 2) := by decide +kernel
theorem dL_law_175 : decode cL_law 175 = .ok (.iconst 1, 1) := by decide +kernel
theorem dL_law_176 : decode cL_law 176 = .ok (.iadd, 1) := by decide +kernel
theorem dL_law_177 : decode cL_law 177 = .ok (.goto 5, 3) := by decide +kernel
theorem dL_law_180 : decode cL_law 180 = .ok (.bipush 6, 2) := by decide +kernel
theorem dL_law_182 : decode cL_law 182 = .ok (.if_icmp .ne 7, 3) := by decide +kernel
theorem dL_law_185 : decode cL_law 185 = .ok (.iconst 1, 1) := by decide +kernel
theorem dL_law_186 : decode cL_law 186 = .ok (.goto 4, 3) := by decide +kernel
theorem dL_law_189 : decode cL_law 189 = .ok (.iconst 0, 1) := by decide +kernel
theorem dL_law_190 : decode cL_law 190 = .ok (.istore_n 2, 1) := by decide +kernel
theorem dL_law_191 : decode cL_law 191 = .ok (.iload_n 2, 1) := by decide +kernel
theorem dL_law_192 : decode cL_law 192 = .ok (.ifCond .eq 60, 3) := by decide +kernel
theorem dL_law_195 : decode cL_law 195 = .ok (.iload 6, 2) := by decide +kernel
theorem dL_law_197 : decode cL_law 197 = .ok (.bipush 6, 2) := by decide +kernel
theorem dL_law_199 : decode cL_law 199 = .ok (.if_icmp .ge 53, 3) := by decide +kernel
theorem dL_law_202 : decode cL_law 202 = .ok (.iload 4, 2) := by decide +kernel
theorem dL_law_204 : decode cL_law 204 = .ok (.bipush 9, 2) := by decide +kernel
theorem dL_law_206 : decode cL_law 206 = .ok (.ishr, 1) := by decide +kernel
theorem dL_law_207 : decode cL_law 207 = .ok (.iconst 3, 1) := by decide +kernel
theorem dL_law_208 : decode cL_law 208 = .ok (.invokestatic 78, 3) := by decide +kernel
theorem dL_law_211 : decode cL_law 211 = .ok (.ifCond .ne 41, 3) := by decide +kernel
theorem dL_law_214 : decode cL_law 214 = .ok (.aload_n 1, 1) := by decide +kernel
theorem dL_law_215 : decode cL_law 215 = .ok (.invokevirtual 61, 3) := by decide +kernel
theorem dL_law_218 : decode cL_law 218 = .ok (.iload 6, 2) := by decide +kernel
theorem dL_law_220 : decode cL_law 220 = .ok (.if_icmp .ne 30, 3) := by decide +kernel
theorem dL_law_223 : decode cL_law 223 = .ok (.aload_n 1, 1) := by decide +kernel
theorem dL_law_224 : decode cL_law 224 = .ok (.invokestatic 67, 3) := by decide +kernel
theorem dL_law_227 : decode cL_law 227 = .ok (.lload 7, 2) := by decide +kernel
theorem dL_law_229 : decode cL_law 229 = .ok (.lcmp, 1) := by decide +kernel
theorem dL_law_230 : decode cL_law 230 = .ok (.ifCond .ne 20, 3) := by decide +kernel
theorem dL_law_233 : decode cL_law 233 = .ok (.aload_n 1, 1) := by decide +kernel
theorem dL_law_234 : decode cL_law 234 = .ok (.iload 4, 2) := by decide +kernel
theorem dL_law_236 : decode cL_law 236 = .ok (.iload 5, 2) := by decide +kernel
theorem dL_law_238 : decode cL_law 238 = .ok (.invokestatic 101, 3) := by decide +kernel
theorem dL_law_241 : decode cL_law 241 = .ok (.iload 9, 2) := by decide +kernel
theorem dL_law_243 : decode cL_law 243 = .ok (.if_icmp .ne 7, 3) := by decide +kernel
theorem dL_law_246 : decode cL_law 246 = .ok (.iconst 1, 1) := by decide +kernel
theorem dL_law_247 : decode cL_law 247 = .ok (.goto 4, 3) := by decide +kernel
theorem dL_law_250 : decode cL_law 250 = .ok (.iconst 0, 1) := by decide +kernel
theorem dL_law_251 : decode cL_law 251 = .ok (.istore_n 2, 1) := by decide +kernel
theorem dL_law_252 : decode cL_law 252 = .ok (.iconst 1, 1) := by decide +kernel
theorem dL_law_253 : decode cL_law 253 = .ok (.iload 5, 2) := by decide +kernel
theorem dL_law_255 : decode cL_law 255 = .ok (.iconst 5, 1) := by decide +kernel
theorem dL_law_256 : decode cL_law 256 = .ok (.ishr, 1) := by decide +kernel
theorem dL_law_257 : decode cL_law 257 = .ok (.bipush 6, 2) := by decide +kernel
theorem dL_law_259 : decode cL_law 259 = .ok (.invokestatic 78, 3) := by decide +kernel
theorem dL_law_262 : decode cL_law 262 = .ok (.iadd, 1) := by decide +kernel
theorem dL_law_263 : decode cL_law 263 = .ok (.istore 10, 2) := by decide +kernel
theorem dL_law_265 : decode cL_law 265 = .ok (.iload_n 2, 1) := by decide +kernel
theorem dL_law_266 : decode cL_law 266 = .ok (.ifCond .eq 100, 3) := by decide +kernel
theorem dL_law_269 : decode cL_law 269 = .ok (.aload_n 1, 1) := by decide +kernel
theorem dL_law_270 : decode cL_law 270 = .ok (.iload 4, 2) := by decide +kernel
theorem dL_law_272 : decode cL_law 272 = .ok (.bipush 6, 2) := by decide +kernel
theorem dL_law_274 : decode cL_law 274 = .ok (.ishr, 1) := by decide +kernel
theorem dL_law_275 : decode cL_law 275 = .ok (.iconst 3, 1) := by decide +kernel
theorem dL_law_276 : decode cL_law 276 = .ok (.invokestatic 78, 3) := by decide +kernel
theorem dL_law_279 : decode cL_law 279 = .ok (.iload 5, 2) := by decide +kernel
theorem dL_law_281 : decode cL_law 281 = .ok (.iconst 2, 1) := by decide +kernel
theorem dL_law_282 : decode cL_law 282 = .ok (.invokestatic 78, 3) := by decide +kernel
theorem dL_law_285 : decode cL_law 285 = .ok (.ifCond .ne 8, 3) := by decide +kernel
theorem dL_law_288 : decode cL_law 288 = .ok (.iload 10, 2) := by decide +kernel
theorem dL_law_290 : decode cL_law 290 = .ok (.goto 6, 3) := by decide +kernel
theorem dL_law_293 : decode cL_law 293 = .ok (.iload 10, 2) := by decide +kernel
theorem dL_law_295 : decode cL_law 295 = .ok (.ineg, 1) := by decide +kernel
theorem dL_law_296 : decode cL_law 296 = .ok (.invokestatic 105, 3) := by decide +kernel
theorem dL_law_299 : decode cL_law 299 = .ok (.ifCond .eq 67, 3) := by decide +kernel
theorem dL_law_302 : decode cL_law 302 = .ok (.iload_n 3, 1) := by decide +kernel
theorem dL_law_303 : decode cL_law 303 = .ok (.iconst 3, 1) := by decide +kernel
theorem dL_law_304 : decode cL_law 304 = .ok (.irem, 1) := by decide +kernel
theorem dL_law_305 : decode cL_law 305 = .ok (.ifCond .gt 24, 3) := by decide +kernel
theorem dL_law_308 : decode cL_law 308 = .ok (.aload_n 1, 1) := by decide +kernel
theorem dL_law_309 : decode cL_law 309 = .ok (.invokestatic 74, 3) := by decide +kernel
theorem dL_law_312 : decode cL_law 312 = .ok (.ifCond .eq 54, 3) := by decide +kernel
theorem dL_law_315 : decode cL_law 315 = .ok (.aload_n 1, 1) := by decide +kernel
theorem dL_law_316 : decode cL_law 316 = .ok (.invokestatic 109, 3) := by decide +kernel
theorem dL_law_319 : decode cL_law 319 = .ok (.ifCond .eq 47, 3) := by decide +kernel
theorem dL_law_322 : decode cL_law 322 = .ok (.aload_n 1, 1) := by decide +kernel
theorem dL_law_323 : decode cL_law 323 = .ok (.invokestatic 112, 3) := by decide +kernel
theorem dL_law_326 : decode cL_law 326 = .ok (.ifCond .eq 40, 3) := by decide +kernel
theorem dL_law_329 : decode cL_law 329 = .ok (.iload_n 3, 1) := by decide +kernel
theorem dL_law_330 : decode cL_law 330 = .ok (.iconst 5, 1) := by decide +kernel
theorem dL_law_331 : decode cL_law 331 = .ok (.irem, 1) := by decide +kernel
theorem dL_law_332 : decode cL_law 332 = .ok (.ifCond .gt 30, 3) := by decide +kernel
theorem dL_law_335 : decode cL_law 335 = .ok (.aload_n 1, 1) := by decide +kernel
theorem dL_law_336 : decode cL_law 336 = .ok (.iload 4, 2) := by decide +kernel
theorem dL_law_338 : decode cL_law 338 = .ok (.bipush 8, 2) := by decide +kernel
theorem dL_law_340 : decode cL_law 340 = .ok (.ishr, 1) := by decide +kernel
theorem dL_law_341 : decode cL_law 341 = .ok (.iconst 3, 1) := by decide +kernel
theorem dL_law_342 : decode cL_law 342 = .ok (.invokestatic 78, 3) := by decide +kernel
theorem dL_law_345 : decode cL_law 345 = .ok (.iconst 1, 1) := by decide +kernel
theorem dL_law_346 : decode cL_law 346 = .ok (.iload 5, 2) := by decide +kernel
theorem dL_law_348 : decode cL_law 348 = .ok (.iconst 2, 1) := by decide +kernel
theorem dL_law_349 : decode cL_law 349 = .ok (.ishr, 1) := by decide +kernel
theorem dL_law_350 : decode cL_law 350 = .ok (.bipush 12, 2) := by decide +kernel
theorem dL_law_352 : decode cL_law 352 = .ok (.invokestatic 78, 3) := by decide +kernel
theorem dL_law_355 : decode cL_law 355 = .ok (.iadd, 1) := by decide +kernel
theorem dL_law_356 : decode cL_law 356 = .ok (.invokestatic 115, 3) := by decide +kernel
theorem dL_law_359 : decode cL_law 359 = .ok (.ifCond .eq 7, 3) := by decide +kernel
theorem dL_law_362 : decode cL_law 362 = .ok (.iconst 1, 1) := by decide +kernel
theorem dL_law_363 : decode cL_law 363 = .ok (.goto 4, 3) := by decide +kernel
theorem dL_law_366 : decode cL_law 366 = .ok (.iconst 0, 1) := by decide +kernel
theorem dL_law_367 : decode cL_law 367 = .ok (.istore_n 2, 1) := by decide +kernel
theorem dL_law_368 : decode cL_law 368 = .ok (.iinc 3 1, 3) := by decide +kernel
theorem dL_law_371 : decode cL_law 371 = .ok (.goto (-302), 3) := by decide +kernel
theorem dL_law_374 : decode cL_law 374 = .ok (.iload_n 2, 1) := by decide +kernel
theorem dL_law_375 : decode cL_law 375 = .ok (.ifCond .eq 28, 3) := by decide +kernel
theorem dL_law_378 : decode cL_law 378 = .ok (.aload_n 1, 1) := by decide +kernel
theorem dL_law_379 : decode cL_law 379 = .ok (.invokestatic 74, 3) := by decide +kernel
theorem dL_law_382 : decode cL_law 382 = .ok (.ifCond .eq 21, 3) := by decide +kernel
theorem dL_law_385 : decode cL_law 385 = .ok (.aload_n 1, 1) := by decide +kernel
theorem dL_law_386 : decode cL_law 386 = .ok (.invokestatic 109, 3) := by decide +kernel
theorem dL_law_389 : decode cL_law 389 = .ok (.ifCond .eq 14, 3) := by decide +kernel
theorem dL_law_392 : decode cL_law 392 = .ok (.aload_n 1, 1) := by decide +kernel
theorem dL_law_393 : decode cL_law 393 = .ok (.invokestatic 112, 3) := by decide +kernel
theorem dL_law_396 : decode cL_law 396 = .ok (.ifCond .eq 7, 3) := by decide +kernel
theorem dL_law_399 : decode cL_law 399 = .ok (.iconst 1, 1) := by decide +kernel
theorem dL_law_400 : decode cL_law 400 = .ok (.goto 4, 3) := by decide +kernel
theorem dL_law_403 : decode cL_law 403 = .ok (.iconst 0, 1) := by decide +kernel
theorem dL_law_404 : decode cL_law 404 = .ok (.ireturn, 1) := by decide +kernel
