theorem dL_cell_0 : decode cL_cell 0 = .ok (.iload_n 1, 1) := by decide +kernel
theorem dL_cell_1 : decode cL_cell 1 = .ok (.aload_n 0, 1) := by decide +kernel
theorem dL_cell_2 : decode cL_cell 2 = .ok (.arraylength, 1) := by decide +kernel
theorem dL_cell_3 : decode cL_cell 3 = .ok (.if_icmp .ge 9, 3) := by decide +kernel
theorem dL_cell_6 : decode cL_cell 6 = .ok (.aload_n 0, 1) := by decide +kernel
theorem dL_cell_7 : decode cL_cell 7 = .ok (.iload_n 1, 1) := by decide +kernel
theorem dL_cell_8 : decode cL_cell 8 = .ok (.iaload, 1) := by decide +kernel
theorem dL_cell_9 : decode cL_cell 9 = .ok (.goto 10, 3) := by decide +kernel
theorem dL_cell_12 : decode cL_cell 12 = .ok (.ldc 7, 2) := by decide +kernel
theorem dL_cell_14 : decode cL_cell 14 = .ok (.iload_n 1, 1) := by decide +kernel
theorem dL_cell_15 : decode cL_cell 15 = .ok (.imul, 1) := by decide +kernel
theorem dL_cell_16 : decode cL_cell 16 = .ok (.bipush 109, 2) := by decide +kernel
theorem dL_cell_18 : decode cL_cell 18 = .ok (.iadd, 1) := by decide +kernel
theorem dL_cell_19 : decode cL_cell 19 = .ok (.ldc 8, 2) := by decide +kernel
theorem dL_cell_21 : decode cL_cell 21 = .ok (.iand, 1) := by decide +kernel
theorem dL_cell_22 : decode cL_cell 22 = .ok (.ireturn, 1) := by decide +kernel
theorem dL_sign_0 : decode cL_sign 0 = .ok (.iload_n 0, 1) := by decide +kernel
theorem dL_sign_1 : decode cL_sign 1 = .ok (.bipush 9, 2) := by decide +kernel
theorem dL_sign_3 : decode cL_sign 3 = .ok (.idiv, 1) := by decide +kernel
theorem dL_sign_4 : decode cL_sign 4 = .ok (.istore_n 1, 1) := by decide +kernel
theorem dL_sign_5 : decode cL_sign 5 = .ok (.iload_n 0, 1) := by decide +kernel
theorem dL_sign_6 : decode cL_sign 6 = .ok (.bipush 9, 2) := by decide +kernel
theorem dL_sign_8 : decode cL_sign 8 = .ok (.irem, 1) := by decide +kernel
theorem dL_sign_9 : decode cL_sign 9 = .ok (.iconst 3, 1) := by decide +kernel
theorem dL_sign_10 : decode cL_sign 10 = .ok (.if_icmp .ge 8, 3) := by decide +kernel
theorem dL_sign_13 : decode cL_sign 13 = .ok (.bipush 32, 2) := by decide +kernel
theorem dL_sign_15 : decode cL_sign 15 = .ok (.goto 80, 3) := by decide +kernel
theorem dL_sign_18 : decode cL_sign 18 = .ok (.iload_n 0, 1) := by decide +kernel
theorem dL_sign_19 : decode cL_sign 19 = .ok (.bipush 9, 2) := by decide +kernel
theorem dL_sign_21 : decode cL_sign 21 = .ok (.irem, 1) := by decide +kernel
theorem dL_sign_22 : decode cL_sign 22 = .ok (.iconst 3, 1) := by decide +kernel
theorem dL_sign_23 : decode cL_sign 23 = .ok (.if_icmp .ne 8, 3) := by decide +kernel
theorem dL_sign_26 : decode cL_sign 26 = .ok (.bipush 33, 2) := by decide +kernel
theorem dL_sign_28 : decode cL_sign 28 = .ok (.goto 67, 3) := by decide +kernel
theorem dL_sign_31 : decode cL_sign 31 = .ok (.iload_n 0, 1) := by decide +kernel
theorem dL_sign_32 : decode cL_sign 32 = .ok (.bipush 9, 2) := by decide +kernel
theorem dL_sign_34 : decode cL_sign 34 = .ok (.irem, 1) := by decide +kernel
theorem dL_sign_35 : decode cL_sign 35 = .ok (.iconst 4, 1) := by decide +kernel
theorem dL_sign_36 : decode cL_sign 36 = .ok (.if_icmp .ne 14, 3) := by decide +kernel
theorem dL_sign_39 : decode cL_sign 39 = .ok (.iload_n 1, 1) := by decide +kernel
theorem dL_sign_40 : decode cL_sign 40 = .ok (.iconst 2, 1) := by decide +kernel
theorem dL_sign_41 : decode cL_sign 41 = .ok (.irem, 1) := by decide +kernel
theorem dL_sign_42 : decode cL_sign 42 = .ok (.ifCond .ne 8, 3) := by decide +kernel
theorem dL_sign_45 : decode cL_sign 45 = .ok (.bipush 124, 2) := by decide +kernel
theorem dL_sign_47 : decode cL_sign 47 = .ok (.goto 48, 3) := by decide +kernel
theorem dL_sign_50 : decode cL_sign 50 = .ok (.iload_n 0, 1) := by decide +kernel
theorem dL_sign_51 : decode cL_sign 51 = .ok (.bipush 9, 2) := by decide +kernel
theorem dL_sign_53 : decode cL_sign 53 = .ok (.irem, 1) := by decide +kernel
theorem dL_sign_54 : decode cL_sign 54 = .ok (.iconst 5, 1) := by decide +kernel
theorem dL_sign_55 : decode cL_sign 55 = .ok (.if_icmp .ne 14, 3) := by decide +kernel
theorem dL_sign_58 : decode cL_sign 58 = .ok (.iload_n 1, 1) := by decide +kernel
theorem dL_sign_59 : decode cL_sign 59 = .ok (.iconst 2, 1) := by decide +kernel
theorem dL_sign_60 : decode cL_sign 60 = .ok (.irem, 1) := by decide +kernel
theorem dL_sign_61 : decode cL_sign 61 = .ok (.ifCond .ne 8, 3) := by decide +kernel
theorem dL_sign_64 : decode cL_sign 64 = .ok (.bipush 59, 2) := by decide +kernel
theorem dL_sign_66 : decode cL_sign 66 = .ok (.goto 29, 3) := by decide +kernel
theorem dL_sign_69 : decode cL_sign 69 = .ok (.iload_n 0, 1) := by decide +kernel
theorem dL_sign_70 : decode cL_sign 70 = .ok (.bipush 9, 2) := by decide +kernel
theorem dL_sign_72 : decode cL_sign 72 = .ok (.irem, 1) := by decide +kernel
theorem dL_sign_73 : decode cL_sign 73 = .ok (.bipush 6, 2) := by decide +kernel
theorem dL_sign_75 : decode cL_sign 75 = .ok (.if_icmp .ne 13, 3) := by decide +kernel
theorem dL_sign_78 : decode cL_sign 78 = .ok (.bipush 48, 2) := by decide +kernel
theorem dL_sign_80 : decode cL_sign 80 = .ok (.iload_n 1, 1) := by decide +kernel
theorem dL_sign_81 : decode cL_sign 81 = .ok (.bipush 10, 2) := by decide +kernel
theorem dL_sign_83 : decode cL_sign 83 = .ok (.irem, 1) := by decide +kernel
theorem dL_sign_84 : decode cL_sign 84 = .ok (.iadd, 1) := by decide +kernel
theorem dL_sign_85 : decode cL_sign 85 = .ok (.goto 10, 3) := by decide +kernel
theorem dL_sign_88 : decode cL_sign 88 = .ok (.bipush 65, 2) := by decide +kernel
theorem dL_sign_90 : decode cL_sign 90 = .ok (.iload_n 1, 1) := by decide +kernel
theorem dL_sign_91 : decode cL_sign 91 = .ok (.bipush 26, 2) := by decide +kernel
theorem dL_sign_93 : decode cL_sign 93 = .ok (.irem, 1) := by decide +kernel
theorem dL_sign_94 : decode cL_sign 94 = .ok (.iadd, 1) := by decide +kernel
theorem dL_sign_95 : decode cL_sign 95 = .ok (.ireturn, 1) := by decide +kernel
theorem dL_holds_0 : decode cL_holds 0 = .ok (.aload_n 0, 1) := by decide +kernel
theorem dL_holds_1 : decode cL_holds 1 = .ok (.iconst 1, 1) := by decide +kernel
theorem dL_holds_2 : decode cL_holds 2 = .ok (.invokevirtual 9, 3) := by decide +kernel
theorem dL_holds_5 : decode cL_holds 5 = .ok (.istore_n 1, 1) := by decide +kernel
theorem dL_holds_6 : decode cL_holds 6 = .ok (.iconst 0, 1) := by decide +kernel
theorem dL_holds_7 : decode cL_holds 7 = .ok (.istore_n 2, 1) := by decide +kernel
theorem dL_holds_8 : decode cL_holds 8 = .ok (.iconst 0, 1) := by decide +kernel
theorem dL_holds_9 : decode cL_holds 9 = .ok (.istore_n 3, 1) := by decide +kernel
theorem dL_holds_10 : decode cL_holds 10 = .ok (.aload_n 0, 1) := by decide +kernel
theorem dL_holds_11 : decode cL_holds 11 = .ok (.iconst 2, 1) := by decide +kernel
theorem dL_holds_12 : decode cL_holds 12 = .ok (.invokevirtual 9, 3) := by decide +kernel
theorem dL_holds_15 : decode cL_holds 15 = .ok (.aload_n 0, 1) := by decide +kernel
theorem dL_holds_16 : decode cL_holds 16 = .ok (.iconst 3, 1) := by decide +kernel
theorem dL_holds_17 : decode cL_holds 17 = .ok (.invokevirtual 9, 3) := by decide +kernel
theorem dL_holds_20 : decode cL_holds 20 = .ok (.if_icmp .lt 28, 3) := by decide +kernel
theorem dL_holds_23 : decode cL_holds 23 = .ok (.aload_n 0, 1) := by decide +kernel
theorem dL_holds_24 : decode cL_holds 24 = .ok (.bipush 6, 2) := by decide +kernel
theorem dL_holds_26 : decode cL_holds 26 = .ok (.invokevirtual 9, 3) := by decide +kernel
theorem dL_holds_29 : decode cL_holds 29 = .ok (.iconst 5, 1) := by decide +kernel
theorem dL_holds_30 : decode cL_holds 30 = .ok (.if_icmp .gt 18, 3) := by decide +kernel
theorem dL_holds_33 : decode cL_holds 33 = .ok (.aload_n 0, 1) := by decide +kernel
theorem dL_holds_34 : decode cL_holds 34 = .ok (.bipush 7, 2) := by decide +kernel
theorem dL_holds_36 : decode cL_holds 36 = .ok (.invokevirtual 9, 3) := by decide +kernel
theorem dL_holds_39 : decode cL_holds 39 = .ok (.bipush 10, 2) := by decide +kernel
theorem dL_holds_41 : decode cL_holds 41 = .ok (.if_icmp .gt 7, 3) := by decide +kernel
theorem dL_holds_44 : decode cL_holds 44 = .ok (.iconst 1, 1) := by decide +kernel
theorem dL_holds_45 : decode cL_holds 45 = .ok (.goto 4, 3) := by decide +kernel
theorem dL_holds_48 : decode cL_holds 48 = .ok (.iconst 0, 1) := by decide +kernel
theorem dL_holds_49 : decode cL_holds 49 = .ok (.istore 4, 2) := by decide +kernel
theorem dL_holds_51 : decode cL_holds 51 = .ok (.iconst 0, 1) := by decide +kernel
theorem dL_holds_52 : decode cL_holds 52 = .ok (.istore 5, 2) := by decide +kernel
theorem dL_holds_54 : decode cL_holds 54 = .ok (.iload 5, 2) := by decide +kernel
theorem dL_holds_56 : decode cL_holds 56 = .ok (.iload_n 1, 1) := by decide +kernel
theorem dL_holds_57 : decode cL_holds 57 = .ok (.if_icmp .ge 272, 3) := by decide +kernel
theorem dL_holds_60 : decode cL_holds 60 = .ok (.iload 4, 2) := by decide +kernel
theorem dL_holds_62 : decode cL_holds 62 = .ok (.ifCond .eq 267, 3) := by decide +kernel
theorem dL_holds_65 : decode cL_holds 65 = .ok (.aload_n 0, 1) := by decide +kernel
theorem dL_holds_66 : decode cL_holds 66 = .ok (.iload 5, 2) := by decide +kernel
theorem dL_holds_68 : decode cL_holds 68 = .ok (.iconst 4, 1) := by decide +kernel
theorem dL_holds_69 : decode cL_holds 69 = .ok (.invokevirtual 15, 3) := by decide +kernel
theorem dL_holds_72 : decode cL_holds 72 = .ok (.istore 6, 2) := by decide +kernel
theorem dL_holds_74 : decode cL_holds 74 = .ok (.iload_n 2, 1) := by decide +kernel
theorem dL_holds_75 : decode cL_holds 75 = .ok (.aload_n 0, 1) := by decide +kernel
theorem dL_holds_76 : decode cL_holds 76 = .ok (.iload 5, 2) := by decide +kernel
theorem dL_holds_78 : decode cL_holds 78 = .ok (.bipush 8, 2) := by decide +kernel
theorem dL_holds_80 : decode cL_holds 80 = .ok (.invokevirtual 15, 3) := by decide +kernel
theorem dL_holds_83 : decode cL_holds 83 = .ok (.iadd, 1) := by decide +kernel
theorem dL_holds_84 : decode cL_holds 84 = .ok (.istore_n 2, 1) := by decide +kernel
theorem dL_holds_85 : decode cL_holds 85 = .ok (.iload_n 3, 1) := by decide +kernel
theorem dL_holds_86 : decode cL_holds 86 = .ok (.aload_n 0, 1) := by decide +kernel
theorem dL_holds_87 : decode cL_holds 87 = .ok (.iload 5, 2) := by decide +kernel
theorem dL_holds_89 : decode cL_holds 89 = .ok (.iconst 1, 1) := by decide +kernel
theorem dL_holds_90 : decode cL_holds 90 = .ok (.invokevirtual 15, 3) := by decide +kernel
theorem dL_holds_93 : decode cL_holds 93 = .ok (.iadd, 1) := by decide +kernel
theorem dL_holds_94 : decode cL_holds 94 = .ok (.istore_n 3, 1) := by decide +kernel
theorem dL_holds_95 : decode cL_holds 95 = .ok (.iload 6, 2) := by decide +kernel
theorem dL_holds_97 : decode cL_holds 97 = .ok (.iconst 3, 1) := by decide +kernel
theorem dL_holds_98 : decode cL_holds 98 = .ok (.if_icmp .ne 7, 3) := by decide +kernel
theorem dL_holds_101 : decode cL_holds 101 = .ok (.iconst 1, 1) := by decide +kernel
theorem dL_holds_102 : decode cL_holds 102 = .ok (.goto 4, 3) := by decide +kernel
theorem dL_holds_105 : decode cL_holds 105 = .ok (.iconst 0, 1) := by decide +kernel
theorem dL_holds_106 : decode cL_holds 106 = .ok (.aload_n 0, 1) := by decide +kernel
theorem dL_holds_107 : decode cL_holds 107 = .ok (.iload 5, 2) := by decide +kernel
theorem dL_holds_109 : decode cL_holds 109 = .ok (.bipush 8, 2) := by decide +kernel
theorem dL_holds_111 : decode cL_holds 111 = .ok (.invokevirtual 15, 3) := by decide +kernel
theorem dL_holds_114 : decode cL_holds 114 = .ok (.ifCond .ne 7, 3) := by decide +kernel
theorem dL_holds_117 : decode cL_holds 117 = .ok (.iconst 1, 1) := by decide +kernel
theorem dL_holds_118 : decode cL_holds 118 = .ok (.goto 4, 3) := by decide +kernel
theorem dL_holds_121 : decode cL_holds 121 = .ok (.iconst 0, 1) := by decide +kernel
theorem dL_holds_122 : decode cL_holds 122 = .ok (.if_icmp .ne 127, 3) := by decide +kernel
theorem dL_holds_125 : decode cL_holds 125 = .ok (.aload_n 0, 1) := by decide +kernel
theorem dL_holds_126 : decode cL_holds 126 = .ok (.iload 5, 2) := by decide +kernel
theorem dL_holds_128 : decode cL_holds 128 = .ok (.bipush 7, 2) := by decide +kernel
theorem dL_holds_130 : decode cL_holds 130 = .ok (.invokevirtual 15, 3) := by decide +kernel
theorem dL_holds_133 : decode cL_holds 133 = .ok (.aload_n 0, 1) := by decide +kernel
theorem dL_holds_134 : decode cL_holds 134 = .ok (.bipush 21, 2) := by decide +kernel
theorem dL_holds_136 : decode cL_holds 136 = .ok (.invokevirtual 9, 3) := by decide +kernel
theorem dL_holds_139 : decode cL_holds 139 = .ok (.if_icmp .lt 110, 3) := by decide +kernel
theorem dL_holds_142 : decode cL_holds 142 = .ok (.aload_n 0, 1) := by decide +kernel
theorem dL_holds_143 : decode cL_holds 143 = .ok (.iload 5, 2) := by decide +kernel
theorem dL_holds_145 : decode cL_holds 145 = .ok (.iconst 2, 1) := by decide +kernel
theorem dL_holds_146 : decode cL_holds 146 = .ok (.invokevirtual 15, 3) := by decide +kernel
theorem dL_holds_149 : decode cL_holds 149 = .ok (.aload_n 0, 1) := by decide +kernel
theorem dL_holds_150 : decode cL_holds 150 = .ok (.iload 5, 2) := by decide +kernel
theorem dL_holds_152 : decode cL_holds 152 = .ok (.iconst 1, 1) := by decide +kernel
theorem dL_holds_153 : decode cL_holds 153 = .ok (.invokevirtual 15, 3) := by decide +kernel
theorem dL_holds_156 : decode cL_holds 156 = .ok (.if_icmp .gt 93, 3) := by decide +kernel
theorem dL_holds_159 : decode cL_holds 159 = .ok (.aload_n 0, 1) := by decide +kernel
theorem dL_holds_160 : decode cL_holds 160 = .ok (.iload 5, 2) := by decide +kernel
theorem dL_holds_162 : decode cL_holds 162 = .ok (.bipush 10, 2) := by decide +kernel
theorem dL_holds_164 : decode cL_holds 164 = .ok (.invokevirtual 15, 3) := by decide +kernel
theorem dL_holds_167 : decode cL_holds 167 = .ok (.ifCond .ge 7, 3) := by decide +kernel
theorem dL_holds_170 : decode cL_holds 170 = .ok (.iconst 1, 1) := by decide +kernel
theorem dL_holds_171 : decode cL_holds 171 = .ok (.goto 4, 3) := by decide +kernel
theorem dL_holds_174 : decode cL_holds 174 = .ok (.iconst 0, 1) := by decide +kernel
theorem dL_holds_175 : decode cL_holds 175 = .ok (.aload_n 0, 1) := by decide +kernel
theorem dL_holds_176 : decode cL_holds 176 = .ok (.iload 5, 2) := by decide +kernel
theorem dL_holds_178 : decode cL_holds 178 = .ok (.iconst 2, 1) := by decide +kernel
theorem dL_holds_179 : decode cL_holds 179 = .ok (.invokevirtual 15, 3) := by decide +kernel
theorem dL_holds_182 : decode cL_holds 182 = .ok (.ifCond .ne 7, 3) := by decide +kernel
theorem dL_holds_185 : decode cL_holds 185 = .ok (.iconst 1, 1) := by decide +kernel
theorem dL_holds_186 : decode cL_holds 186 = .ok (.goto 4, 3) := by decide +kernel
theorem dL_holds_189 : decode cL_holds 189 = .ok (.iconst 0, 1) := by decide +kernel
theorem dL_holds_190 : decode cL_holds 190 = .ok (.if_icmp .ne 59, 3) := by decide +kernel
theorem dL_holds_193 : decode cL_holds 193 = .ok (.aload_n 0, 1) := by decide +kernel
theorem dL_holds_194 : decode cL_holds 194 = .ok (.iload 5, 2) := by decide +kernel
theorem dL_holds_196 : decode cL_holds 196 = .ok (.bipush 10, 2) := by decide +kernel
theorem dL_holds_198 : decode cL_holds 198 = .ok (.invokevirtual 15, 3) := by decide +kernel
theorem dL_holds_201 : decode cL_holds 201 = .ok (.aload_n 0, 1) := by decide +kernel
theorem dL_holds_202 : decode cL_holds 202 = .ok (.iload 5, 2) := by decide +kernel
theorem dL_holds_204 : decode cL_holds 204 = .ok (.iconst 1, 1) := by decide +kernel
theorem dL_holds_205 : decode cL_holds 205 = .ok (.invokevirtual 15, 3) := by decide +kernel
theorem dL_holds_208 : decode cL_holds 208 = .ok (.if_icmp .ge 41, 3) := by decide +kernel
theorem dL_holds_211 : decode cL_holds 211 = .ok (.iload 5, 2) := by decide +kernel
theorem dL_holds_213 : decode cL_holds 213 = .ok (.ifCond .eq 32, 3) := by decide +kernel
theorem dL_holds_216 : decode cL_holds 216 = .ok (.aload_n 0, 1) := by decide +kernel
theorem dL_holds_217 : decode cL_holds 217 = .ok (.iload 5, 2) := by decide +kernel
theorem dL_holds_219 : decode cL_holds 219 = .ok (.iconst 0, 1) := by decide +kernel
theorem dL_holds_220 : decode cL_holds 220 = .ok (.invokevirtual 15, 3) := by decide +kernel
theorem dL_holds_223 : decode cL_holds 223 = .ok (.aload_n 0, 1) := by decide +kernel
theorem dL_holds_224 : decode cL_holds 224 = .ok (.iload 5, 2) := by decide +kernel
theorem dL_holds_226 : decode cL_holds 226 = .ok (.iconst 1, 1) := by decide +kernel
theorem dL_holds_227 : decode cL_holds 227 = .ok (.isub, 1) := by decide +kernel
theorem dL_holds_228 : decode cL_holds 228 = .ok (.iconst 0, 1) := by decide +kernel
theorem dL_holds_229 : decode cL_holds 229 = .ok (.invokevirtual 15, 3) := by decide +kernel
theorem dL_holds_232 : decode cL_holds 232 = .ok (.aload_n 0, 1) := by decide +kernel
theorem dL_holds_233 : decode cL_holds 233 = .ok (.iload 5, 2) := by decide +kernel
theorem dL_holds_235 : decode cL_holds 235 = .ok (.iconst 1, 1) := by decide +kernel
theorem dL_holds_236 : decode cL_holds 236 = .ok (.isub, 1) := by decide +kernel
theorem dL_holds_237 : decode cL_holds 237 = .ok (.iconst 1, 1) := by decide +kernel
theorem dL_holds_238 : decode cL_holds 238 = .ok (.invokevirtual 15, 3) := by decide +kernel
theorem dL_holds_241 : decode cL_holds 241 = .ok (.iadd, 1) := by decide +kernel
theorem dL_holds_242 : decode cL_holds 242 = .ok (.if_icmp .le 7, 3) := by decide +kernel
theorem dL_holds_245 : decode cL_holds 245 = .ok (.iconst 1, 1) := by decide +kernel
theorem dL_holds_246 : decode cL_holds 246 = .ok (.goto 4, 3) := by decide +kernel
theorem dL_holds_249 : decode cL_holds 249 = .ok (.iconst 0, 1) := by decide +kernel
theorem dL_holds_250 : decode cL_holds 250 = .ok (.istore 4, 2) := by decide +kernel
theorem dL_holds_252 : decode cL_holds 252 = .ok (.iload 4, 2) := by decide +kernel
theorem dL_holds_254 : decode cL_holds 254 = .ok (.ifCond .eq 66, 3) := by decide +kernel
theorem dL_holds_257 : decode cL_holds 257 = .ok (.iload 6, 2) := by decide +kernel
theorem dL_holds_259 : decode cL_holds 259 = .ok (.iconst 3, 1) := by decide +kernel
theorem dL_holds_260 : decode cL_holds 260 = .ok (.if_icmp .lt 14, 3) := by decide +kernel
theorem dL_holds_263 : decode cL_holds 263 = .ok (.aload_n 0, 1) := by decide +kernel
theorem dL_holds_264 : decode cL_holds 264 = .ok (.iload 5, 2) := by decide +kernel
theorem dL_holds_266 : decode cL_holds 266 = .ok (.bipush 9, 2) := by decide +kernel
theorem dL_holds_268 : decode cL_holds 268 = .ok (.invokevirtual 15, 3) := by decide +kernel
theorem dL_holds_271 : decode cL_holds 271 = .ok (.ifCond .ne 49, 3) := by decide +kernel
theorem dL_holds_274 : decode cL_holds 274 = .ok (.aload_n 0, 1) := by decide +kernel
theorem dL_holds_275 : decode cL_holds 275 = .ok (.iload 5, 2) := by decide +kernel
theorem dL_holds_277 : decode cL_holds 277 = .ok (.iconst 3, 1) := by decide +kernel
theorem dL_holds_278 : decode cL_holds 278 = .ok (.invokevirtual 15, 3) := by decide +kernel
theorem dL_holds_281 : decode cL_holds 281 = .ok (.aload_n 0, 1) := by decide +kernel
theorem dL_holds_282 : decode cL_holds 282 = .ok (.iload 5, 2) := by decide +kernel
theorem dL_holds_284 : decode cL_holds 284 = .ok (.iconst 2, 1) := by decide +kernel
theorem dL_holds_285 : decode cL_holds 285 = .ok (.invokevirtual 15, 3) := by decide +kernel
theorem dL_holds_288 : decode cL_holds 288 = .ok (.iconst 5, 1) := by decide +kernel
theorem dL_holds_289 : decode cL_holds 289 = .ok (.if_icmp .ge 7, 3) := by decide +kernel
theorem dL_holds_292 : decode cL_holds 292 = .ok (.iconst 0, 1) := by decide +kernel
theorem dL_holds_293 : decode cL_holds 293 = .ok (.goto 20, 3) := by decide +kernel
theorem dL_holds_296 : decode cL_holds 296 = .ok (.aload_n 0, 1) := by decide +kernel
theorem dL_holds_297 : decode cL_holds 297 = .ok (.iload 5, 2) := by decide +kernel
theorem dL_holds_299 : decode cL_holds 299 = .ok (.iconst 2, 1) := by decide +kernel
theorem dL_holds_300 : decode cL_holds 300 = .ok (.invokevirtual 15, 3) := by decide +kernel
theorem dL_holds_303 : decode cL_holds 303 = .ok (.bipush 9, 2) := by decide +kernel
theorem dL_holds_305 : decode cL_holds 305 = .ok (.if_icmp .ge 7, 3) := by decide +kernel
theorem dL_holds_308 : decode cL_holds 308 = .ok (.iconst 1, 1) := by decide +kernel
theorem dL_holds_309 : decode cL_holds 309 = .ok (.goto 4, 3) := by decide +kernel
theorem dL_holds_312 : decode cL_holds 312 = .ok (.iconst 2, 1) := by decide +kernel
theorem dL_holds_313 : decode cL_holds 313 = .ok (.if_icmp .ne 7, 3) := by decide +kernel
theorem dL_holds_316 : decode cL_holds 316 = .ok (.iconst 1, 1) := by decide +kernel
theorem dL_holds_317 : decode cL_holds 317 = .ok (.goto 4, 3) := by decide +kernel
theorem dL_holds_320 : decode cL_holds 320 = .ok (.iconst 0, 1) := by decide +kernel
theorem dL_holds_321 : decode cL_holds 321 = .ok (.istore 4, 2) := by decide +kernel
theorem dL_holds_323 : decode cL_holds 323 = .ok (.iinc 5 1, 3) := by decide +kernel
theorem dL_holds_326 : decode cL_holds 326 = .ok (.goto (-272), 3) := by decide +kernel
theorem dL_holds_329 : decode cL_holds 329 = .ok (.iconst 0, 1) := by decide +kernel
theorem dL_holds_330 : decode cL_holds 330 = .ok (.istore 5, 2) := by decide +kernel
theorem dL_holds_332 : decode cL_holds 332 = .ok (.iconst 0, 1) := by decide +kernel
theorem dL_holds_333 : decode cL_holds 333 = .ok (.istore 6, 2) := by decide +kernel
theorem dL_holds_335 : decode cL_holds 335 = .ok (.iload 6, 2) := by decide +kernel
theorem dL_holds_337 : decode cL_holds 337 = .ok (.aload_n 0, 1) := by decide +kernel
theorem dL_holds_338 : decode cL_holds 338 = .ok (.iconst 3, 1) := by decide +kernel
theorem dL_holds_339 : decode cL_holds 339 = .ok (.invokevirtual 9, 3) := by decide +kernel
theorem dL_holds_342 : decode cL_holds 342 = .ok (.if_icmp .ge 21, 3) := by decide +kernel
theorem dL_holds_345 : decode cL_holds 345 = .ok (.iload 5, 2) := by decide +kernel
theorem dL_holds_347 : decode cL_holds 347 = .ok (.aload_n 0, 1) := by decide +kernel
theorem dL_holds_348 : decode cL_holds 348 = .ok (.iload 6, 2) := by decide +kernel
theorem dL_holds_350 : decode cL_holds 350 = .ok (.iconst 2, 1) := by decide +kernel
theorem dL_holds_351 : decode cL_holds 351 = .ok (.invokevirtual 19, 3) := by decide +kernel
theorem dL_holds_354 : decode cL_holds 354 = .ok (.iadd, 1) := by decide +kernel
theorem dL_holds_355 : decode cL_holds 355 = .ok (.istore 5, 2) := by decide +kernel
theorem dL_holds_357 : decode cL_holds 357 = .ok (.iinc 6 1, 3) := by decide +kernel
theorem dL_holds_360 : decode cL_holds 360 = .ok (.goto (-25), 3) := by decide +kernel
theorem dL_holds_363 : decode cL_holds 363 = .ok (.iconst 0, 1) := by decide +kernel
theorem dL_holds_364 : decode cL_holds 364 = .ok (.istore 6, 2) := by decide +kernel
theorem dL_holds_366 : decode cL_holds 366 = .ok (.iconst 0, 1) := by decide +kernel
theorem dL_holds_367 : decode cL_holds 367 = .ok (.istore 7, 2) := by decide +kernel
theorem dL_holds_369 : decode cL_holds 369 = .ok (.iload 7, 2) := by decide +kernel
theorem dL_holds_371 : decode cL_holds 371 = .ok (.aload_n 0, 1) := by decide +kernel
theorem dL_holds_372 : decode cL_holds 372 = .ok (.iconst 2, 1) := by decide +kernel
theorem dL_holds_373 : decode cL_holds 373 = .ok (.invokevirtual 9, 3) := by decide +kernel
theorem dL_holds_376 : decode cL_holds 376 = .ok (.if_icmp .ge 21, 3) := by decide +kernel
theorem dL_holds_379 : decode cL_holds 379 = .ok (.iload 6, 2) := by decide +kernel
theorem dL_holds_381 : decode cL_holds 381 = .ok (.aload_n 0, 1) := by decide +kernel
theorem dL_holds_382 : decode cL_holds 382 = .ok (.iload 7, 2) := by decide +kernel
theorem dL_holds_384 : decode cL_holds 384 = .ok (.iconst 2, 1) := by decide +kernel
theorem dL_holds_385 : decode cL_holds 385 = .ok (.invokevirtual 22, 3) := by decide +kernel
theorem dL_holds_388 : decode cL_holds 388 = .ok (.iadd, 1) := by decide +kernel
theorem dL_holds_389 : decode cL_holds 389 = .ok (.istore 6, 2) := by decide +kernel
theorem dL_holds_391 : decode cL_holds 391 = .ok (.iinc 7 1, 3) := by decide +kernel
theorem dL_holds_394 : decode cL_holds 394 = .ok (.goto (-25), 3) := by decide +kernel
theorem dL_holds_397 : decode cL_holds 397 = .ok (.iconst 0, 1) := by decide +kernel
theorem dL_holds_398 : decode cL_holds 398 = .ok (.istore 7, 2) := by decide +kernel
theorem dL_holds_400 : decode cL_holds 400 = .ok (.iload 7, 2) := by decide +kernel
theorem dL_holds_402 : decode cL_holds 402 = .ok (.iconst 3, 1) := by decide +kernel
theorem dL_holds_403 : decode cL_holds 403 = .ok (.if_icmp .ge 50, 3) := by decide +kernel
theorem dL_holds_406 : decode cL_holds 406 = .ok (.iload 4, 2) := by decide +kernel
theorem dL_holds_408 : decode cL_holds 408 = .ok (.ifCond .eq 36, 3) := by decide +kernel
theorem dL_holds_411 : decode cL_holds 411 = .ok (.aload_n 0, 1) := by decide +kernel
theorem dL_holds_412 : decode cL_holds 412 = .ok (.bipush 30, 2) := by decide +kernel
theorem dL_holds_414 : decode cL_holds 414 = .ok (.iload 7, 2) := by decide +kernel
theorem dL_holds_416 : decode cL_holds 416 = .ok (.iadd, 1) := by decide +kernel
theorem dL_holds_417 : decode cL_holds 417 = .ok (.invokevirtual 9, 3) := by decide +kernel
theorem dL_holds_420 : decode cL_holds 420 = .ok (.bipush 50, 2) := by decide +kernel
theorem dL_holds_422 : decode cL_holds 422 = .ok (.if_icmp .lt 22, 3) := by decide +kernel
theorem dL_holds_425 : decode cL_holds 425 = .ok (.aload_n 0, 1) := by decide +kernel
theorem dL_holds_426 : decode cL_holds 426 = .ok (.bipush 30, 2) := by decide +kernel
theorem dL_holds_428 : decode cL_holds 428 = .ok (.iload 7, 2) := by decide +kernel
theorem dL_holds_430 : decode cL_holds 430 = .ok (.iadd, 1) := by decide +kernel
theorem dL_holds_431 : decode cL_holds 431 = .ok (.invokevirtual 9, 3) := by decide +kernel
theorem dL_holds_434 : decode cL_holds 434 = .ok (.sipush 400, 3) := by decide +kernel
theorem dL_holds_437 : decode cL_holds 437 = .ok (.if_icmp .gt 7, 3) := by decide +kernel
theorem dL_holds_440 : decode cL_holds 440 = .ok (.iconst 1, 1) := by decide +kernel
theorem dL_holds_441 : decode cL_holds 441 = .ok (.goto 4, 3) := by decide +kernel
theorem dL_holds_444 : decode cL_holds 444 = .ok (.iconst 0, 1) := by decide +kernel
theorem dL_holds_445 : decode cL_holds 445 = .ok (.istore 4, 2) := by decide +kernel
theorem dL_holds_447 : decode cL_holds 447 = .ok (.iinc 7 1, 3) := by decide +kernel
theorem dL_holds_450 : decode cL_holds 450 = .ok (.goto (-50), 3) := by decide +kernel
theorem dL_holds_453 : decode cL_holds 453 = .ok (.aload_n 0, 1) := by decide +kernel
theorem dL_holds_454 : decode cL_holds 454 = .ok (.iconst 4, 1) := by decide +kernel
theorem dL_holds_455 : decode cL_holds 455 = .ok (.invokevirtual 9, 3) := by decide +kernel
theorem dL_holds_458 : decode cL_holds 458 = .ok (.istore 7, 2) := by decide +kernel
theorem dL_holds_460 : decode cL_holds 460 = .ok (.iload 4, 2) := by decide +kernel
theorem dL_holds_462 : decode cL_holds 462 = .ok (.ifCond .eq 62, 3) := by decide +kernel
theorem dL_holds_465 : decode cL_holds 465 = .ok (.iload_n 2, 1) := by decide +kernel
theorem dL_holds_466 : decode cL_holds 466 = .ok (.aload_n 0, 1) := by decide +kernel
theorem dL_holds_467 : decode cL_holds 467 = .ok (.bipush 13, 2) := by decide +kernel
theorem dL_holds_469 : decode cL_holds 469 = .ok (.invokevirtual 9, 3) := by decide +kernel
theorem dL_holds_472 : decode cL_holds 472 = .ok (.if_icmp .ne 52, 3) := by decide +kernel
theorem dL_holds_475 : decode cL_holds 475 = .ok (.iload_n 2, 1) := by decide +kernel
theorem dL_holds_476 : decode cL_holds 476 = .ok (.iload 5, 2) := by decide +kernel
theorem dL_holds_478 : decode cL_holds 478 = .ok (.if_icmp .ne 46, 3) := by decide +kernel
theorem dL_holds_481 : decode cL_holds 481 = .ok (.iload_n 2, 1) := by decide +kernel
theorem dL_holds_482 : decode cL_holds 482 = .ok (.iload 6, 2) := by decide +kernel
theorem dL_holds_484 : decode cL_holds 484 = .ok (.if_icmp .ne 40, 3) := by decide +kernel
theorem dL_holds_487 : decode cL_holds 487 = .ok (.iload_n 3, 1) := by decide +kernel
theorem dL_holds_488 : decode cL_holds 488 = .ok (.aload_n 0, 1) := by decide +kernel
theorem dL_holds_489 : decode cL_holds 489 = .ok (.iconst 0, 1) := by decide +kernel
theorem dL_holds_490 : decode cL_holds 490 = .ok (.invokevirtual 9, 3) := by decide +kernel
theorem dL_holds_493 : decode cL_holds 493 = .ok (.if_icmp .gt 31, 3) := by decide +kernel
theorem dL_holds_496 : decode cL_holds 496 = .ok (.iload 7, 2) := by decide +kernel
theorem dL_holds_498 : decode cL_holds 498 = .ok (.ifCond .lt 22, 3) := by decide +kernel
theorem dL_holds_501 : decode cL_holds 501 = .ok (.aload_n 0, 1) := by decide +kernel
theorem dL_holds_502 : decode cL_holds 502 = .ok (.iload 7, 2) := by decide +kernel
theorem dL_holds_504 : decode cL_holds 504 = .ok (.iconst 4, 1) := by decide +kernel
theorem dL_holds_505 : decode cL_holds 505 = .ok (.invokevirtual 15, 3) := by decide +kernel
theorem dL_holds_508 : decode cL_holds 508 = .ok (.iconst 3, 1) := by decide +kernel
theorem dL_holds_509 : decode cL_holds 509 = .ok (.if_icmp .ge 15, 3) := by decide +kernel
theorem dL_holds_512 : decode cL_holds 512 = .ok (.aload_n 0, 1) := by decide +kernel
theorem dL_holds_513 : decode cL_holds 513 = .ok (.iconst 5, 1) := by decide +kernel
theorem dL_holds_514 : decode cL_holds 514 = .ok (.invokevirtual 9, 3) := by decide +kernel
theorem dL_holds_517 : decode cL_holds 517 = .ok (.ifCond .le 7, 3) := by decide +kernel
theorem dL_holds_520 : decode cL_holds 520 = .ok (.iconst 1, 1) := by decide +kernel
theorem dL_holds_521 : decode cL_holds 521 = .ok (.goto 4, 3) := by decide +kernel
theorem dL_holds_524 : decode cL_holds 524 = .ok (.iconst 0, 1) := by decide +kernel
theorem dL_holds_525 : decode cL_holds 525 = .ok (.ireturn, 1) := by decide +kernel
theorem dL_parted_0 : decode cL_parted 0 = .ok (.aload_n 0, 1) := by decide +kernel
theorem dL_parted_1 : decode cL_parted 1 = .ok (.iload_n 1, 1) := by decide +kernel
theorem dL_parted_2 : decode cL_parted 2 = .ok (.invokevirtual 25, 3) := by decide +kernel
theorem dL_parted_5 : decode cL_parted 5 = .ok (.istore_n 3, 1) := by decide +kernel
theorem dL_parted_6 : decode cL_parted 6 = .ok (.iload_n 3, 1) := by decide +kernel
theorem dL_parted_7 : decode cL_parted 7 = .ok (.ifCond .ge 19, 3) := by decide +kernel
theorem dL_parted_10 : decode cL_parted 10 = .ok (.aload_n 0, 1) := by decide +kernel
theorem dL_parted_11 : decode cL_parted 11 = .ok (.iconst 4, 1) := by decide +kernel
theorem dL_parted_12 : decode cL_parted 12 = .ok (.invokevirtual 9, 3) := by decide +kernel
theorem dL_parted_15 : decode cL_parted 15 = .ok (.bipush (-4), 2) := by decide +kernel
theorem dL_parted_17 : decode cL_parted 17 = .ok (.if_icmp .ne 7, 3) := by decide +kernel
theorem dL_parted_20 : decode cL_parted 20 = .ok (.iconst 1, 1) := by decide +kernel
theorem dL_parted_21 : decode cL_parted 21 = .ok (.goto 4, 3) := by decide +kernel
theorem dL_parted_24 : decode cL_parted 24 = .ok (.iconst 0, 1) := by decide +kernel
theorem dL_parted_25 : decode cL_parted 25 = .ok (.ireturn, 1) := by decide +kernel
theorem dL_parted_26 : decode cL_parted 26 = .ok (.aload_n 0, 1) := by decide +kernel
theorem dL_parted_27 : decode cL_parted 27 = .ok (.iconst 4, 1) := by decide +kernel
theorem dL_parted_28 : decode cL_parted 28 = .ok (.invokevirtual 9, 3) := by decide +kernel
theorem dL_parted_31 : decode cL_parted 31 = .ok (.istore 4, 2) := by decide +kernel
theorem dL_parted_33 : decode cL_parted 33 = .ok (.aload_n 0, 1) := by decide +kernel
theorem dL_parted_34 : decode cL_parted 34 = .ok (.iconst 5, 1) := by decide +kernel
theorem dL_parted_35 : decode cL_parted 35 = .ok (.invokevirtual 9, 3) := by decide +kernel
theorem dL_parted_38 : decode cL_parted 38 = .ok (.istore 5, 2) := by decide +kernel
theorem dL_parted_40 : decode cL_parted 40 = .ok (.aload_n 0, 1) := by decide +kernel
theorem dL_parted_41 : decode cL_parted 41 = .ok (.bipush 8, 2) := by decide +kernel
theorem dL_parted_43 : decode cL_parted 43 = .ok (.invokevirtual 9, 3) := by decide +kernel
theorem dL_parted_46 : decode cL_parted 46 = .ok (.istore 6, 2) := by decide +kernel
theorem dL_parted_48 : decode cL_parted 48 = .ok (.aload_n 0, 1) := by decide +kernel
theorem dL_parted_49 : decode cL_parted 49 = .ok (.bipush 9, 2) := by decide +kernel
theorem dL_parted_51 : decode cL_parted 51 = .ok (.invokevirtual 9, 3) := by decide +kernel
theorem dL_parted_54 : decode cL_parted 54 = .ok (.istore 7, 2) := by decide +kernel
theorem dL_parted_56 : decode cL_parted 56 = .ok (.aload_n 0, 1) := by decide +kernel
theorem dL_parted_57 : decode cL_parted 57 = .ok (.bipush 30, 2) := by decide +kernel
theorem dL_parted_59 : decode cL_parted 59 = .ok (.invokevirtual 9, 3) := by decide +kernel
theorem dL_parted_62 : decode cL_parted 62 = .ok (.istore 8, 2) := by decide +kernel
theorem dL_parted_64 : decode cL_parted 64 = .ok (.aload_n 0, 1) := by decide +kernel
theorem dL_parted_65 : decode cL_parted 65 = .ok (.bipush 31, 2) := by decide +kernel
theorem dL_parted_67 : decode cL_parted 67 = .ok (.invokevirtual 9, 3) := by decide +kernel
theorem dL_parted_70 : decode cL_parted 70 = .ok (.istore 9, 2) := by decide +kernel
theorem dL_parted_72 : decode cL_parted 72 = .ok (.aload_n 0, 1) := by decide +kernel
theorem dL_parted_73 : decode cL_parted 73 = .ok (.invokestatic 28, 3) := by decide +kernel
theorem dL_parted_76 : decode cL_parted 76 = .ok (.ifCond .eq 14, 3) := by decide +kernel
theorem dL_parted_79 : decode cL_parted 79 = .ok (.aload_n 0, 1) := by decide +kernel
theorem dL_parted_80 : decode cL_parted 80 = .ok (.invokevirtual 34, 3) := by decide +kernel
theorem dL_parted_83 : decode cL_parted 83 = .ok (.ifCond .lt 7, 3) := by decide +kernel
theorem dL_parted_86 : decode cL_parted 86 = .ok (.iconst 1, 1) := by decide +kernel
theorem dL_parted_87 : decode cL_parted 87 = .ok (.goto 4, 3) := by decide +kernel
theorem dL_parted_90 : decode cL_parted 90 = .ok (.iconst 0, 1) := by decide +kernel
theorem dL_parted_91 : decode cL_parted 91 = .ok (.istore 10, 2) := by decide +kernel
theorem dL_parted_93 : decode cL_parted 93 = .ok (.aload_n 0, 1) := by decide +kernel
theorem dL_parted_94 : decode cL_parted 94 = .ok (.iload_n 2, 1) := by decide +kernel
theorem dL_parted_95 : decode cL_parted 95 = .ok (.invokevirtual 25, 3) := by decide +kernel
theorem dL_parted_98 : decode cL_parted 98 = .ok (.istore 11, 2) := by decide +kernel
theorem dL_parted_100 : decode cL_parted 100 = .ok (.aload_n 0, 1) := by decide +kernel
theorem dL_parted_101 : decode cL_parted 101 = .ok (.iconst 4, 1) := by decide +kernel
theorem dL_parted_102 : decode cL_parted 102 = .ok (.invokevirtual 9, 3) := by decide +kernel
theorem dL_parted_105 : decode cL_parted 105 = .ok (.ifCond .ge 7, 3) := by decide +kernel
theorem dL_parted_108 : decode cL_parted 108 = .ok (.iconst 0, 1) := by decide +kernel
theorem dL_parted_109 : decode cL_parted 109 = .ok (.goto 10, 3) := by decide +kernel
theorem dL_parted_112 : decode cL_parted 112 = .ok (.aload_n 0, 1) := by decide +kernel
theorem dL_parted_113 : decode cL_parted 113 = .ok (.iload_n 1, 1) := by decide +kernel
theorem dL_parted_114 : decode cL_parted 114 = .ok (.iload_n 2, 1) := by decide +kernel
theorem dL_parted_115 : decode cL_parted 115 = .ok (.isub, 1) := by decide +kernel
theorem dL_parted_116 : decode cL_parted 116 = .ok (.invokevirtual 25, 3) := by decide +kernel
theorem dL_parted_119 : decode cL_parted 119 = .ok (.istore 12, 2) := by decide +kernel
theorem dL_parted_121 : decode cL_parted 121 = .ok (.iload 10, 2) := by decide +kernel
theorem dL_parted_123 : decode cL_parted 123 = .ok (.ifCond .eq 80, 3) := by decide +kernel
theorem dL_parted_126 : decode cL_parted 126 = .ok (.iload 11, 2) := by decide +kernel
theorem dL_parted_128 : decode cL_parted 128 = .ok (.iload 12, 2) := by decide +kernel
theorem dL_parted_130 : decode cL_parted 130 = .ok (.iadd, 1) := by decide +kernel
theorem dL_parted_131 : decode cL_parted 131 = .ok (.iload_n 3, 1) := by decide +kernel
theorem dL_parted_132 : decode cL_parted 132 = .ok (.if_icmp .ne 71, 3) := by decide +kernel
theorem dL_parted_135 : decode cL_parted 135 = .ok (.aload_n 0, 1) := by decide +kernel
theorem dL_parted_136 : decode cL_parted 136 = .ok (.iconst 4, 1) := by decide +kernel
theorem dL_parted_137 : decode cL_parted 137 = .ok (.invokevirtual 9, 3) := by decide +kernel
theorem dL_parted_140 : decode cL_parted 140 = .ok (.iload 4, 2) := by decide +kernel
theorem dL_parted_142 : decode cL_parted 142 = .ok (.if_icmp .ne 61, 3) := by decide +kernel
theorem dL_parted_145 : decode cL_parted 145 = .ok (.aload_n 0, 1) := by decide +kernel
theorem dL_parted_146 : decode cL_parted 146 = .ok (.iconst 5, 1) := by decide +kernel
theorem dL_parted_147 : decode cL_parted 147 = .ok (.invokevirtual 9, 3) := by decide +kernel
theorem dL_parted_150 : decode cL_parted 150 = .ok (.iload 5, 2) := by decide +kernel
theorem dL_parted_152 : decode cL_parted 152 = .ok (.if_icmp .ne 51, 3) := by decide +kernel
theorem dL_parted_155 : decode cL_parted 155 = .ok (.aload_n 0, 1) := by decide +kernel
theorem dL_parted_156 : decode cL_parted 156 = .ok (.bipush 8, 2) := by decide +kernel
theorem dL_parted_158 : decode cL_parted 158 = .ok (.invokevirtual 9, 3) := by decide +kernel
theorem dL_parted_161 : decode cL_parted 161 = .ok (.iload 6, 2) := by decide +kernel
theorem dL_parted_163 : decode cL_parted 163 = .ok (.if_icmp .ne 40, 3) := by decide +kernel
theorem dL_parted_166 : decode cL_parted 166 = .ok (.aload_n 0, 1) := by decide +kernel
theorem dL_parted_167 : decode cL_parted 167 = .ok (.bipush 9, 2) := by decide +kernel
theorem dL_parted_169 : decode cL_parted 169 = .ok (.invokevirtual 9, 3) := by decide +kernel
theorem dL_parted_172 : decode cL_parted 172 = .ok (.iload 7, 2) := by decide +kernel
theorem dL_parted_174 : decode cL_parted 174 = .ok (.if_icmp .ne 29, 3) := by decide +kernel
theorem dL_parted_177 : decode cL_parted 177 = .ok (.aload_n 0, 1) := by decide +kernel
theorem dL_parted_178 : decode cL_parted 178 = .ok (.bipush 30, 2) := by decide +kernel
theorem dL_parted_180 : decode cL_parted 180 = .ok (.invokevirtual 9, 3) := by decide +kernel
theorem dL_parted_183 : decode cL_parted 183 = .ok (.iload 8, 2) := by decide +kernel
theorem dL_parted_185 : decode cL_parted 185 = .ok (.if_icmp .ne 18, 3) := by decide +kernel
theorem dL_parted_188 : decode cL_parted 188 = .ok (.aload_n 0, 1) := by decide +kernel
theorem dL_parted_189 : decode cL_parted 189 = .ok (.bipush 31, 2) := by decide +kernel
theorem dL_parted_191 : decode cL_parted 191 = .ok (.invokevirtual 9, 3) := by decide +kernel
theorem dL_parted_194 : decode cL_parted 194 = .ok (.iload 9, 2) := by decide +kernel
theorem dL_parted_196 : decode cL_parted 196 = .ok (.if_icmp .ne 7, 3) := by decide +kernel
theorem dL_parted_199 : decode cL_parted 199 = .ok (.iconst 1, 1) := by decide +kernel
theorem dL_parted_200 : decode cL_parted 200 = .ok (.goto 4, 3) := by decide +kernel
theorem dL_parted_203 : decode cL_parted 203 = .ok (.iconst 0, 1) := by decide +kernel
theorem dL_parted_204 : decode cL_parted 204 = .ok (.ireturn, 1) := by decide +kernel
