theorem dX6_page_87 : decode cX6_page 87 = .ok (.iload_n 3, 1) := by decide +kernel
theorem dX6_page_88 : decode cX6_page 88 = .ok (.goto 39, 3) := by decide +kernel
theorem dX6_page_91 : decode cX6_page 91 = .ok (.iload_n 2, 1) := by decide +kernel
theorem dX6_page_92 : decode cX6_page 92 = .ok (.iconst 1, 1) := by decide +kernel
theorem dX6_page_93 : decode cX6_page 93 = .ok (.if_icmp .ne 8, 3) := by decide +kernel
theorem dX6_page_96 : decode cX6_page 96 = .ok (.iload 4, 2) := by decide +kernel
theorem dX6_page_98 : decode cX6_page 98 = .ok (.goto 29, 3) := by decide +kernel
theorem dX6_page_101 : decode cX6_page 101 = .ok (.iload_n 2, 1) := by decide +kernel
theorem dX6_page_102 : decode cX6_page 102 = .ok (.iconst 2, 1) := by decide +kernel
theorem dX6_page_103 : decode cX6_page 103 = .ok (.if_icmp .ne 8, 3) := by decide +kernel
theorem dX6_page_106 : decode cX6_page 106 = .ok (.iload 5, 2) := by decide +kernel
theorem dX6_page_108 : decode cX6_page 108 = .ok (.goto 19, 3) := by decide +kernel
theorem dX6_page_111 : decode cX6_page 111 = .ok (.aload_n 0, 1) := by decide +kernel
theorem dX6_page_112 : decode cX6_page 112 = .ok (.getfield 39, 3) := by decide +kernel
theorem dX6_page_115 : decode cX6_page 115 = .ok (.iload 4, 2) := by decide +kernel
theorem dX6_page_117 : decode cX6_page 117 = .ok (.iaload, 1) := by decide +kernel
theorem dX6_page_118 : decode cX6_page 118 = .ok (.aload_n 0, 1) := by decide +kernel
theorem dX6_page_119 : decode cX6_page 119 = .ok (.getfield 39, 3) := by decide +kernel
theorem dX6_page_122 : decode cX6_page 122 = .ok (.iload_n 3, 1) := by decide +kernel
theorem dX6_page_123 : decode cX6_page 123 = .ok (.iaload, 1) := by decide +kernel
theorem dX6_page_124 : decode cX6_page 124 = .ok (.isub, 1) := by decide +kernel
theorem dX6_page_125 : decode cX6_page 125 = .ok (.iconst 1, 1) := by decide +kernel
theorem dX6_page_126 : decode cX6_page 126 = .ok (.iadd, 1) := by decide +kernel
theorem dX6_page_127 : decode cX6_page 127 = .ok (.ireturn, 1) := by decide +kernel
set_option maxRecDepth 20000 in
theorem ggX6_count_X6_in : GoodIn wsX6_count wsX6_in := goodIn_r _ [10] (by decide +kernel) (by decide +kernel)
set_option maxRecDepth 20000 in
theorem gX6_count_X6_in : GoodIn wsX6_count (va_wsS RX6 49 yX6_in wsX6_in) := goodIn_app (goodIn_of _ (by decide +kernel)) ggX6_count_X6_in
set_option maxRecDepth 20000 in
theorem ggX6_count_X6_timeOf : GoodIn wsX6_count wsX6_timeOf := goodIn_r _ [14, 1, 15, 16, 17, 9, 18, 19, 20, 21, 22, 23, 24, 25, 26, 27, 28, 29, 30, 31, 32, 33, 34, 35, 36, 37, 38, 39, 40, 41, 42, 43, 44, 45, 46, 47, 48] (by decide +kernel) (by decide +kernel)
set_option maxRecDepth 20000 in
theorem gX6_count_X6_timeOf : GoodIn wsX6_count (wsV RX6 90 RX6 yX6_timeOf wsX6_timeOf) := goodIn_app (goodIn_of _ (by decide +kernel)) ggX6_count_X6_timeOf
theorem dX6_count_0 : decode cX6_count 0 = .ok (.iload_n 1, 1) := by decide +kernel
theorem dX6_count_1 : decode cX6_count 1 = .ok (.bipush 20, 2) := by decide +kernel
theorem dX6_count_3 : decode cX6_count 3 = .ok (.bipush 26, 2) := by decide +kernel
theorem dX6_count_5 : decode cX6_count 5 = .ok (.invokestatic 49, 3) := by decide +kernel
theorem dX6_count_8 : decode cX6_count 8 = .ok (.ifCond .eq 17, 3) := by decide +kernel
theorem dX6_count_11 : decode cX6_count 11 = .ok (.aload_n 0, 1) := by decide +kernel
theorem dX6_count_12 : decode cX6_count 12 = .ok (.getfield 7, 3) := by decide +kernel
theorem dX6_count_15 : decode cX6_count 15 = .ok (.sipush 333, 3) := by decide +kernel
theorem dX6_count_18 : decode cX6_count 18 = .ok (.iload_n 1, 1) := by decide +kernel
theorem dX6_count_19 : decode cX6_count 19 = .ok (.iadd, 1) := by decide +kernel
theorem dX6_count_20 : decode cX6_count 20 = .ok (.bipush 20, 2) := by decide +kernel
theorem dX6_count_22 : decode cX6_count 22 = .ok (.isub, 1) := by decide +kernel
theorem dX6_count_23 : decode cX6_count 23 = .ok (.iaload, 1) := by decide +kernel
theorem dX6_count_24 : decode cX6_count 24 = .ok (.ireturn, 1) := by decide +kernel
theorem dX6_count_25 : decode cX6_count 25 = .ok (.iload_n 1, 1) := by decide +kernel
theorem dX6_count_26 : decode cX6_count 26 = .ok (.bipush 30, 2) := by decide +kernel
theorem dX6_count_28 : decode cX6_count 28 = .ok (.bipush 32, 2) := by decide +kernel
theorem dX6_count_30 : decode cX6_count 30 = .ok (.invokestatic 49, 3) := by decide +kernel
theorem dX6_count_33 : decode cX6_count 33 = .ok (.ifCond .eq 17, 3) := by decide +kernel
theorem dX6_count_36 : decode cX6_count 36 = .ok (.aload_n 0, 1) := by decide +kernel
theorem dX6_count_37 : decode cX6_count 37 = .ok (.getfield 7, 3) := by decide +kernel
theorem dX6_count_40 : decode cX6_count 40 = .ok (.sipush 330, 3) := by decide +kernel
theorem dX6_count_43 : decode cX6_count 43 = .ok (.iload_n 1, 1) := by decide +kernel
theorem dX6_count_44 : decode cX6_count 44 = .ok (.iadd, 1) := by decide +kernel
theorem dX6_count_45 : decode cX6_count 45 = .ok (.bipush 30, 2) := by decide +kernel
theorem dX6_count_47 : decode cX6_count 47 = .ok (.isub, 1) := by decide +kernel
theorem dX6_count_48 : decode cX6_count 48 = .ok (.iaload, 1) := by decide +kernel
theorem dX6_count_49 : decode cX6_count 49 = .ok (.ireturn, 1) := by decide +kernel
theorem dX6_count_50 : decode cX6_count 50 = .ok (.iconst 0, 1) := by decide +kernel
theorem dX6_count_51 : decode cX6_count 51 = .ok (.istore_n 2, 1) := by decide +kernel
theorem dX6_count_52 : decode cX6_count 52 = .ok (.iconst 0, 1) := by decide +kernel
theorem dX6_count_53 : decode cX6_count 53 = .ok (.istore_n 3, 1) := by decide +kernel
theorem dX6_count_54 : decode cX6_count 54 = .ok (.iload_n 3, 1) := by decide +kernel
theorem dX6_count_55 : decode cX6_count 55 = .ok (.aload_n 0, 1) := by decide +kernel
theorem dX6_count_56 : decode cX6_count 56 = .ok (.getfield 45, 3) := by decide +kernel
theorem dX6_count_59 : decode cX6_count 59 = .ok (.if_icmp .ge 17, 3) := by decide +kernel
theorem dX6_count_62 : decode cX6_count 62 = .ok (.iload_n 2, 1) := by decide +kernel
theorem dX6_count_63 : decode cX6_count 63 = .ok (.aload_n 0, 1) := by decide +kernel
theorem dX6_count_64 : decode cX6_count 64 = .ok (.iload_n 3, 1) := by decide +kernel
theorem dX6_count_65 : decode cX6_count 65 = .ok (.invokevirtual 90, 3) := by decide +kernel
theorem dX6_count_68 : decode cX6_count 68 = .ok (.iadd, 1) := by decide +kernel
theorem dX6_count_69 : decode cX6_count 69 = .ok (.istore_n 2, 1) := by decide +kernel
theorem dX6_count_70 : decode cX6_count 70 = .ok (.iinc 3 1, 3) := by decide +kernel
theorem dX6_count_73 : decode cX6_count 73 = .ok (.goto (-19), 3) := by decide +kernel
theorem dX6_count_76 : decode cX6_count 76 = .ok (.iload_n 1, 1) := by decide +kernel
theorem dX6_count_77 : decode cX6_count 77 = .ok (.tableswitch 202 0 13 #[71, 78, 83, 88, 93, 119, 145, 154, 163, 172, 181, 190, 195, 200], 71) := by decide +kernel
theorem dX6_count_148 : decode cX6_count 148 = .ok (.aload_n 0, 1) := by decide +kernel
theorem dX6_count_149 : decode cX6_count 149 = .ok (.getfield 7, 3) := by decide +kernel
theorem dX6_count_152 : decode cX6_count 152 = .ok (.iconst 0, 1) := by decide +kernel
theorem dX6_count_153 : decode cX6_count 153 = .ok (.iaload, 1) := by decide +kernel
theorem dX6_count_154 : decode cX6_count 154 = .ok (.ireturn, 1) := by decide +kernel
theorem dX6_count_155 : decode cX6_count 155 = .ok (.aload_n 0, 1) := by decide +kernel
theorem dX6_count_156 : decode cX6_count 156 = .ok (.getfield 45, 3) := by decide +kernel
theorem dX6_count_159 : decode cX6_count 159 = .ok (.ireturn, 1) := by decide +kernel
theorem dX6_count_160 : decode cX6_count 160 = .ok (.aload_n 0, 1) := by decide +kernel
theorem dX6_count_161 : decode cX6_count 161 = .ok (.getfield 53, 3) := by decide +kernel
theorem dX6_count_164 : decode cX6_count 164 = .ok (.ireturn, 1) := by decide +kernel
theorem dX6_count_165 : decode cX6_count 165 = .ok (.aload_n 0, 1) := by decide +kernel
theorem dX6_count_166 : decode cX6_count 166 = .ok (.getfield 56, 3) := by decide +kernel
theorem dX6_count_169 : decode cX6_count 169 = .ok (.ireturn, 1) := by decide +kernel
theorem dX6_count_170 : decode cX6_count 170 = .ok (.aload_n 0, 1) := by decide +kernel
theorem dX6_count_171 : decode cX6_count 171 = .ok (.getfield 7, 3) := by decide +kernel
theorem dX6_count_174 : decode cX6_count 174 = .ok (.sipush 301, 3) := by decide +kernel
theorem dX6_count_177 : decode cX6_count 177 = .ok (.iaload, 1) := by decide +kernel
theorem dX6_count_178 : decode cX6_count 178 = .ok (.iconst (-1), 1) := by decide +kernel
theorem dX6_count_179 : decode cX6_count 179 = .ok (.if_icmp .ne 8, 3) := by decide +kernel
theorem dX6_count_182 : decode cX6_count 182 = .ok (.bipush (-4), 2) := by decide +kernel
theorem dX6_count_184 : decode cX6_count 184 = .ok (.goto 11, 3) := by decide +kernel
theorem dX6_count_187 : decode cX6_count 187 = .ok (.aload_n 0, 1) := by decide +kernel
theorem dX6_count_188 : decode cX6_count 188 = .ok (.getfield 7, 3) := by decide +kernel
theorem dX6_count_191 : decode cX6_count 191 = .ok (.sipush 301, 3) := by decide +kernel
theorem dX6_count_194 : decode cX6_count 194 = .ok (.iaload, 1) := by decide +kernel
theorem dX6_count_195 : decode cX6_count 195 = .ok (.ireturn, 1) := by decide +kernel
theorem dX6_count_196 : decode cX6_count 196 = .ok (.aload_n 0, 1) := by decide +kernel
theorem dX6_count_197 : decode cX6_count 197 = .ok (.getfield 7, 3) := by decide +kernel
theorem dX6_count_200 : decode cX6_count 200 = .ok (.sipush 301, 3) := by decide +kernel
theorem dX6_count_203 : decode cX6_count 203 = .ok (.iaload, 1) := by decide +kernel
theorem dX6_count_204 : decode cX6_count 204 = .ok (.iconst (-1), 1) := by decide +kernel
theorem dX6_count_205 : decode cX6_count 205 = .ok (.if_icmp .ne 8, 3) := by decide +kernel
theorem dX6_count_208 : decode cX6_count 208 = .ok (.bipush (-4), 2) := by decide +kernel
theorem dX6_count_210 : decode cX6_count 210 = .ok (.goto 11, 3) := by decide +kernel
theorem dX6_count_213 : decode cX6_count 213 = .ok (.aload_n 0, 1) := by decide +kernel
theorem dX6_count_214 : decode cX6_count 214 = .ok (.getfield 7, 3) := by decide +kernel
theorem dX6_count_217 : decode cX6_count 217 = .ok (.sipush 302, 3) := by decide +kernel
theorem dX6_count_220 : decode cX6_count 220 = .ok (.iaload, 1) := by decide +kernel
theorem dX6_count_221 : decode cX6_count 221 = .ok (.ireturn, 1) := by decide +kernel
theorem dX6_count_222 : decode cX6_count 222 = .ok (.aload_n 0, 1) := by decide +kernel
theorem dX6_count_223 : decode cX6_count 223 = .ok (.getfield 7, 3) := by decide +kernel
theorem dX6_count_226 : decode cX6_count 226 = .ok (.sipush 303, 3) := by decide +kernel
theorem dX6_count_229 : decode cX6_count 229 = .ok (.iaload, 1) := by decide +kernel
theorem dX6_count_230 : decode cX6_count 230 = .ok (.ireturn, 1) := by decide +kernel
theorem dX6_count_231 : decode cX6_count 231 = .ok (.aload_n 0, 1) := by decide +kernel
theorem dX6_count_232 : decode cX6_count 232 = .ok (.getfield 7, 3) := by decide +kernel
theorem dX6_count_235 : decode cX6_count 235 = .ok (.sipush 309, 3) := by decide +kernel
theorem dX6_count_238 : decode cX6_count 238 = .ok (.iaload, 1) := by decide +kernel
theorem dX6_count_239 : decode cX6_count 239 = .ok (.ireturn, 1) := by decide +kernel
theorem dX6_count_240 : decode cX6_count 240 = .ok (.aload_n 0, 1) := by decide +kernel
theorem dX6_count_241 : decode cX6_count 241 = .ok (.getfield 7, 3) := by decide +kernel
theorem dX6_count_244 : decode cX6_count 244 = .ok (.sipush 345, 3) := by decide +kernel
theorem dX6_count_247 : decode cX6_count 247 = .ok (.iaload, 1) := by decide +kernel
theorem dX6_count_248 : decode cX6_count 248 = .ok (.ireturn, 1) := by decide +kernel
theorem dX6_count_249 : decode cX6_count 249 = .ok (.aload_n 0, 1) := by decide +kernel
theorem dX6_count_250 : decode cX6_count 250 = .ok (.getfield 7, 3) := by decide +kernel
theorem dX6_count_253 : decode cX6_count 253 = .ok (.sipush 346, 3) := by decide +kernel
theorem dX6_count_256 : decode cX6_count 256 = .ok (.iaload, 1) := by decide +kernel
theorem dX6_count_257 : decode cX6_count 257 = .ok (.ireturn, 1) := by decide +kernel
theorem dX6_count_258 : decode cX6_count 258 = .ok (.aload_n 0, 1) := by decide +kernel
theorem dX6_count_259 : decode cX6_count 259 = .ok (.getfield 7, 3) := by decide +kernel
theorem dX6_count_262 : decode cX6_count 262 = .ok (.sipush 347, 3) := by decide +kernel
theorem dX6_count_265 : decode cX6_count 265 = .ok (.iaload, 1) := by decide +kernel
theorem dX6_count_266 : decode cX6_count 266 = .ok (.ireturn, 1) := by decide +kernel
theorem dX6_count_267 : decode cX6_count 267 = .ok (.aload_n 0, 1) := by decide +kernel
theorem dX6_count_268 : decode cX6_count 268 = .ok (.getfield 59, 3) := by decide +kernel
theorem dX6_count_271 : decode cX6_count 271 = .ok (.ireturn, 1) := by decide +kernel
theorem dX6_count_272 : decode cX6_count 272 = .ok (.aload_n 0, 1) := by decide +kernel
theorem dX6_count_273 : decode cX6_count 273 = .ok (.getfield 131, 3) := by decide +kernel
theorem dX6_count_276 : decode cX6_count 276 = .ok (.ireturn, 1) := by decide +kernel
theorem dX6_count_277 : decode cX6_count 277 = .ok (.iload_n 2, 1) := by decide +kernel
theorem dX6_count_278 : decode cX6_count 278 = .ok (.ireturn, 1) := by decide +kernel
theorem dX6_count_279 : decode cX6_count 279 = .ok (.iconst (-1), 1) := by decide +kernel
theorem dX6_count_280 : decode cX6_count 280 = .ok (.ireturn, 1) := by decide +kernel
set_option maxRecDepth 20000 in
theorem ggX6_isSetting_X6_in : GoodIn wsX6_isSetting wsX6_in := goodIn_r _ [4] (by decide +kernel) (by decide +kernel)
set_option maxRecDepth 20000 in
theorem gX6_isSetting_X6_in : GoodIn wsX6_isSetting (va_wsS RX6 49 yX6_in wsX6_in) := goodIn_app (goodIn_of _ (by decide +kernel)) ggX6_isSetting_X6_in
theorem dX6_isSetting_0 : decode cX6_isSetting 0 = .ok (.iload_n 0, 1) := by decide +kernel
theorem dX6_isSetting_1 : decode cX6_isSetting 1 = .ok (.tableswitch 95 0 6 #[43, 51, 59, 59, 69, 79, 87], 43) := by decide +kernel
theorem dX6_isSetting_44 : decode cX6_isSetting 44 = .ok (.iload_n 1, 1) := by decide +kernel
theorem dX6_isSetting_45 : decode cX6_isSetting 45 = .ok (.iconst 1, 1) := by decide +kernel
theorem dX6_isSetting_46 : decode cX6_isSetting 46 = .ok (.bipush 50, 2) := by decide +kernel
theorem dX6_isSetting_48 : decode cX6_isSetting 48 = .ok (.invokestatic 49, 3) := by decide +kernel
theorem dX6_isSetting_51 : decode cX6_isSetting 51 = .ok (.ireturn, 1) := by decide +kernel
theorem dX6_isSetting_52 : decode cX6_isSetting 52 = .ok (.iload_n 1, 1) := by decide +kernel
theorem dX6_isSetting_53 : decode cX6_isSetting 53 = .ok (.iconst 1, 1) := by decide +kernel
theorem dX6_isSetting_54 : decode cX6_isSetting 54 = .ok (.bipush 10, 2) := by decide +kernel
theorem dX6_isSetting_56 : decode cX6_isSetting 56 = .ok (.invokestatic 49, 3) := by decide +kernel
theorem dX6_isSetting_59 : decode cX6_isSetting 59 = .ok (.ireturn, 1) := by decide +kernel
theorem dX6_isSetting_60 : decode cX6_isSetting 60 = .ok (.iload_n 1, 1) := by decide +kernel
theorem dX6_isSetting_61 : decode cX6_isSetting 61 = .ok (.bipush 100, 2) := by decide +kernel
theorem dX6_isSetting_63 : decode cX6_isSetting 63 = .ok (.sipush 400, 3) := by decide +kernel
theorem dX6_isSetting_66 : decode cX6_isSetting 66 = .ok (.invokestatic 49, 3) := by decide +kernel
theorem dX6_isSetting_69 : decode cX6_isSetting 69 = .ok (.ireturn, 1) := by decide +kernel
theorem dX6_isSetting_70 : decode cX6_isSetting 70 = .ok (.iload_n 1, 1) := by decide +kernel
theorem dX6_isSetting_71 : decode cX6_isSetting 71 = .ok (.bipush 100, 2) := by decide +kernel
theorem dX6_isSetting_73 : decode cX6_isSetting 73 = .ok (.sipush 300, 3) := by decide +kernel
theorem dX6_isSetting_76 : decode cX6_isSetting 76 = .ok (.invokestatic 49, 3) := by decide +kernel
theorem dX6_isSetting_79 : decode cX6_isSetting 79 = .ok (.ireturn, 1) := by decide +kernel
theorem dX6_isSetting_80 : decode cX6_isSetting 80 = .ok (.iload_n 1, 1) := by decide +kernel
theorem dX6_isSetting_81 : decode cX6_isSetting 81 = .ok (.iconst 0, 1) := by decide +kernel
theorem dX6_isSetting_82 : decode cX6_isSetting 82 = .ok (.bipush 50, 2) := by decide +kernel
theorem dX6_isSetting_84 : decode cX6_isSetting 84 = .ok (.invokestatic 49, 3) := by decide +kernel
theorem dX6_isSetting_87 : decode cX6_isSetting 87 = .ok (.ireturn, 1) := by decide +kernel
theorem dX6_isSetting_88 : decode cX6_isSetting 88 = .ok (.iload_n 1, 1) := by decide +kernel
theorem dX6_isSetting_89 : decode cX6_isSetting 89 = .ok (.iconst 0, 1) := by decide +kernel
theorem dX6_isSetting_90 : decode cX6_isSetting 90 = .ok (.bipush 20, 2) := by decide +kernel
theorem dX6_isSetting_92 : decode cX6_isSetting 92 = .ok (.invokestatic 49, 3) := by decide +kernel
theorem dX6_isSetting_95 : decode cX6_isSetting 95 = .ok (.ireturn, 1) := by decide +kernel
theorem dX6_isSetting_96 : decode cX6_isSetting 96 = .ok (.iconst 0, 1) := by decide +kernel
theorem dX6_isSetting_97 : decode cX6_isSetting 97 = .ok (.ireturn, 1) := by decide +kernel
set_option maxRecDepth 20000 in
theorem ggX6_set_X6_isSetting : GoodIn wsX6_set wsX6_isSetting := goodIn_r _ [5, 6, 7, 4, 8] (by decide +kernel) (by decide +kernel)
set_option maxRecDepth 20000 in
theorem gX6_set_X6_isSetting : GoodIn wsX6_set (va_wsS RX6 134 yX6_isSetting wsX6_isSetting) := goodIn_app (goodIn_of _ (by decide +kernel)) ggX6_set_X6_isSetting
set_option maxRecDepth 20000 in
theorem ggX6_set_X6_records : GoodIn wsX6_set wsX6_records := goodIn_r _ [12, 13, 14, 1, 15, 16, 17, 18, 19, 20, 21, 22, 23, 24, 25, 26, 27, 28, 29, 30, 31, 32, 33] (by decide +kernel) (by decide +kernel)
set_option maxRecDepth 20000 in
theorem gX6_set_X6_records : GoodIn wsX6_set (wsV RX6 110 RX6 yX6_records wsX6_records) := goodIn_app (goodIn_of _ (by decide +kernel)) ggX6_set_X6_records
theorem dX6_set_0 : decode cX6_set 0 = .ok (.iload_n 1, 1) := by decide +kernel
theorem dX6_set_1 : decode cX6_set 1 = .ok (.iload_n 2, 1) := by decide +kernel
theorem dX6_set_2 : decode cX6_set 2 = .ok (.invokestatic 134, 3) := by decide +kernel
theorem dX6_set_5 : decode cX6_set 5 = .ok (.ifCond .ne 5, 3) := by decide +kernel
theorem dX6_set_8 : decode cX6_set 8 = .ok (.iconst (-1), 1) := by decide +kernel
theorem dX6_set_9 : decode cX6_set 9 = .ok (.ireturn, 1) := by decide +kernel
theorem dX6_set_10 : decode cX6_set 10 = .ok (.aload_n 0, 1) := by decide +kernel
theorem dX6_set_11 : decode cX6_set 11 = .ok (.invokevirtual 110, 3) := by decide +kernel
theorem dX6_set_14 : decode cX6_set 14 = .ok (.aload_n 0, 1) := by decide +kernel
theorem dX6_set_15 : decode cX6_set 15 = .ok (.getfield 7, 3) := by decide +kernel
theorem dX6_set_18 : decode cX6_set 18 = .ok (.sipush 333, 3) := by decide +kernel
theorem dX6_set_21 : decode cX6_set 21 = .ok (.iload_n 1, 1) := by decide +kernel
theorem dX6_set_22 : decode cX6_set 22 = .ok (.iadd, 1) := by decide +kernel
theorem dX6_set_23 : decode cX6_set 23 = .ok (.iaload, 1) := by decide +kernel
theorem dX6_set_24 : decode cX6_set 24 = .ok (.istore_n 3, 1) := by decide +kernel
theorem dX6_set_25 : decode cX6_set 25 = .ok (.aload_n 0, 1) := by decide +kernel
theorem dX6_set_26 : decode cX6_set 26 = .ok (.getfield 7, 3) := by decide +kernel
theorem dX6_set_29 : decode cX6_set 29 = .ok (.sipush 333, 3) := by decide +kernel
theorem dX6_set_32 : decode cX6_set 32 = .ok (.iload_n 1, 1) := by decide +kernel
theorem dX6_set_33 : decode cX6_set 33 = .ok (.iadd, 1) := by decide +kernel
theorem dX6_set_34 : decode cX6_set 34 = .ok (.iload_n 2, 1) := by decide +kernel
theorem dX6_set_35 : decode cX6_set 35 = .ok (.iastore, 1) := by decide +kernel
theorem dX6_set_36 : decode cX6_set 36 = .ok (.iload_n 3, 1) := by decide +kernel
theorem dX6_set_37 : decode cX6_set 37 = .ok (.ireturn, 1) := by decide +kernel
set_option maxRecDepth 20000 in
theorem ggX6_speed_X6_in : GoodIn wsX6_speed wsX6_in := goodIn_r _ [5] (by decide +kernel) (by decide +kernel)
set_option maxRecDepth 20000 in
theorem gX6_speed_X6_in : GoodIn wsX6_speed (va_wsS RX6 49 yX6_in wsX6_in) := goodIn_app (goodIn_of _ (by decide +kernel)) ggX6_speed_X6_in
set_option maxRecDepth 20000 in
theorem ggX6_speed_X6_records : GoodIn wsX6_speed wsX6_records := goodIn_r _ [9, 10, 11, 1, 12, 13, 14, 15, 16, 17, 18, 19, 20, 21, 22, 23, 24, 25, 26, 27, 28, 29, 30] (by decide +kernel) (by decide +kernel)
set_option maxRecDepth 20000 in
theorem gX6_speed_X6_records : GoodIn wsX6_speed (wsV RX6 110 RX6 yX6_records wsX6_records) := goodIn_app (goodIn_of _ (by decide +kernel)) ggX6_speed_X6_records
theorem dX6_speed_0 : decode cX6_speed 0 = .ok (.iload_n 1, 1) := by decide +kernel
theorem dX6_speed_1 : decode cX6_speed 1 = .ok (.iconst 0, 1) := by decide +kernel
theorem dX6_speed_2 : decode cX6_speed 2 = .ok (.iconst 2, 1) := by decide +kernel
theorem dX6_speed_3 : decode cX6_speed 3 = .ok (.invokestatic 49, 3) := by decide +kernel
theorem dX6_speed_6 : decode cX6_speed 6 = .ok (.ifCond .eq 15, 3) := by decide +kernel
theorem dX6_speed_9 : decode cX6_speed 9 = .ok (.iload_n 2, 1) := by decide +kernel
theorem dX6_speed_10 : decode cX6_speed 10 = .ok (.bipush 50, 2) := by decide +kernel
theorem dX6_speed_12 : decode cX6_speed 12 = .ok (.sipush 400, 3) := by decide +kernel
theorem dX6_speed_15 : decode cX6_speed 15 = .ok (.invokestatic 49, 3) := by decide +kernel
theorem dX6_speed_18 : decode cX6_speed 18 = .ok (.ifCond .ne 5, 3) := by decide +kernel
theorem dX6_speed_21 : decode cX6_speed 21 = .ok (.iconst (-1), 1) := by decide +kernel
theorem dX6_speed_22 : decode cX6_speed 22 = .ok (.ireturn, 1) := by decide +kernel
theorem dX6_speed_23 : decode cX6_speed 23 = .ok (.aload_n 0, 1) := by decide +kernel
theorem dX6_speed_24 : decode cX6_speed 24 = .ok (.invokevirtual 110, 3) := by decide +kernel
theorem dX6_speed_27 : decode cX6_speed 27 = .ok (.aload_n 0, 1) := by decide +kernel
theorem dX6_speed_28 : decode cX6_speed 28 = .ok (.getfield 7, 3) := by decide +kernel
theorem dX6_speed_31 : decode cX6_speed 31 = .ok (.sipush 330, 3) := by decide +kernel
theorem dX6_speed_34 : decode cX6_speed 34 = .ok (.iload_n 1, 1) := by decide +kernel
theorem dX6_speed_35 : decode cX6_speed 35 = .ok (.iadd, 1) := by decide +kernel
theorem dX6_speed_36 : decode cX6_speed 36 = .ok (.iaload, 1) := by decide +kernel
theorem dX6_speed_37 : decode cX6_speed 37 = .ok (.istore_n 3, 1) := by decide +kernel
theorem dX6_speed_38 : decode cX6_speed 38 = .ok (.aload_n 0, 1) := by decide +kernel
theorem dX6_speed_39 : decode cX6_speed 39 = .ok (.getfield 7, 3) := by decide +kernel
theorem dX6_speed_42 : decode cX6_speed 42 = .ok (.sipush 330, 3) := by decide +kernel
theorem dX6_speed_45 : decode cX6_speed 45 = .ok (.iload_n 1, 1) := by decide +kernel
theorem dX6_speed_46 : decode cX6_speed 46 = .ok (.iadd, 1) := by decide +kernel
theorem dX6_speed_47 : decode cX6_speed 47 = .ok (.iload_n 2, 1) := by decide +kernel
theorem dX6_speed_48 : decode cX6_speed 48 = .ok (.iastore, 1) := by decide +kernel
theorem dX6_speed_49 : decode cX6_speed 49 = .ok (.iload_n 3, 1) := by decide +kernel
theorem dX6_speed_50 : decode cX6_speed 50 = .ok (.ireturn, 1) := by decide +kernel
set_option maxRecDepth 20000 in
theorem ggX6_run_X6_in : GoodIn wsX6_run wsX6_in := goodIn_r _ [5] (by decide +kernel) (by decide +kernel)
set_option maxRecDepth 20000 in
theorem gX6_run_X6_in : GoodIn wsX6_run (va_wsS RX6 49 yX6_in wsX6_in) := goodIn_app (goodIn_of _ (by decide +kernel)) ggX6_run_X6_in
set_option maxRecDepth 20000 in
theorem ggX6_run_X6_records : GoodIn wsX6_run wsX6_records := goodIn_r _ [9, 10, 11, 1, 53, 54, 55, 56, 57, 58, 59, 60, 61, 62, 63, 64, 65, 66, 67, 68, 69, 70, 71] (by decide +kernel) (by decide +kernel)
set_option maxRecDepth 20000 in
theorem gX6_run_X6_records : GoodIn wsX6_run (wsV RX6 110 RX6 yX6_records wsX6_records) := goodIn_app (goodIn_of _ (by decide +kernel)) ggX6_run_X6_records
set_option maxRecDepth 20000 in
theorem ggX6_run_X6_goes : GoodIn wsX6_run wsX6_goes := goodIn_r _ [15, 1, 16, 17, 18, 4, 19, 20, 21, 22, 23, 24, 25, 26, 27, 28, 29, 30, 31, 32, 33, 34, 35, 36, 37, 38, 39, 40, 41, 42, 43, 44, 45, 46, 47, 48, 49, 50, 51, 52, 53, 54, 55, 56, 57, 58, 59, 60, 61, 62, 63, 64, 65, 66, 67, 68, 69, 70, 71] (by decide +kernel) (by decide +kernel)
set_option maxRecDepth 20000 in
theorem gX6_run_X6_goes : GoodIn wsX6_run (wsV RX6 138 RX6 yX6_goes wsX6_goes) := goodIn_app (goodIn_of _ (by decide +kernel)) ggX6_run_X6_goes
theorem dX6_run_0 : decode cX6_run 0 = .ok (.iload_n 1, 1) := by decide +kernel
theorem dX6_run_1 : decode cX6_run 1 = .ok (.iconst 1, 1) := by decide +kernel
theorem dX6_run_2 : decode cX6_run 2 = .ok (.sipush 9999, 3) := by decide +kernel
theorem dX6_run_5 : decode cX6_run 5 = .ok (.invokestatic 49, 3) := by decide +kernel
theorem dX6_run_8 : decode cX6_run 8 = .ok (.ifCond .ne 5, 3) := by decide +kernel
theorem dX6_run_11 : decode cX6_run 11 = .ok (.iconst (-1), 1) := by decide +kernel
theorem dX6_run_12 : decode cX6_run 12 = .ok (.ireturn, 1) := by decide +kernel
theorem dX6_run_13 : decode cX6_run 13 = .ok (.aload_n 0, 1) := by decide +kernel
theorem dX6_run_14 : decode cX6_run 14 = .ok (.getfield 7, 3) := by decide +kernel
theorem dX6_run_17 : decode cX6_run 17 = .ok (.sipush 301, 3) := by decide +kernel
theorem dX6_run_20 : decode cX6_run 20 = .ok (.iaload, 1) := by decide +kernel
theorem dX6_run_21 : decode cX6_run 21 = .ok (.iconst (-1), 1) := by decide +kernel
theorem dX6_run_22 : decode cX6_run 22 = .ok (.if_icmp .ne 6, 3) := by decide +kernel
theorem dX6_run_25 : decode cX6_run 25 = .ok (.bipush (-2), 2) := by decide +kernel
theorem dX6_run_27 : decode cX6_run 27 = .ok (.ireturn, 1) := by decide +kernel
theorem dX6_run_28 : decode cX6_run 28 = .ok (.aload_n 0, 1) := by decide +kernel
theorem dX6_run_29 : decode cX6_run 29 = .ok (.invokevirtual 110, 3) := by decide +kernel
theorem dX6_run_32 : decode cX6_run 32 = .ok (.aload_n 0, 1) := by decide +kernel
theorem dX6_run_33 : decode cX6_run 33 = .ok (.iload_n 1, 1) := by decide +kernel
theorem dX6_run_34 : decode cX6_run 34 = .ok (.invokevirtual 138, 3) := by decide +kernel
theorem dX6_run_37 : decode cX6_run 37 = .ok (.ireturn, 1) := by decide +kernel
set_option maxRecDepth 20000 in
theorem ggX6_asks_X6_classOf : GoodIn wsX6_asks wsX6_classOf := goodIn_r _ [8, 9, 37, 38, 39, 40, 41, 42, 43, 44, 45, 46, 47, 48, 49, 50, 51, 52, 53, 54, 55] (by decide +kernel) (by decide +kernel)
set_option maxRecDepth 20000 in
theorem gX6_asks_X6_classOf : GoodIn wsX6_asks (wsV RX6 81 RX6 yX6_classOf wsX6_classOf) := goodIn_app (goodIn_of _ (by decide +kernel)) ggX6_asks_X6_classOf
set_option maxRecDepth 20000 in
theorem ggX6_asks_X6_firstOf : GoodIn wsX6_asks wsX6_firstOf := goodIn_r _ [13, 14, 3, 15, 16, 17, 7, 18, 19, 37, 38, 39, 40, 41, 42, 43, 44, 45, 46, 47, 48, 49, 50, 51, 52, 53, 54, 55] (by decide +kernel) (by decide +kernel)
set_option maxRecDepth 20000 in
theorem gX6_asks_X6_firstOf : GoodIn wsX6_asks (wsV RX6 141 RX6 yX6_firstOf wsX6_firstOf) := goodIn_app (goodIn_of _ (by decide +kernel)) ggX6_asks_X6_firstOf
set_option maxRecDepth 20000 in
theorem ggX6_asks_X6_becomes : GoodIn wsX6_asks wsX6_becomes := goodIn_r _ [23, 1, 24, 25, 26, 7, 27, 4, 5, 6, 8, 9, 28, 29, 30, 31, 19, 32, 33, 34, 35, 36, 37, 38, 39, 40, 41, 42, 43, 44, 45, 46, 47, 48, 49, 50, 51, 52, 53, 54, 55] (by decide +kernel) (by decide +kernel)
set_option maxRecDepth 20000 in
theorem gX6_asks_X6_becomes : GoodIn wsX6_asks (wsV RX6 97 RX6 yX6_becomes wsX6_becomes) := goodIn_app (goodIn_of _ (by decide +kernel)) ggX6_asks_X6_becomes
theorem dX6_asks_0 : decode cX6_asks 0 = .ok (.iconst 0, 1) := by decide +kernel
theorem dX6_asks_1 : decode cX6_asks 1 = .ok (.istore_n 1, 1) := by decide +kernel
theorem dX6_asks_2 : decode cX6_asks 2 = .ok (.iload_n 1, 1) := by decide +kernel
theorem dX6_asks_3 : decode cX6_asks 3 = .ok (.iconst 3, 1) := by decide +kernel
theorem dX6_asks_4 : decode cX6_asks 4 = .ok (.if_icmp .ge 109, 3) := by decide +kernel
theorem dX6_asks_7 : decode cX6_asks 7 = .ok (.iconst 0, 1) := by decide +kernel
theorem dX6_asks_8 : decode cX6_asks 8 = .ok (.istore_n 2, 1) := by decide +kernel
theorem dX6_asks_9 : decode cX6_asks 9 = .ok (.iconst 0, 1) := by decide +kernel
theorem dX6_asks_10 : decode cX6_asks 10 = .ok (.istore_n 3, 1) := by decide +kernel
theorem dX6_asks_11 : decode cX6_asks 11 = .ok (.iload_n 3, 1) := by decide +kernel
theorem dX6_asks_12 : decode cX6_asks 12 = .ok (.aload_n 0, 1) := by decide +kernel
theorem dX6_asks_13 : decode cX6_asks 13 = .ok (.getfield 7, 3) := by decide +kernel
theorem dX6_asks_16 : decode cX6_asks 16 = .ok (.sipush 340, 3) := by decide +kernel
theorem dX6_asks_19 : decode cX6_asks 19 = .ok (.iaload, 1) := by decide +kernel
theorem dX6_asks_20 : decode cX6_asks 20 = .ok (.if_icmp .ge 37, 3) := by decide +kernel
theorem dX6_asks_23 : decode cX6_asks 23 = .ok (.iload_n 2, 1) := by decide +kernel
theorem dX6_asks_24 : decode cX6_asks 24 = .ok (.ifCond .ne 21, 3) := by decide +kernel
theorem dX6_asks_27 : decode cX6_asks 27 = .ok (.aload_n 0, 1) := by decide +kernel
theorem dX6_asks_28 : decode cX6_asks 28 = .ok (.aload_n 0, 1) := by decide +kernel
theorem dX6_asks_29 : decode cX6_asks 29 = .ok (.getfield 7, 3) := by decide +kernel
theorem dX6_asks_32 : decode cX6_asks 32 = .ok (.sipush 341, 3) := by decide +kernel
theorem dX6_asks_35 : decode cX6_asks 35 = .ok (.iload_n 3, 1) := by decide +kernel
theorem dX6_asks_36 : decode cX6_asks 36 = .ok (.iadd, 1) := by decide +kernel
theorem dX6_asks_37 : decode cX6_asks 37 = .ok (.iaload, 1) := by decide +kernel
theorem dX6_asks_38 : decode cX6_asks 38 = .ok (.invokevirtual 81, 3) := by decide +kernel
theorem dX6_asks_41 : decode cX6_asks 41 = .ok (.iload_n 1, 1) := by decide +kernel
theorem dX6_asks_42 : decode cX6_asks 42 = .ok (.if_icmp .ne 7, 3) := by decide +kernel
theorem dX6_asks_45 : decode cX6_asks 45 = .ok (.iconst 1, 1) := by decide +kernel
theorem dX6_asks_46 : decode cX6_asks 46 = .ok (.goto 4, 3) := by decide +kernel
theorem dX6_asks_49 : decode cX6_asks 49 = .ok (.iconst 0, 1) := by decide +kernel
theorem dX6_asks_50 : decode cX6_asks 50 = .ok (.istore_n 2, 1) := by decide +kernel
theorem dX6_asks_51 : decode cX6_asks 51 = .ok (.iinc 3 1, 3) := by decide +kernel
theorem dX6_asks_54 : decode cX6_asks 54 = .ok (.goto (-43), 3) := by decide +kernel
theorem dX6_asks_57 : decode cX6_asks 57 = .ok (.aload_n 0, 1) := by decide +kernel
theorem dX6_asks_58 : decode cX6_asks 58 = .ok (.getfield 7, 3) := by decide +kernel
theorem dX6_asks_61 : decode cX6_asks 61 = .ok (.sipush 330, 3) := by decide +kernel
theorem dX6_asks_64 : decode cX6_asks 64 = .ok (.iload_n 1, 1) := by decide +kernel
theorem dX6_asks_65 : decode cX6_asks 65 = .ok (.iadd, 1) := by decide +kernel
theorem dX6_asks_66 : decode cX6_asks 66 = .ok (.iaload, 1) := by decide +kernel
theorem dX6_asks_67 : decode cX6_asks 67 = .ok (.iload_n 2, 1) := by decide +kernel
theorem dX6_asks_68 : decode cX6_asks 68 = .ok (.ifCond .eq 14, 3) := by decide +kernel
theorem dX6_asks_71 : decode cX6_asks 71 = .ok (.aload_n 0, 1) := by decide +kernel
theorem dX6_asks_72 : decode cX6_asks 72 = .ok (.getfield 7, 3) := by decide +kernel
theorem dX6_asks_75 : decode cX6_asks 75 = .ok (.sipush 338, 3) := by decide +kernel
theorem dX6_asks_78 : decode cX6_asks 78 = .ok (.iaload, 1) := by decide +kernel
theorem dX6_asks_79 : decode cX6_asks 79 = .ok (.goto 4, 3) := by decide +kernel
theorem dX6_asks_82 : decode cX6_asks 82 = .ok (.iconst 0, 1) := by decide +kernel
theorem dX6_asks_83 : decode cX6_asks 83 = .ok (.isub, 1) := by decide +kernel
theorem dX6_asks_84 : decode cX6_asks 84 = .ok (.istore_n 3, 1) := by decide +kernel
theorem dX6_asks_85 : decode cX6_asks 85 = .ok (.aload_n 0, 1) := by decide +kernel
theorem dX6_asks_86 : decode cX6_asks 86 = .ok (.getfield 7, 3) := by decide +kernel
theorem dX6_asks_89 : decode cX6_asks 89 = .ok (.sipush 330, 3) := by decide +kernel
theorem dX6_asks_92 : decode cX6_asks 92 = .ok (.iload_n 1, 1) := by decide +kernel
theorem dX6_asks_93 : decode cX6_asks 93 = .ok (.iadd, 1) := by decide +kernel
theorem dX6_asks_94 : decode cX6_asks 94 = .ok (.iload_n 3, 1) := by decide +kernel
theorem dX6_asks_95 : decode cX6_asks 95 = .ok (.bipush 50, 2) := by decide +kernel
theorem dX6_asks_97 : decode cX6_asks 97 = .ok (.if_icmp .ge 8, 3) := by decide +kernel
theorem dX6_asks_100 : decode cX6_asks 100 = .ok (.bipush 50, 2) := by decide +kernel
theorem dX6_asks_102 : decode cX6_asks 102 = .ok (.goto 4, 3) := by decide +kernel
theorem dX6_asks_105 : decode cX6_asks 105 = .ok (.iload_n 3, 1) := by decide +kernel
theorem dX6_asks_106 : decode cX6_asks 106 = .ok (.iastore, 1) := by decide +kernel
theorem dX6_asks_107 : decode cX6_asks 107 = .ok (.iinc 1 1, 3) := by decide +kernel
theorem dX6_asks_110 : decode cX6_asks 110 = .ok (.goto (-108), 3) := by decide +kernel
theorem dX6_asks_113 : decode cX6_asks 113 = .ok (.aload_n 0, 1) := by decide +kernel
theorem dX6_asks_114 : decode cX6_asks 114 = .ok (.getfield 7, 3) := by decide +kernel
theorem dX6_asks_117 : decode cX6_asks 117 = .ok (.sipush 344, 3) := by decide +kernel
theorem dX6_asks_120 : decode cX6_asks 120 = .ok (.iconst 1, 1) := by decide +kernel
theorem dX6_asks_121 : decode cX6_asks 121 = .ok (.iastore, 1) := by decide +kernel
theorem dX6_asks_122 : decode cX6_asks 122 = .ok (.aload_n 0, 1) := by decide +kernel
theorem dX6_asks_123 : decode cX6_asks 123 = .ok (.getfield 7, 3) := by decide +kernel
theorem dX6_asks_126 : decode cX6_asks 126 = .ok (.sipush 347, 3) := by decide +kernel
theorem dX6_asks_129 : decode cX6_asks 129 = .ok (.dup2, 1) := by decide +kernel
theorem dX6_asks_130 : decode cX6_asks 130 = .ok (.iaload, 1) := by decide +kernel
theorem dX6_asks_131 : decode cX6_asks 131 = .ok (.iconst 1, 1) := by decide +kernel
theorem dX6_asks_132 : decode cX6_asks 132 = .ok (.iadd, 1) := by decide +kernel
theorem dX6_asks_133 : decode cX6_asks 133 = .ok (.iastore, 1) := by decide +kernel
theorem dX6_asks_134 : decode cX6_asks 134 = .ok (.aload_n 0, 1) := by decide +kernel
theorem dX6_asks_135 : decode cX6_asks 135 = .ok (.getfield 7, 3) := by decide +kernel
theorem dX6_asks_138 : decode cX6_asks 138 = .ok (.sipush 301, 3) := by decide +kernel
theorem dX6_asks_141 : decode cX6_asks 141 = .ok (.iaload, 1) := by decide +kernel
theorem dX6_asks_142 : decode cX6_asks 142 = .ok (.iconst (-1), 1) := by decide +kernel
theorem dX6_asks_143 : decode cX6_asks 143 = .ok (.if_icmp .ne 10, 3) := by decide +kernel
theorem dX6_asks_146 : decode cX6_asks 146 = .ok (.aload_n 0, 1) := by decide +kernel
theorem dX6_asks_147 : decode cX6_asks 147 = .ok (.getfield 53, 3) := by decide +kernel
theorem dX6_asks_150 : decode cX6_asks 150 = .ok (.goto 16, 3) := by decide +kernel
theorem dX6_asks_153 : decode cX6_asks 153 = .ok (.aload_n 0, 1) := by decide +kernel
theorem dX6_asks_154 : decode cX6_asks 154 = .ok (.getfield 39, 3) := by decide +kernel
theorem dX6_asks_157 : decode cX6_asks 157 = .ok (.aload_n 0, 1) := by decide +kernel
theorem dX6_asks_158 : decode cX6_asks 158 = .ok (.getfield 7, 3) := by decide +kernel
theorem dX6_asks_161 : decode cX6_asks 161 = .ok (.sipush 301, 3) := by decide +kernel
theorem dX6_asks_164 : decode cX6_asks 164 = .ok (.iaload, 1) := by decide +kernel
theorem dX6_asks_165 : decode cX6_asks 165 = .ok (.iaload, 1) := by decide +kernel
theorem dX6_asks_166 : decode cX6_asks 166 = .ok (.istore_n 1, 1) := by decide +kernel
theorem dX6_asks_167 : decode cX6_asks 167 = .ok (.aload_n 0, 1) := by decide +kernel
theorem dX6_asks_168 : decode cX6_asks 168 = .ok (.getfield 7, 3) := by decide +kernel
theorem dX6_asks_171 : decode cX6_asks 171 = .ok (.sipush 301, 3) := by decide +kernel
theorem dX6_asks_174 : decode cX6_asks 174 = .ok (.iaload, 1) := by decide +kernel
theorem dX6_asks_175 : decode cX6_asks 175 = .ok (.iconst (-1), 1) := by decide +kernel
theorem dX6_asks_176 : decode cX6_asks 176 = .ok (.if_icmp .ne 7, 3) := by decide +kernel
theorem dX6_asks_179 : decode cX6_asks 179 = .ok (.iconst (-1), 1) := by decide +kernel
theorem dX6_asks_180 : decode cX6_asks 180 = .ok (.goto 8, 3) := by decide +kernel
theorem dX6_asks_183 : decode cX6_asks 183 = .ok (.aload_n 0, 1) := by decide +kernel
theorem dX6_asks_184 : decode cX6_asks 184 = .ok (.iload_n 1, 1) := by decide +kernel
theorem dX6_asks_185 : decode cX6_asks 185 = .ok (.invokevirtual 141, 3) := by decide +kernel
theorem dX6_asks_188 : decode cX6_asks 188 = .ok (.istore_n 2, 1) := by decide +kernel
theorem dX6_asks_189 : decode cX6_asks 189 = .ok (.iload_n 2, 1) := by decide +kernel
theorem dX6_asks_190 : decode cX6_asks 190 = .ok (.aload_n 0, 1) := by decide +kernel
theorem dX6_asks_191 : decode cX6_asks 191 = .ok (.getfield 7, 3) := by decide +kernel
theorem dX6_asks_194 : decode cX6_asks 194 = .ok (.sipush 301, 3) := by decide +kernel
theorem dX6_asks_197 : decode cX6_asks 197 = .ok (.iaload, 1) := by decide +kernel
theorem dX6_asks_198 : decode cX6_asks 198 = .ok (.if_icmp .ne 59, 3) := by decide +kernel
theorem dX6_asks_201 : decode cX6_asks 201 = .ok (.iconst (-1), 1) := by decide +kernel
theorem dX6_asks_202 : decode cX6_asks 202 = .ok (.istore_n 3, 1) := by decide +kernel
theorem dX6_asks_203 : decode cX6_asks 203 = .ok (.iconst 0, 1) := by decide +kernel
theorem dX6_asks_204 : decode cX6_asks 204 = .ok (.istore 4, 2) := by decide +kernel
theorem dX6_asks_206 : decode cX6_asks 206 = .ok (.iload 4, 2) := by decide +kernel
theorem dX6_asks_208 : decode cX6_asks 208 = .ok (.iload_n 1, 1) := by decide +kernel
theorem dX6_asks_209 : decode cX6_asks 209 = .ok (.if_icmp .ge 30, 3) := by decide +kernel
theorem dX6_asks_212 : decode cX6_asks 212 = .ok (.aload_n 0, 1) := by decide +kernel
theorem dX6_asks_213 : decode cX6_asks 213 = .ok (.iload 4, 2) := by decide +kernel
theorem dX6_asks_215 : decode cX6_asks 215 = .ok (.invokevirtual 141, 3) := by decide +kernel
theorem dX6_asks_218 : decode cX6_asks 218 = .ok (.iconst (-1), 1) := by decide +kernel
theorem dX6_asks_219 : decode cX6_asks 219 = .ok (.if_icmp .ne 7, 3) := by decide +kernel
theorem dX6_asks_222 : decode cX6_asks 222 = .ok (.iload_n 3, 1) := by decide +kernel
theorem dX6_asks_223 : decode cX6_asks 223 = .ok (.goto 9, 3) := by decide +kernel
theorem dX6_asks_226 : decode cX6_asks 226 = .ok (.aload_n 0, 1) := by decide +kernel
theorem dX6_asks_227 : decode cX6_asks 227 = .ok (.iload 4, 2) := by decide +kernel
theorem dX6_asks_229 : decode cX6_asks 229 = .ok (.invokevirtual 141, 3) := by decide +kernel
theorem dX6_asks_232 : decode cX6_asks 232 = .ok (.istore_n 3, 1) := by decide +kernel
theorem dX6_asks_233 : decode cX6_asks 233 = .ok (.iinc 4 1, 3) := by decide +kernel
theorem dX6_asks_236 : decode cX6_asks 236 = .ok (.goto (-30), 3) := by decide +kernel
theorem dX6_asks_239 : decode cX6_asks 239 = .ok (.iload_n 3, 1) := by decide +kernel
theorem dX6_asks_240 : decode cX6_asks 240 = .ok (.iconst (-1), 1) := by decide +kernel
theorem dX6_asks_241 : decode cX6_asks 241 = .ok (.if_icmp .ne 14, 3) := by decide +kernel
theorem dX6_asks_244 : decode cX6_asks 244 = .ok (.aload_n 0, 1) := by decide +kernel
theorem dX6_asks_245 : decode cX6_asks 245 = .ok (.getfield 7, 3) := by decide +kernel
theorem dX6_asks_248 : decode cX6_asks 248 = .ok (.sipush 301, 3) := by decide +kernel
theorem dX6_asks_251 : decode cX6_asks 251 = .ok (.iaload, 1) := by decide +kernel
theorem dX6_asks_252 : decode cX6_asks 252 = .ok (.goto 4, 3) := by decide +kernel
theorem dX6_asks_255 : decode cX6_asks 255 = .ok (.iload_n 3, 1) := by decide +kernel
theorem dX6_asks_256 : decode cX6_asks 256 = .ok (.istore_n 2, 1) := by decide +kernel
theorem dX6_asks_257 : decode cX6_asks 257 = .ok (.aload_n 0, 1) := by decide +kernel
theorem dX6_asks_258 : decode cX6_asks 258 = .ok (.iload_n 2, 1) := by decide +kernel
theorem dX6_asks_259 : decode cX6_asks 259 = .ok (.invokevirtual 97, 3) := by decide +kernel
theorem dX6_asks_262 : decode cX6_asks 262 = .ok (.return_, 1) := by decide +kernel
set_option maxRecDepth 20000 in
theorem ggX6_back_X6_firstShown : GoodIn wsX6_back wsX6_firstShown := goodIn_r _ [6, 7, 8, 9, 10, 5, 11, 12, 51, 52, 53, 54, 55, 56, 57, 58, 59, 60, 61, 62, 63, 64, 65, 66, 67, 68, 69] (by decide +kernel) (by decide +kernel)
set_option maxRecDepth 20000 in
theorem gX6_back_X6_firstShown : GoodIn wsX6_back (wsV RX6 106 RX6 yX6_firstShown wsX6_firstShown) := goodIn_app (goodIn_of _ (by decide +kernel)) ggX6_back_X6_firstShown
set_option maxRecDepth 20000 in
theorem ggX6_back_X6_records : GoodIn wsX6_back wsX6_records := goodIn_r _ [16, 17, 18, 1, 51, 52, 53, 54, 55, 56, 57, 58, 59, 60, 61, 62, 63, 64, 65, 66, 67, 68, 69] (by decide +kernel) (by decide +kernel)
set_option maxRecDepth 20000 in
theorem gX6_back_X6_records : GoodIn wsX6_back (wsV RX6 110 RX6 yX6_records wsX6_records) := goodIn_app (goodIn_of _ (by decide +kernel)) ggX6_back_X6_records
set_option maxRecDepth 20000 in
theorem ggX6_back_X6_asks : GoodIn wsX6_back wsX6_asks := goodIn_r _ [22, 1, 23, 24, 25, 26, 27, 5, 28, 29, 30, 31, 32, 33, 7, 8, 9, 10, 11, 12, 34, 35, 36, 37, 38, 39, 40, 41, 42, 43, 44, 45, 46, 47, 48, 49, 50, 51, 52, 53, 54, 55, 56, 57, 58, 59, 60, 61, 62, 63, 64, 65, 66, 67, 68, 69] (by decide +kernel) (by decide +kernel)
set_option maxRecDepth 20000 in
theorem gX6_back_X6_asks : GoodIn wsX6_back (wsV RX6 144 RX6 yX6_asks wsX6_asks) := goodIn_app (goodIn_of _ (by decide +kernel)) ggX6_back_X6_asks
theorem dX6_back_0 : decode cX6_back 0 = .ok (.aload_n 0, 1) := by decide +kernel
theorem dX6_back_1 : decode cX6_back 1 = .ok (.invokevirtual 106, 3) := by decide +kernel
theorem dX6_back_4 : decode cX6_back 4 = .ok (.iconst (-1), 1) := by decide +kernel
theorem dX6_back_5 : decode cX6_back 5 = .ok (.if_icmp .ne 6, 3) := by decide +kernel
theorem dX6_back_8 : decode cX6_back 8 = .ok (.bipush (-2), 2) := by decide +kernel
theorem dX6_back_10 : decode cX6_back 10 = .ok (.ireturn, 1) := by decide +kernel
theorem dX6_back_11 : decode cX6_back 11 = .ok (.aload_n 0, 1) := by decide +kernel
theorem dX6_back_12 : decode cX6_back 12 = .ok (.invokevirtual 110, 3) := by decide +kernel
theorem dX6_back_15 : decode cX6_back 15 = .ok (.aload_n 0, 1) := by decide +kernel
theorem dX6_back_16 : decode cX6_back 16 = .ok (.invokevirtual 144, 3) := by decide +kernel
theorem dX6_back_19 : decode cX6_back 19 = .ok (.aload_n 0, 1) := by decide +kernel
theorem dX6_back_20 : decode cX6_back 20 = .ok (.getfield 7, 3) := by decide +kernel
theorem dX6_back_23 : decode cX6_back 23 = .ok (.sipush 301, 3) := by decide +kernel
theorem dX6_back_26 : decode cX6_back 26 = .ok (.iaload, 1) := by decide +kernel
theorem dX6_back_27 : decode cX6_back 27 = .ok (.ireturn, 1) := by decide +kernel
set_option maxRecDepth 20000 in
theorem ggX6_canJump_X6_isSentence : GoodIn wsX6_canJump wsX6_isSentence := goodIn_r _ [6, 7, 8, 9, 5, 10, 22, 23, 24, 25, 26, 27, 28, 29, 30, 31, 32, 33, 34, 35, 36, 37, 38, 39, 40] (by decide +kernel) (by decide +kernel)
set_option maxRecDepth 20000 in
theorem gX6_canJump_X6_isSentence : GoodIn wsX6_canJump (wsV RX6 125 RX6 yX6_isSentence wsX6_isSentence) := goodIn_app (goodIn_of _ (by decide +kernel)) ggX6_canJump_X6_isSentence
set_option maxRecDepth 20000 in
theorem ggX6_canJump_X6_firstOf : GoodIn wsX6_canJump wsX6_firstOf := goodIn_r _ [14, 15, 16, 17, 18, 19, 5, 20, 21, 22, 23, 24, 25, 26, 27, 28, 29, 30, 31, 32, 33, 34, 35, 36, 37, 38, 39, 40] (by decide +kernel) (by decide +kernel)
set_option maxRecDepth 20000 in
theorem gX6_canJump_X6_firstOf : GoodIn wsX6_canJump (wsV RX6 141 RX6 yX6_firstOf wsX6_firstOf) := goodIn_app (goodIn_of _ (by decide +kernel)) ggX6_canJump_X6_firstOf
theorem dX6_canJump_0 : decode cX6_canJump 0 = .ok (.aload_n 0, 1) := by decide +kernel
theorem dX6_canJump_1 : decode cX6_canJump 1 = .ok (.iload_n 1, 1) := by decide +kernel
theorem dX6_canJump_2 : decode cX6_canJump 2 = .ok (.invokevirtual 125, 3) := by decide +kernel
theorem dX6_canJump_5 : decode cX6_canJump 5 = .ok (.ifCond .eq 28, 3) := by decide +kernel
theorem dX6_canJump_8 : decode cX6_canJump 8 = .ok (.aload_n 0, 1) := by decide +kernel
theorem dX6_canJump_9 : decode cX6_canJump 9 = .ok (.iload_n 1, 1) := by decide +kernel
theorem dX6_canJump_10 : decode cX6_canJump 10 = .ok (.invokevirtual 141, 3) := by decide +kernel
theorem dX6_canJump_13 : decode cX6_canJump 13 = .ok (.iconst (-1), 1) := by decide +kernel
theorem dX6_canJump_14 : decode cX6_canJump 14 = .ok (.if_icmp .eq 19, 3) := by decide +kernel
theorem dX6_canJump_17 : decode cX6_canJump 17 = .ok (.aload_n 0, 1) := by decide +kernel
theorem dX6_canJump_18 : decode cX6_canJump 18 = .ok (.getfield 7, 3) := by decide +kernel
theorem dX6_canJump_21 : decode cX6_canJump 21 = .ok (.sipush 301, 3) := by decide +kernel
theorem dX6_canJump_24 : decode cX6_canJump 24 = .ok (.iaload, 1) := by decide +kernel
theorem dX6_canJump_25 : decode cX6_canJump 25 = .ok (.iconst (-1), 1) := by decide +kernel
theorem dX6_canJump_26 : decode cX6_canJump 26 = .ok (.if_icmp .eq 7, 3) := by decide +kernel
theorem dX6_canJump_29 : decode cX6_canJump 29 = .ok (.iconst 1, 1) := by decide +kernel
theorem dX6_canJump_30 : decode cX6_canJump 30 = .ok (.goto 4, 3) := by decide +kernel
theorem dX6_canJump_33 : decode cX6_canJump 33 = .ok (.iconst 0, 1) := by decide +kernel
theorem dX6_canJump_34 : decode cX6_canJump 34 = .ok (.ireturn, 1) := by decide +kernel
set_option maxRecDepth 20000 in
theorem ggX6_jumps_X6_firstOf : GoodIn wsX6_jumps wsX6_firstOf := goodIn_r _ [6, 7, 8, 9, 10, 11, 5, 12, 13, 36, 37, 38, 39, 40, 41, 42, 43, 44, 45, 46, 47, 48, 49, 50, 51, 52, 53, 54] (by decide +kernel) (by decide +kernel)
set_option maxRecDepth 20000 in
theorem gX6_jumps_X6_firstOf : GoodIn wsX6_jumps (wsV RX6 141 RX6 yX6_firstOf wsX6_firstOf) := goodIn_app (goodIn_of _ (by decide +kernel)) ggX6_jumps_X6_firstOf
set_option maxRecDepth 20000 in
theorem ggX6_jumps_X6_becomes : GoodIn wsX6_jumps wsX6_becomes := goodIn_r _ [17, 1, 18, 19, 20, 5, 21, 22, 23, 24, 25, 26, 27, 28, 29, 30, 13, 31, 32, 33, 34, 35, 36, 37, 38, 39, 40, 41, 42, 43, 44, 45, 46, 47, 48, 49, 50, 51, 52, 53, 54] (by decide +kernel) (by decide +kernel)
set_option maxRecDepth 20000 in
theorem gX6_jumps_X6_becomes : GoodIn wsX6_jumps (wsV RX6 97 RX6 yX6_becomes wsX6_becomes) := goodIn_app (goodIn_of _ (by decide +kernel)) ggX6_jumps_X6_becomes
theorem dX6_jumps_0 : decode cX6_jumps 0 = .ok (.aload_n 0, 1) := by decide +kernel
theorem dX6_jumps_1 : decode cX6_jumps 1 = .ok (.getfield 7, 3) := by decide +kernel
theorem dX6_jumps_4 : decode cX6_jumps 4 = .ok (.sipush 303, 3) := by decide +kernel
theorem dX6_jumps_7 : decode cX6_jumps 7 = .ok (.iaload, 1) := by decide +kernel
theorem dX6_jumps_8 : decode cX6_jumps 8 = .ok (.iconst 5, 1) := by decide +kernel
theorem dX6_jumps_9 : decode cX6_jumps 9 = .ok (.if_icmp .ne 50, 3) := by decide +kernel
theorem dX6_jumps_12 : decode cX6_jumps 12 = .ok (.iconst 0, 1) := by decide +kernel
theorem dX6_jumps_13 : decode cX6_jumps 13 = .ok (.istore_n 2, 1) := by decide +kernel
theorem dX6_jumps_14 : decode cX6_jumps 14 = .ok (.iload_n 2, 1) := by decide +kernel
theorem dX6_jumps_15 : decode cX6_jumps 15 = .ok (.iconst 4, 1) := by decide +kernel
theorem dX6_jumps_16 : decode cX6_jumps 16 = .ok (.if_icmp .ge 31, 3) := by decide +kernel
theorem dX6_jumps_19 : decode cX6_jumps 19 = .ok (.aload_n 0, 1) := by decide +kernel
theorem dX6_jumps_20 : decode cX6_jumps 20 = .ok (.getfield 7, 3) := by decide +kernel
theorem dX6_jumps_23 : decode cX6_jumps 23 = .ok (.sipush 304, 3) := by decide +kernel
theorem dX6_jumps_26 : decode cX6_jumps 26 = .ok (.iload_n 2, 1) := by decide +kernel
theorem dX6_jumps_27 : decode cX6_jumps 27 = .ok (.iadd, 1) := by decide +kernel
theorem dX6_jumps_28 : decode cX6_jumps 28 = .ok (.aload_n 0, 1) := by decide +kernel
theorem dX6_jumps_29 : decode cX6_jumps 29 = .ok (.getfield 7, 3) := by decide +kernel
theorem dX6_jumps_32 : decode cX6_jumps 32 = .ok (.sipush 304, 3) := by decide +kernel
theorem dX6_jumps_35 : decode cX6_jumps 35 = .ok (.iload_n 2, 1) := by decide +kernel
theorem dX6_jumps_36 : decode cX6_jumps 36 = .ok (.iadd, 1) := by decide +kernel
theorem dX6_jumps_37 : decode cX6_jumps 37 = .ok (.iconst 1, 1) := by decide +kernel
theorem dX6_jumps_38 : decode cX6_jumps 38 = .ok (.iadd, 1) := by decide +kernel
theorem dX6_jumps_39 : decode cX6_jumps 39 = .ok (.iaload, 1) := by decide +kernel
theorem dX6_jumps_40 : decode cX6_jumps 40 = .ok (.iastore, 1) := by decide +kernel
theorem dX6_jumps_41 : decode cX6_jumps 41 = .ok (.iinc 2 1, 3) := by decide +kernel
theorem dX6_jumps_44 : decode cX6_jumps 44 = .ok (.goto (-30), 3) := by decide +kernel
theorem dX6_jumps_47 : decode cX6_jumps 47 = .ok (.aload_n 0, 1) := by decide +kernel
theorem dX6_jumps_48 : decode cX6_jumps 48 = .ok (.getfield 7, 3) := by decide +kernel
theorem dX6_jumps_51 : decode cX6_jumps 51 = .ok (.sipush 303, 3) := by decide +kernel
theorem dX6_jumps_54 : decode cX6_jumps 54 = .ok (.dup2, 1) := by decide +kernel
theorem dX6_jumps_55 : decode cX6_jumps 55 = .ok (.iaload, 1) := by decide +kernel
theorem dX6_jumps_56 : decode cX6_jumps 56 = .ok (.iconst 1, 1) := by decide +kernel
theorem dX6_jumps_57 : decode cX6_jumps 57 = .ok (.isub, 1) := by decide +kernel
theorem dX6_jumps_58 : decode cX6_jumps 58 = .ok (.iastore, 1) := by decide +kernel
theorem dX6_jumps_59 : decode cX6_jumps 59 = .ok (.aload_n 0, 1) := by decide +kernel
theorem dX6_jumps_60 : decode cX6_jumps 60 = .ok (.getfield 7, 3) := by decide +kernel
theorem dX6_jumps_63 : decode cX6_jumps 63 = .ok (.sipush 304, 3) := by decide +kernel
theorem dX6_jumps_66 : decode cX6_jumps 66 = .ok (.aload_n 0, 1) := by decide +kernel
theorem dX6_jumps_67 : decode cX6_jumps 67 = .ok (.getfield 7, 3) := by decide +kernel
theorem dX6_jumps_70 : decode cX6_jumps 70 = .ok (.sipush 303, 3) := by decide +kernel
theorem dX6_jumps_73 : decode cX6_jumps 73 = .ok (.iaload, 1) := by decide +kernel
theorem dX6_jumps_74 : decode cX6_jumps 74 = .ok (.iadd, 1) := by decide +kernel
theorem dX6_jumps_75 : decode cX6_jumps 75 = .ok (.aload_n 0, 1) := by decide +kernel
theorem dX6_jumps_76 : decode cX6_jumps 76 = .ok (.getfield 7, 3) := by decide +kernel
theorem dX6_jumps_79 : decode cX6_jumps 79 = .ok (.sipush 301, 3) := by decide +kernel
theorem dX6_jumps_82 : decode cX6_jumps 82 = .ok (.iaload, 1) := by decide +kernel
theorem dX6_jumps_83 : decode cX6_jumps 83 = .ok (.iastore, 1) := by decide +kernel
theorem dX6_jumps_84 : decode cX6_jumps 84 = .ok (.aload_n 0, 1) := by decide +kernel
theorem dX6_jumps_85 : decode cX6_jumps 85 = .ok (.getfield 7, 3) := by decide +kernel
theorem dX6_jumps_88 : decode cX6_jumps 88 = .ok (.sipush 303, 3) := by decide +kernel
theorem dX6_jumps_91 : decode cX6_jumps 91 = .ok (.dup2, 1) := by decide +kernel
theorem dX6_jumps_92 : decode cX6_jumps 92 = .ok (.iaload, 1) := by decide +kernel
theorem dX6_jumps_93 : decode cX6_jumps 93 = .ok (.iconst 1, 1) := by decide +kernel
theorem dX6_jumps_94 : decode cX6_jumps 94 = .ok (.iadd, 1) := by decide +kernel
theorem dX6_jumps_95 : decode cX6_jumps 95 = .ok (.iastore, 1) := by decide +kernel
theorem dX6_jumps_96 : decode cX6_jumps 96 = .ok (.aload_n 0, 1) := by decide +kernel
theorem dX6_jumps_97 : decode cX6_jumps 97 = .ok (.getfield 7, 3) := by decide +kernel
theorem dX6_jumps_100 : decode cX6_jumps 100 = .ok (.sipush 344, 3) := by decide +kernel
theorem dX6_jumps_103 : decode cX6_jumps 103 = .ok (.iconst 0, 1) := by decide +kernel
theorem dX6_jumps_104 : decode cX6_jumps 104 = .ok (.iastore, 1) := by decide +kernel
theorem dX6_jumps_105 : decode cX6_jumps 105 = .ok (.aload_n 0, 1) := by decide +kernel
theorem dX6_jumps_106 : decode cX6_jumps 106 = .ok (.aload_n 0, 1) := by decide +kernel
theorem dX6_jumps_107 : decode cX6_jumps 107 = .ok (.iload_n 1, 1) := by decide +kernel
theorem dX6_jumps_108 : decode cX6_jumps 108 = .ok (.invokevirtual 141, 3) := by decide +kernel
theorem dX6_jumps_111 : decode cX6_jumps 111 = .ok (.invokevirtual 97, 3) := by decide +kernel
theorem dX6_jumps_114 : decode cX6_jumps 114 = .ok (.return_, 1) := by decide +kernel
set_option maxRecDepth 20000 in
theorem ggX6_jump_X6_isSentence : GoodIn wsX6_jump wsX6_isSentence := goodIn_r _ [6, 7, 8, 9, 5, 10, 58, 59, 60, 61, 62, 63, 64, 65, 66, 67, 68, 69, 70, 71, 72, 73, 74, 75, 76] (by decide +kernel) (by decide +kernel)
set_option maxRecDepth 20000 in
theorem gX6_jump_X6_isSentence : GoodIn wsX6_jump (wsV RX6 125 RX6 yX6_isSentence wsX6_isSentence) := goodIn_app (goodIn_of _ (by decide +kernel)) ggX6_jump_X6_isSentence
set_option maxRecDepth 20000 in
theorem ggX6_jump_X6_canJump : GoodIn wsX6_jump wsX6_canJump := goodIn_r _ [14, 1, 2, 3, 4, 5, 6, 7, 8, 9, 10, 15, 16, 17, 18, 19, 20, 21, 22, 23, 24, 25, 58, 59, 60, 61, 62, 63, 64, 65, 66, 67, 68, 69, 70, 71, 72, 73, 74, 75, 76] (by decide +kernel) (by decide +kernel)
set_option maxRecDepth 20000 in
theorem gX6_jump_X6_canJump : GoodIn wsX6_jump (wsV RX6 147 RX6 yX6_canJump wsX6_canJump) := goodIn_app (goodIn_of _ (by decide +kernel)) ggX6_jump_X6_canJump
set_option maxRecDepth 20000 in
theorem ggX6_jump_X6_records : GoodIn wsX6_jump wsX6_records := goodIn_r _ [29, 30, 31, 1, 58, 59, 60, 61, 62, 63, 64, 65, 66, 67, 68, 69, 70, 71, 72, 73, 74, 75, 76] (by decide +kernel) (by decide +kernel)
set_option maxRecDepth 20000 in
theorem gX6_jump_X6_records : GoodIn wsX6_jump (wsV RX6 110 RX6 yX6_records wsX6_records) := goodIn_app (goodIn_of _ (by decide +kernel)) ggX6_jump_X6_records
set_option maxRecDepth 20000 in
theorem ggX6_jump_X6_jumps : GoodIn wsX6_jump wsX6_jumps := goodIn_r _ [35, 1, 15, 16, 17, 5, 18, 19, 20, 21, 22, 23, 24, 25, 36, 37, 38, 39, 40, 41, 42, 43, 44, 45, 46, 47, 48, 49, 50, 51, 52, 53, 54, 55, 56, 57, 58, 59, 60, 61, 62, 63, 64, 65, 66, 67, 68, 69, 70, 71, 72, 73, 74, 75, 76] (by decide +kernel) (by decide +kernel)
set_option maxRecDepth 20000 in
theorem gX6_jump_X6_jumps : GoodIn wsX6_jump (wsV RX6 150 RX6 yX6_jumps wsX6_jumps) := goodIn_app (goodIn_of _ (by decide +kernel)) ggX6_jump_X6_jumps
theorem dX6_jump_0 : decode cX6_jump 0 = .ok (.aload_n 0, 1) := by decide +kernel
theorem dX6_jump_1 : decode cX6_jump 1 = .ok (.iload_n 1, 1) := by decide +kernel
theorem dX6_jump_2 : decode cX6_jump 2 = .ok (.invokevirtual 125, 3) := by decide +kernel
theorem dX6_jump_5 : decode cX6_jump 5 = .ok (.ifCond .ne 5, 3) := by decide +kernel
theorem dX6_jump_8 : decode cX6_jump 8 = .ok (.iconst (-1), 1) := by decide +kernel
theorem dX6_jump_9 : decode cX6_jump 9 = .ok (.ireturn, 1) := by decide +kernel
theorem dX6_jump_10 : decode cX6_jump 10 = .ok (.aload_n 0, 1) := by decide +kernel
theorem dX6_jump_11 : decode cX6_jump 11 = .ok (.iload_n 1, 1) := by decide +kernel
theorem dX6_jump_12 : decode cX6_jump 12 = .ok (.invokevirtual 147, 3) := by decide +kernel
theorem dX6_jump_15 : decode cX6_jump 15 = .ok (.ifCond .ne 6, 3) := by decide +kernel
theorem dX6_jump_18 : decode cX6_jump 18 = .ok (.bipush (-2), 2) := by decide +kernel
theorem dX6_jump_20 : decode cX6_jump 20 = .ok (.ireturn, 1) := by decide +kernel
theorem dX6_jump_21 : decode cX6_jump 21 = .ok (.aload_n 0, 1) := by decide +kernel
theorem dX6_jump_22 : decode cX6_jump 22 = .ok (.invokevirtual 110, 3) := by decide +kernel
theorem dX6_jump_25 : decode cX6_jump 25 = .ok (.aload_n 0, 1) := by decide +kernel
theorem dX6_jump_26 : decode cX6_jump 26 = .ok (.iload_n 1, 1) := by decide +kernel
theorem dX6_jump_27 : decode cX6_jump 27 = .ok (.invokevirtual 150, 3) := by decide +kernel
theorem dX6_jump_30 : decode cX6_jump 30 = .ok (.aload_n 0, 1) := by decide +kernel
theorem dX6_jump_31 : decode cX6_jump 31 = .ok (.getfield 7, 3) := by decide +kernel
theorem dX6_jump_34 : decode cX6_jump 34 = .ok (.sipush 301, 3) := by decide +kernel
theorem dX6_jump_37 : decode cX6_jump 37 = .ok (.iaload, 1) := by decide +kernel
theorem dX6_jump_38 : decode cX6_jump 38 = .ok (.ireturn, 1) := by decide +kernel
set_option maxRecDepth 20000 in
theorem ggX6_returns_X6_becomes : GoodIn wsX6_returns wsX6_becomes := goodIn_r _ [6, 1, 7, 8, 9, 5, 10, 11, 12, 13, 14, 15, 16, 17, 18, 19, 20, 21, 22, 23, 24, 25, 26, 27, 28, 29, 30, 31, 32, 33, 34, 35, 36, 37, 38, 39, 40, 41, 42, 43, 44] (by decide +kernel) (by decide +kernel)
set_option maxRecDepth 20000 in
theorem gX6_returns_X6_becomes : GoodIn wsX6_returns (wsV RX6 97 RX6 yX6_becomes wsX6_becomes) := goodIn_app (goodIn_of _ (by decide +kernel)) ggX6_returns_X6_becomes
theorem dX6_returns_0 : decode cX6_returns 0 = .ok (.aload_n 0, 1) := by decide +kernel
theorem dX6_returns_1 : decode cX6_returns 1 = .ok (.getfield 7, 3) := by decide +kernel
theorem dX6_returns_4 : decode cX6_returns 4 = .ok (.sipush 303, 3) := by decide +kernel
theorem dX6_returns_7 : decode cX6_returns 7 = .ok (.dup2, 1) := by decide +kernel
theorem dX6_returns_8 : decode cX6_returns 8 = .ok (.iaload, 1) := by decide +kernel
theorem dX6_returns_9 : decode cX6_returns 9 = .ok (.iconst 1, 1) := by decide +kernel
theorem dX6_returns_10 : decode cX6_returns 10 = .ok (.isub, 1) := by decide +kernel
theorem dX6_returns_11 : decode cX6_returns 11 = .ok (.iastore, 1) := by decide +kernel
theorem dX6_returns_12 : decode cX6_returns 12 = .ok (.aload_n 0, 1) := by decide +kernel
theorem dX6_returns_13 : decode cX6_returns 13 = .ok (.getfield 7, 3) := by decide +kernel
theorem dX6_returns_16 : decode cX6_returns 16 = .ok (.sipush 344, 3) := by decide +kernel
theorem dX6_returns_19 : decode cX6_returns 19 = .ok (.iconst 0, 1) := by decide +kernel
theorem dX6_returns_20 : decode cX6_returns 20 = .ok (.iastore, 1) := by decide +kernel
theorem dX6_returns_21 : decode cX6_returns 21 = .ok (.aload_n 0, 1) := by decide +kernel
theorem dX6_returns_22 : decode cX6_returns 22 = .ok (.aload_n 0, 1) := by decide +kernel
theorem dX6_returns_23 : decode cX6_returns 23 = .ok (.getfield 7, 3) := by decide +kernel
theorem dX6_returns_26 : decode cX6_returns 26 = .ok (.sipush 304, 3) := by decide +kernel
theorem dX6_returns_29 : decode cX6_returns 29 = .ok (.aload_n 0, 1) := by decide +kernel
theorem dX6_returns_30 : decode cX6_returns 30 = .ok (.getfield 7, 3) := by decide +kernel
theorem dX6_returns_33 : decode cX6_returns 33 = .ok (.sipush 303, 3) := by decide +kernel
theorem dX6_returns_36 : decode cX6_returns 36 = .ok (.iaload, 1) := by decide +kernel
theorem dX6_returns_37 : decode cX6_returns 37 = .ok (.iadd, 1) := by decide +kernel
theorem dX6_returns_38 : decode cX6_returns 38 = .ok (.iaload, 1) := by decide +kernel
theorem dX6_returns_39 : decode cX6_returns 39 = .ok (.invokevirtual 97, 3) := by decide +kernel
theorem dX6_returns_42 : decode cX6_returns 42 = .ok (.return_, 1) := by decide +kernel
set_option maxRecDepth 20000 in
theorem ggX6_goBack_X6_records : GoodIn wsX6_goBack wsX6_records := goodIn_r _ [6, 7, 8, 1, 36, 37, 38, 39, 40, 41, 42, 43, 44, 45, 46, 47, 48, 49, 50, 51, 52, 53, 54] (by decide +kernel) (by decide +kernel)
set_option maxRecDepth 20000 in
theorem gX6_goBack_X6_records : GoodIn wsX6_goBack (wsV RX6 110 RX6 yX6_records wsX6_records) := goodIn_app (goodIn_of _ (by decide +kernel)) ggX6_goBack_X6_records
set_option maxRecDepth 20000 in
theorem ggX6_goBack_X6_returns : GoodIn wsX6_goBack wsX6_returns := goodIn_r _ [12, 1, 13, 14, 15, 5, 16, 17, 18, 19, 20, 21, 22, 23, 24, 25, 26, 27, 28, 29, 30, 31, 32, 33, 34, 35, 36, 37, 38, 39, 40, 41, 42, 43, 44, 45, 46, 47, 48, 49, 50, 51, 52, 53, 54] (by decide +kernel) (by decide +kernel)
set_option maxRecDepth 20000 in
theorem gX6_goBack_X6_returns : GoodIn wsX6_goBack (wsV RX6 153 RX6 yX6_returns wsX6_returns) := goodIn_app (goodIn_of _ (by decide +kernel)) ggX6_goBack_X6_returns
theorem dX6_goBack_0 : decode cX6_goBack 0 = .ok (.aload_n 0, 1) := by decide +kernel
theorem dX6_goBack_1 : decode cX6_goBack 1 = .ok (.getfield 7, 3) := by decide +kernel
theorem dX6_goBack_4 : decode cX6_goBack 4 = .ok (.sipush 303, 3) := by decide +kernel
theorem dX6_goBack_7 : decode cX6_goBack 7 = .ok (.iaload, 1) := by decide +kernel
theorem dX6_goBack_8 : decode cX6_goBack 8 = .ok (.ifCond .ne 6, 3) := by decide +kernel
theorem dX6_goBack_11 : decode cX6_goBack 11 = .ok (.bipush (-2), 2) := by decide +kernel
theorem dX6_goBack_13 : decode cX6_goBack 13 = .ok (.ireturn, 1) := by decide +kernel
theorem dX6_goBack_14 : decode cX6_goBack 14 = .ok (.aload_n 0, 1) := by decide +kernel
theorem dX6_goBack_15 : decode cX6_goBack 15 = .ok (.invokevirtual 110, 3) := by decide +kernel
theorem dX6_goBack_18 : decode cX6_goBack 18 = .ok (.aload_n 0, 1) := by decide +kernel
theorem dX6_goBack_19 : decode cX6_goBack 19 = .ok (.invokevirtual 153, 3) := by decide +kernel
theorem dX6_goBack_22 : decode cX6_goBack 22 = .ok (.aload_n 0, 1) := by decide +kernel
theorem dX6_goBack_23 : decode cX6_goBack 23 = .ok (.getfield 7, 3) := by decide +kernel
theorem dX6_goBack_26 : decode cX6_goBack 26 = .ok (.sipush 301, 3) := by decide +kernel
theorem dX6_goBack_29 : decode cX6_goBack 29 = .ok (.iaload, 1) := by decide +kernel
theorem dX6_goBack_30 : decode cX6_goBack 30 = .ok (.ireturn, 1) := by decide +kernel
theorem dX6_keeps_0 : decode cX6_keeps 0 = .ok (.iconst 0, 1) := by decide +kernel
theorem dX6_keeps_1 : decode cX6_keeps 1 = .ok (.istore_n 1, 1) := by decide +kernel
theorem dX6_keeps_2 : decode cX6_keeps 2 = .ok (.iload_n 1, 1) := by decide +kernel
theorem dX6_keeps_3 : decode cX6_keeps 3 = .ok (.sipush 348, 3) := by decide +kernel
theorem dX6_keeps_6 : decode cX6_keeps 6 = .ok (.if_icmp .ge 21, 3) := by decide +kernel
theorem dX6_keeps_9 : decode cX6_keeps 9 = .ok (.aload_n 0, 1) := by decide +kernel
theorem dX6_keeps_10 : decode cX6_keeps 10 = .ok (.getfield 16, 3) := by decide +kernel
theorem dX6_keeps_13 : decode cX6_keeps 13 = .ok (.iload_n 1, 1) := by decide +kernel
theorem dX6_keeps_14 : decode cX6_keeps 14 = .ok (.aload_n 0, 1) := by decide +kernel
theorem dX6_keeps_15 : decode cX6_keeps 15 = .ok (.getfield 7, 3) := by decide +kernel
theorem dX6_keeps_18 : decode cX6_keeps 18 = .ok (.iload_n 1, 1) := by decide +kernel
theorem dX6_keeps_19 : decode cX6_keeps 19 = .ok (.iaload, 1) := by decide +kernel
theorem dX6_keeps_20 : decode cX6_keeps 20 = .ok (.iastore, 1) := by decide +kernel
theorem dX6_keeps_21 : decode cX6_keeps 21 = .ok (.iinc 1 1, 3) := by decide +kernel
theorem dX6_keeps_24 : decode cX6_keeps 24 = .ok (.goto (-22), 3) := by decide +kernel
theorem dX6_keeps_27 : decode cX6_keeps 27 = .ok (.return_, 1) := by decide +kernel
theorem dX6_restores_0 : decode cX6_restores 0 = .ok (.iconst 0, 1) := by decide +kernel
theorem dX6_restores_1 : decode cX6_restores 1 = .ok (.istore_n 1, 1) := by decide +kernel
theorem dX6_restores_2 : decode cX6_restores 2 = .ok (.iload_n 1, 1) := by decide +kernel
theorem dX6_restores_3 : decode cX6_restores 3 = .ok (.sipush 348, 3) := by decide +kernel
theorem dX6_restores_6 : decode cX6_restores 6 = .ok (.if_icmp .ge 21, 3) := by decide +kernel
theorem dX6_restores_9 : decode cX6_restores 9 = .ok (.aload_n 0, 1) := by decide +kernel
theorem dX6_restores_10 : decode cX6_restores 10 = .ok (.getfield 7, 3) := by decide +kernel
theorem dX6_restores_13 : decode cX6_restores 13 = .ok (.iload_n 1, 1) := by decide +kernel
theorem dX6_restores_14 : decode cX6_restores 14 = .ok (.aload_n 0, 1) := by decide +kernel
theorem dX6_restores_15 : decode cX6_restores 15 = .ok (.getfield 16, 3) := by decide +kernel
theorem dX6_restores_18 : decode cX6_restores 18 = .ok (.iload_n 1, 1) := by decide +kernel
theorem dX6_restores_19 : decode cX6_restores 19 = .ok (.iaload, 1) := by decide +kernel
theorem dX6_restores_20 : decode cX6_restores 20 = .ok (.iastore, 1) := by decide +kernel
theorem dX6_restores_21 : decode cX6_restores 21 = .ok (.iinc 1 1, 3) := by decide +kernel
theorem dX6_restores_24 : decode cX6_restores 24 = .ok (.goto (-22), 3) := by decide +kernel
theorem dX6_restores_27 : decode cX6_restores 27 = .ok (.return_, 1) := by decide +kernel
set_option maxRecDepth 20000 in
theorem ggX6_ifRun_X6_in : GoodIn wsX6_ifRun wsX6_in := goodIn_r _ [5] (by decide +kernel) (by decide +kernel)
set_option maxRecDepth 20000 in
theorem gX6_ifRun_X6_in : GoodIn wsX6_ifRun (va_wsS RX6 49 yX6_in wsX6_in) := goodIn_app (goodIn_of _ (by decide +kernel)) ggX6_ifRun_X6_in
set_option maxRecDepth 20000 in
theorem ggX6_ifRun_X6_keeps : GoodIn wsX6_ifRun wsX6_keeps := goodIn_r _ [9, 10, 1, 56, 57, 58, 59, 60, 61, 62, 63, 64, 65, 66, 67, 68, 69, 70, 71, 72, 73, 74] (by decide +kernel) (by decide +kernel)
set_option maxRecDepth 20000 in
theorem gX6_ifRun_X6_keeps : GoodIn wsX6_ifRun (wsV RX6 156 RX6 yX6_keeps wsX6_keeps) := goodIn_app (goodIn_of _ (by decide +kernel)) ggX6_ifRun_X6_keeps
set_option maxRecDepth 20000 in
theorem ggX6_ifRun_X6_goes : GoodIn wsX6_ifRun wsX6_goes := goodIn_r _ [14, 1, 15, 16, 17, 4, 18, 19, 20, 21, 22, 23, 24, 25, 26, 27, 28, 29, 30, 31, 32, 33, 34, 35, 36, 37, 38, 39, 40, 41, 42, 43, 44, 45, 46, 47, 48, 49, 50, 51, 56, 57, 58, 59, 60, 61, 62, 63, 64, 65, 66, 67, 68, 69, 70, 71, 72, 73, 74] (by decide +kernel) (by decide +kernel)
set_option maxRecDepth 20000 in
theorem gX6_ifRun_X6_goes : GoodIn wsX6_ifRun (wsV RX6 138 RX6 yX6_goes wsX6_goes) := goodIn_app (goodIn_of _ (by decide +kernel)) ggX6_ifRun_X6_goes
set_option maxRecDepth 20000 in
theorem ggX6_ifRun_X6_restores : GoodIn wsX6_ifRun wsX6_restores := goodIn_r _ [55, 1, 10, 56, 57, 58, 59, 60, 61, 62, 63, 64, 65, 66, 67, 68, 69, 70, 71, 72, 73, 74] (by decide +kernel) (by decide +kernel)
set_option maxRecDepth 20000 in
theorem gX6_ifRun_X6_restores : GoodIn wsX6_ifRun (wsV RX6 159 RX6 yX6_restores wsX6_restores) := goodIn_app (goodIn_of _ (by decide +kernel)) ggX6_ifRun_X6_restores
theorem dX6_ifRun_0 : decode cX6_ifRun 0 = .ok (.iload_n 1, 1) := by decide +kernel
theorem dX6_ifRun_1 : decode cX6_ifRun 1 = .ok (.iconst 1, 1) := by decide +kernel
theorem dX6_ifRun_2 : decode cX6_ifRun 2 = .ok (.sipush 9999, 3) := by decide +kernel
theorem dX6_ifRun_5 : decode cX6_ifRun 5 = .ok (.invokestatic 49, 3) := by decide +kernel
theorem dX6_ifRun_8 : decode cX6_ifRun 8 = .ok (.ifCond .ne 5, 3) := by decide +kernel
theorem dX6_ifRun_11 : decode cX6_ifRun 11 = .ok (.iconst (-1), 1) := by decide +kernel
theorem dX6_ifRun_12 : decode cX6_ifRun 12 = .ok (.ireturn, 1) := by decide +kernel
theorem dX6_ifRun_13 : decode cX6_ifRun 13 = .ok (.aload_n 0, 1) := by decide +kernel
theorem dX6_ifRun_14 : decode cX6_ifRun 14 = .ok (.getfield 7, 3) := by decide +kernel
theorem dX6_ifRun_17 : decode cX6_ifRun 17 = .ok (.sipush 301, 3) := by decide +kernel
theorem dX6_ifRun_20 : decode cX6_ifRun 20 = .ok (.iaload, 1) := by decide +kernel
theorem dX6_ifRun_21 : decode cX6_ifRun 21 = .ok (.iconst (-1), 1) := by decide +kernel
theorem dX6_ifRun_22 : decode cX6_ifRun 22 = .ok (.if_icmp .ne 6, 3) := by decide +kernel
theorem dX6_ifRun_25 : decode cX6_ifRun 25 = .ok (.bipush (-2), 2) := by decide +kernel
theorem dX6_ifRun_27 : decode cX6_ifRun 27 = .ok (.ireturn, 1) := by decide +kernel
theorem dX6_ifRun_28 : decode cX6_ifRun 28 = .ok (.aload_n 0, 1) := by decide +kernel
theorem dX6_ifRun_29 : decode cX6_ifRun 29 = .ok (.invokevirtual 156, 3) := by decide +kernel
theorem dX6_ifRun_32 : decode cX6_ifRun 32 = .ok (.aload_n 0, 1) := by decide +kernel
theorem dX6_ifRun_33 : decode cX6_ifRun 33 = .ok (.iload_n 1, 1) := by decide +kernel
theorem dX6_ifRun_34 : decode cX6_ifRun 34 = .ok (.invokevirtual 138, 3) := by decide +kernel
theorem dX6_ifRun_37 : decode cX6_ifRun 37 = .ok (.pop, 1) := by decide +kernel
theorem dX6_ifRun_38 : decode cX6_ifRun 38 = .ok (.aload_n 0, 1) := by decide +kernel
theorem dX6_ifRun_39 : decode cX6_ifRun 39 = .ok (.getfield 7, 3) := by decide +kernel
theorem dX6_ifRun_42 : decode cX6_ifRun 42 = .ok (.sipush 301, 3) := by decide +kernel
theorem dX6_ifRun_45 : decode cX6_ifRun 45 = .ok (.iaload, 1) := by decide +kernel
theorem dX6_ifRun_46 : decode cX6_ifRun 46 = .ok (.istore_n 2, 1) := by decide +kernel
theorem dX6_ifRun_47 : decode cX6_ifRun 47 = .ok (.aload_n 0, 1) := by decide +kernel
theorem dX6_ifRun_48 : decode cX6_ifRun 48 = .ok (.invokevirtual 159, 3) := by decide +kernel
theorem dX6_ifRun_51 : decode cX6_ifRun 51 = .ok (.iload_n 2, 1) := by decide +kernel
theorem dX6_ifRun_52 : decode cX6_ifRun 52 = .ok (.iconst (-1), 1) := by decide +kernel
theorem dX6_ifRun_53 : decode cX6_ifRun 53 = .ok (.if_icmp .ne 8, 3) := by decide +kernel
theorem dX6_ifRun_56 : decode cX6_ifRun 56 = .ok (.bipush (-4), 2) := by decide +kernel
theorem dX6_ifRun_58 : decode cX6_ifRun 58 = .ok (.goto 4, 3) := by decide +kernel
theorem dX6_ifRun_61 : decode cX6_ifRun 61 = .ok (.iload_n 2, 1) := by decide +kernel
theorem dX6_ifRun_62 : decode cX6_ifRun 62 = .ok (.ireturn, 1) := by decide +kernel
set_option maxRecDepth 20000 in
theorem ggX6_left_X6_keeps : GoodIn wsX6_left wsX6_keeps := goodIn_r _ [6, 7, 1, 53, 54, 55, 56, 57, 58, 59, 60, 61, 62, 63, 64, 65, 66, 67, 68, 69, 70, 71] (by decide +kernel) (by decide +kernel)
set_option maxRecDepth 20000 in
theorem gX6_left_X6_keeps : GoodIn wsX6_left (wsV RX6 156 RX6 yX6_keeps wsX6_keeps) := goodIn_app (goodIn_of _ (by decide +kernel)) ggX6_left_X6_keeps
set_option maxRecDepth 20000 in
theorem ggX6_left_X6_goes : GoodIn wsX6_left wsX6_goes := goodIn_r _ [11, 1, 12, 13, 14, 5, 15, 16, 17, 18, 19, 20, 21, 22, 23, 24, 25, 26, 27, 28, 29, 30, 31, 32, 33, 34, 35, 36, 37, 38, 39, 40, 41, 42, 43, 44, 45, 46, 47, 48, 53, 54, 55, 56, 57, 58, 59, 60, 61, 62, 63, 64, 65, 66, 67, 68, 69, 70, 71] (by decide +kernel) (by decide +kernel)
set_option maxRecDepth 20000 in
theorem gX6_left_X6_goes : GoodIn wsX6_left (wsV RX6 138 RX6 yX6_goes wsX6_goes) := goodIn_app (goodIn_of _ (by decide +kernel)) ggX6_left_X6_goes
set_option maxRecDepth 20000 in
theorem ggX6_left_X6_restores : GoodIn wsX6_left wsX6_restores := goodIn_r _ [52, 1, 7, 53, 54, 55, 56, 57, 58, 59, 60, 61, 62, 63, 64, 65, 66, 67, 68, 69, 70, 71] (by decide +kernel) (by decide +kernel)
set_option maxRecDepth 20000 in
theorem gX6_left_X6_restores : GoodIn wsX6_left (wsV RX6 159 RX6 yX6_restores wsX6_restores) := goodIn_app (goodIn_of _ (by decide +kernel)) ggX6_left_X6_restores
theorem dX6_left_0 : decode cX6_left 0 = .ok (.aload_n 0, 1) := by decide +kernel
theorem dX6_left_1 : decode cX6_left 1 = .ok (.getfield 7, 3) := by decide +kernel
theorem dX6_left_4 : decode cX6_left 4 = .ok (.sipush 301, 3) := by decide +kernel
theorem dX6_left_7 : decode cX6_left 7 = .ok (.iaload, 1) := by decide +kernel
theorem dX6_left_8 : decode cX6_left 8 = .ok (.iconst (-1), 1) := by decide +kernel
theorem dX6_left_9 : decode cX6_left 9 = .ok (.if_icmp .ne 6, 3) := by decide +kernel
theorem dX6_left_12 : decode cX6_left 12 = .ok (.bipush (-2), 2) := by decide +kernel
theorem dX6_left_14 : decode cX6_left 14 = .ok (.ireturn, 1) := by decide +kernel
theorem dX6_left_15 : decode cX6_left 15 = .ok (.aload_n 0, 1) := by decide +kernel
theorem dX6_left_16 : decode cX6_left 16 = .ok (.invokevirtual 156, 3) := by decide +kernel
theorem dX6_left_19 : decode cX6_left 19 = .ok (.iconst 0, 1) := by decide +kernel
theorem dX6_left_20 : decode cX6_left 20 = .ok (.istore_n 1, 1) := by decide +kernel
theorem dX6_left_21 : decode cX6_left 21 = .ok (.aload_n 0, 1) := by decide +kernel
theorem dX6_left_22 : decode cX6_left 22 = .ok (.getfield 7, 3) := by decide +kernel
theorem dX6_left_25 : decode cX6_left 25 = .ok (.sipush 301, 3) := by decide +kernel
theorem dX6_left_28 : decode cX6_left 28 = .ok (.iaload, 1) := by decide +kernel
theorem dX6_left_29 : decode cX6_left 29 = .ok (.iconst (-1), 1) := by decide +kernel
theorem dX6_left_30 : decode cX6_left 30 = .ok (.if_icmp .eq 30, 3) := by decide +kernel
theorem dX6_left_33 : decode cX6_left 33 = .ok (.iload_n 1, 1) := by decide +kernel
theorem dX6_left_34 : decode cX6_left 34 = .ok (.aload_n 0, 1) := by decide +kernel
theorem dX6_left_35 : decode cX6_left 35 = .ok (.getfield 7, 3) := by decide +kernel
theorem dX6_left_38 : decode cX6_left 38 = .ok (.sipush 302, 3) := by decide +kernel
theorem dX6_left_41 : decode cX6_left 41 = .ok (.iaload, 1) := by decide +kernel
theorem dX6_left_42 : decode cX6_left 42 = .ok (.iadd, 1) := by decide +kernel
theorem dX6_left_43 : decode cX6_left 43 = .ok (.istore_n 1, 1) := by decide +kernel
theorem dX6_left_44 : decode cX6_left 44 = .ok (.aload_n 0, 1) := by decide +kernel
theorem dX6_left_45 : decode cX6_left 45 = .ok (.aload_n 0, 1) := by decide +kernel
theorem dX6_left_46 : decode cX6_left 46 = .ok (.getfield 7, 3) := by decide +kernel
theorem dX6_left_49 : decode cX6_left 49 = .ok (.sipush 302, 3) := by decide +kernel
theorem dX6_left_52 : decode cX6_left 52 = .ok (.iaload, 1) := by decide +kernel
theorem dX6_left_53 : decode cX6_left 53 = .ok (.invokevirtual 138, 3) := by decide +kernel
theorem dX6_left_56 : decode cX6_left 56 = .ok (.pop, 1) := by decide +kernel
theorem dX6_left_57 : decode cX6_left 57 = .ok (.goto (-36), 3) := by decide +kernel
theorem dX6_left_60 : decode cX6_left 60 = .ok (.aload_n 0, 1) := by decide +kernel
theorem dX6_left_61 : decode cX6_left 61 = .ok (.invokevirtual 159, 3) := by decide +kernel
theorem dX6_left_64 : decode cX6_left 64 = .ok (.iload_n 1, 1) := by decide +kernel
theorem dX6_left_65 : decode cX6_left 65 = .ok (.ireturn, 1) := by decide +kernel
set_option maxRecDepth 20000 in
theorem ggX6_undo_X6_parses : GoodIn wsX6_undo wsX6_parses := goodIn_r _ [8, 9, 2, 10, 11, 12, 13, 14, 15, 16, 7, 17, 18, 19, 20, 21, 22, 23, 24, 25, 26, 27, 28, 29, 30, 31, 32, 33, 34, 35, 36, 37, 38, 39, 40, 41, 42, 43, 44, 45, 46, 47, 48, 49, 50, 51, 52, 53, 54] (by decide +kernel) (by decide +kernel)
set_option maxRecDepth 20000 in
theorem gX6_undo_X6_parses : GoodIn wsX6_undo (wsV RX6 103 RX6 yX6_parses wsX6_parses) := goodIn_app (goodIn_of _ (by decide +kernel)) ggX6_undo_X6_parses
theorem dX6_undo_0 : decode cX6_undo 0 = .ok (.aload_n 0, 1) := by decide +kernel
theorem dX6_undo_1 : decode cX6_undo 1 = .ok (.getfield 59, 3) := by decide +kernel
theorem dX6_undo_4 : decode cX6_undo 4 = .ok (.ifCond .ne 6, 3) := by decide +kernel
theorem dX6_undo_7 : decode cX6_undo 7 = .ok (.bipush (-2), 2) := by decide +kernel
theorem dX6_undo_9 : decode cX6_undo 9 = .ok (.ireturn, 1) := by decide +kernel
theorem dX6_undo_10 : decode cX6_undo 10 = .ok (.aload_n 0, 1) := by decide +kernel
theorem dX6_undo_11 : decode cX6_undo 11 = .ok (.dup, 1) := by decide +kernel
theorem dX6_undo_12 : decode cX6_undo 12 = .ok (.getfield 59, 3) := by decide +kernel
theorem dX6_undo_15 : decode cX6_undo 15 = .ok (.iconst 1, 1) := by decide +kernel
theorem dX6_undo_16 : decode cX6_undo 16 = .ok (.isub, 1) := by decide +kernel
theorem dX6_undo_17 : decode cX6_undo 17 = .ok (.putfield 59, 3) := by decide +kernel
theorem dX6_undo_20 : decode cX6_undo 20 = .ok (.iconst 0, 1) := by decide +kernel
theorem dX6_undo_21 : decode cX6_undo 21 = .ok (.istore_n 1, 1) := by decide +kernel
theorem dX6_undo_22 : decode cX6_undo 22 = .ok (.iload_n 1, 1) := by decide +kernel
theorem dX6_undo_23 : decode cX6_undo 23 = .ok (.sipush 348, 3) := by decide +kernel
theorem dX6_undo_26 : decode cX6_undo 26 = .ok (.if_icmp .ge 30, 3) := by decide +kernel
theorem dX6_undo_29 : decode cX6_undo 29 = .ok (.aload_n 0, 1) := by decide +kernel
theorem dX6_undo_30 : decode cX6_undo 30 = .ok (.getfield 7, 3) := by decide +kernel
theorem dX6_undo_33 : decode cX6_undo 33 = .ok (.iload_n 1, 1) := by decide +kernel
theorem dX6_undo_34 : decode cX6_undo 34 = .ok (.aload_n 0, 1) := by decide +kernel
theorem dX6_undo_35 : decode cX6_undo 35 = .ok (.getfield 13, 3) := by decide +kernel
theorem dX6_undo_38 : decode cX6_undo 38 = .ok (.sipush 348, 3) := by decide +kernel
theorem dX6_undo_41 : decode cX6_undo 41 = .ok (.aload_n 0, 1) := by decide +kernel
theorem dX6_undo_42 : decode cX6_undo 42 = .ok (.getfield 59, 3) := by decide +kernel
theorem dX6_undo_45 : decode cX6_undo 45 = .ok (.imul, 1) := by decide +kernel
theorem dX6_undo_46 : decode cX6_undo 46 = .ok (.iload_n 1, 1) := by decide +kernel
theorem dX6_undo_47 : decode cX6_undo 47 = .ok (.iadd, 1) := by decide +kernel
theorem dX6_undo_48 : decode cX6_undo 48 = .ok (.iaload, 1) := by decide +kernel
theorem dX6_undo_49 : decode cX6_undo 49 = .ok (.iastore, 1) := by decide +kernel
theorem dX6_undo_50 : decode cX6_undo 50 = .ok (.iinc 1 1, 3) := by decide +kernel
theorem dX6_undo_53 : decode cX6_undo 53 = .ok (.goto (-31), 3) := by decide +kernel
theorem dX6_undo_56 : decode cX6_undo 56 = .ok (.aload_n 0, 1) := by decide +kernel
theorem dX6_undo_57 : decode cX6_undo 57 = .ok (.invokevirtual 103, 3) := by decide +kernel
theorem dX6_undo_60 : decode cX6_undo 60 = .ok (.aload_n 0, 1) := by decide +kernel
theorem dX6_undo_61 : decode cX6_undo 61 = .ok (.getfield 59, 3) := by decide +kernel
theorem dX6_undo_64 : decode cX6_undo 64 = .ok (.ireturn, 1) := by decide +kernel
set_option maxRecDepth 20000 in
theorem ggX6_canNote_X6_isShown : GoodIn wsX6_canNote wsX6_isShown := goodIn_r _ [6, 7, 12, 13, 14, 15, 16, 17, 18, 19, 20, 21, 22, 23, 24, 25, 26, 27, 28, 29, 30] (by decide +kernel) (by decide +kernel)
set_option maxRecDepth 20000 in
theorem gX6_canNote_X6_isShown : GoodIn wsX6_canNote (wsV RX6 87 RX6 yX6_isShown wsX6_isShown) := goodIn_app (goodIn_of _ (by decide +kernel)) ggX6_canNote_X6_isShown
set_option maxRecDepth 20000 in
theorem ggX6_canNote_X6_noteOf : GoodIn wsX6_canNote wsX6_noteOf := goodIn_r _ [11, 1, 12, 13, 14, 15, 16, 17, 18, 19, 20, 21, 22, 23, 24, 25, 26, 27, 28, 29, 30] (by decide +kernel) (by decide +kernel)
set_option maxRecDepth 20000 in
theorem gX6_canNote_X6_noteOf : GoodIn wsX6_canNote (wsV RX6 119 RX6 yX6_noteOf wsX6_noteOf) := goodIn_app (goodIn_of _ (by decide +kernel)) ggX6_canNote_X6_noteOf
theorem dX6_canNote_0 : decode cX6_canNote 0 = .ok (.aload_n 0, 1) := by decide +kernel
theorem dX6_canNote_1 : decode cX6_canNote 1 = .ok (.iload_n 1, 1) := by decide +kernel
theorem dX6_canNote_2 : decode cX6_canNote 2 = .ok (.invokevirtual 87, 3) := by decide +kernel
theorem dX6_canNote_5 : decode cX6_canNote 5 = .ok (.ifCond .eq 29, 3) := by decide +kernel
theorem dX6_canNote_8 : decode cX6_canNote 8 = .ok (.aload_n 0, 1) := by decide +kernel
theorem dX6_canNote_9 : decode cX6_canNote 9 = .ok (.iload_n 1, 1) := by decide +kernel
theorem dX6_canNote_10 : decode cX6_canNote 10 = .ok (.invokevirtual 119, 3) := by decide +kernel
theorem dX6_canNote_13 : decode cX6_canNote 13 = .ok (.iconst (-1), 1) := by decide +kernel
theorem dX6_canNote_14 : decode cX6_canNote 14 = .ok (.if_icmp .ne 16, 3) := by decide +kernel
theorem dX6_canNote_17 : decode cX6_canNote 17 = .ok (.aload_n 0, 1) := by decide +kernel
theorem dX6_canNote_18 : decode cX6_canNote 18 = .ok (.getfield 7, 3) := by decide +kernel
theorem dX6_canNote_21 : decode cX6_canNote 21 = .ok (.sipush 309, 3) := by decide +kernel
theorem dX6_canNote_24 : decode cX6_canNote 24 = .ok (.iaload, 1) := by decide +kernel
theorem dX6_canNote_25 : decode cX6_canNote 25 = .ok (.bipush 10, 2) := by decide +kernel
theorem dX6_canNote_27 : decode cX6_canNote 27 = .ok (.if_icmp .ge 7, 3) := by decide +kernel
theorem dX6_canNote_30 : decode cX6_canNote 30 = .ok (.iconst 1, 1) := by decide +kernel
theorem dX6_canNote_31 : decode cX6_canNote 31 = .ok (.goto 4, 3) := by decide +kernel
theorem dX6_canNote_34 : decode cX6_canNote 34 = .ok (.iconst 0, 1) := by decide +kernel
theorem dX6_canNote_35 : decode cX6_canNote 35 = .ok (.ireturn, 1) := by decide +kernel
set_option maxRecDepth 20000 in
theorem ggX6_notes_X6_noteOf : GoodIn wsX6_notes wsX6_noteOf := goodIn_r _ [6, 1, 7, 8, 9, 10, 11, 12, 13, 14, 15, 16, 17, 18, 19, 20, 21, 22, 23, 24, 25] (by decide +kernel) (by decide +kernel)
set_option maxRecDepth 20000 in
theorem gX6_notes_X6_noteOf : GoodIn wsX6_notes (wsV RX6 119 RX6 yX6_noteOf wsX6_noteOf) := goodIn_app (goodIn_of _ (by decide +kernel)) ggX6_notes_X6_noteOf
theorem dX6_notes_0 : decode cX6_notes 0 = .ok (.aload_n 0, 1) := by decide +kernel
theorem dX6_notes_1 : decode cX6_notes 1 = .ok (.iload_n 1, 1) := by decide +kernel
theorem dX6_notes_2 : decode cX6_notes 2 = .ok (.invokevirtual 119, 3) := by decide +kernel
theorem dX6_notes_5 : decode cX6_notes 5 = .ok (.istore_n 3, 1) := by decide +kernel
theorem dX6_notes_6 : decode cX6_notes 6 = .ok (.iload_n 3, 1) := by decide +kernel
theorem dX6_notes_7 : decode cX6_notes 7 = .ok (.iconst (-1), 1) := by decide +kernel
theorem dX6_notes_8 : decode cX6_notes 8 = .ok (.if_icmp .ne 24, 3) := by decide +kernel
theorem dX6_notes_11 : decode cX6_notes 11 = .ok (.aload_n 0, 1) := by decide +kernel
theorem dX6_notes_12 : decode cX6_notes 12 = .ok (.getfield 7, 3) := by decide +kernel
theorem dX6_notes_15 : decode cX6_notes 15 = .ok (.sipush 309, 3) := by decide +kernel
theorem dX6_notes_18 : decode cX6_notes 18 = .ok (.iaload, 1) := by decide +kernel
theorem dX6_notes_19 : decode cX6_notes 19 = .ok (.istore_n 3, 1) := by decide +kernel
theorem dX6_notes_20 : decode cX6_notes 20 = .ok (.aload_n 0, 1) := by decide +kernel
theorem dX6_notes_21 : decode cX6_notes 21 = .ok (.getfield 7, 3) := by decide +kernel
theorem dX6_notes_24 : decode cX6_notes 24 = .ok (.sipush 309, 3) := by decide +kernel
theorem dX6_notes_27 : decode cX6_notes 27 = .ok (.dup2, 1) := by decide +kernel
theorem dX6_notes_28 : decode cX6_notes 28 = .ok (.iaload, 1) := by decide +kernel
theorem dX6_notes_29 : decode cX6_notes 29 = .ok (.iconst 1, 1) := by decide +kernel
theorem dX6_notes_30 : decode cX6_notes 30 = .ok (.iadd, 1) := by decide +kernel
theorem dX6_notes_31 : decode cX6_notes 31 = .ok (.iastore, 1) := by decide +kernel
theorem dX6_notes_32 : decode cX6_notes 32 = .ok (.aload_n 0, 1) := by decide +kernel
theorem dX6_notes_33 : decode cX6_notes 33 = .ok (.getfield 7, 3) := by decide +kernel
theorem dX6_notes_36 : decode cX6_notes 36 = .ok (.sipush 310, 3) := by decide +kernel
theorem dX6_notes_39 : decode cX6_notes 39 = .ok (.iload_n 3, 1) := by decide +kernel
theorem dX6_notes_40 : decode cX6_notes 40 = .ok (.iadd, 1) := by decide +kernel
theorem dX6_notes_41 : decode cX6_notes 41 = .ok (.iload_n 1, 1) := by decide +kernel
theorem dX6_notes_42 : decode cX6_notes 42 = .ok (.iastore, 1) := by decide +kernel
theorem dX6_notes_43 : decode cX6_notes 43 = .ok (.aload_n 0, 1) := by decide +kernel
theorem dX6_notes_44 : decode cX6_notes 44 = .ok (.getfield 7, 3) := by decide +kernel
theorem dX6_notes_47 : decode cX6_notes 47 = .ok (.sipush 320, 3) := by decide +kernel
theorem dX6_notes_50 : decode cX6_notes 50 = .ok (.iload_n 3, 1) := by decide +kernel
theorem dX6_notes_51 : decode cX6_notes 51 = .ok (.iadd, 1) := by decide +kernel
theorem dX6_notes_52 : decode cX6_notes 52 = .ok (.iload_n 2, 1) := by decide +kernel
theorem dX6_notes_53 : decode cX6_notes 53 = .ok (.iastore, 1) := by decide +kernel
theorem dX6_notes_54 : decode cX6_notes 54 = .ok (.return_, 1) := by decide +kernel
set_option maxRecDepth 20000 in
theorem ggX6_note_X6_isWord : GoodIn wsX6_note wsX6_isWord := goodIn_r _ [6, 7, 8, 9, 5, 10, 34, 35, 36, 37, 38, 39, 40, 41, 42, 43, 44, 45, 46, 47, 48, 49, 50, 51, 52] (by decide +kernel) (by decide +kernel)
set_option maxRecDepth 20000 in
theorem gX6_note_X6_isWord : GoodIn wsX6_note (wsV RX6 116 RX6 yX6_isWord wsX6_isWord) := goodIn_app (goodIn_of _ (by decide +kernel)) ggX6_note_X6_isWord
set_option maxRecDepth 20000 in
theorem ggX6_note_X6_in : GoodIn wsX6_note wsX6_in := goodIn_r _ [10] (by decide +kernel) (by decide +kernel)
set_option maxRecDepth 20000 in
theorem gX6_note_X6_in : GoodIn wsX6_note (va_wsS RX6 49 yX6_in wsX6_in) := goodIn_app (goodIn_of _ (by decide +kernel)) ggX6_note_X6_in
set_option maxRecDepth 20000 in
theorem ggX6_note_X6_canNote : GoodIn wsX6_note wsX6_canNote := goodIn_r _ [14, 1, 15, 16, 17, 5, 18, 19, 20, 21, 22, 23, 34, 35, 36, 37, 38, 39, 40, 41, 42, 43, 44, 45, 46, 47, 48, 49, 50, 51, 52] (by decide +kernel) (by decide +kernel)
set_option maxRecDepth 20000 in
theorem gX6_note_X6_canNote : GoodIn wsX6_note (wsV RX6 162 RX6 yX6_canNote wsX6_canNote) := goodIn_app (goodIn_of _ (by decide +kernel)) ggX6_note_X6_canNote
set_option maxRecDepth 20000 in
theorem ggX6_note_X6_isShown : GoodIn wsX6_note wsX6_isShown := goodIn_r _ [18, 19, 34, 35, 36, 37, 38, 39, 40, 41, 42, 43, 44, 45, 46, 47, 48, 49, 50, 51, 52] (by decide +kernel) (by decide +kernel)
set_option maxRecDepth 20000 in
theorem gX6_note_X6_isShown : GoodIn wsX6_note (wsV RX6 87 RX6 yX6_isShown wsX6_isShown) := goodIn_app (goodIn_of _ (by decide +kernel)) ggX6_note_X6_isShown
set_option maxRecDepth 20000 in
theorem ggX6_note_X6_records : GoodIn wsX6_note wsX6_records := goodIn_r _ [27, 28, 29, 1, 34, 35, 36, 37, 38, 39, 40, 41, 42, 43, 44, 45, 46, 47, 48, 49, 50, 51, 52] (by decide +kernel) (by decide +kernel)
set_option maxRecDepth 20000 in
theorem gX6_note_X6_records : GoodIn wsX6_note (wsV RX6 110 RX6 yX6_records wsX6_records) := goodIn_app (goodIn_of _ (by decide +kernel)) ggX6_note_X6_records
set_option maxRecDepth 20000 in
theorem ggX6_note_X6_notes : GoodIn wsX6_note wsX6_notes := goodIn_r _ [33, 1, 20, 21, 22, 5, 23, 34, 35, 36, 37, 38, 39, 40, 41, 42, 43, 44, 45, 46, 47, 48, 49, 50, 51, 52] (by decide +kernel) (by decide +kernel)
set_option maxRecDepth 20000 in
theorem gX6_note_X6_notes : GoodIn wsX6_note (wsV RX6 165 RX6 yX6_notes wsX6_notes) := goodIn_app (goodIn_of _ (by decide +kernel)) ggX6_note_X6_notes
theorem dX6_note_0 : decode cX6_note 0 = .ok (.aload_n 0, 1) := by decide +kernel
theorem dX6_note_1 : decode cX6_note 1 = .ok (.iload_n 1, 1) := by decide +kernel
theorem dX6_note_2 : decode cX6_note 2 = .ok (.invokevirtual 116, 3) := by decide +kernel
theorem dX6_note_5 : decode cX6_note 5 = .ok (.ifCond .eq 13, 3) := by decide +kernel
theorem dX6_note_8 : decode cX6_note 8 = .ok (.iload_n 2, 1) := by decide +kernel
theorem dX6_note_9 : decode cX6_note 9 = .ok (.iconst 1, 1) := by decide +kernel
theorem dX6_note_10 : decode cX6_note 10 = .ok (.bipush 99, 2) := by decide +kernel
theorem dX6_note_12 : decode cX6_note 12 = .ok (.invokestatic 49, 3) := by decide +kernel
theorem dX6_note_15 : decode cX6_note 15 = .ok (.ifCond .ne 5, 3) := by decide +kernel
theorem dX6_note_18 : decode cX6_note 18 = .ok (.iconst (-1), 1) := by decide +kernel
theorem dX6_note_19 : decode cX6_note 19 = .ok (.ireturn, 1) := by decide +kernel
theorem dX6_note_20 : decode cX6_note 20 = .ok (.aload_n 0, 1) := by decide +kernel
theorem dX6_note_21 : decode cX6_note 21 = .ok (.iload_n 1, 1) := by decide +kernel
theorem dX6_note_22 : decode cX6_note 22 = .ok (.invokevirtual 162, 3) := by decide +kernel
theorem dX6_note_25 : decode cX6_note 25 = .ok (.ifCond .ne 19, 3) := by decide +kernel
theorem dX6_note_28 : decode cX6_note 28 = .ok (.aload_n 0, 1) := by decide +kernel
theorem dX6_note_29 : decode cX6_note 29 = .ok (.iload_n 1, 1) := by decide +kernel
theorem dX6_note_30 : decode cX6_note 30 = .ok (.invokevirtual 87, 3) := by decide +kernel
theorem dX6_note_33 : decode cX6_note 33 = .ok (.ifCond .eq 8, 3) := by decide +kernel
theorem dX6_note_36 : decode cX6_note 36 = .ok (.bipush (-3), 2) := by decide +kernel
theorem dX6_note_38 : decode cX6_note 38 = .ok (.goto 5, 3) := by decide +kernel
theorem dX6_note_41 : decode cX6_note 41 = .ok (.bipush (-2), 2) := by decide +kernel
theorem dX6_note_43 : decode cX6_note 43 = .ok (.ireturn, 1) := by decide +kernel
theorem dX6_note_44 : decode cX6_note 44 = .ok (.aload_n 0, 1) := by decide +kernel
theorem dX6_note_45 : decode cX6_note 45 = .ok (.invokevirtual 110, 3) := by decide +kernel
theorem dX6_note_48 : decode cX6_note 48 = .ok (.aload_n 0, 1) := by decide +kernel
theorem dX6_note_49 : decode cX6_note 49 = .ok (.iload_n 1, 1) := by decide +kernel
theorem dX6_note_50 : decode cX6_note 50 = .ok (.iload_n 2, 1) := by decide +kernel
theorem dX6_note_51 : decode cX6_note 51 = .ok (.invokevirtual 165, 3) := by decide +kernel
theorem dX6_note_54 : decode cX6_note 54 = .ok (.aload_n 0, 1) := by decide +kernel
theorem dX6_note_55 : decode cX6_note 55 = .ok (.getfield 7, 3) := by decide +kernel
theorem dX6_note_58 : decode cX6_note 58 = .ok (.sipush 309, 3) := by decide +kernel
theorem dX6_note_61 : decode cX6_note 61 = .ok (.iaload, 1) := by decide +kernel
theorem dX6_note_62 : decode cX6_note 62 = .ok (.ireturn, 1) := by decide +kernel
set_option maxRecDepth 20000 in
theorem ggX6_unnote_X6_isWord : GoodIn wsX6_unnote wsX6_isWord := goodIn_r _ [6, 7, 8, 9, 5, 10, 21, 22, 23, 24, 25, 26, 27, 28, 29, 30, 31, 32, 33, 34, 35, 36, 37, 38, 39] (by decide +kernel) (by decide +kernel)
set_option maxRecDepth 20000 in
theorem gX6_unnote_X6_isWord : GoodIn wsX6_unnote (wsV RX6 116 RX6 yX6_isWord wsX6_isWord) := goodIn_app (goodIn_of _ (by decide +kernel)) ggX6_unnote_X6_isWord
set_option maxRecDepth 20000 in
theorem ggX6_unnote_X6_noteOf : GoodIn wsX6_unnote wsX6_noteOf := goodIn_r _ [14, 1, 21, 22, 23, 24, 25, 26, 27, 28, 29, 30, 31, 32, 33, 34, 35, 36, 37, 38, 39] (by decide +kernel) (by decide +kernel)
set_option maxRecDepth 20000 in
theorem gX6_unnote_X6_noteOf : GoodIn wsX6_unnote (wsV RX6 119 RX6 yX6_noteOf wsX6_noteOf) := goodIn_app (goodIn_of _ (by decide +kernel)) ggX6_unnote_X6_noteOf
set_option maxRecDepth 20000 in
theorem ggX6_unnote_X6_records : GoodIn wsX6_unnote wsX6_records := goodIn_r _ [18, 19, 20, 1, 21, 22, 23, 24, 25, 26, 27, 28, 29, 30, 31, 32, 33, 34, 35, 36, 37, 38, 39] (by decide +kernel) (by decide +kernel)
set_option maxRecDepth 20000 in
theorem gX6_unnote_X6_records : GoodIn wsX6_unnote (wsV RX6 110 RX6 yX6_records wsX6_records) := goodIn_app (goodIn_of _ (by decide +kernel)) ggX6_unnote_X6_records
theorem dX6_unnote_0 : decode cX6_unnote 0 = .ok (.aload_n 0, 1) := by decide +kernel
theorem dX6_unnote_1 : decode cX6_unnote 1 = .ok (.iload_n 1, 1) := by decide +kernel
theorem dX6_unnote_2 : decode cX6_unnote 2 = .ok (.invokevirtual 116, 3) := by decide +kernel
theorem dX6_unnote_5 : decode cX6_unnote 5 = .ok (.ifCond .ne 5, 3) := by decide +kernel
theorem dX6_unnote_8 : decode cX6_unnote 8 = .ok (.iconst (-1), 1) := by decide +kernel
theorem dX6_unnote_9 : decode cX6_unnote 9 = .ok (.ireturn, 1) := by decide +kernel
theorem dX6_unnote_10 : decode cX6_unnote 10 = .ok (.aload_n 0, 1) := by decide +kernel
theorem dX6_unnote_11 : decode cX6_unnote 11 = .ok (.iload_n 1, 1) := by decide +kernel
theorem dX6_unnote_12 : decode cX6_unnote 12 = .ok (.invokevirtual 119, 3) := by decide +kernel
theorem dX6_unnote_15 : decode cX6_unnote 15 = .ok (.istore_n 2, 1) := by decide +kernel
theorem dX6_unnote_16 : decode cX6_unnote 16 = .ok (.iload_n 2, 1) := by decide +kernel
theorem dX6_unnote_17 : decode cX6_unnote 17 = .ok (.iconst (-1), 1) := by decide +kernel
theorem dX6_unnote_18 : decode cX6_unnote 18 = .ok (.if_icmp .ne 6, 3) := by decide +kernel
theorem dX6_unnote_21 : decode cX6_unnote 21 = .ok (.bipush (-4), 2) := by decide +kernel
theorem dX6_unnote_23 : decode cX6_unnote 23 = .ok (.ireturn, 1) := by decide +kernel
theorem dX6_unnote_24 : decode cX6_unnote 24 = .ok (.aload_n 0, 1) := by decide +kernel
theorem dX6_unnote_25 : decode cX6_unnote 25 = .ok (.invokevirtual 110, 3) := by decide +kernel
theorem dX6_unnote_28 : decode cX6_unnote 28 = .ok (.aload_n 0, 1) := by decide +kernel
theorem dX6_unnote_29 : decode cX6_unnote 29 = .ok (.getfield 7, 3) := by decide +kernel
theorem dX6_unnote_32 : decode cX6_unnote 32 = .ok (.sipush 320, 3) := by decide +kernel
theorem dX6_unnote_35 : decode cX6_unnote 35 = .ok (.iload_n 2, 1) := by decide +kernel
theorem dX6_unnote_36 : decode cX6_unnote 36 = .ok (.iadd, 1) := by decide +kernel
theorem dX6_unnote_37 : decode cX6_unnote 37 = .ok (.iaload, 1) := by decide +kernel
theorem dX6_unnote_38 : decode cX6_unnote 38 = .ok (.istore_n 3, 1) := by decide +kernel
theorem dX6_unnote_39 : decode cX6_unnote 39 = .ok (.aload_n 0, 1) := by decide +kernel
theorem dX6_unnote_40 : decode cX6_unnote 40 = .ok (.getfield 7, 3) := by decide +kernel
theorem dX6_unnote_43 : decode cX6_unnote 43 = .ok (.sipush 309, 3) := by decide +kernel
theorem dX6_unnote_46 : decode cX6_unnote 46 = .ok (.dup2, 1) := by decide +kernel
theorem dX6_unnote_47 : decode cX6_unnote 47 = .ok (.iaload, 1) := by decide +kernel
theorem dX6_unnote_48 : decode cX6_unnote 48 = .ok (.iconst 1, 1) := by decide +kernel
theorem dX6_unnote_49 : decode cX6_unnote 49 = .ok (.isub, 1) := by decide +kernel
theorem dX6_unnote_50 : decode cX6_unnote 50 = .ok (.iastore, 1) := by decide +kernel
theorem dX6_unnote_51 : decode cX6_unnote 51 = .ok (.aload_n 0, 1) := by decide +kernel
theorem dX6_unnote_52 : decode cX6_unnote 52 = .ok (.getfield 7, 3) := by decide +kernel
theorem dX6_unnote_55 : decode cX6_unnote 55 = .ok (.sipush 310, 3) := by decide +kernel
theorem dX6_unnote_58 : decode cX6_unnote 58 = .ok (.iload_n 2, 1) := by decide +kernel
theorem dX6_unnote_59 : decode cX6_unnote 59 = .ok (.iadd, 1) := by decide +kernel
theorem dX6_unnote_60 : decode cX6_unnote 60 = .ok (.aload_n 0, 1) := by decide +kernel
theorem dX6_unnote_61 : decode cX6_unnote 61 = .ok (.getfield 7, 3) := by decide +kernel
theorem dX6_unnote_64 : decode cX6_unnote 64 = .ok (.sipush 310, 3) := by decide +kernel
theorem dX6_unnote_67 : decode cX6_unnote 67 = .ok (.aload_n 0, 1) := by decide +kernel
theorem dX6_unnote_68 : decode cX6_unnote 68 = .ok (.getfield 7, 3) := by decide +kernel
theorem dX6_unnote_71 : decode cX6_unnote 71 = .ok (.sipush 309, 3) := by decide +kernel
theorem dX6_unnote_74 : decode cX6_unnote 74 = .ok (.iaload, 1) := by decide +kernel
theorem dX6_unnote_75 : decode cX6_unnote 75 = .ok (.iadd, 1) := by decide +kernel
theorem dX6_unnote_76 : decode cX6_unnote 76 = .ok (.iaload, 1) := by decide +kernel
theorem dX6_unnote_77 : decode cX6_unnote 77 = .ok (.iastore, 1) := by decide +kernel
theorem dX6_unnote_78 : decode cX6_unnote 78 = .ok (.aload_n 0, 1) := by decide +kernel
theorem dX6_unnote_79 : decode cX6_unnote 79 = .ok (.getfield 7, 3) := by decide +kernel
theorem dX6_unnote_82 : decode cX6_unnote 82 = .ok (.sipush 320, 3) := by decide +kernel
theorem dX6_unnote_85 : decode cX6_unnote 85 = .ok (.iload_n 2, 1) := by decide +kernel
theorem dX6_unnote_86 : decode cX6_unnote 86 = .ok (.iadd, 1) := by decide +kernel
theorem dX6_unnote_87 : decode cX6_unnote 87 = .ok (.aload_n 0, 1) := by decide +kernel
theorem dX6_unnote_88 : decode cX6_unnote 88 = .ok (.getfield 7, 3) := by decide +kernel
theorem dX6_unnote_91 : decode cX6_unnote 91 = .ok (.sipush 320, 3) := by decide +kernel
theorem dX6_unnote_94 : decode cX6_unnote 94 = .ok (.aload_n 0, 1) := by decide +kernel
theorem dX6_unnote_95 : decode cX6_unnote 95 = .ok (.getfield 7, 3) := by decide +kernel
theorem dX6_unnote_98 : decode cX6_unnote 98 = .ok (.sipush 309, 3) := by decide +kernel
theorem dX6_unnote_101 : decode cX6_unnote 101 = .ok (.iaload, 1) := by decide +kernel
theorem dX6_unnote_102 : decode cX6_unnote 102 = .ok (.iadd, 1) := by decide +kernel
theorem dX6_unnote_103 : decode cX6_unnote 103 = .ok (.iaload, 1) := by decide +kernel
theorem dX6_unnote_104 : decode cX6_unnote 104 = .ok (.iastore, 1) := by decide +kernel
theorem dX6_unnote_105 : decode cX6_unnote 105 = .ok (.iload_n 3, 1) := by decide +kernel
theorem dX6_unnote_106 : decode cX6_unnote 106 = .ok (.ireturn, 1) := by decide +kernel
set_option maxRecDepth 20000 in
theorem ggX6_noted_X6_in : GoodIn wsX6_noted wsX6_in := goodIn_r _ [5] (by decide +kernel) (by decide +kernel)
set_option maxRecDepth 20000 in
theorem gX6_noted_X6_in : GoodIn wsX6_noted (va_wsS RX6 49 yX6_in wsX6_in) := goodIn_app (goodIn_of _ (by decide +kernel)) ggX6_noted_X6_in
theorem dX6_noted_0 : decode cX6_noted 0 = .ok (.iload_n 1, 1) := by decide +kernel
theorem dX6_noted_1 : decode cX6_noted 1 = .ok (.ifCond .lt 12, 3) := by decide +kernel
theorem dX6_noted_4 : decode cX6_noted 4 = .ok (.iload_n 2, 1) := by decide +kernel
theorem dX6_noted_5 : decode cX6_noted 5 = .ok (.iconst 0, 1) := by decide +kernel
theorem dX6_noted_6 : decode cX6_noted 6 = .ok (.iconst 1, 1) := by decide +kernel
theorem dX6_noted_7 : decode cX6_noted 7 = .ok (.invokestatic 49, 3) := by decide +kernel
theorem dX6_noted_10 : decode cX6_noted 10 = .ok (.ifCond .ne 5, 3) := by decide +kernel
theorem dX6_noted_13 : decode cX6_noted 13 = .ok (.iconst (-1), 1) := by decide +kernel
theorem dX6_noted_14 : decode cX6_noted 14 = .ok (.ireturn, 1) := by decide +kernel
theorem dX6_noted_15 : decode cX6_noted 15 = .ok (.bipush (-4), 2) := by decide +kernel
theorem dX6_noted_17 : decode cX6_noted 17 = .ok (.istore_n 3, 1) := by decide +kernel
theorem dX6_noted_18 : decode cX6_noted 18 = .ok (.iconst 0, 1) := by decide +kernel
theorem dX6_noted_19 : decode cX6_noted 19 = .ok (.istore 4, 2) := by decide +kernel
theorem dX6_noted_21 : decode cX6_noted 21 = .ok (.iload 4, 2) := by decide +kernel
theorem dX6_noted_23 : decode cX6_noted 23 = .ok (.aload_n 0, 1) := by decide +kernel
theorem dX6_noted_24 : decode cX6_noted 24 = .ok (.getfield 7, 3) := by decide +kernel
theorem dX6_noted_27 : decode cX6_noted 27 = .ok (.sipush 309, 3) := by decide +kernel
theorem dX6_noted_30 : decode cX6_noted 30 = .ok (.iaload, 1) := by decide +kernel
theorem dX6_noted_31 : decode cX6_noted 31 = .ok (.if_icmp .ge 81, 3) := by decide +kernel
theorem dX6_noted_34 : decode cX6_noted 34 = .ok (.aload_n 0, 1) := by decide +kernel
theorem dX6_noted_35 : decode cX6_noted 35 = .ok (.getfield 7, 3) := by decide +kernel
theorem dX6_noted_38 : decode cX6_noted 38 = .ok (.sipush 310, 3) := by decide +kernel
theorem dX6_noted_41 : decode cX6_noted 41 = .ok (.iload 4, 2) := by decide +kernel
theorem dX6_noted_43 : decode cX6_noted 43 = .ok (.iadd, 1) := by decide +kernel
theorem dX6_noted_44 : decode cX6_noted 44 = .ok (.iaload, 1) := by decide +kernel
theorem dX6_noted_45 : decode cX6_noted 45 = .ok (.istore 5, 2) := by decide +kernel
theorem dX6_noted_47 : decode cX6_noted 47 = .ok (.iload_n 2, 1) := by decide +kernel
theorem dX6_noted_48 : decode cX6_noted 48 = .ok (.ifCond .ne 27, 3) := by decide +kernel
theorem dX6_noted_51 : decode cX6_noted 51 = .ok (.iload 5, 2) := by decide +kernel
theorem dX6_noted_53 : decode cX6_noted 53 = .ok (.iload_n 1, 1) := by decide +kernel
theorem dX6_noted_54 : decode cX6_noted 54 = .ok (.if_icmp .lt 17, 3) := by decide +kernel
theorem dX6_noted_57 : decode cX6_noted 57 = .ok (.iload_n 3, 1) := by decide +kernel
theorem dX6_noted_58 : decode cX6_noted 58 = .ok (.ifCond .lt 9, 3) := by decide +kernel
theorem dX6_noted_61 : decode cX6_noted 61 = .ok (.iload 5, 2) := by decide +kernel
theorem dX6_noted_63 : decode cX6_noted 63 = .ok (.iload_n 3, 1) := by decide +kernel
theorem dX6_noted_64 : decode cX6_noted 64 = .ok (.if_icmp .ge 7, 3) := by decide +kernel
theorem dX6_noted_67 : decode cX6_noted 67 = .ok (.iconst 1, 1) := by decide +kernel
theorem dX6_noted_68 : decode cX6_noted 68 = .ok (.goto 24, 3) := by decide +kernel
theorem dX6_noted_71 : decode cX6_noted 71 = .ok (.iconst 0, 1) := by decide +kernel
theorem dX6_noted_72 : decode cX6_noted 72 = .ok (.goto 20, 3) := by decide +kernel
theorem dX6_noted_75 : decode cX6_noted 75 = .ok (.iload 5, 2) := by decide +kernel
theorem dX6_noted_77 : decode cX6_noted 77 = .ok (.iload_n 1, 1) := by decide +kernel
theorem dX6_noted_78 : decode cX6_noted 78 = .ok (.if_icmp .ge 13, 3) := by decide +kernel
theorem dX6_noted_81 : decode cX6_noted 81 = .ok (.iload 5, 2) := by decide +kernel
theorem dX6_noted_83 : decode cX6_noted 83 = .ok (.iload_n 3, 1) := by decide +kernel
theorem dX6_noted_84 : decode cX6_noted 84 = .ok (.if_icmp .le 7, 3) := by decide +kernel
theorem dX6_noted_87 : decode cX6_noted 87 = .ok (.iconst 1, 1) := by decide +kernel
theorem dX6_noted_88 : decode cX6_noted 88 = .ok (.goto 4, 3) := by decide +kernel
theorem dX6_noted_91 : decode cX6_noted 91 = .ok (.iconst 0, 1) := by decide +kernel
theorem dX6_noted_92 : decode cX6_noted 92 = .ok (.istore 6, 2) := by decide +kernel
theorem dX6_noted_94 : decode cX6_noted 94 = .ok (.iload 6, 2) := by decide +kernel
theorem dX6_noted_96 : decode cX6_noted 96 = .ok (.ifCond .eq 8, 3) := by decide +kernel
theorem dX6_noted_99 : decode cX6_noted 99 = .ok (.iload 5, 2) := by decide +kernel
theorem dX6_noted_101 : decode cX6_noted 101 = .ok (.goto 4, 3) := by decide +kernel
theorem dX6_noted_104 : decode cX6_noted 104 = .ok (.iload_n 3, 1) := by decide +kernel
theorem dX6_noted_105 : decode cX6_noted 105 = .ok (.istore_n 3, 1) := by decide +kernel
theorem dX6_noted_106 : decode cX6_noted 106 = .ok (.iinc 4 1, 3) := by decide +kernel
theorem dX6_noted_109 : decode cX6_noted 109 = .ok (.goto (-88), 3) := by decide +kernel
theorem dX6_noted_112 : decode cX6_noted 112 = .ok (.iload_n 3, 1) := by decide +kernel
theorem dX6_noted_113 : decode cX6_noted 113 = .ok (.ireturn, 1) := by decide +kernel
set_option maxRecDepth 20000 in
theorem ggX6_longest_X6_isShown : GoodIn wsX6_longest wsX6_isShown := goodIn_r _ [6, 7, 27, 28, 29, 30, 31, 32, 33, 34, 35, 36, 37, 38, 39, 40, 41, 42, 43, 44, 45] (by decide +kernel) (by decide +kernel)
set_option maxRecDepth 20000 in
theorem gX6_longest_X6_isShown : GoodIn wsX6_longest (wsV RX6 87 RX6 yX6_isShown wsX6_isShown) := goodIn_app (goodIn_of _ (by decide +kernel)) ggX6_longest_X6_isShown
set_option maxRecDepth 20000 in
theorem ggX6_longest_X6_timeOf : GoodIn wsX6_longest wsX6_timeOf := goodIn_r _ [11, 12, 13, 14, 15, 5, 16, 17, 18, 19, 20, 21, 7, 22, 23, 24, 25, 26, 27, 28, 29, 30, 31, 32, 33, 34, 35, 36, 37, 38, 39, 40, 41, 42, 43, 44, 45] (by decide +kernel) (by decide +kernel)
set_option maxRecDepth 20000 in
theorem gX6_longest_X6_timeOf : GoodIn wsX6_longest (wsV RX6 90 RX6 yX6_timeOf wsX6_timeOf) := goodIn_app (goodIn_of _ (by decide +kernel)) ggX6_longest_X6_timeOf
theorem dX6_longest_0 : decode cX6_longest 0 = .ok (.iload_n 1, 1) := by decide +kernel
theorem dX6_longest_1 : decode cX6_longest 1 = .ok (.ifCond .ge 5, 3) := by decide +kernel
theorem dX6_longest_4 : decode cX6_longest 4 = .ok (.iconst (-1), 1) := by decide +kernel
theorem dX6_longest_5 : decode cX6_longest 5 = .ok (.ireturn, 1) := by decide +kernel
theorem dX6_longest_6 : decode cX6_longest 6 = .ok (.iconst 0, 1) := by decide +kernel
theorem dX6_longest_7 : decode cX6_longest 7 = .ok (.istore_n 2, 1) := by decide +kernel
theorem dX6_longest_8 : decode cX6_longest 8 = .ok (.iload_n 2, 1) := by decide +kernel
theorem dX6_longest_9 : decode cX6_longest 9 = .ok (.aload_n 0, 1) := by decide +kernel
theorem dX6_longest_10 : decode cX6_longest 10 = .ok (.getfield 45, 3) := by decide +kernel
theorem dX6_longest_13 : decode cX6_longest 13 = .ok (.if_icmp .ge 95, 3) := by decide +kernel
theorem dX6_longest_16 : decode cX6_longest 16 = .ok (.iconst 0, 1) := by decide +kernel
theorem dX6_longest_17 : decode cX6_longest 17 = .ok (.istore_n 3, 1) := by decide +kernel
theorem dX6_longest_18 : decode cX6_longest 18 = .ok (.iconst 0, 1) := by decide +kernel
theorem dX6_longest_19 : decode cX6_longest 19 = .ok (.istore 4, 2) := by decide +kernel
theorem dX6_longest_21 : decode cX6_longest 21 = .ok (.iload 4, 2) := by decide +kernel
theorem dX6_longest_23 : decode cX6_longest 23 = .ok (.aload_n 0, 1) := by decide +kernel
theorem dX6_longest_24 : decode cX6_longest 24 = .ok (.getfield 45, 3) := by decide +kernel
theorem dX6_longest_27 : decode cX6_longest 27 = .ok (.if_icmp .ge 60, 3) := by decide +kernel
theorem dX6_longest_30 : decode cX6_longest 30 = .ok (.iload_n 3, 1) := by decide +kernel
theorem dX6_longest_31 : decode cX6_longest 31 = .ok (.aload_n 0, 1) := by decide +kernel
theorem dX6_longest_32 : decode cX6_longest 32 = .ok (.iload 4, 2) := by decide +kernel
theorem dX6_longest_34 : decode cX6_longest 34 = .ok (.invokevirtual 87, 3) := by decide +kernel
theorem dX6_longest_37 : decode cX6_longest 37 = .ok (.ifCond .eq 41, 3) := by decide +kernel
theorem dX6_longest_40 : decode cX6_longest 40 = .ok (.aload_n 0, 1) := by decide +kernel
theorem dX6_longest_41 : decode cX6_longest 41 = .ok (.iload 4, 2) := by decide +kernel
theorem dX6_longest_43 : decode cX6_longest 43 = .ok (.invokevirtual 90, 3) := by decide +kernel
theorem dX6_longest_46 : decode cX6_longest 46 = .ok (.aload_n 0, 1) := by decide +kernel
theorem dX6_longest_47 : decode cX6_longest 47 = .ok (.iload_n 2, 1) := by decide +kernel
theorem dX6_longest_48 : decode cX6_longest 48 = .ok (.invokevirtual 90, 3) := by decide +kernel
theorem dX6_longest_51 : decode cX6_longest 51 = .ok (.if_icmp .gt 23, 3) := by decide +kernel
theorem dX6_longest_54 : decode cX6_longest 54 = .ok (.aload_n 0, 1) := by decide +kernel
theorem dX6_longest_55 : decode cX6_longest 55 = .ok (.iload 4, 2) := by decide +kernel
theorem dX6_longest_57 : decode cX6_longest 57 = .ok (.invokevirtual 90, 3) := by decide +kernel
theorem dX6_longest_60 : decode cX6_longest 60 = .ok (.aload_n 0, 1) := by decide +kernel
theorem dX6_longest_61 : decode cX6_longest 61 = .ok (.iload_n 2, 1) := by decide +kernel
theorem dX6_longest_62 : decode cX6_longest 62 = .ok (.invokevirtual 90, 3) := by decide +kernel
theorem dX6_longest_65 : decode cX6_longest 65 = .ok (.if_icmp .ne 13, 3) := by decide +kernel
theorem dX6_longest_68 : decode cX6_longest 68 = .ok (.iload 4, 2) := by decide +kernel
theorem dX6_longest_70 : decode cX6_longest 70 = .ok (.iload_n 2, 1) := by decide +kernel
theorem dX6_longest_71 : decode cX6_longest 71 = .ok (.if_icmp .ge 7, 3) := by decide +kernel
theorem dX6_longest_74 : decode cX6_longest 74 = .ok (.iconst 1, 1) := by decide +kernel
theorem dX6_longest_75 : decode cX6_longest 75 = .ok (.goto 4, 3) := by decide +kernel
theorem dX6_longest_78 : decode cX6_longest 78 = .ok (.iconst 0, 1) := by decide +kernel
theorem dX6_longest_79 : decode cX6_longest 79 = .ok (.iadd, 1) := by decide +kernel
theorem dX6_longest_80 : decode cX6_longest 80 = .ok (.istore_n 3, 1) := by decide +kernel
theorem dX6_longest_81 : decode cX6_longest 81 = .ok (.iinc 4 1, 3) := by decide +kernel
theorem dX6_longest_84 : decode cX6_longest 84 = .ok (.goto (-63), 3) := by decide +kernel
theorem dX6_longest_87 : decode cX6_longest 87 = .ok (.aload_n 0, 1) := by decide +kernel
theorem dX6_longest_88 : decode cX6_longest 88 = .ok (.iload_n 2, 1) := by decide +kernel
theorem dX6_longest_89 : decode cX6_longest 89 = .ok (.invokevirtual 87, 3) := by decide +kernel
theorem dX6_longest_92 : decode cX6_longest 92 = .ok (.ifCond .eq 10, 3) := by decide +kernel
theorem dX6_longest_95 : decode cX6_longest 95 = .ok (.iload_n 3, 1) := by decide +kernel
theorem dX6_longest_96 : decode cX6_longest 96 = .ok (.iload_n 1, 1) := by decide +kernel
theorem dX6_longest_97 : decode cX6_longest 97 = .ok (.if_icmp .ne 5, 3) := by decide +kernel
theorem dX6_longest_100 : decode cX6_longest 100 = .ok (.iload_n 2, 1) := by decide +kernel
theorem dX6_longest_101 : decode cX6_longest 101 = .ok (.ireturn, 1) := by decide +kernel
theorem dX6_longest_102 : decode cX6_longest 102 = .ok (.iinc 2 1, 3) := by decide +kernel
theorem dX6_longest_105 : decode cX6_longest 105 = .ok (.goto (-97), 3) := by decide +kernel
theorem dX6_longest_108 : decode cX6_longest 108 = .ok (.bipush (-4), 2) := by decide +kernel
theorem dX6_longest_110 : decode cX6_longest 110 = .ok (.ireturn, 1) := by decide +kernel
set_option maxRecDepth 20000 in
theorem ggX6_speedFor_X6_isPage : GoodIn wsX6_speedFor wsX6_isPage := goodIn_r _ [8, 9, 10, 11, 7, 12, 25, 26, 27, 28, 29, 30, 31, 32, 33, 34, 35, 36, 37, 38, 39, 40, 41, 42, 43] (by decide +kernel) (by decide +kernel)
set_option maxRecDepth 20000 in
theorem gX6_speedFor_X6_isPage : GoodIn wsX6_speedFor (wsV RX6 128 RX6 yX6_isPage wsX6_isPage) := goodIn_app (goodIn_of _ (by decide +kernel)) ggX6_speedFor_X6_isPage
set_option maxRecDepth 20000 in
theorem ggX6_speedFor_X6_in : GoodIn wsX6_speedFor wsX6_in := goodIn_r _ [12] (by decide +kernel) (by decide +kernel)
set_option maxRecDepth 20000 in
theorem gX6_speedFor_X6_in : GoodIn wsX6_speedFor (va_wsS RX6 49 yX6_in wsX6_in) := goodIn_app (goodIn_of _ (by decide +kernel)) ggX6_speedFor_X6_in
set_option maxRecDepth 20000 in
theorem ggX6_speedFor_X6_timeBy : GoodIn wsX6_speedFor wsX6_timeBy := goodIn_r _ [16, 17, 18, 19, 20, 21, 22, 7, 23, 24, 25, 26, 27, 28, 29, 30, 31, 32, 33, 34, 35, 36, 37, 38, 39, 40, 41, 42, 43] (by decide +kernel) (by decide +kernel)
set_option maxRecDepth 20000 in
theorem gX6_speedFor_X6_timeBy : GoodIn wsX6_speedFor (wsV RX6 84 RX6 yX6_timeBy wsX6_timeBy) := goodIn_app (goodIn_of _ (by decide +kernel)) ggX6_speedFor_X6_timeBy
theorem dX6_speedFor_0 : decode cX6_speedFor 0 = .ok (.aload_n 0, 1) := by decide +kernel
theorem dX6_speedFor_1 : decode cX6_speedFor 1 = .ok (.iload_n 1, 1) := by decide +kernel
theorem dX6_speedFor_2 : decode cX6_speedFor 2 = .ok (.invokevirtual 128, 3) := by decide +kernel
theorem dX6_speedFor_5 : decode cX6_speedFor 5 = .ok (.ifCond .eq 13, 3) := by decide +kernel
theorem dX6_speedFor_8 : decode cX6_speedFor 8 = .ok (.iload_n 2, 1) := by decide +kernel
theorem dX6_speedFor_9 : decode cX6_speedFor 9 = .ok (.iconst 0, 1) := by decide +kernel
theorem dX6_speedFor_10 : decode cX6_speedFor 10 = .ok (.ldc 168, 2) := by decide +kernel
theorem dX6_speedFor_12 : decode cX6_speedFor 12 = .ok (.invokestatic 49, 3) := by decide +kernel
theorem dX6_speedFor_15 : decode cX6_speedFor 15 = .ok (.ifCond .ne 5, 3) := by decide +kernel
theorem dX6_speedFor_18 : decode cX6_speedFor 18 = .ok (.iconst (-1), 1) := by decide +kernel
theorem dX6_speedFor_19 : decode cX6_speedFor 19 = .ok (.ireturn, 1) := by decide +kernel
theorem dX6_speedFor_20 : decode cX6_speedFor 20 = .ok (.bipush 50, 2) := by decide +kernel
theorem dX6_speedFor_22 : decode cX6_speedFor 22 = .ok (.istore_n 3, 1) := by decide +kernel
theorem dX6_speedFor_23 : decode cX6_speedFor 23 = .ok (.iload_n 3, 1) := by decide +kernel
theorem dX6_speedFor_24 : decode cX6_speedFor 24 = .ok (.sipush 400, 3) := by decide +kernel
theorem dX6_speedFor_27 : decode cX6_speedFor 27 = .ok (.if_icmp .gt 65, 3) := by decide +kernel
theorem dX6_speedFor_30 : decode cX6_speedFor 30 = .ok (.iconst 0, 1) := by decide +kernel
theorem dX6_speedFor_31 : decode cX6_speedFor 31 = .ok (.istore 4, 2) := by decide +kernel
theorem dX6_speedFor_33 : decode cX6_speedFor 33 = .ok (.iconst 0, 1) := by decide +kernel
theorem dX6_speedFor_34 : decode cX6_speedFor 34 = .ok (.istore 5, 2) := by decide +kernel
theorem dX6_speedFor_36 : decode cX6_speedFor 36 = .ok (.iload 5, 2) := by decide +kernel
theorem dX6_speedFor_38 : decode cX6_speedFor 38 = .ok (.aload_n 0, 1) := by decide +kernel
theorem dX6_speedFor_39 : decode cX6_speedFor 39 = .ok (.getfield 45, 3) := by decide +kernel
theorem dX6_speedFor_42 : decode cX6_speedFor 42 = .ok (.if_icmp .ge 36, 3) := by decide +kernel
theorem dX6_speedFor_45 : decode cX6_speedFor 45 = .ok (.iload 4, 2) := by decide +kernel
theorem dX6_speedFor_47 : decode cX6_speedFor 47 = .ok (.aload_n 0, 1) := by decide +kernel
theorem dX6_speedFor_48 : decode cX6_speedFor 48 = .ok (.getfield 42, 3) := by decide +kernel
theorem dX6_speedFor_51 : decode cX6_speedFor 51 = .ok (.iload 5, 2) := by decide +kernel
theorem dX6_speedFor_53 : decode cX6_speedFor 53 = .ok (.iaload, 1) := by decide +kernel
theorem dX6_speedFor_54 : decode cX6_speedFor 54 = .ok (.iload_n 1, 1) := by decide +kernel
theorem dX6_speedFor_55 : decode cX6_speedFor 55 = .ok (.if_icmp .ne 13, 3) := by decide +kernel
theorem dX6_speedFor_58 : decode cX6_speedFor 58 = .ok (.aload_n 0, 1) := by decide +kernel
theorem dX6_speedFor_59 : decode cX6_speedFor 59 = .ok (.iload 5, 2) := by decide +kernel
theorem dX6_speedFor_61 : decode cX6_speedFor 61 = .ok (.iload_n 3, 1) := by decide +kernel
theorem dX6_speedFor_62 : decode cX6_speedFor 62 = .ok (.invokevirtual 84, 3) := by decide +kernel
theorem dX6_speedFor_65 : decode cX6_speedFor 65 = .ok (.goto 4, 3) := by decide +kernel
theorem dX6_speedFor_68 : decode cX6_speedFor 68 = .ok (.iconst 0, 1) := by decide +kernel
theorem dX6_speedFor_69 : decode cX6_speedFor 69 = .ok (.iadd, 1) := by decide +kernel
theorem dX6_speedFor_70 : decode cX6_speedFor 70 = .ok (.istore 4, 2) := by decide +kernel
theorem dX6_speedFor_72 : decode cX6_speedFor 72 = .ok (.iinc 5 1, 3) := by decide +kernel
theorem dX6_speedFor_75 : decode cX6_speedFor 75 = .ok (.goto (-39), 3) := by decide +kernel
theorem dX6_speedFor_78 : decode cX6_speedFor 78 = .ok (.iload 4, 2) := by decide +kernel
theorem dX6_speedFor_80 : decode cX6_speedFor 80 = .ok (.iload_n 2, 1) := by decide +kernel
theorem dX6_speedFor_81 : decode cX6_speedFor 81 = .ok (.if_icmp .gt 5, 3) := by decide +kernel
theorem dX6_speedFor_84 : decode cX6_speedFor 84 = .ok (.iload_n 3, 1) := by decide +kernel
theorem dX6_speedFor_85 : decode cX6_speedFor 85 = .ok (.ireturn, 1) := by decide +kernel
theorem dX6_speedFor_86 : decode cX6_speedFor 86 = .ok (.iinc 3 1, 3) := by decide +kernel
theorem dX6_speedFor_89 : decode cX6_speedFor 89 = .ok (.goto (-66), 3) := by decide +kernel
theorem dX6_speedFor_92 : decode cX6_speedFor 92 = .ok (.bipush (-4), 2) := by decide +kernel
theorem dX6_speedFor_94 : decode cX6_speedFor 94 = .ok (.ireturn, 1) := by decide +kernel
set_option maxRecDepth 20000 in
theorem ggX6_order_X6_in : GoodIn wsX6_order wsX6_in := goodIn_r _ [6] (by decide +kernel) (by decide +kernel)
set_option maxRecDepth 20000 in
theorem gX6_order_X6_in : GoodIn wsX6_order (va_wsS RX6 49 yX6_in wsX6_in) := goodIn_app (goodIn_of _ (by decide +kernel)) ggX6_order_X6_in
theorem dX6_order_0 : decode cX6_order 0 = .ok (.iload_n 1, 1) := by decide +kernel
theorem dX6_order_1 : decode cX6_order 1 = .ok (.bipush 32, 2) := by decide +kernel
theorem dX6_order_3 : decode cX6_order 3 = .ok (.bipush 126, 2) := by decide +kernel
theorem dX6_order_5 : decode cX6_order 5 = .ok (.invokestatic 49, 3) := by decide +kernel
theorem dX6_order_8 : decode cX6_order 8 = .ok (.ifCond .ne 5, 3) := by decide +kernel
theorem dX6_order_11 : decode cX6_order 11 = .ok (.iconst (-1), 1) := by decide +kernel
theorem dX6_order_12 : decode cX6_order 12 = .ok (.ireturn, 1) := by decide +kernel
theorem dX6_order_13 : decode cX6_order 13 = .ok (.aload_n 0, 1) := by decide +kernel
theorem dX6_order_14 : decode cX6_order 14 = .ok (.getfield 131, 3) := by decide +kernel
theorem dX6_order_17 : decode cX6_order 17 = .ok (.bipush 60, 2) := by decide +kernel
theorem dX6_order_19 : decode cX6_order 19 = .ok (.if_icmp .ne 6, 3) := by decide +kernel
theorem dX6_order_22 : decode cX6_order 22 = .ok (.bipush (-3), 2) := by decide +kernel
theorem dX6_order_24 : decode cX6_order 24 = .ok (.ireturn, 1) := by decide +kernel
theorem dX6_order_25 : decode cX6_order 25 = .ok (.aload_n 0, 1) := by decide +kernel
theorem dX6_order_26 : decode cX6_order 26 = .ok (.getfield 19, 3) := by decide +kernel
theorem dX6_order_29 : decode cX6_order 29 = .ok (.aload_n 0, 1) := by decide +kernel
theorem dX6_order_30 : decode cX6_order 30 = .ok (.getfield 131, 3) := by decide +kernel
theorem dX6_order_33 : decode cX6_order 33 = .ok (.iload_n 1, 1) := by decide +kernel
theorem dX6_order_34 : decode cX6_order 34 = .ok (.i2c, 1) := by decide +kernel
theorem dX6_order_35 : decode cX6_order 35 = .ok (.castore, 1) := by decide +kernel
theorem dX6_order_36 : decode cX6_order 36 = .ok (.aload_n 0, 1) := by decide +kernel
theorem dX6_order_37 : decode cX6_order 37 = .ok (.dup, 1) := by decide +kernel
theorem dX6_order_38 : decode cX6_order 38 = .ok (.getfield 131, 3) := by decide +kernel
theorem dX6_order_41 : decode cX6_order 41 = .ok (.iconst 1, 1) := by decide +kernel
theorem dX6_order_42 : decode cX6_order 42 = .ok (.iadd, 1) := by decide +kernel
theorem dX6_order_43 : decode cX6_order 43 = .ok (.putfield 131, 3) := by decide +kernel
theorem dX6_order_46 : decode cX6_order 46 = .ok (.aload_n 0, 1) := by decide +kernel
theorem dX6_order_47 : decode cX6_order 47 = .ok (.getfield 131, 3) := by decide +kernel
theorem dX6_order_50 : decode cX6_order 50 = .ok (.ireturn, 1) := by decide +kernel
theorem dX6_clearOrders_0 : decode cX6_clearOrders 0 = .ok (.aload_n 0, 1) := by decide +kernel
theorem dX6_clearOrders_1 : decode cX6_clearOrders 1 = .ok (.getfield 131, 3) := by decide +kernel
theorem dX6_clearOrders_4 : decode cX6_clearOrders 4 = .ok (.istore_n 1, 1) := by decide +kernel
theorem dX6_clearOrders_5 : decode cX6_clearOrders 5 = .ok (.aload_n 0, 1) := by decide +kernel
theorem dX6_clearOrders_6 : decode cX6_clearOrders 6 = .ok (.iconst 0, 1) := by decide +kernel
theorem dX6_clearOrders_7 : decode cX6_clearOrders 7 = .ok (.putfield 131, 3) := by decide +kernel
theorem dX6_clearOrders_10 : decode cX6_clearOrders 10 = .ok (.iload_n 1, 1) := by decide +kernel
theorem dX6_clearOrders_11 : decode cX6_clearOrders 11 = .ok (.ireturn, 1) := by decide +kernel
set_option maxRecDepth 20000 in
theorem ggX6_readsNumber_X6_isFigure : GoodIn wsX6_readsNumber wsX6_isFigure := goodIn_r _ [8, 9, 10, 7, 11] (by decide +kernel) (by decide +kernel)
set_option maxRecDepth 20000 in
theorem gX6_readsNumber_X6_isFigure : GoodIn wsX6_readsNumber (va_wsS RX6 62 yX6_isFigure wsX6_isFigure) := goodIn_app (goodIn_of _ (by decide +kernel)) ggX6_readsNumber_X6_isFigure
set_option maxRecDepth 20000 in
theorem ggX6_readsNumber_X6_in : GoodIn wsX6_readsNumber wsX6_in := goodIn_r _ [11] (by decide +kernel) (by decide +kernel)
set_option maxRecDepth 20000 in
theorem gX6_readsNumber_X6_in : GoodIn wsX6_readsNumber (va_wsS RX6 49 yX6_in wsX6_in) := goodIn_app (goodIn_of _ (by decide +kernel)) ggX6_readsNumber_X6_in
theorem dX6_readsNumber_0 : decode cX6_readsNumber 0 = .ok (.aload_n 0, 1) := by decide +kernel
theorem dX6_readsNumber_1 : decode cX6_readsNumber 1 = .ok (.getfield 169, 3) := by decide +kernel
theorem dX6_readsNumber_4 : decode cX6_readsNumber 4 = .ok (.istore_n 3, 1) := by decide +kernel
theorem dX6_readsNumber_5 : decode cX6_readsNumber 5 = .ok (.aload_n 0, 1) := by decide +kernel
theorem dX6_readsNumber_6 : decode cX6_readsNumber 6 = .ok (.iconst 0, 1) := by decide +kernel
theorem dX6_readsNumber_7 : decode cX6_readsNumber 7 = .ok (.putfield 172, 3) := by decide +kernel
theorem dX6_readsNumber_10 : decode cX6_readsNumber 10 = .ok (.aload_n 0, 1) := by decide +kernel
theorem dX6_readsNumber_11 : decode cX6_readsNumber 11 = .ok (.getfield 169, 3) := by decide +kernel
theorem dX6_readsNumber_14 : decode cX6_readsNumber 14 = .ok (.aload_n 0, 1) := by decide +kernel
theorem dX6_readsNumber_15 : decode cX6_readsNumber 15 = .ok (.getfield 131, 3) := by decide +kernel
theorem dX6_readsNumber_18 : decode cX6_readsNumber 18 = .ok (.if_icmp .ge 65, 3) := by decide +kernel
theorem dX6_readsNumber_21 : decode cX6_readsNumber 21 = .ok (.aload_n 0, 1) := by decide +kernel
theorem dX6_readsNumber_22 : decode cX6_readsNumber 22 = .ok (.getfield 169, 3) := by decide +kernel
theorem dX6_readsNumber_25 : decode cX6_readsNumber 25 = .ok (.iload_n 3, 1) := by decide +kernel
theorem dX6_readsNumber_26 : decode cX6_readsNumber 26 = .ok (.iconst 3, 1) := by decide +kernel
theorem dX6_readsNumber_27 : decode cX6_readsNumber 27 = .ok (.iadd, 1) := by decide +kernel
theorem dX6_readsNumber_28 : decode cX6_readsNumber 28 = .ok (.if_icmp .ge 55, 3) := by decide +kernel
theorem dX6_readsNumber_31 : decode cX6_readsNumber 31 = .ok (.aload_n 0, 1) := by decide +kernel
theorem dX6_readsNumber_32 : decode cX6_readsNumber 32 = .ok (.getfield 19, 3) := by decide +kernel
theorem dX6_readsNumber_35 : decode cX6_readsNumber 35 = .ok (.aload_n 0, 1) := by decide +kernel
theorem dX6_readsNumber_36 : decode cX6_readsNumber 36 = .ok (.getfield 169, 3) := by decide +kernel
theorem dX6_readsNumber_39 : decode cX6_readsNumber 39 = .ok (.caload, 1) := by decide +kernel
theorem dX6_readsNumber_40 : decode cX6_readsNumber 40 = .ok (.invokestatic 62, 3) := by decide +kernel
theorem dX6_readsNumber_43 : decode cX6_readsNumber 43 = .ok (.ifCond .eq 40, 3) := by decide +kernel
theorem dX6_readsNumber_46 : decode cX6_readsNumber 46 = .ok (.aload_n 0, 1) := by decide +kernel
theorem dX6_readsNumber_47 : decode cX6_readsNumber 47 = .ok (.bipush 10, 2) := by decide +kernel
theorem dX6_readsNumber_49 : decode cX6_readsNumber 49 = .ok (.aload_n 0, 1) := by decide +kernel
theorem dX6_readsNumber_50 : decode cX6_readsNumber 50 = .ok (.getfield 172, 3) := by decide +kernel
theorem dX6_readsNumber_53 : decode cX6_readsNumber 53 = .ok (.imul, 1) := by decide +kernel
theorem dX6_readsNumber_54 : decode cX6_readsNumber 54 = .ok (.aload_n 0, 1) := by decide +kernel
theorem dX6_readsNumber_55 : decode cX6_readsNumber 55 = .ok (.getfield 19, 3) := by decide +kernel
theorem dX6_readsNumber_58 : decode cX6_readsNumber 58 = .ok (.aload_n 0, 1) := by decide +kernel
theorem dX6_readsNumber_59 : decode cX6_readsNumber 59 = .ok (.getfield 169, 3) := by decide +kernel
theorem dX6_readsNumber_62 : decode cX6_readsNumber 62 = .ok (.caload, 1) := by decide +kernel
theorem dX6_readsNumber_63 : decode cX6_readsNumber 63 = .ok (.iadd, 1) := by decide +kernel
theorem dX6_readsNumber_64 : decode cX6_readsNumber 64 = .ok (.bipush 48, 2) := by decide +kernel
theorem dX6_readsNumber_66 : decode cX6_readsNumber 66 = .ok (.isub, 1) := by decide +kernel
theorem dX6_readsNumber_67 : decode cX6_readsNumber 67 = .ok (.putfield 172, 3) := by decide +kernel
theorem dX6_readsNumber_70 : decode cX6_readsNumber 70 = .ok (.aload_n 0, 1) := by decide +kernel
theorem dX6_readsNumber_71 : decode cX6_readsNumber 71 = .ok (.dup, 1) := by decide +kernel
theorem dX6_readsNumber_72 : decode cX6_readsNumber 72 = .ok (.getfield 169, 3) := by decide +kernel
theorem dX6_readsNumber_75 : decode cX6_readsNumber 75 = .ok (.iconst 1, 1) := by decide +kernel
theorem dX6_readsNumber_76 : decode cX6_readsNumber 76 = .ok (.iadd, 1) := by decide +kernel
theorem dX6_readsNumber_77 : decode cX6_readsNumber 77 = .ok (.putfield 169, 3) := by decide +kernel
theorem dX6_readsNumber_80 : decode cX6_readsNumber 80 = .ok (.goto (-70), 3) := by decide +kernel
theorem dX6_readsNumber_83 : decode cX6_readsNumber 83 = .ok (.aload_n 0, 1) := by decide +kernel
theorem dX6_readsNumber_84 : decode cX6_readsNumber 84 = .ok (.getfield 169, 3) := by decide +kernel
theorem dX6_readsNumber_87 : decode cX6_readsNumber 87 = .ok (.iload_n 3, 1) := by decide +kernel
theorem dX6_readsNumber_88 : decode cX6_readsNumber 88 = .ok (.if_icmp .le 19, 3) := by decide +kernel
theorem dX6_readsNumber_91 : decode cX6_readsNumber 91 = .ok (.aload_n 0, 1) := by decide +kernel
theorem dX6_readsNumber_92 : decode cX6_readsNumber 92 = .ok (.getfield 172, 3) := by decide +kernel
theorem dX6_readsNumber_95 : decode cX6_readsNumber 95 = .ok (.iload_n 1, 1) := by decide +kernel
theorem dX6_readsNumber_96 : decode cX6_readsNumber 96 = .ok (.iload_n 2, 1) := by decide +kernel
theorem dX6_readsNumber_97 : decode cX6_readsNumber 97 = .ok (.invokestatic 49, 3) := by decide +kernel
theorem dX6_readsNumber_100 : decode cX6_readsNumber 100 = .ok (.ifCond .eq 7, 3) := by decide +kernel
theorem dX6_readsNumber_103 : decode cX6_readsNumber 103 = .ok (.iconst 1, 1) := by decide +kernel
theorem dX6_readsNumber_104 : decode cX6_readsNumber 104 = .ok (.goto 4, 3) := by decide +kernel
theorem dX6_readsNumber_107 : decode cX6_readsNumber 107 = .ok (.iconst 0, 1) := by decide +kernel
theorem dX6_readsNumber_108 : decode cX6_readsNumber 108 = .ok (.ireturn, 1) := by decide +kernel
set_option maxRecDepth 20000 in
theorem ggX6_readsOrder_X6_readsNumber : GoodIn wsX6_readsOrder wsX6_readsNumber := goodIn_r _ [9, 2, 10, 4, 1, 11, 12, 8, 13, 14, 15, 16, 17, 18, 19, 20, 21, 22, 23, 24, 25, 26, 27, 28, 29, 30, 31, 32, 33, 34, 35] (by decide +kernel) (by decide +kernel)
set_option maxRecDepth 20000 in
theorem gX6_readsOrder_X6_readsNumber : GoodIn wsX6_readsOrder (wsV RX6 178 RX6 yX6_readsNumber wsX6_readsNumber) := goodIn_app (goodIn_of _ (by decide +kernel)) ggX6_readsOrder_X6_readsNumber
theorem dX6_readsOrder_0 : decode cX6_readsOrder 0 = .ok (.aload_n 0, 1) := by decide +kernel
theorem dX6_readsOrder_1 : decode cX6_readsOrder 1 = .ok (.aload_n 0, 1) := by decide +kernel
theorem dX6_readsOrder_2 : decode cX6_readsOrder 2 = .ok (.getfield 19, 3) := by decide +kernel
theorem dX6_readsOrder_5 : decode cX6_readsOrder 5 = .ok (.aload_n 0, 1) := by decide +kernel
theorem dX6_readsOrder_6 : decode cX6_readsOrder 6 = .ok (.getfield 169, 3) := by decide +kernel
theorem dX6_readsOrder_9 : decode cX6_readsOrder 9 = .ok (.caload, 1) := by decide +kernel
theorem dX6_readsOrder_10 : decode cX6_readsOrder 10 = .ok (.putfield 175, 3) := by decide +kernel
theorem dX6_readsOrder_13 : decode cX6_readsOrder 13 = .ok (.aload_n 0, 1) := by decide +kernel
theorem dX6_readsOrder_14 : decode cX6_readsOrder 14 = .ok (.dup, 1) := by decide +kernel
theorem dX6_readsOrder_15 : decode cX6_readsOrder 15 = .ok (.getfield 169, 3) := by decide +kernel
theorem dX6_readsOrder_18 : decode cX6_readsOrder 18 = .ok (.iconst 1, 1) := by decide +kernel
theorem dX6_readsOrder_19 : decode cX6_readsOrder 19 = .ok (.iadd, 1) := by decide +kernel
theorem dX6_readsOrder_20 : decode cX6_readsOrder 20 = .ok (.putfield 169, 3) := by decide +kernel
theorem dX6_readsOrder_23 : decode cX6_readsOrder 23 = .ok (.aload_n 0, 1) := by decide +kernel
theorem dX6_readsOrder_24 : decode cX6_readsOrder 24 = .ok (.getfield 175, 3) := by decide +kernel
theorem dX6_readsOrder_27 : decode cX6_readsOrder 27 = .ok (.bipush 98, 2) := by decide +kernel
theorem dX6_readsOrder_29 : decode cX6_readsOrder 29 = .ok (.if_icmp .eq 71, 3) := by decide +kernel
theorem dX6_readsOrder_32 : decode cX6_readsOrder 32 = .ok (.aload_n 0, 1) := by decide +kernel
theorem dX6_readsOrder_33 : decode cX6_readsOrder 33 = .ok (.getfield 175, 3) := by decide +kernel
theorem dX6_readsOrder_36 : decode cX6_readsOrder 36 = .ok (.bipush 117, 2) := by decide +kernel
theorem dX6_readsOrder_38 : decode cX6_readsOrder 38 = .ok (.if_icmp .eq 62, 3) := by decide +kernel
theorem dX6_readsOrder_41 : decode cX6_readsOrder 41 = .ok (.aload_n 0, 1) := by decide +kernel
theorem dX6_readsOrder_42 : decode cX6_readsOrder 42 = .ok (.getfield 175, 3) := by decide +kernel
theorem dX6_readsOrder_45 : decode cX6_readsOrder 45 = .ok (.bipush 114, 2) := by decide +kernel
theorem dX6_readsOrder_47 : decode cX6_readsOrder 47 = .ok (.if_icmp .ne 14, 3) := by decide +kernel
theorem dX6_readsOrder_50 : decode cX6_readsOrder 50 = .ok (.aload_n 0, 1) := by decide +kernel
theorem dX6_readsOrder_51 : decode cX6_readsOrder 51 = .ok (.iconst 1, 1) := by decide +kernel
theorem dX6_readsOrder_52 : decode cX6_readsOrder 52 = .ok (.sipush 999, 3) := by decide +kernel
theorem dX6_readsOrder_55 : decode cX6_readsOrder 55 = .ok (.invokevirtual 178, 3) := by decide +kernel
theorem dX6_readsOrder_58 : decode cX6_readsOrder 58 = .ok (.ifCond .ne 42, 3) := by decide +kernel
theorem dX6_readsOrder_61 : decode cX6_readsOrder 61 = .ok (.aload_n 0, 1) := by decide +kernel
theorem dX6_readsOrder_62 : decode cX6_readsOrder 62 = .ok (.getfield 175, 3) := by decide +kernel
theorem dX6_readsOrder_65 : decode cX6_readsOrder 65 = .ok (.bipush 106, 2) := by decide +kernel
theorem dX6_readsOrder_67 : decode cX6_readsOrder 67 = .ok (.if_icmp .ne 14, 3) := by decide +kernel
theorem dX6_readsOrder_70 : decode cX6_readsOrder 70 = .ok (.aload_n 0, 1) := by decide +kernel
theorem dX6_readsOrder_71 : decode cX6_readsOrder 71 = .ok (.iconst 0, 1) := by decide +kernel
theorem dX6_readsOrder_72 : decode cX6_readsOrder 72 = .ok (.sipush 999, 3) := by decide +kernel
theorem dX6_readsOrder_75 : decode cX6_readsOrder 75 = .ok (.invokevirtual 178, 3) := by decide +kernel
theorem dX6_readsOrder_78 : decode cX6_readsOrder 78 = .ok (.ifCond .ne 22, 3) := by decide +kernel
theorem dX6_readsOrder_81 : decode cX6_readsOrder 81 = .ok (.aload_n 0, 1) := by decide +kernel
theorem dX6_readsOrder_82 : decode cX6_readsOrder 82 = .ok (.getfield 175, 3) := by decide +kernel
theorem dX6_readsOrder_85 : decode cX6_readsOrder 85 = .ok (.bipush 110, 2) := by decide +kernel
theorem dX6_readsOrder_87 : decode cX6_readsOrder 87 = .ok (.if_icmp .ne 17, 3) := by decide +kernel
theorem dX6_readsOrder_90 : decode cX6_readsOrder 90 = .ok (.aload_n 0, 1) := by decide +kernel
theorem dX6_readsOrder_91 : decode cX6_readsOrder 91 = .ok (.iconst 1, 1) := by decide +kernel
theorem dX6_readsOrder_92 : decode cX6_readsOrder 92 = .ok (.bipush 99, 2) := by decide +kernel
theorem dX6_readsOrder_94 : decode cX6_readsOrder 94 = .ok (.invokevirtual 178, 3) := by decide +kernel
theorem dX6_readsOrder_97 : decode cX6_readsOrder 97 = .ok (.ifCond .eq 7, 3) := by decide +kernel
theorem dX6_readsOrder_100 : decode cX6_readsOrder 100 = .ok (.iconst 1, 1) := by decide +kernel
theorem dX6_readsOrder_101 : decode cX6_readsOrder 101 = .ok (.goto 4, 3) := by decide +kernel
theorem dX6_readsOrder_104 : decode cX6_readsOrder 104 = .ok (.iconst 0, 1) := by decide +kernel
theorem dX6_readsOrder_105 : decode cX6_readsOrder 105 = .ok (.istore_n 1, 1) := by decide +kernel
theorem dX6_readsOrder_106 : decode cX6_readsOrder 106 = .ok (.iload_n 1, 1) := by decide +kernel
theorem dX6_readsOrder_107 : decode cX6_readsOrder 107 = .ok (.ifCond .eq 28, 3) := by decide +kernel
theorem dX6_readsOrder_110 : decode cX6_readsOrder 110 = .ok (.aload_n 0, 1) := by decide +kernel
theorem dX6_readsOrder_111 : decode cX6_readsOrder 111 = .ok (.getfield 169, 3) := by decide +kernel
theorem dX6_readsOrder_114 : decode cX6_readsOrder 114 = .ok (.aload_n 0, 1) := by decide +kernel
theorem dX6_readsOrder_115 : decode cX6_readsOrder 115 = .ok (.getfield 131, 3) := by decide +kernel
theorem dX6_readsOrder_118 : decode cX6_readsOrder 118 = .ok (.if_icmp .ge 17, 3) := by decide +kernel
theorem dX6_readsOrder_121 : decode cX6_readsOrder 121 = .ok (.aload_n 0, 1) := by decide +kernel
theorem dX6_readsOrder_122 : decode cX6_readsOrder 122 = .ok (.getfield 19, 3) := by decide +kernel
theorem dX6_readsOrder_125 : decode cX6_readsOrder 125 = .ok (.aload_n 0, 1) := by decide +kernel
theorem dX6_readsOrder_126 : decode cX6_readsOrder 126 = .ok (.getfield 169, 3) := by decide +kernel
theorem dX6_readsOrder_129 : decode cX6_readsOrder 129 = .ok (.caload, 1) := by decide +kernel
theorem dX6_readsOrder_130 : decode cX6_readsOrder 130 = .ok (.bipush 59, 2) := by decide +kernel
theorem dX6_readsOrder_132 : decode cX6_readsOrder 132 = .ok (.if_icmp .eq 5, 3) := by decide +kernel
theorem dX6_readsOrder_135 : decode cX6_readsOrder 135 = .ok (.iconst 0, 1) := by decide +kernel
theorem dX6_readsOrder_136 : decode cX6_readsOrder 136 = .ok (.ireturn, 1) := by decide +kernel
theorem dX6_readsOrder_137 : decode cX6_readsOrder 137 = .ok (.aload_n 0, 1) := by decide +kernel
theorem dX6_readsOrder_138 : decode cX6_readsOrder 138 = .ok (.dup, 1) := by decide +kernel
theorem dX6_readsOrder_139 : decode cX6_readsOrder 139 = .ok (.getfield 169, 3) := by decide +kernel
theorem dX6_readsOrder_142 : decode cX6_readsOrder 142 = .ok (.iconst 1, 1) := by decide +kernel
theorem dX6_readsOrder_143 : decode cX6_readsOrder 143 = .ok (.iadd, 1) := by decide +kernel
theorem dX6_readsOrder_144 : decode cX6_readsOrder 144 = .ok (.putfield 169, 3) := by decide +kernel
theorem dX6_readsOrder_147 : decode cX6_readsOrder 147 = .ok (.iconst 1, 1) := by decide +kernel
theorem dX6_readsOrder_148 : decode cX6_readsOrder 148 = .ok (.ireturn, 1) := by decide +kernel
set_option maxRecDepth 20000 in
theorem ggX6_fault_X6_readsOrder : GoodIn wsX6_fault wsX6_readsOrder := goodIn_r _ [7, 8, 1, 9, 2, 10, 11, 12, 6, 13, 14, 15, 16, 17, 18, 19, 20, 21, 22, 23, 24, 25, 26, 27, 28, 29, 30, 31, 32, 33, 34, 35, 36, 37, 38, 39] (by decide +kernel) (by decide +kernel)
set_option maxRecDepth 20000 in
theorem gX6_fault_X6_readsOrder : GoodIn wsX6_fault (wsV RX6 181 RX6 yX6_readsOrder wsX6_readsOrder) := goodIn_app (goodIn_of _ (by decide +kernel)) ggX6_fault_X6_readsOrder
theorem dX6_fault_0 : decode cX6_fault 0 = .ok (.aload_n 0, 1) := by decide +kernel
theorem dX6_fault_1 : decode cX6_fault 1 = .ok (.iconst 0, 1) := by decide +kernel
theorem dX6_fault_2 : decode cX6_fault 2 = .ok (.putfield 169, 3) := by decide +kernel
theorem dX6_fault_5 : decode cX6_fault 5 = .ok (.aload_n 0, 1) := by decide +kernel
theorem dX6_fault_6 : decode cX6_fault 6 = .ok (.getfield 169, 3) := by decide +kernel
theorem dX6_fault_9 : decode cX6_fault 9 = .ok (.aload_n 0, 1) := by decide +kernel
theorem dX6_fault_10 : decode cX6_fault 10 = .ok (.getfield 131, 3) := by decide +kernel
theorem dX6_fault_13 : decode cX6_fault 13 = .ok (.if_icmp .ge 20, 3) := by decide +kernel
theorem dX6_fault_16 : decode cX6_fault 16 = .ok (.aload_n 0, 1) := by decide +kernel
theorem dX6_fault_17 : decode cX6_fault 17 = .ok (.getfield 169, 3) := by decide +kernel
theorem dX6_fault_20 : decode cX6_fault 20 = .ok (.istore_n 1, 1) := by decide +kernel
theorem dX6_fault_21 : decode cX6_fault 21 = .ok (.aload_n 0, 1) := by decide +kernel
theorem dX6_fault_22 : decode cX6_fault 22 = .ok (.invokevirtual 181, 3) := by decide +kernel
theorem dX6_fault_25 : decode cX6_fault 25 = .ok (.ifCond .ne 5, 3) := by decide +kernel
theorem dX6_fault_28 : decode cX6_fault 28 = .ok (.iload_n 1, 1) := by decide +kernel
theorem dX6_fault_29 : decode cX6_fault 29 = .ok (.ireturn, 1) := by decide +kernel
theorem dX6_fault_30 : decode cX6_fault 30 = .ok (.goto (-25), 3) := by decide +kernel
theorem dX6_fault_33 : decode cX6_fault 33 = .ok (.bipush (-4), 2) := by decide +kernel
theorem dX6_fault_35 : decode cX6_fault 35 = .ok (.ireturn, 1) := by decide +kernel
set_option maxRecDepth 20000 in
theorem ggX6_carries_X6_goes : GoodIn wsX6_carries wsX6_goes := goodIn_r _ [8, 2, 9, 10, 11, 7, 12, 13, 14, 15, 16, 17, 18, 19, 20, 21, 22, 23, 24, 25, 26, 27, 28, 29, 30, 31, 32, 33, 34, 35, 36, 37, 38, 39, 40, 41, 42, 43, 44, 45, 90, 91, 92, 93, 94, 95, 96, 97, 98, 99, 100, 101, 102, 103, 104, 105, 106, 107, 108] (by decide +kernel) (by decide +kernel)
set_option maxRecDepth 20000 in
theorem gX6_carries_X6_goes : GoodIn wsX6_carries (wsV RX6 138 RX6 yX6_goes wsX6_goes) := goodIn_app (goodIn_of _ (by decide +kernel)) ggX6_carries_X6_goes
set_option maxRecDepth 20000 in
theorem ggX6_carries_X6_firstShown : GoodIn wsX6_carries wsX6_firstShown := goodIn_r _ [49, 13, 20, 21, 22, 7, 23, 19, 90, 91, 92, 93, 94, 95, 96, 97, 98, 99, 100, 101, 102, 103, 104, 105, 106, 107, 108] (by decide +kernel) (by decide +kernel)
set_option maxRecDepth 20000 in
theorem gX6_carries_X6_firstShown : GoodIn wsX6_carries (wsV RX6 106 RX6 yX6_firstShown wsX6_firstShown) := goodIn_app (goodIn_of _ (by decide +kernel)) ggX6_carries_X6_firstShown
set_option maxRecDepth 20000 in
theorem ggX6_carries_X6_asks : GoodIn wsX6_carries wsX6_asks := goodIn_r _ [53, 2, 54, 14, 24, 25, 26, 7, 27, 28, 55, 56, 57, 58, 13, 20, 21, 22, 23, 19, 29, 30, 31, 32, 33, 34, 35, 36, 37, 38, 39, 40, 41, 42, 43, 44, 45, 90, 91, 92, 93, 94, 95, 96, 97, 98, 99, 100, 101, 102, 103, 104, 105, 106, 107, 108] (by decide +kernel) (by decide +kernel)
set_option maxRecDepth 20000 in
theorem gX6_carries_X6_asks : GoodIn wsX6_carries (wsV RX6 144 RX6 yX6_asks wsX6_asks) := goodIn_app (goodIn_of _ (by decide +kernel)) ggX6_carries_X6_asks
set_option maxRecDepth 20000 in
theorem ggX6_carries_X6_canJump : GoodIn wsX6_carries wsX6_canJump := goodIn_r _ [62, 2, 63, 64, 65, 7, 66, 54, 67, 68, 69, 55, 56, 57, 58, 13, 14, 20, 21, 22, 23, 19, 90, 91, 92, 93, 94, 95, 96, 97, 98, 99, 100, 101, 102, 103, 104, 105, 106, 107, 108] (by decide +kernel) (by decide +kernel)
set_option maxRecDepth 20000 in
theorem gX6_carries_X6_canJump : GoodIn wsX6_carries (wsV RX6 147 RX6 yX6_canJump wsX6_canJump) := goodIn_app (goodIn_of _ (by decide +kernel)) ggX6_carries_X6_canJump
set_option maxRecDepth 20000 in
theorem ggX6_carries_X6_jumps : GoodIn wsX6_carries wsX6_jumps := goodIn_r _ [73, 2, 55, 56, 57, 7, 58, 13, 14, 20, 21, 22, 23, 19, 29, 30, 31, 32, 33, 34, 35, 36, 24, 25, 26, 27, 28, 37, 38, 39, 40, 41, 42, 43, 44, 45, 90, 91, 92, 93, 94, 95, 96, 97, 98, 99, 100, 101, 102, 103, 104, 105, 106, 107, 108] (by decide +kernel) (by decide +kernel)
set_option maxRecDepth 20000 in
theorem gX6_carries_X6_jumps : GoodIn wsX6_carries (wsV RX6 150 RX6 yX6_jumps wsX6_jumps) := goodIn_app (goodIn_of _ (by decide +kernel)) ggX6_carries_X6_jumps
set_option maxRecDepth 20000 in
theorem ggX6_carries_X6_returns : GoodIn wsX6_carries wsX6_returns := goodIn_r _ [77, 2, 29, 30, 31, 7, 32, 33, 34, 35, 36, 24, 25, 26, 27, 28, 37, 38, 39, 40, 19, 41, 42, 43, 44, 45, 90, 91, 92, 93, 94, 95, 96, 97, 98, 99, 100, 101, 102, 103, 104, 105, 106, 107, 108] (by decide +kernel) (by decide +kernel)
set_option maxRecDepth 20000 in
theorem gX6_carries_X6_returns : GoodIn wsX6_carries (wsV RX6 153 RX6 yX6_returns wsX6_returns) := goodIn_app (goodIn_of _ (by decide +kernel)) ggX6_carries_X6_returns
set_option maxRecDepth 20000 in
theorem ggX6_carries_X6_canNote : GoodIn wsX6_carries wsX6_canNote := goodIn_r _ [81, 2, 20, 21, 22, 7, 23, 19, 82, 83, 84, 85, 90, 91, 92, 93, 94, 95, 96, 97, 98, 99, 100, 101, 102, 103, 104, 105, 106, 107, 108] (by decide +kernel) (by decide +kernel)
set_option maxRecDepth 20000 in
theorem gX6_carries_X6_canNote : GoodIn wsX6_carries (wsV RX6 162 RX6 yX6_canNote wsX6_canNote) := goodIn_app (goodIn_of _ (by decide +kernel)) ggX6_carries_X6_canNote
set_option maxRecDepth 20000 in
theorem ggX6_carries_X6_notes : GoodIn wsX6_carries wsX6_notes := goodIn_r _ [89, 2, 82, 83, 84, 7, 85, 90, 91, 92, 93, 94, 95, 96, 97, 98, 99, 100, 101, 102, 103, 104, 105, 106, 107, 108] (by decide +kernel) (by decide +kernel)
set_option maxRecDepth 20000 in
theorem gX6_carries_X6_notes : GoodIn wsX6_carries (wsV RX6 165 RX6 yX6_notes wsX6_notes) := goodIn_app (goodIn_of _ (by decide +kernel)) ggX6_carries_X6_notes
theorem dX6_carries_0 : decode cX6_carries 0 = .ok (.aload_n 0, 1) := by decide +kernel
theorem dX6_carries_1 : decode cX6_carries 1 = .ok (.getfield 175, 3) := by decide +kernel
theorem dX6_carries_4 : decode cX6_carries 4 = .ok (.lookupswitch 127 #[(98, 69), (106, 85), (114, 44), (117, 108)], 44) := by decide +kernel
theorem dX6_carries_48 : decode cX6_carries 48 = .ok (.aload_n 0, 1) := by decide +kernel
theorem dX6_carries_49 : decode cX6_carries 49 = .ok (.getfield 7, 3) := by decide +kernel
theorem dX6_carries_52 : decode cX6_carries 52 = .ok (.sipush 301, 3) := by decide +kernel
theorem dX6_carries_55 : decode cX6_carries 55 = .ok (.iaload, 1) := by decide +kernel
theorem dX6_carries_56 : decode cX6_carries 56 = .ok (.iconst (-1), 1) := by decide +kernel
theorem dX6_carries_57 : decode cX6_carries 57 = .ok (.if_icmp .ne 5, 3) := by decide +kernel
theorem dX6_carries_60 : decode cX6_carries 60 = .ok (.iconst 0, 1) := by decide +kernel
theorem dX6_carries_61 : decode cX6_carries 61 = .ok (.ireturn, 1) := by decide +kernel
theorem dX6_carries_62 : decode cX6_carries 62 = .ok (.aload_n 0, 1) := by decide +kernel
theorem dX6_carries_63 : decode cX6_carries 63 = .ok (.aload_n 0, 1) := by decide +kernel
theorem dX6_carries_64 : decode cX6_carries 64 = .ok (.getfield 172, 3) := by decide +kernel
theorem dX6_carries_67 : decode cX6_carries 67 = .ok (.invokevirtual 138, 3) := by decide +kernel
theorem dX6_carries_70 : decode cX6_carries 70 = .ok (.pop, 1) := by decide +kernel
theorem dX6_carries_71 : decode cX6_carries 71 = .ok (.iconst 1, 1) := by decide +kernel
theorem dX6_carries_72 : decode cX6_carries 72 = .ok (.ireturn, 1) := by decide +kernel
theorem dX6_carries_73 : decode cX6_carries 73 = .ok (.aload_n 0, 1) := by decide +kernel
theorem dX6_carries_74 : decode cX6_carries 74 = .ok (.invokevirtual 106, 3) := by decide +kernel
theorem dX6_carries_77 : decode cX6_carries 77 = .ok (.iconst (-1), 1) := by decide +kernel
theorem dX6_carries_78 : decode cX6_carries 78 = .ok (.if_icmp .ne 5, 3) := by decide +kernel
theorem dX6_carries_81 : decode cX6_carries 81 = .ok (.iconst 0, 1) := by decide +kernel
theorem dX6_carries_82 : decode cX6_carries 82 = .ok (.ireturn, 1) := by decide +kernel
theorem dX6_carries_83 : decode cX6_carries 83 = .ok (.aload_n 0, 1) := by decide +kernel
theorem dX6_carries_84 : decode cX6_carries 84 = .ok (.invokevirtual 144, 3) := by decide +kernel
theorem dX6_carries_87 : decode cX6_carries 87 = .ok (.iconst 1, 1) := by decide +kernel
theorem dX6_carries_88 : decode cX6_carries 88 = .ok (.ireturn, 1) := by decide +kernel
theorem dX6_carries_89 : decode cX6_carries 89 = .ok (.aload_n 0, 1) := by decide +kernel
theorem dX6_carries_90 : decode cX6_carries 90 = .ok (.aload_n 0, 1) := by decide +kernel
theorem dX6_carries_91 : decode cX6_carries 91 = .ok (.getfield 172, 3) := by decide +kernel
theorem dX6_carries_94 : decode cX6_carries 94 = .ok (.invokevirtual 147, 3) := by decide +kernel
theorem dX6_carries_97 : decode cX6_carries 97 = .ok (.ifCond .ne 5, 3) := by decide +kernel
theorem dX6_carries_100 : decode cX6_carries 100 = .ok (.iconst 0, 1) := by decide +kernel
theorem dX6_carries_101 : decode cX6_carries 101 = .ok (.ireturn, 1) := by decide +kernel
theorem dX6_carries_102 : decode cX6_carries 102 = .ok (.aload_n 0, 1) := by decide +kernel
theorem dX6_carries_103 : decode cX6_carries 103 = .ok (.aload_n 0, 1) := by decide +kernel
theorem dX6_carries_104 : decode cX6_carries 104 = .ok (.getfield 172, 3) := by decide +kernel
theorem dX6_carries_107 : decode cX6_carries 107 = .ok (.invokevirtual 150, 3) := by decide +kernel
theorem dX6_carries_110 : decode cX6_carries 110 = .ok (.iconst 1, 1) := by decide +kernel
theorem dX6_carries_111 : decode cX6_carries 111 = .ok (.ireturn, 1) := by decide +kernel
theorem dX6_carries_112 : decode cX6_carries 112 = .ok (.aload_n 0, 1) := by decide +kernel
theorem dX6_carries_113 : decode cX6_carries 113 = .ok (.getfield 7, 3) := by decide +kernel
theorem dX6_carries_116 : decode cX6_carries 116 = .ok (.sipush 303, 3) := by decide +kernel
theorem dX6_carries_119 : decode cX6_carries 119 = .ok (.iaload, 1) := by decide +kernel
theorem dX6_carries_120 : decode cX6_carries 120 = .ok (.ifCond .ne 5, 3) := by decide +kernel
theorem dX6_carries_123 : decode cX6_carries 123 = .ok (.iconst 0, 1) := by decide +kernel
theorem dX6_carries_124 : decode cX6_carries 124 = .ok (.ireturn, 1) := by decide +kernel
theorem dX6_carries_125 : decode cX6_carries 125 = .ok (.aload_n 0, 1) := by decide +kernel
theorem dX6_carries_126 : decode cX6_carries 126 = .ok (.invokevirtual 153, 3) := by decide +kernel
theorem dX6_carries_129 : decode cX6_carries 129 = .ok (.iconst 1, 1) := by decide +kernel
theorem dX6_carries_130 : decode cX6_carries 130 = .ok (.ireturn, 1) := by decide +kernel
theorem dX6_carries_131 : decode cX6_carries 131 = .ok (.aload_n 0, 1) := by decide +kernel
theorem dX6_carries_132 : decode cX6_carries 132 = .ok (.getfield 7, 3) := by decide +kernel
theorem dX6_carries_135 : decode cX6_carries 135 = .ok (.sipush 301, 3) := by decide +kernel
theorem dX6_carries_138 : decode cX6_carries 138 = .ok (.iaload, 1) := by decide +kernel
theorem dX6_carries_139 : decode cX6_carries 139 = .ok (.iconst (-1), 1) := by decide +kernel
theorem dX6_carries_140 : decode cX6_carries 140 = .ok (.if_icmp .eq 18, 3) := by decide +kernel
theorem dX6_carries_143 : decode cX6_carries 143 = .ok (.aload_n 0, 1) := by decide +kernel
theorem dX6_carries_144 : decode cX6_carries 144 = .ok (.aload_n 0, 1) := by decide +kernel
theorem dX6_carries_145 : decode cX6_carries 145 = .ok (.getfield 7, 3) := by decide +kernel
theorem dX6_carries_148 : decode cX6_carries 148 = .ok (.sipush 301, 3) := by decide +kernel
theorem dX6_carries_151 : decode cX6_carries 151 = .ok (.iaload, 1) := by decide +kernel
theorem dX6_carries_152 : decode cX6_carries 152 = .ok (.invokevirtual 162, 3) := by decide +kernel
theorem dX6_carries_155 : decode cX6_carries 155 = .ok (.ifCond .ne 5, 3) := by decide +kernel
theorem dX6_carries_158 : decode cX6_carries 158 = .ok (.iconst 0, 1) := by decide +kernel
theorem dX6_carries_159 : decode cX6_carries 159 = .ok (.ireturn, 1) := by decide +kernel
theorem dX6_carries_160 : decode cX6_carries 160 = .ok (.aload_n 0, 1) := by decide +kernel
theorem dX6_carries_161 : decode cX6_carries 161 = .ok (.aload_n 0, 1) := by decide +kernel
theorem dX6_carries_162 : decode cX6_carries 162 = .ok (.getfield 7, 3) := by decide +kernel
theorem dX6_carries_165 : decode cX6_carries 165 = .ok (.sipush 301, 3) := by decide +kernel
theorem dX6_carries_168 : decode cX6_carries 168 = .ok (.iaload, 1) := by decide +kernel
theorem dX6_carries_169 : decode cX6_carries 169 = .ok (.aload_n 0, 1) := by decide +kernel
theorem dX6_carries_170 : decode cX6_carries 170 = .ok (.getfield 172, 3) := by decide +kernel
theorem dX6_carries_173 : decode cX6_carries 173 = .ok (.invokevirtual 165, 3) := by decide +kernel
theorem dX6_carries_176 : decode cX6_carries 176 = .ok (.iconst 1, 1) := by decide +kernel
theorem dX6_carries_177 : decode cX6_carries 177 = .ok (.ireturn, 1) := by decide +kernel
set_option maxRecDepth 20000 in
theorem ggX6_carry_X6_fault : GoodIn wsX6_carry wsX6_fault := goodIn_r _ [7, 1, 2, 8, 9, 10, 6, 11, 12, 13, 14, 15, 16, 17, 18, 19, 20, 21, 22, 23, 24, 118, 119, 120, 121, 122, 123, 124, 125, 126, 127, 128, 129, 130, 131, 132, 133, 134, 135, 136] (by decide +kernel) (by decide +kernel)
set_option maxRecDepth 20000 in
theorem gX6_carry_X6_fault : GoodIn wsX6_carry (wsV RX6 185 RX6 yX6_fault wsX6_fault) := goodIn_app (goodIn_of _ (by decide +kernel)) ggX6_carry_X6_fault
set_option maxRecDepth 20000 in
theorem ggX6_carry_X6_records : GoodIn wsX6_carry wsX6_records := goodIn_r _ [28, 29, 30, 31, 118, 119, 120, 121, 122, 123, 124, 125, 126, 127, 128, 129, 130, 131, 132, 133, 134, 135, 136] (by decide +kernel) (by decide +kernel)
set_option maxRecDepth 20000 in
theorem gX6_carry_X6_records : GoodIn wsX6_carry (wsV RX6 110 RX6 yX6_records wsX6_records) := goodIn_app (goodIn_of _ (by decide +kernel)) ggX6_carry_X6_records
set_option maxRecDepth 20000 in
theorem ggX6_carry_X6_readsOrder : GoodIn wsX6_carry wsX6_readsOrder := goodIn_r _ [11, 12, 1, 13, 2, 14, 15, 16, 6, 17, 18, 19, 20, 21, 22, 23, 24, 118, 119, 120, 121, 122, 123, 124, 125, 126, 127, 128, 129, 130, 131, 132, 133, 134, 135, 136] (by decide +kernel) (by decide +kernel)
set_option maxRecDepth 20000 in
theorem gX6_carry_X6_readsOrder : GoodIn wsX6_carry (wsV RX6 181 RX6 yX6_readsOrder wsX6_readsOrder) := goodIn_app (goodIn_of _ (by decide +kernel)) ggX6_carry_X6_readsOrder
set_option maxRecDepth 20000 in
theorem ggX6_carry_X6_carries : GoodIn wsX6_carry wsX6_carries := goodIn_r _ [35, 13, 31, 18, 36, 37, 38, 6, 39, 40, 41, 42, 43, 44, 45, 46, 47, 48, 49, 50, 51, 52, 53, 54, 55, 56, 57, 58, 59, 60, 61, 62, 63, 64, 65, 66, 67, 68, 69, 70, 71, 72, 73, 74, 75, 76, 77, 78, 79, 80, 81, 82, 83, 84, 85, 86, 87, 88, 89, 90, 91, 92, 93, 94, 95, 96, 97, 22, 23, 24, 98, 99, 100, 101, 102, 103, 104, 105, 106, 107, 108, 109, 110, 111, 112, 113, 114, 115, 116, 117, 118, 119, 120, 121, 122, 123, 124, 125, 126, 127, 128, 129, 130, 131, 132, 133, 134, 135, 136] (by decide +kernel) (by decide +kernel)
set_option maxRecDepth 20000 in
theorem gX6_carry_X6_carries : GoodIn wsX6_carry (wsV RX6 188 RX6 yX6_carries wsX6_carries) := goodIn_app (goodIn_of _ (by decide +kernel)) ggX6_carry_X6_carries
theorem dX6_carry_0 : decode cX6_carry 0 = .ok (.aload_n 0, 1) := by decide +kernel
theorem dX6_carry_1 : decode cX6_carry 1 = .ok (.invokevirtual 185, 3) := by decide +kernel
theorem dX6_carry_4 : decode cX6_carry 4 = .ok (.bipush (-4), 2) := by decide +kernel
theorem dX6_carry_6 : decode cX6_carry 6 = .ok (.if_icmp .eq 6, 3) := by decide +kernel
theorem dX6_carry_9 : decode cX6_carry 9 = .ok (.bipush (-2), 2) := by decide +kernel
theorem dX6_carry_11 : decode cX6_carry 11 = .ok (.ireturn, 1) := by decide +kernel
theorem dX6_carry_12 : decode cX6_carry 12 = .ok (.aload_n 0, 1) := by decide +kernel
theorem dX6_carry_13 : decode cX6_carry 13 = .ok (.invokevirtual 110, 3) := by decide +kernel
theorem dX6_carry_16 : decode cX6_carry 16 = .ok (.iconst 0, 1) := by decide +kernel
theorem dX6_carry_17 : decode cX6_carry 17 = .ok (.istore_n 1, 1) := by decide +kernel
theorem dX6_carry_18 : decode cX6_carry 18 = .ok (.iconst 1, 1) := by decide +kernel
theorem dX6_carry_19 : decode cX6_carry 19 = .ok (.istore_n 2, 1) := by decide +kernel
theorem dX6_carry_20 : decode cX6_carry 20 = .ok (.aload_n 0, 1) := by decide +kernel
theorem dX6_carry_21 : decode cX6_carry 21 = .ok (.iconst 0, 1) := by decide +kernel
theorem dX6_carry_22 : decode cX6_carry 22 = .ok (.putfield 169, 3) := by decide +kernel
theorem dX6_carry_25 : decode cX6_carry 25 = .ok (.iload_n 2, 1) := by decide +kernel
theorem dX6_carry_26 : decode cX6_carry 26 = .ok (.ifCond .eq 39, 3) := by decide +kernel
theorem dX6_carry_29 : decode cX6_carry 29 = .ok (.aload_n 0, 1) := by decide +kernel
theorem dX6_carry_30 : decode cX6_carry 30 = .ok (.getfield 169, 3) := by decide +kernel
theorem dX6_carry_33 : decode cX6_carry 33 = .ok (.aload_n 0, 1) := by decide +kernel
theorem dX6_carry_34 : decode cX6_carry 34 = .ok (.getfield 131, 3) := by decide +kernel
theorem dX6_carry_37 : decode cX6_carry 37 = .ok (.if_icmp .ge 28, 3) := by decide +kernel
theorem dX6_carry_40 : decode cX6_carry 40 = .ok (.aload_n 0, 1) := by decide +kernel
theorem dX6_carry_41 : decode cX6_carry 41 = .ok (.invokevirtual 181, 3) := by decide +kernel
theorem dX6_carry_44 : decode cX6_carry 44 = .ok (.pop, 1) := by decide +kernel
theorem dX6_carry_45 : decode cX6_carry 45 = .ok (.aload_n 0, 1) := by decide +kernel
theorem dX6_carry_46 : decode cX6_carry 46 = .ok (.invokevirtual 188, 3) := by decide +kernel
theorem dX6_carry_49 : decode cX6_carry 49 = .ok (.istore_n 2, 1) := by decide +kernel
theorem dX6_carry_50 : decode cX6_carry 50 = .ok (.iload_n 1, 1) := by decide +kernel
theorem dX6_carry_51 : decode cX6_carry 51 = .ok (.iload_n 2, 1) := by decide +kernel
theorem dX6_carry_52 : decode cX6_carry 52 = .ok (.ifCond .eq 7, 3) := by decide +kernel
theorem dX6_carry_55 : decode cX6_carry 55 = .ok (.iconst 1, 1) := by decide +kernel
theorem dX6_carry_56 : decode cX6_carry 56 = .ok (.goto 4, 3) := by decide +kernel
theorem dX6_carry_59 : decode cX6_carry 59 = .ok (.iconst 0, 1) := by decide +kernel
theorem dX6_carry_60 : decode cX6_carry 60 = .ok (.iadd, 1) := by decide +kernel
theorem dX6_carry_61 : decode cX6_carry 61 = .ok (.istore_n 1, 1) := by decide +kernel
theorem dX6_carry_62 : decode cX6_carry 62 = .ok (.goto (-37), 3) := by decide +kernel
theorem dX6_carry_65 : decode cX6_carry 65 = .ok (.iload_n 1, 1) := by decide +kernel
theorem dX6_carry_66 : decode cX6_carry 66 = .ok (.ireturn, 1) := by decide +kernel
