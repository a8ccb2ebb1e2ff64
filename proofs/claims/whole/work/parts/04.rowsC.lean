theorem dX6_init_0 : decode cX6_init 0 = .ok (.aload_n 0, 1) := by decide +kernel
theorem dX6_init_1 : decode cX6_init 1 = .ok (.invokespecial 1, 3) := by decide +kernel
theorem dX6_init_4 : decode cX6_init 4 = .ok (.aload_n 0, 1) := by decide +kernel
theorem dX6_init_5 : decode cX6_init 5 = .ok (.sipush 348, 3) := by decide +kernel
theorem dX6_init_8 : decode cX6_init 8 = .ok (.newarray .int, 2) := by decide +kernel
theorem dX6_init_10 : decode cX6_init 10 = .ok (.putfield 7, 3) := by decide +kernel
theorem dX6_init_13 : decode cX6_init 13 = .ok (.aload_n 0, 1) := by decide +kernel
theorem dX6_init_14 : decode cX6_init 14 = .ok (.sipush 1392, 3) := by decide +kernel
theorem dX6_init_17 : decode cX6_init 17 = .ok (.newarray .int, 2) := by decide +kernel
theorem dX6_init_19 : decode cX6_init 19 = .ok (.putfield 13, 3) := by decide +kernel
theorem dX6_init_22 : decode cX6_init 22 = .ok (.aload_n 0, 1) := by decide +kernel
theorem dX6_init_23 : decode cX6_init 23 = .ok (.sipush 348, 3) := by decide +kernel
theorem dX6_init_26 : decode cX6_init 26 = .ok (.newarray .int, 2) := by decide +kernel
theorem dX6_init_28 : decode cX6_init 28 = .ok (.putfield 16, 3) := by decide +kernel
theorem dX6_init_31 : decode cX6_init 31 = .ok (.aload_n 0, 1) := by decide +kernel
theorem dX6_init_32 : decode cX6_init 32 = .ok (.bipush 60, 2) := by decide +kernel
theorem dX6_init_34 : decode cX6_init 34 = .ok (.newarray .char, 2) := by decide +kernel
theorem dX6_init_36 : decode cX6_init 36 = .ok (.putfield 19, 3) := by decide +kernel
theorem dX6_init_39 : decode cX6_init 39 = .ok (.aload_n 0, 1) := by decide +kernel
theorem dX6_init_40 : decode cX6_init 40 = .ok (.sipush 151, 3) := by decide +kernel
theorem dX6_init_43 : decode cX6_init 43 = .ok (.newarray .int, 2) := by decide +kernel
theorem dX6_init_45 : decode cX6_init 45 = .ok (.putfield 23, 3) := by decide +kernel
theorem dX6_init_48 : decode cX6_init 48 = .ok (.aload_n 0, 1) := by decide +kernel
theorem dX6_init_49 : decode cX6_init 49 = .ok (.sipush 151, 3) := by decide +kernel
theorem dX6_init_52 : decode cX6_init 52 = .ok (.newarray .int, 2) := by decide +kernel
theorem dX6_init_54 : decode cX6_init 54 = .ok (.putfield 26, 3) := by decide +kernel
theorem dX6_init_57 : decode cX6_init 57 = .ok (.aload_n 0, 1) := by decide +kernel
theorem dX6_init_58 : decode cX6_init 58 = .ok (.sipush 151, 3) := by decide +kernel
theorem dX6_init_61 : decode cX6_init 61 = .ok (.newarray .int, 2) := by decide +kernel
theorem dX6_init_63 : decode cX6_init 63 = .ok (.putfield 29, 3) := by decide +kernel
theorem dX6_init_66 : decode cX6_init 66 = .ok (.aload_n 0, 1) := by decide +kernel
theorem dX6_init_67 : decode cX6_init 67 = .ok (.sipush 151, 3) := by decide +kernel
theorem dX6_init_70 : decode cX6_init 70 = .ok (.newarray .int, 2) := by decide +kernel
theorem dX6_init_72 : decode cX6_init 72 = .ok (.putfield 32, 3) := by decide +kernel
theorem dX6_init_75 : decode cX6_init 75 = .ok (.aload_n 0, 1) := by decide +kernel
theorem dX6_init_76 : decode cX6_init 76 = .ok (.sipush 151, 3) := by decide +kernel
theorem dX6_init_79 : decode cX6_init 79 = .ok (.newarray .boolean, 2) := by decide +kernel
theorem dX6_init_81 : decode cX6_init 81 = .ok (.putfield 35, 3) := by decide +kernel
theorem dX6_init_84 : decode cX6_init 84 = .ok (.aload_n 0, 1) := by decide +kernel
theorem dX6_init_85 : decode cX6_init 85 = .ok (.sipush 151, 3) := by decide +kernel
theorem dX6_init_88 : decode cX6_init 88 = .ok (.newarray .int, 2) := by decide +kernel
theorem dX6_init_90 : decode cX6_init 90 = .ok (.putfield 39, 3) := by decide +kernel
theorem dX6_init_93 : decode cX6_init 93 = .ok (.aload_n 0, 1) := by decide +kernel
theorem dX6_init_94 : decode cX6_init 94 = .ok (.sipush 151, 3) := by decide +kernel
theorem dX6_init_97 : decode cX6_init 97 = .ok (.newarray .int, 2) := by decide +kernel
theorem dX6_init_99 : decode cX6_init 99 = .ok (.putfield 42, 3) := by decide +kernel
theorem dX6_init_102 : decode cX6_init 102 = .ok (.aload_n 0, 1) := by decide +kernel
theorem dX6_init_103 : decode cX6_init 103 = .ok (.getfield 7, 3) := by decide +kernel
theorem dX6_init_106 : decode cX6_init 106 = .ok (.sipush 301, 3) := by decide +kernel
theorem dX6_init_109 : decode cX6_init 109 = .ok (.iconst (-1), 1) := by decide +kernel
theorem dX6_init_110 : decode cX6_init 110 = .ok (.iastore, 1) := by decide +kernel
theorem dX6_init_111 : decode cX6_init 111 = .ok (.aload_n 0, 1) := by decide +kernel
theorem dX6_init_112 : decode cX6_init 112 = .ok (.getfield 7, 3) := by decide +kernel
theorem dX6_init_115 : decode cX6_init 115 = .ok (.sipush 333, 3) := by decide +kernel
theorem dX6_init_118 : decode cX6_init 118 = .ok (.bipush 6, 2) := by decide +kernel
theorem dX6_init_120 : decode cX6_init 120 = .ok (.iastore, 1) := by decide +kernel
theorem dX6_init_121 : decode cX6_init 121 = .ok (.aload_n 0, 1) := by decide +kernel
theorem dX6_init_122 : decode cX6_init 122 = .ok (.getfield 7, 3) := by decide +kernel
theorem dX6_init_125 : decode cX6_init 125 = .ok (.sipush 334, 3) := by decide +kernel
theorem dX6_init_128 : decode cX6_init 128 = .ok (.iconst 3, 1) := by decide +kernel
theorem dX6_init_129 : decode cX6_init 129 = .ok (.iastore, 1) := by decide +kernel
theorem dX6_init_130 : decode cX6_init 130 = .ok (.aload_n 0, 1) := by decide +kernel
theorem dX6_init_131 : decode cX6_init 131 = .ok (.getfield 7, 3) := by decide +kernel
theorem dX6_init_134 : decode cX6_init 134 = .ok (.sipush 335, 3) := by decide +kernel
theorem dX6_init_137 : decode cX6_init 137 = .ok (.sipush 150, 3) := by decide +kernel
theorem dX6_init_140 : decode cX6_init 140 = .ok (.iastore, 1) := by decide +kernel
theorem dX6_init_141 : decode cX6_init 141 = .ok (.aload_n 0, 1) := by decide +kernel
theorem dX6_init_142 : decode cX6_init 142 = .ok (.getfield 7, 3) := by decide +kernel
theorem dX6_init_145 : decode cX6_init 145 = .ok (.sipush 336, 3) := by decide +kernel
theorem dX6_init_148 : decode cX6_init 148 = .ok (.sipush 220, 3) := by decide +kernel
theorem dX6_init_151 : decode cX6_init 151 = .ok (.iastore, 1) := by decide +kernel
theorem dX6_init_152 : decode cX6_init 152 = .ok (.aload_n 0, 1) := by decide +kernel
theorem dX6_init_153 : decode cX6_init 153 = .ok (.getfield 7, 3) := by decide +kernel
theorem dX6_init_156 : decode cX6_init 156 = .ok (.sipush 337, 3) := by decide +kernel
theorem dX6_init_159 : decode cX6_init 159 = .ok (.sipush 130, 3) := by decide +kernel
theorem dX6_init_162 : decode cX6_init 162 = .ok (.iastore, 1) := by decide +kernel
theorem dX6_init_163 : decode cX6_init 163 = .ok (.aload_n 0, 1) := by decide +kernel
theorem dX6_init_164 : decode cX6_init 164 = .ok (.getfield 7, 3) := by decide +kernel
theorem dX6_init_167 : decode cX6_init 167 = .ok (.sipush 338, 3) := by decide +kernel
theorem dX6_init_170 : decode cX6_init 170 = .ok (.bipush 10, 2) := by decide +kernel
theorem dX6_init_172 : decode cX6_init 172 = .ok (.iastore, 1) := by decide +kernel
theorem dX6_init_173 : decode cX6_init 173 = .ok (.aload_n 0, 1) := by decide +kernel
theorem dX6_init_174 : decode cX6_init 174 = .ok (.getfield 7, 3) := by decide +kernel
theorem dX6_init_177 : decode cX6_init 177 = .ok (.sipush 339, 3) := by decide +kernel
theorem dX6_init_180 : decode cX6_init 180 = .ok (.iconst 2, 1) := by decide +kernel
theorem dX6_init_181 : decode cX6_init 181 = .ok (.iastore, 1) := by decide +kernel
theorem dX6_init_182 : decode cX6_init 182 = .ok (.iconst 0, 1) := by decide +kernel
theorem dX6_init_183 : decode cX6_init 183 = .ok (.istore_n 1, 1) := by decide +kernel
theorem dX6_init_184 : decode cX6_init 184 = .ok (.iload_n 1, 1) := by decide +kernel
theorem dX6_init_185 : decode cX6_init 185 = .ok (.iconst 3, 1) := by decide +kernel
theorem dX6_init_186 : decode cX6_init 186 = .ok (.if_icmp .ge 21, 3) := by decide +kernel
theorem dX6_init_189 : decode cX6_init 189 = .ok (.aload_n 0, 1) := by decide +kernel
theorem dX6_init_190 : decode cX6_init 190 = .ok (.getfield 7, 3) := by decide +kernel
theorem dX6_init_193 : decode cX6_init 193 = .ok (.sipush 330, 3) := by decide +kernel
theorem dX6_init_196 : decode cX6_init 196 = .ok (.iload_n 1, 1) := by decide +kernel
theorem dX6_init_197 : decode cX6_init 197 = .ok (.iadd, 1) := by decide +kernel
theorem dX6_init_198 : decode cX6_init 198 = .ok (.bipush 100, 2) := by decide +kernel
theorem dX6_init_200 : decode cX6_init 200 = .ok (.iastore, 1) := by decide +kernel
theorem dX6_init_201 : decode cX6_init 201 = .ok (.iinc 1 1, 3) := by decide +kernel
theorem dX6_init_204 : decode cX6_init 204 = .ok (.goto (-20), 3) := by decide +kernel
theorem dX6_init_207 : decode cX6_init 207 = .ok (.return_, 1) := by decide +kernel
theorem dX6_in_0 : decode cX6_in 0 = .ok (.iload_n 0, 1) := by decide +kernel
theorem dX6_in_1 : decode cX6_in 1 = .ok (.iload_n 1, 1) := by decide +kernel
theorem dX6_in_2 : decode cX6_in 2 = .ok (.if_icmp .lt 12, 3) := by decide +kernel
theorem dX6_in_5 : decode cX6_in 5 = .ok (.iload_n 0, 1) := by decide +kernel
theorem dX6_in_6 : decode cX6_in 6 = .ok (.iload_n 2, 1) := by decide +kernel
theorem dX6_in_7 : decode cX6_in 7 = .ok (.if_icmp .gt 7, 3) := by decide +kernel
theorem dX6_in_10 : decode cX6_in 10 = .ok (.iconst 1, 1) := by decide +kernel
theorem dX6_in_11 : decode cX6_in 11 = .ok (.goto 4, 3) := by decide +kernel
theorem dX6_in_14 : decode cX6_in 14 = .ok (.iconst 0, 1) := by decide +kernel
theorem dX6_in_15 : decode cX6_in 15 = .ok (.ireturn, 1) := by decide +kernel
set_option maxRecDepth 20000 in
theorem ggX6_isWord_X6_in : GoodIn wsX6_isWord wsX6_in := goodIn_r _ [5] (by decide +kernel) (by decide +kernel)
set_option maxRecDepth 20000 in
theorem gX6_isWord_X6_in : GoodIn wsX6_isWord (va_wsS RX6 49 yX6_in wsX6_in) := goodIn_app (goodIn_of _ (by decide +kernel)) ggX6_isWord_X6_in
theorem dX6_isWord_0 : decode cX6_isWord 0 = .ok (.iload_n 1, 1) := by decide +kernel
theorem dX6_isWord_1 : decode cX6_isWord 1 = .ok (.iconst 0, 1) := by decide +kernel
theorem dX6_isWord_2 : decode cX6_isWord 2 = .ok (.aload_n 0, 1) := by decide +kernel
theorem dX6_isWord_3 : decode cX6_isWord 3 = .ok (.getfield 45, 3) := by decide +kernel
theorem dX6_isWord_6 : decode cX6_isWord 6 = .ok (.iconst 1, 1) := by decide +kernel
theorem dX6_isWord_7 : decode cX6_isWord 7 = .ok (.isub, 1) := by decide +kernel
theorem dX6_isWord_8 : decode cX6_isWord 8 = .ok (.invokestatic 49, 3) := by decide +kernel
theorem dX6_isWord_11 : decode cX6_isWord 11 = .ok (.ireturn, 1) := by decide +kernel
set_option maxRecDepth 20000 in
theorem ggX6_isSentence_X6_in : GoodIn wsX6_isSentence wsX6_in := goodIn_r _ [5] (by decide +kernel) (by decide +kernel)
set_option maxRecDepth 20000 in
theorem gX6_isSentence_X6_in : GoodIn wsX6_isSentence (va_wsS RX6 49 yX6_in wsX6_in) := goodIn_app (goodIn_of _ (by decide +kernel)) ggX6_isSentence_X6_in
theorem dX6_isSentence_0 : decode cX6_isSentence 0 = .ok (.iload_n 1, 1) := by decide +kernel
theorem dX6_isSentence_1 : decode cX6_isSentence 1 = .ok (.iconst 0, 1) := by decide +kernel
theorem dX6_isSentence_2 : decode cX6_isSentence 2 = .ok (.aload_n 0, 1) := by decide +kernel
theorem dX6_isSentence_3 : decode cX6_isSentence 3 = .ok (.getfield 53, 3) := by decide +kernel
theorem dX6_isSentence_6 : decode cX6_isSentence 6 = .ok (.iconst 1, 1) := by decide +kernel
theorem dX6_isSentence_7 : decode cX6_isSentence 7 = .ok (.isub, 1) := by decide +kernel
theorem dX6_isSentence_8 : decode cX6_isSentence 8 = .ok (.invokestatic 49, 3) := by decide +kernel
theorem dX6_isSentence_11 : decode cX6_isSentence 11 = .ok (.ireturn, 1) := by decide +kernel
set_option maxRecDepth 20000 in
theorem ggX6_isPage_X6_in : GoodIn wsX6_isPage wsX6_in := goodIn_r _ [5] (by decide +kernel) (by decide +kernel)
set_option maxRecDepth 20000 in
theorem gX6_isPage_X6_in : GoodIn wsX6_isPage (va_wsS RX6 49 yX6_in wsX6_in) := goodIn_app (goodIn_of _ (by decide +kernel)) ggX6_isPage_X6_in
theorem dX6_isPage_0 : decode cX6_isPage 0 = .ok (.iload_n 1, 1) := by decide +kernel
theorem dX6_isPage_1 : decode cX6_isPage 1 = .ok (.iconst 0, 1) := by decide +kernel
theorem dX6_isPage_2 : decode cX6_isPage 2 = .ok (.aload_n 0, 1) := by decide +kernel
theorem dX6_isPage_3 : decode cX6_isPage 3 = .ok (.getfield 56, 3) := by decide +kernel
theorem dX6_isPage_6 : decode cX6_isPage 6 = .ok (.iconst 1, 1) := by decide +kernel
theorem dX6_isPage_7 : decode cX6_isPage 7 = .ok (.isub, 1) := by decide +kernel
theorem dX6_isPage_8 : decode cX6_isPage 8 = .ok (.invokestatic 49, 3) := by decide +kernel
theorem dX6_isPage_11 : decode cX6_isPage 11 = .ok (.ireturn, 1) := by decide +kernel
theorem dX6_records_0 : decode cX6_records 0 = .ok (.aload_n 0, 1) := by decide +kernel
theorem dX6_records_1 : decode cX6_records 1 = .ok (.getfield 59, 3) := by decide +kernel
theorem dX6_records_4 : decode cX6_records 4 = .ok (.iconst 4, 1) := by decide +kernel
theorem dX6_records_5 : decode cX6_records 5 = .ok (.if_icmp .ne 44, 3) := by decide +kernel
theorem dX6_records_8 : decode cX6_records 8 = .ok (.iconst 0, 1) := by decide +kernel
theorem dX6_records_9 : decode cX6_records 9 = .ok (.istore_n 1, 1) := by decide +kernel
theorem dX6_records_10 : decode cX6_records 10 = .ok (.iload_n 1, 1) := by decide +kernel
theorem dX6_records_11 : decode cX6_records 11 = .ok (.sipush 1044, 3) := by decide +kernel
theorem dX6_records_14 : decode cX6_records 14 = .ok (.if_icmp .ge 25, 3) := by decide +kernel
theorem dX6_records_17 : decode cX6_records 17 = .ok (.aload_n 0, 1) := by decide +kernel
theorem dX6_records_18 : decode cX6_records 18 = .ok (.getfield 13, 3) := by decide +kernel
theorem dX6_records_21 : decode cX6_records 21 = .ok (.iload_n 1, 1) := by decide +kernel
theorem dX6_records_22 : decode cX6_records 22 = .ok (.aload_n 0, 1) := by decide +kernel
theorem dX6_records_23 : decode cX6_records 23 = .ok (.getfield 13, 3) := by decide +kernel
theorem dX6_records_26 : decode cX6_records 26 = .ok (.iload_n 1, 1) := by decide +kernel
theorem dX6_records_27 : decode cX6_records 27 = .ok (.sipush 348, 3) := by decide +kernel
theorem dX6_records_30 : decode cX6_records 30 = .ok (.iadd, 1) := by decide +kernel
theorem dX6_records_31 : decode cX6_records 31 = .ok (.iaload, 1) := by decide +kernel
theorem dX6_records_32 : decode cX6_records 32 = .ok (.iastore, 1) := by decide +kernel
theorem dX6_records_33 : decode cX6_records 33 = .ok (.iinc 1 1, 3) := by decide +kernel
theorem dX6_records_36 : decode cX6_records 36 = .ok (.goto (-26), 3) := by decide +kernel
theorem dX6_records_39 : decode cX6_records 39 = .ok (.aload_n 0, 1) := by decide +kernel
theorem dX6_records_40 : decode cX6_records 40 = .ok (.dup, 1) := by decide +kernel
theorem dX6_records_41 : decode cX6_records 41 = .ok (.getfield 59, 3) := by decide +kernel
theorem dX6_records_44 : decode cX6_records 44 = .ok (.iconst 1, 1) := by decide +kernel
theorem dX6_records_45 : decode cX6_records 45 = .ok (.isub, 1) := by decide +kernel
theorem dX6_records_46 : decode cX6_records 46 = .ok (.putfield 59, 3) := by decide +kernel
theorem dX6_records_49 : decode cX6_records 49 = .ok (.iconst 0, 1) := by decide +kernel
theorem dX6_records_50 : decode cX6_records 50 = .ok (.istore_n 1, 1) := by decide +kernel
theorem dX6_records_51 : decode cX6_records 51 = .ok (.iload_n 1, 1) := by decide +kernel
theorem dX6_records_52 : decode cX6_records 52 = .ok (.sipush 348, 3) := by decide +kernel
theorem dX6_records_55 : decode cX6_records 55 = .ok (.if_icmp .ge 30, 3) := by decide +kernel
theorem dX6_records_58 : decode cX6_records 58 = .ok (.aload_n 0, 1) := by decide +kernel
theorem dX6_records_59 : decode cX6_records 59 = .ok (.getfield 13, 3) := by decide +kernel
theorem dX6_records_62 : decode cX6_records 62 = .ok (.sipush 348, 3) := by decide +kernel
theorem dX6_records_65 : decode cX6_records 65 = .ok (.aload_n 0, 1) := by decide +kernel
theorem dX6_records_66 : decode cX6_records 66 = .ok (.getfield 59, 3) := by decide +kernel
theorem dX6_records_69 : decode cX6_records 69 = .ok (.imul, 1) := by decide +kernel
theorem dX6_records_70 : decode cX6_records 70 = .ok (.iload_n 1, 1) := by decide +kernel
theorem dX6_records_71 : decode cX6_records 71 = .ok (.iadd, 1) := by decide +kernel
theorem dX6_records_72 : decode cX6_records 72 = .ok (.aload_n 0, 1) := by decide +kernel
theorem dX6_records_73 : decode cX6_records 73 = .ok (.getfield 7, 3) := by decide +kernel
theorem dX6_records_76 : decode cX6_records 76 = .ok (.iload_n 1, 1) := by decide +kernel
theorem dX6_records_77 : decode cX6_records 77 = .ok (.iaload, 1) := by decide +kernel
theorem dX6_records_78 : decode cX6_records 78 = .ok (.iastore, 1) := by decide +kernel
theorem dX6_records_79 : decode cX6_records 79 = .ok (.iinc 1 1, 3) := by decide +kernel
theorem dX6_records_82 : decode cX6_records 82 = .ok (.goto (-31), 3) := by decide +kernel
theorem dX6_records_85 : decode cX6_records 85 = .ok (.aload_n 0, 1) := by decide +kernel
theorem dX6_records_86 : decode cX6_records 86 = .ok (.dup, 1) := by decide +kernel
theorem dX6_records_87 : decode cX6_records 87 = .ok (.getfield 59, 3) := by decide +kernel
theorem dX6_records_90 : decode cX6_records 90 = .ok (.iconst 1, 1) := by decide +kernel
theorem dX6_records_91 : decode cX6_records 91 = .ok (.iadd, 1) := by decide +kernel
theorem dX6_records_92 : decode cX6_records 92 = .ok (.putfield 59, 3) := by decide +kernel
theorem dX6_records_95 : decode cX6_records 95 = .ok (.return_, 1) := by decide +kernel
set_option maxRecDepth 20000 in
theorem ggX6_isFigure_X6_in : GoodIn wsX6_isFigure wsX6_in := goodIn_r _ [4] (by decide +kernel) (by decide +kernel)
set_option maxRecDepth 20000 in
theorem gX6_isFigure_X6_in : GoodIn wsX6_isFigure (va_wsS RX6 49 yX6_in wsX6_in) := goodIn_app (goodIn_of _ (by decide +kernel)) ggX6_isFigure_X6_in
theorem dX6_isFigure_0 : decode cX6_isFigure 0 = .ok (.iload_n 0, 1) := by decide +kernel
theorem dX6_isFigure_1 : decode cX6_isFigure 1 = .ok (.bipush 48, 2) := by decide +kernel
theorem dX6_isFigure_3 : decode cX6_isFigure 3 = .ok (.bipush 57, 2) := by decide +kernel
theorem dX6_isFigure_5 : decode cX6_isFigure 5 = .ok (.invokestatic 49, 3) := by decide +kernel
theorem dX6_isFigure_8 : decode cX6_isFigure 8 = .ok (.ireturn, 1) := by decide +kernel
set_option maxRecDepth 20000 in
theorem ggX6_isLetter_X6_isFigure : GoodIn wsX6_isLetter wsX6_isFigure := goodIn_r _ [4, 5, 6, 3, 7] (by decide +kernel) (by decide +kernel)
set_option maxRecDepth 20000 in
theorem gX6_isLetter_X6_isFigure : GoodIn wsX6_isLetter (va_wsS RX6 62 yX6_isFigure wsX6_isFigure) := goodIn_app (goodIn_of _ (by decide +kernel)) ggX6_isLetter_X6_isFigure
set_option maxRecDepth 20000 in
theorem ggX6_isLetter_X6_in : GoodIn wsX6_isLetter wsX6_in := goodIn_r _ [7] (by decide +kernel) (by decide +kernel)
set_option maxRecDepth 20000 in
theorem gX6_isLetter_X6_in : GoodIn wsX6_isLetter (va_wsS RX6 49 yX6_in wsX6_in) := goodIn_app (goodIn_of _ (by decide +kernel)) ggX6_isLetter_X6_in
theorem dX6_isLetter_0 : decode cX6_isLetter 0 = .ok (.iload_n 0, 1) := by decide +kernel
theorem dX6_isLetter_1 : decode cX6_isLetter 1 = .ok (.invokestatic 62, 3) := by decide +kernel
theorem dX6_isLetter_4 : decode cX6_isLetter 4 = .ok (.ifCond .ne 25, 3) := by decide +kernel
theorem dX6_isLetter_7 : decode cX6_isLetter 7 = .ok (.iload_n 0, 1) := by decide +kernel
theorem dX6_isLetter_8 : decode cX6_isLetter 8 = .ok (.bipush 97, 2) := by decide +kernel
theorem dX6_isLetter_10 : decode cX6_isLetter 10 = .ok (.bipush 122, 2) := by decide +kernel
theorem dX6_isLetter_12 : decode cX6_isLetter 12 = .ok (.invokestatic 49, 3) := by decide +kernel
theorem dX6_isLetter_15 : decode cX6_isLetter 15 = .ok (.ifCond .ne 14, 3) := by decide +kernel
theorem dX6_isLetter_18 : decode cX6_isLetter 18 = .ok (.iload_n 0, 1) := by decide +kernel
theorem dX6_isLetter_19 : decode cX6_isLetter 19 = .ok (.bipush 65, 2) := by decide +kernel
theorem dX6_isLetter_21 : decode cX6_isLetter 21 = .ok (.bipush 90, 2) := by decide +kernel
theorem dX6_isLetter_23 : decode cX6_isLetter 23 = .ok (.invokestatic 49, 3) := by decide +kernel
theorem dX6_isLetter_26 : decode cX6_isLetter 26 = .ok (.ifCond .eq 7, 3) := by decide +kernel
theorem dX6_isLetter_29 : decode cX6_isLetter 29 = .ok (.iconst 1, 1) := by decide +kernel
theorem dX6_isLetter_30 : decode cX6_isLetter 30 = .ok (.goto 4, 3) := by decide +kernel
theorem dX6_isLetter_33 : decode cX6_isLetter 33 = .ok (.iconst 0, 1) := by decide +kernel
theorem dX6_isLetter_34 : decode cX6_isLetter 34 = .ok (.ireturn, 1) := by decide +kernel
theorem dX6_kindOf_0 : decode cX6_kindOf 0 = .ok (.iload_n 2, 1) := by decide +kernel
theorem dX6_kindOf_1 : decode cX6_kindOf 1 = .ok (.iconst 1, 1) := by decide +kernel
theorem dX6_kindOf_2 : decode cX6_kindOf 2 = .ok (.if_icmp .ne 18, 3) := by decide +kernel
theorem dX6_kindOf_5 : decode cX6_kindOf 5 = .ok (.aload_n 0, 1) := by decide +kernel
theorem dX6_kindOf_6 : decode cX6_kindOf 6 = .ok (.getfield 7, 3) := by decide +kernel
theorem dX6_kindOf_9 : decode cX6_kindOf 9 = .ok (.iconst 1, 1) := by decide +kernel
theorem dX6_kindOf_10 : decode cX6_kindOf 10 = .ok (.iload_n 1, 1) := by decide +kernel
theorem dX6_kindOf_11 : decode cX6_kindOf 11 = .ok (.iadd, 1) := by decide +kernel
theorem dX6_kindOf_12 : decode cX6_kindOf 12 = .ok (.iaload, 1) := by decide +kernel
theorem dX6_kindOf_13 : decode cX6_kindOf 13 = .ok (.bipush 124, 2) := by decide +kernel
theorem dX6_kindOf_15 : decode cX6_kindOf 15 = .ok (.if_icmp .ne 5, 3) := by decide +kernel
theorem dX6_kindOf_18 : decode cX6_kindOf 18 = .ok (.iconst 3, 1) := by decide +kernel
theorem dX6_kindOf_19 : decode cX6_kindOf 19 = .ok (.ireturn, 1) := by decide +kernel
theorem dX6_kindOf_20 : decode cX6_kindOf 20 = .ok (.iload_n 1, 1) := by decide +kernel
theorem dX6_kindOf_21 : decode cX6_kindOf 21 = .ok (.iload_n 2, 1) := by decide +kernel
theorem dX6_kindOf_22 : decode cX6_kindOf 22 = .ok (.iadd, 1) := by decide +kernel
theorem dX6_kindOf_23 : decode cX6_kindOf 23 = .ok (.iconst 1, 1) := by decide +kernel
theorem dX6_kindOf_24 : decode cX6_kindOf 24 = .ok (.isub, 1) := by decide +kernel
theorem dX6_kindOf_25 : decode cX6_kindOf 25 = .ok (.istore_n 3, 1) := by decide +kernel
theorem dX6_kindOf_26 : decode cX6_kindOf 26 = .ok (.iload_n 3, 1) := by decide +kernel
theorem dX6_kindOf_27 : decode cX6_kindOf 27 = .ok (.iload_n 1, 1) := by decide +kernel
theorem dX6_kindOf_28 : decode cX6_kindOf 28 = .ok (.if_icmp .lt 61, 3) := by decide +kernel
theorem dX6_kindOf_31 : decode cX6_kindOf 31 = .ok (.aload_n 0, 1) := by decide +kernel
theorem dX6_kindOf_32 : decode cX6_kindOf 32 = .ok (.getfield 7, 3) := by decide +kernel
theorem dX6_kindOf_35 : decode cX6_kindOf 35 = .ok (.iconst 1, 1) := by decide +kernel
theorem dX6_kindOf_36 : decode cX6_kindOf 36 = .ok (.iload_n 3, 1) := by decide +kernel
theorem dX6_kindOf_37 : decode cX6_kindOf 37 = .ok (.iadd, 1) := by decide +kernel
theorem dX6_kindOf_38 : decode cX6_kindOf 38 = .ok (.iaload, 1) := by decide +kernel
theorem dX6_kindOf_39 : decode cX6_kindOf 39 = .ok (.bipush 41, 2) := by decide +kernel
theorem dX6_kindOf_41 : decode cX6_kindOf 41 = .ok (.if_icmp .eq 42, 3) := by decide +kernel
theorem dX6_kindOf_44 : decode cX6_kindOf 44 = .ok (.aload_n 0, 1) := by decide +kernel
theorem dX6_kindOf_45 : decode cX6_kindOf 45 = .ok (.getfield 7, 3) := by decide +kernel
theorem dX6_kindOf_48 : decode cX6_kindOf 48 = .ok (.iconst 1, 1) := by decide +kernel
theorem dX6_kindOf_49 : decode cX6_kindOf 49 = .ok (.iload_n 3, 1) := by decide +kernel
theorem dX6_kindOf_50 : decode cX6_kindOf 50 = .ok (.iadd, 1) := by decide +kernel
theorem dX6_kindOf_51 : decode cX6_kindOf 51 = .ok (.iaload, 1) := by decide +kernel
theorem dX6_kindOf_52 : decode cX6_kindOf 52 = .ok (.bipush 93, 2) := by decide +kernel
theorem dX6_kindOf_54 : decode cX6_kindOf 54 = .ok (.if_icmp .eq 29, 3) := by decide +kernel
theorem dX6_kindOf_57 : decode cX6_kindOf 57 = .ok (.aload_n 0, 1) := by decide +kernel
theorem dX6_kindOf_58 : decode cX6_kindOf 58 = .ok (.getfield 7, 3) := by decide +kernel
theorem dX6_kindOf_61 : decode cX6_kindOf 61 = .ok (.iconst 1, 1) := by decide +kernel
theorem dX6_kindOf_62 : decode cX6_kindOf 62 = .ok (.iload_n 3, 1) := by decide +kernel
theorem dX6_kindOf_63 : decode cX6_kindOf 63 = .ok (.iadd, 1) := by decide +kernel
theorem dX6_kindOf_64 : decode cX6_kindOf 64 = .ok (.iaload, 1) := by decide +kernel
theorem dX6_kindOf_65 : decode cX6_kindOf 65 = .ok (.bipush 34, 2) := by decide +kernel
theorem dX6_kindOf_67 : decode cX6_kindOf 67 = .ok (.if_icmp .eq 16, 3) := by decide +kernel
theorem dX6_kindOf_70 : decode cX6_kindOf 70 = .ok (.aload_n 0, 1) := by decide +kernel
theorem dX6_kindOf_71 : decode cX6_kindOf 71 = .ok (.getfield 7, 3) := by decide +kernel
theorem dX6_kindOf_74 : decode cX6_kindOf 74 = .ok (.iconst 1, 1) := by decide +kernel
theorem dX6_kindOf_75 : decode cX6_kindOf 75 = .ok (.iload_n 3, 1) := by decide +kernel
theorem dX6_kindOf_76 : decode cX6_kindOf 76 = .ok (.iadd, 1) := by decide +kernel
theorem dX6_kindOf_77 : decode cX6_kindOf 77 = .ok (.iaload, 1) := by decide +kernel
theorem dX6_kindOf_78 : decode cX6_kindOf 78 = .ok (.bipush 39, 2) := by decide +kernel
theorem dX6_kindOf_80 : decode cX6_kindOf 80 = .ok (.if_icmp .ne 9, 3) := by decide +kernel
theorem dX6_kindOf_83 : decode cX6_kindOf 83 = .ok (.iinc 3 (-1), 3) := by decide +kernel
theorem dX6_kindOf_86 : decode cX6_kindOf 86 = .ok (.goto (-60), 3) := by decide +kernel
theorem dX6_kindOf_89 : decode cX6_kindOf 89 = .ok (.iload_n 3, 1) := by decide +kernel
theorem dX6_kindOf_90 : decode cX6_kindOf 90 = .ok (.iload_n 1, 1) := by decide +kernel
theorem dX6_kindOf_91 : decode cX6_kindOf 91 = .ok (.if_icmp .ge 7, 3) := by decide +kernel
theorem dX6_kindOf_94 : decode cX6_kindOf 94 = .ok (.iconst 0, 1) := by decide +kernel
theorem dX6_kindOf_95 : decode cX6_kindOf 95 = .ok (.goto 11, 3) := by decide +kernel
theorem dX6_kindOf_98 : decode cX6_kindOf 98 = .ok (.aload_n 0, 1) := by decide +kernel
theorem dX6_kindOf_99 : decode cX6_kindOf 99 = .ok (.getfield 7, 3) := by decide +kernel
theorem dX6_kindOf_102 : decode cX6_kindOf 102 = .ok (.iconst 1, 1) := by decide +kernel
theorem dX6_kindOf_103 : decode cX6_kindOf 103 = .ok (.iload_n 3, 1) := by decide +kernel
theorem dX6_kindOf_104 : decode cX6_kindOf 104 = .ok (.iadd, 1) := by decide +kernel
theorem dX6_kindOf_105 : decode cX6_kindOf 105 = .ok (.iaload, 1) := by decide +kernel
theorem dX6_kindOf_106 : decode cX6_kindOf 106 = .ok (.istore 4, 2) := by decide +kernel
theorem dX6_kindOf_108 : decode cX6_kindOf 108 = .ok (.iload 4, 2) := by decide +kernel
theorem dX6_kindOf_110 : decode cX6_kindOf 110 = .ok (.bipush 46, 2) := by decide +kernel
theorem dX6_kindOf_112 : decode cX6_kindOf 112 = .ok (.if_icmp .eq 17, 3) := by decide +kernel
theorem dX6_kindOf_115 : decode cX6_kindOf 115 = .ok (.iload 4, 2) := by decide +kernel
theorem dX6_kindOf_117 : decode cX6_kindOf 117 = .ok (.bipush 33, 2) := by decide +kernel
theorem dX6_kindOf_119 : decode cX6_kindOf 119 = .ok (.if_icmp .eq 10, 3) := by decide +kernel
theorem dX6_kindOf_122 : decode cX6_kindOf 122 = .ok (.iload 4, 2) := by decide +kernel
theorem dX6_kindOf_124 : decode cX6_kindOf 124 = .ok (.bipush 63, 2) := by decide +kernel
theorem dX6_kindOf_126 : decode cX6_kindOf 126 = .ok (.if_icmp .ne 7, 3) := by decide +kernel
theorem dX6_kindOf_129 : decode cX6_kindOf 129 = .ok (.iconst 2, 1) := by decide +kernel
theorem dX6_kindOf_130 : decode cX6_kindOf 130 = .ok (.goto 29, 3) := by decide +kernel
theorem dX6_kindOf_133 : decode cX6_kindOf 133 = .ok (.iload 4, 2) := by decide +kernel
theorem dX6_kindOf_135 : decode cX6_kindOf 135 = .ok (.bipush 44, 2) := by decide +kernel
theorem dX6_kindOf_137 : decode cX6_kindOf 137 = .ok (.if_icmp .eq 17, 3) := by decide +kernel
theorem dX6_kindOf_140 : decode cX6_kindOf 140 = .ok (.iload 4, 2) := by decide +kernel
theorem dX6_kindOf_142 : decode cX6_kindOf 142 = .ok (.bipush 59, 2) := by decide +kernel
theorem dX6_kindOf_144 : decode cX6_kindOf 144 = .ok (.if_icmp .eq 10, 3) := by decide +kernel
theorem dX6_kindOf_147 : decode cX6_kindOf 147 = .ok (.iload 4, 2) := by decide +kernel
theorem dX6_kindOf_149 : decode cX6_kindOf 149 = .ok (.bipush 58, 2) := by decide +kernel
theorem dX6_kindOf_151 : decode cX6_kindOf 151 = .ok (.if_icmp .ne 7, 3) := by decide +kernel
theorem dX6_kindOf_154 : decode cX6_kindOf 154 = .ok (.iconst 1, 1) := by decide +kernel
theorem dX6_kindOf_155 : decode cX6_kindOf 155 = .ok (.goto 4, 3) := by decide +kernel
theorem dX6_kindOf_158 : decode cX6_kindOf 158 = .ok (.iconst 0, 1) := by decide +kernel
theorem dX6_kindOf_159 : decode cX6_kindOf 159 = .ok (.ireturn, 1) := by decide +kernel
set_option maxRecDepth 20000 in
theorem ggX6_readsWord_X6_kindOf : GoodIn wsX6_readsWord wsX6_kindOf := goodIn_r _ [14, 7, 24, 25, 26, 27, 28, 29, 30, 31, 32, 33, 34, 35, 36, 37, 38, 39, 40, 41, 42] (by decide +kernel) (by decide +kernel)
set_option maxRecDepth 20000 in
theorem gX6_readsWord_X6_kindOf : GoodIn wsX6_readsWord (wsV RX6 66 RX6 yX6_kindOf wsX6_kindOf) := goodIn_app (goodIn_of _ (by decide +kernel)) ggX6_readsWord_X6_kindOf
set_option maxRecDepth 20000 in
theorem ggX6_readsWord_X6_isLetter : GoodIn wsX6_readsWord wsX6_isLetter := goodIn_r _ [17, 18, 19, 13, 20, 21, 22, 23] (by decide +kernel) (by decide +kernel)
set_option maxRecDepth 20000 in
theorem gX6_readsWord_X6_isLetter : GoodIn wsX6_readsWord (va_wsS RX6 70 yX6_isLetter wsX6_isLetter) := goodIn_app (goodIn_of _ (by decide +kernel)) ggX6_readsWord_X6_isLetter
set_option maxRecDepth 20000 in
theorem ggX6_readsWord_X6_isFigure : GoodIn wsX6_readsWord wsX6_isFigure := goodIn_r _ [20, 21, 22, 13, 23] (by decide +kernel) (by decide +kernel)
set_option maxRecDepth 20000 in
theorem gX6_readsWord_X6_isFigure : GoodIn wsX6_readsWord (va_wsS RX6 62 yX6_isFigure wsX6_isFigure) := goodIn_app (goodIn_of _ (by decide +kernel)) ggX6_readsWord_X6_isFigure
theorem dX6_readsWord_0 : decode cX6_readsWord 0 = .ok (.aload_n 0, 1) := by decide +kernel
theorem dX6_readsWord_1 : decode cX6_readsWord 1 = .ok (.getfield 45, 3) := by decide +kernel
theorem dX6_readsWord_4 : decode cX6_readsWord 4 = .ok (.istore_n 3, 1) := by decide +kernel
theorem dX6_readsWord_5 : decode cX6_readsWord 5 = .ok (.aload_n 0, 1) := by decide +kernel
theorem dX6_readsWord_6 : decode cX6_readsWord 6 = .ok (.getfield 23, 3) := by decide +kernel
theorem dX6_readsWord_9 : decode cX6_readsWord 9 = .ok (.iload_n 3, 1) := by decide +kernel
theorem dX6_readsWord_10 : decode cX6_readsWord 10 = .ok (.iload_n 1, 1) := by decide +kernel
theorem dX6_readsWord_11 : decode cX6_readsWord 11 = .ok (.iastore, 1) := by decide +kernel
theorem dX6_readsWord_12 : decode cX6_readsWord 12 = .ok (.aload_n 0, 1) := by decide +kernel
theorem dX6_readsWord_13 : decode cX6_readsWord 13 = .ok (.getfield 26, 3) := by decide +kernel
theorem dX6_readsWord_16 : decode cX6_readsWord 16 = .ok (.iload_n 3, 1) := by decide +kernel
theorem dX6_readsWord_17 : decode cX6_readsWord 17 = .ok (.iload_n 2, 1) := by decide +kernel
theorem dX6_readsWord_18 : decode cX6_readsWord 18 = .ok (.iastore, 1) := by decide +kernel
theorem dX6_readsWord_19 : decode cX6_readsWord 19 = .ok (.aload_n 0, 1) := by decide +kernel
theorem dX6_readsWord_20 : decode cX6_readsWord 20 = .ok (.getfield 32, 3) := by decide +kernel
theorem dX6_readsWord_23 : decode cX6_readsWord 23 = .ok (.iload_n 3, 1) := by decide +kernel
theorem dX6_readsWord_24 : decode cX6_readsWord 24 = .ok (.aload_n 0, 1) := by decide +kernel
theorem dX6_readsWord_25 : decode cX6_readsWord 25 = .ok (.iload_n 1, 1) := by decide +kernel
theorem dX6_readsWord_26 : decode cX6_readsWord 26 = .ok (.iload_n 2, 1) := by decide +kernel
theorem dX6_readsWord_27 : decode cX6_readsWord 27 = .ok (.invokevirtual 66, 3) := by decide +kernel
theorem dX6_readsWord_30 : decode cX6_readsWord 30 = .ok (.iastore, 1) := by decide +kernel
theorem dX6_readsWord_31 : decode cX6_readsWord 31 = .ok (.aload_n 0, 1) := by decide +kernel
theorem dX6_readsWord_32 : decode cX6_readsWord 32 = .ok (.getfield 29, 3) := by decide +kernel
theorem dX6_readsWord_35 : decode cX6_readsWord 35 = .ok (.iload_n 3, 1) := by decide +kernel
theorem dX6_readsWord_36 : decode cX6_readsWord 36 = .ok (.iconst 0, 1) := by decide +kernel
theorem dX6_readsWord_37 : decode cX6_readsWord 37 = .ok (.iastore, 1) := by decide +kernel
theorem dX6_readsWord_38 : decode cX6_readsWord 38 = .ok (.aload_n 0, 1) := by decide +kernel
theorem dX6_readsWord_39 : decode cX6_readsWord 39 = .ok (.getfield 35, 3) := by decide +kernel
theorem dX6_readsWord_42 : decode cX6_readsWord 42 = .ok (.iload_n 3, 1) := by decide +kernel
theorem dX6_readsWord_43 : decode cX6_readsWord 43 = .ok (.iconst 0, 1) := by decide +kernel
theorem dX6_readsWord_44 : decode cX6_readsWord 44 = .ok (.bastore, 1) := by decide +kernel
theorem dX6_readsWord_45 : decode cX6_readsWord 45 = .ok (.iload_n 1, 1) := by decide +kernel
theorem dX6_readsWord_46 : decode cX6_readsWord 46 = .ok (.istore 4, 2) := by decide +kernel
theorem dX6_readsWord_48 : decode cX6_readsWord 48 = .ok (.iload 4, 2) := by decide +kernel
theorem dX6_readsWord_50 : decode cX6_readsWord 50 = .ok (.iload_n 1, 1) := by decide +kernel
theorem dX6_readsWord_51 : decode cX6_readsWord 51 = .ok (.iload_n 2, 1) := by decide +kernel
theorem dX6_readsWord_52 : decode cX6_readsWord 52 = .ok (.iadd, 1) := by decide +kernel
theorem dX6_readsWord_53 : decode cX6_readsWord 53 = .ok (.if_icmp .ge 73, 3) := by decide +kernel
theorem dX6_readsWord_56 : decode cX6_readsWord 56 = .ok (.aload_n 0, 1) := by decide +kernel
theorem dX6_readsWord_57 : decode cX6_readsWord 57 = .ok (.getfield 29, 3) := by decide +kernel
theorem dX6_readsWord_60 : decode cX6_readsWord 60 = .ok (.iload_n 3, 1) := by decide +kernel
theorem dX6_readsWord_61 : decode cX6_readsWord 61 = .ok (.dup2, 1) := by decide +kernel
theorem dX6_readsWord_62 : decode cX6_readsWord 62 = .ok (.iaload, 1) := by decide +kernel
theorem dX6_readsWord_63 : decode cX6_readsWord 63 = .ok (.aload_n 0, 1) := by decide +kernel
theorem dX6_readsWord_64 : decode cX6_readsWord 64 = .ok (.getfield 7, 3) := by decide +kernel
theorem dX6_readsWord_67 : decode cX6_readsWord 67 = .ok (.iconst 1, 1) := by decide +kernel
theorem dX6_readsWord_68 : decode cX6_readsWord 68 = .ok (.iload 4, 2) := by decide +kernel
theorem dX6_readsWord_70 : decode cX6_readsWord 70 = .ok (.iadd, 1) := by decide +kernel
theorem dX6_readsWord_71 : decode cX6_readsWord 71 = .ok (.iaload, 1) := by decide +kernel
theorem dX6_readsWord_72 : decode cX6_readsWord 72 = .ok (.invokestatic 70, 3) := by decide +kernel
theorem dX6_readsWord_75 : decode cX6_readsWord 75 = .ok (.ifCond .eq 7, 3) := by decide +kernel
theorem dX6_readsWord_78 : decode cX6_readsWord 78 = .ok (.iconst 1, 1) := by decide +kernel
theorem dX6_readsWord_79 : decode cX6_readsWord 79 = .ok (.goto 4, 3) := by decide +kernel
theorem dX6_readsWord_82 : decode cX6_readsWord 82 = .ok (.iconst 0, 1) := by decide +kernel
theorem dX6_readsWord_83 : decode cX6_readsWord 83 = .ok (.iadd, 1) := by decide +kernel
theorem dX6_readsWord_84 : decode cX6_readsWord 84 = .ok (.iastore, 1) := by decide +kernel
theorem dX6_readsWord_85 : decode cX6_readsWord 85 = .ok (.aload_n 0, 1) := by decide +kernel
theorem dX6_readsWord_86 : decode cX6_readsWord 86 = .ok (.getfield 35, 3) := by decide +kernel
theorem dX6_readsWord_89 : decode cX6_readsWord 89 = .ok (.iload_n 3, 1) := by decide +kernel
theorem dX6_readsWord_90 : decode cX6_readsWord 90 = .ok (.aload_n 0, 1) := by decide +kernel
theorem dX6_readsWord_91 : decode cX6_readsWord 91 = .ok (.getfield 35, 3) := by decide +kernel
theorem dX6_readsWord_94 : decode cX6_readsWord 94 = .ok (.iload_n 3, 1) := by decide +kernel
theorem dX6_readsWord_95 : decode cX6_readsWord 95 = .ok (.baload, 1) := by decide +kernel
theorem dX6_readsWord_96 : decode cX6_readsWord 96 = .ok (.ifCond .ne 18, 3) := by decide +kernel
theorem dX6_readsWord_99 : decode cX6_readsWord 99 = .ok (.aload_n 0, 1) := by decide +kernel
theorem dX6_readsWord_100 : decode cX6_readsWord 100 = .ok (.getfield 7, 3) := by decide +kernel
theorem dX6_readsWord_103 : decode cX6_readsWord 103 = .ok (.iconst 1, 1) := by decide +kernel
theorem dX6_readsWord_104 : decode cX6_readsWord 104 = .ok (.iload 4, 2) := by decide +kernel
theorem dX6_readsWord_106 : decode cX6_readsWord 106 = .ok (.iadd, 1) := by decide +kernel
theorem dX6_readsWord_107 : decode cX6_readsWord 107 = .ok (.iaload, 1) := by decide +kernel
theorem dX6_readsWord_108 : decode cX6_readsWord 108 = .ok (.invokestatic 62, 3) := by decide +kernel
theorem dX6_readsWord_111 : decode cX6_readsWord 111 = .ok (.ifCond .eq 7, 3) := by decide +kernel
theorem dX6_readsWord_114 : decode cX6_readsWord 114 = .ok (.iconst 1, 1) := by decide +kernel
theorem dX6_readsWord_115 : decode cX6_readsWord 115 = .ok (.goto 4, 3) := by decide +kernel
theorem dX6_readsWord_118 : decode cX6_readsWord 118 = .ok (.iconst 0, 1) := by decide +kernel
theorem dX6_readsWord_119 : decode cX6_readsWord 119 = .ok (.bastore, 1) := by decide +kernel
theorem dX6_readsWord_120 : decode cX6_readsWord 120 = .ok (.iinc 4 1, 3) := by decide +kernel
theorem dX6_readsWord_123 : decode cX6_readsWord 123 = .ok (.goto (-75), 3) := by decide +kernel
theorem dX6_readsWord_126 : decode cX6_readsWord 126 = .ok (.aload_n 0, 1) := by decide +kernel
theorem dX6_readsWord_127 : decode cX6_readsWord 127 = .ok (.getfield 39, 3) := by decide +kernel
theorem dX6_readsWord_130 : decode cX6_readsWord 130 = .ok (.iload_n 3, 1) := by decide +kernel
theorem dX6_readsWord_131 : decode cX6_readsWord 131 = .ok (.iload_n 3, 1) := by decide +kernel
theorem dX6_readsWord_132 : decode cX6_readsWord 132 = .ok (.ifCond .ne 7, 3) := by decide +kernel
theorem dX6_readsWord_135 : decode cX6_readsWord 135 = .ok (.iconst 0, 1) := by decide +kernel
theorem dX6_readsWord_136 : decode cX6_readsWord 136 = .ok (.goto 29, 3) := by decide +kernel
theorem dX6_readsWord_139 : decode cX6_readsWord 139 = .ok (.aload_n 0, 1) := by decide +kernel
theorem dX6_readsWord_140 : decode cX6_readsWord 140 = .ok (.getfield 39, 3) := by decide +kernel
theorem dX6_readsWord_143 : decode cX6_readsWord 143 = .ok (.iload_n 3, 1) := by decide +kernel
theorem dX6_readsWord_144 : decode cX6_readsWord 144 = .ok (.iconst 1, 1) := by decide +kernel
theorem dX6_readsWord_145 : decode cX6_readsWord 145 = .ok (.isub, 1) := by decide +kernel
theorem dX6_readsWord_146 : decode cX6_readsWord 146 = .ok (.iaload, 1) := by decide +kernel
theorem dX6_readsWord_147 : decode cX6_readsWord 147 = .ok (.aload_n 0, 1) := by decide +kernel
theorem dX6_readsWord_148 : decode cX6_readsWord 148 = .ok (.getfield 32, 3) := by decide +kernel
theorem dX6_readsWord_151 : decode cX6_readsWord 151 = .ok (.iload_n 3, 1) := by decide +kernel
theorem dX6_readsWord_152 : decode cX6_readsWord 152 = .ok (.iconst 1, 1) := by decide +kernel
theorem dX6_readsWord_153 : decode cX6_readsWord 153 = .ok (.isub, 1) := by decide +kernel
theorem dX6_readsWord_154 : decode cX6_readsWord 154 = .ok (.iaload, 1) := by decide +kernel
theorem dX6_readsWord_155 : decode cX6_readsWord 155 = .ok (.iconst 1, 1) := by decide +kernel
theorem dX6_readsWord_156 : decode cX6_readsWord 156 = .ok (.if_icmp .le 7, 3) := by decide +kernel
theorem dX6_readsWord_159 : decode cX6_readsWord 159 = .ok (.iconst 1, 1) := by decide +kernel
theorem dX6_readsWord_160 : decode cX6_readsWord 160 = .ok (.goto 4, 3) := by decide +kernel
theorem dX6_readsWord_163 : decode cX6_readsWord 163 = .ok (.iconst 0, 1) := by decide +kernel
theorem dX6_readsWord_164 : decode cX6_readsWord 164 = .ok (.iadd, 1) := by decide +kernel
theorem dX6_readsWord_165 : decode cX6_readsWord 165 = .ok (.iastore, 1) := by decide +kernel
theorem dX6_readsWord_166 : decode cX6_readsWord 166 = .ok (.aload_n 0, 1) := by decide +kernel
theorem dX6_readsWord_167 : decode cX6_readsWord 167 = .ok (.getfield 42, 3) := by decide +kernel
theorem dX6_readsWord_170 : decode cX6_readsWord 170 = .ok (.iload_n 3, 1) := by decide +kernel
theorem dX6_readsWord_171 : decode cX6_readsWord 171 = .ok (.iload_n 3, 1) := by decide +kernel
theorem dX6_readsWord_172 : decode cX6_readsWord 172 = .ok (.ifCond .ne 7, 3) := by decide +kernel
theorem dX6_readsWord_175 : decode cX6_readsWord 175 = .ok (.iconst 0, 1) := by decide +kernel
theorem dX6_readsWord_176 : decode cX6_readsWord 176 = .ok (.goto 29, 3) := by decide +kernel
theorem dX6_readsWord_179 : decode cX6_readsWord 179 = .ok (.aload_n 0, 1) := by decide +kernel
theorem dX6_readsWord_180 : decode cX6_readsWord 180 = .ok (.getfield 42, 3) := by decide +kernel
theorem dX6_readsWord_183 : decode cX6_readsWord 183 = .ok (.iload_n 3, 1) := by decide +kernel
theorem dX6_readsWord_184 : decode cX6_readsWord 184 = .ok (.iconst 1, 1) := by decide +kernel
theorem dX6_readsWord_185 : decode cX6_readsWord 185 = .ok (.isub, 1) := by decide +kernel
theorem dX6_readsWord_186 : decode cX6_readsWord 186 = .ok (.iaload, 1) := by decide +kernel
theorem dX6_readsWord_187 : decode cX6_readsWord 187 = .ok (.aload_n 0, 1) := by decide +kernel
theorem dX6_readsWord_188 : decode cX6_readsWord 188 = .ok (.getfield 32, 3) := by decide +kernel
theorem dX6_readsWord_191 : decode cX6_readsWord 191 = .ok (.iload_n 3, 1) := by decide +kernel
theorem dX6_readsWord_192 : decode cX6_readsWord 192 = .ok (.iconst 1, 1) := by decide +kernel
theorem dX6_readsWord_193 : decode cX6_readsWord 193 = .ok (.isub, 1) := by decide +kernel
theorem dX6_readsWord_194 : decode cX6_readsWord 194 = .ok (.iaload, 1) := by decide +kernel
theorem dX6_readsWord_195 : decode cX6_readsWord 195 = .ok (.iconst 3, 1) := by decide +kernel
theorem dX6_readsWord_196 : decode cX6_readsWord 196 = .ok (.if_icmp .ne 7, 3) := by decide +kernel
theorem dX6_readsWord_199 : decode cX6_readsWord 199 = .ok (.iconst 1, 1) := by decide +kernel
theorem dX6_readsWord_200 : decode cX6_readsWord 200 = .ok (.goto 4, 3) := by decide +kernel
theorem dX6_readsWord_203 : decode cX6_readsWord 203 = .ok (.iconst 0, 1) := by decide +kernel
theorem dX6_readsWord_204 : decode cX6_readsWord 204 = .ok (.iadd, 1) := by decide +kernel
theorem dX6_readsWord_205 : decode cX6_readsWord 205 = .ok (.iastore, 1) := by decide +kernel
theorem dX6_readsWord_206 : decode cX6_readsWord 206 = .ok (.aload_n 0, 1) := by decide +kernel
theorem dX6_readsWord_207 : decode cX6_readsWord 207 = .ok (.dup, 1) := by decide +kernel
theorem dX6_readsWord_208 : decode cX6_readsWord 208 = .ok (.getfield 45, 3) := by decide +kernel
theorem dX6_readsWord_211 : decode cX6_readsWord 211 = .ok (.iconst 1, 1) := by decide +kernel
theorem dX6_readsWord_212 : decode cX6_readsWord 212 = .ok (.iadd, 1) := by decide +kernel
theorem dX6_readsWord_213 : decode cX6_readsWord 213 = .ok (.putfield 45, 3) := by decide +kernel
theorem dX6_readsWord_216 : decode cX6_readsWord 216 = .ok (.return_, 1) := by decide +kernel
set_option maxRecDepth 20000 in
theorem ggX6_parses_X6_readsWord : GoodIn wsX6_parses wsX6_readsWord := goodIn_r _ [11, 1, 12, 13, 14, 15, 16, 2, 3, 5, 17, 18, 19, 10, 20, 21, 22, 23, 24, 25, 26, 27, 28, 29, 30, 31, 32, 33, 34, 35, 36, 37, 38, 39, 40, 41, 42, 43, 44, 45, 46, 47, 48] (by decide +kernel) (by decide +kernel)
set_option maxRecDepth 20000 in
theorem gX6_parses_X6_readsWord : GoodIn wsX6_parses (wsV RX6 73 RX6 yX6_readsWord wsX6_readsWord) := goodIn_app (goodIn_of _ (by decide +kernel)) ggX6_parses_X6_readsWord
theorem dX6_parses_0 : decode cX6_parses 0 = .ok (.aload_n 0, 1) := by decide +kernel
theorem dX6_parses_1 : decode cX6_parses 1 = .ok (.iconst 0, 1) := by decide +kernel
theorem dX6_parses_2 : decode cX6_parses 2 = .ok (.putfield 45, 3) := by decide +kernel
theorem dX6_parses_5 : decode cX6_parses 5 = .ok (.iconst 0, 1) := by decide +kernel
theorem dX6_parses_6 : decode cX6_parses 6 = .ok (.istore_n 1, 1) := by decide +kernel
theorem dX6_parses_7 : decode cX6_parses 7 = .ok (.iconst 0, 1) := by decide +kernel
theorem dX6_parses_8 : decode cX6_parses 8 = .ok (.istore_n 2, 1) := by decide +kernel
theorem dX6_parses_9 : decode cX6_parses 9 = .ok (.iload_n 2, 1) := by decide +kernel
theorem dX6_parses_10 : decode cX6_parses 10 = .ok (.aload_n 0, 1) := by decide +kernel
theorem dX6_parses_11 : decode cX6_parses 11 = .ok (.getfield 7, 3) := by decide +kernel
theorem dX6_parses_14 : decode cX6_parses 14 = .ok (.iconst 0, 1) := by decide +kernel
theorem dX6_parses_15 : decode cX6_parses 15 = .ok (.iaload, 1) := by decide +kernel
theorem dX6_parses_16 : decode cX6_parses 16 = .ok (.if_icmp .gt 66, 3) := by decide +kernel
theorem dX6_parses_19 : decode cX6_parses 19 = .ok (.iload_n 2, 1) := by decide +kernel
theorem dX6_parses_20 : decode cX6_parses 20 = .ok (.aload_n 0, 1) := by decide +kernel
theorem dX6_parses_21 : decode cX6_parses 21 = .ok (.getfield 7, 3) := by decide +kernel
theorem dX6_parses_24 : decode cX6_parses 24 = .ok (.iconst 0, 1) := by decide +kernel
theorem dX6_parses_25 : decode cX6_parses 25 = .ok (.iaload, 1) := by decide +kernel
theorem dX6_parses_26 : decode cX6_parses 26 = .ok (.if_icmp .eq 16, 3) := by decide +kernel
theorem dX6_parses_29 : decode cX6_parses 29 = .ok (.aload_n 0, 1) := by decide +kernel
theorem dX6_parses_30 : decode cX6_parses 30 = .ok (.getfield 7, 3) := by decide +kernel
theorem dX6_parses_33 : decode cX6_parses 33 = .ok (.iconst 1, 1) := by decide +kernel
theorem dX6_parses_34 : decode cX6_parses 34 = .ok (.iload_n 2, 1) := by decide +kernel
theorem dX6_parses_35 : decode cX6_parses 35 = .ok (.iadd, 1) := by decide +kernel
theorem dX6_parses_36 : decode cX6_parses 36 = .ok (.iaload, 1) := by decide +kernel
theorem dX6_parses_37 : decode cX6_parses 37 = .ok (.bipush 32, 2) := by decide +kernel
theorem dX6_parses_39 : decode cX6_parses 39 = .ok (.if_icmp .ne 7, 3) := by decide +kernel
theorem dX6_parses_42 : decode cX6_parses 42 = .ok (.iconst 1, 1) := by decide +kernel
theorem dX6_parses_43 : decode cX6_parses 43 = .ok (.goto 4, 3) := by decide +kernel
theorem dX6_parses_46 : decode cX6_parses 46 = .ok (.iconst 0, 1) := by decide +kernel
theorem dX6_parses_47 : decode cX6_parses 47 = .ok (.istore_n 3, 1) := by decide +kernel
theorem dX6_parses_48 : decode cX6_parses 48 = .ok (.iload_n 3, 1) := by decide +kernel
theorem dX6_parses_49 : decode cX6_parses 49 = .ok (.ifCond .eq 15, 3) := by decide +kernel
theorem dX6_parses_52 : decode cX6_parses 52 = .ok (.iload_n 1, 1) := by decide +kernel
theorem dX6_parses_53 : decode cX6_parses 53 = .ok (.ifCond .le 11, 3) := by decide +kernel
theorem dX6_parses_56 : decode cX6_parses 56 = .ok (.aload_n 0, 1) := by decide +kernel
theorem dX6_parses_57 : decode cX6_parses 57 = .ok (.iload_n 2, 1) := by decide +kernel
theorem dX6_parses_58 : decode cX6_parses 58 = .ok (.iload_n 1, 1) := by decide +kernel
theorem dX6_parses_59 : decode cX6_parses 59 = .ok (.isub, 1) := by decide +kernel
theorem dX6_parses_60 : decode cX6_parses 60 = .ok (.iload_n 1, 1) := by decide +kernel
theorem dX6_parses_61 : decode cX6_parses 61 = .ok (.invokevirtual 73, 3) := by decide +kernel
theorem dX6_parses_64 : decode cX6_parses 64 = .ok (.iload_n 3, 1) := by decide +kernel
theorem dX6_parses_65 : decode cX6_parses 65 = .ok (.ifCond .eq 7, 3) := by decide +kernel
theorem dX6_parses_68 : decode cX6_parses 68 = .ok (.iconst 0, 1) := by decide +kernel
theorem dX6_parses_69 : decode cX6_parses 69 = .ok (.goto 6, 3) := by decide +kernel
theorem dX6_parses_72 : decode cX6_parses 72 = .ok (.iload_n 1, 1) := by decide +kernel
theorem dX6_parses_73 : decode cX6_parses 73 = .ok (.iconst 1, 1) := by decide +kernel
theorem dX6_parses_74 : decode cX6_parses 74 = .ok (.iadd, 1) := by decide +kernel
theorem dX6_parses_75 : decode cX6_parses 75 = .ok (.istore_n 1, 1) := by decide +kernel
theorem dX6_parses_76 : decode cX6_parses 76 = .ok (.iinc 2 1, 3) := by decide +kernel
theorem dX6_parses_79 : decode cX6_parses 79 = .ok (.goto (-70), 3) := by decide +kernel
theorem dX6_parses_82 : decode cX6_parses 82 = .ok (.aload_n 0, 1) := by decide +kernel
theorem dX6_parses_83 : decode cX6_parses 83 = .ok (.aload_n 0, 1) := by decide +kernel
theorem dX6_parses_84 : decode cX6_parses 84 = .ok (.getfield 45, 3) := by decide +kernel
theorem dX6_parses_87 : decode cX6_parses 87 = .ok (.ifCond .ne 7, 3) := by decide +kernel
theorem dX6_parses_90 : decode cX6_parses 90 = .ok (.iconst 0, 1) := by decide +kernel
theorem dX6_parses_91 : decode cX6_parses 91 = .ok (.goto 16, 3) := by decide +kernel
theorem dX6_parses_94 : decode cX6_parses 94 = .ok (.aload_n 0, 1) := by decide +kernel
theorem dX6_parses_95 : decode cX6_parses 95 = .ok (.getfield 39, 3) := by decide +kernel
theorem dX6_parses_98 : decode cX6_parses 98 = .ok (.aload_n 0, 1) := by decide +kernel
theorem dX6_parses_99 : decode cX6_parses 99 = .ok (.getfield 45, 3) := by decide +kernel
theorem dX6_parses_102 : decode cX6_parses 102 = .ok (.iconst 1, 1) := by decide +kernel
theorem dX6_parses_103 : decode cX6_parses 103 = .ok (.isub, 1) := by decide +kernel
theorem dX6_parses_104 : decode cX6_parses 104 = .ok (.iaload, 1) := by decide +kernel
theorem dX6_parses_105 : decode cX6_parses 105 = .ok (.iconst 1, 1) := by decide +kernel
theorem dX6_parses_106 : decode cX6_parses 106 = .ok (.iadd, 1) := by decide +kernel
theorem dX6_parses_107 : decode cX6_parses 107 = .ok (.putfield 53, 3) := by decide +kernel
theorem dX6_parses_110 : decode cX6_parses 110 = .ok (.aload_n 0, 1) := by decide +kernel
theorem dX6_parses_111 : decode cX6_parses 111 = .ok (.aload_n 0, 1) := by decide +kernel
theorem dX6_parses_112 : decode cX6_parses 112 = .ok (.getfield 45, 3) := by decide +kernel
theorem dX6_parses_115 : decode cX6_parses 115 = .ok (.ifCond .ne 7, 3) := by decide +kernel
theorem dX6_parses_118 : decode cX6_parses 118 = .ok (.iconst 0, 1) := by decide +kernel
theorem dX6_parses_119 : decode cX6_parses 119 = .ok (.goto 16, 3) := by decide +kernel
theorem dX6_parses_122 : decode cX6_parses 122 = .ok (.aload_n 0, 1) := by decide +kernel
theorem dX6_parses_123 : decode cX6_parses 123 = .ok (.getfield 42, 3) := by decide +kernel
theorem dX6_parses_126 : decode cX6_parses 126 = .ok (.aload_n 0, 1) := by decide +kernel
theorem dX6_parses_127 : decode cX6_parses 127 = .ok (.getfield 45, 3) := by decide +kernel
theorem dX6_parses_130 : decode cX6_parses 130 = .ok (.iconst 1, 1) := by decide +kernel
theorem dX6_parses_131 : decode cX6_parses 131 = .ok (.isub, 1) := by decide +kernel
theorem dX6_parses_132 : decode cX6_parses 132 = .ok (.iaload, 1) := by decide +kernel
theorem dX6_parses_133 : decode cX6_parses 133 = .ok (.iconst 1, 1) := by decide +kernel
theorem dX6_parses_134 : decode cX6_parses 134 = .ok (.iadd, 1) := by decide +kernel
theorem dX6_parses_135 : decode cX6_parses 135 = .ok (.putfield 56, 3) := by decide +kernel
theorem dX6_parses_138 : decode cX6_parses 138 = .ok (.return_, 1) := by decide +kernel
theorem dX6_classOf_0 : decode cX6_classOf 0 = .ok (.aload_n 0, 1) := by decide +kernel
theorem dX6_classOf_1 : decode cX6_classOf 1 = .ok (.getfield 29, 3) := by decide +kernel
theorem dX6_classOf_4 : decode cX6_classOf 4 = .ok (.iload_n 1, 1) := by decide +kernel
theorem dX6_classOf_5 : decode cX6_classOf 5 = .ok (.iaload, 1) := by decide +kernel
theorem dX6_classOf_6 : decode cX6_classOf 6 = .ok (.iconst 5, 1) := by decide +kernel
theorem dX6_classOf_7 : decode cX6_classOf 7 = .ok (.if_icmp .ge 7, 3) := by decide +kernel
theorem dX6_classOf_10 : decode cX6_classOf 10 = .ok (.iconst 0, 1) := by decide +kernel
theorem dX6_classOf_11 : decode cX6_classOf 11 = .ok (.goto 19, 3) := by decide +kernel
theorem dX6_classOf_14 : decode cX6_classOf 14 = .ok (.aload_n 0, 1) := by decide +kernel
theorem dX6_classOf_15 : decode cX6_classOf 15 = .ok (.getfield 29, 3) := by decide +kernel
theorem dX6_classOf_18 : decode cX6_classOf 18 = .ok (.iload_n 1, 1) := by decide +kernel
theorem dX6_classOf_19 : decode cX6_classOf 19 = .ok (.iaload, 1) := by decide +kernel
theorem dX6_classOf_20 : decode cX6_classOf 20 = .ok (.bipush 9, 2) := by decide +kernel
theorem dX6_classOf_22 : decode cX6_classOf 22 = .ok (.if_icmp .ge 7, 3) := by decide +kernel
theorem dX6_classOf_25 : decode cX6_classOf 25 = .ok (.iconst 1, 1) := by decide +kernel
theorem dX6_classOf_26 : decode cX6_classOf 26 = .ok (.goto 4, 3) := by decide +kernel
theorem dX6_classOf_29 : decode cX6_classOf 29 = .ok (.iconst 2, 1) := by decide +kernel
theorem dX6_classOf_30 : decode cX6_classOf 30 = .ok (.ireturn, 1) := by decide +kernel
theorem dX6_measureOf_0 : decode cX6_measureOf 0 = .ok (.aload_n 0, 1) := by decide +kernel
theorem dX6_measureOf_1 : decode cX6_measureOf 1 = .ok (.getfield 29, 3) := by decide +kernel
theorem dX6_measureOf_4 : decode cX6_measureOf 4 = .ok (.iload_n 1, 1) := by decide +kernel
theorem dX6_measureOf_5 : decode cX6_measureOf 5 = .ok (.iaload, 1) := by decide +kernel
theorem dX6_measureOf_6 : decode cX6_measureOf 6 = .ok (.istore_n 2, 1) := by decide +kernel
theorem dX6_measureOf_7 : decode cX6_measureOf 7 = .ok (.iload_n 2, 1) := by decide +kernel
theorem dX6_measureOf_8 : decode cX6_measureOf 8 = .ok (.bipush 10, 2) := by decide +kernel
theorem dX6_measureOf_10 : decode cX6_measureOf 10 = .ok (.if_icmp .le 14, 3) := by decide +kernel
theorem dX6_measureOf_13 : decode cX6_measureOf 13 = .ok (.iload_n 2, 1) := by decide +kernel
theorem dX6_measureOf_14 : decode cX6_measureOf 14 = .ok (.iload_n 2, 1) := by decide +kernel
theorem dX6_measureOf_15 : decode cX6_measureOf 15 = .ok (.bipush 9, 2) := by decide +kernel
theorem dX6_measureOf_17 : decode cX6_measureOf 17 = .ok (.isub, 1) := by decide +kernel
theorem dX6_measureOf_18 : decode cX6_measureOf 18 = .ok (.iconst 2, 1) := by decide +kernel
theorem dX6_measureOf_19 : decode cX6_measureOf 19 = .ok (.idiv, 1) := by decide +kernel
theorem dX6_measureOf_20 : decode cX6_measureOf 20 = .ok (.isub, 1) := by decide +kernel
theorem dX6_measureOf_21 : decode cX6_measureOf 21 = .ok (.goto 4, 3) := by decide +kernel
theorem dX6_measureOf_24 : decode cX6_measureOf 24 = .ok (.iload_n 2, 1) := by decide +kernel
theorem dX6_measureOf_25 : decode cX6_measureOf 25 = .ok (.istore_n 3, 1) := by decide +kernel
theorem dX6_measureOf_26 : decode cX6_measureOf 26 = .ok (.iload_n 3, 1) := by decide +kernel
theorem dX6_measureOf_27 : decode cX6_measureOf 27 = .ok (.aload_n 0, 1) := by decide +kernel
theorem dX6_measureOf_28 : decode cX6_measureOf 28 = .ok (.getfield 7, 3) := by decide +kernel
theorem dX6_measureOf_31 : decode cX6_measureOf 31 = .ok (.sipush 334, 3) := by decide +kernel
theorem dX6_measureOf_34 : decode cX6_measureOf 34 = .ok (.iaload, 1) := by decide +kernel
theorem dX6_measureOf_35 : decode cX6_measureOf 35 = .ok (.if_icmp .ge 14, 3) := by decide +kernel
theorem dX6_measureOf_38 : decode cX6_measureOf 38 = .ok (.aload_n 0, 1) := by decide +kernel
theorem dX6_measureOf_39 : decode cX6_measureOf 39 = .ok (.getfield 7, 3) := by decide +kernel
theorem dX6_measureOf_42 : decode cX6_measureOf 42 = .ok (.sipush 334, 3) := by decide +kernel
theorem dX6_measureOf_45 : decode cX6_measureOf 45 = .ok (.iaload, 1) := by decide +kernel
theorem dX6_measureOf_46 : decode cX6_measureOf 46 = .ok (.goto 4, 3) := by decide +kernel
theorem dX6_measureOf_49 : decode cX6_measureOf 49 = .ok (.iload_n 3, 1) := by decide +kernel
theorem dX6_measureOf_50 : decode cX6_measureOf 50 = .ok (.ireturn, 1) := by decide +kernel
set_option maxRecDepth 20000 in
theorem ggX6_timeBy_X6_measureOf : GoodIn wsX6_timeBy wsX6_measureOf := goodIn_r _ [8, 9, 2, 10, 11, 12, 13, 14, 15, 16, 17, 18, 19, 20, 21, 22, 23, 24, 25, 26, 27, 28] (by decide +kernel) (by decide +kernel)
set_option maxRecDepth 20000 in
theorem gX6_timeBy_X6_measureOf : GoodIn wsX6_timeBy (wsV RX6 77 RX6 yX6_measureOf wsX6_measureOf) := goodIn_app (goodIn_of _ (by decide +kernel)) ggX6_timeBy_X6_measureOf
theorem dX6_timeBy_0 : decode cX6_timeBy 0 = .ok (.aload_n 0, 1) := by decide +kernel
theorem dX6_timeBy_1 : decode cX6_timeBy 1 = .ok (.getfield 32, 3) := by decide +kernel
theorem dX6_timeBy_4 : decode cX6_timeBy 4 = .ok (.iload_n 1, 1) := by decide +kernel
theorem dX6_timeBy_5 : decode cX6_timeBy 5 = .ok (.iaload, 1) := by decide +kernel
theorem dX6_timeBy_6 : decode cX6_timeBy 6 = .ok (.iconst 3, 1) := by decide +kernel
theorem dX6_timeBy_7 : decode cX6_timeBy 7 = .ok (.if_icmp .ne 5, 3) := by decide +kernel
theorem dX6_timeBy_10 : decode cX6_timeBy 10 = .ok (.iconst 0, 1) := by decide +kernel
theorem dX6_timeBy_11 : decode cX6_timeBy 11 = .ok (.ireturn, 1) := by decide +kernel
theorem dX6_timeBy_12 : decode cX6_timeBy 12 = .ok (.aload_n 0, 1) := by decide +kernel
theorem dX6_timeBy_13 : decode cX6_timeBy 13 = .ok (.getfield 32, 3) := by decide +kernel
theorem dX6_timeBy_16 : decode cX6_timeBy 16 = .ok (.iload_n 1, 1) := by decide +kernel
theorem dX6_timeBy_17 : decode cX6_timeBy 17 = .ok (.iaload, 1) := by decide +kernel
theorem dX6_timeBy_18 : decode cX6_timeBy 18 = .ok (.ifCond .ne 8, 3) := by decide +kernel
theorem dX6_timeBy_21 : decode cX6_timeBy 21 = .ok (.bipush 100, 2) := by decide +kernel
theorem dX6_timeBy_23 : decode cX6_timeBy 23 = .ok (.goto 18, 3) := by decide +kernel
theorem dX6_timeBy_26 : decode cX6_timeBy 26 = .ok (.aload_n 0, 1) := by decide +kernel
theorem dX6_timeBy_27 : decode cX6_timeBy 27 = .ok (.getfield 7, 3) := by decide +kernel
theorem dX6_timeBy_30 : decode cX6_timeBy 30 = .ok (.sipush 334, 3) := by decide +kernel
theorem dX6_timeBy_33 : decode cX6_timeBy 33 = .ok (.aload_n 0, 1) := by decide +kernel
theorem dX6_timeBy_34 : decode cX6_timeBy 34 = .ok (.getfield 32, 3) := by decide +kernel
theorem dX6_timeBy_37 : decode cX6_timeBy 37 = .ok (.iload_n 1, 1) := by decide +kernel
theorem dX6_timeBy_38 : decode cX6_timeBy 38 = .ok (.iaload, 1) := by decide +kernel
theorem dX6_timeBy_39 : decode cX6_timeBy 39 = .ok (.iadd, 1) := by decide +kernel
theorem dX6_timeBy_40 : decode cX6_timeBy 40 = .ok (.iaload, 1) := by decide +kernel
theorem dX6_timeBy_41 : decode cX6_timeBy 41 = .ok (.istore_n 3, 1) := by decide +kernel
theorem dX6_timeBy_42 : decode cX6_timeBy 42 = .ok (.aload_n 0, 1) := by decide +kernel
theorem dX6_timeBy_43 : decode cX6_timeBy 43 = .ok (.getfield 35, 3) := by decide +kernel
theorem dX6_timeBy_46 : decode cX6_timeBy 46 = .ok (.iload_n 1, 1) := by decide +kernel
theorem dX6_timeBy_47 : decode cX6_timeBy 47 = .ok (.baload, 1) := by decide +kernel
theorem dX6_timeBy_48 : decode cX6_timeBy 48 = .ok (.ifCond .eq 19, 3) := by decide +kernel
theorem dX6_timeBy_51 : decode cX6_timeBy 51 = .ok (.iload_n 3, 1) := by decide +kernel
theorem dX6_timeBy_52 : decode cX6_timeBy 52 = .ok (.aload_n 0, 1) := by decide +kernel
theorem dX6_timeBy_53 : decode cX6_timeBy 53 = .ok (.getfield 7, 3) := by decide +kernel
theorem dX6_timeBy_56 : decode cX6_timeBy 56 = .ok (.sipush 337, 3) := by decide +kernel
theorem dX6_timeBy_59 : decode cX6_timeBy 59 = .ok (.iaload, 1) := by decide +kernel
theorem dX6_timeBy_60 : decode cX6_timeBy 60 = .ok (.imul, 1) := by decide +kernel
theorem dX6_timeBy_61 : decode cX6_timeBy 61 = .ok (.bipush 100, 2) := by decide +kernel
theorem dX6_timeBy_63 : decode cX6_timeBy 63 = .ok (.idiv, 1) := by decide +kernel
theorem dX6_timeBy_64 : decode cX6_timeBy 64 = .ok (.goto 4, 3) := by decide +kernel
theorem dX6_timeBy_67 : decode cX6_timeBy 67 = .ok (.iload_n 3, 1) := by decide +kernel
theorem dX6_timeBy_68 : decode cX6_timeBy 68 = .ok (.istore_n 3, 1) := by decide +kernel
theorem dX6_timeBy_69 : decode cX6_timeBy 69 = .ok (.aload_n 0, 1) := by decide +kernel
theorem dX6_timeBy_70 : decode cX6_timeBy 70 = .ok (.iload_n 1, 1) := by decide +kernel
theorem dX6_timeBy_71 : decode cX6_timeBy 71 = .ok (.invokevirtual 77, 3) := by decide +kernel
theorem dX6_timeBy_74 : decode cX6_timeBy 74 = .ok (.aload_n 0, 1) := by decide +kernel
theorem dX6_timeBy_75 : decode cX6_timeBy 75 = .ok (.getfield 7, 3) := by decide +kernel
theorem dX6_timeBy_78 : decode cX6_timeBy 78 = .ok (.sipush 333, 3) := by decide +kernel
theorem dX6_timeBy_81 : decode cX6_timeBy 81 = .ok (.iaload, 1) := by decide +kernel
theorem dX6_timeBy_82 : decode cX6_timeBy 82 = .ok (.imul, 1) := by decide +kernel
theorem dX6_timeBy_83 : decode cX6_timeBy 83 = .ok (.iload_n 3, 1) := by decide +kernel
theorem dX6_timeBy_84 : decode cX6_timeBy 84 = .ok (.imul, 1) := by decide +kernel
theorem dX6_timeBy_85 : decode cX6_timeBy 85 = .ok (.iload_n 2, 1) := by decide +kernel
theorem dX6_timeBy_86 : decode cX6_timeBy 86 = .ok (.iadd, 1) := by decide +kernel
theorem dX6_timeBy_87 : decode cX6_timeBy 87 = .ok (.iconst 1, 1) := by decide +kernel
theorem dX6_timeBy_88 : decode cX6_timeBy 88 = .ok (.isub, 1) := by decide +kernel
theorem dX6_timeBy_89 : decode cX6_timeBy 89 = .ok (.iload_n 2, 1) := by decide +kernel
theorem dX6_timeBy_90 : decode cX6_timeBy 90 = .ok (.idiv, 1) := by decide +kernel
theorem dX6_timeBy_91 : decode cX6_timeBy 91 = .ok (.ireturn, 1) := by decide +kernel
set_option maxRecDepth 20000 in
theorem ggX6_timeOf_X6_classOf : GoodIn wsX6_timeOf wsX6_classOf := goodIn_r _ [6, 7, 18, 19, 20, 21, 22, 23, 24, 25, 26, 27, 28, 29, 30, 31, 32, 33, 34, 35, 36] (by decide +kernel) (by decide +kernel)
set_option maxRecDepth 20000 in
theorem gX6_timeOf_X6_classOf : GoodIn wsX6_timeOf (wsV RX6 81 RX6 yX6_classOf wsX6_classOf) := goodIn_app (goodIn_of _ (by decide +kernel)) ggX6_timeOf_X6_classOf
set_option maxRecDepth 20000 in
theorem ggX6_timeOf_X6_timeBy : GoodIn wsX6_timeOf wsX6_timeBy := goodIn_r _ [11, 12, 1, 13, 14, 15, 16, 5, 17, 7, 18, 19, 20, 21, 22, 23, 24, 25, 26, 27, 28, 29, 30, 31, 32, 33, 34, 35, 36] (by decide +kernel) (by decide +kernel)
set_option maxRecDepth 20000 in
theorem gX6_timeOf_X6_timeBy : GoodIn wsX6_timeOf (wsV RX6 84 RX6 yX6_timeBy wsX6_timeBy) := goodIn_app (goodIn_of _ (by decide +kernel)) ggX6_timeOf_X6_timeBy
theorem dX6_timeOf_0 : decode cX6_timeOf 0 = .ok (.aload_n 0, 1) := by decide +kernel
theorem dX6_timeOf_1 : decode cX6_timeOf 1 = .ok (.iload_n 1, 1) := by decide +kernel
theorem dX6_timeOf_2 : decode cX6_timeOf 2 = .ok (.aload_n 0, 1) := by decide +kernel
theorem dX6_timeOf_3 : decode cX6_timeOf 3 = .ok (.getfield 7, 3) := by decide +kernel
theorem dX6_timeOf_6 : decode cX6_timeOf 6 = .ok (.sipush 330, 3) := by decide +kernel
theorem dX6_timeOf_9 : decode cX6_timeOf 9 = .ok (.aload_n 0, 1) := by decide +kernel
theorem dX6_timeOf_10 : decode cX6_timeOf 10 = .ok (.iload_n 1, 1) := by decide +kernel
theorem dX6_timeOf_11 : decode cX6_timeOf 11 = .ok (.invokevirtual 81, 3) := by decide +kernel
theorem dX6_timeOf_14 : decode cX6_timeOf 14 = .ok (.iadd, 1) := by decide +kernel
theorem dX6_timeOf_15 : decode cX6_timeOf 15 = .ok (.iaload, 1) := by decide +kernel
theorem dX6_timeOf_16 : decode cX6_timeOf 16 = .ok (.invokevirtual 84, 3) := by decide +kernel
theorem dX6_timeOf_19 : decode cX6_timeOf 19 = .ok (.ireturn, 1) := by decide +kernel
theorem dX6_isShown_0 : decode cX6_isShown 0 = .ok (.aload_n 0, 1) := by decide +kernel
theorem dX6_isShown_1 : decode cX6_isShown 1 = .ok (.getfield 32, 3) := by decide +kernel
theorem dX6_isShown_4 : decode cX6_isShown 4 = .ok (.iload_n 1, 1) := by decide +kernel
theorem dX6_isShown_5 : decode cX6_isShown 5 = .ok (.iaload, 1) := by decide +kernel
theorem dX6_isShown_6 : decode cX6_isShown 6 = .ok (.iconst 3, 1) := by decide +kernel
theorem dX6_isShown_7 : decode cX6_isShown 7 = .ok (.if_icmp .eq 7, 3) := by decide +kernel
theorem dX6_isShown_10 : decode cX6_isShown 10 = .ok (.iconst 1, 1) := by decide +kernel
theorem dX6_isShown_11 : decode cX6_isShown 11 = .ok (.goto 4, 3) := by decide +kernel
theorem dX6_isShown_14 : decode cX6_isShown 14 = .ok (.iconst 0, 1) := by decide +kernel
theorem dX6_isShown_15 : decode cX6_isShown 15 = .ok (.ireturn, 1) := by decide +kernel
set_option maxRecDepth 20000 in
theorem ggX6_firstOf_X6_isShown : GoodIn wsX6_firstOf wsX6_isShown := goodIn_r _ [7, 8, 9, 10, 11, 12, 13, 14, 15, 16, 17, 18, 19, 20, 21, 22, 23, 24, 25, 26, 27] (by decide +kernel) (by decide +kernel)
set_option maxRecDepth 20000 in
theorem gX6_firstOf_X6_isShown : GoodIn wsX6_firstOf (wsV RX6 87 RX6 yX6_isShown wsX6_isShown) := goodIn_app (goodIn_of _ (by decide +kernel)) ggX6_firstOf_X6_isShown
theorem dX6_firstOf_0 : decode cX6_firstOf 0 = .ok (.iconst 0, 1) := by decide +kernel
theorem dX6_firstOf_1 : decode cX6_firstOf 1 = .ok (.istore_n 2, 1) := by decide +kernel
theorem dX6_firstOf_2 : decode cX6_firstOf 2 = .ok (.iload_n 2, 1) := by decide +kernel
theorem dX6_firstOf_3 : decode cX6_firstOf 3 = .ok (.aload_n 0, 1) := by decide +kernel
theorem dX6_firstOf_4 : decode cX6_firstOf 4 = .ok (.getfield 45, 3) := by decide +kernel
theorem dX6_firstOf_7 : decode cX6_firstOf 7 = .ok (.if_icmp .ge 29, 3) := by decide +kernel
theorem dX6_firstOf_10 : decode cX6_firstOf 10 = .ok (.aload_n 0, 1) := by decide +kernel
theorem dX6_firstOf_11 : decode cX6_firstOf 11 = .ok (.getfield 39, 3) := by decide +kernel
theorem dX6_firstOf_14 : decode cX6_firstOf 14 = .ok (.iload_n 2, 1) := by decide +kernel
theorem dX6_firstOf_15 : decode cX6_firstOf 15 = .ok (.iaload, 1) := by decide +kernel
theorem dX6_firstOf_16 : decode cX6_firstOf 16 = .ok (.iload_n 1, 1) := by decide +kernel
theorem dX6_firstOf_17 : decode cX6_firstOf 17 = .ok (.if_icmp .ne 13, 3) := by decide +kernel
theorem dX6_firstOf_20 : decode cX6_firstOf 20 = .ok (.aload_n 0, 1) := by decide +kernel
theorem dX6_firstOf_21 : decode cX6_firstOf 21 = .ok (.iload_n 2, 1) := by decide +kernel
theorem dX6_firstOf_22 : decode cX6_firstOf 22 = .ok (.invokevirtual 87, 3) := by decide +kernel
theorem dX6_firstOf_25 : decode cX6_firstOf 25 = .ok (.ifCond .eq 5, 3) := by decide +kernel
theorem dX6_firstOf_28 : decode cX6_firstOf 28 = .ok (.iload_n 2, 1) := by decide +kernel
theorem dX6_firstOf_29 : decode cX6_firstOf 29 = .ok (.ireturn, 1) := by decide +kernel
theorem dX6_firstOf_30 : decode cX6_firstOf 30 = .ok (.iinc 2 1, 3) := by decide +kernel
theorem dX6_firstOf_33 : decode cX6_firstOf 33 = .ok (.goto (-31), 3) := by decide +kernel
theorem dX6_firstOf_36 : decode cX6_firstOf 36 = .ok (.iconst (-1), 1) := by decide +kernel
theorem dX6_firstOf_37 : decode cX6_firstOf 37 = .ok (.ireturn, 1) := by decide +kernel
set_option maxRecDepth 20000 in
theorem ggX6_firstShown_X6_isShown : GoodIn wsX6_firstShown wsX6_isShown := goodIn_r _ [6, 7, 8, 9, 10, 11, 12, 13, 14, 15, 16, 17, 18, 19, 20, 21, 22, 23, 24, 25, 26] (by decide +kernel) (by decide +kernel)
set_option maxRecDepth 20000 in
theorem gX6_firstShown_X6_isShown : GoodIn wsX6_firstShown (wsV RX6 87 RX6 yX6_isShown wsX6_isShown) := goodIn_app (goodIn_of _ (by decide +kernel)) ggX6_firstShown_X6_isShown
theorem dX6_firstShown_0 : decode cX6_firstShown 0 = .ok (.iconst 0, 1) := by decide +kernel
theorem dX6_firstShown_1 : decode cX6_firstShown 1 = .ok (.istore_n 1, 1) := by decide +kernel
theorem dX6_firstShown_2 : decode cX6_firstShown 2 = .ok (.iload_n 1, 1) := by decide +kernel
theorem dX6_firstShown_3 : decode cX6_firstShown 3 = .ok (.aload_n 0, 1) := by decide +kernel
theorem dX6_firstShown_4 : decode cX6_firstShown 4 = .ok (.getfield 45, 3) := by decide +kernel
theorem dX6_firstShown_7 : decode cX6_firstShown 7 = .ok (.if_icmp .ge 19, 3) := by decide +kernel
theorem dX6_firstShown_10 : decode cX6_firstShown 10 = .ok (.aload_n 0, 1) := by decide +kernel
theorem dX6_firstShown_11 : decode cX6_firstShown 11 = .ok (.iload_n 1, 1) := by decide +kernel
theorem dX6_firstShown_12 : decode cX6_firstShown 12 = .ok (.invokevirtual 87, 3) := by decide +kernel
theorem dX6_firstShown_15 : decode cX6_firstShown 15 = .ok (.ifCond .eq 5, 3) := by decide +kernel
theorem dX6_firstShown_18 : decode cX6_firstShown 18 = .ok (.iload_n 1, 1) := by decide +kernel
theorem dX6_firstShown_19 : decode cX6_firstShown 19 = .ok (.ireturn, 1) := by decide +kernel
theorem dX6_firstShown_20 : decode cX6_firstShown 20 = .ok (.iinc 1 1, 3) := by decide +kernel
theorem dX6_firstShown_23 : decode cX6_firstShown 23 = .ok (.goto (-21), 3) := by decide +kernel
theorem dX6_firstShown_26 : decode cX6_firstShown 26 = .ok (.iconst (-1), 1) := by decide +kernel
theorem dX6_firstShown_27 : decode cX6_firstShown 27 = .ok (.ireturn, 1) := by decide +kernel
set_option maxRecDepth 20000 in
theorem ggX6_becomes_X6_timeOf : GoodIn wsX6_becomes wsX6_timeOf := goodIn_r _ [6, 1, 7, 8, 9, 5, 10, 11, 12, 13, 14, 15, 16, 17, 18, 19, 20, 21, 22, 23, 24, 25, 26, 27, 28, 29, 30, 31, 32, 33, 34, 35, 36, 37, 38, 39, 40] (by decide +kernel) (by decide +kernel)
set_option maxRecDepth 20000 in
theorem gX6_becomes_X6_timeOf : GoodIn wsX6_becomes (wsV RX6 90 RX6 yX6_timeOf wsX6_timeOf) := goodIn_app (goodIn_of _ (by decide +kernel)) ggX6_becomes_X6_timeOf
theorem dX6_becomes_0 : decode cX6_becomes 0 = .ok (.aload_n 0, 1) := by decide +kernel
theorem dX6_becomes_1 : decode cX6_becomes 1 = .ok (.getfield 7, 3) := by decide +kernel
theorem dX6_becomes_4 : decode cX6_becomes 4 = .ok (.sipush 301, 3) := by decide +kernel
theorem dX6_becomes_7 : decode cX6_becomes 7 = .ok (.iload_n 1, 1) := by decide +kernel
theorem dX6_becomes_8 : decode cX6_becomes 8 = .ok (.iastore, 1) := by decide +kernel
theorem dX6_becomes_9 : decode cX6_becomes 9 = .ok (.aload_n 0, 1) := by decide +kernel
theorem dX6_becomes_10 : decode cX6_becomes 10 = .ok (.getfield 7, 3) := by decide +kernel
theorem dX6_becomes_13 : decode cX6_becomes 13 = .ok (.sipush 302, 3) := by decide +kernel
theorem dX6_becomes_16 : decode cX6_becomes 16 = .ok (.iload_n 1, 1) := by decide +kernel
theorem dX6_becomes_17 : decode cX6_becomes 17 = .ok (.iconst (-1), 1) := by decide +kernel
theorem dX6_becomes_18 : decode cX6_becomes 18 = .ok (.if_icmp .ne 7, 3) := by decide +kernel
theorem dX6_becomes_21 : decode cX6_becomes 21 = .ok (.iconst 0, 1) := by decide +kernel
theorem dX6_becomes_22 : decode cX6_becomes 22 = .ok (.goto 8, 3) := by decide +kernel
theorem dX6_becomes_25 : decode cX6_becomes 25 = .ok (.aload_n 0, 1) := by decide +kernel
theorem dX6_becomes_26 : decode cX6_becomes 26 = .ok (.iload_n 1, 1) := by decide +kernel
theorem dX6_becomes_27 : decode cX6_becomes 27 = .ok (.invokevirtual 90, 3) := by decide +kernel
theorem dX6_becomes_30 : decode cX6_becomes 30 = .ok (.iastore, 1) := by decide +kernel
theorem dX6_becomes_31 : decode cX6_becomes 31 = .ok (.iload_n 1, 1) := by decide +kernel
theorem dX6_becomes_32 : decode cX6_becomes 32 = .ok (.iconst (-1), 1) := by decide +kernel
theorem dX6_becomes_33 : decode cX6_becomes 33 = .ok (.if_icmp .ne 4, 3) := by decide +kernel
theorem dX6_becomes_36 : decode cX6_becomes 36 = .ok (.return_, 1) := by decide +kernel
theorem dX6_becomes_37 : decode cX6_becomes 37 = .ok (.aload_n 0, 1) := by decide +kernel
theorem dX6_becomes_38 : decode cX6_becomes 38 = .ok (.getfield 7, 3) := by decide +kernel
theorem dX6_becomes_41 : decode cX6_becomes 41 = .ok (.sipush 340, 3) := by decide +kernel
theorem dX6_becomes_44 : decode cX6_becomes 44 = .ok (.iaload, 1) := by decide +kernel
theorem dX6_becomes_45 : decode cX6_becomes 45 = .ok (.iconst 3, 1) := by decide +kernel
theorem dX6_becomes_46 : decode cX6_becomes 46 = .ok (.if_icmp .ne 47, 3) := by decide +kernel
theorem dX6_becomes_49 : decode cX6_becomes 49 = .ok (.aload_n 0, 1) := by decide +kernel
theorem dX6_becomes_50 : decode cX6_becomes 50 = .ok (.getfield 7, 3) := by decide +kernel
theorem dX6_becomes_53 : decode cX6_becomes 53 = .ok (.sipush 341, 3) := by decide +kernel
theorem dX6_becomes_56 : decode cX6_becomes 56 = .ok (.aload_n 0, 1) := by decide +kernel
theorem dX6_becomes_57 : decode cX6_becomes 57 = .ok (.getfield 7, 3) := by decide +kernel
theorem dX6_becomes_60 : decode cX6_becomes 60 = .ok (.sipush 342, 3) := by decide +kernel
theorem dX6_becomes_63 : decode cX6_becomes 63 = .ok (.iaload, 1) := by decide +kernel
theorem dX6_becomes_64 : decode cX6_becomes 64 = .ok (.iastore, 1) := by decide +kernel
theorem dX6_becomes_65 : decode cX6_becomes 65 = .ok (.aload_n 0, 1) := by decide +kernel
theorem dX6_becomes_66 : decode cX6_becomes 66 = .ok (.getfield 7, 3) := by decide +kernel
theorem dX6_becomes_69 : decode cX6_becomes 69 = .ok (.sipush 342, 3) := by decide +kernel
theorem dX6_becomes_72 : decode cX6_becomes 72 = .ok (.aload_n 0, 1) := by decide +kernel
theorem dX6_becomes_73 : decode cX6_becomes 73 = .ok (.getfield 7, 3) := by decide +kernel
theorem dX6_becomes_76 : decode cX6_becomes 76 = .ok (.sipush 343, 3) := by decide +kernel
theorem dX6_becomes_79 : decode cX6_becomes 79 = .ok (.iaload, 1) := by decide +kernel
theorem dX6_becomes_80 : decode cX6_becomes 80 = .ok (.iastore, 1) := by decide +kernel
theorem dX6_becomes_81 : decode cX6_becomes 81 = .ok (.aload_n 0, 1) := by decide +kernel
theorem dX6_becomes_82 : decode cX6_becomes 82 = .ok (.getfield 7, 3) := by decide +kernel
theorem dX6_becomes_85 : decode cX6_becomes 85 = .ok (.sipush 340, 3) := by decide +kernel
theorem dX6_becomes_88 : decode cX6_becomes 88 = .ok (.dup2, 1) := by decide +kernel
theorem dX6_becomes_89 : decode cX6_becomes 89 = .ok (.iaload, 1) := by decide +kernel
theorem dX6_becomes_90 : decode cX6_becomes 90 = .ok (.iconst 1, 1) := by decide +kernel
theorem dX6_becomes_91 : decode cX6_becomes 91 = .ok (.isub, 1) := by decide +kernel
theorem dX6_becomes_92 : decode cX6_becomes 92 = .ok (.iastore, 1) := by decide +kernel
theorem dX6_becomes_93 : decode cX6_becomes 93 = .ok (.aload_n 0, 1) := by decide +kernel
theorem dX6_becomes_94 : decode cX6_becomes 94 = .ok (.getfield 7, 3) := by decide +kernel
theorem dX6_becomes_97 : decode cX6_becomes 97 = .ok (.sipush 341, 3) := by decide +kernel
theorem dX6_becomes_100 : decode cX6_becomes 100 = .ok (.aload_n 0, 1) := by decide +kernel
theorem dX6_becomes_101 : decode cX6_becomes 101 = .ok (.getfield 7, 3) := by decide +kernel
theorem dX6_becomes_104 : decode cX6_becomes 104 = .ok (.sipush 340, 3) := by decide +kernel
theorem dX6_becomes_107 : decode cX6_becomes 107 = .ok (.iaload, 1) := by decide +kernel
theorem dX6_becomes_108 : decode cX6_becomes 108 = .ok (.iadd, 1) := by decide +kernel
theorem dX6_becomes_109 : decode cX6_becomes 109 = .ok (.iload_n 1, 1) := by decide +kernel
theorem dX6_becomes_110 : decode cX6_becomes 110 = .ok (.iastore, 1) := by decide +kernel
theorem dX6_becomes_111 : decode cX6_becomes 111 = .ok (.aload_n 0, 1) := by decide +kernel
theorem dX6_becomes_112 : decode cX6_becomes 112 = .ok (.getfield 7, 3) := by decide +kernel
theorem dX6_becomes_115 : decode cX6_becomes 115 = .ok (.sipush 340, 3) := by decide +kernel
theorem dX6_becomes_118 : decode cX6_becomes 118 = .ok (.dup2, 1) := by decide +kernel
theorem dX6_becomes_119 : decode cX6_becomes 119 = .ok (.iaload, 1) := by decide +kernel
theorem dX6_becomes_120 : decode cX6_becomes 120 = .ok (.iconst 1, 1) := by decide +kernel
theorem dX6_becomes_121 : decode cX6_becomes 121 = .ok (.iadd, 1) := by decide +kernel
theorem dX6_becomes_122 : decode cX6_becomes 122 = .ok (.iastore, 1) := by decide +kernel
theorem dX6_becomes_123 : decode cX6_becomes 123 = .ok (.return_, 1) := by decide +kernel
set_option maxRecDepth 20000 in
theorem ggX6_goesWell_X6_isShown : GoodIn wsX6_goesWell wsX6_isShown := goodIn_r _ [9, 1, 15, 16, 17, 18, 19, 20, 21, 22, 23, 24, 25, 26, 27, 28, 29, 30, 31, 32, 33] (by decide +kernel) (by decide +kernel)
set_option maxRecDepth 20000 in
theorem gX6_goesWell_X6_isShown : GoodIn wsX6_goesWell (wsV RX6 87 RX6 yX6_isShown wsX6_isShown) := goodIn_app (goodIn_of _ (by decide +kernel)) ggX6_goesWell_X6_isShown
set_option maxRecDepth 20000 in
theorem ggX6_goesWell_X6_classOf : GoodIn wsX6_goesWell wsX6_classOf := goodIn_r _ [13, 14, 15, 16, 17, 18, 19, 20, 21, 22, 23, 24, 25, 26, 27, 28, 29, 30, 31, 32, 33] (by decide +kernel) (by decide +kernel)
set_option maxRecDepth 20000 in
theorem gX6_goesWell_X6_classOf : GoodIn wsX6_goesWell (wsV RX6 81 RX6 yX6_classOf wsX6_classOf) := goodIn_app (goodIn_of _ (by decide +kernel)) ggX6_goesWell_X6_classOf
theorem dX6_goesWell_0 : decode cX6_goesWell 0 = .ok (.aload_n 0, 1) := by decide +kernel
theorem dX6_goesWell_1 : decode cX6_goesWell 1 = .ok (.getfield 32, 3) := by decide +kernel
theorem dX6_goesWell_4 : decode cX6_goesWell 4 = .ok (.iload_n 1, 1) := by decide +kernel
theorem dX6_goesWell_5 : decode cX6_goesWell 5 = .ok (.iaload, 1) := by decide +kernel
theorem dX6_goesWell_6 : decode cX6_goesWell 6 = .ok (.iconst 1, 1) := by decide +kernel
theorem dX6_goesWell_7 : decode cX6_goesWell 7 = .ok (.if_icmp .gt 13, 3) := by decide +kernel
theorem dX6_goesWell_10 : decode cX6_goesWell 10 = .ok (.iload_n 1, 1) := by decide +kernel
theorem dX6_goesWell_11 : decode cX6_goesWell 11 = .ok (.aload_n 0, 1) := by decide +kernel
theorem dX6_goesWell_12 : decode cX6_goesWell 12 = .ok (.getfield 45, 3) := by decide +kernel
theorem dX6_goesWell_15 : decode cX6_goesWell 15 = .ok (.iconst 1, 1) := by decide +kernel
theorem dX6_goesWell_16 : decode cX6_goesWell 16 = .ok (.isub, 1) := by decide +kernel
theorem dX6_goesWell_17 : decode cX6_goesWell 17 = .ok (.if_icmp .ne 7, 3) := by decide +kernel
theorem dX6_goesWell_20 : decode cX6_goesWell 20 = .ok (.iconst 1, 1) := by decide +kernel
theorem dX6_goesWell_21 : decode cX6_goesWell 21 = .ok (.goto 4, 3) := by decide +kernel
theorem dX6_goesWell_24 : decode cX6_goesWell 24 = .ok (.iconst 0, 1) := by decide +kernel
theorem dX6_goesWell_25 : decode cX6_goesWell 25 = .ok (.istore_n 2, 1) := by decide +kernel
theorem dX6_goesWell_26 : decode cX6_goesWell 26 = .ok (.iconst 0, 1) := by decide +kernel
theorem dX6_goesWell_27 : decode cX6_goesWell 27 = .ok (.istore_n 3, 1) := by decide +kernel
theorem dX6_goesWell_28 : decode cX6_goesWell 28 = .ok (.iload_n 3, 1) := by decide +kernel
theorem dX6_goesWell_29 : decode cX6_goesWell 29 = .ok (.iconst 3, 1) := by decide +kernel
theorem dX6_goesWell_30 : decode cX6_goesWell 30 = .ok (.if_icmp .ge 145, 3) := by decide +kernel
theorem dX6_goesWell_33 : decode cX6_goesWell 33 = .ok (.iload_n 2, 1) := by decide +kernel
theorem dX6_goesWell_34 : decode cX6_goesWell 34 = .ok (.ifCond .eq 141, 3) := by decide +kernel
theorem dX6_goesWell_37 : decode cX6_goesWell 37 = .ok (.aload_n 0, 1) := by decide +kernel
theorem dX6_goesWell_38 : decode cX6_goesWell 38 = .ok (.getfield 7, 3) := by decide +kernel
theorem dX6_goesWell_41 : decode cX6_goesWell 41 = .ok (.sipush 344, 3) := by decide +kernel
theorem dX6_goesWell_44 : decode cX6_goesWell 44 = .ok (.iaload, 1) := by decide +kernel
theorem dX6_goesWell_45 : decode cX6_goesWell 45 = .ok (.ifCond .ne 130, 3) := by decide +kernel
theorem dX6_goesWell_48 : decode cX6_goesWell 48 = .ok (.iconst 0, 1) := by decide +kernel
theorem dX6_goesWell_49 : decode cX6_goesWell 49 = .ok (.istore 4, 2) := by decide +kernel
theorem dX6_goesWell_51 : decode cX6_goesWell 51 = .ok (.iconst 0, 1) := by decide +kernel
theorem dX6_goesWell_52 : decode cX6_goesWell 52 = .ok (.istore 5, 2) := by decide +kernel
theorem dX6_goesWell_54 : decode cX6_goesWell 54 = .ok (.iload 5, 2) := by decide +kernel
theorem dX6_goesWell_56 : decode cX6_goesWell 56 = .ok (.iload_n 1, 1) := by decide +kernel
theorem dX6_goesWell_57 : decode cX6_goesWell 57 = .ok (.if_icmp .gt 56, 3) := by decide +kernel
theorem dX6_goesWell_60 : decode cX6_goesWell 60 = .ok (.iload 4, 2) := by decide +kernel
theorem dX6_goesWell_62 : decode cX6_goesWell 62 = .ok (.ifCond .ne 38, 3) := by decide +kernel
theorem dX6_goesWell_65 : decode cX6_goesWell 65 = .ok (.aload_n 0, 1) := by decide +kernel
theorem dX6_goesWell_66 : decode cX6_goesWell 66 = .ok (.getfield 39, 3) := by decide +kernel
theorem dX6_goesWell_69 : decode cX6_goesWell 69 = .ok (.iload 5, 2) := by decide +kernel
theorem dX6_goesWell_71 : decode cX6_goesWell 71 = .ok (.iaload, 1) := by decide +kernel
theorem dX6_goesWell_72 : decode cX6_goesWell 72 = .ok (.aload_n 0, 1) := by decide +kernel
theorem dX6_goesWell_73 : decode cX6_goesWell 73 = .ok (.getfield 39, 3) := by decide +kernel
theorem dX6_goesWell_76 : decode cX6_goesWell 76 = .ok (.iload_n 1, 1) := by decide +kernel
theorem dX6_goesWell_77 : decode cX6_goesWell 77 = .ok (.iaload, 1) := by decide +kernel
theorem dX6_goesWell_78 : decode cX6_goesWell 78 = .ok (.if_icmp .ne 26, 3) := by decide +kernel
theorem dX6_goesWell_81 : decode cX6_goesWell 81 = .ok (.aload_n 0, 1) := by decide +kernel
theorem dX6_goesWell_82 : decode cX6_goesWell 82 = .ok (.iload 5, 2) := by decide +kernel
theorem dX6_goesWell_84 : decode cX6_goesWell 84 = .ok (.invokevirtual 87, 3) := by decide +kernel
theorem dX6_goesWell_87 : decode cX6_goesWell 87 = .ok (.ifCond .eq 17, 3) := by decide +kernel
theorem dX6_goesWell_90 : decode cX6_goesWell 90 = .ok (.aload_n 0, 1) := by decide +kernel
theorem dX6_goesWell_91 : decode cX6_goesWell 91 = .ok (.iload 5, 2) := by decide +kernel
theorem dX6_goesWell_93 : decode cX6_goesWell 93 = .ok (.invokevirtual 81, 3) := by decide +kernel
theorem dX6_goesWell_96 : decode cX6_goesWell 96 = .ok (.iload_n 3, 1) := by decide +kernel
theorem dX6_goesWell_97 : decode cX6_goesWell 97 = .ok (.if_icmp .ne 7, 3) := by decide +kernel
theorem dX6_goesWell_100 : decode cX6_goesWell 100 = .ok (.iconst 1, 1) := by decide +kernel
theorem dX6_goesWell_101 : decode cX6_goesWell 101 = .ok (.goto 4, 3) := by decide +kernel
theorem dX6_goesWell_104 : decode cX6_goesWell 104 = .ok (.iconst 0, 1) := by decide +kernel
theorem dX6_goesWell_105 : decode cX6_goesWell 105 = .ok (.istore 4, 2) := by decide +kernel
theorem dX6_goesWell_107 : decode cX6_goesWell 107 = .ok (.iinc 5 1, 3) := by decide +kernel
theorem dX6_goesWell_110 : decode cX6_goesWell 110 = .ok (.goto (-56), 3) := by decide +kernel
theorem dX6_goesWell_113 : decode cX6_goesWell 113 = .ok (.aload_n 0, 1) := by decide +kernel
theorem dX6_goesWell_114 : decode cX6_goesWell 114 = .ok (.getfield 7, 3) := by decide +kernel
theorem dX6_goesWell_117 : decode cX6_goesWell 117 = .ok (.sipush 330, 3) := by decide +kernel
theorem dX6_goesWell_120 : decode cX6_goesWell 120 = .ok (.iload_n 3, 1) := by decide +kernel
theorem dX6_goesWell_121 : decode cX6_goesWell 121 = .ok (.iadd, 1) := by decide +kernel
theorem dX6_goesWell_122 : decode cX6_goesWell 122 = .ok (.iaload, 1) := by decide +kernel
theorem dX6_goesWell_123 : decode cX6_goesWell 123 = .ok (.iload 4, 2) := by decide +kernel
theorem dX6_goesWell_125 : decode cX6_goesWell 125 = .ok (.ifCond .eq 14, 3) := by decide +kernel
theorem dX6_goesWell_128 : decode cX6_goesWell 128 = .ok (.aload_n 0, 1) := by decide +kernel
theorem dX6_goesWell_129 : decode cX6_goesWell 129 = .ok (.getfield 7, 3) := by decide +kernel
theorem dX6_goesWell_132 : decode cX6_goesWell 132 = .ok (.sipush 339, 3) := by decide +kernel
theorem dX6_goesWell_135 : decode cX6_goesWell 135 = .ok (.iaload, 1) := by decide +kernel
theorem dX6_goesWell_136 : decode cX6_goesWell 136 = .ok (.goto 4, 3) := by decide +kernel
theorem dX6_goesWell_139 : decode cX6_goesWell 139 = .ok (.iconst 0, 1) := by decide +kernel
theorem dX6_goesWell_140 : decode cX6_goesWell 140 = .ok (.iadd, 1) := by decide +kernel
theorem dX6_goesWell_141 : decode cX6_goesWell 141 = .ok (.istore 5, 2) := by decide +kernel
theorem dX6_goesWell_143 : decode cX6_goesWell 143 = .ok (.aload_n 0, 1) := by decide +kernel
theorem dX6_goesWell_144 : decode cX6_goesWell 144 = .ok (.getfield 7, 3) := by decide +kernel
theorem dX6_goesWell_147 : decode cX6_goesWell 147 = .ok (.sipush 330, 3) := by decide +kernel
theorem dX6_goesWell_150 : decode cX6_goesWell 150 = .ok (.iload_n 3, 1) := by decide +kernel
theorem dX6_goesWell_151 : decode cX6_goesWell 151 = .ok (.iadd, 1) := by decide +kernel
theorem dX6_goesWell_152 : decode cX6_goesWell 152 = .ok (.iload 5, 2) := by decide +kernel
theorem dX6_goesWell_154 : decode cX6_goesWell 154 = .ok (.sipush 400, 3) := by decide +kernel
theorem dX6_goesWell_157 : decode cX6_goesWell 157 = .ok (.if_icmp .le 9, 3) := by decide +kernel
theorem dX6_goesWell_160 : decode cX6_goesWell 160 = .ok (.sipush 400, 3) := by decide +kernel
theorem dX6_goesWell_163 : decode cX6_goesWell 163 = .ok (.goto 5, 3) := by decide +kernel
theorem dX6_goesWell_166 : decode cX6_goesWell 166 = .ok (.iload 5, 2) := by decide +kernel
theorem dX6_goesWell_168 : decode cX6_goesWell 168 = .ok (.iastore, 1) := by decide +kernel
theorem dX6_goesWell_169 : decode cX6_goesWell 169 = .ok (.iinc 3 1, 3) := by decide +kernel
theorem dX6_goesWell_172 : decode cX6_goesWell 172 = .ok (.goto (-144), 3) := by decide +kernel
theorem dX6_goesWell_175 : decode cX6_goesWell 175 = .ok (.return_, 1) := by decide +kernel
set_option maxRecDepth 20000 in
theorem ggX6_goesOn_X6_goesWell : GoodIn wsX6_goesOn wsX6_goesWell := goodIn_r _ [8, 9, 2, 1, 3, 10, 11, 12, 7, 13, 14, 15, 16, 17, 18, 36, 37, 38, 39, 40, 41, 42, 43, 44, 45, 46, 47, 48, 49, 50, 51, 52, 53, 54] (by decide +kernel) (by decide +kernel)
set_option maxRecDepth 20000 in
theorem gX6_goesOn_X6_goesWell : GoodIn wsX6_goesOn (wsV RX6 93 RX6 yX6_goesWell wsX6_goesWell) := goodIn_app (goodIn_of _ (by decide +kernel)) ggX6_goesOn_X6_goesWell
set_option maxRecDepth 20000 in
theorem ggX6_goesOn_X6_isShown : GoodIn wsX6_goesOn wsX6_isShown := goodIn_r _ [13, 9, 36, 37, 38, 39, 40, 41, 42, 43, 44, 45, 46, 47, 48, 49, 50, 51, 52, 53, 54] (by decide +kernel) (by decide +kernel)
set_option maxRecDepth 20000 in
theorem gX6_goesOn_X6_isShown : GoodIn wsX6_goesOn (wsV RX6 87 RX6 yX6_isShown wsX6_isShown) := goodIn_app (goodIn_of _ (by decide +kernel)) ggX6_goesOn_X6_isShown
set_option maxRecDepth 20000 in
theorem ggX6_goesOn_X6_becomes : GoodIn wsX6_goesOn wsX6_becomes := goodIn_r _ [22, 1, 23, 24, 25, 7, 26, 14, 15, 16, 17, 18, 27, 28, 29, 30, 9, 31, 32, 33, 34, 35, 36, 37, 38, 39, 40, 41, 42, 43, 44, 45, 46, 47, 48, 49, 50, 51, 52, 53, 54] (by decide +kernel) (by decide +kernel)
set_option maxRecDepth 20000 in
theorem gX6_goesOn_X6_becomes : GoodIn wsX6_goesOn (wsV RX6 97 RX6 yX6_becomes wsX6_becomes) := goodIn_app (goodIn_of _ (by decide +kernel)) ggX6_goesOn_X6_becomes
theorem dX6_goesOn_0 : decode cX6_goesOn 0 = .ok (.aload_n 0, 1) := by decide +kernel
theorem dX6_goesOn_1 : decode cX6_goesOn 1 = .ok (.getfield 7, 3) := by decide +kernel
theorem dX6_goesOn_4 : decode cX6_goesOn 4 = .ok (.sipush 301, 3) := by decide +kernel
theorem dX6_goesOn_7 : decode cX6_goesOn 7 = .ok (.iaload, 1) := by decide +kernel
theorem dX6_goesOn_8 : decode cX6_goesOn 8 = .ok (.istore_n 1, 1) := by decide +kernel
theorem dX6_goesOn_9 : decode cX6_goesOn 9 = .ok (.iload_n 1, 1) := by decide +kernel
theorem dX6_goesOn_10 : decode cX6_goesOn 10 = .ok (.istore_n 2, 1) := by decide +kernel
theorem dX6_goesOn_11 : decode cX6_goesOn 11 = .ok (.aload_n 0, 1) := by decide +kernel
theorem dX6_goesOn_12 : decode cX6_goesOn 12 = .ok (.getfield 7, 3) := by decide +kernel
theorem dX6_goesOn_15 : decode cX6_goesOn 15 = .ok (.sipush 346, 3) := by decide +kernel
theorem dX6_goesOn_18 : decode cX6_goesOn 18 = .ok (.dup2, 1) := by decide +kernel
theorem dX6_goesOn_19 : decode cX6_goesOn 19 = .ok (.iaload, 1) := by decide +kernel
theorem dX6_goesOn_20 : decode cX6_goesOn 20 = .ok (.iconst 1, 1) := by decide +kernel
theorem dX6_goesOn_21 : decode cX6_goesOn 21 = .ok (.iadd, 1) := by decide +kernel
theorem dX6_goesOn_22 : decode cX6_goesOn 22 = .ok (.iastore, 1) := by decide +kernel
theorem dX6_goesOn_23 : decode cX6_goesOn 23 = .ok (.aload_n 0, 1) := by decide +kernel
theorem dX6_goesOn_24 : decode cX6_goesOn 24 = .ok (.iload_n 1, 1) := by decide +kernel
theorem dX6_goesOn_25 : decode cX6_goesOn 25 = .ok (.invokevirtual 93, 3) := by decide +kernel
theorem dX6_goesOn_28 : decode cX6_goesOn 28 = .ok (.iinc 1 1, 3) := by decide +kernel
theorem dX6_goesOn_31 : decode cX6_goesOn 31 = .ok (.iload_n 1, 1) := by decide +kernel
theorem dX6_goesOn_32 : decode cX6_goesOn 32 = .ok (.aload_n 0, 1) := by decide +kernel
theorem dX6_goesOn_33 : decode cX6_goesOn 33 = .ok (.getfield 45, 3) := by decide +kernel
theorem dX6_goesOn_36 : decode cX6_goesOn 36 = .ok (.if_icmp .ge 22, 3) := by decide +kernel
theorem dX6_goesOn_39 : decode cX6_goesOn 39 = .ok (.aload_n 0, 1) := by decide +kernel
theorem dX6_goesOn_40 : decode cX6_goesOn 40 = .ok (.iload_n 1, 1) := by decide +kernel
theorem dX6_goesOn_41 : decode cX6_goesOn 41 = .ok (.invokevirtual 87, 3) := by decide +kernel
theorem dX6_goesOn_44 : decode cX6_goesOn 44 = .ok (.ifCond .ne 14, 3) := by decide +kernel
theorem dX6_goesOn_47 : decode cX6_goesOn 47 = .ok (.aload_n 0, 1) := by decide +kernel
theorem dX6_goesOn_48 : decode cX6_goesOn 48 = .ok (.iload_n 1, 1) := by decide +kernel
theorem dX6_goesOn_49 : decode cX6_goesOn 49 = .ok (.invokevirtual 93, 3) := by decide +kernel
theorem dX6_goesOn_52 : decode cX6_goesOn 52 = .ok (.iinc 1 1, 3) := by decide +kernel
theorem dX6_goesOn_55 : decode cX6_goesOn 55 = .ok (.goto (-24), 3) := by decide +kernel
theorem dX6_goesOn_58 : decode cX6_goesOn 58 = .ok (.iload_n 1, 1) := by decide +kernel
theorem dX6_goesOn_59 : decode cX6_goesOn 59 = .ok (.aload_n 0, 1) := by decide +kernel
theorem dX6_goesOn_60 : decode cX6_goesOn 60 = .ok (.getfield 45, 3) := by decide +kernel
theorem dX6_goesOn_63 : decode cX6_goesOn 63 = .ok (.if_icmp .ge 27, 3) := by decide +kernel
theorem dX6_goesOn_66 : decode cX6_goesOn 66 = .ok (.aload_n 0, 1) := by decide +kernel
theorem dX6_goesOn_67 : decode cX6_goesOn 67 = .ok (.getfield 39, 3) := by decide +kernel
theorem dX6_goesOn_70 : decode cX6_goesOn 70 = .ok (.iload_n 1, 1) := by decide +kernel
theorem dX6_goesOn_71 : decode cX6_goesOn 71 = .ok (.iaload, 1) := by decide +kernel
theorem dX6_goesOn_72 : decode cX6_goesOn 72 = .ok (.aload_n 0, 1) := by decide +kernel
theorem dX6_goesOn_73 : decode cX6_goesOn 73 = .ok (.getfield 39, 3) := by decide +kernel
theorem dX6_goesOn_76 : decode cX6_goesOn 76 = .ok (.iload_n 2, 1) := by decide +kernel
theorem dX6_goesOn_77 : decode cX6_goesOn 77 = .ok (.iaload, 1) := by decide +kernel
theorem dX6_goesOn_78 : decode cX6_goesOn 78 = .ok (.if_icmp .eq 12, 3) := by decide +kernel
theorem dX6_goesOn_81 : decode cX6_goesOn 81 = .ok (.aload_n 0, 1) := by decide +kernel
theorem dX6_goesOn_82 : decode cX6_goesOn 82 = .ok (.getfield 7, 3) := by decide +kernel
theorem dX6_goesOn_85 : decode cX6_goesOn 85 = .ok (.sipush 344, 3) := by decide +kernel
theorem dX6_goesOn_88 : decode cX6_goesOn 88 = .ok (.iconst 0, 1) := by decide +kernel
theorem dX6_goesOn_89 : decode cX6_goesOn 89 = .ok (.iastore, 1) := by decide +kernel
theorem dX6_goesOn_90 : decode cX6_goesOn 90 = .ok (.aload_n 0, 1) := by decide +kernel
theorem dX6_goesOn_91 : decode cX6_goesOn 91 = .ok (.iload_n 1, 1) := by decide +kernel
theorem dX6_goesOn_92 : decode cX6_goesOn 92 = .ok (.aload_n 0, 1) := by decide +kernel
theorem dX6_goesOn_93 : decode cX6_goesOn 93 = .ok (.getfield 45, 3) := by decide +kernel
theorem dX6_goesOn_96 : decode cX6_goesOn 96 = .ok (.if_icmp .ge 7, 3) := by decide +kernel
theorem dX6_goesOn_99 : decode cX6_goesOn 99 = .ok (.iload_n 1, 1) := by decide +kernel
theorem dX6_goesOn_100 : decode cX6_goesOn 100 = .ok (.goto 4, 3) := by decide +kernel
theorem dX6_goesOn_103 : decode cX6_goesOn 103 = .ok (.iconst (-1), 1) := by decide +kernel
theorem dX6_goesOn_104 : decode cX6_goesOn 104 = .ok (.invokevirtual 97, 3) := by decide +kernel
theorem dX6_goesOn_107 : decode cX6_goesOn 107 = .ok (.return_, 1) := by decide +kernel
set_option maxRecDepth 20000 in
theorem ggX6_goes_X6_goesOn : GoodIn wsX6_goes wsX6_goesOn := goodIn_r _ [6, 1, 7, 8, 9, 10, 11, 5, 12, 13, 14, 15, 16, 17, 18, 19, 20, 21, 22, 23, 24, 25, 26, 27, 28, 29, 30, 31, 32, 33, 34, 35, 36, 37, 38, 39, 40, 41, 42, 43, 44, 45, 46, 47, 48, 49, 50, 51, 52, 53, 54, 55, 56, 57, 58] (by decide +kernel) (by decide +kernel)
set_option maxRecDepth 20000 in
theorem gX6_goes_X6_goesOn : GoodIn wsX6_goes (wsV RX6 100 RX6 yX6_goesOn wsX6_goesOn) := goodIn_app (goodIn_of _ (by decide +kernel)) ggX6_goes_X6_goesOn
theorem dX6_goes_0 : decode cX6_goes 0 = .ok (.iload_n 1, 1) := by decide +kernel
theorem dX6_goes_1 : decode cX6_goes 1 = .ok (.istore_n 2, 1) := by decide +kernel
theorem dX6_goes_2 : decode cX6_goes 2 = .ok (.iconst 0, 1) := by decide +kernel
theorem dX6_goes_3 : decode cX6_goes 3 = .ok (.istore_n 3, 1) := by decide +kernel
theorem dX6_goes_4 : decode cX6_goes 4 = .ok (.iload_n 2, 1) := by decide +kernel
theorem dX6_goes_5 : decode cX6_goes 5 = .ok (.ifCond .le 93, 3) := by decide +kernel
theorem dX6_goes_8 : decode cX6_goes 8 = .ok (.aload_n 0, 1) := by decide +kernel
theorem dX6_goes_9 : decode cX6_goes 9 = .ok (.getfield 7, 3) := by decide +kernel
theorem dX6_goes_12 : decode cX6_goes 12 = .ok (.sipush 301, 3) := by decide +kernel
theorem dX6_goes_15 : decode cX6_goes 15 = .ok (.iaload, 1) := by decide +kernel
theorem dX6_goes_16 : decode cX6_goes 16 = .ok (.iconst (-1), 1) := by decide +kernel
theorem dX6_goes_17 : decode cX6_goes 17 = .ok (.if_icmp .eq 81, 3) := by decide +kernel
theorem dX6_goes_20 : decode cX6_goes 20 = .ok (.iload_n 2, 1) := by decide +kernel
theorem dX6_goes_21 : decode cX6_goes 21 = .ok (.aload_n 0, 1) := by decide +kernel
theorem dX6_goes_22 : decode cX6_goes 22 = .ok (.getfield 7, 3) := by decide +kernel
theorem dX6_goes_25 : decode cX6_goes 25 = .ok (.sipush 302, 3) := by decide +kernel
theorem dX6_goes_28 : decode cX6_goes 28 = .ok (.iaload, 1) := by decide +kernel
theorem dX6_goes_29 : decode cX6_goes 29 = .ok (.if_icmp .ge 7, 3) := by decide +kernel
theorem dX6_goes_32 : decode cX6_goes 32 = .ok (.iload_n 2, 1) := by decide +kernel
theorem dX6_goes_33 : decode cX6_goes 33 = .ok (.goto 11, 3) := by decide +kernel
theorem dX6_goes_36 : decode cX6_goes 36 = .ok (.aload_n 0, 1) := by decide +kernel
theorem dX6_goes_37 : decode cX6_goes 37 = .ok (.getfield 7, 3) := by decide +kernel
theorem dX6_goes_40 : decode cX6_goes 40 = .ok (.sipush 302, 3) := by decide +kernel
theorem dX6_goes_43 : decode cX6_goes 43 = .ok (.iaload, 1) := by decide +kernel
theorem dX6_goes_44 : decode cX6_goes 44 = .ok (.istore 4, 2) := by decide +kernel
theorem dX6_goes_46 : decode cX6_goes 46 = .ok (.iload_n 2, 1) := by decide +kernel
theorem dX6_goes_47 : decode cX6_goes 47 = .ok (.iload 4, 2) := by decide +kernel
theorem dX6_goes_49 : decode cX6_goes 49 = .ok (.isub, 1) := by decide +kernel
theorem dX6_goes_50 : decode cX6_goes 50 = .ok (.istore_n 2, 1) := by decide +kernel
theorem dX6_goes_51 : decode cX6_goes 51 = .ok (.aload_n 0, 1) := by decide +kernel
theorem dX6_goes_52 : decode cX6_goes 52 = .ok (.getfield 7, 3) := by decide +kernel
theorem dX6_goes_55 : decode cX6_goes 55 = .ok (.sipush 302, 3) := by decide +kernel
theorem dX6_goes_58 : decode cX6_goes 58 = .ok (.dup2, 1) := by decide +kernel
theorem dX6_goes_59 : decode cX6_goes 59 = .ok (.iaload, 1) := by decide +kernel
theorem dX6_goes_60 : decode cX6_goes 60 = .ok (.iload 4, 2) := by decide +kernel
theorem dX6_goes_62 : decode cX6_goes 62 = .ok (.isub, 1) := by decide +kernel
theorem dX6_goes_63 : decode cX6_goes 63 = .ok (.iastore, 1) := by decide +kernel
theorem dX6_goes_64 : decode cX6_goes 64 = .ok (.aload_n 0, 1) := by decide +kernel
theorem dX6_goes_65 : decode cX6_goes 65 = .ok (.getfield 7, 3) := by decide +kernel
theorem dX6_goes_68 : decode cX6_goes 68 = .ok (.sipush 345, 3) := by decide +kernel
theorem dX6_goes_71 : decode cX6_goes 71 = .ok (.dup2, 1) := by decide +kernel
theorem dX6_goes_72 : decode cX6_goes 72 = .ok (.iaload, 1) := by decide +kernel
theorem dX6_goes_73 : decode cX6_goes 73 = .ok (.iload 4, 2) := by decide +kernel
theorem dX6_goes_75 : decode cX6_goes 75 = .ok (.iadd, 1) := by decide +kernel
theorem dX6_goes_76 : decode cX6_goes 76 = .ok (.iastore, 1) := by decide +kernel
theorem dX6_goes_77 : decode cX6_goes 77 = .ok (.aload_n 0, 1) := by decide +kernel
theorem dX6_goes_78 : decode cX6_goes 78 = .ok (.getfield 7, 3) := by decide +kernel
theorem dX6_goes_81 : decode cX6_goes 81 = .ok (.sipush 302, 3) := by decide +kernel
theorem dX6_goes_84 : decode cX6_goes 84 = .ok (.iaload, 1) := by decide +kernel
theorem dX6_goes_85 : decode cX6_goes 85 = .ok (.ifCond .ne 10, 3) := by decide +kernel
theorem dX6_goes_88 : decode cX6_goes 88 = .ok (.aload_n 0, 1) := by decide +kernel
theorem dX6_goes_89 : decode cX6_goes 89 = .ok (.invokevirtual 100, 3) := by decide +kernel
theorem dX6_goes_92 : decode cX6_goes 92 = .ok (.iinc 3 1, 3) := by decide +kernel
theorem dX6_goes_95 : decode cX6_goes 95 = .ok (.goto (-91), 3) := by decide +kernel
theorem dX6_goes_98 : decode cX6_goes 98 = .ok (.iload_n 3, 1) := by decide +kernel
theorem dX6_goes_99 : decode cX6_goes 99 = .ok (.ireturn, 1) := by decide +kernel
set_option maxRecDepth 20000 in
theorem ggX6_alters_X6_parses : GoodIn wsX6_alters wsX6_parses := goodIn_r _ [7, 2, 1, 8, 9, 10, 11, 12, 13, 14, 6, 15, 16, 17, 18, 19, 20, 21, 22, 23, 24, 25, 26, 27, 28, 29, 30, 31, 32, 33, 62, 63, 64, 65, 66, 67, 68, 69, 70, 71, 72, 73, 74, 75, 76, 77, 78, 79, 80] (by decide +kernel) (by decide +kernel)
set_option maxRecDepth 20000 in
theorem gX6_alters_X6_parses : GoodIn wsX6_alters (wsV RX6 103 RX6 yX6_parses wsX6_parses) := goodIn_app (goodIn_of _ (by decide +kernel)) ggX6_alters_X6_parses
set_option maxRecDepth 20000 in
theorem ggX6_alters_X6_firstShown : GoodIn wsX6_alters wsX6_firstShown := goodIn_r _ [37, 2, 38, 39, 40, 6, 41, 18, 62, 63, 64, 65, 66, 67, 68, 69, 70, 71, 72, 73, 74, 75, 76, 77, 78, 79, 80] (by decide +kernel) (by decide +kernel)
set_option maxRecDepth 20000 in
theorem gX6_alters_X6_firstShown : GoodIn wsX6_alters (wsV RX6 106 RX6 yX6_firstShown wsX6_firstShown) := goodIn_app (goodIn_of _ (by decide +kernel)) ggX6_alters_X6_firstShown
set_option maxRecDepth 20000 in
theorem ggX6_alters_X6_becomes : GoodIn wsX6_alters wsX6_becomes := goodIn_r _ [45, 1, 46, 47, 48, 6, 49, 50, 51, 52, 53, 19, 54, 55, 56, 57, 18, 20, 58, 59, 60, 61, 62, 63, 64, 65, 66, 67, 68, 69, 70, 71, 72, 73, 74, 75, 76, 77, 78, 79, 80] (by decide +kernel) (by decide +kernel)
set_option maxRecDepth 20000 in
theorem gX6_alters_X6_becomes : GoodIn wsX6_alters (wsV RX6 97 RX6 yX6_becomes wsX6_becomes) := goodIn_app (goodIn_of _ (by decide +kernel)) ggX6_alters_X6_becomes
set_option maxRecDepth 20000 in
theorem ggX6_alters_X6_isShown : GoodIn wsX6_alters wsX6_isShown := goodIn_r _ [41, 18, 62, 63, 64, 65, 66, 67, 68, 69, 70, 71, 72, 73, 74, 75, 76, 77, 78, 79, 80] (by decide +kernel) (by decide +kernel)
set_option maxRecDepth 20000 in
theorem gX6_alters_X6_isShown : GoodIn wsX6_alters (wsV RX6 87 RX6 yX6_isShown wsX6_isShown) := goodIn_app (goodIn_of _ (by decide +kernel)) ggX6_alters_X6_isShown
theorem dX6_alters_0 : decode cX6_alters 0 = .ok (.aload_n 0, 1) := by decide +kernel
theorem dX6_alters_1 : decode cX6_alters 1 = .ok (.invokevirtual 103, 3) := by decide +kernel
theorem dX6_alters_4 : decode cX6_alters 4 = .ok (.aload_n 0, 1) := by decide +kernel
theorem dX6_alters_5 : decode cX6_alters 5 = .ok (.getfield 7, 3) := by decide +kernel
theorem dX6_alters_8 : decode cX6_alters 8 = .ok (.sipush 303, 3) := by decide +kernel
theorem dX6_alters_11 : decode cX6_alters 11 = .ok (.iconst 0, 1) := by decide +kernel
theorem dX6_alters_12 : decode cX6_alters 12 = .ok (.iastore, 1) := by decide +kernel
theorem dX6_alters_13 : decode cX6_alters 13 = .ok (.aload_n 0, 1) := by decide +kernel
theorem dX6_alters_14 : decode cX6_alters 14 = .ok (.getfield 7, 3) := by decide +kernel
theorem dX6_alters_17 : decode cX6_alters 17 = .ok (.sipush 344, 3) := by decide +kernel
theorem dX6_alters_20 : decode cX6_alters 20 = .ok (.iconst 0, 1) := by decide +kernel
theorem dX6_alters_21 : decode cX6_alters 21 = .ok (.iastore, 1) := by decide +kernel
theorem dX6_alters_22 : decode cX6_alters 22 = .ok (.aload_n 0, 1) := by decide +kernel
theorem dX6_alters_23 : decode cX6_alters 23 = .ok (.getfield 7, 3) := by decide +kernel
theorem dX6_alters_26 : decode cX6_alters 26 = .ok (.sipush 340, 3) := by decide +kernel
theorem dX6_alters_29 : decode cX6_alters 29 = .ok (.iconst 0, 1) := by decide +kernel
theorem dX6_alters_30 : decode cX6_alters 30 = .ok (.iastore, 1) := by decide +kernel
theorem dX6_alters_31 : decode cX6_alters 31 = .ok (.aload_n 0, 1) := by decide +kernel
theorem dX6_alters_32 : decode cX6_alters 32 = .ok (.aload_n 0, 1) := by decide +kernel
theorem dX6_alters_33 : decode cX6_alters 33 = .ok (.invokevirtual 106, 3) := by decide +kernel
theorem dX6_alters_36 : decode cX6_alters 36 = .ok (.invokevirtual 97, 3) := by decide +kernel
theorem dX6_alters_39 : decode cX6_alters 39 = .ok (.iconst 0, 1) := by decide +kernel
theorem dX6_alters_40 : decode cX6_alters 40 = .ok (.istore_n 1, 1) := by decide +kernel
theorem dX6_alters_41 : decode cX6_alters 41 = .ok (.iconst 0, 1) := by decide +kernel
theorem dX6_alters_42 : decode cX6_alters 42 = .ok (.istore_n 2, 1) := by decide +kernel
theorem dX6_alters_43 : decode cX6_alters 43 = .ok (.iload_n 2, 1) := by decide +kernel
theorem dX6_alters_44 : decode cX6_alters 44 = .ok (.aload_n 0, 1) := by decide +kernel
theorem dX6_alters_45 : decode cX6_alters 45 = .ok (.getfield 7, 3) := by decide +kernel
theorem dX6_alters_48 : decode cX6_alters 48 = .ok (.sipush 309, 3) := by decide +kernel
theorem dX6_alters_51 : decode cX6_alters 51 = .ok (.iaload, 1) := by decide +kernel
theorem dX6_alters_52 : decode cX6_alters 52 = .ok (.if_icmp .ge 70, 3) := by decide +kernel
theorem dX6_alters_55 : decode cX6_alters 55 = .ok (.aload_n 0, 1) := by decide +kernel
theorem dX6_alters_56 : decode cX6_alters 56 = .ok (.getfield 7, 3) := by decide +kernel
theorem dX6_alters_59 : decode cX6_alters 59 = .ok (.sipush 310, 3) := by decide +kernel
theorem dX6_alters_62 : decode cX6_alters 62 = .ok (.iload_n 2, 1) := by decide +kernel
theorem dX6_alters_63 : decode cX6_alters 63 = .ok (.iadd, 1) := by decide +kernel
theorem dX6_alters_64 : decode cX6_alters 64 = .ok (.iaload, 1) := by decide +kernel
theorem dX6_alters_65 : decode cX6_alters 65 = .ok (.istore_n 3, 1) := by decide +kernel
theorem dX6_alters_66 : decode cX6_alters 66 = .ok (.iload_n 3, 1) := by decide +kernel
theorem dX6_alters_67 : decode cX6_alters 67 = .ok (.aload_n 0, 1) := by decide +kernel
theorem dX6_alters_68 : decode cX6_alters 68 = .ok (.getfield 45, 3) := by decide +kernel
theorem dX6_alters_71 : decode cX6_alters 71 = .ok (.if_icmp .ge 45, 3) := by decide +kernel
theorem dX6_alters_74 : decode cX6_alters 74 = .ok (.aload_n 0, 1) := by decide +kernel
theorem dX6_alters_75 : decode cX6_alters 75 = .ok (.iload_n 3, 1) := by decide +kernel
theorem dX6_alters_76 : decode cX6_alters 76 = .ok (.invokevirtual 87, 3) := by decide +kernel
theorem dX6_alters_79 : decode cX6_alters 79 = .ok (.ifCond .eq 37, 3) := by decide +kernel
theorem dX6_alters_82 : decode cX6_alters 82 = .ok (.aload_n 0, 1) := by decide +kernel
theorem dX6_alters_83 : decode cX6_alters 83 = .ok (.getfield 7, 3) := by decide +kernel
theorem dX6_alters_86 : decode cX6_alters 86 = .ok (.sipush 310, 3) := by decide +kernel
theorem dX6_alters_89 : decode cX6_alters 89 = .ok (.iload_n 1, 1) := by decide +kernel
theorem dX6_alters_90 : decode cX6_alters 90 = .ok (.iadd, 1) := by decide +kernel
theorem dX6_alters_91 : decode cX6_alters 91 = .ok (.iload_n 3, 1) := by decide +kernel
theorem dX6_alters_92 : decode cX6_alters 92 = .ok (.iastore, 1) := by decide +kernel
theorem dX6_alters_93 : decode cX6_alters 93 = .ok (.aload_n 0, 1) := by decide +kernel
theorem dX6_alters_94 : decode cX6_alters 94 = .ok (.getfield 7, 3) := by decide +kernel
theorem dX6_alters_97 : decode cX6_alters 97 = .ok (.sipush 320, 3) := by decide +kernel
theorem dX6_alters_100 : decode cX6_alters 100 = .ok (.iload_n 1, 1) := by decide +kernel
theorem dX6_alters_101 : decode cX6_alters 101 = .ok (.iadd, 1) := by decide +kernel
theorem dX6_alters_102 : decode cX6_alters 102 = .ok (.aload_n 0, 1) := by decide +kernel
theorem dX6_alters_103 : decode cX6_alters 103 = .ok (.getfield 7, 3) := by decide +kernel
theorem dX6_alters_106 : decode cX6_alters 106 = .ok (.sipush 320, 3) := by decide +kernel
theorem dX6_alters_109 : decode cX6_alters 109 = .ok (.iload_n 2, 1) := by decide +kernel
theorem dX6_alters_110 : decode cX6_alters 110 = .ok (.iadd, 1) := by decide +kernel
theorem dX6_alters_111 : decode cX6_alters 111 = .ok (.iaload, 1) := by decide +kernel
theorem dX6_alters_112 : decode cX6_alters 112 = .ok (.iastore, 1) := by decide +kernel
theorem dX6_alters_113 : decode cX6_alters 113 = .ok (.iinc 1 1, 3) := by decide +kernel
theorem dX6_alters_116 : decode cX6_alters 116 = .ok (.iinc 2 1, 3) := by decide +kernel
theorem dX6_alters_119 : decode cX6_alters 119 = .ok (.goto (-76), 3) := by decide +kernel
theorem dX6_alters_122 : decode cX6_alters 122 = .ok (.aload_n 0, 1) := by decide +kernel
theorem dX6_alters_123 : decode cX6_alters 123 = .ok (.getfield 7, 3) := by decide +kernel
theorem dX6_alters_126 : decode cX6_alters 126 = .ok (.sipush 309, 3) := by decide +kernel
theorem dX6_alters_129 : decode cX6_alters 129 = .ok (.iload_n 1, 1) := by decide +kernel
theorem dX6_alters_130 : decode cX6_alters 130 = .ok (.iastore, 1) := by decide +kernel
theorem dX6_alters_131 : decode cX6_alters 131 = .ok (.return_, 1) := by decide +kernel
set_option maxRecDepth 20000 in
theorem ggX6_append_X6_in : GoodIn wsX6_append wsX6_in := goodIn_r _ [6] (by decide +kernel) (by decide +kernel)
set_option maxRecDepth 20000 in
theorem gX6_append_X6_in : GoodIn wsX6_append (va_wsS RX6 49 yX6_in wsX6_in) := goodIn_app (goodIn_of _ (by decide +kernel)) ggX6_append_X6_in
set_option maxRecDepth 20000 in
theorem ggX6_append_X6_records : GoodIn wsX6_append wsX6_records := goodIn_r _ [10, 11, 12, 1, 72, 73, 74, 75, 76, 77, 78, 79, 80, 81, 82, 83, 84, 85, 86, 87, 88, 89, 90] (by decide +kernel) (by decide +kernel)
set_option maxRecDepth 20000 in
theorem gX6_append_X6_records : GoodIn wsX6_append (wsV RX6 110 RX6 yX6_records wsX6_records) := goodIn_app (goodIn_of _ (by decide +kernel)) ggX6_append_X6_records
set_option maxRecDepth 20000 in
theorem ggX6_append_X6_alters : GoodIn wsX6_append wsX6_alters := goodIn_r _ [16, 1, 2, 17, 18, 19, 5, 20, 21, 22, 23, 24, 25, 26, 27, 28, 29, 30, 31, 32, 33, 34, 35, 36, 37, 38, 39, 40, 41, 42, 43, 3, 4, 6, 44, 45, 46, 47, 48, 49, 50, 51, 52, 53, 54, 55, 56, 57, 58, 59, 60, 61, 62, 63, 64, 65, 66, 67, 68, 69, 70, 71, 72, 73, 74, 75, 76, 77, 78, 79, 80, 81, 82, 83, 84, 85, 86, 87, 88, 89, 90] (by decide +kernel) (by decide +kernel)
set_option maxRecDepth 20000 in
theorem gX6_append_X6_alters : GoodIn wsX6_append (wsV RX6 113 RX6 yX6_alters wsX6_alters) := goodIn_app (goodIn_of _ (by decide +kernel)) ggX6_append_X6_alters
theorem dX6_append_0 : decode cX6_append 0 = .ok (.iload_n 1, 1) := by decide +kernel
theorem dX6_append_1 : decode cX6_append 1 = .ok (.bipush 32, 2) := by decide +kernel
theorem dX6_append_3 : decode cX6_append 3 = .ok (.bipush 126, 2) := by decide +kernel
theorem dX6_append_5 : decode cX6_append 5 = .ok (.invokestatic 49, 3) := by decide +kernel
theorem dX6_append_8 : decode cX6_append 8 = .ok (.ifCond .ne 5, 3) := by decide +kernel
theorem dX6_append_11 : decode cX6_append 11 = .ok (.iconst (-1), 1) := by decide +kernel
theorem dX6_append_12 : decode cX6_append 12 = .ok (.ireturn, 1) := by decide +kernel
theorem dX6_append_13 : decode cX6_append 13 = .ok (.aload_n 0, 1) := by decide +kernel
theorem dX6_append_14 : decode cX6_append 14 = .ok (.getfield 7, 3) := by decide +kernel
theorem dX6_append_17 : decode cX6_append 17 = .ok (.iconst 0, 1) := by decide +kernel
theorem dX6_append_18 : decode cX6_append 18 = .ok (.iaload, 1) := by decide +kernel
theorem dX6_append_19 : decode cX6_append 19 = .ok (.sipush 300, 3) := by decide +kernel
theorem dX6_append_22 : decode cX6_append 22 = .ok (.if_icmp .ne 6, 3) := by decide +kernel
theorem dX6_append_25 : decode cX6_append 25 = .ok (.bipush (-3), 2) := by decide +kernel
theorem dX6_append_27 : decode cX6_append 27 = .ok (.ireturn, 1) := by decide +kernel
theorem dX6_append_28 : decode cX6_append 28 = .ok (.aload_n 0, 1) := by decide +kernel
theorem dX6_append_29 : decode cX6_append 29 = .ok (.invokevirtual 110, 3) := by decide +kernel
theorem dX6_append_32 : decode cX6_append 32 = .ok (.aload_n 0, 1) := by decide +kernel
theorem dX6_append_33 : decode cX6_append 33 = .ok (.getfield 7, 3) := by decide +kernel
theorem dX6_append_36 : decode cX6_append 36 = .ok (.iconst 1, 1) := by decide +kernel
theorem dX6_append_37 : decode cX6_append 37 = .ok (.aload_n 0, 1) := by decide +kernel
theorem dX6_append_38 : decode cX6_append 38 = .ok (.getfield 7, 3) := by decide +kernel
theorem dX6_append_41 : decode cX6_append 41 = .ok (.iconst 0, 1) := by decide +kernel
theorem dX6_append_42 : decode cX6_append 42 = .ok (.iaload, 1) := by decide +kernel
theorem dX6_append_43 : decode cX6_append 43 = .ok (.iadd, 1) := by decide +kernel
theorem dX6_append_44 : decode cX6_append 44 = .ok (.iload_n 1, 1) := by decide +kernel
theorem dX6_append_45 : decode cX6_append 45 = .ok (.iastore, 1) := by decide +kernel
theorem dX6_append_46 : decode cX6_append 46 = .ok (.aload_n 0, 1) := by decide +kernel
theorem dX6_append_47 : decode cX6_append 47 = .ok (.getfield 7, 3) := by decide +kernel
theorem dX6_append_50 : decode cX6_append 50 = .ok (.iconst 0, 1) := by decide +kernel
theorem dX6_append_51 : decode cX6_append 51 = .ok (.dup2, 1) := by decide +kernel
theorem dX6_append_52 : decode cX6_append 52 = .ok (.iaload, 1) := by decide +kernel
theorem dX6_append_53 : decode cX6_append 53 = .ok (.iconst 1, 1) := by decide +kernel
theorem dX6_append_54 : decode cX6_append 54 = .ok (.iadd, 1) := by decide +kernel
theorem dX6_append_55 : decode cX6_append 55 = .ok (.iastore, 1) := by decide +kernel
theorem dX6_append_56 : decode cX6_append 56 = .ok (.aload_n 0, 1) := by decide +kernel
theorem dX6_append_57 : decode cX6_append 57 = .ok (.invokevirtual 113, 3) := by decide +kernel
theorem dX6_append_60 : decode cX6_append 60 = .ok (.aload_n 0, 1) := by decide +kernel
theorem dX6_append_61 : decode cX6_append 61 = .ok (.getfield 45, 3) := by decide +kernel
theorem dX6_append_64 : decode cX6_append 64 = .ok (.ireturn, 1) := by decide +kernel
set_option maxRecDepth 20000 in
theorem ggX6_cut_X6_in : GoodIn wsX6_cut wsX6_in := goodIn_r _ [5] (by decide +kernel) (by decide +kernel)
set_option maxRecDepth 20000 in
theorem gX6_cut_X6_in : GoodIn wsX6_cut (va_wsS RX6 49 yX6_in wsX6_in) := goodIn_app (goodIn_of _ (by decide +kernel)) ggX6_cut_X6_in
set_option maxRecDepth 20000 in
theorem ggX6_cut_X6_records : GoodIn wsX6_cut wsX6_records := goodIn_r _ [9, 10, 11, 1, 72, 73, 74, 75, 76, 77, 78, 79, 80, 81, 82, 83, 84, 85, 86, 87, 88, 89, 90] (by decide +kernel) (by decide +kernel)
set_option maxRecDepth 20000 in
theorem gX6_cut_X6_records : GoodIn wsX6_cut (wsV RX6 110 RX6 yX6_records wsX6_records) := goodIn_app (goodIn_of _ (by decide +kernel)) ggX6_cut_X6_records
set_option maxRecDepth 20000 in
theorem ggX6_cut_X6_alters : GoodIn wsX6_cut wsX6_alters := goodIn_r _ [15, 1, 16, 17, 18, 19, 4, 20, 21, 22, 23, 24, 25, 26, 27, 28, 29, 30, 31, 32, 33, 34, 35, 36, 37, 38, 39, 40, 41, 42, 43, 2, 3, 5, 44, 45, 46, 47, 48, 49, 50, 51, 52, 53, 54, 55, 56, 57, 58, 59, 60, 61, 62, 63, 64, 65, 66, 67, 68, 69, 70, 71, 72, 73, 74, 75, 76, 77, 78, 79, 80, 81, 82, 83, 84, 85, 86, 87, 88, 89, 90] (by decide +kernel) (by decide +kernel)
set_option maxRecDepth 20000 in
theorem gX6_cut_X6_alters : GoodIn wsX6_cut (wsV RX6 113 RX6 yX6_alters wsX6_alters) := goodIn_app (goodIn_of _ (by decide +kernel)) ggX6_cut_X6_alters
theorem dX6_cut_0 : decode cX6_cut 0 = .ok (.iload_n 1, 1) := by decide +kernel
theorem dX6_cut_1 : decode cX6_cut 1 = .ok (.iconst 1, 1) := by decide +kernel
theorem dX6_cut_2 : decode cX6_cut 2 = .ok (.sipush 300, 3) := by decide +kernel
theorem dX6_cut_5 : decode cX6_cut 5 = .ok (.invokestatic 49, 3) := by decide +kernel
theorem dX6_cut_8 : decode cX6_cut 8 = .ok (.ifCond .ne 5, 3) := by decide +kernel
theorem dX6_cut_11 : decode cX6_cut 11 = .ok (.iconst (-1), 1) := by decide +kernel
theorem dX6_cut_12 : decode cX6_cut 12 = .ok (.ireturn, 1) := by decide +kernel
theorem dX6_cut_13 : decode cX6_cut 13 = .ok (.iload_n 1, 1) := by decide +kernel
theorem dX6_cut_14 : decode cX6_cut 14 = .ok (.aload_n 0, 1) := by decide +kernel
theorem dX6_cut_15 : decode cX6_cut 15 = .ok (.getfield 7, 3) := by decide +kernel
theorem dX6_cut_18 : decode cX6_cut 18 = .ok (.iconst 0, 1) := by decide +kernel
theorem dX6_cut_19 : decode cX6_cut 19 = .ok (.iaload, 1) := by decide +kernel
theorem dX6_cut_20 : decode cX6_cut 20 = .ok (.if_icmp .le 6, 3) := by decide +kernel
theorem dX6_cut_23 : decode cX6_cut 23 = .ok (.bipush (-2), 2) := by decide +kernel
theorem dX6_cut_25 : decode cX6_cut 25 = .ok (.ireturn, 1) := by decide +kernel
theorem dX6_cut_26 : decode cX6_cut 26 = .ok (.aload_n 0, 1) := by decide +kernel
theorem dX6_cut_27 : decode cX6_cut 27 = .ok (.invokevirtual 110, 3) := by decide +kernel
theorem dX6_cut_30 : decode cX6_cut 30 = .ok (.aload_n 0, 1) := by decide +kernel
theorem dX6_cut_31 : decode cX6_cut 31 = .ok (.getfield 7, 3) := by decide +kernel
theorem dX6_cut_34 : decode cX6_cut 34 = .ok (.iconst 0, 1) := by decide +kernel
theorem dX6_cut_35 : decode cX6_cut 35 = .ok (.dup2, 1) := by decide +kernel
theorem dX6_cut_36 : decode cX6_cut 36 = .ok (.iaload, 1) := by decide +kernel
theorem dX6_cut_37 : decode cX6_cut 37 = .ok (.iload_n 1, 1) := by decide +kernel
theorem dX6_cut_38 : decode cX6_cut 38 = .ok (.isub, 1) := by decide +kernel
theorem dX6_cut_39 : decode cX6_cut 39 = .ok (.iastore, 1) := by decide +kernel
theorem dX6_cut_40 : decode cX6_cut 40 = .ok (.aload_n 0, 1) := by decide +kernel
theorem dX6_cut_41 : decode cX6_cut 41 = .ok (.invokevirtual 113, 3) := by decide +kernel
theorem dX6_cut_44 : decode cX6_cut 44 = .ok (.aload_n 0, 1) := by decide +kernel
theorem dX6_cut_45 : decode cX6_cut 45 = .ok (.getfield 7, 3) := by decide +kernel
theorem dX6_cut_48 : decode cX6_cut 48 = .ok (.iconst 0, 1) := by decide +kernel
theorem dX6_cut_49 : decode cX6_cut 49 = .ok (.iaload, 1) := by decide +kernel
theorem dX6_cut_50 : decode cX6_cut 50 = .ok (.ireturn, 1) := by decide +kernel
theorem dX6_noteOf_0 : decode cX6_noteOf 0 = .ok (.iconst 0, 1) := by decide +kernel
theorem dX6_noteOf_1 : decode cX6_noteOf 1 = .ok (.istore_n 2, 1) := by decide +kernel
theorem dX6_noteOf_2 : decode cX6_noteOf 2 = .ok (.iload_n 2, 1) := by decide +kernel
theorem dX6_noteOf_3 : decode cX6_noteOf 3 = .ok (.aload_n 0, 1) := by decide +kernel
theorem dX6_noteOf_4 : decode cX6_noteOf 4 = .ok (.getfield 7, 3) := by decide +kernel
theorem dX6_noteOf_7 : decode cX6_noteOf 7 = .ok (.sipush 309, 3) := by decide +kernel
theorem dX6_noteOf_10 : decode cX6_noteOf 10 = .ok (.iaload, 1) := by decide +kernel
theorem dX6_noteOf_11 : decode cX6_noteOf 11 = .ok (.if_icmp .ge 25, 3) := by decide +kernel
theorem dX6_noteOf_14 : decode cX6_noteOf 14 = .ok (.aload_n 0, 1) := by decide +kernel
theorem dX6_noteOf_15 : decode cX6_noteOf 15 = .ok (.getfield 7, 3) := by decide +kernel
theorem dX6_noteOf_18 : decode cX6_noteOf 18 = .ok (.sipush 310, 3) := by decide +kernel
theorem dX6_noteOf_21 : decode cX6_noteOf 21 = .ok (.iload_n 2, 1) := by decide +kernel
theorem dX6_noteOf_22 : decode cX6_noteOf 22 = .ok (.iadd, 1) := by decide +kernel
theorem dX6_noteOf_23 : decode cX6_noteOf 23 = .ok (.iaload, 1) := by decide +kernel
theorem dX6_noteOf_24 : decode cX6_noteOf 24 = .ok (.iload_n 1, 1) := by decide +kernel
theorem dX6_noteOf_25 : decode cX6_noteOf 25 = .ok (.if_icmp .ne 5, 3) := by decide +kernel
theorem dX6_noteOf_28 : decode cX6_noteOf 28 = .ok (.iload_n 2, 1) := by decide +kernel
theorem dX6_noteOf_29 : decode cX6_noteOf 29 = .ok (.ireturn, 1) := by decide +kernel
theorem dX6_noteOf_30 : decode cX6_noteOf 30 = .ok (.iinc 2 1, 3) := by decide +kernel
theorem dX6_noteOf_33 : decode cX6_noteOf 33 = .ok (.goto (-31), 3) := by decide +kernel
theorem dX6_noteOf_36 : decode cX6_noteOf 36 = .ok (.iconst (-1), 1) := by decide +kernel
theorem dX6_noteOf_37 : decode cX6_noteOf 37 = .ok (.ireturn, 1) := by decide +kernel
set_option maxRecDepth 20000 in
theorem ggX6_spotOf_X6_isLetter : GoodIn wsX6_spotOf wsX6_isLetter := goodIn_r _ [8, 9, 10, 7, 11, 12, 13, 14] (by decide +kernel) (by decide +kernel)
set_option maxRecDepth 20000 in
theorem gX6_spotOf_X6_isLetter : GoodIn wsX6_spotOf (va_wsS RX6 70 yX6_isLetter wsX6_isLetter) := goodIn_app (goodIn_of _ (by decide +kernel)) ggX6_spotOf_X6_isLetter
theorem dX6_spotOf_0 : decode cX6_spotOf 0 = .ok (.aload_n 0, 1) := by decide +kernel
theorem dX6_spotOf_1 : decode cX6_spotOf 1 = .ok (.getfield 29, 3) := by decide +kernel
theorem dX6_spotOf_4 : decode cX6_spotOf 4 = .ok (.iload_n 1, 1) := by decide +kernel
theorem dX6_spotOf_5 : decode cX6_spotOf 5 = .ok (.iaload, 1) := by decide +kernel
theorem dX6_spotOf_6 : decode cX6_spotOf 6 = .ok (.iconst 1, 1) := by decide +kernel
theorem dX6_spotOf_7 : decode cX6_spotOf 7 = .ok (.isub, 1) := by decide +kernel
theorem dX6_spotOf_8 : decode cX6_spotOf 8 = .ok (.iconst 3, 1) := by decide +kernel
theorem dX6_spotOf_9 : decode cX6_spotOf 9 = .ok (.idiv, 1) := by decide +kernel
theorem dX6_spotOf_10 : decode cX6_spotOf 10 = .ok (.istore_n 2, 1) := by decide +kernel
theorem dX6_spotOf_11 : decode cX6_spotOf 11 = .ok (.iconst 0, 1) := by decide +kernel
theorem dX6_spotOf_12 : decode cX6_spotOf 12 = .ok (.istore_n 3, 1) := by decide +kernel
theorem dX6_spotOf_13 : decode cX6_spotOf 13 = .ok (.iload_n 3, 1) := by decide +kernel
theorem dX6_spotOf_14 : decode cX6_spotOf 14 = .ok (.aload_n 0, 1) := by decide +kernel
theorem dX6_spotOf_15 : decode cX6_spotOf 15 = .ok (.getfield 26, 3) := by decide +kernel
theorem dX6_spotOf_18 : decode cX6_spotOf 18 = .ok (.iload_n 1, 1) := by decide +kernel
theorem dX6_spotOf_19 : decode cX6_spotOf 19 = .ok (.iaload, 1) := by decide +kernel
theorem dX6_spotOf_20 : decode cX6_spotOf 20 = .ok (.if_icmp .ge 48, 3) := by decide +kernel
theorem dX6_spotOf_23 : decode cX6_spotOf 23 = .ok (.aload_n 0, 1) := by decide +kernel
theorem dX6_spotOf_24 : decode cX6_spotOf 24 = .ok (.getfield 29, 3) := by decide +kernel
theorem dX6_spotOf_27 : decode cX6_spotOf 27 = .ok (.iload_n 1, 1) := by decide +kernel
theorem dX6_spotOf_28 : decode cX6_spotOf 28 = .ok (.iaload, 1) := by decide +kernel
theorem dX6_spotOf_29 : decode cX6_spotOf 29 = .ok (.ifCond .le 39, 3) := by decide +kernel
theorem dX6_spotOf_32 : decode cX6_spotOf 32 = .ok (.aload_n 0, 1) := by decide +kernel
theorem dX6_spotOf_33 : decode cX6_spotOf 33 = .ok (.getfield 7, 3) := by decide +kernel
theorem dX6_spotOf_36 : decode cX6_spotOf 36 = .ok (.iconst 1, 1) := by decide +kernel
theorem dX6_spotOf_37 : decode cX6_spotOf 37 = .ok (.aload_n 0, 1) := by decide +kernel
theorem dX6_spotOf_38 : decode cX6_spotOf 38 = .ok (.getfield 23, 3) := by decide +kernel
theorem dX6_spotOf_41 : decode cX6_spotOf 41 = .ok (.iload_n 1, 1) := by decide +kernel
theorem dX6_spotOf_42 : decode cX6_spotOf 42 = .ok (.iaload, 1) := by decide +kernel
theorem dX6_spotOf_43 : decode cX6_spotOf 43 = .ok (.iadd, 1) := by decide +kernel
theorem dX6_spotOf_44 : decode cX6_spotOf 44 = .ok (.iload_n 3, 1) := by decide +kernel
theorem dX6_spotOf_45 : decode cX6_spotOf 45 = .ok (.iadd, 1) := by decide +kernel
theorem dX6_spotOf_46 : decode cX6_spotOf 46 = .ok (.iaload, 1) := by decide +kernel
theorem dX6_spotOf_47 : decode cX6_spotOf 47 = .ok (.invokestatic 70, 3) := by decide +kernel
theorem dX6_spotOf_50 : decode cX6_spotOf 50 = .ok (.ifCond .eq 12, 3) := by decide +kernel
theorem dX6_spotOf_53 : decode cX6_spotOf 53 = .ok (.iload_n 2, 1) := by decide +kernel
theorem dX6_spotOf_54 : decode cX6_spotOf 54 = .ok (.ifCond .ne 5, 3) := by decide +kernel
theorem dX6_spotOf_57 : decode cX6_spotOf 57 = .ok (.iload_n 3, 1) := by decide +kernel
theorem dX6_spotOf_58 : decode cX6_spotOf 58 = .ok (.ireturn, 1) := by decide +kernel
theorem dX6_spotOf_59 : decode cX6_spotOf 59 = .ok (.iinc 2 (-1), 3) := by decide +kernel
theorem dX6_spotOf_62 : decode cX6_spotOf 62 = .ok (.iinc 3 1, 3) := by decide +kernel
theorem dX6_spotOf_65 : decode cX6_spotOf 65 = .ok (.goto (-52), 3) := by decide +kernel
theorem dX6_spotOf_68 : decode cX6_spotOf 68 = .ok (.iconst (-1), 1) := by decide +kernel
theorem dX6_spotOf_69 : decode cX6_spotOf 69 = .ok (.ireturn, 1) := by decide +kernel
set_option maxRecDepth 20000 in
theorem ggX6_word_X6_isWord : GoodIn wsX6_word wsX6_isWord := goodIn_r _ [12, 13, 14, 15, 11, 16, 48, 49, 50, 51, 52, 53, 54, 55, 56, 57, 58, 59, 60, 61, 62, 63, 64, 65, 66] (by decide +kernel) (by decide +kernel)
set_option maxRecDepth 20000 in
theorem gX6_word_X6_isWord : GoodIn wsX6_word (wsV RX6 116 RX6 yX6_isWord wsX6_isWord) := goodIn_app (goodIn_of _ (by decide +kernel)) ggX6_word_X6_isWord
set_option maxRecDepth 20000 in
theorem ggX6_word_X6_in : GoodIn wsX6_word wsX6_in := goodIn_r _ [16] (by decide +kernel) (by decide +kernel)
set_option maxRecDepth 20000 in
theorem gX6_word_X6_in : GoodIn wsX6_word (va_wsS RX6 49 yX6_in wsX6_in) := goodIn_app (goodIn_of _ (by decide +kernel)) ggX6_word_X6_in
set_option maxRecDepth 20000 in
theorem ggX6_word_X6_noteOf : GoodIn wsX6_word wsX6_noteOf := goodIn_r _ [20, 7, 48, 49, 50, 51, 52, 53, 54, 55, 56, 57, 58, 59, 60, 61, 62, 63, 64, 65, 66] (by decide +kernel) (by decide +kernel)
set_option maxRecDepth 20000 in
theorem gX6_word_X6_noteOf : GoodIn wsX6_word (wsV RX6 119 RX6 yX6_noteOf wsX6_noteOf) := goodIn_app (goodIn_of _ (by decide +kernel)) ggX6_word_X6_noteOf
set_option maxRecDepth 20000 in
theorem ggX6_word_X6_classOf : GoodIn wsX6_word wsX6_classOf := goodIn_r _ [24, 3, 48, 49, 50, 51, 52, 53, 54, 55, 56, 57, 58, 59, 60, 61, 62, 63, 64, 65, 66] (by decide +kernel) (by decide +kernel)
set_option maxRecDepth 20000 in
theorem gX6_word_X6_classOf : GoodIn wsX6_word (wsV RX6 81 RX6 yX6_classOf wsX6_classOf) := goodIn_app (goodIn_of _ (by decide +kernel)) ggX6_word_X6_classOf
set_option maxRecDepth 20000 in
theorem ggX6_word_X6_measureOf : GoodIn wsX6_word wsX6_measureOf := goodIn_r _ [28, 3, 7, 48, 49, 50, 51, 52, 53, 54, 55, 56, 57, 58, 59, 60, 61, 62, 63, 64, 65, 66] (by decide +kernel) (by decide +kernel)
set_option maxRecDepth 20000 in
theorem gX6_word_X6_measureOf : GoodIn wsX6_word (wsV RX6 77 RX6 yX6_measureOf wsX6_measureOf) := goodIn_app (goodIn_of _ (by decide +kernel)) ggX6_word_X6_measureOf
set_option maxRecDepth 20000 in
theorem ggX6_word_X6_timeOf : GoodIn wsX6_word wsX6_timeOf := goodIn_r _ [32, 7, 21, 22, 23, 11, 24, 3, 33, 34, 35, 36, 4, 37, 25, 26, 27, 28, 48, 49, 50, 51, 52, 53, 54, 55, 56, 57, 58, 59, 60, 61, 62, 63, 64, 65, 66] (by decide +kernel) (by decide +kernel)
set_option maxRecDepth 20000 in
theorem gX6_word_X6_timeOf : GoodIn wsX6_word (wsV RX6 90 RX6 yX6_timeOf wsX6_timeOf) := goodIn_app (goodIn_of _ (by decide +kernel)) ggX6_word_X6_timeOf
set_option maxRecDepth 20000 in
theorem ggX6_word_X6_spotOf : GoodIn wsX6_word wsX6_spotOf := goodIn_r _ [41, 3, 2, 7, 1, 42, 43, 11, 44, 45, 46, 47, 14, 15, 16, 48, 49, 50, 51, 52, 53, 54, 55, 56, 57, 58, 59, 60, 61, 62, 63, 64, 65, 66] (by decide +kernel) (by decide +kernel)
set_option maxRecDepth 20000 in
theorem gX6_word_X6_spotOf : GoodIn wsX6_word (wsV RX6 122 RX6 yX6_spotOf wsX6_spotOf) := goodIn_app (goodIn_of _ (by decide +kernel)) ggX6_word_X6_spotOf
theorem dX6_word_0 : decode cX6_word 0 = .ok (.aload_n 0, 1) := by decide +kernel
theorem dX6_word_1 : decode cX6_word 1 = .ok (.iload_n 1, 1) := by decide +kernel
theorem dX6_word_2 : decode cX6_word 2 = .ok (.invokevirtual 116, 3) := by decide +kernel
theorem dX6_word_5 : decode cX6_word 5 = .ok (.ifCond .eq 13, 3) := by decide +kernel
theorem dX6_word_8 : decode cX6_word 8 = .ok (.iload_n 2, 1) := by decide +kernel
theorem dX6_word_9 : decode cX6_word 9 = .ok (.iconst 0, 1) := by decide +kernel
theorem dX6_word_10 : decode cX6_word 10 = .ok (.bipush 10, 2) := by decide +kernel
theorem dX6_word_12 : decode cX6_word 12 = .ok (.invokestatic 49, 3) := by decide +kernel
theorem dX6_word_15 : decode cX6_word 15 = .ok (.ifCond .ne 5, 3) := by decide +kernel
theorem dX6_word_18 : decode cX6_word 18 = .ok (.iconst (-1), 1) := by decide +kernel
theorem dX6_word_19 : decode cX6_word 19 = .ok (.ireturn, 1) := by decide +kernel
theorem dX6_word_20 : decode cX6_word 20 = .ok (.aload_n 0, 1) := by decide +kernel
theorem dX6_word_21 : decode cX6_word 21 = .ok (.iload_n 1, 1) := by decide +kernel
theorem dX6_word_22 : decode cX6_word 22 = .ok (.invokevirtual 119, 3) := by decide +kernel
theorem dX6_word_25 : decode cX6_word 25 = .ok (.istore_n 3, 1) := by decide +kernel
theorem dX6_word_26 : decode cX6_word 26 = .ok (.iload_n 2, 1) := by decide +kernel
theorem dX6_word_27 : decode cX6_word 27 = .ok (.tableswitch 133 0 9 #[53, 60, 67, 74, 80, 87, 94, 101, 107, 113], 53) := by decide +kernel
theorem dX6_word_80 : decode cX6_word 80 = .ok (.aload_n 0, 1) := by decide +kernel
theorem dX6_word_81 : decode cX6_word 81 = .ok (.getfield 23, 3) := by decide +kernel
theorem dX6_word_84 : decode cX6_word 84 = .ok (.iload_n 1, 1) := by decide +kernel
theorem dX6_word_85 : decode cX6_word 85 = .ok (.iaload, 1) := by decide +kernel
theorem dX6_word_86 : decode cX6_word 86 = .ok (.ireturn, 1) := by decide +kernel
theorem dX6_word_87 : decode cX6_word 87 = .ok (.aload_n 0, 1) := by decide +kernel
theorem dX6_word_88 : decode cX6_word 88 = .ok (.getfield 26, 3) := by decide +kernel
theorem dX6_word_91 : decode cX6_word 91 = .ok (.iload_n 1, 1) := by decide +kernel
theorem dX6_word_92 : decode cX6_word 92 = .ok (.iaload, 1) := by decide +kernel
theorem dX6_word_93 : decode cX6_word 93 = .ok (.ireturn, 1) := by decide +kernel
theorem dX6_word_94 : decode cX6_word 94 = .ok (.aload_n 0, 1) := by decide +kernel
theorem dX6_word_95 : decode cX6_word 95 = .ok (.getfield 29, 3) := by decide +kernel
theorem dX6_word_98 : decode cX6_word 98 = .ok (.iload_n 1, 1) := by decide +kernel
theorem dX6_word_99 : decode cX6_word 99 = .ok (.iaload, 1) := by decide +kernel
theorem dX6_word_100 : decode cX6_word 100 = .ok (.ireturn, 1) := by decide +kernel
theorem dX6_word_101 : decode cX6_word 101 = .ok (.aload_n 0, 1) := by decide +kernel
theorem dX6_word_102 : decode cX6_word 102 = .ok (.iload_n 1, 1) := by decide +kernel
theorem dX6_word_103 : decode cX6_word 103 = .ok (.invokevirtual 81, 3) := by decide +kernel
theorem dX6_word_106 : decode cX6_word 106 = .ok (.ireturn, 1) := by decide +kernel
theorem dX6_word_107 : decode cX6_word 107 = .ok (.aload_n 0, 1) := by decide +kernel
theorem dX6_word_108 : decode cX6_word 108 = .ok (.getfield 32, 3) := by decide +kernel
theorem dX6_word_111 : decode cX6_word 111 = .ok (.iload_n 1, 1) := by decide +kernel
theorem dX6_word_112 : decode cX6_word 112 = .ok (.iaload, 1) := by decide +kernel
theorem dX6_word_113 : decode cX6_word 113 = .ok (.ireturn, 1) := by decide +kernel
theorem dX6_word_114 : decode cX6_word 114 = .ok (.aload_n 0, 1) := by decide +kernel
theorem dX6_word_115 : decode cX6_word 115 = .ok (.getfield 39, 3) := by decide +kernel
theorem dX6_word_118 : decode cX6_word 118 = .ok (.iload_n 1, 1) := by decide +kernel
theorem dX6_word_119 : decode cX6_word 119 = .ok (.iaload, 1) := by decide +kernel
theorem dX6_word_120 : decode cX6_word 120 = .ok (.ireturn, 1) := by decide +kernel
theorem dX6_word_121 : decode cX6_word 121 = .ok (.aload_n 0, 1) := by decide +kernel
theorem dX6_word_122 : decode cX6_word 122 = .ok (.getfield 42, 3) := by decide +kernel
theorem dX6_word_125 : decode cX6_word 125 = .ok (.iload_n 1, 1) := by decide +kernel
theorem dX6_word_126 : decode cX6_word 126 = .ok (.iaload, 1) := by decide +kernel
theorem dX6_word_127 : decode cX6_word 127 = .ok (.ireturn, 1) := by decide +kernel
theorem dX6_word_128 : decode cX6_word 128 = .ok (.aload_n 0, 1) := by decide +kernel
theorem dX6_word_129 : decode cX6_word 129 = .ok (.iload_n 1, 1) := by decide +kernel
theorem dX6_word_130 : decode cX6_word 130 = .ok (.invokevirtual 77, 3) := by decide +kernel
theorem dX6_word_133 : decode cX6_word 133 = .ok (.ireturn, 1) := by decide +kernel
theorem dX6_word_134 : decode cX6_word 134 = .ok (.aload_n 0, 1) := by decide +kernel
theorem dX6_word_135 : decode cX6_word 135 = .ok (.iload_n 1, 1) := by decide +kernel
theorem dX6_word_136 : decode cX6_word 136 = .ok (.invokevirtual 90, 3) := by decide +kernel
theorem dX6_word_139 : decode cX6_word 139 = .ok (.ireturn, 1) := by decide +kernel
theorem dX6_word_140 : decode cX6_word 140 = .ok (.iload_n 3, 1) := by decide +kernel
theorem dX6_word_141 : decode cX6_word 141 = .ok (.iconst (-1), 1) := by decide +kernel
theorem dX6_word_142 : decode cX6_word 142 = .ok (.if_icmp .ne 7, 3) := by decide +kernel
theorem dX6_word_145 : decode cX6_word 145 = .ok (.iconst 0, 1) := by decide +kernel
theorem dX6_word_146 : decode cX6_word 146 = .ok (.goto 13, 3) := by decide +kernel
theorem dX6_word_149 : decode cX6_word 149 = .ok (.aload_n 0, 1) := by decide +kernel
theorem dX6_word_150 : decode cX6_word 150 = .ok (.getfield 7, 3) := by decide +kernel
theorem dX6_word_153 : decode cX6_word 153 = .ok (.sipush 320, 3) := by decide +kernel
theorem dX6_word_156 : decode cX6_word 156 = .ok (.iload_n 3, 1) := by decide +kernel
theorem dX6_word_157 : decode cX6_word 157 = .ok (.iadd, 1) := by decide +kernel
theorem dX6_word_158 : decode cX6_word 158 = .ok (.iaload, 1) := by decide +kernel
theorem dX6_word_159 : decode cX6_word 159 = .ok (.ireturn, 1) := by decide +kernel
theorem dX6_word_160 : decode cX6_word 160 = .ok (.aload_n 0, 1) := by decide +kernel
theorem dX6_word_161 : decode cX6_word 161 = .ok (.iload_n 1, 1) := by decide +kernel
theorem dX6_word_162 : decode cX6_word 162 = .ok (.invokevirtual 122, 3) := by decide +kernel
theorem dX6_word_165 : decode cX6_word 165 = .ok (.ireturn, 1) := by decide +kernel
set_option maxRecDepth 20000 in
theorem ggX6_sentence_X6_isSentence : GoodIn wsX6_sentence wsX6_isSentence := goodIn_r _ [7, 8, 9, 10, 6, 11, 36, 37, 38, 39, 40, 41, 42, 43, 44, 45, 46, 47, 48, 49, 50, 51, 52, 53, 54] (by decide +kernel) (by decide +kernel)
set_option maxRecDepth 20000 in
theorem gX6_sentence_X6_isSentence : GoodIn wsX6_sentence (wsV RX6 125 RX6 yX6_isSentence wsX6_isSentence) := goodIn_app (goodIn_of _ (by decide +kernel)) ggX6_sentence_X6_isSentence
set_option maxRecDepth 20000 in
theorem ggX6_sentence_X6_in : GoodIn wsX6_sentence wsX6_in := goodIn_r _ [11] (by decide +kernel) (by decide +kernel)
set_option maxRecDepth 20000 in
theorem gX6_sentence_X6_in : GoodIn wsX6_sentence (va_wsS RX6 49 yX6_in wsX6_in) := goodIn_app (goodIn_of _ (by decide +kernel)) ggX6_sentence_X6_in
set_option maxRecDepth 20000 in
theorem ggX6_sentence_X6_timeOf : GoodIn wsX6_sentence wsX6_timeOf := goodIn_r _ [15, 16, 17, 18, 19, 6, 20, 21, 22, 23, 24, 25, 26, 27, 28, 29, 30, 31, 36, 37, 38, 39, 40, 41, 42, 43, 44, 45, 46, 47, 48, 49, 50, 51, 52, 53, 54] (by decide +kernel) (by decide +kernel)
set_option maxRecDepth 20000 in
theorem gX6_sentence_X6_timeOf : GoodIn wsX6_sentence (wsV RX6 90 RX6 yX6_timeOf wsX6_timeOf) := goodIn_app (goodIn_of _ (by decide +kernel)) ggX6_sentence_X6_timeOf
set_option maxRecDepth 20000 in
theorem ggX6_sentence_X6_isShown : GoodIn wsX6_sentence wsX6_isShown := goodIn_r _ [35, 26, 36, 37, 38, 39, 40, 41, 42, 43, 44, 45, 46, 47, 48, 49, 50, 51, 52, 53, 54] (by decide +kernel) (by decide +kernel)
set_option maxRecDepth 20000 in
theorem gX6_sentence_X6_isShown : GoodIn wsX6_sentence (wsV RX6 87 RX6 yX6_isShown wsX6_isShown) := goodIn_app (goodIn_of _ (by decide +kernel)) ggX6_sentence_X6_isShown
theorem dX6_sentence_0 : decode cX6_sentence 0 = .ok (.aload_n 0, 1) := by decide +kernel
theorem dX6_sentence_1 : decode cX6_sentence 1 = .ok (.iload_n 1, 1) := by decide +kernel
theorem dX6_sentence_2 : decode cX6_sentence 2 = .ok (.invokevirtual 125, 3) := by decide +kernel
theorem dX6_sentence_5 : decode cX6_sentence 5 = .ok (.ifCond .eq 12, 3) := by decide +kernel
theorem dX6_sentence_8 : decode cX6_sentence 8 = .ok (.iload_n 2, 1) := by decide +kernel
theorem dX6_sentence_9 : decode cX6_sentence 9 = .ok (.iconst 0, 1) := by decide +kernel
theorem dX6_sentence_10 : decode cX6_sentence 10 = .ok (.iconst 3, 1) := by decide +kernel
theorem dX6_sentence_11 : decode cX6_sentence 11 = .ok (.invokestatic 49, 3) := by decide +kernel
theorem dX6_sentence_14 : decode cX6_sentence 14 = .ok (.ifCond .ne 5, 3) := by decide +kernel
theorem dX6_sentence_17 : decode cX6_sentence 17 = .ok (.iconst (-1), 1) := by decide +kernel
theorem dX6_sentence_18 : decode cX6_sentence 18 = .ok (.ireturn, 1) := by decide +kernel
theorem dX6_sentence_19 : decode cX6_sentence 19 = .ok (.iconst (-1), 1) := by decide +kernel
theorem dX6_sentence_20 : decode cX6_sentence 20 = .ok (.istore_n 3, 1) := by decide +kernel
theorem dX6_sentence_21 : decode cX6_sentence 21 = .ok (.iconst 0, 1) := by decide +kernel
theorem dX6_sentence_22 : decode cX6_sentence 22 = .ok (.istore 4, 2) := by decide +kernel
theorem dX6_sentence_24 : decode cX6_sentence 24 = .ok (.iconst 0, 1) := by decide +kernel
theorem dX6_sentence_25 : decode cX6_sentence 25 = .ok (.istore 5, 2) := by decide +kernel
theorem dX6_sentence_27 : decode cX6_sentence 27 = .ok (.iconst 0, 1) := by decide +kernel
theorem dX6_sentence_28 : decode cX6_sentence 28 = .ok (.istore 6, 2) := by decide +kernel
theorem dX6_sentence_30 : decode cX6_sentence 30 = .ok (.iconst 0, 1) := by decide +kernel
theorem dX6_sentence_31 : decode cX6_sentence 31 = .ok (.istore 7, 2) := by decide +kernel
theorem dX6_sentence_33 : decode cX6_sentence 33 = .ok (.iload 7, 2) := by decide +kernel
theorem dX6_sentence_35 : decode cX6_sentence 35 = .ok (.aload_n 0, 1) := by decide +kernel
theorem dX6_sentence_36 : decode cX6_sentence 36 = .ok (.getfield 45, 3) := by decide +kernel
theorem dX6_sentence_39 : decode cX6_sentence 39 = .ok (.if_icmp .ge 66, 3) := by decide +kernel
theorem dX6_sentence_42 : decode cX6_sentence 42 = .ok (.aload_n 0, 1) := by decide +kernel
theorem dX6_sentence_43 : decode cX6_sentence 43 = .ok (.getfield 39, 3) := by decide +kernel
theorem dX6_sentence_46 : decode cX6_sentence 46 = .ok (.iload 7, 2) := by decide +kernel
theorem dX6_sentence_48 : decode cX6_sentence 48 = .ok (.iaload, 1) := by decide +kernel
theorem dX6_sentence_49 : decode cX6_sentence 49 = .ok (.iload_n 1, 1) := by decide +kernel
theorem dX6_sentence_50 : decode cX6_sentence 50 = .ok (.if_icmp .ne 49, 3) := by decide +kernel
theorem dX6_sentence_53 : decode cX6_sentence 53 = .ok (.iload_n 3, 1) := by decide +kernel
theorem dX6_sentence_54 : decode cX6_sentence 54 = .ok (.iconst (-1), 1) := by decide +kernel
theorem dX6_sentence_55 : decode cX6_sentence 55 = .ok (.if_icmp .ne 8, 3) := by decide +kernel
theorem dX6_sentence_58 : decode cX6_sentence 58 = .ok (.iload 7, 2) := by decide +kernel
theorem dX6_sentence_60 : decode cX6_sentence 60 = .ok (.goto 4, 3) := by decide +kernel
theorem dX6_sentence_63 : decode cX6_sentence 63 = .ok (.iload_n 3, 1) := by decide +kernel
theorem dX6_sentence_64 : decode cX6_sentence 64 = .ok (.istore_n 3, 1) := by decide +kernel
theorem dX6_sentence_65 : decode cX6_sentence 65 = .ok (.iload 7, 2) := by decide +kernel
theorem dX6_sentence_67 : decode cX6_sentence 67 = .ok (.istore 4, 2) := by decide +kernel
theorem dX6_sentence_69 : decode cX6_sentence 69 = .ok (.iload 5, 2) := by decide +kernel
theorem dX6_sentence_71 : decode cX6_sentence 71 = .ok (.aload_n 0, 1) := by decide +kernel
theorem dX6_sentence_72 : decode cX6_sentence 72 = .ok (.iload 7, 2) := by decide +kernel
theorem dX6_sentence_74 : decode cX6_sentence 74 = .ok (.invokevirtual 90, 3) := by decide +kernel
theorem dX6_sentence_77 : decode cX6_sentence 77 = .ok (.iadd, 1) := by decide +kernel
theorem dX6_sentence_78 : decode cX6_sentence 78 = .ok (.istore 5, 2) := by decide +kernel
theorem dX6_sentence_80 : decode cX6_sentence 80 = .ok (.iload 6, 2) := by decide +kernel
theorem dX6_sentence_82 : decode cX6_sentence 82 = .ok (.aload_n 0, 1) := by decide +kernel
theorem dX6_sentence_83 : decode cX6_sentence 83 = .ok (.iload 7, 2) := by decide +kernel
theorem dX6_sentence_85 : decode cX6_sentence 85 = .ok (.invokevirtual 87, 3) := by decide +kernel
theorem dX6_sentence_88 : decode cX6_sentence 88 = .ok (.ifCond .eq 7, 3) := by decide +kernel
theorem dX6_sentence_91 : decode cX6_sentence 91 = .ok (.iconst 1, 1) := by decide +kernel
theorem dX6_sentence_92 : decode cX6_sentence 92 = .ok (.goto 4, 3) := by decide +kernel
theorem dX6_sentence_95 : decode cX6_sentence 95 = .ok (.iconst 0, 1) := by decide +kernel
theorem dX6_sentence_96 : decode cX6_sentence 96 = .ok (.iadd, 1) := by decide +kernel
theorem dX6_sentence_97 : decode cX6_sentence 97 = .ok (.istore 6, 2) := by decide +kernel
theorem dX6_sentence_99 : decode cX6_sentence 99 = .ok (.iinc 7 1, 3) := by decide +kernel
theorem dX6_sentence_102 : decode cX6_sentence 102 = .ok (.goto (-69), 3) := by decide +kernel
theorem dX6_sentence_105 : decode cX6_sentence 105 = .ok (.iload_n 2, 1) := by decide +kernel
theorem dX6_sentence_106 : decode cX6_sentence 106 = .ok (.ifCond .ne 7, 3) := by decide +kernel
theorem dX6_sentence_109 : decode cX6_sentence 109 = .ok (.iload_n 3, 1) := by decide +kernel
theorem dX6_sentence_110 : decode cX6_sentence 110 = .ok (.goto 25, 3) := by decide +kernel
theorem dX6_sentence_113 : decode cX6_sentence 113 = .ok (.iload_n 2, 1) := by decide +kernel
theorem dX6_sentence_114 : decode cX6_sentence 114 = .ok (.iconst 1, 1) := by decide +kernel
theorem dX6_sentence_115 : decode cX6_sentence 115 = .ok (.if_icmp .ne 8, 3) := by decide +kernel
theorem dX6_sentence_118 : decode cX6_sentence 118 = .ok (.iload 4, 2) := by decide +kernel
theorem dX6_sentence_120 : decode cX6_sentence 120 = .ok (.goto 15, 3) := by decide +kernel
theorem dX6_sentence_123 : decode cX6_sentence 123 = .ok (.iload_n 2, 1) := by decide +kernel
theorem dX6_sentence_124 : decode cX6_sentence 124 = .ok (.iconst 2, 1) := by decide +kernel
theorem dX6_sentence_125 : decode cX6_sentence 125 = .ok (.if_icmp .ne 8, 3) := by decide +kernel
theorem dX6_sentence_128 : decode cX6_sentence 128 = .ok (.iload 5, 2) := by decide +kernel
theorem dX6_sentence_130 : decode cX6_sentence 130 = .ok (.goto 5, 3) := by decide +kernel
theorem dX6_sentence_133 : decode cX6_sentence 133 = .ok (.iload 6, 2) := by decide +kernel
theorem dX6_sentence_135 : decode cX6_sentence 135 = .ok (.ireturn, 1) := by decide +kernel
set_option maxRecDepth 20000 in
theorem ggX6_page_X6_isPage : GoodIn wsX6_page wsX6_isPage := goodIn_r _ [8, 9, 10, 11, 7, 12, 33, 34, 35, 36, 37, 38, 39, 40, 41, 42, 43, 44, 45, 46, 47, 48, 49, 50, 51] (by decide +kernel) (by decide +kernel)
set_option maxRecDepth 20000 in
theorem gX6_page_X6_isPage : GoodIn wsX6_page (wsV RX6 128 RX6 yX6_isPage wsX6_isPage) := goodIn_app (goodIn_of _ (by decide +kernel)) ggX6_page_X6_isPage
set_option maxRecDepth 20000 in
theorem ggX6_page_X6_in : GoodIn wsX6_page wsX6_in := goodIn_r _ [12] (by decide +kernel) (by decide +kernel)
set_option maxRecDepth 20000 in
theorem gX6_page_X6_in : GoodIn wsX6_page (va_wsS RX6 49 yX6_in wsX6_in) := goodIn_app (goodIn_of _ (by decide +kernel)) ggX6_page_X6_in
set_option maxRecDepth 20000 in
theorem ggX6_page_X6_timeOf : GoodIn wsX6_page wsX6_timeOf := goodIn_r _ [16, 17, 18, 19, 20, 7, 21, 22, 23, 24, 25, 26, 27, 28, 29, 30, 31, 32, 33, 34, 35, 36, 37, 38, 39, 40, 41, 42, 43, 44, 45, 46, 47, 48, 49, 50, 51] (by decide +kernel) (by decide +kernel)
set_option maxRecDepth 20000 in
theorem gX6_page_X6_timeOf : GoodIn wsX6_page (wsV RX6 90 RX6 yX6_timeOf wsX6_timeOf) := goodIn_app (goodIn_of _ (by decide +kernel)) ggX6_page_X6_timeOf
theorem dX6_page_0 : decode cX6_page 0 = .ok (.aload_n 0, 1) := by decide +kernel
theorem dX6_page_1 : decode cX6_page 1 = .ok (.iload_n 1, 1) := by decide +kernel
theorem dX6_page_2 : decode cX6_page 2 = .ok (.invokevirtual 128, 3) := by decide +kernel
theorem dX6_page_5 : decode cX6_page 5 = .ok (.ifCond .eq 12, 3) := by decide +kernel
theorem dX6_page_8 : decode cX6_page 8 = .ok (.iload_n 2, 1) := by decide +kernel
theorem dX6_page_9 : decode cX6_page 9 = .ok (.iconst 0, 1) := by decide +kernel
theorem dX6_page_10 : decode cX6_page 10 = .ok (.iconst 3, 1) := by decide +kernel
theorem dX6_page_11 : decode cX6_page 11 = .ok (.invokestatic 49, 3) := by decide +kernel
theorem dX6_page_14 : decode cX6_page 14 = .ok (.ifCond .ne 5, 3) := by decide +kernel
theorem dX6_page_17 : decode cX6_page 17 = .ok (.iconst (-1), 1) := by decide +kernel
theorem dX6_page_18 : decode cX6_page 18 = .ok (.ireturn, 1) := by decide +kernel
theorem dX6_page_19 : decode cX6_page 19 = .ok (.iconst (-1), 1) := by decide +kernel
theorem dX6_page_20 : decode cX6_page 20 = .ok (.istore_n 3, 1) := by decide +kernel
theorem dX6_page_21 : decode cX6_page 21 = .ok (.iconst 0, 1) := by decide +kernel
theorem dX6_page_22 : decode cX6_page 22 = .ok (.istore 4, 2) := by decide +kernel
theorem dX6_page_24 : decode cX6_page 24 = .ok (.iconst 0, 1) := by decide +kernel
theorem dX6_page_25 : decode cX6_page 25 = .ok (.istore 5, 2) := by decide +kernel
theorem dX6_page_27 : decode cX6_page 27 = .ok (.iconst 0, 1) := by decide +kernel
theorem dX6_page_28 : decode cX6_page 28 = .ok (.istore 6, 2) := by decide +kernel
theorem dX6_page_30 : decode cX6_page 30 = .ok (.iload 6, 2) := by decide +kernel
theorem dX6_page_32 : decode cX6_page 32 = .ok (.aload_n 0, 1) := by decide +kernel
theorem dX6_page_33 : decode cX6_page 33 = .ok (.getfield 45, 3) := by decide +kernel
theorem dX6_page_36 : decode cX6_page 36 = .ok (.if_icmp .ge 47, 3) := by decide +kernel
theorem dX6_page_39 : decode cX6_page 39 = .ok (.aload_n 0, 1) := by decide +kernel
theorem dX6_page_40 : decode cX6_page 40 = .ok (.getfield 42, 3) := by decide +kernel
theorem dX6_page_43 : decode cX6_page 43 = .ok (.iload 6, 2) := by decide +kernel
theorem dX6_page_45 : decode cX6_page 45 = .ok (.iaload, 1) := by decide +kernel
theorem dX6_page_46 : decode cX6_page 46 = .ok (.iload_n 1, 1) := by decide +kernel
theorem dX6_page_47 : decode cX6_page 47 = .ok (.if_icmp .ne 30, 3) := by decide +kernel
theorem dX6_page_50 : decode cX6_page 50 = .ok (.iload_n 3, 1) := by decide +kernel
theorem dX6_page_51 : decode cX6_page 51 = .ok (.iconst (-1), 1) := by decide +kernel
theorem dX6_page_52 : decode cX6_page 52 = .ok (.if_icmp .ne 8, 3) := by decide +kernel
theorem dX6_page_55 : decode cX6_page 55 = .ok (.iload 6, 2) := by decide +kernel
theorem dX6_page_57 : decode cX6_page 57 = .ok (.goto 4, 3) := by decide +kernel
theorem dX6_page_60 : decode cX6_page 60 = .ok (.iload_n 3, 1) := by decide +kernel
theorem dX6_page_61 : decode cX6_page 61 = .ok (.istore_n 3, 1) := by decide +kernel
theorem dX6_page_62 : decode cX6_page 62 = .ok (.iload 6, 2) := by decide +kernel
theorem dX6_page_64 : decode cX6_page 64 = .ok (.istore 4, 2) := by decide +kernel
theorem dX6_page_66 : decode cX6_page 66 = .ok (.iload 5, 2) := by decide +kernel
theorem dX6_page_68 : decode cX6_page 68 = .ok (.aload_n 0, 1) := by decide +kernel
theorem dX6_page_69 : decode cX6_page 69 = .ok (.iload 6, 2) := by decide +kernel
theorem dX6_page_71 : decode cX6_page 71 = .ok (.invokevirtual 90, 3) := by decide +kernel
theorem dX6_page_74 : decode cX6_page 74 = .ok (.iadd, 1) := by decide +kernel
theorem dX6_page_75 : decode cX6_page 75 = .ok (.istore 5, 2) := by decide +kernel
theorem dX6_page_77 : decode cX6_page 77 = .ok (.iinc 6 1, 3) := by decide +kernel
theorem dX6_page_80 : decode cX6_page 80 = .ok (.goto (-50), 3) := by decide +kernel
theorem dX6_page_83 : decode cX6_page 83 = .ok (.iload_n 2, 1) := by decide +kernel
theorem dX6_page_84 : decode cX6_page 84 = .ok (.ifCond .ne 7, 3) := by decide +kernel
