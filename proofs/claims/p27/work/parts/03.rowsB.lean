set_option maxRecDepth 20000 in
theorem ggX5_init_X4_init : GoodIn wsX5_init wsX4_init := goodIn_r _ [25, 26, 2, 3, 21, 27, 28, 29, 30, 31, 32, 33, 34, 35, 36, 37, 38, 39, 40, 41, 42, 43, 44, 78, 79, 80, 81, 82, 83, 84, 85, 86, 112, 113, 114, 115] (by decide +kernel) (by decide +kernel)
set_option maxRecDepth 20000 in
theorem gX5_init_X4_init : GoodIn wsX5_init (wsX4_init) := ggX5_init_X4_init
set_option maxRecDepth 20000 in
theorem ggX5_init_X3_init : GoodIn wsX5_init wsX3_init := goodIn_r _ [47, 48, 2, 3, 49, 21, 50, 51, 52, 53, 54, 55, 56, 57, 58, 59, 60, 61, 62, 63, 64, 65, 93, 94, 95, 96, 97, 98, 99, 100, 101, 102, 103, 104, 105, 106, 107] (by decide +kernel) (by decide +kernel)
set_option maxRecDepth 20000 in
theorem gX5_init_X3_init : GoodIn wsX5_init (wsX3_init) := ggX5_init_X3_init
set_option maxRecDepth 20000 in
theorem ggX5_init_X0_init : GoodIn wsX5_init wsX0_init := goodIn_r _ [68, 69, 2, 3, 70, 71, 9, 10, 72, 46, 47, 48, 49, 21, 50, 51, 52, 53, 54, 55, 56, 57, 58, 59, 60, 61, 62, 63, 64, 65, 108, 109, 93, 94, 95, 96, 97, 98, 99, 100, 101, 102, 103, 104, 105, 106, 107] (by decide +kernel) (by decide +kernel)
set_option maxRecDepth 20000 in
theorem gX5_init_X0_init : GoodIn wsX5_init (wsX0_init) := ggX5_init_X0_init
set_option maxRecDepth 20000 in
theorem ggX5_init_X1_init : GoodIn wsX5_init wsX1_init := goodIn_r _ [75, 76, 2, 3, 21, 77, 110, 111] (by decide +kernel) (by decide +kernel)
set_option maxRecDepth 20000 in
theorem gX5_init_X1_init : GoodIn wsX5_init (wsX1_init) := ggX5_init_X1_init
theorem dX5_init_0 : decode cX5_init 0 = .ok (.aload_n 0, 1) := by decide +kernel
theorem dX5_init_1 : decode cX5_init 1 = .ok (.invokespecial 1, 3) := by decide +kernel
theorem dX5_init_4 : decode cX5_init 4 = .ok (.aload_n 0, 1) := by decide +kernel
theorem dX5_init_5 : decode cX5_init 5 = .ok (.new 7, 3) := by decide +kernel
theorem dX5_init_8 : decode cX5_init 8 = .ok (.dup, 1) := by decide +kernel
theorem dX5_init_9 : decode cX5_init 9 = .ok (.invokespecial 9, 3) := by decide +kernel
theorem dX5_init_12 : decode cX5_init 12 = .ok (.putfield 10, 3) := by decide +kernel
theorem dX5_init_15 : decode cX5_init 15 = .ok (.aload_n 0, 1) := by decide +kernel
theorem dX5_init_16 : decode cX5_init 16 = .ok (.new 16, 3) := by decide +kernel
theorem dX5_init_19 : decode cX5_init 19 = .ok (.dup, 1) := by decide +kernel
theorem dX5_init_20 : decode cX5_init 20 = .ok (.aload_n 0, 1) := by decide +kernel
theorem dX5_init_21 : decode cX5_init 21 = .ok (.getfield 10, 3) := by decide +kernel
theorem dX5_init_24 : decode cX5_init 24 = .ok (.invokespecial 18, 3) := by decide +kernel
theorem dX5_init_27 : decode cX5_init 27 = .ok (.putfield 21, 3) := by decide +kernel
theorem dX5_init_30 : decode cX5_init 30 = .ok (.aload_n 0, 1) := by decide +kernel
theorem dX5_init_31 : decode cX5_init 31 = .ok (.new 16, 3) := by decide +kernel
theorem dX5_init_34 : decode cX5_init 34 = .ok (.dup, 1) := by decide +kernel
theorem dX5_init_35 : decode cX5_init 35 = .ok (.aload_n 0, 1) := by decide +kernel
theorem dX5_init_36 : decode cX5_init 36 = .ok (.getfield 10, 3) := by decide +kernel
theorem dX5_init_39 : decode cX5_init 39 = .ok (.invokespecial 18, 3) := by decide +kernel
theorem dX5_init_42 : decode cX5_init 42 = .ok (.putfield 25, 3) := by decide +kernel
theorem dX5_init_45 : decode cX5_init 45 = .ok (.aload_n 0, 1) := by decide +kernel
theorem dX5_init_46 : decode cX5_init 46 = .ok (.new 28, 3) := by decide +kernel
theorem dX5_init_49 : decode cX5_init 49 = .ok (.dup, 1) := by decide +kernel
theorem dX5_init_50 : decode cX5_init 50 = .ok (.aload_n 0, 1) := by decide +kernel
theorem dX5_init_51 : decode cX5_init 51 = .ok (.getfield 10, 3) := by decide +kernel
theorem dX5_init_54 : decode cX5_init 54 = .ok (.invokespecial 30, 3) := by decide +kernel
theorem dX5_init_57 : decode cX5_init 57 = .ok (.putfield 31, 3) := by decide +kernel
theorem dX5_init_60 : decode cX5_init 60 = .ok (.aload_n 0, 1) := by decide +kernel
theorem dX5_init_61 : decode cX5_init 61 = .ok (.new 35, 3) := by decide +kernel
theorem dX5_init_64 : decode cX5_init 64 = .ok (.dup, 1) := by decide +kernel
theorem dX5_init_65 : decode cX5_init 65 = .ok (.invokespecial 37, 3) := by decide +kernel
theorem dX5_init_68 : decode cX5_init 68 = .ok (.putfield 38, 3) := by decide +kernel
theorem dX5_init_71 : decode cX5_init 71 = .ok (.aload_n 0, 1) := by decide +kernel
theorem dX5_init_72 : decode cX5_init 72 = .ok (.sipush 150, 3) := by decide +kernel
theorem dX5_init_75 : decode cX5_init 75 = .ok (.newarray .int, 2) := by decide +kernel
theorem dX5_init_77 : decode cX5_init 77 = .ok (.putfield 42, 3) := by decide +kernel
theorem dX5_init_80 : decode cX5_init 80 = .ok (.return_, 1) := by decide +kernel
set_option maxRecDepth 20000 in
theorem ggX5_append_X5_isCharacter : GoodIn wsX5_append wsX5_isCharacter := goodIn_r _ [10] (by decide +kernel) (by decide +kernel)
set_option maxRecDepth 20000 in
theorem gX5_append_X5_isCharacter : GoodIn wsX5_append (va_wsS RX5 46 yX5_isCharacter wsX5_isCharacter) := goodIn_app (goodIn_of _ (by decide +kernel)) ggX5_append_X5_isCharacter
set_option maxRecDepth 20000 in
theorem ggX5_append_X0_keep : GoodIn wsX5_append wsX0_keep := goodIn_r _ [15, 16, 17, 18, 19, 14, 20, 21, 22, 23, 24, 25, 26, 27, 28, 29, 30, 31, 32, 33, 34, 35, 36, 37, 38, 39, 40, 41, 42, 43, 44, 45, 9, 46, 47, 48, 49, 50, 51, 52, 53, 54, 188, 189, 164, 165, 166, 167, 168, 169, 170, 171, 172, 173, 174, 175, 176, 177, 178] (by decide +kernel) (by decide +kernel)
set_option maxRecDepth 20000 in
theorem gX5_append_X0_keep : GoodIn wsX5_append (wsV RX5 54 RX0 yX0_keep wsX0_keep) := goodIn_app (goodIn_of _ (by decide +kernel)) ggX5_append_X0_keep
set_option maxRecDepth 20000 in
theorem ggX5_append_X5_put : GoodIn wsX5_append wsX5_put := goodIn_r _ [57] (by decide +kernel) (by decide +kernel)
set_option maxRecDepth 20000 in
theorem gX5_append_X5_put : GoodIn wsX5_append (va_wsS RX5 61 yX5_put wsX5_put) := goodIn_app (goodIn_of _ (by decide +kernel)) ggX5_append_X5_put
set_option maxRecDepth 20000 in
theorem ggX5_append_X3_startAnew : GoodIn wsX5_append wsX3_startAnew := goodIn_r _ [61, 32, 62, 31, 39, 41, 40, 35, 63, 64, 65, 66, 67, 68, 69, 9, 70, 71, 72, 73, 74, 75, 76, 77, 78, 79, 80, 81, 82, 83, 84, 85, 86, 87, 56, 57, 88, 89, 90, 91, 92, 93, 94, 95, 96, 97, 98, 99, 100, 101, 102, 103, 104, 105, 106, 107, 108, 109, 110, 111, 112, 113, 114, 115, 116, 117, 118, 119, 120, 121, 122, 123, 124, 125, 126, 127, 128, 129, 130, 29, 131, 36, 37, 132, 133, 134, 135, 34, 136, 137, 138, 139, 140, 141, 142, 143, 33, 144, 145, 146, 147, 148, 149, 150, 49, 151, 152, 153, 154, 155, 156, 157, 164, 165, 166, 167, 168, 169, 170, 171, 172, 173, 174, 175, 176, 177, 178, 179, 180, 181, 182, 183, 184, 185, 186, 187, 190, 191, 192, 193] (by decide +kernel) (by decide +kernel)
set_option maxRecDepth 20000 in
theorem gX5_append_X3_startAnew : GoodIn wsX5_append (wsV RX5 65 RX3 yX3_startAnew wsX3_startAnew) := goodIn_app (goodIn_of _ (by decide +kernel)) ggX5_append_X3_startAnew
theorem dX5_append_0 : decode cX5_append 0 = .ok (.iload_n 1, 1) := by decide +kernel
theorem dX5_append_1 : decode cX5_append 1 = .ok (.invokestatic 46, 3) := by decide +kernel
theorem dX5_append_4 : decode cX5_append 4 = .ok (.ifCond .ne 5, 3) := by decide +kernel
theorem dX5_append_7 : decode cX5_append 7 = .ok (.iconst (-1), 1) := by decide +kernel
theorem dX5_append_8 : decode cX5_append 8 = .ok (.ireturn, 1) := by decide +kernel
theorem dX5_append_9 : decode cX5_append 9 = .ok (.aload_n 0, 1) := by decide +kernel
theorem dX5_append_10 : decode cX5_append 10 = .ok (.getfield 21, 3) := by decide +kernel
theorem dX5_append_13 : decode cX5_append 13 = .ok (.getfield 50, 3) := by decide +kernel
theorem dX5_append_16 : decode cX5_append 16 = .ok (.sipush 300, 3) := by decide +kernel
theorem dX5_append_19 : decode cX5_append 19 = .ok (.if_icmp .lt 6, 3) := by decide +kernel
theorem dX5_append_22 : decode cX5_append 22 = .ok (.bipush (-3), 2) := by decide +kernel
theorem dX5_append_24 : decode cX5_append 24 = .ok (.ireturn, 1) := by decide +kernel
theorem dX5_append_25 : decode cX5_append 25 = .ok (.aload_n 0, 1) := by decide +kernel
theorem dX5_append_26 : decode cX5_append 26 = .ok (.getfield 31, 3) := by decide +kernel
theorem dX5_append_29 : decode cX5_append 29 = .ok (.aload_n 0, 1) := by decide +kernel
theorem dX5_append_30 : decode cX5_append 30 = .ok (.getfield 21, 3) := by decide +kernel
theorem dX5_append_33 : decode cX5_append 33 = .ok (.invokevirtual 54, 3) := by decide +kernel
theorem dX5_append_36 : decode cX5_append 36 = .ok (.aload_n 0, 1) := by decide +kernel
theorem dX5_append_37 : decode cX5_append 37 = .ok (.getfield 21, 3) := by decide +kernel
theorem dX5_append_40 : decode cX5_append 40 = .ok (.getfield 58, 3) := by decide +kernel
theorem dX5_append_43 : decode cX5_append 43 = .ok (.aload_n 0, 1) := by decide +kernel
theorem dX5_append_44 : decode cX5_append 44 = .ok (.getfield 21, 3) := by decide +kernel
theorem dX5_append_47 : decode cX5_append 47 = .ok (.getfield 50, 3) := by decide +kernel
theorem dX5_append_50 : decode cX5_append 50 = .ok (.iload_n 1, 1) := by decide +kernel
theorem dX5_append_51 : decode cX5_append 51 = .ok (.invokestatic 61, 3) := by decide +kernel
theorem dX5_append_54 : decode cX5_append 54 = .ok (.aload_n 0, 1) := by decide +kernel
theorem dX5_append_55 : decode cX5_append 55 = .ok (.getfield 21, 3) := by decide +kernel
theorem dX5_append_58 : decode cX5_append 58 = .ok (.aload_n 0, 1) := by decide +kernel
theorem dX5_append_59 : decode cX5_append 59 = .ok (.getfield 21, 3) := by decide +kernel
theorem dX5_append_62 : decode cX5_append 62 = .ok (.getfield 50, 3) := by decide +kernel
theorem dX5_append_65 : decode cX5_append 65 = .ok (.iconst 1, 1) := by decide +kernel
theorem dX5_append_66 : decode cX5_append 66 = .ok (.iadd, 1) := by decide +kernel
theorem dX5_append_67 : decode cX5_append 67 = .ok (.invokevirtual 65, 3) := by decide +kernel
theorem dX5_append_70 : decode cX5_append 70 = .ok (.aload_n 0, 1) := by decide +kernel
theorem dX5_append_71 : decode cX5_append 71 = .ok (.getfield 10, 3) := by decide +kernel
theorem dX5_append_74 : decode cX5_append 74 = .ok (.getfield 69, 3) := by decide +kernel
theorem dX5_append_77 : decode cX5_append 77 = .ok (.ireturn, 1) := by decide +kernel
set_option maxRecDepth 20000 in
theorem ggX5_cut_X0_keep : GoodIn wsX5_cut wsX0_keep := goodIn_r _ [8, 9, 10, 11, 12, 7, 13, 14, 15, 16, 17, 18, 19, 20, 21, 22, 23, 24, 25, 26, 27, 28, 29, 30, 31, 32, 33, 34, 35, 36, 37, 38, 39, 40, 41, 42, 43, 44, 45, 46, 47, 48, 172, 173, 157, 158, 159, 160, 161, 162, 163, 164, 165, 166, 167, 168, 169, 170, 171] (by decide +kernel) (by decide +kernel)
set_option maxRecDepth 20000 in
theorem gX5_cut_X0_keep : GoodIn wsX5_cut (wsV RX5 54 RX0 yX0_keep wsX0_keep) := goodIn_app (goodIn_of _ (by decide +kernel)) ggX5_cut_X0_keep
set_option maxRecDepth 20000 in
theorem ggX5_cut_X3_startAnew : GoodIn wsX5_cut wsX3_startAnew := goodIn_r _ [52, 25, 53, 24, 32, 34, 33, 28, 54, 55, 56, 57, 58, 59, 60, 39, 61, 62, 63, 64, 65, 66, 67, 68, 69, 70, 71, 72, 73, 74, 75, 76, 77, 78, 79, 80, 81, 82, 83, 84, 85, 86, 87, 88, 89, 90, 91, 92, 93, 94, 95, 96, 97, 98, 99, 100, 101, 102, 103, 104, 105, 106, 107, 108, 109, 110, 111, 112, 113, 114, 115, 116, 117, 118, 119, 120, 121, 122, 123, 22, 124, 29, 30, 125, 126, 127, 128, 27, 129, 130, 131, 132, 133, 134, 135, 136, 26, 137, 138, 139, 140, 141, 142, 143, 43, 144, 145, 146, 147, 148, 149, 150, 157, 158, 159, 160, 161, 162, 163, 164, 165, 166, 167, 168, 169, 170, 171, 174, 175, 176, 177, 178, 179, 180, 181, 182, 183, 184, 185, 186] (by decide +kernel) (by decide +kernel)
set_option maxRecDepth 20000 in
theorem gX5_cut_X3_startAnew : GoodIn wsX5_cut (wsV RX5 65 RX3 yX3_startAnew wsX3_startAnew) := goodIn_app (goodIn_of _ (by decide +kernel)) ggX5_cut_X3_startAnew
theorem dX5_cut_0 : decode cX5_cut 0 = .ok (.iload_n 1, 1) := by decide +kernel
theorem dX5_cut_1 : decode cX5_cut 1 = .ok (.iconst 1, 1) := by decide +kernel
theorem dX5_cut_2 : decode cX5_cut 2 = .ok (.if_icmp .lt 10, 3) := by decide +kernel
theorem dX5_cut_5 : decode cX5_cut 5 = .ok (.iload_n 1, 1) := by decide +kernel
theorem dX5_cut_6 : decode cX5_cut 6 = .ok (.sipush 300, 3) := by decide +kernel
theorem dX5_cut_9 : decode cX5_cut 9 = .ok (.if_icmp .le 5, 3) := by decide +kernel
theorem dX5_cut_12 : decode cX5_cut 12 = .ok (.iconst (-1), 1) := by decide +kernel
theorem dX5_cut_13 : decode cX5_cut 13 = .ok (.ireturn, 1) := by decide +kernel
theorem dX5_cut_14 : decode cX5_cut 14 = .ok (.iload_n 1, 1) := by decide +kernel
theorem dX5_cut_15 : decode cX5_cut 15 = .ok (.aload_n 0, 1) := by decide +kernel
theorem dX5_cut_16 : decode cX5_cut 16 = .ok (.getfield 21, 3) := by decide +kernel
theorem dX5_cut_19 : decode cX5_cut 19 = .ok (.getfield 50, 3) := by decide +kernel
theorem dX5_cut_22 : decode cX5_cut 22 = .ok (.if_icmp .le 6, 3) := by decide +kernel
theorem dX5_cut_25 : decode cX5_cut 25 = .ok (.bipush (-2), 2) := by decide +kernel
theorem dX5_cut_27 : decode cX5_cut 27 = .ok (.ireturn, 1) := by decide +kernel
theorem dX5_cut_28 : decode cX5_cut 28 = .ok (.aload_n 0, 1) := by decide +kernel
theorem dX5_cut_29 : decode cX5_cut 29 = .ok (.getfield 31, 3) := by decide +kernel
theorem dX5_cut_32 : decode cX5_cut 32 = .ok (.aload_n 0, 1) := by decide +kernel
theorem dX5_cut_33 : decode cX5_cut 33 = .ok (.getfield 21, 3) := by decide +kernel
theorem dX5_cut_36 : decode cX5_cut 36 = .ok (.invokevirtual 54, 3) := by decide +kernel
theorem dX5_cut_39 : decode cX5_cut 39 = .ok (.aload_n 0, 1) := by decide +kernel
theorem dX5_cut_40 : decode cX5_cut 40 = .ok (.getfield 21, 3) := by decide +kernel
theorem dX5_cut_43 : decode cX5_cut 43 = .ok (.aload_n 0, 1) := by decide +kernel
theorem dX5_cut_44 : decode cX5_cut 44 = .ok (.getfield 21, 3) := by decide +kernel
theorem dX5_cut_47 : decode cX5_cut 47 = .ok (.getfield 50, 3) := by decide +kernel
theorem dX5_cut_50 : decode cX5_cut 50 = .ok (.iload_n 1, 1) := by decide +kernel
theorem dX5_cut_51 : decode cX5_cut 51 = .ok (.isub, 1) := by decide +kernel
theorem dX5_cut_52 : decode cX5_cut 52 = .ok (.invokevirtual 65, 3) := by decide +kernel
theorem dX5_cut_55 : decode cX5_cut 55 = .ok (.aload_n 0, 1) := by decide +kernel
theorem dX5_cut_56 : decode cX5_cut 56 = .ok (.getfield 21, 3) := by decide +kernel
theorem dX5_cut_59 : decode cX5_cut 59 = .ok (.getfield 50, 3) := by decide +kernel
theorem dX5_cut_62 : decode cX5_cut 62 = .ok (.ireturn, 1) := by decide +kernel
set_option maxRecDepth 20000 in
theorem ggX5_word_X4_has : GoodIn wsX5_word wsX4_has := goodIn_r _ [16, 17, 71, 72, 73, 74, 75, 76, 77, 78, 79] (by decide +kernel) (by decide +kernel)
set_option maxRecDepth 20000 in
theorem gX5_word_X4_has : GoodIn wsX5_word (wsV RX5 72 RX4 yX4_has wsX4_has) := goodIn_app (goodIn_of _ (by decide +kernel)) ggX5_word_X4_has
set_option maxRecDepth 20000 in
theorem ggX5_word_X5_at : GoodIn wsX5_word wsX5_at := goodIn_r _ [21] (by decide +kernel) (by decide +kernel)
set_option maxRecDepth 20000 in
theorem gX5_word_X5_at : GoodIn wsX5_word (va_wsS RX5 78 yX5_at wsX5_at) := goodIn_app (goodIn_of _ (by decide +kernel)) ggX5_word_X5_at
set_option maxRecDepth 20000 in
theorem ggX5_word_X4_classOf : GoodIn wsX5_word wsX4_classOf := goodIn_r _ [25, 26, 19, 20, 21, 71, 72, 73, 74, 75, 76, 77, 78, 79] (by decide +kernel) (by decide +kernel)
set_option maxRecDepth 20000 in
theorem gX5_word_X4_classOf : GoodIn wsX5_word (wsV RX5 88 RX4 yX4_classOf wsX4_classOf) := goodIn_app (goodIn_of _ (by decide +kernel)) ggX5_word_X4_classOf
set_option maxRecDepth 20000 in
theorem ggX5_word_X3_measureOf : GoodIn wsX5_word wsX3_measureOf := goodIn_r _ [31, 32, 33, 34, 35, 36, 37, 38, 19, 20, 21, 84, 85, 86, 87, 88, 89, 90, 91, 92, 93, 94, 95, 96, 97, 98, 71, 72, 73, 74, 75, 76, 77, 78, 79] (by decide +kernel) (by decide +kernel)
set_option maxRecDepth 20000 in
theorem gX5_word_X3_measureOf : GoodIn wsX5_word (wsV RX5 107 RX3 yX3_measureOf wsX3_measureOf) := goodIn_app (goodIn_of _ (by decide +kernel)) ggX5_word_X3_measureOf
set_option maxRecDepth 20000 in
theorem ggX5_word_X3_timeOf : GoodIn wsX5_word wsX3_timeOf := goodIn_r _ [42, 43, 44, 45, 30, 46, 47, 32, 48, 23, 24, 15, 25, 26, 19, 20, 21, 49, 50, 51, 52, 34, 53, 54, 55, 56, 57, 58, 28, 29, 31, 33, 35, 36, 37, 38, 59, 60, 61, 62, 63, 64, 84, 85, 86, 87, 88, 89, 90, 91, 92, 93, 94, 95, 96, 97, 98, 71, 72, 73, 74, 75, 76, 77, 78, 79] (by decide +kernel) (by decide +kernel)
set_option maxRecDepth 20000 in
theorem gX5_word_X3_timeOf : GoodIn wsX5_word (wsV RX5 110 RX3 yX3_timeOf wsX3_timeOf) := goodIn_app (goodIn_of _ (by decide +kernel)) ggX5_word_X3_timeOf
theorem dX5_word_0 : decode cX5_word 0 = .ok (.aload_n 0, 1) := by decide +kernel
theorem dX5_word_1 : decode cX5_word 1 = .ok (.getfield 10, 3) := by decide +kernel
theorem dX5_word_4 : decode cX5_word 4 = .ok (.iload_n 1, 1) := by decide +kernel
theorem dX5_word_5 : decode cX5_word 5 = .ok (.invokevirtual 72, 3) := by decide +kernel
theorem dX5_word_8 : decode cX5_word 8 = .ok (.ifCond .eq 13, 3) := by decide +kernel
theorem dX5_word_11 : decode cX5_word 11 = .ok (.iload_n 2, 1) := by decide +kernel
theorem dX5_word_12 : decode cX5_word 12 = .ok (.ifCond .lt 9, 3) := by decide +kernel
theorem dX5_word_15 : decode cX5_word 15 = .ok (.iload_n 2, 1) := by decide +kernel
theorem dX5_word_16 : decode cX5_word 16 = .ok (.bipush 11, 2) := by decide +kernel
theorem dX5_word_18 : decode cX5_word 18 = .ok (.if_icmp .lt 5, 3) := by decide +kernel
theorem dX5_word_21 : decode cX5_word 21 = .ok (.iconst (-1), 1) := by decide +kernel
theorem dX5_word_22 : decode cX5_word 22 = .ok (.ireturn, 1) := by decide +kernel
theorem dX5_word_23 : decode cX5_word 23 = .ok (.iload_n 2, 1) := by decide +kernel
theorem dX5_word_24 : decode cX5_word 24 = .ok (.tableswitch 173 0 9 #[56, 68, 80, 92, 101, 113, 128, 143, 152, 161], 56) := by decide +kernel
theorem dX5_word_80 : decode cX5_word 80 = .ok (.aload_n 0, 1) := by decide +kernel
theorem dX5_word_81 : decode cX5_word 81 = .ok (.getfield 10, 3) := by decide +kernel
theorem dX5_word_84 : decode cX5_word 84 = .ok (.getfield 75, 3) := by decide +kernel
theorem dX5_word_87 : decode cX5_word 87 = .ok (.iload_n 1, 1) := by decide +kernel
theorem dX5_word_88 : decode cX5_word 88 = .ok (.invokestatic 78, 3) := by decide +kernel
theorem dX5_word_91 : decode cX5_word 91 = .ok (.ireturn, 1) := by decide +kernel
theorem dX5_word_92 : decode cX5_word 92 = .ok (.aload_n 0, 1) := by decide +kernel
theorem dX5_word_93 : decode cX5_word 93 = .ok (.getfield 10, 3) := by decide +kernel
theorem dX5_word_96 : decode cX5_word 96 = .ok (.getfield 82, 3) := by decide +kernel
theorem dX5_word_99 : decode cX5_word 99 = .ok (.iload_n 1, 1) := by decide +kernel
theorem dX5_word_100 : decode cX5_word 100 = .ok (.invokestatic 78, 3) := by decide +kernel
theorem dX5_word_103 : decode cX5_word 103 = .ok (.ireturn, 1) := by decide +kernel
theorem dX5_word_104 : decode cX5_word 104 = .ok (.aload_n 0, 1) := by decide +kernel
theorem dX5_word_105 : decode cX5_word 105 = .ok (.getfield 10, 3) := by decide +kernel
theorem dX5_word_108 : decode cX5_word 108 = .ok (.getfield 85, 3) := by decide +kernel
theorem dX5_word_111 : decode cX5_word 111 = .ok (.iload_n 1, 1) := by decide +kernel
theorem dX5_word_112 : decode cX5_word 112 = .ok (.invokestatic 78, 3) := by decide +kernel
theorem dX5_word_115 : decode cX5_word 115 = .ok (.ireturn, 1) := by decide +kernel
theorem dX5_word_116 : decode cX5_word 116 = .ok (.aload_n 0, 1) := by decide +kernel
theorem dX5_word_117 : decode cX5_word 117 = .ok (.getfield 10, 3) := by decide +kernel
theorem dX5_word_120 : decode cX5_word 120 = .ok (.iload_n 1, 1) := by decide +kernel
theorem dX5_word_121 : decode cX5_word 121 = .ok (.invokevirtual 88, 3) := by decide +kernel
theorem dX5_word_124 : decode cX5_word 124 = .ok (.ireturn, 1) := by decide +kernel
theorem dX5_word_125 : decode cX5_word 125 = .ok (.aload_n 0, 1) := by decide +kernel
theorem dX5_word_126 : decode cX5_word 126 = .ok (.getfield 10, 3) := by decide +kernel
theorem dX5_word_129 : decode cX5_word 129 = .ok (.getfield 92, 3) := by decide +kernel
theorem dX5_word_132 : decode cX5_word 132 = .ok (.iload_n 1, 1) := by decide +kernel
theorem dX5_word_133 : decode cX5_word 133 = .ok (.invokestatic 78, 3) := by decide +kernel
theorem dX5_word_136 : decode cX5_word 136 = .ok (.ireturn, 1) := by decide +kernel
theorem dX5_word_137 : decode cX5_word 137 = .ok (.aload_n 0, 1) := by decide +kernel
theorem dX5_word_138 : decode cX5_word 138 = .ok (.getfield 10, 3) := by decide +kernel
theorem dX5_word_141 : decode cX5_word 141 = .ok (.getfield 95, 3) := by decide +kernel
theorem dX5_word_144 : decode cX5_word 144 = .ok (.getfield 99, 3) := by decide +kernel
theorem dX5_word_147 : decode cX5_word 147 = .ok (.iload_n 1, 1) := by decide +kernel
theorem dX5_word_148 : decode cX5_word 148 = .ok (.invokestatic 78, 3) := by decide +kernel
theorem dX5_word_151 : decode cX5_word 151 = .ok (.ireturn, 1) := by decide +kernel
theorem dX5_word_152 : decode cX5_word 152 = .ok (.aload_n 0, 1) := by decide +kernel
theorem dX5_word_153 : decode cX5_word 153 = .ok (.getfield 10, 3) := by decide +kernel
theorem dX5_word_156 : decode cX5_word 156 = .ok (.getfield 104, 3) := by decide +kernel
theorem dX5_word_159 : decode cX5_word 159 = .ok (.getfield 99, 3) := by decide +kernel
theorem dX5_word_162 : decode cX5_word 162 = .ok (.iload_n 1, 1) := by decide +kernel
theorem dX5_word_163 : decode cX5_word 163 = .ok (.invokestatic 78, 3) := by decide +kernel
theorem dX5_word_166 : decode cX5_word 166 = .ok (.ireturn, 1) := by decide +kernel
theorem dX5_word_167 : decode cX5_word 167 = .ok (.aload_n 0, 1) := by decide +kernel
theorem dX5_word_168 : decode cX5_word 168 = .ok (.getfield 21, 3) := by decide +kernel
theorem dX5_word_171 : decode cX5_word 171 = .ok (.iload_n 1, 1) := by decide +kernel
theorem dX5_word_172 : decode cX5_word 172 = .ok (.invokevirtual 107, 3) := by decide +kernel
theorem dX5_word_175 : decode cX5_word 175 = .ok (.ireturn, 1) := by decide +kernel
theorem dX5_word_176 : decode cX5_word 176 = .ok (.aload_n 0, 1) := by decide +kernel
theorem dX5_word_177 : decode cX5_word 177 = .ok (.getfield 21, 3) := by decide +kernel
theorem dX5_word_180 : decode cX5_word 180 = .ok (.iload_n 1, 1) := by decide +kernel
theorem dX5_word_181 : decode cX5_word 181 = .ok (.invokevirtual 110, 3) := by decide +kernel
theorem dX5_word_184 : decode cX5_word 184 = .ok (.ireturn, 1) := by decide +kernel
theorem dX5_word_185 : decode cX5_word 185 = .ok (.aload_n 0, 1) := by decide +kernel
theorem dX5_word_186 : decode cX5_word 186 = .ok (.getfield 21, 3) := by decide +kernel
theorem dX5_word_189 : decode cX5_word 189 = .ok (.getfield 113, 3) := by decide +kernel
theorem dX5_word_192 : decode cX5_word 192 = .ok (.iload_n 1, 1) := by decide +kernel
theorem dX5_word_193 : decode cX5_word 193 = .ok (.invokestatic 78, 3) := by decide +kernel
theorem dX5_word_196 : decode cX5_word 196 = .ok (.ireturn, 1) := by decide +kernel
theorem dX5_word_197 : decode cX5_word 197 = .ok (.aload_n 0, 1) := by decide +kernel
theorem dX5_word_198 : decode cX5_word 198 = .ok (.getfield 10, 3) := by decide +kernel
theorem dX5_word_201 : decode cX5_word 201 = .ok (.getfield 116, 3) := by decide +kernel
theorem dX5_word_204 : decode cX5_word 204 = .ok (.iload_n 1, 1) := by decide +kernel
theorem dX5_word_205 : decode cX5_word 205 = .ok (.invokestatic 78, 3) := by decide +kernel
theorem dX5_word_208 : decode cX5_word 208 = .ok (.ireturn, 1) := by decide +kernel
set_option maxRecDepth 20000 in
theorem ggX5_sentence_X2_has : GoodIn wsX5_sentence wsX2_has := goodIn_r _ [9, 10, 86, 87, 88, 89] (by decide +kernel) (by decide +kernel)
set_option maxRecDepth 20000 in
theorem gX5_sentence_X2_has : GoodIn wsX5_sentence (wsV RX5 119 RX2 yX2_has wsX2_has) := goodIn_app (goodIn_of _ (by decide +kernel)) ggX5_sentence_X2_has
set_option maxRecDepth 20000 in
theorem ggX5_sentence_X5_at : GoodIn wsX5_sentence wsX5_at := goodIn_r _ [14] (by decide +kernel) (by decide +kernel)
set_option maxRecDepth 20000 in
theorem gX5_sentence_X5_at : GoodIn wsX5_sentence (va_wsS RX5 78 yX5_at wsX5_at) := goodIn_app (goodIn_of _ (by decide +kernel)) ggX5_sentence_X5_at
set_option maxRecDepth 20000 in
theorem ggX5_sentence_X4_shownAmong : GoodIn wsX5_sentence wsX4_shownAmong := goodIn_r _ [19, 20, 21, 22, 18, 23, 24, 12, 13, 14, 77, 78, 79, 80, 81, 82, 83, 84, 85] (by decide +kernel) (by decide +kernel)
set_option maxRecDepth 20000 in
theorem gX5_sentence_X4_shownAmong : GoodIn wsX5_sentence (wsV RX5 126 RX4 yX4_shownAmong wsX4_shownAmong) := goodIn_app (goodIn_of _ (by decide +kernel)) ggX5_sentence_X4_shownAmong
set_option maxRecDepth 20000 in
theorem ggX5_sentence_X5_spanProperty : GoodIn wsX5_sentence wsX5_spanProperty := goodIn_r _ [28, 29, 30, 31, 32, 33, 34, 35, 36, 37, 38, 39, 40, 41, 42, 43, 44, 45, 46, 47, 18, 48, 49, 12, 13, 14, 50, 51, 52, 53, 54, 55, 21, 22, 23, 24, 56, 57, 58, 59, 60, 61, 62, 63, 64, 65, 66, 67, 68, 69, 70, 71, 72, 73, 74, 75, 76, 90, 91, 92, 93, 94, 95, 96, 97, 98, 99, 100, 101, 102, 103, 104, 77, 78, 79, 80, 81, 82, 83, 84, 85] (by decide +kernel) (by decide +kernel)
set_option maxRecDepth 20000 in
theorem gX5_sentence_X5_spanProperty : GoodIn wsX5_sentence (wsV RX5 130 RX5 yX5_spanProperty wsX5_spanProperty) := goodIn_app (goodIn_of _ (by decide +kernel)) ggX5_sentence_X5_spanProperty
theorem dX5_sentence_0 : decode cX5_sentence 0 = .ok (.aload_n 0, 1) := by decide +kernel
theorem dX5_sentence_1 : decode cX5_sentence 1 = .ok (.getfield 10, 3) := by decide +kernel
theorem dX5_sentence_4 : decode cX5_sentence 4 = .ok (.getfield 95, 3) := by decide +kernel
theorem dX5_sentence_7 : decode cX5_sentence 7 = .ok (.iload_n 1, 1) := by decide +kernel
theorem dX5_sentence_8 : decode cX5_sentence 8 = .ok (.invokevirtual 119, 3) := by decide +kernel
theorem dX5_sentence_11 : decode cX5_sentence 11 = .ok (.ifCond .eq 12, 3) := by decide +kernel
theorem dX5_sentence_14 : decode cX5_sentence 14 = .ok (.iload_n 2, 1) := by decide +kernel
theorem dX5_sentence_15 : decode cX5_sentence 15 = .ok (.ifCond .lt 8, 3) := by decide +kernel
theorem dX5_sentence_18 : decode cX5_sentence 18 = .ok (.iload_n 2, 1) := by decide +kernel
theorem dX5_sentence_19 : decode cX5_sentence 19 = .ok (.iconst 4, 1) := by decide +kernel
theorem dX5_sentence_20 : decode cX5_sentence 20 = .ok (.if_icmp .lt 5, 3) := by decide +kernel
theorem dX5_sentence_23 : decode cX5_sentence 23 = .ok (.iconst (-1), 1) := by decide +kernel
theorem dX5_sentence_24 : decode cX5_sentence 24 = .ok (.ireturn, 1) := by decide +kernel
theorem dX5_sentence_25 : decode cX5_sentence 25 = .ok (.aload_n 0, 1) := by decide +kernel
theorem dX5_sentence_26 : decode cX5_sentence 26 = .ok (.getfield 10, 3) := by decide +kernel
theorem dX5_sentence_29 : decode cX5_sentence 29 = .ok (.getfield 95, 3) := by decide +kernel
theorem dX5_sentence_32 : decode cX5_sentence 32 = .ok (.getfield 120, 3) := by decide +kernel
theorem dX5_sentence_35 : decode cX5_sentence 35 = .ok (.iload_n 1, 1) := by decide +kernel
theorem dX5_sentence_36 : decode cX5_sentence 36 = .ok (.invokestatic 78, 3) := by decide +kernel
theorem dX5_sentence_39 : decode cX5_sentence 39 = .ok (.istore_n 3, 1) := by decide +kernel
theorem dX5_sentence_40 : decode cX5_sentence 40 = .ok (.aload_n 0, 1) := by decide +kernel
theorem dX5_sentence_41 : decode cX5_sentence 41 = .ok (.getfield 10, 3) := by decide +kernel
theorem dX5_sentence_44 : decode cX5_sentence 44 = .ok (.getfield 95, 3) := by decide +kernel
theorem dX5_sentence_47 : decode cX5_sentence 47 = .ok (.getfield 123, 3) := by decide +kernel
theorem dX5_sentence_50 : decode cX5_sentence 50 = .ok (.iload_n 1, 1) := by decide +kernel
theorem dX5_sentence_51 : decode cX5_sentence 51 = .ok (.invokestatic 78, 3) := by decide +kernel
theorem dX5_sentence_54 : decode cX5_sentence 54 = .ok (.istore 4, 2) := by decide +kernel
theorem dX5_sentence_56 : decode cX5_sentence 56 = .ok (.iload_n 2, 1) := by decide +kernel
theorem dX5_sentence_57 : decode cX5_sentence 57 = .ok (.iconst 3, 1) := by decide +kernel
theorem dX5_sentence_58 : decode cX5_sentence 58 = .ok (.if_icmp .ne 16, 3) := by decide +kernel
theorem dX5_sentence_61 : decode cX5_sentence 61 = .ok (.aload_n 0, 1) := by decide +kernel
theorem dX5_sentence_62 : decode cX5_sentence 62 = .ok (.getfield 10, 3) := by decide +kernel
theorem dX5_sentence_65 : decode cX5_sentence 65 = .ok (.iload_n 3, 1) := by decide +kernel
theorem dX5_sentence_66 : decode cX5_sentence 66 = .ok (.iload 4, 2) := by decide +kernel
theorem dX5_sentence_68 : decode cX5_sentence 68 = .ok (.invokevirtual 126, 3) := by decide +kernel
theorem dX5_sentence_71 : decode cX5_sentence 71 = .ok (.goto 11, 3) := by decide +kernel
theorem dX5_sentence_74 : decode cX5_sentence 74 = .ok (.aload_n 0, 1) := by decide +kernel
theorem dX5_sentence_75 : decode cX5_sentence 75 = .ok (.iload_n 3, 1) := by decide +kernel
theorem dX5_sentence_76 : decode cX5_sentence 76 = .ok (.iload 4, 2) := by decide +kernel
theorem dX5_sentence_78 : decode cX5_sentence 78 = .ok (.iload_n 2, 1) := by decide +kernel
theorem dX5_sentence_79 : decode cX5_sentence 79 = .ok (.invokevirtual 130, 3) := by decide +kernel
theorem dX5_sentence_82 : decode cX5_sentence 82 = .ok (.ireturn, 1) := by decide +kernel
set_option maxRecDepth 20000 in
theorem ggX5_page_X2_has : GoodIn wsX5_page wsX2_has := goodIn_r _ [9, 10, 87, 88, 89, 90] (by decide +kernel) (by decide +kernel)
set_option maxRecDepth 20000 in
theorem gX5_page_X2_has : GoodIn wsX5_page (wsV RX5 119 RX2 yX2_has wsX2_has) := goodIn_app (goodIn_of _ (by decide +kernel)) ggX5_page_X2_has
set_option maxRecDepth 20000 in
theorem ggX5_page_X5_at : GoodIn wsX5_page wsX5_at := goodIn_r _ [14] (by decide +kernel) (by decide +kernel)
set_option maxRecDepth 20000 in
theorem gX5_page_X5_at : GoodIn wsX5_page (va_wsS RX5 78 yX5_at wsX5_at) := goodIn_app (goodIn_of _ (by decide +kernel)) ggX5_page_X5_at
set_option maxRecDepth 20000 in
theorem ggX5_page_X4_sentencesAmong : GoodIn wsX5_page wsX4_sentencesAmong := goodIn_r _ [19, 20, 21, 12, 13, 14, 78, 79, 80, 81, 82, 83, 84, 85, 86, 87, 88, 89, 90] (by decide +kernel) (by decide +kernel)
set_option maxRecDepth 20000 in
theorem gX5_page_X4_sentencesAmong : GoodIn wsX5_page (wsV RX5 134 RX4 yX4_sentencesAmong wsX4_sentencesAmong) := goodIn_app (goodIn_of _ (by decide +kernel)) ggX5_page_X4_sentencesAmong
set_option maxRecDepth 20000 in
theorem ggX5_page_X5_spanProperty : GoodIn wsX5_page wsX5_spanProperty := goodIn_r _ [25, 26, 27, 28, 29, 30, 31, 32, 33, 34, 35, 36, 37, 38, 39, 40, 41, 42, 43, 44, 18, 45, 46, 12, 13, 14, 47, 48, 49, 50, 51, 52, 53, 54, 55, 56, 57, 58, 59, 60, 61, 62, 63, 64, 65, 66, 67, 68, 69, 70, 71, 72, 73, 74, 75, 76, 77, 91, 92, 93, 94, 95, 96, 97, 98, 99, 100, 101, 102, 103, 104, 105, 78, 79, 80, 81, 82, 83, 84, 85, 86] (by decide +kernel) (by decide +kernel)
set_option maxRecDepth 20000 in
theorem gX5_page_X5_spanProperty : GoodIn wsX5_page (wsV RX5 130 RX5 yX5_spanProperty wsX5_spanProperty) := goodIn_app (goodIn_of _ (by decide +kernel)) ggX5_page_X5_spanProperty
theorem dX5_page_0 : decode cX5_page 0 = .ok (.aload_n 0, 1) := by decide +kernel
theorem dX5_page_1 : decode cX5_page 1 = .ok (.getfield 10, 3) := by decide +kernel
theorem dX5_page_4 : decode cX5_page 4 = .ok (.getfield 104, 3) := by decide +kernel
theorem dX5_page_7 : decode cX5_page 7 = .ok (.iload_n 1, 1) := by decide +kernel
theorem dX5_page_8 : decode cX5_page 8 = .ok (.invokevirtual 119, 3) := by decide +kernel
theorem dX5_page_11 : decode cX5_page 11 = .ok (.ifCond .eq 12, 3) := by decide +kernel
theorem dX5_page_14 : decode cX5_page 14 = .ok (.iload_n 2, 1) := by decide +kernel
theorem dX5_page_15 : decode cX5_page 15 = .ok (.ifCond .lt 8, 3) := by decide +kernel
theorem dX5_page_18 : decode cX5_page 18 = .ok (.iload_n 2, 1) := by decide +kernel
theorem dX5_page_19 : decode cX5_page 19 = .ok (.iconst 4, 1) := by decide +kernel
theorem dX5_page_20 : decode cX5_page 20 = .ok (.if_icmp .lt 5, 3) := by decide +kernel
theorem dX5_page_23 : decode cX5_page 23 = .ok (.iconst (-1), 1) := by decide +kernel
theorem dX5_page_24 : decode cX5_page 24 = .ok (.ireturn, 1) := by decide +kernel
theorem dX5_page_25 : decode cX5_page 25 = .ok (.aload_n 0, 1) := by decide +kernel
theorem dX5_page_26 : decode cX5_page 26 = .ok (.getfield 10, 3) := by decide +kernel
theorem dX5_page_29 : decode cX5_page 29 = .ok (.getfield 104, 3) := by decide +kernel
theorem dX5_page_32 : decode cX5_page 32 = .ok (.getfield 120, 3) := by decide +kernel
theorem dX5_page_35 : decode cX5_page 35 = .ok (.iload_n 1, 1) := by decide +kernel
theorem dX5_page_36 : decode cX5_page 36 = .ok (.invokestatic 78, 3) := by decide +kernel
theorem dX5_page_39 : decode cX5_page 39 = .ok (.istore_n 3, 1) := by decide +kernel
theorem dX5_page_40 : decode cX5_page 40 = .ok (.aload_n 0, 1) := by decide +kernel
theorem dX5_page_41 : decode cX5_page 41 = .ok (.getfield 10, 3) := by decide +kernel
theorem dX5_page_44 : decode cX5_page 44 = .ok (.getfield 104, 3) := by decide +kernel
theorem dX5_page_47 : decode cX5_page 47 = .ok (.getfield 123, 3) := by decide +kernel
theorem dX5_page_50 : decode cX5_page 50 = .ok (.iload_n 1, 1) := by decide +kernel
theorem dX5_page_51 : decode cX5_page 51 = .ok (.invokestatic 78, 3) := by decide +kernel
theorem dX5_page_54 : decode cX5_page 54 = .ok (.istore 4, 2) := by decide +kernel
theorem dX5_page_56 : decode cX5_page 56 = .ok (.iload_n 2, 1) := by decide +kernel
theorem dX5_page_57 : decode cX5_page 57 = .ok (.iconst 3, 1) := by decide +kernel
theorem dX5_page_58 : decode cX5_page 58 = .ok (.if_icmp .ne 16, 3) := by decide +kernel
theorem dX5_page_61 : decode cX5_page 61 = .ok (.aload_n 0, 1) := by decide +kernel
theorem dX5_page_62 : decode cX5_page 62 = .ok (.getfield 10, 3) := by decide +kernel
theorem dX5_page_65 : decode cX5_page 65 = .ok (.iload_n 3, 1) := by decide +kernel
theorem dX5_page_66 : decode cX5_page 66 = .ok (.iload 4, 2) := by decide +kernel
theorem dX5_page_68 : decode cX5_page 68 = .ok (.invokevirtual 134, 3) := by decide +kernel
theorem dX5_page_71 : decode cX5_page 71 = .ok (.goto 11, 3) := by decide +kernel
theorem dX5_page_74 : decode cX5_page 74 = .ok (.aload_n 0, 1) := by decide +kernel
theorem dX5_page_75 : decode cX5_page 75 = .ok (.iload_n 3, 1) := by decide +kernel
theorem dX5_page_76 : decode cX5_page 76 = .ok (.iload 4, 2) := by decide +kernel
theorem dX5_page_78 : decode cX5_page 78 = .ok (.iload_n 2, 1) := by decide +kernel
theorem dX5_page_79 : decode cX5_page 79 = .ok (.invokevirtual 130, 3) := by decide +kernel
theorem dX5_page_82 : decode cX5_page 82 = .ok (.ireturn, 1) := by decide +kernel
set_option maxRecDepth 20000 in
theorem ggX5_spanProperty_X3_timeOfAll : GoodIn wsX5_spanProperty wsX3_timeOfAll := goodIn_r _ [6, 7, 8, 9, 5, 10, 11, 12, 13, 14, 15, 16, 17, 18, 19, 20, 21, 22, 23, 24, 25, 26, 27, 28, 29, 30, 31, 32, 33, 34, 35, 36, 37, 38, 39, 40, 41, 42, 43, 44, 45, 46, 47, 48, 49, 50, 57, 58, 59, 60, 61, 62, 63, 64, 65, 66, 67, 68, 69, 70, 71, 72, 73, 74, 75, 76, 77, 78, 79, 80] (by decide +kernel) (by decide +kernel)
set_option maxRecDepth 20000 in
theorem gX5_spanProperty_X3_timeOfAll : GoodIn wsX5_spanProperty (wsV RX5 137 RX3 yX3_timeOfAll wsX3_timeOfAll) := goodIn_app (goodIn_of _ (by decide +kernel)) ggX5_spanProperty_X3_timeOfAll
theorem dX5_spanProperty_0 : decode cX5_spanProperty 0 = .ok (.iload_n 3, 1) := by decide +kernel
theorem dX5_spanProperty_1 : decode cX5_spanProperty 1 = .ok (.lookupswitch 31 #[(0, 27), (1, 29)], 27) := by decide +kernel
theorem dX5_spanProperty_28 : decode cX5_spanProperty 28 = .ok (.iload_n 1, 1) := by decide +kernel
theorem dX5_spanProperty_29 : decode cX5_spanProperty 29 = .ok (.ireturn, 1) := by decide +kernel
theorem dX5_spanProperty_30 : decode cX5_spanProperty 30 = .ok (.iload_n 2, 1) := by decide +kernel
theorem dX5_spanProperty_31 : decode cX5_spanProperty 31 = .ok (.ireturn, 1) := by decide +kernel
theorem dX5_spanProperty_32 : decode cX5_spanProperty 32 = .ok (.aload_n 0, 1) := by decide +kernel
theorem dX5_spanProperty_33 : decode cX5_spanProperty 33 = .ok (.getfield 21, 3) := by decide +kernel
theorem dX5_spanProperty_36 : decode cX5_spanProperty 36 = .ok (.iload_n 1, 1) := by decide +kernel
theorem dX5_spanProperty_37 : decode cX5_spanProperty 37 = .ok (.iload_n 2, 1) := by decide +kernel
theorem dX5_spanProperty_38 : decode cX5_spanProperty 38 = .ok (.invokevirtual 137, 3) := by decide +kernel
theorem dX5_spanProperty_41 : decode cX5_spanProperty 41 = .ok (.ireturn, 1) := by decide +kernel
set_option maxRecDepth 20000 in
theorem ggX5_count_X5_at : GoodIn wsX5_count wsX5_at := goodIn_r _ [23] (by decide +kernel) (by decide +kernel)
set_option maxRecDepth 20000 in
theorem gX5_count_X5_at : GoodIn wsX5_count (va_wsS RX5 78 yX5_at wsX5_at) := goodIn_app (goodIn_of _ (by decide +kernel)) ggX5_count_X5_at
set_option maxRecDepth 20000 in
theorem ggX5_count_X3_countNotes : GoodIn wsX5_count wsX3_countNotes := goodIn_r _ [28, 29, 81, 82, 83, 84, 85, 86, 87, 88, 89, 90, 91, 92, 93, 94, 95] (by decide +kernel) (by decide +kernel)
set_option maxRecDepth 20000 in
theorem gX5_count_X3_countNotes : GoodIn wsX5_count (wsV RX5 156 RX3 yX3_countNotes wsX3_countNotes) := goodIn_app (goodIn_of _ (by decide +kernel)) ggX5_count_X3_countNotes
set_option maxRecDepth 20000 in
theorem ggX5_count_X3_timeOfAll : GoodIn wsX5_count wsX3_timeOfAll := goodIn_r _ [33, 34, 35, 36, 27, 37, 38, 39, 40, 41, 42, 43, 44, 45, 46, 47, 48, 49, 21, 22, 23, 50, 51, 52, 53, 54, 55, 56, 57, 58, 59, 60, 61, 62, 63, 64, 65, 66, 67, 68, 69, 70, 71, 72, 73, 74, 81, 82, 83, 84, 85, 86, 87, 88, 89, 90, 91, 92, 93, 94, 95, 96, 97, 98, 99, 100, 101, 102, 103, 104] (by decide +kernel) (by decide +kernel)
set_option maxRecDepth 20000 in
theorem gX5_count_X3_timeOfAll : GoodIn wsX5_count (wsV RX5 137 RX3 yX3_timeOfAll wsX3_timeOfAll) := goodIn_app (goodIn_of _ (by decide +kernel)) ggX5_count_X3_timeOfAll
theorem dX5_count_0 : decode cX5_count 0 = .ok (.iload_n 1, 1) := by decide +kernel
theorem dX5_count_1 : decode cX5_count 1 = .ok (.bipush 20, 2) := by decide +kernel
theorem dX5_count_3 : decode cX5_count 3 = .ok (.if_icmp .lt 24, 3) := by decide +kernel
theorem dX5_count_6 : decode cX5_count 6 = .ok (.iload_n 1, 1) := by decide +kernel
theorem dX5_count_7 : decode cX5_count 7 = .ok (.bipush 27, 2) := by decide +kernel
theorem dX5_count_9 : decode cX5_count 9 = .ok (.if_icmp .ge 18, 3) := by decide +kernel
theorem dX5_count_12 : decode cX5_count 12 = .ok (.aload_n 0, 1) := by decide +kernel
theorem dX5_count_13 : decode cX5_count 13 = .ok (.getfield 21, 3) := by decide +kernel
theorem dX5_count_16 : decode cX5_count 16 = .ok (.getfield 140, 3) := by decide +kernel
theorem dX5_count_19 : decode cX5_count 19 = .ok (.iload_n 1, 1) := by decide +kernel
theorem dX5_count_20 : decode cX5_count 20 = .ok (.bipush 20, 2) := by decide +kernel
theorem dX5_count_22 : decode cX5_count 22 = .ok (.isub, 1) := by decide +kernel
theorem dX5_count_23 : decode cX5_count 23 = .ok (.invokestatic 78, 3) := by decide +kernel
theorem dX5_count_26 : decode cX5_count 26 = .ok (.ireturn, 1) := by decide +kernel
theorem dX5_count_27 : decode cX5_count 27 = .ok (.iload_n 1, 1) := by decide +kernel
theorem dX5_count_28 : decode cX5_count 28 = .ok (.bipush 30, 2) := by decide +kernel
theorem dX5_count_30 : decode cX5_count 30 = .ok (.if_icmp .lt 24, 3) := by decide +kernel
theorem dX5_count_33 : decode cX5_count 33 = .ok (.iload_n 1, 1) := by decide +kernel
theorem dX5_count_34 : decode cX5_count 34 = .ok (.bipush 33, 2) := by decide +kernel
theorem dX5_count_36 : decode cX5_count 36 = .ok (.if_icmp .ge 18, 3) := by decide +kernel
theorem dX5_count_39 : decode cX5_count 39 = .ok (.aload_n 0, 1) := by decide +kernel
theorem dX5_count_40 : decode cX5_count 40 = .ok (.getfield 21, 3) := by decide +kernel
theorem dX5_count_43 : decode cX5_count 43 = .ok (.getfield 143, 3) := by decide +kernel
theorem dX5_count_46 : decode cX5_count 46 = .ok (.iload_n 1, 1) := by decide +kernel
theorem dX5_count_47 : decode cX5_count 47 = .ok (.bipush 30, 2) := by decide +kernel
theorem dX5_count_49 : decode cX5_count 49 = .ok (.isub, 1) := by decide +kernel
theorem dX5_count_50 : decode cX5_count 50 = .ok (.invokestatic 78, 3) := by decide +kernel
theorem dX5_count_53 : decode cX5_count 53 = .ok (.ireturn, 1) := by decide +kernel
theorem dX5_count_54 : decode cX5_count 54 = .ok (.iload_n 1, 1) := by decide +kernel
theorem dX5_count_55 : decode cX5_count 55 = .ok (.tableswitch 229 0 13 #[69, 77, 85, 96, 107, 131, 155, 163, 171, 179, 187, 195, 203, 211], 69) := by decide +kernel
theorem dX5_count_124 : decode cX5_count 124 = .ok (.aload_n 0, 1) := by decide +kernel
theorem dX5_count_125 : decode cX5_count 125 = .ok (.getfield 21, 3) := by decide +kernel
theorem dX5_count_128 : decode cX5_count 128 = .ok (.getfield 50, 3) := by decide +kernel
theorem dX5_count_131 : decode cX5_count 131 = .ok (.ireturn, 1) := by decide +kernel
theorem dX5_count_132 : decode cX5_count 132 = .ok (.aload_n 0, 1) := by decide +kernel
theorem dX5_count_133 : decode cX5_count 133 = .ok (.getfield 10, 3) := by decide +kernel
theorem dX5_count_136 : decode cX5_count 136 = .ok (.getfield 69, 3) := by decide +kernel
theorem dX5_count_139 : decode cX5_count 139 = .ok (.ireturn, 1) := by decide +kernel
theorem dX5_count_140 : decode cX5_count 140 = .ok (.aload_n 0, 1) := by decide +kernel
theorem dX5_count_141 : decode cX5_count 141 = .ok (.getfield 10, 3) := by decide +kernel
theorem dX5_count_144 : decode cX5_count 144 = .ok (.getfield 95, 3) := by decide +kernel
theorem dX5_count_147 : decode cX5_count 147 = .ok (.getfield 146, 3) := by decide +kernel
theorem dX5_count_150 : decode cX5_count 150 = .ok (.ireturn, 1) := by decide +kernel
theorem dX5_count_151 : decode cX5_count 151 = .ok (.aload_n 0, 1) := by decide +kernel
theorem dX5_count_152 : decode cX5_count 152 = .ok (.getfield 10, 3) := by decide +kernel
theorem dX5_count_155 : decode cX5_count 155 = .ok (.getfield 104, 3) := by decide +kernel
theorem dX5_count_158 : decode cX5_count 158 = .ok (.getfield 146, 3) := by decide +kernel
theorem dX5_count_161 : decode cX5_count 161 = .ok (.ireturn, 1) := by decide +kernel
theorem dX5_count_162 : decode cX5_count 162 = .ok (.aload_n 0, 1) := by decide +kernel
theorem dX5_count_163 : decode cX5_count 163 = .ok (.getfield 21, 3) := by decide +kernel
theorem dX5_count_166 : decode cX5_count 166 = .ok (.getfield 147, 3) := by decide +kernel
theorem dX5_count_169 : decode cX5_count 169 = .ok (.iconst (-1), 1) := by decide +kernel
theorem dX5_count_170 : decode cX5_count 170 = .ok (.if_icmp .ne 8, 3) := by decide +kernel
theorem dX5_count_173 : decode cX5_count 173 = .ok (.bipush (-4), 2) := by decide +kernel
theorem dX5_count_175 : decode cX5_count 175 = .ok (.goto 10, 3) := by decide +kernel
theorem dX5_count_178 : decode cX5_count 178 = .ok (.aload_n 0, 1) := by decide +kernel
theorem dX5_count_179 : decode cX5_count 179 = .ok (.getfield 21, 3) := by decide +kernel
theorem dX5_count_182 : decode cX5_count 182 = .ok (.getfield 147, 3) := by decide +kernel
theorem dX5_count_185 : decode cX5_count 185 = .ok (.ireturn, 1) := by decide +kernel
theorem dX5_count_186 : decode cX5_count 186 = .ok (.aload_n 0, 1) := by decide +kernel
theorem dX5_count_187 : decode cX5_count 187 = .ok (.getfield 21, 3) := by decide +kernel
theorem dX5_count_190 : decode cX5_count 190 = .ok (.getfield 147, 3) := by decide +kernel
theorem dX5_count_193 : decode cX5_count 193 = .ok (.iconst (-1), 1) := by decide +kernel
theorem dX5_count_194 : decode cX5_count 194 = .ok (.if_icmp .ne 8, 3) := by decide +kernel
theorem dX5_count_197 : decode cX5_count 197 = .ok (.bipush (-4), 2) := by decide +kernel
theorem dX5_count_199 : decode cX5_count 199 = .ok (.goto 10, 3) := by decide +kernel
theorem dX5_count_202 : decode cX5_count 202 = .ok (.aload_n 0, 1) := by decide +kernel
theorem dX5_count_203 : decode cX5_count 203 = .ok (.getfield 21, 3) := by decide +kernel
theorem dX5_count_206 : decode cX5_count 206 = .ok (.getfield 150, 3) := by decide +kernel
theorem dX5_count_209 : decode cX5_count 209 = .ok (.ireturn, 1) := by decide +kernel
theorem dX5_count_210 : decode cX5_count 210 = .ok (.aload_n 0, 1) := by decide +kernel
theorem dX5_count_211 : decode cX5_count 211 = .ok (.getfield 21, 3) := by decide +kernel
theorem dX5_count_214 : decode cX5_count 214 = .ok (.getfield 153, 3) := by decide +kernel
theorem dX5_count_217 : decode cX5_count 217 = .ok (.ireturn, 1) := by decide +kernel
theorem dX5_count_218 : decode cX5_count 218 = .ok (.aload_n 0, 1) := by decide +kernel
theorem dX5_count_219 : decode cX5_count 219 = .ok (.getfield 21, 3) := by decide +kernel
theorem dX5_count_222 : decode cX5_count 222 = .ok (.invokevirtual 156, 3) := by decide +kernel
theorem dX5_count_225 : decode cX5_count 225 = .ok (.ireturn, 1) := by decide +kernel
theorem dX5_count_226 : decode cX5_count 226 = .ok (.aload_n 0, 1) := by decide +kernel
theorem dX5_count_227 : decode cX5_count 227 = .ok (.getfield 21, 3) := by decide +kernel
theorem dX5_count_230 : decode cX5_count 230 = .ok (.getfield 160, 3) := by decide +kernel
theorem dX5_count_233 : decode cX5_count 233 = .ok (.ireturn, 1) := by decide +kernel
theorem dX5_count_234 : decode cX5_count 234 = .ok (.aload_n 0, 1) := by decide +kernel
theorem dX5_count_235 : decode cX5_count 235 = .ok (.getfield 21, 3) := by decide +kernel
theorem dX5_count_238 : decode cX5_count 238 = .ok (.getfield 163, 3) := by decide +kernel
theorem dX5_count_241 : decode cX5_count 241 = .ok (.ireturn, 1) := by decide +kernel
theorem dX5_count_242 : decode cX5_count 242 = .ok (.aload_n 0, 1) := by decide +kernel
theorem dX5_count_243 : decode cX5_count 243 = .ok (.getfield 21, 3) := by decide +kernel
theorem dX5_count_246 : decode cX5_count 246 = .ok (.getfield 166, 3) := by decide +kernel
theorem dX5_count_249 : decode cX5_count 249 = .ok (.ireturn, 1) := by decide +kernel
theorem dX5_count_250 : decode cX5_count 250 = .ok (.aload_n 0, 1) := by decide +kernel
theorem dX5_count_251 : decode cX5_count 251 = .ok (.getfield 31, 3) := by decide +kernel
theorem dX5_count_254 : decode cX5_count 254 = .ok (.getfield 169, 3) := by decide +kernel
theorem dX5_count_257 : decode cX5_count 257 = .ok (.ireturn, 1) := by decide +kernel
theorem dX5_count_258 : decode cX5_count 258 = .ok (.aload_n 0, 1) := by decide +kernel
theorem dX5_count_259 : decode cX5_count 259 = .ok (.getfield 38, 3) := by decide +kernel
theorem dX5_count_262 : decode cX5_count 262 = .ok (.getfield 170, 3) := by decide +kernel
theorem dX5_count_265 : decode cX5_count 265 = .ok (.ireturn, 1) := by decide +kernel
theorem dX5_count_266 : decode cX5_count 266 = .ok (.aload_n 0, 1) := by decide +kernel
theorem dX5_count_267 : decode cX5_count 267 = .ok (.getfield 21, 3) := by decide +kernel
theorem dX5_count_270 : decode cX5_count 270 = .ok (.iconst 0, 1) := by decide +kernel
theorem dX5_count_271 : decode cX5_count 271 = .ok (.aload_n 0, 1) := by decide +kernel
theorem dX5_count_272 : decode cX5_count 272 = .ok (.getfield 10, 3) := by decide +kernel
theorem dX5_count_275 : decode cX5_count 275 = .ok (.getfield 69, 3) := by decide +kernel
theorem dX5_count_278 : decode cX5_count 278 = .ok (.iconst 1, 1) := by decide +kernel
theorem dX5_count_279 : decode cX5_count 279 = .ok (.isub, 1) := by decide +kernel
theorem dX5_count_280 : decode cX5_count 280 = .ok (.invokevirtual 137, 3) := by decide +kernel
theorem dX5_count_283 : decode cX5_count 283 = .ok (.ireturn, 1) := by decide +kernel
theorem dX5_count_284 : decode cX5_count 284 = .ok (.iconst (-1), 1) := by decide +kernel
theorem dX5_count_285 : decode cX5_count 285 = .ok (.ireturn, 1) := by decide +kernel
set_option maxRecDepth 20000 in
theorem ggX5_set_X5_at : GoodIn wsX5_set wsX5_at := goodIn_r _ [9] (by decide +kernel) (by decide +kernel)
set_option maxRecDepth 20000 in
theorem gX5_set_X5_at : GoodIn wsX5_set (va_wsS RX5 78 yX5_at wsX5_at) := goodIn_app (goodIn_of _ (by decide +kernel)) ggX5_set_X5_at
set_option maxRecDepth 20000 in
theorem ggX5_set_X0_keep : GoodIn wsX5_set wsX0_keep := goodIn_r _ [14, 15, 16, 17, 18, 13, 19, 20, 21, 22, 23, 24, 25, 26, 27, 28, 29, 30, 31, 32, 33, 34, 35, 36, 37, 38, 39, 40, 41, 42, 43, 44, 8, 45, 46, 47, 48, 49, 50, 51, 52, 53, 78, 79, 63, 64, 65, 66, 67, 68, 69, 70, 71, 72, 73, 74, 75, 76, 77] (by decide +kernel) (by decide +kernel)
set_option maxRecDepth 20000 in
theorem gX5_set_X0_keep : GoodIn wsX5_set (wsV RX5 54 RX0 yX0_keep wsX0_keep) := goodIn_app (goodIn_of _ (by decide +kernel)) ggX5_set_X0_keep
set_option maxRecDepth 20000 in
theorem ggX5_set_X5_put : GoodIn wsX5_set wsX5_put := goodIn_r _ [56] (by decide +kernel) (by decide +kernel)
set_option maxRecDepth 20000 in
theorem gX5_set_X5_put : GoodIn wsX5_set (va_wsS RX5 61 yX5_put wsX5_put) := goodIn_app (goodIn_of _ (by decide +kernel)) ggX5_set_X5_put
theorem dX5_set_0 : decode cX5_set 0 = .ok (.iload_n 1, 1) := by decide +kernel
theorem dX5_set_1 : decode cX5_set 1 = .ok (.ifCond .lt 9, 3) := by decide +kernel
theorem dX5_set_4 : decode cX5_set 4 = .ok (.iload_n 1, 1) := by decide +kernel
theorem dX5_set_5 : decode cX5_set 5 = .ok (.bipush 7, 2) := by decide +kernel
theorem dX5_set_7 : decode cX5_set 7 = .ok (.if_icmp .lt 5, 3) := by decide +kernel
theorem dX5_set_10 : decode cX5_set 10 = .ok (.iconst (-1), 1) := by decide +kernel
theorem dX5_set_11 : decode cX5_set 11 = .ok (.ireturn, 1) := by decide +kernel
theorem dX5_set_12 : decode cX5_set 12 = .ok (.iload_n 2, 1) := by decide +kernel
theorem dX5_set_13 : decode cX5_set 13 = .ok (.getstatic 171, 3) := by decide +kernel
theorem dX5_set_16 : decode cX5_set 16 = .ok (.iload_n 1, 1) := by decide +kernel
theorem dX5_set_17 : decode cX5_set 17 = .ok (.invokestatic 78, 3) := by decide +kernel
theorem dX5_set_20 : decode cX5_set 20 = .ok (.if_icmp .lt 14, 3) := by decide +kernel
theorem dX5_set_23 : decode cX5_set 23 = .ok (.iload_n 2, 1) := by decide +kernel
theorem dX5_set_24 : decode cX5_set 24 = .ok (.getstatic 174, 3) := by decide +kernel
theorem dX5_set_27 : decode cX5_set 27 = .ok (.iload_n 1, 1) := by decide +kernel
theorem dX5_set_28 : decode cX5_set 28 = .ok (.invokestatic 78, 3) := by decide +kernel
theorem dX5_set_31 : decode cX5_set 31 = .ok (.if_icmp .le 5, 3) := by decide +kernel
theorem dX5_set_34 : decode cX5_set 34 = .ok (.iconst (-1), 1) := by decide +kernel
theorem dX5_set_35 : decode cX5_set 35 = .ok (.ireturn, 1) := by decide +kernel
theorem dX5_set_36 : decode cX5_set 36 = .ok (.aload_n 0, 1) := by decide +kernel
theorem dX5_set_37 : decode cX5_set 37 = .ok (.getfield 31, 3) := by decide +kernel
theorem dX5_set_40 : decode cX5_set 40 = .ok (.aload_n 0, 1) := by decide +kernel
theorem dX5_set_41 : decode cX5_set 41 = .ok (.getfield 21, 3) := by decide +kernel
theorem dX5_set_44 : decode cX5_set 44 = .ok (.invokevirtual 54, 3) := by decide +kernel
theorem dX5_set_47 : decode cX5_set 47 = .ok (.aload_n 0, 1) := by decide +kernel
theorem dX5_set_48 : decode cX5_set 48 = .ok (.getfield 21, 3) := by decide +kernel
theorem dX5_set_51 : decode cX5_set 51 = .ok (.getfield 140, 3) := by decide +kernel
theorem dX5_set_54 : decode cX5_set 54 = .ok (.iload_n 1, 1) := by decide +kernel
theorem dX5_set_55 : decode cX5_set 55 = .ok (.invokestatic 78, 3) := by decide +kernel
theorem dX5_set_58 : decode cX5_set 58 = .ok (.istore_n 3, 1) := by decide +kernel
theorem dX5_set_59 : decode cX5_set 59 = .ok (.aload_n 0, 1) := by decide +kernel
theorem dX5_set_60 : decode cX5_set 60 = .ok (.getfield 21, 3) := by decide +kernel
theorem dX5_set_63 : decode cX5_set 63 = .ok (.getfield 140, 3) := by decide +kernel
theorem dX5_set_66 : decode cX5_set 66 = .ok (.iload_n 1, 1) := by decide +kernel
theorem dX5_set_67 : decode cX5_set 67 = .ok (.iload_n 2, 1) := by decide +kernel
theorem dX5_set_68 : decode cX5_set 68 = .ok (.invokestatic 61, 3) := by decide +kernel
theorem dX5_set_71 : decode cX5_set 71 = .ok (.iload_n 3, 1) := by decide +kernel
theorem dX5_set_72 : decode cX5_set 72 = .ok (.ireturn, 1) := by decide +kernel
set_option maxRecDepth 20000 in
theorem ggX5_speed_X0_keep : GoodIn wsX5_speed wsX0_keep := goodIn_r _ [8, 9, 10, 11, 12, 7, 13, 14, 15, 16, 17, 18, 19, 20, 21, 22, 23, 24, 25, 26, 27, 28, 29, 30, 31, 32, 33, 34, 35, 36, 37, 38, 39, 40, 41, 42, 43, 44, 45, 46, 47, 48, 76, 77, 61, 62, 63, 64, 65, 66, 67, 68, 69, 70, 71, 72, 73, 74, 75] (by decide +kernel) (by decide +kernel)
set_option maxRecDepth 20000 in
theorem gX5_speed_X0_keep : GoodIn wsX5_speed (wsV RX5 54 RX0 yX0_keep wsX0_keep) := goodIn_app (goodIn_of _ (by decide +kernel)) ggX5_speed_X0_keep
set_option maxRecDepth 20000 in
theorem ggX5_speed_X5_at : GoodIn wsX5_speed wsX5_at := goodIn_r _ [51] (by decide +kernel) (by decide +kernel)
set_option maxRecDepth 20000 in
theorem gX5_speed_X5_at : GoodIn wsX5_speed (va_wsS RX5 78 yX5_at wsX5_at) := goodIn_app (goodIn_of _ (by decide +kernel)) ggX5_speed_X5_at
set_option maxRecDepth 20000 in
theorem ggX5_speed_X5_put : GoodIn wsX5_speed wsX5_put := goodIn_r _ [54] (by decide +kernel) (by decide +kernel)
set_option maxRecDepth 20000 in
theorem gX5_speed_X5_put : GoodIn wsX5_speed (va_wsS RX5 61 yX5_put wsX5_put) := goodIn_app (goodIn_of _ (by decide +kernel)) ggX5_speed_X5_put
theorem dX5_speed_0 : decode cX5_speed 0 = .ok (.iload_n 1, 1) := by decide +kernel
theorem dX5_speed_1 : decode cX5_speed 1 = .ok (.ifCond .lt 21, 3) := by decide +kernel
theorem dX5_speed_4 : decode cX5_speed 4 = .ok (.iload_n 1, 1) := by decide +kernel
theorem dX5_speed_5 : decode cX5_speed 5 = .ok (.iconst 3, 1) := by decide +kernel
theorem dX5_speed_6 : decode cX5_speed 6 = .ok (.if_icmp .ge 16, 3) := by decide +kernel
theorem dX5_speed_9 : decode cX5_speed 9 = .ok (.iload_n 2, 1) := by decide +kernel
theorem dX5_speed_10 : decode cX5_speed 10 = .ok (.bipush 50, 2) := by decide +kernel
theorem dX5_speed_12 : decode cX5_speed 12 = .ok (.if_icmp .lt 10, 3) := by decide +kernel
theorem dX5_speed_15 : decode cX5_speed 15 = .ok (.iload_n 2, 1) := by decide +kernel
theorem dX5_speed_16 : decode cX5_speed 16 = .ok (.sipush 400, 3) := by decide +kernel
theorem dX5_speed_19 : decode cX5_speed 19 = .ok (.if_icmp .le 5, 3) := by decide +kernel
theorem dX5_speed_22 : decode cX5_speed 22 = .ok (.iconst (-1), 1) := by decide +kernel
theorem dX5_speed_23 : decode cX5_speed 23 = .ok (.ireturn, 1) := by decide +kernel
theorem dX5_speed_24 : decode cX5_speed 24 = .ok (.aload_n 0, 1) := by decide +kernel
theorem dX5_speed_25 : decode cX5_speed 25 = .ok (.getfield 31, 3) := by decide +kernel
theorem dX5_speed_28 : decode cX5_speed 28 = .ok (.aload_n 0, 1) := by decide +kernel
theorem dX5_speed_29 : decode cX5_speed 29 = .ok (.getfield 21, 3) := by decide +kernel
theorem dX5_speed_32 : decode cX5_speed 32 = .ok (.invokevirtual 54, 3) := by decide +kernel
theorem dX5_speed_35 : decode cX5_speed 35 = .ok (.aload_n 0, 1) := by decide +kernel
theorem dX5_speed_36 : decode cX5_speed 36 = .ok (.getfield 21, 3) := by decide +kernel
theorem dX5_speed_39 : decode cX5_speed 39 = .ok (.getfield 143, 3) := by decide +kernel
theorem dX5_speed_42 : decode cX5_speed 42 = .ok (.iload_n 1, 1) := by decide +kernel
theorem dX5_speed_43 : decode cX5_speed 43 = .ok (.invokestatic 78, 3) := by decide +kernel
theorem dX5_speed_46 : decode cX5_speed 46 = .ok (.istore_n 3, 1) := by decide +kernel
theorem dX5_speed_47 : decode cX5_speed 47 = .ok (.aload_n 0, 1) := by decide +kernel
theorem dX5_speed_48 : decode cX5_speed 48 = .ok (.getfield 21, 3) := by decide +kernel
theorem dX5_speed_51 : decode cX5_speed 51 = .ok (.getfield 143, 3) := by decide +kernel
theorem dX5_speed_54 : decode cX5_speed 54 = .ok (.iload_n 1, 1) := by decide +kernel
theorem dX5_speed_55 : decode cX5_speed 55 = .ok (.iload_n 2, 1) := by decide +kernel
theorem dX5_speed_56 : decode cX5_speed 56 = .ok (.invokestatic 61, 3) := by decide +kernel
theorem dX5_speed_59 : decode cX5_speed 59 = .ok (.iload_n 3, 1) := by decide +kernel
theorem dX5_speed_60 : decode cX5_speed 60 = .ok (.ireturn, 1) := by decide +kernel
set_option maxRecDepth 20000 in
theorem ggX5_run_X3_passError : GoodIn wsX5_run wsX3_passError := goodIn_r _ [7, 8, 133, 134, 135, 136, 137, 138, 139, 140, 141, 142, 143, 144, 145, 146, 147] (by decide +kernel) (by decide +kernel)
set_option maxRecDepth 20000 in
theorem gX5_run_X3_passError : GoodIn wsX5_run (wsV RX5 177 RX3 yX3_passError wsX3_passError) := goodIn_app (goodIn_of _ (by decide +kernel)) ggX5_run_X3_passError
set_option maxRecDepth 20000 in
theorem ggX5_run_X0_keep : GoodIn wsX5_run wsX0_keep := goodIn_r _ [13, 14, 15, 16, 17, 12, 18, 19, 20, 21, 22, 23, 24, 25, 26, 6, 27, 28, 29, 30, 31, 32, 8, 33, 34, 35, 36, 37, 38, 39, 40, 41, 42, 43, 44, 45, 46, 47, 48, 49, 50, 51, 148, 149, 133, 134, 135, 136, 137, 138, 139, 140, 141, 142, 143, 144, 145, 146, 147] (by decide +kernel) (by decide +kernel)
set_option maxRecDepth 20000 in
theorem gX5_run_X0_keep : GoodIn wsX5_run (wsV RX5 54 RX0 yX0_keep wsX0_keep) := goodIn_app (goodIn_of _ (by decide +kernel)) ggX5_run_X0_keep
set_option maxRecDepth 20000 in
theorem ggX5_run_X3_letPass : GoodIn wsX5_run wsX3_letPass := goodIn_r _ [55, 8, 33, 38, 56, 39, 57, 58, 59, 60, 61, 62, 63, 64, 65, 66, 67, 68, 42, 69, 70, 71, 72, 73, 74, 75, 76, 77, 78, 6, 79, 80, 81, 82, 37, 31, 30, 83, 45, 46, 47, 84, 85, 86, 87, 88, 89, 90, 91, 92, 93, 94, 95, 96, 97, 98, 36, 99, 100, 101, 102, 103, 104, 105, 106, 107, 108, 109, 110, 111, 112, 113, 114, 115, 116, 117, 118, 119, 120, 121, 122, 123, 124, 125, 126, 133, 134, 135, 136, 137, 138, 139, 140, 141, 142, 143, 144, 145, 146, 147, 150, 151, 152, 153, 154, 155, 156, 157, 158, 159, 160, 161, 162] (by decide +kernel) (by decide +kernel)
set_option maxRecDepth 20000 in
theorem gX5_run_X3_letPass : GoodIn wsX5_run (wsV RX5 180 RX3 yX3_letPass wsX3_letPass) := goodIn_app (goodIn_of _ (by decide +kernel)) ggX5_run_X3_letPass
theorem dX5_run_0 : decode cX5_run 0 = .ok (.aload_n 0, 1) := by decide +kernel
theorem dX5_run_1 : decode cX5_run 1 = .ok (.getfield 21, 3) := by decide +kernel
theorem dX5_run_4 : decode cX5_run 4 = .ok (.iload_n 1, 1) := by decide +kernel
theorem dX5_run_5 : decode cX5_run 5 = .ok (.invokevirtual 177, 3) := by decide +kernel
theorem dX5_run_8 : decode cX5_run 8 = .ok (.istore_n 2, 1) := by decide +kernel
theorem dX5_run_9 : decode cX5_run 9 = .ok (.iload_n 2, 1) := by decide +kernel
theorem dX5_run_10 : decode cX5_run 10 = .ok (.ifCond .eq 5, 3) := by decide +kernel
theorem dX5_run_13 : decode cX5_run 13 = .ok (.iload_n 2, 1) := by decide +kernel
theorem dX5_run_14 : decode cX5_run 14 = .ok (.ireturn, 1) := by decide +kernel
theorem dX5_run_15 : decode cX5_run 15 = .ok (.aload_n 0, 1) := by decide +kernel
theorem dX5_run_16 : decode cX5_run 16 = .ok (.getfield 31, 3) := by decide +kernel
theorem dX5_run_19 : decode cX5_run 19 = .ok (.aload_n 0, 1) := by decide +kernel
theorem dX5_run_20 : decode cX5_run 20 = .ok (.getfield 21, 3) := by decide +kernel
theorem dX5_run_23 : decode cX5_run 23 = .ok (.invokevirtual 54, 3) := by decide +kernel
theorem dX5_run_26 : decode cX5_run 26 = .ok (.aload_n 0, 1) := by decide +kernel
theorem dX5_run_27 : decode cX5_run 27 = .ok (.getfield 21, 3) := by decide +kernel
theorem dX5_run_30 : decode cX5_run 30 = .ok (.iload_n 1, 1) := by decide +kernel
theorem dX5_run_31 : decode cX5_run 31 = .ok (.invokevirtual 180, 3) := by decide +kernel
theorem dX5_run_34 : decode cX5_run 34 = .ok (.ireturn, 1) := by decide +kernel
set_option maxRecDepth 20000 in
theorem ggX5_back_X3_askError : GoodIn wsX5_back wsX3_askError := goodIn_r _ [8, 9, 10, 11, 12, 13, 14, 15, 16, 17, 18, 19, 20, 21, 22, 23, 133, 134, 135, 136, 137, 138, 139, 140, 141, 142, 143, 144, 145, 146, 147, 148, 149, 150, 151, 152, 153, 154, 155, 156] (by decide +kernel) (by decide +kernel)
set_option maxRecDepth 20000 in
theorem gX5_back_X3_askError : GoodIn wsX5_back (wsV RX5 183 RX3 yX3_askError wsX3_askError) := goodIn_app (goodIn_of _ (by decide +kernel)) ggX5_back_X3_askError
set_option maxRecDepth 20000 in
theorem ggX5_back_X0_keep : GoodIn wsX5_back wsX0_keep := goodIn_r _ [28, 29, 30, 31, 32, 27, 33, 34, 35, 36, 37, 38, 39, 40, 41, 7, 42, 43, 44, 45, 46, 47, 48, 49, 50, 51, 52, 53, 54, 55, 56, 57, 22, 58, 59, 60, 61, 62, 63, 64, 65, 66, 157, 158, 133, 134, 135, 136, 137, 138, 139, 140, 141, 142, 143, 144, 145, 146, 147] (by decide +kernel) (by decide +kernel)
set_option maxRecDepth 20000 in
theorem gX5_back_X0_keep : GoodIn wsX5_back (wsV RX5 54 RX0 yX0_keep wsX0_keep) := goodIn_app (goodIn_of _ (by decide +kernel)) ggX5_back_X0_keep
set_option maxRecDepth 20000 in
theorem ggX5_back_X3_askBack : GoodIn wsX5_back wsX3_askBack := goodIn_r _ [70, 46, 45, 71, 72, 61, 73, 53, 56, 74, 75, 76, 7, 77, 52, 9, 78, 79, 80, 13, 81, 82, 21, 22, 23, 83, 84, 85, 86, 87, 88, 48, 89, 90, 91, 92, 93, 94, 95, 96, 97, 98, 16, 17, 18, 19, 20, 99, 100, 101, 102, 49, 103, 104, 105, 106, 15, 107, 108, 109, 110, 111, 112, 113, 114, 115, 116, 117, 118, 119, 120, 121, 122, 123, 124, 125, 126, 133, 134, 135, 136, 137, 138, 139, 140, 141, 142, 143, 144, 145, 146, 147, 148, 149, 150, 151, 152, 153, 154, 155, 156, 159, 160, 161, 162] (by decide +kernel) (by decide +kernel)
set_option maxRecDepth 20000 in
theorem gX5_back_X3_askBack : GoodIn wsX5_back (wsV RX5 186 RX3 yX3_askBack wsX3_askBack) := goodIn_app (goodIn_of _ (by decide +kernel)) ggX5_back_X3_askBack
theorem dX5_back_0 : decode cX5_back 0 = .ok (.aload_n 0, 1) := by decide +kernel
theorem dX5_back_1 : decode cX5_back 1 = .ok (.getfield 21, 3) := by decide +kernel
theorem dX5_back_4 : decode cX5_back 4 = .ok (.invokevirtual 183, 3) := by decide +kernel
theorem dX5_back_7 : decode cX5_back 7 = .ok (.istore_n 1, 1) := by decide +kernel
theorem dX5_back_8 : decode cX5_back 8 = .ok (.iload_n 1, 1) := by decide +kernel
theorem dX5_back_9 : decode cX5_back 9 = .ok (.ifCond .eq 5, 3) := by decide +kernel
theorem dX5_back_12 : decode cX5_back 12 = .ok (.iload_n 1, 1) := by decide +kernel
theorem dX5_back_13 : decode cX5_back 13 = .ok (.ireturn, 1) := by decide +kernel
theorem dX5_back_14 : decode cX5_back 14 = .ok (.aload_n 0, 1) := by decide +kernel
theorem dX5_back_15 : decode cX5_back 15 = .ok (.getfield 31, 3) := by decide +kernel
theorem dX5_back_18 : decode cX5_back 18 = .ok (.aload_n 0, 1) := by decide +kernel
theorem dX5_back_19 : decode cX5_back 19 = .ok (.getfield 21, 3) := by decide +kernel
theorem dX5_back_22 : decode cX5_back 22 = .ok (.invokevirtual 54, 3) := by decide +kernel
theorem dX5_back_25 : decode cX5_back 25 = .ok (.aload_n 0, 1) := by decide +kernel
theorem dX5_back_26 : decode cX5_back 26 = .ok (.getfield 21, 3) := by decide +kernel
theorem dX5_back_29 : decode cX5_back 29 = .ok (.invokevirtual 186, 3) := by decide +kernel
theorem dX5_back_32 : decode cX5_back 32 = .ok (.aload_n 0, 1) := by decide +kernel
theorem dX5_back_33 : decode cX5_back 33 = .ok (.getfield 21, 3) := by decide +kernel
theorem dX5_back_36 : decode cX5_back 36 = .ok (.getfield 147, 3) := by decide +kernel
theorem dX5_back_39 : decode cX5_back 39 = .ok (.ireturn, 1) := by decide +kernel
set_option maxRecDepth 20000 in
theorem ggX5_jump_X3_leapError : GoodIn wsX5_jump wsX3_leapError := goodIn_r _ [8, 9, 10, 11, 12, 13, 14, 15, 16, 17, 18, 19, 20, 21, 22, 23, 24, 25, 26, 27, 118, 119, 120, 121, 122, 123, 124, 125, 126, 127, 128, 129, 130, 131, 132, 133, 134, 135, 136, 137, 138, 139, 140, 141, 142, 143, 144, 145] (by decide +kernel) (by decide +kernel)
set_option maxRecDepth 20000 in
theorem gX5_jump_X3_leapError : GoodIn wsX5_jump (wsV RX5 189 RX3 yX3_leapError wsX3_leapError) := goodIn_app (goodIn_of _ (by decide +kernel)) ggX5_jump_X3_leapError
set_option maxRecDepth 20000 in
theorem ggX5_jump_X0_keep : GoodIn wsX5_jump wsX0_keep := goodIn_r _ [32, 33, 34, 35, 36, 31, 37, 38, 39, 40, 41, 42, 43, 44, 45, 7, 46, 47, 48, 49, 50, 51, 11, 52, 53, 54, 55, 56, 57, 58, 59, 60, 20, 61, 62, 63, 64, 65, 66, 67, 68, 69, 146, 147, 118, 119, 120, 121, 122, 123, 124, 125, 126, 127, 128, 129, 130, 131, 132] (by decide +kernel) (by decide +kernel)
set_option maxRecDepth 20000 in
theorem gX5_jump_X0_keep : GoodIn wsX5_jump (wsV RX5 54 RX0 yX0_keep wsX0_keep) := goodIn_app (goodIn_of _ (by decide +kernel)) ggX5_jump_X0_keep
set_option maxRecDepth 20000 in
theorem ggX5_jump_X3_leapTo : GoodIn wsX5_jump wsX3_leapTo := goodIn_r _ [73, 54, 53, 11, 56, 9, 10, 12, 74, 20, 75, 19, 21, 76, 77, 78, 7, 79, 52, 55, 80, 81, 82, 25, 83, 84, 85, 86, 87, 88, 50, 89, 90, 91, 92, 93, 94, 95, 96, 97, 49, 22, 23, 24, 26, 27, 98, 99, 100, 101, 102, 103, 104, 64, 105, 106, 107, 108, 109, 110, 111, 118, 119, 120, 121, 122, 123, 124, 125, 126, 127, 128, 129, 130, 131, 132, 133, 134, 135, 136, 137, 138, 139, 140, 141, 142, 143, 144, 145] (by decide +kernel) (by decide +kernel)
set_option maxRecDepth 20000 in
theorem gX5_jump_X3_leapTo : GoodIn wsX5_jump (wsV RX5 192 RX3 yX3_leapTo wsX3_leapTo) := goodIn_app (goodIn_of _ (by decide +kernel)) ggX5_jump_X3_leapTo
theorem dX5_jump_0 : decode cX5_jump 0 = .ok (.aload_n 0, 1) := by decide +kernel
theorem dX5_jump_1 : decode cX5_jump 1 = .ok (.getfield 21, 3) := by decide +kernel
theorem dX5_jump_4 : decode cX5_jump 4 = .ok (.iload_n 1, 1) := by decide +kernel
theorem dX5_jump_5 : decode cX5_jump 5 = .ok (.invokevirtual 189, 3) := by decide +kernel
theorem dX5_jump_8 : decode cX5_jump 8 = .ok (.istore_n 2, 1) := by decide +kernel
theorem dX5_jump_9 : decode cX5_jump 9 = .ok (.iload_n 2, 1) := by decide +kernel
theorem dX5_jump_10 : decode cX5_jump 10 = .ok (.ifCond .eq 5, 3) := by decide +kernel
theorem dX5_jump_13 : decode cX5_jump 13 = .ok (.iload_n 2, 1) := by decide +kernel
theorem dX5_jump_14 : decode cX5_jump 14 = .ok (.ireturn, 1) := by decide +kernel
theorem dX5_jump_15 : decode cX5_jump 15 = .ok (.aload_n 0, 1) := by decide +kernel
theorem dX5_jump_16 : decode cX5_jump 16 = .ok (.getfield 31, 3) := by decide +kernel
theorem dX5_jump_19 : decode cX5_jump 19 = .ok (.aload_n 0, 1) := by decide +kernel
theorem dX5_jump_20 : decode cX5_jump 20 = .ok (.getfield 21, 3) := by decide +kernel
theorem dX5_jump_23 : decode cX5_jump 23 = .ok (.invokevirtual 54, 3) := by decide +kernel
theorem dX5_jump_26 : decode cX5_jump 26 = .ok (.aload_n 0, 1) := by decide +kernel
theorem dX5_jump_27 : decode cX5_jump 27 = .ok (.getfield 21, 3) := by decide +kernel
theorem dX5_jump_30 : decode cX5_jump 30 = .ok (.iload_n 1, 1) := by decide +kernel
theorem dX5_jump_31 : decode cX5_jump 31 = .ok (.invokevirtual 192, 3) := by decide +kernel
theorem dX5_jump_34 : decode cX5_jump 34 = .ok (.aload_n 0, 1) := by decide +kernel
theorem dX5_jump_35 : decode cX5_jump 35 = .ok (.getfield 21, 3) := by decide +kernel
theorem dX5_jump_38 : decode cX5_jump 38 = .ok (.getfield 147, 3) := by decide +kernel
theorem dX5_jump_41 : decode cX5_jump 41 = .ok (.ireturn, 1) := by decide +kernel
set_option maxRecDepth 20000 in
theorem ggX5_goBack_X3_returnError : GoodIn wsX5_goBack wsX3_returnError := goodIn_r _ [8, 9, 110, 111, 112, 113, 114, 115, 116, 117, 118, 119, 120, 121, 122, 123, 124] (by decide +kernel) (by decide +kernel)
set_option maxRecDepth 20000 in
theorem gX5_goBack_X3_returnError : GoodIn wsX5_goBack (wsV RX5 195 RX3 yX3_returnError wsX3_returnError) := goodIn_app (goodIn_of _ (by decide +kernel)) ggX5_goBack_X3_returnError
set_option maxRecDepth 20000 in
theorem ggX5_goBack_X0_keep : GoodIn wsX5_goBack wsX0_keep := goodIn_r _ [14, 15, 16, 17, 18, 13, 19, 20, 21, 22, 23, 24, 25, 26, 27, 7, 28, 29, 30, 31, 32, 33, 34, 35, 36, 9, 37, 38, 39, 40, 41, 42, 43, 44, 45, 46, 47, 48, 49, 50, 51, 52, 125, 126, 110, 111, 112, 113, 114, 115, 116, 117, 118, 119, 120, 121, 122, 123, 124] (by decide +kernel) (by decide +kernel)
set_option maxRecDepth 20000 in
theorem gX5_goBack_X0_keep : GoodIn wsX5_goBack (wsV RX5 54 RX0 yX0_keep wsX0_keep) := goodIn_app (goodIn_of _ (by decide +kernel)) ggX5_goBack_X0_keep
set_option maxRecDepth 20000 in
theorem ggX5_goBack_X3_returnToPlace : GoodIn wsX5_goBack wsX3_returnToPlace := goodIn_r _ [56, 9, 38, 36, 57, 43, 58, 59, 60, 61, 7, 62, 63, 34, 35, 37, 64, 65, 66, 67, 68, 69, 70, 71, 72, 73, 32, 74, 75, 76, 77, 78, 79, 80, 81, 82, 31, 83, 84, 85, 86, 87, 88, 89, 90, 91, 92, 93, 94, 47, 95, 96, 97, 98, 99, 100, 101, 102, 103, 110, 111, 112, 113, 114, 115, 116, 117, 118, 119, 120, 121, 122, 123, 124, 127, 128, 129, 130, 131, 132, 133, 134, 135] (by decide +kernel) (by decide +kernel)
set_option maxRecDepth 20000 in
theorem gX5_goBack_X3_returnToPlace : GoodIn wsX5_goBack (wsV RX5 198 RX3 yX3_returnToPlace wsX3_returnToPlace) := goodIn_app (goodIn_of _ (by decide +kernel)) ggX5_goBack_X3_returnToPlace
theorem dX5_goBack_0 : decode cX5_goBack 0 = .ok (.aload_n 0, 1) := by decide +kernel
theorem dX5_goBack_1 : decode cX5_goBack 1 = .ok (.getfield 21, 3) := by decide +kernel
theorem dX5_goBack_4 : decode cX5_goBack 4 = .ok (.invokevirtual 195, 3) := by decide +kernel
theorem dX5_goBack_7 : decode cX5_goBack 7 = .ok (.istore_n 1, 1) := by decide +kernel
theorem dX5_goBack_8 : decode cX5_goBack 8 = .ok (.iload_n 1, 1) := by decide +kernel
theorem dX5_goBack_9 : decode cX5_goBack 9 = .ok (.ifCond .eq 5, 3) := by decide +kernel
theorem dX5_goBack_12 : decode cX5_goBack 12 = .ok (.iload_n 1, 1) := by decide +kernel
theorem dX5_goBack_13 : decode cX5_goBack 13 = .ok (.ireturn, 1) := by decide +kernel
theorem dX5_goBack_14 : decode cX5_goBack 14 = .ok (.aload_n 0, 1) := by decide +kernel
theorem dX5_goBack_15 : decode cX5_goBack 15 = .ok (.getfield 31, 3) := by decide +kernel
theorem dX5_goBack_18 : decode cX5_goBack 18 = .ok (.aload_n 0, 1) := by decide +kernel
theorem dX5_goBack_19 : decode cX5_goBack 19 = .ok (.getfield 21, 3) := by decide +kernel
theorem dX5_goBack_22 : decode cX5_goBack 22 = .ok (.invokevirtual 54, 3) := by decide +kernel
theorem dX5_goBack_25 : decode cX5_goBack 25 = .ok (.aload_n 0, 1) := by decide +kernel
theorem dX5_goBack_26 : decode cX5_goBack 26 = .ok (.getfield 21, 3) := by decide +kernel
theorem dX5_goBack_29 : decode cX5_goBack 29 = .ok (.invokevirtual 198, 3) := by decide +kernel
theorem dX5_goBack_32 : decode cX5_goBack 32 = .ok (.aload_n 0, 1) := by decide +kernel
theorem dX5_goBack_33 : decode cX5_goBack 33 = .ok (.getfield 21, 3) := by decide +kernel
theorem dX5_goBack_36 : decode cX5_goBack 36 = .ok (.getfield 147, 3) := by decide +kernel
theorem dX5_goBack_39 : decode cX5_goBack 39 = .ok (.ireturn, 1) := by decide +kernel
set_option maxRecDepth 20000 in
theorem ggX5_undo_X0_restore : GoodIn wsX5_undo wsX0_restore := goodIn_r _ [11, 12, 13, 14, 15, 10, 16, 17, 18, 19, 20, 21, 22, 23, 24, 25, 26, 27, 28, 29, 30, 31, 32, 33, 34, 35, 36, 37, 38, 39, 40, 41, 42, 43, 44, 45, 46, 47, 106, 107, 108, 109, 110, 111, 112, 113, 114, 115, 116, 117, 118, 119, 120, 121, 122] (by decide +kernel) (by decide +kernel)
set_option maxRecDepth 20000 in
theorem gX5_undo_X0_restore : GoodIn wsX5_undo (wsV RX5 205 RX0 yX0_restore wsX0_restore) := goodIn_app (goodIn_of _ (by decide +kernel)) ggX5_undo_X0_restore
set_option maxRecDepth 20000 in
theorem ggX5_undo_X4_read : GoodIn wsX5_undo wsX4_read := goodIn_r _ [52, 53, 54, 38, 55, 56, 57, 58, 51, 59, 60, 61, 62, 63, 64, 65, 66, 67, 68, 69, 70, 71, 72, 73, 74, 75, 76, 77, 78, 79, 80, 81, 82, 83, 84, 85, 86, 87, 88, 89, 90, 91, 92, 93, 94, 95, 96, 97, 98, 99, 123, 124, 125, 126, 127, 128, 129, 130, 131, 132, 133, 134, 135] (by decide +kernel) (by decide +kernel)
set_option maxRecDepth 20000 in
theorem gX5_undo_X4_read : GoodIn wsX5_undo (wsV RX5 208 RX4 yX4_read wsX4_read) := goodIn_app (goodIn_of _ (by decide +kernel)) ggX5_undo_X4_read
theorem dX5_undo_0 : decode cX5_undo 0 = .ok (.aload_n 0, 1) := by decide +kernel
theorem dX5_undo_1 : decode cX5_undo 1 = .ok (.getfield 31, 3) := by decide +kernel
theorem dX5_undo_4 : decode cX5_undo 4 = .ok (.getfield 169, 3) := by decide +kernel
theorem dX5_undo_7 : decode cX5_undo 7 = .ok (.ifCond .ne 6, 3) := by decide +kernel
theorem dX5_undo_10 : decode cX5_undo 10 = .ok (.bipush (-2), 2) := by decide +kernel
theorem dX5_undo_12 : decode cX5_undo 12 = .ok (.ireturn, 1) := by decide +kernel
theorem dX5_undo_13 : decode cX5_undo 13 = .ok (.aload_n 0, 1) := by decide +kernel
theorem dX5_undo_14 : decode cX5_undo 14 = .ok (.getfield 31, 3) := by decide +kernel
theorem dX5_undo_17 : decode cX5_undo 17 = .ok (.aload_n 0, 1) := by decide +kernel
theorem dX5_undo_18 : decode cX5_undo 18 = .ok (.getfield 21, 3) := by decide +kernel
theorem dX5_undo_21 : decode cX5_undo 21 = .ok (.invokevirtual 205, 3) := by decide +kernel
theorem dX5_undo_24 : decode cX5_undo 24 = .ok (.aload_n 0, 1) := by decide +kernel
theorem dX5_undo_25 : decode cX5_undo 25 = .ok (.getfield 10, 3) := by decide +kernel
theorem dX5_undo_28 : decode cX5_undo 28 = .ok (.aload_n 0, 1) := by decide +kernel
theorem dX5_undo_29 : decode cX5_undo 29 = .ok (.getfield 21, 3) := by decide +kernel
theorem dX5_undo_32 : decode cX5_undo 32 = .ok (.getfield 58, 3) := by decide +kernel
theorem dX5_undo_35 : decode cX5_undo 35 = .ok (.aload_n 0, 1) := by decide +kernel
theorem dX5_undo_36 : decode cX5_undo 36 = .ok (.getfield 21, 3) := by decide +kernel
theorem dX5_undo_39 : decode cX5_undo 39 = .ok (.getfield 50, 3) := by decide +kernel
theorem dX5_undo_42 : decode cX5_undo 42 = .ok (.invokevirtual 208, 3) := by decide +kernel
theorem dX5_undo_45 : decode cX5_undo 45 = .ok (.aload_n 0, 1) := by decide +kernel
theorem dX5_undo_46 : decode cX5_undo 46 = .ok (.getfield 31, 3) := by decide +kernel
theorem dX5_undo_49 : decode cX5_undo 49 = .ok (.getfield 169, 3) := by decide +kernel
theorem dX5_undo_52 : decode cX5_undo 52 = .ok (.ireturn, 1) := by decide +kernel
set_option maxRecDepth 20000 in
theorem ggX5_longest_X3_timeOf : GoodIn wsX5_longest wsX3_timeOf := goodIn_r _ [9, 10, 11, 12, 8, 13, 14, 15, 16, 17, 18, 19, 20, 21, 22, 23, 24, 25, 26, 27, 28, 29, 30, 31, 32, 33, 34, 35, 36, 37, 38, 39, 40, 41, 42, 43, 44, 45, 46, 47, 48, 49, 74, 75, 76, 77, 78, 79, 80, 81, 82, 83, 84, 85, 86, 87, 88, 65, 66, 67, 68, 69, 70, 71, 72, 73] (by decide +kernel) (by decide +kernel)
set_option maxRecDepth 20000 in
theorem gX5_longest_X3_timeOf : GoodIn wsX5_longest (wsV RX5 110 RX3 yX3_timeOf wsX3_timeOf) := goodIn_app (goodIn_of _ (by decide +kernel)) ggX5_longest_X3_timeOf
set_option maxRecDepth 20000 in
theorem ggX5_longest_X5_put : GoodIn wsX5_longest wsX5_put := goodIn_r _ [52] (by decide +kernel) (by decide +kernel)
set_option maxRecDepth 20000 in
theorem gX5_longest_X5_put : GoodIn wsX5_longest (va_wsS RX5 61 yX5_put wsX5_put) := goodIn_app (goodIn_of _ (by decide +kernel)) ggX5_longest_X5_put
set_option maxRecDepth 20000 in
theorem ggX5_longest_X4_isMark : GoodIn wsX5_longest wsX4_isMark := goodIn_r _ [33, 34, 22, 23, 24, 65, 66, 67, 68, 69, 70, 71, 72, 73] (by decide +kernel) (by decide +kernel)
set_option maxRecDepth 20000 in
theorem gX5_longest_X4_isMark : GoodIn wsX5_longest (wsV RX5 221 RX4 yX4_isMark wsX4_isMark) := goodIn_app (goodIn_of _ (by decide +kernel)) ggX5_longest_X4_isMark
set_option maxRecDepth 20000 in
theorem ggX5_longest_X5_rankOf : GoodIn wsX5_longest wsX5_rankOf := goodIn_r _ [57, 3, 1, 2, 58, 22, 23, 24, 59, 60, 61, 62, 63, 64, 65, 66, 67, 68, 69, 70, 71, 72, 73] (by decide +kernel) (by decide +kernel)
set_option maxRecDepth 20000 in
theorem gX5_longest_X5_rankOf : GoodIn wsX5_longest (wsV RX5 224 RX5 yX5_rankOf wsX5_rankOf) := goodIn_app (goodIn_of _ (by decide +kernel)) ggX5_longest_X5_rankOf
theorem dX5_longest_0 : decode cX5_longest 0 = .ok (.iload_n 1, 1) := by decide +kernel
theorem dX5_longest_1 : decode cX5_longest 1 = .ok (.ifCond .ge 5, 3) := by decide +kernel
theorem dX5_longest_4 : decode cX5_longest 4 = .ok (.iconst (-1), 1) := by decide +kernel
theorem dX5_longest_5 : decode cX5_longest 5 = .ok (.ireturn, 1) := by decide +kernel
theorem dX5_longest_6 : decode cX5_longest 6 = .ok (.iconst 0, 1) := by decide +kernel
theorem dX5_longest_7 : decode cX5_longest 7 = .ok (.istore_n 2, 1) := by decide +kernel
theorem dX5_longest_8 : decode cX5_longest 8 = .ok (.iload_n 2, 1) := by decide +kernel
theorem dX5_longest_9 : decode cX5_longest 9 = .ok (.aload_n 0, 1) := by decide +kernel
theorem dX5_longest_10 : decode cX5_longest 10 = .ok (.getfield 10, 3) := by decide +kernel
theorem dX5_longest_13 : decode cX5_longest 13 = .ok (.getfield 69, 3) := by decide +kernel
theorem dX5_longest_16 : decode cX5_longest 16 = .ok (.if_icmp .ge 25, 3) := by decide +kernel
theorem dX5_longest_19 : decode cX5_longest 19 = .ok (.aload_n 0, 1) := by decide +kernel
theorem dX5_longest_20 : decode cX5_longest 20 = .ok (.getfield 42, 3) := by decide +kernel
theorem dX5_longest_23 : decode cX5_longest 23 = .ok (.iload_n 2, 1) := by decide +kernel
theorem dX5_longest_24 : decode cX5_longest 24 = .ok (.aload_n 0, 1) := by decide +kernel
theorem dX5_longest_25 : decode cX5_longest 25 = .ok (.getfield 21, 3) := by decide +kernel
theorem dX5_longest_28 : decode cX5_longest 28 = .ok (.iload_n 2, 1) := by decide +kernel
theorem dX5_longest_29 : decode cX5_longest 29 = .ok (.invokevirtual 110, 3) := by decide +kernel
theorem dX5_longest_32 : decode cX5_longest 32 = .ok (.invokestatic 61, 3) := by decide +kernel
theorem dX5_longest_35 : decode cX5_longest 35 = .ok (.iinc 2 1, 3) := by decide +kernel
theorem dX5_longest_38 : decode cX5_longest 38 = .ok (.goto (-30), 3) := by decide +kernel
theorem dX5_longest_41 : decode cX5_longest 41 = .ok (.iconst 0, 1) := by decide +kernel
theorem dX5_longest_42 : decode cX5_longest 42 = .ok (.istore_n 2, 1) := by decide +kernel
theorem dX5_longest_43 : decode cX5_longest 43 = .ok (.iload_n 2, 1) := by decide +kernel
theorem dX5_longest_44 : decode cX5_longest 44 = .ok (.aload_n 0, 1) := by decide +kernel
theorem dX5_longest_45 : decode cX5_longest 45 = .ok (.getfield 10, 3) := by decide +kernel
theorem dX5_longest_48 : decode cX5_longest 48 = .ok (.getfield 69, 3) := by decide +kernel
theorem dX5_longest_51 : decode cX5_longest 51 = .ok (.if_icmp .ge 31, 3) := by decide +kernel
theorem dX5_longest_54 : decode cX5_longest 54 = .ok (.aload_n 0, 1) := by decide +kernel
theorem dX5_longest_55 : decode cX5_longest 55 = .ok (.getfield 10, 3) := by decide +kernel
theorem dX5_longest_58 : decode cX5_longest 58 = .ok (.iload_n 2, 1) := by decide +kernel
theorem dX5_longest_59 : decode cX5_longest 59 = .ok (.invokevirtual 221, 3) := by decide +kernel
theorem dX5_longest_62 : decode cX5_longest 62 = .ok (.ifCond .ne 14, 3) := by decide +kernel
theorem dX5_longest_65 : decode cX5_longest 65 = .ok (.aload_n 0, 1) := by decide +kernel
theorem dX5_longest_66 : decode cX5_longest 66 = .ok (.iload_n 2, 1) := by decide +kernel
theorem dX5_longest_67 : decode cX5_longest 67 = .ok (.invokevirtual 224, 3) := by decide +kernel
theorem dX5_longest_70 : decode cX5_longest 70 = .ok (.iload_n 1, 1) := by decide +kernel
theorem dX5_longest_71 : decode cX5_longest 71 = .ok (.if_icmp .ne 5, 3) := by decide +kernel
theorem dX5_longest_74 : decode cX5_longest 74 = .ok (.iload_n 2, 1) := by decide +kernel
theorem dX5_longest_75 : decode cX5_longest 75 = .ok (.ireturn, 1) := by decide +kernel
theorem dX5_longest_76 : decode cX5_longest 76 = .ok (.iinc 2 1, 3) := by decide +kernel
theorem dX5_longest_79 : decode cX5_longest 79 = .ok (.goto (-36), 3) := by decide +kernel
theorem dX5_longest_82 : decode cX5_longest 82 = .ok (.bipush (-4), 2) := by decide +kernel
theorem dX5_longest_84 : decode cX5_longest 84 = .ok (.ireturn, 1) := by decide +kernel
set_option maxRecDepth 20000 in
theorem ggX5_rankOf_X5_at : GoodIn wsX5_rankOf wsX5_at := goodIn_r _ [7] (by decide +kernel) (by decide +kernel)
set_option maxRecDepth 20000 in
theorem gX5_rankOf_X5_at : GoodIn wsX5_rankOf (va_wsS RX5 78 yX5_at wsX5_at) := goodIn_app (goodIn_of _ (by decide +kernel)) ggX5_rankOf_X5_at
theorem dX5_rankOf_0 : decode cX5_rankOf 0 = .ok (.aload_n 0, 1) := by decide +kernel
theorem dX5_rankOf_1 : decode cX5_rankOf 1 = .ok (.getfield 42, 3) := by decide +kernel
theorem dX5_rankOf_4 : decode cX5_rankOf 4 = .ok (.iload_n 1, 1) := by decide +kernel
theorem dX5_rankOf_5 : decode cX5_rankOf 5 = .ok (.invokestatic 78, 3) := by decide +kernel
theorem dX5_rankOf_8 : decode cX5_rankOf 8 = .ok (.istore_n 2, 1) := by decide +kernel
theorem dX5_rankOf_9 : decode cX5_rankOf 9 = .ok (.iconst 0, 1) := by decide +kernel
theorem dX5_rankOf_10 : decode cX5_rankOf 10 = .ok (.istore_n 3, 1) := by decide +kernel
theorem dX5_rankOf_11 : decode cX5_rankOf 11 = .ok (.iconst 0, 1) := by decide +kernel
theorem dX5_rankOf_12 : decode cX5_rankOf 12 = .ok (.istore 4, 2) := by decide +kernel
theorem dX5_rankOf_14 : decode cX5_rankOf 14 = .ok (.iload 4, 2) := by decide +kernel
theorem dX5_rankOf_16 : decode cX5_rankOf 16 = .ok (.aload_n 0, 1) := by decide +kernel
theorem dX5_rankOf_17 : decode cX5_rankOf 17 = .ok (.getfield 10, 3) := by decide +kernel
theorem dX5_rankOf_20 : decode cX5_rankOf 20 = .ok (.getfield 69, 3) := by decide +kernel
theorem dX5_rankOf_23 : decode cX5_rankOf 23 = .ok (.if_icmp .ge 41, 3) := by decide +kernel
theorem dX5_rankOf_26 : decode cX5_rankOf 26 = .ok (.aload_n 0, 1) := by decide +kernel
theorem dX5_rankOf_27 : decode cX5_rankOf 27 = .ok (.getfield 42, 3) := by decide +kernel
theorem dX5_rankOf_30 : decode cX5_rankOf 30 = .ok (.iload 4, 2) := by decide +kernel
theorem dX5_rankOf_32 : decode cX5_rankOf 32 = .ok (.invokestatic 78, 3) := by decide +kernel
theorem dX5_rankOf_35 : decode cX5_rankOf 35 = .ok (.istore 5, 2) := by decide +kernel
theorem dX5_rankOf_37 : decode cX5_rankOf 37 = .ok (.iload 5, 2) := by decide +kernel
theorem dX5_rankOf_39 : decode cX5_rankOf 39 = .ok (.iload_n 2, 1) := by decide +kernel
theorem dX5_rankOf_40 : decode cX5_rankOf 40 = .ok (.if_icmp .gt 15, 3) := by decide +kernel
theorem dX5_rankOf_43 : decode cX5_rankOf 43 = .ok (.iload 5, 2) := by decide +kernel
theorem dX5_rankOf_45 : decode cX5_rankOf 45 = .ok (.iload_n 2, 1) := by decide +kernel
theorem dX5_rankOf_46 : decode cX5_rankOf 46 = .ok (.if_icmp .ne 12, 3) := by decide +kernel
theorem dX5_rankOf_49 : decode cX5_rankOf 49 = .ok (.iload 4, 2) := by decide +kernel
theorem dX5_rankOf_51 : decode cX5_rankOf 51 = .ok (.iload_n 1, 1) := by decide +kernel
theorem dX5_rankOf_52 : decode cX5_rankOf 52 = .ok (.if_icmp .ge 6, 3) := by decide +kernel
theorem dX5_rankOf_55 : decode cX5_rankOf 55 = .ok (.iinc 3 1, 3) := by decide +kernel
theorem dX5_rankOf_58 : decode cX5_rankOf 58 = .ok (.iinc 4 1, 3) := by decide +kernel
theorem dX5_rankOf_61 : decode cX5_rankOf 61 = .ok (.goto (-47), 3) := by decide +kernel
theorem dX5_rankOf_64 : decode cX5_rankOf 64 = .ok (.iload_n 3, 1) := by decide +kernel
theorem dX5_rankOf_65 : decode cX5_rankOf 65 = .ok (.ireturn, 1) := by decide +kernel
theorem dX5_isCharacter_0 : decode cX5_isCharacter 0 = .ok (.iload_n 0, 1) := by decide +kernel
theorem dX5_isCharacter_1 : decode cX5_isCharacter 1 = .ok (.bipush 32, 2) := by decide +kernel
theorem dX5_isCharacter_3 : decode cX5_isCharacter 3 = .ok (.if_icmp .lt 13, 3) := by decide +kernel
theorem dX5_isCharacter_6 : decode cX5_isCharacter 6 = .ok (.iload_n 0, 1) := by decide +kernel
theorem dX5_isCharacter_7 : decode cX5_isCharacter 7 = .ok (.bipush 126, 2) := by decide +kernel
theorem dX5_isCharacter_9 : decode cX5_isCharacter 9 = .ok (.if_icmp .gt 7, 3) := by decide +kernel
theorem dX5_isCharacter_12 : decode cX5_isCharacter 12 = .ok (.iconst 1, 1) := by decide +kernel
theorem dX5_isCharacter_13 : decode cX5_isCharacter 13 = .ok (.goto 4, 3) := by decide +kernel
theorem dX5_isCharacter_16 : decode cX5_isCharacter 16 = .ok (.iconst 0, 1) := by decide +kernel
theorem dX5_isCharacter_17 : decode cX5_isCharacter 17 = .ok (.ireturn, 1) := by decide +kernel
theorem dX5_isFigure_0 : decode cX5_isFigure 0 = .ok (.iload_n 0, 1) := by decide +kernel
theorem dX5_isFigure_1 : decode cX5_isFigure 1 = .ok (.bipush 48, 2) := by decide +kernel
theorem dX5_isFigure_3 : decode cX5_isFigure 3 = .ok (.if_icmp .lt 13, 3) := by decide +kernel
theorem dX5_isFigure_6 : decode cX5_isFigure 6 = .ok (.iload_n 0, 1) := by decide +kernel
theorem dX5_isFigure_7 : decode cX5_isFigure 7 = .ok (.bipush 57, 2) := by decide +kernel
theorem dX5_isFigure_9 : decode cX5_isFigure 9 = .ok (.if_icmp .gt 7, 3) := by decide +kernel
theorem dX5_isFigure_12 : decode cX5_isFigure 12 = .ok (.iconst 1, 1) := by decide +kernel
theorem dX5_isFigure_13 : decode cX5_isFigure 13 = .ok (.goto 4, 3) := by decide +kernel
theorem dX5_isFigure_16 : decode cX5_isFigure 16 = .ok (.iconst 0, 1) := by decide +kernel
theorem dX5_isFigure_17 : decode cX5_isFigure 17 = .ok (.ireturn, 1) := by decide +kernel
set_option maxRecDepth 20000 in
theorem ggX5_isLetter_X5_isFigure : GoodIn wsX5_isLetter wsX5_isFigure := goodIn_r _ [4] (by decide +kernel) (by decide +kernel)
set_option maxRecDepth 20000 in
theorem gX5_isLetter_X5_isFigure : GoodIn wsX5_isLetter (va_wsS RX5 253 yX5_isFigure wsX5_isFigure) := goodIn_app (goodIn_of _ (by decide +kernel)) ggX5_isLetter_X5_isFigure
theorem dX5_isLetter_0 : decode cX5_isLetter 0 = .ok (.iload_n 0, 1) := by decide +kernel
theorem dX5_isLetter_1 : decode cX5_isLetter 1 = .ok (.bipush 97, 2) := by decide +kernel
theorem dX5_isLetter_3 : decode cX5_isLetter 3 = .ok (.if_icmp .lt 9, 3) := by decide +kernel
theorem dX5_isLetter_6 : decode cX5_isLetter 6 = .ok (.iload_n 0, 1) := by decide +kernel
theorem dX5_isLetter_7 : decode cX5_isLetter 7 = .ok (.bipush 122, 2) := by decide +kernel
theorem dX5_isLetter_9 : decode cX5_isLetter 9 = .ok (.if_icmp .le 22, 3) := by decide +kernel
theorem dX5_isLetter_12 : decode cX5_isLetter 12 = .ok (.iload_n 0, 1) := by decide +kernel
theorem dX5_isLetter_13 : decode cX5_isLetter 13 = .ok (.bipush 65, 2) := by decide +kernel
theorem dX5_isLetter_15 : decode cX5_isLetter 15 = .ok (.if_icmp .lt 9, 3) := by decide +kernel
theorem dX5_isLetter_18 : decode cX5_isLetter 18 = .ok (.iload_n 0, 1) := by decide +kernel
theorem dX5_isLetter_19 : decode cX5_isLetter 19 = .ok (.bipush 90, 2) := by decide +kernel
theorem dX5_isLetter_21 : decode cX5_isLetter 21 = .ok (.if_icmp .le 10, 3) := by decide +kernel
theorem dX5_isLetter_24 : decode cX5_isLetter 24 = .ok (.iload_n 0, 1) := by decide +kernel
theorem dX5_isLetter_25 : decode cX5_isLetter 25 = .ok (.invokestatic 253, 3) := by decide +kernel
theorem dX5_isLetter_28 : decode cX5_isLetter 28 = .ok (.ifCond .eq 7, 3) := by decide +kernel
theorem dX5_isLetter_31 : decode cX5_isLetter 31 = .ok (.iconst 1, 1) := by decide +kernel
theorem dX5_isLetter_32 : decode cX5_isLetter 32 = .ok (.goto 4, 3) := by decide +kernel
theorem dX5_isLetter_35 : decode cX5_isLetter 35 = .ok (.iconst 0, 1) := by decide +kernel
theorem dX5_isLetter_36 : decode cX5_isLetter 36 = .ok (.ireturn, 1) := by decide +kernel
theorem dX5_isTrailing_0 : decode cX5_isTrailing 0 = .ok (.iload_n 0, 1) := by decide +kernel
theorem dX5_isTrailing_1 : decode cX5_isTrailing 1 = .ok (.bipush 41, 2) := by decide +kernel
theorem dX5_isTrailing_3 : decode cX5_isTrailing 3 = .ok (.if_icmp .eq 21, 3) := by decide +kernel
theorem dX5_isTrailing_6 : decode cX5_isTrailing 6 = .ok (.iload_n 0, 1) := by decide +kernel
theorem dX5_isTrailing_7 : decode cX5_isTrailing 7 = .ok (.bipush 93, 2) := by decide +kernel
theorem dX5_isTrailing_9 : decode cX5_isTrailing 9 = .ok (.if_icmp .eq 15, 3) := by decide +kernel
theorem dX5_isTrailing_12 : decode cX5_isTrailing 12 = .ok (.iload_n 0, 1) := by decide +kernel
theorem dX5_isTrailing_13 : decode cX5_isTrailing 13 = .ok (.bipush 34, 2) := by decide +kernel
theorem dX5_isTrailing_15 : decode cX5_isTrailing 15 = .ok (.if_icmp .eq 9, 3) := by decide +kernel
theorem dX5_isTrailing_18 : decode cX5_isTrailing 18 = .ok (.iload_n 0, 1) := by decide +kernel
theorem dX5_isTrailing_19 : decode cX5_isTrailing 19 = .ok (.bipush 39, 2) := by decide +kernel
theorem dX5_isTrailing_21 : decode cX5_isTrailing 21 = .ok (.if_icmp .ne 7, 3) := by decide +kernel
theorem dX5_isTrailing_24 : decode cX5_isTrailing 24 = .ok (.iconst 1, 1) := by decide +kernel
theorem dX5_isTrailing_25 : decode cX5_isTrailing 25 = .ok (.goto 4, 3) := by decide +kernel
theorem dX5_isTrailing_28 : decode cX5_isTrailing 28 = .ok (.iconst 0, 1) := by decide +kernel
theorem dX5_isTrailing_29 : decode cX5_isTrailing 29 = .ok (.ireturn, 1) := by decide +kernel
theorem dX5_closingBy_0 : decode cX5_closingBy 0 = .ok (.iload_n 0, 1) := by decide +kernel
theorem dX5_closingBy_1 : decode cX5_closingBy 1 = .ok (.lookupswitch 63 #[(33, 59), (44, 61), (46, 59), (58, 61), (59, 61), (63, 59)], 59) := by decide +kernel
theorem dX5_closingBy_60 : decode cX5_closingBy 60 = .ok (.iconst 2, 1) := by decide +kernel
theorem dX5_closingBy_61 : decode cX5_closingBy 61 = .ok (.ireturn, 1) := by decide +kernel
theorem dX5_closingBy_62 : decode cX5_closingBy 62 = .ok (.iconst 1, 1) := by decide +kernel
theorem dX5_closingBy_63 : decode cX5_closingBy 63 = .ok (.ireturn, 1) := by decide +kernel
theorem dX5_closingBy_64 : decode cX5_closingBy 64 = .ok (.iconst 0, 1) := by decide +kernel
theorem dX5_closingBy_65 : decode cX5_closingBy 65 = .ok (.ireturn, 1) := by decide +kernel
theorem dX5_at_0 : decode cX5_at 0 = .ok (.iload_n 1, 1) := by decide +kernel
theorem dX5_at_1 : decode cX5_at 1 = .ok (.ifCond .lt 15, 3) := by decide +kernel
theorem dX5_at_4 : decode cX5_at 4 = .ok (.iload_n 1, 1) := by decide +kernel
theorem dX5_at_5 : decode cX5_at 5 = .ok (.aload_n 0, 1) := by decide +kernel
theorem dX5_at_6 : decode cX5_at 6 = .ok (.arraylength, 1) := by decide +kernel
theorem dX5_at_7 : decode cX5_at 7 = .ok (.if_icmp .ge 9, 3) := by decide +kernel
theorem dX5_at_10 : decode cX5_at 10 = .ok (.aload_n 0, 1) := by decide +kernel
theorem dX5_at_11 : decode cX5_at 11 = .ok (.iload_n 1, 1) := by decide +kernel
theorem dX5_at_12 : decode cX5_at 12 = .ok (.iaload, 1) := by decide +kernel
theorem dX5_at_13 : decode cX5_at 13 = .ok (.goto 4, 3) := by decide +kernel
theorem dX5_at_16 : decode cX5_at 16 = .ok (.iconst 0, 1) := by decide +kernel
theorem dX5_at_17 : decode cX5_at 17 = .ok (.ireturn, 1) := by decide +kernel
theorem dX5_put_0 : decode cX5_put 0 = .ok (.iload_n 1, 1) := by decide +kernel
theorem dX5_put_1 : decode cX5_put 1 = .ok (.ifCond .lt 13, 3) := by decide +kernel
theorem dX5_put_4 : decode cX5_put 4 = .ok (.iload_n 1, 1) := by decide +kernel
theorem dX5_put_5 : decode cX5_put 5 = .ok (.aload_n 0, 1) := by decide +kernel
theorem dX5_put_6 : decode cX5_put 6 = .ok (.arraylength, 1) := by decide +kernel
theorem dX5_put_7 : decode cX5_put 7 = .ok (.if_icmp .ge 7, 3) := by decide +kernel
theorem dX5_put_10 : decode cX5_put 10 = .ok (.aload_n 0, 1) := by decide +kernel
theorem dX5_put_11 : decode cX5_put 11 = .ok (.iload_n 1, 1) := by decide +kernel
theorem dX5_put_12 : decode cX5_put 12 = .ok (.iload_n 2, 1) := by decide +kernel
theorem dX5_put_13 : decode cX5_put 13 = .ok (.iastore, 1) := by decide +kernel
theorem dX5_put_14 : decode cX5_put 14 = .ok (.return_, 1) := by decide +kernel
theorem dX5_fill_0 : decode cX5_fill 0 = .ok (.iconst 0, 1) := by decide +kernel
theorem dX5_fill_1 : decode cX5_fill 1 = .ok (.istore_n 2, 1) := by decide +kernel
theorem dX5_fill_2 : decode cX5_fill 2 = .ok (.iload_n 2, 1) := by decide +kernel
theorem dX5_fill_3 : decode cX5_fill 3 = .ok (.aload_n 0, 1) := by decide +kernel
theorem dX5_fill_4 : decode cX5_fill 4 = .ok (.arraylength, 1) := by decide +kernel
theorem dX5_fill_5 : decode cX5_fill 5 = .ok (.if_icmp .ge 13, 3) := by decide +kernel
theorem dX5_fill_8 : decode cX5_fill 8 = .ok (.aload_n 0, 1) := by decide +kernel
theorem dX5_fill_9 : decode cX5_fill 9 = .ok (.iload_n 2, 1) := by decide +kernel
theorem dX5_fill_10 : decode cX5_fill 10 = .ok (.iload_n 1, 1) := by decide +kernel
theorem dX5_fill_11 : decode cX5_fill 11 = .ok (.iastore, 1) := by decide +kernel
theorem dX5_fill_12 : decode cX5_fill 12 = .ok (.iinc 2 1, 3) := by decide +kernel
theorem dX5_fill_15 : decode cX5_fill 15 = .ok (.goto (-13), 3) := by decide +kernel
theorem dX5_fill_18 : decode cX5_fill 18 = .ok (.return_, 1) := by decide +kernel
theorem dX5_copyRow_0 : decode cX5_copyRow 0 = .ok (.aload_n 0, 1) := by decide +kernel
theorem dX5_copyRow_1 : decode cX5_copyRow 1 = .ok (.iconst 0, 1) := by decide +kernel
theorem dX5_copyRow_2 : decode cX5_copyRow 2 = .ok (.aload_n 1, 1) := by decide +kernel
theorem dX5_copyRow_3 : decode cX5_copyRow 3 = .ok (.iconst 0, 1) := by decide +kernel
theorem dX5_copyRow_4 : decode cX5_copyRow 4 = .ok (.aload_n 0, 1) := by decide +kernel
theorem dX5_copyRow_5 : decode cX5_copyRow 5 = .ok (.arraylength, 1) := by decide +kernel
theorem dX5_copyRow_6 : decode cX5_copyRow 6 = .ok (.aload_n 1, 1) := by decide +kernel
theorem dX5_copyRow_7 : decode cX5_copyRow 7 = .ok (.arraylength, 1) := by decide +kernel
theorem dX5_copyRow_8 : decode cX5_copyRow 8 = .ok (.invokestatic 256, 3) := by decide +kernel
theorem dX5_copyRow_11 : decode cX5_copyRow 11 = .ok (.invokestatic 261, 3) := by decide +kernel
theorem dX5_copyRow_14 : decode cX5_copyRow 14 = .ok (.return_, 1) := by decide +kernel
