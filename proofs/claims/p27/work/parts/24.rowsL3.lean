theorem goodIn_w {big ws : List Cond} {c : Cond} (hm : c ∈ big) (hg : goodWord c = true) (h : GoodIn big ws) : GoodIn big (c :: ws) := fun w hw => (List.mem_cons.mp hw).elim (fun e => e ▸ ⟨hm, good_of_word hg⟩) (h w)
theorem goodIn_n {big : List Cond} : GoodIn big [] := fun w h => absurd h List.not_mem_nil
set_option maxRecDepth 20000 in
theorem ggL_holds_X5_count : GoodIn wsL_holds wsX5_count := goodIn_r _ [5, 6, 7, 8, 9, 10, 11, 12, 13, 14, 15, 16, 17, 18, 19, 20, 21, 22, 23, 24, 25, 26, 4, 27, 28, 29, 30, 31, 32, 33, 34, 35, 36, 37, 38, 39, 40, 41, 42, 43, 44, 45, 46, 47, 48, 49, 50, 51, 52, 53, 54, 55, 56, 57, 58, 59, 60, 61, 62, 63, 64, 65, 66, 67, 68, 69, 70, 71, 72, 73, 74, 75, 76, 77, 78, 129, 130, 131, 132, 133, 134, 135, 136, 137, 138, 139, 140, 141, 142, 143, 144, 145, 146, 147, 148, 149, 150, 151, 152, 153, 154, 155, 156, 157, 158, 159, 160, 161, 162, 163, 164, 165, 166] (by decide +kernel) (by decide +kernel)
set_option maxRecDepth 20000 in
theorem gL_holds_X5_count : GoodIn wsL_holds (wsV RL 9 RX5 yX5_count wsX5_count) := goodIn_app (goodIn_of _ (by decide +kernel)) ggL_holds_X5_count
set_option maxRecDepth 20000 in
theorem ggL_holds_X5_word : GoodIn wsL_holds wsX5_word := goodIn_r _ [82, 10, 83, 84, 85, 86, 12, 87, 14, 6, 88, 89, 90, 91, 92, 51, 93, 94, 25, 26, 4, 27, 95, 49, 50, 52, 53, 96, 65, 66, 31, 67, 47, 68, 58, 69, 70, 71, 72, 97, 39, 40, 41, 42, 43, 44, 45, 46, 48, 54, 55, 56, 57, 59, 60, 61, 62, 63, 64, 73, 74, 75, 76, 77, 78, 129, 130, 131, 132, 133, 134, 150, 151, 152, 153, 154, 155, 156, 157, 158, 159, 160, 161, 162, 135, 136, 137, 138, 139, 140, 141, 142, 143, 144, 145, 146, 147, 148, 149] (by decide +kernel) (by decide +kernel)
set_option maxRecDepth 20000 in
theorem gL_holds_X5_word : GoodIn wsL_holds (wsV RL 15 RX5 yX5_word wsX5_word) := goodIn_app (goodIn_of _ (by decide +kernel)) ggL_holds_X5_word
set_option maxRecDepth 20000 in
theorem ggL_holds_X5_page : GoodIn wsL_holds wsX5_page := goodIn_r _ [101, 10, 14, 102, 103, 104, 105, 106, 107, 108, 109, 25, 26, 4, 27, 110, 111, 112, 51, 113, 114, 115, 116, 117, 118, 119, 6, 34, 35, 36, 31, 37, 38, 39, 40, 41, 42, 43, 44, 45, 46, 47, 48, 49, 50, 52, 53, 54, 55, 56, 57, 58, 59, 60, 61, 62, 63, 64, 65, 66, 67, 68, 69, 70, 71, 72, 73, 74, 75, 76, 77, 78, 129, 130, 131, 132, 133, 134, 150, 151, 152, 153, 154, 155, 156, 157, 158, 159, 160, 161, 162, 135, 136, 137, 138, 139, 140, 141, 142, 143, 144, 145, 146, 147, 148, 149] (by decide +kernel) (by decide +kernel)
set_option maxRecDepth 20000 in
theorem gL_holds_X5_page : GoodIn wsL_holds (wsV RL 19 RX5 yX5_page wsX5_page) := goodIn_app (goodIn_of _ (by decide +kernel)) ggL_holds_X5_page
set_option maxRecDepth 20000 in
theorem ggL_holds_X5_sentence : GoodIn wsL_holds wsX5_sentence := goodIn_r _ [123, 10, 12, 102, 103, 104, 105, 106, 107, 108, 109, 25, 26, 4, 27, 124, 125, 126, 51, 127, 128, 60, 61, 62, 63, 116, 117, 118, 119, 6, 34, 35, 36, 31, 37, 38, 39, 40, 41, 42, 43, 44, 45, 46, 47, 48, 49, 50, 52, 53, 54, 55, 56, 57, 58, 59, 64, 65, 66, 67, 68, 69, 70, 71, 72, 73, 74, 75, 76, 77, 78, 129, 130, 131, 132, 133, 134, 150, 151, 152, 153, 154, 155, 156, 157, 158, 159, 160, 161, 162, 135, 136, 137, 138, 139, 140, 141, 142, 143, 144, 145, 146, 147, 148, 149] (by decide +kernel) (by decide +kernel)
set_option maxRecDepth 20000 in
theorem gL_holds_X5_sentence : GoodIn wsL_holds (wsV RL 22 RX5 yX5_sentence wsX5_sentence) := goodIn_app (goodIn_of _ (by decide +kernel)) ggL_holds_X5_sentence
set_option maxRecDepth 20000 in
theorem ggL_parted_X5_run : GoodIn wsL_parted wsX5_run := goodIn_r _ [5, 6, 7, 8, 9, 10, 11, 12, 13, 14, 15, 16, 17, 18, 19, 20, 21, 22, 23, 24, 25, 26, 27, 28, 29, 30, 31, 32, 33, 34, 35, 36, 37, 38, 39, 40, 41, 42, 43, 44, 45, 46, 4, 47, 48, 49, 50, 51, 52, 53, 54, 55, 56, 57, 58, 59, 60, 61, 62, 63, 64, 65, 66, 67, 68, 69, 70, 71, 72, 73, 74, 75, 76, 77, 78, 79, 80, 81, 82, 83, 84, 85, 86, 87, 88, 89, 90, 91, 92, 93, 94, 95, 96, 97, 98, 99, 100, 101, 102, 103, 104, 105, 106, 107, 108, 109, 110, 111, 112, 113, 114, 115, 116, 117, 118, 119, 120, 121, 122, 123, 124, 125, 126, 127, 128, 129, 130, 262, 263, 264, 265, 266, 267, 268, 269, 270, 271, 272, 273, 274, 275, 276, 277, 278, 279, 280, 281, 282, 283, 284, 285, 286, 287, 288, 289, 290, 291, 292, 293, 294, 295, 296, 297] (by decide +kernel) (by decide +kernel)
set_option maxRecDepth 20000 in
theorem gL_parted_X5_run : GoodIn wsL_parted (wsV RL 25 RX5 yX5_run wsX5_run) := goodIn_app (goodIn_of _ (by decide +kernel)) ggL_parted_X5_run
set_option maxRecDepth 20000 in
theorem ggL_parted_X5_count : GoodIn wsL_parted wsX5_count := goodIn_r _ [134, 6, 135, 136, 137, 138, 139, 140, 141, 142, 143, 144, 145, 146, 147, 148, 7, 149, 150, 151, 152, 72, 4, 73, 153, 154, 155, 11, 156, 37, 157, 158, 159, 160, 161, 162, 163, 164, 107, 108, 109, 110, 36, 60, 111, 93, 94, 64, 95, 96, 112, 113, 114, 115, 35, 116, 68, 69, 70, 71, 117, 118, 119, 120, 121, 122, 123, 50, 124, 125, 126, 127, 128, 129, 130, 262, 263, 264, 265, 266, 267, 268, 269, 270, 271, 272, 273, 274, 275, 276, 277, 278, 279, 280, 281, 282, 285, 286, 287, 288, 289, 290, 291, 292, 293, 294, 295, 296, 297, 283, 284, 298, 299] (by decide +kernel) (by decide +kernel)
set_option maxRecDepth 20000 in
theorem gL_parted_X5_count : GoodIn wsL_parted (wsV RL 9 RX5 yX5_count wsX5_count) := goodIn_app (goodIn_of _ (by decide +kernel)) ggL_parted_X5_count
set_option maxRecDepth 20000 in
theorem gc_parted_wsL_holds_r1 : GoodIn wsL_parted wsL_holds_r1 := goodIn_r _ [131, 132, 133, 4, 134, 6, 135, 136, 137, 138, 139, 140, 141, 142, 143, 144, 145, 146, 147, 148, 7, 149, 150, 151] (by decide +kernel) (by decide +kernel)
set_option maxRecDepth 20000 in
theorem gc_parted_wsL_holds_r2 : GoodIn wsL_parted wsL_holds_r2 := goodIn_r _ [152, 72, 73, 153, 154, 155, 11, 156, 37, 157, 158, 159, 160, 161, 162, 163, 164, 107, 108, 109, 110, 36, 60, 111] (by decide +kernel) (by decide +kernel)
set_option maxRecDepth 20000 in
theorem gc_parted_wsL_holds_r3 : GoodIn wsL_parted wsL_holds_r3 := goodIn_r _ [93, 94, 64, 95, 96, 112, 113, 114, 115, 35, 116, 68, 69, 70, 71, 117, 118, 119, 120, 121, 122, 123, 50, 124] (by decide +kernel) (by decide +kernel)
set_option maxRecDepth 20000 in
theorem gc_parted_wsL_holds_r4 : GoodIn wsL_parted wsL_holds_r4 := goodIn_r _ [125, 126, 127, 128, 129, 130, 169, 170, 171, 172, 173, 174, 175, 176, 177, 178, 179, 180, 104, 105, 106, 66, 181, 182] (by decide +kernel) (by decide +kernel)
set_option maxRecDepth 20000 in
theorem gc_parted_wsL_holds_r5 : GoodIn wsL_parted wsL_holds_r5 := goodIn_r _ [183, 184, 185, 186, 187, 188, 189, 190, 191, 192, 193, 194, 195, 196, 197, 198, 199, 78, 79, 200, 201, 202, 203, 204] (by decide +kernel) (by decide +kernel)
set_option maxRecDepth 20000 in
theorem gc_parted_wsL_holds_r6 : GoodIn wsL_parted wsL_holds_r6 := goodIn_r _ [205, 206, 207, 208, 209, 210, 211, 67] (by decide +kernel) (by decide +kernel)
set_option maxRecDepth 20000 in
theorem gc_parted_wsX50 : GoodIn wsL_parted wsX50 := goodIn_r _ [262, 263, 264, 265, 266, 267] (by decide +kernel) (by decide +kernel)
set_option maxRecDepth 20000 in
theorem gc_parted_wsX30 : GoodIn wsL_parted wsX30 := goodIn_r _ [268, 269, 270, 271, 272, 273, 274, 275, 276, 277, 278, 279, 280, 281, 282] (by decide +kernel) (by decide +kernel)
set_option maxRecDepth 20000 in
theorem gc_parted_wsX40 : GoodIn wsL_parted wsX40 := goodIn_r _ [285, 286, 287, 288, 289, 290, 291, 292, 293] (by decide +kernel) (by decide +kernel)
set_option maxRecDepth 20000 in
theorem gc_parted_wsX20 : GoodIn wsL_parted wsX20 := goodIn_r _ [294, 295, 296, 297] (by decide +kernel) (by decide +kernel)
set_option maxRecDepth 20000 in
theorem gc_parted_wsX00 : GoodIn wsL_parted wsX00 := goodIn_r _ [283, 284] (by decide +kernel) (by decide +kernel)
set_option maxRecDepth 20000 in
theorem gc_parted_wsX10 : GoodIn wsL_parted wsX10 := goodIn_r _ [298, 299] (by decide +kernel) (by decide +kernel)
set_option maxRecDepth 20000 in
theorem ggL_parted_L_holds : GoodIn wsL_parted wsL_holds := goodIn_w (List.mem_of_getElem? (i := 168) rfl) rfl (goodIn_app (goodIn_app (goodIn_app (goodIn_app (goodIn_app (goodIn_app (goodIn_app gc_parted_wsL_holds_r1 (goodIn_app gc_parted_wsL_holds_r2 (goodIn_app gc_parted_wsL_holds_r3 (goodIn_app gc_parted_wsL_holds_r4 (goodIn_app gc_parted_wsL_holds_r5 gc_parted_wsL_holds_r6))))) gc_parted_wsX50) gc_parted_wsX30) gc_parted_wsX40) gc_parted_wsX20) gc_parted_wsX00) gc_parted_wsX10)
set_option maxRecDepth 20000 in
theorem gL_parted_L_holds : GoodIn wsL_parted (va_wsS RL 28 yL_holds wsL_holds) := goodIn_app (goodIn_of _ (by decide +kernel)) ggL_parted_L_holds
set_option maxRecDepth 20000 in
theorem ggL_parted_X5_undo : GoodIn wsL_parted wsX5_undo := goodIn_r _ [215, 7, 149, 6, 138, 216, 137, 217, 218, 219, 17, 220, 19, 25, 26, 27, 28, 24, 29, 30, 31, 11, 32, 33, 34, 35, 36, 37, 13, 38, 39, 40, 41, 42, 43, 44, 45, 46, 4, 47, 48, 49, 50, 51, 52, 53, 54, 55, 221, 222, 223, 64, 224, 66, 72, 73, 225, 226, 227, 228, 229, 230, 96, 71, 231, 232, 233, 234, 235, 236, 237, 238, 239, 97, 98, 240, 241, 242, 243, 244, 245, 246, 247, 248, 249, 78, 250, 251, 252, 253, 193, 254, 195, 255, 256, 257, 258, 259, 260, 261, 262, 263, 264, 265, 266, 267, 283, 284, 268, 269, 270, 271, 272, 273, 274, 275, 276, 277, 278, 279, 280, 281, 282, 285, 286, 287, 288, 289, 290, 291, 292, 293, 294, 295, 296, 297] (by decide +kernel) (by decide +kernel)
set_option maxRecDepth 20000 in
theorem gL_parted_X5_undo : GoodIn wsL_parted (wsV RL 34 RX5 yX5_undo wsX5_undo) := goodIn_app (goodIn_of _ (by decide +kernel)) ggL_parted_X5_undo
