set_option maxRecDepth 20000 in
theorem gL_law_X5_longest : GoodIn wsL_law (wsV RL 55 RX5 yX5_longest wsX5_longest) := goodIn_app (goodIn_of _ (by decide +kernel)) ggL_law_X5_longest
set_option maxRecDepth 20000 in
theorem ggL_law_X5_word : GoodIn wsL_law wsX5_word := goodIn_r _ [154, 12, 155, 156, 157, 158, 94, 159, 96, 16, 160, 161, 162, 163, 164, 11, 165, 166, 105, 106, 2, 107, 167, 125, 126, 127, 34, 168, 137, 138, 15, 139, 54, 140, 62, 141, 142, 143, 144, 169, 117, 118, 119, 120, 121, 122, 123, 63, 124, 128, 129, 130, 131, 132, 133, 134, 135, 35, 136, 145, 146, 147, 148, 149, 150, 412, 413, 414, 415, 416, 417, 418, 419, 420, 421, 422, 423, 424, 425, 426, 446, 447, 448, 449, 427, 428, 429, 430, 431, 432, 433, 434, 435, 436, 437, 438, 439, 440, 441] (by decide +kernel) (by decide +kernel)
set_option maxRecDepth 20000 in
theorem gL_law_X5_word : GoodIn wsL_law (wsV RL 15 RX5 yX5_word wsX5_word) := goodIn_app (goodIn_of _ (by decide +kernel)) ggL_law_X5_word
set_option maxRecDepth 20000 in
theorem ggL_law_X5_sentence : GoodIn wsL_law wsX5_sentence := goodIn_r _ [193, 12, 94, 174, 175, 176, 177, 178, 40, 179, 180, 105, 106, 2, 107, 194, 195, 196, 11, 197, 198, 133, 134, 135, 35, 186, 187, 188, 189, 16, 112, 113, 114, 15, 115, 116, 117, 118, 119, 120, 121, 122, 123, 63, 54, 124, 125, 126, 127, 34, 128, 129, 130, 131, 62, 132, 136, 137, 138, 139, 140, 141, 142, 143, 144, 145, 146, 147, 148, 149, 150, 412, 413, 414, 415, 416, 417, 418, 419, 420, 421, 422, 423, 424, 425, 426, 446, 447, 448, 449, 427, 428, 429, 430, 431, 432, 433, 434, 435, 436, 437, 438, 439, 440, 441] (by decide +kernel) (by decide +kernel)
set_option maxRecDepth 20000 in
theorem gL_law_X5_sentence : GoodIn wsL_law (wsV RL 22 RX5 yX5_sentence wsX5_sentence) := goodIn_app (goodIn_of _ (by decide +kernel)) ggL_law_X5_sentence
set_option maxRecDepth 20000 in
theorem ggL_law_X5_jump : GoodIn wsL_law wsX5_jump := goodIn_r _ [344, 16, 21, 97, 345, 346, 347, 15, 348, 54, 323, 67, 326, 349, 177, 178, 40, 179, 180, 106, 2, 107, 132, 133, 134, 11, 135, 35, 215, 216, 217, 20, 218, 219, 220, 221, 222, 223, 75, 224, 225, 226, 227, 228, 229, 230, 231, 55, 232, 62, 63, 64, 233, 65, 234, 66, 235, 236, 237, 238, 239, 240, 241, 242, 143, 243, 244, 245, 246, 247, 350, 351, 352, 353, 249, 250, 293, 294, 295, 296, 288, 163, 164, 165, 166, 120, 121, 122, 123, 124, 125, 126, 127, 34, 128, 129, 130, 131, 136, 137, 138, 139, 140, 141, 142, 144, 145, 146, 147, 148, 149, 150, 412, 413, 414, 415, 416, 417, 427, 428, 429, 430, 431, 432, 433, 434, 435, 436, 437, 438, 439, 440, 441, 418, 419, 420, 421, 422, 423, 424, 425, 426, 446, 447, 448, 449, 442, 443] (by decide +kernel) (by decide +kernel)
set_option maxRecDepth 20000 in
theorem gL_law_X5_jump : GoodIn wsL_law (wsV RL 58 RX5 yX5_jump wsX5_jump) := goodIn_app (goodIn_of _ (by decide +kernel)) ggL_law_X5_jump
set_option maxRecDepth 20000 in
theorem ggL_law_X5_goBack : GoodIn wsL_law wsX5_goBack := goodIn_r _ [357, 16, 21, 97, 358, 359, 360, 15, 361, 234, 215, 216, 217, 20, 218, 219, 220, 221, 222, 223, 75, 224, 225, 226, 227, 228, 229, 230, 231, 55, 232, 62, 63, 64, 67, 233, 65, 66, 235, 236, 237, 238, 239, 2, 240, 241, 242, 143, 243, 244, 245, 246, 247, 362, 363, 364, 365, 106, 107, 293, 294, 295, 296, 54, 288, 163, 164, 11, 165, 166, 120, 121, 122, 123, 124, 125, 126, 127, 34, 128, 129, 130, 131, 132, 133, 134, 135, 35, 136, 137, 138, 139, 140, 141, 142, 144, 145, 146, 147, 148, 149, 150, 249, 250, 412, 413, 414, 415, 416, 417, 427, 428, 429, 430, 431, 432, 433, 434, 435, 436, 437, 438, 439, 440, 441, 442, 443, 418, 419, 420, 421, 422, 423, 424, 425, 426] (by decide +kernel) (by decide +kernel)
set_option maxRecDepth 20000 in
theorem gL_law_X5_goBack : GoodIn wsL_law (wsV RL 61 RX5 yX5_goBack wsX5_goBack) := goodIn_app (goodIn_of _ (by decide +kernel)) ggL_law_X5_goBack
set_option maxRecDepth 20000 in
theorem ggL_law_X5_speed : GoodIn wsL_law wsX5_speed := goodIn_r _ [369, 21, 16, 91, 215, 216, 217, 20, 218, 219, 220, 221, 222, 223, 75, 224, 225, 226, 227, 228, 229, 230, 15, 231, 55, 232, 62, 63, 64, 67, 233, 65, 234, 66, 235, 236, 237, 238, 239, 2, 240, 241, 242, 143, 243, 244, 245, 246, 247, 105, 106, 107, 248, 249, 250, 412, 413, 414, 415, 416, 417, 427, 428, 429, 430, 431, 432, 433, 434, 435, 436, 437, 438, 439, 440, 441, 442, 443] (by decide +kernel) (by decide +kernel)
set_option maxRecDepth 20000 in
theorem gL_law_X5_speed : GoodIn wsL_law (wsV RL 64 RX5 yX5_speed wsX5_speed) := goodIn_app (goodIn_of _ (by decide +kernel)) ggL_law_X5_speed
set_option maxRecDepth 20000 in
theorem gc_law_wsL_parted_r1 : GoodIn wsL_law wsL_parted_r1 := goodIn_r _ [373, 374, 375, 2, 376, 16, 21, 377, 378, 379, 15, 380, 67, 215, 216, 217, 20, 218, 219, 220, 221, 222, 223, 75] (by decide +kernel) (by decide +kernel)
set_option maxRecDepth 20000 in
theorem gc_law_wsL_parted_r2 : GoodIn wsL_law wsL_parted_r2 := goodIn_r _ [224, 225, 226, 227, 228, 229, 230, 231, 55, 232, 62, 63, 64, 233, 65, 234, 66, 235, 236, 237, 238, 239, 240, 241] (by decide +kernel) (by decide +kernel)
set_option maxRecDepth 20000 in
theorem gc_law_wsL_parted_r3 : GoodIn wsL_law wsL_parted_r3 := goodIn_r _ [242, 143, 243, 244, 245, 246, 247, 381, 382, 383, 384, 54, 289, 290, 291, 11, 292, 166, 198, 133, 134, 135, 35, 106] (by decide +kernel) (by decide +kernel)
set_option maxRecDepth 20000 in
theorem gc_law_wsL_parted_r4 : GoodIn wsL_law wsL_parted_r4 := goodIn_r _ [107, 385, 386, 387, 388, 41, 185, 389, 390, 391, 392, 323, 325, 326, 393, 394, 395, 396, 397, 398, 125, 126, 127, 34] (by decide +kernel) (by decide +kernel)
set_option maxRecDepth 20000 in
theorem gc_law_wsL_parted_r5 : GoodIn wsL_law wsL_parted_r5 := goodIn_r _ [249, 250, 293, 294, 295, 296, 288, 163, 164, 165, 120, 121, 122, 123, 124, 128, 129, 130, 131, 132, 136, 137, 138, 139] (by decide +kernel) (by decide +kernel)
set_option maxRecDepth 20000 in
theorem gc_law_wsL_parted_r6 : GoodIn wsL_law wsL_parted_r6 := goodIn_r _ [140, 141, 142, 144, 145, 146, 147, 148, 149, 150, 86, 87, 88, 89, 90, 91, 92, 12, 93, 94, 95, 96, 97, 98] (by decide +kernel) (by decide +kernel)
set_option maxRecDepth 20000 in
theorem gc_law_wsL_parted_r7 : GoodIn wsL_law wsL_parted_r7 := goodIn_w (List.mem_of_getElem? (i := 99) rfl) rfl (goodIn_w (List.mem_of_getElem? (i := 100) rfl) rfl (goodIn_w (List.mem_of_getElem? (i := 101) rfl) rfl (goodIn_w (List.mem_of_getElem? (i := 102) rfl) rfl (goodIn_w (List.mem_of_getElem? (i := 103) rfl) rfl (goodIn_w (List.mem_of_getElem? (i := 25) rfl) rfl (goodIn_w (List.mem_of_getElem? (i := 104) rfl) rfl (goodIn_w (List.mem_of_getElem? (i := 105) rfl) rfl (goodIn_w (List.mem_of_getElem? (i := 108) rfl) rfl (goodIn_w (List.mem_of_getElem? (i := 109) rfl) rfl (goodIn_w (List.mem_of_getElem? (i := 110) rfl) rfl (goodIn_w (List.mem_of_getElem? (i := 111) rfl) rfl (goodIn_w (List.mem_of_getElem? (i := 112) rfl) rfl (goodIn_w (List.mem_of_getElem? (i := 113) rfl) rfl (goodIn_w (List.mem_of_getElem? (i := 114) rfl) rfl (goodIn_w (List.mem_of_getElem? (i := 115) rfl) rfl (goodIn_w (List.mem_of_getElem? (i := 116) rfl) rfl (goodIn_w (List.mem_of_getElem? (i := 117) rfl) rfl (goodIn_w (List.mem_of_getElem? (i := 118) rfl) rfl (goodIn_w (List.mem_of_getElem? (i := 119) rfl) rfl (goodIn_w (List.mem_of_getElem? (i := 82) rfl) rfl (goodIn_w (List.mem_of_getElem? (i := 83) rfl) rfl (goodIn_w (List.mem_of_getElem? (i := 84) rfl) rfl (goodIn_w (List.mem_of_getElem? (i := 85) rfl) rfl (goodIn_n))))))))))))))))))))))))
set_option maxRecDepth 20000 in
theorem gc_law_wsL_parted_r8 : GoodIn wsL_law wsL_parted_r8 := goodIn_r _ [151, 152, 153, 154, 155, 156, 157, 158, 159, 160, 161, 162, 167, 168, 169, 170, 171, 172, 173, 174, 175, 176, 177, 178] (by decide +kernel) (by decide +kernel)
set_option maxRecDepth 20000 in
theorem gc_law_wsL_parted_r9 : GoodIn wsL_law wsL_parted_r9 := goodIn_r _ [40, 179, 180, 181, 182, 183, 184, 186, 187, 188, 189, 190, 191, 192, 193, 194, 195, 196, 197, 399, 400, 401, 402, 211] (by decide +kernel) (by decide +kernel)
set_option maxRecDepth 20000 in
theorem gc_law_wsL_parted_r10 : GoodIn wsL_law wsL_parted_r10 := goodIn_r _ [403, 404, 405, 406, 407, 256, 257, 258, 259, 260, 261, 262, 32, 33, 36, 37, 263, 264, 265, 266, 267, 268, 269, 270] (by decide +kernel) (by decide +kernel)
set_option maxRecDepth 20000 in
theorem gc_law_wsL_parted_r11 : GoodIn wsL_law wsL_parted_r11 := goodIn_r _ [271, 272, 273, 274, 275, 276, 277, 278, 279, 42, 280, 281, 282, 283, 284, 285, 286, 287, 47, 48, 49] (by decide +kernel) (by decide +kernel)
set_option maxRecDepth 20000 in
theorem gc_law_p_wsX50 : GoodIn wsL_law wsX50 := goodIn_r _ [412, 413, 414, 415, 416, 417] (by decide +kernel) (by decide +kernel)
set_option maxRecDepth 20000 in
theorem gc_law_p_wsX30 : GoodIn wsL_law wsX30 := goodIn_r _ [427, 428, 429, 430, 431, 432, 433, 434, 435, 436, 437, 438, 439, 440, 441] (by decide +kernel) (by decide +kernel)
set_option maxRecDepth 20000 in
theorem gc_law_p_wsX00 : GoodIn wsL_law wsX00 := goodIn_r _ [442, 443] (by decide +kernel) (by decide +kernel)
set_option maxRecDepth 20000 in
theorem gc_law_p_wsX40 : GoodIn wsL_law wsX40 := goodIn_r _ [418, 419, 420, 421, 422, 423, 424, 425, 426] (by decide +kernel) (by decide +kernel)
set_option maxRecDepth 20000 in
theorem gc_law_p_wsX20 : GoodIn wsL_law wsX20 := goodIn_r _ [446, 447, 448, 449] (by decide +kernel) (by decide +kernel)
set_option maxRecDepth 20000 in
theorem gc_law_p_wsX10 : GoodIn wsL_law wsX10 := goodIn_r _ [444, 445] (by decide +kernel) (by decide +kernel)
set_option maxRecDepth 20000 in
theorem ggL_law_L_parted : GoodIn wsL_law wsL_parted := goodIn_w (List.mem_of_getElem? (i := 372) rfl) rfl (goodIn_app (goodIn_app (goodIn_app (goodIn_app (goodIn_app (goodIn_app (goodIn_app gc_law_wsL_parted_r1 (goodIn_app gc_law_wsL_parted_r2 (goodIn_app gc_law_wsL_parted_r3 (goodIn_app gc_law_wsL_parted_r4 (goodIn_app gc_law_wsL_parted_r5 (goodIn_app gc_law_wsL_parted_r6 (goodIn_app gc_law_wsL_parted_r7 (goodIn_app gc_law_wsL_parted_r8 (goodIn_app gc_law_wsL_parted_r9 (goodIn_app gc_law_wsL_parted_r10 gc_law_wsL_parted_r11)))))))))) gc_law_p_wsX50) gc_law_p_wsX30) gc_law_p_wsX00) gc_law_p_wsX40) gc_law_p_wsX20) gc_law_p_wsX10)
set_option maxRecDepth 20000 in
theorem gL_law_L_parted : GoodIn wsL_law (va_wsS RL 67 yL_parted wsL_parted) := goodIn_app (goodIn_of _ (by decide +kernel)) ggL_law_L_parted
set_option maxRecDepth 20000 in
theorem ggL_law_X5_cut : GoodIn wsL_law wsX5_cut := goodIn_r _ [411, 16, 92, 21, 215, 216, 217, 20, 218, 219, 220, 221, 222, 223, 75, 224, 225, 226, 227, 228, 229, 230, 15, 231, 55, 232, 62, 63, 64, 67, 233, 65, 234, 66, 235, 236, 237, 238, 239, 2, 240, 241, 242, 143, 243, 244, 245, 246, 247, 251, 252, 253, 254, 54, 255, 256, 257, 11, 258, 166, 106, 107, 259, 260, 261, 262, 32, 33, 34, 35, 36, 37, 263, 264, 265, 266, 267, 268, 269, 249, 250, 270, 271, 272, 273, 274, 275, 276, 277, 278, 279, 41, 42, 280, 281, 282, 40, 283, 180, 284, 285, 286, 287, 47, 48, 49, 68, 69, 288, 163, 164, 165, 132, 133, 134, 135, 289, 290, 291, 292, 198, 293, 294, 295, 296, 120, 121, 122, 123, 124, 125, 126, 127, 128, 129, 130, 131, 136, 137, 138, 139, 140, 141, 142, 144, 145, 146, 147, 148, 149, 150, 412, 413, 414, 415, 416, 417, 427, 428, 429, 430, 431, 432, 433, 434, 435, 436, 437, 438, 439, 440, 441, 442, 443, 418, 419, 420, 421, 422, 423, 424, 425, 426, 446, 447, 448, 449] (by decide +kernel) (by decide +kernel)
set_option maxRecDepth 20000 in
theorem gL_law_X5_cut : GoodIn wsL_law (wsV RL 71 RX5 yX5_cut wsX5_cut) := goodIn_app (goodIn_of _ (by decide +kernel)) ggL_law_X5_cut
set_option maxRecDepth 20000 in
theorem ggL_law_X5_undo : GoodIn wsL_law wsX5_undo := goodIn_r _ [402, 21, 103, 16, 12, 211, 92, 403, 404, 405, 20, 406, 219, 224, 225, 226, 227, 75, 228, 229, 230, 15, 231, 55, 232, 62, 63, 64, 67, 233, 65, 234, 66, 235, 236, 237, 238, 239, 2, 240, 241, 242, 143, 243, 244, 245, 246, 247, 407, 256, 257, 11, 258, 166, 106, 107, 259, 260, 261, 262, 32, 33, 34, 35, 36, 37, 263, 264, 265, 266, 267, 268, 269, 249, 250, 270, 271, 272, 273, 274, 275, 276, 277, 278, 279, 41, 42, 280, 281, 282, 40, 283, 180, 284, 285, 286, 287, 47, 48, 49, 412, 413, 414, 415, 416, 417, 442, 443, 427, 428, 429, 430, 431, 432, 433, 434, 435, 436, 437, 438, 439, 440, 441, 418, 419, 420, 421, 422, 423, 424, 425, 426, 446, 447, 448, 449] (by decide +kernel) (by decide +kernel)
set_option maxRecDepth 20000 in
theorem gL_law_X5_undo : GoodIn wsL_law (wsV RL 34 RX5 yX5_undo wsX5_undo) := goodIn_app (goodIn_of _ (by decide +kernel)) ggL_law_X5_undo
