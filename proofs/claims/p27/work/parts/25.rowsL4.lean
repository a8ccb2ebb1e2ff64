set_option maxRecDepth 20000 in
theorem ggL_law_X5_init : GoodIn wsL_law wsX5_init := goodIn_r _ [5, 6, 7, 8, 9, 10, 11, 12, 13, 14, 15, 16, 17, 18, 19, 20, 21, 22, 23, 24, 25, 26, 27, 28, 29, 30, 31, 32, 33, 34, 35, 36, 37, 38, 39, 40, 41, 42, 43, 44, 45, 46, 47, 48, 49, 50, 51, 52, 53, 54, 55, 56, 57, 58, 59, 60, 61, 62, 63, 64, 65, 66, 67, 68, 2, 69, 70, 71, 72, 73, 74, 75, 76, 77, 78, 79, 80, 81, 418, 419, 420, 421, 422, 423, 424, 425, 426, 412, 413, 414, 415, 416, 417, 427, 428, 429, 430, 431, 432, 433, 434, 435, 436, 437, 438, 439, 440, 441, 442, 443, 444, 445, 446, 447, 448, 449] (by decide +kernel) (by decide +kernel)
set_option maxRecDepth 20000 in
theorem gL_law_X5_init : GoodIn wsL_law (wsX5_init) := ggL_law_X5_init
set_option maxRecDepth 20000 in
theorem gc_law_wsL_holds_r1 : GoodIn wsL_law wsL_holds_r1 := goodIn_r _ [86, 87, 88, 2, 89, 16, 90, 91, 92, 12, 93, 94, 95, 96, 97, 98, 99, 100, 101, 102, 21, 103, 25, 104] (by decide +kernel) (by decide +kernel)
set_option maxRecDepth 20000 in
theorem gc_law_wsL_holds_r2 : GoodIn wsL_law wsL_holds_r2 := goodIn_r _ [105, 106, 107, 108, 109, 110, 15, 111, 64, 112, 113, 114, 115, 116, 117, 118, 119, 120, 121, 122, 123, 63, 54, 124] (by decide +kernel) (by decide +kernel)
set_option maxRecDepth 20000 in
theorem gc_law_wsL_holds_r3 : GoodIn wsL_law wsL_holds_r3 := goodIn_r _ [125, 126, 11, 127, 34, 128, 129, 130, 131, 62, 132, 133, 134, 135, 35, 136, 137, 138, 139, 140, 141, 142, 143, 144] (by decide +kernel) (by decide +kernel)
set_option maxRecDepth 20000 in
theorem gc_law_wsL_holds_r4 : GoodIn wsL_law wsL_holds_r4 := goodIn_r _ [145, 146, 147, 148, 149, 150, 151, 152, 153, 154, 155, 156, 157, 158, 159, 160, 161, 162, 163, 164, 165, 166, 167, 168] (by decide +kernel) (by decide +kernel)
set_option maxRecDepth 20000 in
theorem gc_law_wsL_holds_r5 : GoodIn wsL_law wsL_holds_r5 := goodIn_r _ [169, 170, 171, 172, 173, 174, 175, 176, 177, 178, 40, 179, 180, 181, 182, 183, 184, 41, 185, 186, 187, 188, 189, 190] (by decide +kernel) (by decide +kernel)
set_option maxRecDepth 20000 in
theorem gc_law_wsL_holds_r6 : GoodIn wsL_law wsL_holds_r6 := goodIn_r _ [191, 192, 193, 194, 195, 196, 197, 198] (by decide +kernel) (by decide +kernel)
set_option maxRecDepth 20000 in
theorem gc_law_wsX50 : GoodIn wsL_law wsX50 := goodIn_r _ [412, 413, 414, 415, 416, 417] (by decide +kernel) (by decide +kernel)
set_option maxRecDepth 20000 in
theorem gc_law_wsX30 : GoodIn wsL_law wsX30 := goodIn_r _ [427, 428, 429, 430, 431, 432, 433, 434, 435, 436, 437, 438, 439, 440, 441] (by decide +kernel) (by decide +kernel)
set_option maxRecDepth 20000 in
theorem gc_law_wsX40 : GoodIn wsL_law wsX40 := goodIn_r _ [418, 419, 420, 421, 422, 423, 424, 425, 426] (by decide +kernel) (by decide +kernel)
set_option maxRecDepth 20000 in
theorem gc_law_wsX20 : GoodIn wsL_law wsX20 := goodIn_r _ [446, 447, 448, 449] (by decide +kernel) (by decide +kernel)
set_option maxRecDepth 20000 in
theorem gc_law_wsX00 : GoodIn wsL_law wsX00 := goodIn_r _ [442, 443] (by decide +kernel) (by decide +kernel)
set_option maxRecDepth 20000 in
theorem gc_law_wsX10 : GoodIn wsL_law wsX10 := goodIn_r _ [444, 445] (by decide +kernel) (by decide +kernel)
set_option maxRecDepth 20000 in
theorem ggL_law_L_holds : GoodIn wsL_law wsL_holds := goodIn_w (List.mem_of_getElem? (i := 85) rfl) rfl (goodIn_app (goodIn_app (goodIn_app (goodIn_app (goodIn_app (goodIn_app (goodIn_app gc_law_wsL_holds_r1 (goodIn_app gc_law_wsL_holds_r2 (goodIn_app gc_law_wsL_holds_r3 (goodIn_app gc_law_wsL_holds_r4 (goodIn_app gc_law_wsL_holds_r5 gc_law_wsL_holds_r6))))) gc_law_wsX50) gc_law_wsX30) gc_law_wsX40) gc_law_wsX20) gc_law_wsX00) gc_law_wsX10)
set_option maxRecDepth 20000 in
theorem gL_law_L_holds : GoodIn wsL_law (va_wsS RL 28 yL_holds wsL_holds) := goodIn_app (goodIn_of _ (by decide +kernel)) ggL_law_L_holds
set_option maxRecDepth 20000 in
theorem ggL_law_L_cell : GoodIn wsL_law wsL_cell := goodIn_r _ [201, 202, 203] (by decide +kernel) (by decide +kernel)
set_option maxRecDepth 20000 in
theorem gL_law_L_cell : GoodIn wsL_law (va_wsS RL 39 yL_cell wsL_cell) := goodIn_app (goodIn_of _ (by decide +kernel)) ggL_law_L_cell
set_option maxRecDepth 20000 in
theorem ggL_law_L_sign : GoodIn wsL_law wsL_sign := goodIn_r _ [206] (by decide +kernel) (by decide +kernel)
set_option maxRecDepth 20000 in
theorem gL_law_L_sign : GoodIn wsL_law (va_wsS RL 43 yL_sign wsL_sign) := goodIn_app (goodIn_of _ (by decide +kernel)) ggL_law_L_sign
set_option maxRecDepth 20000 in
theorem ggL_law_X5_append : GoodIn wsL_law wsX5_append := goodIn_r _ [210, 16, 92, 21, 211, 12, 93, 212, 213, 2, 214, 215, 216, 217, 20, 218, 219, 220, 221, 222, 223, 75, 224, 225, 226, 227, 228, 229, 230, 15, 231, 55, 232, 62, 63, 64, 67, 233, 65, 234, 66, 235, 236, 237, 238, 239, 240, 241, 242, 143, 243, 244, 245, 246, 247, 248, 249, 250, 251, 252, 253, 254, 54, 255, 256, 257, 11, 258, 166, 106, 107, 259, 260, 261, 262, 32, 33, 34, 35, 36, 37, 263, 264, 265, 266, 267, 268, 269, 270, 271, 272, 273, 274, 275, 276, 277, 278, 279, 41, 42, 280, 281, 282, 40, 283, 180, 284, 285, 286, 287, 47, 48, 49, 68, 69, 288, 163, 164, 165, 132, 133, 134, 135, 289, 290, 291, 292, 198, 293, 294, 295, 296, 120, 121, 122, 123, 124, 125, 126, 127, 128, 129, 130, 131, 136, 137, 138, 139, 140, 141, 142, 144, 145, 146, 147, 148, 149, 150, 412, 413, 414, 415, 416, 417, 427, 428, 429, 430, 431, 432, 433, 434, 435, 436, 437, 438, 439, 440, 441, 418, 419, 420, 421, 422, 423, 424, 425, 426, 442, 443, 446, 447, 448, 449] (by decide +kernel) (by decide +kernel)
set_option maxRecDepth 20000 in
theorem gL_law_X5_append : GoodIn wsL_law (wsV RL 46 RX5 yX5_append wsX5_append) := goodIn_app (goodIn_of _ (by decide +kernel)) ggL_law_X5_append
set_option maxRecDepth 20000 in
theorem ggL_law_X5_count : GoodIn wsL_law wsX5_count := goodIn_r _ [89, 16, 90, 91, 92, 12, 93, 94, 95, 96, 97, 98, 99, 100, 101, 102, 21, 103, 25, 104, 105, 106, 2, 107, 108, 109, 110, 15, 111, 64, 112, 113, 114, 115, 116, 117, 118, 119, 120, 121, 122, 123, 63, 54, 124, 125, 126, 11, 127, 34, 128, 129, 130, 131, 62, 132, 133, 134, 135, 35, 136, 137, 138, 139, 140, 141, 142, 143, 144, 145, 146, 147, 148, 149, 150, 412, 413, 414, 415, 416, 417, 427, 428, 429, 430, 431, 432, 433, 434, 435, 436, 437, 438, 439, 440, 441, 418, 419, 420, 421, 422, 423, 424, 425, 426, 446, 447, 448, 449, 442, 443, 444, 445] (by decide +kernel) (by decide +kernel)
set_option maxRecDepth 20000 in
theorem gL_law_X5_count : GoodIn wsL_law (wsV RL 9 RX5 yX5_count wsX5_count) := goodIn_app (goodIn_of _ (by decide +kernel)) ggL_law_X5_count
set_option maxRecDepth 20000 in
theorem ggL_law_X5_set : GoodIn wsL_law wsX5_set := goodIn_r _ [300, 301, 302, 21, 16, 90, 105, 106, 2, 107, 215, 216, 217, 20, 218, 219, 220, 221, 222, 223, 75, 224, 225, 226, 227, 228, 229, 230, 15, 231, 55, 232, 62, 63, 64, 67, 233, 65, 234, 66, 235, 236, 237, 238, 239, 240, 241, 242, 143, 243, 244, 245, 246, 247, 248, 249, 250, 412, 413, 414, 415, 416, 417, 427, 428, 429, 430, 431, 432, 433, 434, 435, 436, 437, 438, 439, 440, 441, 442, 443] (by decide +kernel) (by decide +kernel)
set_option maxRecDepth 20000 in
theorem gL_law_X5_set : GoodIn wsL_law (wsV RL 49 RX5 yX5_set wsX5_set) := goodIn_app (goodIn_of _ (by decide +kernel)) ggL_law_X5_set
set_option maxRecDepth 20000 in
theorem ggL_law_X5_back : GoodIn wsL_law wsX5_back := goodIn_r _ [306, 16, 21, 97, 307, 308, 309, 15, 310, 54, 289, 290, 291, 11, 292, 166, 198, 133, 134, 135, 35, 106, 2, 107, 215, 216, 217, 20, 218, 219, 220, 221, 222, 223, 75, 224, 225, 226, 227, 228, 229, 230, 231, 55, 232, 62, 63, 64, 67, 233, 65, 234, 66, 235, 236, 237, 238, 239, 240, 241, 242, 143, 243, 244, 245, 246, 247, 311, 312, 313, 314, 141, 142, 144, 315, 316, 317, 318, 124, 125, 126, 127, 34, 249, 250, 319, 320, 321, 322, 323, 324, 325, 326, 327, 328, 329, 330, 41, 331, 293, 294, 295, 296, 288, 163, 164, 165, 120, 121, 122, 123, 128, 129, 130, 131, 132, 136, 137, 138, 139, 140, 145, 146, 147, 148, 149, 150, 412, 413, 414, 415, 416, 417, 427, 428, 429, 430, 431, 432, 433, 434, 435, 436, 437, 438, 439, 440, 441, 418, 419, 420, 421, 422, 423, 424, 425, 426, 442, 443, 446, 447, 448, 449] (by decide +kernel) (by decide +kernel)
set_option maxRecDepth 20000 in
theorem gL_law_X5_back : GoodIn wsL_law (wsV RL 52 RX5 yX5_back wsX5_back) := goodIn_app (goodIn_of _ (by decide +kernel)) ggL_law_X5_back
set_option maxRecDepth 20000 in
theorem ggL_law_X5_longest : GoodIn wsL_law wsX5_longest := goodIn_r _ [335, 12, 93, 27, 16, 169, 117, 118, 15, 119, 120, 121, 122, 123, 63, 54, 124, 125, 126, 11, 127, 34, 106, 2, 107, 128, 129, 130, 131, 62, 132, 133, 134, 135, 35, 136, 137, 138, 139, 140, 141, 142, 143, 144, 145, 146, 147, 148, 149, 150, 248, 249, 250, 336, 337, 338, 339, 340, 105, 412, 413, 414, 415, 416, 417, 418, 419, 420, 421, 422, 423, 424, 425, 426, 427, 428, 429, 430, 431, 432, 433, 434, 435, 436, 437, 438, 439, 440, 441] (by decide +kernel) (by decide +kernel)
