set_option maxRecDepth 20000 in
theorem ggL_law_X6_init : GoodIn wsL_law wsX6_init := goodIn_r _ [87, 88, 10, 11, 29, 89, 90, 91, 92, 93, 94, 95, 96, 97, 98, 99, 100, 101, 769, 770, 771, 772, 773, 774, 775, 776, 777, 778, 779, 780, 781, 782, 783, 784, 785, 786, 787] (by decide +kernel) (by decide +kernel)
set_option maxRecDepth 20000 in
theorem gL_law_X6_init : GoodIn wsL_law (wsX6_init) := ggL_law_X6_init
set_option maxRecDepth 20000 in
theorem ggL_law_X6_append : GoodIn wsL_law wsX6_append := goodIn_r _ [236, 89, 237, 238, 239, 5, 240, 241, 242, 243, 244, 245, 90, 246, 247, 248, 249, 250, 251, 252, 253, 100, 254, 101, 255, 256, 257, 258, 259, 94, 95, 97, 96, 99, 260, 261, 262, 263, 264, 265, 266, 267, 268, 269, 270, 271, 272, 273, 274, 275, 276, 277, 278, 279, 280, 281, 282, 283, 284, 285, 286, 287, 288, 289, 290, 291, 292, 293, 294, 295, 296, 297, 769, 770, 771, 772, 773, 774, 775, 776, 777, 778, 779, 780, 781, 782, 783, 784, 785, 786, 787] (by decide +kernel) (by decide +kernel)
set_option maxRecDepth 20000 in
theorem gL_law_X6_append : GoodIn wsL_law (wsV RL 17 RX6 yX6_append wsX6_append) := goodIn_app (goodIn_of _ (by decide +kernel)) ggL_law_X6_append
set_option maxRecDepth 20000 in
theorem ggL_law_X6_cut : GoodIn wsL_law wsX6_cut := goodIn_r _ [305, 89, 238, 239, 5, 240, 241, 242, 243, 244, 245, 90, 246, 247, 248, 249, 237, 250, 251, 252, 253, 100, 254, 101, 255, 256, 257, 258, 259, 94, 95, 97, 96, 99, 260, 261, 262, 263, 264, 265, 266, 267, 268, 269, 270, 271, 272, 273, 274, 275, 276, 277, 278, 279, 280, 281, 282, 283, 284, 285, 286, 287, 288, 289, 290, 291, 292, 293, 294, 295, 296, 297, 769, 770, 771, 772, 773, 774, 775, 776, 777, 778, 779, 780, 781, 782, 783, 784, 785, 786, 787] (by decide +kernel) (by decide +kernel)
set_option maxRecDepth 20000 in
theorem gL_law_X6_cut : GoodIn wsL_law (wsV RL 21 RX6 yX6_cut wsX6_cut) := goodIn_app (goodIn_of _ (by decide +kernel)) ggL_law_X6_cut
set_option maxRecDepth 20000 in
theorem ggL_law_X6_word : GoodIn wsL_law wsX6_word := goodIn_r _ [330, 94, 95, 96, 97, 100, 101, 89, 331, 332, 333, 5, 334, 237, 238, 239, 240, 335, 336, 337, 338, 286, 287, 288, 289, 294, 295, 296, 297, 282, 283, 284, 285, 290, 291, 292, 293, 99, 339, 340, 341, 342, 264, 265, 266, 267, 268, 269, 769, 770, 771, 772, 773, 774, 775, 776, 777, 778, 779, 780, 781, 782, 783, 784, 785, 786, 787] (by decide +kernel) (by decide +kernel)
set_option maxRecDepth 20000 in
theorem gL_law_X6_word : GoodIn wsL_law (wsV RL 26 RX6 yX6_word wsX6_word) := goodIn_app (goodIn_of _ (by decide +kernel)) ggL_law_X6_word
set_option maxRecDepth 20000 in
theorem ggL_law_X6_sentence : GoodIn wsL_law wsX6_sentence := goodIn_r _ [369, 237, 100, 370, 371, 372, 5, 373, 254, 238, 239, 240, 282, 283, 284, 285, 89, 286, 287, 288, 289, 96, 290, 291, 292, 293, 97, 99, 294, 295, 296, 297, 274, 275, 276, 277, 769, 770, 771, 772, 773, 774, 775, 776, 777, 778, 779, 780, 781, 782, 783, 784, 785, 786, 787] (by decide +kernel) (by decide +kernel)
set_option maxRecDepth 20000 in
theorem gL_law_X6_sentence : GoodIn wsL_law (wsV RL 30 RX6 yX6_sentence wsX6_sentence) := goodIn_app (goodIn_of _ (by decide +kernel)) ggL_law_X6_sentence
set_option maxRecDepth 20000 in
theorem ggL_law_X6_page : GoodIn wsL_law wsX6_page := goodIn_r _ [386, 237, 101, 100, 387, 388, 389, 5, 390, 255, 238, 239, 240, 282, 283, 284, 285, 89, 286, 287, 288, 289, 96, 290, 291, 292, 293, 97, 99, 294, 295, 296, 297, 769, 770, 771, 772, 773, 774, 775, 776, 777, 778, 779, 780, 781, 782, 783, 784, 785, 786, 787] (by decide +kernel) (by decide +kernel)
set_option maxRecDepth 20000 in
theorem gL_law_X6_page : GoodIn wsL_law (wsV RL 34 RX6 yX6_page wsX6_page) := goodIn_app (goodIn_of _ (by decide +kernel)) ggL_law_X6_page
set_option maxRecDepth 20000 in
theorem ggL_law_X6_count : GoodIn wsL_law wsX6_count := goodIn_r _ [413, 89, 237, 254, 255, 245, 414, 238, 239, 5, 240, 282, 283, 284, 285, 286, 287, 288, 289, 96, 290, 291, 292, 293, 97, 99, 294, 295, 296, 297, 769, 770, 771, 772, 773, 774, 775, 776, 777, 778, 779, 780, 781, 782, 783, 784, 785, 786, 787] (by decide +kernel) (by decide +kernel)
set_option maxRecDepth 20000 in
theorem gL_law_X6_count : GoodIn wsL_law (wsV RL 38 RX6 yX6_count wsX6_count) := goodIn_app (goodIn_of _ (by decide +kernel)) ggL_law_X6_count
set_option maxRecDepth 20000 in
theorem ggL_law_X6_set : GoodIn wsL_law wsX6_set := goodIn_r _ [424, 89, 425, 426, 5, 427, 238, 239, 240, 241, 242, 243, 244, 245, 90, 769, 770, 771, 772, 773, 774, 775, 776, 777, 778, 779, 780, 781, 782, 783, 784, 785, 786, 787] (by decide +kernel) (by decide +kernel)
set_option maxRecDepth 20000 in
theorem gL_law_X6_set : GoodIn wsL_law (wsV RL 42 RX6 yX6_set wsX6_set) := goodIn_app (goodIn_of _ (by decide +kernel)) ggL_law_X6_set
set_option maxRecDepth 20000 in
theorem ggL_law_X6_speed : GoodIn wsL_law wsX6_speed := goodIn_r _ [435, 89, 238, 239, 5, 240, 241, 242, 243, 244, 245, 90, 769, 770, 771, 772, 773, 774, 775, 776, 777, 778, 779, 780, 781, 782, 783, 784, 785, 786, 787] (by decide +kernel) (by decide +kernel)
set_option maxRecDepth 20000 in
theorem gL_law_X6_speed : GoodIn wsL_law (wsV RL 46 RX6 yX6_speed wsX6_speed) := goodIn_app (goodIn_of _ (by decide +kernel)) ggL_law_X6_speed
set_option maxRecDepth 20000 in
theorem ggL_law_X6_run : GoodIn wsL_law wsX6_run := goodIn_r _ [468, 89, 238, 239, 5, 240, 241, 242, 243, 244, 245, 90, 469, 470, 471, 472, 473, 474, 475, 476, 237, 100, 477, 478, 479, 480, 97, 274, 275, 276, 277, 286, 287, 288, 289, 96, 278, 279, 280, 281, 282, 283, 284, 285, 290, 291, 292, 293, 99, 294, 295, 296, 297, 769, 770, 771, 772, 773, 774, 775, 776, 777, 778, 779, 780, 781, 782, 783, 784, 785, 786, 787] (by decide +kernel) (by decide +kernel)
set_option maxRecDepth 20000 in
theorem gL_law_X6_run : GoodIn wsL_law (wsV RL 50 RX6 yX6_run wsX6_run) := goodIn_app (goodIn_of _ (by decide +kernel)) ggL_law_X6_run
set_option maxRecDepth 20000 in
theorem ggL_law_X6_back : GoodIn wsL_law wsX6_back := goodIn_r _ [510, 89, 270, 271, 272, 5, 273, 237, 274, 275, 276, 277, 97, 241, 242, 243, 244, 245, 90, 511, 512, 513, 514, 254, 100, 286, 287, 288, 289, 96, 515, 516, 517, 518, 278, 279, 280, 281, 282, 283, 284, 285, 290, 291, 292, 293, 99, 294, 295, 296, 297, 769, 770, 771, 772, 773, 774, 775, 776, 777, 778, 779, 780, 781, 782, 783, 784, 785, 786, 787] (by decide +kernel) (by decide +kernel)
set_option maxRecDepth 20000 in
theorem gL_law_X6_back : GoodIn wsL_law (wsV RL 55 RX6 yX6_back wsX6_back) := goodIn_app (goodIn_of _ (by decide +kernel)) ggL_law_X6_back
set_option maxRecDepth 20000 in
theorem ggL_law_X6_jump : GoodIn wsL_law wsX6_jump := goodIn_r _ [535, 89, 370, 371, 372, 5, 373, 254, 238, 239, 240, 536, 537, 538, 539, 515, 516, 517, 518, 237, 100, 274, 275, 276, 277, 97, 241, 242, 243, 244, 245, 90, 540, 541, 542, 543, 278, 279, 280, 281, 282, 283, 284, 285, 286, 287, 288, 289, 96, 290, 291, 292, 293, 99, 294, 295, 296, 297, 769, 770, 771, 772, 773, 774, 775, 776, 777, 778, 779, 780, 781, 782, 783, 784, 785, 786, 787] (by decide +kernel) (by decide +kernel)
set_option maxRecDepth 20000 in
theorem gL_law_X6_jump : GoodIn wsL_law (wsV RL 59 RX6 yX6_jump wsX6_jump) := goodIn_app (goodIn_of _ (by decide +kernel)) ggL_law_X6_jump
set_option maxRecDepth 20000 in
theorem ggL_law_X6_goBack : GoodIn wsL_law wsX6_goBack := goodIn_r _ [559, 89, 241, 242, 243, 5, 244, 245, 90, 560, 561, 562, 563, 278, 279, 280, 281, 282, 283, 284, 285, 286, 287, 288, 289, 96, 290, 291, 292, 293, 97, 99, 294, 295, 296, 297, 769, 770, 771, 772, 773, 774, 775, 776, 777, 778, 779, 780, 781, 782, 783, 784, 785, 786, 787] (by decide +kernel) (by decide +kernel)
set_option maxRecDepth 20000 in
theorem gL_law_X6_goBack : GoodIn wsL_law (wsV RL 63 RX6 yX6_goBack wsX6_goBack) := goodIn_app (goodIn_of _ (by decide +kernel)) ggL_law_X6_goBack
