set_option maxRecDepth 20000 in
theorem ggL_law_X6_ifRun : GoodIn wsL_law wsX6_ifRun := goodIn_r _ [572, 89, 238, 239, 5, 240, 573, 574, 575, 576, 91, 469, 470, 471, 472, 473, 474, 475, 476, 237, 100, 477, 478, 479, 480, 97, 274, 275, 276, 277, 286, 287, 288, 289, 96, 278, 279, 280, 281, 282, 283, 284, 285, 290, 291, 292, 293, 99, 294, 295, 296, 297, 577, 578, 579, 580, 769, 770, 771, 772, 773, 774, 775, 776, 777, 778, 779, 780, 781, 782, 783, 784, 785, 786, 787] (by decide +kernel) (by decide +kernel)
set_option maxRecDepth 20000 in
theorem gL_law_X6_ifRun : GoodIn wsL_law (wsV RL 67 RX6 yX6_ifRun wsX6_ifRun) := goodIn_app (goodIn_of _ (by decide +kernel)) ggL_law_X6_ifRun
set_option maxRecDepth 20000 in
theorem ggL_law_X6_left : GoodIn wsL_law wsX6_left := goodIn_r _ [589, 89, 573, 574, 575, 5, 576, 91, 469, 470, 471, 472, 473, 474, 475, 476, 237, 100, 477, 478, 479, 480, 97, 274, 275, 276, 277, 286, 287, 288, 289, 96, 278, 279, 280, 281, 282, 283, 284, 285, 290, 291, 292, 293, 99, 294, 295, 296, 297, 577, 578, 579, 580, 769, 770, 771, 772, 773, 774, 775, 776, 777, 778, 779, 780, 781, 782, 783, 784, 785, 786, 787] (by decide +kernel) (by decide +kernel)
set_option maxRecDepth 20000 in
theorem gL_law_X6_left : GoodIn wsL_law (wsV RL 71 RX6 yX6_left wsX6_left) := goodIn_app (goodIn_of _ (by decide +kernel)) ggL_law_X6_left
set_option maxRecDepth 20000 in
theorem ggL_law_X6_undo : GoodIn wsL_law wsX6_undo := goodIn_r _ [602, 245, 89, 90, 250, 251, 252, 5, 253, 237, 100, 254, 101, 255, 256, 257, 258, 259, 94, 95, 97, 96, 99, 260, 261, 262, 263, 264, 265, 266, 267, 268, 269, 238, 239, 240, 769, 770, 771, 772, 773, 774, 775, 776, 777, 778, 779, 780, 781, 782, 783, 784, 785, 786, 787] (by decide +kernel) (by decide +kernel)
set_option maxRecDepth 20000 in
theorem gL_law_X6_undo : GoodIn wsL_law (wsV RL 75 RX6 yX6_undo wsX6_undo) := goodIn_app (goodIn_of _ (by decide +kernel)) ggL_law_X6_undo
set_option maxRecDepth 20000 in
theorem ggL_law_X6_note : GoodIn wsL_law wsX6_note := goodIn_r _ [615, 89, 331, 332, 333, 5, 334, 237, 238, 239, 240, 616, 617, 618, 619, 274, 275, 276, 277, 97, 335, 336, 337, 338, 241, 242, 243, 244, 245, 90, 620, 621, 622, 623, 769, 770, 771, 772, 773, 774, 775, 776, 777, 778, 779, 780, 781, 782, 783, 784, 785, 786, 787] (by decide +kernel) (by decide +kernel)
set_option maxRecDepth 20000 in
theorem gL_law_X6_note : GoodIn wsL_law (wsV RL 79 RX6 yX6_note wsX6_note) := goodIn_app (goodIn_of _ (by decide +kernel)) ggL_law_X6_note
set_option maxRecDepth 20000 in
theorem ggL_law_X6_unnote : GoodIn wsL_law wsX6_unnote := goodIn_r _ [631, 89, 331, 332, 333, 5, 334, 237, 238, 239, 240, 335, 336, 337, 338, 241, 242, 243, 244, 245, 90, 769, 770, 771, 772, 773, 774, 775, 776, 777, 778, 779, 780, 781, 782, 783, 784, 785, 786, 787] (by decide +kernel) (by decide +kernel)
set_option maxRecDepth 20000 in
theorem gL_law_X6_unnote : GoodIn wsL_law (wsV RL 83 RX6 yX6_unnote wsX6_unnote) := goodIn_app (goodIn_of _ (by decide +kernel)) ggL_law_X6_unnote
set_option maxRecDepth 20000 in
theorem ggL_law_X6_noted : GoodIn wsL_law wsX6_noted := goodIn_r _ [647, 89, 238, 239, 5, 240, 769, 770, 771, 772, 773, 774, 775, 776, 777, 778, 779, 780, 781, 782, 783, 784, 785, 786, 787] (by decide +kernel) (by decide +kernel)
set_option maxRecDepth 20000 in
theorem gL_law_X6_noted : GoodIn wsL_law (wsV RL 87 RX6 yX6_noted wsX6_noted) := goodIn_app (goodIn_of _ (by decide +kernel)) ggL_law_X6_noted
set_option maxRecDepth 20000 in
theorem ggL_law_X6_longest : GoodIn wsL_law wsX6_longest := goodIn_r _ [660, 237, 274, 275, 276, 5, 277, 97, 282, 283, 284, 285, 89, 286, 287, 288, 289, 96, 290, 291, 292, 293, 99, 294, 295, 296, 297, 769, 770, 771, 772, 773, 774, 775, 776, 777, 778, 779, 780, 781, 782, 783, 784, 785, 786, 787] (by decide +kernel) (by decide +kernel)
set_option maxRecDepth 20000 in
theorem gL_law_X6_longest : GoodIn wsL_law (wsV RL 91 RX6 yX6_longest wsX6_longest) := goodIn_app (goodIn_of _ (by decide +kernel)) ggL_law_X6_longest
set_option maxRecDepth 20000 in
theorem ggL_law_X6_speedFor : GoodIn wsL_law wsX6_speedFor := goodIn_r _ [673, 674, 237, 101, 387, 388, 389, 5, 390, 255, 238, 239, 240, 290, 291, 292, 293, 97, 89, 99, 294, 295, 296, 297, 96, 769, 770, 771, 772, 773, 774, 775, 776, 777, 778, 779, 780, 781, 782, 783, 784, 785, 786, 787] (by decide +kernel) (by decide +kernel)
set_option maxRecDepth 20000 in
theorem gL_law_X6_speedFor : GoodIn wsL_law (wsV RL 95 RX6 yX6_speedFor wsX6_speedFor) := goodIn_app (goodIn_of _ (by decide +kernel)) ggL_law_X6_speedFor
set_option maxRecDepth 20000 in
theorem ggL_law_X6_order : GoodIn wsL_law wsX6_order := goodIn_r _ [687, 414, 93, 238, 239, 5, 240, 769, 770, 771, 772, 773, 774, 775, 776, 777, 778, 779, 780, 781, 782, 783, 784, 785, 786, 787] (by decide +kernel) (by decide +kernel)
set_option maxRecDepth 20000 in
theorem gL_law_X6_order : GoodIn wsL_law (wsV RL 99 RX6 yX6_order wsX6_order) := goodIn_app (goodIn_of _ (by decide +kernel)) ggL_law_X6_order
set_option maxRecDepth 20000 in
theorem ggL_law_X6_clearOrders : GoodIn wsL_law wsX6_clearOrders := goodIn_r _ [695, 414, 769, 770, 771, 772, 773, 774, 775, 776, 777, 778, 779, 780, 781, 782, 783, 784, 785, 786, 787] (by decide +kernel) (by decide +kernel)
set_option maxRecDepth 20000 in
theorem gL_law_X6_clearOrders : GoodIn wsL_law (wsV RL 103 RX6 yX6_clearOrders wsX6_clearOrders) := goodIn_app (goodIn_of _ (by decide +kernel)) ggL_law_X6_clearOrders
set_option maxRecDepth 20000 in
theorem ggL_law_X6_fault : GoodIn wsL_law wsX6_fault := goodIn_r _ [727, 728, 414, 729, 730, 731, 5, 732, 93, 733, 734, 735, 736, 737, 738, 267, 268, 269, 238, 239, 240, 769, 770, 771, 772, 773, 774, 775, 776, 777, 778, 779, 780, 781, 782, 783, 784, 785, 786, 787] (by decide +kernel) (by decide +kernel)
set_option maxRecDepth 20000 in
theorem gL_law_X6_fault : GoodIn wsL_law (wsV RL 107 RX6 yX6_fault wsX6_fault) := goodIn_app (goodIn_of _ (by decide +kernel)) ggL_law_X6_fault
set_option maxRecDepth 20000 in
theorem ggL_law_X6_carry : GoodIn wsL_law wsX6_carry := goodIn_r _ [757, 728, 414, 758, 725, 726, 5, 727, 729, 730, 731, 732, 93, 733, 734, 735, 736, 737, 738, 267, 268, 269, 238, 239, 240, 241, 242, 243, 244, 245, 90, 89, 759, 760, 761, 762, 469, 470, 471, 472, 473, 474, 475, 476, 237, 100, 477, 478, 479, 480, 97, 274, 275, 276, 277, 286, 287, 288, 289, 96, 278, 279, 280, 281, 282, 283, 284, 285, 290, 291, 292, 293, 99, 294, 295, 296, 297, 270, 271, 272, 273, 511, 512, 513, 514, 254, 515, 516, 517, 518, 536, 537, 538, 539, 370, 371, 372, 373, 540, 541, 542, 543, 560, 561, 562, 563, 616, 617, 618, 619, 335, 336, 337, 338, 620, 621, 622, 623, 769, 770, 771, 772, 773, 774, 775, 776, 777, 778, 779, 780, 781, 782, 783, 784, 785, 786, 787] (by decide +kernel) (by decide +kernel)
set_option maxRecDepth 20000 in
theorem gL_law_X6_carry : GoodIn wsL_law (wsV RL 111 RX6 yX6_carry wsX6_carry) := goodIn_app (goodIn_of _ (by decide +kernel)) ggL_law_X6_carry
