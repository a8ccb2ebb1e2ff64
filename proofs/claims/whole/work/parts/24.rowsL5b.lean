set_option maxRecDepth 20000 in
theorem ggL_law_X5_ifRun : GoodIn wsL_law wsX5_ifRun := goodIn_r _ [567, 19, 20, 398, 440, 441, 442, 18, 443, 70, 568, 126, 127, 128, 58, 129, 65, 66, 67, 130, 68, 131, 69, 132, 133, 134, 135, 136, 2, 137, 138, 139, 140, 141, 142, 143, 144, 145, 444, 445, 446, 447, 57, 198, 199, 200, 14, 201, 157, 202, 195, 196, 197, 38, 158, 159, 448, 449, 450, 451, 44, 382, 452, 453, 454, 455, 456, 457, 458, 459, 460, 461, 462, 463, 464, 212, 213, 214, 37, 147, 148, 203, 204, 205, 206, 190, 191, 192, 193, 207, 208, 209, 210, 211, 215, 216, 217, 218, 194, 219, 220, 221, 222, 223, 224, 225, 226, 227, 228, 229, 230, 231, 232, 763, 764, 765, 766, 767, 768, 797, 798, 799, 800, 801, 802, 803, 804, 805, 806, 807, 808, 809, 810, 811, 788, 789, 790, 791, 792, 793, 794, 795, 796, 816, 817, 818, 819] (by decide +kernel) (by decide +kernel)
set_option maxRecDepth 20000 in
theorem gL_law_X5_ifRun : GoodIn wsL_law (wsV RL 64 RX5 yX5_ifRun wsX5_ifRun) := goodIn_app (goodIn_of _ (by decide +kernel)) ggL_law_X5_ifRun
set_option maxRecDepth 20000 in
theorem ggL_law_X5_left : GoodIn wsL_law wsX5_left := goodIn_r _ [584, 19, 398, 20, 585, 401, 568, 126, 127, 18, 128, 58, 129, 65, 66, 67, 70, 130, 68, 131, 69, 132, 133, 134, 135, 136, 2, 137, 138, 139, 140, 141, 142, 143, 144, 145, 444, 445, 446, 447, 57, 198, 199, 200, 14, 201, 157, 202, 195, 196, 197, 38, 158, 159, 448, 449, 450, 451, 44, 382, 452, 453, 454, 455, 456, 457, 458, 459, 460, 461, 462, 463, 464, 212, 213, 214, 37, 147, 148, 203, 204, 205, 206, 190, 191, 192, 193, 207, 208, 209, 210, 211, 215, 216, 217, 218, 194, 219, 220, 221, 222, 223, 224, 225, 226, 227, 228, 229, 230, 231, 232, 763, 764, 765, 766, 767, 768, 797, 798, 799, 800, 801, 802, 803, 804, 805, 806, 807, 808, 809, 810, 811, 788, 789, 790, 791, 792, 793, 794, 795, 796, 816, 817, 818, 819] (by decide +kernel) (by decide +kernel)
set_option maxRecDepth 20000 in
theorem gL_law_X5_left : GoodIn wsL_law (wsV RL 68 RX5 yX5_left wsX5_left) := goodIn_app (goodIn_of _ (by decide +kernel)) ggL_law_X5_left
set_option maxRecDepth 20000 in
theorem ggL_law_X5_undo : GoodIn wsL_law wsX5_undo := goodIn_r _ [593, 24, 404, 19, 15, 107, 106, 594, 595, 596, 23, 597, 116, 121, 122, 123, 124, 78, 125, 126, 127, 18, 128, 58, 129, 65, 66, 67, 70, 130, 68, 131, 69, 132, 133, 134, 135, 136, 2, 137, 138, 139, 140, 141, 142, 143, 144, 145, 598, 154, 155, 14, 156, 157, 158, 159, 160, 161, 162, 163, 35, 36, 37, 38, 39, 40, 164, 165, 166, 167, 168, 169, 170, 147, 148, 171, 172, 173, 174, 175, 176, 177, 178, 179, 180, 44, 45, 181, 182, 183, 43, 184, 185, 186, 187, 188, 189, 50, 51, 52, 763, 764, 765, 766, 767, 768, 812, 813, 797, 798, 799, 800, 801, 802, 803, 804, 805, 806, 807, 808, 809, 810, 811, 788, 789, 790, 791, 792, 793, 794, 795, 796, 816, 817, 818, 819] (by decide +kernel) (by decide +kernel)
set_option maxRecDepth 20000 in
theorem gL_law_X5_undo : GoodIn wsL_law (wsV RL 72 RX5 yX5_undo wsX5_undo) := goodIn_app (goodIn_of _ (by decide +kernel)) ggL_law_X5_undo
set_option maxRecDepth 20000 in
theorem ggL_law_X5_note : GoodIn wsL_law wsX5_note := goodIn_r _ [606, 19, 24, 317, 607, 608, 609, 18, 610, 57, 67, 190, 191, 192, 14, 193, 157, 194, 195, 196, 197, 38, 158, 2, 159, 611, 407, 408, 409, 112, 113, 114, 23, 115, 116, 117, 118, 119, 120, 78, 121, 122, 123, 124, 125, 126, 127, 128, 58, 129, 65, 66, 70, 130, 68, 131, 69, 132, 133, 134, 135, 136, 137, 138, 139, 140, 141, 142, 143, 144, 145, 146, 147, 148, 406, 763, 764, 765, 766, 767, 768, 797, 798, 799, 800, 801, 802, 803, 804, 805, 806, 807, 808, 809, 810, 811, 788, 789, 790, 791, 792, 793, 794, 795, 796, 812, 813] (by decide +kernel) (by decide +kernel)
set_option maxRecDepth 20000 in
theorem gL_law_X5_note : GoodIn wsL_law (wsV RL 76 RX5 yX5_note wsX5_note) := goodIn_app (goodIn_of _ (by decide +kernel)) ggL_law_X5_note
set_option maxRecDepth 20000 in
theorem ggL_law_X5_unnote : GoodIn wsL_law wsX5_unnote := goodIn_r _ [627, 15, 19, 317, 24, 319, 191, 192, 14, 193, 157, 320, 158, 2, 159, 112, 113, 114, 23, 115, 116, 117, 118, 119, 120, 78, 121, 122, 123, 124, 125, 126, 127, 18, 128, 58, 129, 65, 66, 67, 70, 130, 68, 131, 69, 132, 133, 134, 135, 136, 137, 138, 139, 140, 141, 142, 143, 144, 145, 146, 147, 148, 763, 764, 765, 766, 767, 768, 797, 798, 799, 800, 801, 802, 803, 804, 805, 806, 807, 808, 809, 810, 811, 788, 789, 790, 791, 792, 793, 794, 795, 796, 812, 813] (by decide +kernel) (by decide +kernel)
set_option maxRecDepth 20000 in
theorem gL_law_X5_unnote : GoodIn wsL_law (wsV RL 80 RX5 yX5_unnote wsX5_unnote) := goodIn_app (goodIn_of _ (by decide +kernel)) ggL_law_X5_unnote
set_option maxRecDepth 20000 in
theorem ggL_law_X5_noted : GoodIn wsL_law wsX5_noted := goodIn_r _ [635, 19, 636, 637, 638, 18, 639, 67, 158, 2, 159, 640, 641, 642, 643, 459, 139, 140, 141, 763, 764, 765, 766, 767, 768, 797, 798, 799, 800, 801, 802, 803, 804, 805, 806, 807, 808, 809, 810, 811] (by decide +kernel) (by decide +kernel)
set_option maxRecDepth 20000 in
theorem gL_law_X5_noted : GoodIn wsL_law (wsV RL 84 RX5 yX5_noted wsX5_noted) := goodIn_app (goodIn_of _ (by decide +kernel)) ggL_law_X5_noted
set_option maxRecDepth 20000 in
theorem ggL_law_X5_longest : GoodIn wsL_law wsX5_longest := goodIn_r _ [651, 15, 108, 30, 19, 323, 324, 325, 18, 326, 207, 208, 209, 210, 66, 57, 211, 212, 213, 14, 214, 37, 158, 2, 159, 215, 216, 217, 218, 65, 194, 195, 196, 197, 38, 219, 220, 221, 222, 223, 224, 225, 140, 226, 227, 228, 229, 230, 231, 232, 146, 147, 148, 652, 653, 654, 655, 656, 320, 763, 764, 765, 766, 767, 768, 788, 789, 790, 791, 792, 793, 794, 795, 796, 797, 798, 799, 800, 801, 802, 803, 804, 805, 806, 807, 808, 809, 810, 811] (by decide +kernel) (by decide +kernel)
set_option maxRecDepth 20000 in
theorem gL_law_X5_longest : GoodIn wsL_law (wsV RL 88 RX5 yX5_longest wsX5_longest) := goodIn_app (goodIn_of _ (by decide +kernel)) ggL_law_X5_longest
set_option maxRecDepth 20000 in
theorem ggL_law_X5_speedFor : GoodIn wsL_law wsX5_speedFor := goodIn_r _ [664, 15, 316, 665, 347, 348, 19, 349, 350, 351, 43, 352, 185, 320, 158, 2, 159, 666, 667, 668, 18, 669, 215, 216, 217, 218, 57, 65, 194, 195, 196, 14, 197, 38, 219, 220, 221, 222, 223, 224, 225, 140, 226, 227, 228, 229, 230, 231, 232, 763, 764, 765, 766, 767, 768, 788, 789, 790, 791, 792, 793, 794, 795, 796, 816, 817, 818, 819, 797, 798, 799, 800, 801, 802, 803, 804, 805, 806, 807, 808, 809, 810, 811] (by decide +kernel) (by decide +kernel)
set_option maxRecDepth 20000 in
theorem gL_law_X5_speedFor : GoodIn wsL_law (wsV RL 92 RX5 yX5_speedFor wsX5_speedFor) := goodIn_app (goodIn_of _ (by decide +kernel)) ggL_law_X5_speedFor
set_option maxRecDepth 20000 in
theorem ggL_law_X5_order : GoodIn wsL_law wsX5_order := goodIn_r _ [678, 28, 405, 109, 110, 2, 111, 679, 680, 681, 27, 682, 84, 683, 147, 148, 763, 764, 765, 766, 767, 768, 814, 815] (by decide +kernel) (by decide +kernel)
set_option maxRecDepth 20000 in
theorem gL_law_X5_order : GoodIn wsL_law (wsV RL 96 RX5 yX5_order wsX5_order) := goodIn_app (goodIn_of _ (by decide +kernel)) ggL_law_X5_order
set_option maxRecDepth 20000 in
theorem ggL_law_X5_clearOrders : GoodIn wsL_law wsX5_clearOrders := goodIn_r _ [691, 28, 405, 763, 764, 765, 766, 767, 768, 814, 815] (by decide +kernel) (by decide +kernel)
set_option maxRecDepth 20000 in
theorem gL_law_X5_clearOrders : GoodIn wsL_law (wsV RL 100 RX5 yX5_clearOrders wsX5_clearOrders) := goodIn_app (goodIn_of _ (by decide +kernel)) ggL_law_X5_clearOrders
set_option maxRecDepth 20000 in
theorem ggL_law_X5_fault : GoodIn wsL_law wsX5_fault := goodIn_r _ [699, 28, 700, 701, 702, 27, 703, 683, 704, 705, 706, 707, 708, 709, 710, 711, 712, 713, 714, 715, 84, 158, 2, 159, 167, 168, 716, 717, 718, 719, 720, 721, 722, 723, 763, 764, 765, 766, 767, 768, 814, 815] (by decide +kernel) (by decide +kernel)
set_option maxRecDepth 20000 in
theorem gL_law_X5_fault : GoodIn wsL_law (wsV RL 104 RX5 yX5_fault wsX5_fault) := goodIn_app (goodIn_of _ (by decide +kernel)) ggL_law_X5_fault
set_option maxRecDepth 20000 in
theorem ggL_law_X5_carry : GoodIn wsL_law wsX5_carry := goodIn_r _ [742, 28, 24, 19, 405, 700, 701, 702, 27, 703, 683, 704, 705, 706, 707, 708, 709, 710, 711, 712, 713, 714, 715, 84, 158, 2, 159, 167, 168, 716, 717, 718, 719, 720, 721, 722, 723, 112, 113, 114, 23, 115, 116, 117, 118, 119, 120, 78, 121, 122, 123, 124, 125, 126, 127, 18, 128, 58, 129, 65, 66, 67, 70, 130, 68, 131, 69, 132, 133, 134, 135, 136, 137, 138, 139, 140, 141, 142, 143, 144, 145, 743, 744, 745, 746, 747, 748, 317, 398, 749, 750, 751, 752, 440, 441, 442, 443, 485, 486, 487, 488, 57, 198, 199, 200, 14, 201, 157, 202, 195, 196, 197, 38, 523, 524, 525, 526, 456, 458, 527, 350, 351, 43, 352, 185, 194, 548, 549, 550, 551, 607, 608, 609, 610, 190, 191, 192, 193, 611, 407, 408, 409, 444, 445, 446, 447, 448, 449, 450, 451, 44, 382, 452, 453, 454, 455, 457, 459, 460, 461, 462, 463, 464, 212, 213, 214, 37, 147, 148, 203, 204, 205, 206, 207, 208, 209, 210, 211, 215, 216, 217, 218, 219, 220, 221, 222, 223, 224, 225, 226, 227, 228, 229, 230, 231, 232, 489, 490, 491, 492, 493, 494, 495, 496, 497, 498, 499, 500, 501, 502, 503, 504, 505, 506, 528, 529, 530, 531, 552, 553, 554, 555, 146, 753, 763, 764, 765, 766, 767, 768, 814, 815, 812, 813, 797, 798, 799, 800, 801, 802, 803, 804, 805, 806, 807, 808, 809, 810, 811, 788, 789, 790, 791, 792, 793, 794, 795, 796, 816, 817, 818, 819] (by decide +kernel) (by decide +kernel)
set_option maxRecDepth 20000 in
theorem gL_law_X5_carry : GoodIn wsL_law (wsV RL 108 RX5 yX5_carry wsX5_carry) := goodIn_app (goodIn_of _ (by decide +kernel)) ggL_law_X5_carry
