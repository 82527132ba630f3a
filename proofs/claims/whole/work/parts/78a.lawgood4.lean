/-! the law: what its calls need is among its words -/
set_option maxRecDepth 20000 in
theorem ggL_law_X9_sees : GoodIn wsL_law wsX9_sees := goodIn_r _ [627, 23, 32, 319, 320, 2, 321, 579, 354, 355, 628, 629, 630, 31, 631, 89, 86, 87, 88, 743, 744, 745, 746, 747, 748, 749, 750, 751, 752, 753, 754, 755, 798, 799, 800, 801, 802, 808, 809, 810, 811] (by decide +kernel) (by decide +kernel)
set_option maxRecDepth 20000 in
theorem gL_law_X9_sees : GoodIn wsL_law (wsV RL 70 RX9 yX9_sees wsX9_sees) := goodIn_app (goodIn_of _ (by decide +kernel)) ggL_law_X9_sees
set_option maxRecDepth 20000 in
theorem ggL_law_X10_sees : GoodIn wsL_law wsX10_sees := goodIn_r _ [635, 250, 252, 117, 118, 151, 152, 5, 153, 756, 757, 758, 759, 760, 761, 762, 763, 764, 765, 766, 767, 768, 769, 770, 771, 772, 773, 774, 775, 776, 777, 778, 779, 780, 781, 782, 783, 784, 785, 786, 787, 788, 789, 790, 791, 792] (by decide +kernel) (by decide +kernel)
set_option maxRecDepth 20000 in
theorem gL_law_X10_sees : GoodIn wsL_law (wsV RL 73 RX10 yX10_sees wsX10_sees) := goodIn_app (goodIn_of _ (by decide +kernel)) ggL_law_X10_sees
set_option maxRecDepth 20000 in
theorem ggL_law_X9_forget : GoodIn wsL_law wsX9_forget := goodIn_r _ [639, 32, 235, 236, 237, 31, 238, 89, 743, 744, 745, 746, 747, 748, 749, 750, 751, 752, 753, 754, 755, 808, 809, 810, 811] (by decide +kernel) (by decide +kernel)
set_option maxRecDepth 20000 in
theorem gL_law_X9_forget : GoodIn wsL_law (wsV RL 74 RX9 yX9_forget wsX9_forget) := goodIn_app (goodIn_of _ (by decide +kernel)) ggL_law_X9_forget
set_option maxRecDepth 20000 in
theorem ggL_law_X10_forget : GoodIn wsL_law wsX10_forget := goodIn_r _ [643, 252, 756, 757, 758, 759, 760, 761, 762, 763, 764, 765, 766, 767, 768, 769, 770, 771, 772, 773, 774, 775, 776, 777, 778, 779, 780, 781, 782, 783, 784, 785, 786, 787, 788, 789, 790, 791, 792] (by decide +kernel) (by decide +kernel)
set_option maxRecDepth 20000 in
theorem gL_law_X10_forget : GoodIn wsL_law (wsV RL 77 RX10 yX10_forget wsX10_forget) := goodIn_app (goodIn_of _ (by decide +kernel)) ggL_law_X10_forget
set_option maxRecDepth 20000 in
theorem ggL_law_X9_unseen : GoodIn wsL_law wsX9_unseen := goodIn_r _ [647, 648, 649, 650, 2, 651, 23, 41, 32, 389, 390, 391, 67, 392, 74, 220, 221, 222, 322, 323, 324, 40, 325, 326, 104, 327, 328, 329, 22, 330, 69, 62, 63, 64, 331, 332, 333, 45, 334, 335, 336, 337, 338, 339, 340, 341, 342, 99, 100, 101, 102, 320, 321, 343, 296, 297, 298, 73, 227, 228, 229, 230, 344, 345, 346, 347, 348, 349, 350, 351, 352, 353, 354, 355, 356, 652, 653, 654, 31, 655, 89, 86, 87, 88, 656, 417, 418, 419, 743, 744, 745, 746, 747, 748, 749, 750, 751, 752, 753, 754, 755, 798, 799, 800, 801, 802, 824, 825, 814, 815, 816, 817, 818, 819, 820, 821, 822, 823, 808, 809, 810, 811] (by decide +kernel) (by decide +kernel)
set_option maxRecDepth 20000 in
theorem gL_law_X9_unseen : GoodIn wsL_law (wsV RL 78 RX9 yX9_unseen wsX9_unseen) := goodIn_app (goodIn_of _ (by decide +kernel)) ggL_law_X9_unseen
set_option maxRecDepth 20000 in
theorem ggL_law_X10_unseen : GoodIn wsL_law wsX10_unseen := goodIn_r _ [660, 252, 127, 117, 128, 118, 307, 308, 309, 5, 310, 115, 366, 367, 368, 369, 112, 113, 129, 114, 130, 370, 371, 372, 373, 374, 311, 312, 313, 314, 375, 376, 377, 378, 379, 380, 381, 382, 383, 384, 151, 152, 153, 756, 757, 758, 759, 760, 761, 762, 763, 764, 765, 766, 767, 768, 769, 770, 771, 772, 773, 774, 775, 776, 777, 778, 779, 780, 781, 782, 783, 784, 785, 786, 787, 788, 789, 790, 791, 792] (by decide +kernel) (by decide +kernel)
set_option maxRecDepth 20000 in
theorem gL_law_X10_unseen : GoodIn wsL_law (wsV RL 81 RX10 yX10_unseen wsX10_unseen) := goodIn_app (goodIn_of _ (by decide +kernel)) ggL_law_X10_unseen
set_option maxRecDepth 20000 in
theorem ggL_law_X9_look : GoodIn wsL_law wsX9_look := goodIn_r _ [664, 49, 648, 649, 650, 2, 651, 23, 41, 32, 389, 390, 391, 67, 392, 74, 220, 221, 222, 322, 323, 324, 40, 325, 326, 104, 327, 328, 329, 22, 330, 69, 62, 63, 64, 331, 332, 333, 45, 334, 335, 336, 337, 338, 339, 340, 341, 342, 99, 100, 101, 102, 320, 321, 343, 296, 297, 298, 73, 227, 228, 229, 230, 344, 345, 346, 347, 348, 349, 350, 351, 352, 353, 354, 355, 356, 652, 653, 654, 31, 655, 89, 86, 87, 88, 656, 417, 418, 419, 665, 666, 667, 668, 669, 670, 671, 672, 673, 674, 675, 676, 398, 399, 400, 677, 402, 403, 404, 405, 406, 407, 743, 744, 745, 746, 747, 748, 749, 750, 751, 752, 753, 754, 755, 798, 799, 800, 801, 802, 824, 825, 814, 815, 816, 817, 818, 819, 820, 821, 822, 823, 808, 809, 810, 811] (by decide +kernel) (by decide +kernel)
set_option maxRecDepth 20000 in
theorem gL_law_X9_look : GoodIn wsL_law (wsV RL 82 RX9 yX9_look wsX9_look) := goodIn_app (goodIn_of _ (by decide +kernel)) ggL_law_X9_look
