/-! the law: what its calls need is among its words -/
set_option maxRecDepth 20000 in
theorem ggL_law_X10_dance : GoodIn wsL_law wsX10_dance := goodIn_r _ [246, 247, 248, 126, 150, 249, 250, 112, 123, 113, 124, 114, 125, 115, 251, 252, 120, 253, 254, 255, 5, 256, 122, 257, 258, 259, 260, 261, 262, 263, 264, 265, 266, 267, 268, 269, 270, 271, 151, 152, 153, 272, 273, 274, 275, 276, 277, 278, 279, 280, 281, 282, 283, 284, 285, 286, 756, 757, 758, 759, 760, 761, 762, 763, 764, 765, 766, 767, 768, 769, 770, 771, 772, 773, 774, 775, 776, 777, 778, 779, 780, 781, 782, 783, 784, 785, 786, 787, 788, 789, 790, 791, 792] (by decide +kernel) (by decide +kernel)
set_option maxRecDepth 20000 in
theorem gL_law_X10_dance : GoodIn wsL_law (wsV RL 26 RX10 yX10_dance wsX10_dance) := goodIn_app (goodIn_of _ (by decide +kernel)) ggL_law_X10_dance
set_option maxRecDepth 20000 in
theorem ggL_law_X9_sign : GoodIn wsL_law wsX9_sign := goodIn_r _ [290, 23, 291, 292, 293, 2, 294, 295, 296, 297, 67, 298, 73, 227, 228, 229, 230, 74, 220, 221, 222, 743, 744, 745, 746, 747, 748, 749, 750, 751, 752, 753, 754, 755, 798, 799, 800, 801, 802, 824, 825] (by decide +kernel) (by decide +kernel)
set_option maxRecDepth 20000 in
theorem gL_law_X9_sign : GoodIn wsL_law (wsV RL 27 RX9 yX9_sign wsX9_sign) := goodIn_app (goodIn_of _ (by decide +kernel)) ggL_law_X9_sign
set_option maxRecDepth 20000 in
theorem ggL_law_X10_sign : GoodIn wsL_law wsX10_sign := goodIn_r _ [302, 303, 304, 305, 5, 306, 250, 151, 152, 153, 307, 308, 309, 310, 115, 311, 312, 313, 314, 756, 757, 758, 759, 760, 761, 762, 763, 764, 765, 766, 767, 768, 769, 770, 771, 772, 773, 774, 775, 776, 777, 778, 779, 780, 781, 782, 783, 784, 785, 786, 787, 788, 789, 790, 791, 792] (by decide +kernel) (by decide +kernel)
set_option maxRecDepth 20000 in
theorem gL_law_X10_sign : GoodIn wsL_law (wsV RL 31 RX10 yX10_sign wsX10_sign) := goodIn_app (goodIn_of _ (by decide +kernel)) ggL_law_X10_sign
set_option maxRecDepth 20000 in
theorem ggL_law_X9_stand : GoodIn wsL_law wsX9_stand := goodIn_r _ [318, 41, 23, 46, 291, 292, 293, 2, 294, 319, 320, 321, 322, 323, 324, 40, 325, 326, 104, 327, 328, 329, 22, 330, 69, 62, 63, 64, 331, 332, 333, 45, 334, 335, 336, 337, 338, 339, 340, 341, 342, 99, 100, 101, 102, 343, 296, 297, 67, 298, 73, 227, 228, 229, 230, 74, 220, 221, 222, 344, 345, 346, 347, 348, 349, 350, 351, 352, 353, 354, 355, 356, 357, 358, 359, 360, 361, 743, 744, 745, 746, 747, 748, 749, 750, 751, 752, 753, 754, 755, 820, 821, 822, 823, 798, 799, 800, 801, 802, 814, 815, 816, 817, 818, 819, 824, 825] (by decide +kernel) (by decide +kernel)
set_option maxRecDepth 20000 in
theorem gL_law_X9_stand : GoodIn wsL_law (wsV RL 32 RX9 yX9_stand wsX9_stand) := goodIn_app (goodIn_of _ (by decide +kernel)) ggL_law_X9_stand
set_option maxRecDepth 20000 in
theorem ggL_law_X10_stand : GoodIn wsL_law wsX10_stand := goodIn_r _ [365, 127, 128, 129, 130, 303, 304, 305, 5, 306, 250, 151, 152, 153, 366, 367, 368, 369, 112, 113, 114, 370, 371, 372, 373, 374, 307, 308, 309, 310, 115, 311, 312, 313, 314, 375, 376, 377, 378, 379, 380, 381, 382, 383, 384, 756, 757, 758, 759, 760, 761, 762, 763, 764, 765, 766, 767, 768, 769, 770, 771, 772, 773, 774, 775, 776, 777, 778, 779, 780, 781, 782, 783, 784, 785, 786, 787, 788, 789, 790, 791, 792] (by decide +kernel) (by decide +kernel)
set_option maxRecDepth 20000 in
theorem gL_law_X10_stand : GoodIn wsL_law (wsV RL 36 RX10 yX10_stand wsX10_stand) := goodIn_app (goodIn_of _ (by decide +kernel)) ggL_law_X10_stand
set_option maxRecDepth 20000 in
theorem ggL_law_X9_staff : GoodIn wsL_law wsX9_staff := goodIn_r _ [388, 41, 23, 291, 292, 293, 2, 294, 322, 323, 324, 40, 325, 326, 104, 327, 328, 329, 22, 330, 69, 62, 63, 64, 331, 332, 333, 45, 334, 335, 336, 337, 338, 339, 340, 341, 342, 99, 100, 101, 102, 320, 321, 343, 296, 297, 67, 298, 73, 227, 228, 229, 230, 74, 220, 221, 222, 344, 345, 346, 347, 348, 349, 350, 351, 352, 353, 354, 355, 356, 389, 390, 391, 392, 393, 394, 395, 396, 397, 398, 399, 400, 401, 402, 403, 404, 405, 406, 407, 408, 409, 410, 411, 412, 413, 414, 415, 416, 417, 418, 419, 743, 744, 745, 746, 747, 748, 749, 750, 751, 752, 753, 754, 755, 798, 799, 800, 801, 802, 814, 815, 816, 817, 818, 819, 820, 821, 822, 823, 824, 825] (by decide +kernel) (by decide +kernel)
set_option maxRecDepth 20000 in
theorem gL_law_X9_staff : GoodIn wsL_law (wsV RL 37 RX9 yX9_staff wsX9_staff) := goodIn_app (goodIn_of _ (by decide +kernel)) ggL_law_X9_staff
set_option maxRecDepth 20000 in
theorem ggL_law_X10_staff : GoodIn wsL_law wsX10_staff := goodIn_r _ [423, 370, 303, 304, 305, 5, 306, 250, 151, 152, 153, 366, 367, 368, 369, 127, 112, 128, 113, 129, 114, 130, 371, 372, 373, 374, 307, 308, 309, 310, 115, 311, 312, 313, 314, 375, 376, 377, 378, 379, 380, 381, 382, 383, 384, 424, 425, 426, 427, 428, 429, 430, 431, 432, 433, 434, 435, 436, 437, 438, 439, 756, 757, 758, 759, 760, 761, 762, 763, 764, 765, 766, 767, 768, 769, 770, 771, 772, 773, 774, 775, 776, 777, 778, 779, 780, 781, 782, 783, 784, 785, 786, 787, 788, 789, 790, 791, 792] (by decide +kernel) (by decide +kernel)
set_option maxRecDepth 20000 in
theorem gL_law_X10_staff : GoodIn wsL_law (wsV RL 40 RX10 yX10_staff wsX10_staff) := goodIn_app (goodIn_of _ (by decide +kernel)) ggL_law_X10_staff
