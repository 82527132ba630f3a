/-! the law: what its calls need is among its words -/
set_option maxRecDepth 20000 in
theorem ggL_law_X9_init : GoodIn wsL_law wsX9_init := goodIn_r _ [8, 9, 10, 11, 12, 13, 14, 15, 16, 17, 18, 19, 20, 21, 22, 23, 24, 25, 26, 27, 28, 29, 30, 31, 32, 33, 34, 35, 36, 37, 38, 39, 40, 41, 42, 43, 44, 45, 46, 47, 48, 49, 50, 51, 52, 53, 54, 55, 56, 57, 58, 59, 60, 61, 62, 63, 64, 65, 66, 67, 68, 69, 70, 71, 72, 73, 74, 75, 76, 77, 78, 79, 80, 81, 82, 83, 84, 85, 86, 87, 88, 89, 90, 91, 92, 93, 94, 95, 96, 97, 98, 99, 100, 101, 102, 103, 104, 105, 106, 107, 785, 786, 735, 736, 737, 738, 739, 740, 741, 742, 743, 744, 745, 746, 747, 787, 788, 789, 790, 791, 792, 793, 794, 795, 796, 797, 798, 799, 800, 801, 802, 803, 804, 805, 806, 807, 808, 809, 810, 811, 812, 813, 814, 815, 816, 817] (by decide +kernel) (by decide +kernel)
set_option maxRecDepth 20000 in
theorem gL_law_X9_init : GoodIn wsL_law (wsX9_init) := ggL_law_X9_init
set_option maxRecDepth 20000 in
theorem ggL_law_X10_init : GoodIn wsL_law wsX10_init := goodIn_r _ [110, 111, 10, 11, 53, 112, 113, 114, 115, 116, 117, 118, 119, 120, 121, 122, 123, 124, 125, 126, 127, 128, 129, 130, 131, 132, 133, 748, 749, 750, 751, 752, 753, 754, 755, 756, 757, 758, 759, 760, 761, 762, 763, 764, 765, 766, 767, 768, 769, 770, 771, 772, 773, 774, 775, 776, 777, 778, 779, 780, 781, 782, 783, 784] (by decide +kernel) (by decide +kernel)
set_option maxRecDepth 20000 in
theorem gL_law_X10_init : GoodIn wsL_law (wsX10_init) := ggL_law_X10_init
set_option maxRecDepth 20000 in
theorem ggL_law_X9_type : GoodIn wsL_law wsX9_type := goodIn_r _ [137, 15, 138, 139, 140, 14, 141, 55, 54, 142, 143, 144, 145, 735, 736, 737, 738, 739, 740, 741, 742, 743, 744, 745, 746, 747, 785, 786] (by decide +kernel) (by decide +kernel)
set_option maxRecDepth 20000 in
theorem gL_law_X9_type : GoodIn wsL_law (wsV RL 13 RX9 yX9_type wsX9_type) := goodIn_app (goodIn_of _ (by decide +kernel)) ggL_law_X9_type
set_option maxRecDepth 20000 in
theorem ggL_law_X10_type : GoodIn wsL_law wsX10_type := goodIn_r _ [149, 150, 122, 151, 152, 5, 153, 748, 749, 750, 751, 752, 753, 754, 755, 756, 757, 758, 759, 760, 761, 762, 763, 764, 765, 766, 767, 768, 769, 770, 771, 772, 773, 774, 775, 776, 777, 778, 779, 780, 781, 782, 783, 784] (by decide +kernel) (by decide +kernel)
set_option maxRecDepth 20000 in
theorem gL_law_X10_type : GoodIn wsL_law (wsV RL 17 RX10 yX10_type wsX10_type) := goodIn_app (goodIn_of _ (by decide +kernel)) ggL_law_X10_type
set_option maxRecDepth 20000 in
theorem ggL_law_X9_clear : GoodIn wsL_law wsX9_clear := goodIn_r _ [157, 15, 142, 143, 144, 14, 145, 55, 158, 159, 160, 161, 735, 736, 737, 738, 739, 740, 741, 742, 743, 744, 745, 746, 747, 785, 786] (by decide +kernel) (by decide +kernel)
set_option maxRecDepth 20000 in
theorem gL_law_X9_clear : GoodIn wsL_law (wsV RL 18 RX9 yX9_clear wsX9_clear) := goodIn_app (goodIn_of _ (by decide +kernel)) ggL_law_X9_clear
set_option maxRecDepth 20000 in
theorem ggL_law_X10_clear : GoodIn wsL_law wsX10_clear := goodIn_r _ [165, 150, 748, 749, 750, 751, 752, 753, 754, 755, 756, 757, 758, 759, 760, 761, 762, 763, 764, 765, 766, 767, 768, 769, 770, 771, 772, 773, 774, 775, 776, 777, 778, 779, 780, 781, 782, 783, 784] (by decide +kernel) (by decide +kernel)
set_option maxRecDepth 20000 in
theorem gL_law_X10_clear : GoodIn wsL_law (wsV RL 22 RX10 yX10_clear wsX10_clear) := goodIn_app (goodIn_of _ (by decide +kernel)) ggL_law_X10_clear
set_option maxRecDepth 20000 in
theorem ggL_law_X9_dance : GoodIn wsL_law wsX9_dance := goodIn_r _ [169, 19, 15, 24, 23, 28, 32, 36, 37, 170, 171, 172, 18, 173, 174, 175, 176, 177, 178, 179, 22, 180, 69, 68, 181, 182, 183, 67, 184, 74, 185, 186, 187, 188, 189, 143, 144, 14, 145, 55, 190, 191, 192, 193, 54, 194, 195, 196, 197, 198, 199, 200, 201, 202, 203, 204, 205, 206, 207, 208, 62, 63, 64, 209, 210, 211, 212, 213, 214, 215, 216, 217, 218, 219, 220, 221, 222, 223, 224, 225, 226, 73, 227, 228, 229, 230, 158, 159, 160, 161, 231, 232, 233, 27, 234, 82, 235, 236, 237, 31, 238, 89, 239, 240, 241, 35, 242, 95, 735, 736, 737, 738, 739, 740, 741, 742, 743, 744, 745, 746, 747, 787, 788, 789, 790, 791, 792, 793, 794, 816, 817, 785, 786, 795, 796, 797, 798, 799, 800, 801, 802, 803, 804, 805] (by decide +kernel) (by decide +kernel)
set_option maxRecDepth 20000 in
theorem gL_law_X9_dance : GoodIn wsL_law (wsV RL 23 RX9 yX9_dance wsX9_dance) := goodIn_app (goodIn_of _ (by decide +kernel)) ggL_law_X9_dance
set_option maxRecDepth 20000 in
theorem ggL_law_X10_dance : GoodIn wsL_law wsX10_dance := goodIn_r _ [246, 247, 248, 126, 150, 249, 250, 112, 123, 113, 124, 114, 125, 115, 251, 252, 120, 253, 254, 255, 5, 256, 122, 257, 258, 259, 260, 261, 262, 263, 264, 265, 266, 267, 268, 269, 270, 271, 151, 152, 153, 272, 273, 274, 275, 276, 277, 278, 279, 280, 281, 282, 283, 284, 285, 286, 748, 749, 750, 751, 752, 753, 754, 755, 756, 757, 758, 759, 760, 761, 762, 763, 764, 765, 766, 767, 768, 769, 770, 771, 772, 773, 774, 775, 776, 777, 778, 779, 780, 781, 782, 783, 784] (by decide +kernel) (by decide +kernel)
set_option maxRecDepth 20000 in
theorem gL_law_X10_dance : GoodIn wsL_law (wsV RL 26 RX10 yX10_dance wsX10_dance) := goodIn_app (goodIn_of _ (by decide +kernel)) ggL_law_X10_dance
set_option maxRecDepth 20000 in
theorem ggL_law_X9_sign : GoodIn wsL_law wsX9_sign := goodIn_r _ [290, 23, 291, 292, 293, 2, 294, 295, 296, 297, 67, 298, 73, 227, 228, 229, 230, 74, 220, 221, 222, 735, 736, 737, 738, 739, 740, 741, 742, 743, 744, 745, 746, 747, 790, 791, 792, 793, 794, 816, 817] (by decide +kernel) (by decide +kernel)
set_option maxRecDepth 20000 in
theorem gL_law_X9_sign : GoodIn wsL_law (wsV RL 27 RX9 yX9_sign wsX9_sign) := goodIn_app (goodIn_of _ (by decide +kernel)) ggL_law_X9_sign
set_option maxRecDepth 20000 in
theorem ggL_law_X10_sign : GoodIn wsL_law wsX10_sign := goodIn_r _ [302, 303, 304, 305, 5, 306, 250, 151, 152, 153, 307, 308, 309, 310, 115, 311, 312, 313, 314, 748, 749, 750, 751, 752, 753, 754, 755, 756, 757, 758, 759, 760, 761, 762, 763, 764, 765, 766, 767, 768, 769, 770, 771, 772, 773, 774, 775, 776, 777, 778, 779, 780, 781, 782, 783, 784] (by decide +kernel) (by decide +kernel)
set_option maxRecDepth 20000 in
theorem gL_law_X10_sign : GoodIn wsL_law (wsV RL 31 RX10 yX10_sign wsX10_sign) := goodIn_app (goodIn_of _ (by decide +kernel)) ggL_law_X10_sign
set_option maxRecDepth 20000 in
theorem ggL_law_X9_stand : GoodIn wsL_law wsX9_stand := goodIn_r _ [318, 41, 23, 46, 291, 292, 293, 2, 294, 319, 320, 321, 322, 323, 324, 40, 325, 326, 104, 327, 328, 329, 22, 330, 69, 62, 63, 64, 331, 332, 333, 45, 334, 335, 336, 337, 338, 339, 340, 341, 342, 99, 100, 101, 102, 343, 296, 297, 67, 298, 73, 227, 228, 229, 230, 74, 220, 221, 222, 344, 345, 346, 347, 348, 349, 350, 351, 352, 353, 354, 355, 356, 357, 358, 359, 360, 361, 735, 736, 737, 738, 739, 740, 741, 742, 743, 744, 745, 746, 747, 812, 813, 814, 815, 790, 791, 792, 793, 794, 806, 807, 808, 809, 810, 811, 816, 817] (by decide +kernel) (by decide +kernel)
set_option maxRecDepth 20000 in
theorem gL_law_X9_stand : GoodIn wsL_law (wsV RL 32 RX9 yX9_stand wsX9_stand) := goodIn_app (goodIn_of _ (by decide +kernel)) ggL_law_X9_stand
set_option maxRecDepth 20000 in
theorem ggL_law_X10_stand : GoodIn wsL_law wsX10_stand := goodIn_r _ [365, 127, 128, 129, 130, 303, 304, 305, 5, 306, 250, 151, 152, 153, 366, 367, 368, 369, 112, 113, 114, 370, 371, 372, 373, 374, 307, 308, 309, 310, 115, 311, 312, 313, 314, 375, 376, 377, 378, 379, 380, 381, 382, 383, 384, 748, 749, 750, 751, 752, 753, 754, 755, 756, 757, 758, 759, 760, 761, 762, 763, 764, 765, 766, 767, 768, 769, 770, 771, 772, 773, 774, 775, 776, 777, 778, 779, 780, 781, 782, 783, 784] (by decide +kernel) (by decide +kernel)
set_option maxRecDepth 20000 in
theorem gL_law_X10_stand : GoodIn wsL_law (wsV RL 36 RX10 yX10_stand wsX10_stand) := goodIn_app (goodIn_of _ (by decide +kernel)) ggL_law_X10_stand
set_option maxRecDepth 20000 in
theorem ggL_law_X9_staff : GoodIn wsL_law wsX9_staff := goodIn_r _ [388, 41, 23, 291, 292, 293, 2, 294, 322, 323, 324, 40, 325, 326, 104, 327, 328, 329, 22, 330, 69, 62, 63, 64, 331, 332, 333, 45, 334, 335, 336, 337, 338, 339, 340, 341, 342, 99, 100, 101, 102, 320, 321, 343, 296, 297, 67, 298, 73, 227, 228, 229, 230, 74, 220, 221, 222, 344, 345, 346, 347, 348, 349, 350, 351, 352, 353, 354, 355, 356, 389, 390, 391, 392, 393, 394, 395, 396, 397, 398, 399, 400, 401, 402, 403, 404, 405, 406, 407, 408, 409, 410, 411, 412, 413, 414, 415, 416, 417, 418, 419, 735, 736, 737, 738, 739, 740, 741, 742, 743, 744, 745, 746, 747, 790, 791, 792, 793, 794, 806, 807, 808, 809, 810, 811, 812, 813, 814, 815, 816, 817] (by decide +kernel) (by decide +kernel)
set_option maxRecDepth 20000 in
theorem gL_law_X9_staff : GoodIn wsL_law (wsV RL 37 RX9 yX9_staff wsX9_staff) := goodIn_app (goodIn_of _ (by decide +kernel)) ggL_law_X9_staff
set_option maxRecDepth 20000 in
theorem ggL_law_X10_staff : GoodIn wsL_law wsX10_staff := goodIn_r _ [423, 370, 303, 304, 305, 5, 306, 250, 151, 152, 153, 366, 367, 368, 369, 127, 112, 128, 113, 129, 114, 130, 371, 372, 373, 374, 307, 308, 309, 310, 115, 311, 312, 313, 314, 375, 376, 377, 378, 379, 380, 381, 382, 383, 384, 424, 425, 426, 427, 428, 429, 430, 431, 432, 433, 434, 435, 436, 437, 438, 439, 748, 749, 750, 751, 752, 753, 754, 755, 756, 757, 758, 759, 760, 761, 762, 763, 764, 765, 766, 767, 768, 769, 770, 771, 772, 773, 774, 775, 776, 777, 778, 779, 780, 781, 782, 783, 784] (by decide +kernel) (by decide +kernel)
set_option maxRecDepth 20000 in
theorem gL_law_X10_staff : GoodIn wsL_law (wsV RL 40 RX10 yX10_staff wsX10_staff) := goodIn_app (goodIn_of _ (by decide +kernel)) ggL_law_X10_staff
set_option maxRecDepth 20000 in
theorem ggL_law_X9_mirrors : GoodIn wsL_law wsX9_mirrors := goodIn_r _ [443, 28, 23, 291, 292, 293, 2, 294, 444, 445, 446, 27, 447, 81, 82, 80, 79, 78, 448, 390, 391, 67, 392, 74, 220, 221, 222, 449, 296, 297, 298, 73, 227, 228, 229, 230, 450, 451, 452, 453, 454, 455, 456, 457, 458, 348, 349, 223, 224, 225, 226, 389, 735, 736, 737, 738, 739, 740, 741, 742, 743, 744, 745, 746, 747, 790, 791, 792, 793, 794, 795, 796, 797, 798, 799, 816, 817] (by decide +kernel) (by decide +kernel)
set_option maxRecDepth 20000 in
theorem gL_law_X9_mirrors : GoodIn wsL_law (wsV RL 41 RX9 yX9_mirrors wsX9_mirrors) := goodIn_app (goodIn_of _ (by decide +kernel)) ggL_law_X9_mirrors
set_option maxRecDepth 20000 in
theorem ggL_law_X10_mirrors : GoodIn wsL_law wsX10_mirrors := goodIn_r _ [462, 115, 303, 304, 305, 5, 306, 250, 151, 152, 153, 463, 464, 465, 466, 116, 467, 251, 307, 308, 309, 310, 311, 312, 313, 314, 468, 469, 470, 748, 749, 750, 751, 752, 753, 754, 755, 756, 757, 758, 759, 760, 761, 762, 763, 764, 765, 766, 767, 768, 769, 770, 771, 772, 773, 774, 775, 776, 777, 778, 779, 780, 781, 782, 783, 784] (by decide +kernel) (by decide +kernel)
set_option maxRecDepth 20000 in
theorem gL_law_X10_mirrors : GoodIn wsL_law (wsV RL 44 RX10 yX10_mirrors wsX10_mirrors) := goodIn_app (goodIn_of _ (by decide +kernel)) ggL_law_X10_mirrors
set_option maxRecDepth 20000 in
theorem ggL_law_X9_canons : GoodIn wsL_law wsX9_canons := goodIn_r _ [474, 28, 23, 475, 476, 477, 2, 478, 291, 292, 293, 294, 444, 445, 446, 27, 447, 81, 82, 80, 79, 78, 448, 390, 391, 67, 392, 74, 220, 221, 222, 449, 296, 297, 298, 73, 227, 228, 229, 230, 479, 480, 481, 482, 483, 484, 485, 486, 454, 487, 488, 489, 490, 455, 223, 224, 225, 226, 389, 735, 736, 737, 738, 739, 740, 741, 742, 743, 744, 745, 746, 747, 790, 791, 792, 793, 794, 795, 796, 797, 798, 799, 816, 817] (by decide +kernel) (by decide +kernel)
set_option maxRecDepth 20000 in
theorem gL_law_X9_canons : GoodIn wsL_law (wsV RL 45 RX9 yX9_canons wsX9_canons) := goodIn_app (goodIn_of _ (by decide +kernel)) ggL_law_X9_canons
set_option maxRecDepth 20000 in
theorem ggL_law_X10_canons : GoodIn wsL_law wsX10_canons := goodIn_r _ [494, 115, 303, 304, 305, 5, 306, 250, 151, 152, 153, 463, 464, 465, 466, 116, 467, 251, 307, 308, 309, 310, 311, 312, 313, 314, 748, 749, 750, 751, 752, 753, 754, 755, 756, 757, 758, 759, 760, 761, 762, 763, 764, 765, 766, 767, 768, 769, 770, 771, 772, 773, 774, 775, 776, 777, 778, 779, 780, 781, 782, 783, 784] (by decide +kernel) (by decide +kernel)
set_option maxRecDepth 20000 in
theorem gL_law_X10_canons : GoodIn wsL_law (wsV RL 48 RX10 yX10_canons wsX10_canons) := goodIn_app (goodIn_of _ (by decide +kernel)) ggL_law_X10_canons
set_option maxRecDepth 20000 in
theorem ggL_law_X9_changes : GoodIn wsL_law wsX9_changes := goodIn_r _ [498, 23, 28, 291, 292, 293, 2, 294, 499, 500, 501, 295, 296, 297, 67, 298, 73, 227, 228, 229, 230, 74, 220, 221, 222, 444, 445, 446, 27, 447, 81, 82, 80, 79, 78, 448, 390, 391, 392, 449, 502, 224, 225, 226, 735, 736, 737, 738, 739, 740, 741, 742, 743, 744, 745, 746, 747, 790, 791, 792, 793, 794, 816, 817, 795, 796, 797, 798, 799] (by decide +kernel) (by decide +kernel)
set_option maxRecDepth 20000 in
theorem gL_law_X9_changes : GoodIn wsL_law (wsV RL 49 RX9 yX9_changes wsX9_changes) := goodIn_app (goodIn_of _ (by decide +kernel)) ggL_law_X9_changes
set_option maxRecDepth 20000 in
theorem ggL_law_X10_changes : GoodIn wsL_law wsX10_changes := goodIn_r _ [506, 115, 303, 304, 305, 5, 306, 250, 151, 152, 153, 307, 308, 309, 310, 311, 312, 313, 314, 463, 464, 465, 466, 116, 467, 251, 748, 749, 750, 751, 752, 753, 754, 755, 756, 757, 758, 759, 760, 761, 762, 763, 764, 765, 766, 767, 768, 769, 770, 771, 772, 773, 774, 775, 776, 777, 778, 779, 780, 781, 782, 783, 784] (by decide +kernel) (by decide +kernel)
set_option maxRecDepth 20000 in
theorem gL_law_X10_changes : GoodIn wsL_law (wsV RL 52 RX10 yX10_changes wsX10_changes) := goodIn_app (goodIn_of _ (by decide +kernel)) ggL_law_X10_changes
set_option maxRecDepth 20000 in
theorem ggL_law_X9_adds : GoodIn wsL_law wsX9_adds := goodIn_r _ [510, 23, 28, 291, 292, 293, 2, 294, 499, 500, 501, 389, 390, 391, 67, 392, 74, 220, 221, 222, 444, 445, 446, 27, 447, 81, 82, 80, 79, 78, 448, 449, 296, 297, 298, 73, 227, 228, 229, 230, 511, 217, 218, 219, 223, 224, 225, 226, 735, 736, 737, 738, 739, 740, 741, 742, 743, 744, 745, 746, 747, 790, 791, 792, 793, 794, 816, 817, 795, 796, 797, 798, 799] (by decide +kernel) (by decide +kernel)
set_option maxRecDepth 20000 in
theorem gL_law_X9_adds : GoodIn wsL_law (wsV RL 53 RX9 yX9_adds wsX9_adds) := goodIn_app (goodIn_of _ (by decide +kernel)) ggL_law_X9_adds
set_option maxRecDepth 20000 in
theorem ggL_law_X10_adds : GoodIn wsL_law wsX10_adds := goodIn_r _ [515, 115, 303, 304, 305, 5, 306, 250, 151, 152, 153, 307, 308, 309, 310, 463, 464, 465, 466, 116, 467, 251, 748, 749, 750, 751, 752, 753, 754, 755, 756, 757, 758, 759, 760, 761, 762, 763, 764, 765, 766, 767, 768, 769, 770, 771, 772, 773, 774, 775, 776, 777, 778, 779, 780, 781, 782, 783, 784] (by decide +kernel) (by decide +kernel)
set_option maxRecDepth 20000 in
theorem gL_law_X10_adds : GoodIn wsL_law (wsV RL 56 RX10 yX10_adds wsX10_adds) := goodIn_app (goodIn_of _ (by decide +kernel)) ggL_law_X10_adds
set_option maxRecDepth 20000 in
theorem ggL_law_X9_undo : GoodIn wsL_law wsX9_undo := goodIn_r _ [519, 28, 23, 520, 521, 522, 27, 523, 82, 81, 80, 79, 78, 524, 488, 489, 67, 490, 74, 220, 221, 222, 525, 224, 225, 226, 73, 227, 228, 229, 230, 735, 736, 737, 738, 739, 740, 741, 742, 743, 744, 745, 746, 747, 795, 796, 797, 798, 799, 790, 791, 792, 793, 794, 816, 817] (by decide +kernel) (by decide +kernel)
set_option maxRecDepth 20000 in
theorem gL_law_X9_undo : GoodIn wsL_law (wsV RL 57 RX9 yX9_undo wsX9_undo) := goodIn_app (goodIn_of _ (by decide +kernel)) ggL_law_X9_undo
set_option maxRecDepth 20000 in
theorem ggL_law_X10_undo : GoodIn wsL_law wsX10_undo := goodIn_r _ [529, 251, 467, 115, 116, 748, 749, 750, 751, 752, 753, 754, 755, 756, 757, 758, 759, 760, 761, 762, 763, 764, 765, 766, 767, 768, 769, 770, 771, 772, 773, 774, 775, 776, 777, 778, 779, 780, 781, 782, 783, 784] (by decide +kernel) (by decide +kernel)
set_option maxRecDepth 20000 in
theorem gL_law_X10_undo : GoodIn wsL_law (wsV RL 60 RX10 yX10_undo wsX10_undo) := goodIn_app (goodIn_of _ (by decide +kernel)) ggL_law_X10_undo
set_option maxRecDepth 20000 in
theorem ggL_law_X9_meet : GoodIn wsL_law wsX9_meet := goodIn_r _ [533, 475, 476, 477, 2, 478, 291, 292, 293, 294, 23, 534, 535, 536, 537, 41, 42, 322, 323, 324, 40, 325, 326, 104, 327, 328, 329, 22, 330, 69, 62, 63, 64, 331, 332, 333, 45, 334, 335, 336, 337, 338, 339, 340, 341, 342, 99, 100, 101, 102, 320, 321, 343, 296, 297, 67, 298, 73, 227, 228, 229, 230, 74, 220, 221, 222, 344, 345, 346, 347, 348, 349, 350, 351, 352, 353, 354, 355, 356, 538, 539, 540, 541, 542, 543, 544, 545, 416, 417, 418, 419, 546, 547, 548, 549, 550, 551, 552, 553, 554, 735, 736, 737, 738, 739, 740, 741, 742, 743, 744, 745, 746, 747, 790, 791, 792, 793, 794, 806, 807, 808, 809, 810, 811, 812, 813, 814, 815, 816, 817] (by decide +kernel) (by decide +kernel)
set_option maxRecDepth 20000 in
theorem gL_law_X9_meet : GoodIn wsL_law (wsV RL 61 RX9 yX9_meet wsX9_meet) := goodIn_app (goodIn_of _ (by decide +kernel)) ggL_law_X9_meet
set_option maxRecDepth 20000 in
theorem ggL_law_X10_meet : GoodIn wsL_law wsX10_meet := goodIn_r _ [558, 303, 304, 305, 5, 306, 250, 151, 152, 153, 559, 560, 561, 562, 131, 127, 132, 128, 366, 367, 368, 369, 112, 113, 129, 114, 130, 370, 371, 372, 373, 374, 307, 308, 309, 310, 115, 311, 312, 313, 314, 375, 376, 377, 378, 379, 380, 381, 382, 383, 384, 428, 429, 430, 431, 563, 564, 565, 566, 748, 749, 750, 751, 752, 753, 754, 755, 756, 757, 758, 759, 760, 761, 762, 763, 764, 765, 766, 767, 768, 769, 770, 771, 772, 773, 774, 775, 776, 777, 778, 779, 780, 781, 782, 783, 784] (by decide +kernel) (by decide +kernel)
set_option maxRecDepth 20000 in
theorem gL_law_X10_meet : GoodIn wsL_law (wsV RL 64 RX10 yX10_meet wsX10_meet) := goodIn_app (goodIn_of _ (by decide +kernel)) ggL_law_X10_meet
set_option maxRecDepth 20000 in
theorem ggL_law_X9_fewest : GoodIn wsL_law wsX9_fewest := goodIn_r _ [570, 41, 23, 46, 291, 292, 293, 2, 294, 319, 320, 321, 571, 354, 355, 322, 323, 324, 40, 325, 326, 104, 327, 328, 329, 22, 330, 69, 62, 63, 64, 331, 332, 333, 45, 334, 335, 336, 337, 338, 339, 340, 341, 342, 99, 100, 101, 102, 343, 296, 297, 67, 298, 73, 227, 228, 229, 230, 74, 220, 221, 222, 344, 345, 346, 347, 348, 349, 350, 351, 352, 353, 356, 357, 358, 359, 360, 361, 572, 573, 574, 575, 576, 577, 485, 578, 579, 580, 581, 582, 583, 584, 585, 586, 587, 588, 589, 47, 590, 591, 592, 593, 594, 735, 736, 737, 738, 739, 740, 741, 742, 743, 744, 745, 746, 747, 790, 791, 792, 793, 794, 806, 807, 808, 809, 810, 811, 812, 813, 814, 815, 816, 817] (by decide +kernel) (by decide +kernel)
set_option maxRecDepth 20000 in
theorem gL_law_X9_fewest : GoodIn wsL_law (wsV RL 65 RX9 yX9_fewest wsX9_fewest) := goodIn_app (goodIn_of _ (by decide +kernel)) ggL_law_X9_fewest
set_option maxRecDepth 20000 in
theorem ggL_law_X10_fewest : GoodIn wsL_law wsX10_fewest := goodIn_r _ [598, 127, 128, 129, 130, 133, 371, 372, 373, 374, 303, 304, 305, 5, 306, 250, 151, 152, 153, 366, 367, 368, 369, 112, 113, 114, 370, 307, 308, 309, 310, 115, 311, 312, 313, 314, 375, 376, 377, 378, 379, 380, 381, 382, 383, 384, 599, 600, 601, 602, 603, 604, 605, 606, 607, 608, 609, 610, 611, 612, 613, 614, 615, 748, 749, 750, 751, 752, 753, 754, 755, 756, 757, 758, 759, 760, 761, 762, 763, 764, 765, 766, 767, 768, 769, 770, 771, 772, 773, 774, 775, 776, 777, 778, 779, 780, 781, 782, 783, 784] (by decide +kernel) (by decide +kernel)
set_option maxRecDepth 20000 in
theorem gL_law_X10_fewest : GoodIn wsL_law (wsV RL 69 RX10 yX10_fewest wsX10_fewest) := goodIn_app (goodIn_of _ (by decide +kernel)) ggL_law_X10_fewest
set_option maxRecDepth 20000 in
theorem ggL_law_X9_sees : GoodIn wsL_law wsX9_sees := goodIn_r _ [619, 23, 32, 319, 320, 2, 321, 571, 354, 355, 620, 621, 622, 31, 623, 89, 86, 87, 88, 735, 736, 737, 738, 739, 740, 741, 742, 743, 744, 745, 746, 747, 790, 791, 792, 793, 794, 800, 801, 802, 803] (by decide +kernel) (by decide +kernel)
set_option maxRecDepth 20000 in
theorem gL_law_X9_sees : GoodIn wsL_law (wsV RL 70 RX9 yX9_sees wsX9_sees) := goodIn_app (goodIn_of _ (by decide +kernel)) ggL_law_X9_sees
set_option maxRecDepth 20000 in
theorem ggL_law_X10_sees : GoodIn wsL_law wsX10_sees := goodIn_r _ [627, 250, 252, 117, 118, 151, 152, 5, 153, 748, 749, 750, 751, 752, 753, 754, 755, 756, 757, 758, 759, 760, 761, 762, 763, 764, 765, 766, 767, 768, 769, 770, 771, 772, 773, 774, 775, 776, 777, 778, 779, 780, 781, 782, 783, 784] (by decide +kernel) (by decide +kernel)
set_option maxRecDepth 20000 in
theorem gL_law_X10_sees : GoodIn wsL_law (wsV RL 73 RX10 yX10_sees wsX10_sees) := goodIn_app (goodIn_of _ (by decide +kernel)) ggL_law_X10_sees
set_option maxRecDepth 20000 in
theorem ggL_law_X9_forget : GoodIn wsL_law wsX9_forget := goodIn_r _ [631, 32, 235, 236, 237, 31, 238, 89, 735, 736, 737, 738, 739, 740, 741, 742, 743, 744, 745, 746, 747, 800, 801, 802, 803] (by decide +kernel) (by decide +kernel)
set_option maxRecDepth 20000 in
theorem gL_law_X9_forget : GoodIn wsL_law (wsV RL 74 RX9 yX9_forget wsX9_forget) := goodIn_app (goodIn_of _ (by decide +kernel)) ggL_law_X9_forget
set_option maxRecDepth 20000 in
theorem ggL_law_X10_forget : GoodIn wsL_law wsX10_forget := goodIn_r _ [635, 252, 748, 749, 750, 751, 752, 753, 754, 755, 756, 757, 758, 759, 760, 761, 762, 763, 764, 765, 766, 767, 768, 769, 770, 771, 772, 773, 774, 775, 776, 777, 778, 779, 780, 781, 782, 783, 784] (by decide +kernel) (by decide +kernel)
set_option maxRecDepth 20000 in
theorem gL_law_X10_forget : GoodIn wsL_law (wsV RL 77 RX10 yX10_forget wsX10_forget) := goodIn_app (goodIn_of _ (by decide +kernel)) ggL_law_X10_forget
set_option maxRecDepth 20000 in
theorem ggL_law_X9_unseen : GoodIn wsL_law wsX9_unseen := goodIn_r _ [639, 640, 641, 642, 2, 643, 23, 41, 32, 389, 390, 391, 67, 392, 74, 220, 221, 222, 322, 323, 324, 40, 325, 326, 104, 327, 328, 329, 22, 330, 69, 62, 63, 64, 331, 332, 333, 45, 334, 335, 336, 337, 338, 339, 340, 341, 342, 99, 100, 101, 102, 320, 321, 343, 296, 297, 298, 73, 227, 228, 229, 230, 344, 345, 346, 347, 348, 349, 350, 351, 352, 353, 354, 355, 356, 644, 645, 646, 31, 647, 89, 86, 87, 88, 648, 417, 418, 419, 735, 736, 737, 738, 739, 740, 741, 742, 743, 744, 745, 746, 747, 790, 791, 792, 793, 794, 816, 817, 806, 807, 808, 809, 810, 811, 812, 813, 814, 815, 800, 801, 802, 803] (by decide +kernel) (by decide +kernel)
set_option maxRecDepth 20000 in
theorem gL_law_X9_unseen : GoodIn wsL_law (wsV RL 78 RX9 yX9_unseen wsX9_unseen) := goodIn_app (goodIn_of _ (by decide +kernel)) ggL_law_X9_unseen
set_option maxRecDepth 20000 in
theorem ggL_law_X10_unseen : GoodIn wsL_law wsX10_unseen := goodIn_r _ [652, 252, 127, 117, 128, 118, 307, 308, 309, 5, 310, 115, 366, 367, 368, 369, 112, 113, 129, 114, 130, 370, 371, 372, 373, 374, 311, 312, 313, 314, 375, 376, 377, 378, 379, 380, 381, 382, 383, 384, 151, 152, 153, 748, 749, 750, 751, 752, 753, 754, 755, 756, 757, 758, 759, 760, 761, 762, 763, 764, 765, 766, 767, 768, 769, 770, 771, 772, 773, 774, 775, 776, 777, 778, 779, 780, 781, 782, 783, 784] (by decide +kernel) (by decide +kernel)
set_option maxRecDepth 20000 in
theorem gL_law_X10_unseen : GoodIn wsL_law (wsV RL 81 RX10 yX10_unseen wsX10_unseen) := goodIn_app (goodIn_of _ (by decide +kernel)) ggL_law_X10_unseen
set_option maxRecDepth 20000 in
theorem ggL_law_X9_look : GoodIn wsL_law wsX9_look := goodIn_r _ [656, 49, 640, 641, 642, 2, 643, 23, 41, 32, 389, 390, 391, 67, 392, 74, 220, 221, 222, 322, 323, 324, 40, 325, 326, 104, 327, 328, 329, 22, 330, 69, 62, 63, 64, 331, 332, 333, 45, 334, 335, 336, 337, 338, 339, 340, 341, 342, 99, 100, 101, 102, 320, 321, 343, 296, 297, 298, 73, 227, 228, 229, 230, 344, 345, 346, 347, 348, 349, 350, 351, 352, 353, 354, 355, 356, 644, 645, 646, 31, 647, 89, 86, 87, 88, 648, 417, 418, 419, 657, 658, 659, 660, 661, 662, 663, 664, 665, 666, 667, 668, 398, 399, 400, 669, 402, 403, 404, 405, 406, 407, 735, 736, 737, 738, 739, 740, 741, 742, 743, 744, 745, 746, 747, 790, 791, 792, 793, 794, 816, 817, 806, 807, 808, 809, 810, 811, 812, 813, 814, 815, 800, 801, 802, 803] (by decide +kernel) (by decide +kernel)
set_option maxRecDepth 20000 in
theorem gL_law_X9_look : GoodIn wsL_law (wsV RL 82 RX9 yX9_look wsX9_look) := goodIn_app (goodIn_of _ (by decide +kernel)) ggL_law_X9_look
set_option maxRecDepth 20000 in
theorem ggL_law_X10_look : GoodIn wsL_law wsX10_look := goodIn_r _ [673, 674, 650, 651, 5, 652, 252, 127, 117, 128, 118, 307, 308, 309, 310, 115, 366, 367, 368, 369, 112, 113, 129, 114, 130, 370, 371, 372, 373, 374, 311, 312, 313, 314, 375, 376, 377, 378, 379, 380, 381, 382, 383, 384, 151, 152, 153, 675, 676, 677, 678, 679, 680, 681, 748, 749, 750, 751, 752, 753, 754, 755, 756, 757, 758, 759, 760, 761, 762, 763, 764, 765, 766, 767, 768, 769, 770, 771, 772, 773, 774, 775, 776, 777, 778, 779, 780, 781, 782, 783, 784] (by decide +kernel) (by decide +kernel)
set_option maxRecDepth 20000 in
theorem gL_law_X10_look : GoodIn wsL_law (wsV RL 85 RX10 yX10_look wsX10_look) := goodIn_app (goodIn_of _ (by decide +kernel)) ggL_law_X10_look
set_option maxRecDepth 20000 in
theorem ggL_law_X9_keep : GoodIn wsL_law wsX9_keep := goodIn_r _ [685, 23, 686, 687, 688, 2, 689, 36, 37, 690, 691, 692, 35, 693, 94, 95, 694, 695, 696, 67, 697, 454, 390, 391, 392, 74, 220, 221, 222, 487, 488, 489, 490, 455, 296, 297, 298, 73, 227, 228, 229, 230, 223, 224, 225, 226, 735, 736, 737, 738, 739, 740, 741, 742, 743, 744, 745, 746, 747, 790, 791, 792, 793, 794, 804, 805, 816, 817] (by decide +kernel) (by decide +kernel)
set_option maxRecDepth 20000 in
theorem gL_law_X9_keep : GoodIn wsL_law (wsV RL 86 RX9 yX9_keep wsX9_keep) := goodIn_app (goodIn_of _ (by decide +kernel)) ggL_law_X9_keep
set_option maxRecDepth 20000 in
theorem ggL_law_X10_keep : GoodIn wsL_law wsX10_keep := goodIn_r _ [701, 120, 121, 115, 250, 151, 152, 5, 153, 748, 749, 750, 751, 752, 753, 754, 755, 756, 757, 758, 759, 760, 761, 762, 763, 764, 765, 766, 767, 768, 769, 770, 771, 772, 773, 774, 775, 776, 777, 778, 779, 780, 781, 782, 783, 784] (by decide +kernel) (by decide +kernel)
set_option maxRecDepth 20000 in
theorem gL_law_X10_keep : GoodIn wsL_law (wsV RL 89 RX10 yX10_keep wsX10_keep) := goodIn_app (goodIn_of _ (by decide +kernel)) ggL_law_X10_keep
set_option maxRecDepth 20000 in
theorem ggL_law_X9_back : GoodIn wsL_law wsX9_back := goodIn_r _ [705, 23, 28, 686, 687, 688, 2, 689, 36, 37, 706, 695, 696, 67, 697, 454, 390, 391, 392, 74, 220, 221, 222, 487, 488, 489, 490, 455, 296, 297, 298, 73, 227, 228, 229, 230, 223, 224, 225, 226, 231, 232, 233, 27, 234, 82, 804, 805, 735, 736, 737, 738, 739, 740, 741, 742, 743, 744, 745, 746, 747, 790, 791, 792, 793, 794, 816, 817, 795, 796, 797, 798, 799] (by decide +kernel) (by decide +kernel)
set_option maxRecDepth 20000 in
theorem gL_law_X9_back : GoodIn wsL_law (wsV RL 90 RX9 yX9_back wsX9_back) := goodIn_app (goodIn_of _ (by decide +kernel)) ggL_law_X9_back
set_option maxRecDepth 20000 in
theorem ggL_law_X10_back : GoodIn wsL_law wsX10_back := goodIn_r _ [710, 120, 115, 121, 251, 250, 151, 152, 5, 153, 748, 749, 750, 751, 752, 753, 754, 755, 756, 757, 758, 759, 760, 761, 762, 763, 764, 765, 766, 767, 768, 769, 770, 771, 772, 773, 774, 775, 776, 777, 778, 779, 780, 781, 782, 783, 784] (by decide +kernel) (by decide +kernel)
set_option maxRecDepth 20000 in
theorem gL_law_X10_back : GoodIn wsL_law (wsV RL 93 RX10 yX10_back wsX10_back) := goodIn_app (goodIn_of _ (by decide +kernel)) ggL_law_X10_back
set_option maxRecDepth 20000 in
theorem ggL_law_X9_count : GoodIn wsL_law wsX9_count := goodIn_r _ [714, 23, 32, 15, 28, 715, 716, 717, 2, 718, 389, 390, 391, 67, 392, 74, 220, 221, 222, 719, 720, 721, 722, 41, 322, 323, 324, 40, 325, 326, 104, 327, 328, 329, 22, 330, 69, 62, 63, 64, 331, 332, 333, 45, 334, 335, 336, 337, 338, 339, 340, 341, 342, 99, 100, 101, 102, 320, 321, 343, 296, 297, 298, 73, 227, 228, 229, 230, 344, 345, 346, 347, 348, 349, 350, 351, 352, 353, 354, 355, 356, 723, 724, 725, 726, 534, 535, 536, 537, 42, 538, 539, 540, 541, 542, 543, 544, 545, 416, 417, 418, 419, 546, 547, 548, 549, 550, 551, 552, 553, 554, 142, 143, 144, 14, 145, 55, 735, 736, 737, 738, 739, 740, 741, 742, 743, 744, 745, 746, 747, 790, 791, 792, 793, 794, 800, 801, 802, 803, 795, 796, 797, 798, 799, 816, 817, 806, 807, 808, 809, 810, 811, 812, 813, 814, 815, 785, 786] (by decide +kernel) (by decide +kernel)
set_option maxRecDepth 20000 in
theorem gL_law_X9_count : GoodIn wsL_law (wsV RL 94 RX9 yX9_count wsX9_count) := goodIn_app (goodIn_of _ (by decide +kernel)) ggL_law_X9_count
set_option maxRecDepth 20000 in
theorem ggL_law_X10_count : GoodIn wsL_law wsX10_count := goodIn_r _ [730, 250, 252, 150, 251, 731, 732, 733, 5, 734, 370, 366, 367, 368, 369, 127, 112, 128, 113, 129, 114, 130, 371, 372, 373, 374, 307, 308, 309, 310, 115, 311, 312, 313, 314, 375, 376, 377, 378, 379, 380, 381, 382, 383, 384, 151, 152, 153, 559, 560, 561, 562, 131, 132, 428, 429, 430, 431, 563, 564, 565, 566, 748, 749, 750, 751, 752, 753, 754, 755, 756, 757, 758, 759, 760, 761, 762, 763, 764, 765, 766, 767, 768, 769, 770, 771, 772, 773, 774, 775, 776, 777, 778, 779, 780, 781, 782, 783, 784] (by decide +kernel) (by decide +kernel)
set_option maxRecDepth 20000 in
theorem gL_law_X10_count : GoodIn wsL_law (wsV RL 97 RX10 yX10_count wsX10_count) := goodIn_app (goodIn_of _ (by decide +kernel)) ggL_law_X10_count
