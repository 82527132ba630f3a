/-! the law: what its calls need is among its words -/
set_option maxRecDepth 20000 in
theorem ggL_law_X9_mirrors : GoodIn wsL_law wsX9_mirrors := goodIn_r _ [443, 28, 23, 291, 292, 293, 2, 294, 444, 445, 446, 27, 447, 81, 82, 80, 79, 78, 448, 390, 391, 67, 392, 74, 220, 221, 222, 449, 296, 297, 298, 73, 227, 228, 229, 230, 450, 451, 452, 453, 454, 455, 456, 457, 458, 348, 349, 223, 224, 225, 226, 389, 735, 736, 737, 738, 739, 740, 741, 742, 743, 744, 745, 746, 747, 790, 791, 792, 793, 794, 795, 796, 797, 798, 799, 816, 817] (by decide +kernel) (by decide +kernel)
set_option maxRecDepth 20000 in
theorem gL_law_X9_mirrors : GoodIn wsL_law (wsV RL 41 RX9 yX9_mirrors wsX9_mirrors) := goodIn_app (goodIn_of _ (by decide +kernel)) ggL_law_X9_mirrors
set_option maxRecDepth 20000 in
theorem ggL_law_X10_mirrors : GoodIn wsL_law wsX10_mirrors := goodIn_r _ [462, 115, 303, 304, 305, 5, 306, 250, 151, 152, 153, 463, 464, 465, 466, 116, 467, 251, 307, 308, 309, 310, 311, 312, 313, 314, 468, 469, 470, 748, 749, 750, 751, 752, 753, 754, 755, 756, 757, 758, 759, 760, 761, 762, 763, 764, 765, 766, 767, 768, 769, 770, 771, 772, 773, 774, 775, 776, 777, 778, 779, 780, 781, 782, 783, 784] (by decide +kernel) (by decide +kernel)
set_option maxRecDepth 20000 in
theorem gL_law_X10_mirrors : GoodIn wsL_law (wsV RL 44 RX10 yX10_mirrors wsX10_mirrors) := goodIn_app (goodIn_of _ (by decide +kernel)) ggL_law_X10_mirrors
set_option maxRecDepth 20000 in
theorem ggL_law_X9_canons : GoodIn wsL_law wsX9_canons := goodIn_r _ [474, 28, 23, 475, 476, 477, 2, 478, 291, 292, 293, 294, 444, 445, 446, 27, 447, 81, 82, 80, 79, 78, 448, 390, 391, 67, 392, 74, 220, 221, 222, 449, 296, 297, 298, 73, 227, 228, 229, 230, 479, 480, 481, 482, 483, 484, 485, 486, 454, 487, 488, 489, 490, 455, 223, 224, 225, 226, 389, 735, 736, 737, 738, 739, 740, 741, 742, 743, 744, 745, 746, 747, 790, 791, 792, 793, 794, 795, 796, 797, 798, 799, 816, 817] (by decide +kernel) (by decide +kernel)
set_option maxRecDepth 20000 in
theorem gL_law_X9_canons : GoodIn wsL_law (wsV RL 45 RX9 yX9_canons wsX9_canons) := goodIn_app (goodIn_of _ (by decide +kernel)) ggL_law_X9_canons
set_option maxRecDepth 20000 in
theorem ggL_law_X10_canons : GoodIn wsL_law wsX10_canons := goodIn_r _ [494, 115, 303, 304, 305, 5, 306, 250, 151, 152, 153, 463, 464, 465, 466, 116, 467, 251, 307, 308, 309, 310, 311, 312, 313, 314, 748, 749, 750, 751, 752, 753, 754, 755, 756, 757, 758, 759, 760, 761, 762, 763, 764, 765, 766, 767, 768, 769, 770, 771, 772, 773, 774, 775, 776, 777, 778, 779, 780, 781, 782, 783, 784] (by decide +kernel) (by decide +kernel)
set_option maxRecDepth 20000 in
theorem gL_law_X10_canons : GoodIn wsL_law (wsV RL 48 RX10 yX10_canons wsX10_canons) := goodIn_app (goodIn_of _ (by decide +kernel)) ggL_law_X10_canons
set_option maxRecDepth 20000 in
theorem ggL_law_X9_changes : GoodIn wsL_law wsX9_changes := goodIn_r _ [498, 23, 28, 291, 292, 293, 2, 294, 499, 500, 501, 295, 296, 297, 67, 298, 73, 227, 228, 229, 230, 74, 220, 221, 222, 444, 445, 446, 27, 447, 81, 82, 80, 79, 78, 448, 390, 391, 392, 449, 502, 224, 225, 226, 735, 736, 737, 738, 739, 740, 741, 742, 743, 744, 745, 746, 747, 790, 791, 792, 793, 794, 816, 817, 795, 796, 797, 798, 799] (by decide +kernel) (by decide +kernel)
set_option maxRecDepth 20000 in
theorem gL_law_X9_changes : GoodIn wsL_law (wsV RL 49 RX9 yX9_changes wsX9_changes) := goodIn_app (goodIn_of _ (by decide +kernel)) ggL_law_X9_changes
set_option maxRecDepth 20000 in
theorem ggL_law_X10_changes : GoodIn wsL_law wsX10_changes := goodIn_r _ [506, 115, 303, 304, 305, 5, 306, 250, 151, 152, 153, 307, 308, 309, 310, 311, 312, 313, 314, 463, 464, 465, 466, 116, 467, 251, 748, 749, 750, 751, 752, 753, 754, 755, 756, 757, 758, 759, 760, 761, 762, 763, 764, 765, 766, 767, 768, 769, 770, 771, 772, 773, 774, 775, 776, 777, 778, 779, 780, 781, 782, 783, 784] (by decide +kernel) (by decide +kernel)
set_option maxRecDepth 20000 in
theorem gL_law_X10_changes : GoodIn wsL_law (wsV RL 52 RX10 yX10_changes wsX10_changes) := goodIn_app (goodIn_of _ (by decide +kernel)) ggL_law_X10_changes
set_option maxRecDepth 20000 in
theorem ggL_law_X9_adds : GoodIn wsL_law wsX9_adds := goodIn_r _ [510, 23, 28, 291, 292, 293, 2, 294, 499, 500, 501, 389, 390, 391, 67, 392, 74, 220, 221, 222, 444, 445, 446, 27, 447, 81, 82, 80, 79, 78, 448, 449, 296, 297, 298, 73, 227, 228, 229, 230, 511, 217, 218, 219, 223, 224, 225, 226, 735, 736, 737, 738, 739, 740, 741, 742, 743, 744, 745, 746, 747, 790, 791, 792, 793, 794, 816, 817, 795, 796, 797, 798, 799] (by decide +kernel) (by decide +kernel)
set_option maxRecDepth 20000 in
theorem gL_law_X9_adds : GoodIn wsL_law (wsV RL 53 RX9 yX9_adds wsX9_adds) := goodIn_app (goodIn_of _ (by decide +kernel)) ggL_law_X9_adds
