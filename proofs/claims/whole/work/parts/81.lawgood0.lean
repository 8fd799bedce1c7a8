set_option maxRecDepth 20000 in
theorem ggL_law_X10_init : GoodIn wsL_law wsX10_init := goodIn_r _ [8, 9, 10, 11, 12, 13, 14, 15, 16, 17, 18, 19, 20, 21, 22, 23, 24, 25, 26, 27, 28, 29, 30, 31, 32, 33, 34, 35, 36, 37, 38, 39, 40, 41, 42, 43, 44, 45, 46, 47, 48, 49, 50, 51, 52, 53, 54, 55, 56, 57, 58, 59, 60, 61, 62, 63, 64, 65, 66, 67, 68, 69, 70, 71, 72, 73, 74, 75, 76, 77, 78, 79, 80, 81, 82, 83, 84, 85, 86, 87, 88, 89, 90, 91, 92, 93, 94, 95, 96, 97, 98, 99, 100, 101, 102, 103, 104, 105, 106, 107, 108, 109, 110, 111, 112, 113, 114, 115, 116, 117, 118, 119, 120, 121, 122, 123, 124, 125, 126, 127, 128, 129, 130, 131, 132, 133, 134, 854, 855, 856, 857, 858, 859, 835, 836, 837, 838, 839, 840, 841, 842, 843, 844, 845, 860, 861, 862, 863, 864, 865, 866, 867, 868, 869, 870, 871, 872, 873, 874, 875, 876, 877, 878, 879, 880, 881, 882, 883, 884, 885, 886, 887, 888, 889, 890, 891, 892, 893, 894, 895, 896, 897, 898, 899, 900, 901, 902, 903, 904, 905] (by decide +kernel) (by decide +kernel)
set_option maxRecDepth 20000 in
theorem gL_law_X10_init : GoodIn wsL_law (wsX10_init) := ggL_law_X10_init
set_option maxRecDepth 20000 in
theorem ggL_law_X11_init : GoodIn wsL_law wsX11_init := goodIn_r _ [137, 138, 10, 11, 57, 139, 140, 141, 142, 143, 144, 145, 846, 847, 848, 849, 850, 851, 852, 853] (by decide +kernel) (by decide +kernel)
set_option maxRecDepth 20000 in
theorem gL_law_X11_init : GoodIn wsL_law (wsX11_init) := ggL_law_X11_init
set_option maxRecDepth 20000 in
theorem ggL_law_X10_newCase : GoodIn wsL_law wsX10_newCase := goodIn_r _ [149, 15, 150, 151, 152, 2, 153, 154, 155, 156, 157, 158, 159, 14, 160, 58, 161, 835, 836, 837, 838, 839, 840, 841, 842, 843, 844, 845, 854, 855, 856, 857, 858, 859] (by decide +kernel) (by decide +kernel)
set_option maxRecDepth 20000 in
theorem gL_law_X10_newCase : GoodIn wsL_law (wsV RL 13 RX10 yX10_newCase wsX10_newCase) := goodIn_app (goodIn_of _ (by decide +kernel)) ggL_law_X10_newCase
set_option maxRecDepth 20000 in
theorem ggL_law_X11_newCase : GoodIn wsL_law wsX11_newCase := goodIn_r _ [165, 139, 166, 167, 5, 168, 169, 170, 171, 172, 173, 174, 175, 846, 847, 848, 849, 850, 851, 852, 853] (by decide +kernel) (by decide +kernel)
set_option maxRecDepth 20000 in
theorem gL_law_X11_newCase : GoodIn wsL_law (wsV RL 17 RX11 yX11_newCase wsX11_newCase) := goodIn_app (goodIn_of _ (by decide +kernel)) ggL_law_X11_newCase
set_option maxRecDepth 20000 in
theorem ggL_law_X10_tie : GoodIn wsL_law wsX10_tie := goodIn_r _ [179, 15, 180, 181, 182, 183, 2, 184, 150, 154, 155, 156, 185, 186, 187, 151, 152, 153, 188, 189, 190, 191, 192, 193, 14, 194, 58, 61, 60, 195, 835, 836, 837, 838, 839, 840, 841, 842, 843, 844, 845, 854, 855, 856, 857, 858, 859] (by decide +kernel) (by decide +kernel)
set_option maxRecDepth 20000 in
theorem gL_law_X10_tie : GoodIn wsL_law (wsV RL 18 RX10 yX10_tie wsX10_tie) := goodIn_app (goodIn_of _ (by decide +kernel)) ggL_law_X10_tie
set_option maxRecDepth 20000 in
theorem ggL_law_X11_tie : GoodIn wsL_law wsX11_tie := goodIn_r _ [199, 139, 200, 201, 202, 5, 203, 169, 170, 171, 204, 205, 206, 166, 167, 168, 172, 173, 174, 175, 846, 847, 848, 849, 850, 851, 852, 853] (by decide +kernel) (by decide +kernel)
set_option maxRecDepth 20000 in
theorem gL_law_X11_tie : GoodIn wsL_law (wsV RL 22 RX11 yX11_tie wsX11_tie) := goodIn_app (goodIn_of _ (by decide +kernel)) ggL_law_X11_tie
set_option maxRecDepth 20000 in
theorem ggL_law_X10_which : GoodIn wsL_law wsX10_which := goodIn_r _ [210, 15, 181, 182, 183, 2, 184, 150, 154, 155, 156, 185, 186, 187, 211, 212, 213, 14, 214, 60, 835, 836, 837, 838, 839, 840, 841, 842, 843, 844, 845, 854, 855, 856, 857, 858, 859] (by decide +kernel) (by decide +kernel)
set_option maxRecDepth 20000 in
theorem gL_law_X10_which : GoodIn wsL_law (wsV RL 23 RX10 yX10_which wsX10_which) := goodIn_app (goodIn_of _ (by decide +kernel)) ggL_law_X10_which
set_option maxRecDepth 20000 in
theorem ggL_law_X11_which : GoodIn wsL_law wsX11_which := goodIn_r _ [218, 140, 200, 201, 202, 5, 203, 139, 169, 170, 171, 204, 205, 206, 219, 220, 221, 222, 223, 846, 847, 848, 849, 850, 851, 852, 853] (by decide +kernel) (by decide +kernel)
set_option maxRecDepth 20000 in
theorem gL_law_X11_which : GoodIn wsL_law (wsV RL 27 RX11 yX11_which wsX11_which) := goodIn_app (goodIn_of _ (by decide +kernel)) ggL_law_X11_which
set_option maxRecDepth 20000 in
theorem ggL_law_X10_rule : GoodIn wsL_law wsX10_rule := goodIn_r _ [227, 19, 228, 188, 189, 2, 190, 154, 155, 156, 229, 230, 231, 151, 152, 153, 232, 233, 234, 18, 235, 236, 69, 70, 71, 72, 73, 74, 79, 80, 835, 836, 837, 838, 839, 840, 841, 842, 843, 844, 845, 860, 861, 862, 863, 864, 865, 866, 867, 868, 869, 870, 871, 872] (by decide +kernel) (by decide +kernel)
set_option maxRecDepth 20000 in
theorem gL_law_X10_rule : GoodIn wsL_law (wsV RL 28 RX10 yX10_rule wsX10_rule) := goodIn_app (goodIn_of _ (by decide +kernel)) ggL_law_X10_rule
set_option maxRecDepth 20000 in
theorem ggL_law_X11_rule : GoodIn wsL_law wsX11_rule := goodIn_r _ [240, 139, 241, 242, 5, 243, 169, 170, 171, 244, 245, 246, 166, 167, 168, 172, 173, 174, 175, 846, 847, 848, 849, 850, 851, 852, 853] (by decide +kernel) (by decide +kernel)
set_option maxRecDepth 20000 in
theorem gL_law_X11_rule : GoodIn wsL_law (wsV RL 32 RX11 yX11_rule wsX11_rule) := goodIn_app (goodIn_of _ (by decide +kernel)) ggL_law_X11_rule
set_option maxRecDepth 20000 in
theorem ggL_law_X10_test : GoodIn wsL_law wsX10_test := goodIn_r _ [250, 19, 251, 252, 253, 254, 2, 255, 228, 154, 155, 156, 185, 186, 187, 256, 257, 258, 18, 259, 75, 76, 77, 69, 80, 260, 261, 262, 263, 264, 265, 266, 81, 267, 268, 269, 270, 271, 272, 273, 835, 836, 837, 838, 839, 840, 841, 842, 843, 844, 845, 860, 861, 862, 863, 864, 865, 866, 867, 868, 869, 870, 871, 872] (by decide +kernel) (by decide +kernel)
set_option maxRecDepth 20000 in
theorem gL_law_X10_test : GoodIn wsL_law (wsV RL 33 RX10 yX10_test wsX10_test) := goodIn_app (goodIn_of _ (by decide +kernel)) ggL_law_X10_test
set_option maxRecDepth 20000 in
theorem ggL_law_X11_test : GoodIn wsL_law wsX11_test := goodIn_r _ [277, 139, 200, 201, 202, 5, 203, 169, 170, 171, 204, 205, 206, 278, 279, 280, 281, 846, 847, 848, 849, 850, 851, 852, 853] (by decide +kernel) (by decide +kernel)
set_option maxRecDepth 20000 in
theorem gL_law_X11_test : GoodIn wsL_law (wsV RL 37 RX11 yX11_test wsX11_test) := goodIn_app (goodIn_of _ (by decide +kernel)) ggL_law_X11_test
set_option maxRecDepth 20000 in
theorem ggL_law_X10_strike : GoodIn wsL_law wsX10_strike := goodIn_r _ [285, 19, 286, 252, 253, 254, 2, 255, 228, 154, 155, 156, 151, 152, 153, 835, 836, 837, 838, 839, 840, 841, 842, 843, 844, 845, 860, 861, 862, 863, 864, 865, 866, 867, 868, 869, 870, 871, 872] (by decide +kernel) (by decide +kernel)
set_option maxRecDepth 20000 in
theorem gL_law_X10_strike : GoodIn wsL_law (wsV RL 38 RX10 yX10_strike wsX10_strike) := goodIn_app (goodIn_of _ (by decide +kernel)) ggL_law_X10_strike
set_option maxRecDepth 20000 in
theorem ggL_law_X11_strike : GoodIn wsL_law wsX11_strike := goodIn_r _ [290, 139, 200, 201, 202, 5, 203, 169, 170, 171, 166, 167, 168, 278, 279, 280, 281, 846, 847, 848, 849, 850, 851, 852, 853] (by decide +kernel) (by decide +kernel)
set_option maxRecDepth 20000 in
theorem gL_law_X11_strike : GoodIn wsL_law (wsV RL 41 RX11 yX11_strike wsX11_strike) := goodIn_app (goodIn_of _ (by decide +kernel)) ggL_law_X11_strike
set_option maxRecDepth 20000 in
theorem ggL_law_X10_sort : GoodIn wsL_law wsX10_sort := goodIn_r _ [294, 23, 295, 188, 189, 2, 190, 154, 155, 156, 229, 230, 231, 296, 297, 298, 22, 299, 86, 835, 836, 837, 838, 839, 840, 841, 842, 843, 844, 845, 873, 874] (by decide +kernel) (by decide +kernel)
set_option maxRecDepth 20000 in
theorem gL_law_X10_sort : GoodIn wsL_law (wsV RL 42 RX10 yX10_sort wsX10_sort) := goodIn_app (goodIn_of _ (by decide +kernel)) ggL_law_X10_sort
set_option maxRecDepth 20000 in
theorem ggL_law_X11_sort : GoodIn wsL_law wsX11_sort := goodIn_r _ [303, 241, 242, 5, 243, 169, 170, 171, 244, 245, 246, 304, 305, 306, 307, 139, 846, 847, 848, 849, 850, 851, 852, 853] (by decide +kernel) (by decide +kernel)
set_option maxRecDepth 20000 in
theorem gL_law_X11_sort : GoodIn wsL_law (wsV RL 45 RX11 yX11_sort wsX11_sort) := goodIn_app (goodIn_of _ (by decide +kernel)) ggL_law_X11_sort
set_option maxRecDepth 20000 in
theorem ggL_law_X10_way : GoodIn wsL_law wsX10_way := goodIn_r _ [311, 23, 312, 188, 189, 2, 190, 154, 155, 156, 835, 836, 837, 838, 839, 840, 841, 842, 843, 844, 845, 873, 874] (by decide +kernel) (by decide +kernel)
set_option maxRecDepth 20000 in
theorem gL_law_X10_way : GoodIn wsL_law (wsV RL 46 RX10 yX10_way wsX10_way) := goodIn_app (goodIn_of _ (by decide +kernel)) ggL_law_X10_way
set_option maxRecDepth 20000 in
theorem ggL_law_X11_way : GoodIn wsL_law wsX11_way := goodIn_r _ [316, 241, 242, 5, 243, 169, 170, 171, 304, 305, 306, 307, 139, 846, 847, 848, 849, 850, 851, 852, 853] (by decide +kernel) (by decide +kernel)
set_option maxRecDepth 20000 in
theorem gL_law_X11_way : GoodIn wsL_law (wsV RL 49 RX11 yX11_way wsX11_way) := goodIn_app (goodIn_of _ (by decide +kernel)) ggL_law_X11_way
set_option maxRecDepth 20000 in
theorem ggL_law_X10_treaty : GoodIn wsL_law wsX10_treaty := goodIn_r _ [320, 27, 321, 229, 230, 2, 231, 154, 155, 156, 185, 186, 187, 322, 323, 324, 26, 325, 91, 326, 92, 93, 835, 836, 837, 838, 839, 840, 841, 842, 843, 844, 845, 875, 876, 877, 878] (by decide +kernel) (by decide +kernel)
set_option maxRecDepth 20000 in
theorem gL_law_X10_treaty : GoodIn wsL_law (wsV RL 50 RX10 yX10_treaty wsX10_treaty) := goodIn_app (goodIn_of _ (by decide +kernel)) ggL_law_X10_treaty
