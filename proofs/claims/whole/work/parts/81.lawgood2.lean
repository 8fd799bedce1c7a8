set_option maxRecDepth 20000 in
theorem ggL_law_X10_reached : GoodIn wsL_law wsX10_reached := goodIn_r _ [607, 39, 529, 530, 2, 531, 188, 189, 190, 154, 155, 156, 229, 230, 231, 151, 152, 153, 608, 609, 610, 38, 611, 120, 570, 533, 534, 535, 536, 118, 119, 537, 63, 64, 65, 538, 348, 349, 18, 350, 236, 351, 352, 353, 354, 73, 74, 539, 540, 541, 542, 543, 544, 356, 357, 358, 80, 359, 81, 575, 546, 547, 548, 549, 550, 551, 552, 553, 426, 427, 34, 428, 429, 107, 341, 108, 103, 430, 104, 102, 431, 297, 298, 22, 299, 86, 432, 389, 390, 391, 79, 392, 393, 394, 395, 396, 397, 398, 433, 434, 435, 436, 72, 69, 576, 450, 451, 452, 109, 453, 454, 455, 26, 456, 326, 93, 91, 92, 457, 458, 459, 460, 461, 462, 463, 464, 465, 106, 466, 467, 468, 469, 50, 470, 113, 471, 472, 473, 474, 475, 835, 836, 837, 838, 839, 840, 841, 842, 843, 844, 845, 890, 891, 892, 881, 882, 883, 884, 885, 886, 887, 888, 889, 860, 861, 862, 863, 864, 865, 866, 867, 868, 869, 870, 871, 872, 873, 874, 875, 876, 877, 878, 902, 903, 904, 905] (by decide +kernel) (by decide +kernel)
set_option maxRecDepth 20000 in
theorem gL_law_X10_reached : GoodIn wsL_law (wsV RL 90 RX10 yX10_reached wsX10_reached) := goodIn_app (goodIn_of _ (by decide +kernel)) ggL_law_X10_reached
set_option maxRecDepth 20000 in
theorem ggL_law_X11_reached : GoodIn wsL_law wsX11_reached := goodIn_r _ [615, 241, 242, 5, 243, 169, 170, 171, 244, 245, 246, 166, 167, 168, 558, 559, 560, 561, 223, 140, 480, 481, 482, 483, 139, 484, 485, 486, 487, 441, 442, 443, 444, 407, 408, 409, 410, 411, 412, 413, 414, 142, 278, 279, 280, 281, 364, 365, 366, 367, 368, 369, 370, 371, 372, 373, 374, 375, 376, 377, 378, 379, 488, 489, 490, 491, 846, 847, 848, 849, 850, 851, 852, 853] (by decide +kernel) (by decide +kernel)
set_option maxRecDepth 20000 in
theorem gL_law_X11_reached : GoodIn wsL_law (wsV RL 93 RX11 yX11_reached wsX11_reached) := goodIn_app (goodIn_of _ (by decide +kernel)) ggL_law_X11_reached
set_option maxRecDepth 20000 in
theorem ggL_law_X10_same : GoodIn wsL_law wsX10_same := goodIn_r _ [619, 39, 229, 230, 2, 231, 154, 155, 156, 151, 152, 153, 620, 621, 622, 38, 623, 120, 570, 533, 534, 535, 536, 118, 119, 537, 63, 64, 65, 538, 348, 349, 18, 350, 236, 351, 352, 353, 354, 73, 74, 539, 540, 541, 542, 543, 544, 356, 357, 358, 80, 359, 81, 575, 546, 547, 548, 549, 550, 551, 552, 553, 426, 427, 34, 428, 429, 107, 341, 108, 103, 430, 104, 102, 431, 297, 298, 22, 299, 86, 432, 389, 390, 391, 79, 392, 393, 394, 395, 396, 397, 398, 433, 434, 435, 436, 72, 69, 624, 625, 626, 627, 628, 450, 451, 452, 109, 453, 454, 455, 26, 456, 326, 93, 91, 92, 457, 458, 459, 460, 461, 462, 463, 464, 465, 106, 466, 467, 468, 469, 50, 470, 113, 471, 472, 473, 474, 475, 835, 836, 837, 838, 839, 840, 841, 842, 843, 844, 845, 890, 891, 892, 881, 882, 883, 884, 885, 886, 887, 888, 889, 860, 861, 862, 863, 864, 865, 866, 867, 868, 869, 870, 871, 872, 873, 874, 875, 876, 877, 878, 902, 903, 904, 905] (by decide +kernel) (by decide +kernel)
set_option maxRecDepth 20000 in
theorem gL_law_X10_same : GoodIn wsL_law (wsV RL 94 RX10 yX10_same wsX10_same) := goodIn_app (goodIn_of _ (by decide +kernel)) ggL_law_X10_same
set_option maxRecDepth 20000 in
theorem ggL_law_X11_same : GoodIn wsL_law wsX11_same := goodIn_r _ [632, 244, 245, 5, 246, 169, 170, 171, 166, 167, 168, 558, 559, 560, 561, 223, 140, 633, 634, 635, 636, 480, 481, 482, 483, 139, 484, 485, 486, 487, 441, 442, 443, 444, 407, 408, 409, 410, 411, 412, 413, 414, 142, 278, 279, 280, 281, 364, 365, 366, 367, 368, 369, 370, 371, 372, 373, 374, 375, 376, 377, 378, 379, 488, 489, 490, 491, 846, 847, 848, 849, 850, 851, 852, 853] (by decide +kernel) (by decide +kernel)
set_option maxRecDepth 20000 in
theorem gL_law_X11_same : GoodIn wsL_law (wsV RL 97 RX11 yX11_same wsX11_same) := goodIn_app (goodIn_of _ (by decide +kernel)) ggL_law_X11_same
set_option maxRecDepth 20000 in
theorem ggL_law_X10_dead : GoodIn wsL_law wsX10_dead := goodIn_r _ [640, 39, 23, 19, 188, 189, 2, 190, 154, 155, 156, 151, 152, 153, 641, 642, 643, 22, 644, 645, 297, 298, 299, 86, 646, 647, 648, 38, 649, 119, 120, 543, 570, 533, 534, 535, 536, 118, 537, 63, 64, 65, 538, 348, 349, 18, 350, 236, 351, 352, 353, 354, 73, 74, 539, 540, 541, 542, 544, 356, 357, 358, 80, 359, 81, 549, 550, 551, 552, 650, 389, 390, 391, 79, 392, 393, 394, 395, 396, 397, 398, 651, 652, 653, 654, 69, 835, 836, 837, 838, 839, 840, 841, 842, 843, 844, 845, 873, 874, 890, 891, 892, 881, 882, 883, 884, 885, 886, 887, 888, 889, 860, 861, 862, 863, 864, 865, 866, 867, 868, 869, 870, 871, 872] (by decide +kernel) (by decide +kernel)
set_option maxRecDepth 20000 in
theorem gL_law_X10_dead : GoodIn wsL_law (wsV RL 98 RX10 yX10_dead wsX10_dead) := goodIn_app (goodIn_of _ (by decide +kernel)) ggL_law_X10_dead
set_option maxRecDepth 20000 in
theorem ggL_law_X11_dead : GoodIn wsL_law wsX11_dead := goodIn_r _ [658, 144, 139, 241, 242, 5, 243, 169, 170, 171, 166, 167, 168, 558, 559, 560, 561, 223, 140, 407, 408, 409, 410, 411, 412, 413, 414, 142, 278, 279, 280, 281, 364, 365, 366, 367, 368, 369, 370, 371, 372, 373, 374, 375, 376, 377, 378, 379, 846, 847, 848, 849, 850, 851, 852, 853] (by decide +kernel) (by decide +kernel)
set_option maxRecDepth 20000 in
theorem gL_law_X11_dead : GoodIn wsL_law (wsV RL 101 RX11 yX11_dead wsX11_dead) := goodIn_app (goodIn_of _ (by decide +kernel)) ggL_law_X11_dead
set_option maxRecDepth 20000 in
theorem ggL_law_X10_trial : GoodIn wsL_law wsX10_trial := goodIn_r _ [662, 31, 663, 252, 253, 254, 2, 255, 19, 228, 154, 155, 156, 664, 665, 666, 30, 667, 668, 97, 669, 670, 671, 672, 835, 836, 837, 838, 839, 840, 841, 842, 843, 844, 845, 879, 880, 860, 861, 862, 863, 864, 865, 866, 867, 868, 869, 870, 871, 872] (by decide +kernel) (by decide +kernel)
set_option maxRecDepth 20000 in
theorem gL_law_X10_trial : GoodIn wsL_law (wsV RL 102 RX10 yX10_trial wsX10_trial) := goodIn_app (goodIn_of _ (by decide +kernel)) ggL_law_X10_trial
set_option maxRecDepth 20000 in
theorem ggL_law_X11_trial : GoodIn wsL_law wsX11_trial := goodIn_r _ [676, 139, 200, 201, 202, 5, 203, 169, 170, 171, 172, 173, 174, 175, 846, 847, 848, 849, 850, 851, 852, 853] (by decide +kernel) (by decide +kernel)
set_option maxRecDepth 20000 in
theorem gL_law_X11_trial : GoodIn wsL_law (wsV RL 105 RX11 yX11_trial wsX11_trial) := goodIn_app (goodIn_of _ (by decide +kernel)) ggL_law_X11_trial
set_option maxRecDepth 20000 in
theorem ggL_law_X10_untry : GoodIn wsL_law wsX10_untry := goodIn_r _ [680, 31, 663, 835, 836, 837, 838, 839, 840, 841, 842, 843, 844, 845, 879, 880] (by decide +kernel) (by decide +kernel)
set_option maxRecDepth 20000 in
theorem gL_law_X10_untry : GoodIn wsL_law (wsV RL 106 RX10 yX10_untry wsX10_untry) := goodIn_app (goodIn_of _ (by decide +kernel)) ggL_law_X10_untry
set_option maxRecDepth 20000 in
theorem ggL_law_X11_untry : GoodIn wsL_law wsX11_untry := goodIn_r _ [684, 304, 305, 306, 5, 307, 139, 846, 847, 848, 849, 850, 851, 852, 853] (by decide +kernel) (by decide +kernel)
set_option maxRecDepth 20000 in
theorem gL_law_X11_untry : GoodIn wsL_law (wsV RL 110 RX11 yX11_untry wsX11_untry) := goodIn_app (goodIn_of _ (by decide +kernel)) ggL_law_X11_untry
set_option maxRecDepth 20000 in
theorem ggL_law_X10_kindOf : GoodIn wsL_law wsX10_kindOf := goodIn_r _ [688, 15, 689, 181, 182, 183, 2, 184, 150, 154, 155, 156, 229, 230, 231, 835, 836, 837, 838, 839, 840, 841, 842, 843, 844, 845, 854, 855, 856, 857, 858, 859] (by decide +kernel) (by decide +kernel)
set_option maxRecDepth 20000 in
theorem gL_law_X10_kindOf : GoodIn wsL_law (wsV RL 111 RX10 yX10_kindOf wsX10_kindOf) := goodIn_app (goodIn_of _ (by decide +kernel)) ggL_law_X10_kindOf
set_option maxRecDepth 20000 in
theorem ggL_law_X11_kindOf : GoodIn wsL_law wsX11_kindOf := goodIn_r _ [693, 200, 201, 202, 5, 203, 139, 169, 170, 171, 244, 245, 246, 304, 305, 306, 307, 846, 847, 848, 849, 850, 851, 852, 853] (by decide +kernel) (by decide +kernel)
set_option maxRecDepth 20000 in
theorem gL_law_X11_kindOf : GoodIn wsL_law (wsV RL 114 RX11 yX11_kindOf wsX11_kindOf) := goodIn_app (goodIn_of _ (by decide +kernel)) ggL_law_X11_kindOf
set_option maxRecDepth 20000 in
theorem ggL_law_X10_fewest : GoodIn wsL_law wsX10_fewest := goodIn_r _ [697, 15, 150, 43, 698, 699, 700, 42, 701, 126, 702, 128, 125, 703, 127, 704, 705, 337, 338, 34, 339, 107, 340, 341, 102, 342, 343, 344, 345, 346, 212, 213, 14, 214, 60, 347, 348, 349, 18, 350, 236, 351, 352, 353, 354, 73, 74, 355, 356, 357, 358, 80, 359, 81, 706, 707, 708, 709, 710, 711, 712, 713, 714, 715, 30, 716, 668, 97, 717, 718, 719, 720, 721, 722, 723, 724, 426, 427, 428, 429, 108, 103, 430, 104, 431, 297, 298, 22, 299, 86, 432, 389, 390, 391, 79, 392, 393, 394, 395, 396, 397, 398, 433, 434, 435, 436, 72, 69, 725, 625, 626, 627, 628, 450, 451, 452, 109, 453, 454, 455, 26, 456, 326, 93, 91, 92, 457, 458, 459, 460, 461, 462, 463, 464, 465, 106, 466, 467, 468, 469, 50, 470, 113, 471, 472, 473, 474, 475, 835, 836, 837, 838, 839, 840, 841, 842, 843, 844, 845, 854, 855, 856, 857, 858, 859, 893, 894, 895, 896, 881, 882, 883, 884, 885, 886, 887, 888, 889, 879, 880, 860, 861, 862, 863, 864, 865, 866, 867, 868, 869, 870, 871, 872, 873, 874, 875, 876, 877, 878, 902, 903, 904, 905] (by decide +kernel) (by decide +kernel)
set_option maxRecDepth 20000 in
theorem gL_law_X10_fewest : GoodIn wsL_law (wsV RL 115 RX10 yX10_fewest wsX10_fewest) := goodIn_app (goodIn_of _ (by decide +kernel)) ggL_law_X10_fewest
set_option maxRecDepth 20000 in
theorem ggL_law_X11_fewest : GoodIn wsL_law wsX11_fewest := goodIn_r _ [729, 139, 730, 731, 5, 732, 733, 734, 735, 736, 142, 219, 220, 221, 222, 223, 140, 633, 634, 635, 636, 480, 481, 482, 483, 484, 485, 486, 487, 441, 442, 443, 444, 407, 408, 409, 410, 411, 412, 413, 414, 278, 279, 280, 281, 364, 365, 366, 367, 368, 369, 370, 371, 372, 373, 374, 375, 376, 377, 378, 379, 488, 489, 490, 491, 846, 847, 848, 849, 850, 851, 852, 853] (by decide +kernel) (by decide +kernel)
set_option maxRecDepth 20000 in
theorem gL_law_X11_fewest : GoodIn wsL_law (wsV RL 118 RX11 yX11_fewest wsX11_fewest) := goodIn_app (goodIn_of _ (by decide +kernel)) ggL_law_X11_fewest
set_option maxRecDepth 20000 in
theorem ggL_law_X10_ask : GoodIn wsL_law wsX10_ask := goodIn_r _ [740, 47, 741, 742, 743, 384, 385, 386, 2, 387, 188, 189, 190, 154, 155, 156, 181, 182, 183, 184, 15, 150, 229, 230, 231, 744, 745, 746, 46, 747, 748, 749, 750, 134, 133, 751, 752, 753, 533, 534, 38, 535, 120, 536, 118, 119, 537, 63, 64, 65, 538, 348, 349, 18, 350, 236, 351, 352, 353, 354, 73, 74, 539, 540, 541, 542, 543, 544, 356, 357, 358, 80, 359, 81, 754, 550, 551, 552, 755, 756, 757, 758, 759, 760, 212, 213, 14, 214, 60, 761, 426, 427, 34, 428, 429, 107, 341, 108, 103, 430, 104, 102, 431, 297, 298, 22, 299, 86, 432, 389, 390, 391, 79, 392, 393, 394, 395, 396, 397, 398, 433, 434, 435, 436, 72, 69, 762, 763, 764, 765, 766, 450, 451, 452, 109, 453, 454, 455, 26, 456, 326, 93, 91, 92, 457, 458, 459, 460, 461, 462, 463, 464, 465, 106, 466, 467, 468, 469, 50, 470, 113, 471, 472, 473, 474, 475, 767, 768, 769, 770, 835, 836, 837, 838, 839, 840, 841, 842, 843, 844, 845, 897, 898, 899, 900, 901, 854, 855, 856, 857, 858, 859, 890, 891, 892, 881, 882, 883, 884, 885, 886, 887, 888, 889, 860, 861, 862, 863, 864, 865, 866, 867, 868, 869, 870, 871, 872, 873, 874, 875, 876, 877, 878, 902, 903, 904, 905] (by decide +kernel) (by decide +kernel)
set_option maxRecDepth 20000 in
theorem gL_law_X10_ask : GoodIn wsL_law (wsV RL 119 RX10 yX10_ask wsX10_ask) := goodIn_app (goodIn_of _ (by decide +kernel)) ggL_law_X10_ask
set_option maxRecDepth 20000 in
theorem ggL_law_X11_ask : GoodIn wsL_law wsX11_ask := goodIn_r _ [774, 145, 140, 139, 200, 201, 202, 5, 203, 169, 170, 171, 244, 245, 246, 241, 242, 243, 219, 220, 221, 222, 223, 558, 559, 560, 561, 775, 776, 777, 778, 480, 481, 482, 483, 484, 485, 486, 487, 441, 442, 443, 444, 407, 408, 409, 410, 411, 412, 413, 414, 142, 278, 279, 280, 281, 364, 365, 366, 367, 368, 369, 370, 371, 372, 373, 374, 375, 376, 377, 378, 379, 488, 489, 490, 491, 846, 847, 848, 849, 850, 851, 852, 853] (by decide +kernel) (by decide +kernel)
set_option maxRecDepth 20000 in
theorem gL_law_X11_ask : GoodIn wsL_law (wsV RL 122 RX11 yX11_ask wsX11_ask) := goodIn_app (goodIn_of _ (by decide +kernel)) ggL_law_X11_ask
set_option maxRecDepth 20000 in
theorem ggL_law_X10_count : GoodIn wsL_law wsX10_count := goodIn_r _ [782, 15, 150, 180, 19, 228, 27, 321, 31, 663, 154, 155, 2, 156, 835, 836, 837, 838, 839, 840, 841, 842, 843, 844, 845, 854, 855, 856, 857, 858, 859, 860, 861, 862, 863, 864, 865, 866, 867, 868, 869, 870, 871, 872, 875, 876, 877, 878, 879, 880] (by decide +kernel) (by decide +kernel)
set_option maxRecDepth 20000 in
theorem gL_law_X10_count : GoodIn wsL_law (wsV RL 123 RX10 yX10_count wsX10_count) := goodIn_app (goodIn_of _ (by decide +kernel)) ggL_law_X10_count
set_option maxRecDepth 20000 in
theorem ggL_law_X11_count : GoodIn wsL_law wsX11_count := goodIn_r _ [786, 139, 169, 170, 5, 171, 846, 847, 848, 849, 850, 851, 852, 853] (by decide +kernel) (by decide +kernel)
set_option maxRecDepth 20000 in
theorem gL_law_X11_count : GoodIn wsL_law (wsV RL 126 RX11 yX11_count wsX11_count) := goodIn_app (goodIn_of _ (by decide +kernel)) ggL_law_X11_count
set_option maxRecDepth 20000 in
theorem ggL_law_X10_digest : GoodIn wsL_law wsX10_digest := goodIn_r _ [790, 791, 15, 150, 19, 228, 23, 295, 312, 27, 321, 31, 792, 663, 793, 780, 781, 2, 782, 180, 154, 155, 156, 794, 795, 796, 797, 798, 799, 800, 801, 802, 689, 35, 803, 336, 337, 338, 34, 339, 107, 340, 341, 102, 342, 343, 344, 345, 346, 212, 213, 14, 214, 60, 347, 348, 349, 18, 350, 236, 351, 352, 353, 354, 73, 74, 355, 356, 357, 358, 80, 359, 81, 804, 805, 806, 425, 426, 427, 428, 429, 108, 103, 430, 104, 431, 297, 298, 22, 299, 86, 432, 389, 390, 391, 79, 392, 393, 394, 395, 396, 397, 398, 433, 434, 435, 436, 72, 69, 449, 450, 451, 452, 109, 453, 454, 455, 26, 456, 326, 93, 91, 92, 457, 458, 459, 460, 461, 462, 463, 464, 465, 106, 466, 467, 468, 469, 50, 470, 113, 471, 472, 473, 474, 475, 807, 808, 809, 810, 811, 812, 813, 814, 815, 286, 251, 816, 817, 818, 819, 820, 821, 822, 823, 824, 835, 836, 837, 838, 839, 840, 841, 842, 843, 844, 845, 854, 855, 856, 857, 858, 859, 860, 861, 862, 863, 864, 865, 866, 867, 868, 869, 870, 871, 872, 873, 874, 875, 876, 877, 878, 879, 880, 881, 882, 883, 884, 885, 886, 887, 888, 889, 902, 903, 904, 905] (by decide +kernel) (by decide +kernel)
set_option maxRecDepth 20000 in
theorem gL_law_X10_digest : GoodIn wsL_law (wsV RL 127 RX10 yX10_digest wsX10_digest) := goodIn_app (goodIn_of _ (by decide +kernel)) ggL_law_X10_digest
