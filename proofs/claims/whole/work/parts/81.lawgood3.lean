set_option maxRecDepth 20000 in
theorem ggL_law_X11_digest : GoodIn wsL_law wsX11_digest := goodIn_r _ [828, 829, 139, 830, 140, 831, 832, 833, 5, 834, 219, 220, 221, 222, 223, 480, 481, 482, 483, 484, 485, 486, 487, 441, 442, 443, 444, 407, 408, 409, 410, 411, 412, 413, 414, 142, 278, 279, 280, 281, 364, 365, 366, 367, 368, 369, 370, 371, 372, 373, 374, 375, 376, 377, 378, 379, 488, 489, 490, 491, 846, 847, 848, 849, 850, 851, 852, 853] (by decide +kernel) (by decide +kernel)
set_option maxRecDepth 20000 in
theorem gL_law_X11_digest : GoodIn wsL_law (wsV RL 131 RX11 yX11_digest wsX11_digest) := goodIn_app (goodIn_of _ (by decide +kernel)) ggL_law_X11_digest
