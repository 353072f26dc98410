set_option maxRecDepth 20000 in
theorem ggL_law_X8_again : GoodIn wsL_law wsX8_again := goodIn_r _ [814, 160, 108, 101, 796, 797, 5, 798, 161, 165, 166, 167, 799, 800, 801, 802, 99, 100, 102, 103, 104, 105, 106, 107, 870, 871, 872, 873, 874, 875, 876, 877, 878, 879, 880, 881, 882, 883, 884, 885, 886, 887, 888, 889, 890, 891, 892, 893, 894, 895, 896, 897, 898, 899, 900, 901, 902, 903, 904, 905] (by decide +kernel) (by decide +kernel)
set_option maxRecDepth 20000 in
theorem gL_law_X8_again : GoodIn wsL_law (wsV RL 127 RX8 yX8_again wsX8_again) := goodIn_app (goodIn_of _ (by decide +kernel)) ggL_law_X8_again
set_option maxRecDepth 20000 in
theorem ggL_law_X7_tried : GoodIn wsL_law wsX7_tried := goodIn_r _ [818, 46, 44, 188, 28, 31, 610, 780, 781, 2, 782, 189, 190, 191, 238, 239, 240, 819, 820, 821, 172, 173, 259, 260, 261, 27, 262, 72, 263, 264, 265, 266, 140, 141, 142, 267, 268, 269, 270, 271, 14, 272, 52, 273, 196, 197, 198, 54, 274, 275, 276, 277, 278, 279, 280, 281, 55, 56, 282, 283, 284, 285, 286, 287, 154, 288, 289, 290, 291, 292, 293, 294, 295, 296, 297, 298, 299, 300, 301, 302, 303, 304, 305, 306, 307, 308, 309, 310, 311, 312, 313, 314, 315, 316, 317, 318, 319, 320, 321, 322, 323, 324, 325, 326, 335, 336, 337, 338, 858, 859, 860, 861, 862, 863, 864, 865, 866, 867, 868, 869, 906, 907, 908, 909, 910, 911, 912, 918] (by decide +kernel) (by decide +kernel)
set_option maxRecDepth 20000 in
theorem gL_law_X7_tried : GoodIn wsL_law (wsV RL 128 RX7 yX7_tried wsX7_tried) := goodIn_app (goodIn_of _ (by decide +kernel)) ggL_law_X7_tried
set_option maxRecDepth 20000 in
theorem ggL_law_X8_tried : GoodIn wsL_law wsX8_tried := goodIn_r _ [825, 160, 108, 207, 101, 796, 797, 5, 798, 161, 165, 166, 167, 212, 213, 214, 215, 343, 344, 345, 346, 347, 352, 353, 354, 355, 105, 356, 357, 358, 359, 99, 360, 100, 361, 362, 114, 115, 363, 364, 365, 366, 367, 103, 104, 368, 369, 370, 371, 372, 106, 107, 373, 374, 375, 376, 377, 378, 379, 380, 381, 382, 383, 384, 385, 386, 387, 388, 389, 390, 391, 392, 393, 394, 395, 396, 397, 398, 399, 400, 870, 871, 872, 873, 874, 875, 876, 877, 878, 879, 880, 881, 882, 883, 884, 885, 886, 887, 888, 889, 890, 891, 892, 893, 894, 895, 896, 897, 898, 899, 900, 901, 902, 903, 904, 905] (by decide +kernel) (by decide +kernel)
set_option maxRecDepth 20000 in
theorem gL_law_X8_tried : GoodIn wsL_law (wsV RL 131 RX8 yX8_tried wsX8_tried) := goodIn_app (goodIn_of _ (by decide +kernel)) ggL_law_X8_tried
set_option maxRecDepth 20000 in
theorem ggL_law_X7_differs : GoodIn wsL_law wsX7_differs := goodIn_r _ [829, 46, 44, 28, 29, 31, 174, 780, 781, 2, 782, 819, 820, 821, 172, 173, 259, 260, 261, 27, 262, 72, 263, 264, 265, 266, 140, 141, 142, 267, 268, 269, 270, 271, 14, 272, 52, 273, 196, 197, 198, 54, 274, 275, 276, 277, 278, 279, 280, 281, 55, 56, 282, 283, 284, 285, 286, 287, 154, 288, 289, 290, 291, 292, 293, 294, 295, 296, 297, 298, 299, 300, 301, 302, 303, 304, 305, 306, 307, 308, 309, 310, 311, 312, 313, 314, 315, 316, 317, 318, 319, 320, 321, 322, 323, 324, 325, 326, 830, 831, 832, 833, 858, 859, 860, 861, 862, 863, 864, 865, 866, 867, 868, 869, 906, 907, 908, 909, 910, 911, 912, 918] (by decide +kernel) (by decide +kernel)
set_option maxRecDepth 20000 in
theorem gL_law_X7_differs : GoodIn wsL_law (wsV RL 132 RX7 yX7_differs wsX7_differs) := goodIn_app (goodIn_of _ (by decide +kernel)) ggL_law_X7_differs
set_option maxRecDepth 20000 in
theorem ggL_law_X8_differs : GoodIn wsL_law wsX8_differs := goodIn_r _ [837, 160, 108, 207, 105, 102, 119, 116, 796, 797, 5, 798, 161, 165, 166, 167, 356, 357, 358, 359, 99, 360, 100, 361, 101, 362, 114, 115, 363, 364, 365, 366, 367, 103, 104, 368, 369, 370, 371, 372, 106, 107, 373, 374, 375, 376, 377, 378, 379, 380, 381, 382, 383, 384, 385, 386, 387, 388, 389, 390, 391, 392, 393, 394, 395, 396, 553, 554, 555, 556, 557, 558, 559, 870, 871, 872, 873, 874, 875, 876, 877, 878, 879, 880, 881, 882, 883, 884, 885, 886, 887, 888, 889, 890, 891, 892, 893, 894, 895, 896, 897, 898, 899, 900, 901, 902, 903, 904, 905] (by decide +kernel) (by decide +kernel)
set_option maxRecDepth 20000 in
theorem gL_law_X8_differs : GoodIn wsL_law (wsV RL 135 RX8 yX8_differs wsX8_differs) := goodIn_app (goodIn_of _ (by decide +kernel)) ggL_law_X8_differs
set_option maxRecDepth 20000 in
theorem ggL_law_X7_count : GoodIn wsL_law wsX7_count := goodIn_r _ [841, 15, 188, 338, 605, 19, 39, 662, 788, 789, 790, 14, 791, 52, 54, 842, 843, 844, 18, 845, 63, 511, 62, 846, 847, 848, 849, 56, 55, 850, 851, 852, 2, 853, 46, 858, 859, 860, 861, 862, 863, 864, 865, 866, 867, 868, 869, 906, 907, 908, 909, 910, 911, 912, 920, 921, 922, 923, 924, 925, 926, 913, 914, 915] (by decide +kernel) (by decide +kernel)
set_option maxRecDepth 20000 in
theorem gL_law_X7_count : GoodIn wsL_law (wsV RL 136 RX7 yX7_count wsX7_count) := goodIn_app (goodIn_of _ (by decide +kernel)) ggL_law_X7_count
set_option maxRecDepth 20000 in
theorem ggL_law_X8_count : GoodIn wsL_law wsX8_count := goodIn_r _ [857, 160, 101, 113, 107, 106, 108, 99, 100, 675, 803, 804, 805, 5, 806, 105, 870, 871, 872, 873, 874, 875, 876, 877, 878, 879, 880, 881, 882, 883, 884, 885, 886, 887, 888, 889, 890, 891, 892, 893, 894, 895, 896, 897, 898, 899, 900, 901, 902, 903, 904, 905] (by decide +kernel) (by decide +kernel)
set_option maxRecDepth 20000 in
theorem gL_law_X8_count : GoodIn wsL_law (wsV RL 139 RX8 yX8_count wsX8_count) := goodIn_app (goodIn_of _ (by decide +kernel)) ggL_law_X8_count
