set_option maxRecDepth 20000 in
theorem ggL_law_X8_leave : GoodIn wsL_law wsX8_leave := goodIn_r _ [233, 160, 106, 107, 208, 209, 210, 5, 211, 101, 165, 166, 167, 870, 871, 872, 873, 874, 875, 876, 877, 878, 879, 880, 881, 882, 883, 884, 885, 886, 887, 888, 889, 890, 891, 892, 893, 894, 895, 896, 897, 898, 899, 900, 901, 902, 903, 904, 905] (by decide +kernel) (by decide +kernel)
set_option maxRecDepth 20000 in
theorem gL_law_X8_leave : GoodIn wsL_law (wsV RL 35 RX8 yX8_leave wsX8_leave) := goodIn_app (goodIn_of _ (by decide +kernel)) ggL_law_X8_leave
set_option maxRecDepth 20000 in
theorem ggL_law_X7_truly : GoodIn wsL_law wsX7_truly := goodIn_r _ [237, 15, 188, 23, 189, 190, 2, 191, 238, 239, 240, 241, 242, 243, 244, 245, 31, 28, 174, 246, 247, 248, 249, 250, 251, 252, 22, 253, 67, 254, 255, 256, 257, 258, 259, 260, 261, 27, 262, 72, 263, 264, 265, 266, 140, 141, 142, 267, 268, 269, 270, 271, 14, 272, 52, 273, 196, 197, 198, 54, 274, 275, 276, 277, 278, 279, 280, 281, 55, 56, 282, 283, 284, 285, 286, 287, 154, 288, 289, 290, 291, 292, 293, 294, 295, 296, 297, 298, 299, 300, 301, 302, 303, 304, 305, 306, 307, 308, 309, 310, 311, 312, 313, 314, 315, 316, 317, 318, 319, 320, 321, 322, 323, 324, 325, 326, 327, 328, 329, 330, 331, 332, 333, 334, 335, 336, 337, 338, 858, 859, 860, 861, 862, 863, 864, 865, 866, 867, 868, 869, 906, 907, 908, 909, 910, 911, 912, 916, 917, 918] (by decide +kernel) (by decide +kernel)
set_option maxRecDepth 20000 in
theorem gL_law_X7_truly : GoodIn wsL_law (wsV RL 36 RX7 yX7_truly wsX7_truly) := goodIn_app (goodIn_of _ (by decide +kernel)) ggL_law_X7_truly
set_option maxRecDepth 20000 in
theorem ggL_law_X8_truly : GoodIn wsL_law wsX8_truly := goodIn_r _ [342, 160, 101, 212, 213, 5, 214, 215, 165, 166, 167, 343, 344, 345, 346, 347, 348, 349, 350, 351, 102, 352, 353, 354, 355, 105, 356, 357, 358, 359, 99, 360, 100, 361, 362, 114, 115, 363, 364, 365, 366, 367, 103, 104, 368, 369, 370, 371, 372, 106, 107, 373, 374, 375, 376, 377, 378, 379, 380, 381, 382, 383, 384, 385, 386, 387, 388, 389, 390, 391, 392, 393, 394, 395, 396, 397, 398, 399, 400, 870, 871, 872, 873, 874, 875, 876, 877, 878, 879, 880, 881, 882, 883, 884, 885, 886, 887, 888, 889, 890, 891, 892, 893, 894, 895, 896, 897, 898, 899, 900, 901, 902, 903, 904, 905] (by decide +kernel) (by decide +kernel)
set_option maxRecDepth 20000 in
theorem gL_law_X8_truly : GoodIn wsL_law (wsV RL 39 RX8 yX8_truly wsX8_truly) := goodIn_app (goodIn_of _ (by decide +kernel)) ggL_law_X8_truly
set_option maxRecDepth 20000 in
theorem ggL_law_X7_machine : GoodIn wsL_law wsX7_machine := goodIn_r _ [404, 23, 28, 184, 185, 186, 2, 187, 15, 188, 189, 190, 191, 241, 242, 243, 244, 245, 31, 174, 246, 247, 248, 249, 250, 251, 252, 22, 253, 67, 254, 255, 256, 257, 258, 259, 260, 261, 27, 262, 72, 263, 264, 265, 266, 140, 141, 142, 267, 268, 269, 270, 271, 14, 272, 52, 273, 196, 197, 198, 54, 274, 275, 276, 277, 278, 279, 280, 281, 55, 56, 282, 283, 284, 285, 286, 287, 154, 288, 289, 290, 291, 292, 293, 294, 295, 296, 297, 298, 299, 300, 301, 302, 303, 304, 305, 306, 307, 308, 309, 310, 311, 312, 313, 314, 315, 316, 317, 318, 319, 320, 321, 322, 323, 324, 325, 326, 327, 328, 329, 330, 405, 858, 859, 860, 861, 862, 863, 864, 865, 866, 867, 868, 869, 906, 907, 908, 909, 910, 911, 912, 916, 917, 918] (by decide +kernel) (by decide +kernel)
set_option maxRecDepth 20000 in
theorem gL_law_X7_machine : GoodIn wsL_law (wsV RL 40 RX7 yX7_machine wsX7_machine) := goodIn_app (goodIn_of _ (by decide +kernel)) ggL_law_X7_machine
set_option maxRecDepth 20000 in
theorem ggL_law_X8_machine : GoodIn wsL_law wsX8_machine := goodIn_r _ [409, 160, 208, 209, 210, 5, 211, 101, 165, 166, 167, 212, 213, 214, 215, 348, 349, 350, 351, 102, 352, 353, 354, 355, 105, 356, 357, 358, 359, 99, 360, 100, 361, 362, 114, 115, 363, 364, 365, 366, 367, 103, 104, 368, 369, 370, 371, 372, 106, 107, 373, 374, 375, 376, 377, 378, 379, 380, 381, 382, 383, 384, 385, 386, 387, 388, 389, 390, 391, 392, 393, 394, 395, 396, 870, 871, 872, 873, 874, 875, 876, 877, 878, 879, 880, 881, 882, 883, 884, 885, 886, 887, 888, 889, 890, 891, 892, 893, 894, 895, 896, 897, 898, 899, 900, 901, 902, 903, 904, 905] (by decide +kernel) (by decide +kernel)
set_option maxRecDepth 20000 in
theorem gL_law_X8_machine : GoodIn wsL_law (wsV RL 43 RX8 yX8_machine wsX8_machine) := goodIn_app (goodIn_of _ (by decide +kernel)) ggL_law_X8_machine
set_option maxRecDepth 20000 in
theorem ggL_law_X7_line : GoodIn wsL_law wsX7_line := goodIn_r _ [413, 19, 184, 185, 186, 2, 187, 15, 188, 414, 415, 416, 18, 417, 61, 418, 419, 420, 421, 858, 859, 860, 861, 862, 863, 864, 865, 866, 867, 868, 869, 906, 907, 908, 909, 910, 911, 912, 913, 914, 915] (by decide +kernel) (by decide +kernel)
set_option maxRecDepth 20000 in
theorem gL_law_X7_line : GoodIn wsL_law (wsV RL 44 RX7 yX7_line wsX7_line) := goodIn_app (goodIn_of _ (by decide +kernel)) ggL_law_X7_line
set_option maxRecDepth 20000 in
theorem ggL_law_X8_line : GoodIn wsL_law wsX8_line := goodIn_r _ [425, 160, 162, 112, 208, 209, 210, 5, 211, 101, 165, 166, 167, 870, 871, 872, 873, 874, 875, 876, 877, 878, 879, 880, 881, 882, 883, 884, 885, 886, 887, 888, 889, 890, 891, 892, 893, 894, 895, 896, 897, 898, 899, 900, 901, 902, 903, 904, 905] (by decide +kernel) (by decide +kernel)
set_option maxRecDepth 20000 in
theorem gL_law_X8_line : GoodIn wsL_law (wsV RL 47 RX8 yX8_line wsX8_line) := goodIn_app (goodIn_of _ (by decide +kernel)) ggL_law_X8_line
set_option maxRecDepth 20000 in
theorem ggL_law_X7_lose : GoodIn wsL_law wsX7_lose := goodIn_r _ [429, 19, 184, 185, 186, 2, 187, 15, 188, 189, 190, 191, 430, 431, 432, 18, 433, 62, 434, 435, 436, 437, 858, 859, 860, 861, 862, 863, 864, 865, 866, 867, 868, 869, 906, 907, 908, 909, 910, 911, 912, 913, 914, 915] (by decide +kernel) (by decide +kernel)
set_option maxRecDepth 20000 in
theorem gL_law_X7_lose : GoodIn wsL_law (wsV RL 48 RX7 yX7_lose wsX7_lose) := goodIn_app (goodIn_of _ (by decide +kernel)) ggL_law_X7_lose
set_option maxRecDepth 20000 in
theorem ggL_law_X8_lose : GoodIn wsL_law wsX8_lose := goodIn_r _ [441, 160, 113, 208, 209, 210, 5, 211, 101, 165, 166, 167, 212, 213, 214, 215, 870, 871, 872, 873, 874, 875, 876, 877, 878, 879, 880, 881, 882, 883, 884, 885, 886, 887, 888, 889, 890, 891, 892, 893, 894, 895, 896, 897, 898, 899, 900, 901, 902, 903, 904, 905] (by decide +kernel) (by decide +kernel)
set_option maxRecDepth 20000 in
theorem gL_law_X8_lose : GoodIn wsL_law (wsV RL 52 RX8 yX8_lose wsX8_lose) := goodIn_app (goodIn_of _ (by decide +kernel)) ggL_law_X8_lose
set_option maxRecDepth 20000 in
theorem ggL_law_X7_known : GoodIn wsL_law wsX7_known := goodIn_r _ [445, 15, 19, 174, 184, 185, 186, 2, 187, 188, 189, 190, 191, 446, 279, 280, 14, 281, 55, 56, 447, 448, 449, 18, 450, 61, 62, 858, 859, 860, 861, 862, 863, 864, 865, 866, 867, 868, 869, 906, 907, 908, 909, 910, 911, 912, 913, 914, 915] (by decide +kernel) (by decide +kernel)
set_option maxRecDepth 20000 in
theorem gL_law_X7_known : GoodIn wsL_law (wsV RL 53 RX7 yX7_known wsX7_known) := goodIn_app (goodIn_of _ (by decide +kernel)) ggL_law_X7_known
set_option maxRecDepth 20000 in
theorem ggL_law_X8_known : GoodIn wsL_law wsX8_known := goodIn_r _ [454, 160, 179, 455, 208, 209, 210, 5, 211, 101, 165, 166, 167, 212, 213, 214, 215, 456, 457, 458, 459, 112, 113, 369, 370, 371, 372, 106, 107, 870, 871, 872, 873, 874, 875, 876, 877, 878, 879, 880, 881, 882, 883, 884, 885, 886, 887, 888, 889, 890, 891, 892, 893, 894, 895, 896, 897, 898, 899, 900, 901, 902, 903, 904, 905] (by decide +kernel) (by decide +kernel)
set_option maxRecDepth 20000 in
theorem gL_law_X8_known : GoodIn wsL_law (wsV RL 56 RX8 yX8_known wsX8_known) := goodIn_app (goodIn_of _ (by decide +kernel)) ggL_law_X8_known
