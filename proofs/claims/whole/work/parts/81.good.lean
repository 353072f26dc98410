set_option maxRecDepth 20000 in
theorem ggL_law_X7_init : GoodIn wsL_law wsX7_init := goodIn_r _ [8, 9, 10, 11, 12, 13, 14, 15, 16, 17, 18, 19, 20, 21, 22, 23, 24, 25, 26, 27, 28, 29, 30, 31, 32, 33, 34, 35, 36, 37, 38, 39, 40, 41, 42, 43, 44, 45, 46, 47, 48, 49, 50, 51, 52, 53, 54, 55, 56, 57, 58, 59, 60, 61, 62, 63, 64, 65, 66, 67, 68, 69, 70, 71, 72, 73, 74, 75, 76, 77, 78, 79, 80, 81, 82, 83, 84, 85, 86, 87, 88, 89, 90, 91, 92, 93, 94, 906, 907, 908, 909, 910, 911, 912, 858, 859, 860, 861, 862, 863, 864, 865, 866, 867, 868, 869, 913, 914, 915, 916, 917, 918, 919, 920, 921, 922, 923, 924, 925, 926, 927, 928, 929, 930] (by decide +kernel) (by decide +kernel)
set_option maxRecDepth 20000 in
theorem gL_law_X7_init : GoodIn wsL_law (wsX7_init) := ggL_law_X7_init
set_option maxRecDepth 20000 in
theorem ggL_law_X8_init : GoodIn wsL_law wsX8_init := goodIn_r _ [97, 98, 10, 11, 30, 99, 100, 101, 102, 103, 104, 105, 106, 107, 45, 108, 109, 110, 111, 112, 113, 114, 115, 116, 117, 118, 119, 120, 121, 122, 123, 124, 125, 126, 92, 127, 870, 871, 872, 873, 874, 875, 876, 877, 878, 879, 880, 881, 882, 883, 884, 885, 886, 887, 888, 889, 890, 891, 892, 893, 894, 895, 896, 897, 898, 899, 900, 901, 902, 903, 904, 905] (by decide +kernel) (by decide +kernel)
set_option maxRecDepth 20000 in
theorem gL_law_X8_init : GoodIn wsL_law (wsX8_init) := ggL_law_X8_init
set_option maxRecDepth 20000 in
theorem ggL_law_X7_field : GoodIn wsL_law wsX7_field := goodIn_r _ [131, 15, 19, 23, 132, 133, 2, 134, 135, 136, 137, 14, 138, 50, 51, 52, 54, 55, 56, 139, 140, 141, 142, 143, 144, 145, 18, 146, 61, 62, 147, 148, 149, 150, 22, 151, 68, 152, 153, 154, 155, 858, 859, 860, 861, 862, 863, 864, 865, 866, 867, 868, 869, 906, 907, 908, 909, 910, 911, 912, 913, 914, 915, 916, 917] (by decide +kernel) (by decide +kernel)
set_option maxRecDepth 20000 in
theorem gL_law_X7_field : GoodIn wsL_law (wsV RL 13 RX7 yX7_field wsX7_field) := goodIn_app (goodIn_of _ (by decide +kernel)) ggL_law_X7_field
set_option maxRecDepth 20000 in
theorem ggL_law_X8_field : GoodIn wsL_law wsX8_field := goodIn_r _ [159, 160, 161, 162, 163, 164, 99, 100, 101, 105, 113, 106, 107, 112, 165, 166, 5, 167, 870, 871, 872, 873, 874, 875, 876, 877, 878, 879, 880, 881, 882, 883, 884, 885, 886, 887, 888, 889, 890, 891, 892, 893, 894, 895, 896, 897, 898, 899, 900, 901, 902, 903, 904, 905] (by decide +kernel) (by decide +kernel)
set_option maxRecDepth 20000 in
theorem gL_law_X8_field : GoodIn wsL_law (wsV RL 17 RX8 yX8_field wsX8_field) := goodIn_app (goodIn_of _ (by decide +kernel)) ggL_law_X8_field
set_option maxRecDepth 20000 in
theorem ggL_law_X7_rule : GoodIn wsL_law wsX7_rule := goodIn_r _ [171, 172, 173, 15, 174, 23, 148, 149, 150, 22, 151, 68, 152, 153, 154, 155, 858, 859, 860, 861, 862, 863, 864, 865, 866, 867, 868, 869, 906, 907, 908, 909, 910, 911, 912, 916, 917] (by decide +kernel) (by decide +kernel)
set_option maxRecDepth 20000 in
theorem gL_law_X7_rule : GoodIn wsL_law (wsV RL 18 RX7 yX7_rule wsX7_rule) := goodIn_app (goodIn_of _ (by decide +kernel)) ggL_law_X7_rule
set_option maxRecDepth 20000 in
theorem ggL_law_X8_rule : GoodIn wsL_law wsX8_rule := goodIn_r _ [178, 160, 164, 102, 103, 104, 179, 109, 110, 111, 165, 166, 5, 167, 870, 871, 872, 873, 874, 875, 876, 877, 878, 879, 880, 881, 882, 883, 884, 885, 886, 887, 888, 889, 890, 891, 892, 893, 894, 895, 896, 897, 898, 899, 900, 901, 902, 903, 904, 905] (by decide +kernel) (by decide +kernel)
set_option maxRecDepth 20000 in
theorem gL_law_X8_rule : GoodIn wsL_law (wsV RL 22 RX8 yX8_rule wsX8_rule) := goodIn_app (goodIn_of _ (by decide +kernel)) ggL_law_X8_rule
set_option maxRecDepth 20000 in
theorem ggL_law_X7_press : GoodIn wsL_law wsX7_press := goodIn_r _ [183, 15, 23, 184, 185, 186, 2, 187, 188, 189, 190, 191, 192, 193, 194, 195, 196, 197, 14, 198, 54, 199, 200, 201, 202, 148, 149, 150, 22, 151, 68, 152, 153, 154, 155, 858, 859, 860, 861, 862, 863, 864, 865, 866, 867, 868, 869, 906, 907, 908, 909, 910, 911, 912, 916, 917] (by decide +kernel) (by decide +kernel)
set_option maxRecDepth 20000 in
theorem gL_law_X7_press : GoodIn wsL_law (wsV RL 23 RX7 yX7_press wsX7_press) := goodIn_app (goodIn_of _ (by decide +kernel)) ggL_law_X7_press
set_option maxRecDepth 20000 in
theorem ggL_law_X8_press : GoodIn wsL_law wsX8_press := goodIn_r _ [206, 160, 207, 105, 208, 209, 210, 5, 211, 101, 165, 166, 167, 212, 213, 214, 215, 870, 871, 872, 873, 874, 875, 876, 877, 878, 879, 880, 881, 882, 883, 884, 885, 886, 887, 888, 889, 890, 891, 892, 893, 894, 895, 896, 897, 898, 899, 900, 901, 902, 903, 904, 905] (by decide +kernel) (by decide +kernel)
set_option maxRecDepth 20000 in
theorem gL_law_X8_press : GoodIn wsL_law (wsV RL 26 RX8 yX8_press wsX8_press) := goodIn_app (goodIn_of _ (by decide +kernel)) ggL_law_X8_press
set_option maxRecDepth 20000 in
theorem ggL_law_X7_hold : GoodIn wsL_law wsX7_hold := goodIn_r _ [219, 15, 23, 184, 185, 186, 2, 187, 188, 189, 190, 191, 192, 193, 194, 195, 196, 197, 14, 198, 54, 199, 200, 201, 202, 148, 149, 150, 22, 151, 68, 152, 153, 154, 155, 858, 859, 860, 861, 862, 863, 864, 865, 866, 867, 868, 869, 906, 907, 908, 909, 910, 911, 912, 916, 917] (by decide +kernel) (by decide +kernel)
set_option maxRecDepth 20000 in
theorem gL_law_X7_hold : GoodIn wsL_law (wsV RL 27 RX7 yX7_hold wsX7_hold) := goodIn_app (goodIn_of _ (by decide +kernel)) ggL_law_X7_hold
set_option maxRecDepth 20000 in
theorem ggL_law_X8_hold : GoodIn wsL_law wsX8_hold := goodIn_r _ [223, 160, 207, 105, 208, 209, 210, 5, 211, 101, 165, 166, 167, 212, 213, 214, 215, 870, 871, 872, 873, 874, 875, 876, 877, 878, 879, 880, 881, 882, 883, 884, 885, 886, 887, 888, 889, 890, 891, 892, 893, 894, 895, 896, 897, 898, 899, 900, 901, 902, 903, 904, 905] (by decide +kernel) (by decide +kernel)
set_option maxRecDepth 20000 in
theorem gL_law_X8_hold : GoodIn wsL_law (wsV RL 31 RX8 yX8_hold wsX8_hold) := goodIn_app (goodIn_of _ (by decide +kernel)) ggL_law_X8_hold
set_option maxRecDepth 20000 in
theorem ggL_law_X7_leave : GoodIn wsL_law wsX7_leave := goodIn_r _ [227, 15, 228, 229, 23, 184, 185, 186, 2, 187, 188, 148, 149, 150, 22, 151, 68, 152, 153, 154, 155, 858, 859, 860, 861, 862, 863, 864, 865, 866, 867, 868, 869, 906, 907, 908, 909, 910, 911, 912, 916, 917] (by decide +kernel) (by decide +kernel)
set_option maxRecDepth 20000 in
theorem gL_law_X7_leave : GoodIn wsL_law (wsV RL 32 RX7 yX7_leave wsX7_leave) := goodIn_app (goodIn_of _ (by decide +kernel)) ggL_law_X7_leave
set_option maxRecDepth 20000 in
theorem ggL_law_X8_leave : GoodIn wsL_law wsX8_leave := goodIn_r _ [233, 160, 106, 107, 208, 209, 210, 5, 211, 101, 165, 166, 167, 870, 871, 872, 873, 874, 875, 876, 877, 878, 879, 880, 881, 882, 883, 884, 885, 886, 887, 888, 889, 890, 891, 892, 893, 894, 895, 896, 897, 898, 899, 900, 901, 902, 903, 904, 905] (by decide +kernel) (by decide +kernel)
set_option maxRecDepth 20000 in
theorem gL_law_X8_leave : GoodIn wsL_law (wsV RL 35 RX8 yX8_leave wsX8_leave) := goodIn_app (goodIn_of _ (by decide +kernel)) ggL_law_X8_leave
set_option maxRecDepth 20000 in
theorem ggL_law_X7_truly : GoodIn wsL_law wsX7_truly := goodIn_r _ [237, 15, 188, 23, 189, 190, 2, 191, 238, 239, 240, 241, 242, 243, 244, 245, 31, 28, 174, 246, 247, 248, 249, 250, 251, 252, 22, 253, 67, 254, 255, 256, 257, 258, 259, 260, 261, 27, 262, 72, 263, 264, 265, 266, 140, 141, 142, 267, 268, 269, 270, 271, 14, 272, 52, 273, 196, 197, 198, 54, 274, 275, 276, 277, 278, 279, 280, 281, 55, 56, 282, 283, 284, 285, 286, 287, 154, 288, 289, 290, 291, 292, 293, 294, 295, 296, 297, 298, 299, 300, 301, 302, 303, 304, 305, 306, 307, 308, 309, 310, 311, 312, 313, 314, 315, 316, 317, 318, 319, 320, 321, 322, 323, 324, 325, 326, 327, 328, 329, 330, 331, 332, 333, 334, 335, 336, 337, 338, 858, 859, 860, 861, 862, 863, 864, 865, 866, 867, 868, 869, 906, 907, 908, 909, 910, 911, 912, 916, 917, 918] (by decide +kernel) (by decide +kernel)
set_option maxRecDepth 20000 in
theorem gL_law_X7_truly : GoodIn wsL_law (wsV RL 36 RX7 yX7_truly wsX7_truly) := goodIn_app (goodIn_of _ (by decide +kernel)) ggL_law_X7_truly
set_option maxRecDepth 20000 in
theorem ggL_law_X8_truly : GoodIn wsL_law wsX8_truly := goodIn_r _ [342, 160, 101, 212, 213, 5, 214, 215, 165, 166, 167, 343, 344, 345, 346, 347, 348, 349, 350, 351, 102, 352, 353, 354, 355, 105, 356, 357, 358, 359, 99, 360, 100, 361, 362, 114, 115, 363, 364, 365, 366, 367, 103, 104, 368, 369, 370, 371, 372, 106, 107, 373, 374, 375, 376, 377, 378, 379, 380, 381, 382, 383, 384, 385, 386, 387, 388, 389, 390, 391, 392, 393, 394, 395, 396, 397, 398, 399, 400, 870, 871, 872, 873, 874, 875, 876, 877, 878, 879, 880, 881, 882, 883, 884, 885, 886, 887, 888, 889, 890, 891, 892, 893, 894, 895, 896, 897, 898, 899, 900, 901, 902, 903, 904, 905] (by decide +kernel) (by decide +kernel)
set_option maxRecDepth 20000 in
theorem gL_law_X8_truly : GoodIn wsL_law (wsV RL 39 RX8 yX8_truly wsX8_truly) := goodIn_app (goodIn_of _ (by decide +kernel)) ggL_law_X8_truly
set_option maxRecDepth 20000 in
theorem ggL_law_X7_machine : GoodIn wsL_law wsX7_machine := goodIn_r _ [404, 23, 28, 184, 185, 186, 2, 187, 15, 188, 189, 190, 191, 241, 242, 243, 244, 245, 31, 174, 246, 247, 248, 249, 250, 251, 252, 22, 253, 67, 254, 255, 256, 257, 258, 259, 260, 261, 27, 262, 72, 263, 264, 265, 266, 140, 141, 142, 267, 268, 269, 270, 271, 14, 272, 52, 273, 196, 197, 198, 54, 274, 275, 276, 277, 278, 279, 280, 281, 55, 56, 282, 283, 284, 285, 286, 287, 154, 288, 289, 290, 291, 292, 293, 294, 295, 296, 297, 298, 299, 300, 301, 302, 303, 304, 305, 306, 307, 308, 309, 310, 311, 312, 313, 314, 315, 316, 317, 318, 319, 320, 321, 322, 323, 324, 325, 326, 327, 328, 329, 330, 405, 858, 859, 860, 861, 862, 863, 864, 865, 866, 867, 868, 869, 906, 907, 908, 909, 910, 911, 912, 916, 917, 918] (by decide +kernel) (by decide +kernel)
set_option maxRecDepth 20000 in
theorem gL_law_X7_machine : GoodIn wsL_law (wsV RL 40 RX7 yX7_machine wsX7_machine) := goodIn_app (goodIn_of _ (by decide +kernel)) ggL_law_X7_machine
set_option maxRecDepth 20000 in
theorem ggL_law_X8_machine : GoodIn wsL_law wsX8_machine := goodIn_r _ [409, 160, 208, 209, 210, 5, 211, 101, 165, 166, 167, 212, 213, 214, 215, 348, 349, 350, 351, 102, 352, 353, 354, 355, 105, 356, 357, 358, 359, 99, 360, 100, 361, 362, 114, 115, 363, 364, 365, 366, 367, 103, 104, 368, 369, 370, 371, 372, 106, 107, 373, 374, 375, 376, 377, 378, 379, 380, 381, 382, 383, 384, 385, 386, 387, 388, 389, 390, 391, 392, 393, 394, 395, 396, 870, 871, 872, 873, 874, 875, 876, 877, 878, 879, 880, 881, 882, 883, 884, 885, 886, 887, 888, 889, 890, 891, 892, 893, 894, 895, 896, 897, 898, 899, 900, 901, 902, 903, 904, 905] (by decide +kernel) (by decide +kernel)
set_option maxRecDepth 20000 in
theorem gL_law_X8_machine : GoodIn wsL_law (wsV RL 43 RX8 yX8_machine wsX8_machine) := goodIn_app (goodIn_of _ (by decide +kernel)) ggL_law_X8_machine
set_option maxRecDepth 20000 in
theorem ggL_law_X7_line : GoodIn wsL_law wsX7_line := goodIn_r _ [413, 19, 184, 185, 186, 2, 187, 15, 188, 414, 415, 416, 18, 417, 61, 418, 419, 420, 421, 858, 859, 860, 861, 862, 863, 864, 865, 866, 867, 868, 869, 906, 907, 908, 909, 910, 911, 912, 913, 914, 915] (by decide +kernel) (by decide +kernel)
set_option maxRecDepth 20000 in
theorem gL_law_X7_line : GoodIn wsL_law (wsV RL 44 RX7 yX7_line wsX7_line) := goodIn_app (goodIn_of _ (by decide +kernel)) ggL_law_X7_line
set_option maxRecDepth 20000 in
theorem ggL_law_X8_line : GoodIn wsL_law wsX8_line := goodIn_r _ [425, 160, 162, 112, 208, 209, 210, 5, 211, 101, 165, 166, 167, 870, 871, 872, 873, 874, 875, 876, 877, 878, 879, 880, 881, 882, 883, 884, 885, 886, 887, 888, 889, 890, 891, 892, 893, 894, 895, 896, 897, 898, 899, 900, 901, 902, 903, 904, 905] (by decide +kernel) (by decide +kernel)
set_option maxRecDepth 20000 in
theorem gL_law_X8_line : GoodIn wsL_law (wsV RL 47 RX8 yX8_line wsX8_line) := goodIn_app (goodIn_of _ (by decide +kernel)) ggL_law_X8_line
set_option maxRecDepth 20000 in
theorem ggL_law_X7_lose : GoodIn wsL_law wsX7_lose := goodIn_r _ [429, 19, 184, 185, 186, 2, 187, 15, 188, 189, 190, 191, 430, 431, 432, 18, 433, 62, 434, 435, 436, 437, 858, 859, 860, 861, 862, 863, 864, 865, 866, 867, 868, 869, 906, 907, 908, 909, 910, 911, 912, 913, 914, 915] (by decide +kernel) (by decide +kernel)
set_option maxRecDepth 20000 in
theorem gL_law_X7_lose : GoodIn wsL_law (wsV RL 48 RX7 yX7_lose wsX7_lose) := goodIn_app (goodIn_of _ (by decide +kernel)) ggL_law_X7_lose
set_option maxRecDepth 20000 in
theorem ggL_law_X8_lose : GoodIn wsL_law wsX8_lose := goodIn_r _ [441, 160, 113, 208, 209, 210, 5, 211, 101, 165, 166, 167, 212, 213, 214, 215, 870, 871, 872, 873, 874, 875, 876, 877, 878, 879, 880, 881, 882, 883, 884, 885, 886, 887, 888, 889, 890, 891, 892, 893, 894, 895, 896, 897, 898, 899, 900, 901, 902, 903, 904, 905] (by decide +kernel) (by decide +kernel)
set_option maxRecDepth 20000 in
theorem gL_law_X8_lose : GoodIn wsL_law (wsV RL 52 RX8 yX8_lose wsX8_lose) := goodIn_app (goodIn_of _ (by decide +kernel)) ggL_law_X8_lose
set_option maxRecDepth 20000 in
theorem ggL_law_X7_known : GoodIn wsL_law wsX7_known := goodIn_r _ [445, 15, 19, 174, 184, 185, 186, 2, 187, 188, 189, 190, 191, 446, 279, 280, 14, 281, 55, 56, 447, 448, 449, 18, 450, 61, 62, 858, 859, 860, 861, 862, 863, 864, 865, 866, 867, 868, 869, 906, 907, 908, 909, 910, 911, 912, 913, 914, 915] (by decide +kernel) (by decide +kernel)
set_option maxRecDepth 20000 in
theorem gL_law_X7_known : GoodIn wsL_law (wsV RL 53 RX7 yX7_known wsX7_known) := goodIn_app (goodIn_of _ (by decide +kernel)) ggL_law_X7_known
set_option maxRecDepth 20000 in
theorem ggL_law_X8_known : GoodIn wsL_law wsX8_known := goodIn_r _ [454, 160, 179, 455, 208, 209, 210, 5, 211, 101, 165, 166, 167, 212, 213, 214, 215, 456, 457, 458, 459, 112, 113, 369, 370, 371, 372, 106, 107, 870, 871, 872, 873, 874, 875, 876, 877, 878, 879, 880, 881, 882, 883, 884, 885, 886, 887, 888, 889, 890, 891, 892, 893, 894, 895, 896, 897, 898, 899, 900, 901, 902, 903, 904, 905] (by decide +kernel) (by decide +kernel)
set_option maxRecDepth 20000 in
theorem gL_law_X8_known : GoodIn wsL_law (wsV RL 56 RX8 yX8_known wsX8_known) := goodIn_app (goodIn_of _ (by decide +kernel)) ggL_law_X8_known
set_option maxRecDepth 20000 in
theorem ggL_law_X7_takes : GoodIn wsL_law wsX7_takes := goodIn_r _ [463, 19, 15, 174, 184, 185, 186, 2, 187, 188, 189, 190, 191, 464, 465, 466, 18, 467, 63, 468, 469, 470, 471, 472, 279, 280, 14, 281, 55, 56, 473, 448, 449, 450, 61, 62, 474, 196, 197, 198, 54, 475, 476, 477, 478, 858, 859, 860, 861, 862, 863, 864, 865, 866, 867, 868, 869, 906, 907, 908, 909, 910, 911, 912, 913, 914, 915] (by decide +kernel) (by decide +kernel)
set_option maxRecDepth 20000 in
theorem gL_law_X7_takes : GoodIn wsL_law (wsV RL 57 RX7 yX7_takes wsX7_takes) := goodIn_app (goodIn_of _ (by decide +kernel)) ggL_law_X7_takes
set_option maxRecDepth 20000 in
theorem ggL_law_X8_takes : GoodIn wsL_law wsX8_takes := goodIn_r _ [482, 160, 179, 117, 208, 209, 210, 5, 211, 101, 165, 166, 167, 212, 213, 214, 215, 483, 484, 485, 486, 105, 456, 457, 458, 459, 455, 112, 113, 369, 370, 371, 372, 106, 107, 870, 871, 872, 873, 874, 875, 876, 877, 878, 879, 880, 881, 882, 883, 884, 885, 886, 887, 888, 889, 890, 891, 892, 893, 894, 895, 896, 897, 898, 899, 900, 901, 902, 903, 904, 905] (by decide +kernel) (by decide +kernel)
set_option maxRecDepth 20000 in
theorem gL_law_X8_takes : GoodIn wsL_law (wsV RL 60 RX8 yX8_takes wsX8_takes) := goodIn_app (goodIn_of _ (by decide +kernel)) ggL_law_X8_takes
set_option maxRecDepth 20000 in
theorem ggL_law_X7_shown : GoodIn wsL_law wsX7_shown := goodIn_r _ [490, 15, 188, 24, 184, 185, 186, 2, 187, 189, 190, 191, 238, 239, 240, 491, 492, 493, 494, 31, 19, 174, 28, 246, 247, 248, 249, 250, 251, 252, 22, 253, 67, 254, 255, 256, 257, 258, 259, 260, 261, 27, 262, 72, 263, 264, 265, 266, 140, 141, 142, 267, 268, 464, 465, 466, 18, 467, 63, 468, 469, 470, 471, 472, 279, 280, 14, 281, 55, 56, 473, 448, 449, 450, 61, 62, 474, 196, 197, 198, 54, 475, 476, 477, 478, 274, 275, 276, 277, 278, 282, 283, 284, 285, 286, 287, 154, 288, 289, 290, 291, 292, 293, 294, 295, 296, 297, 298, 299, 300, 301, 302, 303, 304, 305, 306, 307, 308, 309, 310, 311, 312, 313, 314, 315, 316, 317, 318, 319, 320, 321, 322, 323, 324, 325, 326, 327, 328, 329, 330, 331, 332, 333, 334, 335, 336, 337, 338, 858, 859, 860, 861, 862, 863, 864, 865, 866, 867, 868, 869, 906, 907, 908, 909, 910, 911, 912, 916, 917, 918, 913, 914, 915] (by decide +kernel) (by decide +kernel)
set_option maxRecDepth 20000 in
theorem gL_law_X7_shown : GoodIn wsL_law (wsV RL 61 RX7 yX7_shown wsX7_shown) := goodIn_app (goodIn_of _ (by decide +kernel)) ggL_law_X7_shown
set_option maxRecDepth 20000 in
theorem ggL_law_X8_shown : GoodIn wsL_law wsX8_shown := goodIn_r _ [498, 160, 101, 208, 209, 210, 5, 211, 165, 166, 167, 212, 213, 214, 215, 343, 344, 345, 346, 347, 499, 500, 501, 502, 179, 117, 102, 483, 484, 485, 486, 105, 456, 457, 458, 459, 455, 112, 113, 369, 370, 371, 372, 106, 107, 356, 357, 358, 359, 99, 360, 100, 361, 362, 114, 115, 363, 364, 365, 366, 367, 103, 104, 368, 373, 374, 375, 376, 377, 378, 379, 380, 381, 382, 383, 384, 385, 386, 387, 388, 389, 390, 391, 392, 393, 394, 395, 396, 397, 398, 399, 400, 870, 871, 872, 873, 874, 875, 876, 877, 878, 879, 880, 881, 882, 883, 884, 885, 886, 887, 888, 889, 890, 891, 892, 893, 894, 895, 896, 897, 898, 899, 900, 901, 902, 903, 904, 905] (by decide +kernel) (by decide +kernel)
set_option maxRecDepth 20000 in
theorem gL_law_X8_shown : GoodIn wsL_law (wsV RL 64 RX8 yX8_shown wsX8_shown) := goodIn_app (goodIn_of _ (by decide +kernel)) ggL_law_X8_shown
set_option maxRecDepth 20000 in
theorem ggL_law_X7_back : GoodIn wsL_law wsX7_back := goodIn_r _ [506, 19, 15, 174, 184, 185, 186, 2, 187, 188, 189, 190, 191, 507, 508, 509, 18, 510, 63, 511, 512, 513, 154, 514, 515, 415, 416, 417, 61, 516, 517, 518, 519, 472, 279, 280, 14, 281, 55, 56, 473, 448, 449, 450, 62, 475, 476, 477, 478, 468, 469, 470, 471, 474, 196, 197, 198, 54, 858, 859, 860, 861, 862, 863, 864, 865, 866, 867, 868, 869, 906, 907, 908, 909, 910, 911, 912, 913, 914, 915] (by decide +kernel) (by decide +kernel)
set_option maxRecDepth 20000 in
theorem gL_law_X7_back : GoodIn wsL_law (wsV RL 65 RX7 yX7_back wsX7_back) := goodIn_app (goodIn_of _ (by decide +kernel)) ggL_law_X7_back
set_option maxRecDepth 20000 in
theorem ggL_law_X8_back : GoodIn wsL_law wsX8_back := goodIn_r _ [523, 160, 179, 208, 209, 210, 5, 211, 101, 165, 166, 167, 212, 213, 214, 215, 524, 525, 526, 527, 117, 118, 483, 484, 485, 486, 105, 456, 457, 458, 459, 455, 112, 113, 369, 370, 371, 372, 106, 107, 870, 871, 872, 873, 874, 875, 876, 877, 878, 879, 880, 881, 882, 883, 884, 885, 886, 887, 888, 889, 890, 891, 892, 893, 894, 895, 896, 897, 898, 899, 900, 901, 902, 903, 904, 905] (by decide +kernel) (by decide +kernel)
set_option maxRecDepth 20000 in
theorem gL_law_X8_back : GoodIn wsL_law (wsV RL 68 RX8 yX8_back wsX8_back) := goodIn_app (goodIn_of _ (by decide +kernel)) ggL_law_X8_back
set_option maxRecDepth 20000 in
theorem ggL_law_X7_agreed : GoodIn wsL_law wsX7_agreed := goodIn_r _ [531, 19, 15, 174, 184, 185, 186, 2, 187, 188, 189, 190, 191, 532, 533, 534, 18, 535, 63, 511, 468, 469, 470, 471, 472, 279, 280, 14, 281, 55, 56, 473, 448, 449, 450, 61, 62, 858, 859, 860, 861, 862, 863, 864, 865, 866, 867, 868, 869, 906, 907, 908, 909, 910, 911, 912, 913, 914, 915] (by decide +kernel) (by decide +kernel)
set_option maxRecDepth 20000 in
theorem gL_law_X7_agreed : GoodIn wsL_law (wsV RL 69 RX7 yX7_agreed wsX7_agreed) := goodIn_app (goodIn_of _ (by decide +kernel)) ggL_law_X7_agreed
set_option maxRecDepth 20000 in
theorem ggL_law_X8_agreed : GoodIn wsL_law wsX8_agreed := goodIn_r _ [539, 160, 101, 179, 208, 209, 210, 5, 211, 165, 166, 167, 212, 213, 214, 215, 456, 457, 458, 459, 455, 112, 113, 369, 370, 371, 372, 106, 107, 870, 871, 872, 873, 874, 875, 876, 877, 878, 879, 880, 881, 882, 883, 884, 885, 886, 887, 888, 889, 890, 891, 892, 893, 894, 895, 896, 897, 898, 899, 900, 901, 902, 903, 904, 905] (by decide +kernel) (by decide +kernel)
set_option maxRecDepth 20000 in
theorem gL_law_X8_agreed : GoodIn wsL_law (wsV RL 72 RX8 yX8_agreed wsX8_agreed) := goodIn_app (goodIn_of _ (by decide +kernel)) ggL_law_X8_agreed
set_option maxRecDepth 20000 in
theorem ggL_law_X7_wrong : GoodIn wsL_law wsX7_wrong := goodIn_r _ [543, 19, 15, 174, 24, 23, 544, 513, 154, 514, 184, 185, 186, 2, 187, 188, 189, 190, 191, 241, 242, 243, 244, 245, 31, 28, 246, 247, 248, 249, 250, 251, 252, 22, 253, 67, 254, 255, 256, 257, 258, 259, 260, 261, 27, 262, 72, 263, 264, 265, 266, 140, 141, 142, 267, 268, 269, 270, 271, 14, 272, 52, 273, 196, 197, 198, 54, 274, 275, 276, 277, 278, 279, 280, 281, 55, 56, 282, 283, 284, 285, 286, 287, 288, 289, 290, 291, 292, 293, 294, 295, 296, 297, 298, 299, 300, 301, 302, 303, 304, 305, 306, 307, 308, 309, 310, 311, 312, 313, 314, 315, 316, 317, 318, 319, 320, 321, 322, 323, 324, 325, 326, 327, 328, 329, 330, 507, 508, 509, 18, 510, 63, 511, 512, 515, 415, 416, 417, 61, 516, 517, 518, 519, 472, 473, 448, 449, 450, 62, 475, 476, 477, 478, 468, 469, 470, 471, 474, 491, 492, 493, 494, 464, 465, 466, 467, 545, 546, 547, 548, 858, 859, 860, 861, 862, 863, 864, 865, 866, 867, 868, 869, 906, 907, 908, 909, 910, 911, 912, 916, 917, 918, 913, 914, 915] (by decide +kernel) (by decide +kernel)
set_option maxRecDepth 20000 in
theorem gL_law_X7_wrong : GoodIn wsL_law (wsV RL 73 RX7 yX7_wrong wsX7_wrong) := goodIn_app (goodIn_of _ (by decide +kernel)) ggL_law_X7_wrong
set_option maxRecDepth 20000 in
theorem ggL_law_X8_wrong : GoodIn wsL_law wsX8_wrong := goodIn_r _ [552, 160, 105, 102, 119, 116, 208, 209, 210, 5, 211, 101, 165, 166, 167, 212, 213, 214, 215, 356, 357, 358, 359, 99, 360, 100, 361, 362, 114, 115, 363, 364, 365, 366, 367, 103, 104, 368, 369, 370, 371, 372, 106, 107, 373, 374, 375, 376, 377, 378, 379, 380, 381, 382, 383, 384, 385, 386, 387, 388, 389, 390, 391, 392, 393, 394, 395, 396, 553, 554, 555, 556, 499, 500, 501, 502, 179, 117, 483, 484, 485, 486, 456, 457, 458, 459, 455, 112, 113, 557, 558, 559, 870, 871, 872, 873, 874, 875, 876, 877, 878, 879, 880, 881, 882, 883, 884, 885, 886, 887, 888, 889, 890, 891, 892, 893, 894, 895, 896, 897, 898, 899, 900, 901, 902, 903, 904, 905] (by decide +kernel) (by decide +kernel)
set_option maxRecDepth 20000 in
theorem gL_law_X8_wrong : GoodIn wsL_law (wsV RL 76 RX8 yX8_wrong wsX8_wrong) := goodIn_app (goodIn_of _ (by decide +kernel)) ggL_law_X8_wrong
set_option maxRecDepth 20000 in
theorem ggL_law_X7_price : GoodIn wsL_law wsX7_price := goodIn_r _ [563, 189, 190, 2, 191, 564, 565, 566, 567, 15, 188, 19, 174, 507, 508, 509, 18, 510, 63, 511, 512, 513, 154, 514, 515, 415, 416, 417, 61, 516, 517, 518, 519, 472, 279, 280, 14, 281, 55, 56, 473, 448, 449, 450, 62, 475, 476, 477, 478, 468, 469, 470, 471, 474, 196, 197, 198, 54, 858, 859, 860, 861, 862, 863, 864, 865, 866, 867, 868, 869, 906, 907, 908, 909, 910, 911, 912, 913, 914, 915] (by decide +kernel) (by decide +kernel)
set_option maxRecDepth 20000 in
theorem gL_law_X7_price : GoodIn wsL_law (wsV RL 77 RX7 yX7_price wsX7_price) := goodIn_app (goodIn_of _ (by decide +kernel)) ggL_law_X7_price
set_option maxRecDepth 20000 in
theorem ggL_law_X8_price : GoodIn wsL_law wsX8_price := goodIn_r _ [571, 160, 162, 165, 166, 5, 167, 212, 213, 214, 215, 572, 573, 574, 575, 109, 101, 110, 524, 525, 526, 527, 117, 118, 483, 484, 485, 486, 105, 456, 457, 458, 459, 455, 112, 113, 369, 370, 371, 372, 106, 107, 870, 871, 872, 873, 874, 875, 876, 877, 878, 879, 880, 881, 882, 883, 884, 885, 886, 887, 888, 889, 890, 891, 892, 893, 894, 895, 896, 897, 898, 899, 900, 901, 902, 903, 904, 905] (by decide +kernel) (by decide +kernel)
set_option maxRecDepth 20000 in
theorem gL_law_X8_price : GoodIn wsL_law (wsV RL 80 RX8 yX8_price wsX8_price) := goodIn_app (goodIn_of _ (by decide +kernel)) ggL_law_X8_price
set_option maxRecDepth 20000 in
theorem ggL_law_X7_best : GoodIn wsL_law wsX7_best := goodIn_r _ [579, 189, 190, 2, 191, 564, 565, 566, 567, 15, 188, 19, 174, 507, 508, 509, 18, 510, 63, 511, 512, 513, 154, 514, 515, 415, 416, 417, 61, 516, 517, 518, 519, 472, 279, 280, 14, 281, 55, 56, 473, 448, 449, 450, 62, 475, 476, 477, 478, 468, 469, 470, 471, 474, 196, 197, 198, 54, 858, 859, 860, 861, 862, 863, 864, 865, 866, 867, 868, 869, 906, 907, 908, 909, 910, 911, 912, 913, 914, 915] (by decide +kernel) (by decide +kernel)
set_option maxRecDepth 20000 in
theorem gL_law_X7_best : GoodIn wsL_law (wsV RL 81 RX7 yX7_best wsX7_best) := goodIn_app (goodIn_of _ (by decide +kernel)) ggL_law_X7_best
set_option maxRecDepth 20000 in
theorem ggL_law_X8_best : GoodIn wsL_law wsX8_best := goodIn_r _ [583, 160, 212, 213, 5, 214, 215, 165, 166, 167, 572, 573, 574, 575, 109, 101, 110, 524, 525, 526, 527, 117, 118, 483, 484, 485, 486, 105, 456, 457, 458, 459, 455, 112, 113, 369, 370, 371, 372, 106, 107, 870, 871, 872, 873, 874, 875, 876, 877, 878, 879, 880, 881, 882, 883, 884, 885, 886, 887, 888, 889, 890, 891, 892, 893, 894, 895, 896, 897, 898, 899, 900, 901, 902, 903, 904, 905] (by decide +kernel) (by decide +kernel)
set_option maxRecDepth 20000 in
theorem gL_law_X8_best : GoodIn wsL_law (wsV RL 85 RX8 yX8_best wsX8_best) := goodIn_app (goodIn_of _ (by decide +kernel)) ggL_law_X8_best
set_option maxRecDepth 20000 in
theorem ggL_law_X7_sees : GoodIn wsL_law wsX7_sees := goodIn_r _ [587, 184, 185, 186, 2, 187, 15, 188, 189, 190, 191, 241, 242, 243, 244, 23, 245, 31, 28, 174, 246, 247, 248, 249, 250, 251, 252, 22, 253, 67, 254, 255, 256, 257, 258, 259, 260, 261, 27, 262, 72, 263, 264, 265, 266, 140, 141, 142, 267, 268, 269, 270, 271, 14, 272, 52, 273, 196, 197, 198, 54, 274, 275, 276, 277, 278, 279, 280, 281, 55, 56, 282, 283, 284, 285, 286, 287, 154, 288, 289, 290, 291, 292, 293, 294, 295, 296, 297, 298, 299, 300, 301, 302, 303, 304, 305, 306, 307, 308, 309, 310, 311, 312, 313, 314, 315, 316, 317, 318, 319, 320, 321, 322, 323, 324, 325, 326, 327, 328, 329, 330, 588, 589, 590, 591, 331, 332, 333, 334, 592, 858, 859, 860, 861, 862, 863, 864, 865, 866, 867, 868, 869, 906, 907, 908, 909, 910, 911, 912, 916, 917, 918] (by decide +kernel) (by decide +kernel)
set_option maxRecDepth 20000 in
theorem gL_law_X7_sees : GoodIn wsL_law (wsV RL 86 RX7 yX7_sees wsX7_sees) := goodIn_app (goodIn_of _ (by decide +kernel)) ggL_law_X7_sees
set_option maxRecDepth 20000 in
theorem ggL_law_X8_sees : GoodIn wsL_law wsX8_sees := goodIn_r _ [596, 160, 114, 208, 209, 210, 5, 211, 101, 165, 166, 167, 212, 213, 214, 215, 348, 349, 350, 351, 102, 352, 353, 354, 355, 105, 356, 357, 358, 359, 99, 360, 100, 361, 362, 115, 363, 364, 365, 366, 367, 103, 104, 368, 369, 370, 371, 372, 106, 107, 373, 374, 375, 376, 377, 378, 379, 380, 381, 382, 383, 384, 385, 386, 387, 388, 389, 390, 391, 392, 393, 394, 395, 396, 597, 598, 599, 600, 111, 870, 871, 872, 873, 874, 875, 876, 877, 878, 879, 880, 881, 882, 883, 884, 885, 886, 887, 888, 889, 890, 891, 892, 893, 894, 895, 896, 897, 898, 899, 900, 901, 902, 903, 904, 905] (by decide +kernel) (by decide +kernel)
set_option maxRecDepth 20000 in
theorem gL_law_X8_sees : GoodIn wsL_law (wsV RL 89 RX8 yX8_sees wsX8_sees) := goodIn_app (goodIn_of _ (by decide +kernel)) ggL_law_X8_sees
set_option maxRecDepth 20000 in
theorem ggL_law_X7_could : GoodIn wsL_law wsX7_could := goodIn_r _ [604, 35, 15, 605, 184, 185, 186, 2, 187, 188, 189, 190, 191, 241, 242, 243, 244, 23, 245, 31, 28, 174, 246, 247, 248, 249, 250, 251, 252, 22, 253, 67, 254, 255, 256, 257, 258, 259, 260, 261, 27, 262, 72, 263, 264, 265, 266, 140, 141, 142, 267, 268, 269, 270, 271, 14, 272, 52, 273, 196, 197, 198, 54, 274, 275, 276, 277, 278, 279, 280, 281, 55, 56, 282, 283, 284, 285, 286, 287, 154, 288, 289, 290, 291, 292, 293, 294, 295, 296, 297, 298, 299, 300, 301, 302, 303, 304, 305, 306, 307, 308, 309, 310, 311, 312, 313, 314, 315, 316, 317, 318, 319, 320, 321, 322, 323, 324, 325, 326, 327, 328, 329, 330, 606, 607, 608, 609, 610, 338, 611, 612, 613, 34, 614, 76, 615, 588, 589, 590, 591, 331, 332, 333, 334, 592, 616, 617, 618, 619, 620, 621, 622, 623, 624, 625, 513, 514, 626, 627, 628, 629, 630, 631, 632, 633, 634, 635, 636, 858, 859, 860, 861, 862, 863, 864, 865, 866, 867, 868, 869, 906, 907, 908, 909, 910, 911, 912, 916, 917, 918, 919] (by decide +kernel) (by decide +kernel)
set_option maxRecDepth 20000 in
theorem gL_law_X7_could : GoodIn wsL_law (wsV RL 90 RX7 yX7_could wsX7_could) := goodIn_app (goodIn_of _ (by decide +kernel)) ggL_law_X7_could
set_option maxRecDepth 20000 in
theorem ggL_law_X8_could : GoodIn wsL_law wsX8_could := goodIn_r _ [640, 160, 360, 361, 120, 208, 209, 210, 5, 211, 101, 165, 166, 167, 212, 213, 214, 215, 641, 642, 643, 644, 114, 105, 102, 121, 356, 357, 358, 359, 99, 100, 362, 115, 363, 364, 365, 366, 367, 103, 104, 368, 369, 370, 371, 372, 106, 107, 373, 374, 375, 376, 377, 378, 379, 380, 381, 382, 383, 384, 385, 386, 387, 388, 389, 390, 391, 392, 393, 394, 395, 396, 597, 598, 599, 600, 111, 870, 871, 872, 873, 874, 875, 876, 877, 878, 879, 880, 881, 882, 883, 884, 885, 886, 887, 888, 889, 890, 891, 892, 893, 894, 895, 896, 897, 898, 899, 900, 901, 902, 903, 904, 905] (by decide +kernel) (by decide +kernel)
set_option maxRecDepth 20000 in
theorem gL_law_X8_could : GoodIn wsL_law (wsV RL 93 RX8 yX8_could wsX8_could) := goodIn_app (goodIn_of _ (by decide +kernel)) ggL_law_X8_could
set_option maxRecDepth 20000 in
theorem ggL_law_X7_couldBe : GoodIn wsL_law wsX7_couldBe := goodIn_r _ [648, 15, 338, 605, 35, 184, 185, 186, 2, 187, 188, 189, 190, 191, 241, 242, 243, 244, 23, 245, 31, 28, 174, 246, 247, 248, 249, 250, 251, 252, 22, 253, 67, 254, 255, 256, 257, 258, 259, 260, 261, 27, 262, 72, 263, 264, 265, 266, 140, 141, 142, 267, 268, 269, 270, 271, 14, 272, 52, 273, 196, 197, 198, 54, 274, 275, 276, 277, 278, 279, 280, 281, 55, 56, 282, 283, 284, 285, 286, 287, 154, 288, 289, 290, 291, 292, 293, 294, 295, 296, 297, 298, 299, 300, 301, 302, 303, 304, 305, 306, 307, 308, 309, 310, 311, 312, 313, 314, 315, 316, 317, 318, 319, 320, 321, 322, 323, 324, 325, 326, 327, 328, 329, 330, 606, 607, 608, 609, 610, 611, 612, 613, 34, 614, 76, 615, 588, 589, 590, 591, 331, 332, 333, 334, 592, 616, 617, 618, 619, 620, 621, 622, 623, 624, 625, 513, 514, 649, 650, 651, 652, 653, 858, 859, 860, 861, 862, 863, 864, 865, 866, 867, 868, 869, 906, 907, 908, 909, 910, 911, 912, 916, 917, 918, 919] (by decide +kernel) (by decide +kernel)
set_option maxRecDepth 20000 in
theorem gL_law_X7_couldBe : GoodIn wsL_law (wsV RL 94 RX7 yX7_couldBe wsX7_couldBe) := goodIn_app (goodIn_of _ (by decide +kernel)) ggL_law_X7_couldBe
set_option maxRecDepth 20000 in
theorem ggL_law_X8_couldBe : GoodIn wsL_law wsX8_couldBe := goodIn_r _ [657, 160, 99, 100, 120, 208, 209, 210, 5, 211, 101, 165, 166, 167, 212, 213, 214, 215, 641, 642, 643, 644, 114, 105, 102, 360, 361, 121, 356, 357, 358, 359, 362, 115, 363, 364, 365, 366, 367, 103, 104, 368, 369, 370, 371, 372, 106, 107, 373, 374, 375, 376, 377, 378, 379, 380, 381, 382, 383, 384, 385, 386, 387, 388, 389, 390, 391, 392, 393, 394, 395, 396, 597, 598, 599, 600, 111, 870, 871, 872, 873, 874, 875, 876, 877, 878, 879, 880, 881, 882, 883, 884, 885, 886, 887, 888, 889, 890, 891, 892, 893, 894, 895, 896, 897, 898, 899, 900, 901, 902, 903, 904, 905] (by decide +kernel) (by decide +kernel)
set_option maxRecDepth 20000 in
theorem gL_law_X8_couldBe : GoodIn wsL_law (wsV RL 97 RX8 yX8_couldBe wsX8_couldBe) := goodIn_app (goodIn_of _ (by decide +kernel)) ggL_law_X8_couldBe
set_option maxRecDepth 20000 in
theorem ggL_law_X7_player : GoodIn wsL_law wsX7_player := goodIn_r _ [661, 39, 662, 663, 664, 2, 665, 666, 667, 668, 38, 669, 82, 80, 83, 86, 858, 859, 860, 861, 862, 863, 864, 865, 866, 867, 868, 869, 920, 921, 922, 923, 924, 925, 926] (by decide +kernel) (by decide +kernel)
set_option maxRecDepth 20000 in
theorem gL_law_X7_player : GoodIn wsL_law (wsV RL 98 RX7 yX7_player wsX7_player) := goodIn_app (goodIn_of _ (by decide +kernel)) ggL_law_X7_player
set_option maxRecDepth 20000 in
theorem ggL_law_X8_player : GoodIn wsL_law wsX8_player := goodIn_r _ [673, 160, 674, 161, 675, 122, 123, 165, 166, 5, 167, 870, 871, 872, 873, 874, 875, 876, 877, 878, 879, 880, 881, 882, 883, 884, 885, 886, 887, 888, 889, 890, 891, 892, 893, 894, 895, 896, 897, 898, 899, 900, 901, 902, 903, 904, 905] (by decide +kernel) (by decide +kernel)
set_option maxRecDepth 20000 in
theorem gL_law_X8_player : GoodIn wsL_law (wsV RL 101 RX8 yX8_player wsX8_player) := goodIn_app (goodIn_of _ (by decide +kernel)) ggL_law_X8_player
set_option maxRecDepth 20000 in
theorem ggL_law_X7_far : GoodIn wsL_law wsX7_far := goodIn_r _ [679, 39, 663, 664, 2, 665, 680, 681, 682, 38, 683, 84, 86, 858, 859, 860, 861, 862, 863, 864, 865, 866, 867, 868, 869, 920, 921, 922, 923, 924, 925, 926] (by decide +kernel) (by decide +kernel)
set_option maxRecDepth 20000 in
theorem gL_law_X7_far : GoodIn wsL_law (wsV RL 102 RX7 yX7_far wsX7_far) := goodIn_app (goodIn_of _ (by decide +kernel)) ggL_law_X7_far
set_option maxRecDepth 20000 in
theorem ggL_law_X8_far : GoodIn wsL_law wsX8_far := goodIn_r _ [687, 160, 161, 674, 124, 165, 166, 5, 167, 870, 871, 872, 873, 874, 875, 876, 877, 878, 879, 880, 881, 882, 883, 884, 885, 886, 887, 888, 889, 890, 891, 892, 893, 894, 895, 896, 897, 898, 899, 900, 901, 902, 903, 904, 905] (by decide +kernel) (by decide +kernel)
set_option maxRecDepth 20000 in
theorem gL_law_X8_far : GoodIn wsL_law (wsV RL 105 RX8 yX8_far wsX8_far) := goodIn_app (goodIn_of _ (by decide +kernel)) ggL_law_X8_far
set_option maxRecDepth 20000 in
theorem ggL_law_X7_pairs : GoodIn wsL_law wsX7_pairs := goodIn_r _ [691, 39, 692, 693, 694, 38, 695, 86, 80, 85, 81, 696, 697, 698, 699, 700, 701, 153, 154, 155, 702, 703, 704, 705, 706, 631, 632, 633, 634, 635, 636, 707, 708, 709, 710, 82, 711, 287, 288, 84, 83, 712, 713, 714, 715, 716, 717, 718, 719, 858, 859, 860, 861, 862, 863, 864, 865, 866, 867, 868, 869, 920, 921, 922, 923, 924, 925, 926] (by decide +kernel) (by decide +kernel)
set_option maxRecDepth 20000 in
theorem gL_law_X7_pairs : GoodIn wsL_law (wsV RL 106 RX7 yX7_pairs wsX7_pairs) := goodIn_app (goodIn_of _ (by decide +kernel)) ggL_law_X7_pairs
set_option maxRecDepth 20000 in
theorem ggL_law_X8_pairs : GoodIn wsL_law wsX8_pairs := goodIn_r _ [723, 160, 724, 725, 726, 5, 727, 675, 368, 125, 126, 728, 729, 730, 731, 732, 733, 734, 122, 124, 123, 385, 386, 387, 735, 736, 737, 870, 871, 872, 873, 874, 875, 876, 877, 878, 879, 880, 881, 882, 883, 884, 885, 886, 887, 888, 889, 890, 891, 892, 893, 894, 895, 896, 897, 898, 899, 900, 901, 902, 903, 904, 905] (by decide +kernel) (by decide +kernel)
set_option maxRecDepth 20000 in
theorem gL_law_X8_pairs : GoodIn wsL_law (wsV RL 110 RX8 yX8_pairs wsX8_pairs) := goodIn_app (goodIn_of _ (by decide +kernel)) ggL_law_X8_pairs
set_option maxRecDepth 20000 in
theorem ggL_law_X7_mate : GoodIn wsL_law wsX7_mate := goodIn_r _ [741, 39, 662, 742, 692, 693, 694, 38, 695, 86, 80, 85, 81, 696, 697, 698, 699, 700, 701, 153, 154, 155, 702, 703, 704, 705, 706, 631, 632, 633, 634, 635, 636, 707, 708, 709, 710, 82, 711, 287, 288, 84, 83, 712, 713, 714, 715, 858, 859, 860, 861, 862, 863, 864, 865, 866, 867, 868, 869, 920, 921, 922, 923, 924, 925, 926] (by decide +kernel) (by decide +kernel)
set_option maxRecDepth 20000 in
theorem gL_law_X7_mate : GoodIn wsL_law (wsV RL 111 RX7 yX7_mate wsX7_mate) := goodIn_app (goodIn_of _ (by decide +kernel)) ggL_law_X7_mate
set_option maxRecDepth 20000 in
theorem ggL_law_X8_mate : GoodIn wsL_law wsX8_mate := goodIn_r _ [746, 160, 675, 126, 165, 166, 5, 167, 724, 725, 726, 727, 368, 125, 728, 729, 730, 731, 732, 733, 734, 122, 124, 123, 385, 386, 387, 735, 736, 737, 870, 871, 872, 873, 874, 875, 876, 877, 878, 879, 880, 881, 882, 883, 884, 885, 886, 887, 888, 889, 890, 891, 892, 893, 894, 895, 896, 897, 898, 899, 900, 901, 902, 903, 904, 905] (by decide +kernel) (by decide +kernel)
set_option maxRecDepth 20000 in
theorem gL_law_X8_mate : GoodIn wsL_law (wsV RL 114 RX8 yX8_mate wsX8_mate) := goodIn_app (goodIn_of _ (by decide +kernel)) ggL_law_X8_mate
set_option maxRecDepth 20000 in
theorem ggL_law_X7_odds : GoodIn wsL_law wsX7_odds := goodIn_r _ [750, 751, 752, 153, 154, 155, 43, 753, 754, 755, 756, 757, 42, 758, 93, 94, 759, 513, 514, 760, 90, 91, 761, 762, 763, 764, 765, 141, 766, 767, 768, 769, 858, 859, 860, 861, 862, 863, 864, 865, 866, 867, 868, 869, 927, 928, 929, 930] (by decide +kernel) (by decide +kernel)
set_option maxRecDepth 20000 in
theorem gL_law_X7_odds : GoodIn wsL_law (wsV RL 115 RX7 yX7_odds wsX7_odds) := goodIn_app (goodIn_of _ (by decide +kernel)) ggL_law_X7_odds
set_option maxRecDepth 20000 in
theorem ggL_law_X8_odds : GoodIn wsL_law wsX8_odds := goodIn_r _ [773, 160, 774, 775, 127, 165, 166, 5, 167, 870, 871, 872, 873, 874, 875, 876, 877, 878, 879, 880, 881, 882, 883, 884, 885, 886, 887, 888, 889, 890, 891, 892, 893, 894, 895, 896, 897, 898, 899, 900, 901, 902, 903, 904, 905] (by decide +kernel) (by decide +kernel)
set_option maxRecDepth 20000 in
theorem gL_law_X8_odds : GoodIn wsL_law (wsV RL 119 RX8 yX8_odds wsX8_odds) := goodIn_app (goodIn_of _ (by decide +kernel)) ggL_law_X8_odds
set_option maxRecDepth 20000 in
theorem ggL_law_X7_keep : GoodIn wsL_law wsX7_keep := goodIn_r _ [779, 44, 15, 46, 780, 781, 2, 782, 783, 784, 785, 14, 786, 50, 51, 52, 53, 787, 256, 257, 258, 54, 55, 56, 788, 789, 790, 791, 858, 859, 860, 861, 862, 863, 864, 865, 866, 867, 868, 869, 906, 907, 908, 909, 910, 911, 912] (by decide +kernel) (by decide +kernel)
set_option maxRecDepth 20000 in
theorem gL_law_X7_keep : GoodIn wsL_law (wsV RL 120 RX7 yX7_keep wsX7_keep) := goodIn_app (goodIn_of _ (by decide +kernel)) ggL_law_X7_keep
set_option maxRecDepth 20000 in
theorem ggL_law_X8_keep : GoodIn wsL_law wsX8_keep := goodIn_r _ [795, 160, 108, 796, 797, 5, 798, 161, 165, 166, 167, 799, 800, 801, 802, 99, 100, 101, 102, 103, 104, 105, 106, 107, 803, 804, 805, 806, 870, 871, 872, 873, 874, 875, 876, 877, 878, 879, 880, 881, 882, 883, 884, 885, 886, 887, 888, 889, 890, 891, 892, 893, 894, 895, 896, 897, 898, 899, 900, 901, 902, 903, 904, 905] (by decide +kernel) (by decide +kernel)
set_option maxRecDepth 20000 in
theorem gL_law_X8_keep : GoodIn wsL_law (wsV RL 123 RX8 yX8_keep wsX8_keep) := goodIn_app (goodIn_of _ (by decide +kernel)) ggL_law_X8_keep
set_option maxRecDepth 20000 in
theorem ggL_law_X7_again : GoodIn wsL_law wsX7_again := goodIn_r _ [810, 46, 15, 44, 23, 188, 780, 781, 2, 782, 783, 784, 785, 14, 786, 50, 51, 52, 53, 787, 256, 257, 258, 54, 55, 56, 148, 149, 150, 22, 151, 68, 152, 153, 154, 155, 858, 859, 860, 861, 862, 863, 864, 865, 866, 867, 868, 869, 906, 907, 908, 909, 910, 911, 912, 916, 917] (by decide +kernel) (by decide +kernel)
set_option maxRecDepth 20000 in
theorem gL_law_X7_again : GoodIn wsL_law (wsV RL 124 RX7 yX7_again wsX7_again) := goodIn_app (goodIn_of _ (by decide +kernel)) ggL_law_X7_again
set_option maxRecDepth 20000 in
theorem ggL_law_X8_again : GoodIn wsL_law wsX8_again := goodIn_r _ [814, 160, 108, 101, 796, 797, 5, 798, 161, 165, 166, 167, 799, 800, 801, 802, 99, 100, 102, 103, 104, 105, 106, 107, 870, 871, 872, 873, 874, 875, 876, 877, 878, 879, 880, 881, 882, 883, 884, 885, 886, 887, 888, 889, 890, 891, 892, 893, 894, 895, 896, 897, 898, 899, 900, 901, 902, 903, 904, 905] (by decide +kernel) (by decide +kernel)
set_option maxRecDepth 20000 in
theorem gL_law_X8_again : GoodIn wsL_law (wsV RL 127 RX8 yX8_again wsX8_again) := goodIn_app (goodIn_of _ (by decide +kernel)) ggL_law_X8_again
set_option maxRecDepth 20000 in
theorem ggL_law_X7_tried : GoodIn wsL_law wsX7_tried := goodIn_r _ [818, 46, 44, 188, 28, 31, 610, 780, 781, 2, 782, 189, 190, 191, 238, 239, 240, 819, 820, 821, 172, 173, 259, 260, 261, 27, 262, 72, 263, 264, 265, 266, 140, 141, 142, 267, 268, 269, 270, 271, 14, 272, 52, 273, 196, 197, 198, 54, 274, 275, 276, 277, 278, 279, 280, 281, 55, 56, 282, 283, 284, 285, 286, 287, 154, 288, 289, 290, 291, 292, 293, 294, 295, 296, 297, 298, 299, 300, 301, 302, 303, 304, 305, 306, 307, 308, 309, 310, 311, 312, 313, 314, 315, 316, 317, 318, 319, 320, 321, 322, 323, 324, 325, 326, 335, 336, 337, 338, 858, 859, 860, 861, 862, 863, 864, 865, 866, 867, 868, 869, 906, 907, 908, 909, 910, 911, 912, 918] (by decide +kernel) (by decide +kernel)
set_option maxRecDepth 20000 in
theorem gL_law_X7_tried : GoodIn wsL_law (wsV RL 128 RX7 yX7_tried wsX7_tried) := goodIn_app (goodIn_of _ (by decide +kernel)) ggL_law_X7_tried
set_option maxRecDepth 20000 in
theorem ggL_law_X8_tried : GoodIn wsL_law wsX8_tried := goodIn_r _ [825, 160, 108, 207, 101, 796, 797, 5, 798, 161, 165, 166, 167, 212, 213, 214, 215, 343, 344, 345, 346, 347, 352, 353, 354, 355, 105, 356, 357, 358, 359, 99, 360, 100, 361, 362, 114, 115, 363, 364, 365, 366, 367, 103, 104, 368, 369, 370, 371, 372, 106, 107, 373, 374, 375, 376, 377, 378, 379, 380, 381, 382, 383, 384, 385, 386, 387, 388, 389, 390, 391, 392, 393, 394, 395, 396, 397, 398, 399, 400, 870, 871, 872, 873, 874, 875, 876, 877, 878, 879, 880, 881, 882, 883, 884, 885, 886, 887, 888, 889, 890, 891, 892, 893, 894, 895, 896, 897, 898, 899, 900, 901, 902, 903, 904, 905] (by decide +kernel) (by decide +kernel)
set_option maxRecDepth 20000 in
theorem gL_law_X8_tried : GoodIn wsL_law (wsV RL 131 RX8 yX8_tried wsX8_tried) := goodIn_app (goodIn_of _ (by decide +kernel)) ggL_law_X8_tried
set_option maxRecDepth 20000 in
theorem ggL_law_X7_differs : GoodIn wsL_law wsX7_differs := goodIn_r _ [829, 46, 44, 28, 29, 31, 174, 780, 781, 2, 782, 819, 820, 821, 172, 173, 259, 260, 261, 27, 262, 72, 263, 264, 265, 266, 140, 141, 142, 267, 268, 269, 270, 271, 14, 272, 52, 273, 196, 197, 198, 54, 274, 275, 276, 277, 278, 279, 280, 281, 55, 56, 282, 283, 284, 285, 286, 287, 154, 288, 289, 290, 291, 292, 293, 294, 295, 296, 297, 298, 299, 300, 301, 302, 303, 304, 305, 306, 307, 308, 309, 310, 311, 312, 313, 314, 315, 316, 317, 318, 319, 320, 321, 322, 323, 324, 325, 326, 830, 831, 832, 833, 858, 859, 860, 861, 862, 863, 864, 865, 866, 867, 868, 869, 906, 907, 908, 909, 910, 911, 912, 918] (by decide +kernel) (by decide +kernel)
set_option maxRecDepth 20000 in
theorem gL_law_X7_differs : GoodIn wsL_law (wsV RL 132 RX7 yX7_differs wsX7_differs) := goodIn_app (goodIn_of _ (by decide +kernel)) ggL_law_X7_differs
set_option maxRecDepth 20000 in
theorem ggL_law_X8_differs : GoodIn wsL_law wsX8_differs := goodIn_r _ [837, 160, 108, 207, 105, 102, 119, 116, 796, 797, 5, 798, 161, 165, 166, 167, 356, 357, 358, 359, 99, 360, 100, 361, 101, 362, 114, 115, 363, 364, 365, 366, 367, 103, 104, 368, 369, 370, 371, 372, 106, 107, 373, 374, 375, 376, 377, 378, 379, 380, 381, 382, 383, 384, 385, 386, 387, 388, 389, 390, 391, 392, 393, 394, 395, 396, 553, 554, 555, 556, 557, 558, 559, 870, 871, 872, 873, 874, 875, 876, 877, 878, 879, 880, 881, 882, 883, 884, 885, 886, 887, 888, 889, 890, 891, 892, 893, 894, 895, 896, 897, 898, 899, 900, 901, 902, 903, 904, 905] (by decide +kernel) (by decide +kernel)
set_option maxRecDepth 20000 in
theorem gL_law_X8_differs : GoodIn wsL_law (wsV RL 135 RX8 yX8_differs wsX8_differs) := goodIn_app (goodIn_of _ (by decide +kernel)) ggL_law_X8_differs
set_option maxRecDepth 20000 in
theorem ggL_law_X7_count : GoodIn wsL_law wsX7_count := goodIn_r _ [841, 15, 188, 338, 605, 19, 39, 662, 788, 789, 790, 14, 791, 52, 54, 842, 843, 844, 18, 845, 63, 511, 62, 846, 847, 848, 849, 56, 55, 850, 851, 852, 2, 853, 46, 858, 859, 860, 861, 862, 863, 864, 865, 866, 867, 868, 869, 906, 907, 908, 909, 910, 911, 912, 920, 921, 922, 923, 924, 925, 926, 913, 914, 915] (by decide +kernel) (by decide +kernel)
set_option maxRecDepth 20000 in
theorem gL_law_X7_count : GoodIn wsL_law (wsV RL 136 RX7 yX7_count wsX7_count) := goodIn_app (goodIn_of _ (by decide +kernel)) ggL_law_X7_count
set_option maxRecDepth 20000 in
theorem ggL_law_X8_count : GoodIn wsL_law wsX8_count := goodIn_r _ [857, 160, 101, 113, 107, 106, 108, 99, 100, 675, 803, 804, 805, 5, 806, 105, 870, 871, 872, 873, 874, 875, 876, 877, 878, 879, 880, 881, 882, 883, 884, 885, 886, 887, 888, 889, 890, 891, 892, 893, 894, 895, 896, 897, 898, 899, 900, 901, 902, 903, 904, 905] (by decide +kernel) (by decide +kernel)
set_option maxRecDepth 20000 in
theorem gL_law_X8_count : GoodIn wsL_law (wsV RL 139 RX8 yX8_count wsX8_count) := goodIn_app (goodIn_of _ (by decide +kernel)) ggL_law_X8_count
