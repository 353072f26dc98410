set_option maxRecDepth 20000 in
theorem ggL_law_X7_init : GoodIn wsL_law wsX7_init := goodIn_r _ [8, 9, 10, 11, 12, 13, 14, 15, 16, 17, 18, 19, 20, 21, 22, 23, 24, 25, 26, 27, 28, 29, 30, 31, 32, 33, 34, 35, 36, 37, 38, 39, 40, 41, 42, 43, 44, 45, 46, 47, 48, 49, 50, 51, 52, 53, 54, 55, 56, 57, 58, 59, 60, 61, 62, 63, 64, 65, 66, 67, 68, 69, 70, 71, 72, 73, 74, 75, 76, 77, 78, 79, 80, 81, 82, 83, 84, 85, 86, 87, 88, 89, 90, 91, 92, 93, 94, 906, 907, 908, 909, 910, 911, 912, 858, 859, 860, 861, 862, 863, 864, 865, 866, 867, 868, 869, 913, 914, 915, 916, 917, 918, 919, 920, 921, 922, 923, 924, 925, 926, 927, 928, 929, 930] (by decide +kernel) (by decide +kernel)
set_option maxRecDepth 20000 in
theorem gL_law_X7_init : GoodIn wsL_law (wsX7_init) := ggL_law_X7_init
set_option maxRecDepth 20000 in
theorem ggL_law_X8_init : GoodIn wsL_law wsX8_init := goodIn_r _ [97, 98, 10, 11, 30, 99, 100, 101, 102, 103, 104, 105, 106, 107, 45, 108, 109, 110, 111, 112, 113, 114, 115, 116, 117, 118, 119, 120, 121, 122, 123, 124, 125, 126, 92, 127, 870, 871, 872, 873, 874, 875, 876, 877, 878, 879, 880, 881, 882, 883, 884, 885, 886, 887, 888, 889, 890, 891, 892, 893, 894, 895, 896, 897, 898, 899, 900, 901, 902, 903, 904, 905] (by decide +kernel) (by decide +kernel)
set_option maxRecDepth 20000 in
theorem gL_law_X8_init : GoodIn wsL_law (wsX8_init) := ggL_law_X8_init
set_option maxRecDepth 20000 in
theorem ggL_law_X7_field : GoodIn wsL_law wsX7_field := goodIn_r _ [131, 15, 19, 23, 132, 133, 2, 134, 135, 136, 137, 14, 138, 50, 51, 52, 54, 55, 56, 139, 140, 141, 142, 143, 144, 145, 18, 146, 61, 62, 147, 148, 149, 150, 22, 151, 68, 152, 153, 154, 155, 858, 859, 860, 861, 862, 863, 864, 865, 866, 867, 868, 869, 906, 907, 908, 909, 910, 911, 912, 913, 914, 915, 916, 917] (by decide +kernel) (by decide +kernel)
set_option maxRecDepth 20000 in
theorem gL_law_X7_field : GoodIn wsL_law (wsV RL 13 RX7 yX7_field wsX7_field) := goodIn_app (goodIn_of _ (by decide +kernel)) ggL_law_X7_field
set_option maxRecDepth 20000 in
theorem ggL_law_X8_field : GoodIn wsL_law wsX8_field := goodIn_r _ [159, 160, 161, 162, 163, 164, 99, 100, 101, 105, 113, 106, 107, 112, 165, 166, 5, 167, 870, 871, 872, 873, 874, 875, 876, 877, 878, 879, 880, 881, 882, 883, 884, 885, 886, 887, 888, 889, 890, 891, 892, 893, 894, 895, 896, 897, 898, 899, 900, 901, 902, 903, 904, 905] (by decide +kernel) (by decide +kernel)
set_option maxRecDepth 20000 in
theorem gL_law_X8_field : GoodIn wsL_law (wsV RL 17 RX8 yX8_field wsX8_field) := goodIn_app (goodIn_of _ (by decide +kernel)) ggL_law_X8_field
set_option maxRecDepth 20000 in
theorem ggL_law_X7_rule : GoodIn wsL_law wsX7_rule := goodIn_r _ [171, 172, 173, 15, 174, 23, 148, 149, 150, 22, 151, 68, 152, 153, 154, 155, 858, 859, 860, 861, 862, 863, 864, 865, 866, 867, 868, 869, 906, 907, 908, 909, 910, 911, 912, 916, 917] (by decide +kernel) (by decide +kernel)
set_option maxRecDepth 20000 in
theorem gL_law_X7_rule : GoodIn wsL_law (wsV RL 18 RX7 yX7_rule wsX7_rule) := goodIn_app (goodIn_of _ (by decide +kernel)) ggL_law_X7_rule
set_option maxRecDepth 20000 in
theorem ggL_law_X8_rule : GoodIn wsL_law wsX8_rule := goodIn_r _ [178, 160, 164, 102, 103, 104, 179, 109, 110, 111, 165, 166, 5, 167, 870, 871, 872, 873, 874, 875, 876, 877, 878, 879, 880, 881, 882, 883, 884, 885, 886, 887, 888, 889, 890, 891, 892, 893, 894, 895, 896, 897, 898, 899, 900, 901, 902, 903, 904, 905] (by decide +kernel) (by decide +kernel)
set_option maxRecDepth 20000 in
theorem gL_law_X8_rule : GoodIn wsL_law (wsV RL 22 RX8 yX8_rule wsX8_rule) := goodIn_app (goodIn_of _ (by decide +kernel)) ggL_law_X8_rule
set_option maxRecDepth 20000 in
theorem ggL_law_X7_press : GoodIn wsL_law wsX7_press := goodIn_r _ [183, 15, 23, 184, 185, 186, 2, 187, 188, 189, 190, 191, 192, 193, 194, 195, 196, 197, 14, 198, 54, 199, 200, 201, 202, 148, 149, 150, 22, 151, 68, 152, 153, 154, 155, 858, 859, 860, 861, 862, 863, 864, 865, 866, 867, 868, 869, 906, 907, 908, 909, 910, 911, 912, 916, 917] (by decide +kernel) (by decide +kernel)
set_option maxRecDepth 20000 in
theorem gL_law_X7_press : GoodIn wsL_law (wsV RL 23 RX7 yX7_press wsX7_press) := goodIn_app (goodIn_of _ (by decide +kernel)) ggL_law_X7_press
set_option maxRecDepth 20000 in
theorem ggL_law_X8_press : GoodIn wsL_law wsX8_press := goodIn_r _ [206, 160, 207, 105, 208, 209, 210, 5, 211, 101, 165, 166, 167, 212, 213, 214, 215, 870, 871, 872, 873, 874, 875, 876, 877, 878, 879, 880, 881, 882, 883, 884, 885, 886, 887, 888, 889, 890, 891, 892, 893, 894, 895, 896, 897, 898, 899, 900, 901, 902, 903, 904, 905] (by decide +kernel) (by decide +kernel)
set_option maxRecDepth 20000 in
theorem gL_law_X8_press : GoodIn wsL_law (wsV RL 26 RX8 yX8_press wsX8_press) := goodIn_app (goodIn_of _ (by decide +kernel)) ggL_law_X8_press
set_option maxRecDepth 20000 in
theorem ggL_law_X7_hold : GoodIn wsL_law wsX7_hold := goodIn_r _ [219, 15, 23, 184, 185, 186, 2, 187, 188, 189, 190, 191, 192, 193, 194, 195, 196, 197, 14, 198, 54, 199, 200, 201, 202, 148, 149, 150, 22, 151, 68, 152, 153, 154, 155, 858, 859, 860, 861, 862, 863, 864, 865, 866, 867, 868, 869, 906, 907, 908, 909, 910, 911, 912, 916, 917] (by decide +kernel) (by decide +kernel)
set_option maxRecDepth 20000 in
theorem gL_law_X7_hold : GoodIn wsL_law (wsV RL 27 RX7 yX7_hold wsX7_hold) := goodIn_app (goodIn_of _ (by decide +kernel)) ggL_law_X7_hold
set_option maxRecDepth 20000 in
theorem ggL_law_X8_hold : GoodIn wsL_law wsX8_hold := goodIn_r _ [223, 160, 207, 105, 208, 209, 210, 5, 211, 101, 165, 166, 167, 212, 213, 214, 215, 870, 871, 872, 873, 874, 875, 876, 877, 878, 879, 880, 881, 882, 883, 884, 885, 886, 887, 888, 889, 890, 891, 892, 893, 894, 895, 896, 897, 898, 899, 900, 901, 902, 903, 904, 905] (by decide +kernel) (by decide +kernel)
set_option maxRecDepth 20000 in
theorem gL_law_X8_hold : GoodIn wsL_law (wsV RL 31 RX8 yX8_hold wsX8_hold) := goodIn_app (goodIn_of _ (by decide +kernel)) ggL_law_X8_hold
set_option maxRecDepth 20000 in
theorem ggL_law_X7_leave : GoodIn wsL_law wsX7_leave := goodIn_r _ [227, 15, 228, 229, 23, 184, 185, 186, 2, 187, 188, 148, 149, 150, 22, 151, 68, 152, 153, 154, 155, 858, 859, 860, 861, 862, 863, 864, 865, 866, 867, 868, 869, 906, 907, 908, 909, 910, 911, 912, 916, 917] (by decide +kernel) (by decide +kernel)
set_option maxRecDepth 20000 in
theorem gL_law_X7_leave : GoodIn wsL_law (wsV RL 32 RX7 yX7_leave wsX7_leave) := goodIn_app (goodIn_of _ (by decide +kernel)) ggL_law_X7_leave
