set_option maxRecDepth 20000 in
theorem ggL_law_X7_far : GoodIn wsL_law wsX7_far := goodIn_r _ [679, 39, 663, 664, 2, 665, 680, 681, 682, 38, 683, 84, 86, 858, 859, 860, 861, 862, 863, 864, 865, 866, 867, 868, 869, 920, 921, 922, 923, 924, 925, 926] (by decide +kernel) (by decide +kernel)
set_option maxRecDepth 20000 in
theorem gL_law_X7_far : GoodIn wsL_law (wsV RL 102 RX7 yX7_far wsX7_far) := goodIn_app (goodIn_of _ (by decide +kernel)) ggL_law_X7_far
set_option maxRecDepth 20000 in
theorem ggL_law_X8_far : GoodIn wsL_law wsX8_far := goodIn_r _ [687, 160, 161, 674, 124, 165, 166, 5, 167, 870, 871, 872, 873, 874, 875, 876, 877, 878, 879, 880, 881, 882, 883, 884, 885, 886, 887, 888, 889, 890, 891, 892, 893, 894, 895, 896, 897, 898, 899, 900, 901, 902, 903, 904, 905] (by decide +kernel) (by decide +kernel)
set_option maxRecDepth 20000 in
theorem gL_law_X8_far : GoodIn wsL_law (wsV RL 105 RX8 yX8_far wsX8_far) := goodIn_app (goodIn_of _ (by decide +kernel)) ggL_law_X8_far
set_option maxRecDepth 20000 in
theorem ggL_law_X7_pairs : GoodIn wsL_law wsX7_pairs := goodIn_r _ [691, 39, 692, 693, 694, 38, 695, 86, 80, 85, 81, 696, 697, 698, 699, 700, 701, 153, 154, 155, 702, 703, 704, 705, 706, 631, 632, 633, 634, 635, 636, 707, 708, 709, 710, 82, 711, 287, 288, 84, 83, 712, 713, 714, 715, 716, 717, 718, 719, 858, 859, 860, 861, 862, 863, 864, 865, 866, 867, 868, 869, 920, 921, 922, 923, 924, 925, 926] (by decide +kernel) (by decide +kernel)
set_option maxRecDepth 20000 in
theorem gL_law_X7_pairs : GoodIn wsL_law (wsV RL 106 RX7 yX7_pairs wsX7_pairs) := goodIn_app (goodIn_of _ (by decide +kernel)) ggL_law_X7_pairs
set_option maxRecDepth 20000 in
theorem ggL_law_X8_pairs : GoodIn wsL_law wsX8_pairs := goodIn_r _ [723, 160, 724, 725, 726, 5, 727, 675, 368, 125, 126, 728, 729, 730, 731, 732, 733, 734, 122, 124, 123, 385, 386, 387, 735, 736, 737, 870, 871, 872, 873, 874, 875, 876, 877, 878, 879, 880, 881, 882, 883, 884, 885, 886, 887, 888, 889, 890, 891, 892, 893, 894, 895, 896, 897, 898, 899, 900, 901, 902, 903, 904, 905] (by decide +kernel) (by decide +kernel)
set_option maxRecDepth 20000 in
theorem gL_law_X8_pairs : GoodIn wsL_law (wsV RL 110 RX8 yX8_pairs wsX8_pairs) := goodIn_app (goodIn_of _ (by decide +kernel)) ggL_law_X8_pairs
set_option maxRecDepth 20000 in
theorem ggL_law_X7_mate : GoodIn wsL_law wsX7_mate := goodIn_r _ [741, 39, 662, 742, 692, 693, 694, 38, 695, 86, 80, 85, 81, 696, 697, 698, 699, 700, 701, 153, 154, 155, 702, 703, 704, 705, 706, 631, 632, 633, 634, 635, 636, 707, 708, 709, 710, 82, 711, 287, 288, 84, 83, 712, 713, 714, 715, 858, 859, 860, 861, 862, 863, 864, 865, 866, 867, 868, 869, 920, 921, 922, 923, 924, 925, 926] (by decide +kernel) (by decide +kernel)
set_option maxRecDepth 20000 in
theorem gL_law_X7_mate : GoodIn wsL_law (wsV RL 111 RX7 yX7_mate wsX7_mate) := goodIn_app (goodIn_of _ (by decide +kernel)) ggL_law_X7_mate
set_option maxRecDepth 20000 in
theorem ggL_law_X8_mate : GoodIn wsL_law wsX8_mate := goodIn_r _ [746, 160, 675, 126, 165, 166, 5, 167, 724, 725, 726, 727, 368, 125, 728, 729, 730, 731, 732, 733, 734, 122, 124, 123, 385, 386, 387, 735, 736, 737, 870, 871, 872, 873, 874, 875, 876, 877, 878, 879, 880, 881, 882, 883, 884, 885, 886, 887, 888, 889, 890, 891, 892, 893, 894, 895, 896, 897, 898, 899, 900, 901, 902, 903, 904, 905] (by decide +kernel) (by decide +kernel)
set_option maxRecDepth 20000 in
theorem gL_law_X8_mate : GoodIn wsL_law (wsV RL 114 RX8 yX8_mate wsX8_mate) := goodIn_app (goodIn_of _ (by decide +kernel)) ggL_law_X8_mate
set_option maxRecDepth 20000 in
theorem ggL_law_X7_odds : GoodIn wsL_law wsX7_odds := goodIn_r _ [750, 751, 752, 153, 154, 155, 43, 753, 754, 755, 756, 757, 42, 758, 93, 94, 759, 513, 514, 760, 90, 91, 761, 762, 763, 764, 765, 141, 766, 767, 768, 769, 858, 859, 860, 861, 862, 863, 864, 865, 866, 867, 868, 869, 927, 928, 929, 930] (by decide +kernel) (by decide +kernel)
set_option maxRecDepth 20000 in
theorem gL_law_X7_odds : GoodIn wsL_law (wsV RL 115 RX7 yX7_odds wsX7_odds) := goodIn_app (goodIn_of _ (by decide +kernel)) ggL_law_X7_odds
set_option maxRecDepth 20000 in
theorem ggL_law_X8_odds : GoodIn wsL_law wsX8_odds := goodIn_r _ [773, 160, 774, 775, 127, 165, 166, 5, 167, 870, 871, 872, 873, 874, 875, 876, 877, 878, 879, 880, 881, 882, 883, 884, 885, 886, 887, 888, 889, 890, 891, 892, 893, 894, 895, 896, 897, 898, 899, 900, 901, 902, 903, 904, 905] (by decide +kernel) (by decide +kernel)
set_option maxRecDepth 20000 in
theorem gL_law_X8_odds : GoodIn wsL_law (wsV RL 119 RX8 yX8_odds wsX8_odds) := goodIn_app (goodIn_of _ (by decide +kernel)) ggL_law_X8_odds
set_option maxRecDepth 20000 in
theorem ggL_law_X7_keep : GoodIn wsL_law wsX7_keep := goodIn_r _ [779, 44, 15, 46, 780, 781, 2, 782, 783, 784, 785, 14, 786, 50, 51, 52, 53, 787, 256, 257, 258, 54, 55, 56, 788, 789, 790, 791, 858, 859, 860, 861, 862, 863, 864, 865, 866, 867, 868, 869, 906, 907, 908, 909, 910, 911, 912] (by decide +kernel) (by decide +kernel)
set_option maxRecDepth 20000 in
theorem gL_law_X7_keep : GoodIn wsL_law (wsV RL 120 RX7 yX7_keep wsX7_keep) := goodIn_app (goodIn_of _ (by decide +kernel)) ggL_law_X7_keep
set_option maxRecDepth 20000 in
theorem ggL_law_X8_keep : GoodIn wsL_law wsX8_keep := goodIn_r _ [795, 160, 108, 796, 797, 5, 798, 161, 165, 166, 167, 799, 800, 801, 802, 99, 100, 101, 102, 103, 104, 105, 106, 107, 803, 804, 805, 806, 870, 871, 872, 873, 874, 875, 876, 877, 878, 879, 880, 881, 882, 883, 884, 885, 886, 887, 888, 889, 890, 891, 892, 893, 894, 895, 896, 897, 898, 899, 900, 901, 902, 903, 904, 905] (by decide +kernel) (by decide +kernel)
set_option maxRecDepth 20000 in
theorem gL_law_X8_keep : GoodIn wsL_law (wsV RL 123 RX8 yX8_keep wsX8_keep) := goodIn_app (goodIn_of _ (by decide +kernel)) ggL_law_X8_keep
set_option maxRecDepth 20000 in
theorem ggL_law_X7_again : GoodIn wsL_law wsX7_again := goodIn_r _ [810, 46, 15, 44, 23, 188, 780, 781, 2, 782, 783, 784, 785, 14, 786, 50, 51, 52, 53, 787, 256, 257, 258, 54, 55, 56, 148, 149, 150, 22, 151, 68, 152, 153, 154, 155, 858, 859, 860, 861, 862, 863, 864, 865, 866, 867, 868, 869, 906, 907, 908, 909, 910, 911, 912, 916, 917] (by decide +kernel) (by decide +kernel)
set_option maxRecDepth 20000 in
theorem gL_law_X7_again : GoodIn wsL_law (wsV RL 124 RX7 yX7_again wsX7_again) := goodIn_app (goodIn_of _ (by decide +kernel)) ggL_law_X7_again
