theorem dX7_init_0 : decode cX7_init 0 = .ok (.aload_n 0, 1) := by decide +kernel
theorem dX7_init_1 : decode cX7_init 1 = .ok (.invokespecial 1, 3) := by decide +kernel
theorem dX7_init_4 : decode cX7_init 4 = .ok (.aload_n 0, 1) := by decide +kernel
theorem dX7_init_5 : decode cX7_init 5 = .ok (.new 7, 3) := by decide +kernel
theorem dX7_init_8 : decode cX7_init 8 = .ok (.dup, 1) := by decide +kernel
theorem dX7_init_9 : decode cX7_init 9 = .ok (.invokespecial 9, 3) := by decide +kernel
theorem dX7_init_12 : decode cX7_init 12 = .ok (.putfield 10, 3) := by decide +kernel
theorem dX7_init_15 : decode cX7_init 15 = .ok (.aload_n 0, 1) := by decide +kernel
theorem dX7_init_16 : decode cX7_init 16 = .ok (.new 16, 3) := by decide +kernel
theorem dX7_init_19 : decode cX7_init 19 = .ok (.dup, 1) := by decide +kernel
theorem dX7_init_20 : decode cX7_init 20 = .ok (.aload_n 0, 1) := by decide +kernel
theorem dX7_init_21 : decode cX7_init 21 = .ok (.getfield 10, 3) := by decide +kernel
theorem dX7_init_24 : decode cX7_init 24 = .ok (.invokespecial 18, 3) := by decide +kernel
theorem dX7_init_27 : decode cX7_init 27 = .ok (.putfield 21, 3) := by decide +kernel
theorem dX7_init_30 : decode cX7_init 30 = .ok (.aload_n 0, 1) := by decide +kernel
theorem dX7_init_31 : decode cX7_init 31 = .ok (.new 25, 3) := by decide +kernel
theorem dX7_init_34 : decode cX7_init 34 = .ok (.dup, 1) := by decide +kernel
theorem dX7_init_35 : decode cX7_init 35 = .ok (.invokespecial 27, 3) := by decide +kernel
theorem dX7_init_38 : decode cX7_init 38 = .ok (.putfield 28, 3) := by decide +kernel
theorem dX7_init_41 : decode cX7_init 41 = .ok (.aload_n 0, 1) := by decide +kernel
theorem dX7_init_42 : decode cX7_init 42 = .ok (.new 25, 3) := by decide +kernel
theorem dX7_init_45 : decode cX7_init 45 = .ok (.dup, 1) := by decide +kernel
theorem dX7_init_46 : decode cX7_init 46 = .ok (.invokespecial 27, 3) := by decide +kernel
theorem dX7_init_49 : decode cX7_init 49 = .ok (.putfield 32, 3) := by decide +kernel
theorem dX7_init_52 : decode cX7_init 52 = .ok (.aload_n 0, 1) := by decide +kernel
theorem dX7_init_53 : decode cX7_init 53 = .ok (.new 35, 3) := by decide +kernel
theorem dX7_init_56 : decode cX7_init 56 = .ok (.dup, 1) := by decide +kernel
theorem dX7_init_57 : decode cX7_init 57 = .ok (.invokespecial 37, 3) := by decide +kernel
theorem dX7_init_60 : decode cX7_init 60 = .ok (.putfield 38, 3) := by decide +kernel
theorem dX7_init_63 : decode cX7_init 63 = .ok (.aload_n 0, 1) := by decide +kernel
theorem dX7_init_64 : decode cX7_init 64 = .ok (.new 35, 3) := by decide +kernel
theorem dX7_init_67 : decode cX7_init 67 = .ok (.dup, 1) := by decide +kernel
theorem dX7_init_68 : decode cX7_init 68 = .ok (.invokespecial 37, 3) := by decide +kernel
theorem dX7_init_71 : decode cX7_init 71 = .ok (.putfield 42, 3) := by decide +kernel
theorem dX7_init_74 : decode cX7_init 74 = .ok (.aload_n 0, 1) := by decide +kernel
theorem dX7_init_75 : decode cX7_init 75 = .ok (.bipush 6, 2) := by decide +kernel
theorem dX7_init_77 : decode cX7_init 77 = .ok (.newarray .int, 2) := by decide +kernel
theorem dX7_init_79 : decode cX7_init 79 = .ok (.putfield 45, 3) := by decide +kernel
theorem dX7_init_82 : decode cX7_init 82 = .ok (.aload_n 0, 1) := by decide +kernel
theorem dX7_init_83 : decode cX7_init 83 = .ok (.new 49, 3) := by decide +kernel
theorem dX7_init_86 : decode cX7_init 86 = .ok (.dup, 1) := by decide +kernel
theorem dX7_init_87 : decode cX7_init 87 = .ok (.invokespecial 51, 3) := by decide +kernel
theorem dX7_init_90 : decode cX7_init 90 = .ok (.putfield 52, 3) := by decide +kernel
theorem dX7_init_93 : decode cX7_init 93 = .ok (.aload_n 0, 1) := by decide +kernel
theorem dX7_init_94 : decode cX7_init 94 = .ok (.new 56, 3) := by decide +kernel
theorem dX7_init_97 : decode cX7_init 97 = .ok (.dup, 1) := by decide +kernel
theorem dX7_init_98 : decode cX7_init 98 = .ok (.invokespecial 58, 3) := by decide +kernel
theorem dX7_init_101 : decode cX7_init 101 = .ok (.putfield 59, 3) := by decide +kernel
theorem dX7_init_104 : decode cX7_init 104 = .ok (.aload_n 0, 1) := by decide +kernel
theorem dX7_init_105 : decode cX7_init 105 = .ok (.new 63, 3) := by decide +kernel
theorem dX7_init_108 : decode cX7_init 108 = .ok (.dup, 1) := by decide +kernel
theorem dX7_init_109 : decode cX7_init 109 = .ok (.invokespecial 65, 3) := by decide +kernel
theorem dX7_init_112 : decode cX7_init 112 = .ok (.putfield 66, 3) := by decide +kernel
theorem dX7_init_115 : decode cX7_init 115 = .ok (.aload_n 0, 1) := by decide +kernel
theorem dX7_init_116 : decode cX7_init 116 = .ok (.iconst 4, 1) := by decide +kernel
theorem dX7_init_117 : decode cX7_init 117 = .ok (.anewarray 7, 3) := by decide +kernel
theorem dX7_init_120 : decode cX7_init 120 = .ok (.dup, 1) := by decide +kernel
theorem dX7_init_121 : decode cX7_init 121 = .ok (.iconst 0, 1) := by decide +kernel
theorem dX7_init_122 : decode cX7_init 122 = .ok (.new 7, 3) := by decide +kernel
theorem dX7_init_125 : decode cX7_init 125 = .ok (.dup, 1) := by decide +kernel
theorem dX7_init_126 : decode cX7_init 126 = .ok (.invokespecial 9, 3) := by decide +kernel
theorem dX7_init_129 : decode cX7_init 129 = .ok (.aastore, 1) := by decide +kernel
theorem dX7_init_130 : decode cX7_init 130 = .ok (.dup, 1) := by decide +kernel
theorem dX7_init_131 : decode cX7_init 131 = .ok (.iconst 1, 1) := by decide +kernel
theorem dX7_init_132 : decode cX7_init 132 = .ok (.new 7, 3) := by decide +kernel
theorem dX7_init_135 : decode cX7_init 135 = .ok (.dup, 1) := by decide +kernel
theorem dX7_init_136 : decode cX7_init 136 = .ok (.invokespecial 9, 3) := by decide +kernel
theorem dX7_init_139 : decode cX7_init 139 = .ok (.aastore, 1) := by decide +kernel
theorem dX7_init_140 : decode cX7_init 140 = .ok (.dup, 1) := by decide +kernel
theorem dX7_init_141 : decode cX7_init 141 = .ok (.iconst 2, 1) := by decide +kernel
theorem dX7_init_142 : decode cX7_init 142 = .ok (.new 7, 3) := by decide +kernel
theorem dX7_init_145 : decode cX7_init 145 = .ok (.dup, 1) := by decide +kernel
theorem dX7_init_146 : decode cX7_init 146 = .ok (.invokespecial 9, 3) := by decide +kernel
theorem dX7_init_149 : decode cX7_init 149 = .ok (.aastore, 1) := by decide +kernel
theorem dX7_init_150 : decode cX7_init 150 = .ok (.dup, 1) := by decide +kernel
theorem dX7_init_151 : decode cX7_init 151 = .ok (.iconst 3, 1) := by decide +kernel
theorem dX7_init_152 : decode cX7_init 152 = .ok (.new 7, 3) := by decide +kernel
theorem dX7_init_155 : decode cX7_init 155 = .ok (.dup, 1) := by decide +kernel
theorem dX7_init_156 : decode cX7_init 156 = .ok (.invokespecial 9, 3) := by decide +kernel
theorem dX7_init_159 : decode cX7_init 159 = .ok (.aastore, 1) := by decide +kernel
theorem dX7_init_160 : decode cX7_init 160 = .ok (.putfield 70, 3) := by decide +kernel
theorem dX7_init_163 : decode cX7_init 163 = .ok (.aload_n 0, 1) := by decide +kernel
theorem dX7_init_164 : decode cX7_init 164 = .ok (.iconst 4, 1) := by decide +kernel
theorem dX7_init_165 : decode cX7_init 165 = .ok (.newarray .boolean, 2) := by decide +kernel
theorem dX7_init_167 : decode cX7_init 167 = .ok (.putfield 74, 3) := by decide +kernel
theorem dX7_init_170 : decode cX7_init 170 = .ok (.return_, 1) := by decide +kernel
set_option maxRecDepth 20000 in
theorem ggX7_field_X7_isSide : GoodIn wsX7_field wsX7_isSide := goodIn_r _ [7] (by decide +kernel) (by decide +kernel)
set_option maxRecDepth 20000 in
theorem gX7_field_X7_isSide : GoodIn wsX7_field (va_wsS RX7 78 yX7_isSide wsX7_isSide) := goodIn_app (goodIn_of _ (by decide +kernel)) ggX7_field_X7_isSide
set_option maxRecDepth 20000 in
theorem ggX7_field_X5_clear : GoodIn wsX7_field wsX5_clear := goodIn_r _ [12, 13, 14, 15, 16, 17, 18, 19, 20, 21, 22, 53, 54, 55, 56, 57, 58, 59] (by decide +kernel) (by decide +kernel)
set_option maxRecDepth 20000 in
theorem gX7_field_X5_clear : GoodIn wsX7_field (wsV RX7 82 RX5 yX5_clear wsX5_clear) := goodIn_app (goodIn_of _ (by decide +kernel)) ggX7_field_X5_clear
set_option maxRecDepth 20000 in
theorem ggX7_field_X4_clear : GoodIn wsX7_field wsX4_clear := goodIn_r _ [27, 28, 29, 30, 20, 21, 22, 60, 61, 62] (by decide +kernel) (by decide +kernel)
set_option maxRecDepth 20000 in
theorem gX7_field_X4_clear : GoodIn wsX7_field (wsV RX7 86 RX4 yX4_clear wsX4_clear) := goodIn_app (goodIn_of _ (by decide +kernel)) ggX7_field_X4_clear
set_option maxRecDepth 20000 in
theorem ggX7_field_X6_keepBelow : GoodIn wsX7_field wsX6_keepBelow := goodIn_r _ [35, 36, 37, 38, 39, 40, 63, 64] (by decide +kernel) (by decide +kernel)
set_option maxRecDepth 20000 in
theorem gX7_field_X6_keepBelow : GoodIn wsX7_field (wsV RX7 88 RX6 yX6_keepBelow wsX6_keepBelow) := goodIn_app (goodIn_of _ (by decide +kernel)) ggX7_field_X6_keepBelow
theorem dX7_field_0 : decode cX7_field 0 = .ok (.iload_n 1, 1) := by decide +kernel
theorem dX7_field_1 : decode cX7_field 1 = .ok (.invokestatic 78, 3) := by decide +kernel
theorem dX7_field_4 : decode cX7_field 4 = .ok (.ifCond .eq 21, 3) := by decide +kernel
theorem dX7_field_7 : decode cX7_field 7 = .ok (.iload_n 2, 1) := by decide +kernel
theorem dX7_field_8 : decode cX7_field 8 = .ok (.invokestatic 78, 3) := by decide +kernel
theorem dX7_field_11 : decode cX7_field 11 = .ok (.ifCond .eq 14, 3) := by decide +kernel
theorem dX7_field_14 : decode cX7_field 14 = .ok (.iload_n 3, 1) := by decide +kernel
theorem dX7_field_15 : decode cX7_field 15 = .ok (.iconst 2, 1) := by decide +kernel
theorem dX7_field_16 : decode cX7_field 16 = .ok (.if_icmp .lt 9, 3) := by decide +kernel
theorem dX7_field_19 : decode cX7_field 19 = .ok (.iload_n 3, 1) := by decide +kernel
theorem dX7_field_20 : decode cX7_field 20 = .ok (.bipush 6, 2) := by decide +kernel
theorem dX7_field_22 : decode cX7_field 22 = .ok (.if_icmp .le 6, 3) := by decide +kernel
theorem dX7_field_25 : decode cX7_field 25 = .ok (.bipush (-2), 2) := by decide +kernel
theorem dX7_field_27 : decode cX7_field 27 = .ok (.ireturn, 1) := by decide +kernel
theorem dX7_field_28 : decode cX7_field 28 = .ok (.aload_n 0, 1) := by decide +kernel
theorem dX7_field_29 : decode cX7_field 29 = .ok (.getfield 10, 3) := by decide +kernel
theorem dX7_field_32 : decode cX7_field 32 = .ok (.iload_n 1, 1) := by decide +kernel
theorem dX7_field_33 : decode cX7_field 33 = .ok (.iload_n 2, 1) := by decide +kernel
theorem dX7_field_34 : decode cX7_field 34 = .ok (.iload_n 3, 1) := by decide +kernel
theorem dX7_field_35 : decode cX7_field 35 = .ok (.invokevirtual 82, 3) := by decide +kernel
theorem dX7_field_38 : decode cX7_field 38 = .ok (.aload_n 0, 1) := by decide +kernel
theorem dX7_field_39 : decode cX7_field 39 = .ok (.getfield 21, 3) := by decide +kernel
theorem dX7_field_42 : decode cX7_field 42 = .ok (.invokevirtual 86, 3) := by decide +kernel
theorem dX7_field_45 : decode cX7_field 45 = .ok (.aload_n 0, 1) := by decide +kernel
theorem dX7_field_46 : decode cX7_field 46 = .ok (.getfield 28, 3) := by decide +kernel
theorem dX7_field_49 : decode cX7_field 49 = .ok (.iconst 0, 1) := by decide +kernel
theorem dX7_field_50 : decode cX7_field 50 = .ok (.invokevirtual 88, 3) := by decide +kernel
theorem dX7_field_53 : decode cX7_field 53 = .ok (.iload_n 1, 1) := by decide +kernel
theorem dX7_field_54 : decode cX7_field 54 = .ok (.iload_n 2, 1) := by decide +kernel
theorem dX7_field_55 : decode cX7_field 55 = .ok (.imul, 1) := by decide +kernel
theorem dX7_field_56 : decode cX7_field 56 = .ok (.ireturn, 1) := by decide +kernel
set_option maxRecDepth 20000 in
theorem ggX7_rule_X6_keepBelow : GoodIn wsX7_rule wsX6_keepBelow := goodIn_r _ [10, 11, 12, 13, 14, 15, 35, 36] (by decide +kernel) (by decide +kernel)
set_option maxRecDepth 20000 in
theorem gX7_rule_X6_keepBelow : GoodIn wsX7_rule (wsV RX7 88 RX6 yX6_keepBelow wsX6_keepBelow) := goodIn_app (goodIn_of _ (by decide +kernel)) ggX7_rule_X6_keepBelow
theorem dX7_rule_0 : decode cX7_rule 0 = .ok (.iload_n 1, 1) := by decide +kernel
theorem dX7_rule_1 : decode cX7_rule 1 = .ok (.ifCond .lt 27, 3) := by decide +kernel
theorem dX7_rule_4 : decode cX7_rule 4 = .ok (.iload_n 1, 1) := by decide +kernel
theorem dX7_rule_5 : decode cX7_rule 5 = .ok (.bipush 6, 2) := by decide +kernel
theorem dX7_rule_7 : decode cX7_rule 7 = .ok (.if_icmp .gt 21, 3) := by decide +kernel
theorem dX7_rule_10 : decode cX7_rule 10 = .ok (.iload_n 2, 1) := by decide +kernel
theorem dX7_rule_11 : decode cX7_rule 11 = .ok (.getstatic 92, 3) := by decide +kernel
theorem dX7_rule_14 : decode cX7_rule 14 = .ok (.iload_n 1, 1) := by decide +kernel
theorem dX7_rule_15 : decode cX7_rule 15 = .ok (.iaload, 1) := by decide +kernel
theorem dX7_rule_16 : decode cX7_rule 16 = .ok (.if_icmp .lt 12, 3) := by decide +kernel
theorem dX7_rule_19 : decode cX7_rule 19 = .ok (.iload_n 2, 1) := by decide +kernel
theorem dX7_rule_20 : decode cX7_rule 20 = .ok (.getstatic 95, 3) := by decide +kernel
theorem dX7_rule_23 : decode cX7_rule 23 = .ok (.iload_n 1, 1) := by decide +kernel
theorem dX7_rule_24 : decode cX7_rule 24 = .ok (.iaload, 1) := by decide +kernel
theorem dX7_rule_25 : decode cX7_rule 25 = .ok (.if_icmp .le 6, 3) := by decide +kernel
theorem dX7_rule_28 : decode cX7_rule 28 = .ok (.bipush (-2), 2) := by decide +kernel
theorem dX7_rule_30 : decode cX7_rule 30 = .ok (.ireturn, 1) := by decide +kernel
theorem dX7_rule_31 : decode cX7_rule 31 = .ok (.aload_n 0, 1) := by decide +kernel
theorem dX7_rule_32 : decode cX7_rule 32 = .ok (.getfield 10, 3) := by decide +kernel
theorem dX7_rule_35 : decode cX7_rule 35 = .ok (.getfield 98, 3) := by decide +kernel
theorem dX7_rule_38 : decode cX7_rule 38 = .ok (.iload_n 1, 1) := by decide +kernel
theorem dX7_rule_39 : decode cX7_rule 39 = .ok (.iaload, 1) := by decide +kernel
theorem dX7_rule_40 : decode cX7_rule 40 = .ok (.istore_n 3, 1) := by decide +kernel
theorem dX7_rule_41 : decode cX7_rule 41 = .ok (.aload_n 0, 1) := by decide +kernel
theorem dX7_rule_42 : decode cX7_rule 42 = .ok (.getfield 10, 3) := by decide +kernel
theorem dX7_rule_45 : decode cX7_rule 45 = .ok (.getfield 98, 3) := by decide +kernel
theorem dX7_rule_48 : decode cX7_rule 48 = .ok (.iload_n 1, 1) := by decide +kernel
theorem dX7_rule_49 : decode cX7_rule 49 = .ok (.iload_n 2, 1) := by decide +kernel
theorem dX7_rule_50 : decode cX7_rule 50 = .ok (.iastore, 1) := by decide +kernel
theorem dX7_rule_51 : decode cX7_rule 51 = .ok (.iload_n 1, 1) := by decide +kernel
theorem dX7_rule_52 : decode cX7_rule 52 = .ok (.iconst 2, 1) := by decide +kernel
theorem dX7_rule_53 : decode cX7_rule 53 = .ok (.if_icmp .gt 11, 3) := by decide +kernel
theorem dX7_rule_56 : decode cX7_rule 56 = .ok (.aload_n 0, 1) := by decide +kernel
theorem dX7_rule_57 : decode cX7_rule 57 = .ok (.getfield 28, 3) := by decide +kernel
theorem dX7_rule_60 : decode cX7_rule 60 = .ok (.iconst 0, 1) := by decide +kernel
theorem dX7_rule_61 : decode cX7_rule 61 = .ok (.invokevirtual 88, 3) := by decide +kernel
theorem dX7_rule_64 : decode cX7_rule 64 = .ok (.iload_n 3, 1) := by decide +kernel
theorem dX7_rule_65 : decode cX7_rule 65 = .ok (.ireturn, 1) := by decide +kernel
set_option maxRecDepth 20000 in
theorem ggX7_press_X7_isHand : GoodIn wsX7_press wsX7_isHand := goodIn_r _ [7, 1, 8, 35, 36, 37, 38, 39, 40, 41, 42, 43, 44, 45, 46, 47, 48, 49, 50, 51, 52, 53] (by decide +kernel) (by decide +kernel)
set_option maxRecDepth 20000 in
theorem gX7_press_X7_isHand : GoodIn wsX7_press (wsV RX7 101 RX7 yX7_isHand wsX7_isHand) := goodIn_app (goodIn_of _ (by decide +kernel)) ggX7_press_X7_isHand
set_option maxRecDepth 20000 in
theorem ggX7_press_X7_isTick : GoodIn wsX7_press wsX7_isTick := goodIn_r _ [11] (by decide +kernel) (by decide +kernel)
set_option maxRecDepth 20000 in
theorem gX7_press_X7_isTick : GoodIn wsX7_press (va_wsS RX7 104 yX7_isTick wsX7_isTick) := goodIn_app (goodIn_of _ (by decide +kernel)) ggX7_press_X7_isTick
set_option maxRecDepth 20000 in
theorem ggX7_press_X7_isPress : GoodIn wsX7_press wsX7_isPress := goodIn_r _ [14] (by decide +kernel) (by decide +kernel)
set_option maxRecDepth 20000 in
theorem gX7_press_X7_isPress : GoodIn wsX7_press (va_wsS RX7 107 yX7_isPress wsX7_isPress) := goodIn_app (goodIn_of _ (by decide +kernel)) ggX7_press_X7_isPress
set_option maxRecDepth 20000 in
theorem ggX7_press_X5_pressOf : GoodIn wsX7_press wsX5_pressOf := goodIn_r _ [19, 20, 47, 48, 49, 50, 51, 52, 53] (by decide +kernel) (by decide +kernel)
set_option maxRecDepth 20000 in
theorem gX7_press_X5_pressOf : GoodIn wsX7_press (wsV RX7 110 RX5 yX5_pressOf wsX5_pressOf) := goodIn_app (goodIn_of _ (by decide +kernel)) ggX7_press_X5_pressOf
set_option maxRecDepth 20000 in
theorem ggX7_press_X5_setPress : GoodIn wsX7_press wsX5_setPress := goodIn_r _ [24, 20, 47, 48, 49, 50, 51, 52, 53] (by decide +kernel) (by decide +kernel)
set_option maxRecDepth 20000 in
theorem gX7_press_X5_setPress : GoodIn wsX7_press (wsV RX7 114 RX5 yX5_setPress wsX5_setPress) := goodIn_app (goodIn_of _ (by decide +kernel)) ggX7_press_X5_setPress
set_option maxRecDepth 20000 in
theorem ggX7_press_X6_keepBelow : GoodIn wsX7_press wsX6_keepBelow := goodIn_r _ [29, 30, 31, 32, 33, 34, 54, 55] (by decide +kernel) (by decide +kernel)
set_option maxRecDepth 20000 in
theorem gX7_press_X6_keepBelow : GoodIn wsX7_press (wsV RX7 88 RX6 yX6_keepBelow wsX6_keepBelow) := goodIn_app (goodIn_of _ (by decide +kernel)) ggX7_press_X6_keepBelow
theorem dX7_press_0 : decode cX7_press 0 = .ok (.aload_n 0, 1) := by decide +kernel
theorem dX7_press_1 : decode cX7_press 1 = .ok (.iload_n 1, 1) := by decide +kernel
theorem dX7_press_2 : decode cX7_press 2 = .ok (.invokevirtual 101, 3) := by decide +kernel
theorem dX7_press_5 : decode cX7_press 5 = .ok (.ifCond .eq 10, 3) := by decide +kernel
theorem dX7_press_8 : decode cX7_press 8 = .ok (.iload_n 2, 1) := by decide +kernel
theorem dX7_press_9 : decode cX7_press 9 = .ok (.invokestatic 104, 3) := by decide +kernel
theorem dX7_press_12 : decode cX7_press 12 = .ok (.ifCond .ne 5, 3) := by decide +kernel
theorem dX7_press_15 : decode cX7_press 15 = .ok (.iconst (-1), 1) := by decide +kernel
theorem dX7_press_16 : decode cX7_press 16 = .ok (.ireturn, 1) := by decide +kernel
theorem dX7_press_17 : decode cX7_press 17 = .ok (.iload_n 3, 1) := by decide +kernel
theorem dX7_press_18 : decode cX7_press 18 = .ok (.invokestatic 107, 3) := by decide +kernel
theorem dX7_press_21 : decode cX7_press 21 = .ok (.ifCond .ne 6, 3) := by decide +kernel
theorem dX7_press_24 : decode cX7_press 24 = .ok (.bipush (-2), 2) := by decide +kernel
theorem dX7_press_26 : decode cX7_press 26 = .ok (.ireturn, 1) := by decide +kernel
theorem dX7_press_27 : decode cX7_press 27 = .ok (.aload_n 0, 1) := by decide +kernel
theorem dX7_press_28 : decode cX7_press 28 = .ok (.getfield 10, 3) := by decide +kernel
theorem dX7_press_31 : decode cX7_press 31 = .ok (.iload_n 1, 1) := by decide +kernel
theorem dX7_press_32 : decode cX7_press 32 = .ok (.iload_n 2, 1) := by decide +kernel
theorem dX7_press_33 : decode cX7_press 33 = .ok (.invokevirtual 110, 3) := by decide +kernel
theorem dX7_press_36 : decode cX7_press 36 = .ok (.istore 4, 2) := by decide +kernel
theorem dX7_press_38 : decode cX7_press 38 = .ok (.aload_n 0, 1) := by decide +kernel
theorem dX7_press_39 : decode cX7_press 39 = .ok (.getfield 10, 3) := by decide +kernel
theorem dX7_press_42 : decode cX7_press 42 = .ok (.iload_n 1, 1) := by decide +kernel
theorem dX7_press_43 : decode cX7_press 43 = .ok (.iload_n 2, 1) := by decide +kernel
theorem dX7_press_44 : decode cX7_press 44 = .ok (.iload_n 3, 1) := by decide +kernel
theorem dX7_press_45 : decode cX7_press 45 = .ok (.invokevirtual 114, 3) := by decide +kernel
theorem dX7_press_48 : decode cX7_press 48 = .ok (.aload_n 0, 1) := by decide +kernel
theorem dX7_press_49 : decode cX7_press 49 = .ok (.getfield 28, 3) := by decide +kernel
theorem dX7_press_52 : decode cX7_press 52 = .ok (.iload_n 2, 1) := by decide +kernel
theorem dX7_press_53 : decode cX7_press 53 = .ok (.invokevirtual 88, 3) := by decide +kernel
theorem dX7_press_56 : decode cX7_press 56 = .ok (.iload 4, 2) := by decide +kernel
theorem dX7_press_58 : decode cX7_press 58 = .ok (.ireturn, 1) := by decide +kernel
set_option maxRecDepth 20000 in
theorem ggX7_hold_X7_isHand : GoodIn wsX7_hold wsX7_isHand := goodIn_r _ [7, 1, 8, 35, 36, 37, 38, 39, 40, 41, 42, 43, 44, 45, 46, 47, 48, 49, 50, 51, 52, 53] (by decide +kernel) (by decide +kernel)
set_option maxRecDepth 20000 in
theorem gX7_hold_X7_isHand : GoodIn wsX7_hold (wsV RX7 101 RX7 yX7_isHand wsX7_isHand) := goodIn_app (goodIn_of _ (by decide +kernel)) ggX7_hold_X7_isHand
set_option maxRecDepth 20000 in
theorem ggX7_hold_X7_isTick : GoodIn wsX7_hold wsX7_isTick := goodIn_r _ [11] (by decide +kernel) (by decide +kernel)
set_option maxRecDepth 20000 in
theorem gX7_hold_X7_isTick : GoodIn wsX7_hold (va_wsS RX7 104 yX7_isTick wsX7_isTick) := goodIn_app (goodIn_of _ (by decide +kernel)) ggX7_hold_X7_isTick
set_option maxRecDepth 20000 in
theorem ggX7_hold_X7_isPress : GoodIn wsX7_hold wsX7_isPress := goodIn_r _ [14] (by decide +kernel) (by decide +kernel)
set_option maxRecDepth 20000 in
theorem gX7_hold_X7_isPress : GoodIn wsX7_hold (va_wsS RX7 107 yX7_isPress wsX7_isPress) := goodIn_app (goodIn_of _ (by decide +kernel)) ggX7_hold_X7_isPress
set_option maxRecDepth 20000 in
theorem ggX7_hold_X5_pressOf : GoodIn wsX7_hold wsX5_pressOf := goodIn_r _ [19, 20, 47, 48, 49, 50, 51, 52, 53] (by decide +kernel) (by decide +kernel)
set_option maxRecDepth 20000 in
theorem gX7_hold_X5_pressOf : GoodIn wsX7_hold (wsV RX7 110 RX5 yX5_pressOf wsX5_pressOf) := goodIn_app (goodIn_of _ (by decide +kernel)) ggX7_hold_X5_pressOf
set_option maxRecDepth 20000 in
theorem ggX7_hold_X5_setPress : GoodIn wsX7_hold wsX5_setPress := goodIn_r _ [24, 20, 47, 48, 49, 50, 51, 52, 53] (by decide +kernel) (by decide +kernel)
set_option maxRecDepth 20000 in
theorem gX7_hold_X5_setPress : GoodIn wsX7_hold (wsV RX7 114 RX5 yX5_setPress wsX5_setPress) := goodIn_app (goodIn_of _ (by decide +kernel)) ggX7_hold_X5_setPress
set_option maxRecDepth 20000 in
theorem ggX7_hold_X6_keepBelow : GoodIn wsX7_hold wsX6_keepBelow := goodIn_r _ [29, 30, 31, 32, 33, 34, 54, 55] (by decide +kernel) (by decide +kernel)
set_option maxRecDepth 20000 in
theorem gX7_hold_X6_keepBelow : GoodIn wsX7_hold (wsV RX7 88 RX6 yX6_keepBelow wsX6_keepBelow) := goodIn_app (goodIn_of _ (by decide +kernel)) ggX7_hold_X6_keepBelow
theorem dX7_hold_0 : decode cX7_hold 0 = .ok (.aload_n 0, 1) := by decide +kernel
theorem dX7_hold_1 : decode cX7_hold 1 = .ok (.iload_n 1, 1) := by decide +kernel
theorem dX7_hold_2 : decode cX7_hold 2 = .ok (.invokevirtual 101, 3) := by decide +kernel
theorem dX7_hold_5 : decode cX7_hold 5 = .ok (.ifCond .eq 17, 3) := by decide +kernel
theorem dX7_hold_8 : decode cX7_hold 8 = .ok (.iload_n 2, 1) := by decide +kernel
theorem dX7_hold_9 : decode cX7_hold 9 = .ok (.invokestatic 104, 3) := by decide +kernel
theorem dX7_hold_12 : decode cX7_hold 12 = .ok (.ifCond .eq 10, 3) := by decide +kernel
theorem dX7_hold_15 : decode cX7_hold 15 = .ok (.iload_n 3, 1) := by decide +kernel
theorem dX7_hold_16 : decode cX7_hold 16 = .ok (.invokestatic 104, 3) := by decide +kernel
theorem dX7_hold_19 : decode cX7_hold 19 = .ok (.ifCond .ne 5, 3) := by decide +kernel
theorem dX7_hold_22 : decode cX7_hold 22 = .ok (.iconst (-1), 1) := by decide +kernel
theorem dX7_hold_23 : decode cX7_hold 23 = .ok (.ireturn, 1) := by decide +kernel
theorem dX7_hold_24 : decode cX7_hold 24 = .ok (.iload_n 3, 1) := by decide +kernel
theorem dX7_hold_25 : decode cX7_hold 25 = .ok (.iload_n 2, 1) := by decide +kernel
theorem dX7_hold_26 : decode cX7_hold 26 = .ok (.if_icmp .lt 11, 3) := by decide +kernel
theorem dX7_hold_29 : decode cX7_hold 29 = .ok (.iload 4, 2) := by decide +kernel
theorem dX7_hold_31 : decode cX7_hold 31 = .ok (.invokestatic 107, 3) := by decide +kernel
theorem dX7_hold_34 : decode cX7_hold 34 = .ok (.ifCond .ne 6, 3) := by decide +kernel
theorem dX7_hold_37 : decode cX7_hold 37 = .ok (.bipush (-2), 2) := by decide +kernel
theorem dX7_hold_39 : decode cX7_hold 39 = .ok (.ireturn, 1) := by decide +kernel
theorem dX7_hold_40 : decode cX7_hold 40 = .ok (.iconst 0, 1) := by decide +kernel
theorem dX7_hold_41 : decode cX7_hold 41 = .ok (.istore 5, 2) := by decide +kernel
theorem dX7_hold_43 : decode cX7_hold 43 = .ok (.iload_n 2, 1) := by decide +kernel
theorem dX7_hold_44 : decode cX7_hold 44 = .ok (.istore 6, 2) := by decide +kernel
theorem dX7_hold_46 : decode cX7_hold 46 = .ok (.iload 6, 2) := by decide +kernel
theorem dX7_hold_48 : decode cX7_hold 48 = .ok (.iload_n 3, 1) := by decide +kernel
theorem dX7_hold_49 : decode cX7_hold 49 = .ok (.if_icmp .gt 39, 3) := by decide +kernel
theorem dX7_hold_52 : decode cX7_hold 52 = .ok (.aload_n 0, 1) := by decide +kernel
theorem dX7_hold_53 : decode cX7_hold 53 = .ok (.getfield 10, 3) := by decide +kernel
theorem dX7_hold_56 : decode cX7_hold 56 = .ok (.iload_n 1, 1) := by decide +kernel
theorem dX7_hold_57 : decode cX7_hold 57 = .ok (.iload 6, 2) := by decide +kernel
theorem dX7_hold_59 : decode cX7_hold 59 = .ok (.invokevirtual 110, 3) := by decide +kernel
theorem dX7_hold_62 : decode cX7_hold 62 = .ok (.iload 4, 2) := by decide +kernel
theorem dX7_hold_64 : decode cX7_hold 64 = .ok (.if_icmp .eq 18, 3) := by decide +kernel
theorem dX7_hold_67 : decode cX7_hold 67 = .ok (.iinc 5 1, 3) := by decide +kernel
theorem dX7_hold_70 : decode cX7_hold 70 = .ok (.aload_n 0, 1) := by decide +kernel
theorem dX7_hold_71 : decode cX7_hold 71 = .ok (.getfield 10, 3) := by decide +kernel
theorem dX7_hold_74 : decode cX7_hold 74 = .ok (.iload_n 1, 1) := by decide +kernel
theorem dX7_hold_75 : decode cX7_hold 75 = .ok (.iload 6, 2) := by decide +kernel
theorem dX7_hold_77 : decode cX7_hold 77 = .ok (.iload 4, 2) := by decide +kernel
theorem dX7_hold_79 : decode cX7_hold 79 = .ok (.invokevirtual 114, 3) := by decide +kernel
theorem dX7_hold_82 : decode cX7_hold 82 = .ok (.iinc 6 1, 3) := by decide +kernel
theorem dX7_hold_85 : decode cX7_hold 85 = .ok (.goto (-39), 3) := by decide +kernel
theorem dX7_hold_88 : decode cX7_hold 88 = .ok (.aload_n 0, 1) := by decide +kernel
theorem dX7_hold_89 : decode cX7_hold 89 = .ok (.getfield 28, 3) := by decide +kernel
theorem dX7_hold_92 : decode cX7_hold 92 = .ok (.iload_n 2, 1) := by decide +kernel
theorem dX7_hold_93 : decode cX7_hold 93 = .ok (.invokevirtual 88, 3) := by decide +kernel
theorem dX7_hold_96 : decode cX7_hold 96 = .ok (.iload 5, 2) := by decide +kernel
theorem dX7_hold_98 : decode cX7_hold 98 = .ok (.ireturn, 1) := by decide +kernel
set_option maxRecDepth 20000 in
theorem ggX7_leave_X7_isHand : GoodIn wsX7_leave wsX7_isHand := goodIn_r _ [9, 1, 10, 21, 22, 23, 24, 25, 26, 27, 28, 29, 30, 31, 32, 33, 34, 35, 36, 37, 38, 39] (by decide +kernel) (by decide +kernel)
set_option maxRecDepth 20000 in
theorem gX7_leave_X7_isHand : GoodIn wsX7_leave (wsV RX7 101 RX7 yX7_isHand wsX7_isHand) := goodIn_app (goodIn_of _ (by decide +kernel)) ggX7_leave_X7_isHand
set_option maxRecDepth 20000 in
theorem ggX7_leave_X6_keepBelow : GoodIn wsX7_leave wsX6_keepBelow := goodIn_r _ [15, 16, 17, 18, 19, 20, 40, 41] (by decide +kernel) (by decide +kernel)
set_option maxRecDepth 20000 in
theorem gX7_leave_X6_keepBelow : GoodIn wsX7_leave (wsV RX7 88 RX6 yX6_keepBelow wsX6_keepBelow) := goodIn_app (goodIn_of _ (by decide +kernel)) ggX7_leave_X6_keepBelow
theorem dX7_leave_0 : decode cX7_leave 0 = .ok (.aload_n 0, 1) := by decide +kernel
theorem dX7_leave_1 : decode cX7_leave 1 = .ok (.iload_n 1, 1) := by decide +kernel
theorem dX7_leave_2 : decode cX7_leave 2 = .ok (.invokevirtual 101, 3) := by decide +kernel
theorem dX7_leave_5 : decode cX7_leave 5 = .ok (.ifCond .ne 5, 3) := by decide +kernel
theorem dX7_leave_8 : decode cX7_leave 8 = .ok (.iconst (-1), 1) := by decide +kernel
theorem dX7_leave_9 : decode cX7_leave 9 = .ok (.ireturn, 1) := by decide +kernel
theorem dX7_leave_10 : decode cX7_leave 10 = .ok (.iload_n 2, 1) := by decide +kernel
theorem dX7_leave_11 : decode cX7_leave 11 = .ok (.ifCond .lt 14, 3) := by decide +kernel
theorem dX7_leave_14 : decode cX7_leave 14 = .ok (.iload_n 3, 1) := by decide +kernel
theorem dX7_leave_15 : decode cX7_leave 15 = .ok (.iload_n 2, 1) := by decide +kernel
theorem dX7_leave_16 : decode cX7_leave 16 = .ok (.if_icmp .lt 9, 3) := by decide +kernel
theorem dX7_leave_19 : decode cX7_leave 19 = .ok (.iload_n 3, 1) := by decide +kernel
theorem dX7_leave_20 : decode cX7_leave 20 = .ok (.bipush 100, 2) := by decide +kernel
theorem dX7_leave_22 : decode cX7_leave 22 = .ok (.if_icmp .le 6, 3) := by decide +kernel
theorem dX7_leave_25 : decode cX7_leave 25 = .ok (.bipush (-2), 2) := by decide +kernel
theorem dX7_leave_27 : decode cX7_leave 27 = .ok (.ireturn, 1) := by decide +kernel
theorem dX7_leave_28 : decode cX7_leave 28 = .ok (.aload_n 0, 1) := by decide +kernel
theorem dX7_leave_29 : decode cX7_leave 29 = .ok (.getfield 10, 3) := by decide +kernel
theorem dX7_leave_32 : decode cX7_leave 32 = .ok (.getfield 117, 3) := by decide +kernel
theorem dX7_leave_35 : decode cX7_leave 35 = .ok (.iload_n 1, 1) := by decide +kernel
theorem dX7_leave_36 : decode cX7_leave 36 = .ok (.iload_n 2, 1) := by decide +kernel
theorem dX7_leave_37 : decode cX7_leave 37 = .ok (.iastore, 1) := by decide +kernel
theorem dX7_leave_38 : decode cX7_leave 38 = .ok (.aload_n 0, 1) := by decide +kernel
theorem dX7_leave_39 : decode cX7_leave 39 = .ok (.getfield 10, 3) := by decide +kernel
theorem dX7_leave_42 : decode cX7_leave 42 = .ok (.getfield 120, 3) := by decide +kernel
theorem dX7_leave_45 : decode cX7_leave 45 = .ok (.iload_n 1, 1) := by decide +kernel
theorem dX7_leave_46 : decode cX7_leave 46 = .ok (.iload_n 3, 1) := by decide +kernel
theorem dX7_leave_47 : decode cX7_leave 47 = .ok (.iastore, 1) := by decide +kernel
theorem dX7_leave_48 : decode cX7_leave 48 = .ok (.aload_n 0, 1) := by decide +kernel
theorem dX7_leave_49 : decode cX7_leave 49 = .ok (.getfield 28, 3) := by decide +kernel
theorem dX7_leave_52 : decode cX7_leave 52 = .ok (.iconst 0, 1) := by decide +kernel
theorem dX7_leave_53 : decode cX7_leave 53 = .ok (.invokevirtual 88, 3) := by decide +kernel
theorem dX7_leave_56 : decode cX7_leave 56 = .ok (.iload_n 3, 1) := by decide +kernel
theorem dX7_leave_57 : decode cX7_leave 57 = .ok (.iload_n 2, 1) := by decide +kernel
theorem dX7_leave_58 : decode cX7_leave 58 = .ok (.isub, 1) := by decide +kernel
theorem dX7_leave_59 : decode cX7_leave 59 = .ok (.ireturn, 1) := by decide +kernel
set_option maxRecDepth 20000 in
theorem ggX7_truly_X7_isTick : GoodIn wsX7_truly wsX7_isTick := goodIn_r _ [7] (by decide +kernel) (by decide +kernel)
set_option maxRecDepth 20000 in
theorem gX7_truly_X7_isTick : GoodIn wsX7_truly (va_wsS RX7 104 yX7_isTick wsX7_isTick) := goodIn_app (goodIn_of _ (by decide +kernel)) ggX7_truly_X7_isTick
set_option maxRecDepth 20000 in
theorem ggX7_truly_X7_columnOf : GoodIn wsX7_truly wsX7_columnOf := goodIn_r _ [10] (by decide +kernel) (by decide +kernel)
set_option maxRecDepth 20000 in
theorem gX7_truly_X7_columnOf : GoodIn wsX7_truly (va_wsS RX7 127 yX7_columnOf wsX7_columnOf) := goodIn_app (goodIn_of _ (by decide +kernel)) ggX7_truly_X7_columnOf
set_option maxRecDepth 20000 in
theorem ggX7_truly_X7_playTrulyTo : GoodIn wsX7_truly wsX7_playTrulyTo := goodIn_r _ [14, 3, 15, 1, 16, 17, 18, 19, 20, 21, 6, 22, 23, 24, 25, 26, 27, 28, 29, 30, 31, 32, 33, 34, 35, 36, 37, 38, 39, 40, 41, 42, 43, 44, 45, 46, 47, 48, 49, 50, 51, 52, 53, 54, 55, 56, 57, 58, 59, 60, 61, 62, 63, 64, 65, 66, 67, 68, 69, 70, 71, 72, 73, 74, 75, 76, 77, 78, 79, 80, 81, 82, 83, 84, 85, 86, 87, 88, 89, 90, 91, 92, 93, 94, 95, 96, 97, 98, 99, 100, 101, 102, 103, 104, 105, 106, 107, 108, 109, 110, 111, 112, 113, 114, 115, 116, 117, 118, 119, 128, 129, 130, 131, 132, 133, 134, 135, 136, 137, 138, 139, 147, 148, 140, 141, 142, 143, 144, 145, 146, 149] (by decide +kernel) (by decide +kernel)
set_option maxRecDepth 20000 in
theorem gX7_truly_X7_playTrulyTo : GoodIn wsX7_truly (wsV RX7 130 RX7 yX7_playTrulyTo wsX7_playTrulyTo) := goodIn_app (goodIn_of _ (by decide +kernel)) ggX7_truly_X7_playTrulyTo
set_option maxRecDepth 20000 in
theorem ggX7_truly_X6_at : GoodIn wsX7_truly wsX6_at := goodIn_r _ [123, 28, 147, 148] (by decide +kernel) (by decide +kernel)
set_option maxRecDepth 20000 in
theorem gX7_truly_X6_at : GoodIn wsX7_truly (wsV RX7 133 RX6 yX6_at wsX6_at) := goodIn_app (goodIn_of _ (by decide +kernel)) ggX7_truly_X6_at
set_option maxRecDepth 20000 in
theorem ggX7_truly_X7_told : GoodIn wsX7_truly wsX7_told := goodIn_r _ [126, 127, 115, 84, 6, 85, 114, 82, 83, 140, 141, 142, 143, 144, 145, 146] (by decide +kernel) (by decide +kernel)
set_option maxRecDepth 20000 in
theorem gX7_truly_X7_told : GoodIn wsX7_truly (va_wsS RX7 136 yX7_told wsX7_told) := goodIn_app (goodIn_of _ (by decide +kernel)) ggX7_truly_X7_told
theorem dX7_truly_0 : decode cX7_truly 0 = .ok (.iload_n 1, 1) := by decide +kernel
theorem dX7_truly_1 : decode cX7_truly 1 = .ok (.invokestatic 104, 3) := by decide +kernel
theorem dX7_truly_4 : decode cX7_truly 4 = .ok (.ifCond .ne 5, 3) := by decide +kernel
theorem dX7_truly_7 : decode cX7_truly 7 = .ok (.iconst (-1), 1) := by decide +kernel
theorem dX7_truly_8 : decode cX7_truly 8 = .ok (.ireturn, 1) := by decide +kernel
theorem dX7_truly_9 : decode cX7_truly 9 = .ok (.iload_n 2, 1) := by decide +kernel
theorem dX7_truly_10 : decode cX7_truly 10 = .ok (.aload_n 0, 1) := by decide +kernel
theorem dX7_truly_11 : decode cX7_truly 11 = .ok (.getfield 10, 3) := by decide +kernel
theorem dX7_truly_14 : decode cX7_truly 14 = .ok (.getfield 123, 3) := by decide +kernel
theorem dX7_truly_17 : decode cX7_truly 17 = .ok (.invokestatic 127, 3) := by decide +kernel
theorem dX7_truly_20 : decode cX7_truly 20 = .ok (.istore_n 3, 1) := by decide +kernel
theorem dX7_truly_21 : decode cX7_truly 21 = .ok (.iload_n 3, 1) := by decide +kernel
theorem dX7_truly_22 : decode cX7_truly 22 = .ok (.ifCond .ge 6, 3) := by decide +kernel
theorem dX7_truly_25 : decode cX7_truly 25 = .ok (.bipush (-2), 2) := by decide +kernel
theorem dX7_truly_27 : decode cX7_truly 27 = .ok (.ireturn, 1) := by decide +kernel
theorem dX7_truly_28 : decode cX7_truly 28 = .ok (.aload_n 0, 1) := by decide +kernel
theorem dX7_truly_29 : decode cX7_truly 29 = .ok (.iload_n 1, 1) := by decide +kernel
theorem dX7_truly_30 : decode cX7_truly 30 = .ok (.invokevirtual 130, 3) := by decide +kernel
theorem dX7_truly_33 : decode cX7_truly 33 = .ok (.aload_n 0, 1) := by decide +kernel
theorem dX7_truly_34 : decode cX7_truly 34 = .ok (.getfield 10, 3) := by decide +kernel
theorem dX7_truly_37 : decode cX7_truly 37 = .ok (.aload_n 0, 1) := by decide +kernel
theorem dX7_truly_38 : decode cX7_truly 38 = .ok (.getfield 28, 3) := by decide +kernel
theorem dX7_truly_41 : decode cX7_truly 41 = .ok (.iload_n 1, 1) := by decide +kernel
theorem dX7_truly_42 : decode cX7_truly 42 = .ok (.iload_n 3, 1) := by decide +kernel
theorem dX7_truly_43 : decode cX7_truly 43 = .ok (.invokevirtual 133, 3) := by decide +kernel
theorem dX7_truly_46 : decode cX7_truly 46 = .ok (.iload_n 3, 1) := by decide +kernel
theorem dX7_truly_47 : decode cX7_truly 47 = .ok (.invokestatic 136, 3) := by decide +kernel
theorem dX7_truly_50 : decode cX7_truly 50 = .ok (.ireturn, 1) := by decide +kernel
set_option maxRecDepth 20000 in
theorem ggX7_machine_X7_isHand : GoodIn wsX7_machine wsX7_isHand := goodIn_r _ [7, 8, 9, 122, 123, 124, 125, 126, 127, 128, 129, 130, 131, 132, 133, 134, 135, 136, 137, 138, 139, 140] (by decide +kernel) (by decide +kernel)
set_option maxRecDepth 20000 in
theorem gX7_machine_X7_isHand : GoodIn wsX7_machine (wsV RX7 101 RX7 yX7_isHand wsX7_isHand) := goodIn_app (goodIn_of _ (by decide +kernel)) ggX7_machine_X7_isHand
set_option maxRecDepth 20000 in
theorem ggX7_machine_X7_isTick : GoodIn wsX7_machine wsX7_isTick := goodIn_r _ [12] (by decide +kernel) (by decide +kernel)
set_option maxRecDepth 20000 in
theorem gX7_machine_X7_isTick : GoodIn wsX7_machine (va_wsS RX7 104 yX7_isTick wsX7_isTick) := goodIn_app (goodIn_of _ (by decide +kernel)) ggX7_machine_X7_isTick
set_option maxRecDepth 20000 in
theorem ggX7_machine_X7_playTrulyTo : GoodIn wsX7_machine wsX7_playTrulyTo := goodIn_r _ [16, 1, 17, 8, 18, 2, 19, 20, 21, 22, 6, 23, 24, 25, 26, 27, 28, 29, 30, 31, 32, 33, 34, 35, 36, 37, 38, 39, 40, 41, 42, 43, 44, 45, 46, 47, 48, 49, 50, 51, 52, 53, 54, 55, 56, 57, 58, 59, 60, 61, 62, 63, 64, 65, 66, 67, 68, 69, 70, 71, 72, 73, 74, 75, 76, 77, 78, 79, 80, 81, 82, 83, 84, 85, 86, 87, 88, 89, 90, 91, 92, 93, 94, 95, 96, 97, 98, 99, 100, 101, 102, 103, 104, 105, 106, 107, 108, 109, 110, 111, 112, 113, 114, 115, 116, 117, 118, 119, 120, 122, 123, 124, 125, 126, 127, 128, 129, 130, 131, 132, 133, 141, 142, 134, 135, 136, 137, 138, 139, 140, 143] (by decide +kernel) (by decide +kernel)
set_option maxRecDepth 20000 in
theorem gX7_machine_X7_playTrulyTo : GoodIn wsX7_machine (wsV RX7 130 RX7 yX7_playTrulyTo wsX7_playTrulyTo) := goodIn_app (goodIn_of _ (by decide +kernel)) ggX7_machine_X7_playTrulyTo
set_option maxRecDepth 20000 in
theorem ggX7_machine_X6_load : GoodIn wsX7_machine wsX6_load := goodIn_r _ [28, 29, 30, 31, 32, 33, 34, 141, 142, 143] (by decide +kernel) (by decide +kernel)
set_option maxRecDepth 20000 in
theorem gX7_machine_X6_load : GoodIn wsX7_machine (wsV RX7 140 RX6 yX6_load wsX6_load) := goodIn_app (goodIn_of _ (by decide +kernel)) ggX7_machine_X6_load
set_option maxRecDepth 20000 in
theorem ggX7_machine_X0_machinePress : GoodIn wsX7_machine wsX0_machinePress := goodIn_r _ [74, 40, 75, 76, 77, 78, 79, 80, 81, 38, 82, 83, 6, 84, 85, 86, 143] (by decide +kernel) (by decide +kernel)
set_option maxRecDepth 20000 in
theorem gX7_machine_X0_machinePress : GoodIn wsX7_machine (wsV RX7 144 RX0 yX0_machinePress wsX0_machinePress) := goodIn_app (goodIn_of _ (by decide +kernel)) ggX7_machine_X0_machinePress
theorem dX7_machine_0 : decode cX7_machine 0 = .ok (.aload_n 0, 1) := by decide +kernel
theorem dX7_machine_1 : decode cX7_machine 1 = .ok (.iload_n 1, 1) := by decide +kernel
theorem dX7_machine_2 : decode cX7_machine 2 = .ok (.invokevirtual 101, 3) := by decide +kernel
theorem dX7_machine_5 : decode cX7_machine 5 = .ok (.ifCond .eq 10, 3) := by decide +kernel
theorem dX7_machine_8 : decode cX7_machine 8 = .ok (.iload_n 2, 1) := by decide +kernel
theorem dX7_machine_9 : decode cX7_machine 9 = .ok (.invokestatic 104, 3) := by decide +kernel
theorem dX7_machine_12 : decode cX7_machine 12 = .ok (.ifCond .ne 5, 3) := by decide +kernel
theorem dX7_machine_15 : decode cX7_machine 15 = .ok (.iconst (-1), 1) := by decide +kernel
theorem dX7_machine_16 : decode cX7_machine 16 = .ok (.ireturn, 1) := by decide +kernel
theorem dX7_machine_17 : decode cX7_machine 17 = .ok (.aload_n 0, 1) := by decide +kernel
theorem dX7_machine_18 : decode cX7_machine 18 = .ok (.iload_n 2, 1) := by decide +kernel
theorem dX7_machine_19 : decode cX7_machine 19 = .ok (.invokevirtual 130, 3) := by decide +kernel
theorem dX7_machine_22 : decode cX7_machine 22 = .ok (.aload_n 0, 1) := by decide +kernel
theorem dX7_machine_23 : decode cX7_machine 23 = .ok (.getfield 28, 3) := by decide +kernel
theorem dX7_machine_26 : decode cX7_machine 26 = .ok (.iload_n 2, 1) := by decide +kernel
theorem dX7_machine_27 : decode cX7_machine 27 = .ok (.aload_n 0, 1) := by decide +kernel
theorem dX7_machine_28 : decode cX7_machine 28 = .ok (.getfield 38, 3) := by decide +kernel
theorem dX7_machine_31 : decode cX7_machine 31 = .ok (.invokevirtual 140, 3) := by decide +kernel
theorem dX7_machine_34 : decode cX7_machine 34 = .ok (.aload_n 0, 1) := by decide +kernel
theorem dX7_machine_35 : decode cX7_machine 35 = .ok (.getfield 38, 3) := by decide +kernel
theorem dX7_machine_38 : decode cX7_machine 38 = .ok (.iload_n 1, 1) := by decide +kernel
theorem dX7_machine_39 : decode cX7_machine 39 = .ok (.invokevirtual 144, 3) := by decide +kernel
theorem dX7_machine_42 : decode cX7_machine 42 = .ok (.ireturn, 1) := by decide +kernel
set_option maxRecDepth 20000 in
theorem ggX7_line_X7_isHand : GoodIn wsX7_line wsX7_isHand := goodIn_r _ [6, 7, 8, 19, 20, 21, 22, 23, 24, 25, 26, 27, 28, 29, 30, 31, 32, 33, 34, 35, 36, 37] (by decide +kernel) (by decide +kernel)
set_option maxRecDepth 20000 in
theorem gX7_line_X7_isHand : GoodIn wsX7_line (wsV RX7 101 RX7 yX7_isHand wsX7_isHand) := goodIn_app (goodIn_of _ (by decide +kernel)) ggX7_line_X7_isHand
set_option maxRecDepth 20000 in
theorem ggX7_line_X4_waitOf : GoodIn wsX7_line wsX4_waitOf := goodIn_r _ [13, 14, 38, 39, 40] (by decide +kernel) (by decide +kernel)
set_option maxRecDepth 20000 in
theorem gX7_line_X4_waitOf : GoodIn wsX7_line (wsV RX7 148 RX4 yX4_waitOf wsX4_waitOf) := goodIn_app (goodIn_of _ (by decide +kernel)) ggX7_line_X4_waitOf
set_option maxRecDepth 20000 in
theorem ggX7_line_X4_setWait : GoodIn wsX7_line wsX4_setWait := goodIn_r _ [18, 14, 38, 39, 40] (by decide +kernel) (by decide +kernel)
set_option maxRecDepth 20000 in
theorem gX7_line_X4_setWait : GoodIn wsX7_line (wsV RX7 151 RX4 yX4_setWait wsX4_setWait) := goodIn_app (goodIn_of _ (by decide +kernel)) ggX7_line_X4_setWait
theorem dX7_line_0 : decode cX7_line 0 = .ok (.aload_n 0, 1) := by decide +kernel
theorem dX7_line_1 : decode cX7_line 1 = .ok (.iload_n 1, 1) := by decide +kernel
theorem dX7_line_2 : decode cX7_line 2 = .ok (.invokevirtual 101, 3) := by decide +kernel
theorem dX7_line_5 : decode cX7_line 5 = .ok (.ifCond .eq 11, 3) := by decide +kernel
theorem dX7_line_8 : decode cX7_line 8 = .ok (.aload_n 0, 1) := by decide +kernel
theorem dX7_line_9 : decode cX7_line 9 = .ok (.iload_n 2, 1) := by decide +kernel
theorem dX7_line_10 : decode cX7_line 10 = .ok (.invokevirtual 101, 3) := by decide +kernel
theorem dX7_line_13 : decode cX7_line 13 = .ok (.ifCond .ne 5, 3) := by decide +kernel
theorem dX7_line_16 : decode cX7_line 16 = .ok (.iconst (-1), 1) := by decide +kernel
theorem dX7_line_17 : decode cX7_line 17 = .ok (.ireturn, 1) := by decide +kernel
theorem dX7_line_18 : decode cX7_line 18 = .ok (.iload_n 3, 1) := by decide +kernel
theorem dX7_line_19 : decode cX7_line 19 = .ok (.ifCond .lt 9, 3) := by decide +kernel
theorem dX7_line_22 : decode cX7_line 22 = .ok (.iload_n 3, 1) := by decide +kernel
theorem dX7_line_23 : decode cX7_line 23 = .ok (.bipush 9, 2) := by decide +kernel
theorem dX7_line_25 : decode cX7_line 25 = .ok (.if_icmp .le 6, 3) := by decide +kernel
theorem dX7_line_28 : decode cX7_line 28 = .ok (.bipush (-2), 2) := by decide +kernel
theorem dX7_line_30 : decode cX7_line 30 = .ok (.ireturn, 1) := by decide +kernel
theorem dX7_line_31 : decode cX7_line 31 = .ok (.iload_n 1, 1) := by decide +kernel
theorem dX7_line_32 : decode cX7_line 32 = .ok (.iload_n 2, 1) := by decide +kernel
theorem dX7_line_33 : decode cX7_line 33 = .ok (.if_icmp .ne 6, 3) := by decide +kernel
theorem dX7_line_36 : decode cX7_line 36 = .ok (.bipush (-3), 2) := by decide +kernel
theorem dX7_line_38 : decode cX7_line 38 = .ok (.ireturn, 1) := by decide +kernel
theorem dX7_line_39 : decode cX7_line 39 = .ok (.aload_n 0, 1) := by decide +kernel
theorem dX7_line_40 : decode cX7_line 40 = .ok (.getfield 21, 3) := by decide +kernel
theorem dX7_line_43 : decode cX7_line 43 = .ok (.iload_n 1, 1) := by decide +kernel
theorem dX7_line_44 : decode cX7_line 44 = .ok (.iload_n 2, 1) := by decide +kernel
theorem dX7_line_45 : decode cX7_line 45 = .ok (.invokevirtual 148, 3) := by decide +kernel
theorem dX7_line_48 : decode cX7_line 48 = .ok (.istore 4, 2) := by decide +kernel
theorem dX7_line_50 : decode cX7_line 50 = .ok (.aload_n 0, 1) := by decide +kernel
theorem dX7_line_51 : decode cX7_line 51 = .ok (.getfield 21, 3) := by decide +kernel
theorem dX7_line_54 : decode cX7_line 54 = .ok (.iload_n 1, 1) := by decide +kernel
theorem dX7_line_55 : decode cX7_line 55 = .ok (.iload_n 2, 1) := by decide +kernel
theorem dX7_line_56 : decode cX7_line 56 = .ok (.iload_n 3, 1) := by decide +kernel
theorem dX7_line_57 : decode cX7_line 57 = .ok (.invokevirtual 151, 3) := by decide +kernel
theorem dX7_line_60 : decode cX7_line 60 = .ok (.iload 4, 2) := by decide +kernel
theorem dX7_line_62 : decode cX7_line 62 = .ok (.ireturn, 1) := by decide +kernel
set_option maxRecDepth 20000 in
theorem ggX7_lose_X7_isHand : GoodIn wsX7_lose wsX7_isHand := goodIn_r _ [6, 7, 8, 22, 23, 24, 25, 26, 27, 28, 29, 30, 31, 32, 33, 34, 35, 36, 37, 38, 39, 40] (by decide +kernel) (by decide +kernel)
set_option maxRecDepth 20000 in
theorem gX7_lose_X7_isHand : GoodIn wsX7_lose (wsV RX7 101 RX7 yX7_isHand wsX7_isHand) := goodIn_app (goodIn_of _ (by decide +kernel)) ggX7_lose_X7_isHand
set_option maxRecDepth 20000 in
theorem ggX7_lose_X7_isTick : GoodIn wsX7_lose wsX7_isTick := goodIn_r _ [11] (by decide +kernel) (by decide +kernel)
set_option maxRecDepth 20000 in
theorem gX7_lose_X7_isTick : GoodIn wsX7_lose (va_wsS RX7 104 yX7_isTick wsX7_isTick) := goodIn_app (goodIn_of _ (by decide +kernel)) ggX7_lose_X7_isTick
set_option maxRecDepth 20000 in
theorem ggX7_lose_X4_isLost : GoodIn wsX7_lose wsX4_isLost := goodIn_r _ [16, 17, 41, 42, 43] (by decide +kernel) (by decide +kernel)
set_option maxRecDepth 20000 in
theorem gX7_lose_X4_isLost : GoodIn wsX7_lose (wsV RX7 154 RX4 yX4_isLost wsX4_isLost) := goodIn_app (goodIn_of _ (by decide +kernel)) ggX7_lose_X4_isLost
set_option maxRecDepth 20000 in
theorem ggX7_lose_X4_setLost : GoodIn wsX7_lose wsX4_setLost := goodIn_r _ [21, 17, 41, 42, 43] (by decide +kernel) (by decide +kernel)
set_option maxRecDepth 20000 in
theorem gX7_lose_X4_setLost : GoodIn wsX7_lose (wsV RX7 158 RX4 yX4_setLost wsX4_setLost) := goodIn_app (goodIn_of _ (by decide +kernel)) ggX7_lose_X4_setLost
theorem dX7_lose_0 : decode cX7_lose 0 = .ok (.aload_n 0, 1) := by decide +kernel
theorem dX7_lose_1 : decode cX7_lose 1 = .ok (.iload_n 1, 1) := by decide +kernel
theorem dX7_lose_2 : decode cX7_lose 2 = .ok (.invokevirtual 101, 3) := by decide +kernel
theorem dX7_lose_5 : decode cX7_lose 5 = .ok (.ifCond .eq 10, 3) := by decide +kernel
theorem dX7_lose_8 : decode cX7_lose 8 = .ok (.iload_n 2, 1) := by decide +kernel
theorem dX7_lose_9 : decode cX7_lose 9 = .ok (.invokestatic 104, 3) := by decide +kernel
theorem dX7_lose_12 : decode cX7_lose 12 = .ok (.ifCond .ne 5, 3) := by decide +kernel
theorem dX7_lose_15 : decode cX7_lose 15 = .ok (.iconst (-1), 1) := by decide +kernel
theorem dX7_lose_16 : decode cX7_lose 16 = .ok (.ireturn, 1) := by decide +kernel
theorem dX7_lose_17 : decode cX7_lose 17 = .ok (.aload_n 0, 1) := by decide +kernel
theorem dX7_lose_18 : decode cX7_lose 18 = .ok (.getfield 21, 3) := by decide +kernel
theorem dX7_lose_21 : decode cX7_lose 21 = .ok (.iload_n 1, 1) := by decide +kernel
theorem dX7_lose_22 : decode cX7_lose 22 = .ok (.iload_n 2, 1) := by decide +kernel
theorem dX7_lose_23 : decode cX7_lose 23 = .ok (.invokevirtual 154, 3) := by decide +kernel
theorem dX7_lose_26 : decode cX7_lose 26 = .ok (.ifCond .eq 7, 3) := by decide +kernel
theorem dX7_lose_29 : decode cX7_lose 29 = .ok (.iconst 1, 1) := by decide +kernel
theorem dX7_lose_30 : decode cX7_lose 30 = .ok (.goto 4, 3) := by decide +kernel
theorem dX7_lose_33 : decode cX7_lose 33 = .ok (.iconst 0, 1) := by decide +kernel
theorem dX7_lose_34 : decode cX7_lose 34 = .ok (.istore 4, 2) := by decide +kernel
theorem dX7_lose_36 : decode cX7_lose 36 = .ok (.aload_n 0, 1) := by decide +kernel
theorem dX7_lose_37 : decode cX7_lose 37 = .ok (.getfield 21, 3) := by decide +kernel
theorem dX7_lose_40 : decode cX7_lose 40 = .ok (.iload_n 1, 1) := by decide +kernel
theorem dX7_lose_41 : decode cX7_lose 41 = .ok (.iload_n 2, 1) := by decide +kernel
theorem dX7_lose_42 : decode cX7_lose 42 = .ok (.iload_n 3, 1) := by decide +kernel
theorem dX7_lose_43 : decode cX7_lose 43 = .ok (.invokevirtual 158, 3) := by decide +kernel
theorem dX7_lose_46 : decode cX7_lose 46 = .ok (.iload 4, 2) := by decide +kernel
theorem dX7_lose_48 : decode cX7_lose 48 = .ok (.ireturn, 1) := by decide +kernel
set_option maxRecDepth 20000 in
theorem ggX7_known_X7_isHand : GoodIn wsX7_known wsX7_isHand := goodIn_r _ [8, 1, 9, 27, 28, 29, 30, 31, 32, 33, 34, 35, 36, 37, 38, 39, 40, 41, 42, 43, 44, 45] (by decide +kernel) (by decide +kernel)
set_option maxRecDepth 20000 in
theorem gX7_known_X7_isHand : GoodIn wsX7_known (wsV RX7 101 RX7 yX7_isHand wsX7_isHand) := goodIn_app (goodIn_of _ (by decide +kernel)) ggX7_known_X7_isHand
set_option maxRecDepth 20000 in
theorem ggX7_known_X7_isTick : GoodIn wsX7_known wsX7_isTick := goodIn_r _ [12] (by decide +kernel) (by decide +kernel)
set_option maxRecDepth 20000 in
theorem gX7_known_X7_isTick : GoodIn wsX7_known (va_wsS RX7 104 yX7_isTick wsX7_isTick) := goodIn_app (goodIn_of _ (by decide +kernel)) ggX7_known_X7_isTick
set_option maxRecDepth 20000 in
theorem ggX7_known_X5_isLeft : GoodIn wsX7_known wsX5_isLeft := goodIn_r _ [17, 18, 19, 39, 40, 41, 42, 43, 44, 45] (by decide +kernel) (by decide +kernel)
set_option maxRecDepth 20000 in
theorem gX7_known_X5_isLeft : GoodIn wsX7_known (wsV RX7 162 RX5 yX5_isLeft wsX5_isLeft) := goodIn_app (goodIn_of _ (by decide +kernel)) ggX7_known_X5_isLeft
set_option maxRecDepth 20000 in
theorem ggX7_known_X4_clockOf : GoodIn wsX7_known wsX4_clockOf := goodIn_r _ [24, 25, 26, 46, 47, 48] (by decide +kernel) (by decide +kernel)
set_option maxRecDepth 20000 in
theorem gX7_known_X4_clockOf : GoodIn wsX7_known (wsV RX7 165 RX4 yX4_clockOf wsX4_clockOf) := goodIn_app (goodIn_of _ (by decide +kernel)) ggX7_known_X4_clockOf
theorem dX7_known_0 : decode cX7_known 0 = .ok (.aload_n 0, 1) := by decide +kernel
theorem dX7_known_1 : decode cX7_known 1 = .ok (.iload_n 1, 1) := by decide +kernel
theorem dX7_known_2 : decode cX7_known 2 = .ok (.invokevirtual 101, 3) := by decide +kernel
theorem dX7_known_5 : decode cX7_known 5 = .ok (.ifCond .eq 18, 3) := by decide +kernel
theorem dX7_known_8 : decode cX7_known 8 = .ok (.aload_n 0, 1) := by decide +kernel
theorem dX7_known_9 : decode cX7_known 9 = .ok (.iload_n 2, 1) := by decide +kernel
theorem dX7_known_10 : decode cX7_known 10 = .ok (.invokevirtual 101, 3) := by decide +kernel
theorem dX7_known_13 : decode cX7_known 13 = .ok (.ifCond .eq 10, 3) := by decide +kernel
theorem dX7_known_16 : decode cX7_known 16 = .ok (.iload_n 3, 1) := by decide +kernel
theorem dX7_known_17 : decode cX7_known 17 = .ok (.invokestatic 104, 3) := by decide +kernel
theorem dX7_known_20 : decode cX7_known 20 = .ok (.ifCond .ne 5, 3) := by decide +kernel
theorem dX7_known_23 : decode cX7_known 23 = .ok (.iconst (-1), 1) := by decide +kernel
theorem dX7_known_24 : decode cX7_known 24 = .ok (.ireturn, 1) := by decide +kernel
theorem dX7_known_25 : decode cX7_known 25 = .ok (.aload_n 0, 1) := by decide +kernel
theorem dX7_known_26 : decode cX7_known 26 = .ok (.getfield 10, 3) := by decide +kernel
theorem dX7_known_29 : decode cX7_known 29 = .ok (.iload_n 2, 1) := by decide +kernel
theorem dX7_known_30 : decode cX7_known 30 = .ok (.iload_n 3, 1) := by decide +kernel
theorem dX7_known_31 : decode cX7_known 31 = .ok (.invokevirtual 162, 3) := by decide +kernel
theorem dX7_known_34 : decode cX7_known 34 = .ok (.ifCond .eq 5, 3) := by decide +kernel
theorem dX7_known_37 : decode cX7_known 37 = .ok (.iconst 0, 1) := by decide +kernel
theorem dX7_known_38 : decode cX7_known 38 = .ok (.ireturn, 1) := by decide +kernel
theorem dX7_known_39 : decode cX7_known 39 = .ok (.aload_n 0, 1) := by decide +kernel
theorem dX7_known_40 : decode cX7_known 40 = .ok (.getfield 21, 3) := by decide +kernel
theorem dX7_known_43 : decode cX7_known 43 = .ok (.aload_n 0, 1) := by decide +kernel
theorem dX7_known_44 : decode cX7_known 44 = .ok (.getfield 10, 3) := by decide +kernel
theorem dX7_known_47 : decode cX7_known 47 = .ok (.getfield 98, 3) := by decide +kernel
theorem dX7_known_50 : decode cX7_known 50 = .ok (.iconst 3, 1) := by decide +kernel
theorem dX7_known_51 : decode cX7_known 51 = .ok (.iaload, 1) := by decide +kernel
theorem dX7_known_52 : decode cX7_known 52 = .ok (.iload_n 1, 1) := by decide +kernel
theorem dX7_known_53 : decode cX7_known 53 = .ok (.iload_n 2, 1) := by decide +kernel
theorem dX7_known_54 : decode cX7_known 54 = .ok (.iload_n 3, 1) := by decide +kernel
theorem dX7_known_55 : decode cX7_known 55 = .ok (.invokevirtual 165, 3) := by decide +kernel
theorem dX7_known_58 : decode cX7_known 58 = .ok (.bipush 100, 2) := by decide +kernel
theorem dX7_known_60 : decode cX7_known 60 = .ok (.iadd, 1) := by decide +kernel
theorem dX7_known_61 : decode cX7_known 61 = .ok (.ireturn, 1) := by decide +kernel
set_option maxRecDepth 20000 in
theorem ggX7_takes_X7_isHand : GoodIn wsX7_takes wsX7_isHand := goodIn_r _ [8, 2, 9, 45, 46, 47, 48, 49, 50, 51, 52, 53, 54, 55, 56, 57, 58, 59, 60, 61, 62, 63] (by decide +kernel) (by decide +kernel)
set_option maxRecDepth 20000 in
theorem gX7_takes_X7_isHand : GoodIn wsX7_takes (wsV RX7 101 RX7 yX7_isHand wsX7_isHand) := goodIn_app (goodIn_of _ (by decide +kernel)) ggX7_takes_X7_isHand
set_option maxRecDepth 20000 in
theorem ggX7_takes_X7_isTick : GoodIn wsX7_takes wsX7_isTick := goodIn_r _ [12] (by decide +kernel) (by decide +kernel)
set_option maxRecDepth 20000 in
theorem gX7_takes_X7_isTick : GoodIn wsX7_takes (va_wsS RX7 104 yX7_isTick wsX7_isTick) := goodIn_app (goodIn_of _ (by decide +kernel)) ggX7_takes_X7_isTick
set_option maxRecDepth 20000 in
theorem ggX7_takes_X4_taken : GoodIn wsX7_takes wsX4_taken := goodIn_r _ [17, 18, 19, 20, 21, 16, 22, 23, 24, 25, 26, 27, 28, 29, 30, 31, 32, 33, 34, 35, 36, 37, 38, 39, 40, 41, 42, 43, 44, 64, 65, 66, 57, 58, 59, 60, 61, 62, 63] (by decide +kernel) (by decide +kernel)
set_option maxRecDepth 20000 in
theorem gX7_takes_X4_taken : GoodIn wsX7_takes (wsV RX7 169 RX4 yX4_taken wsX4_taken) := goodIn_app (goodIn_of _ (by decide +kernel)) ggX7_takes_X4_taken
theorem dX7_takes_0 : decode cX7_takes 0 = .ok (.aload_n 0, 1) := by decide +kernel
theorem dX7_takes_1 : decode cX7_takes 1 = .ok (.iload_n 1, 1) := by decide +kernel
theorem dX7_takes_2 : decode cX7_takes 2 = .ok (.invokevirtual 101, 3) := by decide +kernel
theorem dX7_takes_5 : decode cX7_takes 5 = .ok (.ifCond .eq 29, 3) := by decide +kernel
theorem dX7_takes_8 : decode cX7_takes 8 = .ok (.aload_n 0, 1) := by decide +kernel
theorem dX7_takes_9 : decode cX7_takes 9 = .ok (.iload_n 3, 1) := by decide +kernel
theorem dX7_takes_10 : decode cX7_takes 10 = .ok (.invokevirtual 101, 3) := by decide +kernel
theorem dX7_takes_13 : decode cX7_takes 13 = .ok (.ifCond .eq 21, 3) := by decide +kernel
theorem dX7_takes_16 : decode cX7_takes 16 = .ok (.iload_n 2, 1) := by decide +kernel
theorem dX7_takes_17 : decode cX7_takes 17 = .ok (.invokestatic 104, 3) := by decide +kernel
theorem dX7_takes_20 : decode cX7_takes 20 = .ok (.ifCond .eq 14, 3) := by decide +kernel
theorem dX7_takes_23 : decode cX7_takes 23 = .ok (.iload 4, 2) := by decide +kernel
theorem dX7_takes_25 : decode cX7_takes 25 = .ok (.ifCond .lt 9, 3) := by decide +kernel
theorem dX7_takes_28 : decode cX7_takes 28 = .ok (.iload 4, 2) := by decide +kernel
theorem dX7_takes_30 : decode cX7_takes 30 = .ok (.iload_n 2, 1) := by decide +kernel
theorem dX7_takes_31 : decode cX7_takes 31 = .ok (.if_icmp .le 5, 3) := by decide +kernel
theorem dX7_takes_34 : decode cX7_takes 34 = .ok (.iconst (-1), 1) := by decide +kernel
theorem dX7_takes_35 : decode cX7_takes 35 = .ok (.ireturn, 1) := by decide +kernel
theorem dX7_takes_36 : decode cX7_takes 36 = .ok (.aload_n 0, 1) := by decide +kernel
theorem dX7_takes_37 : decode cX7_takes 37 = .ok (.getfield 21, 3) := by decide +kernel
theorem dX7_takes_40 : decode cX7_takes 40 = .ok (.aload_n 0, 1) := by decide +kernel
theorem dX7_takes_41 : decode cX7_takes 41 = .ok (.getfield 10, 3) := by decide +kernel
theorem dX7_takes_44 : decode cX7_takes 44 = .ok (.getfield 98, 3) := by decide +kernel
theorem dX7_takes_47 : decode cX7_takes 47 = .ok (.iconst 3, 1) := by decide +kernel
theorem dX7_takes_48 : decode cX7_takes 48 = .ok (.iaload, 1) := by decide +kernel
theorem dX7_takes_49 : decode cX7_takes 49 = .ok (.iload_n 1, 1) := by decide +kernel
theorem dX7_takes_50 : decode cX7_takes 50 = .ok (.iload_n 2, 1) := by decide +kernel
theorem dX7_takes_51 : decode cX7_takes 51 = .ok (.iload_n 3, 1) := by decide +kernel
theorem dX7_takes_52 : decode cX7_takes 52 = .ok (.iload 4, 2) := by decide +kernel
theorem dX7_takes_54 : decode cX7_takes 54 = .ok (.invokevirtual 169, 3) := by decide +kernel
theorem dX7_takes_57 : decode cX7_takes 57 = .ok (.ireturn, 1) := by decide +kernel
set_option maxRecDepth 20000 in
theorem ggX7_shown_X7_isHand : GoodIn wsX7_shown wsX7_isHand := goodIn_r _ [8, 1, 2, 148, 149, 150, 151, 152, 153, 154, 155, 156, 157, 158, 159, 160, 161, 162, 163, 164, 165, 166] (by decide +kernel) (by decide +kernel)
set_option maxRecDepth 20000 in
theorem gX7_shown_X7_isHand : GoodIn wsX7_shown (wsV RX7 101 RX7 yX7_isHand wsX7_isHand) := goodIn_app (goodIn_of _ (by decide +kernel)) ggX7_shown_X7_isHand
set_option maxRecDepth 20000 in
theorem ggX7_shown_X7_isTick : GoodIn wsX7_shown wsX7_isTick := goodIn_r _ [11] (by decide +kernel) (by decide +kernel)
set_option maxRecDepth 20000 in
theorem gX7_shown_X7_isTick : GoodIn wsX7_shown (va_wsS RX7 104 yX7_isTick wsX7_isTick) := goodIn_app (goodIn_of _ (by decide +kernel)) ggX7_shown_X7_isTick
set_option maxRecDepth 20000 in
theorem ggX7_shown_X7_columnOf : GoodIn wsX7_shown wsX7_columnOf := goodIn_r _ [14] (by decide +kernel) (by decide +kernel)
set_option maxRecDepth 20000 in
theorem gX7_shown_X7_columnOf : GoodIn wsX7_shown (va_wsS RX7 127 yX7_columnOf wsX7_columnOf) := goodIn_app (goodIn_of _ (by decide +kernel)) ggX7_shown_X7_columnOf
set_option maxRecDepth 20000 in
theorem ggX7_shown_X7_showFrom : GoodIn wsX7_shown wsX7_showFrom := goodIn_r _ [18, 3, 1, 2, 19, 20, 21, 22, 23, 24, 25, 7, 26, 27, 28, 29, 30, 31, 32, 33, 34, 35, 36, 37, 38, 39, 40, 41, 42, 43, 44, 45, 46, 47, 48, 49, 50, 51, 52, 53, 54, 55, 56, 57, 58, 59, 60, 61, 62, 63, 64, 65, 66, 67, 68, 69, 70, 71, 72, 73, 74, 75, 76, 77, 78, 79, 80, 81, 82, 83, 84, 85, 86, 87, 88, 89, 90, 91, 92, 93, 94, 95, 96, 97, 98, 99, 100, 101, 102, 103, 104, 105, 106, 107, 108, 109, 110, 111, 112, 113, 114, 115, 116, 117, 118, 119, 120, 121, 122, 123, 124, 125, 126, 127, 128, 129, 130, 131, 132, 133, 134, 135, 136, 137, 138, 139, 148, 149, 150, 151, 152, 153, 154, 155, 156, 157, 158, 159, 160, 161, 162, 163, 164, 165, 166, 167, 168, 169, 170, 171, 172] (by decide +kernel) (by decide +kernel)
set_option maxRecDepth 20000 in
theorem gX7_shown_X7_showFrom : GoodIn wsX7_shown (wsV RX7 173 RX7 yX7_showFrom wsX7_showFrom) := goodIn_app (goodIn_of _ (by decide +kernel)) ggX7_shown_X7_showFrom
set_option maxRecDepth 20000 in
theorem ggX7_shown_X6_at : GoodIn wsX7_shown wsX6_at := goodIn_r _ [143, 32, 167, 168] (by decide +kernel) (by decide +kernel)
set_option maxRecDepth 20000 in
theorem gX7_shown_X6_at : GoodIn wsX7_shown (wsV RX7 133 RX6 yX6_at wsX6_at) := goodIn_app (goodIn_of _ (by decide +kernel)) ggX7_shown_X6_at
set_option maxRecDepth 20000 in
theorem ggX7_shown_X7_told : GoodIn wsX7_shown wsX7_told := goodIn_r _ [146, 147, 135, 104, 7, 105, 134, 102, 103, 160, 161, 162, 163, 164, 165, 166] (by decide +kernel) (by decide +kernel)
set_option maxRecDepth 20000 in
theorem gX7_shown_X7_told : GoodIn wsX7_shown (va_wsS RX7 136 yX7_told wsX7_told) := goodIn_app (goodIn_of _ (by decide +kernel)) ggX7_shown_X7_told
theorem dX7_shown_0 : decode cX7_shown 0 = .ok (.aload_n 0, 1) := by decide +kernel
theorem dX7_shown_1 : decode cX7_shown 1 = .ok (.iload_n 1, 1) := by decide +kernel
theorem dX7_shown_2 : decode cX7_shown 2 = .ok (.invokevirtual 101, 3) := by decide +kernel
theorem dX7_shown_5 : decode cX7_shown 5 = .ok (.ifCond .eq 10, 3) := by decide +kernel
theorem dX7_shown_8 : decode cX7_shown 8 = .ok (.iload_n 2, 1) := by decide +kernel
theorem dX7_shown_9 : decode cX7_shown 9 = .ok (.invokestatic 104, 3) := by decide +kernel
theorem dX7_shown_12 : decode cX7_shown 12 = .ok (.ifCond .ne 5, 3) := by decide +kernel
theorem dX7_shown_15 : decode cX7_shown 15 = .ok (.iconst (-1), 1) := by decide +kernel
theorem dX7_shown_16 : decode cX7_shown 16 = .ok (.ireturn, 1) := by decide +kernel
theorem dX7_shown_17 : decode cX7_shown 17 = .ok (.iload_n 3, 1) := by decide +kernel
theorem dX7_shown_18 : decode cX7_shown 18 = .ok (.aload_n 0, 1) := by decide +kernel
theorem dX7_shown_19 : decode cX7_shown 19 = .ok (.getfield 10, 3) := by decide +kernel
theorem dX7_shown_22 : decode cX7_shown 22 = .ok (.getfield 123, 3) := by decide +kernel
theorem dX7_shown_25 : decode cX7_shown 25 = .ok (.invokestatic 127, 3) := by decide +kernel
theorem dX7_shown_28 : decode cX7_shown 28 = .ok (.istore 4, 2) := by decide +kernel
theorem dX7_shown_30 : decode cX7_shown 30 = .ok (.iload 4, 2) := by decide +kernel
theorem dX7_shown_32 : decode cX7_shown 32 = .ok (.ifCond .ge 6, 3) := by decide +kernel
theorem dX7_shown_35 : decode cX7_shown 35 = .ok (.bipush (-2), 2) := by decide +kernel
theorem dX7_shown_37 : decode cX7_shown 37 = .ok (.ireturn, 1) := by decide +kernel
theorem dX7_shown_38 : decode cX7_shown 38 = .ok (.aload_n 0, 1) := by decide +kernel
theorem dX7_shown_39 : decode cX7_shown 39 = .ok (.iload_n 1, 1) := by decide +kernel
theorem dX7_shown_40 : decode cX7_shown 40 = .ok (.iload_n 2, 1) := by decide +kernel
theorem dX7_shown_41 : decode cX7_shown 41 = .ok (.iconst 0, 1) := by decide +kernel
theorem dX7_shown_42 : decode cX7_shown 42 = .ok (.invokevirtual 173, 3) := by decide +kernel
theorem dX7_shown_45 : decode cX7_shown 45 = .ok (.aload_n 0, 1) := by decide +kernel
theorem dX7_shown_46 : decode cX7_shown 46 = .ok (.getfield 10, 3) := by decide +kernel
theorem dX7_shown_49 : decode cX7_shown 49 = .ok (.aload_n 0, 1) := by decide +kernel
theorem dX7_shown_50 : decode cX7_shown 50 = .ok (.getfield 32, 3) := by decide +kernel
theorem dX7_shown_53 : decode cX7_shown 53 = .ok (.iload_n 2, 1) := by decide +kernel
theorem dX7_shown_54 : decode cX7_shown 54 = .ok (.iload 4, 2) := by decide +kernel
theorem dX7_shown_56 : decode cX7_shown 56 = .ok (.invokevirtual 133, 3) := by decide +kernel
theorem dX7_shown_59 : decode cX7_shown 59 = .ok (.iload 4, 2) := by decide +kernel
theorem dX7_shown_61 : decode cX7_shown 61 = .ok (.invokestatic 136, 3) := by decide +kernel
theorem dX7_shown_64 : decode cX7_shown 64 = .ok (.ireturn, 1) := by decide +kernel
set_option maxRecDepth 20000 in
theorem ggX7_back_X7_isHand : GoodIn wsX7_back wsX7_isHand := goodIn_r _ [8, 2, 9, 58, 59, 60, 61, 62, 63, 64, 65, 66, 67, 68, 69, 70, 71, 72, 73, 74, 75, 76] (by decide +kernel) (by decide +kernel)
set_option maxRecDepth 20000 in
theorem gX7_back_X7_isHand : GoodIn wsX7_back (wsV RX7 101 RX7 yX7_isHand wsX7_isHand) := goodIn_app (goodIn_of _ (by decide +kernel)) ggX7_back_X7_isHand
set_option maxRecDepth 20000 in
theorem ggX7_back_X7_isTick : GoodIn wsX7_back wsX7_isTick := goodIn_r _ [12] (by decide +kernel) (by decide +kernel)
set_option maxRecDepth 20000 in
theorem gX7_back_X7_isTick : GoodIn wsX7_back (va_wsS RX7 104 yX7_isTick wsX7_isTick) := goodIn_app (goodIn_of _ (by decide +kernel)) ggX7_back_X7_isTick
set_option maxRecDepth 20000 in
theorem ggX7_back_X4_goneBack : GoodIn wsX7_back wsX4_goneBack := goodIn_r _ [17, 18, 19, 20, 21, 22, 23, 24, 25, 26, 16, 27, 28, 29, 30, 31, 32, 33, 34, 35, 36, 37, 38, 39, 40, 41, 42, 43, 44, 45, 46, 47, 48, 49, 50, 51, 52, 53, 54, 55, 56, 57, 77, 78, 79, 70, 71, 72, 73, 74, 75, 76] (by decide +kernel) (by decide +kernel)
set_option maxRecDepth 20000 in
theorem gX7_back_X4_goneBack : GoodIn wsX7_back (wsV RX7 176 RX4 yX4_goneBack wsX4_goneBack) := goodIn_app (goodIn_of _ (by decide +kernel)) ggX7_back_X4_goneBack
theorem dX7_back_0 : decode cX7_back 0 = .ok (.aload_n 0, 1) := by decide +kernel
theorem dX7_back_1 : decode cX7_back 1 = .ok (.iload_n 1, 1) := by decide +kernel
theorem dX7_back_2 : decode cX7_back 2 = .ok (.invokevirtual 101, 3) := by decide +kernel
theorem dX7_back_5 : decode cX7_back 5 = .ok (.ifCond .eq 10, 3) := by decide +kernel
theorem dX7_back_8 : decode cX7_back 8 = .ok (.iload_n 2, 1) := by decide +kernel
theorem dX7_back_9 : decode cX7_back 9 = .ok (.invokestatic 104, 3) := by decide +kernel
theorem dX7_back_12 : decode cX7_back 12 = .ok (.ifCond .ne 5, 3) := by decide +kernel
theorem dX7_back_15 : decode cX7_back 15 = .ok (.iconst (-1), 1) := by decide +kernel
theorem dX7_back_16 : decode cX7_back 16 = .ok (.ireturn, 1) := by decide +kernel
theorem dX7_back_17 : decode cX7_back 17 = .ok (.aload_n 0, 1) := by decide +kernel
theorem dX7_back_18 : decode cX7_back 18 = .ok (.getfield 21, 3) := by decide +kernel
theorem dX7_back_21 : decode cX7_back 21 = .ok (.aload_n 0, 1) := by decide +kernel
theorem dX7_back_22 : decode cX7_back 22 = .ok (.getfield 10, 3) := by decide +kernel
theorem dX7_back_25 : decode cX7_back 25 = .ok (.getfield 98, 3) := by decide +kernel
theorem dX7_back_28 : decode cX7_back 28 = .ok (.iconst 3, 1) := by decide +kernel
theorem dX7_back_29 : decode cX7_back 29 = .ok (.iaload, 1) := by decide +kernel
theorem dX7_back_30 : decode cX7_back 30 = .ok (.iload_n 1, 1) := by decide +kernel
theorem dX7_back_31 : decode cX7_back 31 = .ok (.iload_n 2, 1) := by decide +kernel
theorem dX7_back_32 : decode cX7_back 32 = .ok (.invokevirtual 176, 3) := by decide +kernel
theorem dX7_back_35 : decode cX7_back 35 = .ok (.ireturn, 1) := by decide +kernel
set_option maxRecDepth 20000 in
theorem ggX7_agreed_X7_isHand : GoodIn wsX7_agreed wsX7_isHand := goodIn_r _ [8, 2, 9, 37, 38, 39, 40, 41, 42, 43, 44, 45, 46, 47, 48, 49, 50, 51, 52, 53, 54, 55] (by decide +kernel) (by decide +kernel)
set_option maxRecDepth 20000 in
theorem gX7_agreed_X7_isHand : GoodIn wsX7_agreed (wsV RX7 101 RX7 yX7_isHand wsX7_isHand) := goodIn_app (goodIn_of _ (by decide +kernel)) ggX7_agreed_X7_isHand
set_option maxRecDepth 20000 in
theorem ggX7_agreed_X7_isTick : GoodIn wsX7_agreed wsX7_isTick := goodIn_r _ [12] (by decide +kernel) (by decide +kernel)
set_option maxRecDepth 20000 in
theorem gX7_agreed_X7_isTick : GoodIn wsX7_agreed (va_wsS RX7 104 yX7_isTick wsX7_isTick) := goodIn_app (goodIn_of _ (by decide +kernel)) ggX7_agreed_X7_isTick
set_option maxRecDepth 20000 in
theorem ggX7_agreed_X4_allKnown : GoodIn wsX7_agreed wsX4_allKnown := goodIn_r _ [17, 18, 19, 20, 21, 22, 16, 23, 24, 25, 26, 27, 28, 29, 30, 31, 32, 33, 34, 35, 36, 56, 57, 58, 49, 50, 51, 52, 53, 54, 55] (by decide +kernel) (by decide +kernel)
set_option maxRecDepth 20000 in
theorem gX7_agreed_X4_allKnown : GoodIn wsX7_agreed (wsV RX7 180 RX4 yX4_allKnown wsX4_allKnown) := goodIn_app (goodIn_of _ (by decide +kernel)) ggX7_agreed_X4_allKnown
theorem dX7_agreed_0 : decode cX7_agreed 0 = .ok (.aload_n 0, 1) := by decide +kernel
theorem dX7_agreed_1 : decode cX7_agreed 1 = .ok (.iload_n 1, 1) := by decide +kernel
theorem dX7_agreed_2 : decode cX7_agreed 2 = .ok (.invokevirtual 101, 3) := by decide +kernel
theorem dX7_agreed_5 : decode cX7_agreed 5 = .ok (.ifCond .eq 10, 3) := by decide +kernel
theorem dX7_agreed_8 : decode cX7_agreed 8 = .ok (.iload_n 2, 1) := by decide +kernel
theorem dX7_agreed_9 : decode cX7_agreed 9 = .ok (.invokestatic 104, 3) := by decide +kernel
theorem dX7_agreed_12 : decode cX7_agreed 12 = .ok (.ifCond .ne 5, 3) := by decide +kernel
theorem dX7_agreed_15 : decode cX7_agreed 15 = .ok (.iconst (-1), 1) := by decide +kernel
theorem dX7_agreed_16 : decode cX7_agreed 16 = .ok (.ireturn, 1) := by decide +kernel
theorem dX7_agreed_17 : decode cX7_agreed 17 = .ok (.bipush (-9), 2) := by decide +kernel
theorem dX7_agreed_19 : decode cX7_agreed 19 = .ok (.istore_n 3, 1) := by decide +kernel
theorem dX7_agreed_20 : decode cX7_agreed 20 = .ok (.iconst 0, 1) := by decide +kernel
theorem dX7_agreed_21 : decode cX7_agreed 21 = .ok (.istore 4, 2) := by decide +kernel
theorem dX7_agreed_23 : decode cX7_agreed 23 = .ok (.iload 4, 2) := by decide +kernel
theorem dX7_agreed_25 : decode cX7_agreed 25 = .ok (.iload_n 2, 1) := by decide +kernel
theorem dX7_agreed_26 : decode cX7_agreed 26 = .ok (.if_icmp .gt 37, 3) := by decide +kernel
theorem dX7_agreed_29 : decode cX7_agreed 29 = .ok (.aload_n 0, 1) := by decide +kernel
theorem dX7_agreed_30 : decode cX7_agreed 30 = .ok (.getfield 21, 3) := by decide +kernel
theorem dX7_agreed_33 : decode cX7_agreed 33 = .ok (.aload_n 0, 1) := by decide +kernel
theorem dX7_agreed_34 : decode cX7_agreed 34 = .ok (.getfield 10, 3) := by decide +kernel
theorem dX7_agreed_37 : decode cX7_agreed 37 = .ok (.getfield 98, 3) := by decide +kernel
theorem dX7_agreed_40 : decode cX7_agreed 40 = .ok (.iconst 3, 1) := by decide +kernel
theorem dX7_agreed_41 : decode cX7_agreed 41 = .ok (.iaload, 1) := by decide +kernel
theorem dX7_agreed_42 : decode cX7_agreed 42 = .ok (.iload_n 1, 1) := by decide +kernel
theorem dX7_agreed_43 : decode cX7_agreed 43 = .ok (.iload_n 2, 1) := by decide +kernel
theorem dX7_agreed_44 : decode cX7_agreed 44 = .ok (.iload 4, 2) := by decide +kernel
theorem dX7_agreed_46 : decode cX7_agreed 46 = .ok (.invokevirtual 180, 3) := by decide +kernel
theorem dX7_agreed_49 : decode cX7_agreed 49 = .ok (.ifCond .ne 5, 3) := by decide +kernel
theorem dX7_agreed_52 : decode cX7_agreed 52 = .ok (.iload_n 3, 1) := by decide +kernel
theorem dX7_agreed_53 : decode cX7_agreed 53 = .ok (.ireturn, 1) := by decide +kernel
theorem dX7_agreed_54 : decode cX7_agreed 54 = .ok (.iload 4, 2) := by decide +kernel
theorem dX7_agreed_56 : decode cX7_agreed 56 = .ok (.istore_n 3, 1) := by decide +kernel
theorem dX7_agreed_57 : decode cX7_agreed 57 = .ok (.iinc 4 1, 3) := by decide +kernel
theorem dX7_agreed_60 : decode cX7_agreed 60 = .ok (.goto (-37), 3) := by decide +kernel
theorem dX7_agreed_63 : decode cX7_agreed 63 = .ok (.iload_n 3, 1) := by decide +kernel
theorem dX7_agreed_64 : decode cX7_agreed 64 = .ok (.ireturn, 1) := by decide +kernel
set_option maxRecDepth 20000 in
theorem ggX7_wrong_X7_isHand : GoodIn wsX7_wrong wsX7_isHand := goodIn_r _ [14, 2, 15, 170, 171, 172, 173, 174, 175, 176, 177, 178, 179, 180, 181, 182, 183, 184, 185, 186, 187, 188] (by decide +kernel) (by decide +kernel)
set_option maxRecDepth 20000 in
theorem gX7_wrong_X7_isHand : GoodIn wsX7_wrong (wsV RX7 101 RX7 yX7_isHand wsX7_isHand) := goodIn_app (goodIn_of _ (by decide +kernel)) ggX7_wrong_X7_isHand
set_option maxRecDepth 20000 in
theorem ggX7_wrong_X7_isTick : GoodIn wsX7_wrong wsX7_isTick := goodIn_r _ [18] (by decide +kernel) (by decide +kernel)
set_option maxRecDepth 20000 in
theorem gX7_wrong_X7_isTick : GoodIn wsX7_wrong (va_wsS RX7 104 yX7_isTick wsX7_isTick) := goodIn_app (goodIn_of _ (by decide +kernel)) ggX7_wrong_X7_isTick
set_option maxRecDepth 20000 in
theorem ggX7_wrong_X7_playTrulyTo : GoodIn wsX7_wrong wsX7_playTrulyTo := goodIn_r _ [22, 5, 23, 2, 24, 25, 3, 26, 27, 28, 13, 29, 30, 31, 32, 33, 34, 35, 36, 37, 38, 39, 40, 41, 42, 43, 44, 45, 46, 47, 48, 49, 50, 51, 52, 53, 54, 55, 56, 57, 58, 59, 60, 61, 62, 63, 64, 65, 66, 67, 68, 69, 70, 71, 72, 73, 74, 75, 76, 77, 78, 79, 80, 81, 82, 8, 83, 84, 85, 86, 87, 88, 89, 90, 91, 92, 93, 94, 95, 96, 97, 98, 99, 100, 101, 102, 103, 104, 105, 106, 107, 108, 109, 110, 111, 112, 113, 114, 115, 116, 117, 118, 119, 120, 121, 122, 123, 124, 125, 170, 171, 172, 173, 174, 175, 176, 177, 178, 179, 180, 181, 189, 190, 182, 183, 184, 185, 186, 187, 188, 191] (by decide +kernel) (by decide +kernel)
set_option maxRecDepth 20000 in
theorem gX7_wrong_X7_playTrulyTo : GoodIn wsX7_wrong (wsV RX7 130 RX7 yX7_playTrulyTo wsX7_playTrulyTo) := goodIn_app (goodIn_of _ (by decide +kernel)) ggX7_wrong_X7_playTrulyTo
set_option maxRecDepth 20000 in
theorem ggX7_wrong_X4_goneBack : GoodIn wsX7_wrong wsX4_goneBack := goodIn_r _ [130, 131, 132, 133, 7, 8, 9, 134, 135, 136, 129, 137, 138, 139, 140, 141, 142, 143, 72, 73, 59, 74, 75, 76, 144, 145, 146, 147, 148, 149, 150, 151, 152, 153, 154, 155, 156, 157, 63, 64, 65, 66, 192, 193, 194, 182, 183, 184, 185, 186, 187, 188] (by decide +kernel) (by decide +kernel)
set_option maxRecDepth 20000 in
theorem gX7_wrong_X4_goneBack : GoodIn wsX7_wrong (wsV RX7 176 RX4 yX4_goneBack wsX4_goneBack) := goodIn_app (goodIn_of _ (by decide +kernel)) ggX7_wrong_X4_goneBack
set_option maxRecDepth 20000 in
theorem ggX7_wrong_X7_showFrom : GoodIn wsX7_wrong wsX7_showFrom := goodIn_r _ [161, 4, 2, 15, 24, 1, 3, 25, 26, 27, 28, 13, 29, 30, 31, 32, 33, 34, 35, 36, 37, 38, 39, 40, 41, 42, 43, 44, 45, 46, 47, 48, 49, 50, 51, 52, 53, 54, 55, 162, 163, 164, 129, 165, 131, 153, 154, 155, 156, 143, 72, 73, 59, 74, 75, 76, 144, 145, 146, 147, 138, 148, 157, 63, 64, 65, 66, 149, 150, 151, 152, 67, 68, 69, 70, 71, 77, 78, 79, 80, 81, 82, 8, 83, 84, 85, 86, 87, 88, 89, 90, 91, 92, 93, 94, 95, 96, 97, 98, 99, 100, 101, 102, 103, 104, 105, 106, 107, 108, 109, 110, 111, 112, 113, 114, 115, 116, 117, 118, 119, 120, 121, 122, 123, 124, 125, 170, 171, 172, 173, 174, 175, 176, 177, 178, 179, 180, 181, 182, 183, 184, 185, 186, 187, 188, 189, 190, 191, 192, 193, 194] (by decide +kernel) (by decide +kernel)
set_option maxRecDepth 20000 in
theorem gX7_wrong_X7_showFrom : GoodIn wsX7_wrong (wsV RX7 173 RX7 yX7_showFrom wsX7_showFrom) := goodIn_app (goodIn_of _ (by decide +kernel)) ggX7_wrong_X7_showFrom
set_option maxRecDepth 20000 in
theorem ggX7_wrong_X6_isLike : GoodIn wsX7_wrong wsX6_isLike := goodIn_r _ [169, 35, 189, 190] (by decide +kernel) (by decide +kernel)
set_option maxRecDepth 20000 in
theorem gX7_wrong_X6_isLike : GoodIn wsX7_wrong (wsV RX7 184 RX6 yX6_isLike wsX6_isLike) := goodIn_app (goodIn_of _ (by decide +kernel)) ggX7_wrong_X6_isLike
theorem dX7_wrong_0 : decode cX7_wrong 0 = .ok (.aload_n 0, 1) := by decide +kernel
theorem dX7_wrong_1 : decode cX7_wrong 1 = .ok (.iload_n 1, 1) := by decide +kernel
theorem dX7_wrong_2 : decode cX7_wrong 2 = .ok (.invokevirtual 101, 3) := by decide +kernel
theorem dX7_wrong_5 : decode cX7_wrong 5 = .ok (.ifCond .eq 10, 3) := by decide +kernel
theorem dX7_wrong_8 : decode cX7_wrong 8 = .ok (.iload_n 2, 1) := by decide +kernel
theorem dX7_wrong_9 : decode cX7_wrong 9 = .ok (.invokestatic 104, 3) := by decide +kernel
theorem dX7_wrong_12 : decode cX7_wrong 12 = .ok (.ifCond .ne 5, 3) := by decide +kernel
theorem dX7_wrong_15 : decode cX7_wrong 15 = .ok (.iconst (-1), 1) := by decide +kernel
theorem dX7_wrong_16 : decode cX7_wrong 16 = .ok (.ireturn, 1) := by decide +kernel
theorem dX7_wrong_17 : decode cX7_wrong 17 = .ok (.aload_n 0, 1) := by decide +kernel
theorem dX7_wrong_18 : decode cX7_wrong 18 = .ok (.iload_n 2, 1) := by decide +kernel
theorem dX7_wrong_19 : decode cX7_wrong 19 = .ok (.invokevirtual 130, 3) := by decide +kernel
theorem dX7_wrong_22 : decode cX7_wrong 22 = .ok (.iconst 0, 1) := by decide +kernel
theorem dX7_wrong_23 : decode cX7_wrong 23 = .ok (.istore 4, 2) := by decide +kernel
theorem dX7_wrong_25 : decode cX7_wrong 25 = .ok (.iconst 0, 1) := by decide +kernel
theorem dX7_wrong_26 : decode cX7_wrong 26 = .ok (.istore 5, 2) := by decide +kernel
theorem dX7_wrong_28 : decode cX7_wrong 28 = .ok (.iconst 0, 1) := by decide +kernel
theorem dX7_wrong_29 : decode cX7_wrong 29 = .ok (.istore 6, 2) := by decide +kernel
theorem dX7_wrong_31 : decode cX7_wrong 31 = .ok (.iconst 0, 1) := by decide +kernel
theorem dX7_wrong_32 : decode cX7_wrong 32 = .ok (.istore 7, 2) := by decide +kernel
theorem dX7_wrong_34 : decode cX7_wrong 34 = .ok (.iload 7, 2) := by decide +kernel
theorem dX7_wrong_36 : decode cX7_wrong 36 = .ok (.iload_n 2, 1) := by decide +kernel
theorem dX7_wrong_37 : decode cX7_wrong 37 = .ok (.if_icmp .gt 75, 3) := by decide +kernel
theorem dX7_wrong_40 : decode cX7_wrong 40 = .ok (.aload_n 0, 1) := by decide +kernel
theorem dX7_wrong_41 : decode cX7_wrong 41 = .ok (.iload_n 1, 1) := by decide +kernel
theorem dX7_wrong_42 : decode cX7_wrong 42 = .ok (.iload 7, 2) := by decide +kernel
theorem dX7_wrong_44 : decode cX7_wrong 44 = .ok (.iload 7, 2) := by decide +kernel
theorem dX7_wrong_46 : decode cX7_wrong 46 = .ok (.aload_n 0, 1) := by decide +kernel
theorem dX7_wrong_47 : decode cX7_wrong 47 = .ok (.getfield 21, 3) := by decide +kernel
theorem dX7_wrong_50 : decode cX7_wrong 50 = .ok (.aload_n 0, 1) := by decide +kernel
theorem dX7_wrong_51 : decode cX7_wrong 51 = .ok (.getfield 10, 3) := by decide +kernel
theorem dX7_wrong_54 : decode cX7_wrong 54 = .ok (.getfield 98, 3) := by decide +kernel
theorem dX7_wrong_57 : decode cX7_wrong 57 = .ok (.iconst 3, 1) := by decide +kernel
theorem dX7_wrong_58 : decode cX7_wrong 58 = .ok (.iaload, 1) := by decide +kernel
theorem dX7_wrong_59 : decode cX7_wrong 59 = .ok (.iload_n 1, 1) := by decide +kernel
theorem dX7_wrong_60 : decode cX7_wrong 60 = .ok (.iload 7, 2) := by decide +kernel
theorem dX7_wrong_62 : decode cX7_wrong 62 = .ok (.invokevirtual 176, 3) := by decide +kernel
theorem dX7_wrong_65 : decode cX7_wrong 65 = .ok (.isub, 1) := by decide +kernel
theorem dX7_wrong_66 : decode cX7_wrong 66 = .ok (.invokevirtual 173, 3) := by decide +kernel
theorem dX7_wrong_69 : decode cX7_wrong 69 = .ok (.aload_n 0, 1) := by decide +kernel
theorem dX7_wrong_70 : decode cX7_wrong 70 = .ok (.getfield 32, 3) := by decide +kernel
theorem dX7_wrong_73 : decode cX7_wrong 73 = .ok (.aload_n 0, 1) := by decide +kernel
theorem dX7_wrong_74 : decode cX7_wrong 74 = .ok (.getfield 28, 3) := by decide +kernel
theorem dX7_wrong_77 : decode cX7_wrong 77 = .ok (.iload 7, 2) := by decide +kernel
theorem dX7_wrong_79 : decode cX7_wrong 79 = .ok (.invokevirtual 184, 3) := by decide +kernel
theorem dX7_wrong_82 : decode cX7_wrong 82 = .ok (.ifCond .eq 9, 3) := by decide +kernel
theorem dX7_wrong_85 : decode cX7_wrong 85 = .ok (.iconst 0, 1) := by decide +kernel
theorem dX7_wrong_86 : decode cX7_wrong 86 = .ok (.istore 5, 2) := by decide +kernel
theorem dX7_wrong_88 : decode cX7_wrong 88 = .ok (.goto 18, 3) := by decide +kernel
theorem dX7_wrong_91 : decode cX7_wrong 91 = .ok (.iinc 4 1, 3) := by decide +kernel
theorem dX7_wrong_94 : decode cX7_wrong 94 = .ok (.iinc 5 1, 3) := by decide +kernel
theorem dX7_wrong_97 : decode cX7_wrong 97 = .ok (.iload 6, 2) := by decide +kernel
theorem dX7_wrong_99 : decode cX7_wrong 99 = .ok (.iload 5, 2) := by decide +kernel
theorem dX7_wrong_101 : decode cX7_wrong 101 = .ok (.invokestatic 188, 3) := by decide +kernel
theorem dX7_wrong_104 : decode cX7_wrong 104 = .ok (.istore 6, 2) := by decide +kernel
theorem dX7_wrong_106 : decode cX7_wrong 106 = .ok (.iinc 7 1, 3) := by decide +kernel
theorem dX7_wrong_109 : decode cX7_wrong 109 = .ok (.goto (-75), 3) := by decide +kernel
theorem dX7_wrong_112 : decode cX7_wrong 112 = .ok (.iload_n 3, 1) := by decide +kernel
theorem dX7_wrong_113 : decode cX7_wrong 113 = .ok (.ifCond .eq 8, 3) := by decide +kernel
theorem dX7_wrong_116 : decode cX7_wrong 116 = .ok (.iload 6, 2) := by decide +kernel
theorem dX7_wrong_118 : decode cX7_wrong 118 = .ok (.goto 5, 3) := by decide +kernel
theorem dX7_wrong_121 : decode cX7_wrong 121 = .ok (.iload 4, 2) := by decide +kernel
theorem dX7_wrong_123 : decode cX7_wrong 123 = .ok (.ireturn, 1) := by decide +kernel
set_option maxRecDepth 20000 in
theorem ggX7_price_X7_isTick : GoodIn wsX7_price wsX7_isTick := goodIn_r _ [4] (by decide +kernel) (by decide +kernel)
set_option maxRecDepth 20000 in
theorem gX7_price_X7_isTick : GoodIn wsX7_price (va_wsS RX7 104 yX7_isTick wsX7_isTick) := goodIn_app (goodIn_of _ (by decide +kernel)) ggX7_price_X7_isTick
set_option maxRecDepth 20000 in
theorem ggX7_price_X7_costOf : GoodIn wsX7_price wsX7_costOf := goodIn_r _ [8, 9, 10, 11, 12, 13, 14, 15, 16, 17, 18, 19, 20, 21, 22, 23, 24, 25, 26, 27, 28, 29, 30, 31, 32, 33, 34, 35, 36, 37, 38, 39, 40, 41, 42, 43, 44, 45, 46, 47, 48, 49, 50, 51, 52, 53, 54, 55, 56, 57, 58, 59, 60, 61, 62, 63, 64, 65, 66, 67, 68, 69, 70, 71, 72, 73, 74, 75, 76, 77, 78, 79] (by decide +kernel) (by decide +kernel)
set_option maxRecDepth 20000 in
theorem gX7_price_X7_costOf : GoodIn wsX7_price (wsV RX7 193 RX7 yX7_costOf wsX7_costOf) := goodIn_app (goodIn_of _ (by decide +kernel)) ggX7_price_X7_costOf
theorem dX7_price_0 : decode cX7_price 0 = .ok (.iload_n 1, 1) := by decide +kernel
theorem dX7_price_1 : decode cX7_price 1 = .ok (.ifCond .lt 9, 3) := by decide +kernel
theorem dX7_price_4 : decode cX7_price 4 = .ok (.iload_n 1, 1) := by decide +kernel
theorem dX7_price_5 : decode cX7_price 5 = .ok (.bipush 9, 2) := by decide +kernel
theorem dX7_price_7 : decode cX7_price 7 = .ok (.if_icmp .le 6, 3) := by decide +kernel
theorem dX7_price_10 : decode cX7_price 10 = .ok (.bipush (-2), 2) := by decide +kernel
theorem dX7_price_12 : decode cX7_price 12 = .ok (.ireturn, 1) := by decide +kernel
theorem dX7_price_13 : decode cX7_price 13 = .ok (.iload_n 2, 1) := by decide +kernel
theorem dX7_price_14 : decode cX7_price 14 = .ok (.invokestatic 104, 3) := by decide +kernel
theorem dX7_price_17 : decode cX7_price 17 = .ok (.ifCond .ne 5, 3) := by decide +kernel
theorem dX7_price_20 : decode cX7_price 20 = .ok (.iconst (-1), 1) := by decide +kernel
theorem dX7_price_21 : decode cX7_price 21 = .ok (.ireturn, 1) := by decide +kernel
theorem dX7_price_22 : decode cX7_price 22 = .ok (.aload_n 0, 1) := by decide +kernel
theorem dX7_price_23 : decode cX7_price 23 = .ok (.iload_n 1, 1) := by decide +kernel
theorem dX7_price_24 : decode cX7_price 24 = .ok (.iload_n 2, 1) := by decide +kernel
theorem dX7_price_25 : decode cX7_price 25 = .ok (.invokevirtual 193, 3) := by decide +kernel
theorem dX7_price_28 : decode cX7_price 28 = .ok (.ireturn, 1) := by decide +kernel
set_option maxRecDepth 20000 in
theorem ggX7_best_X7_isTick : GoodIn wsX7_best wsX7_isTick := goodIn_r _ [4] (by decide +kernel) (by decide +kernel)
set_option maxRecDepth 20000 in
theorem gX7_best_X7_isTick : GoodIn wsX7_best (va_wsS RX7 104 yX7_isTick wsX7_isTick) := goodIn_app (goodIn_of _ (by decide +kernel)) ggX7_best_X7_isTick
set_option maxRecDepth 20000 in
theorem ggX7_best_X7_costOf : GoodIn wsX7_best wsX7_costOf := goodIn_r _ [8, 9, 10, 11, 12, 13, 14, 15, 16, 17, 18, 19, 20, 21, 22, 23, 24, 25, 26, 27, 28, 29, 30, 31, 32, 33, 34, 35, 36, 37, 38, 39, 40, 41, 42, 43, 44, 45, 46, 47, 48, 49, 50, 51, 52, 53, 54, 55, 56, 57, 58, 59, 60, 61, 62, 63, 64, 65, 66, 67, 68, 69, 70, 71, 72, 73, 74, 75, 76, 77, 78, 79] (by decide +kernel) (by decide +kernel)
set_option maxRecDepth 20000 in
theorem gX7_best_X7_costOf : GoodIn wsX7_best (wsV RX7 193 RX7 yX7_costOf wsX7_costOf) := goodIn_app (goodIn_of _ (by decide +kernel)) ggX7_best_X7_costOf
theorem dX7_best_0 : decode cX7_best 0 = .ok (.iload_n 1, 1) := by decide +kernel
theorem dX7_best_1 : decode cX7_best 1 = .ok (.invokestatic 104, 3) := by decide +kernel
theorem dX7_best_4 : decode cX7_best 4 = .ok (.ifCond .ne 5, 3) := by decide +kernel
theorem dX7_best_7 : decode cX7_best 7 = .ok (.iconst (-1), 1) := by decide +kernel
theorem dX7_best_8 : decode cX7_best 8 = .ok (.ireturn, 1) := by decide +kernel
theorem dX7_best_9 : decode cX7_best 9 = .ok (.iconst 0, 1) := by decide +kernel
theorem dX7_best_10 : decode cX7_best 10 = .ok (.istore_n 2, 1) := by decide +kernel
theorem dX7_best_11 : decode cX7_best 11 = .ok (.aload_n 0, 1) := by decide +kernel
theorem dX7_best_12 : decode cX7_best 12 = .ok (.iconst 0, 1) := by decide +kernel
theorem dX7_best_13 : decode cX7_best 13 = .ok (.iload_n 1, 1) := by decide +kernel
theorem dX7_best_14 : decode cX7_best 14 = .ok (.invokevirtual 193, 3) := by decide +kernel
theorem dX7_best_17 : decode cX7_best 17 = .ok (.istore_n 3, 1) := by decide +kernel
theorem dX7_best_18 : decode cX7_best 18 = .ok (.iconst 1, 1) := by decide +kernel
theorem dX7_best_19 : decode cX7_best 19 = .ok (.istore 4, 2) := by decide +kernel
theorem dX7_best_21 : decode cX7_best 21 = .ok (.iload 4, 2) := by decide +kernel
theorem dX7_best_23 : decode cX7_best 23 = .ok (.bipush 9, 2) := by decide +kernel
theorem dX7_best_25 : decode cX7_best 25 = .ok (.if_icmp .gt 30, 3) := by decide +kernel
theorem dX7_best_28 : decode cX7_best 28 = .ok (.aload_n 0, 1) := by decide +kernel
theorem dX7_best_29 : decode cX7_best 29 = .ok (.iload 4, 2) := by decide +kernel
theorem dX7_best_31 : decode cX7_best 31 = .ok (.iload_n 1, 1) := by decide +kernel
theorem dX7_best_32 : decode cX7_best 32 = .ok (.invokevirtual 193, 3) := by decide +kernel
theorem dX7_best_35 : decode cX7_best 35 = .ok (.istore 5, 2) := by decide +kernel
theorem dX7_best_37 : decode cX7_best 37 = .ok (.iload 5, 2) := by decide +kernel
theorem dX7_best_39 : decode cX7_best 39 = .ok (.iload_n 3, 1) := by decide +kernel
theorem dX7_best_40 : decode cX7_best 40 = .ok (.if_icmp .ge 9, 3) := by decide +kernel
theorem dX7_best_43 : decode cX7_best 43 = .ok (.iload 4, 2) := by decide +kernel
theorem dX7_best_45 : decode cX7_best 45 = .ok (.istore_n 2, 1) := by decide +kernel
theorem dX7_best_46 : decode cX7_best 46 = .ok (.iload 5, 2) := by decide +kernel
theorem dX7_best_48 : decode cX7_best 48 = .ok (.istore_n 3, 1) := by decide +kernel
theorem dX7_best_49 : decode cX7_best 49 = .ok (.iinc 4 1, 3) := by decide +kernel
theorem dX7_best_52 : decode cX7_best 52 = .ok (.goto (-31), 3) := by decide +kernel
theorem dX7_best_55 : decode cX7_best 55 = .ok (.iload_n 2, 1) := by decide +kernel
theorem dX7_best_56 : decode cX7_best 56 = .ok (.ireturn, 1) := by decide +kernel
set_option maxRecDepth 20000 in
theorem ggX7_sees_X7_isHand : GoodIn wsX7_sees wsX7_isHand := goodIn_r _ [5, 6, 7, 130, 131, 132, 133, 134, 135, 136, 137, 138, 139, 140, 141, 142, 143, 144, 145, 146, 147, 148] (by decide +kernel) (by decide +kernel)
set_option maxRecDepth 20000 in
theorem gX7_sees_X7_isHand : GoodIn wsX7_sees (wsV RX7 101 RX7 yX7_isHand wsX7_isHand) := goodIn_app (goodIn_of _ (by decide +kernel)) ggX7_sees_X7_isHand
set_option maxRecDepth 20000 in
theorem ggX7_sees_X7_isTick : GoodIn wsX7_sees wsX7_isTick := goodIn_r _ [10] (by decide +kernel) (by decide +kernel)
set_option maxRecDepth 20000 in
theorem gX7_sees_X7_isTick : GoodIn wsX7_sees (va_wsS RX7 104 yX7_isTick wsX7_isTick) := goodIn_app (goodIn_of _ (by decide +kernel)) ggX7_sees_X7_isTick
set_option maxRecDepth 20000 in
theorem ggX7_sees_X7_playTrulyTo : GoodIn wsX7_sees wsX7_playTrulyTo := goodIn_r _ [14, 15, 16, 6, 17, 18, 19, 20, 21, 22, 4, 23, 24, 25, 26, 27, 28, 29, 30, 31, 32, 33, 34, 35, 36, 37, 38, 39, 40, 41, 42, 43, 44, 45, 46, 47, 48, 49, 50, 51, 52, 53, 54, 55, 56, 57, 58, 59, 60, 61, 62, 63, 64, 65, 66, 67, 68, 69, 70, 71, 72, 73, 74, 75, 76, 77, 78, 79, 80, 81, 82, 83, 84, 85, 86, 87, 88, 89, 90, 91, 92, 93, 94, 95, 96, 97, 98, 99, 100, 101, 102, 103, 104, 105, 106, 107, 108, 109, 110, 111, 112, 113, 114, 115, 116, 117, 118, 119, 120, 130, 131, 132, 133, 134, 135, 136, 137, 138, 139, 140, 141, 149, 150, 142, 143, 144, 145, 146, 147, 148, 151] (by decide +kernel) (by decide +kernel)
set_option maxRecDepth 20000 in
theorem gX7_sees_X7_playTrulyTo : GoodIn wsX7_sees (wsV RX7 130 RX7 yX7_playTrulyTo wsX7_playTrulyTo) := goodIn_app (goodIn_of _ (by decide +kernel)) ggX7_sees_X7_playTrulyTo
set_option maxRecDepth 20000 in
theorem ggX7_sees_X7_seesThen : GoodIn wsX7_sees wsX7_seesThen := goodIn_r _ [124, 15, 6, 19, 125, 126, 127, 27, 128, 29, 129, 112, 4, 113, 114, 76, 77, 78, 115, 83, 84, 116, 85, 86, 130, 131, 132, 133, 134, 135, 136, 137, 138, 139, 140, 141, 142, 143, 144, 145, 146, 147, 148, 149, 150] (by decide +kernel) (by decide +kernel)
set_option maxRecDepth 20000 in
theorem gX7_sees_X7_seesThen : GoodIn wsX7_sees (wsV RX7 196 RX7 yX7_seesThen wsX7_seesThen) := goodIn_app (goodIn_of _ (by decide +kernel)) ggX7_sees_X7_seesThen
theorem dX7_sees_0 : decode cX7_sees 0 = .ok (.aload_n 0, 1) := by decide +kernel
theorem dX7_sees_1 : decode cX7_sees 1 = .ok (.iload_n 1, 1) := by decide +kernel
theorem dX7_sees_2 : decode cX7_sees 2 = .ok (.invokevirtual 101, 3) := by decide +kernel
theorem dX7_sees_5 : decode cX7_sees 5 = .ok (.ifCond .eq 18, 3) := by decide +kernel
theorem dX7_sees_8 : decode cX7_sees 8 = .ok (.aload_n 0, 1) := by decide +kernel
theorem dX7_sees_9 : decode cX7_sees 9 = .ok (.iload_n 2, 1) := by decide +kernel
theorem dX7_sees_10 : decode cX7_sees 10 = .ok (.invokevirtual 101, 3) := by decide +kernel
theorem dX7_sees_13 : decode cX7_sees 13 = .ok (.ifCond .eq 10, 3) := by decide +kernel
theorem dX7_sees_16 : decode cX7_sees 16 = .ok (.iload_n 3, 1) := by decide +kernel
theorem dX7_sees_17 : decode cX7_sees 17 = .ok (.invokestatic 104, 3) := by decide +kernel
theorem dX7_sees_20 : decode cX7_sees 20 = .ok (.ifCond .ne 5, 3) := by decide +kernel
theorem dX7_sees_23 : decode cX7_sees 23 = .ok (.iconst (-1), 1) := by decide +kernel
theorem dX7_sees_24 : decode cX7_sees 24 = .ok (.ireturn, 1) := by decide +kernel
theorem dX7_sees_25 : decode cX7_sees 25 = .ok (.aload_n 0, 1) := by decide +kernel
theorem dX7_sees_26 : decode cX7_sees 26 = .ok (.iload_n 3, 1) := by decide +kernel
theorem dX7_sees_27 : decode cX7_sees 27 = .ok (.invokevirtual 130, 3) := by decide +kernel
theorem dX7_sees_30 : decode cX7_sees 30 = .ok (.aload_n 0, 1) := by decide +kernel
theorem dX7_sees_31 : decode cX7_sees 31 = .ok (.iload_n 1, 1) := by decide +kernel
theorem dX7_sees_32 : decode cX7_sees 32 = .ok (.iload_n 2, 1) := by decide +kernel
theorem dX7_sees_33 : decode cX7_sees 33 = .ok (.iload_n 3, 1) := by decide +kernel
theorem dX7_sees_34 : decode cX7_sees 34 = .ok (.invokevirtual 196, 3) := by decide +kernel
theorem dX7_sees_37 : decode cX7_sees 37 = .ok (.ifCond .eq 7, 3) := by decide +kernel
theorem dX7_sees_40 : decode cX7_sees 40 = .ok (.iconst 1, 1) := by decide +kernel
theorem dX7_sees_41 : decode cX7_sees 41 = .ok (.goto 4, 3) := by decide +kernel
theorem dX7_sees_44 : decode cX7_sees 44 = .ok (.iconst 0, 1) := by decide +kernel
theorem dX7_sees_45 : decode cX7_sees 45 = .ok (.ireturn, 1) := by decide +kernel
set_option maxRecDepth 20000 in
theorem ggX7_could_X7_isHand : GoodIn wsX7_could wsX7_isHand := goodIn_r _ [8, 2, 9, 168, 169, 170, 171, 172, 173, 174, 175, 176, 177, 178, 179, 180, 181, 182, 183, 184, 185, 186] (by decide +kernel) (by decide +kernel)
set_option maxRecDepth 20000 in
theorem gX7_could_X7_isHand : GoodIn wsX7_could (wsV RX7 101 RX7 yX7_isHand wsX7_isHand) := goodIn_app (goodIn_of _ (by decide +kernel)) ggX7_could_X7_isHand
set_option maxRecDepth 20000 in
theorem ggX7_could_X7_isTick : GoodIn wsX7_could wsX7_isTick := goodIn_r _ [12] (by decide +kernel) (by decide +kernel)
set_option maxRecDepth 20000 in
theorem gX7_could_X7_isTick : GoodIn wsX7_could (va_wsS RX7 104 yX7_isTick wsX7_isTick) := goodIn_app (goodIn_of _ (by decide +kernel)) ggX7_could_X7_isTick
set_option maxRecDepth 20000 in
theorem ggX7_could_X7_playTrulyTo : GoodIn wsX7_could wsX7_playTrulyTo := goodIn_r _ [16, 17, 18, 2, 19, 20, 21, 22, 23, 24, 7, 25, 26, 27, 28, 29, 30, 31, 32, 33, 34, 35, 36, 37, 38, 39, 40, 41, 42, 43, 44, 45, 46, 47, 48, 49, 50, 51, 52, 53, 54, 55, 56, 57, 58, 59, 60, 61, 62, 63, 64, 65, 66, 67, 68, 69, 70, 71, 72, 73, 74, 75, 76, 77, 78, 79, 80, 81, 82, 83, 84, 85, 86, 87, 88, 89, 90, 91, 92, 93, 94, 95, 96, 97, 98, 99, 100, 101, 102, 103, 104, 105, 106, 107, 108, 109, 110, 111, 112, 113, 114, 115, 116, 117, 118, 119, 120, 121, 122, 168, 169, 170, 171, 172, 173, 174, 175, 176, 177, 178, 179, 187, 188, 180, 181, 182, 183, 184, 185, 186, 189] (by decide +kernel) (by decide +kernel)
set_option maxRecDepth 20000 in
theorem gX7_could_X7_playTrulyTo : GoodIn wsX7_could (wsV RX7 130 RX7 yX7_playTrulyTo wsX7_playTrulyTo) := goodIn_app (goodIn_of _ (by decide +kernel)) ggX7_could_X7_playTrulyTo
set_option maxRecDepth 20000 in
theorem ggX7_could_X7_thinkTo : GoodIn wsX7_could wsX7_thinkTo := goodIn_r _ [126, 20, 2, 1, 127, 17, 128, 3, 21, 37, 38, 39, 40, 41, 42, 43, 44, 45, 46, 47, 48, 49, 50, 7, 51, 129, 130, 131, 132, 133, 134, 135, 87, 88, 85, 86, 136, 137, 138, 139, 140, 141, 142, 29, 143, 31, 144, 114, 115, 116, 78, 79, 80, 117, 118, 145, 146, 147, 148, 149, 150, 151, 152, 153, 154, 155, 156, 168, 169, 170, 171, 172, 173, 174, 175, 176, 177, 178, 179, 189, 180, 181, 182, 183, 184, 185, 186, 190, 187, 188] (by decide +kernel) (by decide +kernel)
set_option maxRecDepth 20000 in
theorem gX7_could_X7_thinkTo : GoodIn wsX7_could (wsV RX7 200 RX7 yX7_thinkTo wsX7_thinkTo) := goodIn_app (goodIn_of _ (by decide +kernel)) ggX7_could_X7_thinkTo
set_option maxRecDepth 20000 in
theorem ggX7_could_X3_size : GoodIn wsX7_could wsX3_size := goodIn_r _ [160, 134, 161, 162, 163, 164, 165, 166, 167, 190] (by decide +kernel) (by decide +kernel)
set_option maxRecDepth 20000 in
theorem gX7_could_X3_size : GoodIn wsX7_could (wsV RX7 206 RX3 yX3_size wsX3_size) := goodIn_app (goodIn_of _ (by decide +kernel)) ggX7_could_X3_size
theorem dX7_could_0 : decode cX7_could 0 = .ok (.aload_n 0, 1) := by decide +kernel
theorem dX7_could_1 : decode cX7_could 1 = .ok (.iload_n 1, 1) := by decide +kernel
theorem dX7_could_2 : decode cX7_could 2 = .ok (.invokevirtual 101, 3) := by decide +kernel
theorem dX7_could_5 : decode cX7_could 5 = .ok (.ifCond .eq 18, 3) := by decide +kernel
theorem dX7_could_8 : decode cX7_could 8 = .ok (.aload_n 0, 1) := by decide +kernel
theorem dX7_could_9 : decode cX7_could 9 = .ok (.iload_n 2, 1) := by decide +kernel
theorem dX7_could_10 : decode cX7_could 10 = .ok (.invokevirtual 101, 3) := by decide +kernel
theorem dX7_could_13 : decode cX7_could 13 = .ok (.ifCond .eq 10, 3) := by decide +kernel
theorem dX7_could_16 : decode cX7_could 16 = .ok (.iload_n 3, 1) := by decide +kernel
theorem dX7_could_17 : decode cX7_could 17 = .ok (.invokestatic 104, 3) := by decide +kernel
theorem dX7_could_20 : decode cX7_could 20 = .ok (.ifCond .ne 5, 3) := by decide +kernel
theorem dX7_could_23 : decode cX7_could 23 = .ok (.iconst (-1), 1) := by decide +kernel
theorem dX7_could_24 : decode cX7_could 24 = .ok (.ireturn, 1) := by decide +kernel
theorem dX7_could_25 : decode cX7_could 25 = .ok (.aload_n 0, 1) := by decide +kernel
theorem dX7_could_26 : decode cX7_could 26 = .ok (.iload_n 3, 1) := by decide +kernel
theorem dX7_could_27 : decode cX7_could 27 = .ok (.invokevirtual 130, 3) := by decide +kernel
theorem dX7_could_30 : decode cX7_could 30 = .ok (.aload_n 0, 1) := by decide +kernel
theorem dX7_could_31 : decode cX7_could 31 = .ok (.iload_n 1, 1) := by decide +kernel
theorem dX7_could_32 : decode cX7_could 32 = .ok (.iload_n 2, 1) := by decide +kernel
theorem dX7_could_33 : decode cX7_could 33 = .ok (.iload_n 3, 1) := by decide +kernel
theorem dX7_could_34 : decode cX7_could 34 = .ok (.invokevirtual 200, 3) := by decide +kernel
theorem dX7_could_37 : decode cX7_could 37 = .ok (.aload_n 0, 1) := by decide +kernel
theorem dX7_could_38 : decode cX7_could 38 = .ok (.getfield 52, 3) := by decide +kernel
theorem dX7_could_41 : decode cX7_could 41 = .ok (.aload_n 0, 1) := by decide +kernel
theorem dX7_could_42 : decode cX7_could 42 = .ok (.getfield 10, 3) := by decide +kernel
theorem dX7_could_45 : decode cX7_could 45 = .ok (.getfield 203, 3) := by decide +kernel
theorem dX7_could_48 : decode cX7_could 48 = .ok (.invokevirtual 206, 3) := by decide +kernel
theorem dX7_could_51 : decode cX7_could 51 = .ok (.ireturn, 1) := by decide +kernel
set_option maxRecDepth 20000 in
theorem ggX7_couldBe_X7_isHand : GoodIn wsX7_couldBe wsX7_isHand := goodIn_r _ [9, 1, 10, 162, 163, 164, 165, 166, 167, 168, 169, 170, 171, 172, 173, 174, 175, 176, 177, 178, 179, 180] (by decide +kernel) (by decide +kernel)
set_option maxRecDepth 20000 in
theorem gX7_couldBe_X7_isHand : GoodIn wsX7_couldBe (wsV RX7 101 RX7 yX7_isHand wsX7_isHand) := goodIn_app (goodIn_of _ (by decide +kernel)) ggX7_couldBe_X7_isHand
set_option maxRecDepth 20000 in
theorem ggX7_couldBe_X7_isTick : GoodIn wsX7_couldBe wsX7_isTick := goodIn_r _ [13] (by decide +kernel) (by decide +kernel)
set_option maxRecDepth 20000 in
theorem gX7_couldBe_X7_isTick : GoodIn wsX7_couldBe (va_wsS RX7 104 yX7_isTick wsX7_isTick) := goodIn_app (goodIn_of _ (by decide +kernel)) ggX7_couldBe_X7_isTick
set_option maxRecDepth 20000 in
theorem ggX7_couldBe_X7_playTrulyTo : GoodIn wsX7_couldBe wsX7_playTrulyTo := goodIn_r _ [17, 18, 19, 1, 20, 21, 22, 23, 24, 25, 8, 26, 27, 28, 29, 30, 31, 32, 33, 34, 35, 36, 37, 38, 39, 40, 41, 42, 43, 44, 45, 46, 47, 48, 49, 50, 51, 52, 53, 54, 55, 56, 57, 58, 59, 60, 61, 62, 63, 64, 65, 66, 67, 68, 69, 70, 71, 72, 73, 74, 75, 76, 77, 78, 79, 80, 81, 82, 83, 84, 85, 86, 87, 88, 89, 90, 91, 92, 93, 94, 95, 96, 97, 98, 99, 100, 101, 102, 103, 104, 105, 106, 107, 108, 109, 110, 111, 112, 113, 114, 115, 116, 117, 118, 119, 120, 121, 122, 123, 162, 163, 164, 165, 166, 167, 168, 169, 170, 171, 172, 173, 181, 182, 174, 175, 176, 177, 178, 179, 180, 183] (by decide +kernel) (by decide +kernel)
set_option maxRecDepth 20000 in
theorem gX7_couldBe_X7_playTrulyTo : GoodIn wsX7_couldBe (wsV RX7 130 RX7 yX7_playTrulyTo wsX7_playTrulyTo) := goodIn_app (goodIn_of _ (by decide +kernel)) ggX7_couldBe_X7_playTrulyTo
set_option maxRecDepth 20000 in
theorem ggX7_couldBe_X7_thinkTo : GoodIn wsX7_couldBe wsX7_thinkTo := goodIn_r _ [127, 21, 1, 4, 128, 18, 2, 3, 22, 38, 39, 40, 41, 42, 43, 44, 45, 46, 47, 48, 49, 50, 51, 8, 52, 129, 130, 131, 132, 133, 134, 135, 88, 89, 86, 87, 136, 137, 138, 139, 140, 141, 142, 30, 143, 32, 144, 115, 116, 117, 79, 80, 81, 118, 119, 145, 146, 147, 148, 149, 150, 151, 152, 153, 154, 155, 156, 162, 163, 164, 165, 166, 167, 168, 169, 170, 171, 172, 173, 183, 174, 175, 176, 177, 178, 179, 180, 184, 181, 182] (by decide +kernel) (by decide +kernel)
set_option maxRecDepth 20000 in
theorem gX7_couldBe_X7_thinkTo : GoodIn wsX7_couldBe (wsV RX7 200 RX7 yX7_thinkTo wsX7_thinkTo) := goodIn_app (goodIn_of _ (by decide +kernel)) ggX7_couldBe_X7_thinkTo
set_option maxRecDepth 20000 in
theorem ggX7_couldBe_X7_spotOf : GoodIn wsX7_couldBe wsX7_spotOf := goodIn_r _ [52] (by decide +kernel) (by decide +kernel)
set_option maxRecDepth 20000 in
theorem gX7_couldBe_X7_spotOf : GoodIn wsX7_couldBe (va_wsS RX7 212 yX7_spotOf wsX7_spotOf) := goodIn_app (goodIn_of _ (by decide +kernel)) ggX7_couldBe_X7_spotOf
set_option maxRecDepth 20000 in
theorem ggX7_couldBe_X3_has : GoodIn wsX7_couldBe wsX3_has := goodIn_r _ [161, 134, 88, 8, 89, 86, 87, 184] (by decide +kernel) (by decide +kernel)
set_option maxRecDepth 20000 in
theorem gX7_couldBe_X3_has : GoodIn wsX7_couldBe (wsV RX7 215 RX3 yX3_has wsX3_has) := goodIn_app (goodIn_of _ (by decide +kernel)) ggX7_couldBe_X3_has
theorem dX7_couldBe_0 : decode cX7_couldBe 0 = .ok (.aload_n 0, 1) := by decide +kernel
theorem dX7_couldBe_1 : decode cX7_couldBe 1 = .ok (.iload_n 1, 1) := by decide +kernel
theorem dX7_couldBe_2 : decode cX7_couldBe 2 = .ok (.invokevirtual 101, 3) := by decide +kernel
theorem dX7_couldBe_5 : decode cX7_couldBe 5 = .ok (.ifCond .eq 43, 3) := by decide +kernel
theorem dX7_couldBe_8 : decode cX7_couldBe 8 = .ok (.aload_n 0, 1) := by decide +kernel
theorem dX7_couldBe_9 : decode cX7_couldBe 9 = .ok (.iload_n 2, 1) := by decide +kernel
theorem dX7_couldBe_10 : decode cX7_couldBe 10 = .ok (.invokevirtual 101, 3) := by decide +kernel
theorem dX7_couldBe_13 : decode cX7_couldBe 13 = .ok (.ifCond .eq 35, 3) := by decide +kernel
theorem dX7_couldBe_16 : decode cX7_couldBe 16 = .ok (.iload_n 3, 1) := by decide +kernel
theorem dX7_couldBe_17 : decode cX7_couldBe 17 = .ok (.invokestatic 104, 3) := by decide +kernel
theorem dX7_couldBe_20 : decode cX7_couldBe 20 = .ok (.ifCond .eq 28, 3) := by decide +kernel
theorem dX7_couldBe_23 : decode cX7_couldBe 23 = .ok (.iload 4, 2) := by decide +kernel
theorem dX7_couldBe_25 : decode cX7_couldBe 25 = .ok (.ifCond .lt 23, 3) := by decide +kernel
theorem dX7_couldBe_28 : decode cX7_couldBe 28 = .ok (.iload 4, 2) := by decide +kernel
theorem dX7_couldBe_30 : decode cX7_couldBe 30 = .ok (.aload_n 0, 1) := by decide +kernel
theorem dX7_couldBe_31 : decode cX7_couldBe 31 = .ok (.getfield 10, 3) := by decide +kernel
theorem dX7_couldBe_34 : decode cX7_couldBe 34 = .ok (.getfield 209, 3) := by decide +kernel
theorem dX7_couldBe_37 : decode cX7_couldBe 37 = .ok (.aload_n 0, 1) := by decide +kernel
theorem dX7_couldBe_38 : decode cX7_couldBe 38 = .ok (.getfield 10, 3) := by decide +kernel
theorem dX7_couldBe_41 : decode cX7_couldBe 41 = .ok (.getfield 203, 3) := by decide +kernel
theorem dX7_couldBe_44 : decode cX7_couldBe 44 = .ok (.imul, 1) := by decide +kernel
theorem dX7_couldBe_45 : decode cX7_couldBe 45 = .ok (.if_icmp .lt 5, 3) := by decide +kernel
theorem dX7_couldBe_48 : decode cX7_couldBe 48 = .ok (.iconst (-1), 1) := by decide +kernel
theorem dX7_couldBe_49 : decode cX7_couldBe 49 = .ok (.ireturn, 1) := by decide +kernel
theorem dX7_couldBe_50 : decode cX7_couldBe 50 = .ok (.aload_n 0, 1) := by decide +kernel
theorem dX7_couldBe_51 : decode cX7_couldBe 51 = .ok (.iload_n 3, 1) := by decide +kernel
theorem dX7_couldBe_52 : decode cX7_couldBe 52 = .ok (.invokevirtual 130, 3) := by decide +kernel
theorem dX7_couldBe_55 : decode cX7_couldBe 55 = .ok (.aload_n 0, 1) := by decide +kernel
theorem dX7_couldBe_56 : decode cX7_couldBe 56 = .ok (.iload_n 1, 1) := by decide +kernel
theorem dX7_couldBe_57 : decode cX7_couldBe 57 = .ok (.iload_n 2, 1) := by decide +kernel
theorem dX7_couldBe_58 : decode cX7_couldBe 58 = .ok (.iload_n 3, 1) := by decide +kernel
theorem dX7_couldBe_59 : decode cX7_couldBe 59 = .ok (.invokevirtual 200, 3) := by decide +kernel
theorem dX7_couldBe_62 : decode cX7_couldBe 62 = .ok (.aload_n 0, 1) := by decide +kernel
theorem dX7_couldBe_63 : decode cX7_couldBe 63 = .ok (.getfield 52, 3) := by decide +kernel
theorem dX7_couldBe_66 : decode cX7_couldBe 66 = .ok (.iload 4, 2) := by decide +kernel
theorem dX7_couldBe_68 : decode cX7_couldBe 68 = .ok (.aload_n 0, 1) := by decide +kernel
theorem dX7_couldBe_69 : decode cX7_couldBe 69 = .ok (.getfield 10, 3) := by decide +kernel
theorem dX7_couldBe_72 : decode cX7_couldBe 72 = .ok (.getfield 209, 3) := by decide +kernel
theorem dX7_couldBe_75 : decode cX7_couldBe 75 = .ok (.invokestatic 212, 3) := by decide +kernel
theorem dX7_couldBe_78 : decode cX7_couldBe 78 = .ok (.invokevirtual 215, 3) := by decide +kernel
theorem dX7_couldBe_81 : decode cX7_couldBe 81 = .ok (.ifCond .eq 7, 3) := by decide +kernel
theorem dX7_couldBe_84 : decode cX7_couldBe 84 = .ok (.iconst 1, 1) := by decide +kernel
theorem dX7_couldBe_85 : decode cX7_couldBe 85 = .ok (.goto 4, 3) := by decide +kernel
theorem dX7_couldBe_88 : decode cX7_couldBe 88 = .ok (.iconst 0, 1) := by decide +kernel
theorem dX7_couldBe_89 : decode cX7_couldBe 89 = .ok (.ireturn, 1) := by decide +kernel
set_option maxRecDepth 20000 in
theorem ggX7_player_X7_isShore : GoodIn wsX7_player wsX7_isShore := goodIn_r _ [6] (by decide +kernel) (by decide +kernel)
set_option maxRecDepth 20000 in
theorem gX7_player_X7_isShore : GoodIn wsX7_player (va_wsS RX7 218 yX7_isShore wsX7_isShore) := goodIn_app (goodIn_of _ (by decide +kernel)) ggX7_player_X7_isShore
set_option maxRecDepth 20000 in
theorem ggX7_player_X1_join : GoodIn wsX7_player wsX1_join := goodIn_r _ [11, 12, 13, 14, 15, 28, 29, 30, 31, 32, 33, 34] (by decide +kernel) (by decide +kernel)
set_option maxRecDepth 20000 in
theorem gX7_player_X1_join : GoodIn wsX7_player (wsV RX7 223 RX1 yX1_join wsX1_join) := goodIn_app (goodIn_of _ (by decide +kernel)) ggX7_player_X1_join
theorem dX7_player_0 : decode cX7_player 0 = .ok (.iload_n 1, 1) := by decide +kernel
theorem dX7_player_1 : decode cX7_player 1 = .ok (.ifCond .lt 17, 3) := by decide +kernel
theorem dX7_player_4 : decode cX7_player 4 = .ok (.iload_n 1, 1) := by decide +kernel
theorem dX7_player_5 : decode cX7_player 5 = .ok (.sipush 999, 3) := by decide +kernel
theorem dX7_player_8 : decode cX7_player 8 = .ok (.if_icmp .gt 10, 3) := by decide +kernel
theorem dX7_player_11 : decode cX7_player 11 = .ok (.iload_n 2, 1) := by decide +kernel
theorem dX7_player_12 : decode cX7_player 12 = .ok (.invokestatic 218, 3) := by decide +kernel
theorem dX7_player_15 : decode cX7_player 15 = .ok (.ifCond .ne 6, 3) := by decide +kernel
theorem dX7_player_18 : decode cX7_player 18 = .ok (.bipush (-2), 2) := by decide +kernel
theorem dX7_player_20 : decode cX7_player 20 = .ok (.ireturn, 1) := by decide +kernel
theorem dX7_player_21 : decode cX7_player 21 = .ok (.aload_n 0, 1) := by decide +kernel
theorem dX7_player_22 : decode cX7_player 22 = .ok (.getfield 59, 3) := by decide +kernel
theorem dX7_player_25 : decode cX7_player 25 = .ok (.getfield 221, 3) := by decide +kernel
theorem dX7_player_28 : decode cX7_player 28 = .ok (.bipush 10, 2) := by decide +kernel
theorem dX7_player_30 : decode cX7_player 30 = .ok (.if_icmp .ne 6, 3) := by decide +kernel
theorem dX7_player_33 : decode cX7_player 33 = .ok (.bipush (-4), 2) := by decide +kernel
theorem dX7_player_35 : decode cX7_player 35 = .ok (.ireturn, 1) := by decide +kernel
theorem dX7_player_36 : decode cX7_player 36 = .ok (.aload_n 0, 1) := by decide +kernel
theorem dX7_player_37 : decode cX7_player 37 = .ok (.getfield 59, 3) := by decide +kernel
theorem dX7_player_40 : decode cX7_player 40 = .ok (.iload_n 1, 1) := by decide +kernel
theorem dX7_player_41 : decode cX7_player 41 = .ok (.iload_n 2, 1) := by decide +kernel
theorem dX7_player_42 : decode cX7_player 42 = .ok (.invokevirtual 223, 3) := by decide +kernel
theorem dX7_player_45 : decode cX7_player 45 = .ok (.ireturn, 1) := by decide +kernel
set_option maxRecDepth 20000 in
theorem ggX7_far_X7_isShore : GoodIn wsX7_far wsX7_isShore := goodIn_r _ [5] (by decide +kernel) (by decide +kernel)
set_option maxRecDepth 20000 in
theorem gX7_far_X7_isShore : GoodIn wsX7_far (va_wsS RX7 218 yX7_isShore wsX7_isShore) := goodIn_app (goodIn_of _ (by decide +kernel)) ggX7_far_X7_isShore
set_option maxRecDepth 20000 in
theorem ggX7_far_X1_setFar : GoodIn wsX7_far wsX1_setFar := goodIn_r _ [10, 11, 12, 25, 26, 27, 28, 29, 30, 31] (by decide +kernel) (by decide +kernel)
set_option maxRecDepth 20000 in
theorem gX7_far_X1_setFar : GoodIn wsX7_far (wsV RX7 226 RX1 yX1_setFar wsX1_setFar) := goodIn_app (goodIn_of _ (by decide +kernel)) ggX7_far_X1_setFar
theorem dX7_far_0 : decode cX7_far 0 = .ok (.iload_n 1, 1) := by decide +kernel
theorem dX7_far_1 : decode cX7_far 1 = .ok (.invokestatic 218, 3) := by decide +kernel
theorem dX7_far_4 : decode cX7_far 4 = .ok (.ifCond .eq 10, 3) := by decide +kernel
theorem dX7_far_7 : decode cX7_far 7 = .ok (.iload_n 2, 1) := by decide +kernel
theorem dX7_far_8 : decode cX7_far 8 = .ok (.invokestatic 218, 3) := by decide +kernel
theorem dX7_far_11 : decode cX7_far 11 = .ok (.ifCond .ne 5, 3) := by decide +kernel
theorem dX7_far_14 : decode cX7_far 14 = .ok (.iconst (-1), 1) := by decide +kernel
theorem dX7_far_15 : decode cX7_far 15 = .ok (.ireturn, 1) := by decide +kernel
theorem dX7_far_16 : decode cX7_far 16 = .ok (.iload_n 3, 1) := by decide +kernel
theorem dX7_far_17 : decode cX7_far 17 = .ok (.ifCond .lt 10, 3) := by decide +kernel
theorem dX7_far_20 : decode cX7_far 20 = .ok (.iload_n 3, 1) := by decide +kernel
theorem dX7_far_21 : decode cX7_far 21 = .ok (.sipush 999, 3) := by decide +kernel
theorem dX7_far_24 : decode cX7_far 24 = .ok (.if_icmp .le 6, 3) := by decide +kernel
theorem dX7_far_27 : decode cX7_far 27 = .ok (.bipush (-2), 2) := by decide +kernel
theorem dX7_far_29 : decode cX7_far 29 = .ok (.ireturn, 1) := by decide +kernel
theorem dX7_far_30 : decode cX7_far 30 = .ok (.aload_n 0, 1) := by decide +kernel
theorem dX7_far_31 : decode cX7_far 31 = .ok (.getfield 59, 3) := by decide +kernel
theorem dX7_far_34 : decode cX7_far 34 = .ok (.iload_n 1, 1) := by decide +kernel
theorem dX7_far_35 : decode cX7_far 35 = .ok (.iload_n 2, 1) := by decide +kernel
theorem dX7_far_36 : decode cX7_far 36 = .ok (.iload_n 3, 1) := by decide +kernel
theorem dX7_far_37 : decode cX7_far 37 = .ok (.invokevirtual 226, 3) := by decide +kernel
theorem dX7_far_40 : decode cX7_far 40 = .ok (.ireturn, 1) := by decide +kernel
set_option maxRecDepth 20000 in
theorem ggX7_pairs_X1_pairUp : GoodIn wsX7_pairs wsX1_pairUp := goodIn_r _ [6, 7, 8, 9, 10, 11, 12, 13, 5, 14, 15, 16, 17, 18, 19, 20, 21, 22, 23, 24, 25, 26, 27, 28, 29, 30, 31, 32, 33, 34, 35, 36, 37, 38, 39, 40, 41, 42, 43, 44, 61, 62, 63, 64, 65, 66, 67] (by decide +kernel) (by decide +kernel)
set_option maxRecDepth 20000 in
theorem gX7_pairs_X1_pairUp : GoodIn wsX7_pairs (wsV RX7 229 RX1 yX1_pairUp wsX1_pairUp) := goodIn_app (goodIn_of _ (by decide +kernel)) ggX7_pairs_X1_pairUp
set_option maxRecDepth 20000 in
theorem ggX7_pairs_X1_leastCost : GoodIn wsX7_pairs wsX1_leastCost := goodIn_r _ [48, 9, 8, 61, 62, 63, 64, 65, 66, 67] (by decide +kernel) (by decide +kernel)
set_option maxRecDepth 20000 in
theorem gX7_pairs_X1_leastCost : GoodIn wsX7_pairs (wsV RX7 232 RX1 yX1_leastCost wsX1_leastCost) := goodIn_app (goodIn_of _ (by decide +kernel)) ggX7_pairs_X1_leastCost
theorem dX7_pairs_0 : decode cX7_pairs 0 = .ok (.aload_n 0, 1) := by decide +kernel
theorem dX7_pairs_1 : decode cX7_pairs 1 = .ok (.getfield 59, 3) := by decide +kernel
theorem dX7_pairs_4 : decode cX7_pairs 4 = .ok (.invokevirtual 229, 3) := by decide +kernel
theorem dX7_pairs_7 : decode cX7_pairs 7 = .ok (.aload_n 0, 1) := by decide +kernel
theorem dX7_pairs_8 : decode cX7_pairs 8 = .ok (.getfield 59, 3) := by decide +kernel
theorem dX7_pairs_11 : decode cX7_pairs 11 = .ok (.invokevirtual 232, 3) := by decide +kernel
theorem dX7_pairs_14 : decode cX7_pairs 14 = .ok (.ireturn, 1) := by decide +kernel
set_option maxRecDepth 20000 in
theorem ggX7_mate_X1_pairUp : GoodIn wsX7_mate wsX1_pairUp := goodIn_r _ [8, 9, 10, 11, 12, 13, 14, 15, 7, 16, 17, 18, 19, 20, 21, 22, 23, 24, 25, 26, 27, 28, 29, 30, 31, 32, 33, 34, 35, 36, 37, 38, 39, 40, 41, 42, 43, 44, 45, 46, 59, 60, 61, 62, 63, 64, 65] (by decide +kernel) (by decide +kernel)
set_option maxRecDepth 20000 in
theorem gX7_mate_X1_pairUp : GoodIn wsX7_mate (wsV RX7 229 RX1 yX1_pairUp wsX1_pairUp) := goodIn_app (goodIn_of _ (by decide +kernel)) ggX7_mate_X1_pairUp
theorem dX7_mate_0 : decode cX7_mate 0 = .ok (.iload_n 1, 1) := by decide +kernel
theorem dX7_mate_1 : decode cX7_mate 1 = .ok (.ifCond .lt 14, 3) := by decide +kernel
theorem dX7_mate_4 : decode cX7_mate 4 = .ok (.iload_n 1, 1) := by decide +kernel
theorem dX7_mate_5 : decode cX7_mate 5 = .ok (.aload_n 0, 1) := by decide +kernel
theorem dX7_mate_6 : decode cX7_mate 6 = .ok (.getfield 59, 3) := by decide +kernel
theorem dX7_mate_9 : decode cX7_mate 9 = .ok (.getfield 221, 3) := by decide +kernel
theorem dX7_mate_12 : decode cX7_mate 12 = .ok (.if_icmp .lt 5, 3) := by decide +kernel
theorem dX7_mate_15 : decode cX7_mate 15 = .ok (.iconst (-1), 1) := by decide +kernel
theorem dX7_mate_16 : decode cX7_mate 16 = .ok (.ireturn, 1) := by decide +kernel
theorem dX7_mate_17 : decode cX7_mate 17 = .ok (.aload_n 0, 1) := by decide +kernel
theorem dX7_mate_18 : decode cX7_mate 18 = .ok (.getfield 59, 3) := by decide +kernel
theorem dX7_mate_21 : decode cX7_mate 21 = .ok (.invokevirtual 229, 3) := by decide +kernel
theorem dX7_mate_24 : decode cX7_mate 24 = .ok (.aload_n 0, 1) := by decide +kernel
theorem dX7_mate_25 : decode cX7_mate 25 = .ok (.getfield 59, 3) := by decide +kernel
theorem dX7_mate_28 : decode cX7_mate 28 = .ok (.getfield 236, 3) := by decide +kernel
theorem dX7_mate_31 : decode cX7_mate 31 = .ok (.iload_n 1, 1) := by decide +kernel
theorem dX7_mate_32 : decode cX7_mate 32 = .ok (.iaload, 1) := by decide +kernel
theorem dX7_mate_33 : decode cX7_mate 33 = .ok (.ireturn, 1) := by decide +kernel
set_option maxRecDepth 20000 in
theorem ggX7_odds_X2_reckon : GoodIn wsX7_odds wsX2_reckon := goodIn_r _ [13, 14, 15, 16, 17, 4, 18, 19, 3, 5, 20, 21, 22, 23, 12, 24, 25, 26, 27, 28, 29, 30, 31, 44, 45, 46, 47] (by decide +kernel) (by decide +kernel)
set_option maxRecDepth 20000 in
theorem gX7_odds_X2_reckon : GoodIn wsX7_odds (wsV RX7 244 RX2 yX2_reckon wsX2_reckon) := goodIn_app (goodIn_of _ (by decide +kernel)) ggX7_odds_X2_reckon
theorem dX7_odds_0 : decode cX7_odds 0 = .ok (.iload_n 1, 1) := by decide +kernel
theorem dX7_odds_1 : decode cX7_odds 1 = .ok (.iconst 1, 1) := by decide +kernel
theorem dX7_odds_2 : decode cX7_odds 2 = .ok (.if_icmp .lt 27, 3) := by decide +kernel
theorem dX7_odds_5 : decode cX7_odds 5 = .ok (.iload_n 1, 1) := by decide +kernel
theorem dX7_odds_6 : decode cX7_odds 6 = .ok (.bipush 60, 2) := by decide +kernel
theorem dX7_odds_8 : decode cX7_odds 8 = .ok (.if_icmp .gt 21, 3) := by decide +kernel
theorem dX7_odds_11 : decode cX7_odds 11 = .ok (.iload_n 2, 1) := by decide +kernel
theorem dX7_odds_12 : decode cX7_odds 12 = .ok (.ifCond .lt 17, 3) := by decide +kernel
theorem dX7_odds_15 : decode cX7_odds 15 = .ok (.iload_n 2, 1) := by decide +kernel
theorem dX7_odds_16 : decode cX7_odds 16 = .ok (.iload_n 1, 1) := by decide +kernel
theorem dX7_odds_17 : decode cX7_odds 17 = .ok (.if_icmp .gt 12, 3) := by decide +kernel
theorem dX7_odds_20 : decode cX7_odds 20 = .ok (.iload_n 3, 1) := by decide +kernel
theorem dX7_odds_21 : decode cX7_odds 21 = .ok (.ifCond .lt 8, 3) := by decide +kernel
theorem dX7_odds_24 : decode cX7_odds 24 = .ok (.iload_n 3, 1) := by decide +kernel
theorem dX7_odds_25 : decode cX7_odds 25 = .ok (.iload_n 1, 1) := by decide +kernel
theorem dX7_odds_26 : decode cX7_odds 26 = .ok (.if_icmp .le 7, 3) := by decide +kernel
theorem dX7_odds_29 : decode cX7_odds 29 = .ok (.ldc2_w 239, 3) := by decide +kernel
theorem dX7_odds_32 : decode cX7_odds 32 = .ok (.lreturn, 1) := by decide +kernel
theorem dX7_odds_33 : decode cX7_odds 33 = .ok (.iload 4, 2) := by decide +kernel
theorem dX7_odds_35 : decode cX7_odds 35 = .ok (.ifCond .lt 13, 3) := by decide +kernel
theorem dX7_odds_38 : decode cX7_odds 38 = .ok (.iload 4, 2) := by decide +kernel
theorem dX7_odds_40 : decode cX7_odds 40 = .ok (.iload_n 2, 1) := by decide +kernel
theorem dX7_odds_41 : decode cX7_odds 41 = .ok (.iload_n 3, 1) := by decide +kernel
theorem dX7_odds_42 : decode cX7_odds 42 = .ok (.invokestatic 241, 3) := by decide +kernel
theorem dX7_odds_45 : decode cX7_odds 45 = .ok (.if_icmp .le 7, 3) := by decide +kernel
theorem dX7_odds_48 : decode cX7_odds 48 = .ok (.ldc2_w 239, 3) := by decide +kernel
theorem dX7_odds_51 : decode cX7_odds 51 = .ok (.lreturn, 1) := by decide +kernel
theorem dX7_odds_52 : decode cX7_odds 52 = .ok (.aload_n 0, 1) := by decide +kernel
theorem dX7_odds_53 : decode cX7_odds 53 = .ok (.getfield 66, 3) := by decide +kernel
theorem dX7_odds_56 : decode cX7_odds 56 = .ok (.iload_n 1, 1) := by decide +kernel
theorem dX7_odds_57 : decode cX7_odds 57 = .ok (.iload_n 2, 1) := by decide +kernel
theorem dX7_odds_58 : decode cX7_odds 58 = .ok (.iload_n 3, 1) := by decide +kernel
theorem dX7_odds_59 : decode cX7_odds 59 = .ok (.iload 4, 2) := by decide +kernel
theorem dX7_odds_61 : decode cX7_odds 61 = .ok (.invokevirtual 244, 3) := by decide +kernel
theorem dX7_odds_64 : decode cX7_odds 64 = .ok (.iload 5, 2) := by decide +kernel
theorem dX7_odds_66 : decode cX7_odds 66 = .ok (.ifCond .eq 13, 3) := by decide +kernel
theorem dX7_odds_69 : decode cX7_odds 69 = .ok (.aload_n 0, 1) := by decide +kernel
theorem dX7_odds_70 : decode cX7_odds 70 = .ok (.getfield 66, 3) := by decide +kernel
theorem dX7_odds_73 : decode cX7_odds 73 = .ok (.getfield 248, 3) := by decide +kernel
theorem dX7_odds_76 : decode cX7_odds 76 = .ok (.goto 10, 3) := by decide +kernel
theorem dX7_odds_79 : decode cX7_odds 79 = .ok (.aload_n 0, 1) := by decide +kernel
theorem dX7_odds_80 : decode cX7_odds 80 = .ok (.getfield 66, 3) := by decide +kernel
theorem dX7_odds_83 : decode cX7_odds 83 = .ok (.getfield 252, 3) := by decide +kernel
theorem dX7_odds_86 : decode cX7_odds 86 = .ok (.lreturn, 1) := by decide +kernel
set_option maxRecDepth 20000 in
theorem ggX7_keep_X7_isSlot : GoodIn wsX7_keep wsX7_isSlot := goodIn_r _ [7] (by decide +kernel) (by decide +kernel)
set_option maxRecDepth 20000 in
theorem gX7_keep_X7_isSlot : GoodIn wsX7_keep (va_wsS RX7 255 yX7_isSlot wsX7_isSlot) := goodIn_app (goodIn_of _ (by decide +kernel)) ggX7_keep_X7_isSlot
set_option maxRecDepth 20000 in
theorem ggX7_keep_X5_copyFrom : GoodIn wsX7_keep wsX5_copyFrom := goodIn_r _ [12, 13, 14, 15, 16, 17, 18, 19, 20, 21, 22, 23, 40, 41, 42, 43, 44, 45, 46] (by decide +kernel) (by decide +kernel)
set_option maxRecDepth 20000 in
theorem gX7_keep_X5_copyFrom : GoodIn wsX7_keep (wsV RX7 258 RX5 yX5_copyFrom wsX5_copyFrom) := goodIn_app (goodIn_of _ (by decide +kernel)) ggX7_keep_X5_copyFrom
set_option maxRecDepth 20000 in
theorem ggX7_keep_X5_pressed : GoodIn wsX7_keep wsX5_pressed := goodIn_r _ [27, 15, 21, 40, 41, 42, 43, 44, 45, 46] (by decide +kernel) (by decide +kernel)
set_option maxRecDepth 20000 in
theorem gX7_keep_X5_pressed : GoodIn wsX7_keep (wsV RX7 261 RX5 yX5_pressed wsX5_pressed) := goodIn_app (goodIn_of _ (by decide +kernel)) ggX7_keep_X5_pressed
theorem dX7_keep_0 : decode cX7_keep 0 = .ok (.iload_n 1, 1) := by decide +kernel
theorem dX7_keep_1 : decode cX7_keep 1 = .ok (.invokestatic 255, 3) := by decide +kernel
theorem dX7_keep_4 : decode cX7_keep 4 = .ok (.ifCond .ne 5, 3) := by decide +kernel
theorem dX7_keep_7 : decode cX7_keep 7 = .ok (.iconst (-1), 1) := by decide +kernel
theorem dX7_keep_8 : decode cX7_keep 8 = .ok (.ireturn, 1) := by decide +kernel
theorem dX7_keep_9 : decode cX7_keep 9 = .ok (.aload_n 0, 1) := by decide +kernel
theorem dX7_keep_10 : decode cX7_keep 10 = .ok (.getfield 70, 3) := by decide +kernel
theorem dX7_keep_13 : decode cX7_keep 13 = .ok (.iload_n 1, 1) := by decide +kernel
theorem dX7_keep_14 : decode cX7_keep 14 = .ok (.aaload, 1) := by decide +kernel
theorem dX7_keep_15 : decode cX7_keep 15 = .ok (.aload_n 0, 1) := by decide +kernel
theorem dX7_keep_16 : decode cX7_keep 16 = .ok (.getfield 10, 3) := by decide +kernel
theorem dX7_keep_19 : decode cX7_keep 19 = .ok (.invokevirtual 258, 3) := by decide +kernel
theorem dX7_keep_22 : decode cX7_keep 22 = .ok (.aload_n 0, 1) := by decide +kernel
theorem dX7_keep_23 : decode cX7_keep 23 = .ok (.getfield 74, 3) := by decide +kernel
theorem dX7_keep_26 : decode cX7_keep 26 = .ok (.iload_n 1, 1) := by decide +kernel
theorem dX7_keep_27 : decode cX7_keep 27 = .ok (.iconst 1, 1) := by decide +kernel
theorem dX7_keep_28 : decode cX7_keep 28 = .ok (.bastore, 1) := by decide +kernel
theorem dX7_keep_29 : decode cX7_keep 29 = .ok (.aload_n 0, 1) := by decide +kernel
theorem dX7_keep_30 : decode cX7_keep 30 = .ok (.getfield 10, 3) := by decide +kernel
theorem dX7_keep_33 : decode cX7_keep 33 = .ok (.invokevirtual 261, 3) := by decide +kernel
theorem dX7_keep_36 : decode cX7_keep 36 = .ok (.ireturn, 1) := by decide +kernel
set_option maxRecDepth 20000 in
theorem ggX7_again_X7_isSlot : GoodIn wsX7_again wsX7_isSlot := goodIn_r _ [9] (by decide +kernel) (by decide +kernel)
set_option maxRecDepth 20000 in
theorem gX7_again_X7_isSlot : GoodIn wsX7_again (va_wsS RX7 255 yX7_isSlot wsX7_isSlot) := goodIn_app (goodIn_of _ (by decide +kernel)) ggX7_again_X7_isSlot
set_option maxRecDepth 20000 in
theorem ggX7_again_X5_copyFrom : GoodIn wsX7_again wsX5_copyFrom := goodIn_r _ [14, 15, 16, 17, 18, 19, 20, 21, 22, 23, 24, 25, 48, 49, 50, 51, 52, 53, 54] (by decide +kernel) (by decide +kernel)
set_option maxRecDepth 20000 in
theorem gX7_again_X5_copyFrom : GoodIn wsX7_again (wsV RX7 258 RX5 yX5_copyFrom wsX5_copyFrom) := goodIn_app (goodIn_of _ (by decide +kernel)) ggX7_again_X5_copyFrom
set_option maxRecDepth 20000 in
theorem ggX7_again_X6_keepBelow : GoodIn wsX7_again wsX6_keepBelow := goodIn_r _ [30, 31, 32, 33, 34, 35, 55, 56] (by decide +kernel) (by decide +kernel)
set_option maxRecDepth 20000 in
theorem gX7_again_X6_keepBelow : GoodIn wsX7_again (wsV RX7 88 RX6 yX6_keepBelow wsX6_keepBelow) := goodIn_app (goodIn_of _ (by decide +kernel)) ggX7_again_X6_keepBelow
theorem dX7_again_0 : decode cX7_again 0 = .ok (.iload_n 1, 1) := by decide +kernel
theorem dX7_again_1 : decode cX7_again 1 = .ok (.invokestatic 255, 3) := by decide +kernel
theorem dX7_again_4 : decode cX7_again 4 = .ok (.ifCond .ne 5, 3) := by decide +kernel
theorem dX7_again_7 : decode cX7_again 7 = .ok (.iconst (-1), 1) := by decide +kernel
theorem dX7_again_8 : decode cX7_again 8 = .ok (.ireturn, 1) := by decide +kernel
theorem dX7_again_9 : decode cX7_again 9 = .ok (.aload_n 0, 1) := by decide +kernel
theorem dX7_again_10 : decode cX7_again 10 = .ok (.getfield 74, 3) := by decide +kernel
theorem dX7_again_13 : decode cX7_again 13 = .ok (.iload_n 1, 1) := by decide +kernel
theorem dX7_again_14 : decode cX7_again 14 = .ok (.baload, 1) := by decide +kernel
theorem dX7_again_15 : decode cX7_again 15 = .ok (.ifCond .ne 6, 3) := by decide +kernel
theorem dX7_again_18 : decode cX7_again 18 = .ok (.bipush (-3), 2) := by decide +kernel
theorem dX7_again_20 : decode cX7_again 20 = .ok (.ireturn, 1) := by decide +kernel
theorem dX7_again_21 : decode cX7_again 21 = .ok (.aload_n 0, 1) := by decide +kernel
theorem dX7_again_22 : decode cX7_again 22 = .ok (.getfield 10, 3) := by decide +kernel
theorem dX7_again_25 : decode cX7_again 25 = .ok (.aload_n 0, 1) := by decide +kernel
theorem dX7_again_26 : decode cX7_again 26 = .ok (.getfield 70, 3) := by decide +kernel
theorem dX7_again_29 : decode cX7_again 29 = .ok (.iload_n 1, 1) := by decide +kernel
theorem dX7_again_30 : decode cX7_again 30 = .ok (.aaload, 1) := by decide +kernel
theorem dX7_again_31 : decode cX7_again 31 = .ok (.invokevirtual 258, 3) := by decide +kernel
theorem dX7_again_34 : decode cX7_again 34 = .ok (.aload_n 0, 1) := by decide +kernel
theorem dX7_again_35 : decode cX7_again 35 = .ok (.getfield 28, 3) := by decide +kernel
theorem dX7_again_38 : decode cX7_again 38 = .ok (.iconst 0, 1) := by decide +kernel
theorem dX7_again_39 : decode cX7_again 39 = .ok (.invokevirtual 88, 3) := by decide +kernel
theorem dX7_again_42 : decode cX7_again 42 = .ok (.aload_n 0, 1) := by decide +kernel
theorem dX7_again_43 : decode cX7_again 43 = .ok (.getfield 10, 3) := by decide +kernel
theorem dX7_again_46 : decode cX7_again 46 = .ok (.getfield 123, 3) := by decide +kernel
theorem dX7_again_49 : decode cX7_again 49 = .ok (.ireturn, 1) := by decide +kernel
set_option maxRecDepth 20000 in
theorem ggX7_tried_X7_isSlot : GoodIn wsX7_tried wsX7_isSlot := goodIn_r _ [10] (by decide +kernel) (by decide +kernel)
set_option maxRecDepth 20000 in
theorem gX7_tried_X7_isSlot : GoodIn wsX7_tried (va_wsS RX7 255 yX7_isSlot wsX7_isSlot) := goodIn_app (goodIn_of _ (by decide +kernel)) ggX7_tried_X7_isSlot
set_option maxRecDepth 20000 in
theorem ggX7_tried_X7_isTick : GoodIn wsX7_tried wsX7_isTick := goodIn_r _ [13] (by decide +kernel) (by decide +kernel)
set_option maxRecDepth 20000 in
theorem gX7_tried_X7_isTick : GoodIn wsX7_tried (va_wsS RX7 104 yX7_isTick wsX7_isTick) := goodIn_app (goodIn_of _ (by decide +kernel)) ggX7_tried_X7_isTick
set_option maxRecDepth 20000 in
theorem ggX7_tried_X7_columnOf : GoodIn wsX7_tried wsX7_columnOf := goodIn_r _ [16] (by decide +kernel) (by decide +kernel)
set_option maxRecDepth 20000 in
theorem gX7_tried_X7_columnOf : GoodIn wsX7_tried (va_wsS RX7 127 yX7_columnOf wsX7_columnOf) := goodIn_app (goodIn_of _ (by decide +kernel)) ggX7_tried_X7_columnOf
set_option maxRecDepth 20000 in
theorem ggX7_tried_X7_isPower : GoodIn wsX7_tried wsX7_isPower := goodIn_r _ [19, 20, 21] (by decide +kernel) (by decide +kernel)
set_option maxRecDepth 20000 in
theorem gX7_tried_X7_isPower : GoodIn wsX7_tried (va_wsS RX7 264 yX7_isPower wsX7_isPower) := goodIn_app (goodIn_of _ (by decide +kernel)) ggX7_tried_X7_isPower
set_option maxRecDepth 20000 in
theorem ggX7_tried_X0_start : GoodIn wsX7_tried wsX0_start := goodIn_r _ [26, 27, 28, 29, 30, 31, 32, 33, 34, 35, 9, 36, 127, 120, 121, 122, 123, 124, 125, 126] (by decide +kernel) (by decide +kernel)
set_option maxRecDepth 20000 in
theorem gX7_tried_X0_start : GoodIn wsX7_tried (wsV RX7 267 RX0 yX0_start wsX0_start) := goodIn_app (goodIn_of _ (by decide +kernel)) ggX7_tried_X0_start
set_option maxRecDepth 20000 in
theorem ggX7_tried_X5_fillPresses : GoodIn wsX7_tried wsX5_fillPresses := goodIn_r _ [41, 42, 43, 44, 45, 40, 46, 47, 120, 121, 122, 123, 124, 125, 126] (by decide +kernel) (by decide +kernel)
set_option maxRecDepth 20000 in
theorem gX7_tried_X5_fillPresses : GoodIn wsX7_tried (wsV RX7 270 RX5 yX5_fillPresses wsX5_fillPresses) := goodIn_app (goodIn_of _ (by decide +kernel)) ggX7_tried_X5_fillPresses
set_option maxRecDepth 20000 in
theorem ggX7_tried_X0_advance : GoodIn wsX7_tried wsX0_advance := goodIn_r _ [51, 28, 52, 53, 54, 40, 55, 56, 57, 58, 59, 60, 25, 61, 27, 62, 63, 64, 65, 66, 67, 68, 69, 70, 9, 71, 72, 73, 74, 75, 76, 77, 78, 79, 80, 81, 82, 83, 84, 85, 29, 30, 86, 87, 88, 89, 90, 91, 92, 93, 94, 95, 96, 97, 98, 99, 100, 101, 102, 103, 120, 121, 122, 123, 124, 125, 126, 127] (by decide +kernel) (by decide +kernel)
set_option maxRecDepth 20000 in
theorem gX7_tried_X0_advance : GoodIn wsX7_tried (wsV RX7 274 RX0 yX0_advance wsX0_advance) := goodIn_app (goodIn_of _ (by decide +kernel)) ggX7_tried_X0_advance
set_option maxRecDepth 20000 in
theorem ggX7_tried_X7_told : GoodIn wsX7_tried wsX7_told := goodIn_r _ [106, 107, 103, 72, 9, 73, 102, 70, 71, 120, 121, 122, 123, 124, 125, 126] (by decide +kernel) (by decide +kernel)
set_option maxRecDepth 20000 in
theorem gX7_tried_X7_told : GoodIn wsX7_tried (va_wsS RX7 136 yX7_told wsX7_told) := goodIn_app (goodIn_of _ (by decide +kernel)) ggX7_tried_X7_told
theorem dX7_tried_0 : decode cX7_tried 0 = .ok (.iload_n 1, 1) := by decide +kernel
theorem dX7_tried_1 : decode cX7_tried 1 = .ok (.invokestatic 255, 3) := by decide +kernel
theorem dX7_tried_4 : decode cX7_tried 4 = .ok (.ifCond .eq 10, 3) := by decide +kernel
theorem dX7_tried_7 : decode cX7_tried 7 = .ok (.iload_n 3, 1) := by decide +kernel
theorem dX7_tried_8 : decode cX7_tried 8 = .ok (.invokestatic 104, 3) := by decide +kernel
theorem dX7_tried_11 : decode cX7_tried 11 = .ok (.ifCond .ne 5, 3) := by decide +kernel
theorem dX7_tried_14 : decode cX7_tried 14 = .ok (.iconst (-1), 1) := by decide +kernel
theorem dX7_tried_15 : decode cX7_tried 15 = .ok (.ireturn, 1) := by decide +kernel
theorem dX7_tried_16 : decode cX7_tried 16 = .ok (.aload_n 0, 1) := by decide +kernel
theorem dX7_tried_17 : decode cX7_tried 17 = .ok (.getfield 74, 3) := by decide +kernel
theorem dX7_tried_20 : decode cX7_tried 20 = .ok (.iload_n 1, 1) := by decide +kernel
theorem dX7_tried_21 : decode cX7_tried 21 = .ok (.baload, 1) := by decide +kernel
theorem dX7_tried_22 : decode cX7_tried 22 = .ok (.ifCond .ne 6, 3) := by decide +kernel
theorem dX7_tried_25 : decode cX7_tried 25 = .ok (.bipush (-3), 2) := by decide +kernel
theorem dX7_tried_27 : decode cX7_tried 27 = .ok (.ireturn, 1) := by decide +kernel
theorem dX7_tried_28 : decode cX7_tried 28 = .ok (.aload_n 0, 1) := by decide +kernel
theorem dX7_tried_29 : decode cX7_tried 29 = .ok (.getfield 70, 3) := by decide +kernel
theorem dX7_tried_32 : decode cX7_tried 32 = .ok (.iload_n 1, 1) := by decide +kernel
theorem dX7_tried_33 : decode cX7_tried 33 = .ok (.aaload, 1) := by decide +kernel
theorem dX7_tried_34 : decode cX7_tried 34 = .ok (.astore 5, 2) := by decide +kernel
theorem dX7_tried_36 : decode cX7_tried 36 = .ok (.iload 4, 2) := by decide +kernel
theorem dX7_tried_38 : decode cX7_tried 38 = .ok (.aload 5, 2) := by decide +kernel
theorem dX7_tried_40 : decode cX7_tried 40 = .ok (.getfield 123, 3) := by decide +kernel
theorem dX7_tried_43 : decode cX7_tried 43 = .ok (.invokestatic 127, 3) := by decide +kernel
theorem dX7_tried_46 : decode cX7_tried 46 = .ok (.istore 6, 2) := by decide +kernel
theorem dX7_tried_48 : decode cX7_tried 48 = .ok (.iload_n 2, 1) := by decide +kernel
theorem dX7_tried_49 : decode cX7_tried 49 = .ok (.invokestatic 264, 3) := by decide +kernel
theorem dX7_tried_52 : decode cX7_tried 52 = .ok (.ifCond .eq 8, 3) := by decide +kernel
theorem dX7_tried_55 : decode cX7_tried 55 = .ok (.iload 6, 2) := by decide +kernel
theorem dX7_tried_57 : decode cX7_tried 57 = .ok (.ifCond .ge 6, 3) := by decide +kernel
theorem dX7_tried_60 : decode cX7_tried 60 = .ok (.bipush (-2), 2) := by decide +kernel
theorem dX7_tried_62 : decode cX7_tried 62 = .ok (.ireturn, 1) := by decide +kernel
theorem dX7_tried_63 : decode cX7_tried 63 = .ok (.aload_n 0, 1) := by decide +kernel
theorem dX7_tried_64 : decode cX7_tried 64 = .ok (.getfield 38, 3) := by decide +kernel
theorem dX7_tried_67 : decode cX7_tried 67 = .ok (.aload 5, 2) := by decide +kernel
theorem dX7_tried_69 : decode cX7_tried 69 = .ok (.invokevirtual 267, 3) := by decide +kernel
theorem dX7_tried_72 : decode cX7_tried 72 = .ok (.iconst 0, 1) := by decide +kernel
theorem dX7_tried_73 : decode cX7_tried 73 = .ok (.istore 7, 2) := by decide +kernel
theorem dX7_tried_75 : decode cX7_tried 75 = .ok (.iload 7, 2) := by decide +kernel
theorem dX7_tried_77 : decode cX7_tried 77 = .ok (.iload_n 3, 1) := by decide +kernel
theorem dX7_tried_78 : decode cX7_tried 78 = .ok (.if_icmp .gt 36, 3) := by decide +kernel
theorem dX7_tried_81 : decode cX7_tried 81 = .ok (.aload 5, 2) := by decide +kernel
theorem dX7_tried_83 : decode cX7_tried 83 = .ok (.iload 7, 2) := by decide +kernel
theorem dX7_tried_85 : decode cX7_tried 85 = .ok (.aload_n 0, 1) := by decide +kernel
theorem dX7_tried_86 : decode cX7_tried 86 = .ok (.getfield 45, 3) := by decide +kernel
theorem dX7_tried_89 : decode cX7_tried 89 = .ok (.invokevirtual 270, 3) := by decide +kernel
theorem dX7_tried_92 : decode cX7_tried 92 = .ok (.aload_n 0, 1) := by decide +kernel
theorem dX7_tried_93 : decode cX7_tried 93 = .ok (.getfield 38, 3) := by decide +kernel
theorem dX7_tried_96 : decode cX7_tried 96 = .ok (.aload 5, 2) := by decide +kernel
theorem dX7_tried_98 : decode cX7_tried 98 = .ok (.iload_n 2, 1) := by decide +kernel
theorem dX7_tried_99 : decode cX7_tried 99 = .ok (.iload 7, 2) := by decide +kernel
theorem dX7_tried_101 : decode cX7_tried 101 = .ok (.aload_n 0, 1) := by decide +kernel
theorem dX7_tried_102 : decode cX7_tried 102 = .ok (.getfield 45, 3) := by decide +kernel
theorem dX7_tried_105 : decode cX7_tried 105 = .ok (.invokevirtual 274, 3) := by decide +kernel
theorem dX7_tried_108 : decode cX7_tried 108 = .ok (.iinc 7 1, 3) := by decide +kernel
theorem dX7_tried_111 : decode cX7_tried 111 = .ok (.goto (-36), 3) := by decide +kernel
theorem dX7_tried_114 : decode cX7_tried 114 = .ok (.aload 5, 2) := by decide +kernel
theorem dX7_tried_116 : decode cX7_tried 116 = .ok (.aload_n 0, 1) := by decide +kernel
theorem dX7_tried_117 : decode cX7_tried 117 = .ok (.getfield 38, 3) := by decide +kernel
theorem dX7_tried_120 : decode cX7_tried 120 = .ok (.getfield 278, 3) := by decide +kernel
theorem dX7_tried_123 : decode cX7_tried 123 = .ok (.iload 6, 2) := by decide +kernel
theorem dX7_tried_125 : decode cX7_tried 125 = .ok (.iaload, 1) := by decide +kernel
theorem dX7_tried_126 : decode cX7_tried 126 = .ok (.iload 6, 2) := by decide +kernel
theorem dX7_tried_128 : decode cX7_tried 128 = .ok (.invokestatic 136, 3) := by decide +kernel
theorem dX7_tried_131 : decode cX7_tried 131 = .ok (.ireturn, 1) := by decide +kernel
set_option maxRecDepth 20000 in
theorem ggX7_differs_X7_isSlot : GoodIn wsX7_differs wsX7_isSlot := goodIn_r _ [10] (by decide +kernel) (by decide +kernel)
set_option maxRecDepth 20000 in
theorem gX7_differs_X7_isSlot : GoodIn wsX7_differs (va_wsS RX7 255 yX7_isSlot wsX7_isSlot) := goodIn_app (goodIn_of _ (by decide +kernel)) ggX7_differs_X7_isSlot
set_option maxRecDepth 20000 in
theorem ggX7_differs_X7_isPower : GoodIn wsX7_differs wsX7_isPower := goodIn_r _ [13, 14, 15] (by decide +kernel) (by decide +kernel)
set_option maxRecDepth 20000 in
theorem gX7_differs_X7_isPower : GoodIn wsX7_differs (va_wsS RX7 264 yX7_isPower wsX7_isPower) := goodIn_app (goodIn_of _ (by decide +kernel)) ggX7_differs_X7_isPower
set_option maxRecDepth 20000 in
theorem ggX7_differs_X0_start : GoodIn wsX7_differs wsX0_start := goodIn_r _ [20, 21, 22, 23, 24, 25, 26, 27, 28, 29, 9, 30, 121, 114, 115, 116, 117, 118, 119, 120] (by decide +kernel) (by decide +kernel)
set_option maxRecDepth 20000 in
theorem gX7_differs_X0_start : GoodIn wsX7_differs (wsV RX7 267 RX0 yX0_start wsX0_start) := goodIn_app (goodIn_of _ (by decide +kernel)) ggX7_differs_X0_start
set_option maxRecDepth 20000 in
theorem ggX7_differs_X5_fillPresses : GoodIn wsX7_differs wsX5_fillPresses := goodIn_r _ [35, 36, 37, 38, 39, 34, 40, 41, 114, 115, 116, 117, 118, 119, 120] (by decide +kernel) (by decide +kernel)
set_option maxRecDepth 20000 in
theorem gX7_differs_X5_fillPresses : GoodIn wsX7_differs (wsV RX7 270 RX5 yX5_fillPresses wsX5_fillPresses) := goodIn_app (goodIn_of _ (by decide +kernel)) ggX7_differs_X5_fillPresses
set_option maxRecDepth 20000 in
theorem ggX7_differs_X0_advance : GoodIn wsX7_differs wsX0_advance := goodIn_r _ [45, 22, 46, 47, 48, 34, 49, 50, 51, 52, 53, 54, 19, 55, 21, 56, 57, 58, 59, 60, 61, 62, 63, 64, 9, 65, 66, 67, 68, 69, 70, 71, 72, 73, 74, 75, 76, 77, 78, 79, 23, 24, 80, 81, 82, 83, 84, 85, 86, 87, 88, 89, 90, 91, 92, 93, 94, 95, 96, 97, 114, 115, 116, 117, 118, 119, 120, 121] (by decide +kernel) (by decide +kernel)
set_option maxRecDepth 20000 in
theorem gX7_differs_X0_advance : GoodIn wsX7_differs (wsV RX7 274 RX0 yX0_advance wsX0_advance) := goodIn_app (goodIn_of _ (by decide +kernel)) ggX7_differs_X0_advance
set_option maxRecDepth 20000 in
theorem ggX7_differs_X0_isLike : GoodIn wsX7_differs wsX0_isLike := goodIn_r _ [101, 21, 121] (by decide +kernel) (by decide +kernel)
set_option maxRecDepth 20000 in
theorem gX7_differs_X0_isLike : GoodIn wsX7_differs (wsV RX7 281 RX0 yX0_isLike wsX0_isLike) := goodIn_app (goodIn_of _ (by decide +kernel)) ggX7_differs_X0_isLike
theorem dX7_differs_0 : decode cX7_differs 0 = .ok (.iload_n 1, 1) := by decide +kernel
theorem dX7_differs_1 : decode cX7_differs 1 = .ok (.invokestatic 255, 3) := by decide +kernel
theorem dX7_differs_4 : decode cX7_differs 4 = .ok (.ifCond .ne 5, 3) := by decide +kernel
theorem dX7_differs_7 : decode cX7_differs 7 = .ok (.iconst (-1), 1) := by decide +kernel
theorem dX7_differs_8 : decode cX7_differs 8 = .ok (.ireturn, 1) := by decide +kernel
theorem dX7_differs_9 : decode cX7_differs 9 = .ok (.aload_n 0, 1) := by decide +kernel
theorem dX7_differs_10 : decode cX7_differs 10 = .ok (.getfield 74, 3) := by decide +kernel
theorem dX7_differs_13 : decode cX7_differs 13 = .ok (.iload_n 1, 1) := by decide +kernel
theorem dX7_differs_14 : decode cX7_differs 14 = .ok (.baload, 1) := by decide +kernel
theorem dX7_differs_15 : decode cX7_differs 15 = .ok (.ifCond .ne 6, 3) := by decide +kernel
theorem dX7_differs_18 : decode cX7_differs 18 = .ok (.bipush (-3), 2) := by decide +kernel
theorem dX7_differs_20 : decode cX7_differs 20 = .ok (.ireturn, 1) := by decide +kernel
theorem dX7_differs_21 : decode cX7_differs 21 = .ok (.iload_n 2, 1) := by decide +kernel
theorem dX7_differs_22 : decode cX7_differs 22 = .ok (.invokestatic 264, 3) := by decide +kernel
theorem dX7_differs_25 : decode cX7_differs 25 = .ok (.ifCond .ne 6, 3) := by decide +kernel
theorem dX7_differs_28 : decode cX7_differs 28 = .ok (.bipush (-2), 2) := by decide +kernel
theorem dX7_differs_30 : decode cX7_differs 30 = .ok (.ireturn, 1) := by decide +kernel
theorem dX7_differs_31 : decode cX7_differs 31 = .ok (.aload_n 0, 1) := by decide +kernel
theorem dX7_differs_32 : decode cX7_differs 32 = .ok (.getfield 70, 3) := by decide +kernel
theorem dX7_differs_35 : decode cX7_differs 35 = .ok (.iload_n 1, 1) := by decide +kernel
theorem dX7_differs_36 : decode cX7_differs 36 = .ok (.aaload, 1) := by decide +kernel
theorem dX7_differs_37 : decode cX7_differs 37 = .ok (.astore_n 3, 1) := by decide +kernel
theorem dX7_differs_38 : decode cX7_differs 38 = .ok (.aload_n 0, 1) := by decide +kernel
theorem dX7_differs_39 : decode cX7_differs 39 = .ok (.getfield 38, 3) := by decide +kernel
theorem dX7_differs_42 : decode cX7_differs 42 = .ok (.aload_n 3, 1) := by decide +kernel
theorem dX7_differs_43 : decode cX7_differs 43 = .ok (.invokevirtual 267, 3) := by decide +kernel
theorem dX7_differs_46 : decode cX7_differs 46 = .ok (.aload_n 0, 1) := by decide +kernel
theorem dX7_differs_47 : decode cX7_differs 47 = .ok (.getfield 42, 3) := by decide +kernel
theorem dX7_differs_50 : decode cX7_differs 50 = .ok (.aload_n 3, 1) := by decide +kernel
theorem dX7_differs_51 : decode cX7_differs 51 = .ok (.invokevirtual 267, 3) := by decide +kernel
theorem dX7_differs_54 : decode cX7_differs 54 = .ok (.iconst 0, 1) := by decide +kernel
theorem dX7_differs_55 : decode cX7_differs 55 = .ok (.istore 4, 2) := by decide +kernel
theorem dX7_differs_57 : decode cX7_differs 57 = .ok (.iload 4, 2) := by decide +kernel
theorem dX7_differs_59 : decode cX7_differs 59 = .ok (.bipush 100, 2) := by decide +kernel
theorem dX7_differs_61 : decode cX7_differs 61 = .ok (.if_icmp .ge 71, 3) := by decide +kernel
theorem dX7_differs_64 : decode cX7_differs 64 = .ok (.aload_n 3, 1) := by decide +kernel
theorem dX7_differs_65 : decode cX7_differs 65 = .ok (.iload 4, 2) := by decide +kernel
theorem dX7_differs_67 : decode cX7_differs 67 = .ok (.aload_n 0, 1) := by decide +kernel
theorem dX7_differs_68 : decode cX7_differs 68 = .ok (.getfield 45, 3) := by decide +kernel
theorem dX7_differs_71 : decode cX7_differs 71 = .ok (.invokevirtual 270, 3) := by decide +kernel
theorem dX7_differs_74 : decode cX7_differs 74 = .ok (.aload_n 0, 1) := by decide +kernel
theorem dX7_differs_75 : decode cX7_differs 75 = .ok (.getfield 38, 3) := by decide +kernel
theorem dX7_differs_78 : decode cX7_differs 78 = .ok (.aload_n 3, 1) := by decide +kernel
theorem dX7_differs_79 : decode cX7_differs 79 = .ok (.aload_n 3, 1) := by decide +kernel
theorem dX7_differs_80 : decode cX7_differs 80 = .ok (.getfield 98, 3) := by decide +kernel
theorem dX7_differs_83 : decode cX7_differs 83 = .ok (.iconst 0, 1) := by decide +kernel
theorem dX7_differs_84 : decode cX7_differs 84 = .ok (.iaload, 1) := by decide +kernel
theorem dX7_differs_85 : decode cX7_differs 85 = .ok (.iload 4, 2) := by decide +kernel
theorem dX7_differs_87 : decode cX7_differs 87 = .ok (.aload_n 0, 1) := by decide +kernel
theorem dX7_differs_88 : decode cX7_differs 88 = .ok (.getfield 45, 3) := by decide +kernel
theorem dX7_differs_91 : decode cX7_differs 91 = .ok (.invokevirtual 274, 3) := by decide +kernel
theorem dX7_differs_94 : decode cX7_differs 94 = .ok (.aload_n 0, 1) := by decide +kernel
theorem dX7_differs_95 : decode cX7_differs 95 = .ok (.getfield 42, 3) := by decide +kernel
theorem dX7_differs_98 : decode cX7_differs 98 = .ok (.aload_n 3, 1) := by decide +kernel
theorem dX7_differs_99 : decode cX7_differs 99 = .ok (.iload_n 2, 1) := by decide +kernel
theorem dX7_differs_100 : decode cX7_differs 100 = .ok (.iload 4, 2) := by decide +kernel
theorem dX7_differs_102 : decode cX7_differs 102 = .ok (.aload_n 0, 1) := by decide +kernel
theorem dX7_differs_103 : decode cX7_differs 103 = .ok (.getfield 45, 3) := by decide +kernel
theorem dX7_differs_106 : decode cX7_differs 106 = .ok (.invokevirtual 274, 3) := by decide +kernel
theorem dX7_differs_109 : decode cX7_differs 109 = .ok (.aload_n 0, 1) := by decide +kernel
theorem dX7_differs_110 : decode cX7_differs 110 = .ok (.getfield 38, 3) := by decide +kernel
theorem dX7_differs_113 : decode cX7_differs 113 = .ok (.aload_n 0, 1) := by decide +kernel
theorem dX7_differs_114 : decode cX7_differs 114 = .ok (.getfield 42, 3) := by decide +kernel
theorem dX7_differs_117 : decode cX7_differs 117 = .ok (.invokevirtual 281, 3) := by decide +kernel
theorem dX7_differs_120 : decode cX7_differs 120 = .ok (.ifCond .ne 6, 3) := by decide +kernel
theorem dX7_differs_123 : decode cX7_differs 123 = .ok (.iload 4, 2) := by decide +kernel
theorem dX7_differs_125 : decode cX7_differs 125 = .ok (.ireturn, 1) := by decide +kernel
theorem dX7_differs_126 : decode cX7_differs 126 = .ok (.iinc 4 1, 3) := by decide +kernel
theorem dX7_differs_129 : decode cX7_differs 129 = .ok (.goto (-72), 3) := by decide +kernel
theorem dX7_differs_132 : decode cX7_differs 132 = .ok (.bipush (-9), 2) := by decide +kernel
theorem dX7_differs_134 : decode cX7_differs 134 = .ok (.ireturn, 1) := by decide +kernel
set_option maxRecDepth 20000 in
theorem ggX7_count_X5_pressed : GoodIn wsX7_count wsX5_pressed := goodIn_r _ [12, 13, 14, 47, 48, 49, 50, 51, 52, 53] (by decide +kernel) (by decide +kernel)
set_option maxRecDepth 20000 in
theorem gX7_count_X5_pressed : GoodIn wsX7_count (wsV RX7 261 RX5 yX5_pressed wsX5_pressed) := goodIn_app (goodIn_of _ (by decide +kernel)) ggX7_count_X5_pressed
set_option maxRecDepth 20000 in
theorem ggX7_count_X4_lostOnes : GoodIn wsX7_count wsX4_lostOnes := goodIn_r _ [19, 20, 21, 22, 61, 62, 63, 47, 48, 49, 50, 51, 52, 53] (by decide +kernel) (by decide +kernel)
set_option maxRecDepth 20000 in
theorem gX7_count_X4_lostOnes : GoodIn wsX7_count (wsV RX7 284 RX4 yX4_lostOnes wsX4_lostOnes) := goodIn_app (goodIn_of _ (by decide +kernel)) ggX7_count_X4_lostOnes
set_option maxRecDepth 20000 in
theorem ggX7_count_X5_leftTicks : GoodIn wsX7_count wsX5_leftTicks := goodIn_r _ [26, 13, 27, 28, 47, 48, 49, 50, 51, 52, 53] (by decide +kernel) (by decide +kernel)
set_option maxRecDepth 20000 in
theorem gX7_count_X5_leftTicks : GoodIn wsX7_count (wsV RX7 287 RX5 yX5_leftTicks wsX5_leftTicks) := goodIn_app (goodIn_of _ (by decide +kernel)) ggX7_count_X5_leftTicks
set_option maxRecDepth 20000 in
theorem ggX7_count_X7_slotsKept : GoodIn wsX7_count wsX7_slotsKept := goodIn_r _ [33, 34, 35, 36, 37, 38, 39, 40, 41, 42, 43, 44, 45, 46] (by decide +kernel) (by decide +kernel)
set_option maxRecDepth 20000 in
theorem gX7_count_X7_slotsKept : GoodIn wsX7_count (wsV RX7 290 RX7 yX7_slotsKept wsX7_slotsKept) := goodIn_app (goodIn_of _ (by decide +kernel)) ggX7_count_X7_slotsKept
theorem dX7_count_0 : decode cX7_count 0 = .ok (.iload_n 1, 1) := by decide +kernel
theorem dX7_count_1 : decode cX7_count 1 = .ok (.tableswitch 108 0 7 #[47, 55, 63, 71, 79, 87, 95, 103], 47) := by decide +kernel
theorem dX7_count_48 : decode cX7_count 48 = .ok (.aload_n 0, 1) := by decide +kernel
theorem dX7_count_49 : decode cX7_count 49 = .ok (.getfield 10, 3) := by decide +kernel
theorem dX7_count_52 : decode cX7_count 52 = .ok (.getfield 123, 3) := by decide +kernel
theorem dX7_count_55 : decode cX7_count 55 = .ok (.ireturn, 1) := by decide +kernel
theorem dX7_count_56 : decode cX7_count 56 = .ok (.aload_n 0, 1) := by decide +kernel
theorem dX7_count_57 : decode cX7_count 57 = .ok (.getfield 10, 3) := by decide +kernel
theorem dX7_count_60 : decode cX7_count 60 = .ok (.getfield 209, 3) := by decide +kernel
theorem dX7_count_63 : decode cX7_count 63 = .ok (.ireturn, 1) := by decide +kernel
theorem dX7_count_64 : decode cX7_count 64 = .ok (.aload_n 0, 1) := by decide +kernel
theorem dX7_count_65 : decode cX7_count 65 = .ok (.getfield 10, 3) := by decide +kernel
theorem dX7_count_68 : decode cX7_count 68 = .ok (.getfield 203, 3) := by decide +kernel
theorem dX7_count_71 : decode cX7_count 71 = .ok (.ireturn, 1) := by decide +kernel
theorem dX7_count_72 : decode cX7_count 72 = .ok (.aload_n 0, 1) := by decide +kernel
theorem dX7_count_73 : decode cX7_count 73 = .ok (.getfield 10, 3) := by decide +kernel
theorem dX7_count_76 : decode cX7_count 76 = .ok (.invokevirtual 261, 3) := by decide +kernel
theorem dX7_count_79 : decode cX7_count 79 = .ok (.ireturn, 1) := by decide +kernel
theorem dX7_count_80 : decode cX7_count 80 = .ok (.aload_n 0, 1) := by decide +kernel
theorem dX7_count_81 : decode cX7_count 81 = .ok (.getfield 21, 3) := by decide +kernel
theorem dX7_count_84 : decode cX7_count 84 = .ok (.invokevirtual 284, 3) := by decide +kernel
theorem dX7_count_87 : decode cX7_count 87 = .ok (.ireturn, 1) := by decide +kernel
theorem dX7_count_88 : decode cX7_count 88 = .ok (.aload_n 0, 1) := by decide +kernel
theorem dX7_count_89 : decode cX7_count 89 = .ok (.getfield 10, 3) := by decide +kernel
theorem dX7_count_92 : decode cX7_count 92 = .ok (.invokevirtual 287, 3) := by decide +kernel
theorem dX7_count_95 : decode cX7_count 95 = .ok (.ireturn, 1) := by decide +kernel
theorem dX7_count_96 : decode cX7_count 96 = .ok (.aload_n 0, 1) := by decide +kernel
theorem dX7_count_97 : decode cX7_count 97 = .ok (.getfield 59, 3) := by decide +kernel
theorem dX7_count_100 : decode cX7_count 100 = .ok (.getfield 221, 3) := by decide +kernel
theorem dX7_count_103 : decode cX7_count 103 = .ok (.ireturn, 1) := by decide +kernel
theorem dX7_count_104 : decode cX7_count 104 = .ok (.aload_n 0, 1) := by decide +kernel
theorem dX7_count_105 : decode cX7_count 105 = .ok (.invokevirtual 290, 3) := by decide +kernel
theorem dX7_count_108 : decode cX7_count 108 = .ok (.ireturn, 1) := by decide +kernel
theorem dX7_count_109 : decode cX7_count 109 = .ok (.bipush (-2), 2) := by decide +kernel
theorem dX7_count_111 : decode cX7_count 111 = .ok (.ireturn, 1) := by decide +kernel
theorem dX7_isHand_0 : decode cX7_isHand 0 = .ok (.iload_n 1, 1) := by decide +kernel
theorem dX7_isHand_1 : decode cX7_isHand 1 = .ok (.ifCond .lt 18, 3) := by decide +kernel
theorem dX7_isHand_4 : decode cX7_isHand 4 = .ok (.iload_n 1, 1) := by decide +kernel
theorem dX7_isHand_5 : decode cX7_isHand 5 = .ok (.aload_n 0, 1) := by decide +kernel
theorem dX7_isHand_6 : decode cX7_isHand 6 = .ok (.getfield 10, 3) := by decide +kernel
theorem dX7_isHand_9 : decode cX7_isHand 9 = .ok (.getfield 123, 3) := by decide +kernel
theorem dX7_isHand_12 : decode cX7_isHand 12 = .ok (.if_icmp .ge 7, 3) := by decide +kernel
theorem dX7_isHand_15 : decode cX7_isHand 15 = .ok (.iconst 1, 1) := by decide +kernel
theorem dX7_isHand_16 : decode cX7_isHand 16 = .ok (.goto 4, 3) := by decide +kernel
theorem dX7_isHand_19 : decode cX7_isHand 19 = .ok (.iconst 0, 1) := by decide +kernel
theorem dX7_isHand_20 : decode cX7_isHand 20 = .ok (.ireturn, 1) := by decide +kernel
theorem dX7_isTick_0 : decode cX7_isTick 0 = .ok (.iload_n 0, 1) := by decide +kernel
theorem dX7_isTick_1 : decode cX7_isTick 1 = .ok (.ifCond .lt 13, 3) := by decide +kernel
theorem dX7_isTick_4 : decode cX7_isTick 4 = .ok (.iload_n 0, 1) := by decide +kernel
theorem dX7_isTick_5 : decode cX7_isTick 5 = .ok (.bipush 100, 2) := by decide +kernel
theorem dX7_isTick_7 : decode cX7_isTick 7 = .ok (.if_icmp .ge 7, 3) := by decide +kernel
theorem dX7_isTick_10 : decode cX7_isTick 10 = .ok (.iconst 1, 1) := by decide +kernel
theorem dX7_isTick_11 : decode cX7_isTick 11 = .ok (.goto 4, 3) := by decide +kernel
theorem dX7_isTick_14 : decode cX7_isTick 14 = .ok (.iconst 0, 1) := by decide +kernel
theorem dX7_isTick_15 : decode cX7_isTick 15 = .ok (.ireturn, 1) := by decide +kernel
theorem dX7_isSide_0 : decode cX7_isSide 0 = .ok (.iload_n 0, 1) := by decide +kernel
theorem dX7_isSide_1 : decode cX7_isSide 1 = .ok (.iconst 3, 1) := by decide +kernel
theorem dX7_isSide_2 : decode cX7_isSide 2 = .ok (.if_icmp .lt 13, 3) := by decide +kernel
theorem dX7_isSide_5 : decode cX7_isSide 5 = .ok (.iload_n 0, 1) := by decide +kernel
theorem dX7_isSide_6 : decode cX7_isSide 6 = .ok (.bipush 9, 2) := by decide +kernel
theorem dX7_isSide_8 : decode cX7_isSide 8 = .ok (.if_icmp .gt 7, 3) := by decide +kernel
theorem dX7_isSide_11 : decode cX7_isSide 11 = .ok (.iconst 1, 1) := by decide +kernel
theorem dX7_isSide_12 : decode cX7_isSide 12 = .ok (.goto 4, 3) := by decide +kernel
theorem dX7_isSide_15 : decode cX7_isSide 15 = .ok (.iconst 0, 1) := by decide +kernel
theorem dX7_isSide_16 : decode cX7_isSide 16 = .ok (.ireturn, 1) := by decide +kernel
theorem dX7_isPress_0 : decode cX7_isPress 0 = .ok (.iload_n 0, 1) := by decide +kernel
theorem dX7_isPress_1 : decode cX7_isPress 1 = .ok (.ifCond .lt 12, 3) := by decide +kernel
theorem dX7_isPress_4 : decode cX7_isPress 4 = .ok (.iload_n 0, 1) := by decide +kernel
theorem dX7_isPress_5 : decode cX7_isPress 5 = .ok (.iconst 5, 1) := by decide +kernel
theorem dX7_isPress_6 : decode cX7_isPress 6 = .ok (.if_icmp .gt 7, 3) := by decide +kernel
theorem dX7_isPress_9 : decode cX7_isPress 9 = .ok (.iconst 1, 1) := by decide +kernel
theorem dX7_isPress_10 : decode cX7_isPress 10 = .ok (.goto 4, 3) := by decide +kernel
theorem dX7_isPress_13 : decode cX7_isPress 13 = .ok (.iconst 0, 1) := by decide +kernel
theorem dX7_isPress_14 : decode cX7_isPress 14 = .ok (.ireturn, 1) := by decide +kernel
theorem dX7_isPower_0 : decode cX7_isPower 0 = .ok (.iload_n 0, 1) := by decide +kernel
theorem dX7_isPower_1 : decode cX7_isPower 1 = .ok (.getstatic 92, 3) := by decide +kernel
theorem dX7_isPower_4 : decode cX7_isPower 4 = .ok (.iconst 0, 1) := by decide +kernel
theorem dX7_isPower_5 : decode cX7_isPower 5 = .ok (.iaload, 1) := by decide +kernel
theorem dX7_isPower_6 : decode cX7_isPower 6 = .ok (.if_icmp .lt 16, 3) := by decide +kernel
theorem dX7_isPower_9 : decode cX7_isPower 9 = .ok (.iload_n 0, 1) := by decide +kernel
theorem dX7_isPower_10 : decode cX7_isPower 10 = .ok (.getstatic 95, 3) := by decide +kernel
theorem dX7_isPower_13 : decode cX7_isPower 13 = .ok (.iconst 0, 1) := by decide +kernel
theorem dX7_isPower_14 : decode cX7_isPower 14 = .ok (.iaload, 1) := by decide +kernel
theorem dX7_isPower_15 : decode cX7_isPower 15 = .ok (.if_icmp .gt 7, 3) := by decide +kernel
theorem dX7_isPower_18 : decode cX7_isPower 18 = .ok (.iconst 1, 1) := by decide +kernel
theorem dX7_isPower_19 : decode cX7_isPower 19 = .ok (.goto 4, 3) := by decide +kernel
theorem dX7_isPower_22 : decode cX7_isPower 22 = .ok (.iconst 0, 1) := by decide +kernel
theorem dX7_isPower_23 : decode cX7_isPower 23 = .ok (.ireturn, 1) := by decide +kernel
theorem dX7_isShore_0 : decode cX7_isShore 0 = .ok (.iload_n 0, 1) := by decide +kernel
theorem dX7_isShore_1 : decode cX7_isShore 1 = .ok (.ifCond .lt 12, 3) := by decide +kernel
theorem dX7_isShore_4 : decode cX7_isShore 4 = .ok (.iload_n 0, 1) := by decide +kernel
theorem dX7_isShore_5 : decode cX7_isShore 5 = .ok (.iconst 4, 1) := by decide +kernel
theorem dX7_isShore_6 : decode cX7_isShore 6 = .ok (.if_icmp .ge 7, 3) := by decide +kernel
theorem dX7_isShore_9 : decode cX7_isShore 9 = .ok (.iconst 1, 1) := by decide +kernel
theorem dX7_isShore_10 : decode cX7_isShore 10 = .ok (.goto 4, 3) := by decide +kernel
theorem dX7_isShore_13 : decode cX7_isShore 13 = .ok (.iconst 0, 1) := by decide +kernel
theorem dX7_isShore_14 : decode cX7_isShore 14 = .ok (.ireturn, 1) := by decide +kernel
theorem dX7_isSlot_0 : decode cX7_isSlot 0 = .ok (.iload_n 0, 1) := by decide +kernel
theorem dX7_isSlot_1 : decode cX7_isSlot 1 = .ok (.ifCond .lt 12, 3) := by decide +kernel
theorem dX7_isSlot_4 : decode cX7_isSlot 4 = .ok (.iload_n 0, 1) := by decide +kernel
theorem dX7_isSlot_5 : decode cX7_isSlot 5 = .ok (.iconst 4, 1) := by decide +kernel
theorem dX7_isSlot_6 : decode cX7_isSlot 6 = .ok (.if_icmp .ge 7, 3) := by decide +kernel
theorem dX7_isSlot_9 : decode cX7_isSlot 9 = .ok (.iconst 1, 1) := by decide +kernel
theorem dX7_isSlot_10 : decode cX7_isSlot 10 = .ok (.goto 4, 3) := by decide +kernel
theorem dX7_isSlot_13 : decode cX7_isSlot 13 = .ok (.iconst 0, 1) := by decide +kernel
theorem dX7_isSlot_14 : decode cX7_isSlot 14 = .ok (.ireturn, 1) := by decide +kernel
theorem dX7_columnOf_0 : decode cX7_columnOf 0 = .ok (.iload_n 0, 1) := by decide +kernel
theorem dX7_columnOf_1 : decode cX7_columnOf 1 = .ok (.bipush 6, 2) := by decide +kernel
theorem dX7_columnOf_3 : decode cX7_columnOf 3 = .ok (.if_icmp .eq 12, 3) := by decide +kernel
theorem dX7_columnOf_6 : decode cX7_columnOf 6 = .ok (.iload_n 0, 1) := by decide +kernel
theorem dX7_columnOf_7 : decode cX7_columnOf 7 = .ok (.ifCond .lt 10, 3) := by decide +kernel
theorem dX7_columnOf_10 : decode cX7_columnOf 10 = .ok (.iload_n 0, 1) := by decide +kernel
theorem dX7_columnOf_11 : decode cX7_columnOf 11 = .ok (.iload_n 1, 1) := by decide +kernel
theorem dX7_columnOf_12 : decode cX7_columnOf 12 = .ok (.if_icmp .ge 5, 3) := by decide +kernel
theorem dX7_columnOf_15 : decode cX7_columnOf 15 = .ok (.iload_n 0, 1) := by decide +kernel
theorem dX7_columnOf_16 : decode cX7_columnOf 16 = .ok (.ireturn, 1) := by decide +kernel
theorem dX7_columnOf_17 : decode cX7_columnOf 17 = .ok (.iload_n 0, 1) := by decide +kernel
theorem dX7_columnOf_18 : decode cX7_columnOf 18 = .ok (.bipush 10, 2) := by decide +kernel
theorem dX7_columnOf_20 : decode cX7_columnOf 20 = .ok (.if_icmp .lt 19, 3) := by decide +kernel
theorem dX7_columnOf_23 : decode cX7_columnOf 23 = .ok (.iload_n 0, 1) := by decide +kernel
theorem dX7_columnOf_24 : decode cX7_columnOf 24 = .ok (.bipush 10, 2) := by decide +kernel
theorem dX7_columnOf_26 : decode cX7_columnOf 26 = .ok (.iload_n 1, 1) := by decide +kernel
theorem dX7_columnOf_27 : decode cX7_columnOf 27 = .ok (.iadd, 1) := by decide +kernel
theorem dX7_columnOf_28 : decode cX7_columnOf 28 = .ok (.if_icmp .ge 11, 3) := by decide +kernel
theorem dX7_columnOf_31 : decode cX7_columnOf 31 = .ok (.iload_n 0, 1) := by decide +kernel
theorem dX7_columnOf_32 : decode cX7_columnOf 32 = .ok (.bipush 10, 2) := by decide +kernel
theorem dX7_columnOf_34 : decode cX7_columnOf 34 = .ok (.isub, 1) := by decide +kernel
theorem dX7_columnOf_35 : decode cX7_columnOf 35 = .ok (.bipush 7, 2) := by decide +kernel
theorem dX7_columnOf_37 : decode cX7_columnOf 37 = .ok (.iadd, 1) := by decide +kernel
theorem dX7_columnOf_38 : decode cX7_columnOf 38 = .ok (.ireturn, 1) := by decide +kernel
theorem dX7_columnOf_39 : decode cX7_columnOf 39 = .ok (.iconst (-1), 1) := by decide +kernel
theorem dX7_columnOf_40 : decode cX7_columnOf 40 = .ok (.ireturn, 1) := by decide +kernel
set_option maxRecDepth 20000 in
theorem ggX7_told_X7_yOf : GoodIn wsX7_told wsX7_yOf := goodIn_r _ [5] (by decide +kernel) (by decide +kernel)
set_option maxRecDepth 20000 in
theorem gX7_told_X7_yOf : GoodIn wsX7_told (va_wsS RX7 293 yX7_yOf wsX7_yOf) := goodIn_app (goodIn_of _ (by decide +kernel)) ggX7_told_X7_yOf
set_option maxRecDepth 20000 in
theorem ggX7_told_X7_xOf : GoodIn wsX7_told wsX7_xOf := goodIn_r _ [8] (by decide +kernel) (by decide +kernel)
set_option maxRecDepth 20000 in
theorem gX7_told_X7_xOf : GoodIn wsX7_told (va_wsS RX7 296 yX7_xOf wsX7_xOf) := goodIn_app (goodIn_of _ (by decide +kernel)) ggX7_told_X7_xOf
theorem dX7_told_0 : decode cX7_told 0 = .ok (.iload_n 2, 1) := by decide +kernel
theorem dX7_told_1 : decode cX7_told 1 = .ok (.bipush 7, 2) := by decide +kernel
theorem dX7_told_3 : decode cX7_told 3 = .ok (.if_icmp .ge 20, 3) := by decide +kernel
theorem dX7_told_6 : decode cX7_told 6 = .ok (.iload_n 1, 1) := by decide +kernel
theorem dX7_told_7 : decode cX7_told 7 = .ok (.invokestatic 293, 3) := by decide +kernel
theorem dX7_told_10 : decode cX7_told 10 = .ok (.aload_n 0, 1) := by decide +kernel
theorem dX7_told_11 : decode cX7_told 11 = .ok (.getfield 209, 3) := by decide +kernel
theorem dX7_told_14 : decode cX7_told 14 = .ok (.imul, 1) := by decide +kernel
theorem dX7_told_15 : decode cX7_told 15 = .ok (.iload_n 1, 1) := by decide +kernel
theorem dX7_told_16 : decode cX7_told 16 = .ok (.invokestatic 296, 3) := by decide +kernel
theorem dX7_told_19 : decode cX7_told 19 = .ok (.iadd, 1) := by decide +kernel
theorem dX7_told_20 : decode cX7_told 20 = .ok (.goto 4, 3) := by decide +kernel
theorem dX7_told_23 : decode cX7_told 23 = .ok (.iload_n 1, 1) := by decide +kernel
theorem dX7_told_24 : decode cX7_told 24 = .ok (.ireturn, 1) := by decide +kernel
theorem dX7_xOf_0 : decode cX7_xOf 0 = .ok (.iload_n 0, 1) := by decide +kernel
theorem dX7_xOf_1 : decode cX7_xOf 1 = .ok (.bipush 15, 2) := by decide +kernel
theorem dX7_xOf_3 : decode cX7_xOf 3 = .ok (.iand, 1) := by decide +kernel
theorem dX7_xOf_4 : decode cX7_xOf 4 = .ok (.ireturn, 1) := by decide +kernel
theorem dX7_yOf_0 : decode cX7_yOf 0 = .ok (.iload_n 0, 1) := by decide +kernel
theorem dX7_yOf_1 : decode cX7_yOf 1 = .ok (.iconst 4, 1) := by decide +kernel
theorem dX7_yOf_2 : decode cX7_yOf 2 = .ok (.ishr, 1) := by decide +kernel
theorem dX7_yOf_3 : decode cX7_yOf 3 = .ok (.ireturn, 1) := by decide +kernel
theorem dX7_spotOf_0 : decode cX7_spotOf 0 = .ok (.iload_n 0, 1) := by decide +kernel
theorem dX7_spotOf_1 : decode cX7_spotOf 1 = .ok (.istore_n 2, 1) := by decide +kernel
theorem dX7_spotOf_2 : decode cX7_spotOf 2 = .ok (.iconst 0, 1) := by decide +kernel
theorem dX7_spotOf_3 : decode cX7_spotOf 3 = .ok (.istore_n 3, 1) := by decide +kernel
theorem dX7_spotOf_4 : decode cX7_spotOf 4 = .ok (.iconst 0, 1) := by decide +kernel
theorem dX7_spotOf_5 : decode cX7_spotOf 5 = .ok (.istore 4, 2) := by decide +kernel
theorem dX7_spotOf_7 : decode cX7_spotOf 7 = .ok (.iload 4, 2) := by decide +kernel
theorem dX7_spotOf_9 : decode cX7_spotOf 9 = .ok (.bipush 9, 2) := by decide +kernel
theorem dX7_spotOf_11 : decode cX7_spotOf 11 = .ok (.if_icmp .ge 21, 3) := by decide +kernel
theorem dX7_spotOf_14 : decode cX7_spotOf 14 = .ok (.iload_n 2, 1) := by decide +kernel
theorem dX7_spotOf_15 : decode cX7_spotOf 15 = .ok (.iload_n 1, 1) := by decide +kernel
theorem dX7_spotOf_16 : decode cX7_spotOf 16 = .ok (.if_icmp .lt 16, 3) := by decide +kernel
theorem dX7_spotOf_19 : decode cX7_spotOf 19 = .ok (.iload_n 2, 1) := by decide +kernel
theorem dX7_spotOf_20 : decode cX7_spotOf 20 = .ok (.iload_n 1, 1) := by decide +kernel
theorem dX7_spotOf_21 : decode cX7_spotOf 21 = .ok (.isub, 1) := by decide +kernel
theorem dX7_spotOf_22 : decode cX7_spotOf 22 = .ok (.istore_n 2, 1) := by decide +kernel
theorem dX7_spotOf_23 : decode cX7_spotOf 23 = .ok (.iinc 3 1, 3) := by decide +kernel
theorem dX7_spotOf_26 : decode cX7_spotOf 26 = .ok (.iinc 4 1, 3) := by decide +kernel
theorem dX7_spotOf_29 : decode cX7_spotOf 29 = .ok (.goto (-22), 3) := by decide +kernel
theorem dX7_spotOf_32 : decode cX7_spotOf 32 = .ok (.bipush 16, 2) := by decide +kernel
theorem dX7_spotOf_34 : decode cX7_spotOf 34 = .ok (.iload_n 3, 1) := by decide +kernel
theorem dX7_spotOf_35 : decode cX7_spotOf 35 = .ok (.imul, 1) := by decide +kernel
theorem dX7_spotOf_36 : decode cX7_spotOf 36 = .ok (.iload_n 2, 1) := by decide +kernel
theorem dX7_spotOf_37 : decode cX7_spotOf 37 = .ok (.iadd, 1) := by decide +kernel
theorem dX7_spotOf_38 : decode cX7_spotOf 38 = .ok (.ireturn, 1) := by decide +kernel
set_option maxRecDepth 20000 in
theorem ggX7_distance_X7_xOf : GoodIn wsX7_distance wsX7_xOf := goodIn_r _ [8] (by decide +kernel) (by decide +kernel)
set_option maxRecDepth 20000 in
theorem gX7_distance_X7_xOf : GoodIn wsX7_distance (va_wsS RX7 296 yX7_xOf wsX7_xOf) := goodIn_app (goodIn_of _ (by decide +kernel)) ggX7_distance_X7_xOf
set_option maxRecDepth 20000 in
theorem ggX7_distance_X7_yOf : GoodIn wsX7_distance wsX7_yOf := goodIn_r _ [11] (by decide +kernel) (by decide +kernel)
set_option maxRecDepth 20000 in
theorem gX7_distance_X7_yOf : GoodIn wsX7_distance (va_wsS RX7 293 yX7_yOf wsX7_yOf) := goodIn_app (goodIn_of _ (by decide +kernel)) ggX7_distance_X7_yOf
theorem dX7_distance_0 : decode cX7_distance 0 = .ok (.iload_n 0, 1) := by decide +kernel
theorem dX7_distance_1 : decode cX7_distance 1 = .ok (.invokestatic 296, 3) := by decide +kernel
theorem dX7_distance_4 : decode cX7_distance 4 = .ok (.iload_n 1, 1) := by decide +kernel
theorem dX7_distance_5 : decode cX7_distance 5 = .ok (.invokestatic 296, 3) := by decide +kernel
theorem dX7_distance_8 : decode cX7_distance 8 = .ok (.isub, 1) := by decide +kernel
theorem dX7_distance_9 : decode cX7_distance 9 = .ok (.invokestatic 299, 3) := by decide +kernel
theorem dX7_distance_12 : decode cX7_distance 12 = .ok (.iload_n 0, 1) := by decide +kernel
theorem dX7_distance_13 : decode cX7_distance 13 = .ok (.invokestatic 293, 3) := by decide +kernel
theorem dX7_distance_16 : decode cX7_distance 16 = .ok (.iload_n 1, 1) := by decide +kernel
theorem dX7_distance_17 : decode cX7_distance 17 = .ok (.invokestatic 293, 3) := by decide +kernel
theorem dX7_distance_20 : decode cX7_distance 20 = .ok (.isub, 1) := by decide +kernel
theorem dX7_distance_21 : decode cX7_distance 21 = .ok (.invokestatic 299, 3) := by decide +kernel
theorem dX7_distance_24 : decode cX7_distance 24 = .ok (.iadd, 1) := by decide +kernel
theorem dX7_distance_25 : decode cX7_distance 25 = .ok (.ireturn, 1) := by decide +kernel
set_option maxRecDepth 20000 in
theorem ggX7_playTrulyTo_X7_setBoardAhead : GoodIn wsX7_playTrulyTo wsX7_setBoardAhead := goodIn_r _ [11, 5, 3, 12, 13, 14, 15, 16, 17, 18, 19, 20, 21, 22, 23, 24, 25, 26, 27, 28, 29, 30, 31, 32, 33, 34, 35, 36, 10, 37, 109, 110, 111, 112, 113, 114, 115, 116, 117, 118, 119, 120, 121, 122, 130, 123, 124, 125, 126, 127, 128, 129] (by decide +kernel) (by decide +kernel)
set_option maxRecDepth 20000 in
theorem gX7_playTrulyTo_X7_setBoardAhead : GoodIn wsX7_playTrulyTo (wsV RX7 305 RX7 yX7_setBoardAhead wsX7_setBoardAhead) := goodIn_app (goodIn_of _ (by decide +kernel)) ggX7_playTrulyTo_X7_setBoardAhead
set_option maxRecDepth 20000 in
theorem ggX7_playTrulyTo_X5_fillPresses : GoodIn wsX7_playTrulyTo wsX5_fillPresses := goodIn_r _ [42, 43, 44, 45, 46, 41, 47, 48, 123, 124, 125, 126, 127, 128, 129] (by decide +kernel) (by decide +kernel)
set_option maxRecDepth 20000 in
theorem gX7_playTrulyTo_X5_fillPresses : GoodIn wsX7_playTrulyTo (wsV RX7 270 RX5 yX5_fillPresses wsX5_fillPresses) := goodIn_app (goodIn_of _ (by decide +kernel)) ggX7_playTrulyTo_X5_fillPresses
set_option maxRecDepth 20000 in
theorem ggX7_playTrulyTo_X0_advance : GoodIn wsX7_playTrulyTo wsX0_advance := goodIn_r _ [52, 29, 53, 54, 55, 41, 56, 57, 58, 59, 60, 61, 26, 62, 28, 63, 64, 65, 66, 67, 68, 69, 70, 71, 10, 72, 73, 74, 75, 76, 77, 78, 79, 80, 81, 82, 83, 84, 85, 86, 30, 31, 87, 88, 89, 90, 91, 92, 93, 94, 95, 96, 97, 98, 99, 100, 101, 102, 103, 104, 123, 124, 125, 126, 127, 128, 129, 130] (by decide +kernel) (by decide +kernel)
set_option maxRecDepth 20000 in
theorem gX7_playTrulyTo_X0_advance : GoodIn wsX7_playTrulyTo (wsV RX7 274 RX0 yX0_advance wsX0_advance) := goodIn_app (goodIn_of _ (by decide +kernel)) ggX7_playTrulyTo_X0_advance
set_option maxRecDepth 20000 in
theorem ggX7_playTrulyTo_X6_save : GoodIn wsX7_playTrulyTo wsX6_save := goodIn_r _ [108, 18, 17, 19, 20, 21, 22, 130, 121, 122] (by decide +kernel) (by decide +kernel)
set_option maxRecDepth 20000 in
theorem gX7_playTrulyTo_X6_save : GoodIn wsX7_playTrulyTo (wsV RX7 309 RX6 yX6_save wsX6_save) := goodIn_app (goodIn_of _ (by decide +kernel)) ggX7_playTrulyTo_X6_save
theorem dX7_playTrulyTo_0 : decode cX7_playTrulyTo 0 = .ok (.aload_n 0, 1) := by decide +kernel
theorem dX7_playTrulyTo_1 : decode cX7_playTrulyTo 1 = .ok (.getfield 28, 3) := by decide +kernel
theorem dX7_playTrulyTo_4 : decode cX7_playTrulyTo 4 = .ok (.getfield 302, 3) := by decide +kernel
theorem dX7_playTrulyTo_7 : decode cX7_playTrulyTo 7 = .ok (.istore_n 2, 1) := by decide +kernel
theorem dX7_playTrulyTo_8 : decode cX7_playTrulyTo 8 = .ok (.iload_n 2, 1) := by decide +kernel
theorem dX7_playTrulyTo_9 : decode cX7_playTrulyTo 9 = .ok (.iload_n 1, 1) := by decide +kernel
theorem dX7_playTrulyTo_10 : decode cX7_playTrulyTo 10 = .ok (.if_icmp .le 4, 3) := by decide +kernel
theorem dX7_playTrulyTo_13 : decode cX7_playTrulyTo 13 = .ok (.return_, 1) := by decide +kernel
theorem dX7_playTrulyTo_14 : decode cX7_playTrulyTo 14 = .ok (.aload_n 0, 1) := by decide +kernel
theorem dX7_playTrulyTo_15 : decode cX7_playTrulyTo 15 = .ok (.aload_n 0, 1) := by decide +kernel
theorem dX7_playTrulyTo_16 : decode cX7_playTrulyTo 16 = .ok (.getfield 28, 3) := by decide +kernel
theorem dX7_playTrulyTo_19 : decode cX7_playTrulyTo 19 = .ok (.iload_n 2, 1) := by decide +kernel
theorem dX7_playTrulyTo_20 : decode cX7_playTrulyTo 20 = .ok (.invokevirtual 305, 3) := by decide +kernel
theorem dX7_playTrulyTo_23 : decode cX7_playTrulyTo 23 = .ok (.iload_n 2, 1) := by decide +kernel
theorem dX7_playTrulyTo_24 : decode cX7_playTrulyTo 24 = .ok (.istore_n 3, 1) := by decide +kernel
theorem dX7_playTrulyTo_25 : decode cX7_playTrulyTo 25 = .ok (.iload_n 3, 1) := by decide +kernel
theorem dX7_playTrulyTo_26 : decode cX7_playTrulyTo 26 = .ok (.iload_n 1, 1) := by decide +kernel
theorem dX7_playTrulyTo_27 : decode cX7_playTrulyTo 27 = .ok (.if_icmp .gt 58, 3) := by decide +kernel
theorem dX7_playTrulyTo_30 : decode cX7_playTrulyTo 30 = .ok (.aload_n 0, 1) := by decide +kernel
theorem dX7_playTrulyTo_31 : decode cX7_playTrulyTo 31 = .ok (.getfield 10, 3) := by decide +kernel
theorem dX7_playTrulyTo_34 : decode cX7_playTrulyTo 34 = .ok (.iload_n 3, 1) := by decide +kernel
theorem dX7_playTrulyTo_35 : decode cX7_playTrulyTo 35 = .ok (.aload_n 0, 1) := by decide +kernel
theorem dX7_playTrulyTo_36 : decode cX7_playTrulyTo 36 = .ok (.getfield 45, 3) := by decide +kernel
theorem dX7_playTrulyTo_39 : decode cX7_playTrulyTo 39 = .ok (.invokevirtual 270, 3) := by decide +kernel
theorem dX7_playTrulyTo_42 : decode cX7_playTrulyTo 42 = .ok (.aload_n 0, 1) := by decide +kernel
theorem dX7_playTrulyTo_43 : decode cX7_playTrulyTo 43 = .ok (.getfield 38, 3) := by decide +kernel
theorem dX7_playTrulyTo_46 : decode cX7_playTrulyTo 46 = .ok (.aload_n 0, 1) := by decide +kernel
theorem dX7_playTrulyTo_47 : decode cX7_playTrulyTo 47 = .ok (.getfield 10, 3) := by decide +kernel
theorem dX7_playTrulyTo_50 : decode cX7_playTrulyTo 50 = .ok (.aload_n 0, 1) := by decide +kernel
theorem dX7_playTrulyTo_51 : decode cX7_playTrulyTo 51 = .ok (.getfield 10, 3) := by decide +kernel
theorem dX7_playTrulyTo_54 : decode cX7_playTrulyTo 54 = .ok (.getfield 98, 3) := by decide +kernel
theorem dX7_playTrulyTo_57 : decode cX7_playTrulyTo 57 = .ok (.iconst 0, 1) := by decide +kernel
theorem dX7_playTrulyTo_58 : decode cX7_playTrulyTo 58 = .ok (.iaload, 1) := by decide +kernel
theorem dX7_playTrulyTo_59 : decode cX7_playTrulyTo 59 = .ok (.iload_n 3, 1) := by decide +kernel
theorem dX7_playTrulyTo_60 : decode cX7_playTrulyTo 60 = .ok (.aload_n 0, 1) := by decide +kernel
theorem dX7_playTrulyTo_61 : decode cX7_playTrulyTo 61 = .ok (.getfield 45, 3) := by decide +kernel
theorem dX7_playTrulyTo_64 : decode cX7_playTrulyTo 64 = .ok (.invokevirtual 274, 3) := by decide +kernel
theorem dX7_playTrulyTo_67 : decode cX7_playTrulyTo 67 = .ok (.aload_n 0, 1) := by decide +kernel
theorem dX7_playTrulyTo_68 : decode cX7_playTrulyTo 68 = .ok (.getfield 28, 3) := by decide +kernel
theorem dX7_playTrulyTo_71 : decode cX7_playTrulyTo 71 = .ok (.iload_n 3, 1) := by decide +kernel
theorem dX7_playTrulyTo_72 : decode cX7_playTrulyTo 72 = .ok (.aload_n 0, 1) := by decide +kernel
theorem dX7_playTrulyTo_73 : decode cX7_playTrulyTo 73 = .ok (.getfield 38, 3) := by decide +kernel
theorem dX7_playTrulyTo_76 : decode cX7_playTrulyTo 76 = .ok (.invokevirtual 309, 3) := by decide +kernel
theorem dX7_playTrulyTo_79 : decode cX7_playTrulyTo 79 = .ok (.iinc 3 1, 3) := by decide +kernel
theorem dX7_playTrulyTo_82 : decode cX7_playTrulyTo 82 = .ok (.goto (-57), 3) := by decide +kernel
theorem dX7_playTrulyTo_85 : decode cX7_playTrulyTo 85 = .ok (.aload_n 0, 1) := by decide +kernel
theorem dX7_playTrulyTo_86 : decode cX7_playTrulyTo 86 = .ok (.getfield 28, 3) := by decide +kernel
theorem dX7_playTrulyTo_89 : decode cX7_playTrulyTo 89 = .ok (.iload_n 1, 1) := by decide +kernel
theorem dX7_playTrulyTo_90 : decode cX7_playTrulyTo 90 = .ok (.iconst 1, 1) := by decide +kernel
theorem dX7_playTrulyTo_91 : decode cX7_playTrulyTo 91 = .ok (.iadd, 1) := by decide +kernel
theorem dX7_playTrulyTo_92 : decode cX7_playTrulyTo 92 = .ok (.putfield 302, 3) := by decide +kernel
theorem dX7_playTrulyTo_95 : decode cX7_playTrulyTo 95 = .ok (.return_, 1) := by decide +kernel
set_option maxRecDepth 20000 in
theorem ggX7_showFrom_X7_setBoardAhead : GoodIn wsX7_showFrom wsX7_setBoardAhead := goodIn_r _ [12, 7, 2, 13, 14, 15, 16, 17, 18, 19, 20, 21, 22, 23, 24, 25, 26, 27, 28, 29, 30, 31, 32, 33, 34, 35, 36, 37, 11, 38, 126, 127, 128, 129, 130, 131, 132, 133, 134, 135, 136, 137, 145, 146, 147, 138, 139, 140, 141, 142, 143, 144] (by decide +kernel) (by decide +kernel)
set_option maxRecDepth 20000 in
theorem gX7_showFrom_X7_setBoardAhead : GoodIn wsX7_showFrom (wsV RX7 305 RX7 yX7_setBoardAhead wsX7_setBoardAhead) := goodIn_app (goodIn_of _ (by decide +kernel)) ggX7_showFrom_X7_setBoardAhead
set_option maxRecDepth 20000 in
theorem ggX7_showFrom_X4_taken : GoodIn wsX7_showFrom wsX4_taken := goodIn_r _ [43, 44, 45, 46, 47, 42, 48, 49, 50, 51, 52, 53, 54, 55, 56, 57, 58, 59, 60, 61, 62, 63, 64, 65, 66, 67, 68, 69, 70, 148, 149, 150, 138, 139, 140, 141, 142, 143, 144] (by decide +kernel) (by decide +kernel)
set_option maxRecDepth 20000 in
theorem gX7_showFrom_X4_taken : GoodIn wsX7_showFrom (wsV RX7 169 RX4 yX4_taken wsX4_taken) := goodIn_app (goodIn_of _ (by decide +kernel)) ggX7_showFrom_X4_taken
set_option maxRecDepth 20000 in
theorem ggX7_showFrom_X0_advance : GoodIn wsX7_showFrom wsX0_advance := goodIn_r _ [74, 30, 75, 50, 51, 52, 53, 54, 55, 76, 77, 78, 27, 79, 29, 80, 81, 82, 83, 84, 85, 86, 87, 88, 11, 89, 90, 91, 92, 93, 94, 95, 96, 97, 98, 99, 100, 101, 102, 103, 31, 32, 104, 105, 106, 107, 108, 109, 110, 111, 112, 113, 114, 115, 116, 117, 118, 119, 120, 121, 138, 139, 140, 141, 142, 143, 144, 147] (by decide +kernel) (by decide +kernel)
set_option maxRecDepth 20000 in
theorem gX7_showFrom_X0_advance : GoodIn wsX7_showFrom (wsV RX7 274 RX0 yX0_advance wsX0_advance) := goodIn_app (goodIn_of _ (by decide +kernel)) ggX7_showFrom_X0_advance
set_option maxRecDepth 20000 in
theorem ggX7_showFrom_X6_save : GoodIn wsX7_showFrom wsX6_save := goodIn_r _ [125, 19, 18, 20, 21, 22, 23, 147, 145, 146] (by decide +kernel) (by decide +kernel)
set_option maxRecDepth 20000 in
theorem gX7_showFrom_X6_save : GoodIn wsX7_showFrom (wsV RX7 309 RX6 yX6_save wsX6_save) := goodIn_app (goodIn_of _ (by decide +kernel)) ggX7_showFrom_X6_save
theorem dX7_showFrom_0 : decode cX7_showFrom 0 = .ok (.aload_n 0, 1) := by decide +kernel
theorem dX7_showFrom_1 : decode cX7_showFrom 1 = .ok (.aload_n 0, 1) := by decide +kernel
theorem dX7_showFrom_2 : decode cX7_showFrom 2 = .ok (.getfield 32, 3) := by decide +kernel
theorem dX7_showFrom_5 : decode cX7_showFrom 5 = .ok (.iload_n 3, 1) := by decide +kernel
theorem dX7_showFrom_6 : decode cX7_showFrom 6 = .ok (.invokevirtual 305, 3) := by decide +kernel
theorem dX7_showFrom_9 : decode cX7_showFrom 9 = .ok (.iload_n 3, 1) := by decide +kernel
theorem dX7_showFrom_10 : decode cX7_showFrom 10 = .ok (.istore 4, 2) := by decide +kernel
theorem dX7_showFrom_12 : decode cX7_showFrom 12 = .ok (.iload 4, 2) := by decide +kernel
theorem dX7_showFrom_14 : decode cX7_showFrom 14 = .ok (.iload_n 2, 1) := by decide +kernel
theorem dX7_showFrom_15 : decode cX7_showFrom 15 = .ok (.if_icmp .gt 98, 3) := by decide +kernel
theorem dX7_showFrom_18 : decode cX7_showFrom 18 = .ok (.iconst 0, 1) := by decide +kernel
theorem dX7_showFrom_19 : decode cX7_showFrom 19 = .ok (.istore 5, 2) := by decide +kernel
theorem dX7_showFrom_21 : decode cX7_showFrom 21 = .ok (.iload 5, 2) := by decide +kernel
theorem dX7_showFrom_23 : decode cX7_showFrom 23 = .ok (.aload_n 0, 1) := by decide +kernel
theorem dX7_showFrom_24 : decode cX7_showFrom 24 = .ok (.getfield 10, 3) := by decide +kernel
theorem dX7_showFrom_27 : decode cX7_showFrom 27 = .ok (.getfield 123, 3) := by decide +kernel
theorem dX7_showFrom_30 : decode cX7_showFrom 30 = .ok (.if_icmp .ge 38, 3) := by decide +kernel
theorem dX7_showFrom_33 : decode cX7_showFrom 33 = .ok (.aload_n 0, 1) := by decide +kernel
theorem dX7_showFrom_34 : decode cX7_showFrom 34 = .ok (.getfield 45, 3) := by decide +kernel
theorem dX7_showFrom_37 : decode cX7_showFrom 37 = .ok (.iload 5, 2) := by decide +kernel
theorem dX7_showFrom_39 : decode cX7_showFrom 39 = .ok (.aload_n 0, 1) := by decide +kernel
theorem dX7_showFrom_40 : decode cX7_showFrom 40 = .ok (.getfield 21, 3) := by decide +kernel
theorem dX7_showFrom_43 : decode cX7_showFrom 43 = .ok (.aload_n 0, 1) := by decide +kernel
theorem dX7_showFrom_44 : decode cX7_showFrom 44 = .ok (.getfield 10, 3) := by decide +kernel
theorem dX7_showFrom_47 : decode cX7_showFrom 47 = .ok (.getfield 98, 3) := by decide +kernel
theorem dX7_showFrom_50 : decode cX7_showFrom 50 = .ok (.iconst 3, 1) := by decide +kernel
theorem dX7_showFrom_51 : decode cX7_showFrom 51 = .ok (.iaload, 1) := by decide +kernel
theorem dX7_showFrom_52 : decode cX7_showFrom 52 = .ok (.iload_n 1, 1) := by decide +kernel
theorem dX7_showFrom_53 : decode cX7_showFrom 53 = .ok (.iload_n 2, 1) := by decide +kernel
theorem dX7_showFrom_54 : decode cX7_showFrom 54 = .ok (.iload 5, 2) := by decide +kernel
theorem dX7_showFrom_56 : decode cX7_showFrom 56 = .ok (.iload 4, 2) := by decide +kernel
theorem dX7_showFrom_58 : decode cX7_showFrom 58 = .ok (.invokevirtual 169, 3) := by decide +kernel
theorem dX7_showFrom_61 : decode cX7_showFrom 61 = .ok (.iastore, 1) := by decide +kernel
theorem dX7_showFrom_62 : decode cX7_showFrom 62 = .ok (.iinc 5 1, 3) := by decide +kernel
theorem dX7_showFrom_65 : decode cX7_showFrom 65 = .ok (.goto (-44), 3) := by decide +kernel
theorem dX7_showFrom_68 : decode cX7_showFrom 68 = .ok (.aload_n 0, 1) := by decide +kernel
theorem dX7_showFrom_69 : decode cX7_showFrom 69 = .ok (.getfield 38, 3) := by decide +kernel
theorem dX7_showFrom_72 : decode cX7_showFrom 72 = .ok (.aload_n 0, 1) := by decide +kernel
theorem dX7_showFrom_73 : decode cX7_showFrom 73 = .ok (.getfield 10, 3) := by decide +kernel
theorem dX7_showFrom_76 : decode cX7_showFrom 76 = .ok (.aload_n 0, 1) := by decide +kernel
theorem dX7_showFrom_77 : decode cX7_showFrom 77 = .ok (.getfield 10, 3) := by decide +kernel
theorem dX7_showFrom_80 : decode cX7_showFrom 80 = .ok (.getfield 98, 3) := by decide +kernel
theorem dX7_showFrom_83 : decode cX7_showFrom 83 = .ok (.iconst 0, 1) := by decide +kernel
theorem dX7_showFrom_84 : decode cX7_showFrom 84 = .ok (.iaload, 1) := by decide +kernel
theorem dX7_showFrom_85 : decode cX7_showFrom 85 = .ok (.iload 4, 2) := by decide +kernel
theorem dX7_showFrom_87 : decode cX7_showFrom 87 = .ok (.aload_n 0, 1) := by decide +kernel
theorem dX7_showFrom_88 : decode cX7_showFrom 88 = .ok (.getfield 45, 3) := by decide +kernel
theorem dX7_showFrom_91 : decode cX7_showFrom 91 = .ok (.invokevirtual 274, 3) := by decide +kernel
theorem dX7_showFrom_94 : decode cX7_showFrom 94 = .ok (.aload_n 0, 1) := by decide +kernel
theorem dX7_showFrom_95 : decode cX7_showFrom 95 = .ok (.getfield 32, 3) := by decide +kernel
theorem dX7_showFrom_98 : decode cX7_showFrom 98 = .ok (.iload 4, 2) := by decide +kernel
theorem dX7_showFrom_100 : decode cX7_showFrom 100 = .ok (.aload_n 0, 1) := by decide +kernel
theorem dX7_showFrom_101 : decode cX7_showFrom 101 = .ok (.getfield 38, 3) := by decide +kernel
theorem dX7_showFrom_104 : decode cX7_showFrom 104 = .ok (.invokevirtual 309, 3) := by decide +kernel
theorem dX7_showFrom_107 : decode cX7_showFrom 107 = .ok (.iinc 4 1, 3) := by decide +kernel
theorem dX7_showFrom_110 : decode cX7_showFrom 110 = .ok (.goto (-98), 3) := by decide +kernel
theorem dX7_showFrom_113 : decode cX7_showFrom 113 = .ok (.return_, 1) := by decide +kernel
set_option maxRecDepth 20000 in
theorem ggX7_setBoardAhead_X6_load : GoodIn wsX7_setBoardAhead wsX6_load := goodIn_r _ [7, 8, 9, 10, 11, 12, 13, 42, 43, 44] (by decide +kernel) (by decide +kernel)
set_option maxRecDepth 20000 in
theorem gX7_setBoardAhead_X6_load : GoodIn wsX7_setBoardAhead (wsV RX7 140 RX6 yX6_load wsX6_load) := goodIn_app (goodIn_of _ (by decide +kernel)) ggX7_setBoardAhead_X6_load
set_option maxRecDepth 20000 in
theorem ggX7_setBoardAhead_X0_start : GoodIn wsX7_setBoardAhead wsX0_start := goodIn_r _ [18, 19, 20, 21, 22, 23, 24, 25, 26, 27, 28, 29, 44, 45, 46, 47, 48, 49, 50, 51] (by decide +kernel) (by decide +kernel)
set_option maxRecDepth 20000 in
theorem gX7_setBoardAhead_X0_start : GoodIn wsX7_setBoardAhead (wsV RX7 267 RX0 yX0_start wsX0_start) := goodIn_app (goodIn_of _ (by decide +kernel)) ggX7_setBoardAhead_X0_start
theorem dX7_setBoardAhead_0 : decode cX7_setBoardAhead 0 = .ok (.iload_n 2, 1) := by decide +kernel
theorem dX7_setBoardAhead_1 : decode cX7_setBoardAhead 1 = .ok (.ifCond .le 17, 3) := by decide +kernel
theorem dX7_setBoardAhead_4 : decode cX7_setBoardAhead 4 = .ok (.aload_n 1, 1) := by decide +kernel
theorem dX7_setBoardAhead_5 : decode cX7_setBoardAhead 5 = .ok (.iload_n 2, 1) := by decide +kernel
theorem dX7_setBoardAhead_6 : decode cX7_setBoardAhead 6 = .ok (.iconst 1, 1) := by decide +kernel
theorem dX7_setBoardAhead_7 : decode cX7_setBoardAhead 7 = .ok (.isub, 1) := by decide +kernel
theorem dX7_setBoardAhead_8 : decode cX7_setBoardAhead 8 = .ok (.aload_n 0, 1) := by decide +kernel
theorem dX7_setBoardAhead_9 : decode cX7_setBoardAhead 9 = .ok (.getfield 38, 3) := by decide +kernel
theorem dX7_setBoardAhead_12 : decode cX7_setBoardAhead 12 = .ok (.invokevirtual 140, 3) := by decide +kernel
theorem dX7_setBoardAhead_15 : decode cX7_setBoardAhead 15 = .ok (.goto 14, 3) := by decide +kernel
theorem dX7_setBoardAhead_18 : decode cX7_setBoardAhead 18 = .ok (.aload_n 0, 1) := by decide +kernel
theorem dX7_setBoardAhead_19 : decode cX7_setBoardAhead 19 = .ok (.getfield 38, 3) := by decide +kernel
theorem dX7_setBoardAhead_22 : decode cX7_setBoardAhead 22 = .ok (.aload_n 0, 1) := by decide +kernel
theorem dX7_setBoardAhead_23 : decode cX7_setBoardAhead 23 = .ok (.getfield 10, 3) := by decide +kernel
theorem dX7_setBoardAhead_26 : decode cX7_setBoardAhead 26 = .ok (.invokevirtual 267, 3) := by decide +kernel
theorem dX7_setBoardAhead_29 : decode cX7_setBoardAhead 29 = .ok (.return_, 1) := by decide +kernel
set_option maxRecDepth 20000 in
theorem ggX7_costOf_X4_goneBack : GoodIn wsX7_costOf wsX4_goneBack := goodIn_r _ [9, 10, 11, 12, 13, 14, 15, 16, 17, 18, 8, 19, 20, 21, 22, 23, 24, 25, 26, 27, 28, 29, 30, 31, 32, 33, 34, 35, 36, 37, 38, 39, 40, 41, 42, 43, 44, 45, 46, 47, 48, 49, 69, 70, 71, 62, 63, 64, 65, 66, 67, 68] (by decide +kernel) (by decide +kernel)
set_option maxRecDepth 20000 in
theorem gX7_costOf_X4_goneBack : GoodIn wsX7_costOf (wsV RX7 176 RX4 yX4_goneBack wsX4_goneBack) := goodIn_app (goodIn_of _ (by decide +kernel)) ggX7_costOf_X4_goneBack
theorem dX7_costOf_0 : decode cX7_costOf 0 = .ok (.iconst 0, 1) := by decide +kernel
theorem dX7_costOf_1 : decode cX7_costOf 1 = .ok (.istore_n 3, 1) := by decide +kernel
theorem dX7_costOf_2 : decode cX7_costOf 2 = .ok (.iconst 0, 1) := by decide +kernel
theorem dX7_costOf_3 : decode cX7_costOf 3 = .ok (.istore 4, 2) := by decide +kernel
theorem dX7_costOf_5 : decode cX7_costOf 5 = .ok (.iload 4, 2) := by decide +kernel
theorem dX7_costOf_7 : decode cX7_costOf 7 = .ok (.aload_n 0, 1) := by decide +kernel
theorem dX7_costOf_8 : decode cX7_costOf 8 = .ok (.getfield 10, 3) := by decide +kernel
theorem dX7_costOf_11 : decode cX7_costOf 11 = .ok (.getfield 123, 3) := by decide +kernel
theorem dX7_costOf_14 : decode cX7_costOf 14 = .ok (.if_icmp .ge 39, 3) := by decide +kernel
theorem dX7_costOf_17 : decode cX7_costOf 17 = .ok (.iconst 0, 1) := by decide +kernel
theorem dX7_costOf_18 : decode cX7_costOf 18 = .ok (.istore 5, 2) := by decide +kernel
theorem dX7_costOf_20 : decode cX7_costOf 20 = .ok (.iload 5, 2) := by decide +kernel
theorem dX7_costOf_22 : decode cX7_costOf 22 = .ok (.iload_n 2, 1) := by decide +kernel
theorem dX7_costOf_23 : decode cX7_costOf 23 = .ok (.if_icmp .gt 24, 3) := by decide +kernel
theorem dX7_costOf_26 : decode cX7_costOf 26 = .ok (.iload_n 3, 1) := by decide +kernel
theorem dX7_costOf_27 : decode cX7_costOf 27 = .ok (.aload_n 0, 1) := by decide +kernel
theorem dX7_costOf_28 : decode cX7_costOf 28 = .ok (.getfield 21, 3) := by decide +kernel
theorem dX7_costOf_31 : decode cX7_costOf 31 = .ok (.iload_n 1, 1) := by decide +kernel
theorem dX7_costOf_32 : decode cX7_costOf 32 = .ok (.iload 4, 2) := by decide +kernel
theorem dX7_costOf_34 : decode cX7_costOf 34 = .ok (.iload 5, 2) := by decide +kernel
theorem dX7_costOf_36 : decode cX7_costOf 36 = .ok (.invokevirtual 176, 3) := by decide +kernel
theorem dX7_costOf_39 : decode cX7_costOf 39 = .ok (.iadd, 1) := by decide +kernel
theorem dX7_costOf_40 : decode cX7_costOf 40 = .ok (.istore_n 3, 1) := by decide +kernel
theorem dX7_costOf_41 : decode cX7_costOf 41 = .ok (.iinc 5 1, 3) := by decide +kernel
theorem dX7_costOf_44 : decode cX7_costOf 44 = .ok (.goto (-24), 3) := by decide +kernel
theorem dX7_costOf_47 : decode cX7_costOf 47 = .ok (.iinc 4 1, 3) := by decide +kernel
theorem dX7_costOf_50 : decode cX7_costOf 50 = .ok (.goto (-45), 3) := by decide +kernel
theorem dX7_costOf_53 : decode cX7_costOf 53 = .ok (.aload_n 0, 1) := by decide +kernel
theorem dX7_costOf_54 : decode cX7_costOf 54 = .ok (.getfield 10, 3) := by decide +kernel
theorem dX7_costOf_57 : decode cX7_costOf 57 = .ok (.getfield 98, 3) := by decide +kernel
theorem dX7_costOf_60 : decode cX7_costOf 60 = .ok (.iconst 4, 1) := by decide +kernel
theorem dX7_costOf_61 : decode cX7_costOf 61 = .ok (.iaload, 1) := by decide +kernel
theorem dX7_costOf_62 : decode cX7_costOf 62 = .ok (.iload_n 1, 1) := by decide +kernel
theorem dX7_costOf_63 : decode cX7_costOf 63 = .ok (.imul, 1) := by decide +kernel
theorem dX7_costOf_64 : decode cX7_costOf 64 = .ok (.aload_n 0, 1) := by decide +kernel
theorem dX7_costOf_65 : decode cX7_costOf 65 = .ok (.getfield 10, 3) := by decide +kernel
theorem dX7_costOf_68 : decode cX7_costOf 68 = .ok (.getfield 123, 3) := by decide +kernel
theorem dX7_costOf_71 : decode cX7_costOf 71 = .ok (.imul, 1) := by decide +kernel
theorem dX7_costOf_72 : decode cX7_costOf 72 = .ok (.iload_n 2, 1) := by decide +kernel
theorem dX7_costOf_73 : decode cX7_costOf 73 = .ok (.iconst 1, 1) := by decide +kernel
theorem dX7_costOf_74 : decode cX7_costOf 74 = .ok (.iadd, 1) := by decide +kernel
theorem dX7_costOf_75 : decode cX7_costOf 75 = .ok (.imul, 1) := by decide +kernel
theorem dX7_costOf_76 : decode cX7_costOf 76 = .ok (.aload_n 0, 1) := by decide +kernel
theorem dX7_costOf_77 : decode cX7_costOf 77 = .ok (.getfield 10, 3) := by decide +kernel
theorem dX7_costOf_80 : decode cX7_costOf 80 = .ok (.getfield 98, 3) := by decide +kernel
theorem dX7_costOf_83 : decode cX7_costOf 83 = .ok (.iconst 5, 1) := by decide +kernel
theorem dX7_costOf_84 : decode cX7_costOf 84 = .ok (.iaload, 1) := by decide +kernel
theorem dX7_costOf_85 : decode cX7_costOf 85 = .ok (.iload_n 3, 1) := by decide +kernel
theorem dX7_costOf_86 : decode cX7_costOf 86 = .ok (.imul, 1) := by decide +kernel
theorem dX7_costOf_87 : decode cX7_costOf 87 = .ok (.iadd, 1) := by decide +kernel
theorem dX7_costOf_88 : decode cX7_costOf 88 = .ok (.ireturn, 1) := by decide +kernel
set_option maxRecDepth 20000 in
theorem ggX7_seesThen_X6_at : GoodIn wsX7_seesThen wsX6_at := goodIn_r _ [8, 9, 43, 44] (by decide +kernel) (by decide +kernel)
set_option maxRecDepth 20000 in
theorem gX7_seesThen_X6_at : GoodIn wsX7_seesThen (wsV RX7 133 RX6 yX6_at wsX6_at) := goodIn_app (goodIn_of _ (by decide +kernel)) ggX7_seesThen_X6_at
set_option maxRecDepth 20000 in
theorem ggX7_seesThen_X7_distance : GoodIn wsX7_seesThen wsX7_distance := goodIn_r _ [13, 14, 15, 16, 17, 18, 19, 12, 20, 21, 22, 23] (by decide +kernel) (by decide +kernel)
set_option maxRecDepth 20000 in
theorem gX7_seesThen_X7_distance : GoodIn wsX7_seesThen (va_wsS RX7 312 yX7_distance wsX7_distance) := goodIn_app (goodIn_of _ (by decide +kernel)) ggX7_seesThen_X7_distance
theorem dX7_seesThen_0 : decode cX7_seesThen 0 = .ok (.aload_n 0, 1) := by decide +kernel
theorem dX7_seesThen_1 : decode cX7_seesThen 1 = .ok (.getfield 28, 3) := by decide +kernel
theorem dX7_seesThen_4 : decode cX7_seesThen 4 = .ok (.iload_n 3, 1) := by decide +kernel
theorem dX7_seesThen_5 : decode cX7_seesThen 5 = .ok (.iload_n 1, 1) := by decide +kernel
theorem dX7_seesThen_6 : decode cX7_seesThen 6 = .ok (.invokevirtual 133, 3) := by decide +kernel
theorem dX7_seesThen_9 : decode cX7_seesThen 9 = .ok (.aload_n 0, 1) := by decide +kernel
theorem dX7_seesThen_10 : decode cX7_seesThen 10 = .ok (.getfield 28, 3) := by decide +kernel
theorem dX7_seesThen_13 : decode cX7_seesThen 13 = .ok (.iload_n 3, 1) := by decide +kernel
theorem dX7_seesThen_14 : decode cX7_seesThen 14 = .ok (.iload_n 2, 1) := by decide +kernel
theorem dX7_seesThen_15 : decode cX7_seesThen 15 = .ok (.invokevirtual 133, 3) := by decide +kernel
theorem dX7_seesThen_18 : decode cX7_seesThen 18 = .ok (.invokestatic 312, 3) := by decide +kernel
theorem dX7_seesThen_21 : decode cX7_seesThen 21 = .ok (.aload_n 0, 1) := by decide +kernel
theorem dX7_seesThen_22 : decode cX7_seesThen 22 = .ok (.getfield 10, 3) := by decide +kernel
theorem dX7_seesThen_25 : decode cX7_seesThen 25 = .ok (.getfield 98, 3) := by decide +kernel
theorem dX7_seesThen_28 : decode cX7_seesThen 28 = .ok (.bipush 6, 2) := by decide +kernel
theorem dX7_seesThen_30 : decode cX7_seesThen 30 = .ok (.iaload, 1) := by decide +kernel
theorem dX7_seesThen_31 : decode cX7_seesThen 31 = .ok (.if_icmp .gt 7, 3) := by decide +kernel
theorem dX7_seesThen_34 : decode cX7_seesThen 34 = .ok (.iconst 1, 1) := by decide +kernel
theorem dX7_seesThen_35 : decode cX7_seesThen 35 = .ok (.goto 4, 3) := by decide +kernel
theorem dX7_seesThen_38 : decode cX7_seesThen 38 = .ok (.iconst 0, 1) := by decide +kernel
theorem dX7_seesThen_39 : decode cX7_seesThen 39 = .ok (.ireturn, 1) := by decide +kernel
set_option maxRecDepth 20000 in
theorem ggX7_thinkTo_X0_start : GoodIn wsX7_thinkTo wsX0_start := goodIn_r _ [13, 14, 15, 16, 17, 18, 19, 20, 21, 22, 23, 24, 79, 80, 81, 82, 83, 84, 85, 86] (by decide +kernel) (by decide +kernel)
set_option maxRecDepth 20000 in
theorem gX7_thinkTo_X0_start : GoodIn wsX7_thinkTo (wsV RX7 267 RX0 yX0_start wsX0_start) := goodIn_app (goodIn_of _ (by decide +kernel)) ggX7_thinkTo_X0_start
set_option maxRecDepth 20000 in
theorem ggX7_thinkTo_X3_setOnly : GoodIn wsX7_thinkTo wsX3_setOnly := goodIn_r _ [29, 30, 31, 19, 20, 21, 32, 23, 33, 34, 35, 87] (by decide +kernel) (by decide +kernel)
set_option maxRecDepth 20000 in
theorem gX7_thinkTo_X3_setOnly : GoodIn wsX7_thinkTo (wsV RX7 315 RX3 yX3_setOnly wsX3_setOnly) := goodIn_app (goodIn_of _ (by decide +kernel)) ggX7_thinkTo_X3_setOnly
set_option maxRecDepth 20000 in
theorem ggX7_thinkTo_X7_seesThen : GoodIn wsX7_thinkTo wsX7_seesThen := goodIn_r _ [39, 5, 2, 8, 40, 41, 42, 43, 44, 45, 46, 47, 23, 48, 49, 50, 51, 52, 53, 34, 35, 54, 32, 33, 67, 68, 69, 70, 71, 72, 73, 74, 75, 76, 77, 78, 80, 81, 82, 83, 84, 85, 86, 88, 89] (by decide +kernel) (by decide +kernel)
set_option maxRecDepth 20000 in
theorem gX7_thinkTo_X7_seesThen : GoodIn wsX7_thinkTo (wsV RX7 196 RX7 yX7_seesThen wsX7_seesThen) := goodIn_app (goodIn_of _ (by decide +kernel)) ggX7_thinkTo_X7_seesThen
set_option maxRecDepth 20000 in
theorem ggX7_thinkTo_X6_at : GoodIn wsX7_thinkTo wsX6_at := goodIn_r _ [44, 45, 88, 89] (by decide +kernel) (by decide +kernel)
set_option maxRecDepth 20000 in
theorem gX7_thinkTo_X6_at : GoodIn wsX7_thinkTo (wsV RX7 133 RX6 yX6_at wsX6_at) := goodIn_app (goodIn_of _ (by decide +kernel)) ggX7_thinkTo_X6_at
set_option maxRecDepth 20000 in
theorem ggX7_thinkTo_X3_spread : GoodIn wsX7_thinkTo wsX3_spread := goodIn_r _ [58, 30, 87] (by decide +kernel) (by decide +kernel)
set_option maxRecDepth 20000 in
theorem gX7_thinkTo_X3_spread : GoodIn wsX7_thinkTo (wsV RX7 318 RX3 yX3_spread wsX3_spread) := goodIn_app (goodIn_of _ (by decide +kernel)) ggX7_thinkTo_X3_spread
set_option maxRecDepth 20000 in
theorem ggX7_thinkTo_X3_removeSeen : GoodIn wsX7_thinkTo wsX3_removeSeen := goodIn_r _ [62, 63, 50, 51, 52, 64, 65, 66, 30, 32, 23, 33, 34, 35, 87] (by decide +kernel) (by decide +kernel)
set_option maxRecDepth 20000 in
theorem gX7_thinkTo_X3_removeSeen : GoodIn wsX7_thinkTo (wsV RX7 322 RX3 yX3_removeSeen wsX3_removeSeen) := goodIn_app (goodIn_of _ (by decide +kernel)) ggX7_thinkTo_X3_removeSeen
theorem dX7_thinkTo_0 : decode cX7_thinkTo 0 = .ok (.aload_n 0, 1) := by decide +kernel
theorem dX7_thinkTo_1 : decode cX7_thinkTo 1 = .ok (.getfield 38, 3) := by decide +kernel
theorem dX7_thinkTo_4 : decode cX7_thinkTo 4 = .ok (.aload_n 0, 1) := by decide +kernel
theorem dX7_thinkTo_5 : decode cX7_thinkTo 5 = .ok (.getfield 10, 3) := by decide +kernel
theorem dX7_thinkTo_8 : decode cX7_thinkTo 8 = .ok (.invokevirtual 267, 3) := by decide +kernel
theorem dX7_thinkTo_11 : decode cX7_thinkTo 11 = .ok (.aload_n 0, 1) := by decide +kernel
theorem dX7_thinkTo_12 : decode cX7_thinkTo 12 = .ok (.getfield 52, 3) := by decide +kernel
theorem dX7_thinkTo_15 : decode cX7_thinkTo 15 = .ok (.aload_n 0, 1) := by decide +kernel
theorem dX7_thinkTo_16 : decode cX7_thinkTo 16 = .ok (.getfield 38, 3) := by decide +kernel
theorem dX7_thinkTo_19 : decode cX7_thinkTo 19 = .ok (.getfield 278, 3) := by decide +kernel
theorem dX7_thinkTo_22 : decode cX7_thinkTo 22 = .ok (.iload_n 2, 1) := by decide +kernel
theorem dX7_thinkTo_23 : decode cX7_thinkTo 23 = .ok (.iaload, 1) := by decide +kernel
theorem dX7_thinkTo_24 : decode cX7_thinkTo 24 = .ok (.invokevirtual 315, 3) := by decide +kernel
theorem dX7_thinkTo_27 : decode cX7_thinkTo 27 = .ok (.iconst 0, 1) := by decide +kernel
theorem dX7_thinkTo_28 : decode cX7_thinkTo 28 = .ok (.istore 4, 2) := by decide +kernel
theorem dX7_thinkTo_30 : decode cX7_thinkTo 30 = .ok (.iload 4, 2) := by decide +kernel
theorem dX7_thinkTo_32 : decode cX7_thinkTo 32 = .ok (.iload_n 3, 1) := by decide +kernel
theorem dX7_thinkTo_33 : decode cX7_thinkTo 33 = .ok (.if_icmp .gt 95, 3) := by decide +kernel
theorem dX7_thinkTo_36 : decode cX7_thinkTo 36 = .ok (.aload_n 0, 1) := by decide +kernel
theorem dX7_thinkTo_37 : decode cX7_thinkTo 37 = .ok (.iload_n 1, 1) := by decide +kernel
theorem dX7_thinkTo_38 : decode cX7_thinkTo 38 = .ok (.iload_n 2, 1) := by decide +kernel
theorem dX7_thinkTo_39 : decode cX7_thinkTo 39 = .ok (.iload 4, 2) := by decide +kernel
theorem dX7_thinkTo_41 : decode cX7_thinkTo 41 = .ok (.invokevirtual 196, 3) := by decide +kernel
theorem dX7_thinkTo_44 : decode cX7_thinkTo 44 = .ok (.ifCond .eq 23, 3) := by decide +kernel
theorem dX7_thinkTo_47 : decode cX7_thinkTo 47 = .ok (.aload_n 0, 1) := by decide +kernel
theorem dX7_thinkTo_48 : decode cX7_thinkTo 48 = .ok (.getfield 52, 3) := by decide +kernel
theorem dX7_thinkTo_51 : decode cX7_thinkTo 51 = .ok (.aload_n 0, 1) := by decide +kernel
theorem dX7_thinkTo_52 : decode cX7_thinkTo 52 = .ok (.getfield 28, 3) := by decide +kernel
theorem dX7_thinkTo_55 : decode cX7_thinkTo 55 = .ok (.iload 4, 2) := by decide +kernel
theorem dX7_thinkTo_57 : decode cX7_thinkTo 57 = .ok (.iload_n 2, 1) := by decide +kernel
theorem dX7_thinkTo_58 : decode cX7_thinkTo 58 = .ok (.invokevirtual 133, 3) := by decide +kernel
theorem dX7_thinkTo_61 : decode cX7_thinkTo 61 = .ok (.invokevirtual 315, 3) := by decide +kernel
theorem dX7_thinkTo_64 : decode cX7_thinkTo 64 = .ok (.goto 58, 3) := by decide +kernel
theorem dX7_thinkTo_67 : decode cX7_thinkTo 67 = .ok (.aload_n 0, 1) := by decide +kernel
theorem dX7_thinkTo_68 : decode cX7_thinkTo 68 = .ok (.getfield 52, 3) := by decide +kernel
theorem dX7_thinkTo_71 : decode cX7_thinkTo 71 = .ok (.aload_n 0, 1) := by decide +kernel
theorem dX7_thinkTo_72 : decode cX7_thinkTo 72 = .ok (.getfield 10, 3) := by decide +kernel
theorem dX7_thinkTo_75 : decode cX7_thinkTo 75 = .ok (.getfield 209, 3) := by decide +kernel
theorem dX7_thinkTo_78 : decode cX7_thinkTo 78 = .ok (.aload_n 0, 1) := by decide +kernel
theorem dX7_thinkTo_79 : decode cX7_thinkTo 79 = .ok (.getfield 10, 3) := by decide +kernel
theorem dX7_thinkTo_82 : decode cX7_thinkTo 82 = .ok (.getfield 203, 3) := by decide +kernel
theorem dX7_thinkTo_85 : decode cX7_thinkTo 85 = .ok (.invokevirtual 318, 3) := by decide +kernel
theorem dX7_thinkTo_88 : decode cX7_thinkTo 88 = .ok (.aload_n 0, 1) := by decide +kernel
theorem dX7_thinkTo_89 : decode cX7_thinkTo 89 = .ok (.getfield 52, 3) := by decide +kernel
theorem dX7_thinkTo_92 : decode cX7_thinkTo 92 = .ok (.aload_n 0, 1) := by decide +kernel
theorem dX7_thinkTo_93 : decode cX7_thinkTo 93 = .ok (.getfield 28, 3) := by decide +kernel
theorem dX7_thinkTo_96 : decode cX7_thinkTo 96 = .ok (.iload 4, 2) := by decide +kernel
theorem dX7_thinkTo_98 : decode cX7_thinkTo 98 = .ok (.iload_n 1, 1) := by decide +kernel
theorem dX7_thinkTo_99 : decode cX7_thinkTo 99 = .ok (.invokevirtual 133, 3) := by decide +kernel
theorem dX7_thinkTo_102 : decode cX7_thinkTo 102 = .ok (.aload_n 0, 1) := by decide +kernel
theorem dX7_thinkTo_103 : decode cX7_thinkTo 103 = .ok (.getfield 10, 3) := by decide +kernel
theorem dX7_thinkTo_106 : decode cX7_thinkTo 106 = .ok (.getfield 98, 3) := by decide +kernel
theorem dX7_thinkTo_109 : decode cX7_thinkTo 109 = .ok (.bipush 6, 2) := by decide +kernel
theorem dX7_thinkTo_111 : decode cX7_thinkTo 111 = .ok (.iaload, 1) := by decide +kernel
theorem dX7_thinkTo_112 : decode cX7_thinkTo 112 = .ok (.aload_n 0, 1) := by decide +kernel
theorem dX7_thinkTo_113 : decode cX7_thinkTo 113 = .ok (.getfield 10, 3) := by decide +kernel
theorem dX7_thinkTo_116 : decode cX7_thinkTo 116 = .ok (.getfield 203, 3) := by decide +kernel
theorem dX7_thinkTo_119 : decode cX7_thinkTo 119 = .ok (.invokevirtual 322, 3) := by decide +kernel
theorem dX7_thinkTo_122 : decode cX7_thinkTo 122 = .ok (.iinc 4 1, 3) := by decide +kernel
theorem dX7_thinkTo_125 : decode cX7_thinkTo 125 = .ok (.goto (-95), 3) := by decide +kernel
theorem dX7_thinkTo_128 : decode cX7_thinkTo 128 = .ok (.return_, 1) := by decide +kernel
theorem dX7_slotsKept_0 : decode cX7_slotsKept 0 = .ok (.iconst 0, 1) := by decide +kernel
theorem dX7_slotsKept_1 : decode cX7_slotsKept 1 = .ok (.istore_n 1, 1) := by decide +kernel
theorem dX7_slotsKept_2 : decode cX7_slotsKept 2 = .ok (.iconst 0, 1) := by decide +kernel
theorem dX7_slotsKept_3 : decode cX7_slotsKept 3 = .ok (.istore_n 2, 1) := by decide +kernel
theorem dX7_slotsKept_4 : decode cX7_slotsKept 4 = .ok (.iload_n 2, 1) := by decide +kernel
theorem dX7_slotsKept_5 : decode cX7_slotsKept 5 = .ok (.iconst 4, 1) := by decide +kernel
theorem dX7_slotsKept_6 : decode cX7_slotsKept 6 = .ok (.if_icmp .ge 21, 3) := by decide +kernel
theorem dX7_slotsKept_9 : decode cX7_slotsKept 9 = .ok (.aload_n 0, 1) := by decide +kernel
theorem dX7_slotsKept_10 : decode cX7_slotsKept 10 = .ok (.getfield 74, 3) := by decide +kernel
theorem dX7_slotsKept_13 : decode cX7_slotsKept 13 = .ok (.iload_n 2, 1) := by decide +kernel
theorem dX7_slotsKept_14 : decode cX7_slotsKept 14 = .ok (.baload, 1) := by decide +kernel
theorem dX7_slotsKept_15 : decode cX7_slotsKept 15 = .ok (.ifCond .eq 6, 3) := by decide +kernel
theorem dX7_slotsKept_18 : decode cX7_slotsKept 18 = .ok (.iinc 1 1, 3) := by decide +kernel
theorem dX7_slotsKept_21 : decode cX7_slotsKept 21 = .ok (.iinc 2 1, 3) := by decide +kernel
theorem dX7_slotsKept_24 : decode cX7_slotsKept 24 = .ok (.goto (-20), 3) := by decide +kernel
theorem dX7_slotsKept_27 : decode cX7_slotsKept 27 = .ok (.iload_n 1, 1) := by decide +kernel
theorem dX7_slotsKept_28 : decode cX7_slotsKept 28 = .ok (.ireturn, 1) := by decide +kernel
