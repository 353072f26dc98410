theorem dX0_init_0 : decode cX0_init 0 = .ok (.aload_n 0, 1) := by decide +kernel
theorem dX0_init_1 : decode cX0_init 1 = .ok (.invokespecial 3, 3) := by decide +kernel
theorem dX0_init_4 : decode cX0_init 4 = .ok (.aload_n 0, 1) := by decide +kernel
theorem dX0_init_5 : decode cX0_init 5 = .ok (.bipush 13, 2) := by decide +kernel
theorem dX0_init_7 : decode cX0_init 7 = .ok (.newarray .int, 2) := by decide +kernel
theorem dX0_init_9 : decode cX0_init 9 = .ok (.putfield 9, 3) := by decide +kernel
theorem dX0_init_12 : decode cX0_init 12 = .ok (.return_, 1) := by decide +kernel
set_option maxRecDepth 20000 in
theorem ggX0_start_J7_fill_53178 : GoodIn wsX0_start wsJ7_fill_53178 := goodIn_r _ [8] (by decide +kernel) (by decide +kernel)
set_option maxRecDepth 20000 in
theorem gX0_start_J7_fill_53178 : GoodIn wsX0_start (va_wsS RX0 15 yJ7_fill_53178 wsJ7_fill_53178) := goodIn_app (goodIn_of _ (by decide +kernel)) ggX0_start_J7_fill_53178
set_option maxRecDepth 20000 in
theorem ggX0_start_X7_spotOf : GoodIn wsX0_start wsX7_spotOf := goodIn_r _ [11] (by decide +kernel) (by decide +kernel)
set_option maxRecDepth 20000 in
theorem gX0_start_X7_spotOf_n30 : GoodIn wsX0_start (wsX7_spotOf) := ggX0_start_X7_spotOf
theorem dX0_start_0 : decode cX0_start 0 = .ok (.aload_n 0, 1) := by decide +kernel
theorem dX0_start_1 : decode cX0_start 1 = .ok (.getfield 9, 3) := by decide +kernel
theorem dX0_start_4 : decode cX0_start 4 = .ok (.iconst 0, 1) := by decide +kernel
theorem dX0_start_5 : decode cX0_start 5 = .ok (.invokestatic 15, 3) := by decide +kernel
theorem dX0_start_8 : decode cX0_start 8 = .ok (.iconst 0, 1) := by decide +kernel
theorem dX0_start_9 : decode cX0_start 9 = .ok (.istore_n 2, 1) := by decide +kernel
theorem dX0_start_10 : decode cX0_start 10 = .ok (.iload_n 2, 1) := by decide +kernel
theorem dX0_start_11 : decode cX0_start 11 = .ok (.aload_n 1, 1) := by decide +kernel
theorem dX0_start_12 : decode cX0_start 12 = .ok (.getfield 21, 3) := by decide +kernel
theorem dX0_start_15 : decode cX0_start 15 = .ok (.if_icmp .ge 23, 3) := by decide +kernel
theorem dX0_start_18 : decode cX0_start 18 = .ok (.aload_n 0, 1) := by decide +kernel
theorem dX0_start_19 : decode cX0_start 19 = .ok (.getfield 9, 3) := by decide +kernel
theorem dX0_start_22 : decode cX0_start 22 = .ok (.iload_n 2, 1) := by decide +kernel
theorem dX0_start_23 : decode cX0_start 23 = .ok (.iload_n 2, 1) := by decide +kernel
theorem dX0_start_24 : decode cX0_start 24 = .ok (.aload_n 1, 1) := by decide +kernel
theorem dX0_start_25 : decode cX0_start 25 = .ok (.getfield 27, 3) := by decide +kernel
theorem dX0_start_28 : decode cX0_start 28 = .ok (.invokestatic 30, 3) := by decide +kernel
theorem dX0_start_31 : decode cX0_start 31 = .ok (.iastore, 1) := by decide +kernel
theorem dX0_start_32 : decode cX0_start 32 = .ok (.iinc 2 1, 3) := by decide +kernel
theorem dX0_start_35 : decode cX0_start 35 = .ok (.goto (-25), 3) := by decide +kernel
theorem dX0_start_38 : decode cX0_start 38 = .ok (.aload_n 0, 1) := by decide +kernel
theorem dX0_start_39 : decode cX0_start 39 = .ok (.getfield 9, 3) := by decide +kernel
theorem dX0_start_42 : decode cX0_start 42 = .ok (.bipush 6, 2) := by decide +kernel
theorem dX0_start_44 : decode cX0_start 44 = .ok (.bipush 16, 2) := by decide +kernel
theorem dX0_start_46 : decode cX0_start 46 = .ok (.aload_n 1, 1) := by decide +kernel
theorem dX0_start_47 : decode cX0_start 47 = .ok (.getfield 34, 3) := by decide +kernel
theorem dX0_start_50 : decode cX0_start 50 = .ok (.iconst 1, 1) := by decide +kernel
theorem dX0_start_51 : decode cX0_start 51 = .ok (.isub, 1) := by decide +kernel
theorem dX0_start_52 : decode cX0_start 52 = .ok (.imul, 1) := by decide +kernel
theorem dX0_start_53 : decode cX0_start 53 = .ok (.aload_n 1, 1) := by decide +kernel
theorem dX0_start_54 : decode cX0_start 54 = .ok (.getfield 27, 3) := by decide +kernel
theorem dX0_start_57 : decode cX0_start 57 = .ok (.iadd, 1) := by decide +kernel
theorem dX0_start_58 : decode cX0_start 58 = .ok (.iconst 1, 1) := by decide +kernel
theorem dX0_start_59 : decode cX0_start 59 = .ok (.isub, 1) := by decide +kernel
theorem dX0_start_60 : decode cX0_start 60 = .ok (.iastore, 1) := by decide +kernel
theorem dX0_start_61 : decode cX0_start 61 = .ok (.return_, 1) := by decide +kernel
set_option maxRecDepth 20000 in
theorem ggX0_advance_X5_isLeft : GoodIn wsX0_advance wsX5_isLeft := goodIn_r _ [6, 7, 8, 60, 61, 62, 63, 64, 65, 66] (by decide +kernel) (by decide +kernel)
set_option maxRecDepth 20000 in
theorem gX0_advance_X5_isLeft : GoodIn wsX0_advance (wsV RX0 37 RX5 yX5_isLeft wsX5_isLeft) := goodIn_app (goodIn_of _ (by decide +kernel)) ggX0_advance_X5_isLeft
set_option maxRecDepth 20000 in
theorem ggX0_advance_X0_machinePress : GoodIn wsX0_advance wsX0_machinePress := goodIn_r _ [13, 14, 15, 16, 17, 18, 19, 20, 21, 12, 22, 23, 24, 25, 26, 27, 67] (by decide +kernel) (by decide +kernel)
set_option maxRecDepth 20000 in
theorem gX0_advance_X0_machinePress : GoodIn wsX0_advance (wsV RX0 41 RX0 yX0_machinePress wsX0_machinePress) := goodIn_app (goodIn_of _ (by decide +kernel)) ggX0_advance_X0_machinePress
set_option maxRecDepth 20000 in
theorem ggX0_advance_X0_kick : GoodIn wsX0_advance wsX0_kick := goodIn_r _ [31, 19, 20, 21, 12, 22, 14, 32, 33, 34, 35, 36, 37, 38, 39, 40, 41, 1, 23, 24, 25, 26, 27, 67, 60, 61, 62, 63, 64, 65, 66] (by decide +kernel) (by decide +kernel)
set_option maxRecDepth 20000 in
theorem gX0_advance_X0_kick : GoodIn wsX0_advance (wsV RX0 45 RX0 yX0_kick wsX0_kick) := goodIn_app (goodIn_of _ (by decide +kernel)) ggX0_advance_X0_kick
set_option maxRecDepth 20000 in
theorem ggX0_advance_X0_go : GoodIn wsX0_advance wsX0_go := goodIn_r _ [45, 14, 36, 37, 38, 12, 39, 40, 41, 1, 23, 24, 25, 26, 27, 32, 33, 34, 35, 67, 60, 61, 62, 63, 64, 65, 66] (by decide +kernel) (by decide +kernel)
set_option maxRecDepth 20000 in
theorem gX0_advance_X0_go : GoodIn wsX0_advance (wsV RX0 49 RX0 yX0_go wsX0_go) := goodIn_app (goodIn_of _ (by decide +kernel)) ggX0_advance_X0_go
set_option maxRecDepth 20000 in
theorem ggX0_advance_X0_spinBall : GoodIn wsX0_advance wsX0_spinBall := goodIn_r _ [49, 50, 32, 33, 34, 12, 35, 14, 36, 37, 38, 39, 40, 41, 1, 23, 24, 25, 26, 27, 60, 61, 62, 63, 64, 65, 66, 67] (by decide +kernel) (by decide +kernel)
set_option maxRecDepth 20000 in
theorem gX0_advance_X0_spinBall : GoodIn wsX0_advance (wsV RX0 52 RX0 yX0_spinBall wsX0_spinBall) := goodIn_app (goodIn_of _ (by decide +kernel)) ggX0_advance_X0_spinBall
set_option maxRecDepth 20000 in
theorem ggX0_advance_X0_givePoint : GoodIn wsX0_advance wsX0_givePoint := goodIn_r _ [54, 14, 1, 55, 24, 56, 57, 16, 17, 18, 58, 23, 25, 59, 26, 27, 67, 60, 61, 62, 63, 64, 65, 66] (by decide +kernel) (by decide +kernel)
set_option maxRecDepth 20000 in
theorem gX0_advance_X0_givePoint : GoodIn wsX0_advance (wsV RX0 56 RX0 yX0_givePoint wsX0_givePoint) := goodIn_app (goodIn_of _ (by decide +kernel)) ggX0_advance_X0_givePoint
theorem dX0_advance_0 : decode cX0_advance 0 = .ok (.iconst 0, 1) := by decide +kernel
theorem dX0_advance_1 : decode cX0_advance 1 = .ok (.istore 5, 2) := by decide +kernel
theorem dX0_advance_3 : decode cX0_advance 3 = .ok (.iload 5, 2) := by decide +kernel
theorem dX0_advance_5 : decode cX0_advance 5 = .ok (.aload_n 1, 1) := by decide +kernel
theorem dX0_advance_6 : decode cX0_advance 6 = .ok (.getfield 21, 3) := by decide +kernel
theorem dX0_advance_9 : decode cX0_advance 9 = .ok (.if_icmp .ge 66, 3) := by decide +kernel
theorem dX0_advance_12 : decode cX0_advance 12 = .ok (.aload_n 1, 1) := by decide +kernel
theorem dX0_advance_13 : decode cX0_advance 13 = .ok (.iload 5, 2) := by decide +kernel
theorem dX0_advance_15 : decode cX0_advance 15 = .ok (.iload_n 3, 1) := by decide +kernel
theorem dX0_advance_16 : decode cX0_advance 16 = .ok (.invokevirtual 37, 3) := by decide +kernel
theorem dX0_advance_19 : decode cX0_advance 19 = .ok (.ifCond .eq 12, 3) := by decide +kernel
theorem dX0_advance_22 : decode cX0_advance 22 = .ok (.aload_n 0, 1) := by decide +kernel
theorem dX0_advance_23 : decode cX0_advance 23 = .ok (.iload 5, 2) := by decide +kernel
theorem dX0_advance_25 : decode cX0_advance 25 = .ok (.invokevirtual 41, 3) := by decide +kernel
theorem dX0_advance_28 : decode cX0_advance 28 = .ok (.goto 8, 3) := by decide +kernel
theorem dX0_advance_31 : decode cX0_advance 31 = .ok (.aload 4, 2) := by decide +kernel
theorem dX0_advance_33 : decode cX0_advance 33 = .ok (.iload 5, 2) := by decide +kernel
theorem dX0_advance_35 : decode cX0_advance 35 = .ok (.iaload, 1) := by decide +kernel
theorem dX0_advance_36 : decode cX0_advance 36 = .ok (.istore 6, 2) := by decide +kernel
theorem dX0_advance_38 : decode cX0_advance 38 = .ok (.iload 6, 2) := by decide +kernel
theorem dX0_advance_40 : decode cX0_advance 40 = .ok (.iconst 5, 1) := by decide +kernel
theorem dX0_advance_41 : decode cX0_advance 41 = .ok (.if_icmp .ne 14, 3) := by decide +kernel
theorem dX0_advance_44 : decode cX0_advance 44 = .ok (.aload_n 0, 1) := by decide +kernel
theorem dX0_advance_45 : decode cX0_advance 45 = .ok (.aload_n 1, 1) := by decide +kernel
theorem dX0_advance_46 : decode cX0_advance 46 = .ok (.iload 5, 2) := by decide +kernel
theorem dX0_advance_48 : decode cX0_advance 48 = .ok (.iload_n 2, 1) := by decide +kernel
theorem dX0_advance_49 : decode cX0_advance 49 = .ok (.invokevirtual 45, 3) := by decide +kernel
theorem dX0_advance_52 : decode cX0_advance 52 = .ok (.goto 17, 3) := by decide +kernel
theorem dX0_advance_55 : decode cX0_advance 55 = .ok (.iload 6, 2) := by decide +kernel
theorem dX0_advance_57 : decode cX0_advance 57 = .ok (.ifCond .le 12, 3) := by decide +kernel
theorem dX0_advance_60 : decode cX0_advance 60 = .ok (.aload_n 0, 1) := by decide +kernel
theorem dX0_advance_61 : decode cX0_advance 61 = .ok (.aload_n 1, 1) := by decide +kernel
theorem dX0_advance_62 : decode cX0_advance 62 = .ok (.iload 5, 2) := by decide +kernel
theorem dX0_advance_64 : decode cX0_advance 64 = .ok (.iload 6, 2) := by decide +kernel
theorem dX0_advance_66 : decode cX0_advance 66 = .ok (.invokevirtual 49, 3) := by decide +kernel
theorem dX0_advance_69 : decode cX0_advance 69 = .ok (.iinc 5 1, 3) := by decide +kernel
theorem dX0_advance_72 : decode cX0_advance 72 = .ok (.goto (-69), 3) := by decide +kernel
theorem dX0_advance_75 : decode cX0_advance 75 = .ok (.aload_n 0, 1) := by decide +kernel
theorem dX0_advance_76 : decode cX0_advance 76 = .ok (.aload_n 1, 1) := by decide +kernel
theorem dX0_advance_77 : decode cX0_advance 77 = .ok (.iload_n 3, 1) := by decide +kernel
theorem dX0_advance_78 : decode cX0_advance 78 = .ok (.invokevirtual 52, 3) := by decide +kernel
theorem dX0_advance_81 : decode cX0_advance 81 = .ok (.aload_n 0, 1) := by decide +kernel
theorem dX0_advance_82 : decode cX0_advance 82 = .ok (.aload_n 1, 1) := by decide +kernel
theorem dX0_advance_83 : decode cX0_advance 83 = .ok (.invokevirtual 56, 3) := by decide +kernel
theorem dX0_advance_86 : decode cX0_advance 86 = .ok (.return_, 1) := by decide +kernel
set_option maxRecDepth 20000 in
theorem ggX0_machinePress_X0_wayToBall : GoodIn wsX0_machinePress wsX0_wayToBall := goodIn_r _ [10, 1, 16] (by decide +kernel) (by decide +kernel)
set_option maxRecDepth 20000 in
theorem gX0_machinePress_X0_wayToBall : GoodIn wsX0_machinePress (wsV RX0 60 RX0 yX0_wayToBall wsX0_wayToBall) := goodIn_app (goodIn_of _ (by decide +kernel)) ggX0_machinePress_X0_wayToBall
set_option maxRecDepth 20000 in
theorem ggX0_machinePress_X7_xOf : GoodIn wsX0_machinePress wsX7_xOf := goodIn_r _ [13] (by decide +kernel) (by decide +kernel)
set_option maxRecDepth 20000 in
theorem gX0_machinePress_X7_xOf_n63 : GoodIn wsX0_machinePress (wsX7_xOf) := ggX0_machinePress_X7_xOf
set_option maxRecDepth 20000 in
theorem ggX0_machinePress_X7_yOf : GoodIn wsX0_machinePress wsX7_yOf := goodIn_r _ [15] (by decide +kernel) (by decide +kernel)
set_option maxRecDepth 20000 in
theorem gX0_machinePress_X7_yOf_n66 : GoodIn wsX0_machinePress (wsX7_yOf) := ggX0_machinePress_X7_yOf
theorem dX0_machinePress_0 : decode cX0_machinePress 0 = .ok (.aload_n 0, 1) := by decide +kernel
theorem dX0_machinePress_1 : decode cX0_machinePress 1 = .ok (.iload_n 1, 1) := by decide +kernel
theorem dX0_machinePress_2 : decode cX0_machinePress 2 = .ok (.invokevirtual 60, 3) := by decide +kernel
theorem dX0_machinePress_5 : decode cX0_machinePress 5 = .ok (.ifCond .le 5, 3) := by decide +kernel
theorem dX0_machinePress_8 : decode cX0_machinePress 8 = .ok (.iconst 5, 1) := by decide +kernel
theorem dX0_machinePress_9 : decode cX0_machinePress 9 = .ok (.ireturn, 1) := by decide +kernel
theorem dX0_machinePress_10 : decode cX0_machinePress 10 = .ok (.aload_n 0, 1) := by decide +kernel
theorem dX0_machinePress_11 : decode cX0_machinePress 11 = .ok (.getfield 9, 3) := by decide +kernel
theorem dX0_machinePress_14 : decode cX0_machinePress 14 = .ok (.bipush 6, 2) := by decide +kernel
theorem dX0_machinePress_16 : decode cX0_machinePress 16 = .ok (.iaload, 1) := by decide +kernel
theorem dX0_machinePress_17 : decode cX0_machinePress 17 = .ok (.invokestatic 63, 3) := by decide +kernel
theorem dX0_machinePress_20 : decode cX0_machinePress 20 = .ok (.aload_n 0, 1) := by decide +kernel
theorem dX0_machinePress_21 : decode cX0_machinePress 21 = .ok (.getfield 9, 3) := by decide +kernel
theorem dX0_machinePress_24 : decode cX0_machinePress 24 = .ok (.iload_n 1, 1) := by decide +kernel
theorem dX0_machinePress_25 : decode cX0_machinePress 25 = .ok (.iaload, 1) := by decide +kernel
theorem dX0_machinePress_26 : decode cX0_machinePress 26 = .ok (.invokestatic 63, 3) := by decide +kernel
theorem dX0_machinePress_29 : decode cX0_machinePress 29 = .ok (.isub, 1) := by decide +kernel
theorem dX0_machinePress_30 : decode cX0_machinePress 30 = .ok (.istore_n 2, 1) := by decide +kernel
theorem dX0_machinePress_31 : decode cX0_machinePress 31 = .ok (.aload_n 0, 1) := by decide +kernel
theorem dX0_machinePress_32 : decode cX0_machinePress 32 = .ok (.getfield 9, 3) := by decide +kernel
theorem dX0_machinePress_35 : decode cX0_machinePress 35 = .ok (.bipush 6, 2) := by decide +kernel
theorem dX0_machinePress_37 : decode cX0_machinePress 37 = .ok (.iaload, 1) := by decide +kernel
theorem dX0_machinePress_38 : decode cX0_machinePress 38 = .ok (.invokestatic 66, 3) := by decide +kernel
theorem dX0_machinePress_41 : decode cX0_machinePress 41 = .ok (.aload_n 0, 1) := by decide +kernel
theorem dX0_machinePress_42 : decode cX0_machinePress 42 = .ok (.getfield 9, 3) := by decide +kernel
theorem dX0_machinePress_45 : decode cX0_machinePress 45 = .ok (.iload_n 1, 1) := by decide +kernel
theorem dX0_machinePress_46 : decode cX0_machinePress 46 = .ok (.iaload, 1) := by decide +kernel
theorem dX0_machinePress_47 : decode cX0_machinePress 47 = .ok (.invokestatic 66, 3) := by decide +kernel
theorem dX0_machinePress_50 : decode cX0_machinePress 50 = .ok (.isub, 1) := by decide +kernel
theorem dX0_machinePress_51 : decode cX0_machinePress 51 = .ok (.istore_n 3, 1) := by decide +kernel
theorem dX0_machinePress_52 : decode cX0_machinePress 52 = .ok (.iload_n 2, 1) := by decide +kernel
theorem dX0_machinePress_53 : decode cX0_machinePress 53 = .ok (.invokestatic 69, 3) := by decide +kernel
theorem dX0_machinePress_56 : decode cX0_machinePress 56 = .ok (.iload_n 3, 1) := by decide +kernel
theorem dX0_machinePress_57 : decode cX0_machinePress 57 = .ok (.invokestatic 69, 3) := by decide +kernel
theorem dX0_machinePress_60 : decode cX0_machinePress 60 = .ok (.if_icmp .lt 13, 3) := by decide +kernel
theorem dX0_machinePress_63 : decode cX0_machinePress 63 = .ok (.iload_n 2, 1) := by decide +kernel
theorem dX0_machinePress_64 : decode cX0_machinePress 64 = .ok (.ifCond .le 7, 3) := by decide +kernel
theorem dX0_machinePress_67 : decode cX0_machinePress 67 = .ok (.iconst 1, 1) := by decide +kernel
theorem dX0_machinePress_68 : decode cX0_machinePress 68 = .ok (.goto 4, 3) := by decide +kernel
theorem dX0_machinePress_71 : decode cX0_machinePress 71 = .ok (.iconst 3, 1) := by decide +kernel
theorem dX0_machinePress_72 : decode cX0_machinePress 72 = .ok (.ireturn, 1) := by decide +kernel
theorem dX0_machinePress_73 : decode cX0_machinePress 73 = .ok (.iload_n 3, 1) := by decide +kernel
theorem dX0_machinePress_74 : decode cX0_machinePress 74 = .ok (.ifCond .le 7, 3) := by decide +kernel
theorem dX0_machinePress_77 : decode cX0_machinePress 77 = .ok (.iconst 2, 1) := by decide +kernel
theorem dX0_machinePress_78 : decode cX0_machinePress 78 = .ok (.goto 4, 3) := by decide +kernel
theorem dX0_machinePress_81 : decode cX0_machinePress 81 = .ok (.iconst 4, 1) := by decide +kernel
theorem dX0_machinePress_82 : decode cX0_machinePress 82 = .ok (.ireturn, 1) := by decide +kernel
theorem dX0_isLike_0 : decode cX0_isLike 0 = .ok (.iconst 0, 1) := by decide +kernel
theorem dX0_isLike_1 : decode cX0_isLike 1 = .ok (.istore_n 2, 1) := by decide +kernel
theorem dX0_isLike_2 : decode cX0_isLike 2 = .ok (.iload_n 2, 1) := by decide +kernel
theorem dX0_isLike_3 : decode cX0_isLike 3 = .ok (.bipush 13, 2) := by decide +kernel
theorem dX0_isLike_5 : decode cX0_isLike 5 = .ok (.if_icmp .ge 26, 3) := by decide +kernel
theorem dX0_isLike_8 : decode cX0_isLike 8 = .ok (.aload_n 0, 1) := by decide +kernel
theorem dX0_isLike_9 : decode cX0_isLike 9 = .ok (.getfield 9, 3) := by decide +kernel
theorem dX0_isLike_12 : decode cX0_isLike 12 = .ok (.iload_n 2, 1) := by decide +kernel
theorem dX0_isLike_13 : decode cX0_isLike 13 = .ok (.iaload, 1) := by decide +kernel
theorem dX0_isLike_14 : decode cX0_isLike 14 = .ok (.aload_n 1, 1) := by decide +kernel
theorem dX0_isLike_15 : decode cX0_isLike 15 = .ok (.getfield 9, 3) := by decide +kernel
theorem dX0_isLike_18 : decode cX0_isLike 18 = .ok (.iload_n 2, 1) := by decide +kernel
theorem dX0_isLike_19 : decode cX0_isLike 19 = .ok (.iaload, 1) := by decide +kernel
theorem dX0_isLike_20 : decode cX0_isLike 20 = .ok (.if_icmp .eq 5, 3) := by decide +kernel
theorem dX0_isLike_23 : decode cX0_isLike 23 = .ok (.iconst 0, 1) := by decide +kernel
theorem dX0_isLike_24 : decode cX0_isLike 24 = .ok (.ireturn, 1) := by decide +kernel
theorem dX0_isLike_25 : decode cX0_isLike 25 = .ok (.iinc 2 1, 3) := by decide +kernel
theorem dX0_isLike_28 : decode cX0_isLike 28 = .ok (.goto (-26), 3) := by decide +kernel
theorem dX0_isLike_31 : decode cX0_isLike 31 = .ok (.iconst 1, 1) := by decide +kernel
theorem dX0_isLike_32 : decode cX0_isLike 32 = .ok (.ireturn, 1) := by decide +kernel
set_option maxRecDepth 20000 in
theorem ggX0_isFree_X7_xOf : GoodIn wsX0_isFree wsX7_xOf := goodIn_r _ [7] (by decide +kernel) (by decide +kernel)
set_option maxRecDepth 20000 in
theorem gX0_isFree_X7_xOf_n63 : GoodIn wsX0_isFree (wsX7_xOf) := ggX0_isFree_X7_xOf
set_option maxRecDepth 20000 in
theorem ggX0_isFree_X7_yOf : GoodIn wsX0_isFree wsX7_yOf := goodIn_r _ [9] (by decide +kernel) (by decide +kernel)
set_option maxRecDepth 20000 in
theorem gX0_isFree_X7_yOf_n66 : GoodIn wsX0_isFree (wsX7_yOf) := ggX0_isFree_X7_yOf
theorem dX0_isFree_0 : decode cX0_isFree 0 = .ok (.iload_n 2, 1) := by decide +kernel
theorem dX0_isFree_1 : decode cX0_isFree 1 = .ok (.ifCond .lt 25, 3) := by decide +kernel
theorem dX0_isFree_4 : decode cX0_isFree 4 = .ok (.iload_n 2, 1) := by decide +kernel
theorem dX0_isFree_5 : decode cX0_isFree 5 = .ok (.invokestatic 63, 3) := by decide +kernel
theorem dX0_isFree_8 : decode cX0_isFree 8 = .ok (.aload_n 1, 1) := by decide +kernel
theorem dX0_isFree_9 : decode cX0_isFree 9 = .ok (.getfield 27, 3) := by decide +kernel
theorem dX0_isFree_12 : decode cX0_isFree 12 = .ok (.if_icmp .ge 14, 3) := by decide +kernel
theorem dX0_isFree_15 : decode cX0_isFree 15 = .ok (.iload_n 2, 1) := by decide +kernel
theorem dX0_isFree_16 : decode cX0_isFree 16 = .ok (.invokestatic 66, 3) := by decide +kernel
theorem dX0_isFree_19 : decode cX0_isFree 19 = .ok (.aload_n 1, 1) := by decide +kernel
theorem dX0_isFree_20 : decode cX0_isFree 20 = .ok (.getfield 34, 3) := by decide +kernel
theorem dX0_isFree_23 : decode cX0_isFree 23 = .ok (.if_icmp .lt 5, 3) := by decide +kernel
theorem dX0_isFree_26 : decode cX0_isFree 26 = .ok (.iconst 0, 1) := by decide +kernel
theorem dX0_isFree_27 : decode cX0_isFree 27 = .ok (.ireturn, 1) := by decide +kernel
theorem dX0_isFree_28 : decode cX0_isFree 28 = .ok (.iconst 0, 1) := by decide +kernel
theorem dX0_isFree_29 : decode cX0_isFree 29 = .ok (.istore_n 3, 1) := by decide +kernel
theorem dX0_isFree_30 : decode cX0_isFree 30 = .ok (.iload_n 3, 1) := by decide +kernel
theorem dX0_isFree_31 : decode cX0_isFree 31 = .ok (.aload_n 1, 1) := by decide +kernel
theorem dX0_isFree_32 : decode cX0_isFree 32 = .ok (.getfield 21, 3) := by decide +kernel
theorem dX0_isFree_35 : decode cX0_isFree 35 = .ok (.if_icmp .ge 21, 3) := by decide +kernel
theorem dX0_isFree_38 : decode cX0_isFree 38 = .ok (.aload_n 0, 1) := by decide +kernel
theorem dX0_isFree_39 : decode cX0_isFree 39 = .ok (.getfield 9, 3) := by decide +kernel
theorem dX0_isFree_42 : decode cX0_isFree 42 = .ok (.iload_n 3, 1) := by decide +kernel
theorem dX0_isFree_43 : decode cX0_isFree 43 = .ok (.iaload, 1) := by decide +kernel
theorem dX0_isFree_44 : decode cX0_isFree 44 = .ok (.iload_n 2, 1) := by decide +kernel
theorem dX0_isFree_45 : decode cX0_isFree 45 = .ok (.if_icmp .ne 5, 3) := by decide +kernel
theorem dX0_isFree_48 : decode cX0_isFree 48 = .ok (.iconst 0, 1) := by decide +kernel
theorem dX0_isFree_49 : decode cX0_isFree 49 = .ok (.ireturn, 1) := by decide +kernel
theorem dX0_isFree_50 : decode cX0_isFree 50 = .ok (.iinc 3 1, 3) := by decide +kernel
theorem dX0_isFree_53 : decode cX0_isFree 53 = .ok (.goto (-23), 3) := by decide +kernel
theorem dX0_isFree_56 : decode cX0_isFree 56 = .ok (.iconst 1, 1) := by decide +kernel
theorem dX0_isFree_57 : decode cX0_isFree 57 = .ok (.ireturn, 1) := by decide +kernel
set_option maxRecDepth 20000 in
theorem ggX0_moveBall_X0_isFree : GoodIn wsX0_moveBall wsX0_isFree := goodIn_r _ [6, 7, 8, 9, 1, 10, 11, 12, 13, 14, 16, 17, 18, 19, 20, 21, 22, 15] (by decide +kernel) (by decide +kernel)
set_option maxRecDepth 20000 in
theorem gX0_moveBall_X0_isFree : GoodIn wsX0_moveBall (wsV RX0 77 RX0 yX0_isFree wsX0_isFree) := goodIn_app (goodIn_of _ (by decide +kernel)) ggX0_moveBall_X0_isFree
theorem dX0_moveBall_0 : decode cX0_moveBall 0 = .ok (.aload_n 0, 1) := by decide +kernel
theorem dX0_moveBall_1 : decode cX0_moveBall 1 = .ok (.getfield 9, 3) := by decide +kernel
theorem dX0_moveBall_4 : decode cX0_moveBall 4 = .ok (.bipush 6, 2) := by decide +kernel
theorem dX0_moveBall_6 : decode cX0_moveBall 6 = .ok (.iaload, 1) := by decide +kernel
theorem dX0_moveBall_7 : decode cX0_moveBall 7 = .ok (.getstatic 74, 3) := by decide +kernel
theorem dX0_moveBall_10 : decode cX0_moveBall 10 = .ok (.iload_n 2, 1) := by decide +kernel
theorem dX0_moveBall_11 : decode cX0_moveBall 11 = .ok (.iaload, 1) := by decide +kernel
theorem dX0_moveBall_12 : decode cX0_moveBall 12 = .ok (.iadd, 1) := by decide +kernel
theorem dX0_moveBall_13 : decode cX0_moveBall 13 = .ok (.istore_n 3, 1) := by decide +kernel
theorem dX0_moveBall_14 : decode cX0_moveBall 14 = .ok (.aload_n 0, 1) := by decide +kernel
theorem dX0_moveBall_15 : decode cX0_moveBall 15 = .ok (.aload_n 1, 1) := by decide +kernel
theorem dX0_moveBall_16 : decode cX0_moveBall 16 = .ok (.iload_n 3, 1) := by decide +kernel
theorem dX0_moveBall_17 : decode cX0_moveBall 17 = .ok (.invokevirtual 77, 3) := by decide +kernel
theorem dX0_moveBall_20 : decode cX0_moveBall 20 = .ok (.ifCond .ne 5, 3) := by decide +kernel
theorem dX0_moveBall_23 : decode cX0_moveBall 23 = .ok (.iconst 0, 1) := by decide +kernel
theorem dX0_moveBall_24 : decode cX0_moveBall 24 = .ok (.ireturn, 1) := by decide +kernel
theorem dX0_moveBall_25 : decode cX0_moveBall 25 = .ok (.aload_n 0, 1) := by decide +kernel
theorem dX0_moveBall_26 : decode cX0_moveBall 26 = .ok (.getfield 9, 3) := by decide +kernel
theorem dX0_moveBall_29 : decode cX0_moveBall 29 = .ok (.bipush 6, 2) := by decide +kernel
theorem dX0_moveBall_31 : decode cX0_moveBall 31 = .ok (.iload_n 3, 1) := by decide +kernel
theorem dX0_moveBall_32 : decode cX0_moveBall 32 = .ok (.iastore, 1) := by decide +kernel
theorem dX0_moveBall_33 : decode cX0_moveBall 33 = .ok (.iconst 1, 1) := by decide +kernel
theorem dX0_moveBall_34 : decode cX0_moveBall 34 = .ok (.ireturn, 1) := by decide +kernel
set_option maxRecDepth 20000 in
theorem ggX0_go_X0_isFree : GoodIn wsX0_go wsX0_isFree := goodIn_r _ [6, 7, 8, 9, 1, 10, 11, 12, 13, 14, 20, 21, 22, 23, 24, 25, 26, 19] (by decide +kernel) (by decide +kernel)
set_option maxRecDepth 20000 in
theorem gX0_go_X0_isFree : GoodIn wsX0_go (wsV RX0 77 RX0 yX0_isFree wsX0_isFree) := goodIn_app (goodIn_of _ (by decide +kernel)) ggX0_go_X0_isFree
set_option maxRecDepth 20000 in
theorem ggX0_go_X0_moveBall : GoodIn wsX0_go wsX0_moveBall := goodIn_r _ [18, 1, 2, 3, 4, 5, 6, 7, 8, 9, 10, 11, 12, 13, 14, 19, 20, 21, 22, 23, 24, 25, 26] (by decide +kernel) (by decide +kernel)
set_option maxRecDepth 20000 in
theorem gX0_go_X0_moveBall : GoodIn wsX0_go (wsV RX0 81 RX0 yX0_moveBall wsX0_moveBall) := goodIn_app (goodIn_of _ (by decide +kernel)) ggX0_go_X0_moveBall
theorem dX0_go_0 : decode cX0_go 0 = .ok (.aload_n 0, 1) := by decide +kernel
theorem dX0_go_1 : decode cX0_go 1 = .ok (.getfield 9, 3) := by decide +kernel
theorem dX0_go_4 : decode cX0_go 4 = .ok (.iload_n 2, 1) := by decide +kernel
theorem dX0_go_5 : decode cX0_go 5 = .ok (.iaload, 1) := by decide +kernel
theorem dX0_go_6 : decode cX0_go 6 = .ok (.getstatic 74, 3) := by decide +kernel
theorem dX0_go_9 : decode cX0_go 9 = .ok (.iload_n 3, 1) := by decide +kernel
theorem dX0_go_10 : decode cX0_go 10 = .ok (.iaload, 1) := by decide +kernel
theorem dX0_go_11 : decode cX0_go 11 = .ok (.iadd, 1) := by decide +kernel
theorem dX0_go_12 : decode cX0_go 12 = .ok (.istore 4, 2) := by decide +kernel
theorem dX0_go_14 : decode cX0_go 14 = .ok (.aload_n 0, 1) := by decide +kernel
theorem dX0_go_15 : decode cX0_go 15 = .ok (.aload_n 1, 1) := by decide +kernel
theorem dX0_go_16 : decode cX0_go 16 = .ok (.iload 4, 2) := by decide +kernel
theorem dX0_go_18 : decode cX0_go 18 = .ok (.invokevirtual 77, 3) := by decide +kernel
theorem dX0_go_21 : decode cX0_go 21 = .ok (.ifCond .ne 4, 3) := by decide +kernel
theorem dX0_go_24 : decode cX0_go 24 = .ok (.return_, 1) := by decide +kernel
theorem dX0_go_25 : decode cX0_go 25 = .ok (.iload 4, 2) := by decide +kernel
theorem dX0_go_27 : decode cX0_go 27 = .ok (.aload_n 0, 1) := by decide +kernel
theorem dX0_go_28 : decode cX0_go 28 = .ok (.getfield 9, 3) := by decide +kernel
theorem dX0_go_31 : decode cX0_go 31 = .ok (.bipush 6, 2) := by decide +kernel
theorem dX0_go_33 : decode cX0_go 33 = .ok (.iaload, 1) := by decide +kernel
theorem dX0_go_34 : decode cX0_go 34 = .ok (.if_icmp .ne 13, 3) := by decide +kernel
theorem dX0_go_37 : decode cX0_go 37 = .ok (.aload_n 0, 1) := by decide +kernel
theorem dX0_go_38 : decode cX0_go 38 = .ok (.aload_n 1, 1) := by decide +kernel
theorem dX0_go_39 : decode cX0_go 39 = .ok (.iload_n 3, 1) := by decide +kernel
theorem dX0_go_40 : decode cX0_go 40 = .ok (.invokevirtual 81, 3) := by decide +kernel
theorem dX0_go_43 : decode cX0_go 43 = .ok (.ifCond .ne 4, 3) := by decide +kernel
theorem dX0_go_46 : decode cX0_go 46 = .ok (.return_, 1) := by decide +kernel
theorem dX0_go_47 : decode cX0_go 47 = .ok (.aload_n 0, 1) := by decide +kernel
theorem dX0_go_48 : decode cX0_go 48 = .ok (.getfield 9, 3) := by decide +kernel
theorem dX0_go_51 : decode cX0_go 51 = .ok (.iload_n 2, 1) := by decide +kernel
theorem dX0_go_52 : decode cX0_go 52 = .ok (.iload 4, 2) := by decide +kernel
theorem dX0_go_54 : decode cX0_go 54 = .ok (.iastore, 1) := by decide +kernel
theorem dX0_go_55 : decode cX0_go 55 = .ok (.return_, 1) := by decide +kernel
set_option maxRecDepth 20000 in
theorem ggX0_kick_X0_wayToBall : GoodIn wsX0_kick wsX0_wayToBall := goodIn_r _ [5, 6, 23] (by decide +kernel) (by decide +kernel)
set_option maxRecDepth 20000 in
theorem gX0_kick_X0_wayToBall : GoodIn wsX0_kick (wsV RX0 60 RX0 yX0_wayToBall wsX0_wayToBall) := goodIn_app (goodIn_of _ (by decide +kernel)) ggX0_kick_X0_wayToBall
set_option maxRecDepth 20000 in
theorem ggX0_kick_X0_moveBall : GoodIn wsX0_kick wsX0_moveBall := goodIn_r _ [10, 6, 11, 12, 13, 4, 14, 15, 16, 17, 18, 19, 20, 21, 22, 23, 24, 25, 26, 27, 28, 29, 30] (by decide +kernel) (by decide +kernel)
set_option maxRecDepth 20000 in
theorem gX0_kick_X0_moveBall : GoodIn wsX0_kick (wsV RX0 81 RX0 yX0_moveBall wsX0_moveBall) := goodIn_app (goodIn_of _ (by decide +kernel)) ggX0_kick_X0_moveBall
theorem dX0_kick_0 : decode cX0_kick 0 = .ok (.aload_n 0, 1) := by decide +kernel
theorem dX0_kick_1 : decode cX0_kick 1 = .ok (.iload_n 2, 1) := by decide +kernel
theorem dX0_kick_2 : decode cX0_kick 2 = .ok (.invokevirtual 60, 3) := by decide +kernel
theorem dX0_kick_5 : decode cX0_kick 5 = .ok (.istore 4, 2) := by decide +kernel
theorem dX0_kick_7 : decode cX0_kick 7 = .ok (.iload 4, 2) := by decide +kernel
theorem dX0_kick_9 : decode cX0_kick 9 = .ok (.ifCond .le 7, 3) := by decide +kernel
theorem dX0_kick_12 : decode cX0_kick 12 = .ok (.iconst 1, 1) := by decide +kernel
theorem dX0_kick_13 : decode cX0_kick 13 = .ok (.goto 4, 3) := by decide +kernel
theorem dX0_kick_16 : decode cX0_kick 16 = .ok (.iconst 0, 1) := by decide +kernel
theorem dX0_kick_17 : decode cX0_kick 17 = .ok (.istore 5, 2) := by decide +kernel
theorem dX0_kick_19 : decode cX0_kick 19 = .ok (.iconst 0, 1) := by decide +kernel
theorem dX0_kick_20 : decode cX0_kick 20 = .ok (.istore 6, 2) := by decide +kernel
theorem dX0_kick_22 : decode cX0_kick 22 = .ok (.iload 6, 2) := by decide +kernel
theorem dX0_kick_24 : decode cX0_kick 24 = .ok (.iload_n 3, 1) := by decide +kernel
theorem dX0_kick_25 : decode cX0_kick 25 = .ok (.if_icmp .ge 23, 3) := by decide +kernel
theorem dX0_kick_28 : decode cX0_kick 28 = .ok (.iload 5, 2) := by decide +kernel
theorem dX0_kick_30 : decode cX0_kick 30 = .ok (.ifCond .eq 18, 3) := by decide +kernel
theorem dX0_kick_33 : decode cX0_kick 33 = .ok (.aload_n 0, 1) := by decide +kernel
theorem dX0_kick_34 : decode cX0_kick 34 = .ok (.aload_n 1, 1) := by decide +kernel
theorem dX0_kick_35 : decode cX0_kick 35 = .ok (.iload 4, 2) := by decide +kernel
theorem dX0_kick_37 : decode cX0_kick 37 = .ok (.invokevirtual 81, 3) := by decide +kernel
theorem dX0_kick_40 : decode cX0_kick 40 = .ok (.istore 5, 2) := by decide +kernel
theorem dX0_kick_42 : decode cX0_kick 42 = .ok (.iinc 6 1, 3) := by decide +kernel
theorem dX0_kick_45 : decode cX0_kick 45 = .ok (.goto (-23), 3) := by decide +kernel
theorem dX0_kick_48 : decode cX0_kick 48 = .ok (.return_, 1) := by decide +kernel
theorem dX0_wayToBall_0 : decode cX0_wayToBall 0 = .ok (.iconst 1, 1) := by decide +kernel
theorem dX0_wayToBall_1 : decode cX0_wayToBall 1 = .ok (.istore_n 2, 1) := by decide +kernel
theorem dX0_wayToBall_2 : decode cX0_wayToBall 2 = .ok (.iload_n 2, 1) := by decide +kernel
theorem dX0_wayToBall_3 : decode cX0_wayToBall 3 = .ok (.iconst 4, 1) := by decide +kernel
theorem dX0_wayToBall_4 : decode cX0_wayToBall 4 = .ok (.if_icmp .gt 33, 3) := by decide +kernel
theorem dX0_wayToBall_7 : decode cX0_wayToBall 7 = .ok (.aload_n 0, 1) := by decide +kernel
theorem dX0_wayToBall_8 : decode cX0_wayToBall 8 = .ok (.getfield 9, 3) := by decide +kernel
theorem dX0_wayToBall_11 : decode cX0_wayToBall 11 = .ok (.iload_n 1, 1) := by decide +kernel
theorem dX0_wayToBall_12 : decode cX0_wayToBall 12 = .ok (.iaload, 1) := by decide +kernel
theorem dX0_wayToBall_13 : decode cX0_wayToBall 13 = .ok (.getstatic 74, 3) := by decide +kernel
theorem dX0_wayToBall_16 : decode cX0_wayToBall 16 = .ok (.iload_n 2, 1) := by decide +kernel
theorem dX0_wayToBall_17 : decode cX0_wayToBall 17 = .ok (.iaload, 1) := by decide +kernel
theorem dX0_wayToBall_18 : decode cX0_wayToBall 18 = .ok (.iadd, 1) := by decide +kernel
theorem dX0_wayToBall_19 : decode cX0_wayToBall 19 = .ok (.aload_n 0, 1) := by decide +kernel
theorem dX0_wayToBall_20 : decode cX0_wayToBall 20 = .ok (.getfield 9, 3) := by decide +kernel
theorem dX0_wayToBall_23 : decode cX0_wayToBall 23 = .ok (.bipush 6, 2) := by decide +kernel
theorem dX0_wayToBall_25 : decode cX0_wayToBall 25 = .ok (.iaload, 1) := by decide +kernel
theorem dX0_wayToBall_26 : decode cX0_wayToBall 26 = .ok (.if_icmp .ne 5, 3) := by decide +kernel
theorem dX0_wayToBall_29 : decode cX0_wayToBall 29 = .ok (.iload_n 2, 1) := by decide +kernel
theorem dX0_wayToBall_30 : decode cX0_wayToBall 30 = .ok (.ireturn, 1) := by decide +kernel
theorem dX0_wayToBall_31 : decode cX0_wayToBall 31 = .ok (.iinc 2 1, 3) := by decide +kernel
theorem dX0_wayToBall_34 : decode cX0_wayToBall 34 = .ok (.goto (-32), 3) := by decide +kernel
theorem dX0_wayToBall_37 : decode cX0_wayToBall 37 = .ok (.iconst 0, 1) := by decide +kernel
theorem dX0_wayToBall_38 : decode cX0_wayToBall 38 = .ok (.ireturn, 1) := by decide +kernel
set_option maxRecDepth 20000 in
theorem ggX0_spinBall_X0_moveBall : GoodIn wsX0_spinBall wsX0_moveBall := goodIn_r _ [6, 7, 8, 9, 10, 5, 11, 12, 13, 14, 15, 16, 17, 18, 19, 27, 20, 21, 22, 23, 24, 25, 26] (by decide +kernel) (by decide +kernel)
set_option maxRecDepth 20000 in
theorem gX0_spinBall_X0_moveBall : GoodIn wsX0_spinBall (wsV RX0 81 RX0 yX0_moveBall wsX0_moveBall) := goodIn_app (goodIn_of _ (by decide +kernel)) ggX0_spinBall_X0_moveBall
theorem dX0_spinBall_0 : decode cX0_spinBall 0 = .ok (.aload_n 1, 1) := by decide +kernel
theorem dX0_spinBall_1 : decode cX0_spinBall 1 = .ok (.getfield 84, 3) := by decide +kernel
theorem dX0_spinBall_4 : decode cX0_spinBall 4 = .ok (.iconst 1, 1) := by decide +kernel
theorem dX0_spinBall_5 : decode cX0_spinBall 5 = .ok (.iaload, 1) := by decide +kernel
theorem dX0_spinBall_6 : decode cX0_spinBall 6 = .ok (.istore_n 3, 1) := by decide +kernel
theorem dX0_spinBall_7 : decode cX0_spinBall 7 = .ok (.iload_n 3, 1) := by decide +kernel
theorem dX0_spinBall_8 : decode cX0_spinBall 8 = .ok (.ifCond .le 35, 3) := by decide +kernel
theorem dX0_spinBall_11 : decode cX0_spinBall 11 = .ok (.iload_n 2, 1) := by decide +kernel
theorem dX0_spinBall_12 : decode cX0_spinBall 12 = .ok (.iconst 1, 1) := by decide +kernel
theorem dX0_spinBall_13 : decode cX0_spinBall 13 = .ok (.iadd, 1) := by decide +kernel
theorem dX0_spinBall_14 : decode cX0_spinBall 14 = .ok (.iload_n 3, 1) := by decide +kernel
theorem dX0_spinBall_15 : decode cX0_spinBall 15 = .ok (.irem, 1) := by decide +kernel
theorem dX0_spinBall_16 : decode cX0_spinBall 16 = .ok (.ifCond .ne 27, 3) := by decide +kernel
theorem dX0_spinBall_19 : decode cX0_spinBall 19 = .ok (.aload_n 0, 1) := by decide +kernel
theorem dX0_spinBall_20 : decode cX0_spinBall 20 = .ok (.aload_n 1, 1) := by decide +kernel
theorem dX0_spinBall_21 : decode cX0_spinBall 21 = .ok (.bipush 31, 2) := by decide +kernel
theorem dX0_spinBall_23 : decode cX0_spinBall 23 = .ok (.aload_n 1, 1) := by decide +kernel
theorem dX0_spinBall_24 : decode cX0_spinBall 24 = .ok (.getfield 84, 3) := by decide +kernel
theorem dX0_spinBall_27 : decode cX0_spinBall 27 = .ok (.iconst 2, 1) := by decide +kernel
theorem dX0_spinBall_28 : decode cX0_spinBall 28 = .ok (.iaload, 1) := by decide +kernel
theorem dX0_spinBall_29 : decode cX0_spinBall 29 = .ok (.imul, 1) := by decide +kernel
theorem dX0_spinBall_30 : decode cX0_spinBall 30 = .ok (.bipush 17, 2) := by decide +kernel
theorem dX0_spinBall_32 : decode cX0_spinBall 32 = .ok (.iload_n 2, 1) := by decide +kernel
theorem dX0_spinBall_33 : decode cX0_spinBall 33 = .ok (.imul, 1) := by decide +kernel
theorem dX0_spinBall_34 : decode cX0_spinBall 34 = .ok (.iadd, 1) := by decide +kernel
theorem dX0_spinBall_35 : decode cX0_spinBall 35 = .ok (.iconst 4, 1) := by decide +kernel
theorem dX0_spinBall_36 : decode cX0_spinBall 36 = .ok (.irem, 1) := by decide +kernel
theorem dX0_spinBall_37 : decode cX0_spinBall 37 = .ok (.iconst 1, 1) := by decide +kernel
theorem dX0_spinBall_38 : decode cX0_spinBall 38 = .ok (.iadd, 1) := by decide +kernel
theorem dX0_spinBall_39 : decode cX0_spinBall 39 = .ok (.invokevirtual 81, 3) := by decide +kernel
theorem dX0_spinBall_42 : decode cX0_spinBall 42 = .ok (.pop, 1) := by decide +kernel
theorem dX0_spinBall_43 : decode cX0_spinBall 43 = .ok (.return_, 1) := by decide +kernel
set_option maxRecDepth 20000 in
theorem ggX0_givePoint_X7_distance : GoodIn wsX0_givePoint wsX7_distance := goodIn_r _ [5, 6, 7, 8, 9, 10, 11, 4, 12, 13, 14, 15] (by decide +kernel) (by decide +kernel)
set_option maxRecDepth 20000 in
theorem gX0_givePoint_X7_distance_n87 : GoodIn wsX0_givePoint (wsX7_distance) := ggX0_givePoint_X7_distance
theorem dX0_givePoint_0 : decode cX0_givePoint 0 = .ok (.iconst 0, 1) := by decide +kernel
theorem dX0_givePoint_1 : decode cX0_givePoint 1 = .ok (.istore_n 2, 1) := by decide +kernel
theorem dX0_givePoint_2 : decode cX0_givePoint 2 = .ok (.aload_n 0, 1) := by decide +kernel
theorem dX0_givePoint_3 : decode cX0_givePoint 3 = .ok (.getfield 9, 3) := by decide +kernel
theorem dX0_givePoint_6 : decode cX0_givePoint 6 = .ok (.iconst 0, 1) := by decide +kernel
theorem dX0_givePoint_7 : decode cX0_givePoint 7 = .ok (.iaload, 1) := by decide +kernel
theorem dX0_givePoint_8 : decode cX0_givePoint 8 = .ok (.aload_n 0, 1) := by decide +kernel
theorem dX0_givePoint_9 : decode cX0_givePoint 9 = .ok (.getfield 9, 3) := by decide +kernel
theorem dX0_givePoint_12 : decode cX0_givePoint 12 = .ok (.bipush 6, 2) := by decide +kernel
theorem dX0_givePoint_14 : decode cX0_givePoint 14 = .ok (.iaload, 1) := by decide +kernel
theorem dX0_givePoint_15 : decode cX0_givePoint 15 = .ok (.invokestatic 87, 3) := by decide +kernel
theorem dX0_givePoint_18 : decode cX0_givePoint 18 = .ok (.istore_n 3, 1) := by decide +kernel
theorem dX0_givePoint_19 : decode cX0_givePoint 19 = .ok (.iconst 1, 1) := by decide +kernel
theorem dX0_givePoint_20 : decode cX0_givePoint 20 = .ok (.istore 4, 2) := by decide +kernel
theorem dX0_givePoint_22 : decode cX0_givePoint 22 = .ok (.iconst 1, 1) := by decide +kernel
theorem dX0_givePoint_23 : decode cX0_givePoint 23 = .ok (.istore 5, 2) := by decide +kernel
theorem dX0_givePoint_25 : decode cX0_givePoint 25 = .ok (.iload 5, 2) := by decide +kernel
theorem dX0_givePoint_27 : decode cX0_givePoint 27 = .ok (.aload_n 1, 1) := by decide +kernel
theorem dX0_givePoint_28 : decode cX0_givePoint 28 = .ok (.getfield 21, 3) := by decide +kernel
theorem dX0_givePoint_31 : decode cX0_givePoint 31 = .ok (.if_icmp .ge 55, 3) := by decide +kernel
theorem dX0_givePoint_34 : decode cX0_givePoint 34 = .ok (.aload_n 0, 1) := by decide +kernel
theorem dX0_givePoint_35 : decode cX0_givePoint 35 = .ok (.getfield 9, 3) := by decide +kernel
theorem dX0_givePoint_38 : decode cX0_givePoint 38 = .ok (.iload 5, 2) := by decide +kernel
theorem dX0_givePoint_40 : decode cX0_givePoint 40 = .ok (.iaload, 1) := by decide +kernel
theorem dX0_givePoint_41 : decode cX0_givePoint 41 = .ok (.aload_n 0, 1) := by decide +kernel
theorem dX0_givePoint_42 : decode cX0_givePoint 42 = .ok (.getfield 9, 3) := by decide +kernel
theorem dX0_givePoint_45 : decode cX0_givePoint 45 = .ok (.bipush 6, 2) := by decide +kernel
theorem dX0_givePoint_47 : decode cX0_givePoint 47 = .ok (.iaload, 1) := by decide +kernel
theorem dX0_givePoint_48 : decode cX0_givePoint 48 = .ok (.invokestatic 87, 3) := by decide +kernel
theorem dX0_givePoint_51 : decode cX0_givePoint 51 = .ok (.istore 6, 2) := by decide +kernel
theorem dX0_givePoint_53 : decode cX0_givePoint 53 = .ok (.iload 6, 2) := by decide +kernel
theorem dX0_givePoint_55 : decode cX0_givePoint 55 = .ok (.iload_n 3, 1) := by decide +kernel
theorem dX0_givePoint_56 : decode cX0_givePoint 56 = .ok (.if_icmp .ge 15, 3) := by decide +kernel
theorem dX0_givePoint_59 : decode cX0_givePoint 59 = .ok (.iload 5, 2) := by decide +kernel
theorem dX0_givePoint_61 : decode cX0_givePoint 61 = .ok (.istore_n 2, 1) := by decide +kernel
theorem dX0_givePoint_62 : decode cX0_givePoint 62 = .ok (.iload 6, 2) := by decide +kernel
theorem dX0_givePoint_64 : decode cX0_givePoint 64 = .ok (.istore_n 3, 1) := by decide +kernel
theorem dX0_givePoint_65 : decode cX0_givePoint 65 = .ok (.iconst 1, 1) := by decide +kernel
theorem dX0_givePoint_66 : decode cX0_givePoint 66 = .ok (.istore 4, 2) := by decide +kernel
theorem dX0_givePoint_68 : decode cX0_givePoint 68 = .ok (.goto 12, 3) := by decide +kernel
theorem dX0_givePoint_71 : decode cX0_givePoint 71 = .ok (.iload 6, 2) := by decide +kernel
theorem dX0_givePoint_73 : decode cX0_givePoint 73 = .ok (.iload_n 3, 1) := by decide +kernel
theorem dX0_givePoint_74 : decode cX0_givePoint 74 = .ok (.if_icmp .ne 6, 3) := by decide +kernel
theorem dX0_givePoint_77 : decode cX0_givePoint 77 = .ok (.iconst 0, 1) := by decide +kernel
theorem dX0_givePoint_78 : decode cX0_givePoint 78 = .ok (.istore 4, 2) := by decide +kernel
theorem dX0_givePoint_80 : decode cX0_givePoint 80 = .ok (.iinc 5 1, 3) := by decide +kernel
theorem dX0_givePoint_83 : decode cX0_givePoint 83 = .ok (.goto (-58), 3) := by decide +kernel
theorem dX0_givePoint_86 : decode cX0_givePoint 86 = .ok (.iload 4, 2) := by decide +kernel
theorem dX0_givePoint_88 : decode cX0_givePoint 88 = .ok (.ifCond .eq 16, 3) := by decide +kernel
theorem dX0_givePoint_91 : decode cX0_givePoint 91 = .ok (.aload_n 0, 1) := by decide +kernel
theorem dX0_givePoint_92 : decode cX0_givePoint 92 = .ok (.getfield 9, 3) := by decide +kernel
theorem dX0_givePoint_95 : decode cX0_givePoint 95 = .ok (.bipush 7, 2) := by decide +kernel
theorem dX0_givePoint_97 : decode cX0_givePoint 97 = .ok (.iload_n 2, 1) := by decide +kernel
theorem dX0_givePoint_98 : decode cX0_givePoint 98 = .ok (.iadd, 1) := by decide +kernel
theorem dX0_givePoint_99 : decode cX0_givePoint 99 = .ok (.dup2, 1) := by decide +kernel
theorem dX0_givePoint_100 : decode cX0_givePoint 100 = .ok (.iaload, 1) := by decide +kernel
theorem dX0_givePoint_101 : decode cX0_givePoint 101 = .ok (.iconst 1, 1) := by decide +kernel
theorem dX0_givePoint_102 : decode cX0_givePoint 102 = .ok (.iadd, 1) := by decide +kernel
theorem dX0_givePoint_103 : decode cX0_givePoint 103 = .ok (.iastore, 1) := by decide +kernel
theorem dX0_givePoint_104 : decode cX0_givePoint 104 = .ok (.return_, 1) := by decide +kernel
theorem dX1_init_0 : decode cX1_init 0 = .ok (.aload_n 0, 1) := by decide +kernel
theorem dX1_init_1 : decode cX1_init 1 = .ok (.invokespecial 3, 3) := by decide +kernel
theorem dX1_init_4 : decode cX1_init 4 = .ok (.aload_n 0, 1) := by decide +kernel
theorem dX1_init_5 : decode cX1_init 5 = .ok (.iconst 0, 1) := by decide +kernel
theorem dX1_init_6 : decode cX1_init 6 = .ok (.putfield 9, 3) := by decide +kernel
theorem dX1_init_9 : decode cX1_init 9 = .ok (.aload_n 0, 1) := by decide +kernel
theorem dX1_init_10 : decode cX1_init 10 = .ok (.bipush 10, 2) := by decide +kernel
theorem dX1_init_12 : decode cX1_init 12 = .ok (.newarray .int, 2) := by decide +kernel
theorem dX1_init_14 : decode cX1_init 14 = .ok (.putfield 15, 3) := by decide +kernel
theorem dX1_init_17 : decode cX1_init 17 = .ok (.aload_n 0, 1) := by decide +kernel
theorem dX1_init_18 : decode cX1_init 18 = .ok (.bipush 10, 2) := by decide +kernel
theorem dX1_init_20 : decode cX1_init 20 = .ok (.newarray .int, 2) := by decide +kernel
theorem dX1_init_22 : decode cX1_init 22 = .ok (.putfield 19, 3) := by decide +kernel
theorem dX1_init_25 : decode cX1_init 25 = .ok (.aload_n 0, 1) := by decide +kernel
theorem dX1_init_26 : decode cX1_init 26 = .ok (.bipush 10, 2) := by decide +kernel
theorem dX1_init_28 : decode cX1_init 28 = .ok (.newarray .int, 2) := by decide +kernel
theorem dX1_init_30 : decode cX1_init 30 = .ok (.putfield 22, 3) := by decide +kernel
theorem dX1_init_33 : decode cX1_init 33 = .ok (.aload_n 0, 1) := by decide +kernel
theorem dX1_init_34 : decode cX1_init 34 = .ok (.bipush 16, 2) := by decide +kernel
theorem dX1_init_36 : decode cX1_init 36 = .ok (.newarray .int, 2) := by decide +kernel
theorem dX1_init_38 : decode cX1_init 38 = .ok (.putfield 25, 3) := by decide +kernel
theorem dX1_init_41 : decode cX1_init 41 = .ok (.aload_n 0, 1) := by decide +kernel
theorem dX1_init_42 : decode cX1_init 42 = .ok (.sipush 1024, 3) := by decide +kernel
theorem dX1_init_45 : decode cX1_init 45 = .ok (.newarray .int, 2) := by decide +kernel
theorem dX1_init_47 : decode cX1_init 47 = .ok (.putfield 28, 3) := by decide +kernel
theorem dX1_init_50 : decode cX1_init 50 = .ok (.aload_n 0, 1) := by decide +kernel
theorem dX1_init_51 : decode cX1_init 51 = .ok (.iconst 0, 1) := by decide +kernel
theorem dX1_init_52 : decode cX1_init 52 = .ok (.putfield 31, 3) := by decide +kernel
theorem dX1_init_55 : decode cX1_init 55 = .ok (.return_, 1) := by decide +kernel
theorem dX1_join_0 : decode cX1_join 0 = .ok (.aload_n 0, 1) := by decide +kernel
theorem dX1_join_1 : decode cX1_join 1 = .ok (.getfield 19, 3) := by decide +kernel
theorem dX1_join_4 : decode cX1_join 4 = .ok (.aload_n 0, 1) := by decide +kernel
theorem dX1_join_5 : decode cX1_join 5 = .ok (.getfield 9, 3) := by decide +kernel
theorem dX1_join_8 : decode cX1_join 8 = .ok (.iload_n 1, 1) := by decide +kernel
theorem dX1_join_9 : decode cX1_join 9 = .ok (.iastore, 1) := by decide +kernel
theorem dX1_join_10 : decode cX1_join 10 = .ok (.aload_n 0, 1) := by decide +kernel
theorem dX1_join_11 : decode cX1_join 11 = .ok (.getfield 22, 3) := by decide +kernel
theorem dX1_join_14 : decode cX1_join 14 = .ok (.aload_n 0, 1) := by decide +kernel
theorem dX1_join_15 : decode cX1_join 15 = .ok (.getfield 9, 3) := by decide +kernel
theorem dX1_join_18 : decode cX1_join 18 = .ok (.iload_n 2, 1) := by decide +kernel
theorem dX1_join_19 : decode cX1_join 19 = .ok (.iastore, 1) := by decide +kernel
theorem dX1_join_20 : decode cX1_join 20 = .ok (.aload_n 0, 1) := by decide +kernel
theorem dX1_join_21 : decode cX1_join 21 = .ok (.dup, 1) := by decide +kernel
theorem dX1_join_22 : decode cX1_join 22 = .ok (.getfield 9, 3) := by decide +kernel
theorem dX1_join_25 : decode cX1_join 25 = .ok (.iconst 1, 1) := by decide +kernel
theorem dX1_join_26 : decode cX1_join 26 = .ok (.iadd, 1) := by decide +kernel
theorem dX1_join_27 : decode cX1_join 27 = .ok (.putfield 9, 3) := by decide +kernel
theorem dX1_join_30 : decode cX1_join 30 = .ok (.aload_n 0, 1) := by decide +kernel
theorem dX1_join_31 : decode cX1_join 31 = .ok (.iconst 0, 1) := by decide +kernel
theorem dX1_join_32 : decode cX1_join 32 = .ok (.putfield 31, 3) := by decide +kernel
theorem dX1_join_35 : decode cX1_join 35 = .ok (.aload_n 0, 1) := by decide +kernel
theorem dX1_join_36 : decode cX1_join 36 = .ok (.getfield 9, 3) := by decide +kernel
theorem dX1_join_39 : decode cX1_join 39 = .ok (.iconst 1, 1) := by decide +kernel
theorem dX1_join_40 : decode cX1_join 40 = .ok (.isub, 1) := by decide +kernel
theorem dX1_join_41 : decode cX1_join 41 = .ok (.ireturn, 1) := by decide +kernel
theorem dX1_setFar_0 : decode cX1_setFar 0 = .ok (.aload_n 0, 1) := by decide +kernel
theorem dX1_setFar_1 : decode cX1_setFar 1 = .ok (.getfield 25, 3) := by decide +kernel
theorem dX1_setFar_4 : decode cX1_setFar 4 = .ok (.iload_n 1, 1) := by decide +kernel
theorem dX1_setFar_5 : decode cX1_setFar 5 = .ok (.iconst 4, 1) := by decide +kernel
theorem dX1_setFar_6 : decode cX1_setFar 6 = .ok (.imul, 1) := by decide +kernel
theorem dX1_setFar_7 : decode cX1_setFar 7 = .ok (.iload_n 2, 1) := by decide +kernel
theorem dX1_setFar_8 : decode cX1_setFar 8 = .ok (.iadd, 1) := by decide +kernel
theorem dX1_setFar_9 : decode cX1_setFar 9 = .ok (.iaload, 1) := by decide +kernel
theorem dX1_setFar_10 : decode cX1_setFar 10 = .ok (.istore 4, 2) := by decide +kernel
theorem dX1_setFar_12 : decode cX1_setFar 12 = .ok (.aload_n 0, 1) := by decide +kernel
theorem dX1_setFar_13 : decode cX1_setFar 13 = .ok (.getfield 25, 3) := by decide +kernel
theorem dX1_setFar_16 : decode cX1_setFar 16 = .ok (.iload_n 1, 1) := by decide +kernel
theorem dX1_setFar_17 : decode cX1_setFar 17 = .ok (.iconst 4, 1) := by decide +kernel
theorem dX1_setFar_18 : decode cX1_setFar 18 = .ok (.imul, 1) := by decide +kernel
theorem dX1_setFar_19 : decode cX1_setFar 19 = .ok (.iload_n 2, 1) := by decide +kernel
theorem dX1_setFar_20 : decode cX1_setFar 20 = .ok (.iadd, 1) := by decide +kernel
theorem dX1_setFar_21 : decode cX1_setFar 21 = .ok (.iload_n 3, 1) := by decide +kernel
theorem dX1_setFar_22 : decode cX1_setFar 22 = .ok (.iastore, 1) := by decide +kernel
theorem dX1_setFar_23 : decode cX1_setFar 23 = .ok (.aload_n 0, 1) := by decide +kernel
theorem dX1_setFar_24 : decode cX1_setFar 24 = .ok (.getfield 25, 3) := by decide +kernel
theorem dX1_setFar_27 : decode cX1_setFar 27 = .ok (.iload_n 2, 1) := by decide +kernel
theorem dX1_setFar_28 : decode cX1_setFar 28 = .ok (.iconst 4, 1) := by decide +kernel
theorem dX1_setFar_29 : decode cX1_setFar 29 = .ok (.imul, 1) := by decide +kernel
theorem dX1_setFar_30 : decode cX1_setFar 30 = .ok (.iload_n 1, 1) := by decide +kernel
theorem dX1_setFar_31 : decode cX1_setFar 31 = .ok (.iadd, 1) := by decide +kernel
theorem dX1_setFar_32 : decode cX1_setFar 32 = .ok (.iload_n 3, 1) := by decide +kernel
theorem dX1_setFar_33 : decode cX1_setFar 33 = .ok (.iastore, 1) := by decide +kernel
theorem dX1_setFar_34 : decode cX1_setFar 34 = .ok (.aload_n 0, 1) := by decide +kernel
theorem dX1_setFar_35 : decode cX1_setFar 35 = .ok (.iconst 0, 1) := by decide +kernel
theorem dX1_setFar_36 : decode cX1_setFar 36 = .ok (.putfield 31, 3) := by decide +kernel
theorem dX1_setFar_39 : decode cX1_setFar 39 = .ok (.iload 4, 2) := by decide +kernel
theorem dX1_setFar_41 : decode cX1_setFar 41 = .ok (.ireturn, 1) := by decide +kernel
theorem dX1_leastCost_0 : decode cX1_leastCost 0 = .ok (.aload_n 0, 1) := by decide +kernel
theorem dX1_leastCost_1 : decode cX1_leastCost 1 = .ok (.getfield 28, 3) := by decide +kernel
theorem dX1_leastCost_4 : decode cX1_leastCost 4 = .ok (.iconst 1, 1) := by decide +kernel
theorem dX1_leastCost_5 : decode cX1_leastCost 5 = .ok (.aload_n 0, 1) := by decide +kernel
theorem dX1_leastCost_6 : decode cX1_leastCost 6 = .ok (.getfield 9, 3) := by decide +kernel
theorem dX1_leastCost_9 : decode cX1_leastCost 9 = .ok (.ishl, 1) := by decide +kernel
theorem dX1_leastCost_10 : decode cX1_leastCost 10 = .ok (.iconst 1, 1) := by decide +kernel
theorem dX1_leastCost_11 : decode cX1_leastCost 11 = .ok (.isub, 1) := by decide +kernel
theorem dX1_leastCost_12 : decode cX1_leastCost 12 = .ok (.iaload, 1) := by decide +kernel
theorem dX1_leastCost_13 : decode cX1_leastCost 13 = .ok (.ireturn, 1) := by decide +kernel
set_option maxRecDepth 20000 in
theorem ggX1_pairUp_X1_leastOf : GoodIn wsX1_pairUp wsX1_leastOf := goodIn_r _ [9, 3, 10, 2, 11, 12, 13, 14, 15, 16, 17, 8, 18, 19, 20, 21, 22, 23, 24, 25, 26, 27, 28, 29, 30, 31, 32, 33, 34, 35, 40, 41, 42, 43, 44, 45, 46] (by decide +kernel) (by decide +kernel)
set_option maxRecDepth 20000 in
theorem gX1_pairUp_X1_leastOf : GoodIn wsX1_pairUp (wsV RX1 35 RX1 yX1_leastOf wsX1_leastOf) := goodIn_app (goodIn_of _ (by decide +kernel)) ggX1_pairUp_X1_leastOf
set_option maxRecDepth 20000 in
theorem ggX1_pairUp_X1_leastMate : GoodIn wsX1_pairUp wsX1_leastMate := goodIn_r _ [39, 2, 3, 26, 27, 28, 8, 29, 30, 31, 32, 13, 33, 34, 35, 40, 41, 42, 43, 44, 45, 46] (by decide +kernel) (by decide +kernel)
set_option maxRecDepth 20000 in
theorem gX1_pairUp_X1_leastMate : GoodIn wsX1_pairUp (wsV RX1 39 RX1 yX1_leastMate wsX1_leastMate) := goodIn_app (goodIn_of _ (by decide +kernel)) ggX1_pairUp_X1_leastMate
theorem dX1_pairUp_0 : decode cX1_pairUp 0 = .ok (.aload_n 0, 1) := by decide +kernel
theorem dX1_pairUp_1 : decode cX1_pairUp 1 = .ok (.getfield 31, 3) := by decide +kernel
theorem dX1_pairUp_4 : decode cX1_pairUp 4 = .ok (.ifCond .eq 4, 3) := by decide +kernel
theorem dX1_pairUp_7 : decode cX1_pairUp 7 = .ok (.return_, 1) := by decide +kernel
theorem dX1_pairUp_8 : decode cX1_pairUp 8 = .ok (.iconst 1, 1) := by decide +kernel
theorem dX1_pairUp_9 : decode cX1_pairUp 9 = .ok (.istore_n 1, 1) := by decide +kernel
theorem dX1_pairUp_10 : decode cX1_pairUp 10 = .ok (.iload_n 1, 1) := by decide +kernel
theorem dX1_pairUp_11 : decode cX1_pairUp 11 = .ok (.iconst 1, 1) := by decide +kernel
theorem dX1_pairUp_12 : decode cX1_pairUp 12 = .ok (.aload_n 0, 1) := by decide +kernel
theorem dX1_pairUp_13 : decode cX1_pairUp 13 = .ok (.getfield 9, 3) := by decide +kernel
theorem dX1_pairUp_16 : decode cX1_pairUp 16 = .ok (.ishl, 1) := by decide +kernel
theorem dX1_pairUp_17 : decode cX1_pairUp 17 = .ok (.if_icmp .ge 20, 3) := by decide +kernel
theorem dX1_pairUp_20 : decode cX1_pairUp 20 = .ok (.aload_n 0, 1) := by decide +kernel
theorem dX1_pairUp_21 : decode cX1_pairUp 21 = .ok (.getfield 28, 3) := by decide +kernel
theorem dX1_pairUp_24 : decode cX1_pairUp 24 = .ok (.iload_n 1, 1) := by decide +kernel
theorem dX1_pairUp_25 : decode cX1_pairUp 25 = .ok (.aload_n 0, 1) := by decide +kernel
theorem dX1_pairUp_26 : decode cX1_pairUp 26 = .ok (.iload_n 1, 1) := by decide +kernel
theorem dX1_pairUp_27 : decode cX1_pairUp 27 = .ok (.invokevirtual 35, 3) := by decide +kernel
theorem dX1_pairUp_30 : decode cX1_pairUp 30 = .ok (.iastore, 1) := by decide +kernel
theorem dX1_pairUp_31 : decode cX1_pairUp 31 = .ok (.iinc 1 1, 3) := by decide +kernel
theorem dX1_pairUp_34 : decode cX1_pairUp 34 = .ok (.goto (-24), 3) := by decide +kernel
theorem dX1_pairUp_37 : decode cX1_pairUp 37 = .ok (.iconst 1, 1) := by decide +kernel
theorem dX1_pairUp_38 : decode cX1_pairUp 38 = .ok (.aload_n 0, 1) := by decide +kernel
theorem dX1_pairUp_39 : decode cX1_pairUp 39 = .ok (.getfield 9, 3) := by decide +kernel
theorem dX1_pairUp_42 : decode cX1_pairUp 42 = .ok (.ishl, 1) := by decide +kernel
theorem dX1_pairUp_43 : decode cX1_pairUp 43 = .ok (.iconst 1, 1) := by decide +kernel
theorem dX1_pairUp_44 : decode cX1_pairUp 44 = .ok (.isub, 1) := by decide +kernel
theorem dX1_pairUp_45 : decode cX1_pairUp 45 = .ok (.istore_n 1, 1) := by decide +kernel
theorem dX1_pairUp_46 : decode cX1_pairUp 46 = .ok (.iconst 0, 1) := by decide +kernel
theorem dX1_pairUp_47 : decode cX1_pairUp 47 = .ok (.istore_n 2, 1) := by decide +kernel
theorem dX1_pairUp_48 : decode cX1_pairUp 48 = .ok (.iload_n 2, 1) := by decide +kernel
theorem dX1_pairUp_49 : decode cX1_pairUp 49 = .ok (.aload_n 0, 1) := by decide +kernel
theorem dX1_pairUp_50 : decode cX1_pairUp 50 = .ok (.getfield 9, 3) := by decide +kernel
theorem dX1_pairUp_53 : decode cX1_pairUp 53 = .ok (.if_icmp .ge 57, 3) := by decide +kernel
theorem dX1_pairUp_56 : decode cX1_pairUp 56 = .ok (.iload_n 1, 1) := by decide +kernel
theorem dX1_pairUp_57 : decode cX1_pairUp 57 = .ok (.iload_n 2, 1) := by decide +kernel
theorem dX1_pairUp_58 : decode cX1_pairUp 58 = .ok (.ishr, 1) := by decide +kernel
theorem dX1_pairUp_59 : decode cX1_pairUp 59 = .ok (.iconst 1, 1) := by decide +kernel
theorem dX1_pairUp_60 : decode cX1_pairUp 60 = .ok (.iand, 1) := by decide +kernel
theorem dX1_pairUp_61 : decode cX1_pairUp 61 = .ok (.iconst 1, 1) := by decide +kernel
theorem dX1_pairUp_62 : decode cX1_pairUp 62 = .ok (.if_icmp .ne 42, 3) := by decide +kernel
theorem dX1_pairUp_65 : decode cX1_pairUp 65 = .ok (.aload_n 0, 1) := by decide +kernel
theorem dX1_pairUp_66 : decode cX1_pairUp 66 = .ok (.iload_n 1, 1) := by decide +kernel
theorem dX1_pairUp_67 : decode cX1_pairUp 67 = .ok (.iload_n 2, 1) := by decide +kernel
theorem dX1_pairUp_68 : decode cX1_pairUp 68 = .ok (.invokevirtual 39, 3) := by decide +kernel
theorem dX1_pairUp_71 : decode cX1_pairUp 71 = .ok (.istore_n 3, 1) := by decide +kernel
theorem dX1_pairUp_72 : decode cX1_pairUp 72 = .ok (.aload_n 0, 1) := by decide +kernel
theorem dX1_pairUp_73 : decode cX1_pairUp 73 = .ok (.getfield 15, 3) := by decide +kernel
theorem dX1_pairUp_76 : decode cX1_pairUp 76 = .ok (.iload_n 2, 1) := by decide +kernel
theorem dX1_pairUp_77 : decode cX1_pairUp 77 = .ok (.iload_n 3, 1) := by decide +kernel
theorem dX1_pairUp_78 : decode cX1_pairUp 78 = .ok (.iastore, 1) := by decide +kernel
theorem dX1_pairUp_79 : decode cX1_pairUp 79 = .ok (.iload_n 1, 1) := by decide +kernel
theorem dX1_pairUp_80 : decode cX1_pairUp 80 = .ok (.iconst 1, 1) := by decide +kernel
theorem dX1_pairUp_81 : decode cX1_pairUp 81 = .ok (.iload_n 2, 1) := by decide +kernel
theorem dX1_pairUp_82 : decode cX1_pairUp 82 = .ok (.ishl, 1) := by decide +kernel
theorem dX1_pairUp_83 : decode cX1_pairUp 83 = .ok (.ixor, 1) := by decide +kernel
theorem dX1_pairUp_84 : decode cX1_pairUp 84 = .ok (.istore_n 1, 1) := by decide +kernel
theorem dX1_pairUp_85 : decode cX1_pairUp 85 = .ok (.iload_n 3, 1) := by decide +kernel
theorem dX1_pairUp_86 : decode cX1_pairUp 86 = .ok (.bipush (-9), 2) := by decide +kernel
theorem dX1_pairUp_88 : decode cX1_pairUp 88 = .ok (.if_icmp .eq 16, 3) := by decide +kernel
theorem dX1_pairUp_91 : decode cX1_pairUp 91 = .ok (.aload_n 0, 1) := by decide +kernel
theorem dX1_pairUp_92 : decode cX1_pairUp 92 = .ok (.getfield 15, 3) := by decide +kernel
theorem dX1_pairUp_95 : decode cX1_pairUp 95 = .ok (.iload_n 3, 1) := by decide +kernel
theorem dX1_pairUp_96 : decode cX1_pairUp 96 = .ok (.iload_n 2, 1) := by decide +kernel
theorem dX1_pairUp_97 : decode cX1_pairUp 97 = .ok (.iastore, 1) := by decide +kernel
theorem dX1_pairUp_98 : decode cX1_pairUp 98 = .ok (.iload_n 1, 1) := by decide +kernel
theorem dX1_pairUp_99 : decode cX1_pairUp 99 = .ok (.iconst 1, 1) := by decide +kernel
theorem dX1_pairUp_100 : decode cX1_pairUp 100 = .ok (.iload_n 3, 1) := by decide +kernel
theorem dX1_pairUp_101 : decode cX1_pairUp 101 = .ok (.ishl, 1) := by decide +kernel
theorem dX1_pairUp_102 : decode cX1_pairUp 102 = .ok (.ixor, 1) := by decide +kernel
theorem dX1_pairUp_103 : decode cX1_pairUp 103 = .ok (.istore_n 1, 1) := by decide +kernel
theorem dX1_pairUp_104 : decode cX1_pairUp 104 = .ok (.iinc 2 1, 3) := by decide +kernel
theorem dX1_pairUp_107 : decode cX1_pairUp 107 = .ok (.goto (-59), 3) := by decide +kernel
theorem dX1_pairUp_110 : decode cX1_pairUp 110 = .ok (.aload_n 0, 1) := by decide +kernel
theorem dX1_pairUp_111 : decode cX1_pairUp 111 = .ok (.iconst 1, 1) := by decide +kernel
theorem dX1_pairUp_112 : decode cX1_pairUp 112 = .ok (.putfield 31, 3) := by decide +kernel
theorem dX1_pairUp_115 : decode cX1_pairUp 115 = .ok (.return_, 1) := by decide +kernel
theorem dX1_costOfPair_0 : decode cX1_costOfPair 0 = .ok (.aload_n 0, 1) := by decide +kernel
theorem dX1_costOfPair_1 : decode cX1_costOfPair 1 = .ok (.getfield 19, 3) := by decide +kernel
theorem dX1_costOfPair_4 : decode cX1_costOfPair 4 = .ok (.iload_n 1, 1) := by decide +kernel
theorem dX1_costOfPair_5 : decode cX1_costOfPair 5 = .ok (.iaload, 1) := by decide +kernel
theorem dX1_costOfPair_6 : decode cX1_costOfPair 6 = .ok (.aload_n 0, 1) := by decide +kernel
theorem dX1_costOfPair_7 : decode cX1_costOfPair 7 = .ok (.getfield 19, 3) := by decide +kernel
theorem dX1_costOfPair_10 : decode cX1_costOfPair 10 = .ok (.iload_n 2, 1) := by decide +kernel
theorem dX1_costOfPair_11 : decode cX1_costOfPair 11 = .ok (.iaload, 1) := by decide +kernel
theorem dX1_costOfPair_12 : decode cX1_costOfPair 12 = .ok (.isub, 1) := by decide +kernel
theorem dX1_costOfPair_13 : decode cX1_costOfPair 13 = .ok (.invokestatic 43, 3) := by decide +kernel
theorem dX1_costOfPair_16 : decode cX1_costOfPair 16 = .ok (.aload_n 0, 1) := by decide +kernel
theorem dX1_costOfPair_17 : decode cX1_costOfPair 17 = .ok (.getfield 25, 3) := by decide +kernel
theorem dX1_costOfPair_20 : decode cX1_costOfPair 20 = .ok (.aload_n 0, 1) := by decide +kernel
theorem dX1_costOfPair_21 : decode cX1_costOfPair 21 = .ok (.getfield 22, 3) := by decide +kernel
theorem dX1_costOfPair_24 : decode cX1_costOfPair 24 = .ok (.iload_n 1, 1) := by decide +kernel
theorem dX1_costOfPair_25 : decode cX1_costOfPair 25 = .ok (.iaload, 1) := by decide +kernel
theorem dX1_costOfPair_26 : decode cX1_costOfPair 26 = .ok (.iconst 4, 1) := by decide +kernel
theorem dX1_costOfPair_27 : decode cX1_costOfPair 27 = .ok (.imul, 1) := by decide +kernel
theorem dX1_costOfPair_28 : decode cX1_costOfPair 28 = .ok (.aload_n 0, 1) := by decide +kernel
theorem dX1_costOfPair_29 : decode cX1_costOfPair 29 = .ok (.getfield 22, 3) := by decide +kernel
theorem dX1_costOfPair_32 : decode cX1_costOfPair 32 = .ok (.iload_n 2, 1) := by decide +kernel
theorem dX1_costOfPair_33 : decode cX1_costOfPair 33 = .ok (.iaload, 1) := by decide +kernel
theorem dX1_costOfPair_34 : decode cX1_costOfPair 34 = .ok (.iadd, 1) := by decide +kernel
theorem dX1_costOfPair_35 : decode cX1_costOfPair 35 = .ok (.iaload, 1) := by decide +kernel
theorem dX1_costOfPair_36 : decode cX1_costOfPair 36 = .ok (.iadd, 1) := by decide +kernel
theorem dX1_costOfPair_37 : decode cX1_costOfPair 37 = .ok (.ireturn, 1) := by decide +kernel
theorem dX1_firstOf_0 : decode cX1_firstOf 0 = .ok (.iconst 0, 1) := by decide +kernel
theorem dX1_firstOf_1 : decode cX1_firstOf 1 = .ok (.istore_n 2, 1) := by decide +kernel
theorem dX1_firstOf_2 : decode cX1_firstOf 2 = .ok (.iload_n 2, 1) := by decide +kernel
theorem dX1_firstOf_3 : decode cX1_firstOf 3 = .ok (.bipush 10, 2) := by decide +kernel
theorem dX1_firstOf_5 : decode cX1_firstOf 5 = .ok (.if_icmp .ge 20, 3) := by decide +kernel
theorem dX1_firstOf_8 : decode cX1_firstOf 8 = .ok (.iload_n 1, 1) := by decide +kernel
theorem dX1_firstOf_9 : decode cX1_firstOf 9 = .ok (.iload_n 2, 1) := by decide +kernel
theorem dX1_firstOf_10 : decode cX1_firstOf 10 = .ok (.ishr, 1) := by decide +kernel
theorem dX1_firstOf_11 : decode cX1_firstOf 11 = .ok (.iconst 1, 1) := by decide +kernel
theorem dX1_firstOf_12 : decode cX1_firstOf 12 = .ok (.iand, 1) := by decide +kernel
theorem dX1_firstOf_13 : decode cX1_firstOf 13 = .ok (.iconst 1, 1) := by decide +kernel
theorem dX1_firstOf_14 : decode cX1_firstOf 14 = .ok (.if_icmp .ne 5, 3) := by decide +kernel
theorem dX1_firstOf_17 : decode cX1_firstOf 17 = .ok (.iload_n 2, 1) := by decide +kernel
theorem dX1_firstOf_18 : decode cX1_firstOf 18 = .ok (.ireturn, 1) := by decide +kernel
theorem dX1_firstOf_19 : decode cX1_firstOf 19 = .ok (.iinc 2 1, 3) := by decide +kernel
theorem dX1_firstOf_22 : decode cX1_firstOf 22 = .ok (.goto (-20), 3) := by decide +kernel
theorem dX1_firstOf_25 : decode cX1_firstOf 25 = .ok (.iconst 0, 1) := by decide +kernel
theorem dX1_firstOf_26 : decode cX1_firstOf 26 = .ok (.ireturn, 1) := by decide +kernel
set_option maxRecDepth 20000 in
theorem ggX1_leastOf_X1_firstOf : GoodIn wsX1_leastOf wsX1_firstOf := goodIn_r _ [12] (by decide +kernel) (by decide +kernel)
set_option maxRecDepth 20000 in
theorem gX1_leastOf_X1_firstOf : GoodIn wsX1_leastOf (wsV RX1 48 RX1 yX1_firstOf wsX1_firstOf) := goodIn_app (goodIn_of _ (by decide +kernel)) ggX1_leastOf_X1_firstOf
set_option maxRecDepth 20000 in
theorem ggX1_leastOf_J6_bitCount_0f7a4 : GoodIn wsX1_leastOf wsJ6_bitCount_0f7a4 := goodIn_r _ [16, 17, 18, 19] (by decide +kernel) (by decide +kernel)
set_option maxRecDepth 20000 in
theorem gX1_leastOf_J6_bitCount_0f7a4 : GoodIn wsX1_leastOf (va_wsS RX1 51 yJ6_bitCount_0f7a4 wsJ6_bitCount_0f7a4) := goodIn_app (goodIn_of _ (by decide +kernel)) ggX1_leastOf_J6_bitCount_0f7a4
set_option maxRecDepth 20000 in
theorem ggX1_leastOf_X1_costOfPair : GoodIn wsX1_leastOf wsX1_costOfPair := goodIn_r _ [23, 24, 25, 26, 6, 27, 28, 29, 30, 31, 32, 33, 34, 35, 36] (by decide +kernel) (by decide +kernel)
set_option maxRecDepth 20000 in
theorem gX1_leastOf_X1_costOfPair : GoodIn wsX1_leastOf (wsV RX1 57 RX1 yX1_costOfPair wsX1_costOfPair) := goodIn_app (goodIn_of _ (by decide +kernel)) ggX1_leastOf_X1_costOfPair
theorem dX1_leastOf_0 : decode cX1_leastOf 0 = .ok (.aload_n 0, 1) := by decide +kernel
theorem dX1_leastOf_1 : decode cX1_leastOf 1 = .ok (.iload_n 1, 1) := by decide +kernel
theorem dX1_leastOf_2 : decode cX1_leastOf 2 = .ok (.invokevirtual 48, 3) := by decide +kernel
theorem dX1_leastOf_5 : decode cX1_leastOf 5 = .ok (.istore_n 2, 1) := by decide +kernel
theorem dX1_leastOf_6 : decode cX1_leastOf 6 = .ok (.iload_n 1, 1) := by decide +kernel
theorem dX1_leastOf_7 : decode cX1_leastOf 7 = .ok (.iconst 1, 1) := by decide +kernel
theorem dX1_leastOf_8 : decode cX1_leastOf 8 = .ok (.iload_n 2, 1) := by decide +kernel
theorem dX1_leastOf_9 : decode cX1_leastOf 9 = .ok (.ishl, 1) := by decide +kernel
theorem dX1_leastOf_10 : decode cX1_leastOf 10 = .ok (.ixor, 1) := by decide +kernel
theorem dX1_leastOf_11 : decode cX1_leastOf 11 = .ok (.istore_n 3, 1) := by decide +kernel
theorem dX1_leastOf_12 : decode cX1_leastOf 12 = .ok (.iload_n 1, 1) := by decide +kernel
theorem dX1_leastOf_13 : decode cX1_leastOf 13 = .ok (.invokestatic 51, 3) := by decide +kernel
theorem dX1_leastOf_16 : decode cX1_leastOf 16 = .ok (.iconst 1, 1) := by decide +kernel
theorem dX1_leastOf_17 : decode cX1_leastOf 17 = .ok (.iand, 1) := by decide +kernel
theorem dX1_leastOf_18 : decode cX1_leastOf 18 = .ok (.iconst 1, 1) := by decide +kernel
theorem dX1_leastOf_19 : decode cX1_leastOf 19 = .ok (.if_icmp .ne 7, 3) := by decide +kernel
theorem dX1_leastOf_22 : decode cX1_leastOf 22 = .ok (.iconst 1, 1) := by decide +kernel
theorem dX1_leastOf_23 : decode cX1_leastOf 23 = .ok (.goto 4, 3) := by decide +kernel
theorem dX1_leastOf_26 : decode cX1_leastOf 26 = .ok (.iconst 0, 1) := by decide +kernel
theorem dX1_leastOf_27 : decode cX1_leastOf 27 = .ok (.istore 4, 2) := by decide +kernel
theorem dX1_leastOf_29 : decode cX1_leastOf 29 = .ok (.iload 4, 2) := by decide +kernel
theorem dX1_leastOf_31 : decode cX1_leastOf 31 = .ok (.ifCond .eq 12, 3) := by decide +kernel
theorem dX1_leastOf_34 : decode cX1_leastOf 34 = .ok (.aload_n 0, 1) := by decide +kernel
theorem dX1_leastOf_35 : decode cX1_leastOf 35 = .ok (.getfield 28, 3) := by decide +kernel
theorem dX1_leastOf_38 : decode cX1_leastOf 38 = .ok (.iload_n 3, 1) := by decide +kernel
theorem dX1_leastOf_39 : decode cX1_leastOf 39 = .ok (.iaload, 1) := by decide +kernel
theorem dX1_leastOf_40 : decode cX1_leastOf 40 = .ok (.goto 5, 3) := by decide +kernel
theorem dX1_leastOf_43 : decode cX1_leastOf 43 = .ok (.ldc 56, 2) := by decide +kernel
theorem dX1_leastOf_45 : decode cX1_leastOf 45 = .ok (.istore 5, 2) := by decide +kernel
theorem dX1_leastOf_47 : decode cX1_leastOf 47 = .ok (.iload_n 2, 1) := by decide +kernel
theorem dX1_leastOf_48 : decode cX1_leastOf 48 = .ok (.iconst 1, 1) := by decide +kernel
theorem dX1_leastOf_49 : decode cX1_leastOf 49 = .ok (.iadd, 1) := by decide +kernel
theorem dX1_leastOf_50 : decode cX1_leastOf 50 = .ok (.istore 6, 2) := by decide +kernel
theorem dX1_leastOf_52 : decode cX1_leastOf 52 = .ok (.iload 6, 2) := by decide +kernel
theorem dX1_leastOf_54 : decode cX1_leastOf 54 = .ok (.aload_n 0, 1) := by decide +kernel
theorem dX1_leastOf_55 : decode cX1_leastOf 55 = .ok (.getfield 9, 3) := by decide +kernel
theorem dX1_leastOf_58 : decode cX1_leastOf 58 = .ok (.if_icmp .ge 45, 3) := by decide +kernel
theorem dX1_leastOf_61 : decode cX1_leastOf 61 = .ok (.iload_n 3, 1) := by decide +kernel
theorem dX1_leastOf_62 : decode cX1_leastOf 62 = .ok (.iload 6, 2) := by decide +kernel
theorem dX1_leastOf_64 : decode cX1_leastOf 64 = .ok (.ishr, 1) := by decide +kernel
theorem dX1_leastOf_65 : decode cX1_leastOf 65 = .ok (.iconst 1, 1) := by decide +kernel
theorem dX1_leastOf_66 : decode cX1_leastOf 66 = .ok (.iand, 1) := by decide +kernel
theorem dX1_leastOf_67 : decode cX1_leastOf 67 = .ok (.iconst 1, 1) := by decide +kernel
theorem dX1_leastOf_68 : decode cX1_leastOf 68 = .ok (.if_icmp .ne 29, 3) := by decide +kernel
theorem dX1_leastOf_71 : decode cX1_leastOf 71 = .ok (.iload 5, 2) := by decide +kernel
theorem dX1_leastOf_73 : decode cX1_leastOf 73 = .ok (.aload_n 0, 1) := by decide +kernel
theorem dX1_leastOf_74 : decode cX1_leastOf 74 = .ok (.iload_n 2, 1) := by decide +kernel
theorem dX1_leastOf_75 : decode cX1_leastOf 75 = .ok (.iload 6, 2) := by decide +kernel
theorem dX1_leastOf_77 : decode cX1_leastOf 77 = .ok (.invokevirtual 57, 3) := by decide +kernel
theorem dX1_leastOf_80 : decode cX1_leastOf 80 = .ok (.aload_n 0, 1) := by decide +kernel
theorem dX1_leastOf_81 : decode cX1_leastOf 81 = .ok (.getfield 28, 3) := by decide +kernel
theorem dX1_leastOf_84 : decode cX1_leastOf 84 = .ok (.iload_n 3, 1) := by decide +kernel
theorem dX1_leastOf_85 : decode cX1_leastOf 85 = .ok (.iconst 1, 1) := by decide +kernel
theorem dX1_leastOf_86 : decode cX1_leastOf 86 = .ok (.iload 6, 2) := by decide +kernel
theorem dX1_leastOf_88 : decode cX1_leastOf 88 = .ok (.ishl, 1) := by decide +kernel
theorem dX1_leastOf_89 : decode cX1_leastOf 89 = .ok (.ixor, 1) := by decide +kernel
theorem dX1_leastOf_90 : decode cX1_leastOf 90 = .ok (.iaload, 1) := by decide +kernel
theorem dX1_leastOf_91 : decode cX1_leastOf 91 = .ok (.iadd, 1) := by decide +kernel
theorem dX1_leastOf_92 : decode cX1_leastOf 92 = .ok (.invokestatic 60, 3) := by decide +kernel
theorem dX1_leastOf_95 : decode cX1_leastOf 95 = .ok (.istore 5, 2) := by decide +kernel
theorem dX1_leastOf_97 : decode cX1_leastOf 97 = .ok (.iinc 6 1, 3) := by decide +kernel
theorem dX1_leastOf_100 : decode cX1_leastOf 100 = .ok (.goto (-48), 3) := by decide +kernel
theorem dX1_leastOf_103 : decode cX1_leastOf 103 = .ok (.iload 5, 2) := by decide +kernel
theorem dX1_leastOf_105 : decode cX1_leastOf 105 = .ok (.ireturn, 1) := by decide +kernel
set_option maxRecDepth 20000 in
theorem ggX1_leastMate_X1_costOfPair : GoodIn wsX1_leastMate wsX1_costOfPair := goodIn_r _ [7, 8, 9, 10, 11, 12, 13, 14, 15, 16, 17, 18, 19, 20, 21] (by decide +kernel) (by decide +kernel)
set_option maxRecDepth 20000 in
theorem gX1_leastMate_X1_costOfPair : GoodIn wsX1_leastMate (wsV RX1 57 RX1 yX1_costOfPair wsX1_costOfPair) := goodIn_app (goodIn_of _ (by decide +kernel)) ggX1_leastMate_X1_costOfPair
theorem dX1_leastMate_0 : decode cX1_leastMate 0 = .ok (.iload_n 1, 1) := by decide +kernel
theorem dX1_leastMate_1 : decode cX1_leastMate 1 = .ok (.iconst 1, 1) := by decide +kernel
theorem dX1_leastMate_2 : decode cX1_leastMate 2 = .ok (.iload_n 2, 1) := by decide +kernel
theorem dX1_leastMate_3 : decode cX1_leastMate 3 = .ok (.ishl, 1) := by decide +kernel
theorem dX1_leastMate_4 : decode cX1_leastMate 4 = .ok (.ixor, 1) := by decide +kernel
theorem dX1_leastMate_5 : decode cX1_leastMate 5 = .ok (.istore_n 3, 1) := by decide +kernel
theorem dX1_leastMate_6 : decode cX1_leastMate 6 = .ok (.iload_n 2, 1) := by decide +kernel
theorem dX1_leastMate_7 : decode cX1_leastMate 7 = .ok (.iconst 1, 1) := by decide +kernel
theorem dX1_leastMate_8 : decode cX1_leastMate 8 = .ok (.iadd, 1) := by decide +kernel
theorem dX1_leastMate_9 : decode cX1_leastMate 9 = .ok (.istore 4, 2) := by decide +kernel
theorem dX1_leastMate_11 : decode cX1_leastMate 11 = .ok (.iload 4, 2) := by decide +kernel
theorem dX1_leastMate_13 : decode cX1_leastMate 13 = .ok (.aload_n 0, 1) := by decide +kernel
theorem dX1_leastMate_14 : decode cX1_leastMate 14 = .ok (.getfield 9, 3) := by decide +kernel
theorem dX1_leastMate_17 : decode cX1_leastMate 17 = .ok (.if_icmp .ge 50, 3) := by decide +kernel
theorem dX1_leastMate_20 : decode cX1_leastMate 20 = .ok (.iload_n 3, 1) := by decide +kernel
theorem dX1_leastMate_21 : decode cX1_leastMate 21 = .ok (.iload 4, 2) := by decide +kernel
theorem dX1_leastMate_23 : decode cX1_leastMate 23 = .ok (.ishr, 1) := by decide +kernel
theorem dX1_leastMate_24 : decode cX1_leastMate 24 = .ok (.iconst 1, 1) := by decide +kernel
theorem dX1_leastMate_25 : decode cX1_leastMate 25 = .ok (.iand, 1) := by decide +kernel
theorem dX1_leastMate_26 : decode cX1_leastMate 26 = .ok (.iconst 1, 1) := by decide +kernel
theorem dX1_leastMate_27 : decode cX1_leastMate 27 = .ok (.if_icmp .ne 34, 3) := by decide +kernel
theorem dX1_leastMate_30 : decode cX1_leastMate 30 = .ok (.aload_n 0, 1) := by decide +kernel
theorem dX1_leastMate_31 : decode cX1_leastMate 31 = .ok (.iload_n 2, 1) := by decide +kernel
theorem dX1_leastMate_32 : decode cX1_leastMate 32 = .ok (.iload 4, 2) := by decide +kernel
theorem dX1_leastMate_34 : decode cX1_leastMate 34 = .ok (.invokevirtual 57, 3) := by decide +kernel
theorem dX1_leastMate_37 : decode cX1_leastMate 37 = .ok (.aload_n 0, 1) := by decide +kernel
theorem dX1_leastMate_38 : decode cX1_leastMate 38 = .ok (.getfield 28, 3) := by decide +kernel
theorem dX1_leastMate_41 : decode cX1_leastMate 41 = .ok (.iload_n 3, 1) := by decide +kernel
theorem dX1_leastMate_42 : decode cX1_leastMate 42 = .ok (.iconst 1, 1) := by decide +kernel
theorem dX1_leastMate_43 : decode cX1_leastMate 43 = .ok (.iload 4, 2) := by decide +kernel
theorem dX1_leastMate_45 : decode cX1_leastMate 45 = .ok (.ishl, 1) := by decide +kernel
theorem dX1_leastMate_46 : decode cX1_leastMate 46 = .ok (.ixor, 1) := by decide +kernel
theorem dX1_leastMate_47 : decode cX1_leastMate 47 = .ok (.iaload, 1) := by decide +kernel
theorem dX1_leastMate_48 : decode cX1_leastMate 48 = .ok (.iadd, 1) := by decide +kernel
theorem dX1_leastMate_49 : decode cX1_leastMate 49 = .ok (.aload_n 0, 1) := by decide +kernel
theorem dX1_leastMate_50 : decode cX1_leastMate 50 = .ok (.getfield 28, 3) := by decide +kernel
theorem dX1_leastMate_53 : decode cX1_leastMate 53 = .ok (.iload_n 1, 1) := by decide +kernel
theorem dX1_leastMate_54 : decode cX1_leastMate 54 = .ok (.iaload, 1) := by decide +kernel
theorem dX1_leastMate_55 : decode cX1_leastMate 55 = .ok (.if_icmp .ne 6, 3) := by decide +kernel
theorem dX1_leastMate_58 : decode cX1_leastMate 58 = .ok (.iload 4, 2) := by decide +kernel
theorem dX1_leastMate_60 : decode cX1_leastMate 60 = .ok (.ireturn, 1) := by decide +kernel
theorem dX1_leastMate_61 : decode cX1_leastMate 61 = .ok (.iinc 4 1, 3) := by decide +kernel
theorem dX1_leastMate_64 : decode cX1_leastMate 64 = .ok (.goto (-53), 3) := by decide +kernel
theorem dX1_leastMate_67 : decode cX1_leastMate 67 = .ok (.bipush (-9), 2) := by decide +kernel
theorem dX1_leastMate_69 : decode cX1_leastMate 69 = .ok (.ireturn, 1) := by decide +kernel
theorem dX2_init_0 : decode cX2_init 0 = .ok (.aload_n 0, 1) := by decide +kernel
theorem dX2_init_1 : decode cX2_init 1 = .ok (.invokespecial 3, 3) := by decide +kernel
theorem dX2_init_4 : decode cX2_init 4 = .ok (.aload_n 0, 1) := by decide +kernel
theorem dX2_init_5 : decode cX2_init 5 = .ok (.lconst 0, 1) := by decide +kernel
theorem dX2_init_6 : decode cX2_init 6 = .ok (.putfield 9, 3) := by decide +kernel
theorem dX2_init_9 : decode cX2_init 9 = .ok (.aload_n 0, 1) := by decide +kernel
theorem dX2_init_10 : decode cX2_init 10 = .ok (.lconst 1, 1) := by decide +kernel
theorem dX2_init_11 : decode cX2_init 11 = .ok (.putfield 15, 3) := by decide +kernel
theorem dX2_init_14 : decode cX2_init 14 = .ok (.aload_n 0, 1) := by decide +kernel
theorem dX2_init_15 : decode cX2_init 15 = .ok (.bipush 61, 2) := by decide +kernel
theorem dX2_init_17 : decode cX2_init 17 = .ok (.newarray .long, 2) := by decide +kernel
theorem dX2_init_19 : decode cX2_init 19 = .ok (.putfield 18, 3) := by decide +kernel
theorem dX2_init_22 : decode cX2_init 22 = .ok (.aload_n 0, 1) := by decide +kernel
theorem dX2_init_23 : decode cX2_init 23 = .ok (.bipush 61, 2) := by decide +kernel
theorem dX2_init_25 : decode cX2_init 25 = .ok (.newarray .long, 2) := by decide +kernel
theorem dX2_init_27 : decode cX2_init 27 = .ok (.putfield 22, 3) := by decide +kernel
theorem dX2_init_30 : decode cX2_init 30 = .ok (.return_, 1) := by decide +kernel
set_option maxRecDepth 20000 in
theorem ggX2_reckon_X2_fillChoices : GoodIn wsX2_reckon wsX2_fillChoices := goodIn_r _ [15, 16, 17, 18, 19] (by decide +kernel) (by decide +kernel)
set_option maxRecDepth 20000 in
theorem gX2_reckon_X2_fillChoices : GoodIn wsX2_reckon (va_wsS RX2 25 yX2_fillChoices wsX2_fillChoices) := goodIn_app (goodIn_of _ (by decide +kernel)) ggX2_reckon_X2_fillChoices
set_option maxRecDepth 20000 in
theorem ggX2_reckon_X2_commonOf : GoodIn wsX2_reckon wsX2_commonOf := goodIn_r _ [22] (by decide +kernel) (by decide +kernel)
set_option maxRecDepth 20000 in
theorem gX2_reckon_X2_commonOf : GoodIn wsX2_reckon (va_wsS RX2 38 yX2_commonOf wsX2_commonOf) := goodIn_app (goodIn_of _ (by decide +kernel)) ggX2_reckon_X2_commonOf
theorem dX2_reckon_0 : decode cX2_reckon 0 = .ok (.aload_n 0, 1) := by decide +kernel
theorem dX2_reckon_1 : decode cX2_reckon 1 = .ok (.getfield 18, 3) := by decide +kernel
theorem dX2_reckon_4 : decode cX2_reckon 4 = .ok (.iload_n 3, 1) := by decide +kernel
theorem dX2_reckon_5 : decode cX2_reckon 5 = .ok (.invokestatic 25, 3) := by decide +kernel
theorem dX2_reckon_8 : decode cX2_reckon 8 = .ok (.aload_n 0, 1) := by decide +kernel
theorem dX2_reckon_9 : decode cX2_reckon 9 = .ok (.getfield 22, 3) := by decide +kernel
theorem dX2_reckon_12 : decode cX2_reckon 12 = .ok (.iload_n 1, 1) := by decide +kernel
theorem dX2_reckon_13 : decode cX2_reckon 13 = .ok (.iload_n 3, 1) := by decide +kernel
theorem dX2_reckon_14 : decode cX2_reckon 14 = .ok (.isub, 1) := by decide +kernel
theorem dX2_reckon_15 : decode cX2_reckon 15 = .ok (.invokestatic 25, 3) := by decide +kernel
theorem dX2_reckon_18 : decode cX2_reckon 18 = .ok (.lconst 0, 1) := by decide +kernel
theorem dX2_reckon_19 : decode cX2_reckon 19 = .ok (.lstore 5, 2) := by decide +kernel
theorem dX2_reckon_21 : decode cX2_reckon 21 = .ok (.lconst 0, 1) := by decide +kernel
theorem dX2_reckon_22 : decode cX2_reckon 22 = .ok (.lstore 7, 2) := by decide +kernel
theorem dX2_reckon_24 : decode cX2_reckon 24 = .ok (.iconst 0, 1) := by decide +kernel
theorem dX2_reckon_25 : decode cX2_reckon 25 = .ok (.iload_n 2, 1) := by decide +kernel
theorem dX2_reckon_26 : decode cX2_reckon 26 = .ok (.iload_n 3, 1) := by decide +kernel
theorem dX2_reckon_27 : decode cX2_reckon 27 = .ok (.iadd, 1) := by decide +kernel
theorem dX2_reckon_28 : decode cX2_reckon 28 = .ok (.iload_n 1, 1) := by decide +kernel
theorem dX2_reckon_29 : decode cX2_reckon 29 = .ok (.isub, 1) := by decide +kernel
theorem dX2_reckon_30 : decode cX2_reckon 30 = .ok (.invokestatic 29, 3) := by decide +kernel
theorem dX2_reckon_33 : decode cX2_reckon 33 = .ok (.istore 9, 2) := by decide +kernel
theorem dX2_reckon_35 : decode cX2_reckon 35 = .ok (.iload 9, 2) := by decide +kernel
theorem dX2_reckon_37 : decode cX2_reckon 37 = .ok (.iload_n 2, 1) := by decide +kernel
theorem dX2_reckon_38 : decode cX2_reckon 38 = .ok (.iload_n 3, 1) := by decide +kernel
theorem dX2_reckon_39 : decode cX2_reckon 39 = .ok (.invokestatic 35, 3) := by decide +kernel
theorem dX2_reckon_42 : decode cX2_reckon 42 = .ok (.if_icmp .gt 49, 3) := by decide +kernel
theorem dX2_reckon_45 : decode cX2_reckon 45 = .ok (.aload_n 0, 1) := by decide +kernel
theorem dX2_reckon_46 : decode cX2_reckon 46 = .ok (.getfield 18, 3) := by decide +kernel
theorem dX2_reckon_49 : decode cX2_reckon 49 = .ok (.iload 9, 2) := by decide +kernel
theorem dX2_reckon_51 : decode cX2_reckon 51 = .ok (.laload, 1) := by decide +kernel
theorem dX2_reckon_52 : decode cX2_reckon 52 = .ok (.aload_n 0, 1) := by decide +kernel
theorem dX2_reckon_53 : decode cX2_reckon 53 = .ok (.getfield 22, 3) := by decide +kernel
theorem dX2_reckon_56 : decode cX2_reckon 56 = .ok (.iload_n 2, 1) := by decide +kernel
theorem dX2_reckon_57 : decode cX2_reckon 57 = .ok (.iload 9, 2) := by decide +kernel
theorem dX2_reckon_59 : decode cX2_reckon 59 = .ok (.isub, 1) := by decide +kernel
theorem dX2_reckon_60 : decode cX2_reckon 60 = .ok (.laload, 1) := by decide +kernel
theorem dX2_reckon_61 : decode cX2_reckon 61 = .ok (.lmul, 1) := by decide +kernel
theorem dX2_reckon_62 : decode cX2_reckon 62 = .ok (.lstore 10, 2) := by decide +kernel
theorem dX2_reckon_64 : decode cX2_reckon 64 = .ok (.lload 7, 2) := by decide +kernel
theorem dX2_reckon_66 : decode cX2_reckon 66 = .ok (.lload 10, 2) := by decide +kernel
theorem dX2_reckon_68 : decode cX2_reckon 68 = .ok (.ladd, 1) := by decide +kernel
theorem dX2_reckon_69 : decode cX2_reckon 69 = .ok (.lstore 7, 2) := by decide +kernel
theorem dX2_reckon_71 : decode cX2_reckon 71 = .ok (.iload 9, 2) := by decide +kernel
theorem dX2_reckon_73 : decode cX2_reckon 73 = .ok (.iload 4, 2) := by decide +kernel
theorem dX2_reckon_75 : decode cX2_reckon 75 = .ok (.if_icmp .lt 10, 3) := by decide +kernel
theorem dX2_reckon_78 : decode cX2_reckon 78 = .ok (.lload 5, 2) := by decide +kernel
theorem dX2_reckon_80 : decode cX2_reckon 80 = .ok (.lload 10, 2) := by decide +kernel
theorem dX2_reckon_82 : decode cX2_reckon 82 = .ok (.ladd, 1) := by decide +kernel
theorem dX2_reckon_83 : decode cX2_reckon 83 = .ok (.lstore 5, 2) := by decide +kernel
theorem dX2_reckon_85 : decode cX2_reckon 85 = .ok (.iinc 9 1, 3) := by decide +kernel
theorem dX2_reckon_88 : decode cX2_reckon 88 = .ok (.goto (-53), 3) := by decide +kernel
theorem dX2_reckon_91 : decode cX2_reckon 91 = .ok (.lload 7, 2) := by decide +kernel
theorem dX2_reckon_93 : decode cX2_reckon 93 = .ok (.lload 5, 2) := by decide +kernel
theorem dX2_reckon_95 : decode cX2_reckon 95 = .ok (.invokestatic 38, 3) := by decide +kernel
theorem dX2_reckon_98 : decode cX2_reckon 98 = .ok (.lstore 9, 2) := by decide +kernel
theorem dX2_reckon_100 : decode cX2_reckon 100 = .ok (.lload 9, 2) := by decide +kernel
theorem dX2_reckon_102 : decode cX2_reckon 102 = .ok (.lconst 0, 1) := by decide +kernel
theorem dX2_reckon_103 : decode cX2_reckon 103 = .ok (.lcmp, 1) := by decide +kernel
theorem dX2_reckon_104 : decode cX2_reckon 104 = .ok (.ifCond .le 21, 3) := by decide +kernel
theorem dX2_reckon_107 : decode cX2_reckon 107 = .ok (.aload_n 0, 1) := by decide +kernel
theorem dX2_reckon_108 : decode cX2_reckon 108 = .ok (.lload 5, 2) := by decide +kernel
theorem dX2_reckon_110 : decode cX2_reckon 110 = .ok (.lload 9, 2) := by decide +kernel
theorem dX2_reckon_112 : decode cX2_reckon 112 = .ok (.ldiv, 1) := by decide +kernel
theorem dX2_reckon_113 : decode cX2_reckon 113 = .ok (.putfield 9, 3) := by decide +kernel
theorem dX2_reckon_116 : decode cX2_reckon 116 = .ok (.aload_n 0, 1) := by decide +kernel
theorem dX2_reckon_117 : decode cX2_reckon 117 = .ok (.lload 7, 2) := by decide +kernel
theorem dX2_reckon_119 : decode cX2_reckon 119 = .ok (.lload 9, 2) := by decide +kernel
theorem dX2_reckon_121 : decode cX2_reckon 121 = .ok (.ldiv, 1) := by decide +kernel
theorem dX2_reckon_122 : decode cX2_reckon 122 = .ok (.putfield 15, 3) := by decide +kernel
theorem dX2_reckon_125 : decode cX2_reckon 125 = .ok (.return_, 1) := by decide +kernel
set_option maxRecDepth 20000 in
theorem ggX2_fillChoices_J7_fill_d0a16 : GoodIn wsX2_fillChoices wsJ7_fill_d0a16 := goodIn_r _ [4] (by decide +kernel) (by decide +kernel)
set_option maxRecDepth 20000 in
theorem gX2_fillChoices_J7_fill_d0a16 : GoodIn wsX2_fillChoices (va_wsS RX2 42 yJ7_fill_d0a16 wsJ7_fill_d0a16) := goodIn_app (goodIn_of _ (by decide +kernel)) ggX2_fillChoices_J7_fill_d0a16
theorem dX2_fillChoices_0 : decode cX2_fillChoices 0 = .ok (.aload_n 0, 1) := by decide +kernel
theorem dX2_fillChoices_1 : decode cX2_fillChoices 1 = .ok (.lconst 0, 1) := by decide +kernel
theorem dX2_fillChoices_2 : decode cX2_fillChoices 2 = .ok (.invokestatic 42, 3) := by decide +kernel
theorem dX2_fillChoices_5 : decode cX2_fillChoices 5 = .ok (.aload_n 0, 1) := by decide +kernel
theorem dX2_fillChoices_6 : decode cX2_fillChoices 6 = .ok (.iconst 0, 1) := by decide +kernel
theorem dX2_fillChoices_7 : decode cX2_fillChoices 7 = .ok (.lconst 1, 1) := by decide +kernel
theorem dX2_fillChoices_8 : decode cX2_fillChoices 8 = .ok (.lastore, 1) := by decide +kernel
theorem dX2_fillChoices_9 : decode cX2_fillChoices 9 = .ok (.iconst 1, 1) := by decide +kernel
theorem dX2_fillChoices_10 : decode cX2_fillChoices 10 = .ok (.istore_n 2, 1) := by decide +kernel
theorem dX2_fillChoices_11 : decode cX2_fillChoices 11 = .ok (.iload_n 2, 1) := by decide +kernel
theorem dX2_fillChoices_12 : decode cX2_fillChoices 12 = .ok (.iload_n 1, 1) := by decide +kernel
theorem dX2_fillChoices_13 : decode cX2_fillChoices 13 = .ok (.if_icmp .gt 32, 3) := by decide +kernel
theorem dX2_fillChoices_16 : decode cX2_fillChoices 16 = .ok (.iload_n 2, 1) := by decide +kernel
theorem dX2_fillChoices_17 : decode cX2_fillChoices 17 = .ok (.istore_n 3, 1) := by decide +kernel
theorem dX2_fillChoices_18 : decode cX2_fillChoices 18 = .ok (.iload_n 3, 1) := by decide +kernel
theorem dX2_fillChoices_19 : decode cX2_fillChoices 19 = .ok (.ifCond .le 20, 3) := by decide +kernel
theorem dX2_fillChoices_22 : decode cX2_fillChoices 22 = .ok (.aload_n 0, 1) := by decide +kernel
theorem dX2_fillChoices_23 : decode cX2_fillChoices 23 = .ok (.iload_n 3, 1) := by decide +kernel
theorem dX2_fillChoices_24 : decode cX2_fillChoices 24 = .ok (.dup2, 1) := by decide +kernel
theorem dX2_fillChoices_25 : decode cX2_fillChoices 25 = .ok (.laload, 1) := by decide +kernel
theorem dX2_fillChoices_26 : decode cX2_fillChoices 26 = .ok (.aload_n 0, 1) := by decide +kernel
theorem dX2_fillChoices_27 : decode cX2_fillChoices 27 = .ok (.iload_n 3, 1) := by decide +kernel
theorem dX2_fillChoices_28 : decode cX2_fillChoices 28 = .ok (.iconst 1, 1) := by decide +kernel
theorem dX2_fillChoices_29 : decode cX2_fillChoices 29 = .ok (.isub, 1) := by decide +kernel
theorem dX2_fillChoices_30 : decode cX2_fillChoices 30 = .ok (.laload, 1) := by decide +kernel
theorem dX2_fillChoices_31 : decode cX2_fillChoices 31 = .ok (.ladd, 1) := by decide +kernel
theorem dX2_fillChoices_32 : decode cX2_fillChoices 32 = .ok (.lastore, 1) := by decide +kernel
theorem dX2_fillChoices_33 : decode cX2_fillChoices 33 = .ok (.iinc 3 (-1), 3) := by decide +kernel
theorem dX2_fillChoices_36 : decode cX2_fillChoices 36 = .ok (.goto (-18), 3) := by decide +kernel
theorem dX2_fillChoices_39 : decode cX2_fillChoices 39 = .ok (.iinc 2 1, 3) := by decide +kernel
theorem dX2_fillChoices_42 : decode cX2_fillChoices 42 = .ok (.goto (-31), 3) := by decide +kernel
theorem dX2_fillChoices_45 : decode cX2_fillChoices 45 = .ok (.return_, 1) := by decide +kernel
theorem dX2_commonOf_0 : decode cX2_commonOf 0 = .ok (.lload_n 0, 1) := by decide +kernel
theorem dX2_commonOf_1 : decode cX2_commonOf 1 = .ok (.lstore 4, 2) := by decide +kernel
theorem dX2_commonOf_3 : decode cX2_commonOf 3 = .ok (.lload_n 2, 1) := by decide +kernel
theorem dX2_commonOf_4 : decode cX2_commonOf 4 = .ok (.lstore 6, 2) := by decide +kernel
theorem dX2_commonOf_6 : decode cX2_commonOf 6 = .ok (.iconst 0, 1) := by decide +kernel
theorem dX2_commonOf_7 : decode cX2_commonOf 7 = .ok (.istore 8, 2) := by decide +kernel
theorem dX2_commonOf_9 : decode cX2_commonOf 9 = .ok (.iload 8, 2) := by decide +kernel
theorem dX2_commonOf_11 : decode cX2_commonOf 11 = .ok (.bipush 100, 2) := by decide +kernel
theorem dX2_commonOf_13 : decode cX2_commonOf 13 = .ok (.if_icmp .ge 31, 3) := by decide +kernel
theorem dX2_commonOf_16 : decode cX2_commonOf 16 = .ok (.lload 6, 2) := by decide +kernel
theorem dX2_commonOf_18 : decode cX2_commonOf 18 = .ok (.lconst 0, 1) := by decide +kernel
theorem dX2_commonOf_19 : decode cX2_commonOf 19 = .ok (.lcmp, 1) := by decide +kernel
theorem dX2_commonOf_20 : decode cX2_commonOf 20 = .ok (.ifCond .eq 24, 3) := by decide +kernel
theorem dX2_commonOf_23 : decode cX2_commonOf 23 = .ok (.lload 4, 2) := by decide +kernel
theorem dX2_commonOf_25 : decode cX2_commonOf 25 = .ok (.lload 6, 2) := by decide +kernel
theorem dX2_commonOf_27 : decode cX2_commonOf 27 = .ok (.lrem, 1) := by decide +kernel
theorem dX2_commonOf_28 : decode cX2_commonOf 28 = .ok (.lstore 9, 2) := by decide +kernel
theorem dX2_commonOf_30 : decode cX2_commonOf 30 = .ok (.lload 6, 2) := by decide +kernel
theorem dX2_commonOf_32 : decode cX2_commonOf 32 = .ok (.lstore 4, 2) := by decide +kernel
theorem dX2_commonOf_34 : decode cX2_commonOf 34 = .ok (.lload 9, 2) := by decide +kernel
theorem dX2_commonOf_36 : decode cX2_commonOf 36 = .ok (.lstore 6, 2) := by decide +kernel
theorem dX2_commonOf_38 : decode cX2_commonOf 38 = .ok (.iinc 8 1, 3) := by decide +kernel
theorem dX2_commonOf_41 : decode cX2_commonOf 41 = .ok (.goto (-32), 3) := by decide +kernel
theorem dX2_commonOf_44 : decode cX2_commonOf 44 = .ok (.lload 4, 2) := by decide +kernel
theorem dX2_commonOf_46 : decode cX2_commonOf 46 = .ok (.lreturn, 1) := by decide +kernel
theorem dX3_init_0 : decode cX3_init 0 = .ok (.aload_n 0, 1) := by decide +kernel
theorem dX3_init_1 : decode cX3_init 1 = .ok (.invokespecial 3, 3) := by decide +kernel
theorem dX3_init_4 : decode cX3_init 4 = .ok (.aload_n 0, 1) := by decide +kernel
theorem dX3_init_5 : decode cX3_init 5 = .ok (.bipush 9, 2) := by decide +kernel
theorem dX3_init_7 : decode cX3_init 7 = .ok (.newarray .int, 2) := by decide +kernel
theorem dX3_init_9 : decode cX3_init 9 = .ok (.putfield 9, 3) := by decide +kernel
theorem dX3_init_12 : decode cX3_init 12 = .ok (.return_, 1) := by decide +kernel
set_option maxRecDepth 20000 in
theorem ggX3_setOnly_J7_fill_53178 : GoodIn wsX3_setOnly wsJ7_fill_53178 := goodIn_r _ [5] (by decide +kernel) (by decide +kernel)
set_option maxRecDepth 20000 in
theorem gX3_setOnly_J7_fill_53178 : GoodIn wsX3_setOnly (va_wsS RX3 15 yJ7_fill_53178 wsJ7_fill_53178) := goodIn_app (goodIn_of _ (by decide +kernel)) ggX3_setOnly_J7_fill_53178
set_option maxRecDepth 20000 in
theorem ggX3_setOnly_X7_yOf : GoodIn wsX3_setOnly wsX7_yOf := goodIn_r _ [8] (by decide +kernel) (by decide +kernel)
set_option maxRecDepth 20000 in
theorem gX3_setOnly_X7_yOf_n21 : GoodIn wsX3_setOnly (wsX7_yOf) := ggX3_setOnly_X7_yOf
set_option maxRecDepth 20000 in
theorem ggX3_setOnly_X7_xOf : GoodIn wsX3_setOnly wsX7_xOf := goodIn_r _ [10] (by decide +kernel) (by decide +kernel)
set_option maxRecDepth 20000 in
theorem gX3_setOnly_X7_xOf_n25 : GoodIn wsX3_setOnly (wsX7_xOf) := ggX3_setOnly_X7_xOf
theorem dX3_setOnly_0 : decode cX3_setOnly 0 = .ok (.aload_n 0, 1) := by decide +kernel
theorem dX3_setOnly_1 : decode cX3_setOnly 1 = .ok (.getfield 9, 3) := by decide +kernel
theorem dX3_setOnly_4 : decode cX3_setOnly 4 = .ok (.iconst 0, 1) := by decide +kernel
theorem dX3_setOnly_5 : decode cX3_setOnly 5 = .ok (.invokestatic 15, 3) := by decide +kernel
theorem dX3_setOnly_8 : decode cX3_setOnly 8 = .ok (.aload_n 0, 1) := by decide +kernel
theorem dX3_setOnly_9 : decode cX3_setOnly 9 = .ok (.getfield 9, 3) := by decide +kernel
theorem dX3_setOnly_12 : decode cX3_setOnly 12 = .ok (.iload_n 1, 1) := by decide +kernel
theorem dX3_setOnly_13 : decode cX3_setOnly 13 = .ok (.invokestatic 21, 3) := by decide +kernel
theorem dX3_setOnly_16 : decode cX3_setOnly 16 = .ok (.iconst 1, 1) := by decide +kernel
theorem dX3_setOnly_17 : decode cX3_setOnly 17 = .ok (.iload_n 1, 1) := by decide +kernel
theorem dX3_setOnly_18 : decode cX3_setOnly 18 = .ok (.invokestatic 25, 3) := by decide +kernel
theorem dX3_setOnly_21 : decode cX3_setOnly 21 = .ok (.ishl, 1) := by decide +kernel
theorem dX3_setOnly_22 : decode cX3_setOnly 22 = .ok (.iastore, 1) := by decide +kernel
theorem dX3_setOnly_23 : decode cX3_setOnly 23 = .ok (.return_, 1) := by decide +kernel
set_option maxRecDepth 20000 in
theorem ggX3_has_X7_yOf : GoodIn wsX3_has wsX7_yOf := goodIn_r _ [4] (by decide +kernel) (by decide +kernel)
set_option maxRecDepth 20000 in
theorem gX3_has_X7_yOf_n21 : GoodIn wsX3_has (wsX7_yOf) := ggX3_has_X7_yOf
set_option maxRecDepth 20000 in
theorem ggX3_has_X7_xOf : GoodIn wsX3_has wsX7_xOf := goodIn_r _ [6] (by decide +kernel) (by decide +kernel)
set_option maxRecDepth 20000 in
theorem gX3_has_X7_xOf_n25 : GoodIn wsX3_has (wsX7_xOf) := ggX3_has_X7_xOf
theorem dX3_has_0 : decode cX3_has 0 = .ok (.aload_n 0, 1) := by decide +kernel
theorem dX3_has_1 : decode cX3_has 1 = .ok (.getfield 9, 3) := by decide +kernel
theorem dX3_has_4 : decode cX3_has 4 = .ok (.iload_n 1, 1) := by decide +kernel
theorem dX3_has_5 : decode cX3_has 5 = .ok (.invokestatic 21, 3) := by decide +kernel
theorem dX3_has_8 : decode cX3_has 8 = .ok (.iaload, 1) := by decide +kernel
theorem dX3_has_9 : decode cX3_has 9 = .ok (.iload_n 1, 1) := by decide +kernel
theorem dX3_has_10 : decode cX3_has 10 = .ok (.invokestatic 25, 3) := by decide +kernel
theorem dX3_has_13 : decode cX3_has 13 = .ok (.ishr, 1) := by decide +kernel
theorem dX3_has_14 : decode cX3_has 14 = .ok (.iconst 1, 1) := by decide +kernel
theorem dX3_has_15 : decode cX3_has 15 = .ok (.iand, 1) := by decide +kernel
theorem dX3_has_16 : decode cX3_has 16 = .ok (.iconst 1, 1) := by decide +kernel
theorem dX3_has_17 : decode cX3_has 17 = .ok (.if_icmp .ne 7, 3) := by decide +kernel
theorem dX3_has_20 : decode cX3_has 20 = .ok (.iconst 1, 1) := by decide +kernel
theorem dX3_has_21 : decode cX3_has 21 = .ok (.goto 4, 3) := by decide +kernel
theorem dX3_has_24 : decode cX3_has 24 = .ok (.iconst 0, 1) := by decide +kernel
theorem dX3_has_25 : decode cX3_has 25 = .ok (.ireturn, 1) := by decide +kernel
set_option maxRecDepth 20000 in
theorem ggX3_size_J6_bitCount_0f7a4 : GoodIn wsX3_size wsJ6_bitCount_0f7a4 := goodIn_r _ [5, 6, 7, 8] (by decide +kernel) (by decide +kernel)
set_option maxRecDepth 20000 in
theorem gX3_size_J6_bitCount_0f7a4 : GoodIn wsX3_size (va_wsS RX3 28 yJ6_bitCount_0f7a4 wsJ6_bitCount_0f7a4) := goodIn_app (goodIn_of _ (by decide +kernel)) ggX3_size_J6_bitCount_0f7a4
theorem dX3_size_0 : decode cX3_size 0 = .ok (.iconst 0, 1) := by decide +kernel
theorem dX3_size_1 : decode cX3_size 1 = .ok (.istore_n 2, 1) := by decide +kernel
theorem dX3_size_2 : decode cX3_size 2 = .ok (.iconst 0, 1) := by decide +kernel
theorem dX3_size_3 : decode cX3_size 3 = .ok (.istore_n 3, 1) := by decide +kernel
theorem dX3_size_4 : decode cX3_size 4 = .ok (.iload_n 3, 1) := by decide +kernel
theorem dX3_size_5 : decode cX3_size 5 = .ok (.iload_n 1, 1) := by decide +kernel
theorem dX3_size_6 : decode cX3_size 6 = .ok (.if_icmp .ge 21, 3) := by decide +kernel
theorem dX3_size_9 : decode cX3_size 9 = .ok (.iload_n 2, 1) := by decide +kernel
theorem dX3_size_10 : decode cX3_size 10 = .ok (.aload_n 0, 1) := by decide +kernel
theorem dX3_size_11 : decode cX3_size 11 = .ok (.getfield 9, 3) := by decide +kernel
theorem dX3_size_14 : decode cX3_size 14 = .ok (.iload_n 3, 1) := by decide +kernel
theorem dX3_size_15 : decode cX3_size 15 = .ok (.iaload, 1) := by decide +kernel
theorem dX3_size_16 : decode cX3_size 16 = .ok (.invokestatic 28, 3) := by decide +kernel
theorem dX3_size_19 : decode cX3_size 19 = .ok (.iadd, 1) := by decide +kernel
theorem dX3_size_20 : decode cX3_size 20 = .ok (.istore_n 2, 1) := by decide +kernel
theorem dX3_size_21 : decode cX3_size 21 = .ok (.iinc 3 1, 3) := by decide +kernel
theorem dX3_size_24 : decode cX3_size 24 = .ok (.goto (-20), 3) := by decide +kernel
theorem dX3_size_27 : decode cX3_size 27 = .ok (.iload_n 2, 1) := by decide +kernel
theorem dX3_size_28 : decode cX3_size 28 = .ok (.ireturn, 1) := by decide +kernel
theorem dX3_spread_0 : decode cX3_spread 0 = .ok (.iconst 1, 1) := by decide +kernel
theorem dX3_spread_1 : decode cX3_spread 1 = .ok (.iload_n 1, 1) := by decide +kernel
theorem dX3_spread_2 : decode cX3_spread 2 = .ok (.ishl, 1) := by decide +kernel
theorem dX3_spread_3 : decode cX3_spread 3 = .ok (.iconst 1, 1) := by decide +kernel
theorem dX3_spread_4 : decode cX3_spread 4 = .ok (.isub, 1) := by decide +kernel
theorem dX3_spread_5 : decode cX3_spread 5 = .ok (.istore_n 3, 1) := by decide +kernel
theorem dX3_spread_6 : decode cX3_spread 6 = .ok (.iconst 0, 1) := by decide +kernel
theorem dX3_spread_7 : decode cX3_spread 7 = .ok (.istore 4, 2) := by decide +kernel
theorem dX3_spread_9 : decode cX3_spread 9 = .ok (.iconst 0, 1) := by decide +kernel
theorem dX3_spread_10 : decode cX3_spread 10 = .ok (.istore 5, 2) := by decide +kernel
theorem dX3_spread_12 : decode cX3_spread 12 = .ok (.iload 5, 2) := by decide +kernel
theorem dX3_spread_14 : decode cX3_spread 14 = .ok (.iload_n 2, 1) := by decide +kernel
theorem dX3_spread_15 : decode cX3_spread 15 = .ok (.if_icmp .ge 72, 3) := by decide +kernel
theorem dX3_spread_18 : decode cX3_spread 18 = .ok (.aload_n 0, 1) := by decide +kernel
theorem dX3_spread_19 : decode cX3_spread 19 = .ok (.getfield 9, 3) := by decide +kernel
theorem dX3_spread_22 : decode cX3_spread 22 = .ok (.iload 5, 2) := by decide +kernel
theorem dX3_spread_24 : decode cX3_spread 24 = .ok (.iaload, 1) := by decide +kernel
theorem dX3_spread_25 : decode cX3_spread 25 = .ok (.istore 6, 2) := by decide +kernel
theorem dX3_spread_27 : decode cX3_spread 27 = .ok (.iload 5, 2) := by decide +kernel
theorem dX3_spread_29 : decode cX3_spread 29 = .ok (.iconst 1, 1) := by decide +kernel
theorem dX3_spread_30 : decode cX3_spread 30 = .ok (.iadd, 1) := by decide +kernel
theorem dX3_spread_31 : decode cX3_spread 31 = .ok (.iload_n 2, 1) := by decide +kernel
theorem dX3_spread_32 : decode cX3_spread 32 = .ok (.if_icmp .ge 15, 3) := by decide +kernel
theorem dX3_spread_35 : decode cX3_spread 35 = .ok (.aload_n 0, 1) := by decide +kernel
theorem dX3_spread_36 : decode cX3_spread 36 = .ok (.getfield 9, 3) := by decide +kernel
theorem dX3_spread_39 : decode cX3_spread 39 = .ok (.iload 5, 2) := by decide +kernel
theorem dX3_spread_41 : decode cX3_spread 41 = .ok (.iconst 1, 1) := by decide +kernel
theorem dX3_spread_42 : decode cX3_spread 42 = .ok (.iadd, 1) := by decide +kernel
theorem dX3_spread_43 : decode cX3_spread 43 = .ok (.iaload, 1) := by decide +kernel
theorem dX3_spread_44 : decode cX3_spread 44 = .ok (.goto 4, 3) := by decide +kernel
theorem dX3_spread_47 : decode cX3_spread 47 = .ok (.iconst 0, 1) := by decide +kernel
theorem dX3_spread_48 : decode cX3_spread 48 = .ok (.istore 7, 2) := by decide +kernel
theorem dX3_spread_50 : decode cX3_spread 50 = .ok (.aload_n 0, 1) := by decide +kernel
theorem dX3_spread_51 : decode cX3_spread 51 = .ok (.getfield 9, 3) := by decide +kernel
theorem dX3_spread_54 : decode cX3_spread 54 = .ok (.iload 5, 2) := by decide +kernel
theorem dX3_spread_56 : decode cX3_spread 56 = .ok (.iload 6, 2) := by decide +kernel
theorem dX3_spread_58 : decode cX3_spread 58 = .ok (.iload 6, 2) := by decide +kernel
theorem dX3_spread_60 : decode cX3_spread 60 = .ok (.iconst 1, 1) := by decide +kernel
theorem dX3_spread_61 : decode cX3_spread 61 = .ok (.ishl, 1) := by decide +kernel
theorem dX3_spread_62 : decode cX3_spread 62 = .ok (.ior, 1) := by decide +kernel
theorem dX3_spread_63 : decode cX3_spread 63 = .ok (.iload 6, 2) := by decide +kernel
theorem dX3_spread_65 : decode cX3_spread 65 = .ok (.iconst 1, 1) := by decide +kernel
theorem dX3_spread_66 : decode cX3_spread 66 = .ok (.ishr, 1) := by decide +kernel
theorem dX3_spread_67 : decode cX3_spread 67 = .ok (.ior, 1) := by decide +kernel
theorem dX3_spread_68 : decode cX3_spread 68 = .ok (.iload 4, 2) := by decide +kernel
theorem dX3_spread_70 : decode cX3_spread 70 = .ok (.ior, 1) := by decide +kernel
theorem dX3_spread_71 : decode cX3_spread 71 = .ok (.iload 7, 2) := by decide +kernel
theorem dX3_spread_73 : decode cX3_spread 73 = .ok (.ior, 1) := by decide +kernel
theorem dX3_spread_74 : decode cX3_spread 74 = .ok (.iload_n 3, 1) := by decide +kernel
theorem dX3_spread_75 : decode cX3_spread 75 = .ok (.iand, 1) := by decide +kernel
theorem dX3_spread_76 : decode cX3_spread 76 = .ok (.iastore, 1) := by decide +kernel
theorem dX3_spread_77 : decode cX3_spread 77 = .ok (.iload 6, 2) := by decide +kernel
theorem dX3_spread_79 : decode cX3_spread 79 = .ok (.istore 4, 2) := by decide +kernel
theorem dX3_spread_81 : decode cX3_spread 81 = .ok (.iinc 5 1, 3) := by decide +kernel
theorem dX3_spread_84 : decode cX3_spread 84 = .ok (.goto (-72), 3) := by decide +kernel
theorem dX3_spread_87 : decode cX3_spread 87 = .ok (.return_, 1) := by decide +kernel
set_option maxRecDepth 20000 in
theorem ggX3_removeSeen_X7_yOf : GoodIn wsX3_removeSeen wsX7_yOf := goodIn_r _ [11] (by decide +kernel) (by decide +kernel)
set_option maxRecDepth 20000 in
theorem gX3_removeSeen_X7_yOf_n21 : GoodIn wsX3_removeSeen (wsX7_yOf) := ggX3_removeSeen_X7_yOf
set_option maxRecDepth 20000 in
theorem ggX3_removeSeen_X7_xOf : GoodIn wsX3_removeSeen wsX7_xOf := goodIn_r _ [13] (by decide +kernel) (by decide +kernel)
set_option maxRecDepth 20000 in
theorem gX3_removeSeen_X7_xOf_n25 : GoodIn wsX3_removeSeen (wsX7_xOf) := ggX3_removeSeen_X7_xOf
theorem dX3_removeSeen_0 : decode cX3_removeSeen 0 = .ok (.iconst 0, 1) := by decide +kernel
theorem dX3_removeSeen_1 : decode cX3_removeSeen 1 = .ok (.istore 4, 2) := by decide +kernel
theorem dX3_removeSeen_3 : decode cX3_removeSeen 3 = .ok (.iload 4, 2) := by decide +kernel
theorem dX3_removeSeen_5 : decode cX3_removeSeen 5 = .ok (.iload_n 3, 1) := by decide +kernel
theorem dX3_removeSeen_6 : decode cX3_removeSeen 6 = .ok (.if_icmp .ge 73, 3) := by decide +kernel
theorem dX3_removeSeen_9 : decode cX3_removeSeen 9 = .ok (.iload_n 2, 1) := by decide +kernel
theorem dX3_removeSeen_10 : decode cX3_removeSeen 10 = .ok (.iload 4, 2) := by decide +kernel
theorem dX3_removeSeen_12 : decode cX3_removeSeen 12 = .ok (.iload_n 1, 1) := by decide +kernel
theorem dX3_removeSeen_13 : decode cX3_removeSeen 13 = .ok (.invokestatic 21, 3) := by decide +kernel
theorem dX3_removeSeen_16 : decode cX3_removeSeen 16 = .ok (.isub, 1) := by decide +kernel
theorem dX3_removeSeen_17 : decode cX3_removeSeen 17 = .ok (.invokestatic 33, 3) := by decide +kernel
theorem dX3_removeSeen_20 : decode cX3_removeSeen 20 = .ok (.isub, 1) := by decide +kernel
theorem dX3_removeSeen_21 : decode cX3_removeSeen 21 = .ok (.istore 5, 2) := by decide +kernel
theorem dX3_removeSeen_23 : decode cX3_removeSeen 23 = .ok (.iload 5, 2) := by decide +kernel
theorem dX3_removeSeen_25 : decode cX3_removeSeen 25 = .ok (.ifCond .lt 48, 3) := by decide +kernel
theorem dX3_removeSeen_28 : decode cX3_removeSeen 28 = .ok (.iconst 0, 1) := by decide +kernel
theorem dX3_removeSeen_29 : decode cX3_removeSeen 29 = .ok (.iload_n 1, 1) := by decide +kernel
theorem dX3_removeSeen_30 : decode cX3_removeSeen 30 = .ok (.invokestatic 25, 3) := by decide +kernel
theorem dX3_removeSeen_33 : decode cX3_removeSeen 33 = .ok (.iload 5, 2) := by decide +kernel
theorem dX3_removeSeen_35 : decode cX3_removeSeen 35 = .ok (.isub, 1) := by decide +kernel
theorem dX3_removeSeen_36 : decode cX3_removeSeen 36 = .ok (.invokestatic 38, 3) := by decide +kernel
theorem dX3_removeSeen_39 : decode cX3_removeSeen 39 = .ok (.istore 6, 2) := by decide +kernel
theorem dX3_removeSeen_41 : decode cX3_removeSeen 41 = .ok (.iload_n 1, 1) := by decide +kernel
theorem dX3_removeSeen_42 : decode cX3_removeSeen 42 = .ok (.invokestatic 25, 3) := by decide +kernel
theorem dX3_removeSeen_45 : decode cX3_removeSeen 45 = .ok (.iload 5, 2) := by decide +kernel
theorem dX3_removeSeen_47 : decode cX3_removeSeen 47 = .ok (.iadd, 1) := by decide +kernel
theorem dX3_removeSeen_48 : decode cX3_removeSeen 48 = .ok (.iconst 1, 1) := by decide +kernel
theorem dX3_removeSeen_49 : decode cX3_removeSeen 49 = .ok (.iadd, 1) := by decide +kernel
theorem dX3_removeSeen_50 : decode cX3_removeSeen 50 = .ok (.istore 7, 2) := by decide +kernel
theorem dX3_removeSeen_52 : decode cX3_removeSeen 52 = .ok (.aload_n 0, 1) := by decide +kernel
theorem dX3_removeSeen_53 : decode cX3_removeSeen 53 = .ok (.getfield 9, 3) := by decide +kernel
theorem dX3_removeSeen_56 : decode cX3_removeSeen 56 = .ok (.iload 4, 2) := by decide +kernel
theorem dX3_removeSeen_58 : decode cX3_removeSeen 58 = .ok (.dup2, 1) := by decide +kernel
theorem dX3_removeSeen_59 : decode cX3_removeSeen 59 = .ok (.iaload, 1) := by decide +kernel
theorem dX3_removeSeen_60 : decode cX3_removeSeen 60 = .ok (.iconst 1, 1) := by decide +kernel
theorem dX3_removeSeen_61 : decode cX3_removeSeen 61 = .ok (.iload 7, 2) := by decide +kernel
theorem dX3_removeSeen_63 : decode cX3_removeSeen 63 = .ok (.ishl, 1) := by decide +kernel
theorem dX3_removeSeen_64 : decode cX3_removeSeen 64 = .ok (.iconst 1, 1) := by decide +kernel
theorem dX3_removeSeen_65 : decode cX3_removeSeen 65 = .ok (.iload 6, 2) := by decide +kernel
theorem dX3_removeSeen_67 : decode cX3_removeSeen 67 = .ok (.ishl, 1) := by decide +kernel
theorem dX3_removeSeen_68 : decode cX3_removeSeen 68 = .ok (.isub, 1) := by decide +kernel
theorem dX3_removeSeen_69 : decode cX3_removeSeen 69 = .ok (.iconst (-1), 1) := by decide +kernel
theorem dX3_removeSeen_70 : decode cX3_removeSeen 70 = .ok (.ixor, 1) := by decide +kernel
theorem dX3_removeSeen_71 : decode cX3_removeSeen 71 = .ok (.iand, 1) := by decide +kernel
theorem dX3_removeSeen_72 : decode cX3_removeSeen 72 = .ok (.iastore, 1) := by decide +kernel
theorem dX3_removeSeen_73 : decode cX3_removeSeen 73 = .ok (.iinc 4 1, 3) := by decide +kernel
theorem dX3_removeSeen_76 : decode cX3_removeSeen 76 = .ok (.goto (-73), 3) := by decide +kernel
theorem dX3_removeSeen_79 : decode cX3_removeSeen 79 = .ok (.return_, 1) := by decide +kernel
theorem dX4_init_0 : decode cX4_init 0 = .ok (.aload_n 0, 1) := by decide +kernel
theorem dX4_init_1 : decode cX4_init 1 = .ok (.invokespecial 3, 3) := by decide +kernel
theorem dX4_init_4 : decode cX4_init 4 = .ok (.aload_n 0, 1) := by decide +kernel
theorem dX4_init_5 : decode cX4_init 5 = .ok (.bipush 36, 2) := by decide +kernel
theorem dX4_init_7 : decode cX4_init 7 = .ok (.newarray .int, 2) := by decide +kernel
theorem dX4_init_9 : decode cX4_init 9 = .ok (.putfield 9, 3) := by decide +kernel
theorem dX4_init_12 : decode cX4_init 12 = .ok (.aload_n 0, 1) := by decide +kernel
theorem dX4_init_13 : decode cX4_init 13 = .ok (.sipush 600, 3) := by decide +kernel
theorem dX4_init_16 : decode cX4_init 16 = .ok (.newarray .boolean, 2) := by decide +kernel
theorem dX4_init_18 : decode cX4_init 18 = .ok (.putfield 15, 3) := by decide +kernel
theorem dX4_init_21 : decode cX4_init 21 = .ok (.aload_n 0, 1) := by decide +kernel
theorem dX4_init_22 : decode cX4_init 22 = .ok (.aload_n 1, 1) := by decide +kernel
theorem dX4_init_23 : decode cX4_init 23 = .ok (.putfield 19, 3) := by decide +kernel
theorem dX4_init_26 : decode cX4_init 26 = .ok (.return_, 1) := by decide +kernel
set_option maxRecDepth 20000 in
theorem ggX4_clear_J7_fill_53178 : GoodIn wsX4_clear wsJ7_fill_53178 := goodIn_r _ [6] (by decide +kernel) (by decide +kernel)
set_option maxRecDepth 20000 in
theorem gX4_clear_J7_fill_53178 : GoodIn wsX4_clear (va_wsS RX4 23 yJ7_fill_53178 wsJ7_fill_53178) := goodIn_app (goodIn_of _ (by decide +kernel)) ggX4_clear_J7_fill_53178
theorem dX4_clear_0 : decode cX4_clear 0 = .ok (.aload_n 0, 1) := by decide +kernel
theorem dX4_clear_1 : decode cX4_clear 1 = .ok (.getfield 9, 3) := by decide +kernel
theorem dX4_clear_4 : decode cX4_clear 4 = .ok (.iconst 0, 1) := by decide +kernel
theorem dX4_clear_5 : decode cX4_clear 5 = .ok (.invokestatic 23, 3) := by decide +kernel
theorem dX4_clear_8 : decode cX4_clear 8 = .ok (.iconst 0, 1) := by decide +kernel
theorem dX4_clear_9 : decode cX4_clear 9 = .ok (.istore_n 1, 1) := by decide +kernel
theorem dX4_clear_10 : decode cX4_clear 10 = .ok (.iload_n 1, 1) := by decide +kernel
theorem dX4_clear_11 : decode cX4_clear 11 = .ok (.aload_n 0, 1) := by decide +kernel
theorem dX4_clear_12 : decode cX4_clear 12 = .ok (.getfield 15, 3) := by decide +kernel
theorem dX4_clear_15 : decode cX4_clear 15 = .ok (.arraylength, 1) := by decide +kernel
theorem dX4_clear_16 : decode cX4_clear 16 = .ok (.if_icmp .ge 16, 3) := by decide +kernel
theorem dX4_clear_19 : decode cX4_clear 19 = .ok (.aload_n 0, 1) := by decide +kernel
theorem dX4_clear_20 : decode cX4_clear 20 = .ok (.getfield 15, 3) := by decide +kernel
theorem dX4_clear_23 : decode cX4_clear 23 = .ok (.iload_n 1, 1) := by decide +kernel
theorem dX4_clear_24 : decode cX4_clear 24 = .ok (.iconst 0, 1) := by decide +kernel
theorem dX4_clear_25 : decode cX4_clear 25 = .ok (.bastore, 1) := by decide +kernel
theorem dX4_clear_26 : decode cX4_clear 26 = .ok (.iinc 1 1, 3) := by decide +kernel
theorem dX4_clear_29 : decode cX4_clear 29 = .ok (.goto (-19), 3) := by decide +kernel
theorem dX4_clear_32 : decode cX4_clear 32 = .ok (.return_, 1) := by decide +kernel
theorem dX4_waitOf_0 : decode cX4_waitOf 0 = .ok (.aload_n 0, 1) := by decide +kernel
theorem dX4_waitOf_1 : decode cX4_waitOf 1 = .ok (.getfield 9, 3) := by decide +kernel
theorem dX4_waitOf_4 : decode cX4_waitOf 4 = .ok (.iload_n 1, 1) := by decide +kernel
theorem dX4_waitOf_5 : decode cX4_waitOf 5 = .ok (.bipush 6, 2) := by decide +kernel
theorem dX4_waitOf_7 : decode cX4_waitOf 7 = .ok (.imul, 1) := by decide +kernel
theorem dX4_waitOf_8 : decode cX4_waitOf 8 = .ok (.iload_n 2, 1) := by decide +kernel
theorem dX4_waitOf_9 : decode cX4_waitOf 9 = .ok (.iadd, 1) := by decide +kernel
theorem dX4_waitOf_10 : decode cX4_waitOf 10 = .ok (.iaload, 1) := by decide +kernel
theorem dX4_waitOf_11 : decode cX4_waitOf 11 = .ok (.ireturn, 1) := by decide +kernel
theorem dX4_setWait_0 : decode cX4_setWait 0 = .ok (.aload_n 0, 1) := by decide +kernel
theorem dX4_setWait_1 : decode cX4_setWait 1 = .ok (.getfield 9, 3) := by decide +kernel
theorem dX4_setWait_4 : decode cX4_setWait 4 = .ok (.iload_n 1, 1) := by decide +kernel
theorem dX4_setWait_5 : decode cX4_setWait 5 = .ok (.bipush 6, 2) := by decide +kernel
theorem dX4_setWait_7 : decode cX4_setWait 7 = .ok (.imul, 1) := by decide +kernel
theorem dX4_setWait_8 : decode cX4_setWait 8 = .ok (.iload_n 2, 1) := by decide +kernel
theorem dX4_setWait_9 : decode cX4_setWait 9 = .ok (.iadd, 1) := by decide +kernel
theorem dX4_setWait_10 : decode cX4_setWait 10 = .ok (.iload_n 3, 1) := by decide +kernel
theorem dX4_setWait_11 : decode cX4_setWait 11 = .ok (.iastore, 1) := by decide +kernel
theorem dX4_setWait_12 : decode cX4_setWait 12 = .ok (.aload_n 0, 1) := by decide +kernel
theorem dX4_setWait_13 : decode cX4_setWait 13 = .ok (.getfield 9, 3) := by decide +kernel
theorem dX4_setWait_16 : decode cX4_setWait 16 = .ok (.iload_n 2, 1) := by decide +kernel
theorem dX4_setWait_17 : decode cX4_setWait 17 = .ok (.bipush 6, 2) := by decide +kernel
theorem dX4_setWait_19 : decode cX4_setWait 19 = .ok (.imul, 1) := by decide +kernel
theorem dX4_setWait_20 : decode cX4_setWait 20 = .ok (.iload_n 1, 1) := by decide +kernel
theorem dX4_setWait_21 : decode cX4_setWait 21 = .ok (.iadd, 1) := by decide +kernel
theorem dX4_setWait_22 : decode cX4_setWait 22 = .ok (.iload_n 3, 1) := by decide +kernel
theorem dX4_setWait_23 : decode cX4_setWait 23 = .ok (.iastore, 1) := by decide +kernel
theorem dX4_setWait_24 : decode cX4_setWait 24 = .ok (.return_, 1) := by decide +kernel
theorem dX4_isLost_0 : decode cX4_isLost 0 = .ok (.aload_n 0, 1) := by decide +kernel
theorem dX4_isLost_1 : decode cX4_isLost 1 = .ok (.getfield 15, 3) := by decide +kernel
theorem dX4_isLost_4 : decode cX4_isLost 4 = .ok (.iload_n 1, 1) := by decide +kernel
theorem dX4_isLost_5 : decode cX4_isLost 5 = .ok (.bipush 100, 2) := by decide +kernel
theorem dX4_isLost_7 : decode cX4_isLost 7 = .ok (.imul, 1) := by decide +kernel
theorem dX4_isLost_8 : decode cX4_isLost 8 = .ok (.iload_n 2, 1) := by decide +kernel
theorem dX4_isLost_9 : decode cX4_isLost 9 = .ok (.iadd, 1) := by decide +kernel
theorem dX4_isLost_10 : decode cX4_isLost 10 = .ok (.baload, 1) := by decide +kernel
theorem dX4_isLost_11 : decode cX4_isLost 11 = .ok (.ireturn, 1) := by decide +kernel
theorem dX4_setLost_0 : decode cX4_setLost 0 = .ok (.aload_n 0, 1) := by decide +kernel
theorem dX4_setLost_1 : decode cX4_setLost 1 = .ok (.getfield 15, 3) := by decide +kernel
theorem dX4_setLost_4 : decode cX4_setLost 4 = .ok (.iload_n 1, 1) := by decide +kernel
theorem dX4_setLost_5 : decode cX4_setLost 5 = .ok (.bipush 100, 2) := by decide +kernel
theorem dX4_setLost_7 : decode cX4_setLost 7 = .ok (.imul, 1) := by decide +kernel
theorem dX4_setLost_8 : decode cX4_setLost 8 = .ok (.iload_n 2, 1) := by decide +kernel
theorem dX4_setLost_9 : decode cX4_setLost 9 = .ok (.iadd, 1) := by decide +kernel
theorem dX4_setLost_10 : decode cX4_setLost 10 = .ok (.iload_n 3, 1) := by decide +kernel
theorem dX4_setLost_11 : decode cX4_setLost 11 = .ok (.bastore, 1) := by decide +kernel
theorem dX4_setLost_12 : decode cX4_setLost 12 = .ok (.return_, 1) := by decide +kernel
theorem dX4_lostOnes_0 : decode cX4_lostOnes 0 = .ok (.iconst 0, 1) := by decide +kernel
theorem dX4_lostOnes_1 : decode cX4_lostOnes 1 = .ok (.istore_n 1, 1) := by decide +kernel
theorem dX4_lostOnes_2 : decode cX4_lostOnes 2 = .ok (.iconst 0, 1) := by decide +kernel
theorem dX4_lostOnes_3 : decode cX4_lostOnes 3 = .ok (.istore_n 2, 1) := by decide +kernel
theorem dX4_lostOnes_4 : decode cX4_lostOnes 4 = .ok (.iload_n 2, 1) := by decide +kernel
theorem dX4_lostOnes_5 : decode cX4_lostOnes 5 = .ok (.aload_n 0, 1) := by decide +kernel
theorem dX4_lostOnes_6 : decode cX4_lostOnes 6 = .ok (.getfield 19, 3) := by decide +kernel
theorem dX4_lostOnes_9 : decode cX4_lostOnes 9 = .ok (.getfield 29, 3) := by decide +kernel
theorem dX4_lostOnes_12 : decode cX4_lostOnes 12 = .ok (.bipush 100, 2) := by decide +kernel
theorem dX4_lostOnes_14 : decode cX4_lostOnes 14 = .ok (.imul, 1) := by decide +kernel
theorem dX4_lostOnes_15 : decode cX4_lostOnes 15 = .ok (.if_icmp .ge 21, 3) := by decide +kernel
theorem dX4_lostOnes_18 : decode cX4_lostOnes 18 = .ok (.aload_n 0, 1) := by decide +kernel
theorem dX4_lostOnes_19 : decode cX4_lostOnes 19 = .ok (.getfield 15, 3) := by decide +kernel
theorem dX4_lostOnes_22 : decode cX4_lostOnes 22 = .ok (.iload_n 2, 1) := by decide +kernel
theorem dX4_lostOnes_23 : decode cX4_lostOnes 23 = .ok (.baload, 1) := by decide +kernel
theorem dX4_lostOnes_24 : decode cX4_lostOnes 24 = .ok (.ifCond .eq 6, 3) := by decide +kernel
theorem dX4_lostOnes_27 : decode cX4_lostOnes 27 = .ok (.iinc 1 1, 3) := by decide +kernel
theorem dX4_lostOnes_30 : decode cX4_lostOnes 30 = .ok (.iinc 2 1, 3) := by decide +kernel
theorem dX4_lostOnes_33 : decode cX4_lostOnes 33 = .ok (.goto (-29), 3) := by decide +kernel
theorem dX4_lostOnes_36 : decode cX4_lostOnes 36 = .ok (.iload_n 1, 1) := by decide +kernel
theorem dX4_lostOnes_37 : decode cX4_lostOnes 37 = .ok (.ireturn, 1) := by decide +kernel
theorem dX4_clockOf_0 : decode cX4_clockOf 0 = .ok (.iload 4, 2) := by decide +kernel
theorem dX4_clockOf_2 : decode cX4_clockOf 2 = .ok (.iload_n 1, 1) := by decide +kernel
theorem dX4_clockOf_3 : decode cX4_clockOf 3 = .ok (.isub, 1) := by decide +kernel
theorem dX4_clockOf_4 : decode cX4_clockOf 4 = .ok (.istore 5, 2) := by decide +kernel
theorem dX4_clockOf_6 : decode cX4_clockOf 6 = .ok (.iload_n 2, 1) := by decide +kernel
theorem dX4_clockOf_7 : decode cX4_clockOf 7 = .ok (.iload_n 3, 1) := by decide +kernel
theorem dX4_clockOf_8 : decode cX4_clockOf 8 = .ok (.if_icmp .ne 6, 3) := by decide +kernel
theorem dX4_clockOf_11 : decode cX4_clockOf 11 = .ok (.iload 5, 2) := by decide +kernel
theorem dX4_clockOf_13 : decode cX4_clockOf 13 = .ok (.ireturn, 1) := by decide +kernel
theorem dX4_clockOf_14 : decode cX4_clockOf 14 = .ok (.aload_n 0, 1) := by decide +kernel
theorem dX4_clockOf_15 : decode cX4_clockOf 15 = .ok (.getfield 9, 3) := by decide +kernel
theorem dX4_clockOf_18 : decode cX4_clockOf 18 = .ok (.iload_n 2, 1) := by decide +kernel
theorem dX4_clockOf_19 : decode cX4_clockOf 19 = .ok (.bipush 6, 2) := by decide +kernel
theorem dX4_clockOf_21 : decode cX4_clockOf 21 = .ok (.imul, 1) := by decide +kernel
theorem dX4_clockOf_22 : decode cX4_clockOf 22 = .ok (.iload_n 3, 1) := by decide +kernel
theorem dX4_clockOf_23 : decode cX4_clockOf 23 = .ok (.iadd, 1) := by decide +kernel
theorem dX4_clockOf_24 : decode cX4_clockOf 24 = .ok (.iaload, 1) := by decide +kernel
theorem dX4_clockOf_25 : decode cX4_clockOf 25 = .ok (.istore 6, 2) := by decide +kernel
theorem dX4_clockOf_27 : decode cX4_clockOf 27 = .ok (.iload 5, 2) := by decide +kernel
theorem dX4_clockOf_29 : decode cX4_clockOf 29 = .ok (.aload_n 0, 1) := by decide +kernel
theorem dX4_clockOf_30 : decode cX4_clockOf 30 = .ok (.getfield 15, 3) := by decide +kernel
theorem dX4_clockOf_33 : decode cX4_clockOf 33 = .ok (.iload_n 3, 1) := by decide +kernel
theorem dX4_clockOf_34 : decode cX4_clockOf 34 = .ok (.bipush 100, 2) := by decide +kernel
theorem dX4_clockOf_36 : decode cX4_clockOf 36 = .ok (.imul, 1) := by decide +kernel
theorem dX4_clockOf_37 : decode cX4_clockOf 37 = .ok (.iload 4, 2) := by decide +kernel
theorem dX4_clockOf_39 : decode cX4_clockOf 39 = .ok (.iadd, 1) := by decide +kernel
theorem dX4_clockOf_40 : decode cX4_clockOf 40 = .ok (.baload, 1) := by decide +kernel
theorem dX4_clockOf_41 : decode cX4_clockOf 41 = .ok (.ifCond .eq 12, 3) := by decide +kernel
theorem dX4_clockOf_44 : decode cX4_clockOf 44 = .ok (.iconst 3, 1) := by decide +kernel
theorem dX4_clockOf_45 : decode cX4_clockOf 45 = .ok (.iload 6, 2) := by decide +kernel
theorem dX4_clockOf_47 : decode cX4_clockOf 47 = .ok (.imul, 1) := by decide +kernel
theorem dX4_clockOf_48 : decode cX4_clockOf 48 = .ok (.iconst 1, 1) := by decide +kernel
theorem dX4_clockOf_49 : decode cX4_clockOf 49 = .ok (.iadd, 1) := by decide +kernel
theorem dX4_clockOf_50 : decode cX4_clockOf 50 = .ok (.goto 5, 3) := by decide +kernel
theorem dX4_clockOf_53 : decode cX4_clockOf 53 = .ok (.iload 6, 2) := by decide +kernel
theorem dX4_clockOf_55 : decode cX4_clockOf 55 = .ok (.iadd, 1) := by decide +kernel
theorem dX4_clockOf_56 : decode cX4_clockOf 56 = .ok (.ireturn, 1) := by decide +kernel
set_option maxRecDepth 20000 in
theorem ggX4_allKnown_X4_isKnown : GoodIn wsX4_allKnown wsX4_isKnown := goodIn_r _ [7, 1, 8, 9, 10, 11, 12, 13, 14, 15, 16, 17, 6, 18, 19, 20, 21, 22, 23, 24, 25, 26, 27, 28, 29, 30] (by decide +kernel) (by decide +kernel)
set_option maxRecDepth 20000 in
theorem gX4_allKnown_X4_isKnown : GoodIn wsX4_allKnown (wsV RX4 35 RX4 yX4_isKnown wsX4_isKnown) := goodIn_app (goodIn_of _ (by decide +kernel)) ggX4_allKnown_X4_isKnown
theorem dX4_allKnown_0 : decode cX4_allKnown 0 = .ok (.iconst 0, 1) := by decide +kernel
theorem dX4_allKnown_1 : decode cX4_allKnown 1 = .ok (.istore 5, 2) := by decide +kernel
theorem dX4_allKnown_3 : decode cX4_allKnown 3 = .ok (.iload 5, 2) := by decide +kernel
theorem dX4_allKnown_5 : decode cX4_allKnown 5 = .ok (.aload_n 0, 1) := by decide +kernel
theorem dX4_allKnown_6 : decode cX4_allKnown 6 = .ok (.getfield 19, 3) := by decide +kernel
theorem dX4_allKnown_9 : decode cX4_allKnown 9 = .ok (.getfield 29, 3) := by decide +kernel
theorem dX4_allKnown_12 : decode cX4_allKnown 12 = .ok (.if_icmp .ge 25, 3) := by decide +kernel
theorem dX4_allKnown_15 : decode cX4_allKnown 15 = .ok (.aload_n 0, 1) := by decide +kernel
theorem dX4_allKnown_16 : decode cX4_allKnown 16 = .ok (.iload_n 1, 1) := by decide +kernel
theorem dX4_allKnown_17 : decode cX4_allKnown 17 = .ok (.iload_n 2, 1) := by decide +kernel
theorem dX4_allKnown_18 : decode cX4_allKnown 18 = .ok (.iload_n 3, 1) := by decide +kernel
theorem dX4_allKnown_19 : decode cX4_allKnown 19 = .ok (.iload 5, 2) := by decide +kernel
theorem dX4_allKnown_21 : decode cX4_allKnown 21 = .ok (.iload 4, 2) := by decide +kernel
theorem dX4_allKnown_23 : decode cX4_allKnown 23 = .ok (.invokevirtual 35, 3) := by decide +kernel
theorem dX4_allKnown_26 : decode cX4_allKnown 26 = .ok (.ifCond .ne 5, 3) := by decide +kernel
theorem dX4_allKnown_29 : decode cX4_allKnown 29 = .ok (.iconst 0, 1) := by decide +kernel
theorem dX4_allKnown_30 : decode cX4_allKnown 30 = .ok (.ireturn, 1) := by decide +kernel
theorem dX4_allKnown_31 : decode cX4_allKnown 31 = .ok (.iinc 5 1, 3) := by decide +kernel
theorem dX4_allKnown_34 : decode cX4_allKnown 34 = .ok (.goto (-31), 3) := by decide +kernel
theorem dX4_allKnown_37 : decode cX4_allKnown 37 = .ok (.iconst 1, 1) := by decide +kernel
theorem dX4_allKnown_38 : decode cX4_allKnown 38 = .ok (.ireturn, 1) := by decide +kernel
set_option maxRecDepth 20000 in
theorem ggX4_taken_X4_isKnown : GoodIn wsX4_taken wsX4_isKnown := goodIn_r _ [6, 1, 7, 8, 9, 10, 11, 12, 13, 14, 15, 16, 5, 17, 18, 19, 29, 30, 31, 32, 33, 34, 35, 36, 37, 38] (by decide +kernel) (by decide +kernel)
set_option maxRecDepth 20000 in
theorem gX4_taken_X4_isKnown : GoodIn wsX4_taken (wsV RX4 35 RX4 yX4_isKnown wsX4_isKnown) := goodIn_app (goodIn_of _ (by decide +kernel)) ggX4_taken_X4_isKnown
set_option maxRecDepth 20000 in
theorem ggX4_taken_X5_pressOf : GoodIn wsX4_taken wsX5_pressOf := goodIn_r _ [23, 24, 32, 33, 34, 35, 36, 37, 38] (by decide +kernel) (by decide +kernel)
set_option maxRecDepth 20000 in
theorem gX4_taken_X5_pressOf : GoodIn wsX4_taken (wsV RX4 39 RX5 yX5_pressOf wsX5_pressOf) := goodIn_app (goodIn_of _ (by decide +kernel)) ggX4_taken_X5_pressOf
set_option maxRecDepth 20000 in
theorem ggX4_taken_X4_guessed : GoodIn wsX4_taken wsX4_guessed := goodIn_r _ [28, 1, 2, 3, 4, 5, 6, 7, 8, 9, 10, 11, 12, 13, 14, 15, 16, 17, 18, 19, 20, 21, 22, 23, 24, 29, 30, 31, 32, 33, 34, 35, 36, 37, 38] (by decide +kernel) (by decide +kernel)
set_option maxRecDepth 20000 in
theorem gX4_taken_X4_guessed : GoodIn wsX4_taken (wsV RX4 43 RX4 yX4_guessed wsX4_guessed) := goodIn_app (goodIn_of _ (by decide +kernel)) ggX4_taken_X4_guessed
theorem dX4_taken_0 : decode cX4_taken 0 = .ok (.aload_n 0, 1) := by decide +kernel
theorem dX4_taken_1 : decode cX4_taken 1 = .ok (.iload_n 1, 1) := by decide +kernel
theorem dX4_taken_2 : decode cX4_taken 2 = .ok (.iload_n 2, 1) := by decide +kernel
theorem dX4_taken_3 : decode cX4_taken 3 = .ok (.iload_n 3, 1) := by decide +kernel
theorem dX4_taken_4 : decode cX4_taken 4 = .ok (.iload 4, 2) := by decide +kernel
theorem dX4_taken_6 : decode cX4_taken 6 = .ok (.iload 5, 2) := by decide +kernel
theorem dX4_taken_8 : decode cX4_taken 8 = .ok (.invokevirtual 35, 3) := by decide +kernel
theorem dX4_taken_11 : decode cX4_taken 11 = .ok (.ifCond .eq 15, 3) := by decide +kernel
theorem dX4_taken_14 : decode cX4_taken 14 = .ok (.aload_n 0, 1) := by decide +kernel
theorem dX4_taken_15 : decode cX4_taken 15 = .ok (.getfield 19, 3) := by decide +kernel
theorem dX4_taken_18 : decode cX4_taken 18 = .ok (.iload 4, 2) := by decide +kernel
theorem dX4_taken_20 : decode cX4_taken 20 = .ok (.iload 5, 2) := by decide +kernel
theorem dX4_taken_22 : decode cX4_taken 22 = .ok (.invokevirtual 39, 3) := by decide +kernel
theorem dX4_taken_25 : decode cX4_taken 25 = .ok (.ireturn, 1) := by decide +kernel
theorem dX4_taken_26 : decode cX4_taken 26 = .ok (.aload_n 0, 1) := by decide +kernel
theorem dX4_taken_27 : decode cX4_taken 27 = .ok (.iload_n 1, 1) := by decide +kernel
theorem dX4_taken_28 : decode cX4_taken 28 = .ok (.iload_n 2, 1) := by decide +kernel
theorem dX4_taken_29 : decode cX4_taken 29 = .ok (.iload_n 3, 1) := by decide +kernel
theorem dX4_taken_30 : decode cX4_taken 30 = .ok (.iload 4, 2) := by decide +kernel
theorem dX4_taken_32 : decode cX4_taken 32 = .ok (.iload 5, 2) := by decide +kernel
theorem dX4_taken_34 : decode cX4_taken 34 = .ok (.invokevirtual 43, 3) := by decide +kernel
theorem dX4_taken_37 : decode cX4_taken 37 = .ok (.ireturn, 1) := by decide +kernel
set_option maxRecDepth 20000 in
theorem ggX4_goneBack_X4_waitOf : GoodIn wsX4_goneBack wsX4_waitOf := goodIn_r _ [11, 12, 42, 43, 44] (by decide +kernel) (by decide +kernel)
set_option maxRecDepth 20000 in
theorem gX4_goneBack_X4_waitOf : GoodIn wsX4_goneBack (wsV RX4 47 RX4 yX4_waitOf wsX4_waitOf) := goodIn_app (goodIn_of _ (by decide +kernel)) ggX4_goneBack_X4_waitOf
set_option maxRecDepth 20000 in
theorem ggX4_goneBack_X4_backBy : GoodIn wsX4_goneBack wsX4_backBy := goodIn_r _ [16, 1, 17, 18, 19, 20, 21, 22, 23, 24, 25, 26, 10, 27, 12, 28, 29, 30, 31, 32, 33, 34, 35, 36, 37, 38, 39, 40, 41, 42, 43, 44, 45, 46, 47, 48, 49, 50, 51] (by decide +kernel) (by decide +kernel)
set_option maxRecDepth 20000 in
theorem gX4_goneBack_X4_backBy : GoodIn wsX4_goneBack (wsV RX4 50 RX4 yX4_backBy wsX4_backBy) := goodIn_app (goodIn_of _ (by decide +kernel)) ggX4_goneBack_X4_backBy
theorem dX4_goneBack_0 : decode cX4_goneBack 0 = .ok (.iconst 0, 1) := by decide +kernel
theorem dX4_goneBack_1 : decode cX4_goneBack 1 = .ok (.istore 4, 2) := by decide +kernel
theorem dX4_goneBack_3 : decode cX4_goneBack 3 = .ok (.iconst 0, 1) := by decide +kernel
theorem dX4_goneBack_4 : decode cX4_goneBack 4 = .ok (.istore 5, 2) := by decide +kernel
theorem dX4_goneBack_6 : decode cX4_goneBack 6 = .ok (.iload 5, 2) := by decide +kernel
theorem dX4_goneBack_8 : decode cX4_goneBack 8 = .ok (.aload_n 0, 1) := by decide +kernel
theorem dX4_goneBack_9 : decode cX4_goneBack 9 = .ok (.getfield 19, 3) := by decide +kernel
theorem dX4_goneBack_12 : decode cX4_goneBack 12 = .ok (.getfield 29, 3) := by decide +kernel
theorem dX4_goneBack_15 : decode cX4_goneBack 15 = .ok (.if_icmp .ge 69, 3) := by decide +kernel
theorem dX4_goneBack_18 : decode cX4_goneBack 18 = .ok (.aload_n 0, 1) := by decide +kernel
theorem dX4_goneBack_19 : decode cX4_goneBack 19 = .ok (.iload_n 2, 1) := by decide +kernel
theorem dX4_goneBack_20 : decode cX4_goneBack 20 = .ok (.iload 5, 2) := by decide +kernel
theorem dX4_goneBack_22 : decode cX4_goneBack 22 = .ok (.invokevirtual 47, 3) := by decide +kernel
theorem dX4_goneBack_25 : decode cX4_goneBack 25 = .ok (.istore 6, 2) := by decide +kernel
theorem dX4_goneBack_27 : decode cX4_goneBack 27 = .ok (.iload_n 3, 1) := by decide +kernel
theorem dX4_goneBack_28 : decode cX4_goneBack 28 = .ok (.iload_n 1, 1) := by decide +kernel
theorem dX4_goneBack_29 : decode cX4_goneBack 29 = .ok (.iadd, 1) := by decide +kernel
theorem dX4_goneBack_30 : decode cX4_goneBack 30 = .ok (.istore 7, 2) := by decide +kernel
theorem dX4_goneBack_32 : decode cX4_goneBack 32 = .ok (.iload 4, 2) := by decide +kernel
theorem dX4_goneBack_34 : decode cX4_goneBack 34 = .ok (.aload_n 0, 1) := by decide +kernel
theorem dX4_goneBack_35 : decode cX4_goneBack 35 = .ok (.iload_n 1, 1) := by decide +kernel
theorem dX4_goneBack_36 : decode cX4_goneBack 36 = .ok (.iload_n 2, 1) := by decide +kernel
theorem dX4_goneBack_37 : decode cX4_goneBack 37 = .ok (.iload_n 3, 1) := by decide +kernel
theorem dX4_goneBack_38 : decode cX4_goneBack 38 = .ok (.iload 5, 2) := by decide +kernel
theorem dX4_goneBack_40 : decode cX4_goneBack 40 = .ok (.iload 7, 2) := by decide +kernel
theorem dX4_goneBack_42 : decode cX4_goneBack 42 = .ok (.iload 6, 2) := by decide +kernel
theorem dX4_goneBack_44 : decode cX4_goneBack 44 = .ok (.isub, 1) := by decide +kernel
theorem dX4_goneBack_45 : decode cX4_goneBack 45 = .ok (.invokevirtual 50, 3) := by decide +kernel
theorem dX4_goneBack_48 : decode cX4_goneBack 48 = .ok (.invokestatic 53, 3) := by decide +kernel
theorem dX4_goneBack_51 : decode cX4_goneBack 51 = .ok (.istore 4, 2) := by decide +kernel
theorem dX4_goneBack_53 : decode cX4_goneBack 53 = .ok (.iload 4, 2) := by decide +kernel
theorem dX4_goneBack_55 : decode cX4_goneBack 55 = .ok (.aload_n 0, 1) := by decide +kernel
theorem dX4_goneBack_56 : decode cX4_goneBack 56 = .ok (.iload_n 1, 1) := by decide +kernel
theorem dX4_goneBack_57 : decode cX4_goneBack 57 = .ok (.iload_n 2, 1) := by decide +kernel
theorem dX4_goneBack_58 : decode cX4_goneBack 58 = .ok (.iload_n 3, 1) := by decide +kernel
theorem dX4_goneBack_59 : decode cX4_goneBack 59 = .ok (.iload 5, 2) := by decide +kernel
theorem dX4_goneBack_61 : decode cX4_goneBack 61 = .ok (.iload 7, 2) := by decide +kernel
theorem dX4_goneBack_63 : decode cX4_goneBack 63 = .ok (.iconst 3, 1) := by decide +kernel
theorem dX4_goneBack_64 : decode cX4_goneBack 64 = .ok (.iload 6, 2) := by decide +kernel
theorem dX4_goneBack_66 : decode cX4_goneBack 66 = .ok (.imul, 1) := by decide +kernel
theorem dX4_goneBack_67 : decode cX4_goneBack 67 = .ok (.isub, 1) := by decide +kernel
theorem dX4_goneBack_68 : decode cX4_goneBack 68 = .ok (.iconst 1, 1) := by decide +kernel
theorem dX4_goneBack_69 : decode cX4_goneBack 69 = .ok (.isub, 1) := by decide +kernel
theorem dX4_goneBack_70 : decode cX4_goneBack 70 = .ok (.invokevirtual 50, 3) := by decide +kernel
theorem dX4_goneBack_73 : decode cX4_goneBack 73 = .ok (.invokestatic 53, 3) := by decide +kernel
theorem dX4_goneBack_76 : decode cX4_goneBack 76 = .ok (.istore 4, 2) := by decide +kernel
theorem dX4_goneBack_78 : decode cX4_goneBack 78 = .ok (.iinc 5 1, 3) := by decide +kernel
theorem dX4_goneBack_81 : decode cX4_goneBack 81 = .ok (.goto (-75), 3) := by decide +kernel
theorem dX4_goneBack_84 : decode cX4_goneBack 84 = .ok (.iload 4, 2) := by decide +kernel
theorem dX4_goneBack_86 : decode cX4_goneBack 86 = .ok (.ireturn, 1) := by decide +kernel
set_option maxRecDepth 20000 in
theorem ggX4_backBy_X5_isLeft : GoodIn wsX4_backBy wsX5_isLeft := goodIn_r _ [6, 7, 8, 32, 33, 34, 35, 36, 37, 38] (by decide +kernel) (by decide +kernel)
set_option maxRecDepth 20000 in
theorem gX4_backBy_X5_isLeft : GoodIn wsX4_backBy (wsV RX4 58 RX5 yX5_isLeft wsX5_isLeft) := goodIn_app (goodIn_of _ (by decide +kernel)) ggX4_backBy_X5_isLeft
set_option maxRecDepth 20000 in
theorem ggX4_backBy_X4_clockOf : GoodIn wsX4_backBy wsX4_clockOf := goodIn_r _ [13, 14, 15, 29, 30, 31] (by decide +kernel) (by decide +kernel)
set_option maxRecDepth 20000 in
theorem gX4_backBy_X4_clockOf : GoodIn wsX4_backBy (wsV RX4 62 RX4 yX4_clockOf wsX4_clockOf) := goodIn_app (goodIn_of _ (by decide +kernel)) ggX4_backBy_X4_clockOf
set_option maxRecDepth 20000 in
theorem ggX4_backBy_X4_guessed : GoodIn wsX4_backBy wsX4_guessed := goodIn_r _ [19, 1, 20, 21, 22, 12, 23, 2, 3, 4, 5, 6, 7, 8, 9, 10, 11, 13, 14, 15, 24, 25, 26, 27, 28, 29, 30, 31, 32, 33, 34, 35, 36, 37, 38] (by decide +kernel) (by decide +kernel)
set_option maxRecDepth 20000 in
theorem gX4_backBy_X4_guessed : GoodIn wsX4_backBy (wsV RX4 43 RX4 yX4_guessed wsX4_guessed) := goodIn_app (goodIn_of _ (by decide +kernel)) ggX4_backBy_X4_guessed
set_option maxRecDepth 20000 in
theorem ggX4_backBy_X5_pressOf : GoodIn wsX4_backBy wsX5_pressOf := goodIn_r _ [27, 28, 32, 33, 34, 35, 36, 37, 38] (by decide +kernel) (by decide +kernel)
set_option maxRecDepth 20000 in
theorem gX4_backBy_X5_pressOf : GoodIn wsX4_backBy (wsV RX4 39 RX5 yX5_pressOf wsX5_pressOf) := goodIn_app (goodIn_of _ (by decide +kernel)) ggX4_backBy_X5_pressOf
theorem dX4_backBy_0 : decode cX4_backBy 0 = .ok (.iload 5, 2) := by decide +kernel
theorem dX4_backBy_2 : decode cX4_backBy 2 = .ok (.ifCond .lt 23, 3) := by decide +kernel
theorem dX4_backBy_5 : decode cX4_backBy 5 = .ok (.iload 5, 2) := by decide +kernel
theorem dX4_backBy_7 : decode cX4_backBy 7 = .ok (.iload_n 3, 1) := by decide +kernel
theorem dX4_backBy_8 : decode cX4_backBy 8 = .ok (.if_icmp .ge 17, 3) := by decide +kernel
theorem dX4_backBy_11 : decode cX4_backBy 11 = .ok (.aload_n 0, 1) := by decide +kernel
theorem dX4_backBy_12 : decode cX4_backBy 12 = .ok (.getfield 19, 3) := by decide +kernel
theorem dX4_backBy_15 : decode cX4_backBy 15 = .ok (.iload 4, 2) := by decide +kernel
theorem dX4_backBy_17 : decode cX4_backBy 17 = .ok (.iload 5, 2) := by decide +kernel
theorem dX4_backBy_19 : decode cX4_backBy 19 = .ok (.invokevirtual 58, 3) := by decide +kernel
theorem dX4_backBy_22 : decode cX4_backBy 22 = .ok (.ifCond .eq 5, 3) := by decide +kernel
theorem dX4_backBy_25 : decode cX4_backBy 25 = .ok (.iconst 0, 1) := by decide +kernel
theorem dX4_backBy_26 : decode cX4_backBy 26 = .ok (.ireturn, 1) := by decide +kernel
theorem dX4_backBy_27 : decode cX4_backBy 27 = .ok (.aload_n 0, 1) := by decide +kernel
theorem dX4_backBy_28 : decode cX4_backBy 28 = .ok (.iload_n 1, 1) := by decide +kernel
theorem dX4_backBy_29 : decode cX4_backBy 29 = .ok (.iload_n 2, 1) := by decide +kernel
theorem dX4_backBy_30 : decode cX4_backBy 30 = .ok (.iload 4, 2) := by decide +kernel
theorem dX4_backBy_32 : decode cX4_backBy 32 = .ok (.iload 5, 2) := by decide +kernel
theorem dX4_backBy_34 : decode cX4_backBy 34 = .ok (.invokevirtual 62, 3) := by decide +kernel
theorem dX4_backBy_37 : decode cX4_backBy 37 = .ok (.iload_n 3, 1) := by decide +kernel
theorem dX4_backBy_38 : decode cX4_backBy 38 = .ok (.if_icmp .eq 5, 3) := by decide +kernel
theorem dX4_backBy_41 : decode cX4_backBy 41 = .ok (.iconst 0, 1) := by decide +kernel
theorem dX4_backBy_42 : decode cX4_backBy 42 = .ok (.ireturn, 1) := by decide +kernel
theorem dX4_backBy_43 : decode cX4_backBy 43 = .ok (.aload_n 0, 1) := by decide +kernel
theorem dX4_backBy_44 : decode cX4_backBy 44 = .ok (.iload_n 1, 1) := by decide +kernel
theorem dX4_backBy_45 : decode cX4_backBy 45 = .ok (.iload_n 2, 1) := by decide +kernel
theorem dX4_backBy_46 : decode cX4_backBy 46 = .ok (.iload_n 3, 1) := by decide +kernel
theorem dX4_backBy_47 : decode cX4_backBy 47 = .ok (.iconst 1, 1) := by decide +kernel
theorem dX4_backBy_48 : decode cX4_backBy 48 = .ok (.isub, 1) := by decide +kernel
theorem dX4_backBy_49 : decode cX4_backBy 49 = .ok (.iload 4, 2) := by decide +kernel
theorem dX4_backBy_51 : decode cX4_backBy 51 = .ok (.iload 5, 2) := by decide +kernel
theorem dX4_backBy_53 : decode cX4_backBy 53 = .ok (.invokevirtual 43, 3) := by decide +kernel
theorem dX4_backBy_56 : decode cX4_backBy 56 = .ok (.istore 6, 2) := by decide +kernel
theorem dX4_backBy_58 : decode cX4_backBy 58 = .ok (.iload 6, 2) := by decide +kernel
theorem dX4_backBy_60 : decode cX4_backBy 60 = .ok (.aload_n 0, 1) := by decide +kernel
theorem dX4_backBy_61 : decode cX4_backBy 61 = .ok (.getfield 19, 3) := by decide +kernel
theorem dX4_backBy_64 : decode cX4_backBy 64 = .ok (.iload 4, 2) := by decide +kernel
theorem dX4_backBy_66 : decode cX4_backBy 66 = .ok (.iload 5, 2) := by decide +kernel
theorem dX4_backBy_68 : decode cX4_backBy 68 = .ok (.invokevirtual 39, 3) := by decide +kernel
theorem dX4_backBy_71 : decode cX4_backBy 71 = .ok (.if_icmp .ne 7, 3) := by decide +kernel
theorem dX4_backBy_74 : decode cX4_backBy 74 = .ok (.iconst 0, 1) := by decide +kernel
theorem dX4_backBy_75 : decode cX4_backBy 75 = .ok (.goto 7, 3) := by decide +kernel
theorem dX4_backBy_78 : decode cX4_backBy 78 = .ok (.iload_n 3, 1) := by decide +kernel
theorem dX4_backBy_79 : decode cX4_backBy 79 = .ok (.iload 5, 2) := by decide +kernel
theorem dX4_backBy_81 : decode cX4_backBy 81 = .ok (.isub, 1) := by decide +kernel
theorem dX4_backBy_82 : decode cX4_backBy 82 = .ok (.ireturn, 1) := by decide +kernel
set_option maxRecDepth 20000 in
theorem ggX4_isKnown_X5_isLeft : GoodIn wsX4_isKnown wsX5_isLeft := goodIn_r _ [6, 7, 8, 19, 20, 21, 22, 23, 24, 25] (by decide +kernel) (by decide +kernel)
set_option maxRecDepth 20000 in
theorem gX4_isKnown_X5_isLeft : GoodIn wsX4_isKnown (wsV RX4 58 RX5 yX5_isLeft wsX5_isLeft) := goodIn_app (goodIn_of _ (by decide +kernel)) ggX4_isKnown_X5_isLeft
set_option maxRecDepth 20000 in
theorem ggX4_isKnown_X4_clockOf : GoodIn wsX4_isKnown wsX4_clockOf := goodIn_r _ [13, 14, 15, 16, 17, 18] (by decide +kernel) (by decide +kernel)
set_option maxRecDepth 20000 in
theorem gX4_isKnown_X4_clockOf : GoodIn wsX4_isKnown (wsV RX4 62 RX4 yX4_clockOf wsX4_clockOf) := goodIn_app (goodIn_of _ (by decide +kernel)) ggX4_isKnown_X4_clockOf
theorem dX4_isKnown_0 : decode cX4_isKnown 0 = .ok (.aload_n 0, 1) := by decide +kernel
theorem dX4_isKnown_1 : decode cX4_isKnown 1 = .ok (.getfield 19, 3) := by decide +kernel
theorem dX4_isKnown_4 : decode cX4_isKnown 4 = .ok (.iload 4, 2) := by decide +kernel
theorem dX4_isKnown_6 : decode cX4_isKnown 6 = .ok (.iload 5, 2) := by decide +kernel
theorem dX4_isKnown_8 : decode cX4_isKnown 8 = .ok (.invokevirtual 58, 3) := by decide +kernel
theorem dX4_isKnown_11 : decode cX4_isKnown 11 = .ok (.ifCond .ne 17, 3) := by decide +kernel
theorem dX4_isKnown_14 : decode cX4_isKnown 14 = .ok (.aload_n 0, 1) := by decide +kernel
theorem dX4_isKnown_15 : decode cX4_isKnown 15 = .ok (.iload_n 1, 1) := by decide +kernel
theorem dX4_isKnown_16 : decode cX4_isKnown 16 = .ok (.iload_n 2, 1) := by decide +kernel
theorem dX4_isKnown_17 : decode cX4_isKnown 17 = .ok (.iload 4, 2) := by decide +kernel
theorem dX4_isKnown_19 : decode cX4_isKnown 19 = .ok (.iload 5, 2) := by decide +kernel
theorem dX4_isKnown_21 : decode cX4_isKnown 21 = .ok (.invokevirtual 62, 3) := by decide +kernel
theorem dX4_isKnown_24 : decode cX4_isKnown 24 = .ok (.iload_n 3, 1) := by decide +kernel
theorem dX4_isKnown_25 : decode cX4_isKnown 25 = .ok (.if_icmp .gt 7, 3) := by decide +kernel
theorem dX4_isKnown_28 : decode cX4_isKnown 28 = .ok (.iconst 1, 1) := by decide +kernel
theorem dX4_isKnown_29 : decode cX4_isKnown 29 = .ok (.goto 4, 3) := by decide +kernel
theorem dX4_isKnown_32 : decode cX4_isKnown 32 = .ok (.iconst 0, 1) := by decide +kernel
theorem dX4_isKnown_33 : decode cX4_isKnown 33 = .ok (.ireturn, 1) := by decide +kernel
set_option maxRecDepth 20000 in
theorem ggX4_guessed_X4_isKnown : GoodIn wsX4_guessed wsX4_isKnown := goodIn_r _ [6, 1, 7, 8, 9, 10, 11, 12, 13, 14, 15, 16, 5, 17, 18, 19, 25, 26, 27, 28, 29, 30, 31, 32, 33, 34] (by decide +kernel) (by decide +kernel)
set_option maxRecDepth 20000 in
theorem gX4_guessed_X4_isKnown : GoodIn wsX4_guessed (wsV RX4 35 RX4 yX4_isKnown wsX4_isKnown) := goodIn_app (goodIn_of _ (by decide +kernel)) ggX4_guessed_X4_isKnown
set_option maxRecDepth 20000 in
theorem ggX4_guessed_X5_isLeft : GoodIn wsX4_guessed wsX5_isLeft := goodIn_r _ [11, 12, 13, 28, 29, 30, 31, 32, 33, 34] (by decide +kernel) (by decide +kernel)
set_option maxRecDepth 20000 in
theorem gX4_guessed_X5_isLeft : GoodIn wsX4_guessed (wsV RX4 58 RX5 yX5_isLeft wsX5_isLeft) := goodIn_app (goodIn_of _ (by decide +kernel)) ggX4_guessed_X5_isLeft
set_option maxRecDepth 20000 in
theorem ggX4_guessed_X5_pressOf : GoodIn wsX4_guessed wsX5_pressOf := goodIn_r _ [23, 24, 28, 29, 30, 31, 32, 33, 34] (by decide +kernel) (by decide +kernel)
set_option maxRecDepth 20000 in
theorem gX4_guessed_X5_pressOf : GoodIn wsX4_guessed (wsV RX4 39 RX5 yX5_pressOf wsX5_pressOf) := goodIn_app (goodIn_of _ (by decide +kernel)) ggX4_guessed_X5_pressOf
theorem dX4_guessed_0 : decode cX4_guessed 0 = .ok (.iload 5, 2) := by decide +kernel
theorem dX4_guessed_2 : decode cX4_guessed 2 = .ok (.iconst 1, 1) := by decide +kernel
theorem dX4_guessed_3 : decode cX4_guessed 3 = .ok (.isub, 1) := by decide +kernel
theorem dX4_guessed_4 : decode cX4_guessed 4 = .ok (.istore 6, 2) := by decide +kernel
theorem dX4_guessed_6 : decode cX4_guessed 6 = .ok (.iload 6, 2) := by decide +kernel
theorem dX4_guessed_8 : decode cX4_guessed 8 = .ok (.ifCond .lt 53, 3) := by decide +kernel
theorem dX4_guessed_11 : decode cX4_guessed 11 = .ok (.aload_n 0, 1) := by decide +kernel
theorem dX4_guessed_12 : decode cX4_guessed 12 = .ok (.iload_n 1, 1) := by decide +kernel
theorem dX4_guessed_13 : decode cX4_guessed 13 = .ok (.iload_n 2, 1) := by decide +kernel
theorem dX4_guessed_14 : decode cX4_guessed 14 = .ok (.iload_n 3, 1) := by decide +kernel
theorem dX4_guessed_15 : decode cX4_guessed 15 = .ok (.iload 4, 2) := by decide +kernel
theorem dX4_guessed_17 : decode cX4_guessed 17 = .ok (.iload 6, 2) := by decide +kernel
theorem dX4_guessed_19 : decode cX4_guessed 19 = .ok (.invokevirtual 35, 3) := by decide +kernel
theorem dX4_guessed_22 : decode cX4_guessed 22 = .ok (.ifCond .eq 33, 3) := by decide +kernel
theorem dX4_guessed_25 : decode cX4_guessed 25 = .ok (.aload_n 0, 1) := by decide +kernel
theorem dX4_guessed_26 : decode cX4_guessed 26 = .ok (.getfield 19, 3) := by decide +kernel
theorem dX4_guessed_29 : decode cX4_guessed 29 = .ok (.iload 4, 2) := by decide +kernel
theorem dX4_guessed_31 : decode cX4_guessed 31 = .ok (.iload 6, 2) := by decide +kernel
theorem dX4_guessed_33 : decode cX4_guessed 33 = .ok (.invokevirtual 58, 3) := by decide +kernel
theorem dX4_guessed_36 : decode cX4_guessed 36 = .ok (.ifCond .eq 7, 3) := by decide +kernel
theorem dX4_guessed_39 : decode cX4_guessed 39 = .ok (.iconst 0, 1) := by decide +kernel
theorem dX4_guessed_40 : decode cX4_guessed 40 = .ok (.goto 14, 3) := by decide +kernel
theorem dX4_guessed_43 : decode cX4_guessed 43 = .ok (.aload_n 0, 1) := by decide +kernel
theorem dX4_guessed_44 : decode cX4_guessed 44 = .ok (.getfield 19, 3) := by decide +kernel
theorem dX4_guessed_47 : decode cX4_guessed 47 = .ok (.iload 4, 2) := by decide +kernel
theorem dX4_guessed_49 : decode cX4_guessed 49 = .ok (.iload 6, 2) := by decide +kernel
theorem dX4_guessed_51 : decode cX4_guessed 51 = .ok (.invokevirtual 39, 3) := by decide +kernel
theorem dX4_guessed_54 : decode cX4_guessed 54 = .ok (.ireturn, 1) := by decide +kernel
theorem dX4_guessed_55 : decode cX4_guessed 55 = .ok (.iinc 6 (-1), 3) := by decide +kernel
theorem dX4_guessed_58 : decode cX4_guessed 58 = .ok (.goto (-52), 3) := by decide +kernel
theorem dX4_guessed_61 : decode cX4_guessed 61 = .ok (.iconst 0, 1) := by decide +kernel
theorem dX4_guessed_62 : decode cX4_guessed 62 = .ok (.ireturn, 1) := by decide +kernel
theorem dX5_init_0 : decode cX5_init 0 = .ok (.aload_n 0, 1) := by decide +kernel
theorem dX5_init_1 : decode cX5_init 1 = .ok (.invokespecial 3, 3) := by decide +kernel
theorem dX5_init_4 : decode cX5_init 4 = .ok (.aload_n 0, 1) := by decide +kernel
theorem dX5_init_5 : decode cX5_init 5 = .ok (.iconst 5, 1) := by decide +kernel
theorem dX5_init_6 : decode cX5_init 6 = .ok (.putfield 9, 3) := by decide +kernel
theorem dX5_init_9 : decode cX5_init 9 = .ok (.aload_n 0, 1) := by decide +kernel
theorem dX5_init_10 : decode cX5_init 10 = .ok (.iconst 5, 1) := by decide +kernel
theorem dX5_init_11 : decode cX5_init 11 = .ok (.putfield 15, 3) := by decide +kernel
theorem dX5_init_14 : decode cX5_init 14 = .ok (.aload_n 0, 1) := by decide +kernel
theorem dX5_init_15 : decode cX5_init 15 = .ok (.iconst 2, 1) := by decide +kernel
theorem dX5_init_16 : decode cX5_init 16 = .ok (.putfield 18, 3) := by decide +kernel
theorem dX5_init_19 : decode cX5_init 19 = .ok (.aload_n 0, 1) := by decide +kernel
theorem dX5_init_20 : decode cX5_init 20 = .ok (.bipush 7, 2) := by decide +kernel
theorem dX5_init_22 : decode cX5_init 22 = .ok (.newarray .int, 2) := by decide +kernel
theorem dX5_init_24 : decode cX5_init 24 = .ok (.dup, 1) := by decide +kernel
theorem dX5_init_25 : decode cX5_init 25 = .ok (.iconst 0, 1) := by decide +kernel
theorem dX5_init_26 : decode cX5_init 26 = .ok (.iconst 2, 1) := by decide +kernel
theorem dX5_init_27 : decode cX5_init 27 = .ok (.iastore, 1) := by decide +kernel
theorem dX5_init_28 : decode cX5_init 28 = .ok (.dup, 1) := by decide +kernel
theorem dX5_init_29 : decode cX5_init 29 = .ok (.iconst 1, 1) := by decide +kernel
theorem dX5_init_30 : decode cX5_init 30 = .ok (.iconst 0, 1) := by decide +kernel
theorem dX5_init_31 : decode cX5_init 31 = .ok (.iastore, 1) := by decide +kernel
theorem dX5_init_32 : decode cX5_init 32 = .ok (.dup, 1) := by decide +kernel
theorem dX5_init_33 : decode cX5_init 33 = .ok (.iconst 2, 1) := by decide +kernel
theorem dX5_init_34 : decode cX5_init 34 = .ok (.iconst 0, 1) := by decide +kernel
theorem dX5_init_35 : decode cX5_init 35 = .ok (.iastore, 1) := by decide +kernel
theorem dX5_init_36 : decode cX5_init 36 = .ok (.dup, 1) := by decide +kernel
theorem dX5_init_37 : decode cX5_init 37 = .ok (.iconst 3, 1) := by decide +kernel
theorem dX5_init_38 : decode cX5_init 38 = .ok (.iconst 0, 1) := by decide +kernel
theorem dX5_init_39 : decode cX5_init 39 = .ok (.iastore, 1) := by decide +kernel
theorem dX5_init_40 : decode cX5_init 40 = .ok (.dup, 1) := by decide +kernel
theorem dX5_init_41 : decode cX5_init 41 = .ok (.iconst 4, 1) := by decide +kernel
theorem dX5_init_42 : decode cX5_init 42 = .ok (.iconst 5, 1) := by decide +kernel
theorem dX5_init_43 : decode cX5_init 43 = .ok (.iastore, 1) := by decide +kernel
theorem dX5_init_44 : decode cX5_init 44 = .ok (.dup, 1) := by decide +kernel
theorem dX5_init_45 : decode cX5_init 45 = .ok (.iconst 5, 1) := by decide +kernel
theorem dX5_init_46 : decode cX5_init 46 = .ok (.iconst 1, 1) := by decide +kernel
theorem dX5_init_47 : decode cX5_init 47 = .ok (.iastore, 1) := by decide +kernel
theorem dX5_init_48 : decode cX5_init 48 = .ok (.dup, 1) := by decide +kernel
theorem dX5_init_49 : decode cX5_init 49 = .ok (.bipush 6, 2) := by decide +kernel
theorem dX5_init_51 : decode cX5_init 51 = .ok (.bipush 9, 2) := by decide +kernel
theorem dX5_init_53 : decode cX5_init 53 = .ok (.iastore, 1) := by decide +kernel
theorem dX5_init_54 : decode cX5_init 54 = .ok (.putfield 21, 3) := by decide +kernel
theorem dX5_init_57 : decode cX5_init 57 = .ok (.aload_n 0, 1) := by decide +kernel
theorem dX5_init_58 : decode cX5_init 58 = .ok (.sipush 600, 3) := by decide +kernel
theorem dX5_init_61 : decode cX5_init 61 = .ok (.newarray .int, 2) := by decide +kernel
theorem dX5_init_63 : decode cX5_init 63 = .ok (.putfield 25, 3) := by decide +kernel
theorem dX5_init_66 : decode cX5_init 66 = .ok (.aload_n 0, 1) := by decide +kernel
theorem dX5_init_67 : decode cX5_init 67 = .ok (.bipush 6, 2) := by decide +kernel
theorem dX5_init_69 : decode cX5_init 69 = .ok (.newarray .int, 2) := by decide +kernel
theorem dX5_init_71 : decode cX5_init 71 = .ok (.putfield 28, 3) := by decide +kernel
theorem dX5_init_74 : decode cX5_init 74 = .ok (.aload_n 0, 1) := by decide +kernel
theorem dX5_init_75 : decode cX5_init 75 = .ok (.bipush 6, 2) := by decide +kernel
theorem dX5_init_77 : decode cX5_init 77 = .ok (.newarray .int, 2) := by decide +kernel
theorem dX5_init_79 : decode cX5_init 79 = .ok (.putfield 31, 3) := by decide +kernel
theorem dX5_init_82 : decode cX5_init 82 = .ok (.return_, 1) := by decide +kernel
set_option maxRecDepth 20000 in
theorem ggX5_clear_J7_fill_53178 : GoodIn wsX5_clear wsJ7_fill_53178 := goodIn_r _ [10] (by decide +kernel) (by decide +kernel)
set_option maxRecDepth 20000 in
theorem gX5_clear_J7_fill_53178 : GoodIn wsX5_clear (va_wsS RX5 34 yJ7_fill_53178 wsJ7_fill_53178) := goodIn_app (goodIn_of _ (by decide +kernel)) ggX5_clear_J7_fill_53178
theorem dX5_clear_0 : decode cX5_clear 0 = .ok (.aload_n 0, 1) := by decide +kernel
theorem dX5_clear_1 : decode cX5_clear 1 = .ok (.iload_n 1, 1) := by decide +kernel
theorem dX5_clear_2 : decode cX5_clear 2 = .ok (.putfield 9, 3) := by decide +kernel
theorem dX5_clear_5 : decode cX5_clear 5 = .ok (.aload_n 0, 1) := by decide +kernel
theorem dX5_clear_6 : decode cX5_clear 6 = .ok (.iload_n 2, 1) := by decide +kernel
theorem dX5_clear_7 : decode cX5_clear 7 = .ok (.putfield 15, 3) := by decide +kernel
theorem dX5_clear_10 : decode cX5_clear 10 = .ok (.aload_n 0, 1) := by decide +kernel
theorem dX5_clear_11 : decode cX5_clear 11 = .ok (.iload_n 3, 1) := by decide +kernel
theorem dX5_clear_12 : decode cX5_clear 12 = .ok (.putfield 18, 3) := by decide +kernel
theorem dX5_clear_15 : decode cX5_clear 15 = .ok (.aload_n 0, 1) := by decide +kernel
theorem dX5_clear_16 : decode cX5_clear 16 = .ok (.getfield 25, 3) := by decide +kernel
theorem dX5_clear_19 : decode cX5_clear 19 = .ok (.iconst 0, 1) := by decide +kernel
theorem dX5_clear_20 : decode cX5_clear 20 = .ok (.invokestatic 34, 3) := by decide +kernel
theorem dX5_clear_23 : decode cX5_clear 23 = .ok (.aload_n 0, 1) := by decide +kernel
theorem dX5_clear_24 : decode cX5_clear 24 = .ok (.getfield 28, 3) := by decide +kernel
theorem dX5_clear_27 : decode cX5_clear 27 = .ok (.iconst 0, 1) := by decide +kernel
theorem dX5_clear_28 : decode cX5_clear 28 = .ok (.invokestatic 34, 3) := by decide +kernel
theorem dX5_clear_31 : decode cX5_clear 31 = .ok (.aload_n 0, 1) := by decide +kernel
theorem dX5_clear_32 : decode cX5_clear 32 = .ok (.getfield 31, 3) := by decide +kernel
theorem dX5_clear_35 : decode cX5_clear 35 = .ok (.iconst 0, 1) := by decide +kernel
theorem dX5_clear_36 : decode cX5_clear 36 = .ok (.invokestatic 34, 3) := by decide +kernel
theorem dX5_clear_39 : decode cX5_clear 39 = .ok (.return_, 1) := by decide +kernel
theorem dX5_copyFrom_0 : decode cX5_copyFrom 0 = .ok (.aload_n 0, 1) := by decide +kernel
theorem dX5_copyFrom_1 : decode cX5_copyFrom 1 = .ok (.aload_n 1, 1) := by decide +kernel
theorem dX5_copyFrom_2 : decode cX5_copyFrom 2 = .ok (.getfield 9, 3) := by decide +kernel
theorem dX5_copyFrom_5 : decode cX5_copyFrom 5 = .ok (.putfield 9, 3) := by decide +kernel
theorem dX5_copyFrom_8 : decode cX5_copyFrom 8 = .ok (.aload_n 0, 1) := by decide +kernel
theorem dX5_copyFrom_9 : decode cX5_copyFrom 9 = .ok (.aload_n 1, 1) := by decide +kernel
theorem dX5_copyFrom_10 : decode cX5_copyFrom 10 = .ok (.getfield 15, 3) := by decide +kernel
theorem dX5_copyFrom_13 : decode cX5_copyFrom 13 = .ok (.putfield 15, 3) := by decide +kernel
theorem dX5_copyFrom_16 : decode cX5_copyFrom 16 = .ok (.aload_n 0, 1) := by decide +kernel
theorem dX5_copyFrom_17 : decode cX5_copyFrom 17 = .ok (.aload_n 1, 1) := by decide +kernel
theorem dX5_copyFrom_18 : decode cX5_copyFrom 18 = .ok (.getfield 18, 3) := by decide +kernel
theorem dX5_copyFrom_21 : decode cX5_copyFrom 21 = .ok (.putfield 18, 3) := by decide +kernel
theorem dX5_copyFrom_24 : decode cX5_copyFrom 24 = .ok (.aload_n 1, 1) := by decide +kernel
theorem dX5_copyFrom_25 : decode cX5_copyFrom 25 = .ok (.getfield 21, 3) := by decide +kernel
theorem dX5_copyFrom_28 : decode cX5_copyFrom 28 = .ok (.iconst 0, 1) := by decide +kernel
theorem dX5_copyFrom_29 : decode cX5_copyFrom 29 = .ok (.aload_n 0, 1) := by decide +kernel
theorem dX5_copyFrom_30 : decode cX5_copyFrom 30 = .ok (.getfield 21, 3) := by decide +kernel
theorem dX5_copyFrom_33 : decode cX5_copyFrom 33 = .ok (.iconst 0, 1) := by decide +kernel
theorem dX5_copyFrom_34 : decode cX5_copyFrom 34 = .ok (.iconst 3, 1) := by decide +kernel
theorem dX5_copyFrom_35 : decode cX5_copyFrom 35 = .ok (.invokestatic 40, 3) := by decide +kernel
theorem dX5_copyFrom_38 : decode cX5_copyFrom 38 = .ok (.aload_n 1, 1) := by decide +kernel
theorem dX5_copyFrom_39 : decode cX5_copyFrom 39 = .ok (.getfield 25, 3) := by decide +kernel
theorem dX5_copyFrom_42 : decode cX5_copyFrom 42 = .ok (.iconst 0, 1) := by decide +kernel
theorem dX5_copyFrom_43 : decode cX5_copyFrom 43 = .ok (.aload_n 0, 1) := by decide +kernel
theorem dX5_copyFrom_44 : decode cX5_copyFrom 44 = .ok (.getfield 25, 3) := by decide +kernel
theorem dX5_copyFrom_47 : decode cX5_copyFrom 47 = .ok (.iconst 0, 1) := by decide +kernel
theorem dX5_copyFrom_48 : decode cX5_copyFrom 48 = .ok (.aload_n 0, 1) := by decide +kernel
theorem dX5_copyFrom_49 : decode cX5_copyFrom 49 = .ok (.getfield 25, 3) := by decide +kernel
theorem dX5_copyFrom_52 : decode cX5_copyFrom 52 = .ok (.arraylength, 1) := by decide +kernel
theorem dX5_copyFrom_53 : decode cX5_copyFrom 53 = .ok (.invokestatic 40, 3) := by decide +kernel
theorem dX5_copyFrom_56 : decode cX5_copyFrom 56 = .ok (.aload_n 1, 1) := by decide +kernel
theorem dX5_copyFrom_57 : decode cX5_copyFrom 57 = .ok (.getfield 28, 3) := by decide +kernel
theorem dX5_copyFrom_60 : decode cX5_copyFrom 60 = .ok (.iconst 0, 1) := by decide +kernel
theorem dX5_copyFrom_61 : decode cX5_copyFrom 61 = .ok (.aload_n 0, 1) := by decide +kernel
theorem dX5_copyFrom_62 : decode cX5_copyFrom 62 = .ok (.getfield 28, 3) := by decide +kernel
theorem dX5_copyFrom_65 : decode cX5_copyFrom 65 = .ok (.iconst 0, 1) := by decide +kernel
theorem dX5_copyFrom_66 : decode cX5_copyFrom 66 = .ok (.aload_n 0, 1) := by decide +kernel
theorem dX5_copyFrom_67 : decode cX5_copyFrom 67 = .ok (.getfield 28, 3) := by decide +kernel
theorem dX5_copyFrom_70 : decode cX5_copyFrom 70 = .ok (.arraylength, 1) := by decide +kernel
theorem dX5_copyFrom_71 : decode cX5_copyFrom 71 = .ok (.invokestatic 40, 3) := by decide +kernel
theorem dX5_copyFrom_74 : decode cX5_copyFrom 74 = .ok (.aload_n 1, 1) := by decide +kernel
theorem dX5_copyFrom_75 : decode cX5_copyFrom 75 = .ok (.getfield 31, 3) := by decide +kernel
theorem dX5_copyFrom_78 : decode cX5_copyFrom 78 = .ok (.iconst 0, 1) := by decide +kernel
theorem dX5_copyFrom_79 : decode cX5_copyFrom 79 = .ok (.aload_n 0, 1) := by decide +kernel
theorem dX5_copyFrom_80 : decode cX5_copyFrom 80 = .ok (.getfield 31, 3) := by decide +kernel
theorem dX5_copyFrom_83 : decode cX5_copyFrom 83 = .ok (.iconst 0, 1) := by decide +kernel
theorem dX5_copyFrom_84 : decode cX5_copyFrom 84 = .ok (.aload_n 0, 1) := by decide +kernel
theorem dX5_copyFrom_85 : decode cX5_copyFrom 85 = .ok (.getfield 31, 3) := by decide +kernel
theorem dX5_copyFrom_88 : decode cX5_copyFrom 88 = .ok (.arraylength, 1) := by decide +kernel
theorem dX5_copyFrom_89 : decode cX5_copyFrom 89 = .ok (.invokestatic 40, 3) := by decide +kernel
theorem dX5_copyFrom_92 : decode cX5_copyFrom 92 = .ok (.return_, 1) := by decide +kernel
theorem dX5_pressOf_0 : decode cX5_pressOf 0 = .ok (.aload_n 0, 1) := by decide +kernel
theorem dX5_pressOf_1 : decode cX5_pressOf 1 = .ok (.getfield 25, 3) := by decide +kernel
theorem dX5_pressOf_4 : decode cX5_pressOf 4 = .ok (.iload_n 1, 1) := by decide +kernel
theorem dX5_pressOf_5 : decode cX5_pressOf 5 = .ok (.bipush 100, 2) := by decide +kernel
theorem dX5_pressOf_7 : decode cX5_pressOf 7 = .ok (.imul, 1) := by decide +kernel
theorem dX5_pressOf_8 : decode cX5_pressOf 8 = .ok (.iload_n 2, 1) := by decide +kernel
theorem dX5_pressOf_9 : decode cX5_pressOf 9 = .ok (.iadd, 1) := by decide +kernel
theorem dX5_pressOf_10 : decode cX5_pressOf 10 = .ok (.iaload, 1) := by decide +kernel
theorem dX5_pressOf_11 : decode cX5_pressOf 11 = .ok (.ireturn, 1) := by decide +kernel
theorem dX5_setPress_0 : decode cX5_setPress 0 = .ok (.aload_n 0, 1) := by decide +kernel
theorem dX5_setPress_1 : decode cX5_setPress 1 = .ok (.getfield 25, 3) := by decide +kernel
theorem dX5_setPress_4 : decode cX5_setPress 4 = .ok (.iload_n 1, 1) := by decide +kernel
theorem dX5_setPress_5 : decode cX5_setPress 5 = .ok (.bipush 100, 2) := by decide +kernel
theorem dX5_setPress_7 : decode cX5_setPress 7 = .ok (.imul, 1) := by decide +kernel
theorem dX5_setPress_8 : decode cX5_setPress 8 = .ok (.iload_n 2, 1) := by decide +kernel
theorem dX5_setPress_9 : decode cX5_setPress 9 = .ok (.iadd, 1) := by decide +kernel
theorem dX5_setPress_10 : decode cX5_setPress 10 = .ok (.iload_n 3, 1) := by decide +kernel
theorem dX5_setPress_11 : decode cX5_setPress 11 = .ok (.iastore, 1) := by decide +kernel
theorem dX5_setPress_12 : decode cX5_setPress 12 = .ok (.return_, 1) := by decide +kernel
theorem dX5_isLeft_0 : decode cX5_isLeft 0 = .ok (.iload_n 2, 1) := by decide +kernel
theorem dX5_isLeft_1 : decode cX5_isLeft 1 = .ok (.aload_n 0, 1) := by decide +kernel
theorem dX5_isLeft_2 : decode cX5_isLeft 2 = .ok (.getfield 28, 3) := by decide +kernel
theorem dX5_isLeft_5 : decode cX5_isLeft 5 = .ok (.iload_n 1, 1) := by decide +kernel
theorem dX5_isLeft_6 : decode cX5_isLeft 6 = .ok (.iaload, 1) := by decide +kernel
theorem dX5_isLeft_7 : decode cX5_isLeft 7 = .ok (.if_icmp .lt 17, 3) := by decide +kernel
theorem dX5_isLeft_10 : decode cX5_isLeft 10 = .ok (.iload_n 2, 1) := by decide +kernel
theorem dX5_isLeft_11 : decode cX5_isLeft 11 = .ok (.aload_n 0, 1) := by decide +kernel
theorem dX5_isLeft_12 : decode cX5_isLeft 12 = .ok (.getfield 31, 3) := by decide +kernel
theorem dX5_isLeft_15 : decode cX5_isLeft 15 = .ok (.iload_n 1, 1) := by decide +kernel
theorem dX5_isLeft_16 : decode cX5_isLeft 16 = .ok (.iaload, 1) := by decide +kernel
theorem dX5_isLeft_17 : decode cX5_isLeft 17 = .ok (.if_icmp .ge 7, 3) := by decide +kernel
theorem dX5_isLeft_20 : decode cX5_isLeft 20 = .ok (.iconst 1, 1) := by decide +kernel
theorem dX5_isLeft_21 : decode cX5_isLeft 21 = .ok (.goto 4, 3) := by decide +kernel
theorem dX5_isLeft_24 : decode cX5_isLeft 24 = .ok (.iconst 0, 1) := by decide +kernel
theorem dX5_isLeft_25 : decode cX5_isLeft 25 = .ok (.ireturn, 1) := by decide +kernel
set_option maxRecDepth 20000 in
theorem ggX5_fillPresses_X5_pressOf : GoodIn wsX5_fillPresses wsX5_pressOf := goodIn_r _ [6, 7, 8, 9, 10, 11, 12, 13, 14] (by decide +kernel) (by decide +kernel)
set_option maxRecDepth 20000 in
theorem gX5_fillPresses_X5_pressOf : GoodIn wsX5_fillPresses (wsV RX5 46 RX5 yX5_pressOf wsX5_pressOf) := goodIn_app (goodIn_of _ (by decide +kernel)) ggX5_fillPresses_X5_pressOf
theorem dX5_fillPresses_0 : decode cX5_fillPresses 0 = .ok (.iconst 0, 1) := by decide +kernel
theorem dX5_fillPresses_1 : decode cX5_fillPresses 1 = .ok (.istore_n 3, 1) := by decide +kernel
theorem dX5_fillPresses_2 : decode cX5_fillPresses 2 = .ok (.iload_n 3, 1) := by decide +kernel
theorem dX5_fillPresses_3 : decode cX5_fillPresses 3 = .ok (.aload_n 0, 1) := by decide +kernel
theorem dX5_fillPresses_4 : decode cX5_fillPresses 4 = .ok (.getfield 18, 3) := by decide +kernel
theorem dX5_fillPresses_7 : decode cX5_fillPresses 7 = .ok (.if_icmp .ge 18, 3) := by decide +kernel
theorem dX5_fillPresses_10 : decode cX5_fillPresses 10 = .ok (.aload_n 2, 1) := by decide +kernel
theorem dX5_fillPresses_11 : decode cX5_fillPresses 11 = .ok (.iload_n 3, 1) := by decide +kernel
theorem dX5_fillPresses_12 : decode cX5_fillPresses 12 = .ok (.aload_n 0, 1) := by decide +kernel
theorem dX5_fillPresses_13 : decode cX5_fillPresses 13 = .ok (.iload_n 3, 1) := by decide +kernel
theorem dX5_fillPresses_14 : decode cX5_fillPresses 14 = .ok (.iload_n 1, 1) := by decide +kernel
theorem dX5_fillPresses_15 : decode cX5_fillPresses 15 = .ok (.invokevirtual 46, 3) := by decide +kernel
theorem dX5_fillPresses_18 : decode cX5_fillPresses 18 = .ok (.iastore, 1) := by decide +kernel
theorem dX5_fillPresses_19 : decode cX5_fillPresses 19 = .ok (.iinc 3 1, 3) := by decide +kernel
theorem dX5_fillPresses_22 : decode cX5_fillPresses 22 = .ok (.goto (-20), 3) := by decide +kernel
theorem dX5_fillPresses_25 : decode cX5_fillPresses 25 = .ok (.return_, 1) := by decide +kernel
theorem dX5_pressed_0 : decode cX5_pressed 0 = .ok (.iconst 0, 1) := by decide +kernel
theorem dX5_pressed_1 : decode cX5_pressed 1 = .ok (.istore_n 1, 1) := by decide +kernel
theorem dX5_pressed_2 : decode cX5_pressed 2 = .ok (.iconst 0, 1) := by decide +kernel
theorem dX5_pressed_3 : decode cX5_pressed 3 = .ok (.istore_n 2, 1) := by decide +kernel
theorem dX5_pressed_4 : decode cX5_pressed 4 = .ok (.iload_n 2, 1) := by decide +kernel
theorem dX5_pressed_5 : decode cX5_pressed 5 = .ok (.aload_n 0, 1) := by decide +kernel
theorem dX5_pressed_6 : decode cX5_pressed 6 = .ok (.getfield 18, 3) := by decide +kernel
theorem dX5_pressed_9 : decode cX5_pressed 9 = .ok (.bipush 100, 2) := by decide +kernel
theorem dX5_pressed_11 : decode cX5_pressed 11 = .ok (.imul, 1) := by decide +kernel
theorem dX5_pressed_12 : decode cX5_pressed 12 = .ok (.if_icmp .ge 21, 3) := by decide +kernel
theorem dX5_pressed_15 : decode cX5_pressed 15 = .ok (.aload_n 0, 1) := by decide +kernel
theorem dX5_pressed_16 : decode cX5_pressed 16 = .ok (.getfield 25, 3) := by decide +kernel
theorem dX5_pressed_19 : decode cX5_pressed 19 = .ok (.iload_n 2, 1) := by decide +kernel
theorem dX5_pressed_20 : decode cX5_pressed 20 = .ok (.iaload, 1) := by decide +kernel
theorem dX5_pressed_21 : decode cX5_pressed 21 = .ok (.ifCond .eq 6, 3) := by decide +kernel
theorem dX5_pressed_24 : decode cX5_pressed 24 = .ok (.iinc 1 1, 3) := by decide +kernel
theorem dX5_pressed_27 : decode cX5_pressed 27 = .ok (.iinc 2 1, 3) := by decide +kernel
theorem dX5_pressed_30 : decode cX5_pressed 30 = .ok (.goto (-26), 3) := by decide +kernel
theorem dX5_pressed_33 : decode cX5_pressed 33 = .ok (.iload_n 1, 1) := by decide +kernel
theorem dX5_pressed_34 : decode cX5_pressed 34 = .ok (.ireturn, 1) := by decide +kernel
theorem dX5_leftTicks_0 : decode cX5_leftTicks 0 = .ok (.iconst 0, 1) := by decide +kernel
theorem dX5_leftTicks_1 : decode cX5_leftTicks 1 = .ok (.istore_n 1, 1) := by decide +kernel
theorem dX5_leftTicks_2 : decode cX5_leftTicks 2 = .ok (.iconst 0, 1) := by decide +kernel
theorem dX5_leftTicks_3 : decode cX5_leftTicks 3 = .ok (.istore_n 2, 1) := by decide +kernel
theorem dX5_leftTicks_4 : decode cX5_leftTicks 4 = .ok (.iload_n 2, 1) := by decide +kernel
theorem dX5_leftTicks_5 : decode cX5_leftTicks 5 = .ok (.aload_n 0, 1) := by decide +kernel
theorem dX5_leftTicks_6 : decode cX5_leftTicks 6 = .ok (.getfield 18, 3) := by decide +kernel
theorem dX5_leftTicks_9 : decode cX5_leftTicks 9 = .ok (.if_icmp .ge 25, 3) := by decide +kernel
theorem dX5_leftTicks_12 : decode cX5_leftTicks 12 = .ok (.iload_n 1, 1) := by decide +kernel
theorem dX5_leftTicks_13 : decode cX5_leftTicks 13 = .ok (.aload_n 0, 1) := by decide +kernel
theorem dX5_leftTicks_14 : decode cX5_leftTicks 14 = .ok (.getfield 31, 3) := by decide +kernel
theorem dX5_leftTicks_17 : decode cX5_leftTicks 17 = .ok (.iload_n 2, 1) := by decide +kernel
theorem dX5_leftTicks_18 : decode cX5_leftTicks 18 = .ok (.iaload, 1) := by decide +kernel
theorem dX5_leftTicks_19 : decode cX5_leftTicks 19 = .ok (.aload_n 0, 1) := by decide +kernel
theorem dX5_leftTicks_20 : decode cX5_leftTicks 20 = .ok (.getfield 28, 3) := by decide +kernel
theorem dX5_leftTicks_23 : decode cX5_leftTicks 23 = .ok (.iload_n 2, 1) := by decide +kernel
theorem dX5_leftTicks_24 : decode cX5_leftTicks 24 = .ok (.iaload, 1) := by decide +kernel
theorem dX5_leftTicks_25 : decode cX5_leftTicks 25 = .ok (.isub, 1) := by decide +kernel
theorem dX5_leftTicks_26 : decode cX5_leftTicks 26 = .ok (.iadd, 1) := by decide +kernel
theorem dX5_leftTicks_27 : decode cX5_leftTicks 27 = .ok (.istore_n 1, 1) := by decide +kernel
theorem dX5_leftTicks_28 : decode cX5_leftTicks 28 = .ok (.iinc 2 1, 3) := by decide +kernel
theorem dX5_leftTicks_31 : decode cX5_leftTicks 31 = .ok (.goto (-27), 3) := by decide +kernel
theorem dX5_leftTicks_34 : decode cX5_leftTicks 34 = .ok (.iload_n 1, 1) := by decide +kernel
theorem dX5_leftTicks_35 : decode cX5_leftTicks 35 = .ok (.ireturn, 1) := by decide +kernel
theorem dX6_init_0 : decode cX6_init 0 = .ok (.aload_n 0, 1) := by decide +kernel
theorem dX6_init_1 : decode cX6_init 1 = .ok (.invokespecial 3, 3) := by decide +kernel
theorem dX6_init_4 : decode cX6_init 4 = .ok (.aload_n 0, 1) := by decide +kernel
theorem dX6_init_5 : decode cX6_init 5 = .ok (.sipush 1300, 3) := by decide +kernel
theorem dX6_init_8 : decode cX6_init 8 = .ok (.newarray .int, 2) := by decide +kernel
theorem dX6_init_10 : decode cX6_init 10 = .ok (.putfield 9, 3) := by decide +kernel
theorem dX6_init_13 : decode cX6_init 13 = .ok (.aload_n 0, 1) := by decide +kernel
theorem dX6_init_14 : decode cX6_init 14 = .ok (.iconst 0, 1) := by decide +kernel
theorem dX6_init_15 : decode cX6_init 15 = .ok (.putfield 15, 3) := by decide +kernel
theorem dX6_init_18 : decode cX6_init 18 = .ok (.return_, 1) := by decide +kernel
theorem dX6_keepBelow_0 : decode cX6_keepBelow 0 = .ok (.aload_n 0, 1) := by decide +kernel
theorem dX6_keepBelow_1 : decode cX6_keepBelow 1 = .ok (.aload_n 0, 1) := by decide +kernel
theorem dX6_keepBelow_2 : decode cX6_keepBelow 2 = .ok (.getfield 15, 3) := by decide +kernel
theorem dX6_keepBelow_5 : decode cX6_keepBelow 5 = .ok (.iload_n 1, 1) := by decide +kernel
theorem dX6_keepBelow_6 : decode cX6_keepBelow 6 = .ok (.invokestatic 19, 3) := by decide +kernel
theorem dX6_keepBelow_9 : decode cX6_keepBelow 9 = .ok (.putfield 15, 3) := by decide +kernel
theorem dX6_keepBelow_12 : decode cX6_keepBelow 12 = .ok (.return_, 1) := by decide +kernel
theorem dX6_at_0 : decode cX6_at 0 = .ok (.aload_n 0, 1) := by decide +kernel
theorem dX6_at_1 : decode cX6_at 1 = .ok (.getfield 9, 3) := by decide +kernel
theorem dX6_at_4 : decode cX6_at 4 = .ok (.iload_n 1, 1) := by decide +kernel
theorem dX6_at_5 : decode cX6_at 5 = .ok (.bipush 13, 2) := by decide +kernel
theorem dX6_at_7 : decode cX6_at 7 = .ok (.imul, 1) := by decide +kernel
theorem dX6_at_8 : decode cX6_at 8 = .ok (.iload_n 2, 1) := by decide +kernel
theorem dX6_at_9 : decode cX6_at 9 = .ok (.iadd, 1) := by decide +kernel
theorem dX6_at_10 : decode cX6_at 10 = .ok (.iaload, 1) := by decide +kernel
theorem dX6_at_11 : decode cX6_at 11 = .ok (.ireturn, 1) := by decide +kernel
theorem dX6_save_0 : decode cX6_save 0 = .ok (.aload_n 2, 1) := by decide +kernel
theorem dX6_save_1 : decode cX6_save 1 = .ok (.getfield 25, 3) := by decide +kernel
theorem dX6_save_4 : decode cX6_save 4 = .ok (.iconst 0, 1) := by decide +kernel
theorem dX6_save_5 : decode cX6_save 5 = .ok (.aload_n 0, 1) := by decide +kernel
theorem dX6_save_6 : decode cX6_save 6 = .ok (.getfield 9, 3) := by decide +kernel
theorem dX6_save_9 : decode cX6_save 9 = .ok (.iload_n 1, 1) := by decide +kernel
theorem dX6_save_10 : decode cX6_save 10 = .ok (.bipush 13, 2) := by decide +kernel
theorem dX6_save_12 : decode cX6_save 12 = .ok (.imul, 1) := by decide +kernel
theorem dX6_save_13 : decode cX6_save 13 = .ok (.bipush 13, 2) := by decide +kernel
theorem dX6_save_15 : decode cX6_save 15 = .ok (.invokestatic 30, 3) := by decide +kernel
theorem dX6_save_18 : decode cX6_save 18 = .ok (.return_, 1) := by decide +kernel
theorem dX6_load_0 : decode cX6_load 0 = .ok (.aload_n 0, 1) := by decide +kernel
theorem dX6_load_1 : decode cX6_load 1 = .ok (.getfield 9, 3) := by decide +kernel
theorem dX6_load_4 : decode cX6_load 4 = .ok (.iload_n 1, 1) := by decide +kernel
theorem dX6_load_5 : decode cX6_load 5 = .ok (.bipush 13, 2) := by decide +kernel
theorem dX6_load_7 : decode cX6_load 7 = .ok (.imul, 1) := by decide +kernel
theorem dX6_load_8 : decode cX6_load 8 = .ok (.aload_n 2, 1) := by decide +kernel
theorem dX6_load_9 : decode cX6_load 9 = .ok (.getfield 25, 3) := by decide +kernel
theorem dX6_load_12 : decode cX6_load 12 = .ok (.iconst 0, 1) := by decide +kernel
theorem dX6_load_13 : decode cX6_load 13 = .ok (.bipush 13, 2) := by decide +kernel
theorem dX6_load_15 : decode cX6_load 15 = .ok (.invokestatic 30, 3) := by decide +kernel
theorem dX6_load_18 : decode cX6_load 18 = .ok (.return_, 1) := by decide +kernel
theorem dX6_isLike_0 : decode cX6_isLike 0 = .ok (.iload_n 2, 1) := by decide +kernel
theorem dX6_isLike_1 : decode cX6_isLike 1 = .ok (.bipush 13, 2) := by decide +kernel
theorem dX6_isLike_3 : decode cX6_isLike 3 = .ok (.imul, 1) := by decide +kernel
theorem dX6_isLike_4 : decode cX6_isLike 4 = .ok (.istore_n 3, 1) := by decide +kernel
theorem dX6_isLike_5 : decode cX6_isLike 5 = .ok (.iload_n 3, 1) := by decide +kernel
theorem dX6_isLike_6 : decode cX6_isLike 6 = .ok (.iload_n 2, 1) := by decide +kernel
theorem dX6_isLike_7 : decode cX6_isLike 7 = .ok (.bipush 13, 2) := by decide +kernel
theorem dX6_isLike_9 : decode cX6_isLike 9 = .ok (.imul, 1) := by decide +kernel
theorem dX6_isLike_10 : decode cX6_isLike 10 = .ok (.bipush 13, 2) := by decide +kernel
theorem dX6_isLike_12 : decode cX6_isLike 12 = .ok (.iadd, 1) := by decide +kernel
theorem dX6_isLike_13 : decode cX6_isLike 13 = .ok (.if_icmp .ge 26, 3) := by decide +kernel
theorem dX6_isLike_16 : decode cX6_isLike 16 = .ok (.aload_n 0, 1) := by decide +kernel
theorem dX6_isLike_17 : decode cX6_isLike 17 = .ok (.getfield 9, 3) := by decide +kernel
theorem dX6_isLike_20 : decode cX6_isLike 20 = .ok (.iload_n 3, 1) := by decide +kernel
theorem dX6_isLike_21 : decode cX6_isLike 21 = .ok (.iaload, 1) := by decide +kernel
theorem dX6_isLike_22 : decode cX6_isLike 22 = .ok (.aload_n 1, 1) := by decide +kernel
theorem dX6_isLike_23 : decode cX6_isLike 23 = .ok (.getfield 9, 3) := by decide +kernel
theorem dX6_isLike_26 : decode cX6_isLike 26 = .ok (.iload_n 3, 1) := by decide +kernel
theorem dX6_isLike_27 : decode cX6_isLike 27 = .ok (.iaload, 1) := by decide +kernel
theorem dX6_isLike_28 : decode cX6_isLike 28 = .ok (.if_icmp .eq 5, 3) := by decide +kernel
theorem dX6_isLike_31 : decode cX6_isLike 31 = .ok (.iconst 0, 1) := by decide +kernel
theorem dX6_isLike_32 : decode cX6_isLike 32 = .ok (.ireturn, 1) := by decide +kernel
theorem dX6_isLike_33 : decode cX6_isLike 33 = .ok (.iinc 3 1, 3) := by decide +kernel
theorem dX6_isLike_36 : decode cX6_isLike 36 = .ok (.goto (-31), 3) := by decide +kernel
theorem dX6_isLike_39 : decode cX6_isLike 39 = .ok (.iconst 1, 1) := by decide +kernel
theorem dX6_isLike_40 : decode cX6_isLike 40 = .ok (.ireturn, 1) := by decide +kernel
set_option maxRecDepth 20000 in
theorem ggX7_init_X5_init : GoodIn wsX7_init wsX5_init := goodIn_r _ [40, 41, 2, 3, 42, 43, 44, 22, 45, 46, 47, 48, 87, 88, 89, 90, 91, 92, 93] (by decide +kernel) (by decide +kernel)
set_option maxRecDepth 20000 in
theorem gX7_init_X5_init_n9 : GoodIn wsX7_init (wsX5_init) := ggX7_init_X5_init
set_option maxRecDepth 20000 in
theorem ggX7_init_X4_init : GoodIn wsX7_init wsX4_init := goodIn_r _ [51, 52, 2, 3, 22, 53, 37, 54, 55, 106, 107, 108] (by decide +kernel) (by decide +kernel)
set_option maxRecDepth 20000 in
theorem gX7_init_X4_init : GoodIn wsX7_init (wsX4_init) := ggX7_init_X4_init
set_option maxRecDepth 20000 in
theorem ggX7_init_X6_init : GoodIn wsX7_init wsX6_init := goodIn_r _ [57, 58, 2, 3, 22, 59, 60, 109, 110] (by decide +kernel) (by decide +kernel)
set_option maxRecDepth 20000 in
theorem gX7_init_X6_init_n27 : GoodIn wsX7_init (wsX6_init) := ggX7_init_X6_init
set_option maxRecDepth 20000 in
theorem ggX7_init_X0_init : GoodIn wsX7_init wsX0_init := goodIn_r _ [62, 63, 2, 3, 22, 64, 111] (by decide +kernel) (by decide +kernel)
set_option maxRecDepth 20000 in
theorem gX7_init_X0_init_n37 : GoodIn wsX7_init (wsX0_init) := ggX7_init_X0_init
set_option maxRecDepth 20000 in
theorem ggX7_init_X3_init : GoodIn wsX7_init wsX3_init := goodIn_r _ [66, 67, 2, 3, 22, 68, 112] (by decide +kernel) (by decide +kernel)
set_option maxRecDepth 20000 in
theorem gX7_init_X3_init_n51 : GoodIn wsX7_init (wsX3_init) := ggX7_init_X3_init
set_option maxRecDepth 20000 in
theorem ggX7_init_X1_init : GoodIn wsX7_init wsX1_init := goodIn_r _ [70, 71, 2, 3, 72, 22, 73, 74, 75, 76, 77, 78, 113, 114, 115, 116, 117, 118, 119] (by decide +kernel) (by decide +kernel)
set_option maxRecDepth 20000 in
theorem gX7_init_X1_init_n58 : GoodIn wsX7_init (wsX1_init) := ggX7_init_X1_init
set_option maxRecDepth 20000 in
theorem ggX7_init_X2_init : GoodIn wsX7_init wsX2_init := goodIn_r _ [80, 81, 2, 3, 82, 83, 84, 85, 86, 120, 121, 122, 123] (by decide +kernel) (by decide +kernel)
set_option maxRecDepth 20000 in
theorem gX7_init_X2_init_n65 : GoodIn wsX7_init (wsX2_init) := ggX7_init_X2_init
