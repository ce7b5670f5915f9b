theorem dX0_init_0 : decode cX0_init 0 = .ok (.aload_n 0, 1) := by decide +kernel
theorem dX0_init_1 : decode cX0_init 1 = .ok (.invokespecial 3, 3) := by decide +kernel
theorem dX0_init_4 : decode cX0_init 4 = .ok (.aload_n 0, 1) := by decide +kernel
theorem dX0_init_5 : decode cX0_init 5 = .ok (.iconst 0, 1) := by decide +kernel
theorem dX0_init_6 : decode cX0_init 6 = .ok (.putfield 9, 3) := by decide +kernel
theorem dX0_init_9 : decode cX0_init 9 = .ok (.aload_n 0, 1) := by decide +kernel
theorem dX0_init_10 : decode cX0_init 10 = .ok (.iload_n 1, 1) := by decide +kernel
theorem dX0_init_11 : decode cX0_init 11 = .ok (.putfield 15, 3) := by decide +kernel
theorem dX0_init_14 : decode cX0_init 14 = .ok (.aload_n 0, 1) := by decide +kernel
theorem dX0_init_15 : decode cX0_init 15 = .ok (.iload_n 2, 1) := by decide +kernel
theorem dX0_init_16 : decode cX0_init 16 = .ok (.putfield 18, 3) := by decide +kernel
theorem dX0_init_19 : decode cX0_init 19 = .ok (.aload_n 0, 1) := by decide +kernel
theorem dX0_init_20 : decode cX0_init 20 = .ok (.iload_n 3, 1) := by decide +kernel
theorem dX0_init_21 : decode cX0_init 21 = .ok (.putfield 21, 3) := by decide +kernel
theorem dX0_init_24 : decode cX0_init 24 = .ok (.return_, 1) := by decide +kernel
theorem dX0_isOut_0 : decode cX0_isOut 0 = .ok (.aload_n 0, 1) := by decide +kernel
theorem dX0_isOut_1 : decode cX0_isOut 1 = .ok (.getfield 9, 3) := by decide +kernel
theorem dX0_isOut_4 : decode cX0_isOut 4 = .ok (.sipush 239, 3) := by decide +kernel
theorem dX0_isOut_7 : decode cX0_isOut 7 = .ok (.if_icmp .le 7, 3) := by decide +kernel
theorem dX0_isOut_10 : decode cX0_isOut 10 = .ok (.iconst 1, 1) := by decide +kernel
theorem dX0_isOut_11 : decode cX0_isOut 11 = .ok (.goto 4, 3) := by decide +kernel
theorem dX0_isOut_14 : decode cX0_isOut 14 = .ok (.iconst 0, 1) := by decide +kernel
theorem dX0_isOut_15 : decode cX0_isOut 15 = .ok (.ireturn, 1) := by decide +kernel
theorem dX0_fall_0 : decode cX0_fall 0 = .ok (.aload_n 0, 1) := by decide +kernel
theorem dX0_fall_1 : decode cX0_fall 1 = .ok (.bipush 30, 2) := by decide +kernel
theorem dX0_fall_3 : decode cX0_fall 3 = .ok (.aload_n 0, 1) := by decide +kernel
theorem dX0_fall_4 : decode cX0_fall 4 = .ok (.getfield 21, 3) := by decide +kernel
theorem dX0_fall_7 : decode cX0_fall 7 = .ok (.iconst 2, 1) := by decide +kernel
theorem dX0_fall_8 : decode cX0_fall 8 = .ok (.iadd, 1) := by decide +kernel
theorem dX0_fall_9 : decode cX0_fall 9 = .ok (.invokestatic 24, 3) := by decide +kernel
theorem dX0_fall_12 : decode cX0_fall 12 = .ok (.putfield 21, 3) := by decide +kernel
theorem dX0_fall_15 : decode cX0_fall 15 = .ok (.return_, 1) := by decide +kernel
set_option maxRecDepth 20000 in
theorem ggX0_moveAcross_X7_bumperOver : GoodIn wsX0_moveAcross wsX7_bumperOver := goodIn_r _ [10, 11, 12, 13, 14, 15, 16, 17, 18, 19, 20, 21, 22, 23, 24, 25, 26, 27, 28, 29, 30, 31, 32, 33, 34, 35, 36, 37, 38, 39, 40, 41, 42, 43, 44, 68, 69, 70, 71, 72, 73, 74, 75, 76, 77, 78, 79, 80, 81, 82, 83, 84, 85] (by decide +kernel) (by decide +kernel)
set_option maxRecDepth 20000 in
theorem gX0_moveAcross_X7_bumperOver : GoodIn wsX0_moveAcross (wsV RX0 30 RX7 yX7_bumperOver wsX7_bumperOver) := goodIn_app (goodIn_of _ (by decide +kernel)) ggX0_moveAcross_X7_bumperOver
set_option maxRecDepth 20000 in
theorem ggX0_moveAcross_Jx4a65c_size_8abf5 : GoodIn wsX0_moveAcross wsJx4a65c_size_8abf5 := goodIn_r _ [17, 18, 76, 77, 78] (by decide +kernel) (by decide +kernel)
set_option maxRecDepth 20000 in
theorem gX0_moveAcross_Jx4a65c_size_8abf5 : GoodIn wsX0_moveAcross (wsV RX0 39 RJx4a65c yJx4a65c_size_8abf5 wsJx4a65c_size_8abf5) := goodIn_app (goodIn_of _ (by decide +kernel)) ggX0_moveAcross_Jx4a65c_size_8abf5
set_option maxRecDepth 20000 in
theorem ggX0_moveAcross_Jx4a65c_get_915e3 : GoodIn wsX0_moveAcross wsJx4a65c_get_915e3 := goodIn_r _ [22, 18, 23, 24, 25, 26, 27, 28, 29, 30, 31, 32, 33, 16, 34, 35, 76, 77, 78] (by decide +kernel) (by decide +kernel)
set_option maxRecDepth 20000 in
theorem gX0_moveAcross_Jx4a65c_get_915e3 : GoodIn wsX0_moveAcross (wsV RX0 45 RJx4a65c yJx4a65c_get_915e3 wsJx4a65c_get_915e3) := goodIn_app (goodIn_of _ (by decide +kernel)) ggX0_moveAcross_Jx4a65c_get_915e3
set_option maxRecDepth 20000 in
theorem ggX0_moveAcross_X1_speedBehindBump : GoodIn wsX0_moveAcross wsX1_speedBehindBump := goodIn_r _ [50, 51, 52, 53, 54, 55, 56, 57, 58, 59, 60, 61, 39, 62, 63, 79, 80, 81, 82, 83, 84, 85] (by decide +kernel) (by decide +kernel)
set_option maxRecDepth 20000 in
theorem gX0_moveAcross_X1_speedBehindBump : GoodIn wsX0_moveAcross (wsV RX0 51 RX1 yX1_speedBehindBump wsX1_speedBehindBump) := goodIn_app (goodIn_of _ (by decide +kernel)) ggX0_moveAcross_X1_speedBehindBump
theorem dX0_moveAcross_0 : decode cX0_moveAcross 0 = .ok (.aload_n 0, 1) := by decide +kernel
theorem dX0_moveAcross_1 : decode cX0_moveAcross 1 = .ok (.getfield 15, 3) := by decide +kernel
theorem dX0_moveAcross_4 : decode cX0_moveAcross 4 = .ok (.istore_n 2, 1) := by decide +kernel
theorem dX0_moveAcross_5 : decode cX0_moveAcross 5 = .ok (.aload_n 0, 1) := by decide +kernel
theorem dX0_moveAcross_6 : decode cX0_moveAcross 6 = .ok (.dup, 1) := by decide +kernel
theorem dX0_moveAcross_7 : decode cX0_moveAcross 7 = .ok (.getfield 15, 3) := by decide +kernel
theorem dX0_moveAcross_10 : decode cX0_moveAcross 10 = .ok (.aload_n 0, 1) := by decide +kernel
theorem dX0_moveAcross_11 : decode cX0_moveAcross 11 = .ok (.getfield 18, 3) := by decide +kernel
theorem dX0_moveAcross_14 : decode cX0_moveAcross 14 = .ok (.iadd, 1) := by decide +kernel
theorem dX0_moveAcross_15 : decode cX0_moveAcross 15 = .ok (.putfield 15, 3) := by decide +kernel
theorem dX0_moveAcross_18 : decode cX0_moveAcross 18 = .ok (.aload_n 0, 1) := by decide +kernel
theorem dX0_moveAcross_19 : decode cX0_moveAcross 19 = .ok (.getfield 15, 3) := by decide +kernel
theorem dX0_moveAcross_22 : decode cX0_moveAcross 22 = .ok (.ifCond .lt 13, 3) := by decide +kernel
theorem dX0_moveAcross_25 : decode cX0_moveAcross 25 = .ok (.aload_n 0, 1) := by decide +kernel
theorem dX0_moveAcross_26 : decode cX0_moveAcross 26 = .ok (.getfield 15, 3) := by decide +kernel
theorem dX0_moveAcross_29 : decode cX0_moveAcross 29 = .ok (.sipush 159, 3) := by decide +kernel
theorem dX0_moveAcross_32 : decode cX0_moveAcross 32 = .ok (.if_icmp .le 39, 3) := by decide +kernel
theorem dX0_moveAcross_35 : decode cX0_moveAcross 35 = .ok (.aload_n 0, 1) := by decide +kernel
theorem dX0_moveAcross_36 : decode cX0_moveAcross 36 = .ok (.aload_n 0, 1) := by decide +kernel
theorem dX0_moveAcross_37 : decode cX0_moveAcross 37 = .ok (.getfield 15, 3) := by decide +kernel
theorem dX0_moveAcross_40 : decode cX0_moveAcross 40 = .ok (.ifCond .ge 11, 3) := by decide +kernel
theorem dX0_moveAcross_43 : decode cX0_moveAcross 43 = .ok (.aload_n 0, 1) := by decide +kernel
theorem dX0_moveAcross_44 : decode cX0_moveAcross 44 = .ok (.getfield 15, 3) := by decide +kernel
theorem dX0_moveAcross_47 : decode cX0_moveAcross 47 = .ok (.ineg, 1) := by decide +kernel
theorem dX0_moveAcross_48 : decode cX0_moveAcross 48 = .ok (.goto 11, 3) := by decide +kernel
theorem dX0_moveAcross_51 : decode cX0_moveAcross 51 = .ok (.sipush 318, 3) := by decide +kernel
theorem dX0_moveAcross_54 : decode cX0_moveAcross 54 = .ok (.aload_n 0, 1) := by decide +kernel
theorem dX0_moveAcross_55 : decode cX0_moveAcross 55 = .ok (.getfield 15, 3) := by decide +kernel
theorem dX0_moveAcross_58 : decode cX0_moveAcross 58 = .ok (.isub, 1) := by decide +kernel
theorem dX0_moveAcross_59 : decode cX0_moveAcross 59 = .ok (.putfield 15, 3) := by decide +kernel
theorem dX0_moveAcross_62 : decode cX0_moveAcross 62 = .ok (.aload_n 0, 1) := by decide +kernel
theorem dX0_moveAcross_63 : decode cX0_moveAcross 63 = .ok (.aload_n 0, 1) := by decide +kernel
theorem dX0_moveAcross_64 : decode cX0_moveAcross 64 = .ok (.getfield 18, 3) := by decide +kernel
theorem dX0_moveAcross_67 : decode cX0_moveAcross 67 = .ok (.ineg, 1) := by decide +kernel
theorem dX0_moveAcross_68 : decode cX0_moveAcross 68 = .ok (.putfield 18, 3) := by decide +kernel
theorem dX0_moveAcross_71 : decode cX0_moveAcross 71 = .ok (.aload_n 1, 1) := by decide +kernel
theorem dX0_moveAcross_72 : decode cX0_moveAcross 72 = .ok (.aload_n 0, 1) := by decide +kernel
theorem dX0_moveAcross_73 : decode cX0_moveAcross 73 = .ok (.getfield 15, 3) := by decide +kernel
theorem dX0_moveAcross_76 : decode cX0_moveAcross 76 = .ok (.aload_n 0, 1) := by decide +kernel
theorem dX0_moveAcross_77 : decode cX0_moveAcross 77 = .ok (.getfield 9, 3) := by decide +kernel
theorem dX0_moveAcross_80 : decode cX0_moveAcross 80 = .ok (.invokevirtual 30, 3) := by decide +kernel
theorem dX0_moveAcross_83 : decode cX0_moveAcross 83 = .ok (.istore_n 3, 1) := by decide +kernel
theorem dX0_moveAcross_84 : decode cX0_moveAcross 84 = .ok (.iload_n 3, 1) := by decide +kernel
theorem dX0_moveAcross_85 : decode cX0_moveAcross 85 = .ok (.ifCond .lt 41, 3) := by decide +kernel
theorem dX0_moveAcross_88 : decode cX0_moveAcross 88 = .ok (.iload_n 3, 1) := by decide +kernel
theorem dX0_moveAcross_89 : decode cX0_moveAcross 89 = .ok (.aload_n 1, 1) := by decide +kernel
theorem dX0_moveAcross_90 : decode cX0_moveAcross 90 = .ok (.getfield 35, 3) := by decide +kernel
theorem dX0_moveAcross_93 : decode cX0_moveAcross 93 = .ok (.invokevirtual 39, 3) := by decide +kernel
theorem dX0_moveAcross_96 : decode cX0_moveAcross 96 = .ok (.if_icmp .ge 30, 3) := by decide +kernel
theorem dX0_moveAcross_99 : decode cX0_moveAcross 99 = .ok (.aload_n 0, 1) := by decide +kernel
theorem dX0_moveAcross_100 : decode cX0_moveAcross 100 = .ok (.iload_n 2, 1) := by decide +kernel
theorem dX0_moveAcross_101 : decode cX0_moveAcross 101 = .ok (.putfield 15, 3) := by decide +kernel
theorem dX0_moveAcross_104 : decode cX0_moveAcross 104 = .ok (.aload_n 0, 1) := by decide +kernel
theorem dX0_moveAcross_105 : decode cX0_moveAcross 105 = .ok (.aload_n 1, 1) := by decide +kernel
theorem dX0_moveAcross_106 : decode cX0_moveAcross 106 = .ok (.getfield 35, 3) := by decide +kernel
theorem dX0_moveAcross_109 : decode cX0_moveAcross 109 = .ok (.iload_n 3, 1) := by decide +kernel
theorem dX0_moveAcross_110 : decode cX0_moveAcross 110 = .ok (.invokevirtual 45, 3) := by decide +kernel
theorem dX0_moveAcross_113 : decode cX0_moveAcross 113 = .ok (.checkcast 49, 3) := by decide +kernel
theorem dX0_moveAcross_116 : decode cX0_moveAcross 116 = .ok (.aload_n 0, 1) := by decide +kernel
theorem dX0_moveAcross_117 : decode cX0_moveAcross 117 = .ok (.getfield 18, 3) := by decide +kernel
theorem dX0_moveAcross_120 : decode cX0_moveAcross 120 = .ok (.invokevirtual 51, 3) := by decide +kernel
theorem dX0_moveAcross_123 : decode cX0_moveAcross 123 = .ok (.putfield 18, 3) := by decide +kernel
theorem dX0_moveAcross_126 : decode cX0_moveAcross 126 = .ok (.iload_n 3, 1) := by decide +kernel
theorem dX0_moveAcross_127 : decode cX0_moveAcross 127 = .ok (.ireturn, 1) := by decide +kernel
set_option maxRecDepth 20000 in
theorem ggX0_moveDownwards_X0_isOut : GoodIn wsX0_moveDownwards wsX0_isOut := goodIn_r _ [10, 1, 69, 70, 71, 72] (by decide +kernel) (by decide +kernel)
set_option maxRecDepth 20000 in
theorem gX0_moveDownwards_X0_isOut : GoodIn wsX0_moveDownwards (wsV RX0 55 RX0 yX0_isOut wsX0_isOut) := goodIn_app (goodIn_of _ (by decide +kernel)) ggX0_moveDownwards_X0_isOut
set_option maxRecDepth 20000 in
theorem ggX0_moveDownwards_X7_bumperOver : GoodIn wsX0_moveDownwards wsX7_bumperOver := goodIn_r _ [15, 16, 17, 18, 19, 20, 21, 22, 23, 24, 25, 26, 27, 28, 29, 30, 31, 32, 33, 34, 35, 36, 37, 38, 39, 40, 41, 42, 43, 44, 45, 46, 47, 48, 49, 73, 74, 75, 76, 77, 78, 79, 80, 81, 82, 83, 84, 85, 86, 87, 88, 89, 90] (by decide +kernel) (by decide +kernel)
set_option maxRecDepth 20000 in
theorem gX0_moveDownwards_X7_bumperOver : GoodIn wsX0_moveDownwards (wsV RX0 30 RX7 yX7_bumperOver wsX7_bumperOver) := goodIn_app (goodIn_of _ (by decide +kernel)) ggX0_moveDownwards_X7_bumperOver
set_option maxRecDepth 20000 in
theorem ggX0_moveDownwards_Jx4a65c_size_8abf5 : GoodIn wsX0_moveDownwards wsJx4a65c_size_8abf5 := goodIn_r _ [22, 23, 81, 82, 83] (by decide +kernel) (by decide +kernel)
set_option maxRecDepth 20000 in
theorem gX0_moveDownwards_Jx4a65c_size_8abf5 : GoodIn wsX0_moveDownwards (wsV RX0 39 RJx4a65c yJx4a65c_size_8abf5 wsJx4a65c_size_8abf5) := goodIn_app (goodIn_of _ (by decide +kernel)) ggX0_moveDownwards_Jx4a65c_size_8abf5
set_option maxRecDepth 20000 in
theorem ggX0_moveDownwards_Jx4a65c_get_915e3 : GoodIn wsX0_moveDownwards wsJx4a65c_get_915e3 := goodIn_r _ [27, 23, 28, 29, 30, 31, 32, 33, 34, 35, 36, 37, 38, 21, 39, 40, 81, 82, 83] (by decide +kernel) (by decide +kernel)
set_option maxRecDepth 20000 in
theorem gX0_moveDownwards_Jx4a65c_get_915e3 : GoodIn wsX0_moveDownwards (wsV RX0 45 RJx4a65c yJx4a65c_get_915e3 wsJx4a65c_get_915e3) := goodIn_app (goodIn_of _ (by decide +kernel)) ggX0_moveDownwards_Jx4a65c_get_915e3
set_option maxRecDepth 20000 in
theorem ggX0_moveDownwards_X1_speedBehindBump : GoodIn wsX0_moveDownwards wsX1_speedBehindBump := goodIn_r _ [55, 56, 57, 58, 59, 60, 61, 62, 63, 64, 65, 66, 44, 67, 68, 84, 85, 86, 87, 88, 89, 90] (by decide +kernel) (by decide +kernel)
set_option maxRecDepth 20000 in
theorem gX0_moveDownwards_X1_speedBehindBump : GoodIn wsX0_moveDownwards (wsV RX0 51 RX1 yX1_speedBehindBump wsX1_speedBehindBump) := goodIn_app (goodIn_of _ (by decide +kernel)) ggX0_moveDownwards_X1_speedBehindBump
theorem dX0_moveDownwards_0 : decode cX0_moveDownwards 0 = .ok (.aload_n 0, 1) := by decide +kernel
theorem dX0_moveDownwards_1 : decode cX0_moveDownwards 1 = .ok (.getfield 9, 3) := by decide +kernel
theorem dX0_moveDownwards_4 : decode cX0_moveDownwards 4 = .ok (.istore_n 2, 1) := by decide +kernel
theorem dX0_moveDownwards_5 : decode cX0_moveDownwards 5 = .ok (.aload_n 0, 1) := by decide +kernel
theorem dX0_moveDownwards_6 : decode cX0_moveDownwards 6 = .ok (.dup, 1) := by decide +kernel
theorem dX0_moveDownwards_7 : decode cX0_moveDownwards 7 = .ok (.getfield 9, 3) := by decide +kernel
theorem dX0_moveDownwards_10 : decode cX0_moveDownwards 10 = .ok (.aload_n 0, 1) := by decide +kernel
theorem dX0_moveDownwards_11 : decode cX0_moveDownwards 11 = .ok (.getfield 21, 3) := by decide +kernel
theorem dX0_moveDownwards_14 : decode cX0_moveDownwards 14 = .ok (.iadd, 1) := by decide +kernel
theorem dX0_moveDownwards_15 : decode cX0_moveDownwards 15 = .ok (.putfield 9, 3) := by decide +kernel
theorem dX0_moveDownwards_18 : decode cX0_moveDownwards 18 = .ok (.aload_n 0, 1) := by decide +kernel
theorem dX0_moveDownwards_19 : decode cX0_moveDownwards 19 = .ok (.invokevirtual 55, 3) := by decide +kernel
theorem dX0_moveDownwards_22 : decode cX0_moveDownwards 22 = .ok (.ifCond .eq 5, 3) := by decide +kernel
theorem dX0_moveDownwards_25 : decode cX0_moveDownwards 25 = .ok (.iconst (-1), 1) := by decide +kernel
theorem dX0_moveDownwards_26 : decode cX0_moveDownwards 26 = .ok (.ireturn, 1) := by decide +kernel
theorem dX0_moveDownwards_27 : decode cX0_moveDownwards 27 = .ok (.aload_n 0, 1) := by decide +kernel
theorem dX0_moveDownwards_28 : decode cX0_moveDownwards 28 = .ok (.getfield 9, 3) := by decide +kernel
theorem dX0_moveDownwards_31 : decode cX0_moveDownwards 31 = .ok (.ifCond .ge 21, 3) := by decide +kernel
theorem dX0_moveDownwards_34 : decode cX0_moveDownwards 34 = .ok (.aload_n 0, 1) := by decide +kernel
theorem dX0_moveDownwards_35 : decode cX0_moveDownwards 35 = .ok (.aload_n 0, 1) := by decide +kernel
theorem dX0_moveDownwards_36 : decode cX0_moveDownwards 36 = .ok (.getfield 9, 3) := by decide +kernel
theorem dX0_moveDownwards_39 : decode cX0_moveDownwards 39 = .ok (.ineg, 1) := by decide +kernel
theorem dX0_moveDownwards_40 : decode cX0_moveDownwards 40 = .ok (.putfield 9, 3) := by decide +kernel
theorem dX0_moveDownwards_43 : decode cX0_moveDownwards 43 = .ok (.aload_n 0, 1) := by decide +kernel
theorem dX0_moveDownwards_44 : decode cX0_moveDownwards 44 = .ok (.aload_n 0, 1) := by decide +kernel
theorem dX0_moveDownwards_45 : decode cX0_moveDownwards 45 = .ok (.getfield 21, 3) := by decide +kernel
theorem dX0_moveDownwards_48 : decode cX0_moveDownwards 48 = .ok (.ineg, 1) := by decide +kernel
theorem dX0_moveDownwards_49 : decode cX0_moveDownwards 49 = .ok (.putfield 21, 3) := by decide +kernel
theorem dX0_moveDownwards_52 : decode cX0_moveDownwards 52 = .ok (.aload_n 1, 1) := by decide +kernel
theorem dX0_moveDownwards_53 : decode cX0_moveDownwards 53 = .ok (.aload_n 0, 1) := by decide +kernel
theorem dX0_moveDownwards_54 : decode cX0_moveDownwards 54 = .ok (.getfield 15, 3) := by decide +kernel
theorem dX0_moveDownwards_57 : decode cX0_moveDownwards 57 = .ok (.aload_n 0, 1) := by decide +kernel
theorem dX0_moveDownwards_58 : decode cX0_moveDownwards 58 = .ok (.getfield 9, 3) := by decide +kernel
theorem dX0_moveDownwards_61 : decode cX0_moveDownwards 61 = .ok (.invokevirtual 30, 3) := by decide +kernel
theorem dX0_moveDownwards_64 : decode cX0_moveDownwards 64 = .ok (.istore_n 3, 1) := by decide +kernel
theorem dX0_moveDownwards_65 : decode cX0_moveDownwards 65 = .ok (.iload_n 3, 1) := by decide +kernel
theorem dX0_moveDownwards_66 : decode cX0_moveDownwards 66 = .ok (.ifCond .lt 41, 3) := by decide +kernel
theorem dX0_moveDownwards_69 : decode cX0_moveDownwards 69 = .ok (.iload_n 3, 1) := by decide +kernel
theorem dX0_moveDownwards_70 : decode cX0_moveDownwards 70 = .ok (.aload_n 1, 1) := by decide +kernel
theorem dX0_moveDownwards_71 : decode cX0_moveDownwards 71 = .ok (.getfield 35, 3) := by decide +kernel
theorem dX0_moveDownwards_74 : decode cX0_moveDownwards 74 = .ok (.invokevirtual 39, 3) := by decide +kernel
theorem dX0_moveDownwards_77 : decode cX0_moveDownwards 77 = .ok (.if_icmp .ge 30, 3) := by decide +kernel
theorem dX0_moveDownwards_80 : decode cX0_moveDownwards 80 = .ok (.aload_n 0, 1) := by decide +kernel
theorem dX0_moveDownwards_81 : decode cX0_moveDownwards 81 = .ok (.iload_n 2, 1) := by decide +kernel
theorem dX0_moveDownwards_82 : decode cX0_moveDownwards 82 = .ok (.putfield 9, 3) := by decide +kernel
theorem dX0_moveDownwards_85 : decode cX0_moveDownwards 85 = .ok (.aload_n 0, 1) := by decide +kernel
theorem dX0_moveDownwards_86 : decode cX0_moveDownwards 86 = .ok (.aload_n 1, 1) := by decide +kernel
theorem dX0_moveDownwards_87 : decode cX0_moveDownwards 87 = .ok (.getfield 35, 3) := by decide +kernel
theorem dX0_moveDownwards_90 : decode cX0_moveDownwards 90 = .ok (.iload_n 3, 1) := by decide +kernel
theorem dX0_moveDownwards_91 : decode cX0_moveDownwards 91 = .ok (.invokevirtual 45, 3) := by decide +kernel
theorem dX0_moveDownwards_94 : decode cX0_moveDownwards 94 = .ok (.checkcast 49, 3) := by decide +kernel
theorem dX0_moveDownwards_97 : decode cX0_moveDownwards 97 = .ok (.aload_n 0, 1) := by decide +kernel
theorem dX0_moveDownwards_98 : decode cX0_moveDownwards 98 = .ok (.getfield 21, 3) := by decide +kernel
theorem dX0_moveDownwards_101 : decode cX0_moveDownwards 101 = .ok (.invokevirtual 51, 3) := by decide +kernel
theorem dX0_moveDownwards_104 : decode cX0_moveDownwards 104 = .ok (.putfield 21, 3) := by decide +kernel
theorem dX0_moveDownwards_107 : decode cX0_moveDownwards 107 = .ok (.iload_n 3, 1) := by decide +kernel
theorem dX0_moveDownwards_108 : decode cX0_moveDownwards 108 = .ok (.ireturn, 1) := by decide +kernel
theorem dX1_init_0 : decode cX1_init 0 = .ok (.aload_n 0, 1) := by decide +kernel
theorem dX1_init_1 : decode cX1_init 1 = .ok (.invokespecial 3, 3) := by decide +kernel
theorem dX1_init_4 : decode cX1_init 4 = .ok (.aload_n 0, 1) := by decide +kernel
theorem dX1_init_5 : decode cX1_init 5 = .ok (.iconst 0, 1) := by decide +kernel
theorem dX1_init_6 : decode cX1_init 6 = .ok (.putfield 9, 3) := by decide +kernel
theorem dX1_init_9 : decode cX1_init 9 = .ok (.aload_n 0, 1) := by decide +kernel
theorem dX1_init_10 : decode cX1_init 10 = .ok (.iconst (-1), 1) := by decide +kernel
theorem dX1_init_11 : decode cX1_init 11 = .ok (.putfield 15, 3) := by decide +kernel
theorem dX1_init_14 : decode cX1_init 14 = .ok (.aload_n 0, 1) := by decide +kernel
theorem dX1_init_15 : decode cX1_init 15 = .ok (.iload_n 1, 1) := by decide +kernel
theorem dX1_init_16 : decode cX1_init 16 = .ok (.putfield 18, 3) := by decide +kernel
theorem dX1_init_19 : decode cX1_init 19 = .ok (.aload_n 0, 1) := by decide +kernel
theorem dX1_init_20 : decode cX1_init 20 = .ok (.iload_n 2, 1) := by decide +kernel
theorem dX1_init_21 : decode cX1_init 21 = .ok (.putfield 21, 3) := by decide +kernel
theorem dX1_init_24 : decode cX1_init 24 = .ok (.aload_n 0, 1) := by decide +kernel
theorem dX1_init_25 : decode cX1_init 25 = .ok (.iload_n 3, 1) := by decide +kernel
theorem dX1_init_26 : decode cX1_init 26 = .ok (.putfield 24, 3) := by decide +kernel
theorem dX1_init_29 : decode cX1_init 29 = .ok (.aload_n 0, 1) := by decide +kernel
theorem dX1_init_30 : decode cX1_init 30 = .ok (.iload 4, 2) := by decide +kernel
theorem dX1_init_32 : decode cX1_init 32 = .ok (.putfield 27, 3) := by decide +kernel
theorem dX1_init_35 : decode cX1_init 35 = .ok (.aload_n 0, 1) := by decide +kernel
theorem dX1_init_36 : decode cX1_init 36 = .ok (.iload 5, 2) := by decide +kernel
theorem dX1_init_38 : decode cX1_init 38 = .ok (.putfield 30, 3) := by decide +kernel
theorem dX1_init_41 : decode cX1_init 41 = .ok (.return_, 1) := by decide +kernel
theorem dX1_isBroken_0 : decode cX1_isBroken 0 = .ok (.aload_n 0, 1) := by decide +kernel
theorem dX1_isBroken_1 : decode cX1_isBroken 1 = .ok (.getfield 9, 3) := by decide +kernel
theorem dX1_isBroken_4 : decode cX1_isBroken 4 = .ok (.bipush 40, 2) := by decide +kernel
theorem dX1_isBroken_6 : decode cX1_isBroken 6 = .ok (.if_icmp .lt 7, 3) := by decide +kernel
theorem dX1_isBroken_9 : decode cX1_isBroken 9 = .ok (.iconst 1, 1) := by decide +kernel
theorem dX1_isBroken_10 : decode cX1_isBroken 10 = .ok (.goto 4, 3) := by decide +kernel
theorem dX1_isBroken_13 : decode cX1_isBroken 13 = .ok (.iconst 0, 1) := by decide +kernel
theorem dX1_isBroken_14 : decode cX1_isBroken 14 = .ok (.ireturn, 1) := by decide +kernel
theorem dX1_holdsPart_0 : decode cX1_holdsPart 0 = .ok (.iload_n 1, 1) := by decide +kernel
theorem dX1_holdsPart_1 : decode cX1_holdsPart 1 = .ok (.aload_n 0, 1) := by decide +kernel
theorem dX1_holdsPart_2 : decode cX1_holdsPart 2 = .ok (.getfield 18, 3) := by decide +kernel
theorem dX1_holdsPart_5 : decode cX1_holdsPart 5 = .ok (.if_icmp .lt 41, 3) := by decide +kernel
theorem dX1_holdsPart_8 : decode cX1_holdsPart 8 = .ok (.iload_n 1, 1) := by decide +kernel
theorem dX1_holdsPart_9 : decode cX1_holdsPart 9 = .ok (.aload_n 0, 1) := by decide +kernel
theorem dX1_holdsPart_10 : decode cX1_holdsPart 10 = .ok (.getfield 18, 3) := by decide +kernel
theorem dX1_holdsPart_13 : decode cX1_holdsPart 13 = .ok (.aload_n 0, 1) := by decide +kernel
theorem dX1_holdsPart_14 : decode cX1_holdsPart 14 = .ok (.getfield 24, 3) := by decide +kernel
theorem dX1_holdsPart_17 : decode cX1_holdsPart 17 = .ok (.iadd, 1) := by decide +kernel
theorem dX1_holdsPart_18 : decode cX1_holdsPart 18 = .ok (.if_icmp .ge 28, 3) := by decide +kernel
theorem dX1_holdsPart_21 : decode cX1_holdsPart 21 = .ok (.iload_n 2, 1) := by decide +kernel
theorem dX1_holdsPart_22 : decode cX1_holdsPart 22 = .ok (.aload_n 0, 1) := by decide +kernel
theorem dX1_holdsPart_23 : decode cX1_holdsPart 23 = .ok (.getfield 21, 3) := by decide +kernel
theorem dX1_holdsPart_26 : decode cX1_holdsPart 26 = .ok (.if_icmp .lt 20, 3) := by decide +kernel
theorem dX1_holdsPart_29 : decode cX1_holdsPart 29 = .ok (.iload_n 2, 1) := by decide +kernel
theorem dX1_holdsPart_30 : decode cX1_holdsPart 30 = .ok (.aload_n 0, 1) := by decide +kernel
theorem dX1_holdsPart_31 : decode cX1_holdsPart 31 = .ok (.getfield 21, 3) := by decide +kernel
theorem dX1_holdsPart_34 : decode cX1_holdsPart 34 = .ok (.aload_n 0, 1) := by decide +kernel
theorem dX1_holdsPart_35 : decode cX1_holdsPart 35 = .ok (.getfield 27, 3) := by decide +kernel
theorem dX1_holdsPart_38 : decode cX1_holdsPart 38 = .ok (.iadd, 1) := by decide +kernel
theorem dX1_holdsPart_39 : decode cX1_holdsPart 39 = .ok (.if_icmp .ge 7, 3) := by decide +kernel
theorem dX1_holdsPart_42 : decode cX1_holdsPart 42 = .ok (.iconst 1, 1) := by decide +kernel
theorem dX1_holdsPart_43 : decode cX1_holdsPart 43 = .ok (.goto 4, 3) := by decide +kernel
theorem dX1_holdsPart_46 : decode cX1_holdsPart 46 = .ok (.iconst 0, 1) := by decide +kernel
theorem dX1_holdsPart_47 : decode cX1_holdsPart 47 = .ok (.ireturn, 1) := by decide +kernel
set_option maxRecDepth 20000 in
theorem ggX1_speedBehindBump_X1_isBroken : GoodIn wsX1_speedBehindBump wsX1_isBroken := goodIn_r _ [13, 14, 15, 16, 17, 18, 19, 20, 21] (by decide +kernel) (by decide +kernel)
set_option maxRecDepth 20000 in
theorem gX1_speedBehindBump_X1_isBroken : GoodIn wsX1_speedBehindBump (wsV RX1 33 RX1 yX1_isBroken wsX1_isBroken) := goodIn_app (goodIn_of _ (by decide +kernel)) ggX1_speedBehindBump_X1_isBroken
theorem dX1_speedBehindBump_0 : decode cX1_speedBehindBump 0 = .ok (.iload_n 1, 1) := by decide +kernel
theorem dX1_speedBehindBump_1 : decode cX1_speedBehindBump 1 = .ok (.ifCond .eq 10, 3) := by decide +kernel
theorem dX1_speedBehindBump_4 : decode cX1_speedBehindBump 4 = .ok (.aload_n 0, 1) := by decide +kernel
theorem dX1_speedBehindBump_5 : decode cX1_speedBehindBump 5 = .ok (.invokevirtual 33, 3) := by decide +kernel
theorem dX1_speedBehindBump_8 : decode cX1_speedBehindBump 8 = .ok (.ifCond .eq 6, 3) := by decide +kernel
theorem dX1_speedBehindBump_11 : decode cX1_speedBehindBump 11 = .ok (.iload_n 1, 1) := by decide +kernel
theorem dX1_speedBehindBump_12 : decode cX1_speedBehindBump 12 = .ok (.ineg, 1) := by decide +kernel
theorem dX1_speedBehindBump_13 : decode cX1_speedBehindBump 13 = .ok (.ireturn, 1) := by decide +kernel
theorem dX1_speedBehindBump_14 : decode cX1_speedBehindBump 14 = .ok (.bipush 30, 2) := by decide +kernel
theorem dX1_speedBehindBump_16 : decode cX1_speedBehindBump 16 = .ok (.iload_n 1, 1) := by decide +kernel
theorem dX1_speedBehindBump_17 : decode cX1_speedBehindBump 17 = .ok (.invokestatic 37, 3) := by decide +kernel
theorem dX1_speedBehindBump_20 : decode cX1_speedBehindBump 20 = .ok (.aload_n 0, 1) := by decide +kernel
theorem dX1_speedBehindBump_21 : decode cX1_speedBehindBump 21 = .ok (.getfield 30, 3) := by decide +kernel
theorem dX1_speedBehindBump_24 : decode cX1_speedBehindBump 24 = .ok (.iadd, 1) := by decide +kernel
theorem dX1_speedBehindBump_25 : decode cX1_speedBehindBump 25 = .ok (.invokestatic 43, 3) := by decide +kernel
theorem dX1_speedBehindBump_28 : decode cX1_speedBehindBump 28 = .ok (.istore_n 2, 1) := by decide +kernel
theorem dX1_speedBehindBump_29 : decode cX1_speedBehindBump 29 = .ok (.iload_n 1, 1) := by decide +kernel
theorem dX1_speedBehindBump_30 : decode cX1_speedBehindBump 30 = .ok (.ifCond .le 8, 3) := by decide +kernel
theorem dX1_speedBehindBump_33 : decode cX1_speedBehindBump 33 = .ok (.iload_n 2, 1) := by decide +kernel
theorem dX1_speedBehindBump_34 : decode cX1_speedBehindBump 34 = .ok (.ineg, 1) := by decide +kernel
theorem dX1_speedBehindBump_35 : decode cX1_speedBehindBump 35 = .ok (.goto 4, 3) := by decide +kernel
theorem dX1_speedBehindBump_38 : decode cX1_speedBehindBump 38 = .ok (.iload_n 2, 1) := by decide +kernel
theorem dX1_speedBehindBump_39 : decode cX1_speedBehindBump 39 = .ok (.ireturn, 1) := by decide +kernel
set_option maxRecDepth 20000 in
theorem ggX2_init_X5_init : GoodIn wsX2_init wsX5_init := goodIn_r _ [15, 16, 2, 3, 17, 18, 19, 20, 21, 22, 23, 24, 25] (by decide +kernel) (by decide +kernel)
set_option maxRecDepth 20000 in
theorem gX2_init_X5_init_n11 : GoodIn wsX2_init (wsX5_init) := ggX2_init_X5_init
theorem dX2_init_0 : decode cX2_init 0 = .ok (.aload_n 0, 1) := by decide +kernel
theorem dX2_init_1 : decode cX2_init 1 = .ok (.invokespecial 3, 3) := by decide +kernel
theorem dX2_init_4 : decode cX2_init 4 = .ok (.aload_n 0, 1) := by decide +kernel
theorem dX2_init_5 : decode cX2_init 5 = .ok (.new 9, 3) := by decide +kernel
theorem dX2_init_8 : decode cX2_init 8 = .ok (.dup, 1) := by decide +kernel
theorem dX2_init_9 : decode cX2_init 9 = .ok (.invokespecial 11, 3) := by decide +kernel
theorem dX2_init_12 : decode cX2_init 12 = .ok (.putfield 12, 3) := by decide +kernel
theorem dX2_init_15 : decode cX2_init 15 = .ok (.aload_n 0, 1) := by decide +kernel
theorem dX2_init_16 : decode cX2_init 16 = .ok (.sipush 2520, 3) := by decide +kernel
theorem dX2_init_19 : decode cX2_init 19 = .ok (.newarray .long, 2) := by decide +kernel
theorem dX2_init_21 : decode cX2_init 21 = .ok (.putfield 18, 3) := by decide +kernel
theorem dX2_init_24 : decode cX2_init 24 = .ok (.aload_n 0, 1) := by decide +kernel
theorem dX2_init_25 : decode cX2_init 25 = .ok (.iconst 0, 1) := by decide +kernel
theorem dX2_init_26 : decode cX2_init 26 = .ok (.putfield 22, 3) := by decide +kernel
theorem dX2_init_29 : decode cX2_init 29 = .ok (.aload_n 0, 1) := by decide +kernel
theorem dX2_init_30 : decode cX2_init 30 = .ok (.iconst 0, 1) := by decide +kernel
theorem dX2_init_31 : decode cX2_init 31 = .ok (.putfield 26, 3) := by decide +kernel
theorem dX2_init_34 : decode cX2_init 34 = .ok (.aload_n 0, 1) := by decide +kernel
theorem dX2_init_35 : decode cX2_init 35 = .ok (.iload_n 1, 1) := by decide +kernel
theorem dX2_init_36 : decode cX2_init 36 = .ok (.putfield 29, 3) := by decide +kernel
theorem dX2_init_39 : decode cX2_init 39 = .ok (.aload_n 0, 1) := by decide +kernel
theorem dX2_init_40 : decode cX2_init 40 = .ok (.aload_n 2, 1) := by decide +kernel
theorem dX2_init_41 : decode cX2_init 41 = .ok (.putfield 32, 3) := by decide +kernel
theorem dX2_init_44 : decode cX2_init 44 = .ok (.return_, 1) := by decide +kernel
theorem dX2_switchIn_0 : decode cX2_switchIn 0 = .ok (.lload_n 0, 1) := by decide +kernel
theorem dX2_switchIn_1 : decode cX2_switchIn 1 = .ok (.ldc2_w 36, 3) := by decide +kernel
theorem dX2_switchIn_4 : decode cX2_switchIn 4 = .ok (.land, 1) := by decide +kernel
theorem dX2_switchIn_5 : decode cX2_switchIn 5 = .ok (.l2i, 1) := by decide +kernel
theorem dX2_switchIn_6 : decode cX2_switchIn 6 = .ok (.ireturn, 1) := by decide +kernel
theorem dX2_stickingIn_0 : decode cX2_stickingIn 0 = .ok (.lload_n 0, 1) := by decide +kernel
theorem dX2_stickingIn_1 : decode cX2_stickingIn 1 = .ok (.bipush 20, 2) := by decide +kernel
theorem dX2_stickingIn_3 : decode cX2_stickingIn 3 = .ok (.lshr, 1) := by decide +kernel
theorem dX2_stickingIn_4 : decode cX2_stickingIn 4 = .ok (.ldc2_w 38, 3) := by decide +kernel
theorem dX2_stickingIn_7 : decode cX2_stickingIn 7 = .ok (.land, 1) := by decide +kernel
theorem dX2_stickingIn_8 : decode cX2_stickingIn 8 = .ok (.l2i, 1) := by decide +kernel
theorem dX2_stickingIn_9 : decode cX2_stickingIn 9 = .ok (.iconst 1, 1) := by decide +kernel
theorem dX2_stickingIn_10 : decode cX2_stickingIn 10 = .ok (.isub, 1) := by decide +kernel
theorem dX2_stickingIn_11 : decode cX2_stickingIn 11 = .ok (.ireturn, 1) := by decide +kernel
theorem dX2_isOver_0 : decode cX2_isOver 0 = .ok (.aload_n 0, 1) := by decide +kernel
theorem dX2_isOver_1 : decode cX2_isOver 1 = .ok (.getfield 26, 3) := by decide +kernel
theorem dX2_isOver_4 : decode cX2_isOver 4 = .ok (.iconst 3, 1) := by decide +kernel
theorem dX2_isOver_5 : decode cX2_isOver 5 = .ok (.if_icmp .lt 7, 3) := by decide +kernel
theorem dX2_isOver_8 : decode cX2_isOver 8 = .ok (.iconst 1, 1) := by decide +kernel
theorem dX2_isOver_9 : decode cX2_isOver 9 = .ok (.goto 4, 3) := by decide +kernel
theorem dX2_isOver_12 : decode cX2_isOver 12 = .ok (.iconst 0, 1) := by decide +kernel
theorem dX2_isOver_13 : decode cX2_isOver 13 = .ok (.ireturn, 1) := by decide +kernel
set_option maxRecDepth 20000 in
theorem ggX2_closeSwitch_X5_takeSwitch : GoodIn wsX2_closeSwitch wsX5_takeSwitch := goodIn_r _ [10, 11, 12, 13, 14, 15, 16, 17, 18, 19, 20, 21, 22, 23, 24, 25, 26, 27, 28, 29, 30, 31, 32, 9, 33, 34, 35, 36, 37, 38, 45, 46, 47, 48, 49, 50, 51, 52, 53, 54, 55] (by decide +kernel) (by decide +kernel)
set_option maxRecDepth 20000 in
theorem gX2_closeSwitch_X5_takeSwitch : GoodIn wsX2_closeSwitch (wsV RX2 40 RX5 yX5_takeSwitch wsX5_takeSwitch) := goodIn_app (goodIn_of _ (by decide +kernel)) ggX2_closeSwitch_X5_takeSwitch
theorem dX2_closeSwitch_0 : decode cX2_closeSwitch 0 = .ok (.aload_n 0, 1) := by decide +kernel
theorem dX2_closeSwitch_1 : decode cX2_closeSwitch 1 = .ok (.getfield 22, 3) := by decide +kernel
theorem dX2_closeSwitch_4 : decode cX2_closeSwitch 4 = .ok (.ifCond .lt 15, 3) := by decide +kernel
theorem dX2_closeSwitch_7 : decode cX2_closeSwitch 7 = .ok (.aload_n 0, 1) := by decide +kernel
theorem dX2_closeSwitch_8 : decode cX2_closeSwitch 8 = .ok (.getfield 22, 3) := by decide +kernel
theorem dX2_closeSwitch_11 : decode cX2_closeSwitch 11 = .ok (.aload_n 0, 1) := by decide +kernel
theorem dX2_closeSwitch_12 : decode cX2_closeSwitch 12 = .ok (.getfield 18, 3) := by decide +kernel
theorem dX2_closeSwitch_15 : decode cX2_closeSwitch 15 = .ok (.arraylength, 1) := by decide +kernel
theorem dX2_closeSwitch_16 : decode cX2_closeSwitch 16 = .ok (.if_icmp .lt 4, 3) := by decide +kernel
theorem dX2_closeSwitch_19 : decode cX2_closeSwitch 19 = .ok (.return_, 1) := by decide +kernel
theorem dX2_closeSwitch_20 : decode cX2_closeSwitch 20 = .ok (.aload_n 0, 1) := by decide +kernel
theorem dX2_closeSwitch_21 : decode cX2_closeSwitch 21 = .ok (.getfield 18, 3) := by decide +kernel
theorem dX2_closeSwitch_24 : decode cX2_closeSwitch 24 = .ok (.aload_n 0, 1) := by decide +kernel
theorem dX2_closeSwitch_25 : decode cX2_closeSwitch 25 = .ok (.getfield 22, 3) := by decide +kernel
theorem dX2_closeSwitch_28 : decode cX2_closeSwitch 28 = .ok (.iload_n 1, 1) := by decide +kernel
theorem dX2_closeSwitch_29 : decode cX2_closeSwitch 29 = .ok (.i2l, 1) := by decide +kernel
theorem dX2_closeSwitch_30 : decode cX2_closeSwitch 30 = .ok (.aload_n 0, 1) := by decide +kernel
theorem dX2_closeSwitch_31 : decode cX2_closeSwitch 31 = .ok (.getfield 26, 3) := by decide +kernel
theorem dX2_closeSwitch_34 : decode cX2_closeSwitch 34 = .ok (.i2l, 1) := by decide +kernel
theorem dX2_closeSwitch_35 : decode cX2_closeSwitch 35 = .ok (.iconst 4, 1) := by decide +kernel
theorem dX2_closeSwitch_36 : decode cX2_closeSwitch 36 = .ok (.lshl, 1) := by decide +kernel
theorem dX2_closeSwitch_37 : decode cX2_closeSwitch 37 = .ok (.lor, 1) := by decide +kernel
theorem dX2_closeSwitch_38 : decode cX2_closeSwitch 38 = .ok (.iload_n 2, 1) := by decide +kernel
theorem dX2_closeSwitch_39 : decode cX2_closeSwitch 39 = .ok (.i2l, 1) := by decide +kernel
theorem dX2_closeSwitch_40 : decode cX2_closeSwitch 40 = .ok (.bipush 8, 2) := by decide +kernel
theorem dX2_closeSwitch_42 : decode cX2_closeSwitch 42 = .ok (.lshl, 1) := by decide +kernel
theorem dX2_closeSwitch_43 : decode cX2_closeSwitch 43 = .ok (.lor, 1) := by decide +kernel
theorem dX2_closeSwitch_44 : decode cX2_closeSwitch 44 = .ok (.iload_n 3, 1) := by decide +kernel
theorem dX2_closeSwitch_45 : decode cX2_closeSwitch 45 = .ok (.iconst 1, 1) := by decide +kernel
theorem dX2_closeSwitch_46 : decode cX2_closeSwitch 46 = .ok (.iadd, 1) := by decide +kernel
theorem dX2_closeSwitch_47 : decode cX2_closeSwitch 47 = .ok (.i2l, 1) := by decide +kernel
theorem dX2_closeSwitch_48 : decode cX2_closeSwitch 48 = .ok (.bipush 20, 2) := by decide +kernel
theorem dX2_closeSwitch_50 : decode cX2_closeSwitch 50 = .ok (.lshl, 1) := by decide +kernel
theorem dX2_closeSwitch_51 : decode cX2_closeSwitch 51 = .ok (.lor, 1) := by decide +kernel
theorem dX2_closeSwitch_52 : decode cX2_closeSwitch 52 = .ok (.lastore, 1) := by decide +kernel
theorem dX2_closeSwitch_53 : decode cX2_closeSwitch 53 = .ok (.aload_n 0, 1) := by decide +kernel
theorem dX2_closeSwitch_54 : decode cX2_closeSwitch 54 = .ok (.dup, 1) := by decide +kernel
theorem dX2_closeSwitch_55 : decode cX2_closeSwitch 55 = .ok (.getfield 22, 3) := by decide +kernel
theorem dX2_closeSwitch_58 : decode cX2_closeSwitch 58 = .ok (.iconst 1, 1) := by decide +kernel
theorem dX2_closeSwitch_59 : decode cX2_closeSwitch 59 = .ok (.iadd, 1) := by decide +kernel
theorem dX2_closeSwitch_60 : decode cX2_closeSwitch 60 = .ok (.putfield 22, 3) := by decide +kernel
theorem dX2_closeSwitch_63 : decode cX2_closeSwitch 63 = .ok (.aload_n 0, 1) := by decide +kernel
theorem dX2_closeSwitch_64 : decode cX2_closeSwitch 64 = .ok (.getfield 12, 3) := by decide +kernel
theorem dX2_closeSwitch_67 : decode cX2_closeSwitch 67 = .ok (.aload_n 0, 1) := by decide +kernel
theorem dX2_closeSwitch_68 : decode cX2_closeSwitch 68 = .ok (.getfield 32, 3) := by decide +kernel
theorem dX2_closeSwitch_71 : decode cX2_closeSwitch 71 = .ok (.iload_n 1, 1) := by decide +kernel
theorem dX2_closeSwitch_72 : decode cX2_closeSwitch 72 = .ok (.invokevirtual 40, 3) := by decide +kernel
theorem dX2_closeSwitch_75 : decode cX2_closeSwitch 75 = .ok (.return_, 1) := by decide +kernel
theorem dX2_entryOf_0 : decode cX2_entryOf 0 = .ok (.iload_n 1, 1) := by decide +kernel
theorem dX2_entryOf_1 : decode cX2_entryOf 1 = .ok (.ifCond .lt 21, 3) := by decide +kernel
theorem dX2_entryOf_4 : decode cX2_entryOf 4 = .ok (.iload_n 1, 1) := by decide +kernel
theorem dX2_entryOf_5 : decode cX2_entryOf 5 = .ok (.aload_n 0, 1) := by decide +kernel
theorem dX2_entryOf_6 : decode cX2_entryOf 6 = .ok (.getfield 18, 3) := by decide +kernel
theorem dX2_entryOf_9 : decode cX2_entryOf 9 = .ok (.arraylength, 1) := by decide +kernel
theorem dX2_entryOf_10 : decode cX2_entryOf 10 = .ok (.if_icmp .ge 12, 3) := by decide +kernel
theorem dX2_entryOf_13 : decode cX2_entryOf 13 = .ok (.aload_n 0, 1) := by decide +kernel
theorem dX2_entryOf_14 : decode cX2_entryOf 14 = .ok (.getfield 18, 3) := by decide +kernel
theorem dX2_entryOf_17 : decode cX2_entryOf 17 = .ok (.iload_n 1, 1) := by decide +kernel
theorem dX2_entryOf_18 : decode cX2_entryOf 18 = .ok (.laload, 1) := by decide +kernel
theorem dX2_entryOf_19 : decode cX2_entryOf 19 = .ok (.goto 4, 3) := by decide +kernel
theorem dX2_entryOf_22 : decode cX2_entryOf 22 = .ok (.lconst 0, 1) := by decide +kernel
theorem dX2_entryOf_23 : decode cX2_entryOf 23 = .ok (.lreturn, 1) := by decide +kernel
set_option maxRecDepth 20000 in
theorem ggX2_hasLogOf_X2_entryOf : GoodIn wsX2_hasLogOf wsX2_entryOf := goodIn_r _ [6, 7, 8, 9, 10, 11, 12, 13] (by decide +kernel) (by decide +kernel)
set_option maxRecDepth 20000 in
theorem gX2_hasLogOf_X2_entryOf : GoodIn wsX2_hasLogOf (wsV RX2 44 RX2 yX2_entryOf wsX2_entryOf) := goodIn_app (goodIn_of _ (by decide +kernel)) ggX2_hasLogOf_X2_entryOf
theorem dX2_hasLogOf_0 : decode cX2_hasLogOf 0 = .ok (.aload_n 0, 1) := by decide +kernel
theorem dX2_hasLogOf_1 : decode cX2_hasLogOf 1 = .ok (.getfield 22, 3) := by decide +kernel
theorem dX2_hasLogOf_4 : decode cX2_hasLogOf 4 = .ok (.aload_n 1, 1) := by decide +kernel
theorem dX2_hasLogOf_5 : decode cX2_hasLogOf 5 = .ok (.getfield 22, 3) := by decide +kernel
theorem dX2_hasLogOf_8 : decode cX2_hasLogOf 8 = .ok (.if_icmp .eq 5, 3) := by decide +kernel
theorem dX2_hasLogOf_11 : decode cX2_hasLogOf 11 = .ok (.iconst 0, 1) := by decide +kernel
theorem dX2_hasLogOf_12 : decode cX2_hasLogOf 12 = .ok (.ireturn, 1) := by decide +kernel
theorem dX2_hasLogOf_13 : decode cX2_hasLogOf 13 = .ok (.iconst 0, 1) := by decide +kernel
theorem dX2_hasLogOf_14 : decode cX2_hasLogOf 14 = .ok (.istore_n 2, 1) := by decide +kernel
theorem dX2_hasLogOf_15 : decode cX2_hasLogOf 15 = .ok (.iload_n 2, 1) := by decide +kernel
theorem dX2_hasLogOf_16 : decode cX2_hasLogOf 16 = .ok (.aload_n 0, 1) := by decide +kernel
theorem dX2_hasLogOf_17 : decode cX2_hasLogOf 17 = .ok (.getfield 22, 3) := by decide +kernel
theorem dX2_hasLogOf_20 : decode cX2_hasLogOf 20 = .ok (.if_icmp .ge 25, 3) := by decide +kernel
theorem dX2_hasLogOf_23 : decode cX2_hasLogOf 23 = .ok (.aload_n 0, 1) := by decide +kernel
theorem dX2_hasLogOf_24 : decode cX2_hasLogOf 24 = .ok (.iload_n 2, 1) := by decide +kernel
theorem dX2_hasLogOf_25 : decode cX2_hasLogOf 25 = .ok (.invokevirtual 44, 3) := by decide +kernel
theorem dX2_hasLogOf_28 : decode cX2_hasLogOf 28 = .ok (.aload_n 1, 1) := by decide +kernel
theorem dX2_hasLogOf_29 : decode cX2_hasLogOf 29 = .ok (.iload_n 2, 1) := by decide +kernel
theorem dX2_hasLogOf_30 : decode cX2_hasLogOf 30 = .ok (.invokevirtual 44, 3) := by decide +kernel
theorem dX2_hasLogOf_33 : decode cX2_hasLogOf 33 = .ok (.lcmp, 1) := by decide +kernel
theorem dX2_hasLogOf_34 : decode cX2_hasLogOf 34 = .ok (.ifCond .eq 5, 3) := by decide +kernel
theorem dX2_hasLogOf_37 : decode cX2_hasLogOf 37 = .ok (.iconst 0, 1) := by decide +kernel
theorem dX2_hasLogOf_38 : decode cX2_hasLogOf 38 = .ok (.ireturn, 1) := by decide +kernel
theorem dX2_hasLogOf_39 : decode cX2_hasLogOf 39 = .ok (.iinc 2 1, 3) := by decide +kernel
theorem dX2_hasLogOf_42 : decode cX2_hasLogOf 42 = .ok (.goto (-27), 3) := by decide +kernel
theorem dX2_hasLogOf_45 : decode cX2_hasLogOf 45 = .ok (.iconst 1, 1) := by decide +kernel
theorem dX2_hasLogOf_46 : decode cX2_hasLogOf 46 = .ok (.ireturn, 1) := by decide +kernel
theorem dX3_init_0 : decode cX3_init 0 = .ok (.aload_n 0, 1) := by decide +kernel
theorem dX3_init_1 : decode cX3_init 1 = .ok (.invokespecial 1, 3) := by decide +kernel
theorem dX3_init_4 : decode cX3_init 4 = .ok (.aload_n 0, 1) := by decide +kernel
theorem dX3_init_5 : decode cX3_init 5 = .ok (.iload_n 1, 1) := by decide +kernel
theorem dX3_init_6 : decode cX3_init 6 = .ok (.putfield 7, 3) := by decide +kernel
theorem dX3_init_9 : decode cX3_init 9 = .ok (.aload_n 0, 1) := by decide +kernel
theorem dX3_init_10 : decode cX3_init 10 = .ok (.iload_n 2, 1) := by decide +kernel
theorem dX3_init_11 : decode cX3_init 11 = .ok (.putfield 13, 3) := by decide +kernel
theorem dX3_init_14 : decode cX3_init 14 = .ok (.aload_n 0, 1) := by decide +kernel
theorem dX3_init_15 : decode cX3_init 15 = .ok (.iload_n 3, 1) := by decide +kernel
theorem dX3_init_16 : decode cX3_init 16 = .ok (.putfield 16, 3) := by decide +kernel
theorem dX3_init_19 : decode cX3_init 19 = .ok (.aload_n 0, 1) := by decide +kernel
theorem dX3_init_20 : decode cX3_init 20 = .ok (.iload 4, 2) := by decide +kernel
theorem dX3_init_22 : decode cX3_init 22 = .ok (.putfield 19, 3) := by decide +kernel
theorem dX3_init_25 : decode cX3_init 25 = .ok (.aload_n 0, 1) := by decide +kernel
theorem dX3_init_26 : decode cX3_init 26 = .ok (.iload 5, 2) := by decide +kernel
theorem dX3_init_28 : decode cX3_init 28 = .ok (.putfield 22, 3) := by decide +kernel
theorem dX3_init_31 : decode cX3_init 31 = .ok (.return_, 1) := by decide +kernel
theorem dX4_init_0 : decode cX4_init 0 = .ok (.aload_n 0, 1) := by decide +kernel
theorem dX4_init_1 : decode cX4_init 1 = .ok (.invokespecial 3, 3) := by decide +kernel
theorem dX4_init_4 : decode cX4_init 4 = .ok (.aload_n 0, 1) := by decide +kernel
theorem dX4_init_5 : decode cX4_init 5 = .ok (.bipush 6, 2) := by decide +kernel
theorem dX4_init_7 : decode cX4_init 7 = .ok (.newarray .int, 2) := by decide +kernel
theorem dX4_init_9 : decode cX4_init 9 = .ok (.putfield 9, 3) := by decide +kernel
theorem dX4_init_12 : decode cX4_init 12 = .ok (.aload_n 0, 1) := by decide +kernel
theorem dX4_init_13 : decode cX4_init 13 = .ok (.bipush 6, 2) := by decide +kernel
theorem dX4_init_15 : decode cX4_init 15 = .ok (.newarray .int, 2) := by decide +kernel
theorem dX4_init_17 : decode cX4_init 17 = .ok (.putfield 15, 3) := by decide +kernel
theorem dX4_init_20 : decode cX4_init 20 = .ok (.aload_n 0, 1) := by decide +kernel
theorem dX4_init_21 : decode cX4_init 21 = .ok (.bipush 6, 2) := by decide +kernel
theorem dX4_init_23 : decode cX4_init 23 = .ok (.newarray .int, 2) := by decide +kernel
theorem dX4_init_25 : decode cX4_init 25 = .ok (.putfield 18, 3) := by decide +kernel
theorem dX4_init_28 : decode cX4_init 28 = .ok (.aload_n 0, 1) := by decide +kernel
theorem dX4_init_29 : decode cX4_init 29 = .ok (.iconst 0, 1) := by decide +kernel
theorem dX4_init_30 : decode cX4_init 30 = .ok (.putfield 21, 3) := by decide +kernel
theorem dX4_init_33 : decode cX4_init 33 = .ok (.aload_n 0, 1) := by decide +kernel
theorem dX4_init_34 : decode cX4_init 34 = .ok (.iconst 0, 1) := by decide +kernel
theorem dX4_init_35 : decode cX4_init 35 = .ok (.putfield 25, 3) := by decide +kernel
theorem dX4_init_38 : decode cX4_init 38 = .ok (.return_, 1) := by decide +kernel
set_option maxRecDepth 20000 in
theorem ggX4_search_X4_gather : GoodIn wsX4_search wsX4_gather := goodIn_r _ [6, 7, 8, 9, 10, 11, 12, 13, 14, 15, 16, 17, 18, 19, 20, 21, 22, 23, 24, 25, 26, 27, 28, 29, 30, 31, 32, 33, 34, 35, 36, 37, 38, 39, 40, 41, 42, 43, 44, 45, 46, 47, 48, 49, 50, 51, 52, 53, 54, 55, 56, 81, 82, 83, 84, 85, 86, 87, 88, 89, 90, 91, 92, 93, 94, 95, 96, 97, 98, 99, 100, 101, 102, 103] (by decide +kernel) (by decide +kernel)
set_option maxRecDepth 20000 in
theorem gX4_search_X4_gather : GoodIn wsX4_search (wsV RX4 28 RX4 yX4_gather wsX4_gather) := goodIn_app (goodIn_of _ (by decide +kernel)) ggX4_search_X4_gather
set_option maxRecDepth 20000 in
theorem ggX4_search_X4_measureOrder : GoodIn wsX4_search wsX4_measureOrder := goodIn_r _ [60, 7, 9, 8, 61, 62, 63, 64, 81, 82, 83, 84, 85] (by decide +kernel) (by decide +kernel)
set_option maxRecDepth 20000 in
theorem gX4_search_X4_measureOrder : GoodIn wsX4_search (wsV RX4 32 RX4 yX4_measureOrder wsX4_measureOrder) := goodIn_app (goodIn_of _ (by decide +kernel)) ggX4_search_X4_measureOrder
set_option maxRecDepth 20000 in
theorem ggX4_search_X4_keepOrder : GoodIn wsX4_search wsX4_keepOrder := goodIn_r _ [68, 7, 9, 69, 81, 82, 83, 84, 85] (by decide +kernel) (by decide +kernel)
set_option maxRecDepth 20000 in
theorem gX4_search_X4_keepOrder : GoodIn wsX4_search (wsV RX4 36 RX4 yX4_keepOrder wsX4_keepOrder) := goodIn_app (goodIn_of _ (by decide +kernel)) ggX4_search_X4_keepOrder
set_option maxRecDepth 20000 in
theorem ggX4_search_X4_nextOrder : GoodIn wsX4_search wsX4_nextOrder := goodIn_r _ [73, 7, 9, 74, 75, 63, 76, 77, 78, 79, 5, 80, 81, 82, 83, 84, 85] (by decide +kernel) (by decide +kernel)
set_option maxRecDepth 20000 in
theorem gX4_search_X4_nextOrder : GoodIn wsX4_search (wsV RX4 39 RX4 yX4_nextOrder wsX4_nextOrder) := goodIn_app (goodIn_of _ (by decide +kernel)) ggX4_search_X4_nextOrder
theorem dX4_search_0 : decode cX4_search 0 = .ok (.aload_n 0, 1) := by decide +kernel
theorem dX4_search_1 : decode cX4_search 1 = .ok (.aload_n 1, 1) := by decide +kernel
theorem dX4_search_2 : decode cX4_search 2 = .ok (.invokevirtual 28, 3) := by decide +kernel
theorem dX4_search_5 : decode cX4_search 5 = .ok (.aload_n 0, 1) := by decide +kernel
theorem dX4_search_6 : decode cX4_search 6 = .ok (.aload_n 0, 1) := by decide +kernel
theorem dX4_search_7 : decode cX4_search 7 = .ok (.iload_n 2, 1) := by decide +kernel
theorem dX4_search_8 : decode cX4_search 8 = .ok (.invokevirtual 32, 3) := by decide +kernel
theorem dX4_search_11 : decode cX4_search 11 = .ok (.putfield 25, 3) := by decide +kernel
theorem dX4_search_14 : decode cX4_search 14 = .ok (.aload_n 0, 1) := by decide +kernel
theorem dX4_search_15 : decode cX4_search 15 = .ok (.invokevirtual 36, 3) := by decide +kernel
theorem dX4_search_18 : decode cX4_search 18 = .ok (.iconst 1, 1) := by decide +kernel
theorem dX4_search_19 : decode cX4_search 19 = .ok (.istore_n 3, 1) := by decide +kernel
theorem dX4_search_20 : decode cX4_search 20 = .ok (.iload_n 3, 1) := by decide +kernel
theorem dX4_search_21 : decode cX4_search 21 = .ok (.sipush 720, 3) := by decide +kernel
theorem dX4_search_24 : decode cX4_search 24 = .ok (.if_icmp .ge 42, 3) := by decide +kernel
theorem dX4_search_27 : decode cX4_search 27 = .ok (.aload_n 0, 1) := by decide +kernel
theorem dX4_search_28 : decode cX4_search 28 = .ok (.invokevirtual 39, 3) := by decide +kernel
theorem dX4_search_31 : decode cX4_search 31 = .ok (.ifCond .eq 35, 3) := by decide +kernel
theorem dX4_search_34 : decode cX4_search 34 = .ok (.aload_n 0, 1) := by decide +kernel
theorem dX4_search_35 : decode cX4_search 35 = .ok (.iload_n 2, 1) := by decide +kernel
theorem dX4_search_36 : decode cX4_search 36 = .ok (.invokevirtual 32, 3) := by decide +kernel
theorem dX4_search_39 : decode cX4_search 39 = .ok (.istore 4, 2) := by decide +kernel
theorem dX4_search_41 : decode cX4_search 41 = .ok (.iload 4, 2) := by decide +kernel
theorem dX4_search_43 : decode cX4_search 43 = .ok (.aload_n 0, 1) := by decide +kernel
theorem dX4_search_44 : decode cX4_search 44 = .ok (.getfield 25, 3) := by decide +kernel
theorem dX4_search_47 : decode cX4_search 47 = .ok (.if_icmp .ge 13, 3) := by decide +kernel
theorem dX4_search_50 : decode cX4_search 50 = .ok (.aload_n 0, 1) := by decide +kernel
theorem dX4_search_51 : decode cX4_search 51 = .ok (.iload 4, 2) := by decide +kernel
theorem dX4_search_53 : decode cX4_search 53 = .ok (.putfield 25, 3) := by decide +kernel
theorem dX4_search_56 : decode cX4_search 56 = .ok (.aload_n 0, 1) := by decide +kernel
theorem dX4_search_57 : decode cX4_search 57 = .ok (.invokevirtual 36, 3) := by decide +kernel
theorem dX4_search_60 : decode cX4_search 60 = .ok (.iinc 3 1, 3) := by decide +kernel
theorem dX4_search_63 : decode cX4_search 63 = .ok (.goto (-43), 3) := by decide +kernel
theorem dX4_search_66 : decode cX4_search 66 = .ok (.return_, 1) := by decide +kernel
theorem dX4_tableOf_0 : decode cX4_tableOf 0 = .ok (.iload_n 1, 1) := by decide +kernel
theorem dX4_tableOf_1 : decode cX4_tableOf 1 = .ok (.ifCond .lt 29, 3) := by decide +kernel
theorem dX4_tableOf_4 : decode cX4_tableOf 4 = .ok (.iload_n 1, 1) := by decide +kernel
theorem dX4_tableOf_5 : decode cX4_tableOf 5 = .ok (.aload_n 0, 1) := by decide +kernel
theorem dX4_tableOf_6 : decode cX4_tableOf 6 = .ok (.getfield 21, 3) := by decide +kernel
theorem dX4_tableOf_9 : decode cX4_tableOf 9 = .ok (.if_icmp .ge 21, 3) := by decide +kernel
theorem dX4_tableOf_12 : decode cX4_tableOf 12 = .ok (.iload_n 1, 1) := by decide +kernel
theorem dX4_tableOf_13 : decode cX4_tableOf 13 = .ok (.aload_n 0, 1) := by decide +kernel
theorem dX4_tableOf_14 : decode cX4_tableOf 14 = .ok (.getfield 18, 3) := by decide +kernel
theorem dX4_tableOf_17 : decode cX4_tableOf 17 = .ok (.arraylength, 1) := by decide +kernel
theorem dX4_tableOf_18 : decode cX4_tableOf 18 = .ok (.if_icmp .ge 12, 3) := by decide +kernel
theorem dX4_tableOf_21 : decode cX4_tableOf 21 = .ok (.aload_n 0, 1) := by decide +kernel
theorem dX4_tableOf_22 : decode cX4_tableOf 22 = .ok (.getfield 18, 3) := by decide +kernel
theorem dX4_tableOf_25 : decode cX4_tableOf 25 = .ok (.iload_n 1, 1) := by decide +kernel
theorem dX4_tableOf_26 : decode cX4_tableOf 26 = .ok (.iaload, 1) := by decide +kernel
theorem dX4_tableOf_27 : decode cX4_tableOf 27 = .ok (.goto 4, 3) := by decide +kernel
theorem dX4_tableOf_30 : decode cX4_tableOf 30 = .ok (.iconst (-1), 1) := by decide +kernel
theorem dX4_tableOf_31 : decode cX4_tableOf 31 = .ok (.ireturn, 1) := by decide +kernel
set_option maxRecDepth 20000 in
theorem ggX4_gather_Jx4a65c_size_8abf5 : GoodIn wsX4_gather wsJx4a65c_size_8abf5 := goodIn_r _ [10, 11, 64, 65, 66] (by decide +kernel) (by decide +kernel)
set_option maxRecDepth 20000 in
theorem gX4_gather_Jx4a65c_size_8abf5 : GoodIn wsX4_gather (wsV RX4 43 RJx4a65c yJx4a65c_size_8abf5 wsJx4a65c_size_8abf5) := goodIn_app (goodIn_of _ (by decide +kernel)) ggX4_gather_Jx4a65c_size_8abf5
set_option maxRecDepth 20000 in
theorem ggX4_gather_Jx4a65c_get_915e3 : GoodIn wsX4_gather wsJx4a65c_get_915e3 := goodIn_r _ [15, 11, 16, 17, 18, 19, 20, 21, 22, 23, 24, 25, 26, 9, 27, 28, 64, 65, 66] (by decide +kernel) (by decide +kernel)
set_option maxRecDepth 20000 in
theorem gX4_gather_Jx4a65c_get_915e3 : GoodIn wsX4_gather (wsV RX4 49 RJx4a65c yJx4a65c_get_915e3 wsJx4a65c_get_915e3) := goodIn_app (goodIn_of _ (by decide +kernel)) ggX4_gather_Jx4a65c_get_915e3
set_option maxRecDepth 20000 in
theorem ggX4_gather_X7_needsService : GoodIn wsX4_gather wsX7_needsService := goodIn_r _ [33, 34, 35, 36, 37, 38, 32, 39, 40, 41, 42, 43, 7, 8, 9, 10, 11, 44, 13, 14, 15, 16, 17, 18, 19, 20, 21, 22, 23, 24, 25, 26, 27, 28, 45, 46, 47, 48, 49, 50, 56, 57, 58, 59, 60, 61, 62, 63, 67, 68, 69, 70, 71, 72, 73, 64, 65, 66] (by decide +kernel) (by decide +kernel)
set_option maxRecDepth 20000 in
theorem gX4_gather_X7_needsService : GoodIn wsX4_gather (wsV RX4 58 RX7 yX7_needsService wsX7_needsService) := goodIn_app (goodIn_of _ (by decide +kernel)) ggX4_gather_X7_needsService
theorem dX4_gather_0 : decode cX4_gather 0 = .ok (.aload_n 0, 1) := by decide +kernel
theorem dX4_gather_1 : decode cX4_gather 1 = .ok (.iconst 0, 1) := by decide +kernel
theorem dX4_gather_2 : decode cX4_gather 2 = .ok (.putfield 21, 3) := by decide +kernel
theorem dX4_gather_5 : decode cX4_gather 5 = .ok (.iconst 0, 1) := by decide +kernel
theorem dX4_gather_6 : decode cX4_gather 6 = .ok (.istore_n 2, 1) := by decide +kernel
theorem dX4_gather_7 : decode cX4_gather 7 = .ok (.iload_n 2, 1) := by decide +kernel
theorem dX4_gather_8 : decode cX4_gather 8 = .ok (.aload_n 1, 1) := by decide +kernel
theorem dX4_gather_9 : decode cX4_gather 9 = .ok (.invokevirtual 43, 3) := by decide +kernel
theorem dX4_gather_12 : decode cX4_gather 12 = .ok (.if_icmp .ge 76, 3) := by decide +kernel
theorem dX4_gather_15 : decode cX4_gather 15 = .ok (.iload_n 2, 1) := by decide +kernel
theorem dX4_gather_16 : decode cX4_gather 16 = .ok (.aload_n 0, 1) := by decide +kernel
theorem dX4_gather_17 : decode cX4_gather 17 = .ok (.getfield 9, 3) := by decide +kernel
theorem dX4_gather_20 : decode cX4_gather 20 = .ok (.arraylength, 1) := by decide +kernel
theorem dX4_gather_21 : decode cX4_gather 21 = .ok (.if_icmp .ge 67, 3) := by decide +kernel
theorem dX4_gather_24 : decode cX4_gather 24 = .ok (.aload_n 0, 1) := by decide +kernel
theorem dX4_gather_25 : decode cX4_gather 25 = .ok (.getfield 21, 3) := by decide +kernel
theorem dX4_gather_28 : decode cX4_gather 28 = .ok (.aload_n 0, 1) := by decide +kernel
theorem dX4_gather_29 : decode cX4_gather 29 = .ok (.getfield 15, 3) := by decide +kernel
theorem dX4_gather_32 : decode cX4_gather 32 = .ok (.arraylength, 1) := by decide +kernel
theorem dX4_gather_33 : decode cX4_gather 33 = .ok (.if_icmp .ge 55, 3) := by decide +kernel
theorem dX4_gather_36 : decode cX4_gather 36 = .ok (.aload_n 1, 1) := by decide +kernel
theorem dX4_gather_37 : decode cX4_gather 37 = .ok (.iload_n 2, 1) := by decide +kernel
theorem dX4_gather_38 : decode cX4_gather 38 = .ok (.invokevirtual 49, 3) := by decide +kernel
theorem dX4_gather_41 : decode cX4_gather 41 = .ok (.checkcast 53, 3) := by decide +kernel
theorem dX4_gather_44 : decode cX4_gather 44 = .ok (.astore_n 3, 1) := by decide +kernel
theorem dX4_gather_45 : decode cX4_gather 45 = .ok (.aload_n 0, 1) := by decide +kernel
theorem dX4_gather_46 : decode cX4_gather 46 = .ok (.getfield 9, 3) := by decide +kernel
theorem dX4_gather_49 : decode cX4_gather 49 = .ok (.iload_n 2, 1) := by decide +kernel
theorem dX4_gather_50 : decode cX4_gather 50 = .ok (.aload_n 3, 1) := by decide +kernel
theorem dX4_gather_51 : decode cX4_gather 51 = .ok (.getfield 55, 3) := by decide +kernel
theorem dX4_gather_54 : decode cX4_gather 54 = .ok (.iastore, 1) := by decide +kernel
theorem dX4_gather_55 : decode cX4_gather 55 = .ok (.aload_n 3, 1) := by decide +kernel
theorem dX4_gather_56 : decode cX4_gather 56 = .ok (.invokevirtual 58, 3) := by decide +kernel
theorem dX4_gather_59 : decode cX4_gather 59 = .ok (.ifCond .eq 23, 3) := by decide +kernel
theorem dX4_gather_62 : decode cX4_gather 62 = .ok (.aload_n 0, 1) := by decide +kernel
theorem dX4_gather_63 : decode cX4_gather 63 = .ok (.getfield 15, 3) := by decide +kernel
theorem dX4_gather_66 : decode cX4_gather 66 = .ok (.aload_n 0, 1) := by decide +kernel
theorem dX4_gather_67 : decode cX4_gather 67 = .ok (.getfield 21, 3) := by decide +kernel
theorem dX4_gather_70 : decode cX4_gather 70 = .ok (.iload_n 2, 1) := by decide +kernel
theorem dX4_gather_71 : decode cX4_gather 71 = .ok (.iastore, 1) := by decide +kernel
theorem dX4_gather_72 : decode cX4_gather 72 = .ok (.aload_n 0, 1) := by decide +kernel
theorem dX4_gather_73 : decode cX4_gather 73 = .ok (.dup, 1) := by decide +kernel
theorem dX4_gather_74 : decode cX4_gather 74 = .ok (.getfield 21, 3) := by decide +kernel
theorem dX4_gather_77 : decode cX4_gather 77 = .ok (.iconst 1, 1) := by decide +kernel
theorem dX4_gather_78 : decode cX4_gather 78 = .ok (.iadd, 1) := by decide +kernel
theorem dX4_gather_79 : decode cX4_gather 79 = .ok (.putfield 21, 3) := by decide +kernel
theorem dX4_gather_82 : decode cX4_gather 82 = .ok (.iinc 2 1, 3) := by decide +kernel
theorem dX4_gather_85 : decode cX4_gather 85 = .ok (.goto (-78), 3) := by decide +kernel
theorem dX4_gather_88 : decode cX4_gather 88 = .ok (.return_, 1) := by decide +kernel
theorem dX4_measureOrder_0 : decode cX4_measureOrder 0 = .ok (.iconst 0, 1) := by decide +kernel
theorem dX4_measureOrder_1 : decode cX4_measureOrder 1 = .ok (.istore_n 2, 1) := by decide +kernel
theorem dX4_measureOrder_2 : decode cX4_measureOrder 2 = .ok (.iload_n 1, 1) := by decide +kernel
theorem dX4_measureOrder_3 : decode cX4_measureOrder 3 = .ok (.istore_n 3, 1) := by decide +kernel
theorem dX4_measureOrder_4 : decode cX4_measureOrder 4 = .ok (.iconst 0, 1) := by decide +kernel
theorem dX4_measureOrder_5 : decode cX4_measureOrder 5 = .ok (.istore 4, 2) := by decide +kernel
theorem dX4_measureOrder_7 : decode cX4_measureOrder 7 = .ok (.iload 4, 2) := by decide +kernel
theorem dX4_measureOrder_9 : decode cX4_measureOrder 9 = .ok (.aload_n 0, 1) := by decide +kernel
theorem dX4_measureOrder_10 : decode cX4_measureOrder 10 = .ok (.getfield 21, 3) := by decide +kernel
theorem dX4_measureOrder_13 : decode cX4_measureOrder 13 = .ok (.if_icmp .ge 69, 3) := by decide +kernel
theorem dX4_measureOrder_16 : decode cX4_measureOrder 16 = .ok (.iload 4, 2) := by decide +kernel
theorem dX4_measureOrder_18 : decode cX4_measureOrder 18 = .ok (.aload_n 0, 1) := by decide +kernel
theorem dX4_measureOrder_19 : decode cX4_measureOrder 19 = .ok (.getfield 15, 3) := by decide +kernel
theorem dX4_measureOrder_22 : decode cX4_measureOrder 22 = .ok (.arraylength, 1) := by decide +kernel
theorem dX4_measureOrder_23 : decode cX4_measureOrder 23 = .ok (.if_icmp .ge 59, 3) := by decide +kernel
theorem dX4_measureOrder_26 : decode cX4_measureOrder 26 = .ok (.aload_n 0, 1) := by decide +kernel
theorem dX4_measureOrder_27 : decode cX4_measureOrder 27 = .ok (.getfield 15, 3) := by decide +kernel
theorem dX4_measureOrder_30 : decode cX4_measureOrder 30 = .ok (.iload 4, 2) := by decide +kernel
theorem dX4_measureOrder_32 : decode cX4_measureOrder 32 = .ok (.iaload, 1) := by decide +kernel
theorem dX4_measureOrder_33 : decode cX4_measureOrder 33 = .ok (.istore 5, 2) := by decide +kernel
theorem dX4_measureOrder_35 : decode cX4_measureOrder 35 = .ok (.iload 5, 2) := by decide +kernel
theorem dX4_measureOrder_37 : decode cX4_measureOrder 37 = .ok (.ifCond .lt 23, 3) := by decide +kernel
theorem dX4_measureOrder_40 : decode cX4_measureOrder 40 = .ok (.iload 5, 2) := by decide +kernel
theorem dX4_measureOrder_42 : decode cX4_measureOrder 42 = .ok (.aload_n 0, 1) := by decide +kernel
theorem dX4_measureOrder_43 : decode cX4_measureOrder 43 = .ok (.getfield 9, 3) := by decide +kernel
theorem dX4_measureOrder_46 : decode cX4_measureOrder 46 = .ok (.arraylength, 1) := by decide +kernel
theorem dX4_measureOrder_47 : decode cX4_measureOrder 47 = .ok (.if_icmp .ge 13, 3) := by decide +kernel
theorem dX4_measureOrder_50 : decode cX4_measureOrder 50 = .ok (.aload_n 0, 1) := by decide +kernel
theorem dX4_measureOrder_51 : decode cX4_measureOrder 51 = .ok (.getfield 9, 3) := by decide +kernel
theorem dX4_measureOrder_54 : decode cX4_measureOrder 54 = .ok (.iload 5, 2) := by decide +kernel
theorem dX4_measureOrder_56 : decode cX4_measureOrder 56 = .ok (.iaload, 1) := by decide +kernel
theorem dX4_measureOrder_57 : decode cX4_measureOrder 57 = .ok (.goto 4, 3) := by decide +kernel
theorem dX4_measureOrder_60 : decode cX4_measureOrder 60 = .ok (.iload_n 3, 1) := by decide +kernel
theorem dX4_measureOrder_61 : decode cX4_measureOrder 61 = .ok (.istore 6, 2) := by decide +kernel
theorem dX4_measureOrder_63 : decode cX4_measureOrder 63 = .ok (.iload_n 2, 1) := by decide +kernel
theorem dX4_measureOrder_64 : decode cX4_measureOrder 64 = .ok (.iload 6, 2) := by decide +kernel
theorem dX4_measureOrder_66 : decode cX4_measureOrder 66 = .ok (.iload_n 3, 1) := by decide +kernel
theorem dX4_measureOrder_67 : decode cX4_measureOrder 67 = .ok (.isub, 1) := by decide +kernel
theorem dX4_measureOrder_68 : decode cX4_measureOrder 68 = .ok (.invokestatic 61, 3) := by decide +kernel
theorem dX4_measureOrder_71 : decode cX4_measureOrder 71 = .ok (.iadd, 1) := by decide +kernel
theorem dX4_measureOrder_72 : decode cX4_measureOrder 72 = .ok (.istore_n 2, 1) := by decide +kernel
theorem dX4_measureOrder_73 : decode cX4_measureOrder 73 = .ok (.iload 6, 2) := by decide +kernel
theorem dX4_measureOrder_75 : decode cX4_measureOrder 75 = .ok (.istore_n 3, 1) := by decide +kernel
theorem dX4_measureOrder_76 : decode cX4_measureOrder 76 = .ok (.iinc 4 1, 3) := by decide +kernel
theorem dX4_measureOrder_79 : decode cX4_measureOrder 79 = .ok (.goto (-72), 3) := by decide +kernel
theorem dX4_measureOrder_82 : decode cX4_measureOrder 82 = .ok (.iload_n 2, 1) := by decide +kernel
theorem dX4_measureOrder_83 : decode cX4_measureOrder 83 = .ok (.ireturn, 1) := by decide +kernel
theorem dX4_keepOrder_0 : decode cX4_keepOrder 0 = .ok (.iconst 0, 1) := by decide +kernel
theorem dX4_keepOrder_1 : decode cX4_keepOrder 1 = .ok (.istore_n 1, 1) := by decide +kernel
theorem dX4_keepOrder_2 : decode cX4_keepOrder 2 = .ok (.iload_n 1, 1) := by decide +kernel
theorem dX4_keepOrder_3 : decode cX4_keepOrder 3 = .ok (.aload_n 0, 1) := by decide +kernel
theorem dX4_keepOrder_4 : decode cX4_keepOrder 4 = .ok (.getfield 21, 3) := by decide +kernel
theorem dX4_keepOrder_7 : decode cX4_keepOrder 7 = .ok (.if_icmp .ge 39, 3) := by decide +kernel
theorem dX4_keepOrder_10 : decode cX4_keepOrder 10 = .ok (.iload_n 1, 1) := by decide +kernel
theorem dX4_keepOrder_11 : decode cX4_keepOrder 11 = .ok (.aload_n 0, 1) := by decide +kernel
theorem dX4_keepOrder_12 : decode cX4_keepOrder 12 = .ok (.getfield 15, 3) := by decide +kernel
theorem dX4_keepOrder_15 : decode cX4_keepOrder 15 = .ok (.arraylength, 1) := by decide +kernel
theorem dX4_keepOrder_16 : decode cX4_keepOrder 16 = .ok (.if_icmp .ge 30, 3) := by decide +kernel
theorem dX4_keepOrder_19 : decode cX4_keepOrder 19 = .ok (.iload_n 1, 1) := by decide +kernel
theorem dX4_keepOrder_20 : decode cX4_keepOrder 20 = .ok (.aload_n 0, 1) := by decide +kernel
theorem dX4_keepOrder_21 : decode cX4_keepOrder 21 = .ok (.getfield 18, 3) := by decide +kernel
theorem dX4_keepOrder_24 : decode cX4_keepOrder 24 = .ok (.arraylength, 1) := by decide +kernel
theorem dX4_keepOrder_25 : decode cX4_keepOrder 25 = .ok (.if_icmp .ge 21, 3) := by decide +kernel
theorem dX4_keepOrder_28 : decode cX4_keepOrder 28 = .ok (.aload_n 0, 1) := by decide +kernel
theorem dX4_keepOrder_29 : decode cX4_keepOrder 29 = .ok (.getfield 18, 3) := by decide +kernel
theorem dX4_keepOrder_32 : decode cX4_keepOrder 32 = .ok (.iload_n 1, 1) := by decide +kernel
theorem dX4_keepOrder_33 : decode cX4_keepOrder 33 = .ok (.aload_n 0, 1) := by decide +kernel
theorem dX4_keepOrder_34 : decode cX4_keepOrder 34 = .ok (.getfield 15, 3) := by decide +kernel
theorem dX4_keepOrder_37 : decode cX4_keepOrder 37 = .ok (.iload_n 1, 1) := by decide +kernel
theorem dX4_keepOrder_38 : decode cX4_keepOrder 38 = .ok (.iaload, 1) := by decide +kernel
theorem dX4_keepOrder_39 : decode cX4_keepOrder 39 = .ok (.iastore, 1) := by decide +kernel
theorem dX4_keepOrder_40 : decode cX4_keepOrder 40 = .ok (.iinc 1 1, 3) := by decide +kernel
theorem dX4_keepOrder_43 : decode cX4_keepOrder 43 = .ok (.goto (-41), 3) := by decide +kernel
theorem dX4_keepOrder_46 : decode cX4_keepOrder 46 = .ok (.return_, 1) := by decide +kernel
set_option maxRecDepth 20000 in
theorem ggX4_nextOrder_X4_swapOrder : GoodIn wsX4_nextOrder wsX4_swapOrder := goodIn_r _ [11, 2, 12, 13, 14, 15, 16] (by decide +kernel) (by decide +kernel)
set_option maxRecDepth 20000 in
theorem gX4_nextOrder_X4_swapOrder : GoodIn wsX4_nextOrder (wsV RX4 70 RX4 yX4_swapOrder wsX4_swapOrder) := goodIn_app (goodIn_of _ (by decide +kernel)) ggX4_nextOrder_X4_swapOrder
theorem dX4_nextOrder_0 : decode cX4_nextOrder 0 = .ok (.aload_n 0, 1) := by decide +kernel
theorem dX4_nextOrder_1 : decode cX4_nextOrder 1 = .ok (.getfield 21, 3) := by decide +kernel
theorem dX4_nextOrder_4 : decode cX4_nextOrder 4 = .ok (.aload_n 0, 1) := by decide +kernel
theorem dX4_nextOrder_5 : decode cX4_nextOrder 5 = .ok (.getfield 15, 3) := by decide +kernel
theorem dX4_nextOrder_8 : decode cX4_nextOrder 8 = .ok (.arraylength, 1) := by decide +kernel
theorem dX4_nextOrder_9 : decode cX4_nextOrder 9 = .ok (.invokestatic 66, 3) := by decide +kernel
theorem dX4_nextOrder_12 : decode cX4_nextOrder 12 = .ok (.iconst 2, 1) := by decide +kernel
theorem dX4_nextOrder_13 : decode cX4_nextOrder 13 = .ok (.isub, 1) := by decide +kernel
theorem dX4_nextOrder_14 : decode cX4_nextOrder 14 = .ok (.istore_n 1, 1) := by decide +kernel
theorem dX4_nextOrder_15 : decode cX4_nextOrder 15 = .ok (.iload_n 1, 1) := by decide +kernel
theorem dX4_nextOrder_16 : decode cX4_nextOrder 16 = .ok (.ifCond .lt 26, 3) := by decide +kernel
theorem dX4_nextOrder_19 : decode cX4_nextOrder 19 = .ok (.aload_n 0, 1) := by decide +kernel
theorem dX4_nextOrder_20 : decode cX4_nextOrder 20 = .ok (.getfield 15, 3) := by decide +kernel
theorem dX4_nextOrder_23 : decode cX4_nextOrder 23 = .ok (.iload_n 1, 1) := by decide +kernel
theorem dX4_nextOrder_24 : decode cX4_nextOrder 24 = .ok (.iaload, 1) := by decide +kernel
theorem dX4_nextOrder_25 : decode cX4_nextOrder 25 = .ok (.aload_n 0, 1) := by decide +kernel
theorem dX4_nextOrder_26 : decode cX4_nextOrder 26 = .ok (.getfield 15, 3) := by decide +kernel
theorem dX4_nextOrder_29 : decode cX4_nextOrder 29 = .ok (.iload_n 1, 1) := by decide +kernel
theorem dX4_nextOrder_30 : decode cX4_nextOrder 30 = .ok (.iconst 1, 1) := by decide +kernel
theorem dX4_nextOrder_31 : decode cX4_nextOrder 31 = .ok (.iadd, 1) := by decide +kernel
theorem dX4_nextOrder_32 : decode cX4_nextOrder 32 = .ok (.iaload, 1) := by decide +kernel
theorem dX4_nextOrder_33 : decode cX4_nextOrder 33 = .ok (.if_icmp .le 9, 3) := by decide +kernel
theorem dX4_nextOrder_36 : decode cX4_nextOrder 36 = .ok (.iinc 1 (-1), 3) := by decide +kernel
theorem dX4_nextOrder_39 : decode cX4_nextOrder 39 = .ok (.goto (-24), 3) := by decide +kernel
theorem dX4_nextOrder_42 : decode cX4_nextOrder 42 = .ok (.iload_n 1, 1) := by decide +kernel
theorem dX4_nextOrder_43 : decode cX4_nextOrder 43 = .ok (.ifCond .ge 5, 3) := by decide +kernel
theorem dX4_nextOrder_46 : decode cX4_nextOrder 46 = .ok (.iconst 0, 1) := by decide +kernel
theorem dX4_nextOrder_47 : decode cX4_nextOrder 47 = .ok (.ireturn, 1) := by decide +kernel
theorem dX4_nextOrder_48 : decode cX4_nextOrder 48 = .ok (.aload_n 0, 1) := by decide +kernel
theorem dX4_nextOrder_49 : decode cX4_nextOrder 49 = .ok (.getfield 21, 3) := by decide +kernel
theorem dX4_nextOrder_52 : decode cX4_nextOrder 52 = .ok (.aload_n 0, 1) := by decide +kernel
theorem dX4_nextOrder_53 : decode cX4_nextOrder 53 = .ok (.getfield 15, 3) := by decide +kernel
theorem dX4_nextOrder_56 : decode cX4_nextOrder 56 = .ok (.arraylength, 1) := by decide +kernel
theorem dX4_nextOrder_57 : decode cX4_nextOrder 57 = .ok (.invokestatic 66, 3) := by decide +kernel
theorem dX4_nextOrder_60 : decode cX4_nextOrder 60 = .ok (.iconst 1, 1) := by decide +kernel
theorem dX4_nextOrder_61 : decode cX4_nextOrder 61 = .ok (.isub, 1) := by decide +kernel
theorem dX4_nextOrder_62 : decode cX4_nextOrder 62 = .ok (.istore_n 2, 1) := by decide +kernel
theorem dX4_nextOrder_63 : decode cX4_nextOrder 63 = .ok (.iload_n 2, 1) := by decide +kernel
theorem dX4_nextOrder_64 : decode cX4_nextOrder 64 = .ok (.istore_n 3, 1) := by decide +kernel
theorem dX4_nextOrder_65 : decode cX4_nextOrder 65 = .ok (.iload_n 3, 1) := by decide +kernel
theorem dX4_nextOrder_66 : decode cX4_nextOrder 66 = .ok (.iload_n 1, 1) := by decide +kernel
theorem dX4_nextOrder_67 : decode cX4_nextOrder 67 = .ok (.if_icmp .le 24, 3) := by decide +kernel
theorem dX4_nextOrder_70 : decode cX4_nextOrder 70 = .ok (.aload_n 0, 1) := by decide +kernel
theorem dX4_nextOrder_71 : decode cX4_nextOrder 71 = .ok (.getfield 15, 3) := by decide +kernel
theorem dX4_nextOrder_74 : decode cX4_nextOrder 74 = .ok (.iload_n 3, 1) := by decide +kernel
theorem dX4_nextOrder_75 : decode cX4_nextOrder 75 = .ok (.iaload, 1) := by decide +kernel
theorem dX4_nextOrder_76 : decode cX4_nextOrder 76 = .ok (.aload_n 0, 1) := by decide +kernel
theorem dX4_nextOrder_77 : decode cX4_nextOrder 77 = .ok (.getfield 15, 3) := by decide +kernel
theorem dX4_nextOrder_80 : decode cX4_nextOrder 80 = .ok (.iload_n 1, 1) := by decide +kernel
theorem dX4_nextOrder_81 : decode cX4_nextOrder 81 = .ok (.iaload, 1) := by decide +kernel
theorem dX4_nextOrder_82 : decode cX4_nextOrder 82 = .ok (.if_icmp .ge 9, 3) := by decide +kernel
theorem dX4_nextOrder_85 : decode cX4_nextOrder 85 = .ok (.iinc 3 (-1), 3) := by decide +kernel
theorem dX4_nextOrder_88 : decode cX4_nextOrder 88 = .ok (.goto (-23), 3) := by decide +kernel
theorem dX4_nextOrder_91 : decode cX4_nextOrder 91 = .ok (.aload_n 0, 1) := by decide +kernel
theorem dX4_nextOrder_92 : decode cX4_nextOrder 92 = .ok (.iload_n 1, 1) := by decide +kernel
theorem dX4_nextOrder_93 : decode cX4_nextOrder 93 = .ok (.iload_n 3, 1) := by decide +kernel
theorem dX4_nextOrder_94 : decode cX4_nextOrder 94 = .ok (.invokevirtual 70, 3) := by decide +kernel
theorem dX4_nextOrder_97 : decode cX4_nextOrder 97 = .ok (.iload_n 1, 1) := by decide +kernel
theorem dX4_nextOrder_98 : decode cX4_nextOrder 98 = .ok (.iconst 1, 1) := by decide +kernel
theorem dX4_nextOrder_99 : decode cX4_nextOrder 99 = .ok (.iadd, 1) := by decide +kernel
theorem dX4_nextOrder_100 : decode cX4_nextOrder 100 = .ok (.istore 4, 2) := by decide +kernel
theorem dX4_nextOrder_102 : decode cX4_nextOrder 102 = .ok (.iload_n 2, 1) := by decide +kernel
theorem dX4_nextOrder_103 : decode cX4_nextOrder 103 = .ok (.istore 5, 2) := by decide +kernel
theorem dX4_nextOrder_105 : decode cX4_nextOrder 105 = .ok (.iload 4, 2) := by decide +kernel
theorem dX4_nextOrder_107 : decode cX4_nextOrder 107 = .ok (.iload 5, 2) := by decide +kernel
theorem dX4_nextOrder_109 : decode cX4_nextOrder 109 = .ok (.if_icmp .ge 20, 3) := by decide +kernel
theorem dX4_nextOrder_112 : decode cX4_nextOrder 112 = .ok (.aload_n 0, 1) := by decide +kernel
theorem dX4_nextOrder_113 : decode cX4_nextOrder 113 = .ok (.iload 4, 2) := by decide +kernel
theorem dX4_nextOrder_115 : decode cX4_nextOrder 115 = .ok (.iload 5, 2) := by decide +kernel
theorem dX4_nextOrder_117 : decode cX4_nextOrder 117 = .ok (.invokevirtual 70, 3) := by decide +kernel
theorem dX4_nextOrder_120 : decode cX4_nextOrder 120 = .ok (.iinc 4 1, 3) := by decide +kernel
theorem dX4_nextOrder_123 : decode cX4_nextOrder 123 = .ok (.iinc 5 (-1), 3) := by decide +kernel
theorem dX4_nextOrder_126 : decode cX4_nextOrder 126 = .ok (.goto (-21), 3) := by decide +kernel
theorem dX4_nextOrder_129 : decode cX4_nextOrder 129 = .ok (.iconst 1, 1) := by decide +kernel
theorem dX4_nextOrder_130 : decode cX4_nextOrder 130 = .ok (.ireturn, 1) := by decide +kernel
theorem dX4_swapOrder_0 : decode cX4_swapOrder 0 = .ok (.iload_n 1, 1) := by decide +kernel
theorem dX4_swapOrder_1 : decode cX4_swapOrder 1 = .ok (.ifCond .lt 51, 3) := by decide +kernel
theorem dX4_swapOrder_4 : decode cX4_swapOrder 4 = .ok (.iload_n 1, 1) := by decide +kernel
theorem dX4_swapOrder_5 : decode cX4_swapOrder 5 = .ok (.aload_n 0, 1) := by decide +kernel
theorem dX4_swapOrder_6 : decode cX4_swapOrder 6 = .ok (.getfield 15, 3) := by decide +kernel
theorem dX4_swapOrder_9 : decode cX4_swapOrder 9 = .ok (.arraylength, 1) := by decide +kernel
theorem dX4_swapOrder_10 : decode cX4_swapOrder 10 = .ok (.if_icmp .ge 42, 3) := by decide +kernel
theorem dX4_swapOrder_13 : decode cX4_swapOrder 13 = .ok (.iload_n 2, 1) := by decide +kernel
theorem dX4_swapOrder_14 : decode cX4_swapOrder 14 = .ok (.ifCond .lt 38, 3) := by decide +kernel
theorem dX4_swapOrder_17 : decode cX4_swapOrder 17 = .ok (.iload_n 2, 1) := by decide +kernel
theorem dX4_swapOrder_18 : decode cX4_swapOrder 18 = .ok (.aload_n 0, 1) := by decide +kernel
theorem dX4_swapOrder_19 : decode cX4_swapOrder 19 = .ok (.getfield 15, 3) := by decide +kernel
theorem dX4_swapOrder_22 : decode cX4_swapOrder 22 = .ok (.arraylength, 1) := by decide +kernel
theorem dX4_swapOrder_23 : decode cX4_swapOrder 23 = .ok (.if_icmp .ge 29, 3) := by decide +kernel
theorem dX4_swapOrder_26 : decode cX4_swapOrder 26 = .ok (.aload_n 0, 1) := by decide +kernel
theorem dX4_swapOrder_27 : decode cX4_swapOrder 27 = .ok (.getfield 15, 3) := by decide +kernel
theorem dX4_swapOrder_30 : decode cX4_swapOrder 30 = .ok (.iload_n 1, 1) := by decide +kernel
theorem dX4_swapOrder_31 : decode cX4_swapOrder 31 = .ok (.iaload, 1) := by decide +kernel
theorem dX4_swapOrder_32 : decode cX4_swapOrder 32 = .ok (.istore_n 3, 1) := by decide +kernel
theorem dX4_swapOrder_33 : decode cX4_swapOrder 33 = .ok (.aload_n 0, 1) := by decide +kernel
theorem dX4_swapOrder_34 : decode cX4_swapOrder 34 = .ok (.getfield 15, 3) := by decide +kernel
theorem dX4_swapOrder_37 : decode cX4_swapOrder 37 = .ok (.iload_n 1, 1) := by decide +kernel
theorem dX4_swapOrder_38 : decode cX4_swapOrder 38 = .ok (.aload_n 0, 1) := by decide +kernel
theorem dX4_swapOrder_39 : decode cX4_swapOrder 39 = .ok (.getfield 15, 3) := by decide +kernel
theorem dX4_swapOrder_42 : decode cX4_swapOrder 42 = .ok (.iload_n 2, 1) := by decide +kernel
theorem dX4_swapOrder_43 : decode cX4_swapOrder 43 = .ok (.iaload, 1) := by decide +kernel
theorem dX4_swapOrder_44 : decode cX4_swapOrder 44 = .ok (.iastore, 1) := by decide +kernel
theorem dX4_swapOrder_45 : decode cX4_swapOrder 45 = .ok (.aload_n 0, 1) := by decide +kernel
theorem dX4_swapOrder_46 : decode cX4_swapOrder 46 = .ok (.getfield 15, 3) := by decide +kernel
theorem dX4_swapOrder_49 : decode cX4_swapOrder 49 = .ok (.iload_n 2, 1) := by decide +kernel
theorem dX4_swapOrder_50 : decode cX4_swapOrder 50 = .ok (.iload_n 3, 1) := by decide +kernel
theorem dX4_swapOrder_51 : decode cX4_swapOrder 51 = .ok (.iastore, 1) := by decide +kernel
theorem dX4_swapOrder_52 : decode cX4_swapOrder 52 = .ok (.return_, 1) := by decide +kernel
theorem dX5_init_0 : decode cX5_init 0 = .ok (.aload_n 0, 1) := by decide +kernel
theorem dX5_init_1 : decode cX5_init 1 = .ok (.invokespecial 3, 3) := by decide +kernel
theorem dX5_init_4 : decode cX5_init 4 = .ok (.aload_n 0, 1) := by decide +kernel
theorem dX5_init_5 : decode cX5_init 5 = .ok (.iconst 3, 1) := by decide +kernel
theorem dX5_init_6 : decode cX5_init 6 = .ok (.newarray .int, 2) := by decide +kernel
theorem dX5_init_8 : decode cX5_init 8 = .ok (.putfield 9, 3) := by decide +kernel
theorem dX5_init_11 : decode cX5_init 11 = .ok (.aload_n 0, 1) := by decide +kernel
theorem dX5_init_12 : decode cX5_init 12 = .ok (.iconst 3, 1) := by decide +kernel
theorem dX5_init_13 : decode cX5_init 13 = .ok (.newarray .int, 2) := by decide +kernel
theorem dX5_init_15 : decode cX5_init 15 = .ok (.putfield 15, 3) := by decide +kernel
theorem dX5_init_18 : decode cX5_init 18 = .ok (.aload_n 0, 1) := by decide +kernel
theorem dX5_init_19 : decode cX5_init 19 = .ok (.iconst 0, 1) := by decide +kernel
theorem dX5_init_20 : decode cX5_init 20 = .ok (.putfield 18, 3) := by decide +kernel
theorem dX5_init_23 : decode cX5_init 23 = .ok (.aload_n 0, 1) := by decide +kernel
theorem dX5_init_24 : decode cX5_init 24 = .ok (.iconst 0, 1) := by decide +kernel
theorem dX5_init_25 : decode cX5_init 25 = .ok (.putfield 22, 3) := by decide +kernel
theorem dX5_init_28 : decode cX5_init 28 = .ok (.return_, 1) := by decide +kernel
theorem dX5_restart_0 : decode cX5_restart 0 = .ok (.aload_n 0, 1) := by decide +kernel
theorem dX5_restart_1 : decode cX5_restart 1 = .ok (.iconst 0, 1) := by decide +kernel
theorem dX5_restart_2 : decode cX5_restart 2 = .ok (.putfield 18, 3) := by decide +kernel
theorem dX5_restart_5 : decode cX5_restart 5 = .ok (.aload_n 0, 1) := by decide +kernel
theorem dX5_restart_6 : decode cX5_restart 6 = .ok (.iconst 0, 1) := by decide +kernel
theorem dX5_restart_7 : decode cX5_restart 7 = .ok (.putfield 22, 3) := by decide +kernel
theorem dX5_restart_10 : decode cX5_restart 10 = .ok (.return_, 1) := by decide +kernel
set_option maxRecDepth 20000 in
theorem ggX5_takeSwitch_X6_modeOf : GoodIn wsX5_takeSwitch wsX6_modeOf := goodIn_r _ [13, 14, 39, 40] (by decide +kernel) (by decide +kernel)
set_option maxRecDepth 20000 in
theorem gX5_takeSwitch_X6_modeOf : GoodIn wsX5_takeSwitch (wsV RX5 25 RX6 yX6_modeOf wsX6_modeOf) := goodIn_app (goodIn_of _ (by decide +kernel)) ggX5_takeSwitch_X6_modeOf
set_option maxRecDepth 20000 in
theorem ggX5_takeSwitch_X6_pointsOf : GoodIn wsX5_takeSwitch wsX6_pointsOf := goodIn_r _ [18, 19, 39, 40] (by decide +kernel) (by decide +kernel)
set_option maxRecDepth 20000 in
theorem gX5_takeSwitch_X6_pointsOf : GoodIn wsX5_takeSwitch (wsV RX5 31 RX6 yX6_pointsOf wsX6_pointsOf) := goodIn_app (goodIn_of _ (by decide +kernel)) ggX5_takeSwitch_X6_pointsOf
set_option maxRecDepth 20000 in
theorem ggX5_takeSwitch_X5_beginMode : GoodIn wsX5_takeSwitch wsX5_beginMode := goodIn_r _ [24, 1, 2, 5, 25, 9, 10, 11, 12, 13, 14, 26, 27, 28, 23, 29, 30, 31, 32, 33, 34, 35, 36, 37, 38, 39, 40] (by decide +kernel) (by decide +kernel)
set_option maxRecDepth 20000 in
theorem gX5_takeSwitch_X5_beginMode : GoodIn wsX5_takeSwitch (wsV RX5 49 RX5 yX5_beginMode wsX5_beginMode) := goodIn_app (goodIn_of _ (by decide +kernel)) ggX5_takeSwitch_X5_beginMode
theorem dX5_takeSwitch_0 : decode cX5_takeSwitch 0 = .ok (.aload_n 0, 1) := by decide +kernel
theorem dX5_takeSwitch_1 : decode cX5_takeSwitch 1 = .ok (.getfield 18, 3) := by decide +kernel
theorem dX5_takeSwitch_4 : decode cX5_takeSwitch 4 = .ok (.iconst 1, 1) := by decide +kernel
theorem dX5_takeSwitch_5 : decode cX5_takeSwitch 5 = .ok (.isub, 1) := by decide +kernel
theorem dX5_takeSwitch_6 : decode cX5_takeSwitch 6 = .ok (.istore_n 3, 1) := by decide +kernel
theorem dX5_takeSwitch_7 : decode cX5_takeSwitch 7 = .ok (.iload_n 3, 1) := by decide +kernel
theorem dX5_takeSwitch_8 : decode cX5_takeSwitch 8 = .ok (.ifCond .lt 25, 3) := by decide +kernel
theorem dX5_takeSwitch_11 : decode cX5_takeSwitch 11 = .ok (.iload_n 3, 1) := by decide +kernel
theorem dX5_takeSwitch_12 : decode cX5_takeSwitch 12 = .ok (.aload_n 0, 1) := by decide +kernel
theorem dX5_takeSwitch_13 : decode cX5_takeSwitch 13 = .ok (.getfield 9, 3) := by decide +kernel
theorem dX5_takeSwitch_16 : decode cX5_takeSwitch 16 = .ok (.arraylength, 1) := by decide +kernel
theorem dX5_takeSwitch_17 : decode cX5_takeSwitch 17 = .ok (.if_icmp .ge 16, 3) := by decide +kernel
theorem dX5_takeSwitch_20 : decode cX5_takeSwitch 20 = .ok (.aload_n 1, 1) := by decide +kernel
theorem dX5_takeSwitch_21 : decode cX5_takeSwitch 21 = .ok (.aload_n 0, 1) := by decide +kernel
theorem dX5_takeSwitch_22 : decode cX5_takeSwitch 22 = .ok (.getfield 9, 3) := by decide +kernel
theorem dX5_takeSwitch_25 : decode cX5_takeSwitch 25 = .ok (.iload_n 3, 1) := by decide +kernel
theorem dX5_takeSwitch_26 : decode cX5_takeSwitch 26 = .ok (.iaload, 1) := by decide +kernel
theorem dX5_takeSwitch_27 : decode cX5_takeSwitch 27 = .ok (.invokevirtual 25, 3) := by decide +kernel
theorem dX5_takeSwitch_30 : decode cX5_takeSwitch 30 = .ok (.goto 4, 3) := by decide +kernel
theorem dX5_takeSwitch_33 : decode cX5_takeSwitch 33 = .ok (.aconst_null, 1) := by decide +kernel
theorem dX5_takeSwitch_34 : decode cX5_takeSwitch 34 = .ok (.astore 4, 2) := by decide +kernel
theorem dX5_takeSwitch_36 : decode cX5_takeSwitch 36 = .ok (.aload_n 0, 1) := by decide +kernel
theorem dX5_takeSwitch_37 : decode cX5_takeSwitch 37 = .ok (.dup, 1) := by decide +kernel
theorem dX5_takeSwitch_38 : decode cX5_takeSwitch 38 = .ok (.getfield 22, 3) := by decide +kernel
theorem dX5_takeSwitch_41 : decode cX5_takeSwitch 41 = .ok (.aload_n 1, 1) := by decide +kernel
theorem dX5_takeSwitch_42 : decode cX5_takeSwitch 42 = .ok (.iload_n 2, 1) := by decide +kernel
theorem dX5_takeSwitch_43 : decode cX5_takeSwitch 43 = .ok (.invokevirtual 31, 3) := by decide +kernel
theorem dX5_takeSwitch_46 : decode cX5_takeSwitch 46 = .ok (.aload 4, 2) := by decide +kernel
theorem dX5_takeSwitch_48 : decode cX5_takeSwitch 48 = .ok (.ifnonnull 7, 3) := by decide +kernel
theorem dX5_takeSwitch_51 : decode cX5_takeSwitch 51 = .ok (.iconst 1, 1) := by decide +kernel
theorem dX5_takeSwitch_52 : decode cX5_takeSwitch 52 = .ok (.goto 8, 3) := by decide +kernel
theorem dX5_takeSwitch_55 : decode cX5_takeSwitch 55 = .ok (.aload 4, 2) := by decide +kernel
theorem dX5_takeSwitch_57 : decode cX5_takeSwitch 57 = .ok (.getfield 35, 3) := by decide +kernel
theorem dX5_takeSwitch_60 : decode cX5_takeSwitch 60 = .ok (.imul, 1) := by decide +kernel
theorem dX5_takeSwitch_61 : decode cX5_takeSwitch 61 = .ok (.iadd, 1) := by decide +kernel
theorem dX5_takeSwitch_62 : decode cX5_takeSwitch 62 = .ok (.putfield 22, 3) := by decide +kernel
theorem dX5_takeSwitch_65 : decode cX5_takeSwitch 65 = .ok (.aload 4, 2) := by decide +kernel
theorem dX5_takeSwitch_67 : decode cX5_takeSwitch 67 = .ok (.ifnull 65, 3) := by decide +kernel
theorem dX5_takeSwitch_70 : decode cX5_takeSwitch 70 = .ok (.iload_n 3, 1) := by decide +kernel
theorem dX5_takeSwitch_71 : decode cX5_takeSwitch 71 = .ok (.aload_n 0, 1) := by decide +kernel
theorem dX5_takeSwitch_72 : decode cX5_takeSwitch 72 = .ok (.getfield 15, 3) := by decide +kernel
theorem dX5_takeSwitch_75 : decode cX5_takeSwitch 75 = .ok (.arraylength, 1) := by decide +kernel
theorem dX5_takeSwitch_76 : decode cX5_takeSwitch 76 = .ok (.if_icmp .ge 56, 3) := by decide +kernel
theorem dX5_takeSwitch_79 : decode cX5_takeSwitch 79 = .ok (.aload_n 0, 1) := by decide +kernel
theorem dX5_takeSwitch_80 : decode cX5_takeSwitch 80 = .ok (.getfield 15, 3) := by decide +kernel
theorem dX5_takeSwitch_83 : decode cX5_takeSwitch 83 = .ok (.iload_n 3, 1) := by decide +kernel
theorem dX5_takeSwitch_84 : decode cX5_takeSwitch 84 = .ok (.dup2, 1) := by decide +kernel
theorem dX5_takeSwitch_85 : decode cX5_takeSwitch 85 = .ok (.iaload, 1) := by decide +kernel
theorem dX5_takeSwitch_86 : decode cX5_takeSwitch 86 = .ok (.iconst 1, 1) := by decide +kernel
theorem dX5_takeSwitch_87 : decode cX5_takeSwitch 87 = .ok (.iadd, 1) := by decide +kernel
theorem dX5_takeSwitch_88 : decode cX5_takeSwitch 88 = .ok (.iastore, 1) := by decide +kernel
theorem dX5_takeSwitch_89 : decode cX5_takeSwitch 89 = .ok (.iload_n 2, 1) := by decide +kernel
theorem dX5_takeSwitch_90 : decode cX5_takeSwitch 90 = .ok (.aload 4, 2) := by decide +kernel
theorem dX5_takeSwitch_92 : decode cX5_takeSwitch 92 = .ok (.getfield 40, 3) := by decide +kernel
theorem dX5_takeSwitch_95 : decode cX5_takeSwitch 95 = .ok (.if_icmp .eq 17, 3) := by decide +kernel
theorem dX5_takeSwitch_98 : decode cX5_takeSwitch 98 = .ok (.aload_n 0, 1) := by decide +kernel
theorem dX5_takeSwitch_99 : decode cX5_takeSwitch 99 = .ok (.getfield 15, 3) := by decide +kernel
theorem dX5_takeSwitch_102 : decode cX5_takeSwitch 102 = .ok (.iload_n 3, 1) := by decide +kernel
theorem dX5_takeSwitch_103 : decode cX5_takeSwitch 103 = .ok (.iaload, 1) := by decide +kernel
theorem dX5_takeSwitch_104 : decode cX5_takeSwitch 104 = .ok (.aload 4, 2) := by decide +kernel
theorem dX5_takeSwitch_106 : decode cX5_takeSwitch 106 = .ok (.getfield 43, 3) := by decide +kernel
theorem dX5_takeSwitch_109 : decode cX5_takeSwitch 109 = .ok (.if_icmp .ne 23, 3) := by decide +kernel
theorem dX5_takeSwitch_112 : decode cX5_takeSwitch 112 = .ok (.aload_n 0, 1) := by decide +kernel
theorem dX5_takeSwitch_113 : decode cX5_takeSwitch 113 = .ok (.iload_n 3, 1) := by decide +kernel
theorem dX5_takeSwitch_114 : decode cX5_takeSwitch 114 = .ok (.putfield 18, 3) := by decide +kernel
theorem dX5_takeSwitch_117 : decode cX5_takeSwitch 117 = .ok (.aload_n 0, 1) := by decide +kernel
theorem dX5_takeSwitch_118 : decode cX5_takeSwitch 118 = .ok (.dup, 1) := by decide +kernel
theorem dX5_takeSwitch_119 : decode cX5_takeSwitch 119 = .ok (.getfield 22, 3) := by decide +kernel
theorem dX5_takeSwitch_122 : decode cX5_takeSwitch 122 = .ok (.aload 4, 2) := by decide +kernel
theorem dX5_takeSwitch_124 : decode cX5_takeSwitch 124 = .ok (.getfield 46, 3) := by decide +kernel
theorem dX5_takeSwitch_127 : decode cX5_takeSwitch 127 = .ok (.iadd, 1) := by decide +kernel
theorem dX5_takeSwitch_128 : decode cX5_takeSwitch 128 = .ok (.putfield 22, 3) := by decide +kernel
theorem dX5_takeSwitch_131 : decode cX5_takeSwitch 131 = .ok (.return_, 1) := by decide +kernel
theorem dX5_takeSwitch_132 : decode cX5_takeSwitch 132 = .ok (.aload_n 0, 1) := by decide +kernel
theorem dX5_takeSwitch_133 : decode cX5_takeSwitch 133 = .ok (.aload_n 1, 1) := by decide +kernel
theorem dX5_takeSwitch_134 : decode cX5_takeSwitch 134 = .ok (.iload_n 2, 1) := by decide +kernel
theorem dX5_takeSwitch_135 : decode cX5_takeSwitch 135 = .ok (.invokevirtual 49, 3) := by decide +kernel
theorem dX5_takeSwitch_138 : decode cX5_takeSwitch 138 = .ok (.return_, 1) := by decide +kernel
set_option maxRecDepth 20000 in
theorem ggX5_beginMode_X6_modeOf : GoodIn wsX5_beginMode wsX6_modeOf := goodIn_r _ [9, 10, 25, 26] (by decide +kernel) (by decide +kernel)
set_option maxRecDepth 20000 in
theorem gX5_beginMode_X6_modeOf : GoodIn wsX5_beginMode (wsV RX5 25 RX6 yX6_modeOf wsX6_modeOf) := goodIn_app (goodIn_of _ (by decide +kernel)) ggX5_beginMode_X6_modeOf
set_option maxRecDepth 20000 in
theorem ggX5_beginMode_X5_isStacked : GoodIn wsX5_beginMode wsX5_isStacked := goodIn_r _ [15, 1, 2, 16, 17, 18, 19] (by decide +kernel) (by decide +kernel)
set_option maxRecDepth 20000 in
theorem gX5_beginMode_X5_isStacked : GoodIn wsX5_beginMode (wsV RX5 56 RX5 yX5_isStacked wsX5_isStacked) := goodIn_app (goodIn_of _ (by decide +kernel)) ggX5_beginMode_X5_isStacked
theorem dX5_beginMode_0 : decode cX5_beginMode 0 = .ok (.aload_n 0, 1) := by decide +kernel
theorem dX5_beginMode_1 : decode cX5_beginMode 1 = .ok (.getfield 18, 3) := by decide +kernel
theorem dX5_beginMode_4 : decode cX5_beginMode 4 = .ok (.ifCond .lt 27, 3) := by decide +kernel
theorem dX5_beginMode_7 : decode cX5_beginMode 7 = .ok (.aload_n 0, 1) := by decide +kernel
theorem dX5_beginMode_8 : decode cX5_beginMode 8 = .ok (.getfield 18, 3) := by decide +kernel
theorem dX5_beginMode_11 : decode cX5_beginMode 11 = .ok (.aload_n 0, 1) := by decide +kernel
theorem dX5_beginMode_12 : decode cX5_beginMode 12 = .ok (.getfield 9, 3) := by decide +kernel
theorem dX5_beginMode_15 : decode cX5_beginMode 15 = .ok (.arraylength, 1) := by decide +kernel
theorem dX5_beginMode_16 : decode cX5_beginMode 16 = .ok (.if_icmp .ge 15, 3) := by decide +kernel
theorem dX5_beginMode_19 : decode cX5_beginMode 19 = .ok (.aload_n 0, 1) := by decide +kernel
theorem dX5_beginMode_20 : decode cX5_beginMode 20 = .ok (.getfield 18, 3) := by decide +kernel
theorem dX5_beginMode_23 : decode cX5_beginMode 23 = .ok (.aload_n 0, 1) := by decide +kernel
theorem dX5_beginMode_24 : decode cX5_beginMode 24 = .ok (.getfield 15, 3) := by decide +kernel
theorem dX5_beginMode_27 : decode cX5_beginMode 27 = .ok (.arraylength, 1) := by decide +kernel
theorem dX5_beginMode_28 : decode cX5_beginMode 28 = .ok (.if_icmp .lt 4, 3) := by decide +kernel
theorem dX5_beginMode_31 : decode cX5_beginMode 31 = .ok (.return_, 1) := by decide +kernel
theorem dX5_beginMode_32 : decode cX5_beginMode 32 = .ok (.iconst 0, 1) := by decide +kernel
theorem dX5_beginMode_33 : decode cX5_beginMode 33 = .ok (.istore_n 3, 1) := by decide +kernel
theorem dX5_beginMode_34 : decode cX5_beginMode 34 = .ok (.iload_n 3, 1) := by decide +kernel
theorem dX5_beginMode_35 : decode cX5_beginMode 35 = .ok (.iconst 4, 1) := by decide +kernel
theorem dX5_beginMode_36 : decode cX5_beginMode 36 = .ok (.if_icmp .ge 69, 3) := by decide +kernel
theorem dX5_beginMode_39 : decode cX5_beginMode 39 = .ok (.aload_n 1, 1) := by decide +kernel
theorem dX5_beginMode_40 : decode cX5_beginMode 40 = .ok (.iload_n 3, 1) := by decide +kernel
theorem dX5_beginMode_41 : decode cX5_beginMode 41 = .ok (.invokevirtual 25, 3) := by decide +kernel
theorem dX5_beginMode_44 : decode cX5_beginMode 44 = .ok (.astore 4, 2) := by decide +kernel
theorem dX5_beginMode_46 : decode cX5_beginMode 46 = .ok (.aload 4, 2) := by decide +kernel
theorem dX5_beginMode_48 : decode cX5_beginMode 48 = .ok (.ifnull 51, 3) := by decide +kernel
theorem dX5_beginMode_51 : decode cX5_beginMode 51 = .ok (.aload 4, 2) := by decide +kernel
theorem dX5_beginMode_53 : decode cX5_beginMode 53 = .ok (.getfield 53, 3) := by decide +kernel
theorem dX5_beginMode_56 : decode cX5_beginMode 56 = .ok (.iload_n 2, 1) := by decide +kernel
theorem dX5_beginMode_57 : decode cX5_beginMode 57 = .ok (.if_icmp .ne 42, 3) := by decide +kernel
theorem dX5_beginMode_60 : decode cX5_beginMode 60 = .ok (.aload_n 0, 1) := by decide +kernel
theorem dX5_beginMode_61 : decode cX5_beginMode 61 = .ok (.iload_n 3, 1) := by decide +kernel
theorem dX5_beginMode_62 : decode cX5_beginMode 62 = .ok (.invokevirtual 56, 3) := by decide +kernel
theorem dX5_beginMode_65 : decode cX5_beginMode 65 = .ok (.ifCond .ne 34, 3) := by decide +kernel
theorem dX5_beginMode_68 : decode cX5_beginMode 68 = .ok (.aload_n 0, 1) := by decide +kernel
theorem dX5_beginMode_69 : decode cX5_beginMode 69 = .ok (.getfield 9, 3) := by decide +kernel
theorem dX5_beginMode_72 : decode cX5_beginMode 72 = .ok (.aload_n 0, 1) := by decide +kernel
theorem dX5_beginMode_73 : decode cX5_beginMode 73 = .ok (.getfield 18, 3) := by decide +kernel
theorem dX5_beginMode_76 : decode cX5_beginMode 76 = .ok (.iload_n 3, 1) := by decide +kernel
theorem dX5_beginMode_77 : decode cX5_beginMode 77 = .ok (.iastore, 1) := by decide +kernel
theorem dX5_beginMode_78 : decode cX5_beginMode 78 = .ok (.aload_n 0, 1) := by decide +kernel
theorem dX5_beginMode_79 : decode cX5_beginMode 79 = .ok (.getfield 15, 3) := by decide +kernel
theorem dX5_beginMode_82 : decode cX5_beginMode 82 = .ok (.aload_n 0, 1) := by decide +kernel
theorem dX5_beginMode_83 : decode cX5_beginMode 83 = .ok (.getfield 18, 3) := by decide +kernel
theorem dX5_beginMode_86 : decode cX5_beginMode 86 = .ok (.iconst 0, 1) := by decide +kernel
theorem dX5_beginMode_87 : decode cX5_beginMode 87 = .ok (.iastore, 1) := by decide +kernel
theorem dX5_beginMode_88 : decode cX5_beginMode 88 = .ok (.aload_n 0, 1) := by decide +kernel
theorem dX5_beginMode_89 : decode cX5_beginMode 89 = .ok (.dup, 1) := by decide +kernel
theorem dX5_beginMode_90 : decode cX5_beginMode 90 = .ok (.getfield 18, 3) := by decide +kernel
theorem dX5_beginMode_93 : decode cX5_beginMode 93 = .ok (.iconst 1, 1) := by decide +kernel
theorem dX5_beginMode_94 : decode cX5_beginMode 94 = .ok (.iadd, 1) := by decide +kernel
theorem dX5_beginMode_95 : decode cX5_beginMode 95 = .ok (.putfield 18, 3) := by decide +kernel
theorem dX5_beginMode_98 : decode cX5_beginMode 98 = .ok (.return_, 1) := by decide +kernel
theorem dX5_beginMode_99 : decode cX5_beginMode 99 = .ok (.iinc 3 1, 3) := by decide +kernel
theorem dX5_beginMode_102 : decode cX5_beginMode 102 = .ok (.goto (-68), 3) := by decide +kernel
theorem dX5_beginMode_105 : decode cX5_beginMode 105 = .ok (.return_, 1) := by decide +kernel
theorem dX5_isStacked_0 : decode cX5_isStacked 0 = .ok (.iconst 0, 1) := by decide +kernel
theorem dX5_isStacked_1 : decode cX5_isStacked 1 = .ok (.istore_n 2, 1) := by decide +kernel
theorem dX5_isStacked_2 : decode cX5_isStacked 2 = .ok (.iload_n 2, 1) := by decide +kernel
theorem dX5_isStacked_3 : decode cX5_isStacked 3 = .ok (.aload_n 0, 1) := by decide +kernel
theorem dX5_isStacked_4 : decode cX5_isStacked 4 = .ok (.getfield 18, 3) := by decide +kernel
theorem dX5_isStacked_7 : decode cX5_isStacked 7 = .ok (.if_icmp .ge 30, 3) := by decide +kernel
theorem dX5_isStacked_10 : decode cX5_isStacked 10 = .ok (.iload_n 2, 1) := by decide +kernel
theorem dX5_isStacked_11 : decode cX5_isStacked 11 = .ok (.aload_n 0, 1) := by decide +kernel
theorem dX5_isStacked_12 : decode cX5_isStacked 12 = .ok (.getfield 9, 3) := by decide +kernel
theorem dX5_isStacked_15 : decode cX5_isStacked 15 = .ok (.arraylength, 1) := by decide +kernel
theorem dX5_isStacked_16 : decode cX5_isStacked 16 = .ok (.if_icmp .ge 21, 3) := by decide +kernel
theorem dX5_isStacked_19 : decode cX5_isStacked 19 = .ok (.aload_n 0, 1) := by decide +kernel
theorem dX5_isStacked_20 : decode cX5_isStacked 20 = .ok (.getfield 9, 3) := by decide +kernel
theorem dX5_isStacked_23 : decode cX5_isStacked 23 = .ok (.iload_n 2, 1) := by decide +kernel
theorem dX5_isStacked_24 : decode cX5_isStacked 24 = .ok (.iaload, 1) := by decide +kernel
theorem dX5_isStacked_25 : decode cX5_isStacked 25 = .ok (.iload_n 1, 1) := by decide +kernel
theorem dX5_isStacked_26 : decode cX5_isStacked 26 = .ok (.if_icmp .ne 5, 3) := by decide +kernel
theorem dX5_isStacked_29 : decode cX5_isStacked 29 = .ok (.iconst 1, 1) := by decide +kernel
theorem dX5_isStacked_30 : decode cX5_isStacked 30 = .ok (.ireturn, 1) := by decide +kernel
theorem dX5_isStacked_31 : decode cX5_isStacked 31 = .ok (.iinc 2 1, 3) := by decide +kernel
theorem dX5_isStacked_34 : decode cX5_isStacked 34 = .ok (.goto (-32), 3) := by decide +kernel
theorem dX5_isStacked_37 : decode cX5_isStacked 37 = .ok (.iconst 0, 1) := by decide +kernel
theorem dX5_isStacked_38 : decode cX5_isStacked 38 = .ok (.ireturn, 1) := by decide +kernel
theorem dX5_stackedModes_0 : decode cX5_stackedModes 0 = .ok (.iconst 0, 1) := by decide +kernel
theorem dX5_stackedModes_1 : decode cX5_stackedModes 1 = .ok (.istore_n 1, 1) := by decide +kernel
theorem dX5_stackedModes_2 : decode cX5_stackedModes 2 = .ok (.iconst 0, 1) := by decide +kernel
theorem dX5_stackedModes_3 : decode cX5_stackedModes 3 = .ok (.istore_n 2, 1) := by decide +kernel
theorem dX5_stackedModes_4 : decode cX5_stackedModes 4 = .ok (.iload_n 2, 1) := by decide +kernel
theorem dX5_stackedModes_5 : decode cX5_stackedModes 5 = .ok (.aload_n 0, 1) := by decide +kernel
theorem dX5_stackedModes_6 : decode cX5_stackedModes 6 = .ok (.getfield 18, 3) := by decide +kernel
theorem dX5_stackedModes_9 : decode cX5_stackedModes 9 = .ok (.if_icmp .ge 32, 3) := by decide +kernel
theorem dX5_stackedModes_12 : decode cX5_stackedModes 12 = .ok (.iload_n 2, 1) := by decide +kernel
theorem dX5_stackedModes_13 : decode cX5_stackedModes 13 = .ok (.aload_n 0, 1) := by decide +kernel
theorem dX5_stackedModes_14 : decode cX5_stackedModes 14 = .ok (.getfield 9, 3) := by decide +kernel
theorem dX5_stackedModes_17 : decode cX5_stackedModes 17 = .ok (.arraylength, 1) := by decide +kernel
theorem dX5_stackedModes_18 : decode cX5_stackedModes 18 = .ok (.if_icmp .ge 23, 3) := by decide +kernel
theorem dX5_stackedModes_21 : decode cX5_stackedModes 21 = .ok (.iload_n 1, 1) := by decide +kernel
theorem dX5_stackedModes_22 : decode cX5_stackedModes 22 = .ok (.bipush 10, 2) := by decide +kernel
theorem dX5_stackedModes_24 : decode cX5_stackedModes 24 = .ok (.imul, 1) := by decide +kernel
theorem dX5_stackedModes_25 : decode cX5_stackedModes 25 = .ok (.aload_n 0, 1) := by decide +kernel
theorem dX5_stackedModes_26 : decode cX5_stackedModes 26 = .ok (.getfield 9, 3) := by decide +kernel
theorem dX5_stackedModes_29 : decode cX5_stackedModes 29 = .ok (.iload_n 2, 1) := by decide +kernel
theorem dX5_stackedModes_30 : decode cX5_stackedModes 30 = .ok (.iaload, 1) := by decide +kernel
theorem dX5_stackedModes_31 : decode cX5_stackedModes 31 = .ok (.iadd, 1) := by decide +kernel
theorem dX5_stackedModes_32 : decode cX5_stackedModes 32 = .ok (.iconst 1, 1) := by decide +kernel
theorem dX5_stackedModes_33 : decode cX5_stackedModes 33 = .ok (.iadd, 1) := by decide +kernel
theorem dX5_stackedModes_34 : decode cX5_stackedModes 34 = .ok (.istore_n 1, 1) := by decide +kernel
theorem dX5_stackedModes_35 : decode cX5_stackedModes 35 = .ok (.iinc 2 1, 3) := by decide +kernel
theorem dX5_stackedModes_38 : decode cX5_stackedModes 38 = .ok (.goto (-34), 3) := by decide +kernel
theorem dX5_stackedModes_41 : decode cX5_stackedModes 41 = .ok (.iload_n 1, 1) := by decide +kernel
theorem dX5_stackedModes_42 : decode cX5_stackedModes 42 = .ok (.ireturn, 1) := by decide +kernel
theorem dX6_init_0 : decode cX6_init 0 = .ok (.aload_n 0, 1) := by decide +kernel
theorem dX6_init_1 : decode cX6_init 1 = .ok (.invokespecial 3, 3) := by decide +kernel
theorem dX6_init_4 : decode cX6_init 4 = .ok (.aload_n 0, 1) := by decide +kernel
theorem dX6_init_5 : decode cX6_init 5 = .ok (.bipush 8, 2) := by decide +kernel
theorem dX6_init_7 : decode cX6_init 7 = .ok (.newarray .int, 2) := by decide +kernel
theorem dX6_init_9 : decode cX6_init 9 = .ok (.putfield 9, 3) := by decide +kernel
theorem dX6_init_12 : decode cX6_init 12 = .ok (.aload_n 0, 1) := by decide +kernel
theorem dX6_init_13 : decode cX6_init 13 = .ok (.iconst 4, 1) := by decide +kernel
theorem dX6_init_14 : decode cX6_init 14 = .ok (.anewarray 15, 3) := by decide +kernel
theorem dX6_init_17 : decode cX6_init 17 = .ok (.putfield 17, 3) := by decide +kernel
theorem dX6_init_20 : decode cX6_init 20 = .ok (.return_, 1) := by decide +kernel
set_option maxRecDepth 20000 in
theorem ggX6_copied_X6_init : GoodIn wsX6_copied wsX6_init := goodIn_r _ [8, 9, 10, 11, 12, 4, 13, 5, 22, 23] (by decide +kernel) (by decide +kernel)
set_option maxRecDepth 20000 in
theorem gX6_copied_X6_init : GoodIn wsX6_copied (wsX6_init) := ggX6_copied_X6_init
set_option maxRecDepth 20000 in
theorem ggX6_copied_X6_changePoints : GoodIn wsX6_copied wsX6_changePoints := goodIn_r _ [17, 4, 22, 23] (by decide +kernel) (by decide +kernel)
set_option maxRecDepth 20000 in
theorem gX6_copied_X6_changePoints : GoodIn wsX6_copied (wsV RX6 22 RX6 yX6_changePoints wsX6_changePoints) := goodIn_app (goodIn_of _ (by decide +kernel)) ggX6_copied_X6_changePoints
set_option maxRecDepth 20000 in
theorem ggX6_copied_X6_changeMode : GoodIn wsX6_copied wsX6_changeMode := goodIn_r _ [21, 5, 22, 23] (by decide +kernel) (by decide +kernel)
set_option maxRecDepth 20000 in
theorem gX6_copied_X6_changeMode : GoodIn wsX6_copied (wsV RX6 26 RX6 yX6_changeMode wsX6_changeMode) := goodIn_app (goodIn_of _ (by decide +kernel)) ggX6_copied_X6_changeMode
theorem dX6_copied_0 : decode cX6_copied 0 = .ok (.new 10, 3) := by decide +kernel
theorem dX6_copied_3 : decode cX6_copied 3 = .ok (.dup, 1) := by decide +kernel
theorem dX6_copied_4 : decode cX6_copied 4 = .ok (.invokespecial 21, 3) := by decide +kernel
theorem dX6_copied_7 : decode cX6_copied 7 = .ok (.astore_n 1, 1) := by decide +kernel
theorem dX6_copied_8 : decode cX6_copied 8 = .ok (.iconst 0, 1) := by decide +kernel
theorem dX6_copied_9 : decode cX6_copied 9 = .ok (.istore_n 2, 1) := by decide +kernel
theorem dX6_copied_10 : decode cX6_copied 10 = .ok (.iload_n 2, 1) := by decide +kernel
theorem dX6_copied_11 : decode cX6_copied 11 = .ok (.aload_n 0, 1) := by decide +kernel
theorem dX6_copied_12 : decode cX6_copied 12 = .ok (.getfield 9, 3) := by decide +kernel
theorem dX6_copied_15 : decode cX6_copied 15 = .ok (.arraylength, 1) := by decide +kernel
theorem dX6_copied_16 : decode cX6_copied 16 = .ok (.if_icmp .ge 20, 3) := by decide +kernel
theorem dX6_copied_19 : decode cX6_copied 19 = .ok (.aload_n 1, 1) := by decide +kernel
theorem dX6_copied_20 : decode cX6_copied 20 = .ok (.iload_n 2, 1) := by decide +kernel
theorem dX6_copied_21 : decode cX6_copied 21 = .ok (.aload_n 0, 1) := by decide +kernel
theorem dX6_copied_22 : decode cX6_copied 22 = .ok (.getfield 9, 3) := by decide +kernel
theorem dX6_copied_25 : decode cX6_copied 25 = .ok (.iload_n 2, 1) := by decide +kernel
theorem dX6_copied_26 : decode cX6_copied 26 = .ok (.iaload, 1) := by decide +kernel
theorem dX6_copied_27 : decode cX6_copied 27 = .ok (.invokevirtual 22, 3) := by decide +kernel
theorem dX6_copied_30 : decode cX6_copied 30 = .ok (.iinc 2 1, 3) := by decide +kernel
theorem dX6_copied_33 : decode cX6_copied 33 = .ok (.goto (-23), 3) := by decide +kernel
theorem dX6_copied_36 : decode cX6_copied 36 = .ok (.iconst 0, 1) := by decide +kernel
theorem dX6_copied_37 : decode cX6_copied 37 = .ok (.istore_n 2, 1) := by decide +kernel
theorem dX6_copied_38 : decode cX6_copied 38 = .ok (.iload_n 2, 1) := by decide +kernel
theorem dX6_copied_39 : decode cX6_copied 39 = .ok (.aload_n 0, 1) := by decide +kernel
theorem dX6_copied_40 : decode cX6_copied 40 = .ok (.getfield 17, 3) := by decide +kernel
theorem dX6_copied_43 : decode cX6_copied 43 = .ok (.arraylength, 1) := by decide +kernel
theorem dX6_copied_44 : decode cX6_copied 44 = .ok (.if_icmp .ge 20, 3) := by decide +kernel
theorem dX6_copied_47 : decode cX6_copied 47 = .ok (.aload_n 1, 1) := by decide +kernel
theorem dX6_copied_48 : decode cX6_copied 48 = .ok (.iload_n 2, 1) := by decide +kernel
theorem dX6_copied_49 : decode cX6_copied 49 = .ok (.aload_n 0, 1) := by decide +kernel
theorem dX6_copied_50 : decode cX6_copied 50 = .ok (.getfield 17, 3) := by decide +kernel
theorem dX6_copied_53 : decode cX6_copied 53 = .ok (.iload_n 2, 1) := by decide +kernel
theorem dX6_copied_54 : decode cX6_copied 54 = .ok (.aaload, 1) := by decide +kernel
theorem dX6_copied_55 : decode cX6_copied 55 = .ok (.invokevirtual 26, 3) := by decide +kernel
theorem dX6_copied_58 : decode cX6_copied 58 = .ok (.iinc 2 1, 3) := by decide +kernel
theorem dX6_copied_61 : decode cX6_copied 61 = .ok (.goto (-23), 3) := by decide +kernel
theorem dX6_copied_64 : decode cX6_copied 64 = .ok (.aload_n 1, 1) := by decide +kernel
theorem dX6_copied_65 : decode cX6_copied 65 = .ok (.areturn, 1) := by decide +kernel
theorem dX6_pointsOf_0 : decode cX6_pointsOf 0 = .ok (.iload_n 1, 1) := by decide +kernel
theorem dX6_pointsOf_1 : decode cX6_pointsOf 1 = .ok (.ifCond .lt 21, 3) := by decide +kernel
theorem dX6_pointsOf_4 : decode cX6_pointsOf 4 = .ok (.iload_n 1, 1) := by decide +kernel
theorem dX6_pointsOf_5 : decode cX6_pointsOf 5 = .ok (.aload_n 0, 1) := by decide +kernel
theorem dX6_pointsOf_6 : decode cX6_pointsOf 6 = .ok (.getfield 9, 3) := by decide +kernel
theorem dX6_pointsOf_9 : decode cX6_pointsOf 9 = .ok (.arraylength, 1) := by decide +kernel
theorem dX6_pointsOf_10 : decode cX6_pointsOf 10 = .ok (.if_icmp .ge 12, 3) := by decide +kernel
theorem dX6_pointsOf_13 : decode cX6_pointsOf 13 = .ok (.aload_n 0, 1) := by decide +kernel
theorem dX6_pointsOf_14 : decode cX6_pointsOf 14 = .ok (.getfield 9, 3) := by decide +kernel
theorem dX6_pointsOf_17 : decode cX6_pointsOf 17 = .ok (.iload_n 1, 1) := by decide +kernel
theorem dX6_pointsOf_18 : decode cX6_pointsOf 18 = .ok (.iaload, 1) := by decide +kernel
theorem dX6_pointsOf_19 : decode cX6_pointsOf 19 = .ok (.goto 4, 3) := by decide +kernel
theorem dX6_pointsOf_22 : decode cX6_pointsOf 22 = .ok (.iconst 0, 1) := by decide +kernel
theorem dX6_pointsOf_23 : decode cX6_pointsOf 23 = .ok (.ireturn, 1) := by decide +kernel
theorem dX6_changePoints_0 : decode cX6_changePoints 0 = .ok (.iload_n 1, 1) := by decide +kernel
theorem dX6_changePoints_1 : decode cX6_changePoints 1 = .ok (.ifCond .lt 19, 3) := by decide +kernel
theorem dX6_changePoints_4 : decode cX6_changePoints 4 = .ok (.iload_n 1, 1) := by decide +kernel
theorem dX6_changePoints_5 : decode cX6_changePoints 5 = .ok (.aload_n 0, 1) := by decide +kernel
theorem dX6_changePoints_6 : decode cX6_changePoints 6 = .ok (.getfield 9, 3) := by decide +kernel
theorem dX6_changePoints_9 : decode cX6_changePoints 9 = .ok (.arraylength, 1) := by decide +kernel
theorem dX6_changePoints_10 : decode cX6_changePoints 10 = .ok (.if_icmp .ge 10, 3) := by decide +kernel
theorem dX6_changePoints_13 : decode cX6_changePoints 13 = .ok (.aload_n 0, 1) := by decide +kernel
theorem dX6_changePoints_14 : decode cX6_changePoints 14 = .ok (.getfield 9, 3) := by decide +kernel
theorem dX6_changePoints_17 : decode cX6_changePoints 17 = .ok (.iload_n 1, 1) := by decide +kernel
theorem dX6_changePoints_18 : decode cX6_changePoints 18 = .ok (.iload_n 2, 1) := by decide +kernel
theorem dX6_changePoints_19 : decode cX6_changePoints 19 = .ok (.iastore, 1) := by decide +kernel
theorem dX6_changePoints_20 : decode cX6_changePoints 20 = .ok (.return_, 1) := by decide +kernel
theorem dX6_modeOf_0 : decode cX6_modeOf 0 = .ok (.iload_n 1, 1) := by decide +kernel
theorem dX6_modeOf_1 : decode cX6_modeOf 1 = .ok (.ifCond .lt 21, 3) := by decide +kernel
theorem dX6_modeOf_4 : decode cX6_modeOf 4 = .ok (.iload_n 1, 1) := by decide +kernel
theorem dX6_modeOf_5 : decode cX6_modeOf 5 = .ok (.aload_n 0, 1) := by decide +kernel
theorem dX6_modeOf_6 : decode cX6_modeOf 6 = .ok (.getfield 17, 3) := by decide +kernel
theorem dX6_modeOf_9 : decode cX6_modeOf 9 = .ok (.arraylength, 1) := by decide +kernel
theorem dX6_modeOf_10 : decode cX6_modeOf 10 = .ok (.if_icmp .ge 12, 3) := by decide +kernel
theorem dX6_modeOf_13 : decode cX6_modeOf 13 = .ok (.aload_n 0, 1) := by decide +kernel
theorem dX6_modeOf_14 : decode cX6_modeOf 14 = .ok (.getfield 17, 3) := by decide +kernel
theorem dX6_modeOf_17 : decode cX6_modeOf 17 = .ok (.iload_n 1, 1) := by decide +kernel
theorem dX6_modeOf_18 : decode cX6_modeOf 18 = .ok (.aaload, 1) := by decide +kernel
theorem dX6_modeOf_19 : decode cX6_modeOf 19 = .ok (.goto 4, 3) := by decide +kernel
theorem dX6_modeOf_22 : decode cX6_modeOf 22 = .ok (.aconst_null, 1) := by decide +kernel
theorem dX6_modeOf_23 : decode cX6_modeOf 23 = .ok (.areturn, 1) := by decide +kernel
theorem dX6_changeMode_0 : decode cX6_changeMode 0 = .ok (.iload_n 1, 1) := by decide +kernel
theorem dX6_changeMode_1 : decode cX6_changeMode 1 = .ok (.ifCond .lt 19, 3) := by decide +kernel
theorem dX6_changeMode_4 : decode cX6_changeMode 4 = .ok (.iload_n 1, 1) := by decide +kernel
theorem dX6_changeMode_5 : decode cX6_changeMode 5 = .ok (.aload_n 0, 1) := by decide +kernel
theorem dX6_changeMode_6 : decode cX6_changeMode 6 = .ok (.getfield 17, 3) := by decide +kernel
theorem dX6_changeMode_9 : decode cX6_changeMode 9 = .ok (.arraylength, 1) := by decide +kernel
theorem dX6_changeMode_10 : decode cX6_changeMode 10 = .ok (.if_icmp .ge 10, 3) := by decide +kernel
theorem dX6_changeMode_13 : decode cX6_changeMode 13 = .ok (.aload_n 0, 1) := by decide +kernel
theorem dX6_changeMode_14 : decode cX6_changeMode 14 = .ok (.getfield 17, 3) := by decide +kernel
theorem dX6_changeMode_17 : decode cX6_changeMode 17 = .ok (.iload_n 1, 1) := by decide +kernel
theorem dX6_changeMode_18 : decode cX6_changeMode 18 = .ok (.aload_n 2, 1) := by decide +kernel
theorem dX6_changeMode_19 : decode cX6_changeMode 19 = .ok (.aastore, 1) := by decide +kernel
theorem dX6_changeMode_20 : decode cX6_changeMode 20 = .ok (.return_, 1) := by decide +kernel
set_option maxRecDepth 20000 in
theorem ggX7_init_Jx4a65c_init_da8c8 : GoodIn wsX7_init wsJx4a65c_init_da8c8 := goodIn_r _ [20, 21, 22, 23, 24, 25, 26, 27, 28, 29, 30, 31, 32, 2, 3, 40, 41, 42] (by decide +kernel) (by decide +kernel)
set_option maxRecDepth 20000 in
theorem gX7_init_Jx4a65c_init_da8c8 : GoodIn wsX7_init (wsJx4a65c_init_da8c8) := ggX7_init_Jx4a65c_init_da8c8
set_option maxRecDepth 20000 in
theorem ggX7_init_X6_init : GoodIn wsX7_init wsX6_init := goodIn_r _ [34, 35, 2, 3, 36, 37, 38, 39, 51, 52] (by decide +kernel) (by decide +kernel)
set_option maxRecDepth 20000 in
theorem gX7_init_X6_init_n20 : GoodIn wsX7_init (wsX6_init) := ggX7_init_X6_init
theorem dX7_init_0 : decode cX7_init 0 = .ok (.aload_n 0, 1) := by decide +kernel
theorem dX7_init_1 : decode cX7_init 1 = .ok (.invokespecial 3, 3) := by decide +kernel
theorem dX7_init_4 : decode cX7_init 4 = .ok (.aload_n 0, 1) := by decide +kernel
theorem dX7_init_5 : decode cX7_init 5 = .ok (.new 9, 3) := by decide +kernel
theorem dX7_init_8 : decode cX7_init 8 = .ok (.dup, 1) := by decide +kernel
theorem dX7_init_9 : decode cX7_init 9 = .ok (.invokespecial 11, 3) := by decide +kernel
theorem dX7_init_12 : decode cX7_init 12 = .ok (.putfield 12, 3) := by decide +kernel
theorem dX7_init_15 : decode cX7_init 15 = .ok (.aload_n 0, 1) := by decide +kernel
theorem dX7_init_16 : decode cX7_init 16 = .ok (.new 18, 3) := by decide +kernel
theorem dX7_init_19 : decode cX7_init 19 = .ok (.dup, 1) := by decide +kernel
theorem dX7_init_20 : decode cX7_init 20 = .ok (.invokespecial 20, 3) := by decide +kernel
theorem dX7_init_23 : decode cX7_init 23 = .ok (.putfield 21, 3) := by decide +kernel
theorem dX7_init_26 : decode cX7_init 26 = .ok (.aload_n 0, 1) := by decide +kernel
theorem dX7_init_27 : decode cX7_init 27 = .ok (.iconst (-1), 1) := by decide +kernel
theorem dX7_init_28 : decode cX7_init 28 = .ok (.putfield 25, 3) := by decide +kernel
theorem dX7_init_31 : decode cX7_init 31 = .ok (.aload_n 0, 1) := by decide +kernel
theorem dX7_init_32 : decode cX7_init 32 = .ok (.iconst 0, 1) := by decide +kernel
theorem dX7_init_33 : decode cX7_init 33 = .ok (.putfield 29, 3) := by decide +kernel
theorem dX7_init_36 : decode cX7_init 36 = .ok (.aload_n 0, 1) := by decide +kernel
theorem dX7_init_37 : decode cX7_init 37 = .ok (.iconst 0, 1) := by decide +kernel
theorem dX7_init_38 : decode cX7_init 38 = .ok (.putfield 32, 3) := by decide +kernel
theorem dX7_init_41 : decode cX7_init 41 = .ok (.aload_n 0, 1) := by decide +kernel
theorem dX7_init_42 : decode cX7_init 42 = .ok (.iconst 0, 1) := by decide +kernel
theorem dX7_init_43 : decode cX7_init 43 = .ok (.putfield 35, 3) := by decide +kernel
theorem dX7_init_46 : decode cX7_init 46 = .ok (.aload_n 0, 1) := by decide +kernel
theorem dX7_init_47 : decode cX7_init 47 = .ok (.iload_n 1, 1) := by decide +kernel
theorem dX7_init_48 : decode cX7_init 48 = .ok (.putfield 38, 3) := by decide +kernel
theorem dX7_init_51 : decode cX7_init 51 = .ok (.aload_n 0, 1) := by decide +kernel
theorem dX7_init_52 : decode cX7_init 52 = .ok (.iload_n 2, 1) := by decide +kernel
theorem dX7_init_53 : decode cX7_init 53 = .ok (.putfield 41, 3) := by decide +kernel
theorem dX7_init_56 : decode cX7_init 56 = .ok (.return_, 1) := by decide +kernel
set_option maxRecDepth 20000 in
theorem ggX7_bumperOver_Jx4a65c_size_8abf5 : GoodIn wsX7_bumperOver wsJx4a65c_size_8abf5 := goodIn_r _ [7, 8, 43, 44, 45] (by decide +kernel) (by decide +kernel)
set_option maxRecDepth 20000 in
theorem gX7_bumperOver_Jx4a65c_size_8abf5 : GoodIn wsX7_bumperOver (wsV RX7 44 RJx4a65c yJx4a65c_size_8abf5 wsJx4a65c_size_8abf5) := goodIn_app (goodIn_of _ (by decide +kernel)) ggX7_bumperOver_Jx4a65c_size_8abf5
set_option maxRecDepth 20000 in
theorem ggX7_bumperOver_Jx4a65c_get_915e3 : GoodIn wsX7_bumperOver wsJx4a65c_get_915e3 := goodIn_r _ [12, 8, 13, 14, 15, 16, 17, 18, 19, 20, 21, 22, 23, 6, 24, 25, 43, 44, 45] (by decide +kernel) (by decide +kernel)
set_option maxRecDepth 20000 in
theorem gX7_bumperOver_Jx4a65c_get_915e3 : GoodIn wsX7_bumperOver (wsV RX7 48 RJx4a65c yJx4a65c_get_915e3 wsJx4a65c_get_915e3) := goodIn_app (goodIn_of _ (by decide +kernel)) ggX7_bumperOver_Jx4a65c_get_915e3
set_option maxRecDepth 20000 in
theorem ggX7_bumperOver_X1_holdsPart : GoodIn wsX7_bumperOver wsX1_holdsPart := goodIn_r _ [30, 31, 32, 33, 34, 46, 47, 48, 49, 50, 51, 52] (by decide +kernel) (by decide +kernel)
set_option maxRecDepth 20000 in
theorem gX7_bumperOver_X1_holdsPart : GoodIn wsX7_bumperOver (wsV RX7 54 RX1 yX1_holdsPart wsX1_holdsPart) := goodIn_app (goodIn_of _ (by decide +kernel)) ggX7_bumperOver_X1_holdsPart
theorem dX7_bumperOver_0 : decode cX7_bumperOver 0 = .ok (.iconst 0, 1) := by decide +kernel
theorem dX7_bumperOver_1 : decode cX7_bumperOver 1 = .ok (.istore_n 3, 1) := by decide +kernel
theorem dX7_bumperOver_2 : decode cX7_bumperOver 2 = .ok (.iload_n 3, 1) := by decide +kernel
theorem dX7_bumperOver_3 : decode cX7_bumperOver 3 = .ok (.aload_n 0, 1) := by decide +kernel
theorem dX7_bumperOver_4 : decode cX7_bumperOver 4 = .ok (.getfield 12, 3) := by decide +kernel
theorem dX7_bumperOver_7 : decode cX7_bumperOver 7 = .ok (.invokevirtual 44, 3) := by decide +kernel
theorem dX7_bumperOver_10 : decode cX7_bumperOver 10 = .ok (.if_icmp .ge 30, 3) := by decide +kernel
theorem dX7_bumperOver_13 : decode cX7_bumperOver 13 = .ok (.aload_n 0, 1) := by decide +kernel
theorem dX7_bumperOver_14 : decode cX7_bumperOver 14 = .ok (.getfield 12, 3) := by decide +kernel
theorem dX7_bumperOver_17 : decode cX7_bumperOver 17 = .ok (.iload_n 3, 1) := by decide +kernel
theorem dX7_bumperOver_18 : decode cX7_bumperOver 18 = .ok (.invokevirtual 48, 3) := by decide +kernel
theorem dX7_bumperOver_21 : decode cX7_bumperOver 21 = .ok (.checkcast 52, 3) := by decide +kernel
theorem dX7_bumperOver_24 : decode cX7_bumperOver 24 = .ok (.iload_n 1, 1) := by decide +kernel
theorem dX7_bumperOver_25 : decode cX7_bumperOver 25 = .ok (.iload_n 2, 1) := by decide +kernel
theorem dX7_bumperOver_26 : decode cX7_bumperOver 26 = .ok (.invokevirtual 54, 3) := by decide +kernel
theorem dX7_bumperOver_29 : decode cX7_bumperOver 29 = .ok (.ifCond .eq 5, 3) := by decide +kernel
theorem dX7_bumperOver_32 : decode cX7_bumperOver 32 = .ok (.iload_n 3, 1) := by decide +kernel
theorem dX7_bumperOver_33 : decode cX7_bumperOver 33 = .ok (.ireturn, 1) := by decide +kernel
theorem dX7_bumperOver_34 : decode cX7_bumperOver 34 = .ok (.iinc 3 1, 3) := by decide +kernel
theorem dX7_bumperOver_37 : decode cX7_bumperOver 37 = .ok (.goto (-35), 3) := by decide +kernel
theorem dX7_bumperOver_40 : decode cX7_bumperOver 40 = .ok (.iconst (-1), 1) := by decide +kernel
theorem dX7_bumperOver_41 : decode cX7_bumperOver 41 = .ok (.ireturn, 1) := by decide +kernel
set_option maxRecDepth 20000 in
theorem ggX7_countFaults_Jx4a65c_size_8abf5 : GoodIn wsX7_countFaults wsJx4a65c_size_8abf5 := goodIn_r _ [8, 9, 48, 49, 50] (by decide +kernel) (by decide +kernel)
set_option maxRecDepth 20000 in
theorem gX7_countFaults_Jx4a65c_size_8abf5 : GoodIn wsX7_countFaults (wsV RX7 44 RJx4a65c yJx4a65c_size_8abf5 wsJx4a65c_size_8abf5) := goodIn_app (goodIn_of _ (by decide +kernel)) ggX7_countFaults_Jx4a65c_size_8abf5
set_option maxRecDepth 20000 in
theorem ggX7_countFaults_Jx4a65c_get_915e3 : GoodIn wsX7_countFaults wsJx4a65c_get_915e3 := goodIn_r _ [13, 9, 14, 15, 16, 17, 18, 19, 20, 21, 22, 23, 24, 7, 25, 26, 48, 49, 50] (by decide +kernel) (by decide +kernel)
set_option maxRecDepth 20000 in
theorem gX7_countFaults_Jx4a65c_get_915e3 : GoodIn wsX7_countFaults (wsV RX7 48 RJx4a65c yJx4a65c_get_915e3 wsJx4a65c_get_915e3) := goodIn_app (goodIn_of _ (by decide +kernel)) ggX7_countFaults_Jx4a65c_get_915e3
set_option maxRecDepth 20000 in
theorem ggX7_countFaults_X1_isBroken : GoodIn wsX7_countFaults wsX1_isBroken := goodIn_r _ [31, 32, 41, 42, 43, 44, 45, 46, 47] (by decide +kernel) (by decide +kernel)
set_option maxRecDepth 20000 in
theorem gX7_countFaults_X1_isBroken : GoodIn wsX7_countFaults (wsV RX7 61 RX1 yX1_isBroken wsX1_isBroken) := goodIn_app (goodIn_of _ (by decide +kernel)) ggX7_countFaults_X1_isBroken
theorem dX7_countFaults_0 : decode cX7_countFaults 0 = .ok (.iconst 0, 1) := by decide +kernel
theorem dX7_countFaults_1 : decode cX7_countFaults 1 = .ok (.istore_n 2, 1) := by decide +kernel
theorem dX7_countFaults_2 : decode cX7_countFaults 2 = .ok (.iconst 0, 1) := by decide +kernel
theorem dX7_countFaults_3 : decode cX7_countFaults 3 = .ok (.istore_n 3, 1) := by decide +kernel
theorem dX7_countFaults_4 : decode cX7_countFaults 4 = .ok (.iload_n 3, 1) := by decide +kernel
theorem dX7_countFaults_5 : decode cX7_countFaults 5 = .ok (.aload_n 0, 1) := by decide +kernel
theorem dX7_countFaults_6 : decode cX7_countFaults 6 = .ok (.getfield 12, 3) := by decide +kernel
theorem dX7_countFaults_9 : decode cX7_countFaults 9 = .ok (.invokevirtual 44, 3) := by decide +kernel
theorem dX7_countFaults_12 : decode cX7_countFaults 12 = .ok (.if_icmp .ge 49, 3) := by decide +kernel
theorem dX7_countFaults_15 : decode cX7_countFaults 15 = .ok (.aload_n 0, 1) := by decide +kernel
theorem dX7_countFaults_16 : decode cX7_countFaults 16 = .ok (.getfield 12, 3) := by decide +kernel
theorem dX7_countFaults_19 : decode cX7_countFaults 19 = .ok (.iload_n 3, 1) := by decide +kernel
theorem dX7_countFaults_20 : decode cX7_countFaults 20 = .ok (.invokevirtual 48, 3) := by decide +kernel
theorem dX7_countFaults_23 : decode cX7_countFaults 23 = .ok (.checkcast 52, 3) := by decide +kernel
theorem dX7_countFaults_26 : decode cX7_countFaults 26 = .ok (.astore 4, 2) := by decide +kernel
theorem dX7_countFaults_28 : decode cX7_countFaults 28 = .ok (.iload_n 1, 1) := by decide +kernel
theorem dX7_countFaults_29 : decode cX7_countFaults 29 = .ok (.ifCond .ne 15, 3) := by decide +kernel
theorem dX7_countFaults_32 : decode cX7_countFaults 32 = .ok (.aload 4, 2) := by decide +kernel
theorem dX7_countFaults_34 : decode cX7_countFaults 34 = .ok (.getfield 58, 3) := by decide +kernel
theorem dX7_countFaults_37 : decode cX7_countFaults 37 = .ok (.iconst (-1), 1) := by decide +kernel
theorem dX7_countFaults_38 : decode cX7_countFaults 38 = .ok (.if_icmp .eq 17, 3) := by decide +kernel
theorem dX7_countFaults_41 : decode cX7_countFaults 41 = .ok (.goto 11, 3) := by decide +kernel
theorem dX7_countFaults_44 : decode cX7_countFaults 44 = .ok (.aload 4, 2) := by decide +kernel
theorem dX7_countFaults_46 : decode cX7_countFaults 46 = .ok (.invokevirtual 61, 3) := by decide +kernel
theorem dX7_countFaults_49 : decode cX7_countFaults 49 = .ok (.ifCond .eq 6, 3) := by decide +kernel
theorem dX7_countFaults_52 : decode cX7_countFaults 52 = .ok (.iinc 2 1, 3) := by decide +kernel
theorem dX7_countFaults_55 : decode cX7_countFaults 55 = .ok (.iinc 3 1, 3) := by decide +kernel
theorem dX7_countFaults_58 : decode cX7_countFaults 58 = .ok (.goto (-54), 3) := by decide +kernel
theorem dX7_countFaults_61 : decode cX7_countFaults 61 = .ok (.iload_n 2, 1) := by decide +kernel
theorem dX7_countFaults_62 : decode cX7_countFaults 62 = .ok (.ireturn, 1) := by decide +kernel
set_option maxRecDepth 20000 in
theorem ggX7_needsService_X7_countFaults : GoodIn wsX7_needsService wsX7_countFaults := goodIn_r _ [7, 8, 9, 10, 11, 12, 13, 14, 15, 16, 17, 18, 19, 20, 21, 22, 23, 24, 25, 26, 27, 28, 29, 30, 31, 32, 33, 34, 35, 36, 37, 38, 39, 40, 41, 42, 43, 44, 45, 46, 47, 48, 49, 50, 51, 52, 53, 54, 55, 56, 57] (by decide +kernel) (by decide +kernel)
set_option maxRecDepth 20000 in
theorem gX7_needsService_X7_countFaults : GoodIn wsX7_needsService (wsV RX7 65 RX7 yX7_countFaults wsX7_countFaults) := goodIn_app (goodIn_of _ (by decide +kernel)) ggX7_needsService_X7_countFaults
theorem dX7_needsService_0 : decode cX7_needsService 0 = .ok (.aload_n 0, 1) := by decide +kernel
theorem dX7_needsService_1 : decode cX7_needsService 1 = .ok (.getfield 25, 3) := by decide +kernel
theorem dX7_needsService_4 : decode cX7_needsService 4 = .ok (.iconst (-1), 1) := by decide +kernel
theorem dX7_needsService_5 : decode cX7_needsService 5 = .ok (.if_icmp .ne 32, 3) := by decide +kernel
theorem dX7_needsService_8 : decode cX7_needsService 8 = .ok (.aload_n 0, 1) := by decide +kernel
theorem dX7_needsService_9 : decode cX7_needsService 9 = .ok (.getfield 29, 3) := by decide +kernel
theorem dX7_needsService_12 : decode cX7_needsService 12 = .ok (.bipush 20, 2) := by decide +kernel
theorem dX7_needsService_14 : decode cX7_needsService 14 = .ok (.if_icmp .ge 19, 3) := by decide +kernel
theorem dX7_needsService_17 : decode cX7_needsService 17 = .ok (.aload_n 0, 1) := by decide +kernel
theorem dX7_needsService_18 : decode cX7_needsService 18 = .ok (.iconst 0, 1) := by decide +kernel
theorem dX7_needsService_19 : decode cX7_needsService 19 = .ok (.invokevirtual 65, 3) := by decide +kernel
theorem dX7_needsService_22 : decode cX7_needsService 22 = .ok (.ifCond .gt 11, 3) := by decide +kernel
theorem dX7_needsService_25 : decode cX7_needsService 25 = .ok (.aload_n 0, 1) := by decide +kernel
theorem dX7_needsService_26 : decode cX7_needsService 26 = .ok (.iconst 1, 1) := by decide +kernel
theorem dX7_needsService_27 : decode cX7_needsService 27 = .ok (.invokevirtual 65, 3) := by decide +kernel
theorem dX7_needsService_30 : decode cX7_needsService 30 = .ok (.ifCond .le 7, 3) := by decide +kernel
theorem dX7_needsService_33 : decode cX7_needsService 33 = .ok (.iconst 1, 1) := by decide +kernel
theorem dX7_needsService_34 : decode cX7_needsService 34 = .ok (.goto 4, 3) := by decide +kernel
theorem dX7_needsService_37 : decode cX7_needsService 37 = .ok (.iconst 0, 1) := by decide +kernel
theorem dX7_needsService_38 : decode cX7_needsService 38 = .ok (.ireturn, 1) := by decide +kernel
theorem dX7_emptyBox_0 : decode cX7_emptyBox 0 = .ok (.aload_n 0, 1) := by decide +kernel
theorem dX7_emptyBox_1 : decode cX7_emptyBox 1 = .ok (.getfield 29, 3) := by decide +kernel
theorem dX7_emptyBox_4 : decode cX7_emptyBox 4 = .ok (.istore_n 1, 1) := by decide +kernel
theorem dX7_emptyBox_5 : decode cX7_emptyBox 5 = .ok (.aload_n 0, 1) := by decide +kernel
theorem dX7_emptyBox_6 : decode cX7_emptyBox 6 = .ok (.dup, 1) := by decide +kernel
theorem dX7_emptyBox_7 : decode cX7_emptyBox 7 = .ok (.getfield 35, 3) := by decide +kernel
theorem dX7_emptyBox_10 : decode cX7_emptyBox 10 = .ok (.aload_n 0, 1) := by decide +kernel
theorem dX7_emptyBox_11 : decode cX7_emptyBox 11 = .ok (.getfield 32, 3) := by decide +kernel
theorem dX7_emptyBox_14 : decode cX7_emptyBox 14 = .ok (.aload_n 0, 1) := by decide +kernel
theorem dX7_emptyBox_15 : decode cX7_emptyBox 15 = .ok (.getfield 29, 3) := by decide +kernel
theorem dX7_emptyBox_18 : decode cX7_emptyBox 18 = .ok (.isub, 1) := by decide +kernel
theorem dX7_emptyBox_19 : decode cX7_emptyBox 19 = .ok (.iadd, 1) := by decide +kernel
theorem dX7_emptyBox_20 : decode cX7_emptyBox 20 = .ok (.putfield 35, 3) := by decide +kernel
theorem dX7_emptyBox_23 : decode cX7_emptyBox 23 = .ok (.aload_n 0, 1) := by decide +kernel
theorem dX7_emptyBox_24 : decode cX7_emptyBox 24 = .ok (.iconst 0, 1) := by decide +kernel
theorem dX7_emptyBox_25 : decode cX7_emptyBox 25 = .ok (.putfield 32, 3) := by decide +kernel
theorem dX7_emptyBox_28 : decode cX7_emptyBox 28 = .ok (.aload_n 0, 1) := by decide +kernel
theorem dX7_emptyBox_29 : decode cX7_emptyBox 29 = .ok (.iconst 0, 1) := by decide +kernel
theorem dX7_emptyBox_30 : decode cX7_emptyBox 30 = .ok (.putfield 29, 3) := by decide +kernel
theorem dX7_emptyBox_33 : decode cX7_emptyBox 33 = .ok (.iload_n 1, 1) := by decide +kernel
theorem dX7_emptyBox_34 : decode cX7_emptyBox 34 = .ok (.ireturn, 1) := by decide +kernel
theorem dX8_init_0 : decode cX8_init 0 = .ok (.aload_n 0, 1) := by decide +kernel
theorem dX8_init_1 : decode cX8_init 1 = .ok (.invokespecial 3, 3) := by decide +kernel
theorem dX8_init_4 : decode cX8_init 4 = .ok (.aload_n 0, 1) := by decide +kernel
theorem dX8_init_5 : decode cX8_init 5 = .ok (.iconst 2, 1) := by decide +kernel
theorem dX8_init_6 : decode cX8_init 6 = .ok (.newarray .int, 2) := by decide +kernel
theorem dX8_init_8 : decode cX8_init 8 = .ok (.putfield 9, 3) := by decide +kernel
theorem dX8_init_11 : decode cX8_init 11 = .ok (.aload_n 0, 1) := by decide +kernel
theorem dX8_init_12 : decode cX8_init 12 = .ok (.iconst 0, 1) := by decide +kernel
theorem dX8_init_13 : decode cX8_init 13 = .ok (.putfield 15, 3) := by decide +kernel
theorem dX8_init_16 : decode cX8_init 16 = .ok (.return_, 1) := by decide +kernel
theorem dX8_spareOf_0 : decode cX8_spareOf 0 = .ok (.iload_n 1, 1) := by decide +kernel
theorem dX8_spareOf_1 : decode cX8_spareOf 1 = .ok (.ifCond .lt 21, 3) := by decide +kernel
theorem dX8_spareOf_4 : decode cX8_spareOf 4 = .ok (.iload_n 1, 1) := by decide +kernel
theorem dX8_spareOf_5 : decode cX8_spareOf 5 = .ok (.aload_n 0, 1) := by decide +kernel
theorem dX8_spareOf_6 : decode cX8_spareOf 6 = .ok (.getfield 9, 3) := by decide +kernel
theorem dX8_spareOf_9 : decode cX8_spareOf 9 = .ok (.arraylength, 1) := by decide +kernel
theorem dX8_spareOf_10 : decode cX8_spareOf 10 = .ok (.if_icmp .ge 12, 3) := by decide +kernel
theorem dX8_spareOf_13 : decode cX8_spareOf 13 = .ok (.aload_n 0, 1) := by decide +kernel
theorem dX8_spareOf_14 : decode cX8_spareOf 14 = .ok (.getfield 9, 3) := by decide +kernel
theorem dX8_spareOf_17 : decode cX8_spareOf 17 = .ok (.iload_n 1, 1) := by decide +kernel
theorem dX8_spareOf_18 : decode cX8_spareOf 18 = .ok (.iaload, 1) := by decide +kernel
theorem dX8_spareOf_19 : decode cX8_spareOf 19 = .ok (.goto 4, 3) := by decide +kernel
theorem dX8_spareOf_22 : decode cX8_spareOf 22 = .ok (.iconst 0, 1) := by decide +kernel
theorem dX8_spareOf_23 : decode cX8_spareOf 23 = .ok (.ireturn, 1) := by decide +kernel
theorem dX8_addSpare_0 : decode cX8_addSpare 0 = .ok (.iload_n 1, 1) := by decide +kernel
theorem dX8_addSpare_1 : decode cX8_addSpare 1 = .ok (.ifCond .lt 22, 3) := by decide +kernel
theorem dX8_addSpare_4 : decode cX8_addSpare 4 = .ok (.iload_n 1, 1) := by decide +kernel
theorem dX8_addSpare_5 : decode cX8_addSpare 5 = .ok (.aload_n 0, 1) := by decide +kernel
theorem dX8_addSpare_6 : decode cX8_addSpare 6 = .ok (.getfield 9, 3) := by decide +kernel
theorem dX8_addSpare_9 : decode cX8_addSpare 9 = .ok (.arraylength, 1) := by decide +kernel
theorem dX8_addSpare_10 : decode cX8_addSpare 10 = .ok (.if_icmp .ge 13, 3) := by decide +kernel
theorem dX8_addSpare_13 : decode cX8_addSpare 13 = .ok (.aload_n 0, 1) := by decide +kernel
theorem dX8_addSpare_14 : decode cX8_addSpare 14 = .ok (.getfield 9, 3) := by decide +kernel
theorem dX8_addSpare_17 : decode cX8_addSpare 17 = .ok (.iload_n 1, 1) := by decide +kernel
theorem dX8_addSpare_18 : decode cX8_addSpare 18 = .ok (.dup2, 1) := by decide +kernel
theorem dX8_addSpare_19 : decode cX8_addSpare 19 = .ok (.iaload, 1) := by decide +kernel
theorem dX8_addSpare_20 : decode cX8_addSpare 20 = .ok (.iload_n 2, 1) := by decide +kernel
theorem dX8_addSpare_21 : decode cX8_addSpare 21 = .ok (.iadd, 1) := by decide +kernel
theorem dX8_addSpare_22 : decode cX8_addSpare 22 = .ok (.iastore, 1) := by decide +kernel
theorem dX8_addSpare_23 : decode cX8_addSpare 23 = .ok (.return_, 1) := by decide +kernel
set_option maxRecDepth 20000 in
theorem ggX8_takeSpare_X8_spareOf : GoodIn wsX8_takeSpare wsX8_spareOf := goodIn_r _ [5, 6, 11, 12] (by decide +kernel) (by decide +kernel)
set_option maxRecDepth 20000 in
theorem gX8_takeSpare_X8_spareOf : GoodIn wsX8_takeSpare (wsV RX8 19 RX8 yX8_spareOf wsX8_spareOf) := goodIn_app (goodIn_of _ (by decide +kernel)) ggX8_takeSpare_X8_spareOf
set_option maxRecDepth 20000 in
theorem ggX8_takeSpare_X8_addSpare : GoodIn wsX8_takeSpare wsX8_addSpare := goodIn_r _ [10, 6, 11, 12] (by decide +kernel) (by decide +kernel)
set_option maxRecDepth 20000 in
theorem gX8_takeSpare_X8_addSpare : GoodIn wsX8_takeSpare (wsV RX8 23 RX8 yX8_addSpare wsX8_addSpare) := goodIn_app (goodIn_of _ (by decide +kernel)) ggX8_takeSpare_X8_addSpare
theorem dX8_takeSpare_0 : decode cX8_takeSpare 0 = .ok (.aload_n 0, 1) := by decide +kernel
theorem dX8_takeSpare_1 : decode cX8_takeSpare 1 = .ok (.iload_n 1, 1) := by decide +kernel
theorem dX8_takeSpare_2 : decode cX8_takeSpare 2 = .ok (.invokevirtual 19, 3) := by decide +kernel
theorem dX8_takeSpare_5 : decode cX8_takeSpare 5 = .ok (.ifCond .ne 5, 3) := by decide +kernel
theorem dX8_takeSpare_8 : decode cX8_takeSpare 8 = .ok (.iconst 0, 1) := by decide +kernel
theorem dX8_takeSpare_9 : decode cX8_takeSpare 9 = .ok (.ireturn, 1) := by decide +kernel
theorem dX8_takeSpare_10 : decode cX8_takeSpare 10 = .ok (.aload_n 0, 1) := by decide +kernel
theorem dX8_takeSpare_11 : decode cX8_takeSpare 11 = .ok (.iload_n 1, 1) := by decide +kernel
theorem dX8_takeSpare_12 : decode cX8_takeSpare 12 = .ok (.iconst (-1), 1) := by decide +kernel
theorem dX8_takeSpare_13 : decode cX8_takeSpare 13 = .ok (.invokevirtual 23, 3) := by decide +kernel
theorem dX8_takeSpare_16 : decode cX8_takeSpare 16 = .ok (.iconst 1, 1) := by decide +kernel
theorem dX8_takeSpare_17 : decode cX8_takeSpare 17 = .ok (.ireturn, 1) := by decide +kernel
set_option maxRecDepth 20000 in
theorem ggX9_init_Jx4a65c_init_da8c8 : GoodIn wsX9_init wsJx4a65c_init_da8c8 := goodIn_r _ [29, 30, 31, 32, 33, 34, 35, 36, 37, 38, 39, 40, 41, 2, 3, 62, 63, 64] (by decide +kernel) (by decide +kernel)
set_option maxRecDepth 20000 in
theorem gX9_init_Jx4a65c_init_da8c8 : GoodIn wsX9_init (wsJx4a65c_init_da8c8) := ggX9_init_Jx4a65c_init_da8c8
set_option maxRecDepth 20000 in
theorem ggX9_init_X8_init : GoodIn wsX9_init wsX8_init := goodIn_r _ [43, 44, 2, 3, 24, 45, 46, 74, 75] (by decide +kernel) (by decide +kernel)
set_option maxRecDepth 20000 in
theorem gX9_init_X8_init_n21 : GoodIn wsX9_init (wsX8_init) := ggX9_init_X8_init
set_option maxRecDepth 20000 in
theorem ggX9_init_X5_init : GoodIn wsX9_init wsX5_init := goodIn_r _ [48, 49, 2, 3, 24, 50, 51, 52, 53, 76, 77, 78, 79] (by decide +kernel) (by decide +kernel)
set_option maxRecDepth 20000 in
theorem gX9_init_X5_init_n35 : GoodIn wsX9_init (wsX5_init) := ggX9_init_X5_init
set_option maxRecDepth 20000 in
theorem ggX9_init_X4_init : GoodIn wsX9_init wsX4_init := goodIn_r _ [55, 56, 2, 3, 24, 57, 58, 59, 60, 61, 80, 81, 82, 83, 84] (by decide +kernel) (by decide +kernel)
set_option maxRecDepth 20000 in
theorem gX9_init_X4_init_n42 : GoodIn wsX9_init (wsX4_init) := ggX9_init_X4_init
theorem dX9_init_0 : decode cX9_init 0 = .ok (.aload_n 0, 1) := by decide +kernel
theorem dX9_init_1 : decode cX9_init 1 = .ok (.invokespecial 3, 3) := by decide +kernel
theorem dX9_init_4 : decode cX9_init 4 = .ok (.aload_n 0, 1) := by decide +kernel
theorem dX9_init_5 : decode cX9_init 5 = .ok (.new 9, 3) := by decide +kernel
theorem dX9_init_8 : decode cX9_init 8 = .ok (.dup, 1) := by decide +kernel
theorem dX9_init_9 : decode cX9_init 9 = .ok (.invokespecial 11, 3) := by decide +kernel
theorem dX9_init_12 : decode cX9_init 12 = .ok (.putfield 12, 3) := by decide +kernel
theorem dX9_init_15 : decode cX9_init 15 = .ok (.aload_n 0, 1) := by decide +kernel
theorem dX9_init_16 : decode cX9_init 16 = .ok (.new 9, 3) := by decide +kernel
theorem dX9_init_19 : decode cX9_init 19 = .ok (.dup, 1) := by decide +kernel
theorem dX9_init_20 : decode cX9_init 20 = .ok (.invokespecial 11, 3) := by decide +kernel
theorem dX9_init_23 : decode cX9_init 23 = .ok (.putfield 16, 3) := by decide +kernel
theorem dX9_init_26 : decode cX9_init 26 = .ok (.aload_n 0, 1) := by decide +kernel
theorem dX9_init_27 : decode cX9_init 27 = .ok (.new 19, 3) := by decide +kernel
theorem dX9_init_30 : decode cX9_init 30 = .ok (.dup, 1) := by decide +kernel
theorem dX9_init_31 : decode cX9_init 31 = .ok (.invokespecial 21, 3) := by decide +kernel
theorem dX9_init_34 : decode cX9_init 34 = .ok (.putfield 22, 3) := by decide +kernel
theorem dX9_init_37 : decode cX9_init 37 = .ok (.aload_n 0, 1) := by decide +kernel
theorem dX9_init_38 : decode cX9_init 38 = .ok (.new 19, 3) := by decide +kernel
theorem dX9_init_41 : decode cX9_init 41 = .ok (.dup, 1) := by decide +kernel
theorem dX9_init_42 : decode cX9_init 42 = .ok (.invokespecial 21, 3) := by decide +kernel
theorem dX9_init_45 : decode cX9_init 45 = .ok (.putfield 26, 3) := by decide +kernel
theorem dX9_init_48 : decode cX9_init 48 = .ok (.aload_n 0, 1) := by decide +kernel
theorem dX9_init_49 : decode cX9_init 49 = .ok (.bipush 60, 2) := by decide +kernel
theorem dX9_init_51 : decode cX9_init 51 = .ok (.newarray .boolean, 2) := by decide +kernel
theorem dX9_init_53 : decode cX9_init 53 = .ok (.putfield 29, 3) := by decide +kernel
theorem dX9_init_56 : decode cX9_init 56 = .ok (.aload_n 0, 1) := by decide +kernel
theorem dX9_init_57 : decode cX9_init 57 = .ok (.new 33, 3) := by decide +kernel
theorem dX9_init_60 : decode cX9_init 60 = .ok (.dup, 1) := by decide +kernel
theorem dX9_init_61 : decode cX9_init 61 = .ok (.invokespecial 35, 3) := by decide +kernel
theorem dX9_init_64 : decode cX9_init 64 = .ok (.putfield 36, 3) := by decide +kernel
theorem dX9_init_67 : decode cX9_init 67 = .ok (.aload_n 0, 1) := by decide +kernel
theorem dX9_init_68 : decode cX9_init 68 = .ok (.new 40, 3) := by decide +kernel
theorem dX9_init_71 : decode cX9_init 71 = .ok (.dup, 1) := by decide +kernel
theorem dX9_init_72 : decode cX9_init 72 = .ok (.invokespecial 42, 3) := by decide +kernel
theorem dX9_init_75 : decode cX9_init 75 = .ok (.putfield 43, 3) := by decide +kernel
theorem dX9_init_78 : decode cX9_init 78 = .ok (.aload_n 0, 1) := by decide +kernel
theorem dX9_init_79 : decode cX9_init 79 = .ok (.bipush 40, 2) := by decide +kernel
theorem dX9_init_81 : decode cX9_init 81 = .ok (.newarray .int, 2) := by decide +kernel
theorem dX9_init_83 : decode cX9_init 83 = .ok (.putfield 47, 3) := by decide +kernel
theorem dX9_init_86 : decode cX9_init 86 = .ok (.aload_n 0, 1) := by decide +kernel
theorem dX9_init_87 : decode cX9_init 87 = .ok (.iconst 0, 1) := by decide +kernel
theorem dX9_init_88 : decode cX9_init 88 = .ok (.putfield 51, 3) := by decide +kernel
theorem dX9_init_91 : decode cX9_init 91 = .ok (.return_, 1) := by decide +kernel
set_option maxRecDepth 20000 in
theorem ggX9_addTable_X9_demandRange : GoodIn wsX9_addTable wsX9_demandRange := goodIn_ca (goodIn_r _ [10, 11, 12] (by decide +kernel) (by decide +kernel)) (goodIn_sub (fun _ h => List.mem_cons_of_mem _ (List.mem_append_right _ h)) (by decide +kernel))
set_option maxRecDepth 20000 in
theorem gX9_addTable_X9_demandRange : GoodIn wsX9_addTable (va_wsS RX9 55 yX9_demandRange wsX9_demandRange) := goodIn_app (goodIn_of _ (by decide +kernel)) ggX9_addTable_X9_demandRange
set_option maxRecDepth 20000 in
theorem ggX9_addTable_Jx4a65c_size_8abf5 : GoodIn wsX9_addTable wsJx4a65c_size_8abf5 := goodIn_r _ [17, 18, 129, 130, 131] (by decide +kernel) (by decide +kernel)
set_option maxRecDepth 20000 in
theorem gX9_addTable_Jx4a65c_size_8abf5 : GoodIn wsX9_addTable (wsV RX9 59 RJx4a65c yJx4a65c_size_8abf5 wsJx4a65c_size_8abf5) := goodIn_app (goodIn_of _ (by decide +kernel)) ggX9_addTable_Jx4a65c_size_8abf5
set_option maxRecDepth 20000 in
theorem ggX9_addTable_X7_init : GoodIn wsX9_addTable wsX7_init := goodIn_r _ [21, 22, 23, 24, 25, 26, 16, 27, 28, 29, 30, 31, 32, 33, 34, 35, 36, 37, 38, 39, 40, 41, 42, 43, 44, 45, 46, 47, 48, 49, 50, 51, 52, 53, 54, 55, 56, 57, 58, 59, 129, 130, 131, 121, 122, 123, 124, 125, 126, 127, 128, 132, 133] (by decide +kernel) (by decide +kernel)
set_option maxRecDepth 20000 in
theorem gX9_addTable_X7_init : GoodIn wsX9_addTable (wsX7_init) := ggX9_addTable_X7_init
set_option maxRecDepth 20000 in
theorem ggX9_addTable_Jx4a65c_add_9ea2d : GoodIn wsX9_addTable wsJx4a65c_add_9ea2d := goodIn_r _ [63, 64, 65, 42, 18, 66, 67, 68, 16, 69, 70, 71, 72, 73, 74, 75, 76, 77, 41, 78, 79, 80, 81, 82, 83, 84, 85, 86, 87, 88, 89, 90, 91, 92, 93, 94, 95, 96, 97, 98, 99, 100, 101, 102, 103, 104, 105, 106, 107, 108, 109, 110, 111, 129, 130, 131] (by decide +kernel) (by decide +kernel)
set_option maxRecDepth 20000 in
theorem gX9_addTable_Jx4a65c_add_9ea2d : GoodIn wsX9_addTable (wsV RX9 75 RJx4a65c yJx4a65c_add_9ea2d wsJx4a65c_add_9ea2d) := goodIn_app (goodIn_of _ (by decide +kernel)) ggX9_addTable_Jx4a65c_add_9ea2d
theorem dX9_addTable_0 : decode cX9_addTable 0 = .ok (.iload_n 1, 1) := by decide +kernel
theorem dX9_addTable_1 : decode cX9_addTable 1 = .ok (.iconst 0, 1) := by decide +kernel
theorem dX9_addTable_2 : decode cX9_addTable 2 = .ok (.bipush 100, 2) := by decide +kernel
theorem dX9_addTable_4 : decode cX9_addTable 4 = .ok (.invokestatic 55, 3) := by decide +kernel
theorem dX9_addTable_7 : decode cX9_addTable 7 = .ok (.iload_n 2, 1) := by decide +kernel
theorem dX9_addTable_8 : decode cX9_addTable 8 = .ok (.iconst 1, 1) := by decide +kernel
theorem dX9_addTable_9 : decode cX9_addTable 9 = .ok (.bipush 9, 2) := by decide +kernel
theorem dX9_addTable_11 : decode cX9_addTable 11 = .ok (.invokestatic 55, 3) := by decide +kernel
theorem dX9_addTable_14 : decode cX9_addTable 14 = .ok (.aload_n 0, 1) := by decide +kernel
theorem dX9_addTable_15 : decode cX9_addTable 15 = .ok (.getfield 12, 3) := by decide +kernel
theorem dX9_addTable_18 : decode cX9_addTable 18 = .ok (.invokevirtual 59, 3) := by decide +kernel
theorem dX9_addTable_21 : decode cX9_addTable 21 = .ok (.bipush 6, 2) := by decide +kernel
theorem dX9_addTable_23 : decode cX9_addTable 23 = .ok (.if_icmp .lt 13, 3) := by decide +kernel
theorem dX9_addTable_26 : decode cX9_addTable 26 = .ok (.new 63, 3) := by decide +kernel
theorem dX9_addTable_29 : decode cX9_addTable 29 = .ok (.dup, 1) := by decide +kernel
theorem dX9_addTable_30 : decode cX9_addTable 30 = .ok (.ldc 65, 2) := by decide +kernel
theorem dX9_addTable_32 : decode cX9_addTable 32 = .ok (.invokespecial 67, 3) := by decide +kernel
theorem dX9_addTable_35 : decode cX9_addTable 35 = .ok (.athrow, 1) := by decide +kernel
theorem dX9_addTable_36 : decode cX9_addTable 36 = .ok (.aload_n 0, 1) := by decide +kernel
theorem dX9_addTable_37 : decode cX9_addTable 37 = .ok (.getfield 12, 3) := by decide +kernel
theorem dX9_addTable_40 : decode cX9_addTable 40 = .ok (.new 70, 3) := by decide +kernel
theorem dX9_addTable_43 : decode cX9_addTable 43 = .ok (.dup, 1) := by decide +kernel
theorem dX9_addTable_44 : decode cX9_addTable 44 = .ok (.iload_n 1, 1) := by decide +kernel
theorem dX9_addTable_45 : decode cX9_addTable 45 = .ok (.iload_n 2, 1) := by decide +kernel
theorem dX9_addTable_46 : decode cX9_addTable 46 = .ok (.invokespecial 72, 3) := by decide +kernel
theorem dX9_addTable_49 : decode cX9_addTable 49 = .ok (.invokevirtual 75, 3) := by decide +kernel
theorem dX9_addTable_52 : decode cX9_addTable 52 = .ok (.pop, 1) := by decide +kernel
theorem dX9_addTable_53 : decode cX9_addTable 53 = .ok (.aload_n 0, 1) := by decide +kernel
theorem dX9_addTable_54 : decode cX9_addTable 54 = .ok (.getfield 12, 3) := by decide +kernel
theorem dX9_addTable_57 : decode cX9_addTable 57 = .ok (.invokevirtual 59, 3) := by decide +kernel
theorem dX9_addTable_60 : decode cX9_addTable 60 = .ok (.iconst 1, 1) := by decide +kernel
theorem dX9_addTable_61 : decode cX9_addTable 61 = .ok (.isub, 1) := by decide +kernel
theorem dX9_addTable_62 : decode cX9_addTable 62 = .ok (.ireturn, 1) := by decide +kernel
set_option maxRecDepth 20000 in
theorem ggX9_addBumper_X9_demandTable : GoodIn wsX9_addBumper wsX9_demandTable := goodIn_ca (goodIn_r _ [11, 12, 13, 14, 15, 16, 17, 18, 19, 20, 21, 22, 23, 24, 25, 26, 27, 28, 29, 30, 31, 32, 33, 34, 35, 36, 37, 38, 129, 130, 131, 132, 133, 134, 135, 136, 137, 138, 139, 140] (by decide +kernel) (by decide +kernel)) (goodIn_sub (fun _ h => List.mem_cons_of_mem _ (List.mem_append_left _ (List.mem_append_right _ h))) (by decide +kernel))
set_option maxRecDepth 20000 in
theorem gX9_addBumper_X9_demandTable : GoodIn wsX9_addBumper (wsV RX9 79 RX9 yX9_demandTable wsX9_demandTable) := goodIn_app (goodIn_of _ (by decide +kernel)) ggX9_addBumper_X9_demandTable
set_option maxRecDepth 20000 in
theorem ggX9_addBumper_X9_demandRange : GoodIn wsX9_addBumper wsX9_demandRange := goodIn_ca (goodIn_r _ [41, 42, 43] (by decide +kernel) (by decide +kernel)) (goodIn_sub (fun _ h => List.mem_cons_of_mem _ (List.mem_append_right _ h)) (by decide +kernel))
set_option maxRecDepth 20000 in
theorem gX9_addBumper_X9_demandRange : GoodIn wsX9_addBumper (va_wsS RX9 55 yX9_demandRange wsX9_demandRange) := goodIn_app (goodIn_of _ (by decide +kernel)) ggX9_addBumper_X9_demandRange
set_option maxRecDepth 20000 in
theorem ggX9_addBumper_X9_demandNoGame : GoodIn wsX9_addBumper wsX9_demandNoGame := goodIn_ca (goodIn_r _ [46, 1, 2, 47, 114, 115, 116, 117, 118, 119, 120, 121] (by decide +kernel) (by decide +kernel)) (goodIn_sub (fun _ h => List.mem_cons_of_mem _ (List.mem_append_left _ (List.mem_append_left _ (List.mem_append_right _ h)))) (by decide +kernel))
set_option maxRecDepth 20000 in
theorem gX9_addBumper_X9_demandNoGame : GoodIn wsX9_addBumper (va_wsS RX9 83 yX9_demandNoGame wsX9_demandNoGame) := goodIn_app (goodIn_of _ (by decide +kernel)) ggX9_addBumper_X9_demandNoGame
set_option maxRecDepth 20000 in
theorem ggX9_addBumper_Jx4a65c_size_8abf5 : GoodIn wsX9_addBumper wsJx4a65c_size_8abf5 := goodIn_r _ [20, 21, 138, 139, 140] (by decide +kernel) (by decide +kernel)
set_option maxRecDepth 20000 in
theorem gX9_addBumper_Jx4a65c_size_8abf5 : GoodIn wsX9_addBumper (wsV RX9 59 RJx4a65c yJx4a65c_size_8abf5 wsJx4a65c_size_8abf5) := goodIn_app (goodIn_of _ (by decide +kernel)) ggX9_addBumper_Jx4a65c_size_8abf5
set_option maxRecDepth 20000 in
theorem ggX9_addBumper_X1_init : GoodIn wsX9_addBumper wsX1_init := goodIn_r _ [50, 51, 52, 53, 54, 55, 56, 57, 58, 59, 60, 122, 123, 124, 125, 126, 127, 128] (by decide +kernel) (by decide +kernel)
set_option maxRecDepth 20000 in
theorem gX9_addBumper_X1_init : GoodIn wsX9_addBumper (wsX1_init) := ggX9_addBumper_X1_init
set_option maxRecDepth 20000 in
theorem ggX9_addBumper_Jx4a65c_add_9ea2d : GoodIn wsX9_addBumper wsJx4a65c_add_9ea2d := goodIn_r _ [64, 65, 66, 38, 21, 67, 68, 69, 19, 70, 71, 72, 73, 74, 75, 76, 77, 78, 79, 80, 81, 82, 83, 84, 85, 86, 87, 88, 89, 90, 91, 92, 93, 94, 95, 96, 97, 98, 99, 100, 101, 102, 103, 104, 105, 106, 107, 108, 109, 110, 111, 112, 113, 138, 139, 140] (by decide +kernel) (by decide +kernel)
set_option maxRecDepth 20000 in
theorem gX9_addBumper_Jx4a65c_add_9ea2d : GoodIn wsX9_addBumper (wsV RX9 75 RJx4a65c yJx4a65c_add_9ea2d wsJx4a65c_add_9ea2d) := goodIn_app (goodIn_of _ (by decide +kernel)) ggX9_addBumper_Jx4a65c_add_9ea2d
theorem dX9_addBumper_0 : decode cX9_addBumper 0 = .ok (.aload_n 0, 1) := by decide +kernel
theorem dX9_addBumper_1 : decode cX9_addBumper 1 = .ok (.iload_n 1, 1) := by decide +kernel
theorem dX9_addBumper_2 : decode cX9_addBumper 2 = .ok (.invokevirtual 79, 3) := by decide +kernel
theorem dX9_addBumper_5 : decode cX9_addBumper 5 = .ok (.astore 6, 2) := by decide +kernel
theorem dX9_addBumper_7 : decode cX9_addBumper 7 = .ok (.iload_n 2, 1) := by decide +kernel
theorem dX9_addBumper_8 : decode cX9_addBumper 8 = .ok (.iconst 0, 1) := by decide +kernel
theorem dX9_addBumper_9 : decode cX9_addBumper 9 = .ok (.sipush 159, 3) := by decide +kernel
theorem dX9_addBumper_12 : decode cX9_addBumper 12 = .ok (.invokestatic 55, 3) := by decide +kernel
theorem dX9_addBumper_15 : decode cX9_addBumper 15 = .ok (.iload_n 3, 1) := by decide +kernel
theorem dX9_addBumper_16 : decode cX9_addBumper 16 = .ok (.iconst 0, 1) := by decide +kernel
theorem dX9_addBumper_17 : decode cX9_addBumper 17 = .ok (.sipush 239, 3) := by decide +kernel
theorem dX9_addBumper_20 : decode cX9_addBumper 20 = .ok (.invokestatic 55, 3) := by decide +kernel
theorem dX9_addBumper_23 : decode cX9_addBumper 23 = .ok (.iload 4, 2) := by decide +kernel
theorem dX9_addBumper_25 : decode cX9_addBumper 25 = .ok (.bipush 100, 2) := by decide +kernel
theorem dX9_addBumper_27 : decode cX9_addBumper 27 = .ok (.idiv, 1) := by decide +kernel
theorem dX9_addBumper_28 : decode cX9_addBumper 28 = .ok (.iconst 1, 1) := by decide +kernel
theorem dX9_addBumper_29 : decode cX9_addBumper 29 = .ok (.bipush 60, 2) := by decide +kernel
theorem dX9_addBumper_31 : decode cX9_addBumper 31 = .ok (.invokestatic 55, 3) := by decide +kernel
theorem dX9_addBumper_34 : decode cX9_addBumper 34 = .ok (.iload 4, 2) := by decide +kernel
theorem dX9_addBumper_36 : decode cX9_addBumper 36 = .ok (.bipush 100, 2) := by decide +kernel
theorem dX9_addBumper_38 : decode cX9_addBumper 38 = .ok (.irem, 1) := by decide +kernel
theorem dX9_addBumper_39 : decode cX9_addBumper 39 = .ok (.iconst 1, 1) := by decide +kernel
theorem dX9_addBumper_40 : decode cX9_addBumper 40 = .ok (.bipush 60, 2) := by decide +kernel
theorem dX9_addBumper_42 : decode cX9_addBumper 42 = .ok (.invokestatic 55, 3) := by decide +kernel
theorem dX9_addBumper_45 : decode cX9_addBumper 45 = .ok (.iload 5, 2) := by decide +kernel
theorem dX9_addBumper_47 : decode cX9_addBumper 47 = .ok (.iconst 0, 1) := by decide +kernel
theorem dX9_addBumper_48 : decode cX9_addBumper 48 = .ok (.bipush 20, 2) := by decide +kernel
theorem dX9_addBumper_50 : decode cX9_addBumper 50 = .ok (.invokestatic 55, 3) := by decide +kernel
theorem dX9_addBumper_53 : decode cX9_addBumper 53 = .ok (.aload 6, 2) := by decide +kernel
theorem dX9_addBumper_55 : decode cX9_addBumper 55 = .ok (.invokestatic 83, 3) := by decide +kernel
theorem dX9_addBumper_58 : decode cX9_addBumper 58 = .ok (.aload 6, 2) := by decide +kernel
theorem dX9_addBumper_60 : decode cX9_addBumper 60 = .ok (.getfield 87, 3) := by decide +kernel
theorem dX9_addBumper_63 : decode cX9_addBumper 63 = .ok (.invokevirtual 59, 3) := by decide +kernel
theorem dX9_addBumper_66 : decode cX9_addBumper 66 = .ok (.bipush 8, 2) := by decide +kernel
theorem dX9_addBumper_68 : decode cX9_addBumper 68 = .ok (.if_icmp .lt 13, 3) := by decide +kernel
theorem dX9_addBumper_71 : decode cX9_addBumper 71 = .ok (.new 63, 3) := by decide +kernel
theorem dX9_addBumper_74 : decode cX9_addBumper 74 = .ok (.dup, 1) := by decide +kernel
theorem dX9_addBumper_75 : decode cX9_addBumper 75 = .ok (.ldc 90, 2) := by decide +kernel
theorem dX9_addBumper_77 : decode cX9_addBumper 77 = .ok (.invokespecial 67, 3) := by decide +kernel
theorem dX9_addBumper_80 : decode cX9_addBumper 80 = .ok (.athrow, 1) := by decide +kernel
theorem dX9_addBumper_81 : decode cX9_addBumper 81 = .ok (.aload 6, 2) := by decide +kernel
theorem dX9_addBumper_83 : decode cX9_addBumper 83 = .ok (.getfield 87, 3) := by decide +kernel
theorem dX9_addBumper_86 : decode cX9_addBumper 86 = .ok (.new 92, 3) := by decide +kernel
theorem dX9_addBumper_89 : decode cX9_addBumper 89 = .ok (.dup, 1) := by decide +kernel
theorem dX9_addBumper_90 : decode cX9_addBumper 90 = .ok (.iload_n 2, 1) := by decide +kernel
theorem dX9_addBumper_91 : decode cX9_addBumper 91 = .ok (.iload_n 3, 1) := by decide +kernel
theorem dX9_addBumper_92 : decode cX9_addBumper 92 = .ok (.iload 4, 2) := by decide +kernel
theorem dX9_addBumper_94 : decode cX9_addBumper 94 = .ok (.bipush 100, 2) := by decide +kernel
theorem dX9_addBumper_96 : decode cX9_addBumper 96 = .ok (.idiv, 1) := by decide +kernel
theorem dX9_addBumper_97 : decode cX9_addBumper 97 = .ok (.iload 4, 2) := by decide +kernel
theorem dX9_addBumper_99 : decode cX9_addBumper 99 = .ok (.bipush 100, 2) := by decide +kernel
theorem dX9_addBumper_101 : decode cX9_addBumper 101 = .ok (.irem, 1) := by decide +kernel
theorem dX9_addBumper_102 : decode cX9_addBumper 102 = .ok (.iload 5, 2) := by decide +kernel
theorem dX9_addBumper_104 : decode cX9_addBumper 104 = .ok (.invokespecial 94, 3) := by decide +kernel
theorem dX9_addBumper_107 : decode cX9_addBumper 107 = .ok (.invokevirtual 75, 3) := by decide +kernel
theorem dX9_addBumper_110 : decode cX9_addBumper 110 = .ok (.pop, 1) := by decide +kernel
theorem dX9_addBumper_111 : decode cX9_addBumper 111 = .ok (.aload 6, 2) := by decide +kernel
theorem dX9_addBumper_113 : decode cX9_addBumper 113 = .ok (.getfield 87, 3) := by decide +kernel
theorem dX9_addBumper_116 : decode cX9_addBumper 116 = .ok (.invokevirtual 59, 3) := by decide +kernel
theorem dX9_addBumper_119 : decode cX9_addBumper 119 = .ok (.iconst 1, 1) := by decide +kernel
theorem dX9_addBumper_120 : decode cX9_addBumper 120 = .ok (.isub, 1) := by decide +kernel
theorem dX9_addBumper_121 : decode cX9_addBumper 121 = .ok (.ireturn, 1) := by decide +kernel
set_option maxRecDepth 20000 in
theorem ggX9_setPoints_X9_demandTable : GoodIn wsX9_setPoints wsX9_demandTable := goodIn_ca (goodIn_r _ [6, 7, 8, 9, 10, 11, 12, 13, 14, 15, 16, 17, 18, 19, 20, 21, 22, 23, 24, 25, 26, 27, 28, 29, 30, 31, 32, 33, 68, 69, 70, 71, 72, 73, 74, 75, 76, 77, 78, 79] (by decide +kernel) (by decide +kernel)) (goodIn_sub (fun _ h => List.mem_cons_of_mem _ (List.mem_append_left _ (List.mem_append_left _ (List.mem_append_right _ h)))) (by decide +kernel))
set_option maxRecDepth 20000 in
theorem gX9_setPoints_X9_demandTable : GoodIn wsX9_setPoints (wsV RX9 79 RX9 yX9_demandTable wsX9_demandTable) := goodIn_app (goodIn_of _ (by decide +kernel)) ggX9_setPoints_X9_demandTable
set_option maxRecDepth 20000 in
theorem ggX9_setPoints_X9_demandBumper : GoodIn wsX9_setPoints wsX9_demandBumper := goodIn_ca (goodIn_r _ [36, 7, 8, 37, 38, 11, 12, 13, 14, 15, 16, 17, 18, 19, 20, 21, 22, 23, 24, 25, 26, 27, 28, 29, 30, 31, 32, 33, 60, 61, 62, 63, 64, 65, 66, 67, 77, 78, 79] (by decide +kernel) (by decide +kernel)) (goodIn_sub (fun _ h => List.mem_cons_of_mem _ (List.mem_append_left _ (List.mem_append_left _ (List.mem_append_right _ h)))) (by decide +kernel))
set_option maxRecDepth 20000 in
theorem gX9_setPoints_X9_demandBumper : GoodIn wsX9_setPoints (va_wsS RX9 97 yX9_demandBumper wsX9_demandBumper) := goodIn_app (goodIn_of _ (by decide +kernel)) ggX9_setPoints_X9_demandBumper
set_option maxRecDepth 20000 in
theorem ggX9_setPoints_X9_demandRange : GoodIn wsX9_setPoints wsX9_demandRange := goodIn_ca (goodIn_r _ [41, 42, 43] (by decide +kernel) (by decide +kernel)) (goodIn_sub (fun _ h => List.mem_cons_of_mem _ (List.mem_append_left _ (List.mem_append_right _ h))) (by decide +kernel))
set_option maxRecDepth 20000 in
theorem gX9_setPoints_X9_demandRange : GoodIn wsX9_setPoints (va_wsS RX9 55 yX9_demandRange wsX9_demandRange) := goodIn_app (goodIn_of _ (by decide +kernel)) ggX9_setPoints_X9_demandRange
set_option maxRecDepth 20000 in
theorem ggX9_setPoints_X9_demandNoGame : GoodIn wsX9_setPoints wsX9_demandNoGame := goodIn_ca (goodIn_r _ [46, 47, 48, 49, 60, 61, 62, 63, 64, 65, 66, 67] (by decide +kernel) (by decide +kernel)) (goodIn_sub (fun _ h => List.mem_cons_of_mem _ (List.mem_append_right _ h)) (by decide +kernel))
set_option maxRecDepth 20000 in
theorem gX9_setPoints_X9_demandNoGame : GoodIn wsX9_setPoints (va_wsS RX9 83 yX9_demandNoGame wsX9_demandNoGame) := goodIn_app (goodIn_of _ (by decide +kernel)) ggX9_setPoints_X9_demandNoGame
set_option maxRecDepth 20000 in
theorem ggX9_setPoints_X6_pointsOf : GoodIn wsX9_setPoints wsX6_pointsOf := goodIn_r _ [54, 55, 80, 81] (by decide +kernel) (by decide +kernel)
set_option maxRecDepth 20000 in
theorem gX9_setPoints_X6_pointsOf : GoodIn wsX9_setPoints (wsV RX9 105 RX6 yX6_pointsOf wsX6_pointsOf) := goodIn_app (goodIn_of _ (by decide +kernel)) ggX9_setPoints_X6_pointsOf
set_option maxRecDepth 20000 in
theorem ggX9_setPoints_X6_changePoints : GoodIn wsX9_setPoints wsX6_changePoints := goodIn_r _ [59, 55, 80, 81] (by decide +kernel) (by decide +kernel)
set_option maxRecDepth 20000 in
theorem gX9_setPoints_X6_changePoints : GoodIn wsX9_setPoints (wsV RX9 111 RX6 yX6_changePoints wsX6_changePoints) := goodIn_app (goodIn_of _ (by decide +kernel)) ggX9_setPoints_X6_changePoints
theorem dX9_setPoints_0 : decode cX9_setPoints 0 = .ok (.aload_n 0, 1) := by decide +kernel
theorem dX9_setPoints_1 : decode cX9_setPoints 1 = .ok (.iload_n 1, 1) := by decide +kernel
theorem dX9_setPoints_2 : decode cX9_setPoints 2 = .ok (.invokevirtual 79, 3) := by decide +kernel
theorem dX9_setPoints_5 : decode cX9_setPoints 5 = .ok (.astore 4, 2) := by decide +kernel
theorem dX9_setPoints_7 : decode cX9_setPoints 7 = .ok (.aload 4, 2) := by decide +kernel
theorem dX9_setPoints_9 : decode cX9_setPoints 9 = .ok (.iload_n 2, 1) := by decide +kernel
theorem dX9_setPoints_10 : decode cX9_setPoints 10 = .ok (.invokestatic 97, 3) := by decide +kernel
theorem dX9_setPoints_13 : decode cX9_setPoints 13 = .ok (.pop, 1) := by decide +kernel
theorem dX9_setPoints_14 : decode cX9_setPoints 14 = .ok (.iload_n 3, 1) := by decide +kernel
theorem dX9_setPoints_15 : decode cX9_setPoints 15 = .ok (.iconst 0, 1) := by decide +kernel
theorem dX9_setPoints_16 : decode cX9_setPoints 16 = .ok (.sipush 1000, 3) := by decide +kernel
theorem dX9_setPoints_19 : decode cX9_setPoints 19 = .ok (.invokestatic 55, 3) := by decide +kernel
theorem dX9_setPoints_22 : decode cX9_setPoints 22 = .ok (.aload 4, 2) := by decide +kernel
theorem dX9_setPoints_24 : decode cX9_setPoints 24 = .ok (.invokestatic 83, 3) := by decide +kernel
theorem dX9_setPoints_27 : decode cX9_setPoints 27 = .ok (.aload 4, 2) := by decide +kernel
theorem dX9_setPoints_29 : decode cX9_setPoints 29 = .ok (.getfield 101, 3) := by decide +kernel
theorem dX9_setPoints_32 : decode cX9_setPoints 32 = .ok (.iload_n 2, 1) := by decide +kernel
theorem dX9_setPoints_33 : decode cX9_setPoints 33 = .ok (.invokevirtual 105, 3) := by decide +kernel
theorem dX9_setPoints_36 : decode cX9_setPoints 36 = .ok (.istore 5, 2) := by decide +kernel
theorem dX9_setPoints_38 : decode cX9_setPoints 38 = .ok (.aload 4, 2) := by decide +kernel
theorem dX9_setPoints_40 : decode cX9_setPoints 40 = .ok (.getfield 101, 3) := by decide +kernel
theorem dX9_setPoints_43 : decode cX9_setPoints 43 = .ok (.iload_n 2, 1) := by decide +kernel
theorem dX9_setPoints_44 : decode cX9_setPoints 44 = .ok (.iload_n 3, 1) := by decide +kernel
theorem dX9_setPoints_45 : decode cX9_setPoints 45 = .ok (.invokevirtual 111, 3) := by decide +kernel
theorem dX9_setPoints_48 : decode cX9_setPoints 48 = .ok (.iload 5, 2) := by decide +kernel
theorem dX9_setPoints_50 : decode cX9_setPoints 50 = .ok (.ireturn, 1) := by decide +kernel
set_option maxRecDepth 20000 in
theorem ggX9_setMode_X9_demandTable : GoodIn wsX9_setMode wsX9_demandTable := goodIn_ca (goodIn_r _ [9, 10, 11, 12, 13, 14, 15, 16, 17, 18, 19, 20, 21, 22, 23, 24, 25, 26, 27, 28, 29, 30, 31, 32, 33, 34, 35, 36, 93, 94, 95, 96, 97, 98, 99, 100, 101, 102, 103, 104] (by decide +kernel) (by decide +kernel)) (goodIn_sub (fun _ h => List.mem_cons_of_mem _ (List.mem_append_left _ (List.mem_append_left _ (List.mem_append_right _ h)))) (by decide +kernel))
set_option maxRecDepth 20000 in
theorem gX9_setMode_X9_demandTable : GoodIn wsX9_setMode (wsV RX9 79 RX9 yX9_demandTable wsX9_demandTable) := goodIn_app (goodIn_of _ (by decide +kernel)) ggX9_setMode_X9_demandTable
set_option maxRecDepth 20000 in
theorem ggX9_setMode_X9_demandIndex : GoodIn wsX9_setMode wsX9_demandIndex := goodIn_ca (goodIn_r _ [39, 10, 11] (by decide +kernel) (by decide +kernel)) (goodIn_sub (fun _ h => List.mem_cons_of_mem _ (List.mem_append_left _ (List.mem_append_left _ (List.mem_append_right _ h)))) (by decide +kernel))
set_option maxRecDepth 20000 in
theorem gX9_setMode_X9_demandIndex : GoodIn wsX9_setMode (va_wsS RX9 114 yX9_demandIndex wsX9_demandIndex) := goodIn_app (goodIn_of _ (by decide +kernel)) ggX9_setMode_X9_demandIndex
set_option maxRecDepth 20000 in
theorem ggX9_setMode_X9_demandBumper : GoodIn wsX9_setMode wsX9_demandBumper := goodIn_ca (goodIn_r _ [42, 10, 11, 43, 44, 14, 15, 16, 17, 18, 19, 20, 21, 22, 23, 24, 25, 26, 27, 28, 29, 30, 31, 32, 33, 34, 35, 36, 80, 81, 82, 83, 84, 85, 86, 87, 102, 103, 104] (by decide +kernel) (by decide +kernel)) (goodIn_sub (fun _ h => List.mem_cons_of_mem _ (List.mem_append_left _ (List.mem_append_left _ (List.mem_append_right _ h)))) (by decide +kernel))
set_option maxRecDepth 20000 in
theorem gX9_setMode_X9_demandBumper : GoodIn wsX9_setMode (va_wsS RX9 97 yX9_demandBumper wsX9_demandBumper) := goodIn_app (goodIn_of _ (by decide +kernel)) ggX9_setMode_X9_demandBumper
set_option maxRecDepth 20000 in
theorem ggX9_setMode_X9_demandLeast : GoodIn wsX9_setMode wsX9_demandLeast := goodIn_ca (goodIn_r _ [47, 48, 49] (by decide +kernel) (by decide +kernel)) (goodIn_sub (fun _ h => List.mem_cons_of_mem _ (List.mem_append_left _ (List.mem_append_right _ h))) (by decide +kernel))
set_option maxRecDepth 20000 in
theorem gX9_setMode_X9_demandLeast : GoodIn wsX9_setMode (va_wsS RX9 117 yX9_demandLeast wsX9_demandLeast) := goodIn_app (goodIn_of _ (by decide +kernel)) ggX9_setMode_X9_demandLeast
set_option maxRecDepth 20000 in
theorem ggX9_setMode_X9_demandRange : GoodIn wsX9_setMode wsX9_demandRange := goodIn_ca (goodIn_r _ [52, 48, 49] (by decide +kernel) (by decide +kernel)) (goodIn_sub (fun _ h => List.mem_cons_of_mem _ (List.mem_append_left _ (List.mem_append_right _ h))) (by decide +kernel))
set_option maxRecDepth 20000 in
theorem gX9_setMode_X9_demandRange : GoodIn wsX9_setMode (va_wsS RX9 55 yX9_demandRange wsX9_demandRange) := goodIn_app (goodIn_of _ (by decide +kernel)) ggX9_setMode_X9_demandRange
set_option maxRecDepth 20000 in
theorem ggX9_setMode_X9_demandNoGame : GoodIn wsX9_setMode wsX9_demandNoGame := goodIn_ca (goodIn_r _ [55, 56, 57, 58, 80, 81, 82, 83, 84, 85, 86, 87] (by decide +kernel) (by decide +kernel)) (goodIn_sub (fun _ h => List.mem_cons_of_mem _ (List.mem_append_right _ h)) (by decide +kernel))
set_option maxRecDepth 20000 in
theorem gX9_setMode_X9_demandNoGame : GoodIn wsX9_setMode (va_wsS RX9 83 yX9_demandNoGame wsX9_demandNoGame) := goodIn_app (goodIn_of _ (by decide +kernel)) ggX9_setMode_X9_demandNoGame
set_option maxRecDepth 20000 in
theorem ggX9_setMode_X6_modeOf : GoodIn wsX9_setMode wsX6_modeOf := goodIn_r _ [63, 64, 105, 106] (by decide +kernel) (by decide +kernel)
set_option maxRecDepth 20000 in
theorem gX9_setMode_X6_modeOf : GoodIn wsX9_setMode (wsV RX9 120 RX6 yX6_modeOf wsX6_modeOf) := goodIn_app (goodIn_of _ (by decide +kernel)) ggX9_setMode_X6_modeOf
set_option maxRecDepth 20000 in
theorem ggX9_setMode_X3_init : GoodIn wsX9_setMode wsX3_init := goodIn_r _ [67, 68, 69, 70, 71, 72, 73, 74, 75, 88, 89, 90, 91, 92] (by decide +kernel) (by decide +kernel)
set_option maxRecDepth 20000 in
theorem gX9_setMode_X3_init : GoodIn wsX9_setMode (wsX3_init) := ggX9_setMode_X3_init
set_option maxRecDepth 20000 in
theorem ggX9_setMode_X6_changeMode : GoodIn wsX9_setMode wsX6_changeMode := goodIn_r _ [79, 64, 105, 106] (by decide +kernel) (by decide +kernel)
set_option maxRecDepth 20000 in
theorem gX9_setMode_X6_changeMode : GoodIn wsX9_setMode (wsV RX9 127 RX6 yX6_changeMode wsX6_changeMode) := goodIn_app (goodIn_of _ (by decide +kernel)) ggX9_setMode_X6_changeMode
theorem dX9_setMode_0 : decode cX9_setMode 0 = .ok (.aload_n 0, 1) := by decide +kernel
theorem dX9_setMode_1 : decode cX9_setMode 1 = .ok (.iload_n 1, 1) := by decide +kernel
theorem dX9_setMode_2 : decode cX9_setMode 2 = .ok (.invokevirtual 79, 3) := by decide +kernel
theorem dX9_setMode_5 : decode cX9_setMode 5 = .ok (.astore 6, 2) := by decide +kernel
theorem dX9_setMode_7 : decode cX9_setMode 7 = .ok (.iload_n 2, 1) := by decide +kernel
theorem dX9_setMode_8 : decode cX9_setMode 8 = .ok (.iconst 4, 1) := by decide +kernel
theorem dX9_setMode_9 : decode cX9_setMode 9 = .ok (.invokestatic 114, 3) := by decide +kernel
theorem dX9_setMode_12 : decode cX9_setMode 12 = .ok (.iload_n 3, 1) := by decide +kernel
theorem dX9_setMode_13 : decode cX9_setMode 13 = .ok (.ifCond .lt 23, 3) := by decide +kernel
theorem dX9_setMode_16 : decode cX9_setMode 16 = .ok (.aload 6, 2) := by decide +kernel
theorem dX9_setMode_18 : decode cX9_setMode 18 = .ok (.iload_n 3, 1) := by decide +kernel
theorem dX9_setMode_19 : decode cX9_setMode 19 = .ok (.bipush 10, 2) := by decide +kernel
theorem dX9_setMode_21 : decode cX9_setMode 21 = .ok (.idiv, 1) := by decide +kernel
theorem dX9_setMode_22 : decode cX9_setMode 22 = .ok (.invokestatic 97, 3) := by decide +kernel
theorem dX9_setMode_25 : decode cX9_setMode 25 = .ok (.pop, 1) := by decide +kernel
theorem dX9_setMode_26 : decode cX9_setMode 26 = .ok (.aload 6, 2) := by decide +kernel
theorem dX9_setMode_28 : decode cX9_setMode 28 = .ok (.iload_n 3, 1) := by decide +kernel
theorem dX9_setMode_29 : decode cX9_setMode 29 = .ok (.bipush 10, 2) := by decide +kernel
theorem dX9_setMode_31 : decode cX9_setMode 31 = .ok (.irem, 1) := by decide +kernel
theorem dX9_setMode_32 : decode cX9_setMode 32 = .ok (.invokestatic 97, 3) := by decide +kernel
theorem dX9_setMode_35 : decode cX9_setMode 35 = .ok (.pop, 1) := by decide +kernel
theorem dX9_setMode_36 : decode cX9_setMode 36 = .ok (.iload_n 3, 1) := by decide +kernel
theorem dX9_setMode_37 : decode cX9_setMode 37 = .ok (.iconst (-1), 1) := by decide +kernel
theorem dX9_setMode_38 : decode cX9_setMode 38 = .ok (.invokestatic 117, 3) := by decide +kernel
theorem dX9_setMode_41 : decode cX9_setMode 41 = .ok (.iload 4, 2) := by decide +kernel
theorem dX9_setMode_43 : decode cX9_setMode 43 = .ok (.bipush 100, 2) := by decide +kernel
theorem dX9_setMode_45 : decode cX9_setMode 45 = .ok (.idiv, 1) := by decide +kernel
theorem dX9_setMode_46 : decode cX9_setMode 46 = .ok (.iconst 1, 1) := by decide +kernel
theorem dX9_setMode_47 : decode cX9_setMode 47 = .ok (.bipush 20, 2) := by decide +kernel
theorem dX9_setMode_49 : decode cX9_setMode 49 = .ok (.invokestatic 55, 3) := by decide +kernel
theorem dX9_setMode_52 : decode cX9_setMode 52 = .ok (.iload 4, 2) := by decide +kernel
theorem dX9_setMode_54 : decode cX9_setMode 54 = .ok (.bipush 100, 2) := by decide +kernel
theorem dX9_setMode_56 : decode cX9_setMode 56 = .ok (.irem, 1) := by decide +kernel
theorem dX9_setMode_57 : decode cX9_setMode 57 = .ok (.iconst 2, 1) := by decide +kernel
theorem dX9_setMode_58 : decode cX9_setMode 58 = .ok (.bipush 9, 2) := by decide +kernel
theorem dX9_setMode_60 : decode cX9_setMode 60 = .ok (.invokestatic 55, 3) := by decide +kernel
theorem dX9_setMode_63 : decode cX9_setMode 63 = .ok (.iload 5, 2) := by decide +kernel
theorem dX9_setMode_65 : decode cX9_setMode 65 = .ok (.iconst 0, 1) := by decide +kernel
theorem dX9_setMode_66 : decode cX9_setMode 66 = .ok (.sipush 5000, 3) := by decide +kernel
theorem dX9_setMode_69 : decode cX9_setMode 69 = .ok (.invokestatic 55, 3) := by decide +kernel
theorem dX9_setMode_72 : decode cX9_setMode 72 = .ok (.aload 6, 2) := by decide +kernel
theorem dX9_setMode_74 : decode cX9_setMode 74 = .ok (.invokestatic 83, 3) := by decide +kernel
theorem dX9_setMode_77 : decode cX9_setMode 77 = .ok (.aload 6, 2) := by decide +kernel
theorem dX9_setMode_79 : decode cX9_setMode 79 = .ok (.getfield 101, 3) := by decide +kernel
theorem dX9_setMode_82 : decode cX9_setMode 82 = .ok (.iload_n 2, 1) := by decide +kernel
theorem dX9_setMode_83 : decode cX9_setMode 83 = .ok (.invokevirtual 120, 3) := by decide +kernel
theorem dX9_setMode_86 : decode cX9_setMode 86 = .ok (.ifnull 7, 3) := by decide +kernel
theorem dX9_setMode_89 : decode cX9_setMode 89 = .ok (.iconst 1, 1) := by decide +kernel
theorem dX9_setMode_90 : decode cX9_setMode 90 = .ok (.goto 4, 3) := by decide +kernel
theorem dX9_setMode_93 : decode cX9_setMode 93 = .ok (.iconst 0, 1) := by decide +kernel
theorem dX9_setMode_94 : decode cX9_setMode 94 = .ok (.istore 7, 2) := by decide +kernel
theorem dX9_setMode_96 : decode cX9_setMode 96 = .ok (.aload 6, 2) := by decide +kernel
theorem dX9_setMode_98 : decode cX9_setMode 98 = .ok (.getfield 101, 3) := by decide +kernel
theorem dX9_setMode_101 : decode cX9_setMode 101 = .ok (.iload_n 2, 1) := by decide +kernel
theorem dX9_setMode_102 : decode cX9_setMode 102 = .ok (.iload_n 3, 1) := by decide +kernel
theorem dX9_setMode_103 : decode cX9_setMode 103 = .ok (.iconst (-1), 1) := by decide +kernel
theorem dX9_setMode_104 : decode cX9_setMode 104 = .ok (.if_icmp .ne 7, 3) := by decide +kernel
theorem dX9_setMode_107 : decode cX9_setMode 107 = .ok (.aconst_null, 1) := by decide +kernel
theorem dX9_setMode_108 : decode cX9_setMode 108 = .ok (.goto 30, 3) := by decide +kernel
theorem dX9_setMode_111 : decode cX9_setMode 111 = .ok (.new 124, 3) := by decide +kernel
theorem dX9_setMode_114 : decode cX9_setMode 114 = .ok (.dup, 1) := by decide +kernel
theorem dX9_setMode_115 : decode cX9_setMode 115 = .ok (.iload_n 3, 1) := by decide +kernel
theorem dX9_setMode_116 : decode cX9_setMode 116 = .ok (.bipush 10, 2) := by decide +kernel
theorem dX9_setMode_118 : decode cX9_setMode 118 = .ok (.idiv, 1) := by decide +kernel
theorem dX9_setMode_119 : decode cX9_setMode 119 = .ok (.iload_n 3, 1) := by decide +kernel
theorem dX9_setMode_120 : decode cX9_setMode 120 = .ok (.bipush 10, 2) := by decide +kernel
theorem dX9_setMode_122 : decode cX9_setMode 122 = .ok (.irem, 1) := by decide +kernel
theorem dX9_setMode_123 : decode cX9_setMode 123 = .ok (.iload 4, 2) := by decide +kernel
theorem dX9_setMode_125 : decode cX9_setMode 125 = .ok (.bipush 100, 2) := by decide +kernel
theorem dX9_setMode_127 : decode cX9_setMode 127 = .ok (.idiv, 1) := by decide +kernel
theorem dX9_setMode_128 : decode cX9_setMode 128 = .ok (.iload 4, 2) := by decide +kernel
theorem dX9_setMode_130 : decode cX9_setMode 130 = .ok (.bipush 100, 2) := by decide +kernel
theorem dX9_setMode_132 : decode cX9_setMode 132 = .ok (.irem, 1) := by decide +kernel
theorem dX9_setMode_133 : decode cX9_setMode 133 = .ok (.iload 5, 2) := by decide +kernel
theorem dX9_setMode_135 : decode cX9_setMode 135 = .ok (.invokespecial 126, 3) := by decide +kernel
theorem dX9_setMode_138 : decode cX9_setMode 138 = .ok (.invokevirtual 127, 3) := by decide +kernel
theorem dX9_setMode_141 : decode cX9_setMode 141 = .ok (.iload 7, 2) := by decide +kernel
theorem dX9_setMode_143 : decode cX9_setMode 143 = .ok (.ireturn, 1) := by decide +kernel
set_option maxRecDepth 20000 in
theorem ggX9_tables_Jx4a65c_size_8abf5 : GoodIn wsX9_tables wsJx4a65c_size_8abf5 := goodIn_r _ [6, 7, 17, 18, 19] (by decide +kernel) (by decide +kernel)
set_option maxRecDepth 20000 in
theorem gX9_tables_Jx4a65c_size_8abf5 : GoodIn wsX9_tables (wsV RX9 59 RJx4a65c yJx4a65c_size_8abf5 wsJx4a65c_size_8abf5) := goodIn_app (goodIn_of _ (by decide +kernel)) ggX9_tables_Jx4a65c_size_8abf5
theorem dX9_tables_0 : decode cX9_tables 0 = .ok (.aload_n 0, 1) := by decide +kernel
theorem dX9_tables_1 : decode cX9_tables 1 = .ok (.getfield 12, 3) := by decide +kernel
theorem dX9_tables_4 : decode cX9_tables 4 = .ok (.invokevirtual 59, 3) := by decide +kernel
theorem dX9_tables_7 : decode cX9_tables 7 = .ok (.ireturn, 1) := by decide +kernel
set_option maxRecDepth 20000 in
theorem ggX9_stick_X9_demandTable : GoodIn wsX9_stick wsX9_demandTable := goodIn_ca (goodIn_r _ [9, 10, 11, 12, 13, 14, 15, 16, 17, 18, 19, 20, 21, 22, 23, 24, 25, 26, 27, 28, 29, 30, 31, 32, 33, 34, 35, 36, 49, 50, 51, 52, 53, 54, 55, 56, 57, 58, 59, 60] (by decide +kernel) (by decide +kernel)) (goodIn_sub (fun _ h => List.mem_cons_of_mem _ (List.mem_append_right _ h)) (by decide +kernel))
set_option maxRecDepth 20000 in
theorem gX9_stick_X9_demandTable : GoodIn wsX9_stick (wsV RX9 79 RX9 yX9_demandTable wsX9_demandTable) := goodIn_app (goodIn_of _ (by decide +kernel)) ggX9_stick_X9_demandTable
set_option maxRecDepth 20000 in
theorem ggX9_stick_X9_demandBumper : GoodIn wsX9_stick wsX9_demandBumper := goodIn_ca (goodIn_r _ [39, 10, 11, 40, 41, 14, 15, 16, 17, 18, 19, 20, 21, 22, 23, 24, 25, 26, 27, 28, 29, 30, 31, 32, 33, 34, 35, 36, 61, 62, 63, 64, 65, 66, 67, 68, 58, 59, 60] (by decide +kernel) (by decide +kernel)) (goodIn_sub (fun _ h => List.mem_cons_of_mem _ (List.mem_append_right _ h)) (by decide +kernel))
set_option maxRecDepth 20000 in
theorem gX9_stick_X9_demandBumper : GoodIn wsX9_stick (va_wsS RX9 97 yX9_demandBumper wsX9_demandBumper) := goodIn_app (goodIn_of _ (by decide +kernel)) ggX9_stick_X9_demandBumper
theorem dX9_stick_0 : decode cX9_stick 0 = .ok (.aload_n 0, 1) := by decide +kernel
theorem dX9_stick_1 : decode cX9_stick 1 = .ok (.iload_n 1, 1) := by decide +kernel
theorem dX9_stick_2 : decode cX9_stick 2 = .ok (.invokevirtual 79, 3) := by decide +kernel
theorem dX9_stick_5 : decode cX9_stick 5 = .ok (.iload_n 2, 1) := by decide +kernel
theorem dX9_stick_6 : decode cX9_stick 6 = .ok (.invokestatic 97, 3) := by decide +kernel
theorem dX9_stick_9 : decode cX9_stick 9 = .ok (.astore_n 3, 1) := by decide +kernel
theorem dX9_stick_10 : decode cX9_stick 10 = .ok (.aload_n 3, 1) := by decide +kernel
theorem dX9_stick_11 : decode cX9_stick 11 = .ok (.getfield 131, 3) := by decide +kernel
theorem dX9_stick_14 : decode cX9_stick 14 = .ok (.iconst (-1), 1) := by decide +kernel
theorem dX9_stick_15 : decode cX9_stick 15 = .ok (.if_icmp .eq 13, 3) := by decide +kernel
theorem dX9_stick_18 : decode cX9_stick 18 = .ok (.new 63, 3) := by decide +kernel
theorem dX9_stick_21 : decode cX9_stick 21 = .ok (.dup, 1) := by decide +kernel
theorem dX9_stick_22 : decode cX9_stick 22 = .ok (.ldc 134, 2) := by decide +kernel
theorem dX9_stick_24 : decode cX9_stick 24 = .ok (.invokespecial 67, 3) := by decide +kernel
theorem dX9_stick_27 : decode cX9_stick 27 = .ok (.athrow, 1) := by decide +kernel
theorem dX9_stick_28 : decode cX9_stick 28 = .ok (.aload_n 0, 1) := by decide +kernel
theorem dX9_stick_29 : decode cX9_stick 29 = .ok (.getfield 51, 3) := by decide +kernel
theorem dX9_stick_32 : decode cX9_stick 32 = .ok (.bipush 60, 2) := by decide +kernel
theorem dX9_stick_34 : decode cX9_stick 34 = .ok (.if_icmp .lt 13, 3) := by decide +kernel
theorem dX9_stick_37 : decode cX9_stick 37 = .ok (.new 63, 3) := by decide +kernel
theorem dX9_stick_40 : decode cX9_stick 40 = .ok (.dup, 1) := by decide +kernel
theorem dX9_stick_41 : decode cX9_stick 41 = .ok (.ldc 136, 2) := by decide +kernel
theorem dX9_stick_43 : decode cX9_stick 43 = .ok (.invokespecial 67, 3) := by decide +kernel
theorem dX9_stick_46 : decode cX9_stick 46 = .ok (.athrow, 1) := by decide +kernel
theorem dX9_stick_47 : decode cX9_stick 47 = .ok (.aload_n 3, 1) := by decide +kernel
theorem dX9_stick_48 : decode cX9_stick 48 = .ok (.aload_n 0, 1) := by decide +kernel
theorem dX9_stick_49 : decode cX9_stick 49 = .ok (.getfield 51, 3) := by decide +kernel
theorem dX9_stick_52 : decode cX9_stick 52 = .ok (.putfield 131, 3) := by decide +kernel
theorem dX9_stick_55 : decode cX9_stick 55 = .ok (.aload_n 0, 1) := by decide +kernel
theorem dX9_stick_56 : decode cX9_stick 56 = .ok (.dup, 1) := by decide +kernel
theorem dX9_stick_57 : decode cX9_stick 57 = .ok (.getfield 51, 3) := by decide +kernel
theorem dX9_stick_60 : decode cX9_stick 60 = .ok (.iconst 1, 1) := by decide +kernel
theorem dX9_stick_61 : decode cX9_stick 61 = .ok (.iadd, 1) := by decide +kernel
theorem dX9_stick_62 : decode cX9_stick 62 = .ok (.putfield 51, 3) := by decide +kernel
theorem dX9_stick_65 : decode cX9_stick 65 = .ok (.aload_n 3, 1) := by decide +kernel
theorem dX9_stick_66 : decode cX9_stick 66 = .ok (.getfield 131, 3) := by decide +kernel
theorem dX9_stick_69 : decode cX9_stick 69 = .ok (.ireturn, 1) := by decide +kernel
set_option maxRecDepth 20000 in
theorem ggX9_sticks_X9_demandTable : GoodIn wsX9_sticks wsX9_demandTable := goodIn_ca (goodIn_r _ [6, 7, 8, 9, 10, 11, 12, 13, 14, 15, 16, 17, 18, 19, 20, 21, 22, 23, 24, 25, 26, 27, 28, 29, 30, 31, 32, 33, 46, 47, 48, 49, 50, 51, 52, 53, 54, 55, 56, 57] (by decide +kernel) (by decide +kernel)) (goodIn_sub (fun _ h => List.mem_cons_of_mem _ (List.mem_append_right _ h)) (by decide +kernel))
set_option maxRecDepth 20000 in
theorem gX9_sticks_X9_demandTable : GoodIn wsX9_sticks (wsV RX9 79 RX9 yX9_demandTable wsX9_demandTable) := goodIn_app (goodIn_of _ (by decide +kernel)) ggX9_sticks_X9_demandTable
set_option maxRecDepth 20000 in
theorem ggX9_sticks_X9_demandBumper : GoodIn wsX9_sticks wsX9_demandBumper := goodIn_ca (goodIn_r _ [36, 7, 8, 37, 38, 11, 12, 13, 14, 15, 16, 17, 18, 19, 20, 21, 22, 23, 24, 25, 26, 27, 28, 29, 30, 31, 32, 33, 58, 59, 60, 61, 62, 63, 64, 65, 55, 56, 57] (by decide +kernel) (by decide +kernel)) (goodIn_sub (fun _ h => List.mem_cons_of_mem _ (List.mem_append_right _ h)) (by decide +kernel))
set_option maxRecDepth 20000 in
theorem gX9_sticks_X9_demandBumper : GoodIn wsX9_sticks (va_wsS RX9 97 yX9_demandBumper wsX9_demandBumper) := goodIn_app (goodIn_of _ (by decide +kernel)) ggX9_sticks_X9_demandBumper
theorem dX9_sticks_0 : decode cX9_sticks 0 = .ok (.aload_n 0, 1) := by decide +kernel
theorem dX9_sticks_1 : decode cX9_sticks 1 = .ok (.iload_n 1, 1) := by decide +kernel
theorem dX9_sticks_2 : decode cX9_sticks 2 = .ok (.invokevirtual 79, 3) := by decide +kernel
theorem dX9_sticks_5 : decode cX9_sticks 5 = .ok (.iload_n 2, 1) := by decide +kernel
theorem dX9_sticks_6 : decode cX9_sticks 6 = .ok (.invokestatic 97, 3) := by decide +kernel
theorem dX9_sticks_9 : decode cX9_sticks 9 = .ok (.getfield 131, 3) := by decide +kernel
theorem dX9_sticks_12 : decode cX9_sticks 12 = .ok (.iconst (-1), 1) := by decide +kernel
theorem dX9_sticks_13 : decode cX9_sticks 13 = .ok (.if_icmp .eq 7, 3) := by decide +kernel
theorem dX9_sticks_16 : decode cX9_sticks 16 = .ok (.iconst 1, 1) := by decide +kernel
theorem dX9_sticks_17 : decode cX9_sticks 17 = .ok (.goto 4, 3) := by decide +kernel
theorem dX9_sticks_20 : decode cX9_sticks 20 = .ok (.iconst 0, 1) := by decide +kernel
theorem dX9_sticks_21 : decode cX9_sticks 21 = .ok (.ireturn, 1) := by decide +kernel
set_option maxRecDepth 20000 in
theorem ggX9_wear_X9_demandTable : GoodIn wsX9_wear wsX9_demandTable := goodIn_ca (goodIn_r _ [6, 7, 8, 9, 10, 11, 12, 13, 14, 15, 16, 17, 18, 19, 20, 21, 22, 23, 24, 25, 26, 27, 28, 29, 30, 31, 32, 33, 46, 47, 48, 49, 50, 51, 52, 53, 54, 55, 56, 57] (by decide +kernel) (by decide +kernel)) (goodIn_sub (fun _ h => List.mem_cons_of_mem _ (List.mem_append_right _ h)) (by decide +kernel))
set_option maxRecDepth 20000 in
theorem gX9_wear_X9_demandTable : GoodIn wsX9_wear (wsV RX9 79 RX9 yX9_demandTable wsX9_demandTable) := goodIn_app (goodIn_of _ (by decide +kernel)) ggX9_wear_X9_demandTable
set_option maxRecDepth 20000 in
theorem ggX9_wear_X9_demandBumper : GoodIn wsX9_wear wsX9_demandBumper := goodIn_ca (goodIn_r _ [36, 7, 8, 37, 38, 11, 12, 13, 14, 15, 16, 17, 18, 19, 20, 21, 22, 23, 24, 25, 26, 27, 28, 29, 30, 31, 32, 33, 58, 59, 60, 61, 62, 63, 64, 65, 55, 56, 57] (by decide +kernel) (by decide +kernel)) (goodIn_sub (fun _ h => List.mem_cons_of_mem _ (List.mem_append_right _ h)) (by decide +kernel))
set_option maxRecDepth 20000 in
theorem gX9_wear_X9_demandBumper : GoodIn wsX9_wear (va_wsS RX9 97 yX9_demandBumper wsX9_demandBumper) := goodIn_app (goodIn_of _ (by decide +kernel)) ggX9_wear_X9_demandBumper
theorem dX9_wear_0 : decode cX9_wear 0 = .ok (.aload_n 0, 1) := by decide +kernel
theorem dX9_wear_1 : decode cX9_wear 1 = .ok (.iload_n 1, 1) := by decide +kernel
theorem dX9_wear_2 : decode cX9_wear 2 = .ok (.invokevirtual 79, 3) := by decide +kernel
theorem dX9_wear_5 : decode cX9_wear 5 = .ok (.iload_n 2, 1) := by decide +kernel
theorem dX9_wear_6 : decode cX9_wear 6 = .ok (.invokestatic 97, 3) := by decide +kernel
theorem dX9_wear_9 : decode cX9_wear 9 = .ok (.getfield 138, 3) := by decide +kernel
theorem dX9_wear_12 : decode cX9_wear 12 = .ok (.ireturn, 1) := by decide +kernel
set_option maxRecDepth 20000 in
theorem ggX9_coin_X9_demandTable : GoodIn wsX9_coin wsX9_demandTable := goodIn_ca (goodIn_r _ [16, 17, 18, 19, 20, 21, 22, 23, 24, 25, 26, 27, 28, 29, 30, 31, 32, 33, 34, 35, 36, 37, 38, 39, 40, 41, 42, 43, 146, 147, 148, 149, 150, 151, 152, 153, 154, 169, 170, 171] (by decide +kernel) (by decide +kernel)) (goodIn_sub (fun _ h => List.mem_cons_of_mem _ (List.mem_append_right _ h)) (by decide +kernel))
set_option maxRecDepth 20000 in
theorem gX9_coin_X9_demandTable : GoodIn wsX9_coin (wsV RX9 79 RX9 yX9_demandTable wsX9_demandTable) := goodIn_app (goodIn_of _ (by decide +kernel)) ggX9_coin_X9_demandTable
set_option maxRecDepth 20000 in
theorem ggX9_coin_X9_demandNoGame : GoodIn wsX9_coin wsX9_demandNoGame := goodIn_ca (goodIn_r _ [46, 1, 2, 8, 161, 162, 163, 164, 165, 166, 167, 168] (by decide +kernel) (by decide +kernel)) (goodIn_sub (fun _ h => List.mem_cons_of_mem _ (List.mem_append_left _ (List.mem_append_right _ h))) (by decide +kernel))
set_option maxRecDepth 20000 in
theorem gX9_coin_X9_demandNoGame : GoodIn wsX9_coin (va_wsS RX9 83 yX9_demandNoGame wsX9_demandNoGame) := goodIn_app (goodIn_of _ (by decide +kernel)) ggX9_coin_X9_demandNoGame
set_option maxRecDepth 20000 in
theorem ggX9_coin_Jx4a65c_size_8abf5 : GoodIn wsX9_coin wsJx4a65c_size_8abf5 := goodIn_r _ [25, 26, 169, 170, 171] (by decide +kernel) (by decide +kernel)
set_option maxRecDepth 20000 in
theorem gX9_coin_Jx4a65c_size_8abf5 : GoodIn wsX9_coin (wsV RX9 59 RJx4a65c yJx4a65c_size_8abf5 wsJx4a65c_size_8abf5) := goodIn_app (goodIn_of _ (by decide +kernel)) ggX9_coin_Jx4a65c_size_8abf5
set_option maxRecDepth 20000 in
theorem ggX9_coin_X6_copied : GoodIn wsX9_coin wsX6_copied := goodIn_r _ [51, 52, 53, 50, 54, 55, 56, 57, 58, 59, 60, 61, 62, 63, 64, 65, 66, 67, 68, 69, 70, 71, 172, 173] (by decide +kernel) (by decide +kernel)
set_option maxRecDepth 20000 in
theorem gX9_coin_X6_copied : GoodIn wsX9_coin (wsV RX9 145 RX6 yX6_copied wsX6_copied) := goodIn_app (goodIn_of _ (by decide +kernel)) ggX9_coin_X6_copied
set_option maxRecDepth 20000 in
theorem ggX9_coin_X2_init : GoodIn wsX9_coin wsX2_init := goodIn_r _ [74, 75, 60, 61, 76, 77, 78, 79, 80, 81, 82, 83, 84, 85, 86, 87, 88, 62, 89, 90, 91, 92, 174, 175, 176, 177, 155, 156, 157, 158, 159, 160] (by decide +kernel) (by decide +kernel)
set_option maxRecDepth 20000 in
theorem gX9_coin_X2_init : GoodIn wsX9_coin (wsX2_init) := ggX9_coin_X2_init
set_option maxRecDepth 20000 in
theorem ggX9_coin_Jx4a65c_add_9ea2d : GoodIn wsX9_coin wsJx4a65c_add_9ea2d := goodIn_r _ [96, 97, 98, 43, 26, 99, 100, 101, 24, 102, 103, 104, 105, 106, 107, 108, 109, 110, 111, 112, 113, 114, 115, 116, 117, 118, 119, 120, 121, 122, 123, 124, 125, 126, 127, 128, 129, 130, 131, 132, 133, 134, 135, 136, 137, 138, 139, 140, 141, 142, 143, 144, 145, 169, 170, 171] (by decide +kernel) (by decide +kernel)
set_option maxRecDepth 20000 in
theorem gX9_coin_Jx4a65c_add_9ea2d : GoodIn wsX9_coin (wsV RX9 75 RJx4a65c yJx4a65c_add_9ea2d wsJx4a65c_add_9ea2d) := goodIn_app (goodIn_of _ (by decide +kernel)) ggX9_coin_Jx4a65c_add_9ea2d
theorem dX9_coin_0 : decode cX9_coin 0 = .ok (.aload_n 0, 1) := by decide +kernel
theorem dX9_coin_1 : decode cX9_coin 1 = .ok (.iload_n 1, 1) := by decide +kernel
theorem dX9_coin_2 : decode cX9_coin 2 = .ok (.invokevirtual 79, 3) := by decide +kernel
theorem dX9_coin_5 : decode cX9_coin 5 = .ok (.astore_n 2, 1) := by decide +kernel
theorem dX9_coin_6 : decode cX9_coin 6 = .ok (.aload_n 2, 1) := by decide +kernel
theorem dX9_coin_7 : decode cX9_coin 7 = .ok (.invokestatic 83, 3) := by decide +kernel
theorem dX9_coin_10 : decode cX9_coin 10 = .ok (.aload_n 0, 1) := by decide +kernel
theorem dX9_coin_11 : decode cX9_coin 11 = .ok (.getfield 16, 3) := by decide +kernel
theorem dX9_coin_14 : decode cX9_coin 14 = .ok (.invokevirtual 59, 3) := by decide +kernel
theorem dX9_coin_17 : decode cX9_coin 17 = .ok (.bipush 40, 2) := by decide +kernel
theorem dX9_coin_19 : decode cX9_coin 19 = .ok (.if_icmp .lt 13, 3) := by decide +kernel
theorem dX9_coin_22 : decode cX9_coin 22 = .ok (.new 63, 3) := by decide +kernel
theorem dX9_coin_25 : decode cX9_coin 25 = .ok (.dup, 1) := by decide +kernel
theorem dX9_coin_26 : decode cX9_coin 26 = .ok (.ldc 141, 2) := by decide +kernel
theorem dX9_coin_28 : decode cX9_coin 28 = .ok (.invokespecial 67, 3) := by decide +kernel
theorem dX9_coin_31 : decode cX9_coin 31 = .ok (.athrow, 1) := by decide +kernel
theorem dX9_coin_32 : decode cX9_coin 32 = .ok (.aload_n 0, 1) := by decide +kernel
theorem dX9_coin_33 : decode cX9_coin 33 = .ok (.getfield 16, 3) := by decide +kernel
theorem dX9_coin_36 : decode cX9_coin 36 = .ok (.new 143, 3) := by decide +kernel
theorem dX9_coin_39 : decode cX9_coin 39 = .ok (.dup, 1) := by decide +kernel
theorem dX9_coin_40 : decode cX9_coin 40 = .ok (.iload_n 1, 1) := by decide +kernel
theorem dX9_coin_41 : decode cX9_coin 41 = .ok (.aload_n 2, 1) := by decide +kernel
theorem dX9_coin_42 : decode cX9_coin 42 = .ok (.getfield 101, 3) := by decide +kernel
theorem dX9_coin_45 : decode cX9_coin 45 = .ok (.invokevirtual 145, 3) := by decide +kernel
theorem dX9_coin_48 : decode cX9_coin 48 = .ok (.invokespecial 149, 3) := by decide +kernel
theorem dX9_coin_51 : decode cX9_coin 51 = .ok (.invokevirtual 75, 3) := by decide +kernel
theorem dX9_coin_54 : decode cX9_coin 54 = .ok (.pop, 1) := by decide +kernel
theorem dX9_coin_55 : decode cX9_coin 55 = .ok (.aload_n 2, 1) := by decide +kernel
theorem dX9_coin_56 : decode cX9_coin 56 = .ok (.aload_n 0, 1) := by decide +kernel
theorem dX9_coin_57 : decode cX9_coin 57 = .ok (.getfield 16, 3) := by decide +kernel
theorem dX9_coin_60 : decode cX9_coin 60 = .ok (.invokevirtual 59, 3) := by decide +kernel
theorem dX9_coin_63 : decode cX9_coin 63 = .ok (.iconst 1, 1) := by decide +kernel
theorem dX9_coin_64 : decode cX9_coin 64 = .ok (.isub, 1) := by decide +kernel
theorem dX9_coin_65 : decode cX9_coin 65 = .ok (.putfield 152, 3) := by decide +kernel
theorem dX9_coin_68 : decode cX9_coin 68 = .ok (.aload_n 2, 1) := by decide +kernel
theorem dX9_coin_69 : decode cX9_coin 69 = .ok (.dup, 1) := by decide +kernel
theorem dX9_coin_70 : decode cX9_coin 70 = .ok (.getfield 155, 3) := by decide +kernel
theorem dX9_coin_73 : decode cX9_coin 73 = .ok (.aload_n 2, 1) := by decide +kernel
theorem dX9_coin_74 : decode cX9_coin 74 = .ok (.getfield 158, 3) := by decide +kernel
theorem dX9_coin_77 : decode cX9_coin 77 = .ok (.iadd, 1) := by decide +kernel
theorem dX9_coin_78 : decode cX9_coin 78 = .ok (.putfield 155, 3) := by decide +kernel
theorem dX9_coin_81 : decode cX9_coin 81 = .ok (.aload_n 2, 1) := by decide +kernel
theorem dX9_coin_82 : decode cX9_coin 82 = .ok (.dup, 1) := by decide +kernel
theorem dX9_coin_83 : decode cX9_coin 83 = .ok (.getfield 161, 3) := by decide +kernel
theorem dX9_coin_86 : decode cX9_coin 86 = .ok (.aload_n 2, 1) := by decide +kernel
theorem dX9_coin_87 : decode cX9_coin 87 = .ok (.getfield 158, 3) := by decide +kernel
theorem dX9_coin_90 : decode cX9_coin 90 = .ok (.iadd, 1) := by decide +kernel
theorem dX9_coin_91 : decode cX9_coin 91 = .ok (.putfield 161, 3) := by decide +kernel
theorem dX9_coin_94 : decode cX9_coin 94 = .ok (.aload_n 2, 1) := by decide +kernel
theorem dX9_coin_95 : decode cX9_coin 95 = .ok (.getfield 152, 3) := by decide +kernel
theorem dX9_coin_98 : decode cX9_coin 98 = .ok (.ireturn, 1) := by decide +kernel
set_option maxRecDepth 20000 in
theorem ggX9_shoot_X9_demandTable : GoodIn wsX9_shoot wsX9_demandTable := goodIn_ca (goodIn_r _ [16, 17, 18, 19, 20, 21, 22, 23, 24, 25, 26, 27, 28, 29, 30, 31, 32, 33, 34, 35, 36, 37, 38, 39, 40, 41, 42, 43, 184, 185, 186, 187, 188, 189, 190, 191, 192, 207, 208, 209] (by decide +kernel) (by decide +kernel)) (goodIn_sub (fun _ h => List.mem_cons_of_mem _ (List.mem_append_left _ (List.mem_append_right _ h))) (by decide +kernel))
set_option maxRecDepth 20000 in
theorem gX9_shoot_X9_demandTable : GoodIn wsX9_shoot (wsV RX9 79 RX9 yX9_demandTable wsX9_demandTable) := goodIn_app (goodIn_of _ (by decide +kernel)) ggX9_shoot_X9_demandTable
set_option maxRecDepth 20000 in
theorem ggX9_shoot_X9_demandRange : GoodIn wsX9_shoot wsX9_demandRange := goodIn_ca (goodIn_r _ [46, 47, 48] (by decide +kernel) (by decide +kernel)) (goodIn_sub (fun _ h => List.mem_cons_of_mem _ (List.mem_append_right _ h)) (by decide +kernel))
set_option maxRecDepth 20000 in
theorem gX9_shoot_X9_demandRange : GoodIn wsX9_shoot (va_wsS RX9 55 yX9_demandRange wsX9_demandRange) := goodIn_app (goodIn_of _ (by decide +kernel)) ggX9_shoot_X9_demandRange
set_option maxRecDepth 20000 in
theorem ggX9_shoot_Jx4a65c_size_8abf5 : GoodIn wsX9_shoot wsJx4a65c_size_8abf5 := goodIn_r _ [25, 26, 207, 208, 209] (by decide +kernel) (by decide +kernel)
set_option maxRecDepth 20000 in
theorem gX9_shoot_Jx4a65c_size_8abf5 : GoodIn wsX9_shoot (wsV RX9 59 RJx4a65c yJx4a65c_size_8abf5 wsJx4a65c_size_8abf5) := goodIn_app (goodIn_of _ (by decide +kernel)) ggX9_shoot_Jx4a65c_size_8abf5
set_option maxRecDepth 20000 in
theorem ggX9_shoot_Jx4a65c_get_915e3 : GoodIn wsX9_shoot wsJx4a65c_get_915e3 := goodIn_r _ [30, 26, 31, 32, 33, 34, 35, 36, 37, 38, 39, 40, 41, 24, 42, 43, 207, 208, 209] (by decide +kernel) (by decide +kernel)
set_option maxRecDepth 20000 in
theorem gX9_shoot_Jx4a65c_get_915e3 : GoodIn wsX9_shoot (wsV RX9 166 RJx4a65c yJx4a65c_get_915e3 wsJx4a65c_get_915e3) := goodIn_app (goodIn_of _ (by decide +kernel)) ggX9_shoot_Jx4a65c_get_915e3
set_option maxRecDepth 20000 in
theorem ggX9_shoot_X0_init : GoodIn wsX9_shoot wsX0_init := goodIn_r _ [51, 52, 53, 54, 55, 56, 57, 58, 203, 204, 205, 206] (by decide +kernel) (by decide +kernel)
set_option maxRecDepth 20000 in
theorem gX9_shoot_X0_init : GoodIn wsX9_shoot (wsX0_init) := ggX9_shoot_X0_init
set_option maxRecDepth 20000 in
theorem ggX9_shoot_X9_runBall : GoodIn wsX9_shoot wsX9_runBall := goodIn_r _ [61, 62, 63, 64, 10, 65, 55, 66, 67, 68, 69, 58, 70, 71, 72, 73, 74, 75, 76, 77, 56, 57, 78, 79, 80, 81, 82, 83, 84, 85, 86, 87, 22, 23, 24, 25, 26, 88, 28, 29, 30, 31, 32, 33, 34, 35, 36, 37, 38, 39, 40, 41, 42, 43, 89, 90, 91, 92, 93, 94, 95, 96, 97, 98, 99, 100, 101, 102, 103, 104, 105, 106, 107, 108, 109, 110, 111, 112, 113, 114, 115, 116, 117, 118, 119, 120, 15, 121, 122, 123, 124, 125, 21, 27, 126, 127, 128, 129, 130, 131, 132, 133, 134, 135, 136, 137, 138, 139, 140, 141, 142, 143, 144, 145, 146, 147, 148, 149, 150, 151, 152, 153, 154, 155, 156, 157, 158, 159, 160, 161, 162, 163, 164, 165, 166, 167, 168, 169, 170, 171, 203, 204, 205, 206, 176, 177, 178, 179, 180, 181, 182, 183, 207, 208, 209, 210, 211, 212, 213, 214, 215, 216, 193, 194, 195, 196, 197, 198, 199, 200, 201, 202, 217, 218, 219, 220, 221, 222, 223] (by decide +kernel) (by decide +kernel)
set_option maxRecDepth 20000 in
theorem gX9_shoot_X9_runBall : GoodIn wsX9_shoot (va_wsS RX9 180 yX9_runBall wsX9_runBall) := goodIn_app (goodIn_of _ (by decide +kernel)) ggX9_shoot_X9_runBall
set_option maxRecDepth 20000 in
theorem ggX9_shoot_X2_isOver : GoodIn wsX9_shoot wsX2_isOver := goodIn_r _ [175, 133, 193, 194, 195, 196, 197, 198] (by decide +kernel) (by decide +kernel)
set_option maxRecDepth 20000 in
theorem gX9_shoot_X2_isOver : GoodIn wsX9_shoot (wsV RX9 187 RX2 yX2_isOver wsX2_isOver) := goodIn_app (goodIn_of _ (by decide +kernel)) ggX9_shoot_X2_isOver
theorem dX9_shoot_0 : decode cX9_shoot 0 = .ok (.aload_n 0, 1) := by decide +kernel
theorem dX9_shoot_1 : decode cX9_shoot 1 = .ok (.iload_n 1, 1) := by decide +kernel
theorem dX9_shoot_2 : decode cX9_shoot 2 = .ok (.invokevirtual 79, 3) := by decide +kernel
theorem dX9_shoot_5 : decode cX9_shoot 5 = .ok (.astore 5, 2) := by decide +kernel
theorem dX9_shoot_7 : decode cX9_shoot 7 = .ok (.iload_n 2, 1) := by decide +kernel
theorem dX9_shoot_8 : decode cX9_shoot 8 = .ok (.iconst 0, 1) := by decide +kernel
theorem dX9_shoot_9 : decode cX9_shoot 9 = .ok (.sipush 159, 3) := by decide +kernel
theorem dX9_shoot_12 : decode cX9_shoot 12 = .ok (.invokestatic 55, 3) := by decide +kernel
theorem dX9_shoot_15 : decode cX9_shoot 15 = .ok (.iload_n 3, 1) := by decide +kernel
theorem dX9_shoot_16 : decode cX9_shoot 16 = .ok (.bipush (-30), 2) := by decide +kernel
theorem dX9_shoot_18 : decode cX9_shoot 18 = .ok (.bipush 30, 2) := by decide +kernel
theorem dX9_shoot_20 : decode cX9_shoot 20 = .ok (.invokestatic 55, 3) := by decide +kernel
theorem dX9_shoot_23 : decode cX9_shoot 23 = .ok (.iload 4, 2) := by decide +kernel
theorem dX9_shoot_25 : decode cX9_shoot 25 = .ok (.bipush (-30), 2) := by decide +kernel
theorem dX9_shoot_27 : decode cX9_shoot 27 = .ok (.bipush 30, 2) := by decide +kernel
theorem dX9_shoot_29 : decode cX9_shoot 29 = .ok (.invokestatic 55, 3) := by decide +kernel
theorem dX9_shoot_32 : decode cX9_shoot 32 = .ok (.aload 5, 2) := by decide +kernel
theorem dX9_shoot_34 : decode cX9_shoot 34 = .ok (.getfield 152, 3) := by decide +kernel
theorem dX9_shoot_37 : decode cX9_shoot 37 = .ok (.ifCond .lt 18, 3) := by decide +kernel
theorem dX9_shoot_40 : decode cX9_shoot 40 = .ok (.aload 5, 2) := by decide +kernel
theorem dX9_shoot_42 : decode cX9_shoot 42 = .ok (.getfield 152, 3) := by decide +kernel
theorem dX9_shoot_45 : decode cX9_shoot 45 = .ok (.aload_n 0, 1) := by decide +kernel
theorem dX9_shoot_46 : decode cX9_shoot 46 = .ok (.getfield 16, 3) := by decide +kernel
theorem dX9_shoot_49 : decode cX9_shoot 49 = .ok (.invokevirtual 59, 3) := by decide +kernel
theorem dX9_shoot_52 : decode cX9_shoot 52 = .ok (.if_icmp .lt 13, 3) := by decide +kernel
theorem dX9_shoot_55 : decode cX9_shoot 55 = .ok (.new 63, 3) := by decide +kernel
theorem dX9_shoot_58 : decode cX9_shoot 58 = .ok (.dup, 1) := by decide +kernel
theorem dX9_shoot_59 : decode cX9_shoot 59 = .ok (.ldc 164, 2) := by decide +kernel
theorem dX9_shoot_61 : decode cX9_shoot 61 = .ok (.invokespecial 67, 3) := by decide +kernel
theorem dX9_shoot_64 : decode cX9_shoot 64 = .ok (.athrow, 1) := by decide +kernel
theorem dX9_shoot_65 : decode cX9_shoot 65 = .ok (.aload_n 0, 1) := by decide +kernel
theorem dX9_shoot_66 : decode cX9_shoot 66 = .ok (.getfield 16, 3) := by decide +kernel
theorem dX9_shoot_69 : decode cX9_shoot 69 = .ok (.aload 5, 2) := by decide +kernel
theorem dX9_shoot_71 : decode cX9_shoot 71 = .ok (.getfield 152, 3) := by decide +kernel
theorem dX9_shoot_74 : decode cX9_shoot 74 = .ok (.invokevirtual 166, 3) := by decide +kernel
theorem dX9_shoot_77 : decode cX9_shoot 77 = .ok (.checkcast 143, 3) := by decide +kernel
theorem dX9_shoot_80 : decode cX9_shoot 80 = .ok (.astore 6, 2) := by decide +kernel
theorem dX9_shoot_82 : decode cX9_shoot 82 = .ok (.aload 6, 2) := by decide +kernel
theorem dX9_shoot_84 : decode cX9_shoot 84 = .ok (.getfield 170, 3) := by decide +kernel
theorem dX9_shoot_87 : decode cX9_shoot 87 = .ok (.getfield 173, 3) := by decide +kernel
theorem dX9_shoot_90 : decode cX9_shoot 90 = .ok (.istore 7, 2) := by decide +kernel
theorem dX9_shoot_92 : decode cX9_shoot 92 = .ok (.aload 5, 2) := by decide +kernel
theorem dX9_shoot_94 : decode cX9_shoot 94 = .ok (.aload 6, 2) := by decide +kernel
theorem dX9_shoot_96 : decode cX9_shoot 96 = .ok (.new 176, 3) := by decide +kernel
theorem dX9_shoot_99 : decode cX9_shoot 99 = .ok (.dup, 1) := by decide +kernel
theorem dX9_shoot_100 : decode cX9_shoot 100 = .ok (.iload_n 2, 1) := by decide +kernel
theorem dX9_shoot_101 : decode cX9_shoot 101 = .ok (.iload_n 3, 1) := by decide +kernel
theorem dX9_shoot_102 : decode cX9_shoot 102 = .ok (.iload 4, 2) := by decide +kernel
theorem dX9_shoot_104 : decode cX9_shoot 104 = .ok (.invokespecial 178, 3) := by decide +kernel
theorem dX9_shoot_107 : decode cX9_shoot 107 = .ok (.invokestatic 180, 3) := by decide +kernel
theorem dX9_shoot_110 : decode cX9_shoot 110 = .ok (.aload 6, 2) := by decide +kernel
theorem dX9_shoot_112 : decode cX9_shoot 112 = .ok (.dup, 1) := by decide +kernel
theorem dX9_shoot_113 : decode cX9_shoot 113 = .ok (.getfield 184, 3) := by decide +kernel
theorem dX9_shoot_116 : decode cX9_shoot 116 = .ok (.iconst 1, 1) := by decide +kernel
theorem dX9_shoot_117 : decode cX9_shoot 117 = .ok (.iadd, 1) := by decide +kernel
theorem dX9_shoot_118 : decode cX9_shoot 118 = .ok (.putfield 184, 3) := by decide +kernel
theorem dX9_shoot_121 : decode cX9_shoot 121 = .ok (.aload 6, 2) := by decide +kernel
theorem dX9_shoot_123 : decode cX9_shoot 123 = .ok (.invokevirtual 187, 3) := by decide +kernel
theorem dX9_shoot_126 : decode cX9_shoot 126 = .ok (.ifCond .eq 9, 3) := by decide +kernel
theorem dX9_shoot_129 : decode cX9_shoot 129 = .ok (.aload 5, 2) := by decide +kernel
theorem dX9_shoot_131 : decode cX9_shoot 131 = .ok (.iconst (-1), 1) := by decide +kernel
theorem dX9_shoot_132 : decode cX9_shoot 132 = .ok (.putfield 152, 3) := by decide +kernel
theorem dX9_shoot_135 : decode cX9_shoot 135 = .ok (.aload 6, 2) := by decide +kernel
theorem dX9_shoot_137 : decode cX9_shoot 137 = .ok (.getfield 170, 3) := by decide +kernel
theorem dX9_shoot_140 : decode cX9_shoot 140 = .ok (.getfield 173, 3) := by decide +kernel
theorem dX9_shoot_143 : decode cX9_shoot 143 = .ok (.iload 7, 2) := by decide +kernel
theorem dX9_shoot_145 : decode cX9_shoot 145 = .ok (.isub, 1) := by decide +kernel
theorem dX9_shoot_146 : decode cX9_shoot 146 = .ok (.ireturn, 1) := by decide +kernel
set_option maxRecDepth 20000 in
theorem ggX9_gameAt_X9_demandTable : GoodIn wsX9_gameAt wsX9_demandTable := goodIn_ca (goodIn_r _ [6, 7, 8, 9, 10, 11, 12, 13, 14, 15, 16, 17, 18, 19, 20, 21, 22, 23, 24, 25, 26, 27, 28, 29, 30, 31, 32, 33, 42, 43, 44, 45, 46, 47, 48, 49, 50, 51, 52, 53] (by decide +kernel) (by decide +kernel)) (goodIn_sub (fun _ h => List.mem_cons_of_mem _ (List.mem_append_right _ h)) (by decide +kernel))
set_option maxRecDepth 20000 in
theorem gX9_gameAt_X9_demandTable : GoodIn wsX9_gameAt (wsV RX9 79 RX9 yX9_demandTable wsX9_demandTable) := goodIn_app (goodIn_of _ (by decide +kernel)) ggX9_gameAt_X9_demandTable
theorem dX9_gameAt_0 : decode cX9_gameAt 0 = .ok (.aload_n 0, 1) := by decide +kernel
theorem dX9_gameAt_1 : decode cX9_gameAt 1 = .ok (.iload_n 1, 1) := by decide +kernel
theorem dX9_gameAt_2 : decode cX9_gameAt 2 = .ok (.invokevirtual 79, 3) := by decide +kernel
theorem dX9_gameAt_5 : decode cX9_gameAt 5 = .ok (.getfield 152, 3) := by decide +kernel
theorem dX9_gameAt_8 : decode cX9_gameAt 8 = .ok (.ireturn, 1) := by decide +kernel
set_option maxRecDepth 20000 in
theorem ggX9_games_Jx4a65c_size_8abf5 : GoodIn wsX9_games wsJx4a65c_size_8abf5 := goodIn_r _ [6, 7, 17, 18, 19] (by decide +kernel) (by decide +kernel)
set_option maxRecDepth 20000 in
theorem gX9_games_Jx4a65c_size_8abf5 : GoodIn wsX9_games (wsV RX9 59 RJx4a65c yJx4a65c_size_8abf5 wsJx4a65c_size_8abf5) := goodIn_app (goodIn_of _ (by decide +kernel)) ggX9_games_Jx4a65c_size_8abf5
theorem dX9_games_0 : decode cX9_games 0 = .ok (.aload_n 0, 1) := by decide +kernel
theorem dX9_games_1 : decode cX9_games 1 = .ok (.getfield 16, 3) := by decide +kernel
theorem dX9_games_4 : decode cX9_games 4 = .ok (.invokevirtual 59, 3) := by decide +kernel
theorem dX9_games_7 : decode cX9_games 7 = .ok (.ireturn, 1) := by decide +kernel
set_option maxRecDepth 20000 in
theorem ggX9_ballsLeft_X9_demandGame : GoodIn wsX9_ballsLeft wsX9_demandGame := goodIn_ca (goodIn_r _ [6, 7, 8, 9, 10, 11, 12, 13, 14, 15, 16, 17, 18, 19, 20, 21, 22, 23, 24, 25, 26, 27, 28, 29, 30, 31, 32, 33, 40, 41, 42, 43, 44, 45, 46, 47, 48, 49, 50, 51] (by decide +kernel) (by decide +kernel)) (goodIn_sub (fun _ h => List.mem_cons_of_mem _ (List.mem_append_right _ h)) (by decide +kernel))
set_option maxRecDepth 20000 in
theorem gX9_ballsLeft_X9_demandGame : GoodIn wsX9_ballsLeft (wsV RX9 191 RX9 yX9_demandGame wsX9_demandGame) := goodIn_app (goodIn_of _ (by decide +kernel)) ggX9_ballsLeft_X9_demandGame
theorem dX9_ballsLeft_0 : decode cX9_ballsLeft 0 = .ok (.iconst 3, 1) := by decide +kernel
theorem dX9_ballsLeft_1 : decode cX9_ballsLeft 1 = .ok (.aload_n 0, 1) := by decide +kernel
theorem dX9_ballsLeft_2 : decode cX9_ballsLeft 2 = .ok (.iload_n 1, 1) := by decide +kernel
theorem dX9_ballsLeft_3 : decode cX9_ballsLeft 3 = .ok (.invokevirtual 191, 3) := by decide +kernel
theorem dX9_ballsLeft_6 : decode cX9_ballsLeft 6 = .ok (.getfield 184, 3) := by decide +kernel
theorem dX9_ballsLeft_9 : decode cX9_ballsLeft 9 = .ok (.isub, 1) := by decide +kernel
theorem dX9_ballsLeft_10 : decode cX9_ballsLeft 10 = .ok (.ireturn, 1) := by decide +kernel
set_option maxRecDepth 20000 in
theorem ggX9_stack_X9_demandGame : GoodIn wsX9_stack wsX9_demandGame := goodIn_ca (goodIn_r _ [6, 7, 8, 9, 10, 11, 12, 13, 14, 15, 16, 17, 18, 19, 20, 21, 22, 23, 24, 25, 26, 27, 28, 29, 30, 31, 32, 33, 47, 48, 49, 50, 51, 52, 53, 54, 55, 56, 57, 58] (by decide +kernel) (by decide +kernel)) (goodIn_sub (fun _ h => List.mem_cons_of_mem _ (List.mem_append_right _ h)) (by decide +kernel))
set_option maxRecDepth 20000 in
theorem gX9_stack_X9_demandGame : GoodIn wsX9_stack (wsV RX9 191 RX9 yX9_demandGame wsX9_demandGame) := goodIn_app (goodIn_of _ (by decide +kernel)) ggX9_stack_X9_demandGame
set_option maxRecDepth 20000 in
theorem ggX9_stack_X5_stackedModes : GoodIn wsX9_stack wsX5_stackedModes := goodIn_r _ [38, 39, 40, 59, 60, 61, 62] (by decide +kernel) (by decide +kernel)
set_option maxRecDepth 20000 in
theorem gX9_stack_X5_stackedModes : GoodIn wsX9_stack (wsV RX9 195 RX5 yX5_stackedModes wsX5_stackedModes) := goodIn_app (goodIn_of _ (by decide +kernel)) ggX9_stack_X5_stackedModes
theorem dX9_stack_0 : decode cX9_stack 0 = .ok (.aload_n 0, 1) := by decide +kernel
theorem dX9_stack_1 : decode cX9_stack 1 = .ok (.iload_n 1, 1) := by decide +kernel
theorem dX9_stack_2 : decode cX9_stack 2 = .ok (.invokevirtual 191, 3) := by decide +kernel
theorem dX9_stack_5 : decode cX9_stack 5 = .ok (.getfield 170, 3) := by decide +kernel
theorem dX9_stack_8 : decode cX9_stack 8 = .ok (.invokevirtual 195, 3) := by decide +kernel
theorem dX9_stack_11 : decode cX9_stack 11 = .ok (.ireturn, 1) := by decide +kernel
set_option maxRecDepth 20000 in
theorem ggX9_score_X9_demandGame : GoodIn wsX9_score wsX9_demandGame := goodIn_ca (goodIn_r _ [7, 8, 9, 10, 11, 12, 13, 14, 15, 16, 17, 18, 19, 20, 21, 22, 23, 24, 25, 26, 27, 28, 29, 30, 31, 32, 33, 34, 45, 46, 47, 48, 49, 50, 51, 52, 53, 54, 55, 56] (by decide +kernel) (by decide +kernel)) (goodIn_sub (fun _ h => List.mem_cons_of_mem _ (List.mem_append_right _ h)) (by decide +kernel))
set_option maxRecDepth 20000 in
theorem gX9_score_X9_demandGame : GoodIn wsX9_score (wsV RX9 191 RX9 yX9_demandGame wsX9_demandGame) := goodIn_app (goodIn_of _ (by decide +kernel)) ggX9_score_X9_demandGame
theorem dX9_score_0 : decode cX9_score 0 = .ok (.aload_n 0, 1) := by decide +kernel
theorem dX9_score_1 : decode cX9_score 1 = .ok (.iload_n 1, 1) := by decide +kernel
theorem dX9_score_2 : decode cX9_score 2 = .ok (.invokevirtual 191, 3) := by decide +kernel
theorem dX9_score_5 : decode cX9_score 5 = .ok (.getfield 170, 3) := by decide +kernel
theorem dX9_score_8 : decode cX9_score 8 = .ok (.getfield 173, 3) := by decide +kernel
theorem dX9_score_11 : decode cX9_score 11 = .ok (.ireturn, 1) := by decide +kernel
set_option maxRecDepth 20000 in
theorem ggX9_scoreByLog_X9_demandGame : GoodIn wsX9_scoreByLog wsX9_demandGame := goodIn_ca (goodIn_r _ [5, 6, 7, 8, 9, 10, 11, 12, 13, 14, 15, 16, 17, 18, 19, 20, 21, 22, 23, 24, 25, 26, 27, 28, 29, 30, 31, 32, 97, 98, 99, 100, 101, 102, 103, 104, 105, 106, 107, 108] (by decide +kernel) (by decide +kernel)) (goodIn_sub (fun _ h => List.mem_cons_of_mem _ (List.mem_append_right _ h)) (by decide +kernel))
set_option maxRecDepth 20000 in
theorem gX9_scoreByLog_X9_demandGame : GoodIn wsX9_scoreByLog (wsV RX9 191 RX9 yX9_demandGame wsX9_demandGame) := goodIn_app (goodIn_of _ (by decide +kernel)) ggX9_scoreByLog_X9_demandGame
set_option maxRecDepth 20000 in
theorem ggX9_scoreByLog_X9_replayedScore : GoodIn wsX9_scoreByLog wsX9_replayedScore := goodIn_r _ [36, 37, 38, 39, 40, 41, 42, 43, 44, 45, 46, 47, 48, 49, 50, 51, 52, 53, 54, 55, 56, 57, 58, 59, 60, 4, 61, 62, 63, 64, 65, 66, 67, 68, 69, 70, 71, 72, 73, 74, 75, 76, 77, 78, 79, 80, 81, 82, 83, 84, 85, 86, 87, 88, 89, 90, 91, 92, 93, 94, 95, 96, 97, 98, 99, 100, 101, 102, 103, 104, 105, 109, 110, 111, 112, 113, 114, 115, 116, 117, 118, 119, 120, 121, 122, 123, 124, 125] (by decide +kernel) (by decide +kernel)
set_option maxRecDepth 20000 in
theorem gX9_scoreByLog_X9_replayedScore : GoodIn wsX9_scoreByLog (wsV RX9 198 RX9 yX9_replayedScore wsX9_replayedScore) := goodIn_app (goodIn_of _ (by decide +kernel)) ggX9_scoreByLog_X9_replayedScore
theorem dX9_scoreByLog_0 : decode cX9_scoreByLog 0 = .ok (.aload_n 0, 1) := by decide +kernel
theorem dX9_scoreByLog_1 : decode cX9_scoreByLog 1 = .ok (.aload_n 0, 1) := by decide +kernel
theorem dX9_scoreByLog_2 : decode cX9_scoreByLog 2 = .ok (.iload_n 1, 1) := by decide +kernel
theorem dX9_scoreByLog_3 : decode cX9_scoreByLog 3 = .ok (.invokevirtual 191, 3) := by decide +kernel
theorem dX9_scoreByLog_6 : decode cX9_scoreByLog 6 = .ok (.iconst 0, 1) := by decide +kernel
theorem dX9_scoreByLog_7 : decode cX9_scoreByLog 7 = .ok (.invokevirtual 198, 3) := by decide +kernel
theorem dX9_scoreByLog_10 : decode cX9_scoreByLog 10 = .ok (.ireturn, 1) := by decide +kernel
set_option maxRecDepth 20000 in
theorem ggX9_valid_X9_demandGame : GoodIn wsX9_valid wsX9_demandGame := goodIn_ca (goodIn_r _ [5, 6, 7, 8, 9, 10, 11, 12, 13, 14, 15, 16, 17, 18, 19, 20, 21, 22, 23, 24, 25, 26, 27, 28, 29, 30, 31, 32, 97, 98, 99, 100, 101, 102, 103, 104, 105, 106, 107, 108] (by decide +kernel) (by decide +kernel)) (goodIn_sub (fun _ h => List.mem_cons_of_mem _ (List.mem_append_right _ h)) (by decide +kernel))
set_option maxRecDepth 20000 in
theorem gX9_valid_X9_demandGame : GoodIn wsX9_valid (wsV RX9 191 RX9 yX9_demandGame wsX9_demandGame) := goodIn_app (goodIn_of _ (by decide +kernel)) ggX9_valid_X9_demandGame
set_option maxRecDepth 20000 in
theorem ggX9_valid_X9_replayedScore : GoodIn wsX9_valid wsX9_replayedScore := goodIn_r _ [36, 37, 38, 39, 40, 41, 42, 43, 44, 45, 46, 47, 48, 49, 50, 51, 52, 53, 54, 55, 56, 57, 58, 59, 60, 4, 61, 62, 63, 64, 65, 66, 67, 68, 69, 70, 71, 72, 73, 74, 75, 76, 77, 78, 79, 80, 81, 82, 83, 84, 85, 86, 87, 88, 89, 90, 91, 92, 93, 94, 95, 96, 97, 98, 99, 100, 101, 102, 103, 104, 105, 109, 110, 111, 112, 113, 114, 115, 116, 117, 118, 119, 120, 121, 122, 123, 124, 125] (by decide +kernel) (by decide +kernel)
set_option maxRecDepth 20000 in
theorem gX9_valid_X9_replayedScore : GoodIn wsX9_valid (wsV RX9 198 RX9 yX9_replayedScore wsX9_replayedScore) := goodIn_app (goodIn_of _ (by decide +kernel)) ggX9_valid_X9_replayedScore
theorem dX9_valid_0 : decode cX9_valid 0 = .ok (.aload_n 0, 1) := by decide +kernel
theorem dX9_valid_1 : decode cX9_valid 1 = .ok (.aload_n 0, 1) := by decide +kernel
theorem dX9_valid_2 : decode cX9_valid 2 = .ok (.iload_n 1, 1) := by decide +kernel
theorem dX9_valid_3 : decode cX9_valid 3 = .ok (.invokevirtual 191, 3) := by decide +kernel
theorem dX9_valid_6 : decode cX9_valid 6 = .ok (.iconst 1, 1) := by decide +kernel
theorem dX9_valid_7 : decode cX9_valid 7 = .ok (.invokevirtual 198, 3) := by decide +kernel
theorem dX9_valid_10 : decode cX9_valid 10 = .ok (.ireturn, 1) := by decide +kernel
set_option maxRecDepth 20000 in
theorem ggX9_logged_X9_demandGame : GoodIn wsX9_logged wsX9_demandGame := goodIn_ca (goodIn_r _ [6, 7, 8, 9, 10, 11, 12, 13, 14, 15, 16, 17, 18, 19, 20, 21, 22, 23, 24, 25, 26, 27, 28, 29, 30, 31, 32, 33, 40, 41, 42, 43, 44, 45, 46, 47, 48, 49, 50, 51] (by decide +kernel) (by decide +kernel)) (goodIn_sub (fun _ h => List.mem_cons_of_mem _ (List.mem_append_right _ h)) (by decide +kernel))
set_option maxRecDepth 20000 in
theorem gX9_logged_X9_demandGame : GoodIn wsX9_logged (wsV RX9 191 RX9 yX9_demandGame wsX9_demandGame) := goodIn_app (goodIn_of _ (by decide +kernel)) ggX9_logged_X9_demandGame
theorem dX9_logged_0 : decode cX9_logged 0 = .ok (.aload_n 0, 1) := by decide +kernel
theorem dX9_logged_1 : decode cX9_logged 1 = .ok (.iload_n 1, 1) := by decide +kernel
theorem dX9_logged_2 : decode cX9_logged 2 = .ok (.invokevirtual 191, 3) := by decide +kernel
theorem dX9_logged_5 : decode cX9_logged 5 = .ok (.getfield 202, 3) := by decide +kernel
theorem dX9_logged_8 : decode cX9_logged 8 = .ok (.ireturn, 1) := by decide +kernel
set_option maxRecDepth 20000 in
theorem ggX9_entryAt_X9_demandGame : GoodIn wsX9_entryAt wsX9_demandGame := goodIn_ca (goodIn_r _ [6, 7, 8, 9, 10, 11, 12, 13, 14, 15, 16, 17, 18, 19, 20, 21, 22, 23, 24, 25, 26, 27, 28, 29, 30, 31, 32, 33, 49, 50, 51, 52, 53, 54, 55, 56, 57, 58, 59, 60] (by decide +kernel) (by decide +kernel)) (goodIn_sub (fun _ h => List.mem_cons_of_mem _ (List.mem_append_right _ h)) (by decide +kernel))
set_option maxRecDepth 20000 in
theorem gX9_entryAt_X9_demandGame : GoodIn wsX9_entryAt (wsV RX9 191 RX9 yX9_demandGame wsX9_demandGame) := goodIn_app (goodIn_of _ (by decide +kernel)) ggX9_entryAt_X9_demandGame
set_option maxRecDepth 20000 in
theorem ggX9_entryAt_X9_demandIndex : GoodIn wsX9_entryAt wsX9_demandIndex := goodIn_ca (goodIn_r _ [36, 7, 8] (by decide +kernel) (by decide +kernel)) (goodIn_sub (fun _ h => List.mem_cons_of_mem _ (List.mem_append_right _ h)) (by decide +kernel))
set_option maxRecDepth 20000 in
theorem gX9_entryAt_X9_demandIndex : GoodIn wsX9_entryAt (va_wsS RX9 114 yX9_demandIndex wsX9_demandIndex) := goodIn_app (goodIn_of _ (by decide +kernel)) ggX9_entryAt_X9_demandIndex
set_option maxRecDepth 20000 in
theorem ggX9_entryAt_X2_entryOf : GoodIn wsX9_entryAt wsX2_entryOf := goodIn_r _ [41, 42, 43, 44, 45, 46, 47, 48] (by decide +kernel) (by decide +kernel)
set_option maxRecDepth 20000 in
theorem gX9_entryAt_X2_entryOf : GoodIn wsX9_entryAt (wsV RX9 205 RX2 yX2_entryOf wsX2_entryOf) := goodIn_app (goodIn_of _ (by decide +kernel)) ggX9_entryAt_X2_entryOf
theorem dX9_entryAt_0 : decode cX9_entryAt 0 = .ok (.aload_n 0, 1) := by decide +kernel
theorem dX9_entryAt_1 : decode cX9_entryAt 1 = .ok (.iload_n 1, 1) := by decide +kernel
theorem dX9_entryAt_2 : decode cX9_entryAt 2 = .ok (.invokevirtual 191, 3) := by decide +kernel
theorem dX9_entryAt_5 : decode cX9_entryAt 5 = .ok (.astore_n 3, 1) := by decide +kernel
theorem dX9_entryAt_6 : decode cX9_entryAt 6 = .ok (.iload_n 2, 1) := by decide +kernel
theorem dX9_entryAt_7 : decode cX9_entryAt 7 = .ok (.aload_n 3, 1) := by decide +kernel
theorem dX9_entryAt_8 : decode cX9_entryAt 8 = .ok (.getfield 202, 3) := by decide +kernel
theorem dX9_entryAt_11 : decode cX9_entryAt 11 = .ok (.invokestatic 114, 3) := by decide +kernel
theorem dX9_entryAt_14 : decode cX9_entryAt 14 = .ok (.aload_n 3, 1) := by decide +kernel
theorem dX9_entryAt_15 : decode cX9_entryAt 15 = .ok (.iload_n 2, 1) := by decide +kernel
theorem dX9_entryAt_16 : decode cX9_entryAt 16 = .ok (.invokevirtual 205, 3) := by decide +kernel
theorem dX9_entryAt_19 : decode cX9_entryAt 19 = .ok (.lreturn, 1) := by decide +kernel
set_option maxRecDepth 20000 in
theorem ggX9_twin_X9_demandGame : GoodIn wsX9_twin wsX9_demandGame := goodIn_ca (goodIn_r _ [8, 9, 10, 2, 3, 11, 12, 13, 14, 15, 16, 17, 18, 19, 20, 21, 22, 23, 24, 25, 26, 27, 28, 29, 30, 31, 32, 33, 56, 57, 58, 59, 60, 61, 62, 63, 64, 65, 66, 67] (by decide +kernel) (by decide +kernel)) (goodIn_sub (fun _ h => List.mem_cons_of_mem _ (List.mem_append_right _ h)) (by decide +kernel))
set_option maxRecDepth 20000 in
theorem gX9_twin_X9_demandGame : GoodIn wsX9_twin (wsV RX9 191 RX9 yX9_demandGame wsX9_demandGame) := goodIn_app (goodIn_of _ (by decide +kernel)) ggX9_twin_X9_demandGame
set_option maxRecDepth 20000 in
theorem ggX9_twin_X2_isOver : GoodIn wsX9_twin wsX2_isOver := goodIn_r _ [38, 39, 50, 51, 52, 53, 54, 55] (by decide +kernel) (by decide +kernel)
set_option maxRecDepth 20000 in
theorem gX9_twin_X2_isOver : GoodIn wsX9_twin (wsV RX9 187 RX2 yX2_isOver wsX2_isOver) := goodIn_app (goodIn_of _ (by decide +kernel)) ggX9_twin_X2_isOver
set_option maxRecDepth 20000 in
theorem ggX9_twin_Jx4a65c_size_8abf5 : GoodIn wsX9_twin wsJx4a65c_size_8abf5 := goodIn_r _ [15, 16, 65, 66, 67] (by decide +kernel) (by decide +kernel)
set_option maxRecDepth 20000 in
theorem gX9_twin_Jx4a65c_size_8abf5 : GoodIn wsX9_twin (wsV RX9 59 RJx4a65c yJx4a65c_size_8abf5 wsJx4a65c_size_8abf5) := goodIn_app (goodIn_of _ (by decide +kernel)) ggX9_twin_Jx4a65c_size_8abf5
set_option maxRecDepth 20000 in
theorem ggX9_twin_Jx4a65c_get_915e3 : GoodIn wsX9_twin wsJx4a65c_get_915e3 := goodIn_r _ [20, 16, 21, 22, 23, 24, 25, 26, 27, 28, 29, 30, 31, 14, 32, 33, 65, 66, 67] (by decide +kernel) (by decide +kernel)
set_option maxRecDepth 20000 in
theorem gX9_twin_Jx4a65c_get_915e3 : GoodIn wsX9_twin (wsV RX9 166 RJx4a65c yJx4a65c_get_915e3 wsJx4a65c_get_915e3) := goodIn_app (goodIn_of _ (by decide +kernel)) ggX9_twin_Jx4a65c_get_915e3
set_option maxRecDepth 20000 in
theorem ggX9_twin_X2_hasLogOf : GoodIn wsX9_twin wsX2_hasLogOf := goodIn_r _ [43, 44, 45, 46, 47, 37, 48, 49, 50, 51, 52, 53, 54, 55] (by decide +kernel) (by decide +kernel)
set_option maxRecDepth 20000 in
theorem gX9_twin_X2_hasLogOf : GoodIn wsX9_twin (wsV RX9 209 RX2 yX2_hasLogOf wsX2_hasLogOf) := goodIn_app (goodIn_of _ (by decide +kernel)) ggX9_twin_X2_hasLogOf
theorem dX9_twin_0 : decode cX9_twin 0 = .ok (.aload_n 0, 1) := by decide +kernel
theorem dX9_twin_1 : decode cX9_twin 1 = .ok (.iload_n 1, 1) := by decide +kernel
theorem dX9_twin_2 : decode cX9_twin 2 = .ok (.invokevirtual 191, 3) := by decide +kernel
theorem dX9_twin_5 : decode cX9_twin 5 = .ok (.astore_n 2, 1) := by decide +kernel
theorem dX9_twin_6 : decode cX9_twin 6 = .ok (.aload_n 2, 1) := by decide +kernel
theorem dX9_twin_7 : decode cX9_twin 7 = .ok (.invokevirtual 187, 3) := by decide +kernel
theorem dX9_twin_10 : decode cX9_twin 10 = .ok (.ifCond .eq 10, 3) := by decide +kernel
theorem dX9_twin_13 : decode cX9_twin 13 = .ok (.aload_n 2, 1) := by decide +kernel
theorem dX9_twin_14 : decode cX9_twin 14 = .ok (.getfield 202, 3) := by decide +kernel
theorem dX9_twin_17 : decode cX9_twin 17 = .ok (.ifCond .ne 5, 3) := by decide +kernel
theorem dX9_twin_20 : decode cX9_twin 20 = .ok (.iconst (-1), 1) := by decide +kernel
theorem dX9_twin_21 : decode cX9_twin 21 = .ok (.ireturn, 1) := by decide +kernel
theorem dX9_twin_22 : decode cX9_twin 22 = .ok (.iconst 0, 1) := by decide +kernel
theorem dX9_twin_23 : decode cX9_twin 23 = .ok (.istore_n 3, 1) := by decide +kernel
theorem dX9_twin_24 : decode cX9_twin 24 = .ok (.iload_n 3, 1) := by decide +kernel
theorem dX9_twin_25 : decode cX9_twin 25 = .ok (.aload_n 0, 1) := by decide +kernel
theorem dX9_twin_26 : decode cX9_twin 26 = .ok (.getfield 16, 3) := by decide +kernel
theorem dX9_twin_29 : decode cX9_twin 29 = .ok (.invokevirtual 59, 3) := by decide +kernel
theorem dX9_twin_32 : decode cX9_twin 32 = .ok (.if_icmp .ge 46, 3) := by decide +kernel
theorem dX9_twin_35 : decode cX9_twin 35 = .ok (.aload_n 0, 1) := by decide +kernel
theorem dX9_twin_36 : decode cX9_twin 36 = .ok (.getfield 16, 3) := by decide +kernel
theorem dX9_twin_39 : decode cX9_twin 39 = .ok (.iload_n 3, 1) := by decide +kernel
theorem dX9_twin_40 : decode cX9_twin 40 = .ok (.invokevirtual 166, 3) := by decide +kernel
theorem dX9_twin_43 : decode cX9_twin 43 = .ok (.checkcast 143, 3) := by decide +kernel
theorem dX9_twin_46 : decode cX9_twin 46 = .ok (.astore 4, 2) := by decide +kernel
theorem dX9_twin_48 : decode cX9_twin 48 = .ok (.iload_n 3, 1) := by decide +kernel
theorem dX9_twin_49 : decode cX9_twin 49 = .ok (.iload_n 1, 1) := by decide +kernel
theorem dX9_twin_50 : decode cX9_twin 50 = .ok (.if_icmp .eq 22, 3) := by decide +kernel
theorem dX9_twin_53 : decode cX9_twin 53 = .ok (.aload 4, 2) := by decide +kernel
theorem dX9_twin_55 : decode cX9_twin 55 = .ok (.invokevirtual 187, 3) := by decide +kernel
theorem dX9_twin_58 : decode cX9_twin 58 = .ok (.ifCond .eq 14, 3) := by decide +kernel
theorem dX9_twin_61 : decode cX9_twin 61 = .ok (.aload_n 2, 1) := by decide +kernel
theorem dX9_twin_62 : decode cX9_twin 62 = .ok (.aload 4, 2) := by decide +kernel
theorem dX9_twin_64 : decode cX9_twin 64 = .ok (.invokevirtual 209, 3) := by decide +kernel
theorem dX9_twin_67 : decode cX9_twin 67 = .ok (.ifCond .eq 5, 3) := by decide +kernel
theorem dX9_twin_70 : decode cX9_twin 70 = .ok (.iload_n 3, 1) := by decide +kernel
theorem dX9_twin_71 : decode cX9_twin 71 = .ok (.ireturn, 1) := by decide +kernel
theorem dX9_twin_72 : decode cX9_twin 72 = .ok (.iinc 3 1, 3) := by decide +kernel
theorem dX9_twin_75 : decode cX9_twin 75 = .ok (.goto (-51), 3) := by decide +kernel
theorem dX9_twin_78 : decode cX9_twin 78 = .ok (.iconst (-1), 1) := by decide +kernel
theorem dX9_twin_79 : decode cX9_twin 79 = .ok (.ireturn, 1) := by decide +kernel
set_option maxRecDepth 20000 in
theorem ggX9_high_X9_demandTable : GoodIn wsX9_high wsX9_demandTable := goodIn_ca (goodIn_r _ [8, 9, 10, 11, 12, 13, 14, 15, 16, 17, 18, 19, 20, 21, 22, 23, 24, 25, 26, 27, 28, 29, 30, 31, 32, 33, 34, 35, 119, 120, 121, 122, 123, 124, 125, 126, 127, 128, 129, 130] (by decide +kernel) (by decide +kernel)) (goodIn_sub (fun _ h => List.mem_cons_of_mem _ (List.mem_append_left _ (List.mem_append_right _ h))) (by decide +kernel))
set_option maxRecDepth 20000 in
theorem gX9_high_X9_demandTable : GoodIn wsX9_high (wsV RX9 79 RX9 yX9_demandTable wsX9_demandTable) := goodIn_app (goodIn_of _ (by decide +kernel)) ggX9_high_X9_demandTable
set_option maxRecDepth 20000 in
theorem ggX9_high_X9_demandLeast : GoodIn wsX9_high wsX9_demandLeast := goodIn_ca (goodIn_r _ [38, 39, 40] (by decide +kernel) (by decide +kernel)) (goodIn_sub (fun _ h => List.mem_cons_of_mem _ (List.mem_append_right _ h)) (by decide +kernel))
set_option maxRecDepth 20000 in
theorem gX9_high_X9_demandLeast : GoodIn wsX9_high (va_wsS RX9 117 yX9_demandLeast wsX9_demandLeast) := goodIn_app (goodIn_of _ (by decide +kernel)) ggX9_high_X9_demandLeast
set_option maxRecDepth 20000 in
theorem ggX9_high_Jx4a65c_size_8abf5 : GoodIn wsX9_high wsJx4a65c_size_8abf5 := goodIn_r _ [17, 18, 128, 129, 130] (by decide +kernel) (by decide +kernel)
set_option maxRecDepth 20000 in
theorem gX9_high_Jx4a65c_size_8abf5 : GoodIn wsX9_high (wsV RX9 59 RJx4a65c yJx4a65c_size_8abf5 wsJx4a65c_size_8abf5) := goodIn_app (goodIn_of _ (by decide +kernel)) ggX9_high_Jx4a65c_size_8abf5
set_option maxRecDepth 20000 in
theorem ggX9_high_X9_ranksAt : GoodIn wsX9_high wsX9_ranksAt := goodIn_r _ [44, 1, 3, 45, 13, 14, 15, 16, 17, 18, 19, 20, 21, 22, 23, 24, 25, 26, 27, 28, 29, 30, 31, 32, 33, 34, 35, 46, 47, 48, 49, 50, 51, 119, 120, 121, 122, 123, 124, 125, 126, 127, 131, 132, 133, 134, 135, 136, 128, 129, 130] (by decide +kernel) (by decide +kernel)
set_option maxRecDepth 20000 in
theorem gX9_high_X9_ranksAt : GoodIn wsX9_high (wsV RX9 213 RX9 yX9_ranksAt wsX9_ranksAt) := goodIn_app (goodIn_of _ (by decide +kernel)) ggX9_high_X9_ranksAt
set_option maxRecDepth 20000 in
theorem ggX9_high_Jx4a65c_get_915e3 : GoodIn wsX9_high wsJx4a65c_get_915e3 := goodIn_r _ [22, 18, 23, 24, 25, 26, 27, 28, 29, 30, 31, 32, 33, 16, 34, 35, 128, 129, 130] (by decide +kernel) (by decide +kernel)
set_option maxRecDepth 20000 in
theorem gX9_high_Jx4a65c_get_915e3 : GoodIn wsX9_high (wsV RX9 166 RJx4a65c yJx4a65c_get_915e3 wsJx4a65c_get_915e3) := goodIn_app (goodIn_of _ (by decide +kernel)) ggX9_high_Jx4a65c_get_915e3
set_option maxRecDepth 20000 in
theorem ggX9_high_X9_replayedScore : GoodIn wsX9_high wsX9_replayedScore := goodIn_r _ [55, 56, 57, 58, 59, 60, 61, 62, 63, 64, 65, 66, 67, 68, 69, 49, 70, 71, 72, 73, 74, 75, 76, 77, 78, 7, 79, 80, 81, 82, 83, 84, 85, 86, 87, 88, 89, 90, 91, 92, 93, 94, 95, 96, 97, 98, 99, 100, 101, 102, 103, 104, 105, 106, 107, 108, 109, 110, 111, 112, 113, 114, 119, 120, 121, 122, 123, 124, 125, 126, 127, 131, 132, 133, 134, 135, 136, 137, 138, 139, 140, 141, 142, 143, 144, 145, 146, 147] (by decide +kernel) (by decide +kernel)
set_option maxRecDepth 20000 in
theorem gX9_high_X9_replayedScore : GoodIn wsX9_high (wsV RX9 198 RX9 yX9_replayedScore wsX9_replayedScore) := goodIn_app (goodIn_of _ (by decide +kernel)) ggX9_high_X9_replayedScore
set_option maxRecDepth 20000 in
theorem ggX9_high_X9_countAhead : GoodIn wsX9_high wsX9_countAhead := goodIn_r _ [118, 2, 1, 13, 14, 15, 16, 17, 18, 119, 120, 121, 122, 123, 124, 125, 126, 127, 128, 129, 130] (by decide +kernel) (by decide +kernel)
set_option maxRecDepth 20000 in
theorem gX9_high_X9_countAhead : GoodIn wsX9_high (wsV RX9 217 RX9 yX9_countAhead wsX9_countAhead) := goodIn_app (goodIn_of _ (by decide +kernel)) ggX9_high_X9_countAhead
theorem dX9_high_0 : decode cX9_high 0 = .ok (.aload_n 0, 1) := by decide +kernel
theorem dX9_high_1 : decode cX9_high 1 = .ok (.iload_n 1, 1) := by decide +kernel
theorem dX9_high_2 : decode cX9_high 2 = .ok (.invokevirtual 79, 3) := by decide +kernel
theorem dX9_high_5 : decode cX9_high 5 = .ok (.pop, 1) := by decide +kernel
theorem dX9_high_6 : decode cX9_high 6 = .ok (.iload_n 2, 1) := by decide +kernel
theorem dX9_high_7 : decode cX9_high 7 = .ok (.iconst 0, 1) := by decide +kernel
theorem dX9_high_8 : decode cX9_high 8 = .ok (.invokestatic 117, 3) := by decide +kernel
theorem dX9_high_11 : decode cX9_high 11 = .ok (.iconst 0, 1) := by decide +kernel
theorem dX9_high_12 : decode cX9_high 12 = .ok (.istore_n 3, 1) := by decide +kernel
theorem dX9_high_13 : decode cX9_high 13 = .ok (.iload_n 3, 1) := by decide +kernel
theorem dX9_high_14 : decode cX9_high 14 = .ok (.aload_n 0, 1) := by decide +kernel
theorem dX9_high_15 : decode cX9_high 15 = .ok (.getfield 16, 3) := by decide +kernel
theorem dX9_high_18 : decode cX9_high 18 = .ok (.invokevirtual 59, 3) := by decide +kernel
theorem dX9_high_21 : decode cX9_high 21 = .ok (.if_icmp .ge 53, 3) := by decide +kernel
theorem dX9_high_24 : decode cX9_high 24 = .ok (.iload_n 3, 1) := by decide +kernel
theorem dX9_high_25 : decode cX9_high 25 = .ok (.aload_n 0, 1) := by decide +kernel
theorem dX9_high_26 : decode cX9_high 26 = .ok (.getfield 47, 3) := by decide +kernel
theorem dX9_high_29 : decode cX9_high 29 = .ok (.arraylength, 1) := by decide +kernel
theorem dX9_high_30 : decode cX9_high 30 = .ok (.if_icmp .ge 44, 3) := by decide +kernel
theorem dX9_high_33 : decode cX9_high 33 = .ok (.aload_n 0, 1) := by decide +kernel
theorem dX9_high_34 : decode cX9_high 34 = .ok (.getfield 47, 3) := by decide +kernel
theorem dX9_high_37 : decode cX9_high 37 = .ok (.iload_n 3, 1) := by decide +kernel
theorem dX9_high_38 : decode cX9_high 38 = .ok (.aload_n 0, 1) := by decide +kernel
theorem dX9_high_39 : decode cX9_high 39 = .ok (.iload_n 3, 1) := by decide +kernel
theorem dX9_high_40 : decode cX9_high 40 = .ok (.iload_n 1, 1) := by decide +kernel
theorem dX9_high_41 : decode cX9_high 41 = .ok (.invokevirtual 213, 3) := by decide +kernel
theorem dX9_high_44 : decode cX9_high 44 = .ok (.ifCond .eq 22, 3) := by decide +kernel
theorem dX9_high_47 : decode cX9_high 47 = .ok (.aload_n 0, 1) := by decide +kernel
theorem dX9_high_48 : decode cX9_high 48 = .ok (.aload_n 0, 1) := by decide +kernel
theorem dX9_high_49 : decode cX9_high 49 = .ok (.getfield 16, 3) := by decide +kernel
theorem dX9_high_52 : decode cX9_high 52 = .ok (.iload_n 3, 1) := by decide +kernel
theorem dX9_high_53 : decode cX9_high 53 = .ok (.invokevirtual 166, 3) := by decide +kernel
theorem dX9_high_56 : decode cX9_high 56 = .ok (.checkcast 143, 3) := by decide +kernel
theorem dX9_high_59 : decode cX9_high 59 = .ok (.iconst 1, 1) := by decide +kernel
theorem dX9_high_60 : decode cX9_high 60 = .ok (.invokevirtual 198, 3) := by decide +kernel
theorem dX9_high_63 : decode cX9_high 63 = .ok (.goto 4, 3) := by decide +kernel
theorem dX9_high_66 : decode cX9_high 66 = .ok (.iconst (-1), 1) := by decide +kernel
theorem dX9_high_67 : decode cX9_high 67 = .ok (.iastore, 1) := by decide +kernel
theorem dX9_high_68 : decode cX9_high 68 = .ok (.iinc 3 1, 3) := by decide +kernel
theorem dX9_high_71 : decode cX9_high 71 = .ok (.goto (-58), 3) := by decide +kernel
theorem dX9_high_74 : decode cX9_high 74 = .ok (.iconst 0, 1) := by decide +kernel
theorem dX9_high_75 : decode cX9_high 75 = .ok (.istore_n 3, 1) := by decide +kernel
theorem dX9_high_76 : decode cX9_high 76 = .ok (.iload_n 3, 1) := by decide +kernel
theorem dX9_high_77 : decode cX9_high 77 = .ok (.aload_n 0, 1) := by decide +kernel
theorem dX9_high_78 : decode cX9_high 78 = .ok (.getfield 16, 3) := by decide +kernel
theorem dX9_high_81 : decode cX9_high 81 = .ok (.invokevirtual 59, 3) := by decide +kernel
theorem dX9_high_84 : decode cX9_high 84 = .ok (.if_icmp .ge 29, 3) := by decide +kernel
theorem dX9_high_87 : decode cX9_high 87 = .ok (.aload_n 0, 1) := by decide +kernel
theorem dX9_high_88 : decode cX9_high 88 = .ok (.iload_n 3, 1) := by decide +kernel
theorem dX9_high_89 : decode cX9_high 89 = .ok (.iload_n 1, 1) := by decide +kernel
theorem dX9_high_90 : decode cX9_high 90 = .ok (.invokevirtual 213, 3) := by decide +kernel
theorem dX9_high_93 : decode cX9_high 93 = .ok (.ifCond .eq 14, 3) := by decide +kernel
theorem dX9_high_96 : decode cX9_high 96 = .ok (.aload_n 0, 1) := by decide +kernel
theorem dX9_high_97 : decode cX9_high 97 = .ok (.iload_n 3, 1) := by decide +kernel
theorem dX9_high_98 : decode cX9_high 98 = .ok (.invokevirtual 217, 3) := by decide +kernel
theorem dX9_high_101 : decode cX9_high 101 = .ok (.iload_n 2, 1) := by decide +kernel
theorem dX9_high_102 : decode cX9_high 102 = .ok (.if_icmp .ne 5, 3) := by decide +kernel
theorem dX9_high_105 : decode cX9_high 105 = .ok (.iload_n 3, 1) := by decide +kernel
theorem dX9_high_106 : decode cX9_high 106 = .ok (.ireturn, 1) := by decide +kernel
theorem dX9_high_107 : decode cX9_high 107 = .ok (.iinc 3 1, 3) := by decide +kernel
theorem dX9_high_110 : decode cX9_high 110 = .ok (.goto (-34), 3) := by decide +kernel
theorem dX9_high_113 : decode cX9_high 113 = .ok (.iconst (-1), 1) := by decide +kernel
theorem dX9_high_114 : decode cX9_high 114 = .ok (.ireturn, 1) := by decide +kernel
set_option maxRecDepth 20000 in
theorem ggX9_rob_X9_demandTable : GoodIn wsX9_rob wsX9_demandTable := goodIn_ca (goodIn_r _ [8, 9, 10, 11, 12, 13, 14, 15, 16, 17, 18, 19, 20, 21, 22, 23, 24, 25, 26, 27, 28, 29, 30, 31, 32, 33, 34, 35, 49, 50, 51, 52, 53, 54, 55, 56, 57, 58, 59, 60] (by decide +kernel) (by decide +kernel)) (goodIn_sub (fun _ h => List.mem_cons_of_mem _ (List.mem_append_left _ (List.mem_append_right _ h))) (by decide +kernel))
set_option maxRecDepth 20000 in
theorem gX9_rob_X9_demandTable : GoodIn wsX9_rob (wsV RX9 79 RX9 yX9_demandTable wsX9_demandTable) := goodIn_app (goodIn_of _ (by decide +kernel)) ggX9_rob_X9_demandTable
set_option maxRecDepth 20000 in
theorem ggX9_rob_X9_demandRange : GoodIn wsX9_rob wsX9_demandRange := goodIn_ca (goodIn_r _ [38, 39, 40] (by decide +kernel) (by decide +kernel)) (goodIn_sub (fun _ h => List.mem_cons_of_mem _ (List.mem_append_right _ h)) (by decide +kernel))
set_option maxRecDepth 20000 in
theorem gX9_rob_X9_demandRange : GoodIn wsX9_rob (va_wsS RX9 55 yX9_demandRange wsX9_demandRange) := goodIn_app (goodIn_of _ (by decide +kernel)) ggX9_rob_X9_demandRange
theorem dX9_rob_0 : decode cX9_rob 0 = .ok (.aload_n 0, 1) := by decide +kernel
theorem dX9_rob_1 : decode cX9_rob 1 = .ok (.iload_n 1, 1) := by decide +kernel
theorem dX9_rob_2 : decode cX9_rob 2 = .ok (.invokevirtual 79, 3) := by decide +kernel
theorem dX9_rob_5 : decode cX9_rob 5 = .ok (.astore_n 3, 1) := by decide +kernel
theorem dX9_rob_6 : decode cX9_rob 6 = .ok (.iload_n 2, 1) := by decide +kernel
theorem dX9_rob_7 : decode cX9_rob 7 = .ok (.iconst 1, 1) := by decide +kernel
theorem dX9_rob_8 : decode cX9_rob 8 = .ok (.bipush 100, 2) := by decide +kernel
theorem dX9_rob_10 : decode cX9_rob 10 = .ok (.invokestatic 55, 3) := by decide +kernel
theorem dX9_rob_13 : decode cX9_rob 13 = .ok (.aload_n 3, 1) := by decide +kernel
theorem dX9_rob_14 : decode cX9_rob 14 = .ok (.getfield 155, 3) := by decide +kernel
theorem dX9_rob_17 : decode cX9_rob 17 = .ok (.iload_n 2, 1) := by decide +kernel
theorem dX9_rob_18 : decode cX9_rob 18 = .ok (.if_icmp .ge 13, 3) := by decide +kernel
theorem dX9_rob_21 : decode cX9_rob 21 = .ok (.new 63, 3) := by decide +kernel
theorem dX9_rob_24 : decode cX9_rob 24 = .ok (.dup, 1) := by decide +kernel
theorem dX9_rob_25 : decode cX9_rob 25 = .ok (.ldc 220, 2) := by decide +kernel
theorem dX9_rob_27 : decode cX9_rob 27 = .ok (.invokespecial 67, 3) := by decide +kernel
theorem dX9_rob_30 : decode cX9_rob 30 = .ok (.athrow, 1) := by decide +kernel
theorem dX9_rob_31 : decode cX9_rob 31 = .ok (.aload_n 3, 1) := by decide +kernel
theorem dX9_rob_32 : decode cX9_rob 32 = .ok (.dup, 1) := by decide +kernel
theorem dX9_rob_33 : decode cX9_rob 33 = .ok (.getfield 155, 3) := by decide +kernel
theorem dX9_rob_36 : decode cX9_rob 36 = .ok (.iload_n 2, 1) := by decide +kernel
theorem dX9_rob_37 : decode cX9_rob 37 = .ok (.isub, 1) := by decide +kernel
theorem dX9_rob_38 : decode cX9_rob 38 = .ok (.putfield 155, 3) := by decide +kernel
theorem dX9_rob_41 : decode cX9_rob 41 = .ok (.aload_n 3, 1) := by decide +kernel
theorem dX9_rob_42 : decode cX9_rob 42 = .ok (.getfield 155, 3) := by decide +kernel
theorem dX9_rob_45 : decode cX9_rob 45 = .ok (.ireturn, 1) := by decide +kernel
set_option maxRecDepth 20000 in
theorem ggX9_box_X9_demandTable : GoodIn wsX9_box wsX9_demandTable := goodIn_ca (goodIn_r _ [6, 7, 8, 9, 10, 11, 12, 13, 14, 15, 16, 17, 18, 19, 20, 21, 22, 23, 24, 25, 26, 27, 28, 29, 30, 31, 32, 33, 42, 43, 44, 45, 46, 47, 48, 49, 50, 51, 52, 53] (by decide +kernel) (by decide +kernel)) (goodIn_sub (fun _ h => List.mem_cons_of_mem _ (List.mem_append_right _ h)) (by decide +kernel))
set_option maxRecDepth 20000 in
theorem gX9_box_X9_demandTable : GoodIn wsX9_box (wsV RX9 79 RX9 yX9_demandTable wsX9_demandTable) := goodIn_app (goodIn_of _ (by decide +kernel)) ggX9_box_X9_demandTable
theorem dX9_box_0 : decode cX9_box 0 = .ok (.aload_n 0, 1) := by decide +kernel
theorem dX9_box_1 : decode cX9_box 1 = .ok (.iload_n 1, 1) := by decide +kernel
theorem dX9_box_2 : decode cX9_box 2 = .ok (.invokevirtual 79, 3) := by decide +kernel
theorem dX9_box_5 : decode cX9_box 5 = .ok (.getfield 155, 3) := by decide +kernel
theorem dX9_box_8 : decode cX9_box 8 = .ok (.ireturn, 1) := by decide +kernel
set_option maxRecDepth 20000 in
theorem ggX9_missing_X9_demandTable : GoodIn wsX9_missing wsX9_demandTable := goodIn_ca (goodIn_r _ [6, 7, 8, 9, 10, 11, 12, 13, 14, 15, 16, 17, 18, 19, 20, 21, 22, 23, 24, 25, 26, 27, 28, 29, 30, 31, 32, 33, 42, 43, 44, 45, 46, 47, 48, 49, 50, 51, 52, 53] (by decide +kernel) (by decide +kernel)) (goodIn_sub (fun _ h => List.mem_cons_of_mem _ (List.mem_append_right _ h)) (by decide +kernel))
set_option maxRecDepth 20000 in
theorem gX9_missing_X9_demandTable : GoodIn wsX9_missing (wsV RX9 79 RX9 yX9_demandTable wsX9_demandTable) := goodIn_app (goodIn_of _ (by decide +kernel)) ggX9_missing_X9_demandTable
theorem dX9_missing_0 : decode cX9_missing 0 = .ok (.aload_n 0, 1) := by decide +kernel
theorem dX9_missing_1 : decode cX9_missing 1 = .ok (.iload_n 1, 1) := by decide +kernel
theorem dX9_missing_2 : decode cX9_missing 2 = .ok (.invokevirtual 79, 3) := by decide +kernel
theorem dX9_missing_5 : decode cX9_missing 5 = .ok (.getfield 222, 3) := by decide +kernel
theorem dX9_missing_8 : decode cX9_missing 8 = .ok (.ireturn, 1) := by decide +kernel
set_option maxRecDepth 20000 in
theorem ggX9_load_X9_demandVan : GoodIn wsX9_load wsX9_demandVan := goodIn_ca (goodIn_r _ [7, 8, 9, 10, 11, 27, 28, 29, 30, 31, 32, 33, 34, 35] (by decide +kernel) (by decide +kernel)) (goodIn_sub (fun _ h => List.mem_cons_of_mem _ (List.mem_append_left _ (List.mem_append_right _ h))) (by decide +kernel))
set_option maxRecDepth 20000 in
theorem gX9_load_X9_demandVan : GoodIn wsX9_load (wsV RX9 225 RX9 yX9_demandVan wsX9_demandVan) := goodIn_app (goodIn_of _ (by decide +kernel)) ggX9_load_X9_demandVan
set_option maxRecDepth 20000 in
theorem ggX9_load_X9_demandRange : GoodIn wsX9_load wsX9_demandRange := goodIn_ca (goodIn_r _ [14, 15, 16] (by decide +kernel) (by decide +kernel)) (goodIn_sub (fun _ h => List.mem_cons_of_mem _ (List.mem_append_right _ h)) (by decide +kernel))
set_option maxRecDepth 20000 in
theorem gX9_load_X9_demandRange : GoodIn wsX9_load (va_wsS RX9 55 yX9_demandRange wsX9_demandRange) := goodIn_app (goodIn_of _ (by decide +kernel)) ggX9_load_X9_demandRange
set_option maxRecDepth 20000 in
theorem ggX9_load_X8_spareOf : GoodIn wsX9_load wsX8_spareOf := goodIn_r _ [21, 22, 36, 37] (by decide +kernel) (by decide +kernel)
set_option maxRecDepth 20000 in
theorem gX9_load_X8_spareOf : GoodIn wsX9_load (wsV RX9 229 RX8 yX8_spareOf wsX8_spareOf) := goodIn_app (goodIn_of _ (by decide +kernel)) ggX9_load_X8_spareOf
set_option maxRecDepth 20000 in
theorem ggX9_load_X8_addSpare : GoodIn wsX9_load wsX8_addSpare := goodIn_r _ [26, 22, 36, 37] (by decide +kernel) (by decide +kernel)
set_option maxRecDepth 20000 in
theorem gX9_load_X8_addSpare : GoodIn wsX9_load (wsV RX9 234 RX8 yX8_addSpare wsX8_addSpare) := goodIn_app (goodIn_of _ (by decide +kernel)) ggX9_load_X8_addSpare
theorem dX9_load_0 : decode cX9_load 0 = .ok (.aload_n 0, 1) := by decide +kernel
theorem dX9_load_1 : decode cX9_load 1 = .ok (.iload_n 1, 1) := by decide +kernel
theorem dX9_load_2 : decode cX9_load 2 = .ok (.invokevirtual 225, 3) := by decide +kernel
theorem dX9_load_5 : decode cX9_load 5 = .ok (.astore 4, 2) := by decide +kernel
theorem dX9_load_7 : decode cX9_load 7 = .ok (.iload_n 2, 1) := by decide +kernel
theorem dX9_load_8 : decode cX9_load 8 = .ok (.iconst 0, 1) := by decide +kernel
theorem dX9_load_9 : decode cX9_load 9 = .ok (.iconst 1, 1) := by decide +kernel
