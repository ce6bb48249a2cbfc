theorem dX8_init_0 : decode cX8_init 0 = .ok (.aload_n 0, 1) := by decide +kernel
theorem dX8_init_1 : decode cX8_init 1 = .ok (.invokespecial 1, 3) := by decide +kernel
theorem dX8_init_4 : decode cX8_init 4 = .ok (.aload_n 0, 1) := by decide +kernel
theorem dX8_init_5 : decode cX8_init 5 = .ok (.sipush 500, 3) := by decide +kernel
theorem dX8_init_8 : decode cX8_init 8 = .ok (.newarray .char, 2) := by decide +kernel
theorem dX8_init_10 : decode cX8_init 10 = .ok (.putfield 9, 3) := by decide +kernel
theorem dX8_init_13 : decode cX8_init 13 = .ok (.aload_n 0, 1) := by decide +kernel
theorem dX8_init_14 : decode cX8_init 14 = .ok (.iconst 0, 1) := by decide +kernel
theorem dX8_init_15 : decode cX8_init 15 = .ok (.putfield 13, 3) := by decide +kernel
theorem dX8_init_18 : decode cX8_init 18 = .ok (.aload_n 0, 1) := by decide +kernel
theorem dX8_init_19 : decode cX8_init 19 = .ok (.iconst (-1), 1) := by decide +kernel
theorem dX8_init_20 : decode cX8_init 20 = .ok (.putfield 17, 3) := by decide +kernel
theorem dX8_init_23 : decode cX8_init 23 = .ok (.aload_n 0, 1) := by decide +kernel
theorem dX8_init_24 : decode cX8_init 24 = .ok (.new 20, 3) := by decide +kernel
theorem dX8_init_27 : decode cX8_init 27 = .ok (.dup, 1) := by decide +kernel
theorem dX8_init_28 : decode cX8_init 28 = .ok (.invokespecial 22, 3) := by decide +kernel
theorem dX8_init_31 : decode cX8_init 31 = .ok (.putfield 23, 3) := by decide +kernel
theorem dX8_init_34 : decode cX8_init 34 = .ok (.aload_n 0, 1) := by decide +kernel
theorem dX8_init_35 : decode cX8_init 35 = .ok (.new 20, 3) := by decide +kernel
theorem dX8_init_38 : decode cX8_init 38 = .ok (.dup, 1) := by decide +kernel
theorem dX8_init_39 : decode cX8_init 39 = .ok (.invokespecial 22, 3) := by decide +kernel
theorem dX8_init_42 : decode cX8_init 42 = .ok (.putfield 27, 3) := by decide +kernel
theorem dX8_init_45 : decode cX8_init 45 = .ok (.aload_n 0, 1) := by decide +kernel
theorem dX8_init_46 : decode cX8_init 46 = .ok (.new 30, 3) := by decide +kernel
theorem dX8_init_49 : decode cX8_init 49 = .ok (.dup, 1) := by decide +kernel
theorem dX8_init_50 : decode cX8_init 50 = .ok (.invokespecial 32, 3) := by decide +kernel
theorem dX8_init_53 : decode cX8_init 53 = .ok (.putfield 33, 3) := by decide +kernel
theorem dX8_init_56 : decode cX8_init 56 = .ok (.aload_n 0, 1) := by decide +kernel
theorem dX8_init_57 : decode cX8_init 57 = .ok (.new 37, 3) := by decide +kernel
theorem dX8_init_60 : decode cX8_init 60 = .ok (.dup, 1) := by decide +kernel
theorem dX8_init_61 : decode cX8_init 61 = .ok (.invokespecial 39, 3) := by decide +kernel
theorem dX8_init_64 : decode cX8_init 64 = .ok (.putfield 40, 3) := by decide +kernel
theorem dX8_init_67 : decode cX8_init 67 = .ok (.aload_n 0, 1) := by decide +kernel
theorem dX8_init_68 : decode cX8_init 68 = .ok (.new 44, 3) := by decide +kernel
theorem dX8_init_71 : decode cX8_init 71 = .ok (.dup, 1) := by decide +kernel
theorem dX8_init_72 : decode cX8_init 72 = .ok (.invokespecial 46, 3) := by decide +kernel
theorem dX8_init_75 : decode cX8_init 75 = .ok (.putfield 47, 3) := by decide +kernel
theorem dX8_init_78 : decode cX8_init 78 = .ok (.aload_n 0, 1) := by decide +kernel
theorem dX8_init_79 : decode cX8_init 79 = .ok (.new 44, 3) := by decide +kernel
theorem dX8_init_82 : decode cX8_init 82 = .ok (.dup, 1) := by decide +kernel
theorem dX8_init_83 : decode cX8_init 83 = .ok (.invokespecial 46, 3) := by decide +kernel
theorem dX8_init_86 : decode cX8_init 86 = .ok (.putfield 51, 3) := by decide +kernel
theorem dX8_init_89 : decode cX8_init 89 = .ok (.aload_n 0, 1) := by decide +kernel
theorem dX8_init_90 : decode cX8_init 90 = .ok (.new 44, 3) := by decide +kernel
theorem dX8_init_93 : decode cX8_init 93 = .ok (.dup, 1) := by decide +kernel
theorem dX8_init_94 : decode cX8_init 94 = .ok (.invokespecial 46, 3) := by decide +kernel
theorem dX8_init_97 : decode cX8_init 97 = .ok (.putfield 54, 3) := by decide +kernel
theorem dX8_init_100 : decode cX8_init 100 = .ok (.aload_n 0, 1) := by decide +kernel
theorem dX8_init_101 : decode cX8_init 101 = .ok (.new 57, 3) := by decide +kernel
theorem dX8_init_104 : decode cX8_init 104 = .ok (.dup, 1) := by decide +kernel
theorem dX8_init_105 : decode cX8_init 105 = .ok (.invokespecial 59, 3) := by decide +kernel
theorem dX8_init_108 : decode cX8_init 108 = .ok (.putfield 60, 3) := by decide +kernel
theorem dX8_init_111 : decode cX8_init 111 = .ok (.aload_n 0, 1) := by decide +kernel
theorem dX8_init_112 : decode cX8_init 112 = .ok (.new 64, 3) := by decide +kernel
theorem dX8_init_115 : decode cX8_init 115 = .ok (.dup, 1) := by decide +kernel
theorem dX8_init_116 : decode cX8_init 116 = .ok (.invokespecial 66, 3) := by decide +kernel
theorem dX8_init_119 : decode cX8_init 119 = .ok (.putfield 67, 3) := by decide +kernel
theorem dX8_init_122 : decode cX8_init 122 = .ok (.aload_n 0, 1) := by decide +kernel
theorem dX8_init_123 : decode cX8_init 123 = .ok (.new 71, 3) := by decide +kernel
theorem dX8_init_126 : decode cX8_init 126 = .ok (.dup, 1) := by decide +kernel
theorem dX8_init_127 : decode cX8_init 127 = .ok (.invokespecial 73, 3) := by decide +kernel
theorem dX8_init_130 : decode cX8_init 130 = .ok (.putfield 74, 3) := by decide +kernel
theorem dX8_init_133 : decode cX8_init 133 = .ok (.aload_n 0, 1) := by decide +kernel
theorem dX8_init_134 : decode cX8_init 134 = .ok (.new 78, 3) := by decide +kernel
theorem dX8_init_137 : decode cX8_init 137 = .ok (.dup, 1) := by decide +kernel
theorem dX8_init_138 : decode cX8_init 138 = .ok (.invokespecial 80, 3) := by decide +kernel
theorem dX8_init_141 : decode cX8_init 141 = .ok (.putfield 81, 3) := by decide +kernel
theorem dX8_init_144 : decode cX8_init 144 = .ok (.return_, 1) := by decide +kernel
theorem dX8_feed_0 : decode cX8_feed 0 = .ok (.iload_n 1, 1) := by decide +kernel
theorem dX8_feed_1 : decode cX8_feed 1 = .ok (.iconst 1, 1) := by decide +kernel
theorem dX8_feed_2 : decode cX8_feed 2 = .ok (.if_icmp .lt 9, 3) := by decide +kernel
theorem dX8_feed_5 : decode cX8_feed 5 = .ok (.iload_n 1, 1) := by decide +kernel
theorem dX8_feed_6 : decode cX8_feed 6 = .ok (.bipush 8, 2) := by decide +kernel
theorem dX8_feed_8 : decode cX8_feed 8 = .ok (.if_icmp .le 6, 3) := by decide +kernel
theorem dX8_feed_11 : decode cX8_feed 11 = .ok (.ldc 85, 2) := by decide +kernel
theorem dX8_feed_13 : decode cX8_feed 13 = .ok (.ireturn, 1) := by decide +kernel
theorem dX8_feed_14 : decode cX8_feed 14 = .ok (.aload_n 0, 1) := by decide +kernel
theorem dX8_feed_15 : decode cX8_feed 15 = .ok (.getfield 13, 3) := by decide +kernel
theorem dX8_feed_18 : decode cX8_feed 18 = .ok (.ifCond .lt 15, 3) := by decide +kernel
theorem dX8_feed_21 : decode cX8_feed 21 = .ok (.aload_n 0, 1) := by decide +kernel
theorem dX8_feed_22 : decode cX8_feed 22 = .ok (.getfield 13, 3) := by decide +kernel
theorem dX8_feed_25 : decode cX8_feed 25 = .ok (.iload_n 1, 1) := by decide +kernel
theorem dX8_feed_26 : decode cX8_feed 26 = .ok (.iadd, 1) := by decide +kernel
theorem dX8_feed_27 : decode cX8_feed 27 = .ok (.sipush 500, 3) := by decide +kernel
theorem dX8_feed_30 : decode cX8_feed 30 = .ok (.if_icmp .le 6, 3) := by decide +kernel
theorem dX8_feed_33 : decode cX8_feed 33 = .ok (.ldc 86, 2) := by decide +kernel
theorem dX8_feed_35 : decode cX8_feed 35 = .ok (.ireturn, 1) := by decide +kernel
theorem dX8_feed_36 : decode cX8_feed 36 = .ok (.iload_n 1, 1) := by decide +kernel
theorem dX8_feed_37 : decode cX8_feed 37 = .ok (.iconst 1, 1) := by decide +kernel
theorem dX8_feed_38 : decode cX8_feed 38 = .ok (.isub, 1) := by decide +kernel
theorem dX8_feed_39 : decode cX8_feed 39 = .ok (.istore 4, 2) := by decide +kernel
theorem dX8_feed_41 : decode cX8_feed 41 = .ok (.iload 4, 2) := by decide +kernel
theorem dX8_feed_43 : decode cX8_feed 43 = .ok (.ifCond .lt 41, 3) := by decide +kernel
theorem dX8_feed_46 : decode cX8_feed 46 = .ok (.aload_n 0, 1) := by decide +kernel
theorem dX8_feed_47 : decode cX8_feed 47 = .ok (.getfield 9, 3) := by decide +kernel
theorem dX8_feed_50 : decode cX8_feed 50 = .ok (.aload_n 0, 1) := by decide +kernel
theorem dX8_feed_51 : decode cX8_feed 51 = .ok (.getfield 13, 3) := by decide +kernel
theorem dX8_feed_54 : decode cX8_feed 54 = .ok (.lload_n 2, 1) := by decide +kernel
theorem dX8_feed_55 : decode cX8_feed 55 = .ok (.bipush 8, 2) := by decide +kernel
theorem dX8_feed_57 : decode cX8_feed 57 = .ok (.iload 4, 2) := by decide +kernel
theorem dX8_feed_59 : decode cX8_feed 59 = .ok (.imul, 1) := by decide +kernel
theorem dX8_feed_60 : decode cX8_feed 60 = .ok (.lushr, 1) := by decide +kernel
theorem dX8_feed_61 : decode cX8_feed 61 = .ok (.ldc2_w 87, 3) := by decide +kernel
theorem dX8_feed_64 : decode cX8_feed 64 = .ok (.land, 1) := by decide +kernel
theorem dX8_feed_65 : decode cX8_feed 65 = .ok (.l2i, 1) := by decide +kernel
theorem dX8_feed_66 : decode cX8_feed 66 = .ok (.i2c, 1) := by decide +kernel
theorem dX8_feed_67 : decode cX8_feed 67 = .ok (.castore, 1) := by decide +kernel
theorem dX8_feed_68 : decode cX8_feed 68 = .ok (.aload_n 0, 1) := by decide +kernel
theorem dX8_feed_69 : decode cX8_feed 69 = .ok (.dup, 1) := by decide +kernel
theorem dX8_feed_70 : decode cX8_feed 70 = .ok (.getfield 13, 3) := by decide +kernel
theorem dX8_feed_73 : decode cX8_feed 73 = .ok (.iconst 1, 1) := by decide +kernel
theorem dX8_feed_74 : decode cX8_feed 74 = .ok (.iadd, 1) := by decide +kernel
theorem dX8_feed_75 : decode cX8_feed 75 = .ok (.putfield 13, 3) := by decide +kernel
theorem dX8_feed_78 : decode cX8_feed 78 = .ok (.iinc 4 (-1), 3) := by decide +kernel
theorem dX8_feed_81 : decode cX8_feed 81 = .ok (.goto (-40), 3) := by decide +kernel
theorem dX8_feed_84 : decode cX8_feed 84 = .ok (.aload_n 0, 1) := by decide +kernel
theorem dX8_feed_85 : decode cX8_feed 85 = .ok (.getfield 13, 3) := by decide +kernel
theorem dX8_feed_88 : decode cX8_feed 88 = .ok (.ireturn, 1) := by decide +kernel
set_option maxRecDepth 20000 in
theorem ggX8_cave_X3_readAll : GoodIn wsX8_cave wsX3_readAll := goodIn_r _ [24, 25, 26, 27, 28, 29, 30, 31, 32, 33, 34, 35, 36, 37, 38, 39, 40, 41, 42, 43, 44, 45, 46, 47, 23, 48, 49, 50, 51, 52, 53, 54, 55, 56, 57, 58, 59, 60, 61, 62, 63, 64, 65, 66, 67, 68, 69, 70, 71, 72, 73, 74, 75, 76, 77, 78, 79, 80, 81, 82, 83, 84, 85, 86, 87, 88, 89, 90, 91, 92, 93, 94, 95, 96, 97, 98, 99, 100, 101, 102, 103, 104, 105, 106, 107, 108, 109, 110, 111, 112, 113, 114, 115, 116, 117, 118, 119, 120, 121, 122, 123, 124, 125, 126, 127, 128, 129, 130, 131, 132, 133, 134, 135, 136, 137, 138, 139, 140, 141, 142, 143, 144, 145, 146, 147, 148, 149, 150, 151, 152, 153, 154, 155, 156, 157, 158, 159, 160, 161, 162, 163, 164, 165, 166, 167, 168, 169, 170, 171, 172, 173, 174, 175, 176, 177, 178, 179, 180, 181, 182, 183, 209, 210, 211, 212, 213, 229, 230, 231, 232, 233, 234, 235, 236, 237, 238, 239, 240, 241] (by decide +kernel) (by decide +kernel)
set_option maxRecDepth 20000 in
theorem gX8_cave_X3_readAll : GoodIn wsX8_cave (wsV RX8 89 RX3 yX3_readAll wsX3_readAll) := goodIn_app (goodIn_of _ (by decide +kernel)) ggX8_cave_X3_readAll
set_option maxRecDepth 20000 in
theorem ggX8_cave_X2_startIn : GoodIn wsX8_cave wsX2_startIn := goodIn_r _ [188, 189, 190, 191, 192, 193, 194, 214, 215, 216, 217, 218, 219, 229, 230, 231, 232, 233, 234, 235, 236, 237, 238, 239, 240, 241] (by decide +kernel) (by decide +kernel)
set_option maxRecDepth 20000 in
theorem gX8_cave_X2_startIn : GoodIn wsX8_cave (wsV RX8 97 RX2 yX2_startIn wsX2_startIn) := goodIn_app (goodIn_of _ (by decide +kernel)) ggX8_cave_X2_startIn
theorem dX8_cave_0 : decode cX8_cave 0 = .ok (.aload_n 0, 1) := by decide +kernel
theorem dX8_cave_1 : decode cX8_cave 1 = .ok (.getfield 33, 3) := by decide +kernel
theorem dX8_cave_4 : decode cX8_cave 4 = .ok (.aload_n 0, 1) := by decide +kernel
theorem dX8_cave_5 : decode cX8_cave 5 = .ok (.getfield 9, 3) := by decide +kernel
theorem dX8_cave_8 : decode cX8_cave 8 = .ok (.aload_n 0, 1) := by decide +kernel
theorem dX8_cave_9 : decode cX8_cave 9 = .ok (.getfield 13, 3) := by decide +kernel
theorem dX8_cave_12 : decode cX8_cave 12 = .ok (.aload_n 0, 1) := by decide +kernel
theorem dX8_cave_13 : decode cX8_cave 13 = .ok (.getfield 27, 3) := by decide +kernel
theorem dX8_cave_16 : decode cX8_cave 16 = .ok (.invokevirtual 89, 3) := by decide +kernel
theorem dX8_cave_19 : decode cX8_cave 19 = .ok (.aload_n 0, 1) := by decide +kernel
theorem dX8_cave_20 : decode cX8_cave 20 = .ok (.iconst 0, 1) := by decide +kernel
theorem dX8_cave_21 : decode cX8_cave 21 = .ok (.putfield 13, 3) := by decide +kernel
theorem dX8_cave_24 : decode cX8_cave 24 = .ok (.aload_n 0, 1) := by decide +kernel
theorem dX8_cave_25 : decode cX8_cave 25 = .ok (.aload_n 0, 1) := by decide +kernel
theorem dX8_cave_26 : decode cX8_cave 26 = .ok (.getfield 33, 3) := by decide +kernel
theorem dX8_cave_29 : decode cX8_cave 29 = .ok (.getfield 93, 3) := by decide +kernel
theorem dX8_cave_32 : decode cX8_cave 32 = .ok (.putfield 17, 3) := by decide +kernel
theorem dX8_cave_35 : decode cX8_cave 35 = .ok (.aload_n 0, 1) := by decide +kernel
theorem dX8_cave_36 : decode cX8_cave 36 = .ok (.getfield 33, 3) := by decide +kernel
theorem dX8_cave_39 : decode cX8_cave 39 = .ok (.getfield 94, 3) := by decide +kernel
theorem dX8_cave_42 : decode cX8_cave 42 = .ok (.ifCond .eq 14, 3) := by decide +kernel
theorem dX8_cave_45 : decode cX8_cave 45 = .ok (.bipush (-10), 2) := by decide +kernel
theorem dX8_cave_47 : decode cX8_cave 47 = .ok (.aload_n 0, 1) := by decide +kernel
theorem dX8_cave_48 : decode cX8_cave 48 = .ok (.getfield 33, 3) := by decide +kernel
theorem dX8_cave_51 : decode cX8_cave 51 = .ok (.getfield 94, 3) := by decide +kernel
theorem dX8_cave_54 : decode cX8_cave 54 = .ok (.isub, 1) := by decide +kernel
theorem dX8_cave_55 : decode cX8_cave 55 = .ok (.ireturn, 1) := by decide +kernel
theorem dX8_cave_56 : decode cX8_cave 56 = .ok (.aload_n 0, 1) := by decide +kernel
theorem dX8_cave_57 : decode cX8_cave 57 = .ok (.getfield 23, 3) := by decide +kernel
theorem dX8_cave_60 : decode cX8_cave 60 = .ok (.astore_n 1, 1) := by decide +kernel
theorem dX8_cave_61 : decode cX8_cave 61 = .ok (.aload_n 0, 1) := by decide +kernel
theorem dX8_cave_62 : decode cX8_cave 62 = .ok (.aload_n 0, 1) := by decide +kernel
theorem dX8_cave_63 : decode cX8_cave 63 = .ok (.getfield 27, 3) := by decide +kernel
theorem dX8_cave_66 : decode cX8_cave 66 = .ok (.putfield 23, 3) := by decide +kernel
theorem dX8_cave_69 : decode cX8_cave 69 = .ok (.aload_n 0, 1) := by decide +kernel
theorem dX8_cave_70 : decode cX8_cave 70 = .ok (.aload_n 1, 1) := by decide +kernel
theorem dX8_cave_71 : decode cX8_cave 71 = .ok (.putfield 27, 3) := by decide +kernel
theorem dX8_cave_74 : decode cX8_cave 74 = .ok (.aload_n 0, 1) := by decide +kernel
theorem dX8_cave_75 : decode cX8_cave 75 = .ok (.getfield 47, 3) := by decide +kernel
theorem dX8_cave_78 : decode cX8_cave 78 = .ok (.aload_n 0, 1) := by decide +kernel
theorem dX8_cave_79 : decode cX8_cave 79 = .ok (.getfield 23, 3) := by decide +kernel
theorem dX8_cave_82 : decode cX8_cave 82 = .ok (.invokevirtual 97, 3) := by decide +kernel
theorem dX8_cave_85 : decode cX8_cave 85 = .ok (.aload_n 0, 1) := by decide +kernel
theorem dX8_cave_86 : decode cX8_cave 86 = .ok (.getfield 51, 3) := by decide +kernel
theorem dX8_cave_89 : decode cX8_cave 89 = .ok (.iconst 0, 1) := by decide +kernel
theorem dX8_cave_90 : decode cX8_cave 90 = .ok (.putfield 101, 3) := by decide +kernel
theorem dX8_cave_93 : decode cX8_cave 93 = .ok (.aload_n 0, 1) := by decide +kernel
theorem dX8_cave_94 : decode cX8_cave 94 = .ok (.getfield 54, 3) := by decide +kernel
theorem dX8_cave_97 : decode cX8_cave 97 = .ok (.iconst 0, 1) := by decide +kernel
theorem dX8_cave_98 : decode cX8_cave 98 = .ok (.putfield 101, 3) := by decide +kernel
theorem dX8_cave_101 : decode cX8_cave 101 = .ok (.aload_n 0, 1) := by decide +kernel
theorem dX8_cave_102 : decode cX8_cave 102 = .ok (.getfield 40, 3) := by decide +kernel
theorem dX8_cave_105 : decode cX8_cave 105 = .ok (.iconst 0, 1) := by decide +kernel
theorem dX8_cave_106 : decode cX8_cave 106 = .ok (.putfield 105, 3) := by decide +kernel
theorem dX8_cave_109 : decode cX8_cave 109 = .ok (.aload_n 0, 1) := by decide +kernel
theorem dX8_cave_110 : decode cX8_cave 110 = .ok (.getfield 74, 3) := by decide +kernel
theorem dX8_cave_113 : decode cX8_cave 113 = .ok (.iconst 0, 1) := by decide +kernel
theorem dX8_cave_114 : decode cX8_cave 114 = .ok (.putfield 108, 3) := by decide +kernel
theorem dX8_cave_117 : decode cX8_cave 117 = .ok (.aload_n 0, 1) := by decide +kernel
theorem dX8_cave_118 : decode cX8_cave 118 = .ok (.getfield 81, 3) := by decide +kernel
theorem dX8_cave_121 : decode cX8_cave 121 = .ok (.iconst 0, 1) := by decide +kernel
theorem dX8_cave_122 : decode cX8_cave 122 = .ok (.putfield 109, 3) := by decide +kernel
theorem dX8_cave_125 : decode cX8_cave 125 = .ok (.aload_n 0, 1) := by decide +kernel
theorem dX8_cave_126 : decode cX8_cave 126 = .ok (.getfield 23, 3) := by decide +kernel
theorem dX8_cave_129 : decode cX8_cave 129 = .ok (.getfield 110, 3) := by decide +kernel
theorem dX8_cave_132 : decode cX8_cave 132 = .ok (.ireturn, 1) := by decide +kernel
theorem dX8_fault_0 : decode cX8_fault 0 = .ok (.aload_n 0, 1) := by decide +kernel
theorem dX8_fault_1 : decode cX8_fault 1 = .ok (.getfield 17, 3) := by decide +kernel
theorem dX8_fault_4 : decode cX8_fault 4 = .ok (.ireturn, 1) := by decide +kernel
set_option maxRecDepth 20000 in
theorem ggX8_told_X2_downSet : GoodIn wsX8_told wsX2_downSet := goodIn_r _ [21, 22, 68, 69, 70, 71, 72, 73] (by decide +kernel) (by decide +kernel)
set_option maxRecDepth 20000 in
theorem gX8_told_X2_downSet : GoodIn wsX8_told (wsV RX8 128 RX2 yX2_downSet wsX2_downSet) := goodIn_app (goodIn_of _ (by decide +kernel)) ggX8_told_X2_downSet
set_option maxRecDepth 20000 in
theorem ggX8_told_X6_time : GoodIn wsX8_told wsX6_time := goodIn_r _ [27, 28, 29, 30, 31, 32, 33, 34, 35, 36, 37, 38, 39, 40, 74, 75, 55, 56, 57, 58, 59, 60, 61, 62, 63, 64, 65, 66, 67] (by decide +kernel) (by decide +kernel)
set_option maxRecDepth 20000 in
theorem gX8_told_X6_time : GoodIn wsX8_told (wsV RX8 132 RX6 yX6_time wsX6_time) := goodIn_app (goodIn_of _ (by decide +kernel)) ggX8_told_X6_time
theorem dX8_told_0 : decode cX8_told 0 = .ok (.iload_n 1, 1) := by decide +kernel
theorem dX8_told_1 : decode cX8_told 1 = .ok (.tableswitch 167 0 11 #[63, 71, 79, 87, 95, 103, 108, 116, 131, 139, 151, 159], 63) := by decide +kernel
theorem dX8_told_64 : decode cX8_told 64 = .ok (.aload_n 0, 1) := by decide +kernel
theorem dX8_told_65 : decode cX8_told 65 = .ok (.getfield 23, 3) := by decide +kernel
theorem dX8_told_68 : decode cX8_told 68 = .ok (.getfield 110, 3) := by decide +kernel
theorem dX8_told_71 : decode cX8_told 71 = .ok (.ireturn, 1) := by decide +kernel
theorem dX8_told_72 : decode cX8_told 72 = .ok (.aload_n 0, 1) := by decide +kernel
theorem dX8_told_73 : decode cX8_told 73 = .ok (.getfield 23, 3) := by decide +kernel
theorem dX8_told_76 : decode cX8_told 76 = .ok (.getfield 113, 3) := by decide +kernel
theorem dX8_told_79 : decode cX8_told 79 = .ok (.ireturn, 1) := by decide +kernel
theorem dX8_told_80 : decode cX8_told 80 = .ok (.aload_n 0, 1) := by decide +kernel
theorem dX8_told_81 : decode cX8_told 81 = .ok (.getfield 23, 3) := by decide +kernel
theorem dX8_told_84 : decode cX8_told 84 = .ok (.getfield 116, 3) := by decide +kernel
theorem dX8_told_87 : decode cX8_told 87 = .ok (.ireturn, 1) := by decide +kernel
theorem dX8_told_88 : decode cX8_told 88 = .ok (.aload_n 0, 1) := by decide +kernel
theorem dX8_told_89 : decode cX8_told 89 = .ok (.getfield 23, 3) := by decide +kernel
theorem dX8_told_92 : decode cX8_told 92 = .ok (.getfield 119, 3) := by decide +kernel
theorem dX8_told_95 : decode cX8_told 95 = .ok (.ireturn, 1) := by decide +kernel
theorem dX8_told_96 : decode cX8_told 96 = .ok (.aload_n 0, 1) := by decide +kernel
theorem dX8_told_97 : decode cX8_told 97 = .ok (.getfield 23, 3) := by decide +kernel
theorem dX8_told_100 : decode cX8_told 100 = .ok (.getfield 122, 3) := by decide +kernel
theorem dX8_told_103 : decode cX8_told 103 = .ok (.ireturn, 1) := by decide +kernel
theorem dX8_told_104 : decode cX8_told 104 = .ok (.aload_n 0, 1) := by decide +kernel
theorem dX8_told_105 : decode cX8_told 105 = .ok (.getfield 13, 3) := by decide +kernel
theorem dX8_told_108 : decode cX8_told 108 = .ok (.ireturn, 1) := by decide +kernel
theorem dX8_told_109 : decode cX8_told 109 = .ok (.aload_n 0, 1) := by decide +kernel
theorem dX8_told_110 : decode cX8_told 110 = .ok (.getfield 47, 3) := by decide +kernel
theorem dX8_told_113 : decode cX8_told 113 = .ok (.getfield 125, 3) := by decide +kernel
theorem dX8_told_116 : decode cX8_told 116 = .ok (.ireturn, 1) := by decide +kernel
theorem dX8_told_117 : decode cX8_told 117 = .ok (.aload_n 0, 1) := by decide +kernel
theorem dX8_told_118 : decode cX8_told 118 = .ok (.getfield 47, 3) := by decide +kernel
theorem dX8_told_121 : decode cX8_told 121 = .ok (.aload_n 0, 1) := by decide +kernel
theorem dX8_told_122 : decode cX8_told 122 = .ok (.getfield 23, 3) := by decide +kernel
theorem dX8_told_125 : decode cX8_told 125 = .ok (.getfield 116, 3) := by decide +kernel
theorem dX8_told_128 : decode cX8_told 128 = .ok (.invokevirtual 128, 3) := by decide +kernel
theorem dX8_told_131 : decode cX8_told 131 = .ok (.ireturn, 1) := by decide +kernel
theorem dX8_told_132 : decode cX8_told 132 = .ok (.aload_n 0, 1) := by decide +kernel
theorem dX8_told_133 : decode cX8_told 133 = .ok (.getfield 40, 3) := by decide +kernel
theorem dX8_told_136 : decode cX8_told 136 = .ok (.getfield 105, 3) := by decide +kernel
theorem dX8_told_139 : decode cX8_told 139 = .ok (.ireturn, 1) := by decide +kernel
theorem dX8_told_140 : decode cX8_told 140 = .ok (.aload_n 0, 1) := by decide +kernel
theorem dX8_told_141 : decode cX8_told 141 = .ok (.getfield 40, 3) := by decide +kernel
theorem dX8_told_144 : decode cX8_told 144 = .ok (.aload_n 0, 1) := by decide +kernel
theorem dX8_told_145 : decode cX8_told 145 = .ok (.getfield 23, 3) := by decide +kernel
theorem dX8_told_148 : decode cX8_told 148 = .ok (.invokevirtual 132, 3) := by decide +kernel
theorem dX8_told_151 : decode cX8_told 151 = .ok (.ireturn, 1) := by decide +kernel
theorem dX8_told_152 : decode cX8_told 152 = .ok (.aload_n 0, 1) := by decide +kernel
theorem dX8_told_153 : decode cX8_told 153 = .ok (.getfield 74, 3) := by decide +kernel
theorem dX8_told_156 : decode cX8_told 156 = .ok (.getfield 108, 3) := by decide +kernel
theorem dX8_told_159 : decode cX8_told 159 = .ok (.ireturn, 1) := by decide +kernel
theorem dX8_told_160 : decode cX8_told 160 = .ok (.aload_n 0, 1) := by decide +kernel
theorem dX8_told_161 : decode cX8_told 161 = .ok (.getfield 81, 3) := by decide +kernel
theorem dX8_told_164 : decode cX8_told 164 = .ok (.getfield 109, 3) := by decide +kernel
theorem dX8_told_167 : decode cX8_told 167 = .ok (.ireturn, 1) := by decide +kernel
theorem dX8_told_168 : decode cX8_told 168 = .ok (.ldc 85, 2) := by decide +kernel
theorem dX8_told_170 : decode cX8_told 170 = .ok (.ireturn, 1) := by decide +kernel
set_option maxRecDepth 20000 in
theorem ggX8_part_X0_hasPart : GoodIn wsX8_part wsX0_hasPart := goodIn_r _ [9, 10, 36, 37, 38, 39, 40, 41, 42, 43, 44, 45, 46, 47, 48] (by decide +kernel) (by decide +kernel)
set_option maxRecDepth 20000 in
theorem gX8_part_X0_hasPart : GoodIn wsX8_part (wsV RX8 136 RX0 yX0_hasPart wsX0_hasPart) := goodIn_app (goodIn_of _ (by decide +kernel)) ggX8_part_X0_hasPart
set_option maxRecDepth 20000 in
theorem ggX8_part_X0_rateOf : GoodIn wsX8_part wsX0_rateOf := goodIn_r _ [14, 15, 16, 6, 7, 8, 9, 10, 36, 37, 38, 39, 40, 41, 42, 43, 44, 45, 46, 47, 48] (by decide +kernel) (by decide +kernel)
set_option maxRecDepth 20000 in
theorem gX8_part_X0_rateOf : GoodIn wsX8_part (wsV RX8 141 RX0 yX0_rateOf wsX0_rateOf) := goodIn_app (goodIn_of _ (by decide +kernel)) ggX8_part_X0_rateOf
set_option maxRecDepth 20000 in
theorem ggX8_part_X0_alikeSet : GoodIn wsX8_part wsX0_alikeSet := goodIn_r _ [20, 15, 16, 6, 7, 8, 9, 10, 21, 12, 13, 14, 36, 37, 38, 39, 40, 41, 42, 43, 44, 45, 46, 47, 48] (by decide +kernel) (by decide +kernel)
set_option maxRecDepth 20000 in
theorem gX8_part_X0_alikeSet : GoodIn wsX8_part (wsV RX8 148 RX0 yX0_alikeSet wsX0_alikeSet) := goodIn_app (goodIn_of _ (by decide +kernel)) ggX8_part_X0_alikeSet
theorem dX8_part_0 : decode cX8_part 0 = .ok (.aload_n 0, 1) := by decide +kernel
theorem dX8_part_1 : decode cX8_part 1 = .ok (.getfield 23, 3) := by decide +kernel
theorem dX8_part_4 : decode cX8_part 4 = .ok (.iload_n 1, 1) := by decide +kernel
theorem dX8_part_5 : decode cX8_part 5 = .ok (.invokevirtual 136, 3) := by decide +kernel
theorem dX8_part_8 : decode cX8_part 8 = .ok (.ifCond .ne 6, 3) := by decide +kernel
theorem dX8_part_11 : decode cX8_part 11 = .ok (.ldc 140, 2) := by decide +kernel
theorem dX8_part_13 : decode cX8_part 13 = .ok (.ireturn, 1) := by decide +kernel
theorem dX8_part_14 : decode cX8_part 14 = .ok (.iload_n 2, 1) := by decide +kernel
theorem dX8_part_15 : decode cX8_part 15 = .ok (.tableswitch 53 0 2 #[25, 34, 44], 25) := by decide +kernel
theorem dX8_part_40 : decode cX8_part 40 = .ok (.aload_n 0, 1) := by decide +kernel
theorem dX8_part_41 : decode cX8_part 41 = .ok (.getfield 23, 3) := by decide +kernel
theorem dX8_part_44 : decode cX8_part 44 = .ok (.iload_n 1, 1) := by decide +kernel
theorem dX8_part_45 : decode cX8_part 45 = .ok (.invokevirtual 141, 3) := by decide +kernel
theorem dX8_part_48 : decode cX8_part 48 = .ok (.ireturn, 1) := by decide +kernel
theorem dX8_part_49 : decode cX8_part 49 = .ok (.aload_n 0, 1) := by decide +kernel
theorem dX8_part_50 : decode cX8_part 50 = .ok (.getfield 23, 3) := by decide +kernel
theorem dX8_part_53 : decode cX8_part 53 = .ok (.getfield 144, 3) := by decide +kernel
theorem dX8_part_56 : decode cX8_part 56 = .ok (.iload_n 1, 1) := by decide +kernel
theorem dX8_part_57 : decode cX8_part 57 = .ok (.iaload, 1) := by decide +kernel
theorem dX8_part_58 : decode cX8_part 58 = .ok (.ireturn, 1) := by decide +kernel
theorem dX8_part_59 : decode cX8_part 59 = .ok (.aload_n 0, 1) := by decide +kernel
theorem dX8_part_60 : decode cX8_part 60 = .ok (.getfield 23, 3) := by decide +kernel
theorem dX8_part_63 : decode cX8_part 63 = .ok (.iload_n 1, 1) := by decide +kernel
theorem dX8_part_64 : decode cX8_part 64 = .ok (.invokevirtual 148, 3) := by decide +kernel
theorem dX8_part_67 : decode cX8_part 67 = .ok (.ireturn, 1) := by decide +kernel
theorem dX8_part_68 : decode cX8_part 68 = .ok (.ldc 85, 2) := by decide +kernel
theorem dX8_part_70 : decode cX8_part 70 = .ok (.ireturn, 1) := by decide +kernel
set_option maxRecDepth 20000 in
theorem ggX8_person_X0_hasPerson : GoodIn wsX8_person wsX0_hasPerson := goodIn_r _ [12, 13, 34, 35, 36, 37, 38, 39, 40, 41, 42, 43, 44, 45, 46] (by decide +kernel) (by decide +kernel)
set_option maxRecDepth 20000 in
theorem gX8_person_X0_hasPerson : GoodIn wsX8_person (wsV RX8 151 RX0 yX0_hasPerson wsX0_hasPerson) := goodIn_app (goodIn_of _ (by decide +kernel)) ggX8_person_X0_hasPerson
theorem dX8_person_0 : decode cX8_person 0 = .ok (.aload_n 0, 1) := by decide +kernel
theorem dX8_person_1 : decode cX8_person 1 = .ok (.getfield 23, 3) := by decide +kernel
theorem dX8_person_4 : decode cX8_person 4 = .ok (.iload_n 1, 1) := by decide +kernel
theorem dX8_person_5 : decode cX8_person 5 = .ok (.invokevirtual 151, 3) := by decide +kernel
theorem dX8_person_8 : decode cX8_person 8 = .ok (.ifCond .ne 6, 3) := by decide +kernel
theorem dX8_person_11 : decode cX8_person 11 = .ok (.ldc 140, 2) := by decide +kernel
theorem dX8_person_13 : decode cX8_person 13 = .ok (.ireturn, 1) := by decide +kernel
theorem dX8_person_14 : decode cX8_person 14 = .ok (.iload_n 2, 1) := by decide +kernel
theorem dX8_person_15 : decode cX8_person 15 = .ok (.tableswitch 55 0 2 #[25, 35, 45], 25) := by decide +kernel
theorem dX8_person_40 : decode cX8_person 40 = .ok (.aload_n 0, 1) := by decide +kernel
theorem dX8_person_41 : decode cX8_person 41 = .ok (.getfield 47, 3) := by decide +kernel
theorem dX8_person_44 : decode cX8_person 44 = .ok (.getfield 154, 3) := by decide +kernel
theorem dX8_person_47 : decode cX8_person 47 = .ok (.iload_n 1, 1) := by decide +kernel
theorem dX8_person_48 : decode cX8_person 48 = .ok (.iaload, 1) := by decide +kernel
theorem dX8_person_49 : decode cX8_person 49 = .ok (.ireturn, 1) := by decide +kernel
theorem dX8_person_50 : decode cX8_person 50 = .ok (.aload_n 0, 1) := by decide +kernel
theorem dX8_person_51 : decode cX8_person 51 = .ok (.getfield 47, 3) := by decide +kernel
theorem dX8_person_54 : decode cX8_person 54 = .ok (.getfield 157, 3) := by decide +kernel
theorem dX8_person_57 : decode cX8_person 57 = .ok (.iload_n 1, 1) := by decide +kernel
theorem dX8_person_58 : decode cX8_person 58 = .ok (.iaload, 1) := by decide +kernel
theorem dX8_person_59 : decode cX8_person 59 = .ok (.ireturn, 1) := by decide +kernel
theorem dX8_person_60 : decode cX8_person 60 = .ok (.aload_n 0, 1) := by decide +kernel
theorem dX8_person_61 : decode cX8_person 61 = .ok (.getfield 47, 3) := by decide +kernel
theorem dX8_person_64 : decode cX8_person 64 = .ok (.getfield 160, 3) := by decide +kernel
theorem dX8_person_67 : decode cX8_person 67 = .ok (.iload_n 1, 1) := by decide +kernel
theorem dX8_person_68 : decode cX8_person 68 = .ok (.iaload, 1) := by decide +kernel
theorem dX8_person_69 : decode cX8_person 69 = .ok (.ireturn, 1) := by decide +kernel
theorem dX8_person_70 : decode cX8_person 70 = .ok (.ldc 85, 2) := by decide +kernel
theorem dX8_person_72 : decode cX8_person 72 = .ok (.ireturn, 1) := by decide +kernel
set_option maxRecDepth 20000 in
theorem ggX8_spend_X0_hasPart : GoodIn wsX8_spend wsX0_hasPart := goodIn_r _ [8, 9, 32, 33, 34, 35, 36, 37, 38, 39, 40, 41, 42, 43, 44] (by decide +kernel) (by decide +kernel)
set_option maxRecDepth 20000 in
theorem gX8_spend_X0_hasPart : GoodIn wsX8_spend (wsV RX8 136 RX0 yX0_hasPart wsX0_hasPart) := goodIn_app (goodIn_of _ (by decide +kernel)) ggX8_spend_X0_hasPart
set_option maxRecDepth 20000 in
theorem ggX8_spend_X6_addDay : GoodIn wsX8_spend wsX6_addDay := goodIn_r _ [14, 15, 16, 17, 45, 46] (by decide +kernel) (by decide +kernel)
set_option maxRecDepth 20000 in
theorem gX8_spend_X6_addDay : GoodIn wsX8_spend (wsV RX8 163 RX6 yX6_addDay wsX6_addDay) := goodIn_app (goodIn_of _ (by decide +kernel)) ggX8_spend_X6_addDay
theorem dX8_spend_0 : decode cX8_spend 0 = .ok (.aload_n 0, 1) := by decide +kernel
theorem dX8_spend_1 : decode cX8_spend 1 = .ok (.getfield 23, 3) := by decide +kernel
theorem dX8_spend_4 : decode cX8_spend 4 = .ok (.iload_n 1, 1) := by decide +kernel
theorem dX8_spend_5 : decode cX8_spend 5 = .ok (.invokevirtual 136, 3) := by decide +kernel
theorem dX8_spend_8 : decode cX8_spend 8 = .ok (.ifCond .ne 6, 3) := by decide +kernel
theorem dX8_spend_11 : decode cX8_spend 11 = .ok (.ldc 140, 2) := by decide +kernel
theorem dX8_spend_13 : decode cX8_spend 13 = .ok (.ireturn, 1) := by decide +kernel
theorem dX8_spend_14 : decode cX8_spend 14 = .ok (.aload_n 0, 1) := by decide +kernel
theorem dX8_spend_15 : decode cX8_spend 15 = .ok (.getfield 40, 3) := by decide +kernel
theorem dX8_spend_18 : decode cX8_spend 18 = .ok (.iload_n 1, 1) := by decide +kernel
theorem dX8_spend_19 : decode cX8_spend 19 = .ok (.invokevirtual 163, 3) := by decide +kernel
theorem dX8_spend_22 : decode cX8_spend 22 = .ok (.ireturn, 1) := by decide +kernel
theorem dX8_forget_0 : decode cX8_forget 0 = .ok (.aload_n 0, 1) := by decide +kernel
theorem dX8_forget_1 : decode cX8_forget 1 = .ok (.getfield 40, 3) := by decide +kernel
theorem dX8_forget_4 : decode cX8_forget 4 = .ok (.getfield 105, 3) := by decide +kernel
theorem dX8_forget_7 : decode cX8_forget 7 = .ok (.istore_n 1, 1) := by decide +kernel
theorem dX8_forget_8 : decode cX8_forget 8 = .ok (.aload_n 0, 1) := by decide +kernel
theorem dX8_forget_9 : decode cX8_forget 9 = .ok (.getfield 40, 3) := by decide +kernel
theorem dX8_forget_12 : decode cX8_forget 12 = .ok (.iconst 0, 1) := by decide +kernel
theorem dX8_forget_13 : decode cX8_forget 13 = .ok (.putfield 105, 3) := by decide +kernel
theorem dX8_forget_16 : decode cX8_forget 16 = .ok (.iload_n 1, 1) := by decide +kernel
theorem dX8_forget_17 : decode cX8_forget 17 = .ok (.ireturn, 1) := by decide +kernel
set_option maxRecDepth 20000 in
theorem ggX8_judge_X6_wrongDay : GoodIn wsX8_judge wsX6_wrongDay := goodIn_r _ [7, 8, 9, 10, 11, 12, 13, 14, 15, 16, 17, 18, 19, 20, 21, 22, 23, 24, 25, 26, 27, 28, 29, 44, 45, 46, 47, 48, 49, 50, 51, 52, 53, 54, 55, 56, 57, 58] (by decide +kernel) (by decide +kernel)
set_option maxRecDepth 20000 in
theorem gX8_judge_X6_wrongDay : GoodIn wsX8_judge (wsV RX8 166 RX6 yX6_wrongDay wsX6_wrongDay) := goodIn_app (goodIn_of _ (by decide +kernel)) ggX8_judge_X6_wrongDay
theorem dX8_judge_0 : decode cX8_judge 0 = .ok (.aload_n 0, 1) := by decide +kernel
theorem dX8_judge_1 : decode cX8_judge 1 = .ok (.getfield 40, 3) := by decide +kernel
theorem dX8_judge_4 : decode cX8_judge 4 = .ok (.aload_n 0, 1) := by decide +kernel
theorem dX8_judge_5 : decode cX8_judge 5 = .ok (.getfield 23, 3) := by decide +kernel
theorem dX8_judge_8 : decode cX8_judge 8 = .ok (.invokevirtual 166, 3) := by decide +kernel
theorem dX8_judge_11 : decode cX8_judge 11 = .ok (.ireturn, 1) := by decide +kernel
set_option maxRecDepth 20000 in
theorem ggX8_enter_X0_hasPerson : GoodIn wsX8_enter wsX0_hasPerson := goodIn_r _ [12, 13, 86, 87, 88, 89, 90, 91, 92, 93, 94, 95, 96, 97, 98] (by decide +kernel) (by decide +kernel)
set_option maxRecDepth 20000 in
theorem gX8_enter_X0_hasPerson : GoodIn wsX8_enter (wsV RX8 151 RX0 yX0_hasPerson wsX0_hasPerson) := goodIn_app (goodIn_of _ (by decide +kernel)) ggX8_enter_X0_hasPerson
set_option maxRecDepth 20000 in
theorem ggX8_enter_X2_isUp : GoodIn wsX8_enter wsX2_isUp := goodIn_r _ [18, 19, 20, 21, 17, 22, 80, 81, 82, 83, 84, 85] (by decide +kernel) (by decide +kernel)
set_option maxRecDepth 20000 in
theorem gX8_enter_X2_isUp : GoodIn wsX8_enter (wsV RX8 169 RX2 yX2_isUp wsX2_isUp) := goodIn_app (goodIn_of _ (by decide +kernel)) ggX8_enter_X2_isUp
set_option maxRecDepth 20000 in
theorem ggX8_enter_X6_wrongDay : GoodIn wsX8_enter wsX6_wrongDay := goodIn_r _ [27, 28, 29, 30, 31, 32, 11, 33, 34, 35, 36, 37, 38, 39, 40, 41, 42, 43, 44, 45, 46, 47, 48, 78, 79, 86, 87, 88, 89, 90, 91, 92, 93, 94, 95, 96, 97, 98] (by decide +kernel) (by decide +kernel)
set_option maxRecDepth 20000 in
theorem gX8_enter_X6_wrongDay : GoodIn wsX8_enter (wsV RX8 166 RX6 yX6_wrongDay wsX6_wrongDay) := goodIn_app (goodIn_of _ (by decide +kernel)) ggX8_enter_X6_wrongDay
set_option maxRecDepth 20000 in
theorem ggX8_enter_X6_time : GoodIn wsX8_enter wsX6_time := goodIn_r _ [52, 28, 29, 53, 54, 55, 11, 56, 57, 35, 36, 37, 38, 39, 78, 79, 86, 87, 88, 89, 90, 91, 92, 93, 94, 95, 96, 97, 98] (by decide +kernel) (by decide +kernel)
set_option maxRecDepth 20000 in
theorem gX8_enter_X6_time : GoodIn wsX8_enter (wsV RX8 132 RX6 yX6_time wsX6_time) := goodIn_app (goodIn_of _ (by decide +kernel)) ggX8_enter_X6_time
set_option maxRecDepth 20000 in
theorem ggX8_enter_X2_goIn : GoodIn wsX8_enter wsX2_goIn := goodIn_r _ [61, 62, 19, 63, 20, 21, 17, 22, 80, 81, 82, 83, 84, 85] (by decide +kernel) (by decide +kernel)
set_option maxRecDepth 20000 in
theorem gX8_enter_X2_goIn : GoodIn wsX8_enter (wsV RX8 173 RX2 yX2_goIn wsX2_goIn) := goodIn_app (goodIn_of _ (by decide +kernel)) ggX8_enter_X2_goIn
theorem dX8_enter_0 : decode cX8_enter 0 = .ok (.aload_n 0, 1) := by decide +kernel
theorem dX8_enter_1 : decode cX8_enter 1 = .ok (.getfield 23, 3) := by decide +kernel
theorem dX8_enter_4 : decode cX8_enter 4 = .ok (.iload_n 1, 1) := by decide +kernel
theorem dX8_enter_5 : decode cX8_enter 5 = .ok (.invokevirtual 151, 3) := by decide +kernel
theorem dX8_enter_8 : decode cX8_enter 8 = .ok (.ifCond .ne 6, 3) := by decide +kernel
theorem dX8_enter_11 : decode cX8_enter 11 = .ok (.ldc 140, 2) := by decide +kernel
theorem dX8_enter_13 : decode cX8_enter 13 = .ok (.ireturn, 1) := by decide +kernel
theorem dX8_enter_14 : decode cX8_enter 14 = .ok (.aload_n 0, 1) := by decide +kernel
theorem dX8_enter_15 : decode cX8_enter 15 = .ok (.getfield 47, 3) := by decide +kernel
theorem dX8_enter_18 : decode cX8_enter 18 = .ok (.iload_n 1, 1) := by decide +kernel
theorem dX8_enter_19 : decode cX8_enter 19 = .ok (.invokevirtual 169, 3) := by decide +kernel
theorem dX8_enter_22 : decode cX8_enter 22 = .ok (.ifCond .eq 28, 3) := by decide +kernel
theorem dX8_enter_25 : decode cX8_enter 25 = .ok (.aload_n 0, 1) := by decide +kernel
theorem dX8_enter_26 : decode cX8_enter 26 = .ok (.getfield 40, 3) := by decide +kernel
theorem dX8_enter_29 : decode cX8_enter 29 = .ok (.getfield 105, 3) := by decide +kernel
theorem dX8_enter_32 : decode cX8_enter 32 = .ok (.ifCond .eq 18, 3) := by decide +kernel
theorem dX8_enter_35 : decode cX8_enter 35 = .ok (.aload_n 0, 1) := by decide +kernel
theorem dX8_enter_36 : decode cX8_enter 36 = .ok (.getfield 40, 3) := by decide +kernel
theorem dX8_enter_39 : decode cX8_enter 39 = .ok (.aload_n 0, 1) := by decide +kernel
theorem dX8_enter_40 : decode cX8_enter 40 = .ok (.getfield 23, 3) := by decide +kernel
theorem dX8_enter_43 : decode cX8_enter 43 = .ok (.invokevirtual 166, 3) := by decide +kernel
theorem dX8_enter_46 : decode cX8_enter 46 = .ok (.iconst (-1), 1) := by decide +kernel
theorem dX8_enter_47 : decode cX8_enter 47 = .ok (.if_icmp .eq 6, 3) := by decide +kernel
theorem dX8_enter_50 : decode cX8_enter 50 = .ok (.ldc 172, 2) := by decide +kernel
theorem dX8_enter_52 : decode cX8_enter 52 = .ok (.ireturn, 1) := by decide +kernel
theorem dX8_enter_53 : decode cX8_enter 53 = .ok (.aload_n 0, 1) := by decide +kernel
theorem dX8_enter_54 : decode cX8_enter 54 = .ok (.getfield 47, 3) := by decide +kernel
theorem dX8_enter_57 : decode cX8_enter 57 = .ok (.iload_n 1, 1) := by decide +kernel
theorem dX8_enter_58 : decode cX8_enter 58 = .ok (.aload_n 0, 1) := by decide +kernel
theorem dX8_enter_59 : decode cX8_enter 59 = .ok (.getfield 40, 3) := by decide +kernel
theorem dX8_enter_62 : decode cX8_enter 62 = .ok (.getfield 105, 3) := by decide +kernel
theorem dX8_enter_65 : decode cX8_enter 65 = .ok (.aload_n 0, 1) := by decide +kernel
theorem dX8_enter_66 : decode cX8_enter 66 = .ok (.getfield 40, 3) := by decide +kernel
theorem dX8_enter_69 : decode cX8_enter 69 = .ok (.aload_n 0, 1) := by decide +kernel
theorem dX8_enter_70 : decode cX8_enter 70 = .ok (.getfield 23, 3) := by decide +kernel
theorem dX8_enter_73 : decode cX8_enter 73 = .ok (.invokevirtual 132, 3) := by decide +kernel
theorem dX8_enter_76 : decode cX8_enter 76 = .ok (.invokevirtual 173, 3) := by decide +kernel
theorem dX8_enter_79 : decode cX8_enter 79 = .ok (.aload_n 0, 1) := by decide +kernel
theorem dX8_enter_80 : decode cX8_enter 80 = .ok (.getfield 47, 3) := by decide +kernel
theorem dX8_enter_83 : decode cX8_enter 83 = .ok (.getfield 160, 3) := by decide +kernel
theorem dX8_enter_86 : decode cX8_enter 86 = .ok (.iload_n 1, 1) := by decide +kernel
theorem dX8_enter_87 : decode cX8_enter 87 = .ok (.iaload, 1) := by decide +kernel
theorem dX8_enter_88 : decode cX8_enter 88 = .ok (.ireturn, 1) := by decide +kernel
set_option maxRecDepth 20000 in
theorem ggX8_pass_X2_letPass : GoodIn wsX8_pass wsX2_letPass := goodIn_r _ [11, 12, 13, 14, 15, 16, 17, 18, 19, 20, 10, 21, 22, 23, 24, 25, 26, 27, 28, 29, 30, 31, 32, 33, 34, 35, 36, 37, 38, 39, 40, 55, 56, 57, 58, 59, 60, 61, 62, 63, 64, 65, 66, 67, 68, 69, 70, 71, 72, 73] (by decide +kernel) (by decide +kernel)
set_option maxRecDepth 20000 in
theorem gX8_pass_X2_letPass : GoodIn wsX8_pass (wsV RX8 178 RX2 yX2_letPass wsX2_letPass) := goodIn_app (goodIn_of _ (by decide +kernel)) ggX8_pass_X2_letPass
theorem dX8_pass_0 : decode cX8_pass 0 = .ok (.iload_n 1, 1) := by decide +kernel
theorem dX8_pass_1 : decode cX8_pass 1 = .ok (.iconst 1, 1) := by decide +kernel
theorem dX8_pass_2 : decode cX8_pass 2 = .ok (.if_icmp .lt 10, 3) := by decide +kernel
theorem dX8_pass_5 : decode cX8_pass 5 = .ok (.iload_n 1, 1) := by decide +kernel
theorem dX8_pass_6 : decode cX8_pass 6 = .ok (.sipush 9999, 3) := by decide +kernel
theorem dX8_pass_9 : decode cX8_pass 9 = .ok (.if_icmp .le 6, 3) := by decide +kernel
theorem dX8_pass_12 : decode cX8_pass 12 = .ok (.ldc 85, 2) := by decide +kernel
theorem dX8_pass_14 : decode cX8_pass 14 = .ok (.ireturn, 1) := by decide +kernel
theorem dX8_pass_15 : decode cX8_pass 15 = .ok (.aload_n 0, 1) := by decide +kernel
theorem dX8_pass_16 : decode cX8_pass 16 = .ok (.getfield 47, 3) := by decide +kernel
theorem dX8_pass_19 : decode cX8_pass 19 = .ok (.getfield 125, 3) := by decide +kernel
theorem dX8_pass_22 : decode cX8_pass 22 = .ok (.iload_n 1, 1) := by decide +kernel
theorem dX8_pass_23 : decode cX8_pass 23 = .ok (.iadd, 1) := by decide +kernel
theorem dX8_pass_24 : decode cX8_pass 24 = .ok (.ldc 177, 2) := by decide +kernel
theorem dX8_pass_26 : decode cX8_pass 26 = .ok (.if_icmp .le 6, 3) := by decide +kernel
theorem dX8_pass_29 : decode cX8_pass 29 = .ok (.ldc 86, 2) := by decide +kernel
theorem dX8_pass_31 : decode cX8_pass 31 = .ok (.ireturn, 1) := by decide +kernel
theorem dX8_pass_32 : decode cX8_pass 32 = .ok (.aload_n 0, 1) := by decide +kernel
theorem dX8_pass_33 : decode cX8_pass 33 = .ok (.getfield 47, 3) := by decide +kernel
theorem dX8_pass_36 : decode cX8_pass 36 = .ok (.iload_n 1, 1) := by decide +kernel
theorem dX8_pass_37 : decode cX8_pass 37 = .ok (.aload_n 0, 1) := by decide +kernel
theorem dX8_pass_38 : decode cX8_pass 38 = .ok (.getfield 23, 3) := by decide +kernel
theorem dX8_pass_41 : decode cX8_pass 41 = .ok (.invokevirtual 178, 3) := by decide +kernel
theorem dX8_pass_44 : decode cX8_pass 44 = .ok (.aload_n 0, 1) := by decide +kernel
theorem dX8_pass_45 : decode cX8_pass 45 = .ok (.getfield 47, 3) := by decide +kernel
theorem dX8_pass_48 : decode cX8_pass 48 = .ok (.getfield 125, 3) := by decide +kernel
theorem dX8_pass_51 : decode cX8_pass 51 = .ok (.ireturn, 1) := by decide +kernel
set_option maxRecDepth 20000 in
theorem ggX8_drift_X2_driftOnce : GoodIn wsX8_drift wsX2_driftOnce := goodIn_r _ [14, 15, 16, 17, 18, 19, 13, 20, 21, 22, 23, 24, 25, 26, 27, 28, 29, 30, 31, 32, 33, 34, 35, 36, 37, 38, 39, 40, 41, 42, 43, 44, 45, 46, 47, 48, 49, 50, 51, 52, 53, 54, 55, 56, 57, 58, 59, 60, 61, 62, 63, 64, 65, 66, 67, 68, 69, 70, 71, 72, 73, 74, 75, 76, 77, 78, 79, 80, 81, 96, 97, 98, 99, 100, 101, 102, 103, 104, 105, 106, 107, 108, 109, 110, 111, 112, 113, 114] (by decide +kernel) (by decide +kernel)
set_option maxRecDepth 20000 in
theorem gX8_drift_X2_driftOnce : GoodIn wsX8_drift (wsV RX8 183 RX2 yX2_driftOnce wsX2_driftOnce) := goodIn_app (goodIn_of _ (by decide +kernel)) ggX8_drift_X2_driftOnce
theorem dX8_drift_0 : decode cX8_drift 0 = .ok (.iload_n 1, 1) := by decide +kernel
theorem dX8_drift_1 : decode cX8_drift 1 = .ok (.iconst 1, 1) := by decide +kernel
theorem dX8_drift_2 : decode cX8_drift 2 = .ok (.if_icmp .lt 9, 3) := by decide +kernel
theorem dX8_drift_5 : decode cX8_drift 5 = .ok (.iload_n 1, 1) := by decide +kernel
theorem dX8_drift_6 : decode cX8_drift 6 = .ok (.bipush 99, 2) := by decide +kernel
theorem dX8_drift_8 : decode cX8_drift 8 = .ok (.if_icmp .le 6, 3) := by decide +kernel
theorem dX8_drift_11 : decode cX8_drift 11 = .ok (.ldc 85, 2) := by decide +kernel
theorem dX8_drift_13 : decode cX8_drift 13 = .ok (.ireturn, 1) := by decide +kernel
theorem dX8_drift_14 : decode cX8_drift 14 = .ok (.aload_n 0, 1) := by decide +kernel
theorem dX8_drift_15 : decode cX8_drift 15 = .ok (.getfield 23, 3) := by decide +kernel
theorem dX8_drift_18 : decode cX8_drift 18 = .ok (.getfield 110, 3) := by decide +kernel
theorem dX8_drift_21 : decode cX8_drift 21 = .ok (.ifCond .eq 13, 3) := by decide +kernel
theorem dX8_drift_24 : decode cX8_drift 24 = .ok (.aload_n 0, 1) := by decide +kernel
theorem dX8_drift_25 : decode cX8_drift 25 = .ok (.getfield 23, 3) := by decide +kernel
theorem dX8_drift_28 : decode cX8_drift 28 = .ok (.getfield 116, 3) := by decide +kernel
theorem dX8_drift_31 : decode cX8_drift 31 = .ok (.ifCond .ne 6, 3) := by decide +kernel
theorem dX8_drift_34 : decode cX8_drift 34 = .ok (.ldc 172, 2) := by decide +kernel
theorem dX8_drift_36 : decode cX8_drift 36 = .ok (.ireturn, 1) := by decide +kernel
theorem dX8_drift_37 : decode cX8_drift 37 = .ok (.aload_n 0, 1) := by decide +kernel
theorem dX8_drift_38 : decode cX8_drift 38 = .ok (.getfield 47, 3) := by decide +kernel
theorem dX8_drift_41 : decode cX8_drift 41 = .ok (.getfield 125, 3) := by decide +kernel
theorem dX8_drift_44 : decode cX8_drift 44 = .ok (.ldc 182, 2) := by decide +kernel
theorem dX8_drift_46 : decode cX8_drift 46 = .ok (.if_icmp .le 6, 3) := by decide +kernel
theorem dX8_drift_49 : decode cX8_drift 49 = .ok (.ldc 86, 2) := by decide +kernel
theorem dX8_drift_51 : decode cX8_drift 51 = .ok (.ireturn, 1) := by decide +kernel
theorem dX8_drift_52 : decode cX8_drift 52 = .ok (.iconst 0, 1) := by decide +kernel
theorem dX8_drift_53 : decode cX8_drift 53 = .ok (.istore_n 2, 1) := by decide +kernel
theorem dX8_drift_54 : decode cX8_drift 54 = .ok (.iload_n 2, 1) := by decide +kernel
theorem dX8_drift_55 : decode cX8_drift 55 = .ok (.iload_n 1, 1) := by decide +kernel
theorem dX8_drift_56 : decode cX8_drift 56 = .ok (.if_icmp .ge 20, 3) := by decide +kernel
theorem dX8_drift_59 : decode cX8_drift 59 = .ok (.aload_n 0, 1) := by decide +kernel
theorem dX8_drift_60 : decode cX8_drift 60 = .ok (.getfield 47, 3) := by decide +kernel
theorem dX8_drift_63 : decode cX8_drift 63 = .ok (.aload_n 0, 1) := by decide +kernel
theorem dX8_drift_64 : decode cX8_drift 64 = .ok (.getfield 23, 3) := by decide +kernel
theorem dX8_drift_67 : decode cX8_drift 67 = .ok (.invokevirtual 183, 3) := by decide +kernel
theorem dX8_drift_70 : decode cX8_drift 70 = .ok (.iinc 2 1, 3) := by decide +kernel
theorem dX8_drift_73 : decode cX8_drift 73 = .ok (.goto (-19), 3) := by decide +kernel
theorem dX8_drift_76 : decode cX8_drift 76 = .ok (.aload_n 0, 1) := by decide +kernel
theorem dX8_drift_77 : decode cX8_drift 77 = .ok (.getfield 47, 3) := by decide +kernel
theorem dX8_drift_80 : decode cX8_drift 80 = .ok (.getfield 125, 3) := by decide +kernel
theorem dX8_drift_83 : decode cX8_drift 83 = .ok (.ireturn, 1) := by decide +kernel
set_option maxRecDepth 20000 in
theorem ggX8_just_X0_hasMouth : GoodIn wsX8_just wsX0_hasMouth := goodIn_r _ [10, 11, 12, 13, 14, 9, 15, 16, 121, 122, 123, 124, 125, 126, 127, 128, 129, 130, 131, 132, 133] (by decide +kernel) (by decide +kernel)
set_option maxRecDepth 20000 in
theorem gX8_just_X0_hasMouth : GoodIn wsX8_just (wsV RX8 186 RX0 yX0_hasMouth wsX0_hasMouth) := goodIn_app (goodIn_of _ (by decide +kernel)) ggX8_just_X0_hasMouth
set_option maxRecDepth 20000 in
theorem ggX8_just_X5_daysReaching : GoodIn wsX8_just wsX5_daysReaching := goodIn_r _ [21, 22, 23, 24, 25, 26, 27, 28, 20, 29, 30, 13, 14, 9, 15, 16, 31, 32, 33, 34, 35, 36, 37, 38, 39, 40, 41, 42, 43, 44, 45, 46, 12, 47, 48, 49, 50, 51, 52, 53, 54, 55, 56, 57, 58, 59, 60, 61, 62, 63, 64, 121, 122, 123, 124, 125, 126, 127, 128, 129, 130, 131, 132, 133, 134, 135] (by decide +kernel) (by decide +kernel)
set_option maxRecDepth 20000 in
theorem gX8_just_X5_daysReaching : GoodIn wsX8_just (wsV RX8 189 RX5 yX5_daysReaching wsX5_daysReaching) := goodIn_app (goodIn_of _ (by decide +kernel)) ggX8_just_X5_daysReaching
set_option maxRecDepth 20000 in
theorem ggX8_just_X1_daysMaking : GoodIn wsX8_just wsX1_daysMaking := goodIn_r _ [69, 70, 39, 24, 40, 71, 13, 14, 9, 15, 16, 72, 73, 74, 68, 75, 76, 77, 78, 44, 45, 46, 12, 47, 48, 49, 50, 51, 79, 80, 81, 82, 61, 62, 63, 64, 83, 84, 85, 86, 87, 88, 89, 90, 121, 122, 123, 124, 125, 126, 127, 128, 129, 130, 131, 132, 133, 136, 137] (by decide +kernel) (by decide +kernel)
set_option maxRecDepth 20000 in
theorem gX8_just_X1_daysMaking : GoodIn wsX8_just (wsV RX8 193 RX1 yX1_daysMaking wsX1_daysMaking) := goodIn_app (goodIn_of _ (by decide +kernel)) ggX8_just_X1_daysMaking
set_option maxRecDepth 20000 in
theorem ggX8_just_X5_partOfDay : GoodIn wsX8_just wsX5_partOfDay := goodIn_r _ [94, 60, 61, 62, 9, 63, 64, 12, 13, 14, 15, 16, 95, 96, 97, 20, 98, 22, 23, 24, 25, 43, 44, 45, 46, 47, 48, 49, 50, 51, 52, 53, 54, 55, 42, 31, 32, 33, 121, 122, 123, 124, 125, 126, 127, 128, 129, 130, 131, 132, 133, 134, 135] (by decide +kernel) (by decide +kernel)
set_option maxRecDepth 20000 in
theorem gX8_just_X5_partOfDay : GoodIn wsX8_just (wsV RX8 196 RX5 yX5_partOfDay wsX5_partOfDay) := goodIn_app (goodIn_of _ (by decide +kernel)) ggX8_just_X5_partOfDay
set_option maxRecDepth 20000 in
theorem ggX8_just_X1_partOfDay : GoodIn wsX8_just wsX1_partOfDay := goodIn_r _ [102, 82, 61, 62, 9, 63, 64, 12, 13, 14, 15, 16, 103, 104, 105, 68, 106, 78, 44, 45, 46, 47, 48, 49, 50, 51, 87, 88, 89, 90, 77, 79, 80, 81, 121, 122, 123, 124, 125, 126, 127, 128, 129, 130, 131, 132, 133, 136, 137] (by decide +kernel) (by decide +kernel)
set_option maxRecDepth 20000 in
theorem gX8_just_X1_partOfDay : GoodIn wsX8_just (wsV RX8 200 RX1 yX1_partOfDay wsX1_partOfDay) := goodIn_app (goodIn_of _ (by decide +kernel)) ggX8_just_X1_partOfDay
theorem dX8_just_0 : decode cX8_just 0 = .ok (.aload_n 0, 1) := by decide +kernel
theorem dX8_just_1 : decode cX8_just 1 = .ok (.getfield 23, 3) := by decide +kernel
theorem dX8_just_4 : decode cX8_just 4 = .ok (.iload_n 1, 1) := by decide +kernel
theorem dX8_just_5 : decode cX8_just 5 = .ok (.invokevirtual 186, 3) := by decide +kernel
theorem dX8_just_8 : decode cX8_just 8 = .ok (.ifCond .eq 14, 3) := by decide +kernel
theorem dX8_just_11 : decode cX8_just 11 = .ok (.aload_n 0, 1) := by decide +kernel
theorem dX8_just_12 : decode cX8_just 12 = .ok (.getfield 23, 3) := by decide +kernel
theorem dX8_just_15 : decode cX8_just 15 = .ok (.iload_n 2, 1) := by decide +kernel
theorem dX8_just_16 : decode cX8_just 16 = .ok (.invokevirtual 186, 3) := by decide +kernel
theorem dX8_just_19 : decode cX8_just 19 = .ok (.ifCond .ne 6, 3) := by decide +kernel
theorem dX8_just_22 : decode cX8_just 22 = .ok (.ldc 140, 2) := by decide +kernel
theorem dX8_just_24 : decode cX8_just 24 = .ok (.ireturn, 1) := by decide +kernel
theorem dX8_just_25 : decode cX8_just 25 = .ok (.iload_n 3, 1) := by decide +kernel
theorem dX8_just_26 : decode cX8_just 26 = .ok (.ifCond .lt 10, 3) := by decide +kernel
theorem dX8_just_29 : decode cX8_just 29 = .ok (.iload_n 3, 1) := by decide +kernel
theorem dX8_just_30 : decode cX8_just 30 = .ok (.sipush 6000, 3) := by decide +kernel
theorem dX8_just_33 : decode cX8_just 33 = .ok (.if_icmp .le 6, 3) := by decide +kernel
theorem dX8_just_36 : decode cX8_just 36 = .ok (.ldc 85, 2) := by decide +kernel
theorem dX8_just_38 : decode cX8_just 38 = .ok (.ireturn, 1) := by decide +kernel
theorem dX8_just_39 : decode cX8_just 39 = .ok (.iload 4, 2) := by decide +kernel
theorem dX8_just_41 : decode cX8_just 41 = .ok (.ifCond .eq 20, 3) := by decide +kernel
theorem dX8_just_44 : decode cX8_just 44 = .ok (.aload_n 0, 1) := by decide +kernel
theorem dX8_just_45 : decode cX8_just 45 = .ok (.getfield 60, 3) := by decide +kernel
theorem dX8_just_48 : decode cX8_just 48 = .ok (.aload_n 0, 1) := by decide +kernel
theorem dX8_just_49 : decode cX8_just 49 = .ok (.getfield 23, 3) := by decide +kernel
theorem dX8_just_52 : decode cX8_just 52 = .ok (.iload_n 1, 1) := by decide +kernel
theorem dX8_just_53 : decode cX8_just 53 = .ok (.iload_n 2, 1) := by decide +kernel
theorem dX8_just_54 : decode cX8_just 54 = .ok (.iload_n 3, 1) := by decide +kernel
theorem dX8_just_55 : decode cX8_just 55 = .ok (.invokevirtual 189, 3) := by decide +kernel
theorem dX8_just_58 : decode cX8_just 58 = .ok (.goto 17, 3) := by decide +kernel
theorem dX8_just_61 : decode cX8_just 61 = .ok (.aload_n 0, 1) := by decide +kernel
theorem dX8_just_62 : decode cX8_just 62 = .ok (.getfield 67, 3) := by decide +kernel
theorem dX8_just_65 : decode cX8_just 65 = .ok (.aload_n 0, 1) := by decide +kernel
theorem dX8_just_66 : decode cX8_just 66 = .ok (.getfield 23, 3) := by decide +kernel
theorem dX8_just_69 : decode cX8_just 69 = .ok (.iload_n 1, 1) := by decide +kernel
theorem dX8_just_70 : decode cX8_just 70 = .ok (.iload_n 2, 1) := by decide +kernel
theorem dX8_just_71 : decode cX8_just 71 = .ok (.iload_n 3, 1) := by decide +kernel
theorem dX8_just_72 : decode cX8_just 72 = .ok (.invokevirtual 193, 3) := by decide +kernel
theorem dX8_just_75 : decode cX8_just 75 = .ok (.istore 6, 2) := by decide +kernel
theorem dX8_just_77 : decode cX8_just 77 = .ok (.iload 6, 2) := by decide +kernel
theorem dX8_just_79 : decode cX8_just 79 = .ok (.iconst (-1), 1) := by decide +kernel
theorem dX8_just_80 : decode cX8_just 80 = .ok (.if_icmp .eq 9, 3) := by decide +kernel
theorem dX8_just_83 : decode cX8_just 83 = .ok (.iload 5, 2) := by decide +kernel
theorem dX8_just_85 : decode cX8_just 85 = .ok (.iconst (-1), 1) := by decide +kernel
theorem dX8_just_86 : decode cX8_just 86 = .ok (.if_icmp .ne 6, 3) := by decide +kernel
theorem dX8_just_89 : decode cX8_just 89 = .ok (.iload 6, 2) := by decide +kernel
theorem dX8_just_91 : decode cX8_just 91 = .ok (.ireturn, 1) := by decide +kernel
theorem dX8_just_92 : decode cX8_just 92 = .ok (.iload 5, 2) := by decide +kernel
theorem dX8_just_94 : decode cX8_just 94 = .ok (.ifCond .lt 10, 3) := by decide +kernel
theorem dX8_just_97 : decode cX8_just 97 = .ok (.iload 5, 2) := by decide +kernel
theorem dX8_just_99 : decode cX8_just 99 = .ok (.iload 6, 2) := by decide +kernel
theorem dX8_just_101 : decode cX8_just 101 = .ok (.if_icmp .lt 5, 3) := by decide +kernel
theorem dX8_just_104 : decode cX8_just 104 = .ok (.iconst (-1), 1) := by decide +kernel
theorem dX8_just_105 : decode cX8_just 105 = .ok (.ireturn, 1) := by decide +kernel
theorem dX8_just_106 : decode cX8_just 106 = .ok (.iload 4, 2) := by decide +kernel
theorem dX8_just_108 : decode cX8_just 108 = .ok (.ifCond .eq 23, 3) := by decide +kernel
theorem dX8_just_111 : decode cX8_just 111 = .ok (.aload_n 0, 1) := by decide +kernel
theorem dX8_just_112 : decode cX8_just 112 = .ok (.getfield 60, 3) := by decide +kernel
theorem dX8_just_115 : decode cX8_just 115 = .ok (.aload_n 0, 1) := by decide +kernel
theorem dX8_just_116 : decode cX8_just 116 = .ok (.getfield 23, 3) := by decide +kernel
theorem dX8_just_119 : decode cX8_just 119 = .ok (.iload_n 1, 1) := by decide +kernel
theorem dX8_just_120 : decode cX8_just 120 = .ok (.iload_n 3, 1) := by decide +kernel
theorem dX8_just_121 : decode cX8_just 121 = .ok (.iload 6, 2) := by decide +kernel
theorem dX8_just_123 : decode cX8_just 123 = .ok (.iload 5, 2) := by decide +kernel
theorem dX8_just_125 : decode cX8_just 125 = .ok (.invokevirtual 196, 3) := by decide +kernel
theorem dX8_just_128 : decode cX8_just 128 = .ok (.goto 20, 3) := by decide +kernel
theorem dX8_just_131 : decode cX8_just 131 = .ok (.aload_n 0, 1) := by decide +kernel
theorem dX8_just_132 : decode cX8_just 132 = .ok (.getfield 67, 3) := by decide +kernel
theorem dX8_just_135 : decode cX8_just 135 = .ok (.aload_n 0, 1) := by decide +kernel
theorem dX8_just_136 : decode cX8_just 136 = .ok (.getfield 23, 3) := by decide +kernel
theorem dX8_just_139 : decode cX8_just 139 = .ok (.iload_n 1, 1) := by decide +kernel
theorem dX8_just_140 : decode cX8_just 140 = .ok (.iload_n 3, 1) := by decide +kernel
theorem dX8_just_141 : decode cX8_just 141 = .ok (.iload 6, 2) := by decide +kernel
theorem dX8_just_143 : decode cX8_just 143 = .ok (.iload 5, 2) := by decide +kernel
theorem dX8_just_145 : decode cX8_just 145 = .ok (.invokevirtual 200, 3) := by decide +kernel
theorem dX8_just_148 : decode cX8_just 148 = .ok (.ireturn, 1) := by decide +kernel
set_option maxRecDepth 20000 in
theorem ggX8_span_X0_hasMouth : GoodIn wsX8_span wsX0_hasMouth := goodIn_r _ [9, 10, 11, 12, 13, 8, 14, 15, 84, 85, 86, 87, 88, 89, 90, 91, 92, 93, 94, 95, 96] (by decide +kernel) (by decide +kernel)
set_option maxRecDepth 20000 in
theorem gX8_span_X0_hasMouth : GoodIn wsX8_span (wsV RX8 186 RX0 yX0_hasMouth wsX0_hasMouth) := goodIn_app (goodIn_of _ (by decide +kernel)) ggX8_span_X0_hasMouth
set_option maxRecDepth 20000 in
theorem ggX8_span_X8_isDays : GoodIn wsX8_span wsX8_isDays := goodIn_r _ [19] (by decide +kernel) (by decide +kernel)
set_option maxRecDepth 20000 in
theorem gX8_span_X8_isDays : GoodIn wsX8_span (va_wsS RX8 201 yX8_isDays wsX8_isDays) := goodIn_app (goodIn_of _ (by decide +kernel)) ggX8_span_X8_isDays
set_option maxRecDepth 20000 in
theorem ggX8_span_X5_layDays : GoodIn wsX8_span wsX5_layDays := goodIn_r _ [24, 25, 26, 27, 23, 28, 29, 12, 13, 8, 14, 15, 30, 31, 32, 33, 34, 35, 36, 37, 38, 39, 40, 41, 42, 43, 44, 45, 46, 47, 48, 49, 11, 50, 51, 52, 53, 54, 55, 56, 57, 58, 59, 60, 61, 62, 63, 64, 65, 66, 67, 84, 85, 86, 87, 88, 89, 90, 91, 92, 93, 94, 95, 96, 97, 98] (by decide +kernel) (by decide +kernel)
set_option maxRecDepth 20000 in
theorem gX8_span_X5_layDays : GoodIn wsX8_span (wsV RX8 204 RX5 yX5_layDays wsX5_layDays) := goodIn_app (goodIn_of _ (by decide +kernel)) ggX8_span_X5_layDays
set_option maxRecDepth 20000 in
theorem ggX8_span_X5_leastTime : GoodIn wsX8_span wsX5_leastTime := goodIn_r _ [62, 44, 30, 31, 23, 32, 97, 98] (by decide +kernel) (by decide +kernel)
set_option maxRecDepth 20000 in
theorem gX8_span_X5_leastTime : GoodIn wsX8_span (wsV RX8 208 RX5 yX5_leastTime wsX5_leastTime) := goodIn_app (goodIn_of _ (by decide +kernel)) ggX8_span_X5_leastTime
set_option maxRecDepth 20000 in
theorem ggX8_span_X5_mostTime : GoodIn wsX8_span wsX5_mostTime := goodIn_r _ [58, 45, 30, 31, 23, 32, 97, 98] (by decide +kernel) (by decide +kernel)
set_option maxRecDepth 20000 in
theorem gX8_span_X5_mostTime : GoodIn wsX8_span (wsV RX8 212 RX5 yX5_mostTime wsX5_mostTime) := goodIn_app (goodIn_of _ (by decide +kernel)) ggX8_span_X5_mostTime
theorem dX8_span_0 : decode cX8_span 0 = .ok (.aload_n 0, 1) := by decide +kernel
theorem dX8_span_1 : decode cX8_span 1 = .ok (.getfield 23, 3) := by decide +kernel
theorem dX8_span_4 : decode cX8_span 4 = .ok (.iload_n 1, 1) := by decide +kernel
theorem dX8_span_5 : decode cX8_span 5 = .ok (.invokevirtual 186, 3) := by decide +kernel
theorem dX8_span_8 : decode cX8_span 8 = .ok (.ifCond .eq 14, 3) := by decide +kernel
theorem dX8_span_11 : decode cX8_span 11 = .ok (.aload_n 0, 1) := by decide +kernel
theorem dX8_span_12 : decode cX8_span 12 = .ok (.getfield 23, 3) := by decide +kernel
theorem dX8_span_15 : decode cX8_span 15 = .ok (.iload_n 2, 1) := by decide +kernel
theorem dX8_span_16 : decode cX8_span 16 = .ok (.invokevirtual 186, 3) := by decide +kernel
theorem dX8_span_19 : decode cX8_span 19 = .ok (.ifCond .ne 6, 3) := by decide +kernel
theorem dX8_span_22 : decode cX8_span 22 = .ok (.ldc 140, 2) := by decide +kernel
theorem dX8_span_24 : decode cX8_span 24 = .ok (.ireturn, 1) := by decide +kernel
theorem dX8_span_25 : decode cX8_span 25 = .ok (.iload_n 3, 1) := by decide +kernel
theorem dX8_span_26 : decode cX8_span 26 = .ok (.invokestatic 201, 3) := by decide +kernel
theorem dX8_span_29 : decode cX8_span 29 = .ok (.ifCond .eq 14, 3) := by decide +kernel
theorem dX8_span_32 : decode cX8_span 32 = .ok (.iload 4, 2) := by decide +kernel
theorem dX8_span_34 : decode cX8_span 34 = .ok (.ifCond .lt 9, 3) := by decide +kernel
theorem dX8_span_37 : decode cX8_span 37 = .ok (.iload 4, 2) := by decide +kernel
theorem dX8_span_39 : decode cX8_span 39 = .ok (.iconst 1, 1) := by decide +kernel
theorem dX8_span_40 : decode cX8_span 40 = .ok (.if_icmp .le 6, 3) := by decide +kernel
theorem dX8_span_43 : decode cX8_span 43 = .ok (.ldc 85, 2) := by decide +kernel
theorem dX8_span_45 : decode cX8_span 45 = .ok (.ireturn, 1) := by decide +kernel
theorem dX8_span_46 : decode cX8_span 46 = .ok (.aload_n 0, 1) := by decide +kernel
theorem dX8_span_47 : decode cX8_span 47 = .ok (.getfield 60, 3) := by decide +kernel
theorem dX8_span_50 : decode cX8_span 50 = .ok (.aload_n 0, 1) := by decide +kernel
theorem dX8_span_51 : decode cX8_span 51 = .ok (.getfield 23, 3) := by decide +kernel
theorem dX8_span_54 : decode cX8_span 54 = .ok (.iload_n 2, 1) := by decide +kernel
theorem dX8_span_55 : decode cX8_span 55 = .ok (.iload_n 3, 1) := by decide +kernel
theorem dX8_span_56 : decode cX8_span 56 = .ok (.invokevirtual 204, 3) := by decide +kernel
theorem dX8_span_59 : decode cX8_span 59 = .ok (.iload 4, 2) := by decide +kernel
theorem dX8_span_61 : decode cX8_span 61 = .ok (.ifCond .ne 15, 3) := by decide +kernel
theorem dX8_span_64 : decode cX8_span 64 = .ok (.aload_n 0, 1) := by decide +kernel
theorem dX8_span_65 : decode cX8_span 65 = .ok (.getfield 60, 3) := by decide +kernel
theorem dX8_span_68 : decode cX8_span 68 = .ok (.iload_n 3, 1) := by decide +kernel
theorem dX8_span_69 : decode cX8_span 69 = .ok (.iload_n 1, 1) := by decide +kernel
theorem dX8_span_70 : decode cX8_span 70 = .ok (.invokevirtual 208, 3) := by decide +kernel
theorem dX8_span_73 : decode cX8_span 73 = .ok (.goto 12, 3) := by decide +kernel
theorem dX8_span_76 : decode cX8_span 76 = .ok (.aload_n 0, 1) := by decide +kernel
theorem dX8_span_77 : decode cX8_span 77 = .ok (.getfield 60, 3) := by decide +kernel
theorem dX8_span_80 : decode cX8_span 80 = .ok (.iload_n 3, 1) := by decide +kernel
theorem dX8_span_81 : decode cX8_span 81 = .ok (.iload_n 1, 1) := by decide +kernel
theorem dX8_span_82 : decode cX8_span 82 = .ok (.invokevirtual 212, 3) := by decide +kernel
theorem dX8_span_85 : decode cX8_span 85 = .ok (.ireturn, 1) := by decide +kernel
set_option maxRecDepth 20000 in
theorem ggX8_longest_X8_isDays : GoodIn wsX8_longest wsX8_isDays := goodIn_r _ [7] (by decide +kernel) (by decide +kernel)
set_option maxRecDepth 20000 in
theorem gX8_longest_X8_isDays : GoodIn wsX8_longest (va_wsS RX8 201 yX8_isDays wsX8_isDays) := goodIn_app (goodIn_of _ (by decide +kernel)) ggX8_longest_X8_isDays
set_option maxRecDepth 20000 in
theorem ggX8_longest_X0_hasMouth : GoodIn wsX8_longest wsX0_hasMouth := goodIn_r _ [12, 13, 14, 15, 16, 11, 17, 18, 82, 83, 84, 85, 86, 87, 88, 89, 90, 91, 92, 93, 94] (by decide +kernel) (by decide +kernel)
set_option maxRecDepth 20000 in
theorem gX8_longest_X0_hasMouth : GoodIn wsX8_longest (wsV RX8 186 RX0 yX0_hasMouth wsX0_hasMouth) := goodIn_app (goodIn_of _ (by decide +kernel)) ggX8_longest_X0_hasMouth
set_option maxRecDepth 20000 in
theorem ggX8_longest_X5_layDays : GoodIn wsX8_longest wsX5_layDays := goodIn_r _ [23, 24, 25, 26, 22, 27, 28, 15, 16, 11, 17, 18, 29, 30, 31, 32, 33, 34, 35, 36, 37, 38, 39, 40, 41, 42, 43, 44, 45, 46, 47, 48, 14, 49, 50, 51, 52, 53, 54, 55, 56, 57, 58, 59, 60, 61, 62, 63, 64, 65, 66, 82, 83, 84, 85, 86, 87, 88, 89, 90, 91, 92, 93, 94, 95, 96] (by decide +kernel) (by decide +kernel)
set_option maxRecDepth 20000 in
theorem gX8_longest_X5_layDays : GoodIn wsX8_longest (wsV RX8 204 RX5 yX5_layDays wsX5_layDays) := goodIn_app (goodIn_of _ (by decide +kernel)) ggX8_longest_X5_layDays
set_option maxRecDepth 20000 in
theorem ggX8_longest_X5_mostTime : GoodIn wsX8_longest wsX5_mostTime := goodIn_r _ [57, 44, 29, 30, 22, 31, 95, 96] (by decide +kernel) (by decide +kernel)
set_option maxRecDepth 20000 in
theorem gX8_longest_X5_mostTime : GoodIn wsX8_longest (wsV RX8 212 RX5 yX5_mostTime wsX5_mostTime) := goodIn_app (goodIn_of _ (by decide +kernel)) ggX8_longest_X5_mostTime
theorem dX8_longest_0 : decode cX8_longest 0 = .ok (.iload_n 1, 1) := by decide +kernel
theorem dX8_longest_1 : decode cX8_longest 1 = .ok (.invokestatic 201, 3) := by decide +kernel
theorem dX8_longest_4 : decode cX8_longest 4 = .ok (.ifCond .eq 12, 3) := by decide +kernel
theorem dX8_longest_7 : decode cX8_longest 7 = .ok (.iload_n 2, 1) := by decide +kernel
theorem dX8_longest_8 : decode cX8_longest 8 = .ok (.ifCond .lt 8, 3) := by decide +kernel
theorem dX8_longest_11 : decode cX8_longest 11 = .ok (.iload_n 2, 1) := by decide +kernel
theorem dX8_longest_12 : decode cX8_longest 12 = .ok (.iconst 1, 1) := by decide +kernel
theorem dX8_longest_13 : decode cX8_longest 13 = .ok (.if_icmp .le 6, 3) := by decide +kernel
theorem dX8_longest_16 : decode cX8_longest 16 = .ok (.ldc 85, 2) := by decide +kernel
theorem dX8_longest_18 : decode cX8_longest 18 = .ok (.ireturn, 1) := by decide +kernel
theorem dX8_longest_19 : decode cX8_longest 19 = .ok (.iconst (-1), 1) := by decide +kernel
theorem dX8_longest_20 : decode cX8_longest 20 = .ok (.istore_n 3, 1) := by decide +kernel
theorem dX8_longest_21 : decode cX8_longest 21 = .ok (.iconst (-1), 1) := by decide +kernel
theorem dX8_longest_22 : decode cX8_longest 22 = .ok (.istore 4, 2) := by decide +kernel
theorem dX8_longest_24 : decode cX8_longest 24 = .ok (.iconst 0, 1) := by decide +kernel
theorem dX8_longest_25 : decode cX8_longest 25 = .ok (.istore 5, 2) := by decide +kernel
theorem dX8_longest_27 : decode cX8_longest 27 = .ok (.iload 5, 2) := by decide +kernel
theorem dX8_longest_29 : decode cX8_longest 29 = .ok (.bipush 7, 2) := by decide +kernel
theorem dX8_longest_31 : decode cX8_longest 31 = .ok (.if_icmp .ge 61, 3) := by decide +kernel
theorem dX8_longest_34 : decode cX8_longest 34 = .ok (.aload_n 0, 1) := by decide +kernel
theorem dX8_longest_35 : decode cX8_longest 35 = .ok (.getfield 23, 3) := by decide +kernel
theorem dX8_longest_38 : decode cX8_longest 38 = .ok (.iload 5, 2) := by decide +kernel
theorem dX8_longest_40 : decode cX8_longest 40 = .ok (.invokevirtual 186, 3) := by decide +kernel
theorem dX8_longest_43 : decode cX8_longest 43 = .ok (.ifCond .eq 43, 3) := by decide +kernel
theorem dX8_longest_46 : decode cX8_longest 46 = .ok (.aload_n 0, 1) := by decide +kernel
theorem dX8_longest_47 : decode cX8_longest 47 = .ok (.getfield 60, 3) := by decide +kernel
theorem dX8_longest_50 : decode cX8_longest 50 = .ok (.aload_n 0, 1) := by decide +kernel
theorem dX8_longest_51 : decode cX8_longest 51 = .ok (.getfield 23, 3) := by decide +kernel
theorem dX8_longest_54 : decode cX8_longest 54 = .ok (.iload 5, 2) := by decide +kernel
theorem dX8_longest_56 : decode cX8_longest 56 = .ok (.iload_n 1, 1) := by decide +kernel
theorem dX8_longest_57 : decode cX8_longest 57 = .ok (.invokevirtual 204, 3) := by decide +kernel
theorem dX8_longest_60 : decode cX8_longest 60 = .ok (.aload_n 0, 1) := by decide +kernel
theorem dX8_longest_61 : decode cX8_longest 61 = .ok (.getfield 60, 3) := by decide +kernel
theorem dX8_longest_64 : decode cX8_longest 64 = .ok (.iload_n 1, 1) := by decide +kernel
theorem dX8_longest_65 : decode cX8_longest 65 = .ok (.iload 5, 2) := by decide +kernel
theorem dX8_longest_67 : decode cX8_longest 67 = .ok (.invokevirtual 212, 3) := by decide +kernel
theorem dX8_longest_70 : decode cX8_longest 70 = .ok (.istore 6, 2) := by decide +kernel
theorem dX8_longest_72 : decode cX8_longest 72 = .ok (.iload 6, 2) := by decide +kernel
theorem dX8_longest_74 : decode cX8_longest 74 = .ok (.iload 4, 2) := by decide +kernel
theorem dX8_longest_76 : decode cX8_longest 76 = .ok (.if_icmp .le 10, 3) := by decide +kernel
theorem dX8_longest_79 : decode cX8_longest 79 = .ok (.iload 5, 2) := by decide +kernel
theorem dX8_longest_81 : decode cX8_longest 81 = .ok (.istore_n 3, 1) := by decide +kernel
theorem dX8_longest_82 : decode cX8_longest 82 = .ok (.iload 6, 2) := by decide +kernel
theorem dX8_longest_84 : decode cX8_longest 84 = .ok (.istore 4, 2) := by decide +kernel
theorem dX8_longest_86 : decode cX8_longest 86 = .ok (.iinc 5 1, 3) := by decide +kernel
theorem dX8_longest_89 : decode cX8_longest 89 = .ok (.goto (-62), 3) := by decide +kernel
theorem dX8_longest_92 : decode cX8_longest 92 = .ok (.iload_n 2, 1) := by decide +kernel
theorem dX8_longest_93 : decode cX8_longest 93 = .ok (.ifCond .ne 7, 3) := by decide +kernel
theorem dX8_longest_96 : decode cX8_longest 96 = .ok (.iload_n 3, 1) := by decide +kernel
theorem dX8_longest_97 : decode cX8_longest 97 = .ok (.goto 5, 3) := by decide +kernel
theorem dX8_longest_100 : decode cX8_longest 100 = .ok (.iload 4, 2) := by decide +kernel
theorem dX8_longest_102 : decode cX8_longest 102 = .ok (.ireturn, 1) := by decide +kernel
set_option maxRecDepth 20000 in
theorem ggX8_meeting_X0_hasPerson : GoodIn wsX8_meeting wsX0_hasPerson := goodIn_r _ [9, 10, 44, 45, 46, 47, 48, 49, 50, 51, 52, 53, 54, 55, 56] (by decide +kernel) (by decide +kernel)
set_option maxRecDepth 20000 in
theorem gX8_meeting_X0_hasPerson : GoodIn wsX8_meeting (wsV RX8 151 RX0 yX0_hasPerson wsX0_hasPerson) := goodIn_app (goodIn_of _ (by decide +kernel)) ggX8_meeting_X0_hasPerson
set_option maxRecDepth 20000 in
theorem ggX8_meeting_X2_meetingDate : GoodIn wsX8_meeting wsX2_meetingDate := goodIn_r _ [15, 16, 17, 18, 19, 20, 21, 22, 23, 14, 24, 57, 58, 59, 60, 61, 62] (by decide +kernel) (by decide +kernel)
set_option maxRecDepth 20000 in
theorem gX8_meeting_X2_meetingDate : GoodIn wsX8_meeting (wsV RX8 215 RX2 yX2_meetingDate wsX2_meetingDate) := goodIn_app (goodIn_of _ (by decide +kernel)) ggX8_meeting_X2_meetingDate
set_option maxRecDepth 20000 in
theorem ggX8_meeting_X2_ageAt : GoodIn wsX8_meeting wsX2_ageAt := goodIn_r _ [28, 29, 16, 17, 18, 19, 20, 21, 22, 23, 14, 24, 57, 58, 59, 60, 61, 62] (by decide +kernel) (by decide +kernel)
set_option maxRecDepth 20000 in
theorem gX8_meeting_X2_ageAt : GoodIn wsX8_meeting (wsV RX8 218 RX2 yX2_ageAt wsX2_ageAt) := goodIn_app (goodIn_of _ (by decide +kernel)) ggX8_meeting_X2_ageAt
theorem dX8_meeting_0 : decode cX8_meeting 0 = .ok (.aload_n 0, 1) := by decide +kernel
theorem dX8_meeting_1 : decode cX8_meeting 1 = .ok (.getfield 23, 3) := by decide +kernel
theorem dX8_meeting_4 : decode cX8_meeting 4 = .ok (.iload_n 1, 1) := by decide +kernel
theorem dX8_meeting_5 : decode cX8_meeting 5 = .ok (.invokevirtual 151, 3) := by decide +kernel
theorem dX8_meeting_8 : decode cX8_meeting 8 = .ok (.ifCond .eq 19, 3) := by decide +kernel
theorem dX8_meeting_11 : decode cX8_meeting 11 = .ok (.aload_n 0, 1) := by decide +kernel
theorem dX8_meeting_12 : decode cX8_meeting 12 = .ok (.getfield 23, 3) := by decide +kernel
theorem dX8_meeting_15 : decode cX8_meeting 15 = .ok (.iload_n 2, 1) := by decide +kernel
theorem dX8_meeting_16 : decode cX8_meeting 16 = .ok (.invokevirtual 151, 3) := by decide +kernel
theorem dX8_meeting_19 : decode cX8_meeting 19 = .ok (.ifCond .eq 8, 3) := by decide +kernel
theorem dX8_meeting_22 : decode cX8_meeting 22 = .ok (.iload_n 1, 1) := by decide +kernel
theorem dX8_meeting_23 : decode cX8_meeting 23 = .ok (.iload_n 2, 1) := by decide +kernel
theorem dX8_meeting_24 : decode cX8_meeting 24 = .ok (.if_icmp .ne 6, 3) := by decide +kernel
theorem dX8_meeting_27 : decode cX8_meeting 27 = .ok (.ldc 140, 2) := by decide +kernel
theorem dX8_meeting_29 : decode cX8_meeting 29 = .ok (.ireturn, 1) := by decide +kernel
theorem dX8_meeting_30 : decode cX8_meeting 30 = .ok (.aload_n 0, 1) := by decide +kernel
theorem dX8_meeting_31 : decode cX8_meeting 31 = .ok (.getfield 47, 3) := by decide +kernel
theorem dX8_meeting_34 : decode cX8_meeting 34 = .ok (.iload_n 1, 1) := by decide +kernel
theorem dX8_meeting_35 : decode cX8_meeting 35 = .ok (.iload_n 2, 1) := by decide +kernel
theorem dX8_meeting_36 : decode cX8_meeting 36 = .ok (.invokevirtual 215, 3) := by decide +kernel
theorem dX8_meeting_39 : decode cX8_meeting 39 = .ok (.istore 4, 2) := by decide +kernel
theorem dX8_meeting_41 : decode cX8_meeting 41 = .ok (.iload_n 3, 1) := by decide +kernel
theorem dX8_meeting_42 : decode cX8_meeting 42 = .ok (.tableswitch 51 0 2 #[26, 29, 40], 26) := by decide +kernel
theorem dX8_meeting_68 : decode cX8_meeting 68 = .ok (.iload 4, 2) := by decide +kernel
theorem dX8_meeting_70 : decode cX8_meeting 70 = .ok (.ireturn, 1) := by decide +kernel
theorem dX8_meeting_71 : decode cX8_meeting 71 = .ok (.aload_n 0, 1) := by decide +kernel
theorem dX8_meeting_72 : decode cX8_meeting 72 = .ok (.getfield 47, 3) := by decide +kernel
theorem dX8_meeting_75 : decode cX8_meeting 75 = .ok (.iload_n 1, 1) := by decide +kernel
theorem dX8_meeting_76 : decode cX8_meeting 76 = .ok (.iload 4, 2) := by decide +kernel
theorem dX8_meeting_78 : decode cX8_meeting 78 = .ok (.invokevirtual 218, 3) := by decide +kernel
theorem dX8_meeting_81 : decode cX8_meeting 81 = .ok (.ireturn, 1) := by decide +kernel
theorem dX8_meeting_82 : decode cX8_meeting 82 = .ok (.aload_n 0, 1) := by decide +kernel
theorem dX8_meeting_83 : decode cX8_meeting 83 = .ok (.getfield 47, 3) := by decide +kernel
theorem dX8_meeting_86 : decode cX8_meeting 86 = .ok (.iload_n 2, 1) := by decide +kernel
theorem dX8_meeting_87 : decode cX8_meeting 87 = .ok (.iload 4, 2) := by decide +kernel
theorem dX8_meeting_89 : decode cX8_meeting 89 = .ok (.invokevirtual 218, 3) := by decide +kernel
theorem dX8_meeting_92 : decode cX8_meeting 92 = .ok (.ireturn, 1) := by decide +kernel
theorem dX8_meeting_93 : decode cX8_meeting 93 = .ok (.ldc 85, 2) := by decide +kernel
theorem dX8_meeting_95 : decode cX8_meeting 95 = .ok (.ireturn, 1) := by decide +kernel
set_option maxRecDepth 20000 in
theorem ggX8_sum_X0_hasPerson : GoodIn wsX8_sum wsX0_hasPerson := goodIn_r _ [12, 13, 53, 54, 55, 56, 57, 58, 59, 60, 61, 62, 63, 64, 65] (by decide +kernel) (by decide +kernel)
set_option maxRecDepth 20000 in
theorem gX8_sum_X0_hasPerson : GoodIn wsX8_sum (wsV RX8 151 RX0 yX0_hasPerson wsX0_hasPerson) := goodIn_app (goodIn_of _ (by decide +kernel)) ggX8_sum_X0_hasPerson
set_option maxRecDepth 20000 in
theorem ggX8_sum_X2_richesAt : GoodIn wsX8_sum wsX2_richesAt := goodIn_r _ [18, 19, 20, 21, 22, 17, 23, 24, 25, 26, 27, 28, 29, 30, 31, 32, 47, 48, 49, 50, 51, 52] (by decide +kernel) (by decide +kernel)
set_option maxRecDepth 20000 in
theorem gX8_sum_X2_richesAt : GoodIn wsX8_sum (wsV RX8 221 RX2 yX2_richesAt wsX2_richesAt) := goodIn_app (goodIn_of _ (by decide +kernel)) ggX8_sum_X2_richesAt
theorem dX8_sum_0 : decode cX8_sum 0 = .ok (.aload_n 0, 1) := by decide +kernel
theorem dX8_sum_1 : decode cX8_sum 1 = .ok (.getfield 23, 3) := by decide +kernel
theorem dX8_sum_4 : decode cX8_sum 4 = .ok (.iload_n 1, 1) := by decide +kernel
theorem dX8_sum_5 : decode cX8_sum 5 = .ok (.invokevirtual 151, 3) := by decide +kernel
theorem dX8_sum_8 : decode cX8_sum 8 = .ok (.ifCond .ne 6, 3) := by decide +kernel
theorem dX8_sum_11 : decode cX8_sum 11 = .ok (.ldc 140, 2) := by decide +kernel
theorem dX8_sum_13 : decode cX8_sum 13 = .ok (.ireturn, 1) := by decide +kernel
theorem dX8_sum_14 : decode cX8_sum 14 = .ok (.iload_n 2, 1) := by decide +kernel
theorem dX8_sum_15 : decode cX8_sum 15 = .ok (.aload_n 0, 1) := by decide +kernel
theorem dX8_sum_16 : decode cX8_sum 16 = .ok (.getfield 47, 3) := by decide +kernel
theorem dX8_sum_19 : decode cX8_sum 19 = .ok (.getfield 125, 3) := by decide +kernel
theorem dX8_sum_22 : decode cX8_sum 22 = .ok (.if_icmp .lt 9, 3) := by decide +kernel
theorem dX8_sum_25 : decode cX8_sum 25 = .ok (.iload_n 2, 1) := by decide +kernel
theorem dX8_sum_26 : decode cX8_sum 26 = .ok (.ldc 177, 2) := by decide +kernel
theorem dX8_sum_28 : decode cX8_sum 28 = .ok (.if_icmp .le 6, 3) := by decide +kernel
theorem dX8_sum_31 : decode cX8_sum 31 = .ok (.ldc 85, 2) := by decide +kernel
theorem dX8_sum_33 : decode cX8_sum 33 = .ok (.ireturn, 1) := by decide +kernel
theorem dX8_sum_34 : decode cX8_sum 34 = .ok (.aload_n 0, 1) := by decide +kernel
theorem dX8_sum_35 : decode cX8_sum 35 = .ok (.getfield 47, 3) := by decide +kernel
theorem dX8_sum_38 : decode cX8_sum 38 = .ok (.iload_n 1, 1) := by decide +kernel
theorem dX8_sum_39 : decode cX8_sum 39 = .ok (.iload_n 2, 1) := by decide +kernel
theorem dX8_sum_40 : decode cX8_sum 40 = .ok (.aload_n 0, 1) := by decide +kernel
theorem dX8_sum_41 : decode cX8_sum 41 = .ok (.getfield 23, 3) := by decide +kernel
theorem dX8_sum_44 : decode cX8_sum 44 = .ok (.getfield 119, 3) := by decide +kernel
theorem dX8_sum_47 : decode cX8_sum 47 = .ok (.invokevirtual 221, 3) := by decide +kernel
theorem dX8_sum_50 : decode cX8_sum 50 = .ok (.ireturn, 1) := by decide +kernel
set_option maxRecDepth 20000 in
theorem ggX8_sitOut_X0_hasMouth : GoodIn wsX8_sitOut wsX0_hasMouth := goodIn_r _ [10, 11, 12, 13, 14, 9, 15, 16, 93, 94, 95, 96, 97, 98, 99, 100, 101, 102, 103, 104, 105] (by decide +kernel) (by decide +kernel)
set_option maxRecDepth 20000 in
theorem gX8_sitOut_X0_hasMouth : GoodIn wsX8_sitOut (wsV RX8 186 RX0 yX0_hasMouth wsX0_hasMouth) := goodIn_app (goodIn_of _ (by decide +kernel)) ggX8_sitOut_X0_hasMouth
set_option maxRecDepth 20000 in
theorem ggX8_sitOut_X0_lastWinterEnd : GoodIn wsX8_sitOut wsX0_lastWinterEnd := goodIn_r _ [20, 21, 22, 23, 24, 25, 26, 27, 93, 94, 95, 96, 97, 98, 99, 100, 101, 102, 103, 104, 105] (by decide +kernel) (by decide +kernel)
set_option maxRecDepth 20000 in
theorem gX8_sitOut_X0_lastWinterEnd : GoodIn wsX8_sitOut (wsV RX8 225 RX0 yX0_lastWinterEnd wsX0_lastWinterEnd) := goodIn_app (goodIn_of _ (by decide +kernel)) ggX8_sitOut_X0_lastWinterEnd
set_option maxRecDepth 20000 in
theorem ggX8_sitOut_X5_daysReaching : GoodIn wsX8_sitOut wsX5_daysReaching := goodIn_r _ [32, 33, 25, 26, 27, 34, 35, 36, 31, 37, 38, 13, 14, 9, 15, 16, 39, 40, 41, 42, 43, 44, 45, 46, 47, 48, 49, 50, 51, 52, 53, 54, 12, 55, 56, 57, 58, 59, 60, 61, 62, 63, 64, 65, 66, 67, 68, 69, 70, 71, 72, 93, 94, 95, 96, 97, 98, 99, 100, 101, 102, 103, 104, 105, 106, 107] (by decide +kernel) (by decide +kernel)
set_option maxRecDepth 20000 in
theorem gX8_sitOut_X5_daysReaching : GoodIn wsX8_sitOut (wsV RX8 189 RX5 yX5_daysReaching wsX5_daysReaching) := goodIn_app (goodIn_of _ (by decide +kernel)) ggX8_sitOut_X5_daysReaching
theorem dX8_sitOut_0 : decode cX8_sitOut 0 = .ok (.aload_n 0, 1) := by decide +kernel
theorem dX8_sitOut_1 : decode cX8_sitOut 1 = .ok (.getfield 23, 3) := by decide +kernel
theorem dX8_sitOut_4 : decode cX8_sitOut 4 = .ok (.iload_n 1, 1) := by decide +kernel
theorem dX8_sitOut_5 : decode cX8_sitOut 5 = .ok (.invokevirtual 186, 3) := by decide +kernel
theorem dX8_sitOut_8 : decode cX8_sitOut 8 = .ok (.ifCond .ne 6, 3) := by decide +kernel
theorem dX8_sitOut_11 : decode cX8_sitOut 11 = .ok (.ldc 140, 2) := by decide +kernel
theorem dX8_sitOut_13 : decode cX8_sitOut 13 = .ok (.ireturn, 1) := by decide +kernel
theorem dX8_sitOut_14 : decode cX8_sitOut 14 = .ok (.aload_n 0, 1) := by decide +kernel
theorem dX8_sitOut_15 : decode cX8_sitOut 15 = .ok (.getfield 23, 3) := by decide +kernel
theorem dX8_sitOut_18 : decode cX8_sitOut 18 = .ok (.aload_n 0, 1) := by decide +kernel
theorem dX8_sitOut_19 : decode cX8_sitOut 19 = .ok (.getfield 47, 3) := by decide +kernel
theorem dX8_sitOut_22 : decode cX8_sitOut 22 = .ok (.getfield 125, 3) := by decide +kernel
theorem dX8_sitOut_25 : decode cX8_sitOut 25 = .ok (.invokevirtual 225, 3) := by decide +kernel
theorem dX8_sitOut_28 : decode cX8_sitOut 28 = .ok (.istore_n 2, 1) := by decide +kernel
theorem dX8_sitOut_29 : decode cX8_sitOut 29 = .ok (.iload_n 2, 1) := by decide +kernel
theorem dX8_sitOut_30 : decode cX8_sitOut 30 = .ok (.iconst (-1), 1) := by decide +kernel
theorem dX8_sitOut_31 : decode cX8_sitOut 31 = .ok (.if_icmp .ne 5, 3) := by decide +kernel
theorem dX8_sitOut_34 : decode cX8_sitOut 34 = .ok (.iconst 0, 1) := by decide +kernel
theorem dX8_sitOut_35 : decode cX8_sitOut 35 = .ok (.ireturn, 1) := by decide +kernel
theorem dX8_sitOut_36 : decode cX8_sitOut 36 = .ok (.aload_n 0, 1) := by decide +kernel
theorem dX8_sitOut_37 : decode cX8_sitOut 37 = .ok (.getfield 60, 3) := by decide +kernel
theorem dX8_sitOut_40 : decode cX8_sitOut 40 = .ok (.aload_n 0, 1) := by decide +kernel
theorem dX8_sitOut_41 : decode cX8_sitOut 41 = .ok (.getfield 23, 3) := by decide +kernel
theorem dX8_sitOut_44 : decode cX8_sitOut 44 = .ok (.iload_n 1, 1) := by decide +kernel
theorem dX8_sitOut_45 : decode cX8_sitOut 45 = .ok (.iload_n 1, 1) := by decide +kernel
theorem dX8_sitOut_46 : decode cX8_sitOut 46 = .ok (.iload_n 2, 1) := by decide +kernel
theorem dX8_sitOut_47 : decode cX8_sitOut 47 = .ok (.aload_n 0, 1) := by decide +kernel
theorem dX8_sitOut_48 : decode cX8_sitOut 48 = .ok (.getfield 47, 3) := by decide +kernel
theorem dX8_sitOut_51 : decode cX8_sitOut 51 = .ok (.getfield 125, 3) := by decide +kernel
theorem dX8_sitOut_54 : decode cX8_sitOut 54 = .ok (.isub, 1) := by decide +kernel
theorem dX8_sitOut_55 : decode cX8_sitOut 55 = .ok (.invokevirtual 189, 3) := by decide +kernel
theorem dX8_sitOut_58 : decode cX8_sitOut 58 = .ok (.ireturn, 1) := by decide +kernel
set_option maxRecDepth 20000 in
theorem ggX8_tryOut_X8_isDays : GoodIn wsX8_tryOut wsX8_isDays := goodIn_r _ [7] (by decide +kernel) (by decide +kernel)
set_option maxRecDepth 20000 in
theorem gX8_tryOut_X8_isDays : GoodIn wsX8_tryOut (va_wsS RX8 201 yX8_isDays wsX8_isDays) := goodIn_app (goodIn_of _ (by decide +kernel)) ggX8_tryOut_X8_isDays
set_option maxRecDepth 20000 in
theorem ggX8_tryOut_X7_add : GoodIn wsX8_tryOut wsX7_add := goodIn_r _ [12, 13, 14, 15, 16, 31, 32, 33] (by decide +kernel) (by decide +kernel)
set_option maxRecDepth 20000 in
theorem gX8_tryOut_X7_add : GoodIn wsX8_tryOut (wsV RX8 229 RX7 yX7_add wsX7_add) := goodIn_app (goodIn_of _ (by decide +kernel)) ggX8_tryOut_X7_add
theorem dX8_tryOut_0 : decode cX8_tryOut 0 = .ok (.iload_n 1, 1) := by decide +kernel
theorem dX8_tryOut_1 : decode cX8_tryOut 1 = .ok (.invokestatic 201, 3) := by decide +kernel
theorem dX8_tryOut_4 : decode cX8_tryOut 4 = .ok (.ifCond .eq 13, 3) := by decide +kernel
theorem dX8_tryOut_7 : decode cX8_tryOut 7 = .ok (.iload_n 2, 1) := by decide +kernel
theorem dX8_tryOut_8 : decode cX8_tryOut 8 = .ok (.ifCond .lt 9, 3) := by decide +kernel
theorem dX8_tryOut_11 : decode cX8_tryOut 11 = .ok (.iload_n 2, 1) := by decide +kernel
theorem dX8_tryOut_12 : decode cX8_tryOut 12 = .ok (.ldc 228, 2) := by decide +kernel
theorem dX8_tryOut_14 : decode cX8_tryOut 14 = .ok (.if_icmp .le 6, 3) := by decide +kernel
theorem dX8_tryOut_17 : decode cX8_tryOut 17 = .ok (.ldc 85, 2) := by decide +kernel
theorem dX8_tryOut_19 : decode cX8_tryOut 19 = .ok (.ireturn, 1) := by decide +kernel
theorem dX8_tryOut_20 : decode cX8_tryOut 20 = .ok (.aload_n 0, 1) := by decide +kernel
theorem dX8_tryOut_21 : decode cX8_tryOut 21 = .ok (.getfield 74, 3) := by decide +kernel
theorem dX8_tryOut_24 : decode cX8_tryOut 24 = .ok (.iload_n 1, 1) := by decide +kernel
theorem dX8_tryOut_25 : decode cX8_tryOut 25 = .ok (.iload_n 2, 1) := by decide +kernel
theorem dX8_tryOut_26 : decode cX8_tryOut 26 = .ok (.invokevirtual 229, 3) := by decide +kernel
theorem dX8_tryOut_29 : decode cX8_tryOut 29 = .ok (.ireturn, 1) := by decide +kernel
set_option maxRecDepth 20000 in
theorem ggX8_fits_X7_fittingSet : GoodIn wsX8_fits wsX7_fittingSet := goodIn_r _ [7, 8, 9, 10, 11, 12, 13, 14, 15, 16, 17, 18, 19, 20, 21, 22, 6, 23, 24, 25, 26, 41, 42, 43, 44, 45, 46, 47, 48, 49, 50, 51, 52, 53, 54, 55, 56] (by decide +kernel) (by decide +kernel)
set_option maxRecDepth 20000 in
theorem gX8_fits_X7_fittingSet : GoodIn wsX8_fits (wsV RX8 232 RX7 yX7_fittingSet wsX7_fittingSet) := goodIn_app (goodIn_of _ (by decide +kernel)) ggX8_fits_X7_fittingSet
theorem dX8_fits_0 : decode cX8_fits 0 = .ok (.aload_n 0, 1) := by decide +kernel
theorem dX8_fits_1 : decode cX8_fits 1 = .ok (.getfield 74, 3) := by decide +kernel
theorem dX8_fits_4 : decode cX8_fits 4 = .ok (.aload_n 0, 1) := by decide +kernel
theorem dX8_fits_5 : decode cX8_fits 5 = .ok (.getfield 23, 3) := by decide +kernel
theorem dX8_fits_8 : decode cX8_fits 8 = .ok (.invokevirtual 232, 3) := by decide +kernel
theorem dX8_fits_11 : decode cX8_fits 11 = .ok (.ireturn, 1) := by decide +kernel
set_option maxRecDepth 20000 in
theorem ggX8_line_X4_add : GoodIn wsX8_line wsX4_add := goodIn_r _ [7, 8, 9, 10, 11, 26, 27, 28, 29] (by decide +kernel) (by decide +kernel)
set_option maxRecDepth 20000 in
theorem gX8_line_X4_add : GoodIn wsX8_line (wsV RX8 235 RX4 yX4_add wsX4_add) := goodIn_app (goodIn_of _ (by decide +kernel)) ggX8_line_X4_add
theorem dX8_line_0 : decode cX8_line 0 = .ok (.iload_n 1, 1) := by decide +kernel
theorem dX8_line_1 : decode cX8_line 1 = .ok (.ifCond .lt 21, 3) := by decide +kernel
theorem dX8_line_4 : decode cX8_line 4 = .ok (.iload_n 1, 1) := by decide +kernel
theorem dX8_line_5 : decode cX8_line 5 = .ok (.sipush 500, 3) := by decide +kernel
theorem dX8_line_8 : decode cX8_line 8 = .ok (.if_icmp .gt 14, 3) := by decide +kernel
theorem dX8_line_11 : decode cX8_line 11 = .ok (.iload_n 2, 1) := by decide +kernel
theorem dX8_line_12 : decode cX8_line 12 = .ok (.ifCond .lt 10, 3) := by decide +kernel
theorem dX8_line_15 : decode cX8_line 15 = .ok (.iload_n 2, 1) := by decide +kernel
theorem dX8_line_16 : decode cX8_line 16 = .ok (.sipush 200, 3) := by decide +kernel
theorem dX8_line_19 : decode cX8_line 19 = .ok (.if_icmp .le 6, 3) := by decide +kernel
theorem dX8_line_22 : decode cX8_line 22 = .ok (.ldc 85, 2) := by decide +kernel
theorem dX8_line_24 : decode cX8_line 24 = .ok (.ireturn, 1) := by decide +kernel
theorem dX8_line_25 : decode cX8_line 25 = .ok (.aload_n 0, 1) := by decide +kernel
theorem dX8_line_26 : decode cX8_line 26 = .ok (.getfield 81, 3) := by decide +kernel
theorem dX8_line_29 : decode cX8_line 29 = .ok (.iload_n 1, 1) := by decide +kernel
theorem dX8_line_30 : decode cX8_line 30 = .ok (.iload_n 2, 1) := by decide +kernel
theorem dX8_line_31 : decode cX8_line 31 = .ok (.invokevirtual 235, 3) := by decide +kernel
theorem dX8_line_34 : decode cX8_line 34 = .ok (.ireturn, 1) := by decide +kernel
set_option maxRecDepth 20000 in
theorem ggX8_canBeOne_X4_has : GoodIn wsX8_canBeOne wsX4_has := goodIn_r _ [7, 8, 30, 31, 32, 33] (by decide +kernel) (by decide +kernel)
set_option maxRecDepth 20000 in
theorem gX8_canBeOne_X4_has : GoodIn wsX8_canBeOne (wsV RX8 236 RX4 yX4_has wsX4_has) := goodIn_app (goodIn_of _ (by decide +kernel)) ggX8_canBeOne_X4_has
set_option maxRecDepth 20000 in
theorem ggX8_canBeOne_X4_agree : GoodIn wsX8_canBeOne wsX4_agree := goodIn_r _ [12, 13, 14, 15, 4, 5, 6, 7, 8, 30, 31, 32, 33] (by decide +kernel) (by decide +kernel)
set_option maxRecDepth 20000 in
theorem gX8_canBeOne_X4_agree : GoodIn wsX8_canBeOne (wsV RX8 239 RX4 yX4_agree wsX4_agree) := goodIn_app (goodIn_of _ (by decide +kernel)) ggX8_canBeOne_X4_agree
theorem dX8_canBeOne_0 : decode cX8_canBeOne 0 = .ok (.aload_n 0, 1) := by decide +kernel
theorem dX8_canBeOne_1 : decode cX8_canBeOne 1 = .ok (.getfield 81, 3) := by decide +kernel
theorem dX8_canBeOne_4 : decode cX8_canBeOne 4 = .ok (.iload_n 1, 1) := by decide +kernel
theorem dX8_canBeOne_5 : decode cX8_canBeOne 5 = .ok (.invokevirtual 236, 3) := by decide +kernel
theorem dX8_canBeOne_8 : decode cX8_canBeOne 8 = .ok (.ifCond .eq 19, 3) := by decide +kernel
theorem dX8_canBeOne_11 : decode cX8_canBeOne 11 = .ok (.aload_n 0, 1) := by decide +kernel
theorem dX8_canBeOne_12 : decode cX8_canBeOne 12 = .ok (.getfield 81, 3) := by decide +kernel
theorem dX8_canBeOne_15 : decode cX8_canBeOne 15 = .ok (.iload_n 2, 1) := by decide +kernel
theorem dX8_canBeOne_16 : decode cX8_canBeOne 16 = .ok (.invokevirtual 236, 3) := by decide +kernel
theorem dX8_canBeOne_19 : decode cX8_canBeOne 19 = .ok (.ifCond .eq 8, 3) := by decide +kernel
theorem dX8_canBeOne_22 : decode cX8_canBeOne 22 = .ok (.iload_n 1, 1) := by decide +kernel
theorem dX8_canBeOne_23 : decode cX8_canBeOne 23 = .ok (.iload_n 2, 1) := by decide +kernel
theorem dX8_canBeOne_24 : decode cX8_canBeOne 24 = .ok (.if_icmp .ne 6, 3) := by decide +kernel
theorem dX8_canBeOne_27 : decode cX8_canBeOne 27 = .ok (.ldc 85, 2) := by decide +kernel
theorem dX8_canBeOne_29 : decode cX8_canBeOne 29 = .ok (.ireturn, 1) := by decide +kernel
theorem dX8_canBeOne_30 : decode cX8_canBeOne 30 = .ok (.aload_n 0, 1) := by decide +kernel
theorem dX8_canBeOne_31 : decode cX8_canBeOne 31 = .ok (.getfield 81, 3) := by decide +kernel
theorem dX8_canBeOne_34 : decode cX8_canBeOne 34 = .ok (.iload_n 1, 1) := by decide +kernel
theorem dX8_canBeOne_35 : decode cX8_canBeOne 35 = .ok (.iload_n 2, 1) := by decide +kernel
theorem dX8_canBeOne_36 : decode cX8_canBeOne 36 = .ok (.invokevirtual 239, 3) := by decide +kernel
theorem dX8_canBeOne_39 : decode cX8_canBeOne 39 = .ok (.ifCond .eq 7, 3) := by decide +kernel
theorem dX8_canBeOne_42 : decode cX8_canBeOne 42 = .ok (.iconst 1, 1) := by decide +kernel
theorem dX8_canBeOne_43 : decode cX8_canBeOne 43 = .ok (.goto 4, 3) := by decide +kernel
theorem dX8_canBeOne_46 : decode cX8_canBeOne 46 = .ok (.iconst 0, 1) := by decide +kernel
theorem dX8_canBeOne_47 : decode cX8_canBeOne 47 = .ok (.ireturn, 1) := by decide +kernel
set_option maxRecDepth 20000 in
theorem ggX8_fewest_X4_has : GoodIn wsX8_fewest wsX4_has := goodIn_r _ [8, 9, 47, 48, 49, 50] (by decide +kernel) (by decide +kernel)
set_option maxRecDepth 20000 in
theorem gX8_fewest_X4_has : GoodIn wsX8_fewest (wsV RX8 236 RX4 yX4_has wsX4_has) := goodIn_app (goodIn_of _ (by decide +kernel)) ggX8_fewest_X4_has
set_option maxRecDepth 20000 in
theorem ggX8_fewest_X4_leastMen : GoodIn wsX8_fewest wsX4_leastMen := goodIn_r _ [13, 14, 15, 7, 16, 9, 17, 18, 19, 20, 21, 22, 23, 24, 25, 26, 27, 28, 29, 30, 31, 32, 5, 6, 8, 47, 48, 49, 50] (by decide +kernel) (by decide +kernel)
set_option maxRecDepth 20000 in
theorem gX8_fewest_X4_leastMen : GoodIn wsX8_fewest (wsV RX8 243 RX4 yX4_leastMen wsX4_leastMen) := goodIn_app (goodIn_of _ (by decide +kernel)) ggX8_fewest_X4_leastMen
theorem dX8_fewest_0 : decode cX8_fewest 0 = .ok (.iload_n 1, 1) := by decide +kernel
theorem dX8_fewest_1 : decode cX8_fewest 1 = .ok (.iconst (-1), 1) := by decide +kernel
theorem dX8_fewest_2 : decode cX8_fewest 2 = .ok (.if_icmp .eq 17, 3) := by decide +kernel
theorem dX8_fewest_5 : decode cX8_fewest 5 = .ok (.aload_n 0, 1) := by decide +kernel
theorem dX8_fewest_6 : decode cX8_fewest 6 = .ok (.getfield 81, 3) := by decide +kernel
theorem dX8_fewest_9 : decode cX8_fewest 9 = .ok (.iload_n 1, 1) := by decide +kernel
theorem dX8_fewest_10 : decode cX8_fewest 10 = .ok (.invokevirtual 236, 3) := by decide +kernel
theorem dX8_fewest_13 : decode cX8_fewest 13 = .ok (.ifCond .ne 6, 3) := by decide +kernel
theorem dX8_fewest_16 : decode cX8_fewest 16 = .ok (.ldc 85, 2) := by decide +kernel
theorem dX8_fewest_18 : decode cX8_fewest 18 = .ok (.ireturn, 1) := by decide +kernel
theorem dX8_fewest_19 : decode cX8_fewest 19 = .ok (.aload_n 0, 1) := by decide +kernel
theorem dX8_fewest_20 : decode cX8_fewest 20 = .ok (.getfield 81, 3) := by decide +kernel
theorem dX8_fewest_23 : decode cX8_fewest 23 = .ok (.invokevirtual 243, 3) := by decide +kernel
theorem dX8_fewest_26 : decode cX8_fewest 26 = .ok (.istore_n 2, 1) := by decide +kernel
theorem dX8_fewest_27 : decode cX8_fewest 27 = .ok (.iload_n 1, 1) := by decide +kernel
theorem dX8_fewest_28 : decode cX8_fewest 28 = .ok (.iconst (-1), 1) := by decide +kernel
theorem dX8_fewest_29 : decode cX8_fewest 29 = .ok (.if_icmp .ne 7, 3) := by decide +kernel
theorem dX8_fewest_32 : decode cX8_fewest 32 = .ok (.iload_n 2, 1) := by decide +kernel
theorem dX8_fewest_33 : decode cX8_fewest 33 = .ok (.goto 12, 3) := by decide +kernel
theorem dX8_fewest_36 : decode cX8_fewest 36 = .ok (.aload_n 0, 1) := by decide +kernel
theorem dX8_fewest_37 : decode cX8_fewest 37 = .ok (.getfield 81, 3) := by decide +kernel
theorem dX8_fewest_40 : decode cX8_fewest 40 = .ok (.getfield 247, 3) := by decide +kernel
theorem dX8_fewest_43 : decode cX8_fewest 43 = .ok (.iload_n 1, 1) := by decide +kernel
theorem dX8_fewest_44 : decode cX8_fewest 44 = .ok (.iaload, 1) := by decide +kernel
theorem dX8_fewest_45 : decode cX8_fewest 45 = .ok (.ireturn, 1) := by decide +kernel
theorem dX8_tear_0 : decode cX8_tear 0 = .ok (.aload_n 0, 1) := by decide +kernel
theorem dX8_tear_1 : decode cX8_tear 1 = .ok (.getfield 74, 3) := by decide +kernel
theorem dX8_tear_4 : decode cX8_tear 4 = .ok (.getfield 108, 3) := by decide +kernel
theorem dX8_tear_7 : decode cX8_tear 7 = .ok (.aload_n 0, 1) := by decide +kernel
theorem dX8_tear_8 : decode cX8_tear 8 = .ok (.getfield 81, 3) := by decide +kernel
theorem dX8_tear_11 : decode cX8_tear 11 = .ok (.getfield 109, 3) := by decide +kernel
theorem dX8_tear_14 : decode cX8_tear 14 = .ok (.iadd, 1) := by decide +kernel
theorem dX8_tear_15 : decode cX8_tear 15 = .ok (.istore_n 1, 1) := by decide +kernel
theorem dX8_tear_16 : decode cX8_tear 16 = .ok (.aload_n 0, 1) := by decide +kernel
theorem dX8_tear_17 : decode cX8_tear 17 = .ok (.getfield 74, 3) := by decide +kernel
theorem dX8_tear_20 : decode cX8_tear 20 = .ok (.iconst 0, 1) := by decide +kernel
theorem dX8_tear_21 : decode cX8_tear 21 = .ok (.putfield 108, 3) := by decide +kernel
theorem dX8_tear_24 : decode cX8_tear 24 = .ok (.aload_n 0, 1) := by decide +kernel
theorem dX8_tear_25 : decode cX8_tear 25 = .ok (.getfield 81, 3) := by decide +kernel
theorem dX8_tear_28 : decode cX8_tear 28 = .ok (.iconst 0, 1) := by decide +kernel
theorem dX8_tear_29 : decode cX8_tear 29 = .ok (.putfield 109, 3) := by decide +kernel
theorem dX8_tear_32 : decode cX8_tear 32 = .ok (.iload_n 1, 1) := by decide +kernel
theorem dX8_tear_33 : decode cX8_tear 33 = .ok (.ireturn, 1) := by decide +kernel
theorem dX8_seed_0 : decode cX8_seed 0 = .ok (.iload_n 1, 1) := by decide +kernel
theorem dX8_seed_1 : decode cX8_seed 1 = .ok (.ifCond .ge 6, 3) := by decide +kernel
theorem dX8_seed_4 : decode cX8_seed 4 = .ok (.ldc 85, 2) := by decide +kernel
theorem dX8_seed_6 : decode cX8_seed 6 = .ok (.ireturn, 1) := by decide +kernel
theorem dX8_seed_7 : decode cX8_seed 7 = .ok (.aload_n 0, 1) := by decide +kernel
theorem dX8_seed_8 : decode cX8_seed 8 = .ok (.getfield 47, 3) := by decide +kernel
theorem dX8_seed_11 : decode cX8_seed 11 = .ok (.getfield 250, 3) := by decide +kernel
theorem dX8_seed_14 : decode cX8_seed 14 = .ok (.istore_n 2, 1) := by decide +kernel
theorem dX8_seed_15 : decode cX8_seed 15 = .ok (.aload_n 0, 1) := by decide +kernel
theorem dX8_seed_16 : decode cX8_seed 16 = .ok (.getfield 47, 3) := by decide +kernel
theorem dX8_seed_19 : decode cX8_seed 19 = .ok (.iload_n 1, 1) := by decide +kernel
theorem dX8_seed_20 : decode cX8_seed 20 = .ok (.putfield 250, 3) := by decide +kernel
theorem dX8_seed_23 : decode cX8_seed 23 = .ok (.iload_n 2, 1) := by decide +kernel
theorem dX8_seed_24 : decode cX8_seed 24 = .ok (.ireturn, 1) := by decide +kernel
set_option maxRecDepth 20000 in
theorem ggX8_keep_X2_copyFrom : GoodIn wsX8_keep wsX2_copyFrom := goodIn_r _ [10, 11, 12, 13, 14, 15, 30, 31, 32, 33, 34, 35] (by decide +kernel) (by decide +kernel)
set_option maxRecDepth 20000 in
theorem gX8_keep_X2_copyFrom : GoodIn wsX8_keep (wsV RX8 253 RX2 yX2_copyFrom wsX2_copyFrom) := goodIn_app (goodIn_of _ (by decide +kernel)) ggX8_keep_X2_copyFrom
theorem dX8_keep_0 : decode cX8_keep 0 = .ok (.iload_n 1, 1) := by decide +kernel
theorem dX8_keep_1 : decode cX8_keep 1 = .ok (.ifCond .lt 8, 3) := by decide +kernel
theorem dX8_keep_4 : decode cX8_keep 4 = .ok (.iload_n 1, 1) := by decide +kernel
theorem dX8_keep_5 : decode cX8_keep 5 = .ok (.iconst 1, 1) := by decide +kernel
theorem dX8_keep_6 : decode cX8_keep 6 = .ok (.if_icmp .le 6, 3) := by decide +kernel
theorem dX8_keep_9 : decode cX8_keep 9 = .ok (.ldc 140, 2) := by decide +kernel
theorem dX8_keep_11 : decode cX8_keep 11 = .ok (.ireturn, 1) := by decide +kernel
theorem dX8_keep_12 : decode cX8_keep 12 = .ok (.iload_n 1, 1) := by decide +kernel
theorem dX8_keep_13 : decode cX8_keep 13 = .ok (.ifCond .ne 10, 3) := by decide +kernel
theorem dX8_keep_16 : decode cX8_keep 16 = .ok (.aload_n 0, 1) := by decide +kernel
theorem dX8_keep_17 : decode cX8_keep 17 = .ok (.getfield 51, 3) := by decide +kernel
theorem dX8_keep_20 : decode cX8_keep 20 = .ok (.goto 7, 3) := by decide +kernel
theorem dX8_keep_23 : decode cX8_keep 23 = .ok (.aload_n 0, 1) := by decide +kernel
theorem dX8_keep_24 : decode cX8_keep 24 = .ok (.getfield 54, 3) := by decide +kernel
theorem dX8_keep_27 : decode cX8_keep 27 = .ok (.astore_n 2, 1) := by decide +kernel
theorem dX8_keep_28 : decode cX8_keep 28 = .ok (.aload_n 2, 1) := by decide +kernel
theorem dX8_keep_29 : decode cX8_keep 29 = .ok (.aload_n 0, 1) := by decide +kernel
theorem dX8_keep_30 : decode cX8_keep 30 = .ok (.getfield 47, 3) := by decide +kernel
theorem dX8_keep_33 : decode cX8_keep 33 = .ok (.invokevirtual 253, 3) := by decide +kernel
theorem dX8_keep_36 : decode cX8_keep 36 = .ok (.aload_n 2, 1) := by decide +kernel
theorem dX8_keep_37 : decode cX8_keep 37 = .ok (.iconst 1, 1) := by decide +kernel
theorem dX8_keep_38 : decode cX8_keep 38 = .ok (.putfield 101, 3) := by decide +kernel
theorem dX8_keep_41 : decode cX8_keep 41 = .ok (.iconst 1, 1) := by decide +kernel
theorem dX8_keep_42 : decode cX8_keep 42 = .ok (.ireturn, 1) := by decide +kernel
set_option maxRecDepth 20000 in
theorem ggX8_goBack_X2_copyFrom : GoodIn wsX8_goBack wsX2_copyFrom := goodIn_r _ [11, 12, 13, 14, 15, 16, 31, 32, 33, 34, 35, 36] (by decide +kernel) (by decide +kernel)
set_option maxRecDepth 20000 in
theorem gX8_goBack_X2_copyFrom : GoodIn wsX8_goBack (wsV RX8 253 RX2 yX2_copyFrom wsX2_copyFrom) := goodIn_app (goodIn_of _ (by decide +kernel)) ggX8_goBack_X2_copyFrom
theorem dX8_goBack_0 : decode cX8_goBack 0 = .ok (.iload_n 1, 1) := by decide +kernel
theorem dX8_goBack_1 : decode cX8_goBack 1 = .ok (.ifCond .lt 8, 3) := by decide +kernel
theorem dX8_goBack_4 : decode cX8_goBack 4 = .ok (.iload_n 1, 1) := by decide +kernel
theorem dX8_goBack_5 : decode cX8_goBack 5 = .ok (.iconst 1, 1) := by decide +kernel
theorem dX8_goBack_6 : decode cX8_goBack 6 = .ok (.if_icmp .le 6, 3) := by decide +kernel
theorem dX8_goBack_9 : decode cX8_goBack 9 = .ok (.ldc 140, 2) := by decide +kernel
theorem dX8_goBack_11 : decode cX8_goBack 11 = .ok (.ireturn, 1) := by decide +kernel
theorem dX8_goBack_12 : decode cX8_goBack 12 = .ok (.iload_n 1, 1) := by decide +kernel
theorem dX8_goBack_13 : decode cX8_goBack 13 = .ok (.ifCond .ne 10, 3) := by decide +kernel
theorem dX8_goBack_16 : decode cX8_goBack 16 = .ok (.aload_n 0, 1) := by decide +kernel
theorem dX8_goBack_17 : decode cX8_goBack 17 = .ok (.getfield 51, 3) := by decide +kernel
theorem dX8_goBack_20 : decode cX8_goBack 20 = .ok (.goto 7, 3) := by decide +kernel
theorem dX8_goBack_23 : decode cX8_goBack 23 = .ok (.aload_n 0, 1) := by decide +kernel
theorem dX8_goBack_24 : decode cX8_goBack 24 = .ok (.getfield 54, 3) := by decide +kernel
theorem dX8_goBack_27 : decode cX8_goBack 27 = .ok (.astore_n 2, 1) := by decide +kernel
theorem dX8_goBack_28 : decode cX8_goBack 28 = .ok (.aload_n 2, 1) := by decide +kernel
theorem dX8_goBack_29 : decode cX8_goBack 29 = .ok (.getfield 101, 3) := by decide +kernel
theorem dX8_goBack_32 : decode cX8_goBack 32 = .ok (.ifCond .ne 6, 3) := by decide +kernel
theorem dX8_goBack_35 : decode cX8_goBack 35 = .ok (.ldc 172, 2) := by decide +kernel
theorem dX8_goBack_37 : decode cX8_goBack 37 = .ok (.ireturn, 1) := by decide +kernel
theorem dX8_goBack_38 : decode cX8_goBack 38 = .ok (.aload_n 0, 1) := by decide +kernel
theorem dX8_goBack_39 : decode cX8_goBack 39 = .ok (.getfield 47, 3) := by decide +kernel
theorem dX8_goBack_42 : decode cX8_goBack 42 = .ok (.aload_n 2, 1) := by decide +kernel
theorem dX8_goBack_43 : decode cX8_goBack 43 = .ok (.invokevirtual 253, 3) := by decide +kernel
theorem dX8_goBack_46 : decode cX8_goBack 46 = .ok (.iconst 1, 1) := by decide +kernel
theorem dX8_goBack_47 : decode cX8_goBack 47 = .ok (.ireturn, 1) := by decide +kernel
theorem dX8_isDays_0 : decode cX8_isDays 0 = .ok (.iload_n 0, 1) := by decide +kernel
theorem dX8_isDays_1 : decode cX8_isDays 1 = .ok (.iconst 1, 1) := by decide +kernel
theorem dX8_isDays_2 : decode cX8_isDays 2 = .ok (.if_icmp .lt 13, 3) := by decide +kernel
theorem dX8_isDays_5 : decode cX8_isDays 5 = .ok (.iload_n 0, 1) := by decide +kernel
theorem dX8_isDays_6 : decode cX8_isDays 6 = .ok (.bipush 40, 2) := by decide +kernel
theorem dX8_isDays_8 : decode cX8_isDays 8 = .ok (.if_icmp .gt 7, 3) := by decide +kernel
theorem dX8_isDays_11 : decode cX8_isDays 11 = .ok (.iconst 1, 1) := by decide +kernel
theorem dX8_isDays_12 : decode cX8_isDays 12 = .ok (.goto 4, 3) := by decide +kernel
theorem dX8_isDays_15 : decode cX8_isDays 15 = .ok (.iconst 0, 1) := by decide +kernel
theorem dX8_isDays_16 : decode cX8_isDays 16 = .ok (.ireturn, 1) := by decide +kernel
theorem dJ9_max_7cf53_0 : decode cJ9_max_7cf53 0 = .ok (.iload_n 0, 1) := by decide +kernel
theorem dJ9_max_7cf53_1 : decode cJ9_max_7cf53 1 = .ok (.iload_n 1, 1) := by decide +kernel
theorem dJ9_max_7cf53_2 : decode cJ9_max_7cf53 2 = .ok (.if_icmp .lt 7, 3) := by decide +kernel
theorem dJ9_max_7cf53_5 : decode cJ9_max_7cf53 5 = .ok (.iload_n 0, 1) := by decide +kernel
theorem dJ9_max_7cf53_6 : decode cJ9_max_7cf53 6 = .ok (.goto 4, 3) := by decide +kernel
theorem dJ9_max_7cf53_9 : decode cJ9_max_7cf53 9 = .ok (.iload_n 1, 1) := by decide +kernel
theorem dJ9_max_7cf53_10 : decode cJ9_max_7cf53 10 = .ok (.ireturn, 1) := by decide +kernel
theorem dJ9_min_7cf53_0 : decode cJ9_min_7cf53 0 = .ok (.iload_n 0, 1) := by decide +kernel
theorem dJ9_min_7cf53_1 : decode cJ9_min_7cf53 1 = .ok (.iload_n 1, 1) := by decide +kernel
theorem dJ9_min_7cf53_2 : decode cJ9_min_7cf53 2 = .ok (.if_icmp .gt 7, 3) := by decide +kernel
theorem dJ9_min_7cf53_5 : decode cJ9_min_7cf53 5 = .ok (.iload_n 0, 1) := by decide +kernel
theorem dJ9_min_7cf53_6 : decode cJ9_min_7cf53 6 = .ok (.goto 4, 3) := by decide +kernel
theorem dJ9_min_7cf53_9 : decode cJ9_min_7cf53 9 = .ok (.iload_n 1, 1) := by decide +kernel
theorem dJ9_min_7cf53_10 : decode cJ9_min_7cf53 10 = .ok (.ireturn, 1) := by decide +kernel
theorem dJ9_min_f86c9_0 : decode cJ9_min_f86c9 0 = .ok (.lload_n 0, 1) := by decide +kernel
theorem dJ9_min_f86c9_1 : decode cJ9_min_f86c9 1 = .ok (.lload_n 2, 1) := by decide +kernel
theorem dJ9_min_f86c9_2 : decode cJ9_min_f86c9 2 = .ok (.lcmp, 1) := by decide +kernel
theorem dJ9_min_f86c9_3 : decode cJ9_min_f86c9 3 = .ok (.ifCond .gt 7, 3) := by decide +kernel
theorem dJ9_min_f86c9_6 : decode cJ9_min_f86c9 6 = .ok (.lload_n 0, 1) := by decide +kernel
theorem dJ9_min_f86c9_7 : decode cJ9_min_f86c9 7 = .ok (.goto 4, 3) := by decide +kernel
theorem dJ9_min_f86c9_10 : decode cJ9_min_f86c9 10 = .ok (.lload_n 2, 1) := by decide +kernel
theorem dJ9_min_f86c9_11 : decode cJ9_min_f86c9 11 = .ok (.lreturn, 1) := by decide +kernel
set_option maxRecDepth 20000 in
theorem ggJ0_length_8abf5_J0_coder_7d493 : GoodIn wsJ0_length_8abf5 wsJ0_coder_7d493 := goodIn_r _ [6, 7, 8] (by decide +kernel) (by decide +kernel)
set_option maxRecDepth 20000 in
theorem gJ0_length_8abf5_J0_coder_7d493 : GoodIn wsJ0_length_8abf5 (wsV RJ0 335 RJ0 yJ0_coder_7d493 wsJ0_coder_7d493) := goodIn_app (goodIn_of _ (by decide +kernel)) ggJ0_length_8abf5_J0_coder_7d493
theorem dJ0_length_8abf5_0 : decode cJ0_length_8abf5 0 = .ok (.aload_n 0, 1) := by decide +kernel
theorem dJ0_length_8abf5_1 : decode cJ0_length_8abf5 1 = .ok (.getfield 9, 3) := by decide +kernel
theorem dJ0_length_8abf5_4 : decode cJ0_length_8abf5 4 = .ok (.arraylength, 1) := by decide +kernel
theorem dJ0_length_8abf5_5 : decode cJ0_length_8abf5 5 = .ok (.aload_n 0, 1) := by decide +kernel
theorem dJ0_length_8abf5_6 : decode cJ0_length_8abf5 6 = .ok (.invokevirtual 335, 3) := by decide +kernel
theorem dJ0_length_8abf5_9 : decode cJ0_length_8abf5 9 = .ok (.ishr, 1) := by decide +kernel
theorem dJ0_length_8abf5_10 : decode cJ0_length_8abf5 10 = .ok (.ireturn, 1) := by decide +kernel
set_option maxRecDepth 20000 in
theorem ggJ0_charAt_5068e_J0_isLatin1_aae02 : GoodIn wsJ0_charAt_5068e wsJ0_isLatin1_aae02 := goodIn_r _ [6, 7, 8] (by decide +kernel) (by decide +kernel)
set_option maxRecDepth 20000 in
theorem gJ0_charAt_5068e_J0_isLatin1_aae02 : GoodIn wsJ0_charAt_5068e (wsV RJ0 492 RJ0 yJ0_isLatin1_aae02 wsJ0_isLatin1_aae02) := goodIn_app (goodIn_of _ (by decide +kernel)) ggJ0_charAt_5068e_J0_isLatin1_aae02
set_option maxRecDepth 20000 in
theorem ggJ0_charAt_5068e_J1_charAt_3b067 : GoodIn wsJ0_charAt_5068e wsJ1_charAt_3b067 := goodIn_r _ [12, 13, 14, 5, 15, 16, 17, 18, 19, 20] (by decide +kernel) (by decide +kernel)
set_option maxRecDepth 20000 in
theorem gJ0_charAt_5068e_J1_charAt_3b067 : GoodIn wsJ0_charAt_5068e (va_wsS RJ0 495 yJ1_charAt_3b067 wsJ1_charAt_3b067) := goodIn_app (goodIn_of _ (by decide +kernel)) ggJ0_charAt_5068e_J1_charAt_3b067
set_option maxRecDepth 20000 in
theorem ggJ0_charAt_5068e_J2_charAt_3b067 : GoodIn wsJ0_charAt_5068e wsJ2_charAt_3b067 := goodIn_r _ [24, 25, 26, 23, 27, 28, 29, 30, 31, 14, 5, 15, 16, 17, 18, 19, 20, 32, 33, 34, 35, 36, 37] (by decide +kernel) (by decide +kernel)
set_option maxRecDepth 20000 in
theorem gJ0_charAt_5068e_J2_charAt_3b067 : GoodIn wsJ0_charAt_5068e (va_wsS RJ0 498 yJ2_charAt_3b067 wsJ2_charAt_3b067) := goodIn_app (goodIn_of _ (by decide +kernel)) ggJ0_charAt_5068e_J2_charAt_3b067
theorem dJ0_charAt_5068e_0 : decode cJ0_charAt_5068e 0 = .ok (.aload_n 0, 1) := by decide +kernel
theorem dJ0_charAt_5068e_1 : decode cJ0_charAt_5068e 1 = .ok (.invokevirtual 492, 3) := by decide +kernel
theorem dJ0_charAt_5068e_4 : decode cJ0_charAt_5068e 4 = .ok (.ifCond .eq 12, 3) := by decide +kernel
theorem dJ0_charAt_5068e_7 : decode cJ0_charAt_5068e 7 = .ok (.aload_n 0, 1) := by decide +kernel
theorem dJ0_charAt_5068e_8 : decode cJ0_charAt_5068e 8 = .ok (.getfield 9, 3) := by decide +kernel
theorem dJ0_charAt_5068e_11 : decode cJ0_charAt_5068e 11 = .ok (.iload_n 1, 1) := by decide +kernel
theorem dJ0_charAt_5068e_12 : decode cJ0_charAt_5068e 12 = .ok (.invokestatic 495, 3) := by decide +kernel
theorem dJ0_charAt_5068e_15 : decode cJ0_charAt_5068e 15 = .ok (.ireturn, 1) := by decide +kernel
theorem dJ0_charAt_5068e_16 : decode cJ0_charAt_5068e 16 = .ok (.aload_n 0, 1) := by decide +kernel
theorem dJ0_charAt_5068e_17 : decode cJ0_charAt_5068e 17 = .ok (.getfield 9, 3) := by decide +kernel
theorem dJ0_charAt_5068e_20 : decode cJ0_charAt_5068e 20 = .ok (.iload_n 1, 1) := by decide +kernel
theorem dJ0_charAt_5068e_21 : decode cJ0_charAt_5068e 21 = .ok (.invokestatic 498, 3) := by decide +kernel
theorem dJ0_charAt_5068e_24 : decode cJ0_charAt_5068e 24 = .ok (.ireturn, 1) := by decide +kernel
theorem dJ0_coder_7d493_0 : decode cJ0_coder_7d493 0 = .ok (.getstatic 38, 3) := by decide +kernel
theorem dJ0_coder_7d493_3 : decode cJ0_coder_7d493 3 = .ok (.ifCond .eq 10, 3) := by decide +kernel
theorem dJ0_coder_7d493_6 : decode cJ0_coder_7d493 6 = .ok (.aload_n 0, 1) := by decide +kernel
theorem dJ0_coder_7d493_7 : decode cJ0_coder_7d493 7 = .ok (.getfield 15, 3) := by decide +kernel
theorem dJ0_coder_7d493_10 : decode cJ0_coder_7d493 10 = .ok (.goto 4, 3) := by decide +kernel
theorem dJ0_coder_7d493_13 : decode cJ0_coder_7d493 13 = .ok (.iconst 1, 1) := by decide +kernel
theorem dJ0_coder_7d493_14 : decode cJ0_coder_7d493 14 = .ok (.ireturn, 1) := by decide +kernel
theorem dJ0_isLatin1_aae02_0 : decode cJ0_isLatin1_aae02 0 = .ok (.getstatic 38, 3) := by decide +kernel
theorem dJ0_isLatin1_aae02_3 : decode cJ0_isLatin1_aae02 3 = .ok (.ifCond .eq 14, 3) := by decide +kernel
theorem dJ0_isLatin1_aae02_6 : decode cJ0_isLatin1_aae02 6 = .ok (.aload_n 0, 1) := by decide +kernel
theorem dJ0_isLatin1_aae02_7 : decode cJ0_isLatin1_aae02 7 = .ok (.getfield 15, 3) := by decide +kernel
theorem dJ0_isLatin1_aae02_10 : decode cJ0_isLatin1_aae02 10 = .ok (.ifCond .ne 7, 3) := by decide +kernel
theorem dJ0_isLatin1_aae02_13 : decode cJ0_isLatin1_aae02 13 = .ok (.iconst 1, 1) := by decide +kernel
theorem dJ0_isLatin1_aae02_14 : decode cJ0_isLatin1_aae02 14 = .ok (.goto 4, 3) := by decide +kernel
theorem dJ0_isLatin1_aae02_17 : decode cJ0_isLatin1_aae02 17 = .ok (.iconst 0, 1) := by decide +kernel
theorem dJ0_isLatin1_aae02_18 : decode cJ0_isLatin1_aae02 18 = .ok (.ireturn, 1) := by decide +kernel
set_option maxRecDepth 20000 in
theorem ggJ0_checkIndex_df160_J3_checkIndex_8e157 : GoodIn wsJ0_checkIndex_df160 wsJ3_checkIndex_8e157 := goodIn_r _ [5] (by decide +kernel) (by decide +kernel)
set_option maxRecDepth 20000 in
theorem gJ0_checkIndex_df160_J3_checkIndex_8e157 : GoodIn wsJ0_checkIndex_df160 (va_wsS RJ0 1059 yJ3_checkIndex_8e157 wsJ3_checkIndex_8e157) := goodIn_app (goodIn_of _ (by decide +kernel)) ggJ0_checkIndex_df160_J3_checkIndex_8e157
theorem dJ0_checkIndex_df160_0 : decode cJ0_checkIndex_df160 0 = .ok (.iload_n 0, 1) := by decide +kernel
theorem dJ0_checkIndex_df160_1 : decode cJ0_checkIndex_df160 1 = .ok (.iload_n 1, 1) := by decide +kernel
theorem dJ0_checkIndex_df160_2 : decode cJ0_checkIndex_df160 2 = .ok (.getstatic 1053, 3) := by decide +kernel
theorem dJ0_checkIndex_df160_5 : decode cJ0_checkIndex_df160 5 = .ok (.invokestatic 1059, 3) := by decide +kernel
theorem dJ0_checkIndex_df160_8 : decode cJ0_checkIndex_df160 8 = .ok (.pop, 1) := by decide +kernel
theorem dJ0_checkIndex_df160_9 : decode cJ0_checkIndex_df160 9 = .ok (.return_, 1) := by decide +kernel
set_option maxRecDepth 20000 in
theorem ggJ1_charAt_3b067_J0_checkIndex_df160 : GoodIn wsJ1_charAt_3b067 wsJ0_checkIndex_df160 := goodIn_r _ [4, 5, 6, 7, 8, 9] (by decide +kernel) (by decide +kernel)
set_option maxRecDepth 20000 in
theorem gJ1_charAt_3b067_J0_checkIndex_df160 : GoodIn wsJ1_charAt_3b067 (va_wsS RJ1 9 yJ0_checkIndex_df160 wsJ0_checkIndex_df160) := goodIn_app (goodIn_of _ (by decide +kernel)) ggJ1_charAt_3b067_J0_checkIndex_df160
theorem dJ1_charAt_3b067_0 : decode cJ1_charAt_3b067 0 = .ok (.iload_n 1, 1) := by decide +kernel
theorem dJ1_charAt_3b067_1 : decode cJ1_charAt_3b067 1 = .ok (.aload_n 0, 1) := by decide +kernel
theorem dJ1_charAt_3b067_2 : decode cJ1_charAt_3b067 2 = .ok (.arraylength, 1) := by decide +kernel
theorem dJ1_charAt_3b067_3 : decode cJ1_charAt_3b067 3 = .ok (.invokestatic 9, 3) := by decide +kernel
theorem dJ1_charAt_3b067_6 : decode cJ1_charAt_3b067 6 = .ok (.aload_n 0, 1) := by decide +kernel
theorem dJ1_charAt_3b067_7 : decode cJ1_charAt_3b067 7 = .ok (.iload_n 1, 1) := by decide +kernel
theorem dJ1_charAt_3b067_8 : decode cJ1_charAt_3b067 8 = .ok (.baload, 1) := by decide +kernel
theorem dJ1_charAt_3b067_9 : decode cJ1_charAt_3b067 9 = .ok (.sipush 255, 3) := by decide +kernel
theorem dJ1_charAt_3b067_12 : decode cJ1_charAt_3b067 12 = .ok (.iand, 1) := by decide +kernel
theorem dJ1_charAt_3b067_13 : decode cJ1_charAt_3b067 13 = .ok (.i2c, 1) := by decide +kernel
theorem dJ1_charAt_3b067_14 : decode cJ1_charAt_3b067 14 = .ok (.ireturn, 1) := by decide +kernel
set_option maxRecDepth 20000 in
theorem ggJ2_getChar_3b067_J2_length_9d52b : GoodIn wsJ2_getChar_3b067 wsJ2_length_9d52b := goodIn_r _ [7] (by decide +kernel) (by decide +kernel)
set_option maxRecDepth 20000 in
theorem gJ2_getChar_3b067_J2_length_9d52b : GoodIn wsJ2_getChar_3b067 (va_wsS RJ2 48 yJ2_length_9d52b wsJ2_length_9d52b) := goodIn_app (goodIn_of _ (by decide +kernel)) ggJ2_getChar_3b067_J2_length_9d52b
theorem dJ2_getChar_3b067_0 : decode cJ2_getChar_3b067 0 = .ok (.getstatic 44, 3) := by decide +kernel
theorem dJ2_getChar_3b067_3 : decode cJ2_getChar_3b067 3 = .ok (.ifCond .ne 25, 3) := by decide +kernel
theorem dJ2_getChar_3b067_6 : decode cJ2_getChar_3b067 6 = .ok (.iload_n 1, 1) := by decide +kernel
theorem dJ2_getChar_3b067_7 : decode cJ2_getChar_3b067 7 = .ok (.ifCond .lt 11, 3) := by decide +kernel
theorem dJ2_getChar_3b067_10 : decode cJ2_getChar_3b067 10 = .ok (.iload_n 1, 1) := by decide +kernel
theorem dJ2_getChar_3b067_11 : decode cJ2_getChar_3b067 11 = .ok (.aload_n 0, 1) := by decide +kernel
theorem dJ2_getChar_3b067_12 : decode cJ2_getChar_3b067 12 = .ok (.invokestatic 48, 3) := by decide +kernel
theorem dJ2_getChar_3b067_15 : decode cJ2_getChar_3b067 15 = .ok (.if_icmp .lt 13, 3) := by decide +kernel
theorem dJ2_getChar_3b067_18 : decode cJ2_getChar_3b067 18 = .ok (.new 52, 3) := by decide +kernel
theorem dJ2_getChar_3b067_21 : decode cJ2_getChar_3b067 21 = .ok (.dup, 1) := by decide +kernel
theorem dJ2_getChar_3b067_22 : decode cJ2_getChar_3b067 22 = .ok (.ldc 54, 2) := by decide +kernel
theorem dJ2_getChar_3b067_24 : decode cJ2_getChar_3b067 24 = .ok (.invokespecial 56, 3) := by decide +kernel
theorem dJ2_getChar_3b067_27 : decode cJ2_getChar_3b067 27 = .ok (.athrow, 1) := by decide +kernel
theorem dJ2_getChar_3b067_28 : decode cJ2_getChar_3b067 28 = .ok (.iload_n 1, 1) := by decide +kernel
theorem dJ2_getChar_3b067_29 : decode cJ2_getChar_3b067 29 = .ok (.iconst 1, 1) := by decide +kernel
theorem dJ2_getChar_3b067_30 : decode cJ2_getChar_3b067 30 = .ok (.ishl, 1) := by decide +kernel
theorem dJ2_getChar_3b067_31 : decode cJ2_getChar_3b067 31 = .ok (.istore_n 1, 1) := by decide +kernel
theorem dJ2_getChar_3b067_32 : decode cJ2_getChar_3b067 32 = .ok (.aload_n 0, 1) := by decide +kernel
theorem dJ2_getChar_3b067_33 : decode cJ2_getChar_3b067 33 = .ok (.iload_n 1, 1) := by decide +kernel
theorem dJ2_getChar_3b067_34 : decode cJ2_getChar_3b067 34 = .ok (.iinc 1 1, 3) := by decide +kernel
theorem dJ2_getChar_3b067_37 : decode cJ2_getChar_3b067 37 = .ok (.baload, 1) := by decide +kernel
theorem dJ2_getChar_3b067_38 : decode cJ2_getChar_3b067 38 = .ok (.sipush 255, 3) := by decide +kernel
theorem dJ2_getChar_3b067_41 : decode cJ2_getChar_3b067 41 = .ok (.iand, 1) := by decide +kernel
theorem dJ2_getChar_3b067_42 : decode cJ2_getChar_3b067 42 = .ok (.getstatic 59, 3) := by decide +kernel
theorem dJ2_getChar_3b067_45 : decode cJ2_getChar_3b067 45 = .ok (.ishl, 1) := by decide +kernel
theorem dJ2_getChar_3b067_46 : decode cJ2_getChar_3b067 46 = .ok (.aload_n 0, 1) := by decide +kernel
theorem dJ2_getChar_3b067_47 : decode cJ2_getChar_3b067 47 = .ok (.iload_n 1, 1) := by decide +kernel
theorem dJ2_getChar_3b067_48 : decode cJ2_getChar_3b067 48 = .ok (.baload, 1) := by decide +kernel
theorem dJ2_getChar_3b067_49 : decode cJ2_getChar_3b067 49 = .ok (.sipush 255, 3) := by decide +kernel
theorem dJ2_getChar_3b067_52 : decode cJ2_getChar_3b067 52 = .ok (.iand, 1) := by decide +kernel
theorem dJ2_getChar_3b067_53 : decode cJ2_getChar_3b067 53 = .ok (.getstatic 63, 3) := by decide +kernel
theorem dJ2_getChar_3b067_56 : decode cJ2_getChar_3b067 56 = .ok (.ishl, 1) := by decide +kernel
theorem dJ2_getChar_3b067_57 : decode cJ2_getChar_3b067 57 = .ok (.ior, 1) := by decide +kernel
theorem dJ2_getChar_3b067_58 : decode cJ2_getChar_3b067 58 = .ok (.i2c, 1) := by decide +kernel
theorem dJ2_getChar_3b067_59 : decode cJ2_getChar_3b067 59 = .ok (.ireturn, 1) := by decide +kernel
theorem dJ2_length_9d52b_0 : decode cJ2_length_9d52b 0 = .ok (.aload_n 0, 1) := by decide +kernel
theorem dJ2_length_9d52b_1 : decode cJ2_length_9d52b 1 = .ok (.arraylength, 1) := by decide +kernel
theorem dJ2_length_9d52b_2 : decode cJ2_length_9d52b 2 = .ok (.iconst 1, 1) := by decide +kernel
theorem dJ2_length_9d52b_3 : decode cJ2_length_9d52b 3 = .ok (.ishr, 1) := by decide +kernel
theorem dJ2_length_9d52b_4 : decode cJ2_length_9d52b 4 = .ok (.ireturn, 1) := by decide +kernel
set_option maxRecDepth 20000 in
theorem ggJ2_charAt_3b067_J2_checkIndex_2214a : GoodIn wsJ2_charAt_3b067 wsJ2_checkIndex_2214a := goodIn_r _ [4, 5, 6, 3, 7, 8, 9, 10, 11, 12, 13, 14, 15, 16] (by decide +kernel) (by decide +kernel)
set_option maxRecDepth 20000 in
theorem gJ2_charAt_3b067_J2_checkIndex_2214a : GoodIn wsJ2_charAt_3b067 (va_wsS RJ2 67 yJ2_checkIndex_2214a wsJ2_checkIndex_2214a) := goodIn_app (goodIn_of _ (by decide +kernel)) ggJ2_charAt_3b067_J2_checkIndex_2214a
set_option maxRecDepth 20000 in
theorem ggJ2_charAt_3b067_J2_getChar_3b067 : GoodIn wsJ2_charAt_3b067 wsJ2_getChar_3b067 := goodIn_r _ [19, 20, 21, 22, 5, 6, 3, 7] (by decide +kernel) (by decide +kernel)
set_option maxRecDepth 20000 in
theorem gJ2_charAt_3b067_J2_getChar_3b067 : GoodIn wsJ2_charAt_3b067 (va_wsS RJ2 71 yJ2_getChar_3b067 wsJ2_getChar_3b067) := goodIn_app (goodIn_of _ (by decide +kernel)) ggJ2_charAt_3b067_J2_getChar_3b067
theorem dJ2_charAt_3b067_0 : decode cJ2_charAt_3b067 0 = .ok (.iload_n 1, 1) := by decide +kernel
theorem dJ2_charAt_3b067_1 : decode cJ2_charAt_3b067 1 = .ok (.aload_n 0, 1) := by decide +kernel
theorem dJ2_charAt_3b067_2 : decode cJ2_charAt_3b067 2 = .ok (.invokestatic 67, 3) := by decide +kernel
theorem dJ2_charAt_3b067_5 : decode cJ2_charAt_3b067 5 = .ok (.aload_n 0, 1) := by decide +kernel
theorem dJ2_charAt_3b067_6 : decode cJ2_charAt_3b067 6 = .ok (.iload_n 1, 1) := by decide +kernel
theorem dJ2_charAt_3b067_7 : decode cJ2_charAt_3b067 7 = .ok (.invokestatic 71, 3) := by decide +kernel
theorem dJ2_charAt_3b067_10 : decode cJ2_charAt_3b067 10 = .ok (.ireturn, 1) := by decide +kernel
set_option maxRecDepth 20000 in
theorem ggJ2_checkIndex_2214a_J2_length_9d52b : GoodIn wsJ2_checkIndex_2214a wsJ2_length_9d52b := goodIn_r _ [4] (by decide +kernel) (by decide +kernel)
set_option maxRecDepth 20000 in
theorem gJ2_checkIndex_2214a_J2_length_9d52b : GoodIn wsJ2_checkIndex_2214a (va_wsS RJ2 48 yJ2_length_9d52b wsJ2_length_9d52b) := goodIn_app (goodIn_of _ (by decide +kernel)) ggJ2_checkIndex_2214a_J2_length_9d52b
set_option maxRecDepth 20000 in
theorem ggJ2_checkIndex_2214a_J0_checkIndex_df160 : GoodIn wsJ2_checkIndex_2214a wsJ0_checkIndex_df160 := goodIn_r _ [8, 9, 10, 11, 12, 13] (by decide +kernel) (by decide +kernel)
set_option maxRecDepth 20000 in
theorem gJ2_checkIndex_2214a_J0_checkIndex_df160 : GoodIn wsJ2_checkIndex_2214a (va_wsS RJ2 414 yJ0_checkIndex_df160 wsJ0_checkIndex_df160) := goodIn_app (goodIn_of _ (by decide +kernel)) ggJ2_checkIndex_2214a_J0_checkIndex_df160
theorem dJ2_checkIndex_2214a_0 : decode cJ2_checkIndex_2214a 0 = .ok (.iload_n 0, 1) := by decide +kernel
theorem dJ2_checkIndex_2214a_1 : decode cJ2_checkIndex_2214a 1 = .ok (.aload_n 1, 1) := by decide +kernel
theorem dJ2_checkIndex_2214a_2 : decode cJ2_checkIndex_2214a 2 = .ok (.invokestatic 48, 3) := by decide +kernel
theorem dJ2_checkIndex_2214a_5 : decode cJ2_checkIndex_2214a 5 = .ok (.invokestatic 414, 3) := by decide +kernel
theorem dJ2_checkIndex_2214a_8 : decode cJ2_checkIndex_2214a 8 = .ok (.return_, 1) := by decide +kernel
theorem dJ3_checkIndex_8e157_0 : decode cJ3_checkIndex_8e157 0 = .ok (.iload_n 0, 1) := by decide +kernel
theorem dJ3_checkIndex_8e157_1 : decode cJ3_checkIndex_8e157 1 = .ok (.ifCond .lt 8, 3) := by decide +kernel
theorem dJ3_checkIndex_8e157_4 : decode cJ3_checkIndex_8e157 4 = .ok (.iload_n 0, 1) := by decide +kernel
theorem dJ3_checkIndex_8e157_5 : decode cJ3_checkIndex_8e157 5 = .ok (.iload_n 1, 1) := by decide +kernel
theorem dJ3_checkIndex_8e157_6 : decode cJ3_checkIndex_8e157 6 = .ok (.if_icmp .lt 10, 3) := by decide +kernel
theorem dJ3_checkIndex_8e157_9 : decode cJ3_checkIndex_8e157 9 = .ok (.aload_n 2, 1) := by decide +kernel
theorem dJ3_checkIndex_8e157_10 : decode cJ3_checkIndex_8e157 10 = .ok (.iload_n 0, 1) := by decide +kernel
theorem dJ3_checkIndex_8e157_11 : decode cJ3_checkIndex_8e157 11 = .ok (.iload_n 1, 1) := by decide +kernel
theorem dJ3_checkIndex_8e157_12 : decode cJ3_checkIndex_8e157 12 = .ok (.invokestatic 95, 3) := by decide +kernel
theorem dJ3_checkIndex_8e157_15 : decode cJ3_checkIndex_8e157 15 = .ok (.athrow, 1) := by decide +kernel
theorem dJ3_checkIndex_8e157_16 : decode cJ3_checkIndex_8e157 16 = .ok (.iload_n 0, 1) := by decide +kernel
theorem dJ3_checkIndex_8e157_17 : decode cJ3_checkIndex_8e157 17 = .ok (.ireturn, 1) := by decide +kernel
