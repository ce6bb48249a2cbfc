theorem dX9_init_0 : decode cX9_init 0 = .ok (.aload_n 0, 1) := by decide +kernel
theorem dX9_init_1 : decode cX9_init 1 = .ok (.invokespecial 1, 3) := by decide +kernel
theorem dX9_init_4 : decode cX9_init 4 = .ok (.aload_n 0, 1) := by decide +kernel
theorem dX9_init_5 : decode cX9_init 5 = .ok (.sipush 500, 3) := by decide +kernel
theorem dX9_init_8 : decode cX9_init 8 = .ok (.newarray .byte, 2) := by decide +kernel
theorem dX9_init_10 : decode cX9_init 10 = .ok (.putfield 7, 3) := by decide +kernel
theorem dX9_init_13 : decode cX9_init 13 = .ok (.aload_n 0, 1) := by decide +kernel
theorem dX9_init_14 : decode cX9_init 14 = .ok (.iconst 2, 1) := by decide +kernel
theorem dX9_init_15 : decode cX9_init 15 = .ok (.newarray .int, 2) := by decide +kernel
theorem dX9_init_17 : decode cX9_init 17 = .ok (.putfield 13, 3) := by decide +kernel
theorem dX9_init_20 : decode cX9_init 20 = .ok (.aload_n 0, 1) := by decide +kernel
theorem dX9_init_21 : decode cX9_init 21 = .ok (.bipush 14, 2) := by decide +kernel
theorem dX9_init_23 : decode cX9_init 23 = .ok (.newarray .int, 2) := by decide +kernel
theorem dX9_init_25 : decode cX9_init 25 = .ok (.putfield 17, 3) := by decide +kernel
theorem dX9_init_28 : decode cX9_init 28 = .ok (.aload_n 0, 1) := by decide +kernel
theorem dX9_init_29 : decode cX9_init 29 = .ok (.bipush 14, 2) := by decide +kernel
theorem dX9_init_31 : decode cX9_init 31 = .ok (.newarray .int, 2) := by decide +kernel
theorem dX9_init_33 : decode cX9_init 33 = .ok (.putfield 20, 3) := by decide +kernel
theorem dX9_init_36 : decode cX9_init 36 = .ok (.aload_n 0, 1) := by decide +kernel
theorem dX9_init_37 : decode cX9_init 37 = .ok (.iconst 2, 1) := by decide +kernel
theorem dX9_init_38 : decode cX9_init 38 = .ok (.newarray .int, 2) := by decide +kernel
theorem dX9_init_40 : decode cX9_init 40 = .ok (.putfield 23, 3) := by decide +kernel
theorem dX9_init_43 : decode cX9_init 43 = .ok (.aload_n 0, 1) := by decide +kernel
theorem dX9_init_44 : decode cX9_init 44 = .ok (.iconst 2, 1) := by decide +kernel
theorem dX9_init_45 : decode cX9_init 45 = .ok (.newarray .int, 2) := by decide +kernel
theorem dX9_init_47 : decode cX9_init 47 = .ok (.putfield 26, 3) := by decide +kernel
theorem dX9_init_50 : decode cX9_init 50 = .ok (.aload_n 0, 1) := by decide +kernel
theorem dX9_init_51 : decode cX9_init 51 = .ok (.iconst 2, 1) := by decide +kernel
theorem dX9_init_52 : decode cX9_init 52 = .ok (.newarray .int, 2) := by decide +kernel
theorem dX9_init_54 : decode cX9_init 54 = .ok (.putfield 29, 3) := by decide +kernel
theorem dX9_init_57 : decode cX9_init 57 = .ok (.aload_n 0, 1) := by decide +kernel
theorem dX9_init_58 : decode cX9_init 58 = .ok (.bipush 12, 2) := by decide +kernel
theorem dX9_init_60 : decode cX9_init 60 = .ok (.newarray .int, 2) := by decide +kernel
theorem dX9_init_62 : decode cX9_init 62 = .ok (.putfield 32, 3) := by decide +kernel
theorem dX9_init_65 : decode cX9_init 65 = .ok (.aload_n 0, 1) := by decide +kernel
theorem dX9_init_66 : decode cX9_init 66 = .ok (.bipush 12, 2) := by decide +kernel
theorem dX9_init_68 : decode cX9_init 68 = .ok (.newarray .int, 2) := by decide +kernel
theorem dX9_init_70 : decode cX9_init 70 = .ok (.putfield 35, 3) := by decide +kernel
theorem dX9_init_73 : decode cX9_init 73 = .ok (.aload_n 0, 1) := by decide +kernel
theorem dX9_init_74 : decode cX9_init 74 = .ok (.iconst 2, 1) := by decide +kernel
theorem dX9_init_75 : decode cX9_init 75 = .ok (.newarray .int, 2) := by decide +kernel
theorem dX9_init_77 : decode cX9_init 77 = .ok (.putfield 38, 3) := by decide +kernel
theorem dX9_init_80 : decode cX9_init 80 = .ok (.aload_n 0, 1) := by decide +kernel
theorem dX9_init_81 : decode cX9_init 81 = .ok (.iconst 2, 1) := by decide +kernel
theorem dX9_init_82 : decode cX9_init 82 = .ok (.newarray .int, 2) := by decide +kernel
theorem dX9_init_84 : decode cX9_init 84 = .ok (.putfield 41, 3) := by decide +kernel
theorem dX9_init_87 : decode cX9_init 87 = .ok (.aload_n 0, 1) := by decide +kernel
theorem dX9_init_88 : decode cX9_init 88 = .ok (.bipush 10, 2) := by decide +kernel
theorem dX9_init_90 : decode cX9_init 90 = .ok (.newarray .int, 2) := by decide +kernel
theorem dX9_init_92 : decode cX9_init 92 = .ok (.putfield 44, 3) := by decide +kernel
theorem dX9_init_95 : decode cX9_init 95 = .ok (.aload_n 0, 1) := by decide +kernel
theorem dX9_init_96 : decode cX9_init 96 = .ok (.bipush 10, 2) := by decide +kernel
theorem dX9_init_98 : decode cX9_init 98 = .ok (.newarray .int, 2) := by decide +kernel
theorem dX9_init_100 : decode cX9_init 100 = .ok (.putfield 47, 3) := by decide +kernel
theorem dX9_init_103 : decode cX9_init 103 = .ok (.aload_n 0, 1) := by decide +kernel
theorem dX9_init_104 : decode cX9_init 104 = .ok (.bipush 60, 2) := by decide +kernel
theorem dX9_init_106 : decode cX9_init 106 = .ok (.newarray .int, 2) := by decide +kernel
theorem dX9_init_108 : decode cX9_init 108 = .ok (.putfield 50, 3) := by decide +kernel
theorem dX9_init_111 : decode cX9_init 111 = .ok (.aload_n 0, 1) := by decide +kernel
theorem dX9_init_112 : decode cX9_init 112 = .ok (.iconst 2, 1) := by decide +kernel
theorem dX9_init_113 : decode cX9_init 113 = .ok (.newarray .boolean, 2) := by decide +kernel
theorem dX9_init_115 : decode cX9_init 115 = .ok (.putfield 53, 3) := by decide +kernel
theorem dX9_init_118 : decode cX9_init 118 = .ok (.aload_n 0, 1) := by decide +kernel
theorem dX9_init_119 : decode cX9_init 119 = .ok (.bipush 40, 2) := by decide +kernel
theorem dX9_init_121 : decode cX9_init 121 = .ok (.newarray .int, 2) := by decide +kernel
theorem dX9_init_123 : decode cX9_init 123 = .ok (.putfield 57, 3) := by decide +kernel
theorem dX9_init_126 : decode cX9_init 126 = .ok (.aload_n 0, 1) := by decide +kernel
theorem dX9_init_127 : decode cX9_init 127 = .ok (.sipush 287, 3) := by decide +kernel
theorem dX9_init_130 : decode cX9_init 130 = .ok (.newarray .int, 2) := by decide +kernel
theorem dX9_init_132 : decode cX9_init 132 = .ok (.putfield 60, 3) := by decide +kernel
theorem dX9_init_135 : decode cX9_init 135 = .ok (.aload_n 0, 1) := by decide +kernel
theorem dX9_init_136 : decode cX9_init 136 = .ok (.sipush 287, 3) := by decide +kernel
theorem dX9_init_139 : decode cX9_init 139 = .ok (.newarray .int, 2) := by decide +kernel
theorem dX9_init_141 : decode cX9_init 141 = .ok (.putfield 63, 3) := by decide +kernel
theorem dX9_init_144 : decode cX9_init 144 = .ok (.aload_n 0, 1) := by decide +kernel
theorem dX9_init_145 : decode cX9_init 145 = .ok (.sipush 26978, 3) := by decide +kernel
theorem dX9_init_148 : decode cX9_init 148 = .ok (.newarray .long, 2) := by decide +kernel
theorem dX9_init_150 : decode cX9_init 150 = .ok (.putfield 66, 3) := by decide +kernel
theorem dX9_init_153 : decode cX9_init 153 = .ok (.aload_n 0, 1) := by decide +kernel
theorem dX9_init_154 : decode cX9_init 154 = .ok (.bipush 40, 2) := by decide +kernel
theorem dX9_init_156 : decode cX9_init 156 = .ok (.newarray .int, 2) := by decide +kernel
theorem dX9_init_158 : decode cX9_init 158 = .ok (.putfield 70, 3) := by decide +kernel
theorem dX9_init_161 : decode cX9_init 161 = .ok (.aload_n 0, 1) := by decide +kernel
theorem dX9_init_162 : decode cX9_init 162 = .ok (.bipush 10, 2) := by decide +kernel
theorem dX9_init_164 : decode cX9_init 164 = .ok (.newarray .int, 2) := by decide +kernel
theorem dX9_init_166 : decode cX9_init 166 = .ok (.putfield 73, 3) := by decide +kernel
theorem dX9_init_169 : decode cX9_init 169 = .ok (.aload_n 0, 1) := by decide +kernel
theorem dX9_init_170 : decode cX9_init 170 = .ok (.bipush 10, 2) := by decide +kernel
theorem dX9_init_172 : decode cX9_init 172 = .ok (.newarray .int, 2) := by decide +kernel
theorem dX9_init_174 : decode cX9_init 174 = .ok (.putfield 76, 3) := by decide +kernel
theorem dX9_init_177 : decode cX9_init 177 = .ok (.aload_n 0, 1) := by decide +kernel
theorem dX9_init_178 : decode cX9_init 178 = .ok (.bipush 8, 2) := by decide +kernel
theorem dX9_init_180 : decode cX9_init 180 = .ok (.newarray .int, 2) := by decide +kernel
theorem dX9_init_182 : decode cX9_init 182 = .ok (.putfield 79, 3) := by decide +kernel
theorem dX9_init_185 : decode cX9_init 185 = .ok (.aload_n 0, 1) := by decide +kernel
theorem dX9_init_186 : decode cX9_init 186 = .ok (.bipush 8, 2) := by decide +kernel
theorem dX9_init_188 : decode cX9_init 188 = .ok (.newarray .int, 2) := by decide +kernel
theorem dX9_init_190 : decode cX9_init 190 = .ok (.putfield 82, 3) := by decide +kernel
theorem dX9_init_193 : decode cX9_init 193 = .ok (.aload_n 0, 1) := by decide +kernel
theorem dX9_init_194 : decode cX9_init 194 = .ok (.bipush 8, 2) := by decide +kernel
theorem dX9_init_196 : decode cX9_init 196 = .ok (.newarray .int, 2) := by decide +kernel
theorem dX9_init_198 : decode cX9_init 198 = .ok (.putfield 85, 3) := by decide +kernel
theorem dX9_init_201 : decode cX9_init 201 = .ok (.aload_n 0, 1) := by decide +kernel
theorem dX9_init_202 : decode cX9_init 202 = .ok (.bipush 8, 2) := by decide +kernel
theorem dX9_init_204 : decode cX9_init 204 = .ok (.newarray .int, 2) := by decide +kernel
theorem dX9_init_206 : decode cX9_init 206 = .ok (.putfield 88, 3) := by decide +kernel
theorem dX9_init_209 : decode cX9_init 209 = .ok (.aload_n 0, 1) := by decide +kernel
theorem dX9_init_210 : decode cX9_init 210 = .ok (.iconst (-1), 1) := by decide +kernel
theorem dX9_init_211 : decode cX9_init 211 = .ok (.putfield 91, 3) := by decide +kernel
theorem dX9_init_214 : decode cX9_init 214 = .ok (.return_, 1) := by decide +kernel
theorem dX9_in_0 : decode cX9_in 0 = .ok (.iload_n 0, 1) := by decide +kernel
theorem dX9_in_1 : decode cX9_in 1 = .ok (.iload_n 1, 1) := by decide +kernel
theorem dX9_in_2 : decode cX9_in 2 = .ok (.if_icmp .lt 12, 3) := by decide +kernel
theorem dX9_in_5 : decode cX9_in 5 = .ok (.iload_n 0, 1) := by decide +kernel
theorem dX9_in_6 : decode cX9_in 6 = .ok (.iload_n 2, 1) := by decide +kernel
theorem dX9_in_7 : decode cX9_in 7 = .ok (.if_icmp .gt 7, 3) := by decide +kernel
theorem dX9_in_10 : decode cX9_in 10 = .ok (.iconst 1, 1) := by decide +kernel
theorem dX9_in_11 : decode cX9_in 11 = .ok (.goto 4, 3) := by decide +kernel
theorem dX9_in_14 : decode cX9_in 14 = .ok (.iconst 0, 1) := by decide +kernel
theorem dX9_in_15 : decode cX9_in 15 = .ok (.ireturn, 1) := by decide +kernel
set_option maxRecDepth 20000 in
theorem ggX9_feed_X9_in : GoodIn wsX9_feed wsX9_in := goodIn_r _ [9] (by decide +kernel) (by decide +kernel)
set_option maxRecDepth 20000 in
theorem gX9_feed_X9_in : GoodIn wsX9_feed (va_wsS RX9 95 yX9_in wsX9_in) := goodIn_app (goodIn_of _ (by decide +kernel)) ggX9_feed_X9_in
theorem dX9_feed_0 : decode cX9_feed 0 = .ok (.iload_n 1, 1) := by decide +kernel
theorem dX9_feed_1 : decode cX9_feed 1 = .ok (.iconst 1, 1) := by decide +kernel
theorem dX9_feed_2 : decode cX9_feed 2 = .ok (.bipush 8, 2) := by decide +kernel
theorem dX9_feed_4 : decode cX9_feed 4 = .ok (.invokestatic 95, 3) := by decide +kernel
theorem dX9_feed_7 : decode cX9_feed 7 = .ok (.ifCond .ne 6, 3) := by decide +kernel
theorem dX9_feed_10 : decode cX9_feed 10 = .ok (.ldc 99, 2) := by decide +kernel
theorem dX9_feed_12 : decode cX9_feed 12 = .ok (.ireturn, 1) := by decide +kernel
theorem dX9_feed_13 : decode cX9_feed 13 = .ok (.aload_n 0, 1) := by decide +kernel
theorem dX9_feed_14 : decode cX9_feed 14 = .ok (.getfield 100, 3) := by decide +kernel
theorem dX9_feed_17 : decode cX9_feed 17 = .ok (.iload_n 1, 1) := by decide +kernel
theorem dX9_feed_18 : decode cX9_feed 18 = .ok (.iadd, 1) := by decide +kernel
theorem dX9_feed_19 : decode cX9_feed 19 = .ok (.sipush 500, 3) := by decide +kernel
theorem dX9_feed_22 : decode cX9_feed 22 = .ok (.if_icmp .le 6, 3) := by decide +kernel
theorem dX9_feed_25 : decode cX9_feed 25 = .ok (.ldc 103, 2) := by decide +kernel
theorem dX9_feed_27 : decode cX9_feed 27 = .ok (.ireturn, 1) := by decide +kernel
theorem dX9_feed_28 : decode cX9_feed 28 = .ok (.iload_n 1, 1) := by decide +kernel
theorem dX9_feed_29 : decode cX9_feed 29 = .ok (.iconst 1, 1) := by decide +kernel
theorem dX9_feed_30 : decode cX9_feed 30 = .ok (.isub, 1) := by decide +kernel
theorem dX9_feed_31 : decode cX9_feed 31 = .ok (.istore 4, 2) := by decide +kernel
theorem dX9_feed_33 : decode cX9_feed 33 = .ok (.iload 4, 2) := by decide +kernel
theorem dX9_feed_35 : decode cX9_feed 35 = .ok (.ifCond .lt 41, 3) := by decide +kernel
theorem dX9_feed_38 : decode cX9_feed 38 = .ok (.aload_n 0, 1) := by decide +kernel
theorem dX9_feed_39 : decode cX9_feed 39 = .ok (.getfield 7, 3) := by decide +kernel
theorem dX9_feed_42 : decode cX9_feed 42 = .ok (.aload_n 0, 1) := by decide +kernel
theorem dX9_feed_43 : decode cX9_feed 43 = .ok (.getfield 100, 3) := by decide +kernel
theorem dX9_feed_46 : decode cX9_feed 46 = .ok (.lload_n 2, 1) := by decide +kernel
theorem dX9_feed_47 : decode cX9_feed 47 = .ok (.bipush 8, 2) := by decide +kernel
theorem dX9_feed_49 : decode cX9_feed 49 = .ok (.iload 4, 2) := by decide +kernel
theorem dX9_feed_51 : decode cX9_feed 51 = .ok (.imul, 1) := by decide +kernel
theorem dX9_feed_52 : decode cX9_feed 52 = .ok (.lshr, 1) := by decide +kernel
theorem dX9_feed_53 : decode cX9_feed 53 = .ok (.ldc2_w 104, 3) := by decide +kernel
theorem dX9_feed_56 : decode cX9_feed 56 = .ok (.land, 1) := by decide +kernel
theorem dX9_feed_57 : decode cX9_feed 57 = .ok (.l2i, 1) := by decide +kernel
theorem dX9_feed_58 : decode cX9_feed 58 = .ok (.i2b, 1) := by decide +kernel
theorem dX9_feed_59 : decode cX9_feed 59 = .ok (.bastore, 1) := by decide +kernel
theorem dX9_feed_60 : decode cX9_feed 60 = .ok (.aload_n 0, 1) := by decide +kernel
theorem dX9_feed_61 : decode cX9_feed 61 = .ok (.dup, 1) := by decide +kernel
theorem dX9_feed_62 : decode cX9_feed 62 = .ok (.getfield 100, 3) := by decide +kernel
theorem dX9_feed_65 : decode cX9_feed 65 = .ok (.iconst 1, 1) := by decide +kernel
theorem dX9_feed_66 : decode cX9_feed 66 = .ok (.iadd, 1) := by decide +kernel
theorem dX9_feed_67 : decode cX9_feed 67 = .ok (.putfield 100, 3) := by decide +kernel
theorem dX9_feed_70 : decode cX9_feed 70 = .ok (.iinc 4 (-1), 3) := by decide +kernel
theorem dX9_feed_73 : decode cX9_feed 73 = .ok (.goto (-40), 3) := by decide +kernel
theorem dX9_feed_76 : decode cX9_feed 76 = .ok (.aload_n 0, 1) := by decide +kernel
theorem dX9_feed_77 : decode cX9_feed 77 = .ok (.getfield 100, 3) := by decide +kernel
theorem dX9_feed_80 : decode cX9_feed 80 = .ok (.ireturn, 1) := by decide +kernel
theorem dX9_here_0 : decode cX9_here 0 = .ok (.aload_n 0, 1) := by decide +kernel
theorem dX9_here_1 : decode cX9_here 1 = .ok (.getfield 106, 3) := by decide +kernel
theorem dX9_here_4 : decode cX9_here 4 = .ok (.aload_n 0, 1) := by decide +kernel
theorem dX9_here_5 : decode cX9_here 5 = .ok (.getfield 100, 3) := by decide +kernel
theorem dX9_here_8 : decode cX9_here 8 = .ok (.if_icmp .ge 19, 3) := by decide +kernel
theorem dX9_here_11 : decode cX9_here 11 = .ok (.aload_n 0, 1) := by decide +kernel
theorem dX9_here_12 : decode cX9_here 12 = .ok (.getfield 7, 3) := by decide +kernel
theorem dX9_here_15 : decode cX9_here 15 = .ok (.aload_n 0, 1) := by decide +kernel
theorem dX9_here_16 : decode cX9_here 16 = .ok (.getfield 106, 3) := by decide +kernel
theorem dX9_here_19 : decode cX9_here 19 = .ok (.baload, 1) := by decide +kernel
theorem dX9_here_20 : decode cX9_here 20 = .ok (.sipush 255, 3) := by decide +kernel
theorem dX9_here_23 : decode cX9_here 23 = .ok (.iand, 1) := by decide +kernel
theorem dX9_here_24 : decode cX9_here 24 = .ok (.goto 4, 3) := by decide +kernel
theorem dX9_here_27 : decode cX9_here 27 = .ok (.iconst (-1), 1) := by decide +kernel
theorem dX9_here_28 : decode cX9_here 28 = .ok (.ireturn, 1) := by decide +kernel
theorem dX9_meaning_0 : decode cX9_meaning 0 = .ok (.iload_n 1, 1) := by decide +kernel
theorem dX9_meaning_1 : decode cX9_meaning 1 = .ok (.ifCond .le 23, 3) := by decide +kernel
theorem dX9_meaning_4 : decode cX9_meaning 4 = .ok (.iload_n 0, 1) := by decide +kernel
theorem dX9_meaning_5 : decode cX9_meaning 5 = .ok (.ldc 109, 2) := by decide +kernel
theorem dX9_meaning_7 : decode cX9_meaning 7 = .ok (.if_icmp .ne 14, 3) := by decide +kernel
theorem dX9_meaning_10 : decode cX9_meaning 10 = .ok (.iload_n 1, 1) := by decide +kernel
theorem dX9_meaning_11 : decode cX9_meaning 11 = .ok (.sipush 533, 3) := by decide +kernel
theorem dX9_meaning_14 : decode cX9_meaning 14 = .ok (.if_icmp .ne 7, 3) := by decide +kernel
theorem dX9_meaning_17 : decode cX9_meaning 17 = .ok (.iconst 4, 1) := by decide +kernel
theorem dX9_meaning_18 : decode cX9_meaning 18 = .ok (.goto 5, 3) := by decide +kernel
theorem dX9_meaning_21 : decode cX9_meaning 21 = .ok (.bipush 9, 2) := by decide +kernel
theorem dX9_meaning_23 : decode cX9_meaning 23 = .ok (.ireturn, 1) := by decide +kernel
theorem dX9_meaning_24 : decode cX9_meaning 24 = .ok (.iload_n 0, 1) := by decide +kernel
theorem dX9_meaning_25 : decode cX9_meaning 25 = .ok (.lookupswitch 61 #[(16819, 55), (316163, 51), (7219835, 53), (232608281, 57), (335098125, 59)], 51) := by decide +kernel
theorem dX9_meaning_76 : decode cX9_meaning 76 = .ok (.iconst 0, 1) := by decide +kernel
theorem dX9_meaning_77 : decode cX9_meaning 77 = .ok (.ireturn, 1) := by decide +kernel
theorem dX9_meaning_78 : decode cX9_meaning 78 = .ok (.iconst 1, 1) := by decide +kernel
theorem dX9_meaning_79 : decode cX9_meaning 79 = .ok (.ireturn, 1) := by decide +kernel
theorem dX9_meaning_80 : decode cX9_meaning 80 = .ok (.iconst 2, 1) := by decide +kernel
theorem dX9_meaning_81 : decode cX9_meaning 81 = .ok (.ireturn, 1) := by decide +kernel
theorem dX9_meaning_82 : decode cX9_meaning 82 = .ok (.iconst 3, 1) := by decide +kernel
theorem dX9_meaning_83 : decode cX9_meaning 83 = .ok (.ireturn, 1) := by decide +kernel
theorem dX9_meaning_84 : decode cX9_meaning 84 = .ok (.iconst 5, 1) := by decide +kernel
theorem dX9_meaning_85 : decode cX9_meaning 85 = .ok (.ireturn, 1) := by decide +kernel
theorem dX9_meaning_86 : decode cX9_meaning 86 = .ok (.bipush 9, 2) := by decide +kernel
theorem dX9_meaning_88 : decode cX9_meaning 88 = .ok (.ireturn, 1) := by decide +kernel
set_option maxRecDepth 20000 in
theorem ggX9_step_X9_here : GoodIn wsX9_step wsX9_here := goodIn_r _ [10, 1, 11, 12, 20, 21, 22, 23, 24, 25, 26, 27, 28, 29, 30, 31, 32, 33, 34, 35, 36, 37, 38, 39, 40, 41, 42, 43, 44, 45, 46, 47, 48, 49, 50, 51, 52, 53, 54, 55, 56, 57] (by decide +kernel) (by decide +kernel)
set_option maxRecDepth 20000 in
theorem gX9_step_X9_here : GoodIn wsX9_step (wsV RX9 110 RX9 yX9_here wsX9_here) := goodIn_app (goodIn_of _ (by decide +kernel)) ggX9_step_X9_here
set_option maxRecDepth 20000 in
theorem ggX9_step_X9_in : GoodIn wsX9_step wsX9_in := goodIn_r _ [15] (by decide +kernel) (by decide +kernel)
set_option maxRecDepth 20000 in
theorem gX9_step_X9_in : GoodIn wsX9_step (va_wsS RX9 95 yX9_in wsX9_in) := goodIn_app (goodIn_of _ (by decide +kernel)) ggX9_step_X9_in
set_option maxRecDepth 20000 in
theorem ggX9_step_X9_meaning : GoodIn wsX9_step wsX9_meaning := goodIn_r _ [18, 19] (by decide +kernel) (by decide +kernel)
set_option maxRecDepth 20000 in
theorem gX9_step_X9_meaning : GoodIn wsX9_step (va_wsS RX9 124 yX9_meaning wsX9_meaning) := goodIn_app (goodIn_of _ (by decide +kernel)) ggX9_step_X9_meaning
theorem dX9_step_0 : decode cX9_step 0 = .ok (.aload_n 0, 1) := by decide +kernel
theorem dX9_step_1 : decode cX9_step 1 = .ok (.invokevirtual 110, 3) := by decide +kernel
theorem dX9_step_4 : decode cX9_step 4 = .ok (.bipush 32, 2) := by decide +kernel
theorem dX9_step_6 : decode cX9_step 6 = .ok (.if_icmp .ne 16, 3) := by decide +kernel
theorem dX9_step_9 : decode cX9_step 9 = .ok (.aload_n 0, 1) := by decide +kernel
theorem dX9_step_10 : decode cX9_step 10 = .ok (.dup, 1) := by decide +kernel
theorem dX9_step_11 : decode cX9_step 11 = .ok (.getfield 106, 3) := by decide +kernel
theorem dX9_step_14 : decode cX9_step 14 = .ok (.iconst 1, 1) := by decide +kernel
theorem dX9_step_15 : decode cX9_step 15 = .ok (.iadd, 1) := by decide +kernel
theorem dX9_step_16 : decode cX9_step 16 = .ok (.putfield 106, 3) := by decide +kernel
theorem dX9_step_19 : decode cX9_step 19 = .ok (.goto (-19), 3) := by decide +kernel
theorem dX9_step_22 : decode cX9_step 22 = .ok (.aload_n 0, 1) := by decide +kernel
theorem dX9_step_23 : decode cX9_step 23 = .ok (.aload_n 0, 1) := by decide +kernel
theorem dX9_step_24 : decode cX9_step 24 = .ok (.getfield 106, 3) := by decide +kernel
theorem dX9_step_27 : decode cX9_step 27 = .ok (.putfield 114, 3) := by decide +kernel
theorem dX9_step_30 : decode cX9_step 30 = .ok (.aload_n 0, 1) := by decide +kernel
theorem dX9_step_31 : decode cX9_step 31 = .ok (.iconst 0, 1) := by decide +kernel
theorem dX9_step_32 : decode cX9_step 32 = .ok (.putfield 117, 3) := by decide +kernel
theorem dX9_step_35 : decode cX9_step 35 = .ok (.aload_n 0, 1) := by decide +kernel
theorem dX9_step_36 : decode cX9_step 36 = .ok (.invokevirtual 110, 3) := by decide +kernel
theorem dX9_step_39 : decode cX9_step 39 = .ok (.istore_n 1, 1) := by decide +kernel
theorem dX9_step_40 : decode cX9_step 40 = .ok (.iload_n 1, 1) := by decide +kernel
theorem dX9_step_41 : decode cX9_step 41 = .ok (.ifCond .ge 12, 3) := by decide +kernel
theorem dX9_step_44 : decode cX9_step 44 = .ok (.aload_n 0, 1) := by decide +kernel
theorem dX9_step_45 : decode cX9_step 45 = .ok (.bipush 8, 2) := by decide +kernel
theorem dX9_step_47 : decode cX9_step 47 = .ok (.putfield 120, 3) := by decide +kernel
theorem dX9_step_50 : decode cX9_step 50 = .ok (.goto 240, 3) := by decide +kernel
theorem dX9_step_53 : decode cX9_step 53 = .ok (.iload_n 1, 1) := by decide +kernel
theorem dX9_step_54 : decode cX9_step 54 = .ok (.bipush 97, 2) := by decide +kernel
theorem dX9_step_56 : decode cX9_step 56 = .ok (.bipush 122, 2) := by decide +kernel
theorem dX9_step_58 : decode cX9_step 58 = .ok (.invokestatic 95, 3) := by decide +kernel
theorem dX9_step_61 : decode cX9_step 61 = .ok (.ifCond .eq 117, 3) := by decide +kernel
theorem dX9_step_64 : decode cX9_step 64 = .ok (.iconst 0, 1) := by decide +kernel
theorem dX9_step_65 : decode cX9_step 65 = .ok (.istore_n 2, 1) := by decide +kernel
theorem dX9_step_66 : decode cX9_step 66 = .ok (.iconst 0, 1) := by decide +kernel
theorem dX9_step_67 : decode cX9_step 67 = .ok (.istore_n 3, 1) := by decide +kernel
theorem dX9_step_68 : decode cX9_step 68 = .ok (.aload_n 0, 1) := by decide +kernel
theorem dX9_step_69 : decode cX9_step 69 = .ok (.invokevirtual 110, 3) := by decide +kernel
theorem dX9_step_72 : decode cX9_step 72 = .ok (.bipush 97, 2) := by decide +kernel
theorem dX9_step_74 : decode cX9_step 74 = .ok (.bipush 122, 2) := by decide +kernel
theorem dX9_step_76 : decode cX9_step 76 = .ok (.invokestatic 95, 3) := by decide +kernel
theorem dX9_step_79 : decode cX9_step 79 = .ok (.ifCond .eq 87, 3) := by decide +kernel
theorem dX9_step_82 : decode cX9_step 82 = .ok (.aload_n 0, 1) := by decide +kernel
theorem dX9_step_83 : decode cX9_step 83 = .ok (.getfield 106, 3) := by decide +kernel
theorem dX9_step_86 : decode cX9_step 86 = .ok (.aload_n 0, 1) := by decide +kernel
theorem dX9_step_87 : decode cX9_step 87 = .ok (.getfield 114, 3) := by decide +kernel
theorem dX9_step_90 : decode cX9_step 90 = .ok (.isub, 1) := by decide +kernel
theorem dX9_step_91 : decode cX9_step 91 = .ok (.istore 4, 2) := by decide +kernel
theorem dX9_step_93 : decode cX9_step 93 = .ok (.iload 4, 2) := by decide +kernel
theorem dX9_step_95 : decode cX9_step 95 = .ok (.bipush 6, 2) := by decide +kernel
theorem dX9_step_97 : decode cX9_step 97 = .ok (.if_icmp .ge 18, 3) := by decide +kernel
theorem dX9_step_100 : decode cX9_step 100 = .ok (.bipush 27, 2) := by decide +kernel
theorem dX9_step_102 : decode cX9_step 102 = .ok (.iload_n 2, 1) := by decide +kernel
theorem dX9_step_103 : decode cX9_step 103 = .ok (.imul, 1) := by decide +kernel
theorem dX9_step_104 : decode cX9_step 104 = .ok (.aload_n 0, 1) := by decide +kernel
theorem dX9_step_105 : decode cX9_step 105 = .ok (.invokevirtual 110, 3) := by decide +kernel
theorem dX9_step_108 : decode cX9_step 108 = .ok (.iadd, 1) := by decide +kernel
theorem dX9_step_109 : decode cX9_step 109 = .ok (.bipush 96, 2) := by decide +kernel
theorem dX9_step_111 : decode cX9_step 111 = .ok (.isub, 1) := by decide +kernel
theorem dX9_step_112 : decode cX9_step 112 = .ok (.goto 4, 3) := by decide +kernel
theorem dX9_step_115 : decode cX9_step 115 = .ok (.iload_n 2, 1) := by decide +kernel
theorem dX9_step_116 : decode cX9_step 116 = .ok (.istore_n 2, 1) := by decide +kernel
theorem dX9_step_117 : decode cX9_step 117 = .ok (.iload 4, 2) := by decide +kernel
theorem dX9_step_119 : decode cX9_step 119 = .ok (.bipush 6, 2) := by decide +kernel
theorem dX9_step_121 : decode cX9_step 121 = .ok (.if_icmp .ge 7, 3) := by decide +kernel
theorem dX9_step_124 : decode cX9_step 124 = .ok (.iload_n 3, 1) := by decide +kernel
theorem dX9_step_125 : decode cX9_step 125 = .ok (.goto 27, 3) := by decide +kernel
theorem dX9_step_128 : decode cX9_step 128 = .ok (.iload 4, 2) := by decide +kernel
theorem dX9_step_130 : decode cX9_step 130 = .ok (.bipush 8, 2) := by decide +kernel
theorem dX9_step_132 : decode cX9_step 132 = .ok (.if_icmp .ge 18, 3) := by decide +kernel
theorem dX9_step_135 : decode cX9_step 135 = .ok (.bipush 27, 2) := by decide +kernel
theorem dX9_step_137 : decode cX9_step 137 = .ok (.iload_n 3, 1) := by decide +kernel
theorem dX9_step_138 : decode cX9_step 138 = .ok (.imul, 1) := by decide +kernel
theorem dX9_step_139 : decode cX9_step 139 = .ok (.aload_n 0, 1) := by decide +kernel
theorem dX9_step_140 : decode cX9_step 140 = .ok (.invokevirtual 110, 3) := by decide +kernel
theorem dX9_step_143 : decode cX9_step 143 = .ok (.iadd, 1) := by decide +kernel
theorem dX9_step_144 : decode cX9_step 144 = .ok (.bipush 96, 2) := by decide +kernel
theorem dX9_step_146 : decode cX9_step 146 = .ok (.isub, 1) := by decide +kernel
theorem dX9_step_147 : decode cX9_step 147 = .ok (.goto 5, 3) := by decide +kernel
theorem dX9_step_150 : decode cX9_step 150 = .ok (.ldc 123, 2) := by decide +kernel
theorem dX9_step_152 : decode cX9_step 152 = .ok (.istore_n 3, 1) := by decide +kernel
theorem dX9_step_153 : decode cX9_step 153 = .ok (.aload_n 0, 1) := by decide +kernel
theorem dX9_step_154 : decode cX9_step 154 = .ok (.dup, 1) := by decide +kernel
theorem dX9_step_155 : decode cX9_step 155 = .ok (.getfield 106, 3) := by decide +kernel
theorem dX9_step_158 : decode cX9_step 158 = .ok (.iconst 1, 1) := by decide +kernel
theorem dX9_step_159 : decode cX9_step 159 = .ok (.iadd, 1) := by decide +kernel
theorem dX9_step_160 : decode cX9_step 160 = .ok (.putfield 106, 3) := by decide +kernel
theorem dX9_step_163 : decode cX9_step 163 = .ok (.goto (-95), 3) := by decide +kernel
theorem dX9_step_166 : decode cX9_step 166 = .ok (.aload_n 0, 1) := by decide +kernel
theorem dX9_step_167 : decode cX9_step 167 = .ok (.iload_n 2, 1) := by decide +kernel
theorem dX9_step_168 : decode cX9_step 168 = .ok (.iload_n 3, 1) := by decide +kernel
theorem dX9_step_169 : decode cX9_step 169 = .ok (.invokestatic 124, 3) := by decide +kernel
theorem dX9_step_172 : decode cX9_step 172 = .ok (.putfield 120, 3) := by decide +kernel
theorem dX9_step_175 : decode cX9_step 175 = .ok (.goto 115, 3) := by decide +kernel
theorem dX9_step_178 : decode cX9_step 178 = .ok (.iload_n 1, 1) := by decide +kernel
theorem dX9_step_179 : decode cX9_step 179 = .ok (.bipush 48, 2) := by decide +kernel
theorem dX9_step_181 : decode cX9_step 181 = .ok (.bipush 57, 2) := by decide +kernel
theorem dX9_step_183 : decode cX9_step 183 = .ok (.invokestatic 95, 3) := by decide +kernel
theorem dX9_step_186 : decode cX9_step 186 = .ok (.ifCond .eq 77, 3) := by decide +kernel
theorem dX9_step_189 : decode cX9_step 189 = .ok (.aload_n 0, 1) := by decide +kernel
theorem dX9_step_190 : decode cX9_step 190 = .ok (.invokevirtual 110, 3) := by decide +kernel
theorem dX9_step_193 : decode cX9_step 193 = .ok (.bipush 48, 2) := by decide +kernel
theorem dX9_step_195 : decode cX9_step 195 = .ok (.bipush 57, 2) := by decide +kernel
theorem dX9_step_197 : decode cX9_step 197 = .ok (.invokestatic 95, 3) := by decide +kernel
theorem dX9_step_200 : decode cX9_step 200 = .ok (.ifCond .eq 54, 3) := by decide +kernel
theorem dX9_step_203 : decode cX9_step 203 = .ok (.aload_n 0, 1) := by decide +kernel
theorem dX9_step_204 : decode cX9_step 204 = .ok (.aload_n 0, 1) := by decide +kernel
theorem dX9_step_205 : decode cX9_step 205 = .ok (.getfield 106, 3) := by decide +kernel
theorem dX9_step_208 : decode cX9_step 208 = .ok (.aload_n 0, 1) := by decide +kernel
theorem dX9_step_209 : decode cX9_step 209 = .ok (.getfield 114, 3) := by decide +kernel
theorem dX9_step_212 : decode cX9_step 212 = .ok (.isub, 1) := by decide +kernel
theorem dX9_step_213 : decode cX9_step 213 = .ok (.iconst 3, 1) := by decide +kernel
theorem dX9_step_214 : decode cX9_step 214 = .ok (.if_icmp .ge 21, 3) := by decide +kernel
theorem dX9_step_217 : decode cX9_step 217 = .ok (.bipush 10, 2) := by decide +kernel
theorem dX9_step_219 : decode cX9_step 219 = .ok (.aload_n 0, 1) := by decide +kernel
theorem dX9_step_220 : decode cX9_step 220 = .ok (.getfield 117, 3) := by decide +kernel
theorem dX9_step_223 : decode cX9_step 223 = .ok (.imul, 1) := by decide +kernel
theorem dX9_step_224 : decode cX9_step 224 = .ok (.aload_n 0, 1) := by decide +kernel
theorem dX9_step_225 : decode cX9_step 225 = .ok (.invokevirtual 110, 3) := by decide +kernel
theorem dX9_step_228 : decode cX9_step 228 = .ok (.iadd, 1) := by decide +kernel
theorem dX9_step_229 : decode cX9_step 229 = .ok (.bipush 48, 2) := by decide +kernel
theorem dX9_step_231 : decode cX9_step 231 = .ok (.isub, 1) := by decide +kernel
theorem dX9_step_232 : decode cX9_step 232 = .ok (.goto 6, 3) := by decide +kernel
theorem dX9_step_235 : decode cX9_step 235 = .ok (.sipush 9999, 3) := by decide +kernel
theorem dX9_step_238 : decode cX9_step 238 = .ok (.putfield 117, 3) := by decide +kernel
theorem dX9_step_241 : decode cX9_step 241 = .ok (.aload_n 0, 1) := by decide +kernel
theorem dX9_step_242 : decode cX9_step 242 = .ok (.dup, 1) := by decide +kernel
theorem dX9_step_243 : decode cX9_step 243 = .ok (.getfield 106, 3) := by decide +kernel
theorem dX9_step_246 : decode cX9_step 246 = .ok (.iconst 1, 1) := by decide +kernel
theorem dX9_step_247 : decode cX9_step 247 = .ok (.iadd, 1) := by decide +kernel
theorem dX9_step_248 : decode cX9_step 248 = .ok (.putfield 106, 3) := by decide +kernel
theorem dX9_step_251 : decode cX9_step 251 = .ok (.goto (-62), 3) := by decide +kernel
theorem dX9_step_254 : decode cX9_step 254 = .ok (.aload_n 0, 1) := by decide +kernel
theorem dX9_step_255 : decode cX9_step 255 = .ok (.bipush 6, 2) := by decide +kernel
theorem dX9_step_257 : decode cX9_step 257 = .ok (.putfield 120, 3) := by decide +kernel
theorem dX9_step_260 : decode cX9_step 260 = .ok (.goto 30, 3) := by decide +kernel
theorem dX9_step_263 : decode cX9_step 263 = .ok (.aload_n 0, 1) := by decide +kernel
theorem dX9_step_264 : decode cX9_step 264 = .ok (.dup, 1) := by decide +kernel
theorem dX9_step_265 : decode cX9_step 265 = .ok (.getfield 106, 3) := by decide +kernel
theorem dX9_step_268 : decode cX9_step 268 = .ok (.iconst 1, 1) := by decide +kernel
theorem dX9_step_269 : decode cX9_step 269 = .ok (.iadd, 1) := by decide +kernel
theorem dX9_step_270 : decode cX9_step 270 = .ok (.putfield 106, 3) := by decide +kernel
theorem dX9_step_273 : decode cX9_step 273 = .ok (.aload_n 0, 1) := by decide +kernel
theorem dX9_step_274 : decode cX9_step 274 = .ok (.iload_n 1, 1) := by decide +kernel
theorem dX9_step_275 : decode cX9_step 275 = .ok (.bipush 59, 2) := by decide +kernel
theorem dX9_step_277 : decode cX9_step 277 = .ok (.if_icmp .ne 8, 3) := by decide +kernel
theorem dX9_step_280 : decode cX9_step 280 = .ok (.bipush 7, 2) := by decide +kernel
theorem dX9_step_282 : decode cX9_step 282 = .ok (.goto 5, 3) := by decide +kernel
theorem dX9_step_285 : decode cX9_step 285 = .ok (.bipush 9, 2) := by decide +kernel
theorem dX9_step_287 : decode cX9_step 287 = .ok (.putfield 120, 3) := by decide +kernel
theorem dX9_step_290 : decode cX9_step 290 = .ok (.return_, 1) := by decide +kernel
theorem dX9_fails_0 : decode cX9_fails 0 = .ok (.aload_n 0, 1) := by decide +kernel
theorem dX9_fails_1 : decode cX9_fails 1 = .ok (.getfield 128, 3) := by decide +kernel
theorem dX9_fails_4 : decode cX9_fails 4 = .ok (.ifCond .ne 16, 3) := by decide +kernel
theorem dX9_fails_7 : decode cX9_fails 7 = .ok (.aload_n 0, 1) := by decide +kernel
theorem dX9_fails_8 : decode cX9_fails 8 = .ok (.iload_n 1, 1) := by decide +kernel
theorem dX9_fails_9 : decode cX9_fails 9 = .ok (.putfield 128, 3) := by decide +kernel
theorem dX9_fails_12 : decode cX9_fails 12 = .ok (.aload_n 0, 1) := by decide +kernel
theorem dX9_fails_13 : decode cX9_fails 13 = .ok (.aload_n 0, 1) := by decide +kernel
theorem dX9_fails_14 : decode cX9_fails 14 = .ok (.getfield 114, 3) := by decide +kernel
theorem dX9_fails_17 : decode cX9_fails 17 = .ok (.putfield 91, 3) := by decide +kernel
theorem dX9_fails_20 : decode cX9_fails 20 = .ok (.return_, 1) := by decide +kernel
set_option maxRecDepth 20000 in
theorem ggX9_number_X9_fails : GoodIn wsX9_number wsX9_fails := goodIn_r _ [8, 2, 9, 10, 30, 31, 32, 33, 34, 35, 36, 37, 38, 39, 40, 41, 42, 43, 44, 45, 46, 47, 48, 49, 50, 51, 52, 53, 54, 55, 56, 57, 58, 59, 60, 61, 62, 63, 64, 65, 66, 67] (by decide +kernel) (by decide +kernel)
set_option maxRecDepth 20000 in
theorem gX9_number_X9_fails : GoodIn wsX9_number (wsV RX9 131 RX9 yX9_fails wsX9_fails) := goodIn_app (goodIn_of _ (by decide +kernel)) ggX9_number_X9_fails
set_option maxRecDepth 20000 in
theorem ggX9_number_X9_in : GoodIn wsX9_number wsX9_in := goodIn_r _ [13] (by decide +kernel) (by decide +kernel)
set_option maxRecDepth 20000 in
theorem gX9_number_X9_in : GoodIn wsX9_number (va_wsS RX9 95 yX9_in wsX9_in) := goodIn_app (goodIn_of _ (by decide +kernel)) ggX9_number_X9_in
set_option maxRecDepth 20000 in
theorem ggX9_number_X9_step : GoodIn wsX9_number wsX9_step := goodIn_r _ [17, 18, 9, 1, 3, 19, 20, 21, 22, 7, 23, 24, 25, 11, 12, 13, 26, 27, 28, 29, 30, 31, 32, 33, 34, 35, 36, 37, 38, 39, 40, 41, 42, 43, 44, 45, 46, 47, 48, 49, 50, 51, 52, 53, 54, 55, 56, 57, 58, 59, 60, 61, 62, 63, 64, 65, 66, 67] (by decide +kernel) (by decide +kernel)
set_option maxRecDepth 20000 in
theorem gX9_number_X9_step : GoodIn wsX9_number (wsV RX9 135 RX9 yX9_step wsX9_step) := goodIn_app (goodIn_of _ (by decide +kernel)) ggX9_number_X9_step
theorem dX9_number_0 : decode cX9_number 0 = .ok (.aload_n 0, 1) := by decide +kernel
theorem dX9_number_1 : decode cX9_number 1 = .ok (.getfield 117, 3) := by decide +kernel
theorem dX9_number_4 : decode cX9_number 4 = .ok (.istore_n 3, 1) := by decide +kernel
theorem dX9_number_5 : decode cX9_number 5 = .ok (.aload_n 0, 1) := by decide +kernel
theorem dX9_number_6 : decode cX9_number 6 = .ok (.getfield 128, 3) := by decide +kernel
theorem dX9_number_9 : decode cX9_number 9 = .ok (.ifCond .ne 44, 3) := by decide +kernel
theorem dX9_number_12 : decode cX9_number 12 = .ok (.aload_n 0, 1) := by decide +kernel
theorem dX9_number_13 : decode cX9_number 13 = .ok (.getfield 120, 3) := by decide +kernel
theorem dX9_number_16 : decode cX9_number 16 = .ok (.bipush 6, 2) := by decide +kernel
theorem dX9_number_18 : decode cX9_number 18 = .ok (.if_icmp .eq 11, 3) := by decide +kernel
theorem dX9_number_21 : decode cX9_number 21 = .ok (.aload_n 0, 1) := by decide +kernel
theorem dX9_number_22 : decode cX9_number 22 = .ok (.iconst 1, 1) := by decide +kernel
theorem dX9_number_23 : decode cX9_number 23 = .ok (.invokevirtual 131, 3) := by decide +kernel
theorem dX9_number_26 : decode cX9_number 26 = .ok (.goto 27, 3) := by decide +kernel
theorem dX9_number_29 : decode cX9_number 29 = .ok (.aload_n 0, 1) := by decide +kernel
theorem dX9_number_30 : decode cX9_number 30 = .ok (.getfield 117, 3) := by decide +kernel
theorem dX9_number_33 : decode cX9_number 33 = .ok (.iload_n 1, 1) := by decide +kernel
theorem dX9_number_34 : decode cX9_number 34 = .ok (.iload_n 2, 1) := by decide +kernel
theorem dX9_number_35 : decode cX9_number 35 = .ok (.invokestatic 95, 3) := by decide +kernel
theorem dX9_number_38 : decode cX9_number 38 = .ok (.ifCond .ne 11, 3) := by decide +kernel
theorem dX9_number_41 : decode cX9_number 41 = .ok (.aload_n 0, 1) := by decide +kernel
theorem dX9_number_42 : decode cX9_number 42 = .ok (.iconst 2, 1) := by decide +kernel
theorem dX9_number_43 : decode cX9_number 43 = .ok (.invokevirtual 131, 3) := by decide +kernel
theorem dX9_number_46 : decode cX9_number 46 = .ok (.goto 7, 3) := by decide +kernel
theorem dX9_number_49 : decode cX9_number 49 = .ok (.aload_n 0, 1) := by decide +kernel
theorem dX9_number_50 : decode cX9_number 50 = .ok (.invokevirtual 135, 3) := by decide +kernel
theorem dX9_number_53 : decode cX9_number 53 = .ok (.iload_n 3, 1) := by decide +kernel
theorem dX9_number_54 : decode cX9_number 54 = .ok (.ireturn, 1) := by decide +kernel
set_option maxRecDepth 20000 in
theorem ggX9_partBut_X9_in : GoodIn wsX9_partBut wsX9_in := goodIn_r _ [8] (by decide +kernel) (by decide +kernel)
set_option maxRecDepth 20000 in
theorem gX9_partBut_X9_in : GoodIn wsX9_partBut (va_wsS RX9 95 yX9_in wsX9_in) := goodIn_app (goodIn_of _ (by decide +kernel)) ggX9_partBut_X9_in
set_option maxRecDepth 20000 in
theorem ggX9_partBut_X9_fails : GoodIn wsX9_partBut wsX9_fails := goodIn_r _ [12, 1, 13, 14, 35, 36, 37, 38, 39, 40, 41, 42, 43, 44, 45, 46, 47, 48, 49, 50, 51, 52, 53, 54, 55, 56, 57, 58, 59, 60, 61, 62, 63, 64, 65, 66, 67, 68, 69, 70, 71, 72] (by decide +kernel) (by decide +kernel)
set_option maxRecDepth 20000 in
theorem gX9_partBut_X9_fails : GoodIn wsX9_partBut (wsV RX9 131 RX9 yX9_fails wsX9_fails) := goodIn_app (goodIn_of _ (by decide +kernel)) ggX9_partBut_X9_fails
set_option maxRecDepth 20000 in
theorem ggX9_partBut_X9_number : GoodIn wsX9_partBut wsX9_number := goodIn_r _ [18, 3, 1, 2, 9, 10, 11, 7, 12, 13, 14, 5, 6, 8, 19, 20, 21, 22, 23, 24, 25, 26, 27, 28, 29, 30, 31, 32, 33, 34, 35, 36, 37, 38, 39, 40, 41, 42, 43, 44, 45, 46, 47, 48, 49, 50, 51, 52, 53, 54, 55, 56, 57, 58, 59, 60, 61, 62, 63, 64, 65, 66, 67, 68, 69, 70, 71, 72] (by decide +kernel) (by decide +kernel)
set_option maxRecDepth 20000 in
theorem gX9_partBut_X9_number : GoodIn wsX9_partBut (wsV RX9 138 RX9 yX9_number wsX9_number) := goodIn_app (goodIn_of _ (by decide +kernel)) ggX9_partBut_X9_number
theorem dX9_partBut_0 : decode cX9_partBut 0 = .ok (.aload_n 0, 1) := by decide +kernel
theorem dX9_partBut_1 : decode cX9_partBut 1 = .ok (.getfield 128, 3) := by decide +kernel
theorem dX9_partBut_4 : decode cX9_partBut 4 = .ok (.ifCond .ne 48, 3) := by decide +kernel
theorem dX9_partBut_7 : decode cX9_partBut 7 = .ok (.aload_n 0, 1) := by decide +kernel
theorem dX9_partBut_8 : decode cX9_partBut 8 = .ok (.getfield 120, 3) := by decide +kernel
theorem dX9_partBut_11 : decode cX9_partBut 11 = .ok (.bipush 6, 2) := by decide +kernel
theorem dX9_partBut_13 : decode cX9_partBut 13 = .ok (.if_icmp .ne 39, 3) := by decide +kernel
theorem dX9_partBut_16 : decode cX9_partBut 16 = .ok (.aload_n 0, 1) := by decide +kernel
theorem dX9_partBut_17 : decode cX9_partBut 17 = .ok (.getfield 117, 3) := by decide +kernel
theorem dX9_partBut_20 : decode cX9_partBut 20 = .ok (.iconst 0, 1) := by decide +kernel
theorem dX9_partBut_21 : decode cX9_partBut 21 = .ok (.aload_n 0, 1) := by decide +kernel
theorem dX9_partBut_22 : decode cX9_partBut 22 = .ok (.getfield 13, 3) := by decide +kernel
theorem dX9_partBut_25 : decode cX9_partBut 25 = .ok (.iconst 1, 1) := by decide +kernel
theorem dX9_partBut_26 : decode cX9_partBut 26 = .ok (.iaload, 1) := by decide +kernel
theorem dX9_partBut_27 : decode cX9_partBut 27 = .ok (.iconst 1, 1) := by decide +kernel
theorem dX9_partBut_28 : decode cX9_partBut 28 = .ok (.isub, 1) := by decide +kernel
theorem dX9_partBut_29 : decode cX9_partBut 29 = .ok (.invokestatic 95, 3) := by decide +kernel
theorem dX9_partBut_32 : decode cX9_partBut 32 = .ok (.ifCond .eq 20, 3) := by decide +kernel
theorem dX9_partBut_35 : decode cX9_partBut 35 = .ok (.iload_n 1, 1) := by decide +kernel
theorem dX9_partBut_36 : decode cX9_partBut 36 = .ok (.aload_n 0, 1) := by decide +kernel
theorem dX9_partBut_37 : decode cX9_partBut 37 = .ok (.getfield 117, 3) := by decide +kernel
theorem dX9_partBut_40 : decode cX9_partBut 40 = .ok (.ishr, 1) := by decide +kernel
theorem dX9_partBut_41 : decode cX9_partBut 41 = .ok (.iconst 1, 1) := by decide +kernel
theorem dX9_partBut_42 : decode cX9_partBut 42 = .ok (.iand, 1) := by decide +kernel
theorem dX9_partBut_43 : decode cX9_partBut 43 = .ok (.iconst 1, 1) := by decide +kernel
theorem dX9_partBut_44 : decode cX9_partBut 44 = .ok (.if_icmp .ne 8, 3) := by decide +kernel
theorem dX9_partBut_47 : decode cX9_partBut 47 = .ok (.aload_n 0, 1) := by decide +kernel
theorem dX9_partBut_48 : decode cX9_partBut 48 = .ok (.iconst 4, 1) := by decide +kernel
theorem dX9_partBut_49 : decode cX9_partBut 49 = .ok (.invokevirtual 131, 3) := by decide +kernel
theorem dX9_partBut_52 : decode cX9_partBut 52 = .ok (.aload_n 0, 1) := by decide +kernel
theorem dX9_partBut_53 : decode cX9_partBut 53 = .ok (.iconst 0, 1) := by decide +kernel
theorem dX9_partBut_54 : decode cX9_partBut 54 = .ok (.aload_n 0, 1) := by decide +kernel
theorem dX9_partBut_55 : decode cX9_partBut 55 = .ok (.getfield 13, 3) := by decide +kernel
theorem dX9_partBut_58 : decode cX9_partBut 58 = .ok (.iconst 1, 1) := by decide +kernel
theorem dX9_partBut_59 : decode cX9_partBut 59 = .ok (.iaload, 1) := by decide +kernel
theorem dX9_partBut_60 : decode cX9_partBut 60 = .ok (.iconst 1, 1) := by decide +kernel
theorem dX9_partBut_61 : decode cX9_partBut 61 = .ok (.isub, 1) := by decide +kernel
theorem dX9_partBut_62 : decode cX9_partBut 62 = .ok (.invokevirtual 138, 3) := by decide +kernel
theorem dX9_partBut_65 : decode cX9_partBut 65 = .ok (.ireturn, 1) := by decide +kernel
theorem dX9_isTooMany_0 : decode cX9_isTooMany 0 = .ok (.iload_n 1, 1) := by decide +kernel
theorem dX9_isTooMany_1 : decode cX9_isTooMany 1 = .ok (.tableswitch 111 0 5 #[39, 111, 56, 73, 90, 95], 39) := by decide +kernel
theorem dX9_isTooMany_40 : decode cX9_isTooMany 40 = .ok (.aload_n 0, 1) := by decide +kernel
theorem dX9_isTooMany_41 : decode cX9_isTooMany 41 = .ok (.getfield 13, 3) := by decide +kernel
theorem dX9_isTooMany_44 : decode cX9_isTooMany 44 = .ok (.iconst 1, 1) := by decide +kernel
theorem dX9_isTooMany_45 : decode cX9_isTooMany 45 = .ok (.iaload, 1) := by decide +kernel
theorem dX9_isTooMany_46 : decode cX9_isTooMany 46 = .ok (.bipush 7, 2) := by decide +kernel
theorem dX9_isTooMany_48 : decode cX9_isTooMany 48 = .ok (.if_icmp .ne 7, 3) := by decide +kernel
theorem dX9_isTooMany_51 : decode cX9_isTooMany 51 = .ok (.iconst 1, 1) := by decide +kernel
theorem dX9_isTooMany_52 : decode cX9_isTooMany 52 = .ok (.goto 4, 3) := by decide +kernel
theorem dX9_isTooMany_55 : decode cX9_isTooMany 55 = .ok (.iconst 0, 1) := by decide +kernel
theorem dX9_isTooMany_56 : decode cX9_isTooMany 56 = .ok (.ireturn, 1) := by decide +kernel
theorem dX9_isTooMany_57 : decode cX9_isTooMany 57 = .ok (.aload_n 0, 1) := by decide +kernel
theorem dX9_isTooMany_58 : decode cX9_isTooMany 58 = .ok (.getfield 23, 3) := by decide +kernel
theorem dX9_isTooMany_61 : decode cX9_isTooMany 61 = .ok (.iconst 1, 1) := by decide +kernel
theorem dX9_isTooMany_62 : decode cX9_isTooMany 62 = .ok (.iaload, 1) := by decide +kernel
theorem dX9_isTooMany_63 : decode cX9_isTooMany 63 = .ok (.bipush 12, 2) := by decide +kernel
theorem dX9_isTooMany_65 : decode cX9_isTooMany 65 = .ok (.if_icmp .ne 7, 3) := by decide +kernel
theorem dX9_isTooMany_68 : decode cX9_isTooMany 68 = .ok (.iconst 1, 1) := by decide +kernel
theorem dX9_isTooMany_69 : decode cX9_isTooMany 69 = .ok (.goto 4, 3) := by decide +kernel
theorem dX9_isTooMany_72 : decode cX9_isTooMany 72 = .ok (.iconst 0, 1) := by decide +kernel
theorem dX9_isTooMany_73 : decode cX9_isTooMany 73 = .ok (.ireturn, 1) := by decide +kernel
theorem dX9_isTooMany_74 : decode cX9_isTooMany 74 = .ok (.aload_n 0, 1) := by decide +kernel
theorem dX9_isTooMany_75 : decode cX9_isTooMany 75 = .ok (.getfield 29, 3) := by decide +kernel
theorem dX9_isTooMany_78 : decode cX9_isTooMany 78 = .ok (.iconst 1, 1) := by decide +kernel
theorem dX9_isTooMany_79 : decode cX9_isTooMany 79 = .ok (.iaload, 1) := by decide +kernel
theorem dX9_isTooMany_80 : decode cX9_isTooMany 80 = .ok (.bipush 6, 2) := by decide +kernel
theorem dX9_isTooMany_82 : decode cX9_isTooMany 82 = .ok (.if_icmp .ne 7, 3) := by decide +kernel
theorem dX9_isTooMany_85 : decode cX9_isTooMany 85 = .ok (.iconst 1, 1) := by decide +kernel
theorem dX9_isTooMany_86 : decode cX9_isTooMany 86 = .ok (.goto 4, 3) := by decide +kernel
theorem dX9_isTooMany_89 : decode cX9_isTooMany 89 = .ok (.iconst 0, 1) := by decide +kernel
theorem dX9_isTooMany_90 : decode cX9_isTooMany 90 = .ok (.ireturn, 1) := by decide +kernel
theorem dX9_isTooMany_91 : decode cX9_isTooMany 91 = .ok (.aload_n 0, 1) := by decide +kernel
theorem dX9_isTooMany_92 : decode cX9_isTooMany 92 = .ok (.getfield 141, 3) := by decide +kernel
theorem dX9_isTooMany_95 : decode cX9_isTooMany 95 = .ok (.ireturn, 1) := by decide +kernel
theorem dX9_isTooMany_96 : decode cX9_isTooMany 96 = .ok (.aload_n 0, 1) := by decide +kernel
theorem dX9_isTooMany_97 : decode cX9_isTooMany 97 = .ok (.getfield 41, 3) := by decide +kernel
theorem dX9_isTooMany_100 : decode cX9_isTooMany 100 = .ok (.iconst 1, 1) := by decide +kernel
theorem dX9_isTooMany_101 : decode cX9_isTooMany 101 = .ok (.iaload, 1) := by decide +kernel
theorem dX9_isTooMany_102 : decode cX9_isTooMany 102 = .ok (.iconst 5, 1) := by decide +kernel
theorem dX9_isTooMany_103 : decode cX9_isTooMany 103 = .ok (.if_icmp .ne 7, 3) := by decide +kernel
theorem dX9_isTooMany_106 : decode cX9_isTooMany 106 = .ok (.iconst 1, 1) := by decide +kernel
theorem dX9_isTooMany_107 : decode cX9_isTooMany 107 = .ok (.goto 4, 3) := by decide +kernel
theorem dX9_isTooMany_110 : decode cX9_isTooMany 110 = .ok (.iconst 0, 1) := by decide +kernel
theorem dX9_isTooMany_111 : decode cX9_isTooMany 111 = .ok (.ireturn, 1) := by decide +kernel
theorem dX9_isTooMany_112 : decode cX9_isTooMany 112 = .ok (.iconst 0, 1) := by decide +kernel
theorem dX9_isTooMany_113 : decode cX9_isTooMany 113 = .ok (.ireturn, 1) := by decide +kernel
set_option maxRecDepth 20000 in
theorem ggX9_readRow_X9_number : GoodIn wsX9_readRow wsX9_number := goodIn_r _ [19, 20, 1, 21, 22, 23, 24, 18, 25, 26, 27, 28, 29, 30, 31, 32, 33, 34, 35, 36, 37, 38, 39, 40, 41, 42, 43, 44, 45, 46, 51, 52, 53, 54, 55, 56, 57, 58, 59, 60, 61, 62, 63, 64, 65, 66, 67, 68, 69, 70, 71, 72, 73, 74, 75, 76, 77, 78, 79, 80, 81, 82, 83, 84, 85, 86, 87, 88] (by decide +kernel) (by decide +kernel)
set_option maxRecDepth 20000 in
theorem gX9_readRow_X9_number : GoodIn wsX9_readRow (wsV RX9 138 RX9 yX9_number wsX9_number) := goodIn_app (goodIn_of _ (by decide +kernel)) ggX9_readRow_X9_number
set_option maxRecDepth 20000 in
theorem ggX9_readRow_X9_partBut : GoodIn wsX9_readRow wsX9_partBut := goodIn_r _ [50, 1, 21, 20, 3, 28, 29, 18, 30, 22, 23, 24, 25, 26, 27, 15, 16, 17, 19, 31, 32, 33, 34, 35, 36, 37, 38, 39, 40, 41, 42, 43, 44, 45, 46, 51, 52, 53, 54, 55, 56, 57, 58, 59, 60, 61, 62, 63, 64, 65, 66, 67, 68, 69, 70, 71, 72, 73, 74, 75, 76, 77, 78, 79, 80, 81, 82, 83, 84, 85, 86, 87, 88] (by decide +kernel) (by decide +kernel)
set_option maxRecDepth 20000 in
theorem gX9_readRow_X9_partBut : GoodIn wsX9_readRow (wsV RX9 145 RX9 yX9_partBut wsX9_partBut) := goodIn_app (goodIn_of _ (by decide +kernel)) ggX9_readRow_X9_partBut
theorem dX9_readRow_0 : decode cX9_readRow 0 = .ok (.iload_n 1, 1) := by decide +kernel
theorem dX9_readRow_1 : decode cX9_readRow 1 = .ok (.ifCond .ne 74, 3) := by decide +kernel
theorem dX9_readRow_4 : decode cX9_readRow 4 = .ok (.aload_n 0, 1) := by decide +kernel
theorem dX9_readRow_5 : decode cX9_readRow 5 = .ok (.iconst 1, 1) := by decide +kernel
theorem dX9_readRow_6 : decode cX9_readRow 6 = .ok (.bipush 9, 2) := by decide +kernel
theorem dX9_readRow_8 : decode cX9_readRow 8 = .ok (.invokevirtual 138, 3) := by decide +kernel
theorem dX9_readRow_11 : decode cX9_readRow 11 = .ok (.istore_n 2, 1) := by decide +kernel
theorem dX9_readRow_12 : decode cX9_readRow 12 = .ok (.aload_n 0, 1) := by decide +kernel
theorem dX9_readRow_13 : decode cX9_readRow 13 = .ok (.iconst 1, 1) := by decide +kernel
theorem dX9_readRow_14 : decode cX9_readRow 14 = .ok (.bipush 6, 2) := by decide +kernel
theorem dX9_readRow_16 : decode cX9_readRow 16 = .ok (.invokevirtual 138, 3) := by decide +kernel
theorem dX9_readRow_19 : decode cX9_readRow 19 = .ok (.istore_n 3, 1) := by decide +kernel
theorem dX9_readRow_20 : decode cX9_readRow 20 = .ok (.aload_n 0, 1) := by decide +kernel
theorem dX9_readRow_21 : decode cX9_readRow 21 = .ok (.getfield 128, 3) := by decide +kernel
theorem dX9_readRow_24 : decode cX9_readRow 24 = .ok (.ifCond .ne 48, 3) := by decide +kernel
theorem dX9_readRow_27 : decode cX9_readRow 27 = .ok (.aload_n 0, 1) := by decide +kernel
theorem dX9_readRow_28 : decode cX9_readRow 28 = .ok (.getfield 17, 3) := by decide +kernel
theorem dX9_readRow_31 : decode cX9_readRow 31 = .ok (.bipush 7, 2) := by decide +kernel
theorem dX9_readRow_33 : decode cX9_readRow 33 = .ok (.aload_n 0, 1) := by decide +kernel
theorem dX9_readRow_34 : decode cX9_readRow 34 = .ok (.getfield 13, 3) := by decide +kernel
theorem dX9_readRow_37 : decode cX9_readRow 37 = .ok (.iconst 1, 1) := by decide +kernel
theorem dX9_readRow_38 : decode cX9_readRow 38 = .ok (.iaload, 1) := by decide +kernel
theorem dX9_readRow_39 : decode cX9_readRow 39 = .ok (.iadd, 1) := by decide +kernel
theorem dX9_readRow_40 : decode cX9_readRow 40 = .ok (.bipush 60, 2) := by decide +kernel
theorem dX9_readRow_42 : decode cX9_readRow 42 = .ok (.iload_n 2, 1) := by decide +kernel
theorem dX9_readRow_43 : decode cX9_readRow 43 = .ok (.imul, 1) := by decide +kernel
theorem dX9_readRow_44 : decode cX9_readRow 44 = .ok (.iload_n 3, 1) := by decide +kernel
theorem dX9_readRow_45 : decode cX9_readRow 45 = .ok (.idiv, 1) := by decide +kernel
theorem dX9_readRow_46 : decode cX9_readRow 46 = .ok (.iastore, 1) := by decide +kernel
theorem dX9_readRow_47 : decode cX9_readRow 47 = .ok (.aload_n 0, 1) := by decide +kernel
theorem dX9_readRow_48 : decode cX9_readRow 48 = .ok (.getfield 20, 3) := by decide +kernel
theorem dX9_readRow_51 : decode cX9_readRow 51 = .ok (.bipush 7, 2) := by decide +kernel
theorem dX9_readRow_53 : decode cX9_readRow 53 = .ok (.aload_n 0, 1) := by decide +kernel
theorem dX9_readRow_54 : decode cX9_readRow 54 = .ok (.getfield 13, 3) := by decide +kernel
theorem dX9_readRow_57 : decode cX9_readRow 57 = .ok (.iconst 1, 1) := by decide +kernel
theorem dX9_readRow_58 : decode cX9_readRow 58 = .ok (.iaload, 1) := by decide +kernel
theorem dX9_readRow_59 : decode cX9_readRow 59 = .ok (.iadd, 1) := by decide +kernel
theorem dX9_readRow_60 : decode cX9_readRow 60 = .ok (.iconst 0, 1) := by decide +kernel
theorem dX9_readRow_61 : decode cX9_readRow 61 = .ok (.iastore, 1) := by decide +kernel
theorem dX9_readRow_62 : decode cX9_readRow 62 = .ok (.aload_n 0, 1) := by decide +kernel
theorem dX9_readRow_63 : decode cX9_readRow 63 = .ok (.getfield 13, 3) := by decide +kernel
theorem dX9_readRow_66 : decode cX9_readRow 66 = .ok (.iconst 1, 1) := by decide +kernel
theorem dX9_readRow_67 : decode cX9_readRow 67 = .ok (.dup2, 1) := by decide +kernel
theorem dX9_readRow_68 : decode cX9_readRow 68 = .ok (.iaload, 1) := by decide +kernel
theorem dX9_readRow_69 : decode cX9_readRow 69 = .ok (.iconst 1, 1) := by decide +kernel
theorem dX9_readRow_70 : decode cX9_readRow 70 = .ok (.iadd, 1) := by decide +kernel
theorem dX9_readRow_71 : decode cX9_readRow 71 = .ok (.iastore, 1) := by decide +kernel
theorem dX9_readRow_72 : decode cX9_readRow 72 = .ok (.goto 287, 3) := by decide +kernel
theorem dX9_readRow_75 : decode cX9_readRow 75 = .ok (.iload_n 1, 1) := by decide +kernel
theorem dX9_readRow_76 : decode cX9_readRow 76 = .ok (.iconst 1, 1) := by decide +kernel
theorem dX9_readRow_77 : decode cX9_readRow 77 = .ok (.if_icmp .ne 40, 3) := by decide +kernel
theorem dX9_readRow_80 : decode cX9_readRow 80 = .ok (.aload_n 0, 1) := by decide +kernel
theorem dX9_readRow_81 : decode cX9_readRow 81 = .ok (.aload_n 0, 1) := by decide +kernel
theorem dX9_readRow_82 : decode cX9_readRow 82 = .ok (.getfield 26, 3) := by decide +kernel
theorem dX9_readRow_85 : decode cX9_readRow 85 = .ok (.iconst 1, 1) := by decide +kernel
theorem dX9_readRow_86 : decode cX9_readRow 86 = .ok (.iaload, 1) := by decide +kernel
theorem dX9_readRow_87 : decode cX9_readRow 87 = .ok (.invokevirtual 145, 3) := by decide +kernel
theorem dX9_readRow_90 : decode cX9_readRow 90 = .ok (.istore_n 2, 1) := by decide +kernel
theorem dX9_readRow_91 : decode cX9_readRow 91 = .ok (.aload_n 0, 1) := by decide +kernel
theorem dX9_readRow_92 : decode cX9_readRow 92 = .ok (.getfield 26, 3) := by decide +kernel
theorem dX9_readRow_95 : decode cX9_readRow 95 = .ok (.iconst 1, 1) := by decide +kernel
theorem dX9_readRow_96 : decode cX9_readRow 96 = .ok (.dup2, 1) := by decide +kernel
theorem dX9_readRow_97 : decode cX9_readRow 97 = .ok (.iaload, 1) := by decide +kernel
theorem dX9_readRow_98 : decode cX9_readRow 98 = .ok (.aload_n 0, 1) := by decide +kernel
theorem dX9_readRow_99 : decode cX9_readRow 99 = .ok (.getfield 128, 3) := by decide +kernel
theorem dX9_readRow_102 : decode cX9_readRow 102 = .ok (.ifCond .ne 9, 3) := by decide +kernel
theorem dX9_readRow_105 : decode cX9_readRow 105 = .ok (.iconst 1, 1) := by decide +kernel
theorem dX9_readRow_106 : decode cX9_readRow 106 = .ok (.iload_n 2, 1) := by decide +kernel
theorem dX9_readRow_107 : decode cX9_readRow 107 = .ok (.ishl, 1) := by decide +kernel
theorem dX9_readRow_108 : decode cX9_readRow 108 = .ok (.goto 4, 3) := by decide +kernel
theorem dX9_readRow_111 : decode cX9_readRow 111 = .ok (.iconst 0, 1) := by decide +kernel
theorem dX9_readRow_112 : decode cX9_readRow 112 = .ok (.ior, 1) := by decide +kernel
theorem dX9_readRow_113 : decode cX9_readRow 113 = .ok (.iastore, 1) := by decide +kernel
theorem dX9_readRow_114 : decode cX9_readRow 114 = .ok (.goto 245, 3) := by decide +kernel
theorem dX9_readRow_117 : decode cX9_readRow 117 = .ok (.iload_n 1, 1) := by decide +kernel
theorem dX9_readRow_118 : decode cX9_readRow 118 = .ok (.iconst 2, 1) := by decide +kernel
theorem dX9_readRow_119 : decode cX9_readRow 119 = .ok (.if_icmp .ne 88, 3) := by decide +kernel
theorem dX9_readRow_122 : decode cX9_readRow 122 = .ok (.aload_n 0, 1) := by decide +kernel
theorem dX9_readRow_123 : decode cX9_readRow 123 = .ok (.iconst 0, 1) := by decide +kernel
theorem dX9_readRow_124 : decode cX9_readRow 124 = .ok (.invokevirtual 145, 3) := by decide +kernel
theorem dX9_readRow_127 : decode cX9_readRow 127 = .ok (.istore_n 2, 1) := by decide +kernel
theorem dX9_readRow_128 : decode cX9_readRow 128 = .ok (.aload_n 0, 1) := by decide +kernel
theorem dX9_readRow_129 : decode cX9_readRow 129 = .ok (.aload_n 0, 1) := by decide +kernel
theorem dX9_readRow_130 : decode cX9_readRow 130 = .ok (.getfield 128, 3) := by decide +kernel
theorem dX9_readRow_133 : decode cX9_readRow 133 = .ok (.ifCond .ne 19, 3) := by decide +kernel
theorem dX9_readRow_136 : decode cX9_readRow 136 = .ok (.aload_n 0, 1) := by decide +kernel
theorem dX9_readRow_137 : decode cX9_readRow 137 = .ok (.getfield 20, 3) := by decide +kernel
theorem dX9_readRow_140 : decode cX9_readRow 140 = .ok (.bipush 7, 2) := by decide +kernel
theorem dX9_readRow_142 : decode cX9_readRow 142 = .ok (.iload_n 2, 1) := by decide +kernel
theorem dX9_readRow_143 : decode cX9_readRow 143 = .ok (.iadd, 1) := by decide +kernel
theorem dX9_readRow_144 : decode cX9_readRow 144 = .ok (.iaload, 1) := by decide +kernel
theorem dX9_readRow_145 : decode cX9_readRow 145 = .ok (.iconst 1, 1) := by decide +kernel
theorem dX9_readRow_146 : decode cX9_readRow 146 = .ok (.iload_n 2, 1) := by decide +kernel
theorem dX9_readRow_147 : decode cX9_readRow 147 = .ok (.ishl, 1) := by decide +kernel
theorem dX9_readRow_148 : decode cX9_readRow 148 = .ok (.ior, 1) := by decide +kernel
theorem dX9_readRow_149 : decode cX9_readRow 149 = .ok (.goto 4, 3) := by decide +kernel
theorem dX9_readRow_152 : decode cX9_readRow 152 = .ok (.iconst 0, 1) := by decide +kernel
theorem dX9_readRow_153 : decode cX9_readRow 153 = .ok (.invokevirtual 145, 3) := by decide +kernel
theorem dX9_readRow_156 : decode cX9_readRow 156 = .ok (.istore_n 3, 1) := by decide +kernel
theorem dX9_readRow_157 : decode cX9_readRow 157 = .ok (.aload_n 0, 1) := by decide +kernel
theorem dX9_readRow_158 : decode cX9_readRow 158 = .ok (.getfield 128, 3) := by decide +kernel
theorem dX9_readRow_161 : decode cX9_readRow 161 = .ok (.ifCond .ne 43, 3) := by decide +kernel
theorem dX9_readRow_164 : decode cX9_readRow 164 = .ok (.aload_n 0, 1) := by decide +kernel
theorem dX9_readRow_165 : decode cX9_readRow 165 = .ok (.getfield 20, 3) := by decide +kernel
theorem dX9_readRow_168 : decode cX9_readRow 168 = .ok (.bipush 7, 2) := by decide +kernel
theorem dX9_readRow_170 : decode cX9_readRow 170 = .ok (.iload_n 2, 1) := by decide +kernel
theorem dX9_readRow_171 : decode cX9_readRow 171 = .ok (.iadd, 1) := by decide +kernel
theorem dX9_readRow_172 : decode cX9_readRow 172 = .ok (.dup2, 1) := by decide +kernel
theorem dX9_readRow_173 : decode cX9_readRow 173 = .ok (.iaload, 1) := by decide +kernel
theorem dX9_readRow_174 : decode cX9_readRow 174 = .ok (.iconst 1, 1) := by decide +kernel
theorem dX9_readRow_175 : decode cX9_readRow 175 = .ok (.iload_n 3, 1) := by decide +kernel
theorem dX9_readRow_176 : decode cX9_readRow 176 = .ok (.ishl, 1) := by decide +kernel
theorem dX9_readRow_177 : decode cX9_readRow 177 = .ok (.ior, 1) := by decide +kernel
theorem dX9_readRow_178 : decode cX9_readRow 178 = .ok (.iastore, 1) := by decide +kernel
theorem dX9_readRow_179 : decode cX9_readRow 179 = .ok (.aload_n 0, 1) := by decide +kernel
theorem dX9_readRow_180 : decode cX9_readRow 180 = .ok (.getfield 20, 3) := by decide +kernel
theorem dX9_readRow_183 : decode cX9_readRow 183 = .ok (.bipush 7, 2) := by decide +kernel
theorem dX9_readRow_185 : decode cX9_readRow 185 = .ok (.iload_n 3, 1) := by decide +kernel
theorem dX9_readRow_186 : decode cX9_readRow 186 = .ok (.iadd, 1) := by decide +kernel
theorem dX9_readRow_187 : decode cX9_readRow 187 = .ok (.dup2, 1) := by decide +kernel
theorem dX9_readRow_188 : decode cX9_readRow 188 = .ok (.iaload, 1) := by decide +kernel
theorem dX9_readRow_189 : decode cX9_readRow 189 = .ok (.iconst 1, 1) := by decide +kernel
theorem dX9_readRow_190 : decode cX9_readRow 190 = .ok (.iload_n 2, 1) := by decide +kernel
theorem dX9_readRow_191 : decode cX9_readRow 191 = .ok (.ishl, 1) := by decide +kernel
theorem dX9_readRow_192 : decode cX9_readRow 192 = .ok (.ior, 1) := by decide +kernel
theorem dX9_readRow_193 : decode cX9_readRow 193 = .ok (.iastore, 1) := by decide +kernel
theorem dX9_readRow_194 : decode cX9_readRow 194 = .ok (.aload_n 0, 1) := by decide +kernel
theorem dX9_readRow_195 : decode cX9_readRow 195 = .ok (.getfield 23, 3) := by decide +kernel
theorem dX9_readRow_198 : decode cX9_readRow 198 = .ok (.iconst 1, 1) := by decide +kernel
theorem dX9_readRow_199 : decode cX9_readRow 199 = .ok (.dup2, 1) := by decide +kernel
theorem dX9_readRow_200 : decode cX9_readRow 200 = .ok (.iaload, 1) := by decide +kernel
theorem dX9_readRow_201 : decode cX9_readRow 201 = .ok (.iconst 1, 1) := by decide +kernel
theorem dX9_readRow_202 : decode cX9_readRow 202 = .ok (.iadd, 1) := by decide +kernel
theorem dX9_readRow_203 : decode cX9_readRow 203 = .ok (.iastore, 1) := by decide +kernel
theorem dX9_readRow_204 : decode cX9_readRow 204 = .ok (.goto 155, 3) := by decide +kernel
theorem dX9_readRow_207 : decode cX9_readRow 207 = .ok (.iload_n 1, 1) := by decide +kernel
theorem dX9_readRow_208 : decode cX9_readRow 208 = .ok (.iconst 3, 1) := by decide +kernel
theorem dX9_readRow_209 : decode cX9_readRow 209 = .ok (.if_icmp .ne 66, 3) := by decide +kernel
theorem dX9_readRow_212 : decode cX9_readRow 212 = .ok (.bipush 6, 2) := by decide +kernel
theorem dX9_readRow_214 : decode cX9_readRow 214 = .ok (.aload_n 0, 1) := by decide +kernel
theorem dX9_readRow_215 : decode cX9_readRow 215 = .ok (.getfield 29, 3) := by decide +kernel
theorem dX9_readRow_218 : decode cX9_readRow 218 = .ok (.iconst 1, 1) := by decide +kernel
theorem dX9_readRow_219 : decode cX9_readRow 219 = .ok (.iaload, 1) := by decide +kernel
theorem dX9_readRow_220 : decode cX9_readRow 220 = .ok (.iadd, 1) := by decide +kernel
theorem dX9_readRow_221 : decode cX9_readRow 221 = .ok (.istore_n 2, 1) := by decide +kernel
theorem dX9_readRow_222 : decode cX9_readRow 222 = .ok (.aload_n 0, 1) := by decide +kernel
theorem dX9_readRow_223 : decode cX9_readRow 223 = .ok (.iconst 0, 1) := by decide +kernel
theorem dX9_readRow_224 : decode cX9_readRow 224 = .ok (.bipush 99, 2) := by decide +kernel
theorem dX9_readRow_226 : decode cX9_readRow 226 = .ok (.invokevirtual 138, 3) := by decide +kernel
theorem dX9_readRow_229 : decode cX9_readRow 229 = .ok (.istore_n 3, 1) := by decide +kernel
theorem dX9_readRow_230 : decode cX9_readRow 230 = .ok (.aload_n 0, 1) := by decide +kernel
theorem dX9_readRow_231 : decode cX9_readRow 231 = .ok (.iconst 0, 1) := by decide +kernel
theorem dX9_readRow_232 : decode cX9_readRow 232 = .ok (.sipush 999, 3) := by decide +kernel
theorem dX9_readRow_235 : decode cX9_readRow 235 = .ok (.invokevirtual 138, 3) := by decide +kernel
theorem dX9_readRow_238 : decode cX9_readRow 238 = .ok (.istore 4, 2) := by decide +kernel
theorem dX9_readRow_240 : decode cX9_readRow 240 = .ok (.aload_n 0, 1) := by decide +kernel
theorem dX9_readRow_241 : decode cX9_readRow 241 = .ok (.getfield 128, 3) := by decide +kernel
theorem dX9_readRow_244 : decode cX9_readRow 244 = .ok (.ifCond .ne 28, 3) := by decide +kernel
theorem dX9_readRow_247 : decode cX9_readRow 247 = .ok (.aload_n 0, 1) := by decide +kernel
theorem dX9_readRow_248 : decode cX9_readRow 248 = .ok (.getfield 32, 3) := by decide +kernel
theorem dX9_readRow_251 : decode cX9_readRow 251 = .ok (.iload_n 2, 1) := by decide +kernel
theorem dX9_readRow_252 : decode cX9_readRow 252 = .ok (.iload_n 3, 1) := by decide +kernel
theorem dX9_readRow_253 : decode cX9_readRow 253 = .ok (.iastore, 1) := by decide +kernel
theorem dX9_readRow_254 : decode cX9_readRow 254 = .ok (.aload_n 0, 1) := by decide +kernel
theorem dX9_readRow_255 : decode cX9_readRow 255 = .ok (.getfield 35, 3) := by decide +kernel
theorem dX9_readRow_258 : decode cX9_readRow 258 = .ok (.iload_n 2, 1) := by decide +kernel
theorem dX9_readRow_259 : decode cX9_readRow 259 = .ok (.iload 4, 2) := by decide +kernel
theorem dX9_readRow_261 : decode cX9_readRow 261 = .ok (.iastore, 1) := by decide +kernel
theorem dX9_readRow_262 : decode cX9_readRow 262 = .ok (.aload_n 0, 1) := by decide +kernel
theorem dX9_readRow_263 : decode cX9_readRow 263 = .ok (.getfield 29, 3) := by decide +kernel
theorem dX9_readRow_266 : decode cX9_readRow 266 = .ok (.iconst 1, 1) := by decide +kernel
theorem dX9_readRow_267 : decode cX9_readRow 267 = .ok (.dup2, 1) := by decide +kernel
theorem dX9_readRow_268 : decode cX9_readRow 268 = .ok (.iaload, 1) := by decide +kernel
theorem dX9_readRow_269 : decode cX9_readRow 269 = .ok (.iconst 1, 1) := by decide +kernel
theorem dX9_readRow_270 : decode cX9_readRow 270 = .ok (.iadd, 1) := by decide +kernel
theorem dX9_readRow_271 : decode cX9_readRow 271 = .ok (.iastore, 1) := by decide +kernel
theorem dX9_readRow_272 : decode cX9_readRow 272 = .ok (.goto 87, 3) := by decide +kernel
theorem dX9_readRow_275 : decode cX9_readRow 275 = .ok (.iload_n 1, 1) := by decide +kernel
theorem dX9_readRow_276 : decode cX9_readRow 276 = .ok (.iconst 4, 1) := by decide +kernel
theorem dX9_readRow_277 : decode cX9_readRow 277 = .ok (.if_icmp .ne 24, 3) := by decide +kernel
theorem dX9_readRow_280 : decode cX9_readRow 280 = .ok (.aload_n 0, 1) := by decide +kernel
theorem dX9_readRow_281 : decode cX9_readRow 281 = .ok (.getfield 38, 3) := by decide +kernel
theorem dX9_readRow_284 : decode cX9_readRow 284 = .ok (.iconst 1, 1) := by decide +kernel
theorem dX9_readRow_285 : decode cX9_readRow 285 = .ok (.aload_n 0, 1) := by decide +kernel
theorem dX9_readRow_286 : decode cX9_readRow 286 = .ok (.iconst 0, 1) := by decide +kernel
theorem dX9_readRow_287 : decode cX9_readRow 287 = .ok (.bipush 50, 2) := by decide +kernel
theorem dX9_readRow_289 : decode cX9_readRow 289 = .ok (.invokevirtual 138, 3) := by decide +kernel
theorem dX9_readRow_292 : decode cX9_readRow 292 = .ok (.iastore, 1) := by decide +kernel
theorem dX9_readRow_293 : decode cX9_readRow 293 = .ok (.aload_n 0, 1) := by decide +kernel
theorem dX9_readRow_294 : decode cX9_readRow 294 = .ok (.iconst 1, 1) := by decide +kernel
theorem dX9_readRow_295 : decode cX9_readRow 295 = .ok (.putfield 141, 3) := by decide +kernel
theorem dX9_readRow_298 : decode cX9_readRow 298 = .ok (.goto 61, 3) := by decide +kernel
theorem dX9_readRow_301 : decode cX9_readRow 301 = .ok (.iconst 5, 1) := by decide +kernel
theorem dX9_readRow_302 : decode cX9_readRow 302 = .ok (.aload_n 0, 1) := by decide +kernel
theorem dX9_readRow_303 : decode cX9_readRow 303 = .ok (.getfield 41, 3) := by decide +kernel
theorem dX9_readRow_306 : decode cX9_readRow 306 = .ok (.iconst 1, 1) := by decide +kernel
theorem dX9_readRow_307 : decode cX9_readRow 307 = .ok (.iaload, 1) := by decide +kernel
theorem dX9_readRow_308 : decode cX9_readRow 308 = .ok (.iadd, 1) := by decide +kernel
theorem dX9_readRow_309 : decode cX9_readRow 309 = .ok (.istore_n 2, 1) := by decide +kernel
theorem dX9_readRow_310 : decode cX9_readRow 310 = .ok (.aload_n 0, 1) := by decide +kernel
theorem dX9_readRow_311 : decode cX9_readRow 311 = .ok (.iconst 0, 1) := by decide +kernel
theorem dX9_readRow_312 : decode cX9_readRow 312 = .ok (.bipush 90, 2) := by decide +kernel
theorem dX9_readRow_314 : decode cX9_readRow 314 = .ok (.invokevirtual 138, 3) := by decide +kernel
theorem dX9_readRow_317 : decode cX9_readRow 317 = .ok (.istore_n 3, 1) := by decide +kernel
theorem dX9_readRow_318 : decode cX9_readRow 318 = .ok (.aload_n 0, 1) := by decide +kernel
theorem dX9_readRow_319 : decode cX9_readRow 319 = .ok (.iconst 1, 1) := by decide +kernel
theorem dX9_readRow_320 : decode cX9_readRow 320 = .ok (.bipush 9, 2) := by decide +kernel
theorem dX9_readRow_322 : decode cX9_readRow 322 = .ok (.invokevirtual 138, 3) := by decide +kernel
theorem dX9_readRow_325 : decode cX9_readRow 325 = .ok (.istore 4, 2) := by decide +kernel
theorem dX9_readRow_327 : decode cX9_readRow 327 = .ok (.aload_n 0, 1) := by decide +kernel
theorem dX9_readRow_328 : decode cX9_readRow 328 = .ok (.getfield 128, 3) := by decide +kernel
theorem dX9_readRow_331 : decode cX9_readRow 331 = .ok (.ifCond .ne 28, 3) := by decide +kernel
theorem dX9_readRow_334 : decode cX9_readRow 334 = .ok (.aload_n 0, 1) := by decide +kernel
theorem dX9_readRow_335 : decode cX9_readRow 335 = .ok (.getfield 44, 3) := by decide +kernel
theorem dX9_readRow_338 : decode cX9_readRow 338 = .ok (.iload_n 2, 1) := by decide +kernel
theorem dX9_readRow_339 : decode cX9_readRow 339 = .ok (.iload_n 3, 1) := by decide +kernel
theorem dX9_readRow_340 : decode cX9_readRow 340 = .ok (.iastore, 1) := by decide +kernel
theorem dX9_readRow_341 : decode cX9_readRow 341 = .ok (.aload_n 0, 1) := by decide +kernel
theorem dX9_readRow_342 : decode cX9_readRow 342 = .ok (.getfield 47, 3) := by decide +kernel
theorem dX9_readRow_345 : decode cX9_readRow 345 = .ok (.iload_n 2, 1) := by decide +kernel
theorem dX9_readRow_346 : decode cX9_readRow 346 = .ok (.iload 4, 2) := by decide +kernel
theorem dX9_readRow_348 : decode cX9_readRow 348 = .ok (.iastore, 1) := by decide +kernel
theorem dX9_readRow_349 : decode cX9_readRow 349 = .ok (.aload_n 0, 1) := by decide +kernel
theorem dX9_readRow_350 : decode cX9_readRow 350 = .ok (.getfield 41, 3) := by decide +kernel
theorem dX9_readRow_353 : decode cX9_readRow 353 = .ok (.iconst 1, 1) := by decide +kernel
theorem dX9_readRow_354 : decode cX9_readRow 354 = .ok (.dup2, 1) := by decide +kernel
theorem dX9_readRow_355 : decode cX9_readRow 355 = .ok (.iaload, 1) := by decide +kernel
theorem dX9_readRow_356 : decode cX9_readRow 356 = .ok (.iconst 1, 1) := by decide +kernel
theorem dX9_readRow_357 : decode cX9_readRow 357 = .ok (.iadd, 1) := by decide +kernel
theorem dX9_readRow_358 : decode cX9_readRow 358 = .ok (.iastore, 1) := by decide +kernel
theorem dX9_readRow_359 : decode cX9_readRow 359 = .ok (.return_, 1) := by decide +kernel
set_option maxRecDepth 20000 in
theorem ggX9_readClause_X9_fails : GoodIn wsX9_readClause wsX9_fails := goodIn_r _ [7, 2, 8, 9, 59, 60, 61, 62, 63, 64, 65, 66, 67, 68, 69, 70, 71, 72, 73, 74, 75, 76, 77, 78, 79, 80, 81, 82, 83, 84, 85, 86, 87, 88, 89, 90, 91, 92, 93, 94, 95, 96] (by decide +kernel) (by decide +kernel)
set_option maxRecDepth 20000 in
theorem gX9_readClause_X9_fails : GoodIn wsX9_readClause (wsV RX9 131 RX9 yX9_fails wsX9_fails) := goodIn_app (goodIn_of _ (by decide +kernel)) ggX9_readClause_X9_fails
set_option maxRecDepth 20000 in
theorem ggX9_readClause_X9_isTooMany : GoodIn wsX9_readClause wsX9_isTooMany := goodIn_r _ [13, 14, 15, 16, 17, 18, 59, 60, 61, 62, 63, 64, 65, 66, 67, 68, 69, 70, 71, 72, 73, 74, 75, 76, 77, 78, 79, 80, 81, 82, 83, 84, 85, 86, 87, 88, 89, 90, 91, 92, 93, 94, 95, 96] (by decide +kernel) (by decide +kernel)
set_option maxRecDepth 20000 in
theorem gX9_readClause_X9_isTooMany : GoodIn wsX9_readClause (wsV RX9 149 RX9 yX9_isTooMany wsX9_isTooMany) := goodIn_app (goodIn_of _ (by decide +kernel)) ggX9_readClause_X9_isTooMany
set_option maxRecDepth 20000 in
theorem ggX9_readClause_X9_step : GoodIn wsX9_readClause wsX9_step := goodIn_r _ [22, 23, 8, 24, 1, 25, 26, 27, 28, 6, 29, 30, 31, 32, 33, 34, 35, 36, 37, 38, 59, 60, 61, 62, 63, 64, 65, 66, 67, 68, 69, 70, 71, 72, 73, 74, 75, 76, 77, 78, 79, 80, 81, 82, 83, 84, 85, 86, 87, 88, 89, 90, 91, 92, 93, 94, 95, 96] (by decide +kernel) (by decide +kernel)
set_option maxRecDepth 20000 in
theorem gX9_readClause_X9_step : GoodIn wsX9_readClause (wsV RX9 135 RX9 yX9_step wsX9_step) := goodIn_app (goodIn_of _ (by decide +kernel)) ggX9_readClause_X9_step
set_option maxRecDepth 20000 in
theorem ggX9_readClause_X9_readRow : GoodIn wsX9_readClause wsX9_readRow := goodIn_r _ [42, 2, 43, 14, 44, 45, 15, 16, 46, 47, 48, 17, 18, 49, 50, 51, 52, 53, 6, 54, 24, 1, 3, 4, 5, 7, 8, 9, 32, 33, 34, 19, 20, 21, 22, 23, 25, 26, 27, 28, 29, 30, 31, 35, 36, 37, 38, 55, 56, 57, 58, 59, 60, 61, 62, 63, 64, 65, 66, 67, 68, 69, 70, 71, 72, 73, 74, 75, 76, 77, 78, 79, 80, 81, 82, 83, 84, 85, 86, 87, 88, 89, 90, 91, 92, 93, 94, 95, 96] (by decide +kernel) (by decide +kernel)
set_option maxRecDepth 20000 in
theorem gX9_readClause_X9_readRow : GoodIn wsX9_readClause (wsV RX9 153 RX9 yX9_readRow wsX9_readRow) := goodIn_app (goodIn_of _ (by decide +kernel)) ggX9_readClause_X9_readRow
theorem dX9_readClause_0 : decode cX9_readClause 0 = .ok (.aload_n 0, 1) := by decide +kernel
theorem dX9_readClause_1 : decode cX9_readClause 1 = .ok (.getfield 120, 3) := by decide +kernel
theorem dX9_readClause_4 : decode cX9_readClause 4 = .ok (.istore_n 1, 1) := by decide +kernel
theorem dX9_readClause_5 : decode cX9_readClause 5 = .ok (.iload_n 1, 1) := by decide +kernel
theorem dX9_readClause_6 : decode cX9_readClause 6 = .ok (.iconst 5, 1) := by decide +kernel
theorem dX9_readClause_7 : decode cX9_readClause 7 = .ok (.if_icmp .le 11, 3) := by decide +kernel
theorem dX9_readClause_10 : decode cX9_readClause 10 = .ok (.aload_n 0, 1) := by decide +kernel
theorem dX9_readClause_11 : decode cX9_readClause 11 = .ok (.iconst 1, 1) := by decide +kernel
theorem dX9_readClause_12 : decode cX9_readClause 12 = .ok (.invokevirtual 131, 3) := by decide +kernel
theorem dX9_readClause_15 : decode cX9_readClause 15 = .ok (.goto 60, 3) := by decide +kernel
theorem dX9_readClause_18 : decode cX9_readClause 18 = .ok (.aload_n 0, 1) := by decide +kernel
theorem dX9_readClause_19 : decode cX9_readClause 19 = .ok (.iload_n 1, 1) := by decide +kernel
theorem dX9_readClause_20 : decode cX9_readClause 20 = .ok (.invokevirtual 149, 3) := by decide +kernel
theorem dX9_readClause_23 : decode cX9_readClause 23 = .ok (.ifCond .eq 11, 3) := by decide +kernel
theorem dX9_readClause_26 : decode cX9_readClause 26 = .ok (.aload_n 0, 1) := by decide +kernel
theorem dX9_readClause_27 : decode cX9_readClause 27 = .ok (.iconst 3, 1) := by decide +kernel
theorem dX9_readClause_28 : decode cX9_readClause 28 = .ok (.invokevirtual 131, 3) := by decide +kernel
theorem dX9_readClause_31 : decode cX9_readClause 31 = .ok (.goto 44, 3) := by decide +kernel
theorem dX9_readClause_34 : decode cX9_readClause 34 = .ok (.aload_n 0, 1) := by decide +kernel
theorem dX9_readClause_35 : decode cX9_readClause 35 = .ok (.invokevirtual 135, 3) := by decide +kernel
theorem dX9_readClause_38 : decode cX9_readClause 38 = .ok (.aload_n 0, 1) := by decide +kernel
theorem dX9_readClause_39 : decode cX9_readClause 39 = .ok (.iload_n 1, 1) := by decide +kernel
theorem dX9_readClause_40 : decode cX9_readClause 40 = .ok (.invokevirtual 153, 3) := by decide +kernel
theorem dX9_readClause_43 : decode cX9_readClause 43 = .ok (.aload_n 0, 1) := by decide +kernel
theorem dX9_readClause_44 : decode cX9_readClause 44 = .ok (.getfield 128, 3) := by decide +kernel
theorem dX9_readClause_47 : decode cX9_readClause 47 = .ok (.ifCond .ne 17, 3) := by decide +kernel
theorem dX9_readClause_50 : decode cX9_readClause 50 = .ok (.aload_n 0, 1) := by decide +kernel
theorem dX9_readClause_51 : decode cX9_readClause 51 = .ok (.getfield 120, 3) := by decide +kernel
theorem dX9_readClause_54 : decode cX9_readClause 54 = .ok (.bipush 7, 2) := by decide +kernel
theorem dX9_readClause_56 : decode cX9_readClause 56 = .ok (.if_icmp .eq 8, 3) := by decide +kernel
theorem dX9_readClause_59 : decode cX9_readClause 59 = .ok (.aload_n 0, 1) := by decide +kernel
theorem dX9_readClause_60 : decode cX9_readClause 60 = .ok (.iconst 1, 1) := by decide +kernel
theorem dX9_readClause_61 : decode cX9_readClause 61 = .ok (.invokevirtual 131, 3) := by decide +kernel
theorem dX9_readClause_64 : decode cX9_readClause 64 = .ok (.aload_n 0, 1) := by decide +kernel
theorem dX9_readClause_65 : decode cX9_readClause 65 = .ok (.getfield 128, 3) := by decide +kernel
theorem dX9_readClause_68 : decode cX9_readClause 68 = .ok (.ifCond .ne 7, 3) := by decide +kernel
theorem dX9_readClause_71 : decode cX9_readClause 71 = .ok (.aload_n 0, 1) := by decide +kernel
theorem dX9_readClause_72 : decode cX9_readClause 72 = .ok (.invokevirtual 135, 3) := by decide +kernel
theorem dX9_readClause_75 : decode cX9_readClause 75 = .ok (.return_, 1) := by decide +kernel
set_option maxRecDepth 20000 in
theorem ggX9_cave_X9_step : GoodIn wsX9_cave wsX9_step := goodIn_r _ [28, 1, 29, 30, 11, 31, 32, 33, 34, 27, 35, 12, 36, 37, 38, 39, 40, 41, 42, 43, 68, 69, 70, 71, 72, 73, 74, 75, 76, 77, 78, 79, 80, 81, 82, 83, 84, 85, 86, 87, 88, 89, 90, 91, 92, 93, 94, 95, 96, 97, 98, 99, 100, 101, 102, 103, 104, 105] (by decide +kernel) (by decide +kernel)
set_option maxRecDepth 20000 in
theorem gX9_cave_X9_step : GoodIn wsX9_cave (wsV RX9 135 RX9 yX9_step wsX9_step) := goodIn_app (goodIn_of _ (by decide +kernel)) ggX9_cave_X9_step
set_option maxRecDepth 20000 in
theorem ggX9_cave_X9_readClause : GoodIn wsX9_cave wsX9_readClause := goodIn_r _ [47, 11, 2, 48, 49, 50, 27, 51, 29, 3, 52, 53, 54, 55, 5, 6, 8, 4, 10, 24, 25, 26, 28, 1, 30, 31, 32, 33, 34, 35, 12, 36, 37, 38, 39, 40, 41, 42, 43, 56, 57, 58, 59, 13, 14, 7, 18, 19, 9, 15, 16, 60, 61, 62, 63, 64, 65, 66, 67, 68, 69, 70, 71, 72, 73, 74, 75, 76, 77, 78, 79, 80, 81, 82, 83, 84, 85, 86, 87, 88, 89, 90, 91, 92, 93, 94, 95, 96, 97, 98, 99, 100, 101, 102, 103, 104, 105] (by decide +kernel) (by decide +kernel)
set_option maxRecDepth 20000 in
theorem gX9_cave_X9_readClause : GoodIn wsX9_cave (wsV RX9 156 RX9 yX9_readClause wsX9_readClause) := goodIn_app (goodIn_of _ (by decide +kernel)) ggX9_cave_X9_readClause
theorem dX9_cave_0 : decode cX9_cave 0 = .ok (.aload_n 0, 1) := by decide +kernel
theorem dX9_cave_1 : decode cX9_cave 1 = .ok (.iconst 0, 1) := by decide +kernel
theorem dX9_cave_2 : decode cX9_cave 2 = .ok (.putfield 106, 3) := by decide +kernel
theorem dX9_cave_5 : decode cX9_cave 5 = .ok (.aload_n 0, 1) := by decide +kernel
theorem dX9_cave_6 : decode cX9_cave 6 = .ok (.iconst 0, 1) := by decide +kernel
theorem dX9_cave_7 : decode cX9_cave 7 = .ok (.putfield 128, 3) := by decide +kernel
theorem dX9_cave_10 : decode cX9_cave 10 = .ok (.aload_n 0, 1) := by decide +kernel
theorem dX9_cave_11 : decode cX9_cave 11 = .ok (.iconst (-1), 1) := by decide +kernel
theorem dX9_cave_12 : decode cX9_cave 12 = .ok (.putfield 91, 3) := by decide +kernel
theorem dX9_cave_15 : decode cX9_cave 15 = .ok (.aload_n 0, 1) := by decide +kernel
theorem dX9_cave_16 : decode cX9_cave 16 = .ok (.iconst 0, 1) := by decide +kernel
theorem dX9_cave_17 : decode cX9_cave 17 = .ok (.putfield 141, 3) := by decide +kernel
theorem dX9_cave_20 : decode cX9_cave 20 = .ok (.aload_n 0, 1) := by decide +kernel
theorem dX9_cave_21 : decode cX9_cave 21 = .ok (.getfield 13, 3) := by decide +kernel
theorem dX9_cave_24 : decode cX9_cave 24 = .ok (.iconst 1, 1) := by decide +kernel
theorem dX9_cave_25 : decode cX9_cave 25 = .ok (.iconst 0, 1) := by decide +kernel
theorem dX9_cave_26 : decode cX9_cave 26 = .ok (.iastore, 1) := by decide +kernel
theorem dX9_cave_27 : decode cX9_cave 27 = .ok (.aload_n 0, 1) := by decide +kernel
theorem dX9_cave_28 : decode cX9_cave 28 = .ok (.getfield 23, 3) := by decide +kernel
theorem dX9_cave_31 : decode cX9_cave 31 = .ok (.iconst 1, 1) := by decide +kernel
theorem dX9_cave_32 : decode cX9_cave 32 = .ok (.iconst 0, 1) := by decide +kernel
theorem dX9_cave_33 : decode cX9_cave 33 = .ok (.iastore, 1) := by decide +kernel
theorem dX9_cave_34 : decode cX9_cave 34 = .ok (.aload_n 0, 1) := by decide +kernel
theorem dX9_cave_35 : decode cX9_cave 35 = .ok (.getfield 26, 3) := by decide +kernel
theorem dX9_cave_38 : decode cX9_cave 38 = .ok (.iconst 1, 1) := by decide +kernel
theorem dX9_cave_39 : decode cX9_cave 39 = .ok (.iconst 0, 1) := by decide +kernel
theorem dX9_cave_40 : decode cX9_cave 40 = .ok (.iastore, 1) := by decide +kernel
theorem dX9_cave_41 : decode cX9_cave 41 = .ok (.aload_n 0, 1) := by decide +kernel
theorem dX9_cave_42 : decode cX9_cave 42 = .ok (.getfield 29, 3) := by decide +kernel
theorem dX9_cave_45 : decode cX9_cave 45 = .ok (.iconst 1, 1) := by decide +kernel
theorem dX9_cave_46 : decode cX9_cave 46 = .ok (.iconst 0, 1) := by decide +kernel
theorem dX9_cave_47 : decode cX9_cave 47 = .ok (.iastore, 1) := by decide +kernel
theorem dX9_cave_48 : decode cX9_cave 48 = .ok (.aload_n 0, 1) := by decide +kernel
theorem dX9_cave_49 : decode cX9_cave 49 = .ok (.getfield 38, 3) := by decide +kernel
theorem dX9_cave_52 : decode cX9_cave 52 = .ok (.iconst 1, 1) := by decide +kernel
theorem dX9_cave_53 : decode cX9_cave 53 = .ok (.iconst 0, 1) := by decide +kernel
theorem dX9_cave_54 : decode cX9_cave 54 = .ok (.iastore, 1) := by decide +kernel
theorem dX9_cave_55 : decode cX9_cave 55 = .ok (.aload_n 0, 1) := by decide +kernel
theorem dX9_cave_56 : decode cX9_cave 56 = .ok (.getfield 41, 3) := by decide +kernel
theorem dX9_cave_59 : decode cX9_cave 59 = .ok (.iconst 1, 1) := by decide +kernel
theorem dX9_cave_60 : decode cX9_cave 60 = .ok (.iconst 0, 1) := by decide +kernel
theorem dX9_cave_61 : decode cX9_cave 61 = .ok (.iastore, 1) := by decide +kernel
theorem dX9_cave_62 : decode cX9_cave 62 = .ok (.aload_n 0, 1) := by decide +kernel
theorem dX9_cave_63 : decode cX9_cave 63 = .ok (.invokevirtual 135, 3) := by decide +kernel
theorem dX9_cave_66 : decode cX9_cave 66 = .ok (.aload_n 0, 1) := by decide +kernel
theorem dX9_cave_67 : decode cX9_cave 67 = .ok (.getfield 128, 3) := by decide +kernel
theorem dX9_cave_70 : decode cX9_cave 70 = .ok (.ifCond .ne 19, 3) := by decide +kernel
theorem dX9_cave_73 : decode cX9_cave 73 = .ok (.aload_n 0, 1) := by decide +kernel
theorem dX9_cave_74 : decode cX9_cave 74 = .ok (.getfield 120, 3) := by decide +kernel
theorem dX9_cave_77 : decode cX9_cave 77 = .ok (.bipush 8, 2) := by decide +kernel
theorem dX9_cave_79 : decode cX9_cave 79 = .ok (.if_icmp .eq 10, 3) := by decide +kernel
theorem dX9_cave_82 : decode cX9_cave 82 = .ok (.aload_n 0, 1) := by decide +kernel
theorem dX9_cave_83 : decode cX9_cave 83 = .ok (.invokevirtual 156, 3) := by decide +kernel
theorem dX9_cave_86 : decode cX9_cave 86 = .ok (.goto (-20), 3) := by decide +kernel
theorem dX9_cave_89 : decode cX9_cave 89 = .ok (.aload_n 0, 1) := by decide +kernel
theorem dX9_cave_90 : decode cX9_cave 90 = .ok (.iconst 0, 1) := by decide +kernel
theorem dX9_cave_91 : decode cX9_cave 91 = .ok (.putfield 100, 3) := by decide +kernel
theorem dX9_cave_94 : decode cX9_cave 94 = .ok (.aload_n 0, 1) := by decide +kernel
theorem dX9_cave_95 : decode cX9_cave 95 = .ok (.getfield 128, 3) := by decide +kernel
theorem dX9_cave_98 : decode cX9_cave 98 = .ok (.ifCond .eq 11, 3) := by decide +kernel
theorem dX9_cave_101 : decode cX9_cave 101 = .ok (.bipush (-10), 2) := by decide +kernel
theorem dX9_cave_103 : decode cX9_cave 103 = .ok (.aload_n 0, 1) := by decide +kernel
theorem dX9_cave_104 : decode cX9_cave 104 = .ok (.getfield 128, 3) := by decide +kernel
theorem dX9_cave_107 : decode cX9_cave 107 = .ok (.isub, 1) := by decide +kernel
theorem dX9_cave_108 : decode cX9_cave 108 = .ok (.ireturn, 1) := by decide +kernel
theorem dX9_cave_109 : decode cX9_cave 109 = .ok (.aload_n 0, 1) := by decide +kernel
theorem dX9_cave_110 : decode cX9_cave 110 = .ok (.getfield 13, 3) := by decide +kernel
theorem dX9_cave_113 : decode cX9_cave 113 = .ok (.iconst 0, 1) := by decide +kernel
theorem dX9_cave_114 : decode cX9_cave 114 = .ok (.aload_n 0, 1) := by decide +kernel
theorem dX9_cave_115 : decode cX9_cave 115 = .ok (.getfield 13, 3) := by decide +kernel
theorem dX9_cave_118 : decode cX9_cave 118 = .ok (.iconst 1, 1) := by decide +kernel
theorem dX9_cave_119 : decode cX9_cave 119 = .ok (.iaload, 1) := by decide +kernel
theorem dX9_cave_120 : decode cX9_cave 120 = .ok (.iastore, 1) := by decide +kernel
theorem dX9_cave_121 : decode cX9_cave 121 = .ok (.aload_n 0, 1) := by decide +kernel
theorem dX9_cave_122 : decode cX9_cave 122 = .ok (.getfield 23, 3) := by decide +kernel
theorem dX9_cave_125 : decode cX9_cave 125 = .ok (.iconst 0, 1) := by decide +kernel
theorem dX9_cave_126 : decode cX9_cave 126 = .ok (.aload_n 0, 1) := by decide +kernel
theorem dX9_cave_127 : decode cX9_cave 127 = .ok (.getfield 23, 3) := by decide +kernel
theorem dX9_cave_130 : decode cX9_cave 130 = .ok (.iconst 1, 1) := by decide +kernel
theorem dX9_cave_131 : decode cX9_cave 131 = .ok (.iaload, 1) := by decide +kernel
theorem dX9_cave_132 : decode cX9_cave 132 = .ok (.iastore, 1) := by decide +kernel
theorem dX9_cave_133 : decode cX9_cave 133 = .ok (.aload_n 0, 1) := by decide +kernel
theorem dX9_cave_134 : decode cX9_cave 134 = .ok (.getfield 26, 3) := by decide +kernel
theorem dX9_cave_137 : decode cX9_cave 137 = .ok (.iconst 0, 1) := by decide +kernel
theorem dX9_cave_138 : decode cX9_cave 138 = .ok (.aload_n 0, 1) := by decide +kernel
theorem dX9_cave_139 : decode cX9_cave 139 = .ok (.getfield 26, 3) := by decide +kernel
theorem dX9_cave_142 : decode cX9_cave 142 = .ok (.iconst 1, 1) := by decide +kernel
theorem dX9_cave_143 : decode cX9_cave 143 = .ok (.iaload, 1) := by decide +kernel
theorem dX9_cave_144 : decode cX9_cave 144 = .ok (.iastore, 1) := by decide +kernel
theorem dX9_cave_145 : decode cX9_cave 145 = .ok (.aload_n 0, 1) := by decide +kernel
theorem dX9_cave_146 : decode cX9_cave 146 = .ok (.getfield 29, 3) := by decide +kernel
theorem dX9_cave_149 : decode cX9_cave 149 = .ok (.iconst 0, 1) := by decide +kernel
theorem dX9_cave_150 : decode cX9_cave 150 = .ok (.aload_n 0, 1) := by decide +kernel
theorem dX9_cave_151 : decode cX9_cave 151 = .ok (.getfield 29, 3) := by decide +kernel
theorem dX9_cave_154 : decode cX9_cave 154 = .ok (.iconst 1, 1) := by decide +kernel
theorem dX9_cave_155 : decode cX9_cave 155 = .ok (.iaload, 1) := by decide +kernel
theorem dX9_cave_156 : decode cX9_cave 156 = .ok (.iastore, 1) := by decide +kernel
theorem dX9_cave_157 : decode cX9_cave 157 = .ok (.aload_n 0, 1) := by decide +kernel
theorem dX9_cave_158 : decode cX9_cave 158 = .ok (.getfield 38, 3) := by decide +kernel
theorem dX9_cave_161 : decode cX9_cave 161 = .ok (.iconst 0, 1) := by decide +kernel
theorem dX9_cave_162 : decode cX9_cave 162 = .ok (.aload_n 0, 1) := by decide +kernel
theorem dX9_cave_163 : decode cX9_cave 163 = .ok (.getfield 38, 3) := by decide +kernel
theorem dX9_cave_166 : decode cX9_cave 166 = .ok (.iconst 1, 1) := by decide +kernel
theorem dX9_cave_167 : decode cX9_cave 167 = .ok (.iaload, 1) := by decide +kernel
theorem dX9_cave_168 : decode cX9_cave 168 = .ok (.iastore, 1) := by decide +kernel
theorem dX9_cave_169 : decode cX9_cave 169 = .ok (.aload_n 0, 1) := by decide +kernel
theorem dX9_cave_170 : decode cX9_cave 170 = .ok (.getfield 41, 3) := by decide +kernel
theorem dX9_cave_173 : decode cX9_cave 173 = .ok (.iconst 0, 1) := by decide +kernel
theorem dX9_cave_174 : decode cX9_cave 174 = .ok (.aload_n 0, 1) := by decide +kernel
theorem dX9_cave_175 : decode cX9_cave 175 = .ok (.getfield 41, 3) := by decide +kernel
theorem dX9_cave_178 : decode cX9_cave 178 = .ok (.iconst 1, 1) := by decide +kernel
theorem dX9_cave_179 : decode cX9_cave 179 = .ok (.iaload, 1) := by decide +kernel
theorem dX9_cave_180 : decode cX9_cave 180 = .ok (.iastore, 1) := by decide +kernel
theorem dX9_cave_181 : decode cX9_cave 181 = .ok (.iconst 0, 1) := by decide +kernel
theorem dX9_cave_182 : decode cX9_cave 182 = .ok (.istore_n 1, 1) := by decide +kernel
theorem dX9_cave_183 : decode cX9_cave 183 = .ok (.iload_n 1, 1) := by decide +kernel
theorem dX9_cave_184 : decode cX9_cave 184 = .ok (.bipush 7, 2) := by decide +kernel
theorem dX9_cave_186 : decode cX9_cave 186 = .ok (.if_icmp .ge 39, 3) := by decide +kernel
theorem dX9_cave_189 : decode cX9_cave 189 = .ok (.aload_n 0, 1) := by decide +kernel
theorem dX9_cave_190 : decode cX9_cave 190 = .ok (.getfield 17, 3) := by decide +kernel
theorem dX9_cave_193 : decode cX9_cave 193 = .ok (.iload_n 1, 1) := by decide +kernel
theorem dX9_cave_194 : decode cX9_cave 194 = .ok (.aload_n 0, 1) := by decide +kernel
theorem dX9_cave_195 : decode cX9_cave 195 = .ok (.getfield 17, 3) := by decide +kernel
theorem dX9_cave_198 : decode cX9_cave 198 = .ok (.bipush 7, 2) := by decide +kernel
theorem dX9_cave_200 : decode cX9_cave 200 = .ok (.iload_n 1, 1) := by decide +kernel
theorem dX9_cave_201 : decode cX9_cave 201 = .ok (.iadd, 1) := by decide +kernel
theorem dX9_cave_202 : decode cX9_cave 202 = .ok (.iaload, 1) := by decide +kernel
theorem dX9_cave_203 : decode cX9_cave 203 = .ok (.iastore, 1) := by decide +kernel
theorem dX9_cave_204 : decode cX9_cave 204 = .ok (.aload_n 0, 1) := by decide +kernel
theorem dX9_cave_205 : decode cX9_cave 205 = .ok (.getfield 20, 3) := by decide +kernel
theorem dX9_cave_208 : decode cX9_cave 208 = .ok (.iload_n 1, 1) := by decide +kernel
theorem dX9_cave_209 : decode cX9_cave 209 = .ok (.aload_n 0, 1) := by decide +kernel
theorem dX9_cave_210 : decode cX9_cave 210 = .ok (.getfield 20, 3) := by decide +kernel
theorem dX9_cave_213 : decode cX9_cave 213 = .ok (.bipush 7, 2) := by decide +kernel
theorem dX9_cave_215 : decode cX9_cave 215 = .ok (.iload_n 1, 1) := by decide +kernel
theorem dX9_cave_216 : decode cX9_cave 216 = .ok (.iadd, 1) := by decide +kernel
theorem dX9_cave_217 : decode cX9_cave 217 = .ok (.iaload, 1) := by decide +kernel
theorem dX9_cave_218 : decode cX9_cave 218 = .ok (.iastore, 1) := by decide +kernel
theorem dX9_cave_219 : decode cX9_cave 219 = .ok (.iinc 1 1, 3) := by decide +kernel
theorem dX9_cave_222 : decode cX9_cave 222 = .ok (.goto (-39), 3) := by decide +kernel
theorem dX9_cave_225 : decode cX9_cave 225 = .ok (.iconst 0, 1) := by decide +kernel
theorem dX9_cave_226 : decode cX9_cave 226 = .ok (.istore_n 1, 1) := by decide +kernel
theorem dX9_cave_227 : decode cX9_cave 227 = .ok (.iload_n 1, 1) := by decide +kernel
theorem dX9_cave_228 : decode cX9_cave 228 = .ok (.iconst 5, 1) := by decide +kernel
theorem dX9_cave_229 : decode cX9_cave 229 = .ok (.if_icmp .ge 37, 3) := by decide +kernel
theorem dX9_cave_232 : decode cX9_cave 232 = .ok (.aload_n 0, 1) := by decide +kernel
theorem dX9_cave_233 : decode cX9_cave 233 = .ok (.getfield 44, 3) := by decide +kernel
theorem dX9_cave_236 : decode cX9_cave 236 = .ok (.iload_n 1, 1) := by decide +kernel
theorem dX9_cave_237 : decode cX9_cave 237 = .ok (.aload_n 0, 1) := by decide +kernel
theorem dX9_cave_238 : decode cX9_cave 238 = .ok (.getfield 44, 3) := by decide +kernel
theorem dX9_cave_241 : decode cX9_cave 241 = .ok (.iconst 5, 1) := by decide +kernel
theorem dX9_cave_242 : decode cX9_cave 242 = .ok (.iload_n 1, 1) := by decide +kernel
theorem dX9_cave_243 : decode cX9_cave 243 = .ok (.iadd, 1) := by decide +kernel
theorem dX9_cave_244 : decode cX9_cave 244 = .ok (.iaload, 1) := by decide +kernel
theorem dX9_cave_245 : decode cX9_cave 245 = .ok (.iastore, 1) := by decide +kernel
theorem dX9_cave_246 : decode cX9_cave 246 = .ok (.aload_n 0, 1) := by decide +kernel
theorem dX9_cave_247 : decode cX9_cave 247 = .ok (.getfield 47, 3) := by decide +kernel
theorem dX9_cave_250 : decode cX9_cave 250 = .ok (.iload_n 1, 1) := by decide +kernel
theorem dX9_cave_251 : decode cX9_cave 251 = .ok (.aload_n 0, 1) := by decide +kernel
theorem dX9_cave_252 : decode cX9_cave 252 = .ok (.getfield 47, 3) := by decide +kernel
theorem dX9_cave_255 : decode cX9_cave 255 = .ok (.iconst 5, 1) := by decide +kernel
theorem dX9_cave_256 : decode cX9_cave 256 = .ok (.iload_n 1, 1) := by decide +kernel
theorem dX9_cave_257 : decode cX9_cave 257 = .ok (.iadd, 1) := by decide +kernel
theorem dX9_cave_258 : decode cX9_cave 258 = .ok (.iaload, 1) := by decide +kernel
theorem dX9_cave_259 : decode cX9_cave 259 = .ok (.iastore, 1) := by decide +kernel
theorem dX9_cave_260 : decode cX9_cave 260 = .ok (.iinc 1 1, 3) := by decide +kernel
theorem dX9_cave_263 : decode cX9_cave 263 = .ok (.goto (-36), 3) := by decide +kernel
theorem dX9_cave_266 : decode cX9_cave 266 = .ok (.aload_n 0, 1) := by decide +kernel
theorem dX9_cave_267 : decode cX9_cave 267 = .ok (.getfield 50, 3) := by decide +kernel
theorem dX9_cave_270 : decode cX9_cave 270 = .ok (.iconst 0, 1) := by decide +kernel
theorem dX9_cave_271 : decode cX9_cave 271 = .ok (.iconst 0, 1) := by decide +kernel
theorem dX9_cave_272 : decode cX9_cave 272 = .ok (.iastore, 1) := by decide +kernel
theorem dX9_cave_273 : decode cX9_cave 273 = .ok (.iconst 0, 1) := by decide +kernel
theorem dX9_cave_274 : decode cX9_cave 274 = .ok (.istore_n 1, 1) := by decide +kernel
theorem dX9_cave_275 : decode cX9_cave 275 = .ok (.iload_n 1, 1) := by decide +kernel
theorem dX9_cave_276 : decode cX9_cave 276 = .ok (.bipush 6, 2) := by decide +kernel
theorem dX9_cave_278 : decode cX9_cave 278 = .ok (.if_icmp .ge 57, 3) := by decide +kernel
theorem dX9_cave_281 : decode cX9_cave 281 = .ok (.aload_n 0, 1) := by decide +kernel
theorem dX9_cave_282 : decode cX9_cave 282 = .ok (.getfield 50, 3) := by decide +kernel
theorem dX9_cave_285 : decode cX9_cave 285 = .ok (.iconst 1, 1) := by decide +kernel
theorem dX9_cave_286 : decode cX9_cave 286 = .ok (.iload_n 1, 1) := by decide +kernel
theorem dX9_cave_287 : decode cX9_cave 287 = .ok (.iadd, 1) := by decide +kernel
theorem dX9_cave_288 : decode cX9_cave 288 = .ok (.bipush 60, 2) := by decide +kernel
theorem dX9_cave_290 : decode cX9_cave 290 = .ok (.aload_n 0, 1) := by decide +kernel
theorem dX9_cave_291 : decode cX9_cave 291 = .ok (.getfield 32, 3) := by decide +kernel
theorem dX9_cave_294 : decode cX9_cave 294 = .ok (.bipush 6, 2) := by decide +kernel
theorem dX9_cave_296 : decode cX9_cave 296 = .ok (.iload_n 1, 1) := by decide +kernel
theorem dX9_cave_297 : decode cX9_cave 297 = .ok (.iadd, 1) := by decide +kernel
theorem dX9_cave_298 : decode cX9_cave 298 = .ok (.iaload, 1) := by decide +kernel
theorem dX9_cave_299 : decode cX9_cave 299 = .ok (.imul, 1) := by decide +kernel
theorem dX9_cave_300 : decode cX9_cave 300 = .ok (.iastore, 1) := by decide +kernel
theorem dX9_cave_301 : decode cX9_cave 301 = .ok (.aload_n 0, 1) := by decide +kernel
theorem dX9_cave_302 : decode cX9_cave 302 = .ok (.getfield 50, 3) := by decide +kernel
theorem dX9_cave_305 : decode cX9_cave 305 = .ok (.bipush 7, 2) := by decide +kernel
theorem dX9_cave_307 : decode cX9_cave 307 = .ok (.iload_n 1, 1) := by decide +kernel
theorem dX9_cave_308 : decode cX9_cave 308 = .ok (.iadd, 1) := by decide +kernel
theorem dX9_cave_309 : decode cX9_cave 309 = .ok (.aload_n 0, 1) := by decide +kernel
theorem dX9_cave_310 : decode cX9_cave 310 = .ok (.getfield 35, 3) := by decide +kernel
theorem dX9_cave_313 : decode cX9_cave 313 = .ok (.bipush 6, 2) := by decide +kernel
theorem dX9_cave_315 : decode cX9_cave 315 = .ok (.iload_n 1, 1) := by decide +kernel
theorem dX9_cave_316 : decode cX9_cave 316 = .ok (.iadd, 1) := by decide +kernel
theorem dX9_cave_317 : decode cX9_cave 317 = .ok (.iaload, 1) := by decide +kernel
theorem dX9_cave_318 : decode cX9_cave 318 = .ok (.iastore, 1) := by decide +kernel
theorem dX9_cave_319 : decode cX9_cave 319 = .ok (.aload_n 0, 1) := by decide +kernel
theorem dX9_cave_320 : decode cX9_cave 320 = .ok (.getfield 50, 3) := by decide +kernel
theorem dX9_cave_323 : decode cX9_cave 323 = .ok (.bipush 13, 2) := by decide +kernel
theorem dX9_cave_325 : decode cX9_cave 325 = .ok (.iload_n 1, 1) := by decide +kernel
theorem dX9_cave_326 : decode cX9_cave 326 = .ok (.iadd, 1) := by decide +kernel
theorem dX9_cave_327 : decode cX9_cave 327 = .ok (.iconst 0, 1) := by decide +kernel
theorem dX9_cave_328 : decode cX9_cave 328 = .ok (.iastore, 1) := by decide +kernel
theorem dX9_cave_329 : decode cX9_cave 329 = .ok (.iinc 1 1, 3) := by decide +kernel
theorem dX9_cave_332 : decode cX9_cave 332 = .ok (.goto (-57), 3) := by decide +kernel
theorem dX9_cave_335 : decode cX9_cave 335 = .ok (.aload_n 0, 1) := by decide +kernel
theorem dX9_cave_336 : decode cX9_cave 336 = .ok (.iconst 0, 1) := by decide +kernel
theorem dX9_cave_337 : decode cX9_cave 337 = .ok (.putfield 159, 3) := by decide +kernel
theorem dX9_cave_340 : decode cX9_cave 340 = .ok (.aload_n 0, 1) := by decide +kernel
theorem dX9_cave_341 : decode cX9_cave 341 = .ok (.iconst 0, 1) := by decide +kernel
theorem dX9_cave_342 : decode cX9_cave 342 = .ok (.putfield 162, 3) := by decide +kernel
theorem dX9_cave_345 : decode cX9_cave 345 = .ok (.aload_n 0, 1) := by decide +kernel
theorem dX9_cave_346 : decode cX9_cave 346 = .ok (.iconst 0, 1) := by decide +kernel
theorem dX9_cave_347 : decode cX9_cave 347 = .ok (.putfield 165, 3) := by decide +kernel
theorem dX9_cave_350 : decode cX9_cave 350 = .ok (.aload_n 0, 1) := by decide +kernel
theorem dX9_cave_351 : decode cX9_cave 351 = .ok (.getfield 53, 3) := by decide +kernel
theorem dX9_cave_354 : decode cX9_cave 354 = .ok (.iconst 0, 1) := by decide +kernel
theorem dX9_cave_355 : decode cX9_cave 355 = .ok (.iconst 0, 1) := by decide +kernel
theorem dX9_cave_356 : decode cX9_cave 356 = .ok (.bastore, 1) := by decide +kernel
theorem dX9_cave_357 : decode cX9_cave 357 = .ok (.aload_n 0, 1) := by decide +kernel
theorem dX9_cave_358 : decode cX9_cave 358 = .ok (.getfield 53, 3) := by decide +kernel
theorem dX9_cave_361 : decode cX9_cave 361 = .ok (.iconst 1, 1) := by decide +kernel
theorem dX9_cave_362 : decode cX9_cave 362 = .ok (.iconst 0, 1) := by decide +kernel
theorem dX9_cave_363 : decode cX9_cave 363 = .ok (.bastore, 1) := by decide +kernel
theorem dX9_cave_364 : decode cX9_cave 364 = .ok (.aload_n 0, 1) := by decide +kernel
theorem dX9_cave_365 : decode cX9_cave 365 = .ok (.getfield 13, 3) := by decide +kernel
theorem dX9_cave_368 : decode cX9_cave 368 = .ok (.iconst 0, 1) := by decide +kernel
theorem dX9_cave_369 : decode cX9_cave 369 = .ok (.iaload, 1) := by decide +kernel
theorem dX9_cave_370 : decode cX9_cave 370 = .ok (.ireturn, 1) := by decide +kernel
theorem dX9_fault_0 : decode cX9_fault 0 = .ok (.aload_n 0, 1) := by decide +kernel
theorem dX9_fault_1 : decode cX9_fault 1 = .ok (.getfield 91, 3) := by decide +kernel
theorem dX9_fault_4 : decode cX9_fault 4 = .ok (.ireturn, 1) := by decide +kernel
set_option maxRecDepth 20000 in
theorem ggX9_isPart_X9_in : GoodIn wsX9_isPart wsX9_in := goodIn_r _ [5] (by decide +kernel) (by decide +kernel)
set_option maxRecDepth 20000 in
theorem gX9_isPart_X9_in : GoodIn wsX9_isPart (va_wsS RX9 95 yX9_in wsX9_in) := goodIn_app (goodIn_of _ (by decide +kernel)) ggX9_isPart_X9_in
theorem dX9_isPart_0 : decode cX9_isPart 0 = .ok (.iload_n 1, 1) := by decide +kernel
theorem dX9_isPart_1 : decode cX9_isPart 1 = .ok (.iconst 0, 1) := by decide +kernel
theorem dX9_isPart_2 : decode cX9_isPart 2 = .ok (.aload_n 0, 1) := by decide +kernel
theorem dX9_isPart_3 : decode cX9_isPart 3 = .ok (.getfield 13, 3) := by decide +kernel
theorem dX9_isPart_6 : decode cX9_isPart 6 = .ok (.iconst 0, 1) := by decide +kernel
theorem dX9_isPart_7 : decode cX9_isPart 7 = .ok (.iaload, 1) := by decide +kernel
theorem dX9_isPart_8 : decode cX9_isPart 8 = .ok (.iconst 1, 1) := by decide +kernel
theorem dX9_isPart_9 : decode cX9_isPart 9 = .ok (.isub, 1) := by decide +kernel
theorem dX9_isPart_10 : decode cX9_isPart 10 = .ok (.invokestatic 95, 3) := by decide +kernel
theorem dX9_isPart_13 : decode cX9_isPart 13 = .ok (.ireturn, 1) := by decide +kernel
set_option maxRecDepth 20000 in
theorem ggX9_isMouth_X9_isPart : GoodIn wsX9_isMouth wsX9_isPart := goodIn_r _ [6, 7, 8, 9, 5, 10, 11, 12, 13, 14, 15, 16, 17, 18, 19, 20, 21, 22, 23, 24, 25, 26, 27, 28, 29, 30, 31, 32, 33, 34, 35, 36, 37, 38, 39, 40, 41, 42, 43, 44, 45, 46, 47, 48] (by decide +kernel) (by decide +kernel)
set_option maxRecDepth 20000 in
theorem gX9_isMouth_X9_isPart : GoodIn wsX9_isMouth (wsV RX9 168 RX9 yX9_isPart wsX9_isPart) := goodIn_app (goodIn_of _ (by decide +kernel)) ggX9_isMouth_X9_isPart
theorem dX9_isMouth_0 : decode cX9_isMouth 0 = .ok (.aload_n 0, 1) := by decide +kernel
theorem dX9_isMouth_1 : decode cX9_isMouth 1 = .ok (.iload_n 1, 1) := by decide +kernel
theorem dX9_isMouth_2 : decode cX9_isMouth 2 = .ok (.invokevirtual 168, 3) := by decide +kernel
theorem dX9_isMouth_5 : decode cX9_isMouth 5 = .ok (.ifCond .eq 21, 3) := by decide +kernel
theorem dX9_isMouth_8 : decode cX9_isMouth 8 = .ok (.aload_n 0, 1) := by decide +kernel
theorem dX9_isMouth_9 : decode cX9_isMouth 9 = .ok (.getfield 26, 3) := by decide +kernel
theorem dX9_isMouth_12 : decode cX9_isMouth 12 = .ok (.iconst 0, 1) := by decide +kernel
theorem dX9_isMouth_13 : decode cX9_isMouth 13 = .ok (.iaload, 1) := by decide +kernel
theorem dX9_isMouth_14 : decode cX9_isMouth 14 = .ok (.iload_n 1, 1) := by decide +kernel
theorem dX9_isMouth_15 : decode cX9_isMouth 15 = .ok (.ishr, 1) := by decide +kernel
theorem dX9_isMouth_16 : decode cX9_isMouth 16 = .ok (.iconst 1, 1) := by decide +kernel
theorem dX9_isMouth_17 : decode cX9_isMouth 17 = .ok (.iand, 1) := by decide +kernel
theorem dX9_isMouth_18 : decode cX9_isMouth 18 = .ok (.iconst 1, 1) := by decide +kernel
theorem dX9_isMouth_19 : decode cX9_isMouth 19 = .ok (.if_icmp .ne 7, 3) := by decide +kernel
theorem dX9_isMouth_22 : decode cX9_isMouth 22 = .ok (.iconst 1, 1) := by decide +kernel
theorem dX9_isMouth_23 : decode cX9_isMouth 23 = .ok (.goto 4, 3) := by decide +kernel
theorem dX9_isMouth_26 : decode cX9_isMouth 26 = .ok (.iconst 0, 1) := by decide +kernel
theorem dX9_isMouth_27 : decode cX9_isMouth 27 = .ok (.ireturn, 1) := by decide +kernel
set_option maxRecDepth 20000 in
theorem ggX9_isPerson_X9_in : GoodIn wsX9_isPerson wsX9_in := goodIn_r _ [5] (by decide +kernel) (by decide +kernel)
set_option maxRecDepth 20000 in
theorem gX9_isPerson_X9_in : GoodIn wsX9_isPerson (va_wsS RX9 95 yX9_in wsX9_in) := goodIn_app (goodIn_of _ (by decide +kernel)) ggX9_isPerson_X9_in
theorem dX9_isPerson_0 : decode cX9_isPerson 0 = .ok (.iload_n 1, 1) := by decide +kernel
theorem dX9_isPerson_1 : decode cX9_isPerson 1 = .ok (.iconst 0, 1) := by decide +kernel
theorem dX9_isPerson_2 : decode cX9_isPerson 2 = .ok (.aload_n 0, 1) := by decide +kernel
theorem dX9_isPerson_3 : decode cX9_isPerson 3 = .ok (.getfield 29, 3) := by decide +kernel
theorem dX9_isPerson_6 : decode cX9_isPerson 6 = .ok (.iconst 0, 1) := by decide +kernel
theorem dX9_isPerson_7 : decode cX9_isPerson 7 = .ok (.iaload, 1) := by decide +kernel
theorem dX9_isPerson_8 : decode cX9_isPerson 8 = .ok (.iconst 1, 1) := by decide +kernel
theorem dX9_isPerson_9 : decode cX9_isPerson 9 = .ok (.isub, 1) := by decide +kernel
theorem dX9_isPerson_10 : decode cX9_isPerson 10 = .ok (.invokestatic 95, 3) := by decide +kernel
theorem dX9_isPerson_13 : decode cX9_isPerson 13 = .ok (.ireturn, 1) := by decide +kernel
theorem dX9_isDown_0 : decode cX9_isDown 0 = .ok (.aload_n 0, 1) := by decide +kernel
theorem dX9_isDown_1 : decode cX9_isDown 1 = .ok (.getfield 50, 3) := by decide +kernel
theorem dX9_isDown_4 : decode cX9_isDown 4 = .ok (.bipush 13, 2) := by decide +kernel
theorem dX9_isDown_6 : decode cX9_isDown 6 = .ok (.iload_n 1, 1) := by decide +kernel
theorem dX9_isDown_7 : decode cX9_isDown 7 = .ok (.iadd, 1) := by decide +kernel
theorem dX9_isDown_8 : decode cX9_isDown 8 = .ok (.iaload, 1) := by decide +kernel
theorem dX9_isDown_9 : decode cX9_isDown 9 = .ok (.aload_n 0, 1) := by decide +kernel
theorem dX9_isDown_10 : decode cX9_isDown 10 = .ok (.getfield 50, 3) := by decide +kernel
theorem dX9_isDown_13 : decode cX9_isDown 13 = .ok (.iconst 0, 1) := by decide +kernel
theorem dX9_isDown_14 : decode cX9_isDown 14 = .ok (.iaload, 1) := by decide +kernel
theorem dX9_isDown_15 : decode cX9_isDown 15 = .ok (.if_icmp .le 7, 3) := by decide +kernel
theorem dX9_isDown_18 : decode cX9_isDown 18 = .ok (.iconst 1, 1) := by decide +kernel
theorem dX9_isDown_19 : decode cX9_isDown 19 = .ok (.goto 4, 3) := by decide +kernel
theorem dX9_isDown_22 : decode cX9_isDown 22 = .ok (.iconst 0, 1) := by decide +kernel
theorem dX9_isDown_23 : decode cX9_isDown 23 = .ok (.ireturn, 1) := by decide +kernel
set_option maxRecDepth 20000 in
theorem ggX9_downSet_X9_isDown : GoodIn wsX9_downSet wsX9_isDown := goodIn_r _ [6, 7, 8, 9, 10, 11, 12, 13, 14, 15, 16, 17, 18, 19, 20, 21, 22, 23, 24, 25, 26, 27, 28, 29, 30, 31, 32, 33, 34, 35, 36, 37, 38, 39, 40, 41, 42, 43, 44, 45] (by decide +kernel) (by decide +kernel)
set_option maxRecDepth 20000 in
theorem gX9_downSet_X9_isDown : GoodIn wsX9_downSet (wsV RX9 171 RX9 yX9_isDown wsX9_isDown) := goodIn_app (goodIn_of _ (by decide +kernel)) ggX9_downSet_X9_isDown
theorem dX9_downSet_0 : decode cX9_downSet 0 = .ok (.iconst 0, 1) := by decide +kernel
theorem dX9_downSet_1 : decode cX9_downSet 1 = .ok (.istore_n 1, 1) := by decide +kernel
theorem dX9_downSet_2 : decode cX9_downSet 2 = .ok (.iconst 0, 1) := by decide +kernel
theorem dX9_downSet_3 : decode cX9_downSet 3 = .ok (.istore_n 2, 1) := by decide +kernel
theorem dX9_downSet_4 : decode cX9_downSet 4 = .ok (.iload_n 2, 1) := by decide +kernel
theorem dX9_downSet_5 : decode cX9_downSet 5 = .ok (.aload_n 0, 1) := by decide +kernel
theorem dX9_downSet_6 : decode cX9_downSet 6 = .ok (.getfield 29, 3) := by decide +kernel
theorem dX9_downSet_9 : decode cX9_downSet 9 = .ok (.iconst 0, 1) := by decide +kernel
theorem dX9_downSet_10 : decode cX9_downSet 10 = .ok (.iaload, 1) := by decide +kernel
theorem dX9_downSet_11 : decode cX9_downSet 11 = .ok (.if_icmp .ge 27, 3) := by decide +kernel
theorem dX9_downSet_14 : decode cX9_downSet 14 = .ok (.iload_n 1, 1) := by decide +kernel
theorem dX9_downSet_15 : decode cX9_downSet 15 = .ok (.aload_n 0, 1) := by decide +kernel
theorem dX9_downSet_16 : decode cX9_downSet 16 = .ok (.iload_n 2, 1) := by decide +kernel
theorem dX9_downSet_17 : decode cX9_downSet 17 = .ok (.invokevirtual 171, 3) := by decide +kernel
theorem dX9_downSet_20 : decode cX9_downSet 20 = .ok (.ifCond .eq 9, 3) := by decide +kernel
theorem dX9_downSet_23 : decode cX9_downSet 23 = .ok (.iconst 1, 1) := by decide +kernel
theorem dX9_downSet_24 : decode cX9_downSet 24 = .ok (.iload_n 2, 1) := by decide +kernel
theorem dX9_downSet_25 : decode cX9_downSet 25 = .ok (.ishl, 1) := by decide +kernel
theorem dX9_downSet_26 : decode cX9_downSet 26 = .ok (.goto 4, 3) := by decide +kernel
theorem dX9_downSet_29 : decode cX9_downSet 29 = .ok (.iconst 0, 1) := by decide +kernel
theorem dX9_downSet_30 : decode cX9_downSet 30 = .ok (.ior, 1) := by decide +kernel
theorem dX9_downSet_31 : decode cX9_downSet 31 = .ok (.istore_n 1, 1) := by decide +kernel
theorem dX9_downSet_32 : decode cX9_downSet 32 = .ok (.iinc 2 1, 3) := by decide +kernel
theorem dX9_downSet_35 : decode cX9_downSet 35 = .ok (.goto (-31), 3) := by decide +kernel
theorem dX9_downSet_38 : decode cX9_downSet 38 = .ok (.iload_n 1, 1) := by decide +kernel
theorem dX9_downSet_39 : decode cX9_downSet 39 = .ok (.ireturn, 1) := by decide +kernel
set_option maxRecDepth 20000 in
theorem ggX9_told_X9_downSet : GoodIn wsX9_told wsX9_downSet := goodIn_r _ [16, 3, 17, 18, 19, 15, 20, 7, 27, 28, 29, 30, 31, 32, 33, 34, 35, 36, 37, 38, 39, 40, 41, 42, 43, 44, 45, 46, 47, 48, 49, 50, 51, 52, 53, 54, 55, 56, 57, 58, 59, 60, 61, 62, 63, 64] (by decide +kernel) (by decide +kernel)
set_option maxRecDepth 20000 in
theorem gX9_told_X9_downSet : GoodIn wsX9_told (wsV RX9 174 RX9 yX9_downSet wsX9_downSet) := goodIn_app (goodIn_of _ (by decide +kernel)) ggX9_told_X9_downSet
set_option maxRecDepth 20000 in
theorem ggX9_told_X9_stayTime : GoodIn wsX9_told wsX9_stayTime := goodIn_r _ [24, 8, 25, 26, 27, 28, 29, 30, 31, 32, 33, 34, 35, 36, 37, 38, 39, 40, 41, 42, 43, 44, 45, 46, 47, 48, 49, 50, 51, 52, 53, 54, 55, 56, 57, 58, 59, 60, 61, 62, 63, 64] (by decide +kernel) (by decide +kernel)
set_option maxRecDepth 20000 in
theorem gX9_told_X9_stayTime : GoodIn wsX9_told (wsV RX9 177 RX9 yX9_stayTime wsX9_stayTime) := goodIn_app (goodIn_of _ (by decide +kernel)) ggX9_told_X9_stayTime
theorem dX9_told_0 : decode cX9_told 0 = .ok (.iload_n 1, 1) := by decide +kernel
theorem dX9_told_1 : decode cX9_told 1 = .ok (.tableswitch 135 0 11 #[63, 70, 77, 84, 91, 98, 103, 110, 115, 120, 125, 130], 63) := by decide +kernel
theorem dX9_told_64 : decode cX9_told 64 = .ok (.aload_n 0, 1) := by decide +kernel
theorem dX9_told_65 : decode cX9_told 65 = .ok (.getfield 13, 3) := by decide +kernel
theorem dX9_told_68 : decode cX9_told 68 = .ok (.iconst 0, 1) := by decide +kernel
theorem dX9_told_69 : decode cX9_told 69 = .ok (.iaload, 1) := by decide +kernel
theorem dX9_told_70 : decode cX9_told 70 = .ok (.ireturn, 1) := by decide +kernel
theorem dX9_told_71 : decode cX9_told 71 = .ok (.aload_n 0, 1) := by decide +kernel
theorem dX9_told_72 : decode cX9_told 72 = .ok (.getfield 26, 3) := by decide +kernel
theorem dX9_told_75 : decode cX9_told 75 = .ok (.iconst 0, 1) := by decide +kernel
theorem dX9_told_76 : decode cX9_told 76 = .ok (.iaload, 1) := by decide +kernel
theorem dX9_told_77 : decode cX9_told 77 = .ok (.ireturn, 1) := by decide +kernel
theorem dX9_told_78 : decode cX9_told 78 = .ok (.aload_n 0, 1) := by decide +kernel
theorem dX9_told_79 : decode cX9_told 79 = .ok (.getfield 29, 3) := by decide +kernel
theorem dX9_told_82 : decode cX9_told 82 = .ok (.iconst 0, 1) := by decide +kernel
theorem dX9_told_83 : decode cX9_told 83 = .ok (.iaload, 1) := by decide +kernel
theorem dX9_told_84 : decode cX9_told 84 = .ok (.ireturn, 1) := by decide +kernel
theorem dX9_told_85 : decode cX9_told 85 = .ok (.aload_n 0, 1) := by decide +kernel
theorem dX9_told_86 : decode cX9_told 86 = .ok (.getfield 38, 3) := by decide +kernel
theorem dX9_told_89 : decode cX9_told 89 = .ok (.iconst 0, 1) := by decide +kernel
theorem dX9_told_90 : decode cX9_told 90 = .ok (.iaload, 1) := by decide +kernel
theorem dX9_told_91 : decode cX9_told 91 = .ok (.ireturn, 1) := by decide +kernel
theorem dX9_told_92 : decode cX9_told 92 = .ok (.aload_n 0, 1) := by decide +kernel
theorem dX9_told_93 : decode cX9_told 93 = .ok (.getfield 41, 3) := by decide +kernel
theorem dX9_told_96 : decode cX9_told 96 = .ok (.iconst 0, 1) := by decide +kernel
theorem dX9_told_97 : decode cX9_told 97 = .ok (.iaload, 1) := by decide +kernel
theorem dX9_told_98 : decode cX9_told 98 = .ok (.ireturn, 1) := by decide +kernel
theorem dX9_told_99 : decode cX9_told 99 = .ok (.aload_n 0, 1) := by decide +kernel
theorem dX9_told_100 : decode cX9_told 100 = .ok (.getfield 100, 3) := by decide +kernel
theorem dX9_told_103 : decode cX9_told 103 = .ok (.ireturn, 1) := by decide +kernel
theorem dX9_told_104 : decode cX9_told 104 = .ok (.aload_n 0, 1) := by decide +kernel
theorem dX9_told_105 : decode cX9_told 105 = .ok (.getfield 50, 3) := by decide +kernel
theorem dX9_told_108 : decode cX9_told 108 = .ok (.iconst 0, 1) := by decide +kernel
theorem dX9_told_109 : decode cX9_told 109 = .ok (.iaload, 1) := by decide +kernel
theorem dX9_told_110 : decode cX9_told 110 = .ok (.ireturn, 1) := by decide +kernel
theorem dX9_told_111 : decode cX9_told 111 = .ok (.aload_n 0, 1) := by decide +kernel
theorem dX9_told_112 : decode cX9_told 112 = .ok (.invokevirtual 174, 3) := by decide +kernel
theorem dX9_told_115 : decode cX9_told 115 = .ok (.ireturn, 1) := by decide +kernel
theorem dX9_told_116 : decode cX9_told 116 = .ok (.aload_n 0, 1) := by decide +kernel
theorem dX9_told_117 : decode cX9_told 117 = .ok (.getfield 159, 3) := by decide +kernel
theorem dX9_told_120 : decode cX9_told 120 = .ok (.ireturn, 1) := by decide +kernel
theorem dX9_told_121 : decode cX9_told 121 = .ok (.aload_n 0, 1) := by decide +kernel
theorem dX9_told_122 : decode cX9_told 122 = .ok (.invokevirtual 177, 3) := by decide +kernel
theorem dX9_told_125 : decode cX9_told 125 = .ok (.ireturn, 1) := by decide +kernel
theorem dX9_told_126 : decode cX9_told 126 = .ok (.aload_n 0, 1) := by decide +kernel
theorem dX9_told_127 : decode cX9_told 127 = .ok (.getfield 162, 3) := by decide +kernel
theorem dX9_told_130 : decode cX9_told 130 = .ok (.ireturn, 1) := by decide +kernel
theorem dX9_told_131 : decode cX9_told 131 = .ok (.aload_n 0, 1) := by decide +kernel
theorem dX9_told_132 : decode cX9_told 132 = .ok (.getfield 165, 3) := by decide +kernel
theorem dX9_told_135 : decode cX9_told 135 = .ok (.ireturn, 1) := by decide +kernel
theorem dX9_told_136 : decode cX9_told 136 = .ok (.ldc 99, 2) := by decide +kernel
theorem dX9_told_138 : decode cX9_told 138 = .ok (.ireturn, 1) := by decide +kernel
theorem dX9_alike_0 : decode cX9_alike 0 = .ok (.iconst 0, 1) := by decide +kernel
theorem dX9_alike_1 : decode cX9_alike 1 = .ok (.istore_n 2, 1) := by decide +kernel
theorem dX9_alike_2 : decode cX9_alike 2 = .ok (.iconst 0, 1) := by decide +kernel
theorem dX9_alike_3 : decode cX9_alike 3 = .ok (.istore_n 3, 1) := by decide +kernel
theorem dX9_alike_4 : decode cX9_alike 4 = .ok (.iload_n 3, 1) := by decide +kernel
theorem dX9_alike_5 : decode cX9_alike 5 = .ok (.aload_n 0, 1) := by decide +kernel
theorem dX9_alike_6 : decode cX9_alike 6 = .ok (.getfield 13, 3) := by decide +kernel
theorem dX9_alike_9 : decode cX9_alike 9 = .ok (.iconst 0, 1) := by decide +kernel
theorem dX9_alike_10 : decode cX9_alike 10 = .ok (.iaload, 1) := by decide +kernel
theorem dX9_alike_11 : decode cX9_alike 11 = .ok (.if_icmp .ge 39, 3) := by decide +kernel
theorem dX9_alike_14 : decode cX9_alike 14 = .ok (.iload_n 2, 1) := by decide +kernel
theorem dX9_alike_15 : decode cX9_alike 15 = .ok (.iload_n 3, 1) := by decide +kernel
theorem dX9_alike_16 : decode cX9_alike 16 = .ok (.iload_n 1, 1) := by decide +kernel
theorem dX9_alike_17 : decode cX9_alike 17 = .ok (.if_icmp .eq 24, 3) := by decide +kernel
theorem dX9_alike_20 : decode cX9_alike 20 = .ok (.aload_n 0, 1) := by decide +kernel
theorem dX9_alike_21 : decode cX9_alike 21 = .ok (.getfield 17, 3) := by decide +kernel
theorem dX9_alike_24 : decode cX9_alike 24 = .ok (.iload_n 3, 1) := by decide +kernel
theorem dX9_alike_25 : decode cX9_alike 25 = .ok (.iaload, 1) := by decide +kernel
theorem dX9_alike_26 : decode cX9_alike 26 = .ok (.aload_n 0, 1) := by decide +kernel
theorem dX9_alike_27 : decode cX9_alike 27 = .ok (.getfield 17, 3) := by decide +kernel
theorem dX9_alike_30 : decode cX9_alike 30 = .ok (.iload_n 1, 1) := by decide +kernel
theorem dX9_alike_31 : decode cX9_alike 31 = .ok (.iaload, 1) := by decide +kernel
theorem dX9_alike_32 : decode cX9_alike 32 = .ok (.if_icmp .ne 9, 3) := by decide +kernel
theorem dX9_alike_35 : decode cX9_alike 35 = .ok (.iconst 1, 1) := by decide +kernel
theorem dX9_alike_36 : decode cX9_alike 36 = .ok (.iload_n 3, 1) := by decide +kernel
theorem dX9_alike_37 : decode cX9_alike 37 = .ok (.ishl, 1) := by decide +kernel
theorem dX9_alike_38 : decode cX9_alike 38 = .ok (.goto 4, 3) := by decide +kernel
theorem dX9_alike_41 : decode cX9_alike 41 = .ok (.iconst 0, 1) := by decide +kernel
theorem dX9_alike_42 : decode cX9_alike 42 = .ok (.ior, 1) := by decide +kernel
theorem dX9_alike_43 : decode cX9_alike 43 = .ok (.istore_n 2, 1) := by decide +kernel
theorem dX9_alike_44 : decode cX9_alike 44 = .ok (.iinc 3 1, 3) := by decide +kernel
theorem dX9_alike_47 : decode cX9_alike 47 = .ok (.goto (-43), 3) := by decide +kernel
theorem dX9_alike_50 : decode cX9_alike 50 = .ok (.iload_n 2, 1) := by decide +kernel
theorem dX9_alike_51 : decode cX9_alike 51 = .ok (.ireturn, 1) := by decide +kernel
set_option maxRecDepth 20000 in
theorem ggX9_part_X9_isPart : GoodIn wsX9_part wsX9_isPart := goodIn_r _ [9, 10, 11, 12, 8, 13, 18, 19, 20, 21, 22, 23, 24, 25, 26, 27, 28, 29, 30, 31, 32, 33, 34, 35, 36, 37, 38, 39, 40, 41, 42, 43, 44, 45, 46, 47, 48, 49, 50, 51, 52, 53, 54, 55] (by decide +kernel) (by decide +kernel)
set_option maxRecDepth 20000 in
theorem gX9_part_X9_isPart : GoodIn wsX9_part (wsV RX9 168 RX9 yX9_isPart wsX9_isPart) := goodIn_app (goodIn_of _ (by decide +kernel)) ggX9_part_X9_isPart
set_option maxRecDepth 20000 in
theorem ggX9_part_X9_alike : GoodIn wsX9_part wsX9_alike := goodIn_r _ [17, 10, 2, 18, 19, 20, 21, 22, 23, 24, 25, 26, 27, 28, 29, 30, 31, 32, 33, 34, 35, 36, 37, 38, 39, 40, 41, 42, 43, 44, 45, 46, 47, 48, 49, 50, 51, 52, 53, 54, 55] (by decide +kernel) (by decide +kernel)
set_option maxRecDepth 20000 in
theorem gX9_part_X9_alike : GoodIn wsX9_part (wsV RX9 181 RX9 yX9_alike wsX9_alike) := goodIn_app (goodIn_of _ (by decide +kernel)) ggX9_part_X9_alike
theorem dX9_part_0 : decode cX9_part 0 = .ok (.aload_n 0, 1) := by decide +kernel
theorem dX9_part_1 : decode cX9_part 1 = .ok (.iload_n 1, 1) := by decide +kernel
theorem dX9_part_2 : decode cX9_part 2 = .ok (.invokevirtual 168, 3) := by decide +kernel
theorem dX9_part_5 : decode cX9_part 5 = .ok (.ifCond .ne 6, 3) := by decide +kernel
theorem dX9_part_8 : decode cX9_part 8 = .ok (.ldc 180, 2) := by decide +kernel
theorem dX9_part_10 : decode cX9_part 10 = .ok (.ireturn, 1) := by decide +kernel
theorem dX9_part_11 : decode cX9_part 11 = .ok (.iload_n 2, 1) := by decide +kernel
theorem dX9_part_12 : decode cX9_part 12 = .ok (.ifCond .ne 12, 3) := by decide +kernel
theorem dX9_part_15 : decode cX9_part 15 = .ok (.aload_n 0, 1) := by decide +kernel
theorem dX9_part_16 : decode cX9_part 16 = .ok (.getfield 17, 3) := by decide +kernel
theorem dX9_part_19 : decode cX9_part 19 = .ok (.iload_n 1, 1) := by decide +kernel
theorem dX9_part_20 : decode cX9_part 20 = .ok (.iaload, 1) := by decide +kernel
theorem dX9_part_21 : decode cX9_part 21 = .ok (.goto 32, 3) := by decide +kernel
theorem dX9_part_24 : decode cX9_part 24 = .ok (.iload_n 2, 1) := by decide +kernel
theorem dX9_part_25 : decode cX9_part 25 = .ok (.iconst 1, 1) := by decide +kernel
theorem dX9_part_26 : decode cX9_part 26 = .ok (.if_icmp .ne 12, 3) := by decide +kernel
theorem dX9_part_29 : decode cX9_part 29 = .ok (.aload_n 0, 1) := by decide +kernel
theorem dX9_part_30 : decode cX9_part 30 = .ok (.getfield 20, 3) := by decide +kernel
theorem dX9_part_33 : decode cX9_part 33 = .ok (.iload_n 1, 1) := by decide +kernel
theorem dX9_part_34 : decode cX9_part 34 = .ok (.iaload, 1) := by decide +kernel
theorem dX9_part_35 : decode cX9_part 35 = .ok (.goto 18, 3) := by decide +kernel
theorem dX9_part_38 : decode cX9_part 38 = .ok (.iload_n 2, 1) := by decide +kernel
theorem dX9_part_39 : decode cX9_part 39 = .ok (.iconst 2, 1) := by decide +kernel
theorem dX9_part_40 : decode cX9_part 40 = .ok (.if_icmp .ne 11, 3) := by decide +kernel
theorem dX9_part_43 : decode cX9_part 43 = .ok (.aload_n 0, 1) := by decide +kernel
theorem dX9_part_44 : decode cX9_part 44 = .ok (.iload_n 1, 1) := by decide +kernel
theorem dX9_part_45 : decode cX9_part 45 = .ok (.invokevirtual 181, 3) := by decide +kernel
theorem dX9_part_48 : decode cX9_part 48 = .ok (.goto 5, 3) := by decide +kernel
theorem dX9_part_51 : decode cX9_part 51 = .ok (.ldc 99, 2) := by decide +kernel
theorem dX9_part_53 : decode cX9_part 53 = .ok (.ireturn, 1) := by decide +kernel
set_option maxRecDepth 20000 in
theorem ggX9_person_X9_isPerson : GoodIn wsX9_person wsX9_isPerson := goodIn_r _ [8, 9, 10, 11, 7, 12, 17, 18, 19, 20, 21, 22, 23, 24, 25, 26, 27, 28, 29, 30, 31, 32, 33, 34, 35, 36, 37, 38, 39, 40, 41, 42, 43, 44, 45, 46, 47, 48, 49, 50, 51, 52, 53, 54] (by decide +kernel) (by decide +kernel)
set_option maxRecDepth 20000 in
theorem gX9_person_X9_isPerson : GoodIn wsX9_person (wsV RX9 184 RX9 yX9_isPerson wsX9_isPerson) := goodIn_app (goodIn_of _ (by decide +kernel)) ggX9_person_X9_isPerson
set_option maxRecDepth 20000 in
theorem ggX9_person_X9_isDown : GoodIn wsX9_person wsX9_isDown := goodIn_r _ [16, 2, 17, 18, 19, 20, 21, 22, 23, 24, 25, 26, 27, 28, 29, 30, 31, 32, 33, 34, 35, 36, 37, 38, 39, 40, 41, 42, 43, 44, 45, 46, 47, 48, 49, 50, 51, 52, 53, 54] (by decide +kernel) (by decide +kernel)
set_option maxRecDepth 20000 in
theorem gX9_person_X9_isDown : GoodIn wsX9_person (wsV RX9 171 RX9 yX9_isDown wsX9_isDown) := goodIn_app (goodIn_of _ (by decide +kernel)) ggX9_person_X9_isDown
theorem dX9_person_0 : decode cX9_person 0 = .ok (.aload_n 0, 1) := by decide +kernel
theorem dX9_person_1 : decode cX9_person 1 = .ok (.iload_n 1, 1) := by decide +kernel
theorem dX9_person_2 : decode cX9_person 2 = .ok (.invokevirtual 184, 3) := by decide +kernel
theorem dX9_person_5 : decode cX9_person 5 = .ok (.ifCond .ne 6, 3) := by decide +kernel
theorem dX9_person_8 : decode cX9_person 8 = .ok (.ldc 180, 2) := by decide +kernel
theorem dX9_person_10 : decode cX9_person 10 = .ok (.ireturn, 1) := by decide +kernel
theorem dX9_person_11 : decode cX9_person 11 = .ok (.iload_n 2, 1) := by decide +kernel
theorem dX9_person_12 : decode cX9_person 12 = .ok (.ifCond .ne 14, 3) := by decide +kernel
theorem dX9_person_15 : decode cX9_person 15 = .ok (.aload_n 0, 1) := by decide +kernel
theorem dX9_person_16 : decode cX9_person 16 = .ok (.getfield 50, 3) := by decide +kernel
theorem dX9_person_19 : decode cX9_person 19 = .ok (.iconst 1, 1) := by decide +kernel
theorem dX9_person_20 : decode cX9_person 20 = .ok (.iload_n 1, 1) := by decide +kernel
theorem dX9_person_21 : decode cX9_person 21 = .ok (.iadd, 1) := by decide +kernel
theorem dX9_person_22 : decode cX9_person 22 = .ok (.iaload, 1) := by decide +kernel
theorem dX9_person_23 : decode cX9_person 23 = .ok (.goto 51, 3) := by decide +kernel
theorem dX9_person_26 : decode cX9_person 26 = .ok (.iload_n 2, 1) := by decide +kernel
theorem dX9_person_27 : decode cX9_person 27 = .ok (.iconst 1, 1) := by decide +kernel
theorem dX9_person_28 : decode cX9_person 28 = .ok (.if_icmp .ne 15, 3) := by decide +kernel
theorem dX9_person_31 : decode cX9_person 31 = .ok (.aload_n 0, 1) := by decide +kernel
theorem dX9_person_32 : decode cX9_person 32 = .ok (.getfield 50, 3) := by decide +kernel
theorem dX9_person_35 : decode cX9_person 35 = .ok (.bipush 7, 2) := by decide +kernel
theorem dX9_person_37 : decode cX9_person 37 = .ok (.iload_n 1, 1) := by decide +kernel
theorem dX9_person_38 : decode cX9_person 38 = .ok (.iadd, 1) := by decide +kernel
theorem dX9_person_39 : decode cX9_person 39 = .ok (.iaload, 1) := by decide +kernel
theorem dX9_person_40 : decode cX9_person 40 = .ok (.goto 34, 3) := by decide +kernel
theorem dX9_person_43 : decode cX9_person 43 = .ok (.iload_n 2, 1) := by decide +kernel
theorem dX9_person_44 : decode cX9_person 44 = .ok (.iconst 2, 1) := by decide +kernel
theorem dX9_person_45 : decode cX9_person 45 = .ok (.if_icmp .ne 27, 3) := by decide +kernel
theorem dX9_person_48 : decode cX9_person 48 = .ok (.aload_n 0, 1) := by decide +kernel
theorem dX9_person_49 : decode cX9_person 49 = .ok (.iload_n 1, 1) := by decide +kernel
theorem dX9_person_50 : decode cX9_person 50 = .ok (.invokevirtual 171, 3) := by decide +kernel
theorem dX9_person_53 : decode cX9_person 53 = .ok (.ifCond .eq 15, 3) := by decide +kernel
theorem dX9_person_56 : decode cX9_person 56 = .ok (.aload_n 0, 1) := by decide +kernel
theorem dX9_person_57 : decode cX9_person 57 = .ok (.getfield 50, 3) := by decide +kernel
theorem dX9_person_60 : decode cX9_person 60 = .ok (.bipush 13, 2) := by decide +kernel
theorem dX9_person_62 : decode cX9_person 62 = .ok (.iload_n 1, 1) := by decide +kernel
theorem dX9_person_63 : decode cX9_person 63 = .ok (.iadd, 1) := by decide +kernel
theorem dX9_person_64 : decode cX9_person 64 = .ok (.iaload, 1) := by decide +kernel
theorem dX9_person_65 : decode cX9_person 65 = .ok (.goto 9, 3) := by decide +kernel
theorem dX9_person_68 : decode cX9_person 68 = .ok (.iconst (-1), 1) := by decide +kernel
theorem dX9_person_69 : decode cX9_person 69 = .ok (.goto 5, 3) := by decide +kernel
theorem dX9_person_72 : decode cX9_person 72 = .ok (.ldc 99, 2) := by decide +kernel
theorem dX9_person_74 : decode cX9_person 74 = .ok (.ireturn, 1) := by decide +kernel
theorem dX9_stayTime_0 : decode cX9_stayTime 0 = .ok (.iconst 0, 1) := by decide +kernel
theorem dX9_stayTime_1 : decode cX9_stayTime 1 = .ok (.istore_n 1, 1) := by decide +kernel
theorem dX9_stayTime_2 : decode cX9_stayTime 2 = .ok (.iconst 0, 1) := by decide +kernel
theorem dX9_stayTime_3 : decode cX9_stayTime 3 = .ok (.istore_n 2, 1) := by decide +kernel
theorem dX9_stayTime_4 : decode cX9_stayTime 4 = .ok (.iload_n 2, 1) := by decide +kernel
theorem dX9_stayTime_5 : decode cX9_stayTime 5 = .ok (.aload_n 0, 1) := by decide +kernel
theorem dX9_stayTime_6 : decode cX9_stayTime 6 = .ok (.getfield 159, 3) := by decide +kernel
theorem dX9_stayTime_9 : decode cX9_stayTime 9 = .ok (.if_icmp .ge 23, 3) := by decide +kernel
theorem dX9_stayTime_12 : decode cX9_stayTime 12 = .ok (.iload_n 1, 1) := by decide +kernel
theorem dX9_stayTime_13 : decode cX9_stayTime 13 = .ok (.aload_n 0, 1) := by decide +kernel
theorem dX9_stayTime_14 : decode cX9_stayTime 14 = .ok (.getfield 17, 3) := by decide +kernel
theorem dX9_stayTime_17 : decode cX9_stayTime 17 = .ok (.aload_n 0, 1) := by decide +kernel
theorem dX9_stayTime_18 : decode cX9_stayTime 18 = .ok (.getfield 57, 3) := by decide +kernel
theorem dX9_stayTime_21 : decode cX9_stayTime 21 = .ok (.iload_n 2, 1) := by decide +kernel
theorem dX9_stayTime_22 : decode cX9_stayTime 22 = .ok (.iaload, 1) := by decide +kernel
theorem dX9_stayTime_23 : decode cX9_stayTime 23 = .ok (.iaload, 1) := by decide +kernel
theorem dX9_stayTime_24 : decode cX9_stayTime 24 = .ok (.iadd, 1) := by decide +kernel
theorem dX9_stayTime_25 : decode cX9_stayTime 25 = .ok (.istore_n 1, 1) := by decide +kernel
theorem dX9_stayTime_26 : decode cX9_stayTime 26 = .ok (.iinc 2 1, 3) := by decide +kernel
theorem dX9_stayTime_29 : decode cX9_stayTime 29 = .ok (.goto (-25), 3) := by decide +kernel
theorem dX9_stayTime_32 : decode cX9_stayTime 32 = .ok (.iload_n 1, 1) := by decide +kernel
theorem dX9_stayTime_33 : decode cX9_stayTime 33 = .ok (.ireturn, 1) := by decide +kernel
set_option maxRecDepth 20000 in
theorem ggX9_spend_X9_isPart : GoodIn wsX9_spend wsX9_isPart := goodIn_r _ [9, 10, 11, 12, 8, 13, 14, 15, 16, 17, 18, 19, 20, 21, 22, 23, 24, 25, 26, 27, 28, 29, 30, 31, 32, 33, 34, 35, 36, 37, 38, 39, 40, 41, 42, 43, 44, 45, 46, 47, 48, 49, 50, 51] (by decide +kernel) (by decide +kernel)
set_option maxRecDepth 20000 in
theorem gX9_spend_X9_isPart : GoodIn wsX9_spend (wsV RX9 168 RX9 yX9_isPart wsX9_isPart) := goodIn_app (goodIn_of _ (by decide +kernel)) ggX9_spend_X9_isPart
theorem dX9_spend_0 : decode cX9_spend 0 = .ok (.aload_n 0, 1) := by decide +kernel
theorem dX9_spend_1 : decode cX9_spend 1 = .ok (.iload_n 1, 1) := by decide +kernel
theorem dX9_spend_2 : decode cX9_spend 2 = .ok (.invokevirtual 168, 3) := by decide +kernel
theorem dX9_spend_5 : decode cX9_spend 5 = .ok (.ifCond .ne 6, 3) := by decide +kernel
theorem dX9_spend_8 : decode cX9_spend 8 = .ok (.ldc 180, 2) := by decide +kernel
theorem dX9_spend_10 : decode cX9_spend 10 = .ok (.ireturn, 1) := by decide +kernel
theorem dX9_spend_11 : decode cX9_spend 11 = .ok (.aload_n 0, 1) := by decide +kernel
theorem dX9_spend_12 : decode cX9_spend 12 = .ok (.getfield 159, 3) := by decide +kernel
theorem dX9_spend_15 : decode cX9_spend 15 = .ok (.bipush 40, 2) := by decide +kernel
theorem dX9_spend_17 : decode cX9_spend 17 = .ok (.if_icmp .ne 6, 3) := by decide +kernel
theorem dX9_spend_20 : decode cX9_spend 20 = .ok (.ldc 103, 2) := by decide +kernel
theorem dX9_spend_22 : decode cX9_spend 22 = .ok (.ireturn, 1) := by decide +kernel
theorem dX9_spend_23 : decode cX9_spend 23 = .ok (.aload_n 0, 1) := by decide +kernel
theorem dX9_spend_24 : decode cX9_spend 24 = .ok (.getfield 57, 3) := by decide +kernel
theorem dX9_spend_27 : decode cX9_spend 27 = .ok (.aload_n 0, 1) := by decide +kernel
theorem dX9_spend_28 : decode cX9_spend 28 = .ok (.getfield 159, 3) := by decide +kernel
theorem dX9_spend_31 : decode cX9_spend 31 = .ok (.iload_n 1, 1) := by decide +kernel
theorem dX9_spend_32 : decode cX9_spend 32 = .ok (.iastore, 1) := by decide +kernel
theorem dX9_spend_33 : decode cX9_spend 33 = .ok (.aload_n 0, 1) := by decide +kernel
theorem dX9_spend_34 : decode cX9_spend 34 = .ok (.dup, 1) := by decide +kernel
theorem dX9_spend_35 : decode cX9_spend 35 = .ok (.getfield 159, 3) := by decide +kernel
theorem dX9_spend_38 : decode cX9_spend 38 = .ok (.iconst 1, 1) := by decide +kernel
theorem dX9_spend_39 : decode cX9_spend 39 = .ok (.iadd, 1) := by decide +kernel
theorem dX9_spend_40 : decode cX9_spend 40 = .ok (.putfield 159, 3) := by decide +kernel
theorem dX9_spend_43 : decode cX9_spend 43 = .ok (.aload_n 0, 1) := by decide +kernel
theorem dX9_spend_44 : decode cX9_spend 44 = .ok (.getfield 159, 3) := by decide +kernel
theorem dX9_spend_47 : decode cX9_spend 47 = .ok (.ireturn, 1) := by decide +kernel
theorem dX9_forget_0 : decode cX9_forget 0 = .ok (.aload_n 0, 1) := by decide +kernel
theorem dX9_forget_1 : decode cX9_forget 1 = .ok (.getfield 159, 3) := by decide +kernel
theorem dX9_forget_4 : decode cX9_forget 4 = .ok (.istore_n 1, 1) := by decide +kernel
theorem dX9_forget_5 : decode cX9_forget 5 = .ok (.aload_n 0, 1) := by decide +kernel
theorem dX9_forget_6 : decode cX9_forget 6 = .ok (.iconst 0, 1) := by decide +kernel
theorem dX9_forget_7 : decode cX9_forget 7 = .ok (.putfield 159, 3) := by decide +kernel
theorem dX9_forget_10 : decode cX9_forget 10 = .ok (.iload_n 1, 1) := by decide +kernel
theorem dX9_forget_11 : decode cX9_forget 11 = .ok (.ireturn, 1) := by decide +kernel
theorem dX9_isStep_0 : decode cX9_isStep 0 = .ok (.iload_n 1, 1) := by decide +kernel
theorem dX9_isStep_1 : decode cX9_isStep 1 = .ok (.iload_n 2, 1) := by decide +kernel
theorem dX9_isStep_2 : decode cX9_isStep 2 = .ok (.if_icmp .eq 17, 3) := by decide +kernel
theorem dX9_isStep_5 : decode cX9_isStep 5 = .ok (.aload_n 0, 1) := by decide +kernel
theorem dX9_isStep_6 : decode cX9_isStep 6 = .ok (.getfield 20, 3) := by decide +kernel
theorem dX9_isStep_9 : decode cX9_isStep 9 = .ok (.iload_n 1, 1) := by decide +kernel
theorem dX9_isStep_10 : decode cX9_isStep 10 = .ok (.iaload, 1) := by decide +kernel
theorem dX9_isStep_11 : decode cX9_isStep 11 = .ok (.iload_n 2, 1) := by decide +kernel
theorem dX9_isStep_12 : decode cX9_isStep 12 = .ok (.ishr, 1) := by decide +kernel
theorem dX9_isStep_13 : decode cX9_isStep 13 = .ok (.iconst 1, 1) := by decide +kernel
theorem dX9_isStep_14 : decode cX9_isStep 14 = .ok (.iand, 1) := by decide +kernel
theorem dX9_isStep_15 : decode cX9_isStep 15 = .ok (.iconst 1, 1) := by decide +kernel
theorem dX9_isStep_16 : decode cX9_isStep 16 = .ok (.if_icmp .ne 7, 3) := by decide +kernel
theorem dX9_isStep_19 : decode cX9_isStep 19 = .ok (.iconst 1, 1) := by decide +kernel
theorem dX9_isStep_20 : decode cX9_isStep 20 = .ok (.goto 4, 3) := by decide +kernel
theorem dX9_isStep_23 : decode cX9_isStep 23 = .ok (.iconst 0, 1) := by decide +kernel
theorem dX9_isStep_24 : decode cX9_isStep 24 = .ok (.ireturn, 1) := by decide +kernel
set_option maxRecDepth 20000 in
theorem ggX9_wrong_X9_isMouth : GoodIn wsX9_wrong wsX9_isMouth := goodIn_r _ [7, 8, 9, 10, 11, 6, 12, 13, 14, 15, 16, 22, 23, 24, 25, 26, 27, 28, 29, 30, 31, 32, 33, 34, 35, 36, 37, 38, 39, 40, 41, 42, 43, 44, 45, 46, 47, 48, 49, 50, 51, 52, 53, 54, 55, 56, 57, 58, 59] (by decide +kernel) (by decide +kernel)
set_option maxRecDepth 20000 in
theorem gX9_wrong_X9_isMouth : GoodIn wsX9_wrong (wsV RX9 187 RX9 yX9_isMouth wsX9_isMouth) := goodIn_app (goodIn_of _ (by decide +kernel)) ggX9_wrong_X9_isMouth
set_option maxRecDepth 20000 in
theorem ggX9_wrong_X9_isStep : GoodIn wsX9_wrong wsX9_isStep := goodIn_r _ [20, 21, 22, 23, 24, 25, 26, 27, 28, 29, 30, 31, 32, 33, 34, 35, 36, 37, 38, 39, 40, 41, 42, 43, 44, 45, 46, 47, 48, 49, 50, 51, 52, 53, 54, 55, 56, 57, 58, 59] (by decide +kernel) (by decide +kernel)
set_option maxRecDepth 20000 in
theorem gX9_wrong_X9_isStep : GoodIn wsX9_wrong (wsV RX9 190 RX9 yX9_isStep wsX9_isStep) := goodIn_app (goodIn_of _ (by decide +kernel)) ggX9_wrong_X9_isStep
theorem dX9_wrong_0 : decode cX9_wrong 0 = .ok (.aload_n 0, 1) := by decide +kernel
theorem dX9_wrong_1 : decode cX9_wrong 1 = .ok (.getfield 159, 3) := by decide +kernel
theorem dX9_wrong_4 : decode cX9_wrong 4 = .ok (.ifCond .ne 5, 3) := by decide +kernel
theorem dX9_wrong_7 : decode cX9_wrong 7 = .ok (.iconst (-1), 1) := by decide +kernel
theorem dX9_wrong_8 : decode cX9_wrong 8 = .ok (.ireturn, 1) := by decide +kernel
theorem dX9_wrong_9 : decode cX9_wrong 9 = .ok (.aload_n 0, 1) := by decide +kernel
theorem dX9_wrong_10 : decode cX9_wrong 10 = .ok (.aload_n 0, 1) := by decide +kernel
theorem dX9_wrong_11 : decode cX9_wrong 11 = .ok (.getfield 57, 3) := by decide +kernel
theorem dX9_wrong_14 : decode cX9_wrong 14 = .ok (.iconst 0, 1) := by decide +kernel
theorem dX9_wrong_15 : decode cX9_wrong 15 = .ok (.iaload, 1) := by decide +kernel
theorem dX9_wrong_16 : decode cX9_wrong 16 = .ok (.invokevirtual 187, 3) := by decide +kernel
theorem dX9_wrong_19 : decode cX9_wrong 19 = .ok (.ifCond .ne 5, 3) := by decide +kernel
theorem dX9_wrong_22 : decode cX9_wrong 22 = .ok (.iconst 0, 1) := by decide +kernel
theorem dX9_wrong_23 : decode cX9_wrong 23 = .ok (.ireturn, 1) := by decide +kernel
theorem dX9_wrong_24 : decode cX9_wrong 24 = .ok (.iconst 1, 1) := by decide +kernel
theorem dX9_wrong_25 : decode cX9_wrong 25 = .ok (.istore_n 1, 1) := by decide +kernel
theorem dX9_wrong_26 : decode cX9_wrong 26 = .ok (.iload_n 1, 1) := by decide +kernel
theorem dX9_wrong_27 : decode cX9_wrong 27 = .ok (.aload_n 0, 1) := by decide +kernel
theorem dX9_wrong_28 : decode cX9_wrong 28 = .ok (.getfield 159, 3) := by decide +kernel
theorem dX9_wrong_31 : decode cX9_wrong 31 = .ok (.if_icmp .ge 32, 3) := by decide +kernel
theorem dX9_wrong_34 : decode cX9_wrong 34 = .ok (.aload_n 0, 1) := by decide +kernel
theorem dX9_wrong_35 : decode cX9_wrong 35 = .ok (.aload_n 0, 1) := by decide +kernel
theorem dX9_wrong_36 : decode cX9_wrong 36 = .ok (.getfield 57, 3) := by decide +kernel
theorem dX9_wrong_39 : decode cX9_wrong 39 = .ok (.iload_n 1, 1) := by decide +kernel
theorem dX9_wrong_40 : decode cX9_wrong 40 = .ok (.iconst 1, 1) := by decide +kernel
theorem dX9_wrong_41 : decode cX9_wrong 41 = .ok (.isub, 1) := by decide +kernel
theorem dX9_wrong_42 : decode cX9_wrong 42 = .ok (.iaload, 1) := by decide +kernel
theorem dX9_wrong_43 : decode cX9_wrong 43 = .ok (.aload_n 0, 1) := by decide +kernel
theorem dX9_wrong_44 : decode cX9_wrong 44 = .ok (.getfield 57, 3) := by decide +kernel
theorem dX9_wrong_47 : decode cX9_wrong 47 = .ok (.iload_n 1, 1) := by decide +kernel
theorem dX9_wrong_48 : decode cX9_wrong 48 = .ok (.iaload, 1) := by decide +kernel
theorem dX9_wrong_49 : decode cX9_wrong 49 = .ok (.invokevirtual 190, 3) := by decide +kernel
theorem dX9_wrong_52 : decode cX9_wrong 52 = .ok (.ifCond .ne 5, 3) := by decide +kernel
theorem dX9_wrong_55 : decode cX9_wrong 55 = .ok (.iload_n 1, 1) := by decide +kernel
theorem dX9_wrong_56 : decode cX9_wrong 56 = .ok (.ireturn, 1) := by decide +kernel
theorem dX9_wrong_57 : decode cX9_wrong 57 = .ok (.iinc 1 1, 3) := by decide +kernel
theorem dX9_wrong_60 : decode cX9_wrong 60 = .ok (.goto (-34), 3) := by decide +kernel
theorem dX9_wrong_63 : decode cX9_wrong 63 = .ok (.aload_n 0, 1) := by decide +kernel
theorem dX9_wrong_64 : decode cX9_wrong 64 = .ok (.aload_n 0, 1) := by decide +kernel
theorem dX9_wrong_65 : decode cX9_wrong 65 = .ok (.getfield 57, 3) := by decide +kernel
theorem dX9_wrong_68 : decode cX9_wrong 68 = .ok (.aload_n 0, 1) := by decide +kernel
theorem dX9_wrong_69 : decode cX9_wrong 69 = .ok (.getfield 159, 3) := by decide +kernel
theorem dX9_wrong_72 : decode cX9_wrong 72 = .ok (.iconst 1, 1) := by decide +kernel
theorem dX9_wrong_73 : decode cX9_wrong 73 = .ok (.isub, 1) := by decide +kernel
theorem dX9_wrong_74 : decode cX9_wrong 74 = .ok (.iaload, 1) := by decide +kernel
theorem dX9_wrong_75 : decode cX9_wrong 75 = .ok (.invokevirtual 187, 3) := by decide +kernel
theorem dX9_wrong_78 : decode cX9_wrong 78 = .ok (.ifCond .eq 7, 3) := by decide +kernel
theorem dX9_wrong_81 : decode cX9_wrong 81 = .ok (.iconst (-1), 1) := by decide +kernel
theorem dX9_wrong_82 : decode cX9_wrong 82 = .ok (.goto 7, 3) := by decide +kernel
theorem dX9_wrong_85 : decode cX9_wrong 85 = .ok (.aload_n 0, 1) := by decide +kernel
theorem dX9_wrong_86 : decode cX9_wrong 86 = .ok (.getfield 159, 3) := by decide +kernel
theorem dX9_wrong_89 : decode cX9_wrong 89 = .ok (.ireturn, 1) := by decide +kernel
set_option maxRecDepth 20000 in
theorem ggX9_judge_X9_wrong : GoodIn wsX9_judge wsX9_wrong := goodIn_r _ [5, 6, 7, 8, 9, 10, 4, 11, 12, 13, 14, 15, 16, 17, 18, 19, 20, 21, 22, 23, 24, 25, 26, 27, 28, 29, 30, 31, 32, 33, 34, 35, 36, 37, 38, 39, 40, 41, 42, 43, 44, 45, 46, 47, 48, 49, 50, 51, 52, 53, 54, 55, 56, 57, 58, 59, 60, 61, 62, 63] (by decide +kernel) (by decide +kernel)
set_option maxRecDepth 20000 in
theorem gX9_judge_X9_wrong : GoodIn wsX9_judge (wsV RX9 194 RX9 yX9_wrong wsX9_wrong) := goodIn_app (goodIn_of _ (by decide +kernel)) ggX9_judge_X9_wrong
theorem dX9_judge_0 : decode cX9_judge 0 = .ok (.aload_n 0, 1) := by decide +kernel
theorem dX9_judge_1 : decode cX9_judge 1 = .ok (.invokevirtual 194, 3) := by decide +kernel
theorem dX9_judge_4 : decode cX9_judge 4 = .ok (.ireturn, 1) := by decide +kernel
theorem dX9_goIn_0 : decode cX9_goIn 0 = .ok (.aload_n 0, 1) := by decide +kernel
theorem dX9_goIn_1 : decode cX9_goIn 1 = .ok (.getfield 50, 3) := by decide +kernel
theorem dX9_goIn_4 : decode cX9_goIn 4 = .ok (.iconst 1, 1) := by decide +kernel
theorem dX9_goIn_5 : decode cX9_goIn 5 = .ok (.iload_n 1, 1) := by decide +kernel
theorem dX9_goIn_6 : decode cX9_goIn 6 = .ok (.iadd, 1) := by decide +kernel
theorem dX9_goIn_7 : decode cX9_goIn 7 = .ok (.dup2, 1) := by decide +kernel
theorem dX9_goIn_8 : decode cX9_goIn 8 = .ok (.iaload, 1) := by decide +kernel
theorem dX9_goIn_9 : decode cX9_goIn 9 = .ok (.iload_n 2, 1) := by decide +kernel
theorem dX9_goIn_10 : decode cX9_goIn 10 = .ok (.iadd, 1) := by decide +kernel
theorem dX9_goIn_11 : decode cX9_goIn 11 = .ok (.iastore, 1) := by decide +kernel
theorem dX9_goIn_12 : decode cX9_goIn 12 = .ok (.aload_n 0, 1) := by decide +kernel
theorem dX9_goIn_13 : decode cX9_goIn 13 = .ok (.getfield 50, 3) := by decide +kernel
theorem dX9_goIn_16 : decode cX9_goIn 16 = .ok (.bipush 13, 2) := by decide +kernel
theorem dX9_goIn_18 : decode cX9_goIn 18 = .ok (.iload_n 1, 1) := by decide +kernel
theorem dX9_goIn_19 : decode cX9_goIn 19 = .ok (.iadd, 1) := by decide +kernel
theorem dX9_goIn_20 : decode cX9_goIn 20 = .ok (.aload_n 0, 1) := by decide +kernel
theorem dX9_goIn_21 : decode cX9_goIn 21 = .ok (.getfield 50, 3) := by decide +kernel
theorem dX9_goIn_24 : decode cX9_goIn 24 = .ok (.iconst 0, 1) := by decide +kernel
theorem dX9_goIn_25 : decode cX9_goIn 25 = .ok (.iaload, 1) := by decide +kernel
theorem dX9_goIn_26 : decode cX9_goIn 26 = .ok (.iload_n 3, 1) := by decide +kernel
theorem dX9_goIn_27 : decode cX9_goIn 27 = .ok (.iadd, 1) := by decide +kernel
theorem dX9_goIn_28 : decode cX9_goIn 28 = .ok (.iastore, 1) := by decide +kernel
theorem dX9_goIn_29 : decode cX9_goIn 29 = .ok (.return_, 1) := by decide +kernel
set_option maxRecDepth 20000 in
theorem ggX9_enter_X9_isPerson : GoodIn wsX9_enter wsX9_isPerson := goodIn_r _ [9, 10, 11, 12, 8, 13, 47, 48, 49, 50, 51, 52, 53, 54, 55, 56, 57, 58, 59, 60, 61, 62, 63, 64, 65, 66, 67, 68, 69, 70, 71, 72, 73, 74, 75, 76, 77, 78, 79, 80, 81, 82, 83, 84] (by decide +kernel) (by decide +kernel)
set_option maxRecDepth 20000 in
theorem gX9_enter_X9_isPerson : GoodIn wsX9_enter (wsV RX9 184 RX9 yX9_isPerson wsX9_isPerson) := goodIn_app (goodIn_of _ (by decide +kernel)) ggX9_enter_X9_isPerson
set_option maxRecDepth 20000 in
theorem ggX9_enter_X9_isDown : GoodIn wsX9_enter wsX9_isDown := goodIn_r _ [17, 4, 47, 48, 49, 50, 51, 52, 53, 54, 55, 56, 57, 58, 59, 60, 61, 62, 63, 64, 65, 66, 67, 68, 69, 70, 71, 72, 73, 74, 75, 76, 77, 78, 79, 80, 81, 82, 83, 84] (by decide +kernel) (by decide +kernel)
set_option maxRecDepth 20000 in
theorem gX9_enter_X9_isDown : GoodIn wsX9_enter (wsV RX9 171 RX9 yX9_isDown wsX9_isDown) := goodIn_app (goodIn_of _ (by decide +kernel)) ggX9_enter_X9_isDown
set_option maxRecDepth 20000 in
theorem ggX9_enter_X9_wrong : GoodIn wsX9_enter wsX9_wrong := goodIn_r _ [21, 2, 22, 23, 24, 25, 8, 26, 27, 28, 29, 30, 31, 32, 11, 12, 13, 33, 34, 35, 36, 37, 47, 48, 49, 50, 51, 52, 53, 54, 55, 56, 57, 58, 59, 60, 61, 62, 63, 64, 65, 66, 67, 68, 69, 70, 71, 72, 73, 74, 75, 76, 77, 78, 79, 80, 81, 82, 83, 84] (by decide +kernel) (by decide +kernel)
set_option maxRecDepth 20000 in
theorem gX9_enter_X9_wrong : GoodIn wsX9_enter (wsV RX9 194 RX9 yX9_wrong wsX9_wrong) := goodIn_app (goodIn_of _ (by decide +kernel)) ggX9_enter_X9_wrong
set_option maxRecDepth 20000 in
theorem ggX9_enter_X9_stayTime : GoodIn wsX9_enter wsX9_stayTime := goodIn_r _ [41, 2, 42, 22, 47, 48, 49, 50, 51, 52, 53, 54, 55, 56, 57, 58, 59, 60, 61, 62, 63, 64, 65, 66, 67, 68, 69, 70, 71, 72, 73, 74, 75, 76, 77, 78, 79, 80, 81, 82, 83, 84] (by decide +kernel) (by decide +kernel)
set_option maxRecDepth 20000 in
theorem gX9_enter_X9_stayTime : GoodIn wsX9_enter (wsV RX9 177 RX9 yX9_stayTime wsX9_stayTime) := goodIn_app (goodIn_of _ (by decide +kernel)) ggX9_enter_X9_stayTime
set_option maxRecDepth 20000 in
theorem ggX9_enter_X9_goIn : GoodIn wsX9_enter wsX9_goIn := goodIn_r _ [46, 4, 47, 48, 49, 50, 51, 52, 53, 54, 55, 56, 57, 58, 59, 60, 61, 62, 63, 64, 65, 66, 67, 68, 69, 70, 71, 72, 73, 74, 75, 76, 77, 78, 79, 80, 81, 82, 83, 84] (by decide +kernel) (by decide +kernel)
set_option maxRecDepth 20000 in
theorem gX9_enter_X9_goIn : GoodIn wsX9_enter (wsV RX9 198 RX9 yX9_goIn wsX9_goIn) := goodIn_app (goodIn_of _ (by decide +kernel)) ggX9_enter_X9_goIn
theorem dX9_enter_0 : decode cX9_enter 0 = .ok (.aload_n 0, 1) := by decide +kernel
theorem dX9_enter_1 : decode cX9_enter 1 = .ok (.iload_n 1, 1) := by decide +kernel
theorem dX9_enter_2 : decode cX9_enter 2 = .ok (.invokevirtual 184, 3) := by decide +kernel
theorem dX9_enter_5 : decode cX9_enter 5 = .ok (.ifCond .ne 6, 3) := by decide +kernel
theorem dX9_enter_8 : decode cX9_enter 8 = .ok (.ldc 180, 2) := by decide +kernel
theorem dX9_enter_10 : decode cX9_enter 10 = .ok (.ireturn, 1) := by decide +kernel
theorem dX9_enter_11 : decode cX9_enter 11 = .ok (.aload_n 0, 1) := by decide +kernel
theorem dX9_enter_12 : decode cX9_enter 12 = .ok (.iload_n 1, 1) := by decide +kernel
theorem dX9_enter_13 : decode cX9_enter 13 = .ok (.invokevirtual 171, 3) := by decide +kernel
theorem dX9_enter_16 : decode cX9_enter 16 = .ok (.ifCond .ne 18, 3) := by decide +kernel
theorem dX9_enter_19 : decode cX9_enter 19 = .ok (.aload_n 0, 1) := by decide +kernel
theorem dX9_enter_20 : decode cX9_enter 20 = .ok (.getfield 159, 3) := by decide +kernel
theorem dX9_enter_23 : decode cX9_enter 23 = .ok (.ifCond .eq 11, 3) := by decide +kernel
theorem dX9_enter_26 : decode cX9_enter 26 = .ok (.aload_n 0, 1) := by decide +kernel
theorem dX9_enter_27 : decode cX9_enter 27 = .ok (.invokevirtual 194, 3) := by decide +kernel
theorem dX9_enter_30 : decode cX9_enter 30 = .ok (.iconst (-1), 1) := by decide +kernel
theorem dX9_enter_31 : decode cX9_enter 31 = .ok (.if_icmp .eq 6, 3) := by decide +kernel
theorem dX9_enter_34 : decode cX9_enter 34 = .ok (.ldc 197, 2) := by decide +kernel
theorem dX9_enter_36 : decode cX9_enter 36 = .ok (.ireturn, 1) := by decide +kernel
theorem dX9_enter_37 : decode cX9_enter 37 = .ok (.aload_n 0, 1) := by decide +kernel
theorem dX9_enter_38 : decode cX9_enter 38 = .ok (.iload_n 1, 1) := by decide +kernel
theorem dX9_enter_39 : decode cX9_enter 39 = .ok (.aload_n 0, 1) := by decide +kernel
theorem dX9_enter_40 : decode cX9_enter 40 = .ok (.getfield 159, 3) := by decide +kernel
theorem dX9_enter_43 : decode cX9_enter 43 = .ok (.aload_n 0, 1) := by decide +kernel
theorem dX9_enter_44 : decode cX9_enter 44 = .ok (.invokevirtual 177, 3) := by decide +kernel
theorem dX9_enter_47 : decode cX9_enter 47 = .ok (.invokevirtual 198, 3) := by decide +kernel
theorem dX9_enter_50 : decode cX9_enter 50 = .ok (.aload_n 0, 1) := by decide +kernel
theorem dX9_enter_51 : decode cX9_enter 51 = .ok (.getfield 50, 3) := by decide +kernel
theorem dX9_enter_54 : decode cX9_enter 54 = .ok (.bipush 13, 2) := by decide +kernel
theorem dX9_enter_56 : decode cX9_enter 56 = .ok (.iload_n 1, 1) := by decide +kernel
theorem dX9_enter_57 : decode cX9_enter 57 = .ok (.iadd, 1) := by decide +kernel
theorem dX9_enter_58 : decode cX9_enter 58 = .ok (.iaload, 1) := by decide +kernel
theorem dX9_enter_59 : decode cX9_enter 59 = .ok (.ireturn, 1) := by decide +kernel
theorem dX9_grown_0 : decode cX9_grown 0 = .ok (.iload_n 1, 1) := by decide +kernel
theorem dX9_grown_1 : decode cX9_grown 1 = .ok (.i2l, 1) := by decide +kernel
theorem dX9_grown_2 : decode cX9_grown 2 = .ok (.iload_n 1, 1) := by decide +kernel
theorem dX9_grown_3 : decode cX9_grown 3 = .ok (.i2l, 1) := by decide +kernel
theorem dX9_grown_4 : decode cX9_grown 4 = .ok (.aload_n 0, 1) := by decide +kernel
theorem dX9_grown_5 : decode cX9_grown 5 = .ok (.getfield 38, 3) := by decide +kernel
theorem dX9_grown_8 : decode cX9_grown 8 = .ok (.iconst 0, 1) := by decide +kernel
theorem dX9_grown_9 : decode cX9_grown 9 = .ok (.iaload, 1) := by decide +kernel
theorem dX9_grown_10 : decode cX9_grown 10 = .ok (.i2l, 1) := by decide +kernel
theorem dX9_grown_11 : decode cX9_grown 11 = .ok (.lmul, 1) := by decide +kernel
theorem dX9_grown_12 : decode cX9_grown 12 = .ok (.ldc2_w 202, 3) := by decide +kernel
theorem dX9_grown_15 : decode cX9_grown 15 = .ok (.ldiv, 1) := by decide +kernel
theorem dX9_grown_16 : decode cX9_grown 16 = .ok (.ladd, 1) := by decide +kernel
theorem dX9_grown_17 : decode cX9_grown 17 = .ok (.lstore_n 2, 1) := by decide +kernel
theorem dX9_grown_18 : decode cX9_grown 18 = .ok (.lload_n 2, 1) := by decide +kernel
theorem dX9_grown_19 : decode cX9_grown 19 = .ok (.ldc2_w 204, 3) := by decide +kernel
theorem dX9_grown_22 : decode cX9_grown 22 = .ok (.lcmp, 1) := by decide +kernel
theorem dX9_grown_23 : decode cX9_grown 23 = .ok (.ifCond .le 8, 3) := by decide +kernel
theorem dX9_grown_26 : decode cX9_grown 26 = .ok (.ldc 206, 2) := by decide +kernel
theorem dX9_grown_28 : decode cX9_grown 28 = .ok (.goto 5, 3) := by decide +kernel
theorem dX9_grown_31 : decode cX9_grown 31 = .ok (.lload_n 2, 1) := by decide +kernel
theorem dX9_grown_32 : decode cX9_grown 32 = .ok (.l2i, 1) := by decide +kernel
theorem dX9_grown_33 : decode cX9_grown 33 = .ok (.ireturn, 1) := by decide +kernel
set_option maxRecDepth 20000 in
theorem ggX9_passBy_X9_grown : GoodIn wsX9_passBy wsX9_grown := goodIn_r _ [7, 8, 9, 10, 11, 12, 13, 14, 15, 16, 17, 18, 19, 20, 21, 22, 23, 24, 25, 26, 27, 28, 29, 30, 31, 32, 33, 34, 35, 36, 37, 38, 39, 40, 41, 42, 43, 44, 45, 46, 47, 48, 49] (by decide +kernel) (by decide +kernel)
set_option maxRecDepth 20000 in
theorem gX9_passBy_X9_grown : GoodIn wsX9_passBy (wsV RX9 207 RX9 yX9_grown wsX9_grown) := goodIn_app (goodIn_of _ (by decide +kernel)) ggX9_passBy_X9_grown
theorem dX9_passBy_0 : decode cX9_passBy 0 = .ok (.aload_n 0, 1) := by decide +kernel
theorem dX9_passBy_1 : decode cX9_passBy 1 = .ok (.getfield 50, 3) := by decide +kernel
theorem dX9_passBy_4 : decode cX9_passBy 4 = .ok (.iconst 0, 1) := by decide +kernel
theorem dX9_passBy_5 : decode cX9_passBy 5 = .ok (.iaload, 1) := by decide +kernel
theorem dX9_passBy_6 : decode cX9_passBy 6 = .ok (.iload_n 1, 1) := by decide +kernel
theorem dX9_passBy_7 : decode cX9_passBy 7 = .ok (.iadd, 1) := by decide +kernel
theorem dX9_passBy_8 : decode cX9_passBy 8 = .ok (.istore_n 2, 1) := by decide +kernel
theorem dX9_passBy_9 : decode cX9_passBy 9 = .ok (.aload_n 0, 1) := by decide +kernel
theorem dX9_passBy_10 : decode cX9_passBy 10 = .ok (.getfield 50, 3) := by decide +kernel
theorem dX9_passBy_13 : decode cX9_passBy 13 = .ok (.iconst 0, 1) := by decide +kernel
theorem dX9_passBy_14 : decode cX9_passBy 14 = .ok (.iaload, 1) := by decide +kernel
theorem dX9_passBy_15 : decode cX9_passBy 15 = .ok (.bipush 60, 2) := by decide +kernel
theorem dX9_passBy_17 : decode cX9_passBy 17 = .ok (.idiv, 1) := by decide +kernel
theorem dX9_passBy_18 : decode cX9_passBy 18 = .ok (.iconst 1, 1) := by decide +kernel
theorem dX9_passBy_19 : decode cX9_passBy 19 = .ok (.iadd, 1) := by decide +kernel
theorem dX9_passBy_20 : decode cX9_passBy 20 = .ok (.istore_n 3, 1) := by decide +kernel
theorem dX9_passBy_21 : decode cX9_passBy 21 = .ok (.iload_n 3, 1) := by decide +kernel
theorem dX9_passBy_22 : decode cX9_passBy 22 = .ok (.iload_n 2, 1) := by decide +kernel
theorem dX9_passBy_23 : decode cX9_passBy 23 = .ok (.bipush 60, 2) := by decide +kernel
theorem dX9_passBy_25 : decode cX9_passBy 25 = .ok (.idiv, 1) := by decide +kernel
theorem dX9_passBy_26 : decode cX9_passBy 26 = .ok (.if_icmp .gt 53, 3) := by decide +kernel
theorem dX9_passBy_29 : decode cX9_passBy 29 = .ok (.iconst 0, 1) := by decide +kernel
theorem dX9_passBy_30 : decode cX9_passBy 30 = .ok (.istore 4, 2) := by decide +kernel
theorem dX9_passBy_32 : decode cX9_passBy 32 = .ok (.iload 4, 2) := by decide +kernel
theorem dX9_passBy_34 : decode cX9_passBy 34 = .ok (.aload_n 0, 1) := by decide +kernel
theorem dX9_passBy_35 : decode cX9_passBy 35 = .ok (.getfield 29, 3) := by decide +kernel
theorem dX9_passBy_38 : decode cX9_passBy 38 = .ok (.iconst 0, 1) := by decide +kernel
theorem dX9_passBy_39 : decode cX9_passBy 39 = .ok (.iaload, 1) := by decide +kernel
theorem dX9_passBy_40 : decode cX9_passBy 40 = .ok (.if_icmp .ge 33, 3) := by decide +kernel
theorem dX9_passBy_43 : decode cX9_passBy 43 = .ok (.aload_n 0, 1) := by decide +kernel
theorem dX9_passBy_44 : decode cX9_passBy 44 = .ok (.getfield 50, 3) := by decide +kernel
theorem dX9_passBy_47 : decode cX9_passBy 47 = .ok (.bipush 7, 2) := by decide +kernel
theorem dX9_passBy_49 : decode cX9_passBy 49 = .ok (.iload 4, 2) := by decide +kernel
theorem dX9_passBy_51 : decode cX9_passBy 51 = .ok (.iadd, 1) := by decide +kernel
theorem dX9_passBy_52 : decode cX9_passBy 52 = .ok (.aload_n 0, 1) := by decide +kernel
theorem dX9_passBy_53 : decode cX9_passBy 53 = .ok (.aload_n 0, 1) := by decide +kernel
theorem dX9_passBy_54 : decode cX9_passBy 54 = .ok (.getfield 50, 3) := by decide +kernel
theorem dX9_passBy_57 : decode cX9_passBy 57 = .ok (.bipush 7, 2) := by decide +kernel
theorem dX9_passBy_59 : decode cX9_passBy 59 = .ok (.iload 4, 2) := by decide +kernel
theorem dX9_passBy_61 : decode cX9_passBy 61 = .ok (.iadd, 1) := by decide +kernel
theorem dX9_passBy_62 : decode cX9_passBy 62 = .ok (.iaload, 1) := by decide +kernel
theorem dX9_passBy_63 : decode cX9_passBy 63 = .ok (.invokevirtual 207, 3) := by decide +kernel
theorem dX9_passBy_66 : decode cX9_passBy 66 = .ok (.iastore, 1) := by decide +kernel
theorem dX9_passBy_67 : decode cX9_passBy 67 = .ok (.iinc 4 1, 3) := by decide +kernel
theorem dX9_passBy_70 : decode cX9_passBy 70 = .ok (.goto (-38), 3) := by decide +kernel
theorem dX9_passBy_73 : decode cX9_passBy 73 = .ok (.iinc 3 1, 3) := by decide +kernel
theorem dX9_passBy_76 : decode cX9_passBy 76 = .ok (.goto (-55), 3) := by decide +kernel
theorem dX9_passBy_79 : decode cX9_passBy 79 = .ok (.iconst 0, 1) := by decide +kernel
theorem dX9_passBy_80 : decode cX9_passBy 80 = .ok (.istore_n 3, 1) := by decide +kernel
theorem dX9_passBy_81 : decode cX9_passBy 81 = .ok (.iload_n 3, 1) := by decide +kernel
theorem dX9_passBy_82 : decode cX9_passBy 82 = .ok (.aload_n 0, 1) := by decide +kernel
theorem dX9_passBy_83 : decode cX9_passBy 83 = .ok (.getfield 29, 3) := by decide +kernel
theorem dX9_passBy_86 : decode cX9_passBy 86 = .ok (.iconst 0, 1) := by decide +kernel
theorem dX9_passBy_87 : decode cX9_passBy 87 = .ok (.iaload, 1) := by decide +kernel
theorem dX9_passBy_88 : decode cX9_passBy 88 = .ok (.if_icmp .ge 72, 3) := by decide +kernel
theorem dX9_passBy_91 : decode cX9_passBy 91 = .ok (.aload_n 0, 1) := by decide +kernel
theorem dX9_passBy_92 : decode cX9_passBy 92 = .ok (.getfield 50, 3) := by decide +kernel
theorem dX9_passBy_95 : decode cX9_passBy 95 = .ok (.bipush 13, 2) := by decide +kernel
theorem dX9_passBy_97 : decode cX9_passBy 97 = .ok (.iload_n 3, 1) := by decide +kernel
theorem dX9_passBy_98 : decode cX9_passBy 98 = .ok (.iadd, 1) := by decide +kernel
theorem dX9_passBy_99 : decode cX9_passBy 99 = .ok (.iaload, 1) := by decide +kernel
theorem dX9_passBy_100 : decode cX9_passBy 100 = .ok (.aload_n 0, 1) := by decide +kernel
theorem dX9_passBy_101 : decode cX9_passBy 101 = .ok (.getfield 50, 3) := by decide +kernel
theorem dX9_passBy_104 : decode cX9_passBy 104 = .ok (.iconst 0, 1) := by decide +kernel
theorem dX9_passBy_105 : decode cX9_passBy 105 = .ok (.iaload, 1) := by decide +kernel
theorem dX9_passBy_106 : decode cX9_passBy 106 = .ok (.if_icmp .le 15, 3) := by decide +kernel
theorem dX9_passBy_109 : decode cX9_passBy 109 = .ok (.aload_n 0, 1) := by decide +kernel
theorem dX9_passBy_110 : decode cX9_passBy 110 = .ok (.getfield 50, 3) := by decide +kernel
theorem dX9_passBy_113 : decode cX9_passBy 113 = .ok (.bipush 13, 2) := by decide +kernel
theorem dX9_passBy_115 : decode cX9_passBy 115 = .ok (.iload_n 3, 1) := by decide +kernel
theorem dX9_passBy_116 : decode cX9_passBy 116 = .ok (.iadd, 1) := by decide +kernel
theorem dX9_passBy_117 : decode cX9_passBy 117 = .ok (.iaload, 1) := by decide +kernel
theorem dX9_passBy_118 : decode cX9_passBy 118 = .ok (.goto 9, 3) := by decide +kernel
theorem dX9_passBy_121 : decode cX9_passBy 121 = .ok (.aload_n 0, 1) := by decide +kernel
theorem dX9_passBy_122 : decode cX9_passBy 122 = .ok (.getfield 50, 3) := by decide +kernel
theorem dX9_passBy_125 : decode cX9_passBy 125 = .ok (.iconst 0, 1) := by decide +kernel
theorem dX9_passBy_126 : decode cX9_passBy 126 = .ok (.iaload, 1) := by decide +kernel
theorem dX9_passBy_127 : decode cX9_passBy 127 = .ok (.istore 4, 2) := by decide +kernel
theorem dX9_passBy_129 : decode cX9_passBy 129 = .ok (.aload_n 0, 1) := by decide +kernel
theorem dX9_passBy_130 : decode cX9_passBy 130 = .ok (.getfield 50, 3) := by decide +kernel
theorem dX9_passBy_133 : decode cX9_passBy 133 = .ok (.iconst 1, 1) := by decide +kernel
theorem dX9_passBy_134 : decode cX9_passBy 134 = .ok (.iload_n 3, 1) := by decide +kernel
theorem dX9_passBy_135 : decode cX9_passBy 135 = .ok (.iadd, 1) := by decide +kernel
theorem dX9_passBy_136 : decode cX9_passBy 136 = .ok (.dup2, 1) := by decide +kernel
theorem dX9_passBy_137 : decode cX9_passBy 137 = .ok (.iaload, 1) := by decide +kernel
theorem dX9_passBy_138 : decode cX9_passBy 138 = .ok (.iload_n 2, 1) := by decide +kernel
theorem dX9_passBy_139 : decode cX9_passBy 139 = .ok (.iload 4, 2) := by decide +kernel
theorem dX9_passBy_141 : decode cX9_passBy 141 = .ok (.if_icmp .le 10, 3) := by decide +kernel
theorem dX9_passBy_144 : decode cX9_passBy 144 = .ok (.iload_n 2, 1) := by decide +kernel
theorem dX9_passBy_145 : decode cX9_passBy 145 = .ok (.iload 4, 2) := by decide +kernel
theorem dX9_passBy_147 : decode cX9_passBy 147 = .ok (.isub, 1) := by decide +kernel
theorem dX9_passBy_148 : decode cX9_passBy 148 = .ok (.goto 4, 3) := by decide +kernel
theorem dX9_passBy_151 : decode cX9_passBy 151 = .ok (.iconst 0, 1) := by decide +kernel
theorem dX9_passBy_152 : decode cX9_passBy 152 = .ok (.iadd, 1) := by decide +kernel
theorem dX9_passBy_153 : decode cX9_passBy 153 = .ok (.iastore, 1) := by decide +kernel
theorem dX9_passBy_154 : decode cX9_passBy 154 = .ok (.iinc 3 1, 3) := by decide +kernel
theorem dX9_passBy_157 : decode cX9_passBy 157 = .ok (.goto (-76), 3) := by decide +kernel
theorem dX9_passBy_160 : decode cX9_passBy 160 = .ok (.aload_n 0, 1) := by decide +kernel
theorem dX9_passBy_161 : decode cX9_passBy 161 = .ok (.getfield 50, 3) := by decide +kernel
theorem dX9_passBy_164 : decode cX9_passBy 164 = .ok (.iconst 0, 1) := by decide +kernel
theorem dX9_passBy_165 : decode cX9_passBy 165 = .ok (.iload_n 2, 1) := by decide +kernel
theorem dX9_passBy_166 : decode cX9_passBy 166 = .ok (.iastore, 1) := by decide +kernel
theorem dX9_passBy_167 : decode cX9_passBy 167 = .ok (.return_, 1) := by decide +kernel
set_option maxRecDepth 20000 in
theorem ggX9_pass_X9_in : GoodIn wsX9_pass wsX9_in := goodIn_r _ [8] (by decide +kernel) (by decide +kernel)
set_option maxRecDepth 20000 in
theorem gX9_pass_X9_in : GoodIn wsX9_pass (va_wsS RX9 95 yX9_in wsX9_in) := goodIn_app (goodIn_of _ (by decide +kernel)) ggX9_pass_X9_in
set_option maxRecDepth 20000 in
theorem ggX9_pass_X9_passBy : GoodIn wsX9_pass wsX9_passBy := goodIn_r _ [12, 2, 13, 14, 15, 16, 7, 17, 18, 19, 20, 21, 22, 23, 24, 25, 26, 27, 28, 29, 30, 31, 32, 33, 34, 35, 36, 37, 38, 39, 40, 41, 42, 43, 44, 45, 46, 47, 48, 49, 50, 51, 52, 53, 54, 55, 56, 57, 58, 59] (by decide +kernel) (by decide +kernel)
set_option maxRecDepth 20000 in
theorem gX9_pass_X9_passBy : GoodIn wsX9_pass (wsV RX9 211 RX9 yX9_passBy wsX9_passBy) := goodIn_app (goodIn_of _ (by decide +kernel)) ggX9_pass_X9_passBy
theorem dX9_pass_0 : decode cX9_pass 0 = .ok (.iload_n 1, 1) := by decide +kernel
theorem dX9_pass_1 : decode cX9_pass 1 = .ok (.iconst 1, 1) := by decide +kernel
theorem dX9_pass_2 : decode cX9_pass 2 = .ok (.sipush 9999, 3) := by decide +kernel
theorem dX9_pass_5 : decode cX9_pass 5 = .ok (.invokestatic 95, 3) := by decide +kernel
theorem dX9_pass_8 : decode cX9_pass 8 = .ok (.ifCond .ne 6, 3) := by decide +kernel
theorem dX9_pass_11 : decode cX9_pass 11 = .ok (.ldc 99, 2) := by decide +kernel
theorem dX9_pass_13 : decode cX9_pass 13 = .ok (.ireturn, 1) := by decide +kernel
theorem dX9_pass_14 : decode cX9_pass 14 = .ok (.aload_n 0, 1) := by decide +kernel
theorem dX9_pass_15 : decode cX9_pass 15 = .ok (.getfield 50, 3) := by decide +kernel
theorem dX9_pass_18 : decode cX9_pass 18 = .ok (.iconst 0, 1) := by decide +kernel
theorem dX9_pass_19 : decode cX9_pass 19 = .ok (.iaload, 1) := by decide +kernel
theorem dX9_pass_20 : decode cX9_pass 20 = .ok (.iload_n 1, 1) := by decide +kernel
theorem dX9_pass_21 : decode cX9_pass 21 = .ok (.iadd, 1) := by decide +kernel
theorem dX9_pass_22 : decode cX9_pass 22 = .ok (.ldc 210, 2) := by decide +kernel
theorem dX9_pass_24 : decode cX9_pass 24 = .ok (.if_icmp .le 6, 3) := by decide +kernel
theorem dX9_pass_27 : decode cX9_pass 27 = .ok (.ldc 103, 2) := by decide +kernel
theorem dX9_pass_29 : decode cX9_pass 29 = .ok (.ireturn, 1) := by decide +kernel
theorem dX9_pass_30 : decode cX9_pass 30 = .ok (.aload_n 0, 1) := by decide +kernel
theorem dX9_pass_31 : decode cX9_pass 31 = .ok (.iload_n 1, 1) := by decide +kernel
theorem dX9_pass_32 : decode cX9_pass 32 = .ok (.invokevirtual 211, 3) := by decide +kernel
theorem dX9_pass_35 : decode cX9_pass 35 = .ok (.aload_n 0, 1) := by decide +kernel
theorem dX9_pass_36 : decode cX9_pass 36 = .ok (.getfield 50, 3) := by decide +kernel
theorem dX9_pass_39 : decode cX9_pass 39 = .ok (.iconst 0, 1) := by decide +kernel
theorem dX9_pass_40 : decode cX9_pass 40 = .ok (.iaload, 1) := by decide +kernel
theorem dX9_pass_41 : decode cX9_pass 41 = .ok (.ireturn, 1) := by decide +kernel
theorem dX9_draw_0 : decode cX9_draw 0 = .ok (.aload_n 0, 1) := by decide +kernel
theorem dX9_draw_1 : decode cX9_draw 1 = .ok (.aload_n 0, 1) := by decide +kernel
theorem dX9_draw_2 : decode cX9_draw 2 = .ok (.getfield 214, 3) := by decide +kernel
theorem dX9_draw_5 : decode cX9_draw 5 = .ok (.i2l, 1) := by decide +kernel
theorem dX9_draw_6 : decode cX9_draw 6 = .ok (.ldc2_w 217, 3) := by decide +kernel
theorem dX9_draw_9 : decode cX9_draw 9 = .ok (.lmul, 1) := by decide +kernel
theorem dX9_draw_10 : decode cX9_draw 10 = .ok (.ldc2_w 219, 3) := by decide +kernel
theorem dX9_draw_13 : decode cX9_draw 13 = .ok (.ladd, 1) := by decide +kernel
theorem dX9_draw_14 : decode cX9_draw 14 = .ok (.ldc2_w 221, 3) := by decide +kernel
theorem dX9_draw_17 : decode cX9_draw 17 = .ok (.lrem, 1) := by decide +kernel
theorem dX9_draw_18 : decode cX9_draw 18 = .ok (.l2i, 1) := by decide +kernel
theorem dX9_draw_19 : decode cX9_draw 19 = .ok (.putfield 214, 3) := by decide +kernel
theorem dX9_draw_22 : decode cX9_draw 22 = .ok (.aload_n 0, 1) := by decide +kernel
theorem dX9_draw_23 : decode cX9_draw 23 = .ok (.getfield 214, 3) := by decide +kernel
theorem dX9_draw_26 : decode cX9_draw 26 = .ok (.ldc 223, 2) := by decide +kernel
theorem dX9_draw_28 : decode cX9_draw 28 = .ok (.idiv, 1) := by decide +kernel
theorem dX9_draw_29 : decode cX9_draw 29 = .ok (.iload_n 1, 1) := by decide +kernel
theorem dX9_draw_30 : decode cX9_draw 30 = .ok (.irem, 1) := by decide +kernel
theorem dX9_draw_31 : decode cX9_draw 31 = .ok (.ireturn, 1) := by decide +kernel
set_option maxRecDepth 20000 in
theorem ggX9_drift_X9_in : GoodIn wsX9_drift wsX9_in := goodIn_r _ [12] (by decide +kernel) (by decide +kernel)
set_option maxRecDepth 20000 in
theorem gX9_drift_X9_in : GoodIn wsX9_drift (va_wsS RX9 95 yX9_in wsX9_in) := goodIn_app (goodIn_of _ (by decide +kernel)) ggX9_drift_X9_in
set_option maxRecDepth 20000 in
theorem ggX9_drift_X9_draw : GoodIn wsX9_drift wsX9_draw := goodIn_r _ [16, 17, 18, 19, 20, 21, 51, 52, 53, 54, 55, 56, 57, 58, 59, 60, 61, 62, 63, 64, 65, 66, 67, 68, 69, 70, 71, 72, 73, 74, 75, 76, 77, 78, 79, 80, 81, 82, 83, 84, 85, 86, 87, 88] (by decide +kernel) (by decide +kernel)
set_option maxRecDepth 20000 in
theorem gX9_drift_X9_draw : GoodIn wsX9_drift (wsV RX9 225 RX9 yX9_draw wsX9_draw) := goodIn_app (goodIn_of _ (by decide +kernel)) ggX9_drift_X9_draw
set_option maxRecDepth 20000 in
theorem ggX9_drift_X9_isDown : GoodIn wsX9_drift wsX9_isDown := goodIn_r _ [25, 5, 51, 52, 53, 54, 55, 56, 57, 58, 59, 60, 61, 62, 63, 64, 65, 66, 67, 68, 69, 70, 71, 72, 73, 74, 75, 76, 77, 78, 79, 80, 81, 82, 83, 84, 85, 86, 87, 88] (by decide +kernel) (by decide +kernel)
set_option maxRecDepth 20000 in
theorem gX9_drift_X9_isDown : GoodIn wsX9_drift (wsV RX9 171 RX9 yX9_isDown wsX9_isDown) := goodIn_app (goodIn_of _ (by decide +kernel)) ggX9_drift_X9_isDown
set_option maxRecDepth 20000 in
theorem ggX9_drift_X9_isMouth : GoodIn wsX9_drift wsX9_isMouth := goodIn_r _ [29, 30, 31, 32, 33, 11, 34, 2, 9, 10, 12, 51, 52, 53, 54, 55, 56, 57, 58, 59, 60, 61, 62, 63, 64, 65, 66, 67, 68, 69, 70, 71, 72, 73, 74, 75, 76, 77, 78, 79, 80, 81, 82, 83, 84, 85, 86, 87, 88] (by decide +kernel) (by decide +kernel)
set_option maxRecDepth 20000 in
theorem gX9_drift_X9_isMouth : GoodIn wsX9_drift (wsV RX9 187 RX9 yX9_isMouth wsX9_isMouth) := goodIn_app (goodIn_of _ (by decide +kernel)) ggX9_drift_X9_isMouth
set_option maxRecDepth 20000 in
theorem ggX9_drift_X9_goIn : GoodIn wsX9_drift wsX9_goIn := goodIn_r _ [38, 5, 51, 52, 53, 54, 55, 56, 57, 58, 59, 60, 61, 62, 63, 64, 65, 66, 67, 68, 69, 70, 71, 72, 73, 74, 75, 76, 77, 78, 79, 80, 81, 82, 83, 84, 85, 86, 87, 88] (by decide +kernel) (by decide +kernel)
set_option maxRecDepth 20000 in
theorem gX9_drift_X9_goIn : GoodIn wsX9_drift (wsV RX9 198 RX9 yX9_goIn wsX9_goIn) := goodIn_app (goodIn_of _ (by decide +kernel)) ggX9_drift_X9_goIn
set_option maxRecDepth 20000 in
theorem ggX9_drift_X9_passBy : GoodIn wsX9_drift wsX9_passBy := goodIn_r _ [42, 5, 3, 43, 44, 45, 11, 46, 47, 48, 49, 50, 51, 52, 53, 54, 55, 56, 57, 58, 59, 60, 61, 62, 63, 64, 65, 66, 67, 68, 69, 70, 71, 72, 73, 74, 75, 76, 77, 78, 79, 80, 81, 82, 83, 84, 85, 86, 87, 88] (by decide +kernel) (by decide +kernel)
set_option maxRecDepth 20000 in
theorem gX9_drift_X9_passBy : GoodIn wsX9_drift (wsV RX9 211 RX9 yX9_passBy wsX9_passBy) := goodIn_app (goodIn_of _ (by decide +kernel)) ggX9_drift_X9_passBy
theorem dX9_drift_0 : decode cX9_drift 0 = .ok (.iload_n 1, 1) := by decide +kernel
theorem dX9_drift_1 : decode cX9_drift 1 = .ok (.iconst 1, 1) := by decide +kernel
theorem dX9_drift_2 : decode cX9_drift 2 = .ok (.bipush 99, 2) := by decide +kernel
theorem dX9_drift_4 : decode cX9_drift 4 = .ok (.invokestatic 95, 3) := by decide +kernel
theorem dX9_drift_7 : decode cX9_drift 7 = .ok (.ifCond .ne 6, 3) := by decide +kernel
theorem dX9_drift_10 : decode cX9_drift 10 = .ok (.ldc 99, 2) := by decide +kernel
theorem dX9_drift_12 : decode cX9_drift 12 = .ok (.ireturn, 1) := by decide +kernel
theorem dX9_drift_13 : decode cX9_drift 13 = .ok (.aload_n 0, 1) := by decide +kernel
theorem dX9_drift_14 : decode cX9_drift 14 = .ok (.getfield 13, 3) := by decide +kernel
theorem dX9_drift_17 : decode cX9_drift 17 = .ok (.iconst 0, 1) := by decide +kernel
theorem dX9_drift_18 : decode cX9_drift 18 = .ok (.iaload, 1) := by decide +kernel
theorem dX9_drift_19 : decode cX9_drift 19 = .ok (.ifCond .eq 12, 3) := by decide +kernel
theorem dX9_drift_22 : decode cX9_drift 22 = .ok (.aload_n 0, 1) := by decide +kernel
theorem dX9_drift_23 : decode cX9_drift 23 = .ok (.getfield 29, 3) := by decide +kernel
theorem dX9_drift_26 : decode cX9_drift 26 = .ok (.iconst 0, 1) := by decide +kernel
theorem dX9_drift_27 : decode cX9_drift 27 = .ok (.iaload, 1) := by decide +kernel
theorem dX9_drift_28 : decode cX9_drift 28 = .ok (.ifCond .ne 6, 3) := by decide +kernel
theorem dX9_drift_31 : decode cX9_drift 31 = .ok (.ldc 197, 2) := by decide +kernel
theorem dX9_drift_33 : decode cX9_drift 33 = .ok (.ireturn, 1) := by decide +kernel
theorem dX9_drift_34 : decode cX9_drift 34 = .ok (.aload_n 0, 1) := by decide +kernel
theorem dX9_drift_35 : decode cX9_drift 35 = .ok (.getfield 50, 3) := by decide +kernel
theorem dX9_drift_38 : decode cX9_drift 38 = .ok (.iconst 0, 1) := by decide +kernel
theorem dX9_drift_39 : decode cX9_drift 39 = .ok (.iaload, 1) := by decide +kernel
theorem dX9_drift_40 : decode cX9_drift 40 = .ok (.ldc 224, 2) := by decide +kernel
theorem dX9_drift_42 : decode cX9_drift 42 = .ok (.if_icmp .le 6, 3) := by decide +kernel
theorem dX9_drift_45 : decode cX9_drift 45 = .ok (.ldc 103, 2) := by decide +kernel
theorem dX9_drift_47 : decode cX9_drift 47 = .ok (.ireturn, 1) := by decide +kernel
theorem dX9_drift_48 : decode cX9_drift 48 = .ok (.iconst 0, 1) := by decide +kernel
theorem dX9_drift_49 : decode cX9_drift 49 = .ok (.istore_n 2, 1) := by decide +kernel
theorem dX9_drift_50 : decode cX9_drift 50 = .ok (.iload_n 2, 1) := by decide +kernel
theorem dX9_drift_51 : decode cX9_drift 51 = .ok (.iload_n 1, 1) := by decide +kernel
theorem dX9_drift_52 : decode cX9_drift 52 = .ok (.if_icmp .ge 86, 3) := by decide +kernel
theorem dX9_drift_55 : decode cX9_drift 55 = .ok (.aload_n 0, 1) := by decide +kernel
theorem dX9_drift_56 : decode cX9_drift 56 = .ok (.aload_n 0, 1) := by decide +kernel
theorem dX9_drift_57 : decode cX9_drift 57 = .ok (.getfield 29, 3) := by decide +kernel
theorem dX9_drift_60 : decode cX9_drift 60 = .ok (.iconst 0, 1) := by decide +kernel
theorem dX9_drift_61 : decode cX9_drift 61 = .ok (.iaload, 1) := by decide +kernel
theorem dX9_drift_62 : decode cX9_drift 62 = .ok (.invokevirtual 225, 3) := by decide +kernel
theorem dX9_drift_65 : decode cX9_drift 65 = .ok (.istore_n 3, 1) := by decide +kernel
theorem dX9_drift_66 : decode cX9_drift 66 = .ok (.aload_n 0, 1) := by decide +kernel
theorem dX9_drift_67 : decode cX9_drift 67 = .ok (.iload_n 3, 1) := by decide +kernel
theorem dX9_drift_68 : decode cX9_drift 68 = .ok (.invokevirtual 171, 3) := by decide +kernel
theorem dX9_drift_71 : decode cX9_drift 71 = .ok (.ifCond .ne 51, 3) := by decide +kernel
theorem dX9_drift_74 : decode cX9_drift 74 = .ok (.aload_n 0, 1) := by decide +kernel
theorem dX9_drift_75 : decode cX9_drift 75 = .ok (.aload_n 0, 1) := by decide +kernel
theorem dX9_drift_76 : decode cX9_drift 76 = .ok (.getfield 13, 3) := by decide +kernel
theorem dX9_drift_79 : decode cX9_drift 79 = .ok (.iconst 0, 1) := by decide +kernel
theorem dX9_drift_80 : decode cX9_drift 80 = .ok (.iaload, 1) := by decide +kernel
theorem dX9_drift_81 : decode cX9_drift 81 = .ok (.invokevirtual 225, 3) := by decide +kernel
theorem dX9_drift_84 : decode cX9_drift 84 = .ok (.istore 4, 2) := by decide +kernel
theorem dX9_drift_86 : decode cX9_drift 86 = .ok (.aload_n 0, 1) := by decide +kernel
theorem dX9_drift_87 : decode cX9_drift 87 = .ok (.bipush 9, 2) := by decide +kernel
theorem dX9_drift_89 : decode cX9_drift 89 = .ok (.invokevirtual 225, 3) := by decide +kernel
theorem dX9_drift_92 : decode cX9_drift 92 = .ok (.iconst 1, 1) := by decide +kernel
theorem dX9_drift_93 : decode cX9_drift 93 = .ok (.iadd, 1) := by decide +kernel
theorem dX9_drift_94 : decode cX9_drift 94 = .ok (.istore 5, 2) := by decide +kernel
theorem dX9_drift_96 : decode cX9_drift 96 = .ok (.aload_n 0, 1) := by decide +kernel
theorem dX9_drift_97 : decode cX9_drift 97 = .ok (.iload 4, 2) := by decide +kernel
theorem dX9_drift_99 : decode cX9_drift 99 = .ok (.invokevirtual 187, 3) := by decide +kernel
theorem dX9_drift_102 : decode cX9_drift 102 = .ok (.ifCond .eq 20, 3) := by decide +kernel
theorem dX9_drift_105 : decode cX9_drift 105 = .ok (.aload_n 0, 1) := by decide +kernel
theorem dX9_drift_106 : decode cX9_drift 106 = .ok (.iload_n 3, 1) := by decide +kernel
theorem dX9_drift_107 : decode cX9_drift 107 = .ok (.iload 5, 2) := by decide +kernel
theorem dX9_drift_109 : decode cX9_drift 109 = .ok (.iload 5, 2) := by decide +kernel
theorem dX9_drift_111 : decode cX9_drift 111 = .ok (.aload_n 0, 1) := by decide +kernel
theorem dX9_drift_112 : decode cX9_drift 112 = .ok (.getfield 17, 3) := by decide +kernel
theorem dX9_drift_115 : decode cX9_drift 115 = .ok (.iload 4, 2) := by decide +kernel
theorem dX9_drift_117 : decode cX9_drift 117 = .ok (.iaload, 1) := by decide +kernel
theorem dX9_drift_118 : decode cX9_drift 118 = .ok (.imul, 1) := by decide +kernel
theorem dX9_drift_119 : decode cX9_drift 119 = .ok (.invokevirtual 198, 3) := by decide +kernel
theorem dX9_drift_122 : decode cX9_drift 122 = .ok (.aload_n 0, 1) := by decide +kernel
theorem dX9_drift_123 : decode cX9_drift 123 = .ok (.aload_n 0, 1) := by decide +kernel
theorem dX9_drift_124 : decode cX9_drift 124 = .ok (.bipush 60, 2) := by decide +kernel
theorem dX9_drift_126 : decode cX9_drift 126 = .ok (.invokevirtual 225, 3) := by decide +kernel
theorem dX9_drift_129 : decode cX9_drift 129 = .ok (.invokevirtual 211, 3) := by decide +kernel
theorem dX9_drift_132 : decode cX9_drift 132 = .ok (.iinc 2 1, 3) := by decide +kernel
theorem dX9_drift_135 : decode cX9_drift 135 = .ok (.goto (-85), 3) := by decide +kernel
theorem dX9_drift_138 : decode cX9_drift 138 = .ok (.aload_n 0, 1) := by decide +kernel
theorem dX9_drift_139 : decode cX9_drift 139 = .ok (.getfield 50, 3) := by decide +kernel
theorem dX9_drift_142 : decode cX9_drift 142 = .ok (.iconst 0, 1) := by decide +kernel
theorem dX9_drift_143 : decode cX9_drift 143 = .ok (.iaload, 1) := by decide +kernel
theorem dX9_drift_144 : decode cX9_drift 144 = .ok (.ireturn, 1) := by decide +kernel
theorem dX9_index_0 : decode cX9_index 0 = .ok (.bipush 7, 2) := by decide +kernel
theorem dX9_index_2 : decode cX9_index 2 = .ok (.iload_n 0, 1) := by decide +kernel
theorem dX9_index_3 : decode cX9_index 3 = .ok (.imul, 1) := by decide +kernel
theorem dX9_index_4 : decode cX9_index 4 = .ok (.iload_n 1, 1) := by decide +kernel
theorem dX9_index_5 : decode cX9_index 5 = .ok (.iadd, 1) := by decide +kernel
theorem dX9_index_6 : decode cX9_index 6 = .ok (.ireturn, 1) := by decide +kernel
set_option maxRecDepth 20000 in
theorem ggX9_findSpans_X9_index : GoodIn wsX9_findSpans wsX9_index := goodIn_r _ [8] (by decide +kernel) (by decide +kernel)
set_option maxRecDepth 20000 in
theorem gX9_findSpans_X9_index : GoodIn wsX9_findSpans (va_wsS RX9 228 yX9_index wsX9_index) := goodIn_app (goodIn_of _ (by decide +kernel)) ggX9_findSpans_X9_index
set_option maxRecDepth 20000 in
theorem ggX9_findSpans_X9_isStep : GoodIn wsX9_findSpans wsX9_isStep := goodIn_r _ [12, 13, 14, 15, 16, 17, 18, 19, 20, 21, 22, 23, 24, 25, 26, 27, 28, 29, 30, 31, 32, 33, 34, 35, 36, 37, 38, 39, 40, 41, 42, 43, 44, 45, 46, 47, 48, 49, 50, 51] (by decide +kernel) (by decide +kernel)
set_option maxRecDepth 20000 in
theorem gX9_findSpans_X9_isStep : GoodIn wsX9_findSpans (wsV RX9 190 RX9 yX9_isStep wsX9_isStep) := goodIn_app (goodIn_of _ (by decide +kernel)) ggX9_findSpans_X9_isStep
theorem dX9_findSpans_0 : decode cX9_findSpans 0 = .ok (.iconst 1, 1) := by decide +kernel
theorem dX9_findSpans_1 : decode cX9_findSpans 1 = .ok (.istore_n 2, 1) := by decide +kernel
theorem dX9_findSpans_2 : decode cX9_findSpans 2 = .ok (.iload_n 2, 1) := by decide +kernel
theorem dX9_findSpans_3 : decode cX9_findSpans 3 = .ok (.bipush 40, 2) := by decide +kernel
theorem dX9_findSpans_5 : decode cX9_findSpans 5 = .ok (.if_icmp .gt 220, 3) := by decide +kernel
theorem dX9_findSpans_8 : decode cX9_findSpans 8 = .ok (.iconst 0, 1) := by decide +kernel
theorem dX9_findSpans_9 : decode cX9_findSpans 9 = .ok (.istore_n 3, 1) := by decide +kernel
theorem dX9_findSpans_10 : decode cX9_findSpans 10 = .ok (.iload_n 3, 1) := by decide +kernel
theorem dX9_findSpans_11 : decode cX9_findSpans 11 = .ok (.aload_n 0, 1) := by decide +kernel
theorem dX9_findSpans_12 : decode cX9_findSpans 12 = .ok (.getfield 13, 3) := by decide +kernel
theorem dX9_findSpans_15 : decode cX9_findSpans 15 = .ok (.iconst 0, 1) := by decide +kernel
theorem dX9_findSpans_16 : decode cX9_findSpans 16 = .ok (.iaload, 1) := by decide +kernel
theorem dX9_findSpans_17 : decode cX9_findSpans 17 = .ok (.if_icmp .ge 202, 3) := by decide +kernel
theorem dX9_findSpans_20 : decode cX9_findSpans 20 = .ok (.iload_n 2, 1) := by decide +kernel
theorem dX9_findSpans_21 : decode cX9_findSpans 21 = .ok (.iconst 1, 1) := by decide +kernel
theorem dX9_findSpans_22 : decode cX9_findSpans 22 = .ok (.if_icmp .ne 12, 3) := by decide +kernel
theorem dX9_findSpans_25 : decode cX9_findSpans 25 = .ok (.iload_n 3, 1) := by decide +kernel
theorem dX9_findSpans_26 : decode cX9_findSpans 26 = .ok (.iload_n 1, 1) := by decide +kernel
theorem dX9_findSpans_27 : decode cX9_findSpans 27 = .ok (.if_icmp .ne 7, 3) := by decide +kernel
theorem dX9_findSpans_30 : decode cX9_findSpans 30 = .ok (.iconst 0, 1) := by decide +kernel
theorem dX9_findSpans_31 : decode cX9_findSpans 31 = .ok (.goto 4, 3) := by decide +kernel
theorem dX9_findSpans_34 : decode cX9_findSpans 34 = .ok (.iconst (-1), 1) := by decide +kernel
theorem dX9_findSpans_35 : decode cX9_findSpans 35 = .ok (.istore 4, 2) := by decide +kernel
theorem dX9_findSpans_37 : decode cX9_findSpans 37 = .ok (.iload 4, 2) := by decide +kernel
theorem dX9_findSpans_39 : decode cX9_findSpans 39 = .ok (.istore 5, 2) := by decide +kernel
theorem dX9_findSpans_41 : decode cX9_findSpans 41 = .ok (.iconst 0, 1) := by decide +kernel
theorem dX9_findSpans_42 : decode cX9_findSpans 42 = .ok (.istore 6, 2) := by decide +kernel
theorem dX9_findSpans_44 : decode cX9_findSpans 44 = .ok (.iload 6, 2) := by decide +kernel
theorem dX9_findSpans_46 : decode cX9_findSpans 46 = .ok (.aload_n 0, 1) := by decide +kernel
theorem dX9_findSpans_47 : decode cX9_findSpans 47 = .ok (.getfield 13, 3) := by decide +kernel
theorem dX9_findSpans_50 : decode cX9_findSpans 50 = .ok (.iconst 0, 1) := by decide +kernel
theorem dX9_findSpans_51 : decode cX9_findSpans 51 = .ok (.iaload, 1) := by decide +kernel
theorem dX9_findSpans_52 : decode cX9_findSpans 52 = .ok (.if_icmp .ge 103, 3) := by decide +kernel
theorem dX9_findSpans_55 : decode cX9_findSpans 55 = .ok (.iload_n 2, 1) := by decide +kernel
theorem dX9_findSpans_56 : decode cX9_findSpans 56 = .ok (.iconst 1, 1) := by decide +kernel
theorem dX9_findSpans_57 : decode cX9_findSpans 57 = .ok (.if_icmp .le 98, 3) := by decide +kernel
theorem dX9_findSpans_60 : decode cX9_findSpans 60 = .ok (.iload_n 2, 1) := by decide +kernel
theorem dX9_findSpans_61 : decode cX9_findSpans 61 = .ok (.iconst 1, 1) := by decide +kernel
theorem dX9_findSpans_62 : decode cX9_findSpans 62 = .ok (.isub, 1) := by decide +kernel
theorem dX9_findSpans_63 : decode cX9_findSpans 63 = .ok (.iload 6, 2) := by decide +kernel
theorem dX9_findSpans_65 : decode cX9_findSpans 65 = .ok (.invokestatic 228, 3) := by decide +kernel
theorem dX9_findSpans_68 : decode cX9_findSpans 68 = .ok (.istore 7, 2) := by decide +kernel
theorem dX9_findSpans_70 : decode cX9_findSpans 70 = .ok (.aload_n 0, 1) := by decide +kernel
theorem dX9_findSpans_71 : decode cX9_findSpans 71 = .ok (.iload_n 3, 1) := by decide +kernel
theorem dX9_findSpans_72 : decode cX9_findSpans 72 = .ok (.iload 6, 2) := by decide +kernel
theorem dX9_findSpans_74 : decode cX9_findSpans 74 = .ok (.invokevirtual 190, 3) := by decide +kernel
theorem dX9_findSpans_77 : decode cX9_findSpans 77 = .ok (.ifCond .eq 72, 3) := by decide +kernel
theorem dX9_findSpans_80 : decode cX9_findSpans 80 = .ok (.aload_n 0, 1) := by decide +kernel
theorem dX9_findSpans_81 : decode cX9_findSpans 81 = .ok (.getfield 63, 3) := by decide +kernel
theorem dX9_findSpans_84 : decode cX9_findSpans 84 = .ok (.iload 7, 2) := by decide +kernel
theorem dX9_findSpans_86 : decode cX9_findSpans 86 = .ok (.iaload, 1) := by decide +kernel
theorem dX9_findSpans_87 : decode cX9_findSpans 87 = .ok (.iconst (-1), 1) := by decide +kernel
theorem dX9_findSpans_88 : decode cX9_findSpans 88 = .ok (.if_icmp .eq 61, 3) := by decide +kernel
theorem dX9_findSpans_91 : decode cX9_findSpans 91 = .ok (.iload 4, 2) := by decide +kernel
theorem dX9_findSpans_93 : decode cX9_findSpans 93 = .ok (.iconst (-1), 1) := by decide +kernel
theorem dX9_findSpans_94 : decode cX9_findSpans 94 = .ok (.if_icmp .eq 15, 3) := by decide +kernel
theorem dX9_findSpans_97 : decode cX9_findSpans 97 = .ok (.aload_n 0, 1) := by decide +kernel
theorem dX9_findSpans_98 : decode cX9_findSpans 98 = .ok (.getfield 60, 3) := by decide +kernel
theorem dX9_findSpans_101 : decode cX9_findSpans 101 = .ok (.iload 7, 2) := by decide +kernel
theorem dX9_findSpans_103 : decode cX9_findSpans 103 = .ok (.iaload, 1) := by decide +kernel
theorem dX9_findSpans_104 : decode cX9_findSpans 104 = .ok (.iload 4, 2) := by decide +kernel
theorem dX9_findSpans_106 : decode cX9_findSpans 106 = .ok (.if_icmp .ge 13, 3) := by decide +kernel
theorem dX9_findSpans_109 : decode cX9_findSpans 109 = .ok (.aload_n 0, 1) := by decide +kernel
theorem dX9_findSpans_110 : decode cX9_findSpans 110 = .ok (.getfield 60, 3) := by decide +kernel
theorem dX9_findSpans_113 : decode cX9_findSpans 113 = .ok (.iload 7, 2) := by decide +kernel
theorem dX9_findSpans_115 : decode cX9_findSpans 115 = .ok (.iaload, 1) := by decide +kernel
theorem dX9_findSpans_116 : decode cX9_findSpans 116 = .ok (.goto 5, 3) := by decide +kernel
theorem dX9_findSpans_119 : decode cX9_findSpans 119 = .ok (.iload 4, 2) := by decide +kernel
theorem dX9_findSpans_121 : decode cX9_findSpans 121 = .ok (.istore 4, 2) := by decide +kernel
theorem dX9_findSpans_123 : decode cX9_findSpans 123 = .ok (.aload_n 0, 1) := by decide +kernel
theorem dX9_findSpans_124 : decode cX9_findSpans 124 = .ok (.getfield 63, 3) := by decide +kernel
theorem dX9_findSpans_127 : decode cX9_findSpans 127 = .ok (.iload 7, 2) := by decide +kernel
theorem dX9_findSpans_129 : decode cX9_findSpans 129 = .ok (.iaload, 1) := by decide +kernel
theorem dX9_findSpans_130 : decode cX9_findSpans 130 = .ok (.iload 5, 2) := by decide +kernel
theorem dX9_findSpans_132 : decode cX9_findSpans 132 = .ok (.if_icmp .le 13, 3) := by decide +kernel
theorem dX9_findSpans_135 : decode cX9_findSpans 135 = .ok (.aload_n 0, 1) := by decide +kernel
theorem dX9_findSpans_136 : decode cX9_findSpans 136 = .ok (.getfield 63, 3) := by decide +kernel
theorem dX9_findSpans_139 : decode cX9_findSpans 139 = .ok (.iload 7, 2) := by decide +kernel
theorem dX9_findSpans_141 : decode cX9_findSpans 141 = .ok (.iaload, 1) := by decide +kernel
theorem dX9_findSpans_142 : decode cX9_findSpans 142 = .ok (.goto 5, 3) := by decide +kernel
theorem dX9_findSpans_145 : decode cX9_findSpans 145 = .ok (.iload 5, 2) := by decide +kernel
theorem dX9_findSpans_147 : decode cX9_findSpans 147 = .ok (.istore 5, 2) := by decide +kernel
theorem dX9_findSpans_149 : decode cX9_findSpans 149 = .ok (.iinc 6 1, 3) := by decide +kernel
theorem dX9_findSpans_152 : decode cX9_findSpans 152 = .ok (.goto (-108), 3) := by decide +kernel
theorem dX9_findSpans_155 : decode cX9_findSpans 155 = .ok (.aload_n 0, 1) := by decide +kernel
theorem dX9_findSpans_156 : decode cX9_findSpans 156 = .ok (.getfield 60, 3) := by decide +kernel
theorem dX9_findSpans_159 : decode cX9_findSpans 159 = .ok (.iload_n 2, 1) := by decide +kernel
theorem dX9_findSpans_160 : decode cX9_findSpans 160 = .ok (.iload_n 3, 1) := by decide +kernel
theorem dX9_findSpans_161 : decode cX9_findSpans 161 = .ok (.invokestatic 228, 3) := by decide +kernel
theorem dX9_findSpans_164 : decode cX9_findSpans 164 = .ok (.iload 5, 2) := by decide +kernel
theorem dX9_findSpans_166 : decode cX9_findSpans 166 = .ok (.iconst (-1), 1) := by decide +kernel
theorem dX9_findSpans_167 : decode cX9_findSpans 167 = .ok (.if_icmp .ne 7, 3) := by decide +kernel
theorem dX9_findSpans_170 : decode cX9_findSpans 170 = .ok (.iconst (-1), 1) := by decide +kernel
theorem dX9_findSpans_171 : decode cX9_findSpans 171 = .ok (.goto 12, 3) := by decide +kernel
theorem dX9_findSpans_174 : decode cX9_findSpans 174 = .ok (.iload 4, 2) := by decide +kernel
theorem dX9_findSpans_176 : decode cX9_findSpans 176 = .ok (.aload_n 0, 1) := by decide +kernel
theorem dX9_findSpans_177 : decode cX9_findSpans 177 = .ok (.getfield 17, 3) := by decide +kernel
theorem dX9_findSpans_180 : decode cX9_findSpans 180 = .ok (.iload_n 3, 1) := by decide +kernel
theorem dX9_findSpans_181 : decode cX9_findSpans 181 = .ok (.iaload, 1) := by decide +kernel
theorem dX9_findSpans_182 : decode cX9_findSpans 182 = .ok (.iadd, 1) := by decide +kernel
theorem dX9_findSpans_183 : decode cX9_findSpans 183 = .ok (.iastore, 1) := by decide +kernel
theorem dX9_findSpans_184 : decode cX9_findSpans 184 = .ok (.aload_n 0, 1) := by decide +kernel
theorem dX9_findSpans_185 : decode cX9_findSpans 185 = .ok (.getfield 63, 3) := by decide +kernel
theorem dX9_findSpans_188 : decode cX9_findSpans 188 = .ok (.iload_n 2, 1) := by decide +kernel
theorem dX9_findSpans_189 : decode cX9_findSpans 189 = .ok (.iload_n 3, 1) := by decide +kernel
theorem dX9_findSpans_190 : decode cX9_findSpans 190 = .ok (.invokestatic 228, 3) := by decide +kernel
theorem dX9_findSpans_193 : decode cX9_findSpans 193 = .ok (.iload 5, 2) := by decide +kernel
theorem dX9_findSpans_195 : decode cX9_findSpans 195 = .ok (.iconst (-1), 1) := by decide +kernel
theorem dX9_findSpans_196 : decode cX9_findSpans 196 = .ok (.if_icmp .ne 7, 3) := by decide +kernel
theorem dX9_findSpans_199 : decode cX9_findSpans 199 = .ok (.iconst (-1), 1) := by decide +kernel
theorem dX9_findSpans_200 : decode cX9_findSpans 200 = .ok (.goto 12, 3) := by decide +kernel
theorem dX9_findSpans_203 : decode cX9_findSpans 203 = .ok (.iload 5, 2) := by decide +kernel
theorem dX9_findSpans_205 : decode cX9_findSpans 205 = .ok (.aload_n 0, 1) := by decide +kernel
theorem dX9_findSpans_206 : decode cX9_findSpans 206 = .ok (.getfield 17, 3) := by decide +kernel
theorem dX9_findSpans_209 : decode cX9_findSpans 209 = .ok (.iload_n 3, 1) := by decide +kernel
theorem dX9_findSpans_210 : decode cX9_findSpans 210 = .ok (.iaload, 1) := by decide +kernel
theorem dX9_findSpans_211 : decode cX9_findSpans 211 = .ok (.iadd, 1) := by decide +kernel
theorem dX9_findSpans_212 : decode cX9_findSpans 212 = .ok (.iastore, 1) := by decide +kernel
theorem dX9_findSpans_213 : decode cX9_findSpans 213 = .ok (.iinc 3 1, 3) := by decide +kernel
theorem dX9_findSpans_216 : decode cX9_findSpans 216 = .ok (.goto (-206), 3) := by decide +kernel
theorem dX9_findSpans_219 : decode cX9_findSpans 219 = .ok (.iinc 2 1, 3) := by decide +kernel
theorem dX9_findSpans_222 : decode cX9_findSpans 222 = .ok (.goto (-220), 3) := by decide +kernel
theorem dX9_findSpans_225 : decode cX9_findSpans 225 = .ok (.return_, 1) := by decide +kernel
set_option maxRecDepth 20000 in
theorem ggX9_isAble_X9_in : GoodIn wsX9_isAble wsX9_in := goodIn_r _ [5] (by decide +kernel) (by decide +kernel)
set_option maxRecDepth 20000 in
theorem gX9_isAble_X9_in : GoodIn wsX9_isAble (va_wsS RX9 95 yX9_in wsX9_in) := goodIn_app (goodIn_of _ (by decide +kernel)) ggX9_isAble_X9_in
set_option maxRecDepth 20000 in
theorem ggX9_isAble_X9_index : GoodIn wsX9_isAble wsX9_index := goodIn_r _ [8] (by decide +kernel) (by decide +kernel)
set_option maxRecDepth 20000 in
theorem gX9_isAble_X9_index : GoodIn wsX9_isAble (va_wsS RX9 228 yX9_index wsX9_index) := goodIn_app (goodIn_of _ (by decide +kernel)) ggX9_isAble_X9_index
theorem dX9_isAble_0 : decode cX9_isAble 0 = .ok (.iload_n 3, 1) := by decide +kernel
theorem dX9_isAble_1 : decode cX9_isAble 1 = .ok (.iconst 0, 1) := by decide +kernel
theorem dX9_isAble_2 : decode cX9_isAble 2 = .ok (.sipush 6000, 3) := by decide +kernel
theorem dX9_isAble_5 : decode cX9_isAble 5 = .ok (.invokestatic 95, 3) := by decide +kernel
theorem dX9_isAble_8 : decode cX9_isAble 8 = .ok (.ifCond .eq 37, 3) := by decide +kernel
theorem dX9_isAble_11 : decode cX9_isAble 11 = .ok (.aload_n 0, 1) := by decide +kernel
theorem dX9_isAble_12 : decode cX9_isAble 12 = .ok (.getfield 66, 3) := by decide +kernel
theorem dX9_isAble_15 : decode cX9_isAble 15 = .ok (.bipush 94, 2) := by decide +kernel
theorem dX9_isAble_17 : decode cX9_isAble 17 = .ok (.iload_n 1, 1) := by decide +kernel
theorem dX9_isAble_18 : decode cX9_isAble 18 = .ok (.iload_n 2, 1) := by decide +kernel
theorem dX9_isAble_19 : decode cX9_isAble 19 = .ok (.invokestatic 228, 3) := by decide +kernel
theorem dX9_isAble_22 : decode cX9_isAble 22 = .ok (.imul, 1) := by decide +kernel
theorem dX9_isAble_23 : decode cX9_isAble 23 = .ok (.iload_n 3, 1) := by decide +kernel
theorem dX9_isAble_24 : decode cX9_isAble 24 = .ok (.bipush 64, 2) := by decide +kernel
theorem dX9_isAble_26 : decode cX9_isAble 26 = .ok (.idiv, 1) := by decide +kernel
theorem dX9_isAble_27 : decode cX9_isAble 27 = .ok (.iadd, 1) := by decide +kernel
theorem dX9_isAble_28 : decode cX9_isAble 28 = .ok (.laload, 1) := by decide +kernel
theorem dX9_isAble_29 : decode cX9_isAble 29 = .ok (.iload_n 3, 1) := by decide +kernel
theorem dX9_isAble_30 : decode cX9_isAble 30 = .ok (.bipush 64, 2) := by decide +kernel
theorem dX9_isAble_32 : decode cX9_isAble 32 = .ok (.irem, 1) := by decide +kernel
theorem dX9_isAble_33 : decode cX9_isAble 33 = .ok (.lshr, 1) := by decide +kernel
theorem dX9_isAble_34 : decode cX9_isAble 34 = .ok (.lconst 1, 1) := by decide +kernel
theorem dX9_isAble_35 : decode cX9_isAble 35 = .ok (.land, 1) := by decide +kernel
theorem dX9_isAble_36 : decode cX9_isAble 36 = .ok (.lconst 1, 1) := by decide +kernel
theorem dX9_isAble_37 : decode cX9_isAble 37 = .ok (.lcmp, 1) := by decide +kernel
theorem dX9_isAble_38 : decode cX9_isAble 38 = .ok (.ifCond .ne 7, 3) := by decide +kernel
theorem dX9_isAble_41 : decode cX9_isAble 41 = .ok (.iconst 1, 1) := by decide +kernel
theorem dX9_isAble_42 : decode cX9_isAble 42 = .ok (.goto 4, 3) := by decide +kernel
theorem dX9_isAble_45 : decode cX9_isAble 45 = .ok (.iconst 0, 1) := by decide +kernel
theorem dX9_isAble_46 : decode cX9_isAble 46 = .ok (.ireturn, 1) := by decide +kernel
set_option maxRecDepth 20000 in
theorem ggX9_findTimes_X9_index : GoodIn wsX9_findTimes wsX9_index := goodIn_r _ [7] (by decide +kernel) (by decide +kernel)
set_option maxRecDepth 20000 in
theorem gX9_findTimes_X9_index : GoodIn wsX9_findTimes (va_wsS RX9 228 yX9_index wsX9_index) := goodIn_app (goodIn_of _ (by decide +kernel)) ggX9_findTimes_X9_index
set_option maxRecDepth 20000 in
theorem ggX9_findTimes_X9_isStep : GoodIn wsX9_findTimes wsX9_isStep := goodIn_r _ [11, 12, 17, 18, 19, 20, 21, 22, 23, 24, 25, 26, 27, 28, 29, 30, 31, 32, 33, 34, 35, 36, 37, 38, 39, 40, 41, 42, 43, 44, 45, 46, 47, 48, 49, 50, 51, 52, 53, 54] (by decide +kernel) (by decide +kernel)
set_option maxRecDepth 20000 in
theorem gX9_findTimes_X9_isStep : GoodIn wsX9_findTimes (wsV RX9 190 RX9 yX9_isStep wsX9_isStep) := goodIn_app (goodIn_of _ (by decide +kernel)) ggX9_findTimes_X9_isStep
set_option maxRecDepth 20000 in
theorem ggX9_findTimes_X9_addShifted : GoodIn wsX9_findTimes wsX9_addShifted := goodIn_r _ [16, 2, 17, 18, 19, 20, 21, 22, 23, 24, 25, 26, 27, 28, 29, 30, 31, 32, 33, 34, 35, 36, 37, 38, 39, 40, 41, 42, 43, 44, 45, 46, 47, 48, 49, 50, 51, 52, 53, 54] (by decide +kernel) (by decide +kernel)
set_option maxRecDepth 20000 in
theorem gX9_findTimes_X9_addShifted : GoodIn wsX9_findTimes (wsV RX9 231 RX9 yX9_addShifted wsX9_addShifted) := goodIn_app (goodIn_of _ (by decide +kernel)) ggX9_findTimes_X9_addShifted
theorem dX9_findTimes_0 : decode cX9_findTimes 0 = .ok (.iconst 0, 1) := by decide +kernel
theorem dX9_findTimes_1 : decode cX9_findTimes 1 = .ok (.istore_n 3, 1) := by decide +kernel
theorem dX9_findTimes_2 : decode cX9_findTimes 2 = .ok (.iload_n 3, 1) := by decide +kernel
theorem dX9_findTimes_3 : decode cX9_findTimes 3 = .ok (.aload_n 0, 1) := by decide +kernel
theorem dX9_findTimes_4 : decode cX9_findTimes 4 = .ok (.getfield 13, 3) := by decide +kernel
theorem dX9_findTimes_7 : decode cX9_findTimes 7 = .ok (.iconst 0, 1) := by decide +kernel
theorem dX9_findTimes_8 : decode cX9_findTimes 8 = .ok (.iaload, 1) := by decide +kernel
theorem dX9_findTimes_9 : decode cX9_findTimes 9 = .ok (.if_icmp .ge 143, 3) := by decide +kernel
theorem dX9_findTimes_12 : decode cX9_findTimes 12 = .ok (.bipush 94, 2) := by decide +kernel
theorem dX9_findTimes_14 : decode cX9_findTimes 14 = .ok (.iload_n 1, 1) := by decide +kernel
theorem dX9_findTimes_15 : decode cX9_findTimes 15 = .ok (.iload_n 3, 1) := by decide +kernel
theorem dX9_findTimes_16 : decode cX9_findTimes 16 = .ok (.invokestatic 228, 3) := by decide +kernel
theorem dX9_findTimes_19 : decode cX9_findTimes 19 = .ok (.imul, 1) := by decide +kernel
theorem dX9_findTimes_20 : decode cX9_findTimes 20 = .ok (.istore 4, 2) := by decide +kernel
theorem dX9_findTimes_22 : decode cX9_findTimes 22 = .ok (.iconst 0, 1) := by decide +kernel
theorem dX9_findTimes_23 : decode cX9_findTimes 23 = .ok (.istore 5, 2) := by decide +kernel
theorem dX9_findTimes_25 : decode cX9_findTimes 25 = .ok (.iload 5, 2) := by decide +kernel
theorem dX9_findTimes_27 : decode cX9_findTimes 27 = .ok (.bipush 94, 2) := by decide +kernel
theorem dX9_findTimes_29 : decode cX9_findTimes 29 = .ok (.if_icmp .ge 20, 3) := by decide +kernel
theorem dX9_findTimes_32 : decode cX9_findTimes 32 = .ok (.aload_n 0, 1) := by decide +kernel
theorem dX9_findTimes_33 : decode cX9_findTimes 33 = .ok (.getfield 66, 3) := by decide +kernel
theorem dX9_findTimes_36 : decode cX9_findTimes 36 = .ok (.iload 4, 2) := by decide +kernel
theorem dX9_findTimes_38 : decode cX9_findTimes 38 = .ok (.iload 5, 2) := by decide +kernel
theorem dX9_findTimes_40 : decode cX9_findTimes 40 = .ok (.iadd, 1) := by decide +kernel
theorem dX9_findTimes_41 : decode cX9_findTimes 41 = .ok (.lconst 0, 1) := by decide +kernel
theorem dX9_findTimes_42 : decode cX9_findTimes 42 = .ok (.lastore, 1) := by decide +kernel
theorem dX9_findTimes_43 : decode cX9_findTimes 43 = .ok (.iinc 5 1, 3) := by decide +kernel
theorem dX9_findTimes_46 : decode cX9_findTimes 46 = .ok (.goto (-21), 3) := by decide +kernel
theorem dX9_findTimes_49 : decode cX9_findTimes 49 = .ok (.iload_n 1, 1) := by decide +kernel
theorem dX9_findTimes_50 : decode cX9_findTimes 50 = .ok (.iconst 1, 1) := by decide +kernel
theorem dX9_findTimes_51 : decode cX9_findTimes 51 = .ok (.if_icmp .ne 42, 3) := by decide +kernel
theorem dX9_findTimes_54 : decode cX9_findTimes 54 = .ok (.iload_n 3, 1) := by decide +kernel
theorem dX9_findTimes_55 : decode cX9_findTimes 55 = .ok (.iload_n 2, 1) := by decide +kernel
theorem dX9_findTimes_56 : decode cX9_findTimes 56 = .ok (.if_icmp .ne 90, 3) := by decide +kernel
theorem dX9_findTimes_59 : decode cX9_findTimes 59 = .ok (.aload_n 0, 1) := by decide +kernel
theorem dX9_findTimes_60 : decode cX9_findTimes 60 = .ok (.getfield 66, 3) := by decide +kernel
theorem dX9_findTimes_63 : decode cX9_findTimes 63 = .ok (.iload 4, 2) := by decide +kernel
theorem dX9_findTimes_65 : decode cX9_findTimes 65 = .ok (.aload_n 0, 1) := by decide +kernel
theorem dX9_findTimes_66 : decode cX9_findTimes 66 = .ok (.getfield 17, 3) := by decide +kernel
theorem dX9_findTimes_69 : decode cX9_findTimes 69 = .ok (.iload_n 3, 1) := by decide +kernel
theorem dX9_findTimes_70 : decode cX9_findTimes 70 = .ok (.iaload, 1) := by decide +kernel
theorem dX9_findTimes_71 : decode cX9_findTimes 71 = .ok (.bipush 64, 2) := by decide +kernel
theorem dX9_findTimes_73 : decode cX9_findTimes 73 = .ok (.idiv, 1) := by decide +kernel
theorem dX9_findTimes_74 : decode cX9_findTimes 74 = .ok (.iadd, 1) := by decide +kernel
theorem dX9_findTimes_75 : decode cX9_findTimes 75 = .ok (.dup2, 1) := by decide +kernel
theorem dX9_findTimes_76 : decode cX9_findTimes 76 = .ok (.laload, 1) := by decide +kernel
theorem dX9_findTimes_77 : decode cX9_findTimes 77 = .ok (.lconst 1, 1) := by decide +kernel
theorem dX9_findTimes_78 : decode cX9_findTimes 78 = .ok (.aload_n 0, 1) := by decide +kernel
theorem dX9_findTimes_79 : decode cX9_findTimes 79 = .ok (.getfield 17, 3) := by decide +kernel
theorem dX9_findTimes_82 : decode cX9_findTimes 82 = .ok (.iload_n 3, 1) := by decide +kernel
theorem dX9_findTimes_83 : decode cX9_findTimes 83 = .ok (.iaload, 1) := by decide +kernel
theorem dX9_findTimes_84 : decode cX9_findTimes 84 = .ok (.bipush 64, 2) := by decide +kernel
theorem dX9_findTimes_86 : decode cX9_findTimes 86 = .ok (.irem, 1) := by decide +kernel
theorem dX9_findTimes_87 : decode cX9_findTimes 87 = .ok (.lshl, 1) := by decide +kernel
theorem dX9_findTimes_88 : decode cX9_findTimes 88 = .ok (.lor, 1) := by decide +kernel
theorem dX9_findTimes_89 : decode cX9_findTimes 89 = .ok (.lastore, 1) := by decide +kernel
theorem dX9_findTimes_90 : decode cX9_findTimes 90 = .ok (.goto 56, 3) := by decide +kernel
theorem dX9_findTimes_93 : decode cX9_findTimes 93 = .ok (.iconst 0, 1) := by decide +kernel
theorem dX9_findTimes_94 : decode cX9_findTimes 94 = .ok (.istore 5, 2) := by decide +kernel
theorem dX9_findTimes_96 : decode cX9_findTimes 96 = .ok (.iload 5, 2) := by decide +kernel
theorem dX9_findTimes_98 : decode cX9_findTimes 98 = .ok (.aload_n 0, 1) := by decide +kernel
theorem dX9_findTimes_99 : decode cX9_findTimes 99 = .ok (.getfield 13, 3) := by decide +kernel
theorem dX9_findTimes_102 : decode cX9_findTimes 102 = .ok (.iconst 0, 1) := by decide +kernel
theorem dX9_findTimes_103 : decode cX9_findTimes 103 = .ok (.iaload, 1) := by decide +kernel
theorem dX9_findTimes_104 : decode cX9_findTimes 104 = .ok (.if_icmp .ge 42, 3) := by decide +kernel
theorem dX9_findTimes_107 : decode cX9_findTimes 107 = .ok (.aload_n 0, 1) := by decide +kernel
theorem dX9_findTimes_108 : decode cX9_findTimes 108 = .ok (.iload_n 3, 1) := by decide +kernel
theorem dX9_findTimes_109 : decode cX9_findTimes 109 = .ok (.iload 5, 2) := by decide +kernel
theorem dX9_findTimes_111 : decode cX9_findTimes 111 = .ok (.invokevirtual 190, 3) := by decide +kernel
theorem dX9_findTimes_114 : decode cX9_findTimes 114 = .ok (.ifCond .eq 26, 3) := by decide +kernel
theorem dX9_findTimes_117 : decode cX9_findTimes 117 = .ok (.aload_n 0, 1) := by decide +kernel
theorem dX9_findTimes_118 : decode cX9_findTimes 118 = .ok (.iload 4, 2) := by decide +kernel
theorem dX9_findTimes_120 : decode cX9_findTimes 120 = .ok (.bipush 94, 2) := by decide +kernel
theorem dX9_findTimes_122 : decode cX9_findTimes 122 = .ok (.iload_n 1, 1) := by decide +kernel
theorem dX9_findTimes_123 : decode cX9_findTimes 123 = .ok (.iconst 1, 1) := by decide +kernel
theorem dX9_findTimes_124 : decode cX9_findTimes 124 = .ok (.isub, 1) := by decide +kernel
theorem dX9_findTimes_125 : decode cX9_findTimes 125 = .ok (.iload 5, 2) := by decide +kernel
theorem dX9_findTimes_127 : decode cX9_findTimes 127 = .ok (.invokestatic 228, 3) := by decide +kernel
theorem dX9_findTimes_130 : decode cX9_findTimes 130 = .ok (.imul, 1) := by decide +kernel
theorem dX9_findTimes_131 : decode cX9_findTimes 131 = .ok (.aload_n 0, 1) := by decide +kernel
theorem dX9_findTimes_132 : decode cX9_findTimes 132 = .ok (.getfield 17, 3) := by decide +kernel
theorem dX9_findTimes_135 : decode cX9_findTimes 135 = .ok (.iload_n 3, 1) := by decide +kernel
theorem dX9_findTimes_136 : decode cX9_findTimes 136 = .ok (.iaload, 1) := by decide +kernel
theorem dX9_findTimes_137 : decode cX9_findTimes 137 = .ok (.invokevirtual 231, 3) := by decide +kernel
theorem dX9_findTimes_140 : decode cX9_findTimes 140 = .ok (.iinc 5 1, 3) := by decide +kernel
theorem dX9_findTimes_143 : decode cX9_findTimes 143 = .ok (.goto (-47), 3) := by decide +kernel
theorem dX9_findTimes_146 : decode cX9_findTimes 146 = .ok (.iinc 3 1, 3) := by decide +kernel
theorem dX9_findTimes_149 : decode cX9_findTimes 149 = .ok (.goto (-147), 3) := by decide +kernel
theorem dX9_findTimes_152 : decode cX9_findTimes 152 = .ok (.return_, 1) := by decide +kernel
theorem dX9_addShifted_0 : decode cX9_addShifted 0 = .ok (.iload_n 3, 1) := by decide +kernel
theorem dX9_addShifted_1 : decode cX9_addShifted 1 = .ok (.bipush 64, 2) := by decide +kernel
theorem dX9_addShifted_3 : decode cX9_addShifted 3 = .ok (.idiv, 1) := by decide +kernel
theorem dX9_addShifted_4 : decode cX9_addShifted 4 = .ok (.istore 4, 2) := by decide +kernel
theorem dX9_addShifted_6 : decode cX9_addShifted 6 = .ok (.iload_n 3, 1) := by decide +kernel
theorem dX9_addShifted_7 : decode cX9_addShifted 7 = .ok (.bipush 64, 2) := by decide +kernel
theorem dX9_addShifted_9 : decode cX9_addShifted 9 = .ok (.irem, 1) := by decide +kernel
theorem dX9_addShifted_10 : decode cX9_addShifted 10 = .ok (.istore 5, 2) := by decide +kernel
theorem dX9_addShifted_12 : decode cX9_addShifted 12 = .ok (.bipush 93, 2) := by decide +kernel
theorem dX9_addShifted_14 : decode cX9_addShifted 14 = .ok (.istore 6, 2) := by decide +kernel
theorem dX9_addShifted_16 : decode cX9_addShifted 16 = .ok (.iload 6, 2) := by decide +kernel
theorem dX9_addShifted_18 : decode cX9_addShifted 18 = .ok (.iload 4, 2) := by decide +kernel
theorem dX9_addShifted_20 : decode cX9_addShifted 20 = .ok (.if_icmp .lt 77, 3) := by decide +kernel
theorem dX9_addShifted_23 : decode cX9_addShifted 23 = .ok (.aload_n 0, 1) := by decide +kernel
theorem dX9_addShifted_24 : decode cX9_addShifted 24 = .ok (.getfield 66, 3) := by decide +kernel
theorem dX9_addShifted_27 : decode cX9_addShifted 27 = .ok (.iload_n 2, 1) := by decide +kernel
theorem dX9_addShifted_28 : decode cX9_addShifted 28 = .ok (.iload 6, 2) := by decide +kernel
theorem dX9_addShifted_30 : decode cX9_addShifted 30 = .ok (.iadd, 1) := by decide +kernel
theorem dX9_addShifted_31 : decode cX9_addShifted 31 = .ok (.iload 4, 2) := by decide +kernel
theorem dX9_addShifted_33 : decode cX9_addShifted 33 = .ok (.isub, 1) := by decide +kernel
theorem dX9_addShifted_34 : decode cX9_addShifted 34 = .ok (.laload, 1) := by decide +kernel
theorem dX9_addShifted_35 : decode cX9_addShifted 35 = .ok (.iload 5, 2) := by decide +kernel
theorem dX9_addShifted_37 : decode cX9_addShifted 37 = .ok (.lshl, 1) := by decide +kernel
theorem dX9_addShifted_38 : decode cX9_addShifted 38 = .ok (.lstore 7, 2) := by decide +kernel
theorem dX9_addShifted_40 : decode cX9_addShifted 40 = .ok (.iload 5, 2) := by decide +kernel
theorem dX9_addShifted_42 : decode cX9_addShifted 42 = .ok (.ifCond .le 35, 3) := by decide +kernel
theorem dX9_addShifted_45 : decode cX9_addShifted 45 = .ok (.iload 6, 2) := by decide +kernel
theorem dX9_addShifted_47 : decode cX9_addShifted 47 = .ok (.iload 4, 2) := by decide +kernel
theorem dX9_addShifted_49 : decode cX9_addShifted 49 = .ok (.if_icmp .le 28, 3) := by decide +kernel
theorem dX9_addShifted_52 : decode cX9_addShifted 52 = .ok (.lload 7, 2) := by decide +kernel
theorem dX9_addShifted_54 : decode cX9_addShifted 54 = .ok (.aload_n 0, 1) := by decide +kernel
theorem dX9_addShifted_55 : decode cX9_addShifted 55 = .ok (.getfield 66, 3) := by decide +kernel
theorem dX9_addShifted_58 : decode cX9_addShifted 58 = .ok (.iload_n 2, 1) := by decide +kernel
theorem dX9_addShifted_59 : decode cX9_addShifted 59 = .ok (.iload 6, 2) := by decide +kernel
theorem dX9_addShifted_61 : decode cX9_addShifted 61 = .ok (.iadd, 1) := by decide +kernel
theorem dX9_addShifted_62 : decode cX9_addShifted 62 = .ok (.iload 4, 2) := by decide +kernel
theorem dX9_addShifted_64 : decode cX9_addShifted 64 = .ok (.isub, 1) := by decide +kernel
theorem dX9_addShifted_65 : decode cX9_addShifted 65 = .ok (.iconst 1, 1) := by decide +kernel
theorem dX9_addShifted_66 : decode cX9_addShifted 66 = .ok (.isub, 1) := by decide +kernel
theorem dX9_addShifted_67 : decode cX9_addShifted 67 = .ok (.laload, 1) := by decide +kernel
theorem dX9_addShifted_68 : decode cX9_addShifted 68 = .ok (.bipush 64, 2) := by decide +kernel
theorem dX9_addShifted_70 : decode cX9_addShifted 70 = .ok (.iload 5, 2) := by decide +kernel
theorem dX9_addShifted_72 : decode cX9_addShifted 72 = .ok (.isub, 1) := by decide +kernel
theorem dX9_addShifted_73 : decode cX9_addShifted 73 = .ok (.lushr, 1) := by decide +kernel
theorem dX9_addShifted_74 : decode cX9_addShifted 74 = .ok (.lor, 1) := by decide +kernel
theorem dX9_addShifted_75 : decode cX9_addShifted 75 = .ok (.lstore 7, 2) := by decide +kernel
theorem dX9_addShifted_77 : decode cX9_addShifted 77 = .ok (.aload_n 0, 1) := by decide +kernel
theorem dX9_addShifted_78 : decode cX9_addShifted 78 = .ok (.getfield 66, 3) := by decide +kernel
theorem dX9_addShifted_81 : decode cX9_addShifted 81 = .ok (.iload_n 1, 1) := by decide +kernel
theorem dX9_addShifted_82 : decode cX9_addShifted 82 = .ok (.iload 6, 2) := by decide +kernel
theorem dX9_addShifted_84 : decode cX9_addShifted 84 = .ok (.iadd, 1) := by decide +kernel
theorem dX9_addShifted_85 : decode cX9_addShifted 85 = .ok (.dup2, 1) := by decide +kernel
theorem dX9_addShifted_86 : decode cX9_addShifted 86 = .ok (.laload, 1) := by decide +kernel
theorem dX9_addShifted_87 : decode cX9_addShifted 87 = .ok (.lload 7, 2) := by decide +kernel
theorem dX9_addShifted_89 : decode cX9_addShifted 89 = .ok (.lor, 1) := by decide +kernel
theorem dX9_addShifted_90 : decode cX9_addShifted 90 = .ok (.lastore, 1) := by decide +kernel
theorem dX9_addShifted_91 : decode cX9_addShifted 91 = .ok (.iinc 6 (-1), 3) := by decide +kernel
theorem dX9_addShifted_94 : decode cX9_addShifted 94 = .ok (.goto (-78), 3) := by decide +kernel
theorem dX9_addShifted_97 : decode cX9_addShifted 97 = .ok (.return_, 1) := by decide +kernel
set_option maxRecDepth 20000 in
theorem ggX9_findStay_X9_findSpans : GoodIn wsX9_findStay wsX9_findSpans := goodIn_r _ [8, 9, 1, 10, 3, 11, 12, 7, 13, 14, 15, 16, 17, 18, 35, 36, 37, 38, 39, 40, 41, 42, 43, 44, 45, 46, 47, 48, 49, 50, 51, 52, 53, 54, 55, 56, 57, 58, 59, 60, 61, 62, 63, 64, 65, 66, 67, 68, 69, 70, 71, 72] (by decide +kernel) (by decide +kernel)
set_option maxRecDepth 20000 in
theorem gX9_findStay_X9_findSpans : GoodIn wsX9_findStay (wsV RX9 234 RX9 yX9_findSpans wsX9_findSpans) := goodIn_app (goodIn_of _ (by decide +kernel)) ggX9_findStay_X9_findSpans
set_option maxRecDepth 20000 in
theorem ggX9_findStay_X9_index : GoodIn wsX9_findStay wsX9_index := goodIn_r _ [13] (by decide +kernel) (by decide +kernel)
set_option maxRecDepth 20000 in
theorem gX9_findStay_X9_index : GoodIn wsX9_findStay (va_wsS RX9 228 yX9_index wsX9_index) := goodIn_app (goodIn_of _ (by decide +kernel)) ggX9_findStay_X9_index
set_option maxRecDepth 20000 in
theorem ggX9_findStay_X9_findTimes : GoodIn wsX9_findStay wsX9_findTimes := goodIn_r _ [22, 9, 23, 3, 11, 12, 7, 13, 14, 15, 16, 17, 18, 24, 25, 26, 27, 35, 36, 37, 38, 39, 40, 41, 42, 43, 44, 45, 46, 47, 48, 49, 50, 51, 52, 53, 54, 55, 56, 57, 58, 59, 60, 61, 62, 63, 64, 65, 66, 67, 68, 69, 70, 71, 72] (by decide +kernel) (by decide +kernel)
set_option maxRecDepth 20000 in
theorem gX9_findStay_X9_findTimes : GoodIn wsX9_findStay (wsV RX9 237 RX9 yX9_findTimes wsX9_findTimes) := goodIn_app (goodIn_of _ (by decide +kernel)) ggX9_findStay_X9_findTimes
set_option maxRecDepth 20000 in
theorem ggX9_findStay_X9_isAble : GoodIn wsX9_findStay wsX9_isAble := goodIn_r _ [31, 23, 32, 33, 7, 34, 11, 12, 13, 35, 36, 37, 38, 39, 40, 41, 42, 43, 44, 45, 46, 47, 48, 49, 50, 51, 52, 53, 54, 55, 56, 57, 58, 59, 60, 61, 62, 63, 64, 65, 66, 67, 68, 69, 70, 71, 72] (by decide +kernel) (by decide +kernel)
set_option maxRecDepth 20000 in
theorem gX9_findStay_X9_isAble : GoodIn wsX9_findStay (wsV RX9 241 RX9 yX9_isAble wsX9_isAble) := goodIn_app (goodIn_of _ (by decide +kernel)) ggX9_findStay_X9_isAble
set_option maxRecDepth 20000 in
theorem ggX9_findStay_X9_isStep : GoodIn wsX9_findStay wsX9_isStep := goodIn_r _ [17, 18, 35, 36, 37, 38, 39, 40, 41, 42, 43, 44, 45, 46, 47, 48, 49, 50, 51, 52, 53, 54, 55, 56, 57, 58, 59, 60, 61, 62, 63, 64, 65, 66, 67, 68, 69, 70, 71, 72] (by decide +kernel) (by decide +kernel)
set_option maxRecDepth 20000 in
theorem gX9_findStay_X9_isStep : GoodIn wsX9_findStay (wsV RX9 190 RX9 yX9_isStep wsX9_isStep) := goodIn_app (goodIn_of _ (by decide +kernel)) ggX9_findStay_X9_isStep
theorem dX9_findStay_0 : decode cX9_findStay 0 = .ok (.aload_n 0, 1) := by decide +kernel
theorem dX9_findStay_1 : decode cX9_findStay 1 = .ok (.iload_n 2, 1) := by decide +kernel
theorem dX9_findStay_2 : decode cX9_findStay 2 = .ok (.invokevirtual 234, 3) := by decide +kernel
theorem dX9_findStay_5 : decode cX9_findStay 5 = .ok (.iconst 0, 1) := by decide +kernel
theorem dX9_findStay_6 : decode cX9_findStay 6 = .ok (.istore 5, 2) := by decide +kernel
theorem dX9_findStay_8 : decode cX9_findStay 8 = .ok (.iconst 0, 1) := by decide +kernel
theorem dX9_findStay_9 : decode cX9_findStay 9 = .ok (.istore 6, 2) := by decide +kernel
theorem dX9_findStay_11 : decode cX9_findStay 11 = .ok (.iload 6, 2) := by decide +kernel
theorem dX9_findStay_13 : decode cX9_findStay 13 = .ok (.ifCond .ne 78, 3) := by decide +kernel
theorem dX9_findStay_16 : decode cX9_findStay 16 = .ok (.iload 5, 2) := by decide +kernel
theorem dX9_findStay_18 : decode cX9_findStay 18 = .ok (.bipush 40, 2) := by decide +kernel
theorem dX9_findStay_20 : decode cX9_findStay 20 = .ok (.if_icmp .ge 71, 3) := by decide +kernel
theorem dX9_findStay_23 : decode cX9_findStay 23 = .ok (.iinc 5 1, 3) := by decide +kernel
theorem dX9_findStay_26 : decode cX9_findStay 26 = .ok (.iload 4, 2) := by decide +kernel
theorem dX9_findStay_28 : decode cX9_findStay 28 = .ok (.ifCond .eq 43, 3) := by decide +kernel
theorem dX9_findStay_31 : decode cX9_findStay 31 = .ok (.aload_n 0, 1) := by decide +kernel
theorem dX9_findStay_32 : decode cX9_findStay 32 = .ok (.getfield 63, 3) := by decide +kernel
theorem dX9_findStay_35 : decode cX9_findStay 35 = .ok (.iload 5, 2) := by decide +kernel
theorem dX9_findStay_37 : decode cX9_findStay 37 = .ok (.iload_n 1, 1) := by decide +kernel
theorem dX9_findStay_38 : decode cX9_findStay 38 = .ok (.invokestatic 228, 3) := by decide +kernel
theorem dX9_findStay_41 : decode cX9_findStay 41 = .ok (.iaload, 1) := by decide +kernel
theorem dX9_findStay_42 : decode cX9_findStay 42 = .ok (.iconst (-1), 1) := by decide +kernel
theorem dX9_findStay_43 : decode cX9_findStay 43 = .ok (.if_icmp .eq 22, 3) := by decide +kernel
theorem dX9_findStay_46 : decode cX9_findStay 46 = .ok (.aload_n 0, 1) := by decide +kernel
theorem dX9_findStay_47 : decode cX9_findStay 47 = .ok (.getfield 63, 3) := by decide +kernel
theorem dX9_findStay_50 : decode cX9_findStay 50 = .ok (.iload 5, 2) := by decide +kernel
theorem dX9_findStay_52 : decode cX9_findStay 52 = .ok (.iload_n 1, 1) := by decide +kernel
theorem dX9_findStay_53 : decode cX9_findStay 53 = .ok (.invokestatic 228, 3) := by decide +kernel
theorem dX9_findStay_56 : decode cX9_findStay 56 = .ok (.iaload, 1) := by decide +kernel
theorem dX9_findStay_57 : decode cX9_findStay 57 = .ok (.iload_n 3, 1) := by decide +kernel
theorem dX9_findStay_58 : decode cX9_findStay 58 = .ok (.if_icmp .lt 7, 3) := by decide +kernel
theorem dX9_findStay_61 : decode cX9_findStay 61 = .ok (.iconst 1, 1) := by decide +kernel
theorem dX9_findStay_62 : decode cX9_findStay 62 = .ok (.goto 4, 3) := by decide +kernel
theorem dX9_findStay_65 : decode cX9_findStay 65 = .ok (.iconst 0, 1) := by decide +kernel
theorem dX9_findStay_66 : decode cX9_findStay 66 = .ok (.istore 6, 2) := by decide +kernel
theorem dX9_findStay_68 : decode cX9_findStay 68 = .ok (.goto (-57), 3) := by decide +kernel
theorem dX9_findStay_71 : decode cX9_findStay 71 = .ok (.aload_n 0, 1) := by decide +kernel
theorem dX9_findStay_72 : decode cX9_findStay 72 = .ok (.iload 5, 2) := by decide +kernel
theorem dX9_findStay_74 : decode cX9_findStay 74 = .ok (.iload_n 2, 1) := by decide +kernel
theorem dX9_findStay_75 : decode cX9_findStay 75 = .ok (.invokevirtual 237, 3) := by decide +kernel
theorem dX9_findStay_78 : decode cX9_findStay 78 = .ok (.aload_n 0, 1) := by decide +kernel
theorem dX9_findStay_79 : decode cX9_findStay 79 = .ok (.iload 5, 2) := by decide +kernel
theorem dX9_findStay_81 : decode cX9_findStay 81 = .ok (.iload_n 1, 1) := by decide +kernel
theorem dX9_findStay_82 : decode cX9_findStay 82 = .ok (.iload_n 3, 1) := by decide +kernel
theorem dX9_findStay_83 : decode cX9_findStay 83 = .ok (.invokevirtual 241, 3) := by decide +kernel
theorem dX9_findStay_86 : decode cX9_findStay 86 = .ok (.istore 6, 2) := by decide +kernel
theorem dX9_findStay_88 : decode cX9_findStay 88 = .ok (.goto (-77), 3) := by decide +kernel
theorem dX9_findStay_91 : decode cX9_findStay 91 = .ok (.iload 6, 2) := by decide +kernel
theorem dX9_findStay_93 : decode cX9_findStay 93 = .ok (.ifCond .ne 5, 3) := by decide +kernel
theorem dX9_findStay_96 : decode cX9_findStay 96 = .ok (.iconst (-1), 1) := by decide +kernel
theorem dX9_findStay_97 : decode cX9_findStay 97 = .ok (.ireturn, 1) := by decide +kernel
theorem dX9_findStay_98 : decode cX9_findStay 98 = .ok (.iload_n 1, 1) := by decide +kernel
theorem dX9_findStay_99 : decode cX9_findStay 99 = .ok (.istore 7, 2) := by decide +kernel
theorem dX9_findStay_101 : decode cX9_findStay 101 = .ok (.iload_n 3, 1) := by decide +kernel
theorem dX9_findStay_102 : decode cX9_findStay 102 = .ok (.istore 8, 2) := by decide +kernel
theorem dX9_findStay_104 : decode cX9_findStay 104 = .ok (.iconst 0, 1) := by decide +kernel
theorem dX9_findStay_105 : decode cX9_findStay 105 = .ok (.istore 9, 2) := by decide +kernel
theorem dX9_findStay_107 : decode cX9_findStay 107 = .ok (.iload 9, 2) := by decide +kernel
theorem dX9_findStay_109 : decode cX9_findStay 109 = .ok (.iload 5, 2) := by decide +kernel
theorem dX9_findStay_111 : decode cX9_findStay 111 = .ok (.if_icmp .ge 122, 3) := by decide +kernel
theorem dX9_findStay_114 : decode cX9_findStay 114 = .ok (.iload 9, 2) := by decide +kernel
theorem dX9_findStay_116 : decode cX9_findStay 116 = .ok (.ifCond .le 90, 3) := by decide +kernel
theorem dX9_findStay_119 : decode cX9_findStay 119 = .ok (.iconst 0, 1) := by decide +kernel
theorem dX9_findStay_120 : decode cX9_findStay 120 = .ok (.istore 10, 2) := by decide +kernel
theorem dX9_findStay_122 : decode cX9_findStay 122 = .ok (.aload_n 0, 1) := by decide +kernel
theorem dX9_findStay_123 : decode cX9_findStay 123 = .ok (.iload 7, 2) := by decide +kernel
theorem dX9_findStay_125 : decode cX9_findStay 125 = .ok (.iload 10, 2) := by decide +kernel
theorem dX9_findStay_127 : decode cX9_findStay 127 = .ok (.invokevirtual 190, 3) := by decide +kernel
theorem dX9_findStay_130 : decode cX9_findStay 130 = .ok (.ifCond .eq 66, 3) := by decide +kernel
theorem dX9_findStay_133 : decode cX9_findStay 133 = .ok (.iload 4, 2) := by decide +kernel
theorem dX9_findStay_135 : decode cX9_findStay 135 = .ok (.ifCond .eq 45, 3) := by decide +kernel
theorem dX9_findStay_138 : decode cX9_findStay 138 = .ok (.aload_n 0, 1) := by decide +kernel
theorem dX9_findStay_139 : decode cX9_findStay 139 = .ok (.getfield 63, 3) := by decide +kernel
theorem dX9_findStay_142 : decode cX9_findStay 142 = .ok (.iload 5, 2) := by decide +kernel
theorem dX9_findStay_144 : decode cX9_findStay 144 = .ok (.iload 9, 2) := by decide +kernel
theorem dX9_findStay_146 : decode cX9_findStay 146 = .ok (.isub, 1) := by decide +kernel
theorem dX9_findStay_147 : decode cX9_findStay 147 = .ok (.iload 10, 2) := by decide +kernel
theorem dX9_findStay_149 : decode cX9_findStay 149 = .ok (.invokestatic 228, 3) := by decide +kernel
theorem dX9_findStay_152 : decode cX9_findStay 152 = .ok (.iaload, 1) := by decide +kernel
theorem dX9_findStay_153 : decode cX9_findStay 153 = .ok (.iconst (-1), 1) := by decide +kernel
theorem dX9_findStay_154 : decode cX9_findStay 154 = .ok (.if_icmp .eq 42, 3) := by decide +kernel
theorem dX9_findStay_157 : decode cX9_findStay 157 = .ok (.aload_n 0, 1) := by decide +kernel
theorem dX9_findStay_158 : decode cX9_findStay 158 = .ok (.getfield 63, 3) := by decide +kernel
theorem dX9_findStay_161 : decode cX9_findStay 161 = .ok (.iload 5, 2) := by decide +kernel
theorem dX9_findStay_163 : decode cX9_findStay 163 = .ok (.iload 9, 2) := by decide +kernel
theorem dX9_findStay_165 : decode cX9_findStay 165 = .ok (.isub, 1) := by decide +kernel
theorem dX9_findStay_166 : decode cX9_findStay 166 = .ok (.iload 10, 2) := by decide +kernel
theorem dX9_findStay_168 : decode cX9_findStay 168 = .ok (.invokestatic 228, 3) := by decide +kernel
theorem dX9_findStay_171 : decode cX9_findStay 171 = .ok (.iaload, 1) := by decide +kernel
theorem dX9_findStay_172 : decode cX9_findStay 172 = .ok (.iload 8, 2) := by decide +kernel
theorem dX9_findStay_174 : decode cX9_findStay 174 = .ok (.if_icmp .lt 22, 3) := by decide +kernel
theorem dX9_findStay_177 : decode cX9_findStay 177 = .ok (.goto 25, 3) := by decide +kernel
theorem dX9_findStay_180 : decode cX9_findStay 180 = .ok (.aload_n 0, 1) := by decide +kernel
theorem dX9_findStay_181 : decode cX9_findStay 181 = .ok (.iload 5, 2) := by decide +kernel
theorem dX9_findStay_183 : decode cX9_findStay 183 = .ok (.iload 9, 2) := by decide +kernel
theorem dX9_findStay_185 : decode cX9_findStay 185 = .ok (.isub, 1) := by decide +kernel
theorem dX9_findStay_186 : decode cX9_findStay 186 = .ok (.iload 10, 2) := by decide +kernel
theorem dX9_findStay_188 : decode cX9_findStay 188 = .ok (.iload 8, 2) := by decide +kernel
theorem dX9_findStay_190 : decode cX9_findStay 190 = .ok (.invokevirtual 241, 3) := by decide +kernel
theorem dX9_findStay_193 : decode cX9_findStay 193 = .ok (.ifCond .ne 9, 3) := by decide +kernel
theorem dX9_findStay_196 : decode cX9_findStay 196 = .ok (.iinc 10 1, 3) := by decide +kernel
theorem dX9_findStay_199 : decode cX9_findStay 199 = .ok (.goto (-77), 3) := by decide +kernel
theorem dX9_findStay_202 : decode cX9_findStay 202 = .ok (.iload 10, 2) := by decide +kernel
theorem dX9_findStay_204 : decode cX9_findStay 204 = .ok (.istore 7, 2) := by decide +kernel
theorem dX9_findStay_206 : decode cX9_findStay 206 = .ok (.aload_n 0, 1) := by decide +kernel
theorem dX9_findStay_207 : decode cX9_findStay 207 = .ok (.getfield 70, 3) := by decide +kernel
theorem dX9_findStay_210 : decode cX9_findStay 210 = .ok (.iload 9, 2) := by decide +kernel
theorem dX9_findStay_212 : decode cX9_findStay 212 = .ok (.iload 7, 2) := by decide +kernel
theorem dX9_findStay_214 : decode cX9_findStay 214 = .ok (.iastore, 1) := by decide +kernel
theorem dX9_findStay_215 : decode cX9_findStay 215 = .ok (.iload 8, 2) := by decide +kernel
theorem dX9_findStay_217 : decode cX9_findStay 217 = .ok (.aload_n 0, 1) := by decide +kernel
theorem dX9_findStay_218 : decode cX9_findStay 218 = .ok (.getfield 17, 3) := by decide +kernel
theorem dX9_findStay_221 : decode cX9_findStay 221 = .ok (.iload 7, 2) := by decide +kernel
theorem dX9_findStay_223 : decode cX9_findStay 223 = .ok (.iaload, 1) := by decide +kernel
theorem dX9_findStay_224 : decode cX9_findStay 224 = .ok (.isub, 1) := by decide +kernel
theorem dX9_findStay_225 : decode cX9_findStay 225 = .ok (.istore 8, 2) := by decide +kernel
theorem dX9_findStay_227 : decode cX9_findStay 227 = .ok (.iinc 9 1, 3) := by decide +kernel
theorem dX9_findStay_230 : decode cX9_findStay 230 = .ok (.goto (-123), 3) := by decide +kernel
theorem dX9_findStay_233 : decode cX9_findStay 233 = .ok (.iload 5, 2) := by decide +kernel
theorem dX9_findStay_235 : decode cX9_findStay 235 = .ok (.ireturn, 1) := by decide +kernel
set_option maxRecDepth 20000 in
theorem ggX9_just_X9_isMouth : GoodIn wsX9_just wsX9_isMouth := goodIn_r _ [8, 9, 10, 11, 12, 7, 13, 14, 15, 16, 17, 50, 51, 52, 53, 54, 55, 56, 57, 58, 59, 60, 61, 62, 63, 64, 65, 66, 67, 68, 69, 70, 71, 72, 73, 74, 75, 76, 77, 78, 79, 80, 81, 82, 83, 84, 85, 86, 87] (by decide +kernel) (by decide +kernel)
set_option maxRecDepth 20000 in
theorem gX9_just_X9_isMouth : GoodIn wsX9_just (wsV RX9 187 RX9 yX9_isMouth wsX9_isMouth) := goodIn_app (goodIn_of _ (by decide +kernel)) ggX9_just_X9_isMouth
set_option maxRecDepth 20000 in
theorem ggX9_just_X9_in : GoodIn wsX9_just wsX9_in := goodIn_r _ [17] (by decide +kernel) (by decide +kernel)
set_option maxRecDepth 20000 in
theorem gX9_just_X9_in : GoodIn wsX9_just (va_wsS RX9 95 yX9_in wsX9_in) := goodIn_app (goodIn_of _ (by decide +kernel)) ggX9_just_X9_in
set_option maxRecDepth 20000 in
theorem ggX9_just_X9_findStay : GoodIn wsX9_just wsX9_findStay := goodIn_r _ [21, 22, 3, 23, 24, 25, 26, 7, 27, 14, 28, 29, 30, 31, 32, 33, 34, 35, 36, 37, 38, 39, 40, 41, 42, 43, 44, 45, 46, 47, 48, 49, 15, 16, 17, 50, 51, 52, 53, 54, 55, 56, 57, 58, 59, 60, 61, 62, 63, 64, 65, 66, 67, 68, 69, 70, 71, 72, 73, 74, 75, 76, 77, 78, 79, 80, 81, 82, 83, 84, 85, 86, 87] (by decide +kernel) (by decide +kernel)
set_option maxRecDepth 20000 in
theorem gX9_just_X9_findStay : GoodIn wsX9_just (wsV RX9 244 RX9 yX9_findStay wsX9_findStay) := goodIn_app (goodIn_of _ (by decide +kernel)) ggX9_just_X9_findStay
theorem dX9_just_0 : decode cX9_just 0 = .ok (.aload_n 0, 1) := by decide +kernel
theorem dX9_just_1 : decode cX9_just 1 = .ok (.iload_n 1, 1) := by decide +kernel
theorem dX9_just_2 : decode cX9_just 2 = .ok (.invokevirtual 187, 3) := by decide +kernel
theorem dX9_just_5 : decode cX9_just 5 = .ok (.ifCond .eq 11, 3) := by decide +kernel
theorem dX9_just_8 : decode cX9_just 8 = .ok (.aload_n 0, 1) := by decide +kernel
theorem dX9_just_9 : decode cX9_just 9 = .ok (.iload_n 2, 1) := by decide +kernel
theorem dX9_just_10 : decode cX9_just 10 = .ok (.invokevirtual 187, 3) := by decide +kernel
theorem dX9_just_13 : decode cX9_just 13 = .ok (.ifCond .ne 6, 3) := by decide +kernel
theorem dX9_just_16 : decode cX9_just 16 = .ok (.ldc 180, 2) := by decide +kernel
theorem dX9_just_18 : decode cX9_just 18 = .ok (.ireturn, 1) := by decide +kernel
theorem dX9_just_19 : decode cX9_just 19 = .ok (.iload_n 3, 1) := by decide +kernel
theorem dX9_just_20 : decode cX9_just 20 = .ok (.iconst 0, 1) := by decide +kernel
theorem dX9_just_21 : decode cX9_just 21 = .ok (.sipush 6000, 3) := by decide +kernel
theorem dX9_just_24 : decode cX9_just 24 = .ok (.invokestatic 95, 3) := by decide +kernel
theorem dX9_just_27 : decode cX9_just 27 = .ok (.ifCond .ne 6, 3) := by decide +kernel
theorem dX9_just_30 : decode cX9_just 30 = .ok (.ldc 99, 2) := by decide +kernel
theorem dX9_just_32 : decode cX9_just 32 = .ok (.ireturn, 1) := by decide +kernel
theorem dX9_just_33 : decode cX9_just 33 = .ok (.aload_n 0, 1) := by decide +kernel
theorem dX9_just_34 : decode cX9_just 34 = .ok (.iload_n 1, 1) := by decide +kernel
theorem dX9_just_35 : decode cX9_just 35 = .ok (.iload_n 2, 1) := by decide +kernel
theorem dX9_just_36 : decode cX9_just 36 = .ok (.iload_n 3, 1) := by decide +kernel
theorem dX9_just_37 : decode cX9_just 37 = .ok (.iload 4, 2) := by decide +kernel
theorem dX9_just_39 : decode cX9_just 39 = .ok (.invokevirtual 244, 3) := by decide +kernel
theorem dX9_just_42 : decode cX9_just 42 = .ok (.istore 6, 2) := by decide +kernel
theorem dX9_just_44 : decode cX9_just 44 = .ok (.iload 6, 2) := by decide +kernel
theorem dX9_just_46 : decode cX9_just 46 = .ok (.iconst (-1), 1) := by decide +kernel
theorem dX9_just_47 : decode cX9_just 47 = .ok (.if_icmp .eq 9, 3) := by decide +kernel
theorem dX9_just_50 : decode cX9_just 50 = .ok (.iload 5, 2) := by decide +kernel
theorem dX9_just_52 : decode cX9_just 52 = .ok (.iconst (-1), 1) := by decide +kernel
theorem dX9_just_53 : decode cX9_just 53 = .ok (.if_icmp .ne 8, 3) := by decide +kernel
theorem dX9_just_56 : decode cX9_just 56 = .ok (.iload 6, 2) := by decide +kernel
theorem dX9_just_58 : decode cX9_just 58 = .ok (.goto 27, 3) := by decide +kernel
theorem dX9_just_61 : decode cX9_just 61 = .ok (.iload 5, 2) := by decide +kernel
theorem dX9_just_63 : decode cX9_just 63 = .ok (.iconst 0, 1) := by decide +kernel
theorem dX9_just_64 : decode cX9_just 64 = .ok (.iload 6, 2) := by decide +kernel
theorem dX9_just_66 : decode cX9_just 66 = .ok (.iconst 1, 1) := by decide +kernel
theorem dX9_just_67 : decode cX9_just 67 = .ok (.isub, 1) := by decide +kernel
theorem dX9_just_68 : decode cX9_just 68 = .ok (.invokestatic 95, 3) := by decide +kernel
theorem dX9_just_71 : decode cX9_just 71 = .ok (.ifCond .eq 13, 3) := by decide +kernel
theorem dX9_just_74 : decode cX9_just 74 = .ok (.aload_n 0, 1) := by decide +kernel
theorem dX9_just_75 : decode cX9_just 75 = .ok (.getfield 70, 3) := by decide +kernel
theorem dX9_just_78 : decode cX9_just 78 = .ok (.iload 5, 2) := by decide +kernel
theorem dX9_just_80 : decode cX9_just 80 = .ok (.iaload, 1) := by decide +kernel
theorem dX9_just_81 : decode cX9_just 81 = .ok (.goto 4, 3) := by decide +kernel
theorem dX9_just_84 : decode cX9_just 84 = .ok (.iconst (-1), 1) := by decide +kernel
theorem dX9_just_85 : decode cX9_just 85 = .ok (.ireturn, 1) := by decide +kernel
set_option maxRecDepth 20000 in
theorem ggX9_span_X9_isMouth : GoodIn wsX9_span wsX9_isMouth := goodIn_r _ [9, 10, 11, 12, 13, 8, 14, 15, 16, 17, 18, 32, 33, 34, 35, 36, 37, 38, 39, 40, 41, 42, 43, 44, 45, 46, 47, 48, 49, 50, 51, 52, 53, 54, 55, 56, 57, 58, 59, 60, 61, 62, 63, 64, 65, 66, 67, 68, 69] (by decide +kernel) (by decide +kernel)
set_option maxRecDepth 20000 in
theorem gX9_span_X9_isMouth : GoodIn wsX9_span (wsV RX9 187 RX9 yX9_isMouth wsX9_isMouth) := goodIn_app (goodIn_of _ (by decide +kernel)) ggX9_span_X9_isMouth
set_option maxRecDepth 20000 in
theorem ggX9_span_X9_in : GoodIn wsX9_span wsX9_in := goodIn_r _ [18] (by decide +kernel) (by decide +kernel)
set_option maxRecDepth 20000 in
theorem gX9_span_X9_in : GoodIn wsX9_span (va_wsS RX9 95 yX9_in wsX9_in) := goodIn_app (goodIn_of _ (by decide +kernel)) ggX9_span_X9_in
set_option maxRecDepth 20000 in
theorem ggX9_span_X9_findSpans : GoodIn wsX9_span wsX9_findSpans := goodIn_r _ [22, 15, 4, 3, 23, 24, 25, 8, 26, 27, 28, 29, 30, 31, 32, 33, 34, 35, 36, 37, 38, 39, 40, 41, 42, 43, 44, 45, 46, 47, 48, 49, 50, 51, 52, 53, 54, 55, 56, 57, 58, 59, 60, 61, 62, 63, 64, 65, 66, 67, 68, 69] (by decide +kernel) (by decide +kernel)
set_option maxRecDepth 20000 in
theorem gX9_span_X9_findSpans : GoodIn wsX9_span (wsV RX9 234 RX9 yX9_findSpans wsX9_findSpans) := goodIn_app (goodIn_of _ (by decide +kernel)) ggX9_span_X9_findSpans
set_option maxRecDepth 20000 in
theorem ggX9_span_X9_index : GoodIn wsX9_span wsX9_index := goodIn_r _ [26] (by decide +kernel) (by decide +kernel)
set_option maxRecDepth 20000 in
theorem gX9_span_X9_index : GoodIn wsX9_span (va_wsS RX9 228 yX9_index wsX9_index) := goodIn_app (goodIn_of _ (by decide +kernel)) ggX9_span_X9_index
theorem dX9_span_0 : decode cX9_span 0 = .ok (.aload_n 0, 1) := by decide +kernel
theorem dX9_span_1 : decode cX9_span 1 = .ok (.iload_n 1, 1) := by decide +kernel
theorem dX9_span_2 : decode cX9_span 2 = .ok (.invokevirtual 187, 3) := by decide +kernel
theorem dX9_span_5 : decode cX9_span 5 = .ok (.ifCond .eq 11, 3) := by decide +kernel
theorem dX9_span_8 : decode cX9_span 8 = .ok (.aload_n 0, 1) := by decide +kernel
theorem dX9_span_9 : decode cX9_span 9 = .ok (.iload_n 2, 1) := by decide +kernel
theorem dX9_span_10 : decode cX9_span 10 = .ok (.invokevirtual 187, 3) := by decide +kernel
theorem dX9_span_13 : decode cX9_span 13 = .ok (.ifCond .ne 6, 3) := by decide +kernel
theorem dX9_span_16 : decode cX9_span 16 = .ok (.ldc 180, 2) := by decide +kernel
theorem dX9_span_18 : decode cX9_span 18 = .ok (.ireturn, 1) := by decide +kernel
theorem dX9_span_19 : decode cX9_span 19 = .ok (.iload_n 3, 1) := by decide +kernel
theorem dX9_span_20 : decode cX9_span 20 = .ok (.iconst 1, 1) := by decide +kernel
theorem dX9_span_21 : decode cX9_span 21 = .ok (.bipush 40, 2) := by decide +kernel
theorem dX9_span_23 : decode cX9_span 23 = .ok (.invokestatic 95, 3) := by decide +kernel
theorem dX9_span_26 : decode cX9_span 26 = .ok (.ifCond .eq 13, 3) := by decide +kernel
theorem dX9_span_29 : decode cX9_span 29 = .ok (.iload 4, 2) := by decide +kernel
theorem dX9_span_31 : decode cX9_span 31 = .ok (.iconst 0, 1) := by decide +kernel
theorem dX9_span_32 : decode cX9_span 32 = .ok (.iconst 1, 1) := by decide +kernel
theorem dX9_span_33 : decode cX9_span 33 = .ok (.invokestatic 95, 3) := by decide +kernel
theorem dX9_span_36 : decode cX9_span 36 = .ok (.ifCond .ne 6, 3) := by decide +kernel
theorem dX9_span_39 : decode cX9_span 39 = .ok (.ldc 99, 2) := by decide +kernel
theorem dX9_span_41 : decode cX9_span 41 = .ok (.ireturn, 1) := by decide +kernel
theorem dX9_span_42 : decode cX9_span 42 = .ok (.aload_n 0, 1) := by decide +kernel
theorem dX9_span_43 : decode cX9_span 43 = .ok (.iload_n 2, 1) := by decide +kernel
theorem dX9_span_44 : decode cX9_span 44 = .ok (.invokevirtual 234, 3) := by decide +kernel
theorem dX9_span_47 : decode cX9_span 47 = .ok (.iload 4, 2) := by decide +kernel
theorem dX9_span_49 : decode cX9_span 49 = .ok (.ifCond .ne 16, 3) := by decide +kernel
theorem dX9_span_52 : decode cX9_span 52 = .ok (.aload_n 0, 1) := by decide +kernel
theorem dX9_span_53 : decode cX9_span 53 = .ok (.getfield 60, 3) := by decide +kernel
theorem dX9_span_56 : decode cX9_span 56 = .ok (.iload_n 3, 1) := by decide +kernel
theorem dX9_span_57 : decode cX9_span 57 = .ok (.iload_n 1, 1) := by decide +kernel
theorem dX9_span_58 : decode cX9_span 58 = .ok (.invokestatic 228, 3) := by decide +kernel
theorem dX9_span_61 : decode cX9_span 61 = .ok (.iaload, 1) := by decide +kernel
theorem dX9_span_62 : decode cX9_span 62 = .ok (.goto 13, 3) := by decide +kernel
theorem dX9_span_65 : decode cX9_span 65 = .ok (.aload_n 0, 1) := by decide +kernel
theorem dX9_span_66 : decode cX9_span 66 = .ok (.getfield 63, 3) := by decide +kernel
theorem dX9_span_69 : decode cX9_span 69 = .ok (.iload_n 3, 1) := by decide +kernel
theorem dX9_span_70 : decode cX9_span 70 = .ok (.iload_n 1, 1) := by decide +kernel
theorem dX9_span_71 : decode cX9_span 71 = .ok (.invokestatic 228, 3) := by decide +kernel
theorem dX9_span_74 : decode cX9_span 74 = .ok (.iaload, 1) := by decide +kernel
theorem dX9_span_75 : decode cX9_span 75 = .ok (.istore 5, 2) := by decide +kernel
theorem dX9_span_77 : decode cX9_span 77 = .ok (.iload 5, 2) := by decide +kernel
theorem dX9_span_79 : decode cX9_span 79 = .ok (.iconst (-1), 1) := by decide +kernel
theorem dX9_span_80 : decode cX9_span 80 = .ok (.if_icmp .ne 7, 3) := by decide +kernel
theorem dX9_span_83 : decode cX9_span 83 = .ok (.iconst (-1), 1) := by decide +kernel
theorem dX9_span_84 : decode cX9_span 84 = .ok (.goto 5, 3) := by decide +kernel
theorem dX9_span_87 : decode cX9_span 87 = .ok (.iload 5, 2) := by decide +kernel
theorem dX9_span_89 : decode cX9_span 89 = .ok (.ireturn, 1) := by decide +kernel
set_option maxRecDepth 20000 in
theorem ggX9_longest_X9_in : GoodIn wsX9_longest wsX9_in := goodIn_r _ [7] (by decide +kernel) (by decide +kernel)
set_option maxRecDepth 20000 in
theorem gX9_longest_X9_in : GoodIn wsX9_longest (va_wsS RX9 95 yX9_in wsX9_in) := goodIn_app (goodIn_of _ (by decide +kernel)) ggX9_longest_X9_in
set_option maxRecDepth 20000 in
theorem ggX9_longest_X9_isMouth : GoodIn wsX9_longest wsX9_isMouth := goodIn_r _ [11, 12, 13, 14, 15, 6, 16, 2, 4, 5, 7, 31, 32, 33, 34, 35, 36, 37, 38, 39, 40, 41, 42, 43, 44, 45, 46, 47, 48, 49, 50, 51, 52, 53, 54, 55, 56, 57, 58, 59, 60, 61, 62, 63, 64, 65, 66, 67, 68] (by decide +kernel) (by decide +kernel)
set_option maxRecDepth 20000 in
theorem gX9_longest_X9_isMouth : GoodIn wsX9_longest (wsV RX9 187 RX9 yX9_isMouth wsX9_isMouth) := goodIn_app (goodIn_of _ (by decide +kernel)) ggX9_longest_X9_isMouth
set_option maxRecDepth 20000 in
theorem ggX9_longest_X9_findSpans : GoodIn wsX9_longest wsX9_findSpans := goodIn_r _ [20, 2, 3, 21, 22, 23, 24, 6, 25, 26, 27, 28, 29, 30, 31, 32, 33, 34, 35, 36, 37, 38, 39, 40, 41, 42, 43, 44, 45, 46, 47, 48, 49, 50, 51, 52, 53, 54, 55, 56, 57, 58, 59, 60, 61, 62, 63, 64, 65, 66, 67, 68] (by decide +kernel) (by decide +kernel)
set_option maxRecDepth 20000 in
theorem gX9_longest_X9_findSpans : GoodIn wsX9_longest (wsV RX9 234 RX9 yX9_findSpans wsX9_findSpans) := goodIn_app (goodIn_of _ (by decide +kernel)) ggX9_longest_X9_findSpans
set_option maxRecDepth 20000 in
theorem ggX9_longest_X9_index : GoodIn wsX9_longest wsX9_index := goodIn_r _ [25] (by decide +kernel) (by decide +kernel)
set_option maxRecDepth 20000 in
theorem gX9_longest_X9_index : GoodIn wsX9_longest (va_wsS RX9 228 yX9_index wsX9_index) := goodIn_app (goodIn_of _ (by decide +kernel)) ggX9_longest_X9_index
theorem dX9_longest_0 : decode cX9_longest 0 = .ok (.iload_n 1, 1) := by decide +kernel
theorem dX9_longest_1 : decode cX9_longest 1 = .ok (.iconst 1, 1) := by decide +kernel
theorem dX9_longest_2 : decode cX9_longest 2 = .ok (.bipush 40, 2) := by decide +kernel
theorem dX9_longest_4 : decode cX9_longest 4 = .ok (.invokestatic 95, 3) := by decide +kernel
theorem dX9_longest_7 : decode cX9_longest 7 = .ok (.ifCond .eq 12, 3) := by decide +kernel
theorem dX9_longest_10 : decode cX9_longest 10 = .ok (.iload_n 2, 1) := by decide +kernel
theorem dX9_longest_11 : decode cX9_longest 11 = .ok (.iconst 0, 1) := by decide +kernel
theorem dX9_longest_12 : decode cX9_longest 12 = .ok (.iconst 1, 1) := by decide +kernel
theorem dX9_longest_13 : decode cX9_longest 13 = .ok (.invokestatic 95, 3) := by decide +kernel
theorem dX9_longest_16 : decode cX9_longest 16 = .ok (.ifCond .ne 6, 3) := by decide +kernel
theorem dX9_longest_19 : decode cX9_longest 19 = .ok (.ldc 99, 2) := by decide +kernel
theorem dX9_longest_21 : decode cX9_longest 21 = .ok (.ireturn, 1) := by decide +kernel
theorem dX9_longest_22 : decode cX9_longest 22 = .ok (.iconst (-1), 1) := by decide +kernel
theorem dX9_longest_23 : decode cX9_longest 23 = .ok (.istore_n 3, 1) := by decide +kernel
theorem dX9_longest_24 : decode cX9_longest 24 = .ok (.iconst (-1), 1) := by decide +kernel
theorem dX9_longest_25 : decode cX9_longest 25 = .ok (.istore 4, 2) := by decide +kernel
theorem dX9_longest_27 : decode cX9_longest 27 = .ok (.iconst 0, 1) := by decide +kernel
theorem dX9_longest_28 : decode cX9_longest 28 = .ok (.istore 5, 2) := by decide +kernel
theorem dX9_longest_30 : decode cX9_longest 30 = .ok (.iload 5, 2) := by decide +kernel
theorem dX9_longest_32 : decode cX9_longest 32 = .ok (.aload_n 0, 1) := by decide +kernel
theorem dX9_longest_33 : decode cX9_longest 33 = .ok (.getfield 13, 3) := by decide +kernel
theorem dX9_longest_36 : decode cX9_longest 36 = .ok (.iconst 0, 1) := by decide +kernel
theorem dX9_longest_37 : decode cX9_longest 37 = .ok (.iaload, 1) := by decide +kernel
theorem dX9_longest_38 : decode cX9_longest 38 = .ok (.if_icmp .ge 67, 3) := by decide +kernel
theorem dX9_longest_41 : decode cX9_longest 41 = .ok (.aload_n 0, 1) := by decide +kernel
theorem dX9_longest_42 : decode cX9_longest 42 = .ok (.iload 5, 2) := by decide +kernel
theorem dX9_longest_44 : decode cX9_longest 44 = .ok (.invokevirtual 187, 3) := by decide +kernel
theorem dX9_longest_47 : decode cX9_longest 47 = .ok (.ifCond .eq 52, 3) := by decide +kernel
theorem dX9_longest_50 : decode cX9_longest 50 = .ok (.aload_n 0, 1) := by decide +kernel
theorem dX9_longest_51 : decode cX9_longest 51 = .ok (.iload 5, 2) := by decide +kernel
theorem dX9_longest_53 : decode cX9_longest 53 = .ok (.invokevirtual 234, 3) := by decide +kernel
theorem dX9_longest_56 : decode cX9_longest 56 = .ok (.aload_n 0, 1) := by decide +kernel
theorem dX9_longest_57 : decode cX9_longest 57 = .ok (.getfield 63, 3) := by decide +kernel
theorem dX9_longest_60 : decode cX9_longest 60 = .ok (.iload_n 1, 1) := by decide +kernel
theorem dX9_longest_61 : decode cX9_longest 61 = .ok (.iload 5, 2) := by decide +kernel
theorem dX9_longest_63 : decode cX9_longest 63 = .ok (.invokestatic 228, 3) := by decide +kernel
theorem dX9_longest_66 : decode cX9_longest 66 = .ok (.iaload, 1) := by decide +kernel
theorem dX9_longest_67 : decode cX9_longest 67 = .ok (.istore 6, 2) := by decide +kernel
theorem dX9_longest_69 : decode cX9_longest 69 = .ok (.iload 6, 2) := by decide +kernel
theorem dX9_longest_71 : decode cX9_longest 71 = .ok (.iload 4, 2) := by decide +kernel
theorem dX9_longest_73 : decode cX9_longest 73 = .ok (.if_icmp .le 8, 3) := by decide +kernel
theorem dX9_longest_76 : decode cX9_longest 76 = .ok (.iload 5, 2) := by decide +kernel
theorem dX9_longest_78 : decode cX9_longest 78 = .ok (.goto 4, 3) := by decide +kernel
theorem dX9_longest_81 : decode cX9_longest 81 = .ok (.iload_n 3, 1) := by decide +kernel
theorem dX9_longest_82 : decode cX9_longest 82 = .ok (.istore_n 3, 1) := by decide +kernel
theorem dX9_longest_83 : decode cX9_longest 83 = .ok (.iload 6, 2) := by decide +kernel
theorem dX9_longest_85 : decode cX9_longest 85 = .ok (.iload 4, 2) := by decide +kernel
theorem dX9_longest_87 : decode cX9_longest 87 = .ok (.if_icmp .le 8, 3) := by decide +kernel
theorem dX9_longest_90 : decode cX9_longest 90 = .ok (.iload 6, 2) := by decide +kernel
theorem dX9_longest_92 : decode cX9_longest 92 = .ok (.goto 5, 3) := by decide +kernel
theorem dX9_longest_95 : decode cX9_longest 95 = .ok (.iload 4, 2) := by decide +kernel
theorem dX9_longest_97 : decode cX9_longest 97 = .ok (.istore 4, 2) := by decide +kernel
theorem dX9_longest_99 : decode cX9_longest 99 = .ok (.iinc 5 1, 3) := by decide +kernel
theorem dX9_longest_102 : decode cX9_longest 102 = .ok (.goto (-72), 3) := by decide +kernel
theorem dX9_longest_105 : decode cX9_longest 105 = .ok (.iload_n 2, 1) := by decide +kernel
theorem dX9_longest_106 : decode cX9_longest 106 = .ok (.ifCond .ne 7, 3) := by decide +kernel
theorem dX9_longest_109 : decode cX9_longest 109 = .ok (.iload_n 3, 1) := by decide +kernel
theorem dX9_longest_110 : decode cX9_longest 110 = .ok (.goto 5, 3) := by decide +kernel
theorem dX9_longest_113 : decode cX9_longest 113 = .ok (.iload 4, 2) := by decide +kernel
theorem dX9_longest_115 : decode cX9_longest 115 = .ok (.ireturn, 1) := by decide +kernel
set_option maxRecDepth 20000 in
theorem ggX9_ageAt_X9_isDown : GoodIn wsX9_ageAt wsX9_isDown := goodIn_r _ [6, 1, 7, 8, 9, 10, 11, 12, 13, 14, 15, 16, 17, 18, 19, 20, 21, 22, 23, 24, 25, 26, 27, 28, 29, 30, 31, 32, 33, 34, 35, 36, 37, 38, 39, 40, 41, 42, 43, 44] (by decide +kernel) (by decide +kernel)
set_option maxRecDepth 20000 in
theorem gX9_ageAt_X9_isDown : GoodIn wsX9_ageAt (wsV RX9 171 RX9 yX9_isDown wsX9_isDown) := goodIn_app (goodIn_of _ (by decide +kernel)) ggX9_ageAt_X9_isDown
theorem dX9_ageAt_0 : decode cX9_ageAt 0 = .ok (.aload_n 0, 1) := by decide +kernel
theorem dX9_ageAt_1 : decode cX9_ageAt 1 = .ok (.iload_n 1, 1) := by decide +kernel
theorem dX9_ageAt_2 : decode cX9_ageAt 2 = .ok (.invokevirtual 171, 3) := by decide +kernel
theorem dX9_ageAt_5 : decode cX9_ageAt 5 = .ok (.ifCond .eq 15, 3) := by decide +kernel
theorem dX9_ageAt_8 : decode cX9_ageAt 8 = .ok (.aload_n 0, 1) := by decide +kernel
theorem dX9_ageAt_9 : decode cX9_ageAt 9 = .ok (.getfield 50, 3) := by decide +kernel
theorem dX9_ageAt_12 : decode cX9_ageAt 12 = .ok (.bipush 13, 2) := by decide +kernel
theorem dX9_ageAt_14 : decode cX9_ageAt 14 = .ok (.iload_n 1, 1) := by decide +kernel
theorem dX9_ageAt_15 : decode cX9_ageAt 15 = .ok (.iadd, 1) := by decide +kernel
theorem dX9_ageAt_16 : decode cX9_ageAt 16 = .ok (.iaload, 1) := by decide +kernel
theorem dX9_ageAt_17 : decode cX9_ageAt 17 = .ok (.goto 9, 3) := by decide +kernel
theorem dX9_ageAt_20 : decode cX9_ageAt 20 = .ok (.aload_n 0, 1) := by decide +kernel
theorem dX9_ageAt_21 : decode cX9_ageAt 21 = .ok (.getfield 50, 3) := by decide +kernel
theorem dX9_ageAt_24 : decode cX9_ageAt 24 = .ok (.iconst 0, 1) := by decide +kernel
theorem dX9_ageAt_25 : decode cX9_ageAt 25 = .ok (.iaload, 1) := by decide +kernel
theorem dX9_ageAt_26 : decode cX9_ageAt 26 = .ok (.istore_n 3, 1) := by decide +kernel
theorem dX9_ageAt_27 : decode cX9_ageAt 27 = .ok (.aload_n 0, 1) := by decide +kernel
theorem dX9_ageAt_28 : decode cX9_ageAt 28 = .ok (.getfield 50, 3) := by decide +kernel
theorem dX9_ageAt_31 : decode cX9_ageAt 31 = .ok (.iconst 1, 1) := by decide +kernel
theorem dX9_ageAt_32 : decode cX9_ageAt 32 = .ok (.iload_n 1, 1) := by decide +kernel
theorem dX9_ageAt_33 : decode cX9_ageAt 33 = .ok (.iadd, 1) := by decide +kernel
theorem dX9_ageAt_34 : decode cX9_ageAt 34 = .ok (.iaload, 1) := by decide +kernel
theorem dX9_ageAt_35 : decode cX9_ageAt 35 = .ok (.iload_n 2, 1) := by decide +kernel
theorem dX9_ageAt_36 : decode cX9_ageAt 36 = .ok (.iadd, 1) := by decide +kernel
theorem dX9_ageAt_37 : decode cX9_ageAt 37 = .ok (.iload_n 3, 1) := by decide +kernel
theorem dX9_ageAt_38 : decode cX9_ageAt 38 = .ok (.isub, 1) := by decide +kernel
theorem dX9_ageAt_39 : decode cX9_ageAt 39 = .ok (.ireturn, 1) := by decide +kernel
set_option maxRecDepth 20000 in
theorem ggX9_meeting_X9_isPerson : GoodIn wsX9_meeting wsX9_isPerson := goodIn_r _ [8, 9, 10, 11, 7, 12, 21, 22, 23, 24, 25, 26, 27, 28, 29, 30, 31, 32, 33, 34, 35, 36, 37, 38, 39, 40, 41, 42, 43, 44, 45, 46, 47, 48, 49, 50, 51, 52, 53, 54, 55, 56, 57, 58] (by decide +kernel) (by decide +kernel)
set_option maxRecDepth 20000 in
theorem gX9_meeting_X9_isPerson : GoodIn wsX9_meeting (wsV RX9 184 RX9 yX9_isPerson wsX9_isPerson) := goodIn_app (goodIn_of _ (by decide +kernel)) ggX9_meeting_X9_isPerson
set_option maxRecDepth 20000 in
theorem ggX9_meeting_X9_in : GoodIn wsX9_meeting wsX9_in := goodIn_r _ [12] (by decide +kernel) (by decide +kernel)
set_option maxRecDepth 20000 in
theorem gX9_meeting_X9_in : GoodIn wsX9_meeting (va_wsS RX9 95 yX9_in wsX9_in) := goodIn_app (goodIn_of _ (by decide +kernel)) ggX9_meeting_X9_in
set_option maxRecDepth 20000 in
theorem ggX9_meeting_X9_isDown : GoodIn wsX9_meeting wsX9_isDown := goodIn_r _ [16, 3, 21, 22, 23, 24, 25, 26, 27, 28, 29, 30, 31, 32, 33, 34, 35, 36, 37, 38, 39, 40, 41, 42, 43, 44, 45, 46, 47, 48, 49, 50, 51, 52, 53, 54, 55, 56, 57, 58] (by decide +kernel) (by decide +kernel)
set_option maxRecDepth 20000 in
theorem gX9_meeting_X9_isDown : GoodIn wsX9_meeting (wsV RX9 171 RX9 yX9_isDown wsX9_isDown) := goodIn_app (goodIn_of _ (by decide +kernel)) ggX9_meeting_X9_isDown
set_option maxRecDepth 20000 in
theorem ggX9_meeting_X9_ageAt : GoodIn wsX9_meeting wsX9_ageAt := goodIn_r _ [20, 3, 13, 14, 15, 7, 16, 21, 22, 23, 24, 25, 26, 27, 28, 29, 30, 31, 32, 33, 34, 35, 36, 37, 38, 39, 40, 41, 42, 43, 44, 45, 46, 47, 48, 49, 50, 51, 52, 53, 54, 55, 56, 57, 58] (by decide +kernel) (by decide +kernel)
set_option maxRecDepth 20000 in
theorem gX9_meeting_X9_ageAt : GoodIn wsX9_meeting (wsV RX9 248 RX9 yX9_ageAt wsX9_ageAt) := goodIn_app (goodIn_of _ (by decide +kernel)) ggX9_meeting_X9_ageAt
theorem dX9_meeting_0 : decode cX9_meeting 0 = .ok (.aload_n 0, 1) := by decide +kernel
theorem dX9_meeting_1 : decode cX9_meeting 1 = .ok (.iload_n 1, 1) := by decide +kernel
theorem dX9_meeting_2 : decode cX9_meeting 2 = .ok (.invokevirtual 184, 3) := by decide +kernel
theorem dX9_meeting_5 : decode cX9_meeting 5 = .ok (.ifCond .eq 16, 3) := by decide +kernel
theorem dX9_meeting_8 : decode cX9_meeting 8 = .ok (.aload_n 0, 1) := by decide +kernel
theorem dX9_meeting_9 : decode cX9_meeting 9 = .ok (.iload_n 2, 1) := by decide +kernel
theorem dX9_meeting_10 : decode cX9_meeting 10 = .ok (.invokevirtual 184, 3) := by decide +kernel
theorem dX9_meeting_13 : decode cX9_meeting 13 = .ok (.ifCond .eq 8, 3) := by decide +kernel
theorem dX9_meeting_16 : decode cX9_meeting 16 = .ok (.iload_n 1, 1) := by decide +kernel
theorem dX9_meeting_17 : decode cX9_meeting 17 = .ok (.iload_n 2, 1) := by decide +kernel
theorem dX9_meeting_18 : decode cX9_meeting 18 = .ok (.if_icmp .ne 6, 3) := by decide +kernel
theorem dX9_meeting_21 : decode cX9_meeting 21 = .ok (.ldc 180, 2) := by decide +kernel
theorem dX9_meeting_23 : decode cX9_meeting 23 = .ok (.ireturn, 1) := by decide +kernel
theorem dX9_meeting_24 : decode cX9_meeting 24 = .ok (.iload_n 3, 1) := by decide +kernel
theorem dX9_meeting_25 : decode cX9_meeting 25 = .ok (.iconst 0, 1) := by decide +kernel
theorem dX9_meeting_26 : decode cX9_meeting 26 = .ok (.iconst 2, 1) := by decide +kernel
theorem dX9_meeting_27 : decode cX9_meeting 27 = .ok (.invokestatic 95, 3) := by decide +kernel
theorem dX9_meeting_30 : decode cX9_meeting 30 = .ok (.ifCond .ne 6, 3) := by decide +kernel
theorem dX9_meeting_33 : decode cX9_meeting 33 = .ok (.ldc 99, 2) := by decide +kernel
theorem dX9_meeting_35 : decode cX9_meeting 35 = .ok (.ireturn, 1) := by decide +kernel
theorem dX9_meeting_36 : decode cX9_meeting 36 = .ok (.aload_n 0, 1) := by decide +kernel
theorem dX9_meeting_37 : decode cX9_meeting 37 = .ok (.getfield 50, 3) := by decide +kernel
theorem dX9_meeting_40 : decode cX9_meeting 40 = .ok (.iconst 0, 1) := by decide +kernel
theorem dX9_meeting_41 : decode cX9_meeting 41 = .ok (.iaload, 1) := by decide +kernel
theorem dX9_meeting_42 : decode cX9_meeting 42 = .ok (.istore 4, 2) := by decide +kernel
theorem dX9_meeting_44 : decode cX9_meeting 44 = .ok (.aload_n 0, 1) := by decide +kernel
theorem dX9_meeting_45 : decode cX9_meeting 45 = .ok (.iload_n 1, 1) := by decide +kernel
theorem dX9_meeting_46 : decode cX9_meeting 46 = .ok (.invokevirtual 171, 3) := by decide +kernel
theorem dX9_meeting_49 : decode cX9_meeting 49 = .ok (.ifCond .eq 29, 3) := by decide +kernel
theorem dX9_meeting_52 : decode cX9_meeting 52 = .ok (.aload_n 0, 1) := by decide +kernel
theorem dX9_meeting_53 : decode cX9_meeting 53 = .ok (.getfield 50, 3) := by decide +kernel
theorem dX9_meeting_56 : decode cX9_meeting 56 = .ok (.bipush 13, 2) := by decide +kernel
theorem dX9_meeting_58 : decode cX9_meeting 58 = .ok (.iload_n 1, 1) := by decide +kernel
theorem dX9_meeting_59 : decode cX9_meeting 59 = .ok (.iadd, 1) := by decide +kernel
theorem dX9_meeting_60 : decode cX9_meeting 60 = .ok (.iaload, 1) := by decide +kernel
theorem dX9_meeting_61 : decode cX9_meeting 61 = .ok (.iload 4, 2) := by decide +kernel
theorem dX9_meeting_63 : decode cX9_meeting 63 = .ok (.if_icmp .le 15, 3) := by decide +kernel
theorem dX9_meeting_66 : decode cX9_meeting 66 = .ok (.aload_n 0, 1) := by decide +kernel
theorem dX9_meeting_67 : decode cX9_meeting 67 = .ok (.getfield 50, 3) := by decide +kernel
theorem dX9_meeting_70 : decode cX9_meeting 70 = .ok (.bipush 13, 2) := by decide +kernel
theorem dX9_meeting_72 : decode cX9_meeting 72 = .ok (.iload_n 1, 1) := by decide +kernel
theorem dX9_meeting_73 : decode cX9_meeting 73 = .ok (.iadd, 1) := by decide +kernel
theorem dX9_meeting_74 : decode cX9_meeting 74 = .ok (.iaload, 1) := by decide +kernel
theorem dX9_meeting_75 : decode cX9_meeting 75 = .ok (.goto 5, 3) := by decide +kernel
theorem dX9_meeting_78 : decode cX9_meeting 78 = .ok (.iload 4, 2) := by decide +kernel
theorem dX9_meeting_80 : decode cX9_meeting 80 = .ok (.istore 4, 2) := by decide +kernel
theorem dX9_meeting_82 : decode cX9_meeting 82 = .ok (.aload_n 0, 1) := by decide +kernel
theorem dX9_meeting_83 : decode cX9_meeting 83 = .ok (.iload_n 2, 1) := by decide +kernel
theorem dX9_meeting_84 : decode cX9_meeting 84 = .ok (.invokevirtual 171, 3) := by decide +kernel
theorem dX9_meeting_87 : decode cX9_meeting 87 = .ok (.ifCond .eq 29, 3) := by decide +kernel
theorem dX9_meeting_90 : decode cX9_meeting 90 = .ok (.aload_n 0, 1) := by decide +kernel
theorem dX9_meeting_91 : decode cX9_meeting 91 = .ok (.getfield 50, 3) := by decide +kernel
theorem dX9_meeting_94 : decode cX9_meeting 94 = .ok (.bipush 13, 2) := by decide +kernel
theorem dX9_meeting_96 : decode cX9_meeting 96 = .ok (.iload_n 2, 1) := by decide +kernel
theorem dX9_meeting_97 : decode cX9_meeting 97 = .ok (.iadd, 1) := by decide +kernel
theorem dX9_meeting_98 : decode cX9_meeting 98 = .ok (.iaload, 1) := by decide +kernel
theorem dX9_meeting_99 : decode cX9_meeting 99 = .ok (.iload 4, 2) := by decide +kernel
theorem dX9_meeting_101 : decode cX9_meeting 101 = .ok (.if_icmp .le 15, 3) := by decide +kernel
theorem dX9_meeting_104 : decode cX9_meeting 104 = .ok (.aload_n 0, 1) := by decide +kernel
theorem dX9_meeting_105 : decode cX9_meeting 105 = .ok (.getfield 50, 3) := by decide +kernel
theorem dX9_meeting_108 : decode cX9_meeting 108 = .ok (.bipush 13, 2) := by decide +kernel
theorem dX9_meeting_110 : decode cX9_meeting 110 = .ok (.iload_n 2, 1) := by decide +kernel
theorem dX9_meeting_111 : decode cX9_meeting 111 = .ok (.iadd, 1) := by decide +kernel
theorem dX9_meeting_112 : decode cX9_meeting 112 = .ok (.iaload, 1) := by decide +kernel
theorem dX9_meeting_113 : decode cX9_meeting 113 = .ok (.goto 5, 3) := by decide +kernel
theorem dX9_meeting_116 : decode cX9_meeting 116 = .ok (.iload 4, 2) := by decide +kernel
theorem dX9_meeting_118 : decode cX9_meeting 118 = .ok (.istore 4, 2) := by decide +kernel
theorem dX9_meeting_120 : decode cX9_meeting 120 = .ok (.iload_n 3, 1) := by decide +kernel
theorem dX9_meeting_121 : decode cX9_meeting 121 = .ok (.ifCond .ne 8, 3) := by decide +kernel
theorem dX9_meeting_124 : decode cX9_meeting 124 = .ok (.iload 4, 2) := by decide +kernel
theorem dX9_meeting_126 : decode cX9_meeting 126 = .ok (.goto 19, 3) := by decide +kernel
theorem dX9_meeting_129 : decode cX9_meeting 129 = .ok (.aload_n 0, 1) := by decide +kernel
theorem dX9_meeting_130 : decode cX9_meeting 130 = .ok (.iload_n 3, 1) := by decide +kernel
theorem dX9_meeting_131 : decode cX9_meeting 131 = .ok (.iconst 1, 1) := by decide +kernel
theorem dX9_meeting_132 : decode cX9_meeting 132 = .ok (.if_icmp .ne 7, 3) := by decide +kernel
theorem dX9_meeting_135 : decode cX9_meeting 135 = .ok (.iload_n 1, 1) := by decide +kernel
theorem dX9_meeting_136 : decode cX9_meeting 136 = .ok (.goto 4, 3) := by decide +kernel
theorem dX9_meeting_139 : decode cX9_meeting 139 = .ok (.iload_n 2, 1) := by decide +kernel
theorem dX9_meeting_140 : decode cX9_meeting 140 = .ok (.iload 4, 2) := by decide +kernel
theorem dX9_meeting_142 : decode cX9_meeting 142 = .ok (.invokevirtual 248, 3) := by decide +kernel
theorem dX9_meeting_145 : decode cX9_meeting 145 = .ok (.ireturn, 1) := by decide +kernel
set_option maxRecDepth 20000 in
theorem ggX9_sum_X9_isPerson : GoodIn wsX9_sum wsX9_isPerson := goodIn_r _ [9, 10, 11, 12, 8, 13, 22, 23, 24, 25, 26, 27, 28, 29, 30, 31, 32, 33, 34, 35, 36, 37, 38, 39, 40, 41, 42, 43, 44, 45, 46, 47, 48, 49, 50, 51, 52, 53, 54, 55, 56, 57, 58, 59] (by decide +kernel) (by decide +kernel)
set_option maxRecDepth 20000 in
theorem gX9_sum_X9_isPerson : GoodIn wsX9_sum (wsV RX9 184 RX9 yX9_isPerson wsX9_isPerson) := goodIn_app (goodIn_of _ (by decide +kernel)) ggX9_sum_X9_isPerson
set_option maxRecDepth 20000 in
theorem ggX9_sum_X9_in : GoodIn wsX9_sum wsX9_in := goodIn_r _ [13] (by decide +kernel) (by decide +kernel)
set_option maxRecDepth 20000 in
theorem gX9_sum_X9_in : GoodIn wsX9_sum (va_wsS RX9 95 yX9_in wsX9_in) := goodIn_app (goodIn_of _ (by decide +kernel)) ggX9_sum_X9_in
set_option maxRecDepth 20000 in
theorem ggX9_sum_X9_grown : GoodIn wsX9_sum wsX9_grown := goodIn_r _ [17, 18, 19, 20, 21, 22, 23, 24, 25, 26, 27, 28, 29, 30, 31, 32, 33, 34, 35, 36, 37, 38, 39, 40, 41, 42, 43, 44, 45, 46, 47, 48, 49, 50, 51, 52, 53, 54, 55, 56, 57, 58, 59] (by decide +kernel) (by decide +kernel)
set_option maxRecDepth 20000 in
theorem gX9_sum_X9_grown : GoodIn wsX9_sum (wsV RX9 207 RX9 yX9_grown wsX9_grown) := goodIn_app (goodIn_of _ (by decide +kernel)) ggX9_sum_X9_grown
theorem dX9_sum_0 : decode cX9_sum 0 = .ok (.aload_n 0, 1) := by decide +kernel
theorem dX9_sum_1 : decode cX9_sum 1 = .ok (.iload_n 1, 1) := by decide +kernel
theorem dX9_sum_2 : decode cX9_sum 2 = .ok (.invokevirtual 184, 3) := by decide +kernel
theorem dX9_sum_5 : decode cX9_sum 5 = .ok (.ifCond .ne 6, 3) := by decide +kernel
theorem dX9_sum_8 : decode cX9_sum 8 = .ok (.ldc 180, 2) := by decide +kernel
theorem dX9_sum_10 : decode cX9_sum 10 = .ok (.ireturn, 1) := by decide +kernel
theorem dX9_sum_11 : decode cX9_sum 11 = .ok (.iload_n 2, 1) := by decide +kernel
theorem dX9_sum_12 : decode cX9_sum 12 = .ok (.aload_n 0, 1) := by decide +kernel
theorem dX9_sum_13 : decode cX9_sum 13 = .ok (.getfield 50, 3) := by decide +kernel
theorem dX9_sum_16 : decode cX9_sum 16 = .ok (.iconst 0, 1) := by decide +kernel
theorem dX9_sum_17 : decode cX9_sum 17 = .ok (.iaload, 1) := by decide +kernel
theorem dX9_sum_18 : decode cX9_sum 18 = .ok (.ldc 210, 2) := by decide +kernel
theorem dX9_sum_20 : decode cX9_sum 20 = .ok (.invokestatic 95, 3) := by decide +kernel
theorem dX9_sum_23 : decode cX9_sum 23 = .ok (.ifCond .ne 6, 3) := by decide +kernel
theorem dX9_sum_26 : decode cX9_sum 26 = .ok (.ldc 99, 2) := by decide +kernel
theorem dX9_sum_28 : decode cX9_sum 28 = .ok (.ireturn, 1) := by decide +kernel
theorem dX9_sum_29 : decode cX9_sum 29 = .ok (.aload_n 0, 1) := by decide +kernel
theorem dX9_sum_30 : decode cX9_sum 30 = .ok (.getfield 50, 3) := by decide +kernel
theorem dX9_sum_33 : decode cX9_sum 33 = .ok (.bipush 7, 2) := by decide +kernel
theorem dX9_sum_35 : decode cX9_sum 35 = .ok (.iload_n 1, 1) := by decide +kernel
theorem dX9_sum_36 : decode cX9_sum 36 = .ok (.iadd, 1) := by decide +kernel
theorem dX9_sum_37 : decode cX9_sum 37 = .ok (.iaload, 1) := by decide +kernel
theorem dX9_sum_38 : decode cX9_sum 38 = .ok (.istore_n 3, 1) := by decide +kernel
theorem dX9_sum_39 : decode cX9_sum 39 = .ok (.aload_n 0, 1) := by decide +kernel
theorem dX9_sum_40 : decode cX9_sum 40 = .ok (.getfield 50, 3) := by decide +kernel
theorem dX9_sum_43 : decode cX9_sum 43 = .ok (.iconst 0, 1) := by decide +kernel
theorem dX9_sum_44 : decode cX9_sum 44 = .ok (.iaload, 1) := by decide +kernel
theorem dX9_sum_45 : decode cX9_sum 45 = .ok (.bipush 60, 2) := by decide +kernel
theorem dX9_sum_47 : decode cX9_sum 47 = .ok (.idiv, 1) := by decide +kernel
theorem dX9_sum_48 : decode cX9_sum 48 = .ok (.istore 4, 2) := by decide +kernel
theorem dX9_sum_50 : decode cX9_sum 50 = .ok (.iload 4, 2) := by decide +kernel
theorem dX9_sum_52 : decode cX9_sum 52 = .ok (.iload_n 2, 1) := by decide +kernel
theorem dX9_sum_53 : decode cX9_sum 53 = .ok (.bipush 60, 2) := by decide +kernel
theorem dX9_sum_55 : decode cX9_sum 55 = .ok (.idiv, 1) := by decide +kernel
theorem dX9_sum_56 : decode cX9_sum 56 = .ok (.if_icmp .ge 15, 3) := by decide +kernel
theorem dX9_sum_59 : decode cX9_sum 59 = .ok (.aload_n 0, 1) := by decide +kernel
theorem dX9_sum_60 : decode cX9_sum 60 = .ok (.iload_n 3, 1) := by decide +kernel
theorem dX9_sum_61 : decode cX9_sum 61 = .ok (.invokevirtual 207, 3) := by decide +kernel
theorem dX9_sum_64 : decode cX9_sum 64 = .ok (.istore_n 3, 1) := by decide +kernel
theorem dX9_sum_65 : decode cX9_sum 65 = .ok (.iinc 4 1, 3) := by decide +kernel
theorem dX9_sum_68 : decode cX9_sum 68 = .ok (.goto (-18), 3) := by decide +kernel
theorem dX9_sum_71 : decode cX9_sum 71 = .ok (.iload_n 3, 1) := by decide +kernel
theorem dX9_sum_72 : decode cX9_sum 72 = .ok (.ireturn, 1) := by decide +kernel
set_option maxRecDepth 20000 in
theorem ggX9_sitOut_X9_isMouth : GoodIn wsX9_sitOut wsX9_isMouth := goodIn_r _ [11, 12, 13, 14, 15, 10, 16, 17, 18, 19, 20, 35, 36, 37, 38, 39, 40, 41, 42, 43, 44, 45, 46, 47, 48, 49, 50, 51, 52, 53, 54, 55, 56, 57, 58, 59, 60, 61, 62, 63, 64, 65, 66, 67, 68, 69, 70, 71, 72] (by decide +kernel) (by decide +kernel)
set_option maxRecDepth 20000 in
theorem gX9_sitOut_X9_isMouth : GoodIn wsX9_sitOut (wsV RX9 187 RX9 yX9_isMouth wsX9_isMouth) := goodIn_app (goodIn_of _ (by decide +kernel)) ggX9_sitOut_X9_isMouth
set_option maxRecDepth 20000 in
theorem ggX9_sitOut_X9_findSpans : GoodIn wsX9_sitOut wsX9_findSpans := goodIn_r _ [24, 17, 6, 25, 26, 27, 28, 10, 29, 30, 31, 32, 33, 34, 35, 36, 37, 38, 39, 40, 41, 42, 43, 44, 45, 46, 47, 48, 49, 50, 51, 52, 53, 54, 55, 56, 57, 58, 59, 60, 61, 62, 63, 64, 65, 66, 67, 68, 69, 70, 71, 72] (by decide +kernel) (by decide +kernel)
set_option maxRecDepth 20000 in
theorem gX9_sitOut_X9_findSpans : GoodIn wsX9_sitOut (wsV RX9 234 RX9 yX9_findSpans wsX9_findSpans) := goodIn_app (goodIn_of _ (by decide +kernel)) ggX9_sitOut_X9_findSpans
set_option maxRecDepth 20000 in
theorem ggX9_sitOut_X9_index : GoodIn wsX9_sitOut wsX9_index := goodIn_r _ [29] (by decide +kernel) (by decide +kernel)
set_option maxRecDepth 20000 in
theorem gX9_sitOut_X9_index : GoodIn wsX9_sitOut (va_wsS RX9 228 yX9_index wsX9_index) := goodIn_app (goodIn_of _ (by decide +kernel)) ggX9_sitOut_X9_index
theorem dX9_sitOut_0 : decode cX9_sitOut 0 = .ok (.aload_n 0, 1) := by decide +kernel
theorem dX9_sitOut_1 : decode cX9_sitOut 1 = .ok (.iload_n 1, 1) := by decide +kernel
theorem dX9_sitOut_2 : decode cX9_sitOut 2 = .ok (.invokevirtual 187, 3) := by decide +kernel
theorem dX9_sitOut_5 : decode cX9_sitOut 5 = .ok (.ifCond .ne 6, 3) := by decide +kernel
theorem dX9_sitOut_8 : decode cX9_sitOut 8 = .ok (.ldc 180, 2) := by decide +kernel
theorem dX9_sitOut_10 : decode cX9_sitOut 10 = .ok (.ireturn, 1) := by decide +kernel
theorem dX9_sitOut_11 : decode cX9_sitOut 11 = .ok (.iconst (-1), 1) := by decide +kernel
theorem dX9_sitOut_12 : decode cX9_sitOut 12 = .ok (.istore_n 2, 1) := by decide +kernel
theorem dX9_sitOut_13 : decode cX9_sitOut 13 = .ok (.iconst 0, 1) := by decide +kernel
theorem dX9_sitOut_14 : decode cX9_sitOut 14 = .ok (.istore_n 3, 1) := by decide +kernel
theorem dX9_sitOut_15 : decode cX9_sitOut 15 = .ok (.iload_n 3, 1) := by decide +kernel
theorem dX9_sitOut_16 : decode cX9_sitOut 16 = .ok (.aload_n 0, 1) := by decide +kernel
theorem dX9_sitOut_17 : decode cX9_sitOut 17 = .ok (.getfield 41, 3) := by decide +kernel
theorem dX9_sitOut_20 : decode cX9_sitOut 20 = .ok (.iconst 0, 1) := by decide +kernel
theorem dX9_sitOut_21 : decode cX9_sitOut 21 = .ok (.iaload, 1) := by decide +kernel
theorem dX9_sitOut_22 : decode cX9_sitOut 22 = .ok (.if_icmp .ge 58, 3) := by decide +kernel
theorem dX9_sitOut_25 : decode cX9_sitOut 25 = .ok (.bipush 60, 2) := by decide +kernel
theorem dX9_sitOut_27 : decode cX9_sitOut 27 = .ok (.aload_n 0, 1) := by decide +kernel
theorem dX9_sitOut_28 : decode cX9_sitOut 28 = .ok (.getfield 44, 3) := by decide +kernel
theorem dX9_sitOut_31 : decode cX9_sitOut 31 = .ok (.iload_n 3, 1) := by decide +kernel
theorem dX9_sitOut_32 : decode cX9_sitOut 32 = .ok (.iaload, 1) := by decide +kernel
theorem dX9_sitOut_33 : decode cX9_sitOut 33 = .ok (.aload_n 0, 1) := by decide +kernel
theorem dX9_sitOut_34 : decode cX9_sitOut 34 = .ok (.getfield 47, 3) := by decide +kernel
theorem dX9_sitOut_37 : decode cX9_sitOut 37 = .ok (.iload_n 3, 1) := by decide +kernel
theorem dX9_sitOut_38 : decode cX9_sitOut 38 = .ok (.iaload, 1) := by decide +kernel
theorem dX9_sitOut_39 : decode cX9_sitOut 39 = .ok (.iadd, 1) := by decide +kernel
theorem dX9_sitOut_40 : decode cX9_sitOut 40 = .ok (.imul, 1) := by decide +kernel
theorem dX9_sitOut_41 : decode cX9_sitOut 41 = .ok (.istore 4, 2) := by decide +kernel
theorem dX9_sitOut_43 : decode cX9_sitOut 43 = .ok (.bipush 60, 2) := by decide +kernel
theorem dX9_sitOut_45 : decode cX9_sitOut 45 = .ok (.aload_n 0, 1) := by decide +kernel
theorem dX9_sitOut_46 : decode cX9_sitOut 46 = .ok (.getfield 44, 3) := by decide +kernel
theorem dX9_sitOut_49 : decode cX9_sitOut 49 = .ok (.iload_n 3, 1) := by decide +kernel
theorem dX9_sitOut_50 : decode cX9_sitOut 50 = .ok (.iaload, 1) := by decide +kernel
theorem dX9_sitOut_51 : decode cX9_sitOut 51 = .ok (.imul, 1) := by decide +kernel
theorem dX9_sitOut_52 : decode cX9_sitOut 52 = .ok (.aload_n 0, 1) := by decide +kernel
theorem dX9_sitOut_53 : decode cX9_sitOut 53 = .ok (.getfield 50, 3) := by decide +kernel
theorem dX9_sitOut_56 : decode cX9_sitOut 56 = .ok (.iconst 0, 1) := by decide +kernel
theorem dX9_sitOut_57 : decode cX9_sitOut 57 = .ok (.iaload, 1) := by decide +kernel
theorem dX9_sitOut_58 : decode cX9_sitOut 58 = .ok (.if_icmp .lt 14, 3) := by decide +kernel
theorem dX9_sitOut_61 : decode cX9_sitOut 61 = .ok (.iload 4, 2) := by decide +kernel
theorem dX9_sitOut_63 : decode cX9_sitOut 63 = .ok (.iload_n 2, 1) := by decide +kernel
theorem dX9_sitOut_64 : decode cX9_sitOut 64 = .ok (.if_icmp .le 8, 3) := by decide +kernel
theorem dX9_sitOut_67 : decode cX9_sitOut 67 = .ok (.iload 4, 2) := by decide +kernel
theorem dX9_sitOut_69 : decode cX9_sitOut 69 = .ok (.goto 4, 3) := by decide +kernel
theorem dX9_sitOut_72 : decode cX9_sitOut 72 = .ok (.iload_n 2, 1) := by decide +kernel
theorem dX9_sitOut_73 : decode cX9_sitOut 73 = .ok (.istore_n 2, 1) := by decide +kernel
theorem dX9_sitOut_74 : decode cX9_sitOut 74 = .ok (.iinc 3 1, 3) := by decide +kernel
theorem dX9_sitOut_77 : decode cX9_sitOut 77 = .ok (.goto (-62), 3) := by decide +kernel
theorem dX9_sitOut_80 : decode cX9_sitOut 80 = .ok (.iload_n 2, 1) := by decide +kernel
theorem dX9_sitOut_81 : decode cX9_sitOut 81 = .ok (.iconst (-1), 1) := by decide +kernel
theorem dX9_sitOut_82 : decode cX9_sitOut 82 = .ok (.if_icmp .ne 5, 3) := by decide +kernel
theorem dX9_sitOut_85 : decode cX9_sitOut 85 = .ok (.iconst 0, 1) := by decide +kernel
theorem dX9_sitOut_86 : decode cX9_sitOut 86 = .ok (.ireturn, 1) := by decide +kernel
theorem dX9_sitOut_87 : decode cX9_sitOut 87 = .ok (.aload_n 0, 1) := by decide +kernel
theorem dX9_sitOut_88 : decode cX9_sitOut 88 = .ok (.iload_n 1, 1) := by decide +kernel
theorem dX9_sitOut_89 : decode cX9_sitOut 89 = .ok (.invokevirtual 234, 3) := by decide +kernel
theorem dX9_sitOut_92 : decode cX9_sitOut 92 = .ok (.iconst 1, 1) := by decide +kernel
theorem dX9_sitOut_93 : decode cX9_sitOut 93 = .ok (.istore_n 3, 1) := by decide +kernel
theorem dX9_sitOut_94 : decode cX9_sitOut 94 = .ok (.iload_n 3, 1) := by decide +kernel
theorem dX9_sitOut_95 : decode cX9_sitOut 95 = .ok (.bipush 40, 2) := by decide +kernel
theorem dX9_sitOut_97 : decode cX9_sitOut 97 = .ok (.if_icmp .gt 32, 3) := by decide +kernel
theorem dX9_sitOut_100 : decode cX9_sitOut 100 = .ok (.aload_n 0, 1) := by decide +kernel
theorem dX9_sitOut_101 : decode cX9_sitOut 101 = .ok (.getfield 63, 3) := by decide +kernel
theorem dX9_sitOut_104 : decode cX9_sitOut 104 = .ok (.iload_n 3, 1) := by decide +kernel
theorem dX9_sitOut_105 : decode cX9_sitOut 105 = .ok (.iload_n 1, 1) := by decide +kernel
theorem dX9_sitOut_106 : decode cX9_sitOut 106 = .ok (.invokestatic 228, 3) := by decide +kernel
theorem dX9_sitOut_109 : decode cX9_sitOut 109 = .ok (.iaload, 1) := by decide +kernel
theorem dX9_sitOut_110 : decode cX9_sitOut 110 = .ok (.iload_n 2, 1) := by decide +kernel
theorem dX9_sitOut_111 : decode cX9_sitOut 111 = .ok (.aload_n 0, 1) := by decide +kernel
theorem dX9_sitOut_112 : decode cX9_sitOut 112 = .ok (.getfield 50, 3) := by decide +kernel
theorem dX9_sitOut_115 : decode cX9_sitOut 115 = .ok (.iconst 0, 1) := by decide +kernel
theorem dX9_sitOut_116 : decode cX9_sitOut 116 = .ok (.iaload, 1) := by decide +kernel
theorem dX9_sitOut_117 : decode cX9_sitOut 117 = .ok (.isub, 1) := by decide +kernel
theorem dX9_sitOut_118 : decode cX9_sitOut 118 = .ok (.if_icmp .lt 5, 3) := by decide +kernel
theorem dX9_sitOut_121 : decode cX9_sitOut 121 = .ok (.iload_n 3, 1) := by decide +kernel
theorem dX9_sitOut_122 : decode cX9_sitOut 122 = .ok (.ireturn, 1) := by decide +kernel
theorem dX9_sitOut_123 : decode cX9_sitOut 123 = .ok (.iinc 3 1, 3) := by decide +kernel
theorem dX9_sitOut_126 : decode cX9_sitOut 126 = .ok (.goto (-32), 3) := by decide +kernel
theorem dX9_sitOut_129 : decode cX9_sitOut 129 = .ok (.iconst (-1), 1) := by decide +kernel
theorem dX9_sitOut_130 : decode cX9_sitOut 130 = .ok (.ireturn, 1) := by decide +kernel
set_option maxRecDepth 20000 in
theorem ggX9_tryOut_X9_in : GoodIn wsX9_tryOut wsX9_in := goodIn_r _ [10] (by decide +kernel) (by decide +kernel)
set_option maxRecDepth 20000 in
theorem gX9_tryOut_X9_in : GoodIn wsX9_tryOut (va_wsS RX9 95 yX9_in wsX9_in) := goodIn_app (goodIn_of _ (by decide +kernel)) ggX9_tryOut_X9_in
theorem dX9_tryOut_0 : decode cX9_tryOut 0 = .ok (.iload_n 1, 1) := by decide +kernel
theorem dX9_tryOut_1 : decode cX9_tryOut 1 = .ok (.iconst 1, 1) := by decide +kernel
theorem dX9_tryOut_2 : decode cX9_tryOut 2 = .ok (.bipush 40, 2) := by decide +kernel
theorem dX9_tryOut_4 : decode cX9_tryOut 4 = .ok (.invokestatic 95, 3) := by decide +kernel
theorem dX9_tryOut_7 : decode cX9_tryOut 7 = .ok (.ifCond .eq 13, 3) := by decide +kernel
theorem dX9_tryOut_10 : decode cX9_tryOut 10 = .ok (.iload_n 2, 1) := by decide +kernel
theorem dX9_tryOut_11 : decode cX9_tryOut 11 = .ok (.iconst 0, 1) := by decide +kernel
theorem dX9_tryOut_12 : decode cX9_tryOut 12 = .ok (.ldc 251, 2) := by decide +kernel
theorem dX9_tryOut_14 : decode cX9_tryOut 14 = .ok (.invokestatic 95, 3) := by decide +kernel
theorem dX9_tryOut_17 : decode cX9_tryOut 17 = .ok (.ifCond .ne 6, 3) := by decide +kernel
theorem dX9_tryOut_20 : decode cX9_tryOut 20 = .ok (.ldc 99, 2) := by decide +kernel
theorem dX9_tryOut_22 : decode cX9_tryOut 22 = .ok (.ireturn, 1) := by decide +kernel
theorem dX9_tryOut_23 : decode cX9_tryOut 23 = .ok (.aload_n 0, 1) := by decide +kernel
theorem dX9_tryOut_24 : decode cX9_tryOut 24 = .ok (.getfield 162, 3) := by decide +kernel
theorem dX9_tryOut_27 : decode cX9_tryOut 27 = .ok (.bipush 10, 2) := by decide +kernel
theorem dX9_tryOut_29 : decode cX9_tryOut 29 = .ok (.if_icmp .ne 6, 3) := by decide +kernel
theorem dX9_tryOut_32 : decode cX9_tryOut 32 = .ok (.ldc 103, 2) := by decide +kernel
theorem dX9_tryOut_34 : decode cX9_tryOut 34 = .ok (.ireturn, 1) := by decide +kernel
theorem dX9_tryOut_35 : decode cX9_tryOut 35 = .ok (.aload_n 0, 1) := by decide +kernel
theorem dX9_tryOut_36 : decode cX9_tryOut 36 = .ok (.getfield 73, 3) := by decide +kernel
theorem dX9_tryOut_39 : decode cX9_tryOut 39 = .ok (.aload_n 0, 1) := by decide +kernel
theorem dX9_tryOut_40 : decode cX9_tryOut 40 = .ok (.getfield 162, 3) := by decide +kernel
theorem dX9_tryOut_43 : decode cX9_tryOut 43 = .ok (.iload_n 1, 1) := by decide +kernel
theorem dX9_tryOut_44 : decode cX9_tryOut 44 = .ok (.iastore, 1) := by decide +kernel
theorem dX9_tryOut_45 : decode cX9_tryOut 45 = .ok (.aload_n 0, 1) := by decide +kernel
theorem dX9_tryOut_46 : decode cX9_tryOut 46 = .ok (.getfield 76, 3) := by decide +kernel
theorem dX9_tryOut_49 : decode cX9_tryOut 49 = .ok (.aload_n 0, 1) := by decide +kernel
theorem dX9_tryOut_50 : decode cX9_tryOut 50 = .ok (.getfield 162, 3) := by decide +kernel
theorem dX9_tryOut_53 : decode cX9_tryOut 53 = .ok (.iload_n 2, 1) := by decide +kernel
theorem dX9_tryOut_54 : decode cX9_tryOut 54 = .ok (.iastore, 1) := by decide +kernel
theorem dX9_tryOut_55 : decode cX9_tryOut 55 = .ok (.aload_n 0, 1) := by decide +kernel
theorem dX9_tryOut_56 : decode cX9_tryOut 56 = .ok (.dup, 1) := by decide +kernel
theorem dX9_tryOut_57 : decode cX9_tryOut 57 = .ok (.getfield 162, 3) := by decide +kernel
theorem dX9_tryOut_60 : decode cX9_tryOut 60 = .ok (.iconst 1, 1) := by decide +kernel
theorem dX9_tryOut_61 : decode cX9_tryOut 61 = .ok (.iadd, 1) := by decide +kernel
theorem dX9_tryOut_62 : decode cX9_tryOut 62 = .ok (.putfield 162, 3) := by decide +kernel
theorem dX9_tryOut_65 : decode cX9_tryOut 65 = .ok (.aload_n 0, 1) := by decide +kernel
theorem dX9_tryOut_66 : decode cX9_tryOut 66 = .ok (.getfield 162, 3) := by decide +kernel
theorem dX9_tryOut_69 : decode cX9_tryOut 69 = .ok (.ireturn, 1) := by decide +kernel
theorem dX9_fits_0 : decode cX9_fits 0 = .ok (.iconst 0, 1) := by decide +kernel
theorem dX9_fits_1 : decode cX9_fits 1 = .ok (.istore_n 1, 1) := by decide +kernel
theorem dX9_fits_2 : decode cX9_fits 2 = .ok (.iconst 0, 1) := by decide +kernel
theorem dX9_fits_3 : decode cX9_fits 3 = .ok (.istore_n 2, 1) := by decide +kernel
theorem dX9_fits_4 : decode cX9_fits 4 = .ok (.iload_n 2, 1) := by decide +kernel
theorem dX9_fits_5 : decode cX9_fits 5 = .ok (.aload_n 0, 1) := by decide +kernel
theorem dX9_fits_6 : decode cX9_fits 6 = .ok (.getfield 13, 3) := by decide +kernel
theorem dX9_fits_9 : decode cX9_fits 9 = .ok (.iconst 0, 1) := by decide +kernel
theorem dX9_fits_10 : decode cX9_fits 10 = .ok (.iaload, 1) := by decide +kernel
theorem dX9_fits_11 : decode cX9_fits 11 = .ok (.if_icmp .ge 77, 3) := by decide +kernel
theorem dX9_fits_14 : decode cX9_fits 14 = .ok (.iconst 1, 1) := by decide +kernel
theorem dX9_fits_15 : decode cX9_fits 15 = .ok (.istore_n 3, 1) := by decide +kernel
theorem dX9_fits_16 : decode cX9_fits 16 = .ok (.iconst 0, 1) := by decide +kernel
theorem dX9_fits_17 : decode cX9_fits 17 = .ok (.istore 4, 2) := by decide +kernel
theorem dX9_fits_19 : decode cX9_fits 19 = .ok (.iload 4, 2) := by decide +kernel
theorem dX9_fits_21 : decode cX9_fits 21 = .ok (.aload_n 0, 1) := by decide +kernel
theorem dX9_fits_22 : decode cX9_fits 22 = .ok (.getfield 162, 3) := by decide +kernel
theorem dX9_fits_25 : decode cX9_fits 25 = .ok (.if_icmp .ge 43, 3) := by decide +kernel
theorem dX9_fits_28 : decode cX9_fits 28 = .ok (.iload_n 3, 1) := by decide +kernel
theorem dX9_fits_29 : decode cX9_fits 29 = .ok (.ifCond .eq 31, 3) := by decide +kernel
theorem dX9_fits_32 : decode cX9_fits 32 = .ok (.aload_n 0, 1) := by decide +kernel
theorem dX9_fits_33 : decode cX9_fits 33 = .ok (.getfield 73, 3) := by decide +kernel
theorem dX9_fits_36 : decode cX9_fits 36 = .ok (.iload 4, 2) := by decide +kernel
theorem dX9_fits_38 : decode cX9_fits 38 = .ok (.iaload, 1) := by decide +kernel
theorem dX9_fits_39 : decode cX9_fits 39 = .ok (.aload_n 0, 1) := by decide +kernel
theorem dX9_fits_40 : decode cX9_fits 40 = .ok (.getfield 17, 3) := by decide +kernel
theorem dX9_fits_43 : decode cX9_fits 43 = .ok (.iload_n 2, 1) := by decide +kernel
theorem dX9_fits_44 : decode cX9_fits 44 = .ok (.iaload, 1) := by decide +kernel
theorem dX9_fits_45 : decode cX9_fits 45 = .ok (.imul, 1) := by decide +kernel
theorem dX9_fits_46 : decode cX9_fits 46 = .ok (.aload_n 0, 1) := by decide +kernel
theorem dX9_fits_47 : decode cX9_fits 47 = .ok (.getfield 76, 3) := by decide +kernel
theorem dX9_fits_50 : decode cX9_fits 50 = .ok (.iload 4, 2) := by decide +kernel
theorem dX9_fits_52 : decode cX9_fits 52 = .ok (.iaload, 1) := by decide +kernel
theorem dX9_fits_53 : decode cX9_fits 53 = .ok (.if_icmp .ne 7, 3) := by decide +kernel
theorem dX9_fits_56 : decode cX9_fits 56 = .ok (.iconst 1, 1) := by decide +kernel
theorem dX9_fits_57 : decode cX9_fits 57 = .ok (.goto 4, 3) := by decide +kernel
theorem dX9_fits_60 : decode cX9_fits 60 = .ok (.iconst 0, 1) := by decide +kernel
theorem dX9_fits_61 : decode cX9_fits 61 = .ok (.istore_n 3, 1) := by decide +kernel
theorem dX9_fits_62 : decode cX9_fits 62 = .ok (.iinc 4 1, 3) := by decide +kernel
theorem dX9_fits_65 : decode cX9_fits 65 = .ok (.goto (-46), 3) := by decide +kernel
theorem dX9_fits_68 : decode cX9_fits 68 = .ok (.iload_n 1, 1) := by decide +kernel
theorem dX9_fits_69 : decode cX9_fits 69 = .ok (.iload_n 3, 1) := by decide +kernel
theorem dX9_fits_70 : decode cX9_fits 70 = .ok (.ifCond .eq 9, 3) := by decide +kernel
theorem dX9_fits_73 : decode cX9_fits 73 = .ok (.iconst 1, 1) := by decide +kernel
theorem dX9_fits_74 : decode cX9_fits 74 = .ok (.iload_n 2, 1) := by decide +kernel
theorem dX9_fits_75 : decode cX9_fits 75 = .ok (.ishl, 1) := by decide +kernel
theorem dX9_fits_76 : decode cX9_fits 76 = .ok (.goto 4, 3) := by decide +kernel
theorem dX9_fits_79 : decode cX9_fits 79 = .ok (.iconst 0, 1) := by decide +kernel
theorem dX9_fits_80 : decode cX9_fits 80 = .ok (.ior, 1) := by decide +kernel
theorem dX9_fits_81 : decode cX9_fits 81 = .ok (.istore_n 1, 1) := by decide +kernel
theorem dX9_fits_82 : decode cX9_fits 82 = .ok (.iinc 2 1, 3) := by decide +kernel
theorem dX9_fits_85 : decode cX9_fits 85 = .ok (.goto (-81), 3) := by decide +kernel
theorem dX9_fits_88 : decode cX9_fits 88 = .ok (.iload_n 1, 1) := by decide +kernel
theorem dX9_fits_89 : decode cX9_fits 89 = .ok (.ireturn, 1) := by decide +kernel
set_option maxRecDepth 20000 in
theorem ggX9_line_X9_in : GoodIn wsX9_line wsX9_in := goodIn_r _ [9] (by decide +kernel) (by decide +kernel)
set_option maxRecDepth 20000 in
theorem gX9_line_X9_in : GoodIn wsX9_line (va_wsS RX9 95 yX9_in wsX9_in) := goodIn_app (goodIn_of _ (by decide +kernel)) ggX9_line_X9_in
theorem dX9_line_0 : decode cX9_line 0 = .ok (.iload_n 1, 1) := by decide +kernel
theorem dX9_line_1 : decode cX9_line 1 = .ok (.iconst 0, 1) := by decide +kernel
theorem dX9_line_2 : decode cX9_line 2 = .ok (.sipush 500, 3) := by decide +kernel
theorem dX9_line_5 : decode cX9_line 5 = .ok (.invokestatic 95, 3) := by decide +kernel
theorem dX9_line_8 : decode cX9_line 8 = .ok (.ifCond .eq 14, 3) := by decide +kernel
theorem dX9_line_11 : decode cX9_line 11 = .ok (.iload_n 2, 1) := by decide +kernel
theorem dX9_line_12 : decode cX9_line 12 = .ok (.iconst 0, 1) := by decide +kernel
theorem dX9_line_13 : decode cX9_line 13 = .ok (.sipush 200, 3) := by decide +kernel
theorem dX9_line_16 : decode cX9_line 16 = .ok (.invokestatic 95, 3) := by decide +kernel
theorem dX9_line_19 : decode cX9_line 19 = .ok (.ifCond .ne 6, 3) := by decide +kernel
theorem dX9_line_22 : decode cX9_line 22 = .ok (.ldc 99, 2) := by decide +kernel
theorem dX9_line_24 : decode cX9_line 24 = .ok (.ireturn, 1) := by decide +kernel
theorem dX9_line_25 : decode cX9_line 25 = .ok (.aload_n 0, 1) := by decide +kernel
theorem dX9_line_26 : decode cX9_line 26 = .ok (.getfield 165, 3) := by decide +kernel
theorem dX9_line_29 : decode cX9_line 29 = .ok (.bipush 8, 2) := by decide +kernel
theorem dX9_line_31 : decode cX9_line 31 = .ok (.if_icmp .ne 6, 3) := by decide +kernel
theorem dX9_line_34 : decode cX9_line 34 = .ok (.ldc 103, 2) := by decide +kernel
theorem dX9_line_36 : decode cX9_line 36 = .ok (.ireturn, 1) := by decide +kernel
theorem dX9_line_37 : decode cX9_line 37 = .ok (.aload_n 0, 1) := by decide +kernel
theorem dX9_line_38 : decode cX9_line 38 = .ok (.getfield 79, 3) := by decide +kernel
theorem dX9_line_41 : decode cX9_line 41 = .ok (.aload_n 0, 1) := by decide +kernel
theorem dX9_line_42 : decode cX9_line 42 = .ok (.getfield 165, 3) := by decide +kernel
theorem dX9_line_45 : decode cX9_line 45 = .ok (.iload_n 1, 1) := by decide +kernel
theorem dX9_line_46 : decode cX9_line 46 = .ok (.iastore, 1) := by decide +kernel
theorem dX9_line_47 : decode cX9_line 47 = .ok (.aload_n 0, 1) := by decide +kernel
theorem dX9_line_48 : decode cX9_line 48 = .ok (.getfield 82, 3) := by decide +kernel
theorem dX9_line_51 : decode cX9_line 51 = .ok (.aload_n 0, 1) := by decide +kernel
theorem dX9_line_52 : decode cX9_line 52 = .ok (.getfield 165, 3) := by decide +kernel
theorem dX9_line_55 : decode cX9_line 55 = .ok (.iload_n 2, 1) := by decide +kernel
theorem dX9_line_56 : decode cX9_line 56 = .ok (.iastore, 1) := by decide +kernel
theorem dX9_line_57 : decode cX9_line 57 = .ok (.aload_n 0, 1) := by decide +kernel
theorem dX9_line_58 : decode cX9_line 58 = .ok (.dup, 1) := by decide +kernel
theorem dX9_line_59 : decode cX9_line 59 = .ok (.getfield 165, 3) := by decide +kernel
theorem dX9_line_62 : decode cX9_line 62 = .ok (.iconst 1, 1) := by decide +kernel
theorem dX9_line_63 : decode cX9_line 63 = .ok (.iadd, 1) := by decide +kernel
theorem dX9_line_64 : decode cX9_line 64 = .ok (.putfield 165, 3) := by decide +kernel
theorem dX9_line_67 : decode cX9_line 67 = .ok (.aload_n 0, 1) := by decide +kernel
theorem dX9_line_68 : decode cX9_line 68 = .ok (.getfield 165, 3) := by decide +kernel
theorem dX9_line_71 : decode cX9_line 71 = .ok (.ireturn, 1) := by decide +kernel
set_option maxRecDepth 20000 in
theorem ggX9_isOne_X9_in : GoodIn wsX9_isOne wsX9_in := goodIn_r _ [6] (by decide +kernel) (by decide +kernel)
set_option maxRecDepth 20000 in
theorem gX9_isOne_X9_in : GoodIn wsX9_isOne (va_wsS RX9 95 yX9_in wsX9_in) := goodIn_app (goodIn_of _ (by decide +kernel)) ggX9_isOne_X9_in
theorem dX9_isOne_0 : decode cX9_isOne 0 = .ok (.aload_n 0, 1) := by decide +kernel
theorem dX9_isOne_1 : decode cX9_isOne 1 = .ok (.getfield 79, 3) := by decide +kernel
theorem dX9_isOne_4 : decode cX9_isOne 4 = .ok (.iload_n 1, 1) := by decide +kernel
theorem dX9_isOne_5 : decode cX9_isOne 5 = .ok (.iaload, 1) := by decide +kernel
theorem dX9_isOne_6 : decode cX9_isOne 6 = .ok (.aload_n 0, 1) := by decide +kernel
theorem dX9_isOne_7 : decode cX9_isOne 7 = .ok (.getfield 79, 3) := by decide +kernel
theorem dX9_isOne_10 : decode cX9_isOne 10 = .ok (.iload_n 2, 1) := by decide +kernel
theorem dX9_isOne_11 : decode cX9_isOne 11 = .ok (.iaload, 1) := by decide +kernel
theorem dX9_isOne_12 : decode cX9_isOne 12 = .ok (.if_icmp .gt 7, 3) := by decide +kernel
theorem dX9_isOne_15 : decode cX9_isOne 15 = .ok (.iload_n 1, 1) := by decide +kernel
theorem dX9_isOne_16 : decode cX9_isOne 16 = .ok (.goto 4, 3) := by decide +kernel
theorem dX9_isOne_19 : decode cX9_isOne 19 = .ok (.iload_n 2, 1) := by decide +kernel
theorem dX9_isOne_20 : decode cX9_isOne 20 = .ok (.istore_n 3, 1) := by decide +kernel
theorem dX9_isOne_21 : decode cX9_isOne 21 = .ok (.iload_n 3, 1) := by decide +kernel
theorem dX9_isOne_22 : decode cX9_isOne 22 = .ok (.iload_n 1, 1) := by decide +kernel
theorem dX9_isOne_23 : decode cX9_isOne 23 = .ok (.if_icmp .ne 7, 3) := by decide +kernel
theorem dX9_isOne_26 : decode cX9_isOne 26 = .ok (.iload_n 2, 1) := by decide +kernel
theorem dX9_isOne_27 : decode cX9_isOne 27 = .ok (.goto 4, 3) := by decide +kernel
theorem dX9_isOne_30 : decode cX9_isOne 30 = .ok (.iload_n 1, 1) := by decide +kernel
theorem dX9_isOne_31 : decode cX9_isOne 31 = .ok (.istore 4, 2) := by decide +kernel
theorem dX9_isOne_33 : decode cX9_isOne 33 = .ok (.aload_n 0, 1) := by decide +kernel
theorem dX9_isOne_34 : decode cX9_isOne 34 = .ok (.getfield 82, 3) := by decide +kernel
theorem dX9_isOne_37 : decode cX9_isOne 37 = .ok (.iload 4, 2) := by decide +kernel
theorem dX9_isOne_39 : decode cX9_isOne 39 = .ok (.iaload, 1) := by decide +kernel
theorem dX9_isOne_40 : decode cX9_isOne 40 = .ok (.aload_n 0, 1) := by decide +kernel
theorem dX9_isOne_41 : decode cX9_isOne 41 = .ok (.getfield 82, 3) := by decide +kernel
theorem dX9_isOne_44 : decode cX9_isOne 44 = .ok (.iload_n 3, 1) := by decide +kernel
theorem dX9_isOne_45 : decode cX9_isOne 45 = .ok (.iaload, 1) := by decide +kernel
theorem dX9_isOne_46 : decode cX9_isOne 46 = .ok (.isub, 1) := by decide +kernel
theorem dX9_isOne_47 : decode cX9_isOne 47 = .ok (.iconst 0, 1) := by decide +kernel
theorem dX9_isOne_48 : decode cX9_isOne 48 = .ok (.aload_n 0, 1) := by decide +kernel
theorem dX9_isOne_49 : decode cX9_isOne 49 = .ok (.getfield 79, 3) := by decide +kernel
theorem dX9_isOne_52 : decode cX9_isOne 52 = .ok (.iload 4, 2) := by decide +kernel
theorem dX9_isOne_54 : decode cX9_isOne 54 = .ok (.iaload, 1) := by decide +kernel
theorem dX9_isOne_55 : decode cX9_isOne 55 = .ok (.aload_n 0, 1) := by decide +kernel
theorem dX9_isOne_56 : decode cX9_isOne 56 = .ok (.getfield 79, 3) := by decide +kernel
theorem dX9_isOne_59 : decode cX9_isOne 59 = .ok (.iload_n 3, 1) := by decide +kernel
theorem dX9_isOne_60 : decode cX9_isOne 60 = .ok (.iaload, 1) := by decide +kernel
theorem dX9_isOne_61 : decode cX9_isOne 61 = .ok (.isub, 1) := by decide +kernel
theorem dX9_isOne_62 : decode cX9_isOne 62 = .ok (.invokestatic 95, 3) := by decide +kernel
theorem dX9_isOne_65 : decode cX9_isOne 65 = .ok (.ireturn, 1) := by decide +kernel
set_option maxRecDepth 20000 in
theorem ggX9_canBeOne_X9_in : GoodIn wsX9_canBeOne wsX9_in := goodIn_r _ [6] (by decide +kernel) (by decide +kernel)
set_option maxRecDepth 20000 in
theorem gX9_canBeOne_X9_in : GoodIn wsX9_canBeOne (va_wsS RX9 95 yX9_in wsX9_in) := goodIn_app (goodIn_of _ (by decide +kernel)) ggX9_canBeOne_X9_in
set_option maxRecDepth 20000 in
theorem ggX9_canBeOne_X9_isOne : GoodIn wsX9_canBeOne wsX9_isOne := goodIn_r _ [10, 11, 12, 3, 4, 5, 6, 13, 14, 15, 16, 17, 18, 19, 20, 21, 22, 23, 24, 25, 26, 27, 28, 29, 30, 31, 32, 33, 34, 35, 36, 37, 38, 39, 40, 41, 42, 43, 44, 45, 46, 47, 48, 49, 50] (by decide +kernel) (by decide +kernel)
set_option maxRecDepth 20000 in
theorem gX9_canBeOne_X9_isOne : GoodIn wsX9_canBeOne (wsV RX9 252 RX9 yX9_isOne wsX9_isOne) := goodIn_app (goodIn_of _ (by decide +kernel)) ggX9_canBeOne_X9_isOne
theorem dX9_canBeOne_0 : decode cX9_canBeOne 0 = .ok (.iload_n 1, 1) := by decide +kernel
theorem dX9_canBeOne_1 : decode cX9_canBeOne 1 = .ok (.iconst 0, 1) := by decide +kernel
theorem dX9_canBeOne_2 : decode cX9_canBeOne 2 = .ok (.aload_n 0, 1) := by decide +kernel
theorem dX9_canBeOne_3 : decode cX9_canBeOne 3 = .ok (.getfield 165, 3) := by decide +kernel
theorem dX9_canBeOne_6 : decode cX9_canBeOne 6 = .ok (.iconst 1, 1) := by decide +kernel
theorem dX9_canBeOne_7 : decode cX9_canBeOne 7 = .ok (.isub, 1) := by decide +kernel
theorem dX9_canBeOne_8 : decode cX9_canBeOne 8 = .ok (.invokestatic 95, 3) := by decide +kernel
theorem dX9_canBeOne_11 : decode cX9_canBeOne 11 = .ok (.ifCond .eq 22, 3) := by decide +kernel
theorem dX9_canBeOne_14 : decode cX9_canBeOne 14 = .ok (.iload_n 2, 1) := by decide +kernel
theorem dX9_canBeOne_15 : decode cX9_canBeOne 15 = .ok (.iconst 0, 1) := by decide +kernel
theorem dX9_canBeOne_16 : decode cX9_canBeOne 16 = .ok (.aload_n 0, 1) := by decide +kernel
theorem dX9_canBeOne_17 : decode cX9_canBeOne 17 = .ok (.getfield 165, 3) := by decide +kernel
theorem dX9_canBeOne_20 : decode cX9_canBeOne 20 = .ok (.iconst 1, 1) := by decide +kernel
theorem dX9_canBeOne_21 : decode cX9_canBeOne 21 = .ok (.isub, 1) := by decide +kernel
theorem dX9_canBeOne_22 : decode cX9_canBeOne 22 = .ok (.invokestatic 95, 3) := by decide +kernel
theorem dX9_canBeOne_25 : decode cX9_canBeOne 25 = .ok (.ifCond .eq 8, 3) := by decide +kernel
theorem dX9_canBeOne_28 : decode cX9_canBeOne 28 = .ok (.iload_n 1, 1) := by decide +kernel
theorem dX9_canBeOne_29 : decode cX9_canBeOne 29 = .ok (.iload_n 2, 1) := by decide +kernel
theorem dX9_canBeOne_30 : decode cX9_canBeOne 30 = .ok (.if_icmp .ne 6, 3) := by decide +kernel
theorem dX9_canBeOne_33 : decode cX9_canBeOne 33 = .ok (.ldc 99, 2) := by decide +kernel
theorem dX9_canBeOne_35 : decode cX9_canBeOne 35 = .ok (.ireturn, 1) := by decide +kernel
theorem dX9_canBeOne_36 : decode cX9_canBeOne 36 = .ok (.aload_n 0, 1) := by decide +kernel
theorem dX9_canBeOne_37 : decode cX9_canBeOne 37 = .ok (.iload_n 1, 1) := by decide +kernel
theorem dX9_canBeOne_38 : decode cX9_canBeOne 38 = .ok (.iload_n 2, 1) := by decide +kernel
theorem dX9_canBeOne_39 : decode cX9_canBeOne 39 = .ok (.invokevirtual 252, 3) := by decide +kernel
theorem dX9_canBeOne_42 : decode cX9_canBeOne 42 = .ok (.ifCond .eq 7, 3) := by decide +kernel
theorem dX9_canBeOne_45 : decode cX9_canBeOne 45 = .ok (.iconst 1, 1) := by decide +kernel
theorem dX9_canBeOne_46 : decode cX9_canBeOne 46 = .ok (.goto 4, 3) := by decide +kernel
theorem dX9_canBeOne_49 : decode cX9_canBeOne 49 = .ok (.iconst 0, 1) := by decide +kernel
theorem dX9_canBeOne_50 : decode cX9_canBeOne 50 = .ok (.ireturn, 1) := by decide +kernel
theorem dX9_manyIn_0 : decode cX9_manyIn 0 = .ok (.iconst 0, 1) := by decide +kernel
theorem dX9_manyIn_1 : decode cX9_manyIn 1 = .ok (.istore_n 2, 1) := by decide +kernel
theorem dX9_manyIn_2 : decode cX9_manyIn 2 = .ok (.iconst 0, 1) := by decide +kernel
theorem dX9_manyIn_3 : decode cX9_manyIn 3 = .ok (.istore_n 3, 1) := by decide +kernel
theorem dX9_manyIn_4 : decode cX9_manyIn 4 = .ok (.iload_n 3, 1) := by decide +kernel
theorem dX9_manyIn_5 : decode cX9_manyIn 5 = .ok (.iload_n 1, 1) := by decide +kernel
theorem dX9_manyIn_6 : decode cX9_manyIn 6 = .ok (.if_icmp .ge 34, 3) := by decide +kernel
theorem dX9_manyIn_9 : decode cX9_manyIn 9 = .ok (.aload_n 0, 1) := by decide +kernel
theorem dX9_manyIn_10 : decode cX9_manyIn 10 = .ok (.getfield 85, 3) := by decide +kernel
theorem dX9_manyIn_13 : decode cX9_manyIn 13 = .ok (.iload_n 3, 1) := by decide +kernel
theorem dX9_manyIn_14 : decode cX9_manyIn 14 = .ok (.iaload, 1) := by decide +kernel
theorem dX9_manyIn_15 : decode cX9_manyIn 15 = .ok (.iconst 1, 1) := by decide +kernel
theorem dX9_manyIn_16 : decode cX9_manyIn 16 = .ok (.iadd, 1) := by decide +kernel
theorem dX9_manyIn_17 : decode cX9_manyIn 17 = .ok (.iload_n 2, 1) := by decide +kernel
theorem dX9_manyIn_18 : decode cX9_manyIn 18 = .ok (.if_icmp .le 14, 3) := by decide +kernel
theorem dX9_manyIn_21 : decode cX9_manyIn 21 = .ok (.aload_n 0, 1) := by decide +kernel
theorem dX9_manyIn_22 : decode cX9_manyIn 22 = .ok (.getfield 85, 3) := by decide +kernel
theorem dX9_manyIn_25 : decode cX9_manyIn 25 = .ok (.iload_n 3, 1) := by decide +kernel
theorem dX9_manyIn_26 : decode cX9_manyIn 26 = .ok (.iaload, 1) := by decide +kernel
theorem dX9_manyIn_27 : decode cX9_manyIn 27 = .ok (.iconst 1, 1) := by decide +kernel
theorem dX9_manyIn_28 : decode cX9_manyIn 28 = .ok (.iadd, 1) := by decide +kernel
theorem dX9_manyIn_29 : decode cX9_manyIn 29 = .ok (.goto 4, 3) := by decide +kernel
theorem dX9_manyIn_32 : decode cX9_manyIn 32 = .ok (.iload_n 2, 1) := by decide +kernel
theorem dX9_manyIn_33 : decode cX9_manyIn 33 = .ok (.istore_n 2, 1) := by decide +kernel
theorem dX9_manyIn_34 : decode cX9_manyIn 34 = .ok (.iinc 3 1, 3) := by decide +kernel
theorem dX9_manyIn_37 : decode cX9_manyIn 37 = .ok (.goto (-33), 3) := by decide +kernel
theorem dX9_manyIn_40 : decode cX9_manyIn 40 = .ok (.iload_n 2, 1) := by decide +kernel
theorem dX9_manyIn_41 : decode cX9_manyIn 41 = .ok (.ireturn, 1) := by decide +kernel
set_option maxRecDepth 20000 in
theorem ggX9_mayBe_X9_isOne : GoodIn wsX9_mayBe wsX9_isOne := goodIn_r _ [6, 7, 8, 9, 10, 5, 11, 12, 13, 14, 15, 16, 17, 18, 19, 20, 21, 22, 23, 24, 25, 26, 27, 28, 29, 30, 31, 32, 33, 34, 35, 36, 37, 38, 39, 40, 41, 42, 43, 44, 45, 46, 47, 48, 49] (by decide +kernel) (by decide +kernel)
set_option maxRecDepth 20000 in
theorem gX9_mayBe_X9_isOne : GoodIn wsX9_mayBe (wsV RX9 252 RX9 yX9_isOne wsX9_isOne) := goodIn_app (goodIn_of _ (by decide +kernel)) ggX9_mayBe_X9_isOne
theorem dX9_mayBe_0 : decode cX9_mayBe 0 = .ok (.iconst 1, 1) := by decide +kernel
theorem dX9_mayBe_1 : decode cX9_mayBe 1 = .ok (.istore_n 2, 1) := by decide +kernel
theorem dX9_mayBe_2 : decode cX9_mayBe 2 = .ok (.iconst 0, 1) := by decide +kernel
theorem dX9_mayBe_3 : decode cX9_mayBe 3 = .ok (.istore_n 3, 1) := by decide +kernel
theorem dX9_mayBe_4 : decode cX9_mayBe 4 = .ok (.iload_n 3, 1) := by decide +kernel
theorem dX9_mayBe_5 : decode cX9_mayBe 5 = .ok (.iload_n 1, 1) := by decide +kernel
theorem dX9_mayBe_6 : decode cX9_mayBe 6 = .ok (.if_icmp .ge 43, 3) := by decide +kernel
theorem dX9_mayBe_9 : decode cX9_mayBe 9 = .ok (.iload_n 2, 1) := by decide +kernel
theorem dX9_mayBe_10 : decode cX9_mayBe 10 = .ok (.ifCond .eq 31, 3) := by decide +kernel
theorem dX9_mayBe_13 : decode cX9_mayBe 13 = .ok (.aload_n 0, 1) := by decide +kernel
theorem dX9_mayBe_14 : decode cX9_mayBe 14 = .ok (.getfield 85, 3) := by decide +kernel
theorem dX9_mayBe_17 : decode cX9_mayBe 17 = .ok (.iload_n 3, 1) := by decide +kernel
theorem dX9_mayBe_18 : decode cX9_mayBe 18 = .ok (.iaload, 1) := by decide +kernel
theorem dX9_mayBe_19 : decode cX9_mayBe 19 = .ok (.aload_n 0, 1) := by decide +kernel
theorem dX9_mayBe_20 : decode cX9_mayBe 20 = .ok (.getfield 85, 3) := by decide +kernel
theorem dX9_mayBe_23 : decode cX9_mayBe 23 = .ok (.iload_n 1, 1) := by decide +kernel
theorem dX9_mayBe_24 : decode cX9_mayBe 24 = .ok (.iaload, 1) := by decide +kernel
theorem dX9_mayBe_25 : decode cX9_mayBe 25 = .ok (.if_icmp .ne 12, 3) := by decide +kernel
theorem dX9_mayBe_28 : decode cX9_mayBe 28 = .ok (.aload_n 0, 1) := by decide +kernel
theorem dX9_mayBe_29 : decode cX9_mayBe 29 = .ok (.iload_n 3, 1) := by decide +kernel
theorem dX9_mayBe_30 : decode cX9_mayBe 30 = .ok (.iload_n 1, 1) := by decide +kernel
theorem dX9_mayBe_31 : decode cX9_mayBe 31 = .ok (.invokevirtual 252, 3) := by decide +kernel
theorem dX9_mayBe_34 : decode cX9_mayBe 34 = .ok (.ifCond .eq 7, 3) := by decide +kernel
theorem dX9_mayBe_37 : decode cX9_mayBe 37 = .ok (.iconst 1, 1) := by decide +kernel
theorem dX9_mayBe_38 : decode cX9_mayBe 38 = .ok (.goto 4, 3) := by decide +kernel
theorem dX9_mayBe_41 : decode cX9_mayBe 41 = .ok (.iconst 0, 1) := by decide +kernel
theorem dX9_mayBe_42 : decode cX9_mayBe 42 = .ok (.istore_n 2, 1) := by decide +kernel
theorem dX9_mayBe_43 : decode cX9_mayBe 43 = .ok (.iinc 3 1, 3) := by decide +kernel
theorem dX9_mayBe_46 : decode cX9_mayBe 46 = .ok (.goto (-42), 3) := by decide +kernel
theorem dX9_mayBe_49 : decode cX9_mayBe 49 = .ok (.iload_n 2, 1) := by decide +kernel
theorem dX9_mayBe_50 : decode cX9_mayBe 50 = .ok (.ireturn, 1) := by decide +kernel
set_option maxRecDepth 20000 in
theorem ggX9_findFewest_X9_manyIn : GoodIn wsX9_findFewest wsX9_manyIn := goodIn_r _ [8, 2, 22, 23, 24, 25, 26, 27, 28, 29, 30, 31, 32, 33, 34, 35, 36, 37, 38, 39, 40, 41, 42, 43, 44, 45, 46, 47, 48, 49, 50, 51, 52, 53, 54, 55, 56, 57, 58, 59] (by decide +kernel) (by decide +kernel)
set_option maxRecDepth 20000 in
theorem gX9_findFewest_X9_manyIn : GoodIn wsX9_findFewest (wsV RX9 255 RX9 yX9_manyIn wsX9_manyIn) := goodIn_app (goodIn_of _ (by decide +kernel)) ggX9_findFewest_X9_manyIn
set_option maxRecDepth 20000 in
theorem ggX9_findFewest_X9_mayBe : GoodIn wsX9_findFewest wsX9_mayBe := goodIn_r _ [12, 2, 13, 14, 15, 7, 16, 17, 18, 19, 20, 21, 22, 23, 24, 25, 26, 27, 28, 29, 30, 31, 32, 33, 34, 35, 36, 37, 38, 39, 40, 41, 42, 43, 44, 45, 46, 47, 48, 49, 50, 51, 52, 53, 54, 55, 56, 57, 58, 59] (by decide +kernel) (by decide +kernel)
set_option maxRecDepth 20000 in
theorem gX9_findFewest_X9_mayBe : GoodIn wsX9_findFewest (wsV RX9 258 RX9 yX9_mayBe wsX9_mayBe) := goodIn_app (goodIn_of _ (by decide +kernel)) ggX9_findFewest_X9_mayBe
theorem dX9_findFewest_0 : decode cX9_findFewest 0 = .ok (.aload_n 0, 1) := by decide +kernel
theorem dX9_findFewest_1 : decode cX9_findFewest 1 = .ok (.getfield 165, 3) := by decide +kernel
theorem dX9_findFewest_4 : decode cX9_findFewest 4 = .ok (.iconst 1, 1) := by decide +kernel
theorem dX9_findFewest_5 : decode cX9_findFewest 5 = .ok (.iadd, 1) := by decide +kernel
theorem dX9_findFewest_6 : decode cX9_findFewest 6 = .ok (.istore_n 1, 1) := by decide +kernel
theorem dX9_findFewest_7 : decode cX9_findFewest 7 = .ok (.iconst 0, 1) := by decide +kernel
theorem dX9_findFewest_8 : decode cX9_findFewest 8 = .ok (.istore_n 2, 1) := by decide +kernel
theorem dX9_findFewest_9 : decode cX9_findFewest 9 = .ok (.aload_n 0, 1) := by decide +kernel
theorem dX9_findFewest_10 : decode cX9_findFewest 10 = .ok (.getfield 165, 3) := by decide +kernel
theorem dX9_findFewest_13 : decode cX9_findFewest 13 = .ok (.ifCond .ne 5, 3) := by decide +kernel
theorem dX9_findFewest_16 : decode cX9_findFewest 16 = .ok (.iconst 0, 1) := by decide +kernel
theorem dX9_findFewest_17 : decode cX9_findFewest 17 = .ok (.ireturn, 1) := by decide +kernel
theorem dX9_findFewest_18 : decode cX9_findFewest 18 = .ok (.aload_n 0, 1) := by decide +kernel
theorem dX9_findFewest_19 : decode cX9_findFewest 19 = .ok (.getfield 85, 3) := by decide +kernel
theorem dX9_findFewest_22 : decode cX9_findFewest 22 = .ok (.iconst 0, 1) := by decide +kernel
theorem dX9_findFewest_23 : decode cX9_findFewest 23 = .ok (.iconst (-1), 1) := by decide +kernel
theorem dX9_findFewest_24 : decode cX9_findFewest 24 = .ok (.iastore, 1) := by decide +kernel
theorem dX9_findFewest_25 : decode cX9_findFewest 25 = .ok (.iload_n 2, 1) := by decide +kernel
theorem dX9_findFewest_26 : decode cX9_findFewest 26 = .ok (.ifCond .lt 124, 3) := by decide +kernel
theorem dX9_findFewest_29 : decode cX9_findFewest 29 = .ok (.aload_n 0, 1) := by decide +kernel
theorem dX9_findFewest_30 : decode cX9_findFewest 30 = .ok (.getfield 85, 3) := by decide +kernel
theorem dX9_findFewest_33 : decode cX9_findFewest 33 = .ok (.iload_n 2, 1) := by decide +kernel
theorem dX9_findFewest_34 : decode cX9_findFewest 34 = .ok (.dup2, 1) := by decide +kernel
theorem dX9_findFewest_35 : decode cX9_findFewest 35 = .ok (.iaload, 1) := by decide +kernel
theorem dX9_findFewest_36 : decode cX9_findFewest 36 = .ok (.iconst 1, 1) := by decide +kernel
theorem dX9_findFewest_37 : decode cX9_findFewest 37 = .ok (.iadd, 1) := by decide +kernel
theorem dX9_findFewest_38 : decode cX9_findFewest 38 = .ok (.iastore, 1) := by decide +kernel
theorem dX9_findFewest_39 : decode cX9_findFewest 39 = .ok (.aload_n 0, 1) := by decide +kernel
theorem dX9_findFewest_40 : decode cX9_findFewest 40 = .ok (.getfield 85, 3) := by decide +kernel
theorem dX9_findFewest_43 : decode cX9_findFewest 43 = .ok (.iload_n 2, 1) := by decide +kernel
theorem dX9_findFewest_44 : decode cX9_findFewest 44 = .ok (.iaload, 1) := by decide +kernel
theorem dX9_findFewest_45 : decode cX9_findFewest 45 = .ok (.aload_n 0, 1) := by decide +kernel
theorem dX9_findFewest_46 : decode cX9_findFewest 46 = .ok (.iload_n 2, 1) := by decide +kernel
theorem dX9_findFewest_47 : decode cX9_findFewest 47 = .ok (.invokevirtual 255, 3) := by decide +kernel
theorem dX9_findFewest_50 : decode cX9_findFewest 50 = .ok (.if_icmp .le 9, 3) := by decide +kernel
theorem dX9_findFewest_53 : decode cX9_findFewest 53 = .ok (.iinc 2 (-1), 3) := by decide +kernel
theorem dX9_findFewest_56 : decode cX9_findFewest 56 = .ok (.goto (-31), 3) := by decide +kernel
theorem dX9_findFewest_59 : decode cX9_findFewest 59 = .ok (.aload_n 0, 1) := by decide +kernel
theorem dX9_findFewest_60 : decode cX9_findFewest 60 = .ok (.iload_n 2, 1) := by decide +kernel
theorem dX9_findFewest_61 : decode cX9_findFewest 61 = .ok (.invokevirtual 258, 3) := by decide +kernel
theorem dX9_findFewest_64 : decode cX9_findFewest 64 = .ok (.ifCond .eq (-39), 3) := by decide +kernel
theorem dX9_findFewest_67 : decode cX9_findFewest 67 = .ok (.iload_n 2, 1) := by decide +kernel
theorem dX9_findFewest_68 : decode cX9_findFewest 68 = .ok (.aload_n 0, 1) := by decide +kernel
theorem dX9_findFewest_69 : decode cX9_findFewest 69 = .ok (.getfield 165, 3) := by decide +kernel
theorem dX9_findFewest_72 : decode cX9_findFewest 72 = .ok (.iconst 1, 1) := by decide +kernel
theorem dX9_findFewest_73 : decode cX9_findFewest 73 = .ok (.isub, 1) := by decide +kernel
theorem dX9_findFewest_74 : decode cX9_findFewest 74 = .ok (.if_icmp .ne 63, 3) := by decide +kernel
theorem dX9_findFewest_77 : decode cX9_findFewest 77 = .ok (.aload_n 0, 1) := by decide +kernel
theorem dX9_findFewest_78 : decode cX9_findFewest 78 = .ok (.aload_n 0, 1) := by decide +kernel
theorem dX9_findFewest_79 : decode cX9_findFewest 79 = .ok (.getfield 165, 3) := by decide +kernel
theorem dX9_findFewest_82 : decode cX9_findFewest 82 = .ok (.invokevirtual 255, 3) := by decide +kernel
theorem dX9_findFewest_85 : decode cX9_findFewest 85 = .ok (.istore_n 3, 1) := by decide +kernel
theorem dX9_findFewest_86 : decode cX9_findFewest 86 = .ok (.iconst 0, 1) := by decide +kernel
theorem dX9_findFewest_87 : decode cX9_findFewest 87 = .ok (.istore 4, 2) := by decide +kernel
theorem dX9_findFewest_89 : decode cX9_findFewest 89 = .ok (.iload 4, 2) := by decide +kernel
theorem dX9_findFewest_91 : decode cX9_findFewest 91 = .ok (.aload_n 0, 1) := by decide +kernel
theorem dX9_findFewest_92 : decode cX9_findFewest 92 = .ok (.getfield 165, 3) := by decide +kernel
theorem dX9_findFewest_95 : decode cX9_findFewest 95 = .ok (.if_icmp .ge 28, 3) := by decide +kernel
theorem dX9_findFewest_98 : decode cX9_findFewest 98 = .ok (.iload_n 3, 1) := by decide +kernel
theorem dX9_findFewest_99 : decode cX9_findFewest 99 = .ok (.iload_n 1, 1) := by decide +kernel
theorem dX9_findFewest_100 : decode cX9_findFewest 100 = .ok (.if_icmp .ge 23, 3) := by decide +kernel
theorem dX9_findFewest_103 : decode cX9_findFewest 103 = .ok (.aload_n 0, 1) := by decide +kernel
theorem dX9_findFewest_104 : decode cX9_findFewest 104 = .ok (.getfield 88, 3) := by decide +kernel
theorem dX9_findFewest_107 : decode cX9_findFewest 107 = .ok (.iload 4, 2) := by decide +kernel
theorem dX9_findFewest_109 : decode cX9_findFewest 109 = .ok (.aload_n 0, 1) := by decide +kernel
theorem dX9_findFewest_110 : decode cX9_findFewest 110 = .ok (.getfield 85, 3) := by decide +kernel
theorem dX9_findFewest_113 : decode cX9_findFewest 113 = .ok (.iload 4, 2) := by decide +kernel
theorem dX9_findFewest_115 : decode cX9_findFewest 115 = .ok (.iaload, 1) := by decide +kernel
theorem dX9_findFewest_116 : decode cX9_findFewest 116 = .ok (.iastore, 1) := by decide +kernel
theorem dX9_findFewest_117 : decode cX9_findFewest 117 = .ok (.iinc 4 1, 3) := by decide +kernel
theorem dX9_findFewest_120 : decode cX9_findFewest 120 = .ok (.goto (-31), 3) := by decide +kernel
theorem dX9_findFewest_123 : decode cX9_findFewest 123 = .ok (.iload_n 3, 1) := by decide +kernel
theorem dX9_findFewest_124 : decode cX9_findFewest 124 = .ok (.iload_n 1, 1) := by decide +kernel
theorem dX9_findFewest_125 : decode cX9_findFewest 125 = .ok (.if_icmp .ge 7, 3) := by decide +kernel
theorem dX9_findFewest_128 : decode cX9_findFewest 128 = .ok (.iload_n 3, 1) := by decide +kernel
theorem dX9_findFewest_129 : decode cX9_findFewest 129 = .ok (.goto 4, 3) := by decide +kernel
theorem dX9_findFewest_132 : decode cX9_findFewest 132 = .ok (.iload_n 1, 1) := by decide +kernel
theorem dX9_findFewest_133 : decode cX9_findFewest 133 = .ok (.istore_n 1, 1) := by decide +kernel
theorem dX9_findFewest_134 : decode cX9_findFewest 134 = .ok (.goto (-109), 3) := by decide +kernel
theorem dX9_findFewest_137 : decode cX9_findFewest 137 = .ok (.iinc 2 1, 3) := by decide +kernel
theorem dX9_findFewest_140 : decode cX9_findFewest 140 = .ok (.aload_n 0, 1) := by decide +kernel
theorem dX9_findFewest_141 : decode cX9_findFewest 141 = .ok (.getfield 85, 3) := by decide +kernel
theorem dX9_findFewest_144 : decode cX9_findFewest 144 = .ok (.iload_n 2, 1) := by decide +kernel
theorem dX9_findFewest_145 : decode cX9_findFewest 145 = .ok (.iconst (-1), 1) := by decide +kernel
theorem dX9_findFewest_146 : decode cX9_findFewest 146 = .ok (.iastore, 1) := by decide +kernel
theorem dX9_findFewest_147 : decode cX9_findFewest 147 = .ok (.goto (-122), 3) := by decide +kernel
theorem dX9_findFewest_150 : decode cX9_findFewest 150 = .ok (.iload_n 1, 1) := by decide +kernel
theorem dX9_findFewest_151 : decode cX9_findFewest 151 = .ok (.ireturn, 1) := by decide +kernel
set_option maxRecDepth 20000 in
theorem ggX9_fewest_X9_in : GoodIn wsX9_fewest wsX9_in := goodIn_r _ [7] (by decide +kernel) (by decide +kernel)
set_option maxRecDepth 20000 in
theorem gX9_fewest_X9_in : GoodIn wsX9_fewest (va_wsS RX9 95 yX9_in wsX9_in) := goodIn_app (goodIn_of _ (by decide +kernel)) ggX9_fewest_X9_in
set_option maxRecDepth 20000 in
theorem ggX9_fewest_X9_findFewest : GoodIn wsX9_fewest wsX9_findFewest := goodIn_r _ [11, 1, 12, 3, 13, 14, 15, 6, 16, 17, 18, 19, 20, 21, 22, 23, 24, 25, 26, 4, 5, 7, 27, 28, 29, 30, 31, 32, 33, 34, 35, 36, 37, 38, 39, 40, 41, 42, 43, 44, 45, 46, 47, 48, 49, 50, 51, 52, 53, 54, 55, 56, 57, 58, 59, 60, 61, 62, 63, 64] (by decide +kernel) (by decide +kernel)
set_option maxRecDepth 20000 in
theorem gX9_fewest_X9_findFewest : GoodIn wsX9_fewest (wsV RX9 261 RX9 yX9_findFewest wsX9_findFewest) := goodIn_app (goodIn_of _ (by decide +kernel)) ggX9_fewest_X9_findFewest
theorem dX9_fewest_0 : decode cX9_fewest 0 = .ok (.iload_n 1, 1) := by decide +kernel
theorem dX9_fewest_1 : decode cX9_fewest 1 = .ok (.iconst (-1), 1) := by decide +kernel
theorem dX9_fewest_2 : decode cX9_fewest 2 = .ok (.aload_n 0, 1) := by decide +kernel
theorem dX9_fewest_3 : decode cX9_fewest 3 = .ok (.getfield 165, 3) := by decide +kernel
theorem dX9_fewest_6 : decode cX9_fewest 6 = .ok (.iconst 1, 1) := by decide +kernel
theorem dX9_fewest_7 : decode cX9_fewest 7 = .ok (.isub, 1) := by decide +kernel
theorem dX9_fewest_8 : decode cX9_fewest 8 = .ok (.invokestatic 95, 3) := by decide +kernel
theorem dX9_fewest_11 : decode cX9_fewest 11 = .ok (.ifCond .ne 6, 3) := by decide +kernel
theorem dX9_fewest_14 : decode cX9_fewest 14 = .ok (.ldc 99, 2) := by decide +kernel
theorem dX9_fewest_16 : decode cX9_fewest 16 = .ok (.ireturn, 1) := by decide +kernel
theorem dX9_fewest_17 : decode cX9_fewest 17 = .ok (.aload_n 0, 1) := by decide +kernel
theorem dX9_fewest_18 : decode cX9_fewest 18 = .ok (.invokevirtual 261, 3) := by decide +kernel
theorem dX9_fewest_21 : decode cX9_fewest 21 = .ok (.istore_n 2, 1) := by decide +kernel
theorem dX9_fewest_22 : decode cX9_fewest 22 = .ok (.iload_n 1, 1) := by decide +kernel
theorem dX9_fewest_23 : decode cX9_fewest 23 = .ok (.iconst (-1), 1) := by decide +kernel
theorem dX9_fewest_24 : decode cX9_fewest 24 = .ok (.if_icmp .ne 7, 3) := by decide +kernel
theorem dX9_fewest_27 : decode cX9_fewest 27 = .ok (.iload_n 2, 1) := by decide +kernel
theorem dX9_fewest_28 : decode cX9_fewest 28 = .ok (.goto 9, 3) := by decide +kernel
theorem dX9_fewest_31 : decode cX9_fewest 31 = .ok (.aload_n 0, 1) := by decide +kernel
theorem dX9_fewest_32 : decode cX9_fewest 32 = .ok (.getfield 88, 3) := by decide +kernel
theorem dX9_fewest_35 : decode cX9_fewest 35 = .ok (.iload_n 1, 1) := by decide +kernel
theorem dX9_fewest_36 : decode cX9_fewest 36 = .ok (.iaload, 1) := by decide +kernel
theorem dX9_fewest_37 : decode cX9_fewest 37 = .ok (.ireturn, 1) := by decide +kernel
theorem dX9_tear_0 : decode cX9_tear 0 = .ok (.aload_n 0, 1) := by decide +kernel
theorem dX9_tear_1 : decode cX9_tear 1 = .ok (.getfield 162, 3) := by decide +kernel
theorem dX9_tear_4 : decode cX9_tear 4 = .ok (.aload_n 0, 1) := by decide +kernel
theorem dX9_tear_5 : decode cX9_tear 5 = .ok (.getfield 165, 3) := by decide +kernel
theorem dX9_tear_8 : decode cX9_tear 8 = .ok (.iadd, 1) := by decide +kernel
theorem dX9_tear_9 : decode cX9_tear 9 = .ok (.istore_n 1, 1) := by decide +kernel
theorem dX9_tear_10 : decode cX9_tear 10 = .ok (.aload_n 0, 1) := by decide +kernel
theorem dX9_tear_11 : decode cX9_tear 11 = .ok (.iconst 0, 1) := by decide +kernel
theorem dX9_tear_12 : decode cX9_tear 12 = .ok (.putfield 162, 3) := by decide +kernel
theorem dX9_tear_15 : decode cX9_tear 15 = .ok (.aload_n 0, 1) := by decide +kernel
theorem dX9_tear_16 : decode cX9_tear 16 = .ok (.iconst 0, 1) := by decide +kernel
theorem dX9_tear_17 : decode cX9_tear 17 = .ok (.putfield 165, 3) := by decide +kernel
theorem dX9_tear_20 : decode cX9_tear 20 = .ok (.iload_n 1, 1) := by decide +kernel
theorem dX9_tear_21 : decode cX9_tear 21 = .ok (.ireturn, 1) := by decide +kernel
theorem dX9_seed_0 : decode cX9_seed 0 = .ok (.iload_n 1, 1) := by decide +kernel
theorem dX9_seed_1 : decode cX9_seed 1 = .ok (.ifCond .ge 6, 3) := by decide +kernel
theorem dX9_seed_4 : decode cX9_seed 4 = .ok (.ldc 99, 2) := by decide +kernel
theorem dX9_seed_6 : decode cX9_seed 6 = .ok (.ireturn, 1) := by decide +kernel
theorem dX9_seed_7 : decode cX9_seed 7 = .ok (.aload_n 0, 1) := by decide +kernel
theorem dX9_seed_8 : decode cX9_seed 8 = .ok (.getfield 214, 3) := by decide +kernel
theorem dX9_seed_11 : decode cX9_seed 11 = .ok (.istore_n 2, 1) := by decide +kernel
theorem dX9_seed_12 : decode cX9_seed 12 = .ok (.aload_n 0, 1) := by decide +kernel
theorem dX9_seed_13 : decode cX9_seed 13 = .ok (.iload_n 1, 1) := by decide +kernel
theorem dX9_seed_14 : decode cX9_seed 14 = .ok (.putfield 214, 3) := by decide +kernel
theorem dX9_seed_17 : decode cX9_seed 17 = .ok (.iload_n 2, 1) := by decide +kernel
theorem dX9_seed_18 : decode cX9_seed 18 = .ok (.ireturn, 1) := by decide +kernel
theorem dX9_copy_0 : decode cX9_copy 0 = .ok (.iconst 0, 1) := by decide +kernel
theorem dX9_copy_1 : decode cX9_copy 1 = .ok (.istore_n 3, 1) := by decide +kernel
theorem dX9_copy_2 : decode cX9_copy 2 = .ok (.iload_n 3, 1) := by decide +kernel
theorem dX9_copy_3 : decode cX9_copy 3 = .ok (.bipush 20, 2) := by decide +kernel
theorem dX9_copy_5 : decode cX9_copy 5 = .ok (.if_icmp .ge 25, 3) := by decide +kernel
theorem dX9_copy_8 : decode cX9_copy 8 = .ok (.aload_n 0, 1) := by decide +kernel
theorem dX9_copy_9 : decode cX9_copy 9 = .ok (.getfield 50, 3) := by decide +kernel
theorem dX9_copy_12 : decode cX9_copy 12 = .ok (.iload_n 2, 1) := by decide +kernel
theorem dX9_copy_13 : decode cX9_copy 13 = .ok (.iload_n 3, 1) := by decide +kernel
theorem dX9_copy_14 : decode cX9_copy 14 = .ok (.iadd, 1) := by decide +kernel
theorem dX9_copy_15 : decode cX9_copy 15 = .ok (.aload_n 0, 1) := by decide +kernel
theorem dX9_copy_16 : decode cX9_copy 16 = .ok (.getfield 50, 3) := by decide +kernel
theorem dX9_copy_19 : decode cX9_copy 19 = .ok (.iload_n 1, 1) := by decide +kernel
theorem dX9_copy_20 : decode cX9_copy 20 = .ok (.iload_n 3, 1) := by decide +kernel
theorem dX9_copy_21 : decode cX9_copy 21 = .ok (.iadd, 1) := by decide +kernel
theorem dX9_copy_22 : decode cX9_copy 22 = .ok (.iaload, 1) := by decide +kernel
theorem dX9_copy_23 : decode cX9_copy 23 = .ok (.iastore, 1) := by decide +kernel
theorem dX9_copy_24 : decode cX9_copy 24 = .ok (.iinc 3 1, 3) := by decide +kernel
theorem dX9_copy_27 : decode cX9_copy 27 = .ok (.goto (-25), 3) := by decide +kernel
theorem dX9_copy_30 : decode cX9_copy 30 = .ok (.return_, 1) := by decide +kernel
set_option maxRecDepth 20000 in
theorem ggX9_keep_X9_in : GoodIn wsX9_keep wsX9_in := goodIn_r _ [8] (by decide +kernel) (by decide +kernel)
set_option maxRecDepth 20000 in
theorem gX9_keep_X9_in : GoodIn wsX9_keep (va_wsS RX9 95 yX9_in wsX9_in) := goodIn_app (goodIn_of _ (by decide +kernel)) ggX9_keep_X9_in
set_option maxRecDepth 20000 in
theorem ggX9_keep_X9_copy : GoodIn wsX9_keep wsX9_copy := goodIn_r _ [12, 2, 13, 14, 15, 16, 17, 18, 19, 20, 21, 22, 23, 24, 25, 26, 27, 28, 29, 30, 31, 32, 33, 34, 35, 36, 37, 38, 39, 40, 41, 42, 43, 44, 45, 46, 47, 48, 49, 50] (by decide +kernel) (by decide +kernel)
set_option maxRecDepth 20000 in
theorem gX9_keep_X9_copy : GoodIn wsX9_keep (wsV RX9 264 RX9 yX9_copy wsX9_copy) := goodIn_app (goodIn_of _ (by decide +kernel)) ggX9_keep_X9_copy
theorem dX9_keep_0 : decode cX9_keep 0 = .ok (.iload_n 1, 1) := by decide +kernel
theorem dX9_keep_1 : decode cX9_keep 1 = .ok (.iconst 0, 1) := by decide +kernel
theorem dX9_keep_2 : decode cX9_keep 2 = .ok (.iconst 1, 1) := by decide +kernel
theorem dX9_keep_3 : decode cX9_keep 3 = .ok (.invokestatic 95, 3) := by decide +kernel
theorem dX9_keep_6 : decode cX9_keep 6 = .ok (.ifCond .ne 6, 3) := by decide +kernel
theorem dX9_keep_9 : decode cX9_keep 9 = .ok (.ldc 180, 2) := by decide +kernel
theorem dX9_keep_11 : decode cX9_keep 11 = .ok (.ireturn, 1) := by decide +kernel
theorem dX9_keep_12 : decode cX9_keep 12 = .ok (.aload_n 0, 1) := by decide +kernel
theorem dX9_keep_13 : decode cX9_keep 13 = .ok (.getfield 50, 3) := by decide +kernel
theorem dX9_keep_16 : decode cX9_keep 16 = .ok (.bipush 19, 2) := by decide +kernel
theorem dX9_keep_18 : decode cX9_keep 18 = .ok (.aload_n 0, 1) := by decide +kernel
theorem dX9_keep_19 : decode cX9_keep 19 = .ok (.getfield 214, 3) := by decide +kernel
theorem dX9_keep_22 : decode cX9_keep 22 = .ok (.iastore, 1) := by decide +kernel
theorem dX9_keep_23 : decode cX9_keep 23 = .ok (.aload_n 0, 1) := by decide +kernel
theorem dX9_keep_24 : decode cX9_keep 24 = .ok (.iconst 0, 1) := by decide +kernel
theorem dX9_keep_25 : decode cX9_keep 25 = .ok (.bipush 20, 2) := by decide +kernel
theorem dX9_keep_27 : decode cX9_keep 27 = .ok (.iconst 1, 1) := by decide +kernel
theorem dX9_keep_28 : decode cX9_keep 28 = .ok (.iload_n 1, 1) := by decide +kernel
theorem dX9_keep_29 : decode cX9_keep 29 = .ok (.iadd, 1) := by decide +kernel
theorem dX9_keep_30 : decode cX9_keep 30 = .ok (.imul, 1) := by decide +kernel
theorem dX9_keep_31 : decode cX9_keep 31 = .ok (.invokevirtual 264, 3) := by decide +kernel
theorem dX9_keep_34 : decode cX9_keep 34 = .ok (.aload_n 0, 1) := by decide +kernel
theorem dX9_keep_35 : decode cX9_keep 35 = .ok (.getfield 53, 3) := by decide +kernel
theorem dX9_keep_38 : decode cX9_keep 38 = .ok (.iload_n 1, 1) := by decide +kernel
theorem dX9_keep_39 : decode cX9_keep 39 = .ok (.iconst 1, 1) := by decide +kernel
theorem dX9_keep_40 : decode cX9_keep 40 = .ok (.bastore, 1) := by decide +kernel
theorem dX9_keep_41 : decode cX9_keep 41 = .ok (.iconst 1, 1) := by decide +kernel
theorem dX9_keep_42 : decode cX9_keep 42 = .ok (.ireturn, 1) := by decide +kernel
set_option maxRecDepth 20000 in
theorem ggX9_goBack_X9_in : GoodIn wsX9_goBack wsX9_in := goodIn_r _ [9] (by decide +kernel) (by decide +kernel)
set_option maxRecDepth 20000 in
theorem gX9_goBack_X9_in : GoodIn wsX9_goBack (va_wsS RX9 95 yX9_in wsX9_in) := goodIn_app (goodIn_of _ (by decide +kernel)) ggX9_goBack_X9_in
set_option maxRecDepth 20000 in
theorem ggX9_goBack_X9_copy : GoodIn wsX9_goBack wsX9_copy := goodIn_r _ [13, 4, 14, 15, 16, 17, 18, 19, 20, 21, 22, 23, 24, 25, 26, 27, 28, 29, 30, 31, 32, 33, 34, 35, 36, 37, 38, 39, 40, 41, 42, 43, 44, 45, 46, 47, 48, 49, 50, 51] (by decide +kernel) (by decide +kernel)
set_option maxRecDepth 20000 in
theorem gX9_goBack_X9_copy : GoodIn wsX9_goBack (wsV RX9 264 RX9 yX9_copy wsX9_copy) := goodIn_app (goodIn_of _ (by decide +kernel)) ggX9_goBack_X9_copy
theorem dX9_goBack_0 : decode cX9_goBack 0 = .ok (.iload_n 1, 1) := by decide +kernel
theorem dX9_goBack_1 : decode cX9_goBack 1 = .ok (.iconst 0, 1) := by decide +kernel
theorem dX9_goBack_2 : decode cX9_goBack 2 = .ok (.iconst 1, 1) := by decide +kernel
theorem dX9_goBack_3 : decode cX9_goBack 3 = .ok (.invokestatic 95, 3) := by decide +kernel
theorem dX9_goBack_6 : decode cX9_goBack 6 = .ok (.ifCond .ne 6, 3) := by decide +kernel
theorem dX9_goBack_9 : decode cX9_goBack 9 = .ok (.ldc 180, 2) := by decide +kernel
theorem dX9_goBack_11 : decode cX9_goBack 11 = .ok (.ireturn, 1) := by decide +kernel
theorem dX9_goBack_12 : decode cX9_goBack 12 = .ok (.aload_n 0, 1) := by decide +kernel
theorem dX9_goBack_13 : decode cX9_goBack 13 = .ok (.getfield 53, 3) := by decide +kernel
theorem dX9_goBack_16 : decode cX9_goBack 16 = .ok (.iload_n 1, 1) := by decide +kernel
theorem dX9_goBack_17 : decode cX9_goBack 17 = .ok (.baload, 1) := by decide +kernel
theorem dX9_goBack_18 : decode cX9_goBack 18 = .ok (.ifCond .ne 6, 3) := by decide +kernel
theorem dX9_goBack_21 : decode cX9_goBack 21 = .ok (.ldc 197, 2) := by decide +kernel
theorem dX9_goBack_23 : decode cX9_goBack 23 = .ok (.ireturn, 1) := by decide +kernel
theorem dX9_goBack_24 : decode cX9_goBack 24 = .ok (.aload_n 0, 1) := by decide +kernel
theorem dX9_goBack_25 : decode cX9_goBack 25 = .ok (.bipush 20, 2) := by decide +kernel
theorem dX9_goBack_27 : decode cX9_goBack 27 = .ok (.iconst 1, 1) := by decide +kernel
theorem dX9_goBack_28 : decode cX9_goBack 28 = .ok (.iload_n 1, 1) := by decide +kernel
theorem dX9_goBack_29 : decode cX9_goBack 29 = .ok (.iadd, 1) := by decide +kernel
theorem dX9_goBack_30 : decode cX9_goBack 30 = .ok (.imul, 1) := by decide +kernel
theorem dX9_goBack_31 : decode cX9_goBack 31 = .ok (.iconst 0, 1) := by decide +kernel
theorem dX9_goBack_32 : decode cX9_goBack 32 = .ok (.invokevirtual 264, 3) := by decide +kernel
theorem dX9_goBack_35 : decode cX9_goBack 35 = .ok (.aload_n 0, 1) := by decide +kernel
theorem dX9_goBack_36 : decode cX9_goBack 36 = .ok (.aload_n 0, 1) := by decide +kernel
theorem dX9_goBack_37 : decode cX9_goBack 37 = .ok (.getfield 50, 3) := by decide +kernel
theorem dX9_goBack_40 : decode cX9_goBack 40 = .ok (.bipush 19, 2) := by decide +kernel
theorem dX9_goBack_42 : decode cX9_goBack 42 = .ok (.iaload, 1) := by decide +kernel
theorem dX9_goBack_43 : decode cX9_goBack 43 = .ok (.putfield 214, 3) := by decide +kernel
theorem dX9_goBack_46 : decode cX9_goBack 46 = .ok (.iconst 1, 1) := by decide +kernel
theorem dX9_goBack_47 : decode cX9_goBack 47 = .ok (.ireturn, 1) := by decide +kernel
