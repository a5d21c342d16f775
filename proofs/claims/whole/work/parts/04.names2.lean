theorem dX2_leastCause_0 : decode cX2_leastCause 0 = .ok (.aload_n 0, 1) := by decide +kernel
theorem dX2_leastCause_1 : decode cX2_leastCause 1 = .ok (.getfield 27, 3) := by decide +kernel
theorem dX2_leastCause_4 : decode cX2_leastCause 4 = .ok (.aload_n 0, 1) := by decide +kernel
theorem dX2_leastCause_5 : decode cX2_leastCause 5 = .ok (.getfield 60, 3) := by decide +kernel
theorem dX2_leastCause_8 : decode cX2_leastCause 8 = .ok (.getfield 142, 3) := by decide +kernel
theorem dX2_leastCause_11 : decode cX2_leastCause 11 = .ok (.if_icmp .le 5, 3) := by decide +kernel
theorem dX2_leastCause_14 : decode cX2_leastCause 14 = .ok (.iconst 1, 1) := by decide +kernel
theorem dX2_leastCause_15 : decode cX2_leastCause 15 = .ok (.ireturn, 1) := by decide +kernel
theorem dX2_leastCause_16 : decode cX2_leastCause 16 = .ok (.aload_n 0, 1) := by decide +kernel
theorem dX2_leastCause_17 : decode cX2_leastCause 17 = .ok (.getfield 30, 3) := by decide +kernel
theorem dX2_leastCause_20 : decode cX2_leastCause 20 = .ok (.aload_n 0, 1) := by decide +kernel
theorem dX2_leastCause_21 : decode cX2_leastCause 21 = .ok (.getfield 60, 3) := by decide +kernel
theorem dX2_leastCause_24 : decode cX2_leastCause 24 = .ok (.getfield 142, 3) := by decide +kernel
theorem dX2_leastCause_27 : decode cX2_leastCause 27 = .ok (.if_icmp .le 5, 3) := by decide +kernel
theorem dX2_leastCause_30 : decode cX2_leastCause 30 = .ok (.iconst 2, 1) := by decide +kernel
theorem dX2_leastCause_31 : decode cX2_leastCause 31 = .ok (.ireturn, 1) := by decide +kernel
theorem dX2_leastCause_32 : decode cX2_leastCause 32 = .ok (.aload_n 0, 1) := by decide +kernel
theorem dX2_leastCause_33 : decode cX2_leastCause 33 = .ok (.getfield 33, 3) := by decide +kernel
theorem dX2_leastCause_36 : decode cX2_leastCause 36 = .ok (.aload_n 0, 1) := by decide +kernel
theorem dX2_leastCause_37 : decode cX2_leastCause 37 = .ok (.getfield 60, 3) := by decide +kernel
theorem dX2_leastCause_40 : decode cX2_leastCause 40 = .ok (.getfield 142, 3) := by decide +kernel
theorem dX2_leastCause_43 : decode cX2_leastCause 43 = .ok (.if_icmp .le 5, 3) := by decide +kernel
theorem dX2_leastCause_46 : decode cX2_leastCause 46 = .ok (.iconst 3, 1) := by decide +kernel
theorem dX2_leastCause_47 : decode cX2_leastCause 47 = .ok (.ireturn, 1) := by decide +kernel
theorem dX2_leastCause_48 : decode cX2_leastCause 48 = .ok (.aload_n 0, 1) := by decide +kernel
theorem dX2_leastCause_49 : decode cX2_leastCause 49 = .ok (.getfield 36, 3) := by decide +kernel
theorem dX2_leastCause_52 : decode cX2_leastCause 52 = .ok (.iconst 1, 1) := by decide +kernel
theorem dX2_leastCause_53 : decode cX2_leastCause 53 = .ok (.if_icmp .le 5, 3) := by decide +kernel
theorem dX2_leastCause_56 : decode cX2_leastCause 56 = .ok (.iconst 4, 1) := by decide +kernel
theorem dX2_leastCause_57 : decode cX2_leastCause 57 = .ok (.ireturn, 1) := by decide +kernel
theorem dX2_leastCause_58 : decode cX2_leastCause 58 = .ok (.aload_n 0, 1) := by decide +kernel
theorem dX2_leastCause_59 : decode cX2_leastCause 59 = .ok (.getfield 21, 3) := by decide +kernel
theorem dX2_leastCause_62 : decode cX2_leastCause 62 = .ok (.iconst 4, 1) := by decide +kernel
theorem dX2_leastCause_63 : decode cX2_leastCause 63 = .ok (.if_icmp .ne 15, 3) := by decide +kernel
theorem dX2_leastCause_66 : decode cX2_leastCause 66 = .ok (.aload_n 0, 1) := by decide +kernel
theorem dX2_leastCause_67 : decode cX2_leastCause 67 = .ok (.getfield 9, 3) := by decide +kernel
theorem dX2_leastCause_70 : decode cX2_leastCause 70 = .ok (.iconst 2, 1) := by decide +kernel
theorem dX2_leastCause_71 : decode cX2_leastCause 71 = .ok (.if_icmp .ne 7, 3) := by decide +kernel
theorem dX2_leastCause_74 : decode cX2_leastCause 74 = .ok (.iconst 5, 1) := by decide +kernel
theorem dX2_leastCause_75 : decode cX2_leastCause 75 = .ok (.goto 4, 3) := by decide +kernel
theorem dX2_leastCause_78 : decode cX2_leastCause 78 = .ok (.iconst 0, 1) := by decide +kernel
theorem dX2_leastCause_79 : decode cX2_leastCause 79 = .ok (.ireturn, 1) := by decide +kernel
set_option maxRecDepth 20000 in
theorem ggX2_changeMode_X2_leastCause : GoodIn wsX2_changeMode wsX2_leastCause := goodIn_r _ [12, 13, 6, 14, 15, 16, 17, 18, 1, 22, 23, 24, 25, 26, 27, 28, 29, 30, 31, 32, 33, 34, 35, 36, 37, 38, 39, 40, 41, 42, 43, 44] (by decide +kernel) (by decide +kernel)
set_option maxRecDepth 20000 in
theorem gX2_changeMode_X2_leastCause : GoodIn wsX2_changeMode (wsV RX2 145 RX2 yX2_leastCause wsX2_leastCause) := goodIn_app (goodIn_of _ (by decide +kernel)) ggX2_changeMode_X2_leastCause
set_option maxRecDepth 20000 in
theorem ggX2_changeMode_X8_bit : GoodIn wsX2_changeMode wsX8_bit := goodIn_r _ [21] (by decide +kernel) (by decide +kernel)
set_option maxRecDepth 20000 in
theorem gX2_changeMode_X8_bit_n119 : GoodIn wsX2_changeMode (wsX8_bit) := ggX2_changeMode_X8_bit
theorem dX2_changeMode_0 : decode cX2_changeMode 0 = .ok (.aload_n 0, 1) := by decide +kernel
theorem dX2_changeMode_1 : decode cX2_changeMode 1 = .ok (.invokevirtual 145, 3) := by decide +kernel
theorem dX2_changeMode_4 : decode cX2_changeMode 4 = .ok (.istore 4, 2) := by decide +kernel
theorem dX2_changeMode_6 : decode cX2_changeMode 6 = .ok (.iload_n 2, 1) := by decide +kernel
theorem dX2_changeMode_7 : decode cX2_changeMode 7 = .ok (.ifCond .eq 11, 3) := by decide +kernel
theorem dX2_changeMode_10 : decode cX2_changeMode 10 = .ok (.iload_n 3, 1) := by decide +kernel
theorem dX2_changeMode_11 : decode cX2_changeMode 11 = .ok (.ifCond .ne 7, 3) := by decide +kernel
theorem dX2_changeMode_14 : decode cX2_changeMode 14 = .ok (.iconst 1, 1) := by decide +kernel
theorem dX2_changeMode_15 : decode cX2_changeMode 15 = .ok (.goto 4, 3) := by decide +kernel
theorem dX2_changeMode_18 : decode cX2_changeMode 18 = .ok (.iconst 0, 1) := by decide +kernel
theorem dX2_changeMode_19 : decode cX2_changeMode 19 = .ok (.istore 5, 2) := by decide +kernel
theorem dX2_changeMode_21 : decode cX2_changeMode 21 = .ok (.aload_n 0, 1) := by decide +kernel
theorem dX2_changeMode_22 : decode cX2_changeMode 22 = .ok (.getfield 9, 3) := by decide +kernel
theorem dX2_changeMode_25 : decode cX2_changeMode 25 = .ok (.ifCond .ne 67, 3) := by decide +kernel
theorem dX2_changeMode_28 : decode cX2_changeMode 28 = .ok (.aload_n 0, 1) := by decide +kernel
theorem dX2_changeMode_29 : decode cX2_changeMode 29 = .ok (.getfield 48, 3) := by decide +kernel
theorem dX2_changeMode_32 : decode cX2_changeMode 32 = .ok (.iconst 1, 1) := by decide +kernel
theorem dX2_changeMode_33 : decode cX2_changeMode 33 = .ok (.if_icmp .ne 16, 3) := by decide +kernel
theorem dX2_changeMode_36 : decode cX2_changeMode 36 = .ok (.iload_n 1, 1) := by decide +kernel
theorem dX2_changeMode_37 : decode cX2_changeMode 37 = .ok (.bipush 8, 2) := by decide +kernel
theorem dX2_changeMode_39 : decode cX2_changeMode 39 = .ok (.invokestatic 119, 3) := by decide +kernel
theorem dX2_changeMode_42 : decode cX2_changeMode 42 = .ok (.ifCond .ne 7, 3) := by decide +kernel
theorem dX2_changeMode_45 : decode cX2_changeMode 45 = .ok (.iconst 1, 1) := by decide +kernel
theorem dX2_changeMode_46 : decode cX2_changeMode 46 = .ok (.goto 4, 3) := by decide +kernel
theorem dX2_changeMode_49 : decode cX2_changeMode 49 = .ok (.iconst 0, 1) := by decide +kernel
theorem dX2_changeMode_50 : decode cX2_changeMode 50 = .ok (.istore 6, 2) := by decide +kernel
theorem dX2_changeMode_52 : decode cX2_changeMode 52 = .ok (.iload 6, 2) := by decide +kernel
theorem dX2_changeMode_54 : decode cX2_changeMode 54 = .ok (.ifCond .eq 35, 3) := by decide +kernel
theorem dX2_changeMode_57 : decode cX2_changeMode 57 = .ok (.iload 4, 2) := by decide +kernel
theorem dX2_changeMode_59 : decode cX2_changeMode 59 = .ok (.ifCond .ne 30, 3) := by decide +kernel
theorem dX2_changeMode_62 : decode cX2_changeMode 62 = .ok (.aload_n 0, 1) := by decide +kernel
theorem dX2_changeMode_63 : decode cX2_changeMode 63 = .ok (.getfield 15, 3) := by decide +kernel
theorem dX2_changeMode_66 : decode cX2_changeMode 66 = .ok (.ifCond .ne 23, 3) := by decide +kernel
theorem dX2_changeMode_69 : decode cX2_changeMode 69 = .ok (.iload_n 3, 1) := by decide +kernel
theorem dX2_changeMode_70 : decode cX2_changeMode 70 = .ok (.ifCond .ne 19, 3) := by decide +kernel
theorem dX2_changeMode_73 : decode cX2_changeMode 73 = .ok (.aload_n 0, 1) := by decide +kernel
theorem dX2_changeMode_74 : decode cX2_changeMode 74 = .ok (.aload_n 0, 1) := by decide +kernel
theorem dX2_changeMode_75 : decode cX2_changeMode 75 = .ok (.getfield 42, 3) := by decide +kernel
theorem dX2_changeMode_78 : decode cX2_changeMode 78 = .ok (.ifCond .ne 7, 3) := by decide +kernel
theorem dX2_changeMode_81 : decode cX2_changeMode 81 = .ok (.iconst 1, 1) := by decide +kernel
theorem dX2_changeMode_82 : decode cX2_changeMode 82 = .ok (.goto 4, 3) := by decide +kernel
theorem dX2_changeMode_85 : decode cX2_changeMode 85 = .ok (.iconst 3, 1) := by decide +kernel
theorem dX2_changeMode_86 : decode cX2_changeMode 86 = .ok (.putfield 9, 3) := by decide +kernel
theorem dX2_changeMode_89 : decode cX2_changeMode 89 = .ok (.goto 107, 3) := by decide +kernel
theorem dX2_changeMode_92 : decode cX2_changeMode 92 = .ok (.iload 4, 2) := by decide +kernel
theorem dX2_changeMode_94 : decode cX2_changeMode 94 = .ok (.ifCond .eq 17, 3) := by decide +kernel
theorem dX2_changeMode_97 : decode cX2_changeMode 97 = .ok (.aload_n 0, 1) := by decide +kernel
theorem dX2_changeMode_98 : decode cX2_changeMode 98 = .ok (.iconst 0, 1) := by decide +kernel
theorem dX2_changeMode_99 : decode cX2_changeMode 99 = .ok (.putfield 9, 3) := by decide +kernel
theorem dX2_changeMode_102 : decode cX2_changeMode 102 = .ok (.aload_n 0, 1) := by decide +kernel
theorem dX2_changeMode_103 : decode cX2_changeMode 103 = .ok (.iload 4, 2) := by decide +kernel
theorem dX2_changeMode_105 : decode cX2_changeMode 105 = .ok (.putfield 51, 3) := by decide +kernel
theorem dX2_changeMode_108 : decode cX2_changeMode 108 = .ok (.goto 88, 3) := by decide +kernel
theorem dX2_changeMode_111 : decode cX2_changeMode 111 = .ok (.aload_n 0, 1) := by decide +kernel
theorem dX2_changeMode_112 : decode cX2_changeMode 112 = .ok (.getfield 9, 3) := by decide +kernel
theorem dX2_changeMode_115 : decode cX2_changeMode 115 = .ok (.iconst 1, 1) := by decide +kernel
theorem dX2_changeMode_116 : decode cX2_changeMode 116 = .ok (.if_icmp .ne 16, 3) := by decide +kernel
theorem dX2_changeMode_119 : decode cX2_changeMode 119 = .ok (.iload 5, 2) := by decide +kernel
theorem dX2_changeMode_121 : decode cX2_changeMode 121 = .ok (.ifCond .eq 11, 3) := by decide +kernel
theorem dX2_changeMode_124 : decode cX2_changeMode 124 = .ok (.aload_n 0, 1) := by decide +kernel
theorem dX2_changeMode_125 : decode cX2_changeMode 125 = .ok (.iconst 2, 1) := by decide +kernel
theorem dX2_changeMode_126 : decode cX2_changeMode 126 = .ok (.putfield 9, 3) := by decide +kernel
theorem dX2_changeMode_129 : decode cX2_changeMode 129 = .ok (.goto 67, 3) := by decide +kernel
theorem dX2_changeMode_132 : decode cX2_changeMode 132 = .ok (.aload_n 0, 1) := by decide +kernel
theorem dX2_changeMode_133 : decode cX2_changeMode 133 = .ok (.getfield 9, 3) := by decide +kernel
theorem dX2_changeMode_136 : decode cX2_changeMode 136 = .ok (.iconst 2, 1) := by decide +kernel
theorem dX2_changeMode_137 : decode cX2_changeMode 137 = .ok (.if_icmp .ne 23, 3) := by decide +kernel
theorem dX2_changeMode_140 : decode cX2_changeMode 140 = .ok (.iload_n 3, 1) := by decide +kernel
theorem dX2_changeMode_141 : decode cX2_changeMode 141 = .ok (.ifCond .ne 11, 3) := by decide +kernel
theorem dX2_changeMode_144 : decode cX2_changeMode 144 = .ok (.aload_n 0, 1) := by decide +kernel
theorem dX2_changeMode_145 : decode cX2_changeMode 145 = .ok (.getfield 15, 3) := by decide +kernel
theorem dX2_changeMode_148 : decode cX2_changeMode 148 = .ok (.iconst 2, 1) := by decide +kernel
theorem dX2_changeMode_149 : decode cX2_changeMode 149 = .ok (.if_icmp .eq 11, 3) := by decide +kernel
theorem dX2_changeMode_152 : decode cX2_changeMode 152 = .ok (.aload_n 0, 1) := by decide +kernel
theorem dX2_changeMode_153 : decode cX2_changeMode 153 = .ok (.iconst 3, 1) := by decide +kernel
theorem dX2_changeMode_154 : decode cX2_changeMode 154 = .ok (.putfield 9, 3) := by decide +kernel
theorem dX2_changeMode_157 : decode cX2_changeMode 157 = .ok (.goto 39, 3) := by decide +kernel
theorem dX2_changeMode_160 : decode cX2_changeMode 160 = .ok (.aload_n 0, 1) := by decide +kernel
theorem dX2_changeMode_161 : decode cX2_changeMode 161 = .ok (.getfield 9, 3) := by decide +kernel
theorem dX2_changeMode_164 : decode cX2_changeMode 164 = .ok (.iconst 3, 1) := by decide +kernel
theorem dX2_changeMode_165 : decode cX2_changeMode 165 = .ok (.if_icmp .ne 31, 3) := by decide +kernel
theorem dX2_changeMode_168 : decode cX2_changeMode 168 = .ok (.iload 5, 2) := by decide +kernel
theorem dX2_changeMode_170 : decode cX2_changeMode 170 = .ok (.ifCond .eq 26, 3) := by decide +kernel
theorem dX2_changeMode_173 : decode cX2_changeMode 173 = .ok (.aload_n 0, 1) := by decide +kernel
theorem dX2_changeMode_174 : decode cX2_changeMode 174 = .ok (.aload_n 0, 1) := by decide +kernel
theorem dX2_changeMode_175 : decode cX2_changeMode 175 = .ok (.getfield 42, 3) := by decide +kernel
theorem dX2_changeMode_178 : decode cX2_changeMode 178 = .ok (.aload_n 0, 1) := by decide +kernel
theorem dX2_changeMode_179 : decode cX2_changeMode 179 = .ok (.getfield 60, 3) := by decide +kernel
theorem dX2_changeMode_182 : decode cX2_changeMode 182 = .ok (.getfield 149, 3) := by decide +kernel
theorem dX2_changeMode_185 : decode cX2_changeMode 185 = .ok (.if_icmp .ge 7, 3) := by decide +kernel
theorem dX2_changeMode_188 : decode cX2_changeMode 188 = .ok (.iconst 2, 1) := by decide +kernel
theorem dX2_changeMode_189 : decode cX2_changeMode 189 = .ok (.goto 4, 3) := by decide +kernel
theorem dX2_changeMode_192 : decode cX2_changeMode 192 = .ok (.iconst 4, 1) := by decide +kernel
theorem dX2_changeMode_193 : decode cX2_changeMode 193 = .ok (.putfield 9, 3) := by decide +kernel
theorem dX2_changeMode_196 : decode cX2_changeMode 196 = .ok (.return_, 1) := by decide +kernel
set_option maxRecDepth 20000 in
theorem ggX2_moveSlide_X0_bothOpen : GoodIn wsX2_moveSlide wsX0_bothOpen := goodIn_r _ [14, 15, 16, 17, 18, 13, 19, 60, 61, 62, 63] (by decide +kernel) (by decide +kernel)
set_option maxRecDepth 20000 in
theorem gX2_moveSlide_X0_bothOpen : GoodIn wsX2_moveSlide (wsV RX2 152 RX0 yX0_bothOpen wsX0_bothOpen) := goodIn_app (goodIn_of _ (by decide +kernel)) ggX2_moveSlide_X0_bothOpen
set_option maxRecDepth 20000 in
theorem ggX2_moveSlide_X8_pairCount : GoodIn wsX2_moveSlide wsX8_pairCount := goodIn_r _ [22, 23, 24, 21, 25] (by decide +kernel) (by decide +kernel)
set_option maxRecDepth 20000 in
theorem gX2_moveSlide_X8_pairCount_n104 : GoodIn wsX2_moveSlide (wsX8_pairCount) := ggX2_moveSlide_X8_pairCount
set_option maxRecDepth 20000 in
theorem ggX2_moveSlide_X2_isMuted : GoodIn wsX2_moveSlide wsX2_isMuted := goodIn_r _ [30, 31, 37, 38, 39, 40, 41, 42, 43, 44, 45, 46, 47, 48, 49, 50, 51, 52, 53, 54] (by decide +kernel) (by decide +kernel)
set_option maxRecDepth 20000 in
theorem gX2_moveSlide_X2_isMuted : GoodIn wsX2_moveSlide (wsV RX2 108 RX2 yX2_isMuted wsX2_isMuted) := goodIn_app (goodIn_of _ (by decide +kernel)) ggX2_moveSlide_X2_isMuted
set_option maxRecDepth 20000 in
theorem ggX2_moveSlide_X2_arriveAtTop : GoodIn wsX2_moveSlide wsX2_arriveAtTop := goodIn_r _ [35, 6, 5, 36, 9, 37, 38, 39, 40, 41, 42, 43, 44, 45, 46, 47, 48, 49, 50, 51, 52, 53, 54] (by decide +kernel) (by decide +kernel)
set_option maxRecDepth 20000 in
theorem gX2_moveSlide_X2_arriveAtTop : GoodIn wsX2_moveSlide (wsV RX2 158 RX2 yX2_arriveAtTop wsX2_arriveAtTop) := goodIn_app (goodIn_of _ (by decide +kernel)) ggX2_moveSlide_X2_arriveAtTop
theorem dX2_moveSlide_0 : decode cX2_moveSlide 0 = .ok (.aload_n 0, 1) := by decide +kernel
theorem dX2_moveSlide_1 : decode cX2_moveSlide 1 = .ok (.getfield 64, 3) := by decide +kernel
theorem dX2_moveSlide_4 : decode cX2_moveSlide 4 = .ok (.aload_n 0, 1) := by decide +kernel
theorem dX2_moveSlide_5 : decode cX2_moveSlide 5 = .ok (.getfield 39, 3) := by decide +kernel
theorem dX2_moveSlide_8 : decode cX2_moveSlide 8 = .ok (.invokevirtual 152, 3) := by decide +kernel
theorem dX2_moveSlide_11 : decode cX2_moveSlide 11 = .ok (.ifCond .eq 17, 3) := by decide +kernel
theorem dX2_moveSlide_14 : decode cX2_moveSlide 14 = .ok (.aload_n 0, 1) := by decide +kernel
theorem dX2_moveSlide_15 : decode cX2_moveSlide 15 = .ok (.aload_n 0, 1) := by decide +kernel
theorem dX2_moveSlide_16 : decode cX2_moveSlide 16 = .ok (.getfield 60, 3) := by decide +kernel
theorem dX2_moveSlide_19 : decode cX2_moveSlide 19 = .ok (.getfield 155, 3) := by decide +kernel
theorem dX2_moveSlide_22 : decode cX2_moveSlide 22 = .ok (.putfield 45, 3) := by decide +kernel
theorem dX2_moveSlide_25 : decode cX2_moveSlide 25 = .ok (.goto 24, 3) := by decide +kernel
theorem dX2_moveSlide_28 : decode cX2_moveSlide 28 = .ok (.aload_n 0, 1) := by decide +kernel
theorem dX2_moveSlide_29 : decode cX2_moveSlide 29 = .ok (.getfield 45, 3) := by decide +kernel
theorem dX2_moveSlide_32 : decode cX2_moveSlide 32 = .ok (.ifCond .le 16, 3) := by decide +kernel
theorem dX2_moveSlide_35 : decode cX2_moveSlide 35 = .ok (.aload_n 0, 1) := by decide +kernel
theorem dX2_moveSlide_36 : decode cX2_moveSlide 36 = .ok (.dup, 1) := by decide +kernel
theorem dX2_moveSlide_37 : decode cX2_moveSlide 37 = .ok (.getfield 45, 3) := by decide +kernel
theorem dX2_moveSlide_40 : decode cX2_moveSlide 40 = .ok (.iconst 1, 1) := by decide +kernel
theorem dX2_moveSlide_41 : decode cX2_moveSlide 41 = .ok (.isub, 1) := by decide +kernel
theorem dX2_moveSlide_42 : decode cX2_moveSlide 42 = .ok (.putfield 45, 3) := by decide +kernel
theorem dX2_moveSlide_45 : decode cX2_moveSlide 45 = .ok (.goto 4, 3) := by decide +kernel
theorem dX2_moveSlide_48 : decode cX2_moveSlide 48 = .ok (.return_, 1) := by decide +kernel
theorem dX2_moveSlide_49 : decode cX2_moveSlide 49 = .ok (.aload_n 0, 1) := by decide +kernel
theorem dX2_moveSlide_50 : decode cX2_moveSlide 50 = .ok (.getfield 42, 3) := by decide +kernel
theorem dX2_moveSlide_53 : decode cX2_moveSlide 53 = .ok (.aload_n 0, 1) := by decide +kernel
theorem dX2_moveSlide_54 : decode cX2_moveSlide 54 = .ok (.getfield 60, 3) := by decide +kernel
theorem dX2_moveSlide_57 : decode cX2_moveSlide 57 = .ok (.getfield 149, 3) := by decide +kernel
theorem dX2_moveSlide_60 : decode cX2_moveSlide 60 = .ok (.if_icmp .ge 29, 3) := by decide +kernel
theorem dX2_moveSlide_63 : decode cX2_moveSlide 63 = .ok (.iload_n 1, 1) := by decide +kernel
theorem dX2_moveSlide_64 : decode cX2_moveSlide 64 = .ok (.iconst 4, 1) := by decide +kernel
theorem dX2_moveSlide_65 : decode cX2_moveSlide 65 = .ok (.invokestatic 104, 3) := by decide +kernel
theorem dX2_moveSlide_68 : decode cX2_moveSlide 68 = .ok (.iconst 2, 1) := by decide +kernel
theorem dX2_moveSlide_69 : decode cX2_moveSlide 69 = .ok (.if_icmp .eq 20, 3) := by decide +kernel
theorem dX2_moveSlide_72 : decode cX2_moveSlide 72 = .ok (.aload_n 0, 1) := by decide +kernel
theorem dX2_moveSlide_73 : decode cX2_moveSlide 73 = .ok (.invokevirtual 108, 3) := by decide +kernel
theorem dX2_moveSlide_76 : decode cX2_moveSlide 76 = .ok (.ifCond .ne 13, 3) := by decide +kernel
theorem dX2_moveSlide_79 : decode cX2_moveSlide 79 = .ok (.aload_n 0, 1) := by decide +kernel
theorem dX2_moveSlide_80 : decode cX2_moveSlide 80 = .ok (.dup, 1) := by decide +kernel
theorem dX2_moveSlide_81 : decode cX2_moveSlide 81 = .ok (.getfield 54, 3) := by decide +kernel
theorem dX2_moveSlide_84 : decode cX2_moveSlide 84 = .ok (.iconst 1, 1) := by decide +kernel
theorem dX2_moveSlide_85 : decode cX2_moveSlide 85 = .ok (.iadd, 1) := by decide +kernel
theorem dX2_moveSlide_86 : decode cX2_moveSlide 86 = .ok (.putfield 54, 3) := by decide +kernel
theorem dX2_moveSlide_89 : decode cX2_moveSlide 89 = .ok (.aload_n 0, 1) := by decide +kernel
theorem dX2_moveSlide_90 : decode cX2_moveSlide 90 = .ok (.dup, 1) := by decide +kernel
theorem dX2_moveSlide_91 : decode cX2_moveSlide 91 = .ok (.getfield 42, 3) := by decide +kernel
theorem dX2_moveSlide_94 : decode cX2_moveSlide 94 = .ok (.iconst 1, 1) := by decide +kernel
theorem dX2_moveSlide_95 : decode cX2_moveSlide 95 = .ok (.iadd, 1) := by decide +kernel
theorem dX2_moveSlide_96 : decode cX2_moveSlide 96 = .ok (.putfield 42, 3) := by decide +kernel
theorem dX2_moveSlide_99 : decode cX2_moveSlide 99 = .ok (.aload_n 0, 1) := by decide +kernel
theorem dX2_moveSlide_100 : decode cX2_moveSlide 100 = .ok (.getfield 42, 3) := by decide +kernel
theorem dX2_moveSlide_103 : decode cX2_moveSlide 103 = .ok (.aload_n 0, 1) := by decide +kernel
theorem dX2_moveSlide_104 : decode cX2_moveSlide 104 = .ok (.getfield 60, 3) := by decide +kernel
theorem dX2_moveSlide_107 : decode cX2_moveSlide 107 = .ok (.getfield 149, 3) := by decide +kernel
theorem dX2_moveSlide_110 : decode cX2_moveSlide 110 = .ok (.if_icmp .ne 16, 3) := by decide +kernel
theorem dX2_moveSlide_113 : decode cX2_moveSlide 113 = .ok (.aload_n 0, 1) := by decide +kernel
theorem dX2_moveSlide_114 : decode cX2_moveSlide 114 = .ok (.getfield 9, 3) := by decide +kernel
theorem dX2_moveSlide_117 : decode cX2_moveSlide 117 = .ok (.iconst 2, 1) := by decide +kernel
theorem dX2_moveSlide_118 : decode cX2_moveSlide 118 = .ok (.if_icmp .ne 8, 3) := by decide +kernel
theorem dX2_moveSlide_121 : decode cX2_moveSlide 121 = .ok (.aload_n 0, 1) := by decide +kernel
theorem dX2_moveSlide_122 : decode cX2_moveSlide 122 = .ok (.iconst 4, 1) := by decide +kernel
theorem dX2_moveSlide_123 : decode cX2_moveSlide 123 = .ok (.putfield 9, 3) := by decide +kernel
theorem dX2_moveSlide_126 : decode cX2_moveSlide 126 = .ok (.aload_n 0, 1) := by decide +kernel
theorem dX2_moveSlide_127 : decode cX2_moveSlide 127 = .ok (.getfield 42, 3) := by decide +kernel
theorem dX2_moveSlide_130 : decode cX2_moveSlide 130 = .ok (.iconst 2, 1) := by decide +kernel
theorem dX2_moveSlide_131 : decode cX2_moveSlide 131 = .ok (.aload_n 0, 1) := by decide +kernel
theorem dX2_moveSlide_132 : decode cX2_moveSlide 132 = .ok (.getfield 60, 3) := by decide +kernel
theorem dX2_moveSlide_135 : decode cX2_moveSlide 135 = .ok (.getfield 149, 3) := by decide +kernel
theorem dX2_moveSlide_138 : decode cX2_moveSlide 138 = .ok (.imul, 1) := by decide +kernel
theorem dX2_moveSlide_139 : decode cX2_moveSlide 139 = .ok (.if_icmp .lt 7, 3) := by decide +kernel
theorem dX2_moveSlide_142 : decode cX2_moveSlide 142 = .ok (.aload_n 0, 1) := by decide +kernel
theorem dX2_moveSlide_143 : decode cX2_moveSlide 143 = .ok (.invokevirtual 158, 3) := by decide +kernel
theorem dX2_moveSlide_146 : decode cX2_moveSlide 146 = .ok (.return_, 1) := by decide +kernel
theorem dX2_arriveAtTop_0 : decode cX2_arriveAtTop 0 = .ok (.aload_n 0, 1) := by decide +kernel
theorem dX2_arriveAtTop_1 : decode cX2_arriveAtTop 1 = .ok (.iconst 0, 1) := by decide +kernel
theorem dX2_arriveAtTop_2 : decode cX2_arriveAtTop 2 = .ok (.putfield 42, 3) := by decide +kernel
theorem dX2_arriveAtTop_5 : decode cX2_arriveAtTop 5 = .ok (.aload_n 0, 1) := by decide +kernel
theorem dX2_arriveAtTop_6 : decode cX2_arriveAtTop 6 = .ok (.iconst 0, 1) := by decide +kernel
theorem dX2_arriveAtTop_7 : decode cX2_arriveAtTop 7 = .ok (.putfield 45, 3) := by decide +kernel
theorem dX2_arriveAtTop_10 : decode cX2_arriveAtTop 10 = .ok (.aload_n 0, 1) := by decide +kernel
theorem dX2_arriveAtTop_11 : decode cX2_arriveAtTop 11 = .ok (.dup, 1) := by decide +kernel
theorem dX2_arriveAtTop_12 : decode cX2_arriveAtTop 12 = .ok (.getfield 57, 3) := by decide +kernel
theorem dX2_arriveAtTop_15 : decode cX2_arriveAtTop 15 = .ok (.iconst 1, 1) := by decide +kernel
theorem dX2_arriveAtTop_16 : decode cX2_arriveAtTop 16 = .ok (.iadd, 1) := by decide +kernel
theorem dX2_arriveAtTop_17 : decode cX2_arriveAtTop 17 = .ok (.putfield 57, 3) := by decide +kernel
theorem dX2_arriveAtTop_20 : decode cX2_arriveAtTop 20 = .ok (.aload_n 0, 1) := by decide +kernel
theorem dX2_arriveAtTop_21 : decode cX2_arriveAtTop 21 = .ok (.getfield 9, 3) := by decide +kernel
theorem dX2_arriveAtTop_24 : decode cX2_arriveAtTop 24 = .ok (.iconst 4, 1) := by decide +kernel
theorem dX2_arriveAtTop_25 : decode cX2_arriveAtTop 25 = .ok (.if_icmp .eq 11, 3) := by decide +kernel
theorem dX2_arriveAtTop_28 : decode cX2_arriveAtTop 28 = .ok (.aload_n 0, 1) := by decide +kernel
theorem dX2_arriveAtTop_29 : decode cX2_arriveAtTop 29 = .ok (.getfield 9, 3) := by decide +kernel
theorem dX2_arriveAtTop_32 : decode cX2_arriveAtTop 32 = .ok (.iconst 3, 1) := by decide +kernel
theorem dX2_arriveAtTop_33 : decode cX2_arriveAtTop 33 = .ok (.if_icmp .ne 8, 3) := by decide +kernel
theorem dX2_arriveAtTop_36 : decode cX2_arriveAtTop 36 = .ok (.aload_n 0, 1) := by decide +kernel
theorem dX2_arriveAtTop_37 : decode cX2_arriveAtTop 37 = .ok (.iconst 1, 1) := by decide +kernel
theorem dX2_arriveAtTop_38 : decode cX2_arriveAtTop 38 = .ok (.putfield 9, 3) := by decide +kernel
theorem dX2_arriveAtTop_41 : decode cX2_arriveAtTop 41 = .ok (.return_, 1) := by decide +kernel
theorem dX3_init_0 : decode cX3_init 0 = .ok (.aload_n 0, 1) := by decide +kernel
theorem dX3_init_1 : decode cX3_init 1 = .ok (.invokespecial 3, 3) := by decide +kernel
theorem dX3_init_4 : decode cX3_init 4 = .ok (.aload_n 0, 1) := by decide +kernel
theorem dX3_init_5 : decode cX3_init 5 = .ok (.bipush 32, 2) := by decide +kernel
theorem dX3_init_7 : decode cX3_init 7 = .ok (.newarray .int, 2) := by decide +kernel
theorem dX3_init_9 : decode cX3_init 9 = .ok (.putfield 9, 3) := by decide +kernel
theorem dX3_init_12 : decode cX3_init 12 = .ok (.aload_n 0, 1) := by decide +kernel
theorem dX3_init_13 : decode cX3_init 13 = .ok (.iconst 0, 1) := by decide +kernel
theorem dX3_init_14 : decode cX3_init 14 = .ok (.putfield 15, 3) := by decide +kernel
theorem dX3_init_17 : decode cX3_init 17 = .ok (.return_, 1) := by decide +kernel
set_option maxRecDepth 20000 in
theorem ggX3_append_X8_within : GoodIn wsX3_append wsX8_within := goodIn_r _ [5] (by decide +kernel) (by decide +kernel)
set_option maxRecDepth 20000 in
theorem gX3_append_X8_within_n19 : GoodIn wsX3_append (wsX8_within) := ggX3_append_X8_within
theorem dX3_append_0 : decode cX3_append 0 = .ok (.aload_n 0, 1) := by decide +kernel
theorem dX3_append_1 : decode cX3_append 1 = .ok (.getfield 15, 3) := by decide +kernel
theorem dX3_append_4 : decode cX3_append 4 = .ok (.iconst 0, 1) := by decide +kernel
theorem dX3_append_5 : decode cX3_append 5 = .ok (.bipush 31, 2) := by decide +kernel
theorem dX3_append_7 : decode cX3_append 7 = .ok (.invokestatic 19, 3) := by decide +kernel
theorem dX3_append_10 : decode cX3_append 10 = .ok (.ifCond .eq 23, 3) := by decide +kernel
theorem dX3_append_13 : decode cX3_append 13 = .ok (.aload_n 0, 1) := by decide +kernel
theorem dX3_append_14 : decode cX3_append 14 = .ok (.getfield 9, 3) := by decide +kernel
theorem dX3_append_17 : decode cX3_append 17 = .ok (.aload_n 0, 1) := by decide +kernel
theorem dX3_append_18 : decode cX3_append 18 = .ok (.getfield 15, 3) := by decide +kernel
theorem dX3_append_21 : decode cX3_append 21 = .ok (.iload_n 1, 1) := by decide +kernel
theorem dX3_append_22 : decode cX3_append 22 = .ok (.iastore, 1) := by decide +kernel
theorem dX3_append_23 : decode cX3_append 23 = .ok (.aload_n 0, 1) := by decide +kernel
theorem dX3_append_24 : decode cX3_append 24 = .ok (.dup, 1) := by decide +kernel
theorem dX3_append_25 : decode cX3_append 25 = .ok (.getfield 15, 3) := by decide +kernel
theorem dX3_append_28 : decode cX3_append 28 = .ok (.iconst 1, 1) := by decide +kernel
theorem dX3_append_29 : decode cX3_append 29 = .ok (.iadd, 1) := by decide +kernel
theorem dX3_append_30 : decode cX3_append 30 = .ok (.putfield 15, 3) := by decide +kernel
theorem dX3_append_33 : decode cX3_append 33 = .ok (.return_, 1) := by decide +kernel
set_option maxRecDepth 20000 in
theorem ggX3_setAt_X8_within : GoodIn wsX3_setAt wsX8_within := goodIn_r _ [4] (by decide +kernel) (by decide +kernel)
set_option maxRecDepth 20000 in
theorem gX3_setAt_X8_within_n19 : GoodIn wsX3_setAt (wsX8_within) := ggX3_setAt_X8_within
theorem dX3_setAt_0 : decode cX3_setAt 0 = .ok (.iload_n 1, 1) := by decide +kernel
theorem dX3_setAt_1 : decode cX3_setAt 1 = .ok (.iconst 0, 1) := by decide +kernel
theorem dX3_setAt_2 : decode cX3_setAt 2 = .ok (.bipush 31, 2) := by decide +kernel
theorem dX3_setAt_4 : decode cX3_setAt 4 = .ok (.invokestatic 19, 3) := by decide +kernel
theorem dX3_setAt_7 : decode cX3_setAt 7 = .ok (.ifCond .eq 12, 3) := by decide +kernel
theorem dX3_setAt_10 : decode cX3_setAt 10 = .ok (.aload_n 0, 1) := by decide +kernel
theorem dX3_setAt_11 : decode cX3_setAt 11 = .ok (.getfield 9, 3) := by decide +kernel
theorem dX3_setAt_14 : decode cX3_setAt 14 = .ok (.iload_n 1, 1) := by decide +kernel
theorem dX3_setAt_15 : decode cX3_setAt 15 = .ok (.iaload, 1) := by decide +kernel
theorem dX3_setAt_16 : decode cX3_setAt 16 = .ok (.goto 4, 3) := by decide +kernel
theorem dX3_setAt_19 : decode cX3_setAt 19 = .ok (.iconst 0, 1) := by decide +kernel
theorem dX3_setAt_20 : decode cX3_setAt 20 = .ok (.ireturn, 1) := by decide +kernel
set_option maxRecDepth 20000 in
theorem ggX4_init_X2_init : GoodIn wsX4_init wsX2_init := goodIn_r _ [18, 19, 2, 3, 20, 21, 22, 23, 24, 25, 26, 27, 28, 29, 30, 31, 32, 33, 34, 35, 36, 37, 45, 46, 47, 48, 49, 50, 51, 52, 53, 54, 55, 56, 57, 58, 59, 60, 61, 62] (by decide +kernel) (by decide +kernel)
set_option maxRecDepth 20000 in
theorem gX4_init_X2_init : GoodIn wsX4_init (wsX2_init) := ggX4_init_X2_init
theorem dX4_init_0 : decode cX4_init 0 = .ok (.aload_n 0, 1) := by decide +kernel
theorem dX4_init_1 : decode cX4_init 1 = .ok (.invokespecial 3, 3) := by decide +kernel
theorem dX4_init_4 : decode cX4_init 4 = .ok (.aload_n 0, 1) := by decide +kernel
theorem dX4_init_5 : decode cX4_init 5 = .ok (.bipush 6, 2) := by decide +kernel
theorem dX4_init_7 : decode cX4_init 7 = .ok (.anewarray 9, 3) := by decide +kernel
theorem dX4_init_10 : decode cX4_init 10 = .ok (.putfield 11, 3) := by decide +kernel
theorem dX4_init_13 : decode cX4_init 13 = .ok (.aload_n 0, 1) := by decide +kernel
theorem dX4_init_14 : decode cX4_init 14 = .ok (.sipush 2048, 3) := by decide +kernel
theorem dX4_init_17 : decode cX4_init 17 = .ok (.newarray .long, 2) := by decide +kernel
theorem dX4_init_19 : decode cX4_init 19 = .ok (.putfield 17, 3) := by decide +kernel
theorem dX4_init_22 : decode cX4_init 22 = .ok (.aload_n 0, 1) := by decide +kernel
theorem dX4_init_23 : decode cX4_init 23 = .ok (.iconst 5, 1) := by decide +kernel
theorem dX4_init_24 : decode cX4_init 24 = .ok (.newarray .int, 2) := by decide +kernel
theorem dX4_init_26 : decode cX4_init 26 = .ok (.putfield 21, 3) := by decide +kernel
theorem dX4_init_29 : decode cX4_init 29 = .ok (.aload_n 0, 1) := by decide +kernel
theorem dX4_init_30 : decode cX4_init 30 = .ok (.iconst 4, 1) := by decide +kernel
theorem dX4_init_31 : decode cX4_init 31 = .ok (.newarray .int, 2) := by decide +kernel
theorem dX4_init_33 : decode cX4_init 33 = .ok (.putfield 25, 3) := by decide +kernel
theorem dX4_init_36 : decode cX4_init 36 = .ok (.aload_n 0, 1) := by decide +kernel
theorem dX4_init_37 : decode cX4_init 37 = .ok (.iconst 0, 1) := by decide +kernel
theorem dX4_init_38 : decode cX4_init 38 = .ok (.putfield 28, 3) := by decide +kernel
theorem dX4_init_41 : decode cX4_init 41 = .ok (.aload_n 0, 1) := by decide +kernel
theorem dX4_init_42 : decode cX4_init 42 = .ok (.iconst 0, 1) := by decide +kernel
theorem dX4_init_43 : decode cX4_init 43 = .ok (.putfield 32, 3) := by decide +kernel
theorem dX4_init_46 : decode cX4_init 46 = .ok (.aload_n 0, 1) := by decide +kernel
theorem dX4_init_47 : decode cX4_init 47 = .ok (.iconst 0, 1) := by decide +kernel
theorem dX4_init_48 : decode cX4_init 48 = .ok (.putfield 35, 3) := by decide +kernel
theorem dX4_init_51 : decode cX4_init 51 = .ok (.iconst 0, 1) := by decide +kernel
theorem dX4_init_52 : decode cX4_init 52 = .ok (.istore_n 3, 1) := by decide +kernel
theorem dX4_init_53 : decode cX4_init 53 = .ok (.iload_n 3, 1) := by decide +kernel
theorem dX4_init_54 : decode cX4_init 54 = .ok (.iconst 5, 1) := by decide +kernel
theorem dX4_init_55 : decode cX4_init 55 = .ok (.if_icmp .gt 24, 3) := by decide +kernel
theorem dX4_init_58 : decode cX4_init 58 = .ok (.aload_n 0, 1) := by decide +kernel
theorem dX4_init_59 : decode cX4_init 59 = .ok (.getfield 11, 3) := by decide +kernel
theorem dX4_init_62 : decode cX4_init 62 = .ok (.iload_n 3, 1) := by decide +kernel
theorem dX4_init_63 : decode cX4_init 63 = .ok (.new 9, 3) := by decide +kernel
theorem dX4_init_66 : decode cX4_init 66 = .ok (.dup, 1) := by decide +kernel
theorem dX4_init_67 : decode cX4_init 67 = .ok (.aload_n 1, 1) := by decide +kernel
theorem dX4_init_68 : decode cX4_init 68 = .ok (.aload_n 2, 1) := by decide +kernel
theorem dX4_init_69 : decode cX4_init 69 = .ok (.invokespecial 38, 3) := by decide +kernel
theorem dX4_init_72 : decode cX4_init 72 = .ok (.aastore, 1) := by decide +kernel
theorem dX4_init_73 : decode cX4_init 73 = .ok (.iinc 3 1, 3) := by decide +kernel
theorem dX4_init_76 : decode cX4_init 76 = .ok (.goto (-23), 3) := by decide +kernel
theorem dX4_init_79 : decode cX4_init 79 = .ok (.return_, 1) := by decide +kernel
set_option maxRecDepth 20000 in
theorem ggX4_run_J7_fill_d0a16 : GoodIn wsX4_run wsJ7_fill_d0a16 := goodIn_r _ [10] (by decide +kernel) (by decide +kernel)
set_option maxRecDepth 20000 in
theorem gX4_run_J7_fill_d0a16 : GoodIn wsX4_run (va_wsS RX4 41 yJ7_fill_d0a16 wsJ7_fill_d0a16) := goodIn_app (goodIn_of _ (by decide +kernel)) ggX4_run_J7_fill_d0a16
set_option maxRecDepth 20000 in
theorem ggX4_run_J7_fill_53178 : GoodIn wsX4_run wsJ7_fill_53178 := goodIn_r _ [13] (by decide +kernel) (by decide +kernel)
set_option maxRecDepth 20000 in
theorem gX4_run_J7_fill_53178 : GoodIn wsX4_run (va_wsS RX4 47 yJ7_fill_53178 wsJ7_fill_53178) := goodIn_app (goodIn_of _ (by decide +kernel)) ggX4_run_J7_fill_53178
set_option maxRecDepth 20000 in
theorem ggX4_run_X4_chooseSets : GoodIn wsX4_run wsX4_chooseSets := goodIn_r _ [18, 19, 20, 21, 22, 23, 24, 25, 26, 27, 28, 29, 30, 31, 161, 162, 163, 164, 165, 166, 167] (by decide +kernel) (by decide +kernel)
set_option maxRecDepth 20000 in
theorem gX4_run_X4_chooseSets : GoodIn wsX4_run (wsV RX4 50 RX4 yX4_chooseSets wsX4_chooseSets) := goodIn_app (goodIn_of _ (by decide +kernel)) ggX4_run_X4_chooseSets
set_option maxRecDepth 20000 in
theorem ggX4_run_X2_copyFrom : GoodIn wsX4_run wsX2_copyFrom := goodIn_r _ [36, 37, 38, 39, 40, 41, 42, 43, 44, 45, 46, 47, 48, 49, 50, 51, 52, 168, 169, 170, 171, 172, 173, 174, 175, 176, 177, 178, 179, 180, 181, 182, 183, 184, 185] (by decide +kernel) (by decide +kernel)
set_option maxRecDepth 20000 in
theorem gX4_run_X2_copyFrom : GoodIn wsX4_run (wsV RX4 54 RX2 yX2_copyFrom wsX2_copyFrom) := goodIn_app (goodIn_of _ (by decide +kernel)) ggX4_run_X2_copyFrom
set_option maxRecDepth 20000 in
theorem ggX4_run_X4_goOn : GoodIn wsX4_run wsX4_goOn := goodIn_r _ [55, 5, 24, 19, 56, 57, 58, 59, 60, 61, 17, 62, 4, 6, 63, 64, 22, 65, 66, 2, 67, 68, 69, 35, 70, 71, 37, 72, 38, 73, 39, 40, 74, 41, 42, 43, 44, 45, 75, 46, 76, 47, 48, 49, 77, 78, 79, 80, 81, 1, 3, 32, 33, 34, 36, 50, 51, 52, 82, 83, 84, 85, 86, 87, 88, 89, 90, 91, 92, 93, 94, 95, 96, 97, 98, 99, 100, 101, 102, 103, 104, 105, 21, 23, 106, 107, 108, 109, 110, 111, 112, 113, 114, 115, 116, 117, 118, 119, 120, 121, 122, 123, 124, 125, 126, 127, 128, 129, 130, 131, 132, 133, 134, 135, 136, 137, 138, 139, 140, 141, 142, 143, 144, 145, 146, 147, 148, 149, 150, 151, 152, 153, 154, 155, 156, 157, 158, 159, 160, 53, 54, 161, 162, 163, 164, 165, 166, 167, 168, 169, 170, 171, 172, 173, 174, 175, 176, 177, 178, 179, 180, 181, 182, 183, 184, 185, 186, 187, 188, 189, 190, 191, 192, 193, 194] (by decide +kernel) (by decide +kernel)
set_option maxRecDepth 20000 in
theorem gX4_run_X4_goOn : GoodIn wsX4_run (va_wsS RX4 61 yX4_goOn wsX4_goOn) := goodIn_app (goodIn_of _ (by decide +kernel)) ggX4_run_X4_goOn
theorem dX4_run_0 : decode cX4_run 0 = .ok (.aload_n 0, 1) := by decide +kernel
theorem dX4_run_1 : decode cX4_run 1 = .ok (.getfield 17, 3) := by decide +kernel
theorem dX4_run_4 : decode cX4_run 4 = .ok (.lconst 0, 1) := by decide +kernel
theorem dX4_run_5 : decode cX4_run 5 = .ok (.invokestatic 41, 3) := by decide +kernel
theorem dX4_run_8 : decode cX4_run 8 = .ok (.aload_n 0, 1) := by decide +kernel
theorem dX4_run_9 : decode cX4_run 9 = .ok (.getfield 21, 3) := by decide +kernel
theorem dX4_run_12 : decode cX4_run 12 = .ok (.bipush (-9), 2) := by decide +kernel
theorem dX4_run_14 : decode cX4_run 14 = .ok (.invokestatic 47, 3) := by decide +kernel
theorem dX4_run_17 : decode cX4_run 17 = .ok (.aload_n 0, 1) := by decide +kernel
theorem dX4_run_18 : decode cX4_run 18 = .ok (.iconst 0, 1) := by decide +kernel
theorem dX4_run_19 : decode cX4_run 19 = .ok (.putfield 32, 3) := by decide +kernel
theorem dX4_run_22 : decode cX4_run 22 = .ok (.aload_n 0, 1) := by decide +kernel
theorem dX4_run_23 : decode cX4_run 23 = .ok (.iconst 0, 1) := by decide +kernel
theorem dX4_run_24 : decode cX4_run 24 = .ok (.putfield 35, 3) := by decide +kernel
theorem dX4_run_27 : decode cX4_run 27 = .ok (.aload_n 0, 1) := by decide +kernel
theorem dX4_run_28 : decode cX4_run 28 = .ok (.iload_n 2, 1) := by decide +kernel
theorem dX4_run_29 : decode cX4_run 29 = .ok (.iload_n 3, 1) := by decide +kernel
theorem dX4_run_30 : decode cX4_run 30 = .ok (.invokevirtual 50, 3) := by decide +kernel
theorem dX4_run_33 : decode cX4_run 33 = .ok (.aload_n 0, 1) := by decide +kernel
theorem dX4_run_34 : decode cX4_run 34 = .ok (.getfield 11, 3) := by decide +kernel
theorem dX4_run_37 : decode cX4_run 37 = .ok (.iconst 0, 1) := by decide +kernel
theorem dX4_run_38 : decode cX4_run 38 = .ok (.aaload, 1) := by decide +kernel
theorem dX4_run_39 : decode cX4_run 39 = .ok (.astore 5, 2) := by decide +kernel
theorem dX4_run_41 : decode cX4_run 41 = .ok (.aload 5, 2) := by decide +kernel
theorem dX4_run_43 : decode cX4_run 43 = .ok (.ifnonnull 4, 3) := by decide +kernel
theorem dX4_run_46 : decode cX4_run 46 = .ok (.return_, 1) := by decide +kernel
theorem dX4_run_47 : decode cX4_run 47 = .ok (.aload 5, 2) := by decide +kernel
theorem dX4_run_49 : decode cX4_run 49 = .ok (.aload_n 1, 1) := by decide +kernel
theorem dX4_run_50 : decode cX4_run 50 = .ok (.invokevirtual 54, 3) := by decide +kernel
theorem dX4_run_53 : decode cX4_run 53 = .ok (.aload 5, 2) := by decide +kernel
theorem dX4_run_55 : decode cX4_run 55 = .ok (.iconst 0, 1) := by decide +kernel
theorem dX4_run_56 : decode cX4_run 56 = .ok (.putfield 58, 3) := by decide +kernel
theorem dX4_run_59 : decode cX4_run 59 = .ok (.aload_n 0, 1) := by decide +kernel
theorem dX4_run_60 : decode cX4_run 60 = .ok (.iconst 0, 1) := by decide +kernel
theorem dX4_run_61 : decode cX4_run 61 = .ok (.iload 4, 2) := by decide +kernel
theorem dX4_run_63 : decode cX4_run 63 = .ok (.invokestatic 61, 3) := by decide +kernel
theorem dX4_run_66 : decode cX4_run 66 = .ok (.return_, 1) := by decide +kernel
set_option maxRecDepth 20000 in
theorem ggX4_part_X8_within : GoodIn wsX4_part wsX8_within := goodIn_r _ [6] (by decide +kernel) (by decide +kernel)
set_option maxRecDepth 20000 in
theorem gX4_part_X8_within_n65 : GoodIn wsX4_part (wsX8_within) := ggX4_part_X8_within
theorem dX4_part_0 : decode cX4_part 0 = .ok (.iload_n 1, 1) := by decide +kernel
theorem dX4_part_1 : decode cX4_part 1 = .ok (.ifCond .ne 8, 3) := by decide +kernel
theorem dX4_part_4 : decode cX4_part 4 = .ok (.aload_n 0, 1) := by decide +kernel
theorem dX4_part_5 : decode cX4_part 5 = .ok (.getfield 32, 3) := by decide +kernel
theorem dX4_part_8 : decode cX4_part 8 = .ok (.ireturn, 1) := by decide +kernel
theorem dX4_part_9 : decode cX4_part 9 = .ok (.iload_n 1, 1) := by decide +kernel
theorem dX4_part_10 : decode cX4_part 10 = .ok (.iconst 1, 1) := by decide +kernel
theorem dX4_part_11 : decode cX4_part 11 = .ok (.if_icmp .ne 8, 3) := by decide +kernel
theorem dX4_part_14 : decode cX4_part 14 = .ok (.aload_n 0, 1) := by decide +kernel
theorem dX4_part_15 : decode cX4_part 15 = .ok (.getfield 35, 3) := by decide +kernel
theorem dX4_part_18 : decode cX4_part 18 = .ok (.ireturn, 1) := by decide +kernel
theorem dX4_part_19 : decode cX4_part 19 = .ok (.iload_n 1, 1) := by decide +kernel
theorem dX4_part_20 : decode cX4_part 20 = .ok (.bipush 10, 2) := by decide +kernel
theorem dX4_part_22 : decode cX4_part 22 = .ok (.bipush 14, 2) := by decide +kernel
theorem dX4_part_24 : decode cX4_part 24 = .ok (.invokestatic 65, 3) := by decide +kernel
theorem dX4_part_27 : decode cX4_part 27 = .ok (.ifCond .eq 15, 3) := by decide +kernel
theorem dX4_part_30 : decode cX4_part 30 = .ok (.aload_n 0, 1) := by decide +kernel
theorem dX4_part_31 : decode cX4_part 31 = .ok (.getfield 21, 3) := by decide +kernel
theorem dX4_part_34 : decode cX4_part 34 = .ok (.iload_n 1, 1) := by decide +kernel
theorem dX4_part_35 : decode cX4_part 35 = .ok (.bipush 10, 2) := by decide +kernel
theorem dX4_part_37 : decode cX4_part 37 = .ok (.isub, 1) := by decide +kernel
theorem dX4_part_38 : decode cX4_part 38 = .ok (.iaload, 1) := by decide +kernel
theorem dX4_part_39 : decode cX4_part 39 = .ok (.goto 5, 3) := by decide +kernel
theorem dX4_part_42 : decode cX4_part 42 = .ok (.bipush (-2), 2) := by decide +kernel
theorem dX4_part_44 : decode cX4_part 44 = .ok (.ireturn, 1) := by decide +kernel
set_option maxRecDepth 20000 in
theorem ggX4_chooseSets_J6_bitCount_0f7a4 : GoodIn wsX4_chooseSets wsJ6_bitCount_0f7a4 := goodIn_r _ [10, 11, 12, 13] (by decide +kernel) (by decide +kernel)
set_option maxRecDepth 20000 in
theorem gX4_chooseSets_J6_bitCount_0f7a4 : GoodIn wsX4_chooseSets (va_wsS RX4 69 yJ6_bitCount_0f7a4 wsJ6_bitCount_0f7a4) := goodIn_app (goodIn_of _ (by decide +kernel)) ggX4_chooseSets_J6_bitCount_0f7a4
theorem dX4_chooseSets_0 : decode cX4_chooseSets 0 = .ok (.iload_n 2, 1) := by decide +kernel
theorem dX4_chooseSets_1 : decode cX4_chooseSets 1 = .ok (.iload_n 2, 1) := by decide +kernel
theorem dX4_chooseSets_2 : decode cX4_chooseSets 2 = .ok (.ineg, 1) := by decide +kernel
theorem dX4_chooseSets_3 : decode cX4_chooseSets 3 = .ok (.iand, 1) := by decide +kernel
theorem dX4_chooseSets_4 : decode cX4_chooseSets 4 = .ok (.istore_n 3, 1) := by decide +kernel
theorem dX4_chooseSets_5 : decode cX4_chooseSets 5 = .ok (.iload_n 2, 1) := by decide +kernel
theorem dX4_chooseSets_6 : decode cX4_chooseSets 6 = .ok (.iload_n 3, 1) := by decide +kernel
theorem dX4_chooseSets_7 : decode cX4_chooseSets 7 = .ok (.iconst (-1), 1) := by decide +kernel
theorem dX4_chooseSets_8 : decode cX4_chooseSets 8 = .ok (.ixor, 1) := by decide +kernel
theorem dX4_chooseSets_9 : decode cX4_chooseSets 9 = .ok (.iand, 1) := by decide +kernel
theorem dX4_chooseSets_10 : decode cX4_chooseSets 10 = .ok (.istore 4, 2) := by decide +kernel
theorem dX4_chooseSets_12 : decode cX4_chooseSets 12 = .ok (.iload_n 1, 1) := by decide +kernel
theorem dX4_chooseSets_13 : decode cX4_chooseSets 13 = .ok (.iload_n 2, 1) := by decide +kernel
theorem dX4_chooseSets_14 : decode cX4_chooseSets 14 = .ok (.iconst (-1), 1) := by decide +kernel
theorem dX4_chooseSets_15 : decode cX4_chooseSets 15 = .ok (.ixor, 1) := by decide +kernel
theorem dX4_chooseSets_16 : decode cX4_chooseSets 16 = .ok (.iand, 1) := by decide +kernel
theorem dX4_chooseSets_17 : decode cX4_chooseSets 17 = .ok (.istore 5, 2) := by decide +kernel
theorem dX4_chooseSets_19 : decode cX4_chooseSets 19 = .ok (.aload_n 0, 1) := by decide +kernel
theorem dX4_chooseSets_20 : decode cX4_chooseSets 20 = .ok (.getfield 25, 3) := by decide +kernel
theorem dX4_chooseSets_23 : decode cX4_chooseSets 23 = .ok (.iconst 0, 1) := by decide +kernel
theorem dX4_chooseSets_24 : decode cX4_chooseSets 24 = .ok (.iload 5, 2) := by decide +kernel
theorem dX4_chooseSets_26 : decode cX4_chooseSets 26 = .ok (.iastore, 1) := by decide +kernel
theorem dX4_chooseSets_27 : decode cX4_chooseSets 27 = .ok (.aload_n 0, 1) := by decide +kernel
theorem dX4_chooseSets_28 : decode cX4_chooseSets 28 = .ok (.getfield 25, 3) := by decide +kernel
theorem dX4_chooseSets_31 : decode cX4_chooseSets 31 = .ok (.iconst 1, 1) := by decide +kernel
theorem dX4_chooseSets_32 : decode cX4_chooseSets 32 = .ok (.iload 5, 2) := by decide +kernel
theorem dX4_chooseSets_34 : decode cX4_chooseSets 34 = .ok (.iload_n 3, 1) := by decide +kernel
theorem dX4_chooseSets_35 : decode cX4_chooseSets 35 = .ok (.ior, 1) := by decide +kernel
theorem dX4_chooseSets_36 : decode cX4_chooseSets 36 = .ok (.iastore, 1) := by decide +kernel
theorem dX4_chooseSets_37 : decode cX4_chooseSets 37 = .ok (.aload_n 0, 1) := by decide +kernel
theorem dX4_chooseSets_38 : decode cX4_chooseSets 38 = .ok (.getfield 25, 3) := by decide +kernel
theorem dX4_chooseSets_41 : decode cX4_chooseSets 41 = .ok (.iconst 2, 1) := by decide +kernel
theorem dX4_chooseSets_42 : decode cX4_chooseSets 42 = .ok (.iload 5, 2) := by decide +kernel
theorem dX4_chooseSets_44 : decode cX4_chooseSets 44 = .ok (.iload 4, 2) := by decide +kernel
theorem dX4_chooseSets_46 : decode cX4_chooseSets 46 = .ok (.ior, 1) := by decide +kernel
theorem dX4_chooseSets_47 : decode cX4_chooseSets 47 = .ok (.iastore, 1) := by decide +kernel
theorem dX4_chooseSets_48 : decode cX4_chooseSets 48 = .ok (.aload_n 0, 1) := by decide +kernel
theorem dX4_chooseSets_49 : decode cX4_chooseSets 49 = .ok (.getfield 25, 3) := by decide +kernel
theorem dX4_chooseSets_52 : decode cX4_chooseSets 52 = .ok (.iconst 3, 1) := by decide +kernel
theorem dX4_chooseSets_53 : decode cX4_chooseSets 53 = .ok (.iload 5, 2) := by decide +kernel
theorem dX4_chooseSets_55 : decode cX4_chooseSets 55 = .ok (.iload_n 2, 1) := by decide +kernel
theorem dX4_chooseSets_56 : decode cX4_chooseSets 56 = .ok (.ior, 1) := by decide +kernel
theorem dX4_chooseSets_57 : decode cX4_chooseSets 57 = .ok (.iastore, 1) := by decide +kernel
theorem dX4_chooseSets_58 : decode cX4_chooseSets 58 = .ok (.aload_n 0, 1) := by decide +kernel
theorem dX4_chooseSets_59 : decode cX4_chooseSets 59 = .ok (.iconst 1, 1) := by decide +kernel
theorem dX4_chooseSets_60 : decode cX4_chooseSets 60 = .ok (.iload_n 2, 1) := by decide +kernel
theorem dX4_chooseSets_61 : decode cX4_chooseSets 61 = .ok (.invokestatic 69, 3) := by decide +kernel
theorem dX4_chooseSets_64 : decode cX4_chooseSets 64 = .ok (.iconst 2, 1) := by decide +kernel
theorem dX4_chooseSets_65 : decode cX4_chooseSets 65 = .ok (.invokestatic 75, 3) := by decide +kernel
theorem dX4_chooseSets_68 : decode cX4_chooseSets 68 = .ok (.ishl, 1) := by decide +kernel
theorem dX4_chooseSets_69 : decode cX4_chooseSets 69 = .ok (.putfield 28, 3) := by decide +kernel
theorem dX4_chooseSets_72 : decode cX4_chooseSets 72 = .ok (.return_, 1) := by decide +kernel
set_option maxRecDepth 20000 in
theorem ggX4_goOn_X8_within : GoodIn wsX4_goOn wsX8_within := goodIn_r _ [6] (by decide +kernel) (by decide +kernel)
set_option maxRecDepth 20000 in
theorem gX4_goOn_X8_within_n65 : GoodIn wsX4_goOn (wsX8_within) := ggX4_goOn_X8_within
set_option maxRecDepth 20000 in
theorem ggX4_goOn_X4_meet : GoodIn wsX4_goOn wsX4_meet := goodIn_r _ [11, 12, 13, 14, 15, 16, 17, 18, 19, 20, 21, 22, 23, 24, 25, 26, 27, 28, 29, 30, 31, 32, 33, 34, 35, 36, 37, 38, 39, 40, 41, 42, 43, 44, 45, 46, 10, 47, 48, 49, 50, 4, 5, 6, 141, 142, 143, 144, 145, 146, 147, 148, 149, 150, 151, 152, 153, 154, 155, 156, 157, 158, 159, 160, 161, 162, 163, 164, 165] (by decide +kernel) (by decide +kernel)
set_option maxRecDepth 20000 in
theorem gX4_goOn_X4_meet : GoodIn wsX4_goOn (wsV RX4 81 RX4 yX4_meet wsX4_meet) := goodIn_app (goodIn_of _ (by decide +kernel)) ggX4_goOn_X4_meet
set_option maxRecDepth 20000 in
theorem ggX4_goOn_X2_copyFrom : GoodIn wsX4_goOn wsX2_copyFrom := goodIn_r _ [54, 26, 28, 30, 31, 33, 34, 35, 36, 37, 39, 41, 42, 43, 55, 56, 57, 148, 149, 150, 151, 152, 153, 154, 155, 156, 157, 158, 159, 160, 161, 162, 163, 164, 165] (by decide +kernel) (by decide +kernel)
set_option maxRecDepth 20000 in
theorem gX4_goOn_X2_copyFrom : GoodIn wsX4_goOn (wsV RX4 54 RX2 yX2_copyFrom wsX2_copyFrom) := goodIn_app (goodIn_of _ (by decide +kernel)) ggX4_goOn_X2_copyFrom
set_option maxRecDepth 20000 in
theorem ggX4_goOn_X2_advance : GoodIn wsX4_goOn wsX2_advance := goodIn_r _ [61, 62, 34, 35, 36, 28, 39, 37, 26, 43, 63, 64, 65, 66, 67, 68, 69, 70, 71, 23, 72, 73, 5, 74, 75, 76, 77, 78, 79, 80, 81, 82, 16, 83, 84, 85, 86, 87, 31, 33, 88, 89, 90, 91, 92, 93, 94, 95, 96, 97, 98, 99, 100, 101, 30, 102, 103, 104, 105, 106, 107, 108, 109, 110, 111, 112, 113, 114, 115, 116, 117, 118, 119, 41, 55, 120, 121, 122, 123, 124, 125, 126, 127, 128, 129, 130, 42, 56, 131, 132, 133, 134, 135, 136, 137, 138, 57, 148, 149, 150, 151, 152, 153, 154, 155, 156, 157, 158, 159, 160, 161, 162, 163, 164, 165, 166, 167, 168, 169, 170, 171, 172, 173, 174] (by decide +kernel) (by decide +kernel)
set_option maxRecDepth 20000 in
theorem gX4_goOn_X2_advance : GoodIn wsX4_goOn (wsV RX4 85 RX2 yX2_advance wsX2_advance) := goodIn_app (goodIn_of _ (by decide +kernel)) ggX4_goOn_X2_advance
set_option maxRecDepth 20000 in
theorem ggX4_goOn_X4_goOn : GoodIn wsX4_goOn wsX4_goOn := goodIn_r _ [0, 1, 2, 3, 4, 5, 6, 7, 8, 9, 10, 11, 12, 13, 14, 15, 16, 17, 18, 19, 20, 21, 22, 23, 24, 25, 26, 27, 28, 29, 30, 31, 32, 33, 34, 35, 36, 37, 38, 39, 40, 41, 42, 43, 44, 45, 46, 47, 48, 49, 50, 51, 52, 53, 54, 55, 56, 57, 58, 59, 60, 61, 62, 63, 64, 65, 66, 67, 68, 69, 70, 71, 72, 73, 74, 75, 76, 77, 78, 79, 80, 81, 82, 83, 84, 85, 86, 87, 88, 89, 90, 91, 92, 93, 94, 95, 96, 97, 98, 99, 100, 101, 102, 103, 104, 105, 106, 107, 108, 109, 110, 111, 112, 113, 114, 115, 116, 117, 118, 119, 120, 121, 122, 123, 124, 125, 126, 127, 128, 129, 130, 131, 132, 133, 134, 135, 136, 137, 138, 139, 140, 141, 142, 143, 144, 145, 146, 147, 148, 149, 150, 151, 152, 153, 154, 155, 156, 157, 158, 159, 160, 161, 162, 163, 164, 165, 166, 167, 168, 169, 170, 171, 172, 173, 174] (by decide +kernel) (by decide +kernel)
set_option maxRecDepth 20000 in
theorem gX4_goOn_X4_goOn : GoodIn wsX4_goOn (va_wsS RX4 61 yX4_goOn wsX4_goOn) := goodIn_app (goodIn_of _ (by decide +kernel)) ggX4_goOn_X4_goOn
theorem dX4_goOn_0 : decode cX4_goOn 0 = .ok (.iload_n 1, 1) := by decide +kernel
theorem dX4_goOn_1 : decode cX4_goOn 1 = .ok (.iconst 0, 1) := by decide +kernel
theorem dX4_goOn_2 : decode cX4_goOn 2 = .ok (.iconst 5, 1) := by decide +kernel
theorem dX4_goOn_3 : decode cX4_goOn 3 = .ok (.invokestatic 65, 3) := by decide +kernel
theorem dX4_goOn_6 : decode cX4_goOn 6 = .ok (.ifCond .ne 4, 3) := by decide +kernel
theorem dX4_goOn_9 : decode cX4_goOn 9 = .ok (.return_, 1) := by decide +kernel
theorem dX4_goOn_10 : decode cX4_goOn 10 = .ok (.aload_n 0, 1) := by decide +kernel
theorem dX4_goOn_11 : decode cX4_goOn 11 = .ok (.getfield 11, 3) := by decide +kernel
theorem dX4_goOn_14 : decode cX4_goOn 14 = .ok (.iload_n 1, 1) := by decide +kernel
theorem dX4_goOn_15 : decode cX4_goOn 15 = .ok (.aaload, 1) := by decide +kernel
theorem dX4_goOn_16 : decode cX4_goOn 16 = .ok (.astore_n 3, 1) := by decide +kernel
theorem dX4_goOn_17 : decode cX4_goOn 17 = .ok (.aload_n 3, 1) := by decide +kernel
theorem dX4_goOn_18 : decode cX4_goOn 18 = .ok (.ifnonnull 4, 3) := by decide +kernel
theorem dX4_goOn_21 : decode cX4_goOn 21 = .ok (.return_, 1) := by decide +kernel
theorem dX4_goOn_22 : decode cX4_goOn 22 = .ok (.aload_n 0, 1) := by decide +kernel
theorem dX4_goOn_23 : decode cX4_goOn 23 = .ok (.aload_n 3, 1) := by decide +kernel
theorem dX4_goOn_24 : decode cX4_goOn 24 = .ok (.iload_n 1, 1) := by decide +kernel
theorem dX4_goOn_25 : decode cX4_goOn 25 = .ok (.invokevirtual 81, 3) := by decide +kernel
theorem dX4_goOn_28 : decode cX4_goOn 28 = .ok (.iload_n 1, 1) := by decide +kernel
theorem dX4_goOn_29 : decode cX4_goOn 29 = .ok (.iload_n 2, 1) := by decide +kernel
theorem dX4_goOn_30 : decode cX4_goOn 30 = .ok (.if_icmp .ge 8, 3) := by decide +kernel
theorem dX4_goOn_33 : decode cX4_goOn 33 = .ok (.iload_n 1, 1) := by decide +kernel
theorem dX4_goOn_34 : decode cX4_goOn 34 = .ok (.iconst 5, 1) := by decide +kernel
theorem dX4_goOn_35 : decode cX4_goOn 35 = .ok (.if_icmp .lt 4, 3) := by decide +kernel
theorem dX4_goOn_38 : decode cX4_goOn 38 = .ok (.return_, 1) := by decide +kernel
theorem dX4_goOn_39 : decode cX4_goOn 39 = .ok (.aload_n 0, 1) := by decide +kernel
theorem dX4_goOn_40 : decode cX4_goOn 40 = .ok (.getfield 11, 3) := by decide +kernel
theorem dX4_goOn_43 : decode cX4_goOn 43 = .ok (.iload_n 1, 1) := by decide +kernel
theorem dX4_goOn_44 : decode cX4_goOn 44 = .ok (.iconst 1, 1) := by decide +kernel
theorem dX4_goOn_45 : decode cX4_goOn 45 = .ok (.iadd, 1) := by decide +kernel
theorem dX4_goOn_46 : decode cX4_goOn 46 = .ok (.aaload, 1) := by decide +kernel
theorem dX4_goOn_47 : decode cX4_goOn 47 = .ok (.astore 4, 2) := by decide +kernel
theorem dX4_goOn_49 : decode cX4_goOn 49 = .ok (.aload 4, 2) := by decide +kernel
theorem dX4_goOn_51 : decode cX4_goOn 51 = .ok (.ifnonnull 4, 3) := by decide +kernel
theorem dX4_goOn_54 : decode cX4_goOn 54 = .ok (.return_, 1) := by decide +kernel
theorem dX4_goOn_55 : decode cX4_goOn 55 = .ok (.iconst 0, 1) := by decide +kernel
theorem dX4_goOn_56 : decode cX4_goOn 56 = .ok (.istore 5, 2) := by decide +kernel
theorem dX4_goOn_58 : decode cX4_goOn 58 = .ok (.iload 5, 2) := by decide +kernel
theorem dX4_goOn_60 : decode cX4_goOn 60 = .ok (.aload_n 0, 1) := by decide +kernel
theorem dX4_goOn_61 : decode cX4_goOn 61 = .ok (.getfield 28, 3) := by decide +kernel
theorem dX4_goOn_64 : decode cX4_goOn 64 = .ok (.if_icmp .ge 45, 3) := by decide +kernel
theorem dX4_goOn_67 : decode cX4_goOn 67 = .ok (.iload 5, 2) := by decide +kernel
theorem dX4_goOn_69 : decode cX4_goOn 69 = .ok (.aload_n 0, 1) := by decide +kernel
theorem dX4_goOn_70 : decode cX4_goOn 70 = .ok (.getfield 25, 3) := by decide +kernel
theorem dX4_goOn_73 : decode cX4_goOn 73 = .ok (.arraylength, 1) := by decide +kernel
theorem dX4_goOn_74 : decode cX4_goOn 74 = .ok (.if_icmp .ge 35, 3) := by decide +kernel
theorem dX4_goOn_77 : decode cX4_goOn 77 = .ok (.aload 4, 2) := by decide +kernel
theorem dX4_goOn_79 : decode cX4_goOn 79 = .ok (.aload_n 3, 1) := by decide +kernel
theorem dX4_goOn_80 : decode cX4_goOn 80 = .ok (.invokevirtual 54, 3) := by decide +kernel
theorem dX4_goOn_83 : decode cX4_goOn 83 = .ok (.aload 4, 2) := by decide +kernel
theorem dX4_goOn_85 : decode cX4_goOn 85 = .ok (.aload_n 0, 1) := by decide +kernel
theorem dX4_goOn_86 : decode cX4_goOn 86 = .ok (.getfield 25, 3) := by decide +kernel
theorem dX4_goOn_89 : decode cX4_goOn 89 = .ok (.iload 5, 2) := by decide +kernel
theorem dX4_goOn_91 : decode cX4_goOn 91 = .ok (.iaload, 1) := by decide +kernel
theorem dX4_goOn_92 : decode cX4_goOn 92 = .ok (.invokevirtual 85, 3) := by decide +kernel
theorem dX4_goOn_95 : decode cX4_goOn 95 = .ok (.aload_n 0, 1) := by decide +kernel
theorem dX4_goOn_96 : decode cX4_goOn 96 = .ok (.iload_n 1, 1) := by decide +kernel
theorem dX4_goOn_97 : decode cX4_goOn 97 = .ok (.iconst 1, 1) := by decide +kernel
theorem dX4_goOn_98 : decode cX4_goOn 98 = .ok (.iadd, 1) := by decide +kernel
theorem dX4_goOn_99 : decode cX4_goOn 99 = .ok (.iload_n 2, 1) := by decide +kernel
theorem dX4_goOn_100 : decode cX4_goOn 100 = .ok (.invokestatic 61, 3) := by decide +kernel
theorem dX4_goOn_103 : decode cX4_goOn 103 = .ok (.iinc 5 1, 3) := by decide +kernel
theorem dX4_goOn_106 : decode cX4_goOn 106 = .ok (.goto (-48), 3) := by decide +kernel
theorem dX4_goOn_109 : decode cX4_goOn 109 = .ok (.return_, 1) := by decide +kernel
set_option maxRecDepth 20000 in
theorem ggX4_meet_X2_stateNumber : GoodIn wsX4_meet wsX2_stateNumber := goodIn_r _ [13, 14, 15, 16, 17, 18, 19, 20, 21, 22, 23, 24, 25, 26, 27, 28, 29, 30, 31, 32, 51, 52, 53, 54, 55, 56, 57, 58, 59, 60, 61, 62, 63, 64, 65, 66, 67, 68] (by decide +kernel) (by decide +kernel)
set_option maxRecDepth 20000 in
theorem gX4_meet_X2_stateNumber : GoodIn wsX4_meet (wsV RX4 89 RX2 yX2_stateNumber wsX2_stateNumber) := goodIn_app (goodIn_of _ (by decide +kernel)) ggX4_meet_X2_stateNumber
set_option maxRecDepth 20000 in
theorem ggX4_meet_X4_addState : GoodIn wsX4_meet wsX4_addState := goodIn_r _ [37, 38, 39, 40, 44, 45, 46, 47, 48, 49, 50] (by decide +kernel) (by decide +kernel)
set_option maxRecDepth 20000 in
theorem gX4_meet_X4_addState : GoodIn wsX4_meet (wsV RX4 93 RX4 yX4_addState wsX4_addState) := goodIn_app (goodIn_of _ (by decide +kernel)) ggX4_meet_X4_addState
set_option maxRecDepth 20000 in
theorem ggX4_meet_X8_within : GoodIn wsX4_meet wsX8_within := goodIn_r _ [43] (by decide +kernel) (by decide +kernel)
set_option maxRecDepth 20000 in
theorem gX4_meet_X8_within_n65 : GoodIn wsX4_meet (wsX8_within) := ggX4_meet_X8_within
theorem dX4_meet_0 : decode cX4_meet 0 = .ok (.aload_n 0, 1) := by decide +kernel
theorem dX4_meet_1 : decode cX4_meet 1 = .ok (.aload_n 1, 1) := by decide +kernel
theorem dX4_meet_2 : decode cX4_meet 2 = .ok (.invokevirtual 89, 3) := by decide +kernel
theorem dX4_meet_5 : decode cX4_meet 5 = .ok (.invokevirtual 93, 3) := by decide +kernel
theorem dX4_meet_8 : decode cX4_meet 8 = .ok (.aload_n 0, 1) := by decide +kernel
theorem dX4_meet_9 : decode cX4_meet 9 = .ok (.aload_n 0, 1) := by decide +kernel
theorem dX4_meet_10 : decode cX4_meet 10 = .ok (.getfield 35, 3) := by decide +kernel
theorem dX4_meet_13 : decode cX4_meet 13 = .ok (.aload_n 1, 1) := by decide +kernel
theorem dX4_meet_14 : decode cX4_meet 14 = .ok (.getfield 58, 3) := by decide +kernel
theorem dX4_meet_17 : decode cX4_meet 17 = .ok (.invokestatic 97, 3) := by decide +kernel
theorem dX4_meet_20 : decode cX4_meet 20 = .ok (.putfield 35, 3) := by decide +kernel
theorem dX4_meet_23 : decode cX4_meet 23 = .ok (.aload_n 1, 1) := by decide +kernel
theorem dX4_meet_24 : decode cX4_meet 24 = .ok (.getfield 100, 3) := by decide +kernel
theorem dX4_meet_27 : decode cX4_meet 27 = .ok (.istore_n 3, 1) := by decide +kernel
theorem dX4_meet_28 : decode cX4_meet 28 = .ok (.iload_n 3, 1) := by decide +kernel
theorem dX4_meet_29 : decode cX4_meet 29 = .ok (.iconst 0, 1) := by decide +kernel
theorem dX4_meet_30 : decode cX4_meet 30 = .ok (.iconst 4, 1) := by decide +kernel
theorem dX4_meet_31 : decode cX4_meet 31 = .ok (.invokestatic 65, 3) := by decide +kernel
theorem dX4_meet_34 : decode cX4_meet 34 = .ok (.ifCond .eq 31, 3) := by decide +kernel
theorem dX4_meet_37 : decode cX4_meet 37 = .ok (.aload_n 0, 1) := by decide +kernel
theorem dX4_meet_38 : decode cX4_meet 38 = .ok (.getfield 21, 3) := by decide +kernel
theorem dX4_meet_41 : decode cX4_meet 41 = .ok (.iload_n 3, 1) := by decide +kernel
theorem dX4_meet_42 : decode cX4_meet 42 = .ok (.iaload, 1) := by decide +kernel
theorem dX4_meet_43 : decode cX4_meet 43 = .ok (.bipush (-9), 2) := by decide +kernel
theorem dX4_meet_45 : decode cX4_meet 45 = .ok (.if_icmp .eq 13, 3) := by decide +kernel
theorem dX4_meet_48 : decode cX4_meet 48 = .ok (.iload_n 2, 1) := by decide +kernel
theorem dX4_meet_49 : decode cX4_meet 49 = .ok (.aload_n 0, 1) := by decide +kernel
theorem dX4_meet_50 : decode cX4_meet 50 = .ok (.getfield 21, 3) := by decide +kernel
theorem dX4_meet_53 : decode cX4_meet 53 = .ok (.iload_n 3, 1) := by decide +kernel
theorem dX4_meet_54 : decode cX4_meet 54 = .ok (.iaload, 1) := by decide +kernel
theorem dX4_meet_55 : decode cX4_meet 55 = .ok (.if_icmp .ge 10, 3) := by decide +kernel
theorem dX4_meet_58 : decode cX4_meet 58 = .ok (.aload_n 0, 1) := by decide +kernel
theorem dX4_meet_59 : decode cX4_meet 59 = .ok (.getfield 21, 3) := by decide +kernel
theorem dX4_meet_62 : decode cX4_meet 62 = .ok (.iload_n 3, 1) := by decide +kernel
theorem dX4_meet_63 : decode cX4_meet 63 = .ok (.iload_n 2, 1) := by decide +kernel
theorem dX4_meet_64 : decode cX4_meet 64 = .ok (.iastore, 1) := by decide +kernel
theorem dX4_meet_65 : decode cX4_meet 65 = .ok (.return_, 1) := by decide +kernel
theorem dX4_addState_0 : decode cX4_addState 0 = .ok (.lload_n 1, 1) := by decide +kernel
theorem dX4_addState_1 : decode cX4_addState 1 = .ok (.ldc2_w 103, 3) := by decide +kernel
theorem dX4_addState_4 : decode cX4_addState 4 = .ok (.lmul, 1) := by decide +kernel
theorem dX4_addState_5 : decode cX4_addState 5 = .ok (.bipush 53, 2) := by decide +kernel
theorem dX4_addState_7 : decode cX4_addState 7 = .ok (.lushr, 1) := by decide +kernel
theorem dX4_addState_8 : decode cX4_addState 8 = .ok (.l2i, 1) := by decide +kernel
theorem dX4_addState_9 : decode cX4_addState 9 = .ok (.istore_n 3, 1) := by decide +kernel
theorem dX4_addState_10 : decode cX4_addState 10 = .ok (.iconst 0, 1) := by decide +kernel
theorem dX4_addState_11 : decode cX4_addState 11 = .ok (.istore 4, 2) := by decide +kernel
theorem dX4_addState_13 : decode cX4_addState 13 = .ok (.iload 4, 2) := by decide +kernel
theorem dX4_addState_15 : decode cX4_addState 15 = .ok (.sipush 2048, 3) := by decide +kernel
theorem dX4_addState_18 : decode cX4_addState 18 = .ok (.if_icmp .ge 63, 3) := by decide +kernel
theorem dX4_addState_21 : decode cX4_addState 21 = .ok (.iload_n 3, 1) := by decide +kernel
theorem dX4_addState_22 : decode cX4_addState 22 = .ok (.iload 4, 2) := by decide +kernel
theorem dX4_addState_24 : decode cX4_addState 24 = .ok (.iadd, 1) := by decide +kernel
theorem dX4_addState_25 : decode cX4_addState 25 = .ok (.sipush 2047, 3) := by decide +kernel
theorem dX4_addState_28 : decode cX4_addState 28 = .ok (.iand, 1) := by decide +kernel
theorem dX4_addState_29 : decode cX4_addState 29 = .ok (.istore 5, 2) := by decide +kernel
theorem dX4_addState_31 : decode cX4_addState 31 = .ok (.aload_n 0, 1) := by decide +kernel
theorem dX4_addState_32 : decode cX4_addState 32 = .ok (.getfield 17, 3) := by decide +kernel
theorem dX4_addState_35 : decode cX4_addState 35 = .ok (.iload 5, 2) := by decide +kernel
theorem dX4_addState_37 : decode cX4_addState 37 = .ok (.laload, 1) := by decide +kernel
theorem dX4_addState_38 : decode cX4_addState 38 = .ok (.lload_n 1, 1) := by decide +kernel
theorem dX4_addState_39 : decode cX4_addState 39 = .ok (.lcmp, 1) := by decide +kernel
theorem dX4_addState_40 : decode cX4_addState 40 = .ok (.ifCond .ne 4, 3) := by decide +kernel
theorem dX4_addState_43 : decode cX4_addState 43 = .ok (.return_, 1) := by decide +kernel
theorem dX4_addState_44 : decode cX4_addState 44 = .ok (.aload_n 0, 1) := by decide +kernel
theorem dX4_addState_45 : decode cX4_addState 45 = .ok (.getfield 17, 3) := by decide +kernel
theorem dX4_addState_48 : decode cX4_addState 48 = .ok (.iload 5, 2) := by decide +kernel
theorem dX4_addState_50 : decode cX4_addState 50 = .ok (.laload, 1) := by decide +kernel
theorem dX4_addState_51 : decode cX4_addState 51 = .ok (.lconst 0, 1) := by decide +kernel
theorem dX4_addState_52 : decode cX4_addState 52 = .ok (.lcmp, 1) := by decide +kernel
theorem dX4_addState_53 : decode cX4_addState 53 = .ok (.ifCond .ne 22, 3) := by decide +kernel
theorem dX4_addState_56 : decode cX4_addState 56 = .ok (.aload_n 0, 1) := by decide +kernel
theorem dX4_addState_57 : decode cX4_addState 57 = .ok (.getfield 17, 3) := by decide +kernel
theorem dX4_addState_60 : decode cX4_addState 60 = .ok (.iload 5, 2) := by decide +kernel
theorem dX4_addState_62 : decode cX4_addState 62 = .ok (.lload_n 1, 1) := by decide +kernel
theorem dX4_addState_63 : decode cX4_addState 63 = .ok (.lastore, 1) := by decide +kernel
theorem dX4_addState_64 : decode cX4_addState 64 = .ok (.aload_n 0, 1) := by decide +kernel
theorem dX4_addState_65 : decode cX4_addState 65 = .ok (.dup, 1) := by decide +kernel
theorem dX4_addState_66 : decode cX4_addState 66 = .ok (.getfield 32, 3) := by decide +kernel
theorem dX4_addState_69 : decode cX4_addState 69 = .ok (.iconst 1, 1) := by decide +kernel
theorem dX4_addState_70 : decode cX4_addState 70 = .ok (.iadd, 1) := by decide +kernel
theorem dX4_addState_71 : decode cX4_addState 71 = .ok (.putfield 32, 3) := by decide +kernel
theorem dX4_addState_74 : decode cX4_addState 74 = .ok (.return_, 1) := by decide +kernel
theorem dX4_addState_75 : decode cX4_addState 75 = .ok (.iinc 4 1, 3) := by decide +kernel
theorem dX4_addState_78 : decode cX4_addState 78 = .ok (.goto (-65), 3) := by decide +kernel
theorem dX4_addState_81 : decode cX4_addState 81 = .ok (.return_, 1) := by decide +kernel
theorem dX5_init_0 : decode cX5_init 0 = .ok (.aload_n 0, 1) := by decide +kernel
theorem dX5_init_1 : decode cX5_init 1 = .ok (.invokespecial 3, 3) := by decide +kernel
theorem dX5_init_4 : decode cX5_init 4 = .ok (.aload_n 0, 1) := by decide +kernel
theorem dX5_init_5 : decode cX5_init 5 = .ok (.iconst 2, 1) := by decide +kernel
theorem dX5_init_6 : decode cX5_init 6 = .ok (.putfield 9, 3) := by decide +kernel
theorem dX5_init_9 : decode cX5_init 9 = .ok (.aload_n 0, 1) := by decide +kernel
theorem dX5_init_10 : decode cX5_init 10 = .ok (.iconst 3, 1) := by decide +kernel
theorem dX5_init_11 : decode cX5_init 11 = .ok (.putfield 15, 3) := by decide +kernel
theorem dX5_init_14 : decode cX5_init 14 = .ok (.aload_n 0, 1) := by decide +kernel
theorem dX5_init_15 : decode cX5_init 15 = .ok (.bipush 12, 2) := by decide +kernel
theorem dX5_init_17 : decode cX5_init 17 = .ok (.putfield 18, 3) := by decide +kernel
theorem dX5_init_20 : decode cX5_init 20 = .ok (.aload_n 0, 1) := by decide +kernel
theorem dX5_init_21 : decode cX5_init 21 = .ok (.iconst 1, 1) := by decide +kernel
theorem dX5_init_22 : decode cX5_init 22 = .ok (.putfield 21, 3) := by decide +kernel
theorem dX5_init_25 : decode cX5_init 25 = .ok (.aload_n 0, 1) := by decide +kernel
theorem dX5_init_26 : decode cX5_init 26 = .ok (.iconst 4, 1) := by decide +kernel
theorem dX5_init_27 : decode cX5_init 27 = .ok (.putfield 24, 3) := by decide +kernel
theorem dX5_init_30 : decode cX5_init 30 = .ok (.return_, 1) := by decide +kernel
theorem dX5_become_0 : decode cX5_become 0 = .ok (.aload_n 0, 1) := by decide +kernel
theorem dX5_become_1 : decode cX5_become 1 = .ok (.iload_n 1, 1) := by decide +kernel
theorem dX5_become_2 : decode cX5_become 2 = .ok (.putfield 9, 3) := by decide +kernel
theorem dX5_become_5 : decode cX5_become 5 = .ok (.aload_n 0, 1) := by decide +kernel
theorem dX5_become_6 : decode cX5_become 6 = .ok (.iload_n 2, 1) := by decide +kernel
theorem dX5_become_7 : decode cX5_become 7 = .ok (.putfield 15, 3) := by decide +kernel
theorem dX5_become_10 : decode cX5_become 10 = .ok (.aload_n 0, 1) := by decide +kernel
theorem dX5_become_11 : decode cX5_become 11 = .ok (.iload_n 3, 1) := by decide +kernel
theorem dX5_become_12 : decode cX5_become 12 = .ok (.putfield 18, 3) := by decide +kernel
theorem dX5_become_15 : decode cX5_become 15 = .ok (.aload_n 0, 1) := by decide +kernel
theorem dX5_become_16 : decode cX5_become 16 = .ok (.iload 4, 2) := by decide +kernel
theorem dX5_become_18 : decode cX5_become 18 = .ok (.putfield 21, 3) := by decide +kernel
theorem dX5_become_21 : decode cX5_become 21 = .ok (.aload_n 0, 1) := by decide +kernel
theorem dX5_become_22 : decode cX5_become 22 = .ok (.iload 5, 2) := by decide +kernel
theorem dX5_become_24 : decode cX5_become 24 = .ok (.putfield 24, 3) := by decide +kernel
theorem dX5_become_27 : decode cX5_become 27 = .ok (.return_, 1) := by decide +kernel
theorem dX5_part_0 : decode cX5_part 0 = .ok (.iload_n 1, 1) := by decide +kernel
theorem dX5_part_1 : decode cX5_part 1 = .ok (.tableswitch 60 0 4 #[35, 40, 45, 50, 55], 35) := by decide +kernel
theorem dX5_part_36 : decode cX5_part 36 = .ok (.aload_n 0, 1) := by decide +kernel
theorem dX5_part_37 : decode cX5_part 37 = .ok (.getfield 9, 3) := by decide +kernel
theorem dX5_part_40 : decode cX5_part 40 = .ok (.ireturn, 1) := by decide +kernel
theorem dX5_part_41 : decode cX5_part 41 = .ok (.aload_n 0, 1) := by decide +kernel
theorem dX5_part_42 : decode cX5_part 42 = .ok (.getfield 15, 3) := by decide +kernel
theorem dX5_part_45 : decode cX5_part 45 = .ok (.ireturn, 1) := by decide +kernel
theorem dX5_part_46 : decode cX5_part 46 = .ok (.aload_n 0, 1) := by decide +kernel
theorem dX5_part_47 : decode cX5_part 47 = .ok (.getfield 18, 3) := by decide +kernel
theorem dX5_part_50 : decode cX5_part 50 = .ok (.ireturn, 1) := by decide +kernel
theorem dX5_part_51 : decode cX5_part 51 = .ok (.aload_n 0, 1) := by decide +kernel
theorem dX5_part_52 : decode cX5_part 52 = .ok (.getfield 21, 3) := by decide +kernel
theorem dX5_part_55 : decode cX5_part 55 = .ok (.ireturn, 1) := by decide +kernel
theorem dX5_part_56 : decode cX5_part 56 = .ok (.aload_n 0, 1) := by decide +kernel
theorem dX5_part_57 : decode cX5_part 57 = .ok (.getfield 24, 3) := by decide +kernel
theorem dX5_part_60 : decode cX5_part 60 = .ok (.ireturn, 1) := by decide +kernel
theorem dX5_part_61 : decode cX5_part 61 = .ok (.bipush (-2), 2) := by decide +kernel
theorem dX5_part_63 : decode cX5_part 63 = .ok (.ireturn, 1) := by decide +kernel
set_option maxRecDepth 20000 in
theorem ggX6_init_X0_init : GoodIn wsX6_init wsX0_init := goodIn_r _ [15, 16, 2, 3, 17, 18, 19, 20, 43, 44, 45, 46] (by decide +kernel) (by decide +kernel)
set_option maxRecDepth 20000 in
theorem gX6_init_X0_init_n11 : GoodIn wsX6_init (wsX0_init) := ggX6_init_X0_init
set_option maxRecDepth 20000 in
theorem ggX6_init_X2_init : GoodIn wsX6_init wsX2_init := goodIn_r _ [23, 24, 2, 3, 25, 26, 27, 28, 29, 30, 31, 32, 33, 34, 35, 36, 37, 38, 39, 40, 41, 42, 51, 52, 53, 54, 55, 56, 57, 58, 59, 60, 61, 62, 63, 64, 65, 66, 67, 68] (by decide +kernel) (by decide +kernel)
set_option maxRecDepth 20000 in
theorem gX6_init_X2_init : GoodIn wsX6_init (wsX2_init) := ggX6_init_X2_init
theorem dX6_init_0 : decode cX6_init 0 = .ok (.aload_n 0, 1) := by decide +kernel
theorem dX6_init_1 : decode cX6_init 1 = .ok (.invokespecial 3, 3) := by decide +kernel
theorem dX6_init_4 : decode cX6_init 4 = .ok (.aload_n 0, 1) := by decide +kernel
theorem dX6_init_5 : decode cX6_init 5 = .ok (.new 9, 3) := by decide +kernel
theorem dX6_init_8 : decode cX6_init 8 = .ok (.dup, 1) := by decide +kernel
theorem dX6_init_9 : decode cX6_init 9 = .ok (.invokespecial 11, 3) := by decide +kernel
theorem dX6_init_12 : decode cX6_init 12 = .ok (.putfield 12, 3) := by decide +kernel
theorem dX6_init_15 : decode cX6_init 15 = .ok (.aload_n 0, 1) := by decide +kernel
theorem dX6_init_16 : decode cX6_init 16 = .ok (.bipush (-9), 2) := by decide +kernel
theorem dX6_init_18 : decode cX6_init 18 = .ok (.putfield 18, 3) := by decide +kernel
theorem dX6_init_21 : decode cX6_init 21 = .ok (.aload_n 0, 1) := by decide +kernel
theorem dX6_init_22 : decode cX6_init 22 = .ok (.bipush (-9), 2) := by decide +kernel
theorem dX6_init_24 : decode cX6_init 24 = .ok (.putfield 22, 3) := by decide +kernel
theorem dX6_init_27 : decode cX6_init 27 = .ok (.aload_n 0, 1) := by decide +kernel
theorem dX6_init_28 : decode cX6_init 28 = .ok (.new 25, 3) := by decide +kernel
theorem dX6_init_31 : decode cX6_init 31 = .ok (.dup, 1) := by decide +kernel
theorem dX6_init_32 : decode cX6_init 32 = .ok (.aload_n 1, 1) := by decide +kernel
theorem dX6_init_33 : decode cX6_init 33 = .ok (.aload_n 0, 1) := by decide +kernel
theorem dX6_init_34 : decode cX6_init 34 = .ok (.getfield 12, 3) := by decide +kernel
theorem dX6_init_37 : decode cX6_init 37 = .ok (.invokespecial 27, 3) := by decide +kernel
theorem dX6_init_40 : decode cX6_init 40 = .ok (.putfield 30, 3) := by decide +kernel
theorem dX6_init_43 : decode cX6_init 43 = .ok (.return_, 1) := by decide +kernel
set_option maxRecDepth 20000 in
theorem ggX6_run_X0_clear : GoodIn wsX6_run wsX0_clear := goodIn_r _ [12, 13, 14, 15, 16, 152, 153, 154, 155] (by decide +kernel) (by decide +kernel)
set_option maxRecDepth 20000 in
theorem gX6_run_X0_clear : GoodIn wsX6_run (wsV RX6 34 RX0 yX0_clear wsX0_clear) := goodIn_app (goodIn_of _ (by decide +kernel)) ggX6_run_X0_clear
set_option maxRecDepth 20000 in
theorem ggX6_run_X2_begin : GoodIn wsX6_run wsX2_begin := goodIn_r _ [21, 22, 23, 24, 25, 26, 27, 28, 29, 30, 31, 32, 33, 34, 35, 36, 37, 134, 135, 136, 137, 138, 139, 140, 141, 142, 143, 144, 145, 146, 147, 148, 149, 150, 151] (by decide +kernel) (by decide +kernel)
set_option maxRecDepth 20000 in
theorem gX6_run_X2_begin : GoodIn wsX6_run (wsV RX6 37 RX2 yX2_begin wsX2_begin) := goodIn_app (goodIn_of _ (by decide +kernel)) ggX6_run_X2_begin
set_option maxRecDepth 20000 in
theorem ggX6_run_X0_setInput : GoodIn wsX6_run wsX0_setInput := goodIn_r _ [41, 13, 14, 152, 153, 154, 155] (by decide +kernel) (by decide +kernel)
set_option maxRecDepth 20000 in
theorem gX6_run_X0_setInput : GoodIn wsX6_run (wsV RX6 45 RX0 yX0_setInput wsX0_setInput) := goodIn_app (goodIn_of _ (by decide +kernel)) ggX6_run_X0_setInput
set_option maxRecDepth 20000 in
theorem ggX6_run_X3_setAt : GoodIn wsX6_run wsX3_setAt := goodIn_r _ [46, 47, 48, 49, 50, 132, 133] (by decide +kernel) (by decide +kernel)
set_option maxRecDepth 20000 in
theorem gX6_run_X3_setAt : GoodIn wsX6_run (wsV RX6 49 RX3 yX3_setAt wsX3_setAt) := goodIn_app (goodIn_of _ (by decide +kernel)) ggX6_run_X3_setAt
set_option maxRecDepth 20000 in
theorem ggX6_run_X2_advance : GoodIn wsX6_run wsX2_advance := goodIn_r _ [54, 55, 27, 28, 29, 23, 31, 30, 22, 34, 56, 57, 58, 11, 59, 14, 13, 60, 61, 20, 62, 63, 49, 64, 65, 66, 67, 68, 69, 70, 71, 72, 73, 74, 75, 76, 77, 78, 25, 26, 79, 80, 81, 82, 83, 84, 85, 86, 87, 88, 89, 90, 91, 92, 24, 93, 94, 95, 96, 97, 98, 99, 100, 101, 15, 16, 102, 103, 104, 105, 106, 107, 108, 32, 35, 109, 110, 111, 112, 113, 114, 115, 116, 117, 118, 119, 33, 36, 120, 121, 122, 123, 124, 125, 126, 127, 37, 134, 135, 136, 137, 138, 139, 140, 141, 142, 143, 144, 145, 146, 147, 148, 149, 150, 151, 152, 153, 154, 155, 156, 157, 158, 159, 160] (by decide +kernel) (by decide +kernel)
set_option maxRecDepth 20000 in
theorem gX6_run_X2_advance : GoodIn wsX6_run (wsV RX6 53 RX2 yX2_advance wsX2_advance) := goodIn_app (goodIn_of _ (by decide +kernel)) ggX6_run_X2_advance
theorem dX6_run_0 : decode cX6_run 0 = .ok (.aload_n 0, 1) := by decide +kernel
theorem dX6_run_1 : decode cX6_run 1 = .ok (.getfield 12, 3) := by decide +kernel
theorem dX6_run_4 : decode cX6_run 4 = .ok (.invokevirtual 34, 3) := by decide +kernel
theorem dX6_run_7 : decode cX6_run 7 = .ok (.aload_n 0, 1) := by decide +kernel
theorem dX6_run_8 : decode cX6_run 8 = .ok (.getfield 30, 3) := by decide +kernel
theorem dX6_run_11 : decode cX6_run 11 = .ok (.invokevirtual 37, 3) := by decide +kernel
theorem dX6_run_14 : decode cX6_run 14 = .ok (.aload_n 0, 1) := by decide +kernel
theorem dX6_run_15 : decode cX6_run 15 = .ok (.bipush (-9), 2) := by decide +kernel
theorem dX6_run_17 : decode cX6_run 17 = .ok (.putfield 18, 3) := by decide +kernel
theorem dX6_run_20 : decode cX6_run 20 = .ok (.aload_n 0, 1) := by decide +kernel
theorem dX6_run_21 : decode cX6_run 21 = .ok (.bipush (-9), 2) := by decide +kernel
theorem dX6_run_23 : decode cX6_run 23 = .ok (.putfield 22, 3) := by decide +kernel
theorem dX6_run_26 : decode cX6_run 26 = .ok (.iconst 0, 1) := by decide +kernel
theorem dX6_run_27 : decode cX6_run 27 = .ok (.istore 5, 2) := by decide +kernel
theorem dX6_run_29 : decode cX6_run 29 = .ok (.iload 5, 2) := by decide +kernel
theorem dX6_run_31 : decode cX6_run 31 = .ok (.aload_n 1, 1) := by decide +kernel
theorem dX6_run_32 : decode cX6_run 32 = .ok (.getfield 40, 3) := by decide +kernel
theorem dX6_run_35 : decode cX6_run 35 = .ok (.if_icmp .ge 76, 3) := by decide +kernel
theorem dX6_run_38 : decode cX6_run 38 = .ok (.iload 5, 2) := by decide +kernel
theorem dX6_run_40 : decode cX6_run 40 = .ok (.iload 4, 2) := by decide +kernel
theorem dX6_run_42 : decode cX6_run 42 = .ok (.if_icmp .ne 12, 3) := by decide +kernel
theorem dX6_run_45 : decode cX6_run 45 = .ok (.aload_n 0, 1) := by decide +kernel
theorem dX6_run_46 : decode cX6_run 46 = .ok (.getfield 12, 3) := by decide +kernel
theorem dX6_run_49 : decode cX6_run 49 = .ok (.iload_n 2, 1) := by decide +kernel
theorem dX6_run_50 : decode cX6_run 50 = .ok (.iload_n 3, 1) := by decide +kernel
theorem dX6_run_51 : decode cX6_run 51 = .ok (.invokevirtual 45, 3) := by decide +kernel
theorem dX6_run_54 : decode cX6_run 54 = .ok (.aload_n 0, 1) := by decide +kernel
theorem dX6_run_55 : decode cX6_run 55 = .ok (.getfield 30, 3) := by decide +kernel
theorem dX6_run_58 : decode cX6_run 58 = .ok (.aload_n 1, 1) := by decide +kernel
theorem dX6_run_59 : decode cX6_run 59 = .ok (.iload 5, 2) := by decide +kernel
theorem dX6_run_61 : decode cX6_run 61 = .ok (.invokevirtual 49, 3) := by decide +kernel
theorem dX6_run_64 : decode cX6_run 64 = .ok (.invokevirtual 53, 3) := by decide +kernel
theorem dX6_run_67 : decode cX6_run 67 = .ok (.aload_n 0, 1) := by decide +kernel
theorem dX6_run_68 : decode cX6_run 68 = .ok (.getfield 18, 3) := by decide +kernel
theorem dX6_run_71 : decode cX6_run 71 = .ok (.bipush (-9), 2) := by decide +kernel
theorem dX6_run_73 : decode cX6_run 73 = .ok (.if_icmp .ne 32, 3) := by decide +kernel
theorem dX6_run_76 : decode cX6_run 76 = .ok (.aload_n 0, 1) := by decide +kernel
theorem dX6_run_77 : decode cX6_run 77 = .ok (.getfield 30, 3) := by decide +kernel
theorem dX6_run_80 : decode cX6_run 80 = .ok (.getfield 57, 3) := by decide +kernel
theorem dX6_run_83 : decode cX6_run 83 = .ok (.ifCond .ne 22, 3) := by decide +kernel
theorem dX6_run_86 : decode cX6_run 86 = .ok (.aload_n 0, 1) := by decide +kernel
theorem dX6_run_87 : decode cX6_run 87 = .ok (.iload 5, 2) := by decide +kernel
theorem dX6_run_89 : decode cX6_run 89 = .ok (.iconst 1, 1) := by decide +kernel
theorem dX6_run_90 : decode cX6_run 90 = .ok (.iadd, 1) := by decide +kernel
theorem dX6_run_91 : decode cX6_run 91 = .ok (.putfield 18, 3) := by decide +kernel
theorem dX6_run_94 : decode cX6_run 94 = .ok (.aload_n 0, 1) := by decide +kernel
theorem dX6_run_95 : decode cX6_run 95 = .ok (.aload_n 0, 1) := by decide +kernel
theorem dX6_run_96 : decode cX6_run 96 = .ok (.getfield 30, 3) := by decide +kernel
theorem dX6_run_99 : decode cX6_run 99 = .ok (.getfield 60, 3) := by decide +kernel
theorem dX6_run_102 : decode cX6_run 102 = .ok (.putfield 22, 3) := by decide +kernel
theorem dX6_run_105 : decode cX6_run 105 = .ok (.iinc 5 1, 3) := by decide +kernel
theorem dX6_run_108 : decode cX6_run 108 = .ok (.goto (-79), 3) := by decide +kernel
theorem dX6_run_111 : decode cX6_run 111 = .ok (.return_, 1) := by decide +kernel
theorem dX6_part_0 : decode cX6_part 0 = .ok (.iload_n 1, 1) := by decide +kernel
theorem dX6_part_1 : decode cX6_part 1 = .ok (.tableswitch 69 0 4 #[35, 43, 48, 53, 61], 35) := by decide +kernel
theorem dX6_part_36 : decode cX6_part 36 = .ok (.aload_n 0, 1) := by decide +kernel
theorem dX6_part_37 : decode cX6_part 37 = .ok (.getfield 30, 3) := by decide +kernel
theorem dX6_part_40 : decode cX6_part 40 = .ok (.getfield 63, 3) := by decide +kernel
theorem dX6_part_43 : decode cX6_part 43 = .ok (.ireturn, 1) := by decide +kernel
theorem dX6_part_44 : decode cX6_part 44 = .ok (.aload_n 0, 1) := by decide +kernel
theorem dX6_part_45 : decode cX6_part 45 = .ok (.getfield 18, 3) := by decide +kernel
theorem dX6_part_48 : decode cX6_part 48 = .ok (.ireturn, 1) := by decide +kernel
theorem dX6_part_49 : decode cX6_part 49 = .ok (.aload_n 0, 1) := by decide +kernel
theorem dX6_part_50 : decode cX6_part 50 = .ok (.getfield 22, 3) := by decide +kernel
theorem dX6_part_53 : decode cX6_part 53 = .ok (.ireturn, 1) := by decide +kernel
theorem dX6_part_54 : decode cX6_part 54 = .ok (.aload_n 0, 1) := by decide +kernel
theorem dX6_part_55 : decode cX6_part 55 = .ok (.getfield 30, 3) := by decide +kernel
theorem dX6_part_58 : decode cX6_part 58 = .ok (.getfield 57, 3) := by decide +kernel
theorem dX6_part_61 : decode cX6_part 61 = .ok (.ireturn, 1) := by decide +kernel
theorem dX6_part_62 : decode cX6_part 62 = .ok (.aload_n 0, 1) := by decide +kernel
theorem dX6_part_63 : decode cX6_part 63 = .ok (.getfield 30, 3) := by decide +kernel
theorem dX6_part_66 : decode cX6_part 66 = .ok (.getfield 66, 3) := by decide +kernel
theorem dX6_part_69 : decode cX6_part 69 = .ok (.ireturn, 1) := by decide +kernel
theorem dX6_part_70 : decode cX6_part 70 = .ok (.bipush (-2), 2) := by decide +kernel
theorem dX6_part_72 : decode cX6_part 72 = .ok (.ireturn, 1) := by decide +kernel
theorem dX7_init_0 : decode cX7_init 0 = .ok (.aload_n 0, 1) := by decide +kernel
theorem dX7_init_1 : decode cX7_init 1 = .ok (.invokespecial 3, 3) := by decide +kernel
theorem dX7_init_4 : decode cX7_init 4 = .ok (.aload_n 0, 1) := by decide +kernel
theorem dX7_init_5 : decode cX7_init 5 = .ok (.iconst 0, 1) := by decide +kernel
theorem dX7_init_6 : decode cX7_init 6 = .ok (.putfield 9, 3) := by decide +kernel
theorem dX7_init_9 : decode cX7_init 9 = .ok (.aload_n 0, 1) := by decide +kernel
theorem dX7_init_10 : decode cX7_init 10 = .ok (.iconst 0, 1) := by decide +kernel
theorem dX7_init_11 : decode cX7_init 11 = .ok (.putfield 15, 3) := by decide +kernel
theorem dX7_init_14 : decode cX7_init 14 = .ok (.aload_n 0, 1) := by decide +kernel
theorem dX7_init_15 : decode cX7_init 15 = .ok (.iconst 0, 1) := by decide +kernel
theorem dX7_init_16 : decode cX7_init 16 = .ok (.putfield 18, 3) := by decide +kernel
theorem dX7_init_19 : decode cX7_init 19 = .ok (.aload_n 0, 1) := by decide +kernel
theorem dX7_init_20 : decode cX7_init 20 = .ok (.iconst 0, 1) := by decide +kernel
theorem dX7_init_21 : decode cX7_init 21 = .ok (.putfield 21, 3) := by decide +kernel
theorem dX7_init_24 : decode cX7_init 24 = .ok (.aload_n 0, 1) := by decide +kernel
theorem dX7_init_25 : decode cX7_init 25 = .ok (.bipush (-9), 2) := by decide +kernel
theorem dX7_init_27 : decode cX7_init 27 = .ok (.putfield 24, 3) := by decide +kernel
theorem dX7_init_30 : decode cX7_init 30 = .ok (.aload_n 0, 1) := by decide +kernel
theorem dX7_init_31 : decode cX7_init 31 = .ok (.iconst 0, 1) := by decide +kernel
theorem dX7_init_32 : decode cX7_init 32 = .ok (.putfield 27, 3) := by decide +kernel
theorem dX7_init_35 : decode cX7_init 35 = .ok (.aload_n 0, 1) := by decide +kernel
theorem dX7_init_36 : decode cX7_init 36 = .ok (.iconst 0, 1) := by decide +kernel
theorem dX7_init_37 : decode cX7_init 37 = .ok (.putfield 30, 3) := by decide +kernel
theorem dX7_init_40 : decode cX7_init 40 = .ok (.return_, 1) := by decide +kernel
theorem dX7_begin_0 : decode cX7_begin 0 = .ok (.aload_n 0, 1) := by decide +kernel
theorem dX7_begin_1 : decode cX7_begin 1 = .ok (.iload_n 1, 1) := by decide +kernel
theorem dX7_begin_2 : decode cX7_begin 2 = .ok (.putfield 9, 3) := by decide +kernel
theorem dX7_begin_5 : decode cX7_begin 5 = .ok (.aload_n 0, 1) := by decide +kernel
theorem dX7_begin_6 : decode cX7_begin 6 = .ok (.iconst 0, 1) := by decide +kernel
theorem dX7_begin_7 : decode cX7_begin 7 = .ok (.putfield 15, 3) := by decide +kernel
theorem dX7_begin_10 : decode cX7_begin 10 = .ok (.aload_n 0, 1) := by decide +kernel
theorem dX7_begin_11 : decode cX7_begin 11 = .ok (.iconst 0, 1) := by decide +kernel
theorem dX7_begin_12 : decode cX7_begin 12 = .ok (.putfield 18, 3) := by decide +kernel
theorem dX7_begin_15 : decode cX7_begin 15 = .ok (.aload_n 0, 1) := by decide +kernel
theorem dX7_begin_16 : decode cX7_begin 16 = .ok (.iconst 0, 1) := by decide +kernel
theorem dX7_begin_17 : decode cX7_begin 17 = .ok (.putfield 21, 3) := by decide +kernel
theorem dX7_begin_20 : decode cX7_begin 20 = .ok (.aload_n 0, 1) := by decide +kernel
theorem dX7_begin_21 : decode cX7_begin 21 = .ok (.bipush (-9), 2) := by decide +kernel
theorem dX7_begin_23 : decode cX7_begin 23 = .ok (.putfield 24, 3) := by decide +kernel
theorem dX7_begin_26 : decode cX7_begin 26 = .ok (.aload_n 0, 1) := by decide +kernel
theorem dX7_begin_27 : decode cX7_begin 27 = .ok (.iconst 0, 1) := by decide +kernel
theorem dX7_begin_28 : decode cX7_begin 28 = .ok (.putfield 27, 3) := by decide +kernel
theorem dX7_begin_31 : decode cX7_begin 31 = .ok (.aload_n 0, 1) := by decide +kernel
theorem dX7_begin_32 : decode cX7_begin 32 = .ok (.iconst 0, 1) := by decide +kernel
theorem dX7_begin_33 : decode cX7_begin 33 = .ok (.putfield 30, 3) := by decide +kernel
theorem dX7_begin_36 : decode cX7_begin 36 = .ok (.return_, 1) := by decide +kernel
theorem dX7_add_0 : decode cX7_add 0 = .ok (.aload_n 0, 1) := by decide +kernel
theorem dX7_add_1 : decode cX7_add 1 = .ok (.dup, 1) := by decide +kernel
theorem dX7_add_2 : decode cX7_add 2 = .ok (.getfield 15, 3) := by decide +kernel
theorem dX7_add_5 : decode cX7_add 5 = .ok (.iconst 1, 1) := by decide +kernel
theorem dX7_add_6 : decode cX7_add 6 = .ok (.iadd, 1) := by decide +kernel
theorem dX7_add_7 : decode cX7_add 7 = .ok (.putfield 15, 3) := by decide +kernel
theorem dX7_add_10 : decode cX7_add 10 = .ok (.aload_n 1, 1) := by decide +kernel
theorem dX7_add_11 : decode cX7_add 11 = .ok (.getfield 33, 3) := by decide +kernel
theorem dX7_add_14 : decode cX7_add 14 = .ok (.getfield 39, 3) := by decide +kernel
theorem dX7_add_17 : decode cX7_add 17 = .ok (.ifCond .le 13, 3) := by decide +kernel
theorem dX7_add_20 : decode cX7_add 20 = .ok (.aload_n 0, 1) := by decide +kernel
theorem dX7_add_21 : decode cX7_add 21 = .ok (.dup, 1) := by decide +kernel
theorem dX7_add_22 : decode cX7_add 22 = .ok (.getfield 18, 3) := by decide +kernel
theorem dX7_add_25 : decode cX7_add 25 = .ok (.iconst 1, 1) := by decide +kernel
theorem dX7_add_26 : decode cX7_add 26 = .ok (.iadd, 1) := by decide +kernel
theorem dX7_add_27 : decode cX7_add 27 = .ok (.putfield 18, 3) := by decide +kernel
theorem dX7_add_30 : decode cX7_add 30 = .ok (.aload_n 1, 1) := by decide +kernel
theorem dX7_add_31 : decode cX7_add 31 = .ok (.getfield 44, 3) := by decide +kernel
theorem dX7_add_34 : decode cX7_add 34 = .ok (.bipush (-9), 2) := by decide +kernel
theorem dX7_add_36 : decode cX7_add 36 = .ok (.if_icmp .eq 13, 3) := by decide +kernel
theorem dX7_add_39 : decode cX7_add 39 = .ok (.aload_n 0, 1) := by decide +kernel
theorem dX7_add_40 : decode cX7_add 40 = .ok (.dup, 1) := by decide +kernel
theorem dX7_add_41 : decode cX7_add 41 = .ok (.getfield 21, 3) := by decide +kernel
theorem dX7_add_44 : decode cX7_add 44 = .ok (.iconst 1, 1) := by decide +kernel
theorem dX7_add_45 : decode cX7_add 45 = .ok (.iadd, 1) := by decide +kernel
theorem dX7_add_46 : decode cX7_add 46 = .ok (.putfield 21, 3) := by decide +kernel
theorem dX7_add_49 : decode cX7_add 49 = .ok (.aload_n 1, 1) := by decide +kernel
theorem dX7_add_50 : decode cX7_add 50 = .ok (.getfield 44, 3) := by decide +kernel
theorem dX7_add_53 : decode cX7_add 53 = .ok (.iload_n 2, 1) := by decide +kernel
theorem dX7_add_54 : decode cX7_add 54 = .ok (.if_icmp .le 20, 3) := by decide +kernel
theorem dX7_add_57 : decode cX7_add 57 = .ok (.aload_n 0, 1) := by decide +kernel
theorem dX7_add_58 : decode cX7_add 58 = .ok (.aload_n 0, 1) := by decide +kernel
theorem dX7_add_59 : decode cX7_add 59 = .ok (.getfield 24, 3) := by decide +kernel
theorem dX7_add_62 : decode cX7_add 62 = .ok (.aload_n 1, 1) := by decide +kernel
theorem dX7_add_63 : decode cX7_add 63 = .ok (.getfield 44, 3) := by decide +kernel
theorem dX7_add_66 : decode cX7_add 66 = .ok (.iload_n 2, 1) := by decide +kernel
theorem dX7_add_67 : decode cX7_add 67 = .ok (.isub, 1) := by decide +kernel
theorem dX7_add_68 : decode cX7_add 68 = .ok (.invokestatic 47, 3) := by decide +kernel
theorem dX7_add_71 : decode cX7_add 71 = .ok (.putfield 24, 3) := by decide +kernel
theorem dX7_add_74 : decode cX7_add 74 = .ok (.aload_n 0, 1) := by decide +kernel
theorem dX7_add_75 : decode cX7_add 75 = .ok (.aload_n 0, 1) := by decide +kernel
theorem dX7_add_76 : decode cX7_add 76 = .ok (.getfield 27, 3) := by decide +kernel
theorem dX7_add_79 : decode cX7_add 79 = .ok (.aload_n 1, 1) := by decide +kernel
theorem dX7_add_80 : decode cX7_add 80 = .ok (.getfield 33, 3) := by decide +kernel
theorem dX7_add_83 : decode cX7_add 83 = .ok (.getfield 39, 3) := by decide +kernel
theorem dX7_add_86 : decode cX7_add 86 = .ok (.invokestatic 47, 3) := by decide +kernel
theorem dX7_add_89 : decode cX7_add 89 = .ok (.putfield 27, 3) := by decide +kernel
theorem dX7_add_92 : decode cX7_add 92 = .ok (.aload_n 1, 1) := by decide +kernel
theorem dX7_add_93 : decode cX7_add 93 = .ok (.getfield 33, 3) := by decide +kernel
theorem dX7_add_96 : decode cX7_add 96 = .ok (.getfield 53, 3) := by decide +kernel
theorem dX7_add_99 : decode cX7_add 99 = .ok (.aload_n 0, 1) := by decide +kernel
theorem dX7_add_100 : decode cX7_add 100 = .ok (.getfield 9, 3) := by decide +kernel
theorem dX7_add_103 : decode cX7_add 103 = .ok (.if_icmp .ge 13, 3) := by decide +kernel
theorem dX7_add_106 : decode cX7_add 106 = .ok (.aload_n 0, 1) := by decide +kernel
theorem dX7_add_107 : decode cX7_add 107 = .ok (.dup, 1) := by decide +kernel
theorem dX7_add_108 : decode cX7_add 108 = .ok (.getfield 30, 3) := by decide +kernel
theorem dX7_add_111 : decode cX7_add 111 = .ok (.iconst 1, 1) := by decide +kernel
theorem dX7_add_112 : decode cX7_add 112 = .ok (.iadd, 1) := by decide +kernel
theorem dX7_add_113 : decode cX7_add 113 = .ok (.putfield 30, 3) := by decide +kernel
theorem dX7_add_116 : decode cX7_add 116 = .ok (.return_, 1) := by decide +kernel
theorem dX7_part_0 : decode cX7_part 0 = .ok (.iload_n 1, 1) := by decide +kernel
theorem dX7_part_1 : decode cX7_part 1 = .ok (.tableswitch 69 0 5 #[39, 44, 49, 54, 59, 64], 39) := by decide +kernel
theorem dX7_part_40 : decode cX7_part 40 = .ok (.aload_n 0, 1) := by decide +kernel
theorem dX7_part_41 : decode cX7_part 41 = .ok (.getfield 15, 3) := by decide +kernel
theorem dX7_part_44 : decode cX7_part 44 = .ok (.ireturn, 1) := by decide +kernel
theorem dX7_part_45 : decode cX7_part 45 = .ok (.aload_n 0, 1) := by decide +kernel
theorem dX7_part_46 : decode cX7_part 46 = .ok (.getfield 18, 3) := by decide +kernel
theorem dX7_part_49 : decode cX7_part 49 = .ok (.ireturn, 1) := by decide +kernel
theorem dX7_part_50 : decode cX7_part 50 = .ok (.aload_n 0, 1) := by decide +kernel
theorem dX7_part_51 : decode cX7_part 51 = .ok (.getfield 21, 3) := by decide +kernel
theorem dX7_part_54 : decode cX7_part 54 = .ok (.ireturn, 1) := by decide +kernel
theorem dX7_part_55 : decode cX7_part 55 = .ok (.aload_n 0, 1) := by decide +kernel
theorem dX7_part_56 : decode cX7_part 56 = .ok (.getfield 24, 3) := by decide +kernel
theorem dX7_part_59 : decode cX7_part 59 = .ok (.ireturn, 1) := by decide +kernel
theorem dX7_part_60 : decode cX7_part 60 = .ok (.aload_n 0, 1) := by decide +kernel
theorem dX7_part_61 : decode cX7_part 61 = .ok (.getfield 27, 3) := by decide +kernel
theorem dX7_part_64 : decode cX7_part 64 = .ok (.ireturn, 1) := by decide +kernel
theorem dX7_part_65 : decode cX7_part 65 = .ok (.aload_n 0, 1) := by decide +kernel
theorem dX7_part_66 : decode cX7_part 66 = .ok (.getfield 30, 3) := by decide +kernel
theorem dX7_part_69 : decode cX7_part 69 = .ok (.ireturn, 1) := by decide +kernel
theorem dX7_part_70 : decode cX7_part 70 = .ok (.bipush (-2), 2) := by decide +kernel
theorem dX7_part_72 : decode cX7_part 72 = .ok (.ireturn, 1) := by decide +kernel
set_option maxRecDepth 20000 in
theorem ggX8_init_X5_init : GoodIn wsX8_init wsX5_init := goodIn_r _ [39, 40, 2, 3, 41, 42, 43, 44, 45, 126, 127, 128, 129, 130] (by decide +kernel) (by decide +kernel)
set_option maxRecDepth 20000 in
theorem gX8_init_X5_init_n9 : GoodIn wsX8_init (wsX5_init) := ggX8_init_X5_init
set_option maxRecDepth 20000 in
theorem ggX8_init_X0_init : GoodIn wsX8_init wsX0_init := goodIn_r _ [47, 48, 2, 3, 49, 50, 51, 52, 141, 142, 143, 144] (by decide +kernel) (by decide +kernel)
set_option maxRecDepth 20000 in
theorem gX8_init_X0_init_n18 : GoodIn wsX8_init (wsX0_init) := ggX8_init_X0_init
set_option maxRecDepth 20000 in
theorem ggX8_init_X2_init : GoodIn wsX8_init wsX2_init := goodIn_r _ [55, 56, 2, 3, 57, 58, 59, 60, 61, 62, 63, 64, 65, 66, 67, 68, 69, 70, 71, 72, 73, 74, 145, 146, 147, 148, 149, 150, 151, 152, 153, 154, 155, 156, 157, 158, 159, 160, 161, 162] (by decide +kernel) (by decide +kernel)
set_option maxRecDepth 20000 in
theorem gX8_init_X2_init : GoodIn wsX8_init (wsX2_init) := ggX8_init_X2_init
set_option maxRecDepth 20000 in
theorem ggX8_init_X1_init : GoodIn wsX8_init wsX1_init := goodIn_r _ [76, 77, 2, 3, 78, 79, 80, 81, 82, 83, 84, 85, 163, 164, 165, 166, 167, 168, 169] (by decide +kernel) (by decide +kernel)
set_option maxRecDepth 20000 in
theorem gX8_init_X1_init_n37 : GoodIn wsX8_init (wsX1_init) := ggX8_init_X1_init
set_option maxRecDepth 20000 in
theorem ggX8_init_X3_init : GoodIn wsX8_init wsX3_init := goodIn_r _ [87, 88, 2, 3, 78, 89, 90, 170, 171] (by decide +kernel) (by decide +kernel)
set_option maxRecDepth 20000 in
theorem gX8_init_X3_init_n44 : GoodIn wsX8_init (wsX3_init) := ggX8_init_X3_init
set_option maxRecDepth 20000 in
theorem ggX8_init_X6_init : GoodIn wsX8_init wsX6_init := goodIn_r _ [93, 94, 2, 3, 95, 9, 10, 96, 97, 98, 99, 13, 14, 100, 46, 47, 48, 49, 50, 51, 52, 101, 54, 55, 56, 57, 58, 59, 60, 61, 62, 63, 64, 65, 66, 67, 68, 69, 70, 71, 72, 73, 74, 141, 142, 143, 144, 172, 173, 174, 175, 145, 146, 147, 148, 149, 150, 151, 152, 153, 154, 155, 156, 157, 158, 159, 160, 161, 162] (by decide +kernel) (by decide +kernel)
set_option maxRecDepth 20000 in
theorem gX8_init_X6_init : GoodIn wsX8_init (wsX6_init) := ggX8_init_X6_init
set_option maxRecDepth 20000 in
theorem ggX8_init_X7_init : GoodIn wsX8_init wsX7_init := goodIn_r _ [103, 104, 2, 3, 105, 106, 107, 108, 109, 110, 111, 176, 177, 178, 179, 180, 181, 182] (by decide +kernel) (by decide +kernel)
set_option maxRecDepth 20000 in
theorem gX8_init_X7_init_n60 : GoodIn wsX8_init (wsX7_init) := ggX8_init_X7_init
set_option maxRecDepth 20000 in
theorem ggX8_init_X4_init : GoodIn wsX8_init wsX4_init := goodIn_r _ [114, 115, 2, 3, 116, 117, 118, 119, 78, 120, 121, 122, 123, 124, 13, 14, 125, 54, 55, 56, 57, 58, 59, 60, 61, 62, 63, 64, 65, 66, 67, 68, 69, 70, 71, 72, 73, 74, 183, 184, 185, 186, 187, 188, 189, 145, 146, 147, 148, 149, 150, 151, 152, 153, 154, 155, 156, 157, 158, 159, 160, 161, 162] (by decide +kernel) (by decide +kernel)
set_option maxRecDepth 20000 in
theorem gX8_init_X4_init : GoodIn wsX8_init (wsX4_init) := ggX8_init_X4_init
theorem dX8_init_0 : decode cX8_init 0 = .ok (.aload_n 0, 1) := by decide +kernel
theorem dX8_init_1 : decode cX8_init 1 = .ok (.invokespecial 1, 3) := by decide +kernel
theorem dX8_init_4 : decode cX8_init 4 = .ok (.aload_n 0, 1) := by decide +kernel
theorem dX8_init_5 : decode cX8_init 5 = .ok (.new 7, 3) := by decide +kernel
theorem dX8_init_8 : decode cX8_init 8 = .ok (.dup, 1) := by decide +kernel
theorem dX8_init_9 : decode cX8_init 9 = .ok (.invokespecial 9, 3) := by decide +kernel
theorem dX8_init_12 : decode cX8_init 12 = .ok (.putfield 10, 3) := by decide +kernel
theorem dX8_init_15 : decode cX8_init 15 = .ok (.aload_n 0, 1) := by decide +kernel
theorem dX8_init_16 : decode cX8_init 16 = .ok (.new 16, 3) := by decide +kernel
theorem dX8_init_19 : decode cX8_init 19 = .ok (.dup, 1) := by decide +kernel
theorem dX8_init_20 : decode cX8_init 20 = .ok (.invokespecial 18, 3) := by decide +kernel
theorem dX8_init_23 : decode cX8_init 23 = .ok (.putfield 19, 3) := by decide +kernel
theorem dX8_init_26 : decode cX8_init 26 = .ok (.aload_n 0, 1) := by decide +kernel
theorem dX8_init_27 : decode cX8_init 27 = .ok (.new 23, 3) := by decide +kernel
theorem dX8_init_30 : decode cX8_init 30 = .ok (.dup, 1) := by decide +kernel
theorem dX8_init_31 : decode cX8_init 31 = .ok (.aload_n 0, 1) := by decide +kernel
theorem dX8_init_32 : decode cX8_init 32 = .ok (.getfield 10, 3) := by decide +kernel
theorem dX8_init_35 : decode cX8_init 35 = .ok (.aload_n 0, 1) := by decide +kernel
theorem dX8_init_36 : decode cX8_init 36 = .ok (.getfield 19, 3) := by decide +kernel
theorem dX8_init_39 : decode cX8_init 39 = .ok (.invokespecial 25, 3) := by decide +kernel
theorem dX8_init_42 : decode cX8_init 42 = .ok (.putfield 28, 3) := by decide +kernel
theorem dX8_init_45 : decode cX8_init 45 = .ok (.aload_n 0, 1) := by decide +kernel
theorem dX8_init_46 : decode cX8_init 46 = .ok (.new 23, 3) := by decide +kernel
theorem dX8_init_49 : decode cX8_init 49 = .ok (.dup, 1) := by decide +kernel
theorem dX8_init_50 : decode cX8_init 50 = .ok (.aload_n 0, 1) := by decide +kernel
theorem dX8_init_51 : decode cX8_init 51 = .ok (.getfield 10, 3) := by decide +kernel
theorem dX8_init_54 : decode cX8_init 54 = .ok (.aload_n 0, 1) := by decide +kernel
theorem dX8_init_55 : decode cX8_init 55 = .ok (.getfield 19, 3) := by decide +kernel
theorem dX8_init_58 : decode cX8_init 58 = .ok (.invokespecial 25, 3) := by decide +kernel
theorem dX8_init_61 : decode cX8_init 61 = .ok (.putfield 32, 3) := by decide +kernel
theorem dX8_init_64 : decode cX8_init 64 = .ok (.aload_n 0, 1) := by decide +kernel
theorem dX8_init_65 : decode cX8_init 65 = .ok (.new 35, 3) := by decide +kernel
theorem dX8_init_68 : decode cX8_init 68 = .ok (.dup, 1) := by decide +kernel
theorem dX8_init_69 : decode cX8_init 69 = .ok (.invokespecial 37, 3) := by decide +kernel
theorem dX8_init_72 : decode cX8_init 72 = .ok (.putfield 38, 3) := by decide +kernel
theorem dX8_init_75 : decode cX8_init 75 = .ok (.aload_n 0, 1) := by decide +kernel
theorem dX8_init_76 : decode cX8_init 76 = .ok (.new 42, 3) := by decide +kernel
theorem dX8_init_79 : decode cX8_init 79 = .ok (.dup, 1) := by decide +kernel
theorem dX8_init_80 : decode cX8_init 80 = .ok (.invokespecial 44, 3) := by decide +kernel
theorem dX8_init_83 : decode cX8_init 83 = .ok (.putfield 45, 3) := by decide +kernel
theorem dX8_init_86 : decode cX8_init 86 = .ok (.aload_n 0, 1) := by decide +kernel
theorem dX8_init_87 : decode cX8_init 87 = .ok (.new 49, 3) := by decide +kernel
theorem dX8_init_90 : decode cX8_init 90 = .ok (.dup, 1) := by decide +kernel
theorem dX8_init_91 : decode cX8_init 91 = .ok (.aload_n 0, 1) := by decide +kernel
theorem dX8_init_92 : decode cX8_init 92 = .ok (.getfield 10, 3) := by decide +kernel
theorem dX8_init_95 : decode cX8_init 95 = .ok (.invokespecial 51, 3) := by decide +kernel
theorem dX8_init_98 : decode cX8_init 98 = .ok (.putfield 54, 3) := by decide +kernel
theorem dX8_init_101 : decode cX8_init 101 = .ok (.aload_n 0, 1) := by decide +kernel
theorem dX8_init_102 : decode cX8_init 102 = .ok (.new 58, 3) := by decide +kernel
theorem dX8_init_105 : decode cX8_init 105 = .ok (.dup, 1) := by decide +kernel
theorem dX8_init_106 : decode cX8_init 106 = .ok (.invokespecial 60, 3) := by decide +kernel
theorem dX8_init_109 : decode cX8_init 109 = .ok (.putfield 61, 3) := by decide +kernel
theorem dX8_init_112 : decode cX8_init 112 = .ok (.aload_n 0, 1) := by decide +kernel
theorem dX8_init_113 : decode cX8_init 113 = .ok (.new 65, 3) := by decide +kernel
theorem dX8_init_116 : decode cX8_init 116 = .ok (.dup, 1) := by decide +kernel
theorem dX8_init_117 : decode cX8_init 117 = .ok (.aload_n 0, 1) := by decide +kernel
theorem dX8_init_118 : decode cX8_init 118 = .ok (.getfield 10, 3) := by decide +kernel
theorem dX8_init_121 : decode cX8_init 121 = .ok (.aload_n 0, 1) := by decide +kernel
theorem dX8_init_122 : decode cX8_init 122 = .ok (.getfield 19, 3) := by decide +kernel
theorem dX8_init_125 : decode cX8_init 125 = .ok (.invokespecial 67, 3) := by decide +kernel
theorem dX8_init_128 : decode cX8_init 128 = .ok (.putfield 68, 3) := by decide +kernel
theorem dX8_init_131 : decode cX8_init 131 = .ok (.aload_n 0, 1) := by decide +kernel
theorem dX8_init_132 : decode cX8_init 132 = .ok (.iconst 0, 1) := by decide +kernel
theorem dX8_init_133 : decode cX8_init 133 = .ok (.putfield 72, 3) := by decide +kernel
theorem dX8_init_136 : decode cX8_init 136 = .ok (.return_, 1) := by decide +kernel
set_option maxRecDepth 20000 in
theorem ggX8_anew_X8_within : GoodIn wsX8_anew wsX8_within := goodIn_r _ [9] (by decide +kernel) (by decide +kernel)
set_option maxRecDepth 20000 in
theorem gX8_anew_X8_within : GoodIn wsX8_anew (va_wsS RX8 76 yX8_within wsX8_within) := goodIn_app (goodIn_of _ (by decide +kernel)) ggX8_anew_X8_within
set_option maxRecDepth 20000 in
theorem ggX8_anew_X5_become : GoodIn wsX8_anew wsX5_become := goodIn_r _ [14, 15, 16, 17, 18, 19, 76, 77, 78, 79, 80] (by decide +kernel) (by decide +kernel)
set_option maxRecDepth 20000 in
theorem gX8_anew_X5_become : GoodIn wsX8_anew (wsV RX8 80 RX5 yX5_become wsX5_become) := goodIn_app (goodIn_of _ (by decide +kernel)) ggX8_anew_X5_become
set_option maxRecDepth 20000 in
theorem ggX8_anew_X0_clear : GoodIn wsX8_anew wsX0_clear := goodIn_r _ [24, 25, 26, 27, 28, 81, 82, 83, 84] (by decide +kernel) (by decide +kernel)
set_option maxRecDepth 20000 in
theorem gX8_anew_X0_clear : GoodIn wsX8_anew (wsV RX8 84 RX0 yX0_clear wsX0_clear) := goodIn_app (goodIn_of _ (by decide +kernel)) ggX8_anew_X0_clear
set_option maxRecDepth 20000 in
theorem ggX8_anew_X2_begin : GoodIn wsX8_anew wsX2_begin := goodIn_r _ [33, 34, 35, 36, 37, 38, 39, 40, 41, 42, 43, 44, 45, 46, 47, 48, 49, 85, 86, 87, 88, 89, 90, 91, 92, 93, 94, 95, 96, 97, 98, 99, 100, 101, 102] (by decide +kernel) (by decide +kernel)
set_option maxRecDepth 20000 in
theorem gX8_anew_X2_begin : GoodIn wsX8_anew (wsV RX8 87 RX2 yX2_begin wsX2_begin) := goodIn_app (goodIn_of _ (by decide +kernel)) ggX8_anew_X2_begin
set_option maxRecDepth 20000 in
theorem ggX8_anew_X1_clear : GoodIn wsX8_anew wsX1_clear := goodIn_r _ [54, 55, 56, 57, 58, 59, 60, 61, 62, 63, 64, 65, 103, 104, 105, 106, 107, 108, 109] (by decide +kernel) (by decide +kernel)
set_option maxRecDepth 20000 in
theorem gX8_anew_X1_clear : GoodIn wsX8_anew (wsV RX8 90 RX1 yX1_clear wsX1_clear) := goodIn_app (goodIn_of _ (by decide +kernel)) ggX8_anew_X1_clear
