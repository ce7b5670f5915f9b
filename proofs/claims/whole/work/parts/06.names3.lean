theorem dX10_shoot_127 : decode cX10_shoot 127 = .ok (.iload 8, 2) := by decide +kernel
theorem dX10_shoot_129 : decode cX10_shoot 129 = .ok (.iadd, 1) := by decide +kernel
theorem dX10_shoot_130 : decode cX10_shoot 130 = .ok (.aload_n 0, 1) := by decide +kernel
theorem dX10_shoot_131 : decode cX10_shoot 131 = .ok (.getfield 52, 3) := by decide +kernel
theorem dX10_shoot_134 : decode cX10_shoot 134 = .ok (.bipush 8, 2) := by decide +kernel
theorem dX10_shoot_136 : decode cX10_shoot 136 = .ok (.iload_n 1, 1) := by decide +kernel
theorem dX10_shoot_137 : decode cX10_shoot 137 = .ok (.imul, 1) := by decide +kernel
theorem dX10_shoot_138 : decode cX10_shoot 138 = .ok (.iload 8, 2) := by decide +kernel
theorem dX10_shoot_140 : decode cX10_shoot 140 = .ok (.iadd, 1) := by decide +kernel
theorem dX10_shoot_141 : decode cX10_shoot 141 = .ok (.iaload, 1) := by decide +kernel
theorem dX10_shoot_142 : decode cX10_shoot 142 = .ok (.iconst 1, 1) := by decide +kernel
theorem dX10_shoot_143 : decode cX10_shoot 143 = .ok (.iadd, 1) := by decide +kernel
theorem dX10_shoot_144 : decode cX10_shoot 144 = .ok (.iastore, 1) := by decide +kernel
theorem dX10_shoot_145 : decode cX10_shoot 145 = .ok (.iinc 8 1, 3) := by decide +kernel
theorem dX10_shoot_148 : decode cX10_shoot 148 = .ok (.goto (-37), 3) := by decide +kernel
theorem dX10_shoot_151 : decode cX10_shoot 151 = .ok (.aload_n 0, 1) := by decide +kernel
theorem dX10_shoot_152 : decode cX10_shoot 152 = .ok (.iload 6, 2) := by decide +kernel
theorem dX10_shoot_154 : decode cX10_shoot 154 = .ok (.invokevirtual 204, 3) := by decide +kernel
theorem dX10_shoot_157 : decode cX10_shoot 157 = .ok (.aload_n 0, 1) := by decide +kernel
theorem dX10_shoot_158 : decode cX10_shoot 158 = .ok (.getfield 194, 3) := by decide +kernel
theorem dX10_shoot_161 : decode cX10_shoot 161 = .ok (.istore 8, 2) := by decide +kernel
theorem dX10_shoot_163 : decode cX10_shoot 163 = .ok (.aload_n 0, 1) := by decide +kernel
theorem dX10_shoot_164 : decode cX10_shoot 164 = .ok (.iload_n 1, 1) := by decide +kernel
theorem dX10_shoot_165 : decode cX10_shoot 165 = .ok (.iload 7, 2) := by decide +kernel
theorem dX10_shoot_167 : decode cX10_shoot 167 = .ok (.iload_n 2, 1) := by decide +kernel
theorem dX10_shoot_168 : decode cX10_shoot 168 = .ok (.iload_n 3, 1) := by decide +kernel
theorem dX10_shoot_169 : decode cX10_shoot 169 = .ok (.iload 4, 2) := by decide +kernel
theorem dX10_shoot_171 : decode cX10_shoot 171 = .ok (.invokevirtual 207, 3) := by decide +kernel
theorem dX10_shoot_174 : decode cX10_shoot 174 = .ok (.aload_n 0, 1) := by decide +kernel
theorem dX10_shoot_175 : decode cX10_shoot 175 = .ok (.iload 6, 2) := by decide +kernel
theorem dX10_shoot_177 : decode cX10_shoot 177 = .ok (.invokevirtual 211, 3) := by decide +kernel
theorem dX10_shoot_180 : decode cX10_shoot 180 = .ok (.aload_n 0, 1) := by decide +kernel
theorem dX10_shoot_181 : decode cX10_shoot 181 = .ok (.getfield 77, 3) := by decide +kernel
theorem dX10_shoot_184 : decode cX10_shoot 184 = .ok (.iload 6, 2) := by decide +kernel
theorem dX10_shoot_186 : decode cX10_shoot 186 = .ok (.dup2, 1) := by decide +kernel
theorem dX10_shoot_187 : decode cX10_shoot 187 = .ok (.iaload, 1) := by decide +kernel
theorem dX10_shoot_188 : decode cX10_shoot 188 = .ok (.iconst 1, 1) := by decide +kernel
theorem dX10_shoot_189 : decode cX10_shoot 189 = .ok (.isub, 1) := by decide +kernel
theorem dX10_shoot_190 : decode cX10_shoot 190 = .ok (.iastore, 1) := by decide +kernel
theorem dX10_shoot_191 : decode cX10_shoot 191 = .ok (.aload_n 0, 1) := by decide +kernel
theorem dX10_shoot_192 : decode cX10_shoot 192 = .ok (.getfield 25, 3) := by decide +kernel
theorem dX10_shoot_195 : decode cX10_shoot 195 = .ok (.iload_n 1, 1) := by decide +kernel
theorem dX10_shoot_196 : decode cX10_shoot 196 = .ok (.aload_n 0, 1) := by decide +kernel
theorem dX10_shoot_197 : decode cX10_shoot 197 = .ok (.getfield 77, 3) := by decide +kernel
theorem dX10_shoot_200 : decode cX10_shoot 200 = .ok (.iload 6, 2) := by decide +kernel
theorem dX10_shoot_202 : decode cX10_shoot 202 = .ok (.iaload, 1) := by decide +kernel
theorem dX10_shoot_203 : decode cX10_shoot 203 = .ok (.ifCond .ne 7, 3) := by decide +kernel
theorem dX10_shoot_206 : decode cX10_shoot 206 = .ok (.iconst (-1), 1) := by decide +kernel
theorem dX10_shoot_207 : decode cX10_shoot 207 = .ok (.goto 5, 3) := by decide +kernel
theorem dX10_shoot_210 : decode cX10_shoot 210 = .ok (.iload 6, 2) := by decide +kernel
theorem dX10_shoot_212 : decode cX10_shoot 212 = .ok (.iastore, 1) := by decide +kernel
theorem dX10_shoot_213 : decode cX10_shoot 213 = .ok (.aload_n 0, 1) := by decide +kernel
theorem dX10_shoot_214 : decode cX10_shoot 214 = .ok (.getfield 194, 3) := by decide +kernel
theorem dX10_shoot_217 : decode cX10_shoot 217 = .ok (.iload 8, 2) := by decide +kernel
theorem dX10_shoot_219 : decode cX10_shoot 219 = .ok (.isub, 1) := by decide +kernel
theorem dX10_shoot_220 : decode cX10_shoot 220 = .ok (.ireturn, 1) := by decide +kernel
theorem dX10_load_0 : decode cX10_load 0 = .ok (.aload_n 0, 1) := by decide +kernel
theorem dX10_load_1 : decode cX10_load 1 = .ok (.iload_n 1, 1) := by decide +kernel
theorem dX10_load_2 : decode cX10_load 2 = .ok (.putfield 191, 3) := by decide +kernel
theorem dX10_load_5 : decode cX10_load 5 = .ok (.aload_n 0, 1) := by decide +kernel
theorem dX10_load_6 : decode cX10_load 6 = .ok (.aload_n 0, 1) := by decide +kernel
theorem dX10_load_7 : decode cX10_load 7 = .ok (.getfield 80, 3) := by decide +kernel
theorem dX10_load_10 : decode cX10_load 10 = .ok (.iload_n 1, 1) := by decide +kernel
theorem dX10_load_11 : decode cX10_load 11 = .ok (.iaload, 1) := by decide +kernel
theorem dX10_load_12 : decode cX10_load 12 = .ok (.putfield 194, 3) := by decide +kernel
theorem dX10_load_15 : decode cX10_load 15 = .ok (.aload_n 0, 1) := by decide +kernel
theorem dX10_load_16 : decode cX10_load 16 = .ok (.aload_n 0, 1) := by decide +kernel
theorem dX10_load_17 : decode cX10_load 17 = .ok (.getfield 101, 3) := by decide +kernel
theorem dX10_load_20 : decode cX10_load 20 = .ok (.iload_n 1, 1) := by decide +kernel
theorem dX10_load_21 : decode cX10_load 21 = .ok (.iaload, 1) := by decide +kernel
theorem dX10_load_22 : decode cX10_load 22 = .ok (.putfield 188, 3) := by decide +kernel
theorem dX10_load_25 : decode cX10_load 25 = .ok (.iconst 0, 1) := by decide +kernel
theorem dX10_load_26 : decode cX10_load 26 = .ok (.istore_n 2, 1) := by decide +kernel
theorem dX10_load_27 : decode cX10_load 27 = .ok (.iload_n 2, 1) := by decide +kernel
theorem dX10_load_28 : decode cX10_load 28 = .ok (.iconst 3, 1) := by decide +kernel
theorem dX10_load_29 : decode cX10_load 29 = .ok (.if_icmp .ge 41, 3) := by decide +kernel
theorem dX10_load_32 : decode cX10_load 32 = .ok (.aload_n 0, 1) := by decide +kernel
theorem dX10_load_33 : decode cX10_load 33 = .ok (.getfield 120, 3) := by decide +kernel
theorem dX10_load_36 : decode cX10_load 36 = .ok (.iload_n 2, 1) := by decide +kernel
theorem dX10_load_37 : decode cX10_load 37 = .ok (.aload_n 0, 1) := by decide +kernel
theorem dX10_load_38 : decode cX10_load 38 = .ok (.getfield 104, 3) := by decide +kernel
theorem dX10_load_41 : decode cX10_load 41 = .ok (.iconst 3, 1) := by decide +kernel
theorem dX10_load_42 : decode cX10_load 42 = .ok (.iload_n 1, 1) := by decide +kernel
theorem dX10_load_43 : decode cX10_load 43 = .ok (.imul, 1) := by decide +kernel
theorem dX10_load_44 : decode cX10_load 44 = .ok (.iload_n 2, 1) := by decide +kernel
theorem dX10_load_45 : decode cX10_load 45 = .ok (.iadd, 1) := by decide +kernel
theorem dX10_load_46 : decode cX10_load 46 = .ok (.iaload, 1) := by decide +kernel
theorem dX10_load_47 : decode cX10_load 47 = .ok (.iastore, 1) := by decide +kernel
theorem dX10_load_48 : decode cX10_load 48 = .ok (.aload_n 0, 1) := by decide +kernel
theorem dX10_load_49 : decode cX10_load 49 = .ok (.getfield 123, 3) := by decide +kernel
theorem dX10_load_52 : decode cX10_load 52 = .ok (.iload_n 2, 1) := by decide +kernel
theorem dX10_load_53 : decode cX10_load 53 = .ok (.aload_n 0, 1) := by decide +kernel
theorem dX10_load_54 : decode cX10_load 54 = .ok (.getfield 107, 3) := by decide +kernel
theorem dX10_load_57 : decode cX10_load 57 = .ok (.iconst 3, 1) := by decide +kernel
theorem dX10_load_58 : decode cX10_load 58 = .ok (.iload_n 1, 1) := by decide +kernel
theorem dX10_load_59 : decode cX10_load 59 = .ok (.imul, 1) := by decide +kernel
theorem dX10_load_60 : decode cX10_load 60 = .ok (.iload_n 2, 1) := by decide +kernel
theorem dX10_load_61 : decode cX10_load 61 = .ok (.iadd, 1) := by decide +kernel
theorem dX10_load_62 : decode cX10_load 62 = .ok (.iaload, 1) := by decide +kernel
theorem dX10_load_63 : decode cX10_load 63 = .ok (.iastore, 1) := by decide +kernel
theorem dX10_load_64 : decode cX10_load 64 = .ok (.iinc 2 1, 3) := by decide +kernel
theorem dX10_load_67 : decode cX10_load 67 = .ok (.goto (-40), 3) := by decide +kernel
theorem dX10_load_70 : decode cX10_load 70 = .ok (.return_, 1) := by decide +kernel
theorem dX10_keep_0 : decode cX10_keep 0 = .ok (.aload_n 0, 1) := by decide +kernel
theorem dX10_keep_1 : decode cX10_keep 1 = .ok (.getfield 80, 3) := by decide +kernel
theorem dX10_keep_4 : decode cX10_keep 4 = .ok (.iload_n 1, 1) := by decide +kernel
theorem dX10_keep_5 : decode cX10_keep 5 = .ok (.aload_n 0, 1) := by decide +kernel
theorem dX10_keep_6 : decode cX10_keep 6 = .ok (.getfield 194, 3) := by decide +kernel
theorem dX10_keep_9 : decode cX10_keep 9 = .ok (.iastore, 1) := by decide +kernel
theorem dX10_keep_10 : decode cX10_keep 10 = .ok (.aload_n 0, 1) := by decide +kernel
theorem dX10_keep_11 : decode cX10_keep 11 = .ok (.getfield 101, 3) := by decide +kernel
theorem dX10_keep_14 : decode cX10_keep 14 = .ok (.iload_n 1, 1) := by decide +kernel
theorem dX10_keep_15 : decode cX10_keep 15 = .ok (.aload_n 0, 1) := by decide +kernel
theorem dX10_keep_16 : decode cX10_keep 16 = .ok (.getfield 188, 3) := by decide +kernel
theorem dX10_keep_19 : decode cX10_keep 19 = .ok (.iastore, 1) := by decide +kernel
theorem dX10_keep_20 : decode cX10_keep 20 = .ok (.iconst 0, 1) := by decide +kernel
theorem dX10_keep_21 : decode cX10_keep 21 = .ok (.istore_n 2, 1) := by decide +kernel
theorem dX10_keep_22 : decode cX10_keep 22 = .ok (.iload_n 2, 1) := by decide +kernel
theorem dX10_keep_23 : decode cX10_keep 23 = .ok (.iconst 3, 1) := by decide +kernel
theorem dX10_keep_24 : decode cX10_keep 24 = .ok (.if_icmp .ge 41, 3) := by decide +kernel
theorem dX10_keep_27 : decode cX10_keep 27 = .ok (.aload_n 0, 1) := by decide +kernel
theorem dX10_keep_28 : decode cX10_keep 28 = .ok (.getfield 104, 3) := by decide +kernel
theorem dX10_keep_31 : decode cX10_keep 31 = .ok (.iconst 3, 1) := by decide +kernel
theorem dX10_keep_32 : decode cX10_keep 32 = .ok (.iload_n 1, 1) := by decide +kernel
theorem dX10_keep_33 : decode cX10_keep 33 = .ok (.imul, 1) := by decide +kernel
theorem dX10_keep_34 : decode cX10_keep 34 = .ok (.iload_n 2, 1) := by decide +kernel
theorem dX10_keep_35 : decode cX10_keep 35 = .ok (.iadd, 1) := by decide +kernel
theorem dX10_keep_36 : decode cX10_keep 36 = .ok (.aload_n 0, 1) := by decide +kernel
theorem dX10_keep_37 : decode cX10_keep 37 = .ok (.getfield 120, 3) := by decide +kernel
theorem dX10_keep_40 : decode cX10_keep 40 = .ok (.iload_n 2, 1) := by decide +kernel
theorem dX10_keep_41 : decode cX10_keep 41 = .ok (.iaload, 1) := by decide +kernel
theorem dX10_keep_42 : decode cX10_keep 42 = .ok (.iastore, 1) := by decide +kernel
theorem dX10_keep_43 : decode cX10_keep 43 = .ok (.aload_n 0, 1) := by decide +kernel
theorem dX10_keep_44 : decode cX10_keep 44 = .ok (.getfield 107, 3) := by decide +kernel
theorem dX10_keep_47 : decode cX10_keep 47 = .ok (.iconst 3, 1) := by decide +kernel
theorem dX10_keep_48 : decode cX10_keep 48 = .ok (.iload_n 1, 1) := by decide +kernel
theorem dX10_keep_49 : decode cX10_keep 49 = .ok (.imul, 1) := by decide +kernel
theorem dX10_keep_50 : decode cX10_keep 50 = .ok (.iload_n 2, 1) := by decide +kernel
theorem dX10_keep_51 : decode cX10_keep 51 = .ok (.iadd, 1) := by decide +kernel
theorem dX10_keep_52 : decode cX10_keep 52 = .ok (.aload_n 0, 1) := by decide +kernel
theorem dX10_keep_53 : decode cX10_keep 53 = .ok (.getfield 123, 3) := by decide +kernel
theorem dX10_keep_56 : decode cX10_keep 56 = .ok (.iload_n 2, 1) := by decide +kernel
theorem dX10_keep_57 : decode cX10_keep 57 = .ok (.iaload, 1) := by decide +kernel
theorem dX10_keep_58 : decode cX10_keep 58 = .ok (.iastore, 1) := by decide +kernel
theorem dX10_keep_59 : decode cX10_keep 59 = .ok (.iinc 2 1, 3) := by decide +kernel
theorem dX10_keep_62 : decode cX10_keep 62 = .ok (.goto (-40), 3) := by decide +kernel
theorem dX10_keep_65 : decode cX10_keep 65 = .ok (.return_, 1) := by decide +kernel
set_option maxRecDepth 20000 in
theorem ggX10_roll_X10_bumperAt : GoodIn wsX10_roll wsX10_bumperAt := goodIn_r _ [8, 9, 10, 11, 12, 13, 14, 15, 7, 16, 47, 48, 49, 50, 51, 52, 53, 54, 55, 56, 57, 58, 59, 60, 61, 62, 63, 64, 65, 66, 67, 68, 69, 70, 71, 72, 73, 74, 75, 76, 77, 78, 79, 80, 81, 82, 83, 84, 85, 86, 87, 88, 89, 90, 91, 92, 93, 94, 95, 96, 97, 98, 99, 100, 101] (by decide +kernel) (by decide +kernel)
set_option maxRecDepth 20000 in
theorem gX10_roll_X10_bumperAt : GoodIn wsX10_roll (wsV RX10 214 RX10 yX10_bumperAt wsX10_bumperAt) := goodIn_app (goodIn_of _ (by decide +kernel)) ggX10_roll_X10_bumperAt
set_option maxRecDepth 20000 in
theorem ggX10_roll_X10_kicked : GoodIn wsX10_roll wsX10_kicked := goodIn_r _ [20, 21, 22, 47, 48, 49, 50, 51, 52, 53, 54, 55, 56, 57, 58, 59, 60, 61, 62, 63, 64, 65, 66, 67, 68, 69, 70, 71, 72, 73, 74, 75, 76, 77, 78, 79, 80, 81, 82, 83, 84, 85, 86, 87, 88, 89, 90, 91, 92, 93, 94, 95, 96, 97, 98, 99, 100, 101] (by decide +kernel) (by decide +kernel)
set_option maxRecDepth 20000 in
theorem gX10_roll_X10_kicked : GoodIn wsX10_roll (wsV RX10 218 RX10 yX10_kicked wsX10_kicked) := goodIn_app (goodIn_of _ (by decide +kernel)) ggX10_roll_X10_kicked
set_option maxRecDepth 20000 in
theorem ggX10_roll_X10_strike : GoodIn wsX10_roll wsX10_strike := goodIn_r _ [26, 21, 27, 28, 29, 30, 7, 31, 32, 33, 34, 35, 36, 37, 38, 39, 40, 41, 42, 43, 44, 45, 46, 47, 48, 49, 50, 51, 52, 53, 54, 55, 56, 57, 58, 59, 60, 61, 62, 63, 64, 65, 66, 67, 68, 69, 70, 71, 72, 73, 74, 75, 76, 77, 78, 79, 80, 81, 82, 83, 84, 85, 86, 87, 88, 89, 90, 91, 92, 93, 94, 95, 96, 97, 98, 99, 100, 101] (by decide +kernel) (by decide +kernel)
set_option maxRecDepth 20000 in
theorem gX10_roll_X10_strike : GoodIn wsX10_roll (wsV RX10 221 RX10 yX10_strike wsX10_strike) := goodIn_app (goodIn_of _ (by decide +kernel)) ggX10_roll_X10_strike
set_option maxRecDepth 20000 in
theorem ggX10_roll_X10_close : GoodIn wsX10_roll wsX10_close := goodIn_r _ [31, 32, 33, 34, 35, 36, 37, 38, 39, 40, 41, 42, 43, 44, 45, 7, 46, 47, 48, 49, 50, 51, 52, 53, 54, 55, 56, 57, 58, 59, 60, 61, 62, 63, 64, 65, 66, 67, 68, 69, 70, 71, 72, 73, 74, 75, 76, 77, 78, 79, 80, 81, 82, 83, 84, 85, 86, 87, 88, 89, 90, 91, 92, 93, 94, 95, 96, 97, 98, 99, 100, 101] (by decide +kernel) (by decide +kernel)
set_option maxRecDepth 20000 in
theorem gX10_roll_X10_close : GoodIn wsX10_roll (wsV RX10 200 RX10 yX10_close wsX10_close) := goodIn_app (goodIn_of _ (by decide +kernel)) ggX10_roll_X10_close
theorem dX10_roll_0 : decode cX10_roll 0 = .ok (.iload_n 3, 1) := by decide +kernel
theorem dX10_roll_1 : decode cX10_roll 1 = .ok (.istore 6, 2) := by decide +kernel
theorem dX10_roll_3 : decode cX10_roll 3 = .ok (.iconst 0, 1) := by decide +kernel
theorem dX10_roll_4 : decode cX10_roll 4 = .ok (.istore 7, 2) := by decide +kernel
theorem dX10_roll_6 : decode cX10_roll 6 = .ok (.iload 4, 2) := by decide +kernel
theorem dX10_roll_8 : decode cX10_roll 8 = .ok (.istore 8, 2) := by decide +kernel
theorem dX10_roll_10 : decode cX10_roll 10 = .ok (.iload 5, 2) := by decide +kernel
theorem dX10_roll_12 : decode cX10_roll 12 = .ok (.istore 9, 2) := by decide +kernel
theorem dX10_roll_14 : decode cX10_roll 14 = .ok (.iconst 0, 1) := by decide +kernel
theorem dX10_roll_15 : decode cX10_roll 15 = .ok (.istore 10, 2) := by decide +kernel
theorem dX10_roll_17 : decode cX10_roll 17 = .ok (.iconst 0, 1) := by decide +kernel
theorem dX10_roll_18 : decode cX10_roll 18 = .ok (.istore 11, 2) := by decide +kernel
theorem dX10_roll_20 : decode cX10_roll 20 = .ok (.iload 10, 2) := by decide +kernel
theorem dX10_roll_22 : decode cX10_roll 22 = .ok (.ifCond .ne 280, 3) := by decide +kernel
theorem dX10_roll_25 : decode cX10_roll 25 = .ok (.iload 11, 2) := by decide +kernel
theorem dX10_roll_27 : decode cX10_roll 27 = .ok (.sipush 300, 3) := by decide +kernel
theorem dX10_roll_30 : decode cX10_roll 30 = .ok (.if_icmp .ge 272, 3) := by decide +kernel
theorem dX10_roll_33 : decode cX10_roll 33 = .ok (.iinc 11 1, 3) := by decide +kernel
theorem dX10_roll_36 : decode cX10_roll 36 = .ok (.iload 9, 2) := by decide +kernel
theorem dX10_roll_38 : decode cX10_roll 38 = .ok (.iconst 2, 1) := by decide +kernel
theorem dX10_roll_39 : decode cX10_roll 39 = .ok (.iadd, 1) := by decide +kernel
theorem dX10_roll_40 : decode cX10_roll 40 = .ok (.bipush 30, 2) := by decide +kernel
theorem dX10_roll_42 : decode cX10_roll 42 = .ok (.if_icmp .le 8, 3) := by decide +kernel
theorem dX10_roll_45 : decode cX10_roll 45 = .ok (.bipush 30, 2) := by decide +kernel
theorem dX10_roll_47 : decode cX10_roll 47 = .ok (.goto 7, 3) := by decide +kernel
theorem dX10_roll_50 : decode cX10_roll 50 = .ok (.iload 9, 2) := by decide +kernel
theorem dX10_roll_52 : decode cX10_roll 52 = .ok (.iconst 2, 1) := by decide +kernel
theorem dX10_roll_53 : decode cX10_roll 53 = .ok (.iadd, 1) := by decide +kernel
theorem dX10_roll_54 : decode cX10_roll 54 = .ok (.istore 9, 2) := by decide +kernel
theorem dX10_roll_56 : decode cX10_roll 56 = .ok (.iload 6, 2) := by decide +kernel
theorem dX10_roll_58 : decode cX10_roll 58 = .ok (.istore 12, 2) := by decide +kernel
theorem dX10_roll_60 : decode cX10_roll 60 = .ok (.iload 6, 2) := by decide +kernel
theorem dX10_roll_62 : decode cX10_roll 62 = .ok (.iload 8, 2) := by decide +kernel
theorem dX10_roll_64 : decode cX10_roll 64 = .ok (.iadd, 1) := by decide +kernel
theorem dX10_roll_65 : decode cX10_roll 65 = .ok (.istore 6, 2) := by decide +kernel
theorem dX10_roll_67 : decode cX10_roll 67 = .ok (.iload 6, 2) := by decide +kernel
theorem dX10_roll_69 : decode cX10_roll 69 = .ok (.ifCond .lt 11, 3) := by decide +kernel
theorem dX10_roll_72 : decode cX10_roll 72 = .ok (.iload 6, 2) := by decide +kernel
theorem dX10_roll_74 : decode cX10_roll 74 = .ok (.sipush 159, 3) := by decide +kernel
theorem dX10_roll_77 : decode cX10_roll 77 = .ok (.if_icmp .le 27, 3) := by decide +kernel
theorem dX10_roll_80 : decode cX10_roll 80 = .ok (.iload 6, 2) := by decide +kernel
theorem dX10_roll_82 : decode cX10_roll 82 = .ok (.ifCond .ge 9, 3) := by decide +kernel
theorem dX10_roll_85 : decode cX10_roll 85 = .ok (.iload 6, 2) := by decide +kernel
theorem dX10_roll_87 : decode cX10_roll 87 = .ok (.ineg, 1) := by decide +kernel
theorem dX10_roll_88 : decode cX10_roll 88 = .ok (.goto 9, 3) := by decide +kernel
theorem dX10_roll_91 : decode cX10_roll 91 = .ok (.sipush 318, 3) := by decide +kernel
theorem dX10_roll_94 : decode cX10_roll 94 = .ok (.iload 6, 2) := by decide +kernel
theorem dX10_roll_96 : decode cX10_roll 96 = .ok (.isub, 1) := by decide +kernel
theorem dX10_roll_97 : decode cX10_roll 97 = .ok (.istore 6, 2) := by decide +kernel
theorem dX10_roll_99 : decode cX10_roll 99 = .ok (.iload 8, 2) := by decide +kernel
theorem dX10_roll_101 : decode cX10_roll 101 = .ok (.ineg, 1) := by decide +kernel
theorem dX10_roll_102 : decode cX10_roll 102 = .ok (.istore 8, 2) := by decide +kernel
theorem dX10_roll_104 : decode cX10_roll 104 = .ok (.aload_n 0, 1) := by decide +kernel
theorem dX10_roll_105 : decode cX10_roll 105 = .ok (.iload_n 1, 1) := by decide +kernel
theorem dX10_roll_106 : decode cX10_roll 106 = .ok (.iload 6, 2) := by decide +kernel
theorem dX10_roll_108 : decode cX10_roll 108 = .ok (.iload 7, 2) := by decide +kernel
theorem dX10_roll_110 : decode cX10_roll 110 = .ok (.invokevirtual 214, 3) := by decide +kernel
theorem dX10_roll_113 : decode cX10_roll 113 = .ok (.istore 13, 2) := by decide +kernel
theorem dX10_roll_115 : decode cX10_roll 115 = .ok (.iload 13, 2) := by decide +kernel
theorem dX10_roll_117 : decode cX10_roll 117 = .ok (.iconst (-1), 1) := by decide +kernel
theorem dX10_roll_118 : decode cX10_roll 118 = .ok (.if_icmp .eq 18, 3) := by decide +kernel
theorem dX10_roll_121 : decode cX10_roll 121 = .ok (.iload 12, 2) := by decide +kernel
theorem dX10_roll_123 : decode cX10_roll 123 = .ok (.istore 6, 2) := by decide +kernel
theorem dX10_roll_125 : decode cX10_roll 125 = .ok (.aload_n 0, 1) := by decide +kernel
theorem dX10_roll_126 : decode cX10_roll 126 = .ok (.iload_n 1, 1) := by decide +kernel
theorem dX10_roll_127 : decode cX10_roll 127 = .ok (.iload 13, 2) := by decide +kernel
theorem dX10_roll_129 : decode cX10_roll 129 = .ok (.iload 8, 2) := by decide +kernel
theorem dX10_roll_131 : decode cX10_roll 131 = .ok (.invokevirtual 218, 3) := by decide +kernel
theorem dX10_roll_134 : decode cX10_roll 134 = .ok (.istore 8, 2) := by decide +kernel
theorem dX10_roll_136 : decode cX10_roll 136 = .ok (.iload 7, 2) := by decide +kernel
theorem dX10_roll_138 : decode cX10_roll 138 = .ok (.istore 14, 2) := by decide +kernel
theorem dX10_roll_140 : decode cX10_roll 140 = .ok (.iconst (-1), 1) := by decide +kernel
theorem dX10_roll_141 : decode cX10_roll 141 = .ok (.istore 15, 2) := by decide +kernel
theorem dX10_roll_143 : decode cX10_roll 143 = .ok (.iload 7, 2) := by decide +kernel
theorem dX10_roll_145 : decode cX10_roll 145 = .ok (.iload 9, 2) := by decide +kernel
theorem dX10_roll_147 : decode cX10_roll 147 = .ok (.iadd, 1) := by decide +kernel
theorem dX10_roll_148 : decode cX10_roll 148 = .ok (.istore 7, 2) := by decide +kernel
theorem dX10_roll_150 : decode cX10_roll 150 = .ok (.iload 7, 2) := by decide +kernel
theorem dX10_roll_152 : decode cX10_roll 152 = .ok (.sipush 239, 3) := by decide +kernel
theorem dX10_roll_155 : decode cX10_roll 155 = .ok (.if_icmp .le 7, 3) := by decide +kernel
theorem dX10_roll_158 : decode cX10_roll 158 = .ok (.iconst 1, 1) := by decide +kernel
theorem dX10_roll_159 : decode cX10_roll 159 = .ok (.goto 4, 3) := by decide +kernel
theorem dX10_roll_162 : decode cX10_roll 162 = .ok (.iconst 0, 1) := by decide +kernel
theorem dX10_roll_163 : decode cX10_roll 163 = .ok (.istore 10, 2) := by decide +kernel
theorem dX10_roll_165 : decode cX10_roll 165 = .ok (.iload 10, 2) := by decide +kernel
theorem dX10_roll_167 : decode cX10_roll 167 = .ok (.ifCond .ne 50, 3) := by decide +kernel
theorem dX10_roll_170 : decode cX10_roll 170 = .ok (.iload 7, 2) := by decide +kernel
theorem dX10_roll_172 : decode cX10_roll 172 = .ok (.ifCond .ge 13, 3) := by decide +kernel
theorem dX10_roll_175 : decode cX10_roll 175 = .ok (.iload 7, 2) := by decide +kernel
theorem dX10_roll_177 : decode cX10_roll 177 = .ok (.ineg, 1) := by decide +kernel
theorem dX10_roll_178 : decode cX10_roll 178 = .ok (.istore 7, 2) := by decide +kernel
theorem dX10_roll_180 : decode cX10_roll 180 = .ok (.iload 9, 2) := by decide +kernel
theorem dX10_roll_182 : decode cX10_roll 182 = .ok (.ineg, 1) := by decide +kernel
theorem dX10_roll_183 : decode cX10_roll 183 = .ok (.istore 9, 2) := by decide +kernel
theorem dX10_roll_185 : decode cX10_roll 185 = .ok (.aload_n 0, 1) := by decide +kernel
theorem dX10_roll_186 : decode cX10_roll 186 = .ok (.iload_n 1, 1) := by decide +kernel
theorem dX10_roll_187 : decode cX10_roll 187 = .ok (.iload 6, 2) := by decide +kernel
theorem dX10_roll_189 : decode cX10_roll 189 = .ok (.iload 7, 2) := by decide +kernel
theorem dX10_roll_191 : decode cX10_roll 191 = .ok (.invokevirtual 214, 3) := by decide +kernel
theorem dX10_roll_194 : decode cX10_roll 194 = .ok (.istore 15, 2) := by decide +kernel
theorem dX10_roll_196 : decode cX10_roll 196 = .ok (.iload 15, 2) := by decide +kernel
theorem dX10_roll_198 : decode cX10_roll 198 = .ok (.iconst (-1), 1) := by decide +kernel
theorem dX10_roll_199 : decode cX10_roll 199 = .ok (.if_icmp .eq 18, 3) := by decide +kernel
theorem dX10_roll_202 : decode cX10_roll 202 = .ok (.iload 14, 2) := by decide +kernel
theorem dX10_roll_204 : decode cX10_roll 204 = .ok (.istore 7, 2) := by decide +kernel
theorem dX10_roll_206 : decode cX10_roll 206 = .ok (.aload_n 0, 1) := by decide +kernel
theorem dX10_roll_207 : decode cX10_roll 207 = .ok (.iload_n 1, 1) := by decide +kernel
theorem dX10_roll_208 : decode cX10_roll 208 = .ok (.iload 15, 2) := by decide +kernel
theorem dX10_roll_210 : decode cX10_roll 210 = .ok (.iload 9, 2) := by decide +kernel
theorem dX10_roll_212 : decode cX10_roll 212 = .ok (.invokevirtual 218, 3) := by decide +kernel
theorem dX10_roll_215 : decode cX10_roll 215 = .ok (.istore 9, 2) := by decide +kernel
theorem dX10_roll_217 : decode cX10_roll 217 = .ok (.aload_n 0, 1) := by decide +kernel
theorem dX10_roll_218 : decode cX10_roll 218 = .ok (.iload_n 1, 1) := by decide +kernel
theorem dX10_roll_219 : decode cX10_roll 219 = .ok (.iload 13, 2) := by decide +kernel
theorem dX10_roll_221 : decode cX10_roll 221 = .ok (.invokevirtual 221, 3) := by decide +kernel
theorem dX10_roll_224 : decode cX10_roll 224 = .ok (.istore 16, 2) := by decide +kernel
theorem dX10_roll_226 : decode cX10_roll 226 = .ok (.aload_n 0, 1) := by decide +kernel
theorem dX10_roll_227 : decode cX10_roll 227 = .ok (.getfield 114, 3) := by decide +kernel
theorem dX10_roll_230 : decode cX10_roll 230 = .ok (.sipush 300, 3) := by decide +kernel
theorem dX10_roll_233 : decode cX10_roll 233 = .ok (.iload_n 2, 1) := by decide +kernel
theorem dX10_roll_234 : decode cX10_roll 234 = .ok (.imul, 1) := by decide +kernel
theorem dX10_roll_235 : decode cX10_roll 235 = .ok (.iload 11, 2) := by decide +kernel
theorem dX10_roll_237 : decode cX10_roll 237 = .ok (.iadd, 1) := by decide +kernel
theorem dX10_roll_238 : decode cX10_roll 238 = .ok (.iconst 1, 1) := by decide +kernel
theorem dX10_roll_239 : decode cX10_roll 239 = .ok (.isub, 1) := by decide +kernel
theorem dX10_roll_240 : decode cX10_roll 240 = .ok (.iload 16, 2) := by decide +kernel
theorem dX10_roll_242 : decode cX10_roll 242 = .ok (.bipush 9, 2) := by decide +kernel
theorem dX10_roll_244 : decode cX10_roll 244 = .ok (.aload_n 0, 1) := by decide +kernel
theorem dX10_roll_245 : decode cX10_roll 245 = .ok (.iload_n 1, 1) := by decide +kernel
theorem dX10_roll_246 : decode cX10_roll 246 = .ok (.iload 15, 2) := by decide +kernel
theorem dX10_roll_248 : decode cX10_roll 248 = .ok (.invokevirtual 221, 3) := by decide +kernel
theorem dX10_roll_251 : decode cX10_roll 251 = .ok (.imul, 1) := by decide +kernel
theorem dX10_roll_252 : decode cX10_roll 252 = .ok (.iadd, 1) := by decide +kernel
theorem dX10_roll_253 : decode cX10_roll 253 = .ok (.iastore, 1) := by decide +kernel
theorem dX10_roll_254 : decode cX10_roll 254 = .ok (.iconst 0, 1) := by decide +kernel
theorem dX10_roll_255 : decode cX10_roll 255 = .ok (.istore 17, 2) := by decide +kernel
theorem dX10_roll_257 : decode cX10_roll 257 = .ok (.iload 17, 2) := by decide +kernel
theorem dX10_roll_259 : decode cX10_roll 259 = .ok (.bipush 8, 2) := by decide +kernel
theorem dX10_roll_261 : decode cX10_roll 261 = .ok (.if_icmp .ge 38, 3) := by decide +kernel
theorem dX10_roll_264 : decode cX10_roll 264 = .ok (.iload 11, 2) := by decide +kernel
theorem dX10_roll_266 : decode cX10_roll 266 = .ok (.bipush 10, 2) := by decide +kernel
theorem dX10_roll_268 : decode cX10_roll 268 = .ok (.irem, 1) := by decide +kernel
theorem dX10_roll_269 : decode cX10_roll 269 = .ok (.ifCond .ne 30, 3) := by decide +kernel
theorem dX10_roll_272 : decode cX10_roll 272 = .ok (.aload_n 0, 1) := by decide +kernel
theorem dX10_roll_273 : decode cX10_roll 273 = .ok (.getfield 117, 3) := by decide +kernel
theorem dX10_roll_276 : decode cX10_roll 276 = .ok (.bipush 8, 2) := by decide +kernel
theorem dX10_roll_278 : decode cX10_roll 278 = .ok (.iload_n 2, 1) := by decide +kernel
theorem dX10_roll_279 : decode cX10_roll 279 = .ok (.imul, 1) := by decide +kernel
theorem dX10_roll_280 : decode cX10_roll 280 = .ok (.iload 17, 2) := by decide +kernel
theorem dX10_roll_282 : decode cX10_roll 282 = .ok (.iadd, 1) := by decide +kernel
theorem dX10_roll_283 : decode cX10_roll 283 = .ok (.iaload, 1) := by decide +kernel
theorem dX10_roll_284 : decode cX10_roll 284 = .ok (.ifCond .le 9, 3) := by decide +kernel
theorem dX10_roll_287 : decode cX10_roll 287 = .ok (.aload_n 0, 1) := by decide +kernel
theorem dX10_roll_288 : decode cX10_roll 288 = .ok (.iload 17, 2) := by decide +kernel
theorem dX10_roll_290 : decode cX10_roll 290 = .ok (.invokevirtual 200, 3) := by decide +kernel
theorem dX10_roll_293 : decode cX10_roll 293 = .ok (.iinc 17 1, 3) := by decide +kernel
theorem dX10_roll_296 : decode cX10_roll 296 = .ok (.goto (-39), 3) := by decide +kernel
theorem dX10_roll_299 : decode cX10_roll 299 = .ok (.goto (-279), 3) := by decide +kernel
theorem dX10_roll_302 : decode cX10_roll 302 = .ok (.aload_n 0, 1) := by decide +kernel
theorem dX10_roll_303 : decode cX10_roll 303 = .ok (.getfield 110, 3) := by decide +kernel
theorem dX10_roll_306 : decode cX10_roll 306 = .ok (.iload_n 2, 1) := by decide +kernel
theorem dX10_roll_307 : decode cX10_roll 307 = .ok (.iload 11, 2) := by decide +kernel
theorem dX10_roll_309 : decode cX10_roll 309 = .ok (.iastore, 1) := by decide +kernel
theorem dX10_roll_310 : decode cX10_roll 310 = .ok (.return_, 1) := by decide +kernel
set_option maxRecDepth 20000 in
theorem ggX10_noTable_X10_isTable : GoodIn wsX10_noTable wsX10_isTable := goodIn_r _ [5, 6, 7, 8, 4, 9, 15, 16, 17, 18, 19, 20, 21, 22, 23, 24, 25, 26, 27, 28, 29, 30, 31, 32, 33, 34, 35, 36, 37, 38, 39, 40, 41, 42, 43, 44, 45, 46, 47, 48, 49, 50, 51, 52, 53, 54, 55, 56, 57, 58, 59, 60, 61, 62, 63, 64, 65, 66, 67, 68, 69] (by decide +kernel) (by decide +kernel)
set_option maxRecDepth 20000 in
theorem gX10_noTable_X10_isTable : GoodIn wsX10_noTable (wsV RX10 161 RX10 yX10_isTable wsX10_isTable) := goodIn_app (goodIn_of _ (by decide +kernel)) ggX10_noTable_X10_isTable
set_option maxRecDepth 20000 in
theorem ggX10_noTable_X10_refused : GoodIn wsX10_noTable wsX10_refused := goodIn_r _ [13, 14, 15, 16, 17, 18, 19, 20, 21, 22, 23, 24, 25, 26, 27, 28, 29, 30, 31, 32, 33, 34, 35, 36, 37, 38, 39, 40, 41, 42, 43, 44, 45, 46, 47, 48, 49, 50, 51, 52, 53, 54, 55, 56, 57, 58, 59, 60, 61, 62, 63, 64, 65, 66, 67, 68, 69] (by decide +kernel) (by decide +kernel)
set_option maxRecDepth 20000 in
theorem gX10_noTable_X10_refused : GoodIn wsX10_noTable (wsV RX10 168 RX10 yX10_refused wsX10_refused) := goodIn_app (goodIn_of _ (by decide +kernel)) ggX10_noTable_X10_refused
theorem dX10_noTable_0 : decode cX10_noTable 0 = .ok (.aload_n 0, 1) := by decide +kernel
theorem dX10_noTable_1 : decode cX10_noTable 1 = .ok (.aload_n 0, 1) := by decide +kernel
theorem dX10_noTable_2 : decode cX10_noTable 2 = .ok (.iload_n 1, 1) := by decide +kernel
theorem dX10_noTable_3 : decode cX10_noTable 3 = .ok (.invokevirtual 161, 3) := by decide +kernel
theorem dX10_noTable_6 : decode cX10_noTable 6 = .ok (.ifCond .eq 7, 3) := by decide +kernel
theorem dX10_noTable_9 : decode cX10_noTable 9 = .ok (.iconst 0, 1) := by decide +kernel
theorem dX10_noTable_10 : decode cX10_noTable 10 = .ok (.goto 4, 3) := by decide +kernel
theorem dX10_noTable_13 : decode cX10_noTable 13 = .ok (.iconst 1, 1) := by decide +kernel
theorem dX10_noTable_14 : decode cX10_noTable 14 = .ok (.invokevirtual 168, 3) := by decide +kernel
theorem dX10_noTable_17 : decode cX10_noTable 17 = .ok (.ireturn, 1) := by decide +kernel
set_option maxRecDepth 20000 in
theorem ggX10_noGame_X10_isGame : GoodIn wsX10_noGame wsX10_isGame := goodIn_r _ [5, 6, 7, 8, 4, 9, 15, 16, 17, 18, 19, 20, 21, 22, 23, 24, 25, 26, 27, 28, 29, 30, 31, 32, 33, 34, 35, 36, 37, 38, 39, 40, 41, 42, 43, 44, 45, 46, 47, 48, 49, 50, 51, 52, 53, 54, 55, 56, 57, 58, 59, 60, 61, 62, 63, 64, 65, 66, 67, 68, 69] (by decide +kernel) (by decide +kernel)
set_option maxRecDepth 20000 in
theorem gX10_noGame_X10_isGame : GoodIn wsX10_noGame (wsV RX10 225 RX10 yX10_isGame wsX10_isGame) := goodIn_app (goodIn_of _ (by decide +kernel)) ggX10_noGame_X10_isGame
set_option maxRecDepth 20000 in
theorem ggX10_noGame_X10_refused : GoodIn wsX10_noGame wsX10_refused := goodIn_r _ [13, 14, 15, 16, 17, 18, 19, 20, 21, 22, 23, 24, 25, 26, 27, 28, 29, 30, 31, 32, 33, 34, 35, 36, 37, 38, 39, 40, 41, 42, 43, 44, 45, 46, 47, 48, 49, 50, 51, 52, 53, 54, 55, 56, 57, 58, 59, 60, 61, 62, 63, 64, 65, 66, 67, 68, 69] (by decide +kernel) (by decide +kernel)
set_option maxRecDepth 20000 in
theorem gX10_noGame_X10_refused : GoodIn wsX10_noGame (wsV RX10 168 RX10 yX10_refused wsX10_refused) := goodIn_app (goodIn_of _ (by decide +kernel)) ggX10_noGame_X10_refused
theorem dX10_noGame_0 : decode cX10_noGame 0 = .ok (.aload_n 0, 1) := by decide +kernel
theorem dX10_noGame_1 : decode cX10_noGame 1 = .ok (.aload_n 0, 1) := by decide +kernel
theorem dX10_noGame_2 : decode cX10_noGame 2 = .ok (.iload_n 1, 1) := by decide +kernel
theorem dX10_noGame_3 : decode cX10_noGame 3 = .ok (.invokevirtual 225, 3) := by decide +kernel
theorem dX10_noGame_6 : decode cX10_noGame 6 = .ok (.ifCond .eq 7, 3) := by decide +kernel
theorem dX10_noGame_9 : decode cX10_noGame 9 = .ok (.iconst 0, 1) := by decide +kernel
theorem dX10_noGame_10 : decode cX10_noGame 10 = .ok (.goto 4, 3) := by decide +kernel
theorem dX10_noGame_13 : decode cX10_noGame 13 = .ok (.iconst 1, 1) := by decide +kernel
theorem dX10_noGame_14 : decode cX10_noGame 14 = .ok (.invokevirtual 168, 3) := by decide +kernel
theorem dX10_noGame_17 : decode cX10_noGame 17 = .ok (.ireturn, 1) := by decide +kernel
set_option maxRecDepth 20000 in
theorem ggX10_gameAt_X10_noTable : GoodIn wsX10_gameAt wsX10_noTable := goodIn_r _ [6, 7, 8, 9, 5, 10, 11, 12, 13, 14, 15, 16, 17, 18, 19, 20, 21, 22, 23, 24, 25, 26, 27, 28, 29, 30, 31, 32, 33, 34, 35, 36, 37, 38, 39, 40, 41, 42, 43, 44, 45, 46, 47, 48, 49, 50, 51, 52, 53, 54, 55, 56, 57, 58, 59, 60, 61, 62, 63, 64, 65, 66, 67, 68, 69, 70, 71, 72, 73, 74] (by decide +kernel) (by decide +kernel)
set_option maxRecDepth 20000 in
theorem gX10_gameAt_X10_noTable : GoodIn wsX10_gameAt (wsV RX10 228 RX10 yX10_noTable wsX10_noTable) := goodIn_app (goodIn_of _ (by decide +kernel)) ggX10_gameAt_X10_noTable
theorem dX10_gameAt_0 : decode cX10_gameAt 0 = .ok (.aload_n 0, 1) := by decide +kernel
theorem dX10_gameAt_1 : decode cX10_gameAt 1 = .ok (.iload_n 1, 1) := by decide +kernel
theorem dX10_gameAt_2 : decode cX10_gameAt 2 = .ok (.invokevirtual 228, 3) := by decide +kernel
theorem dX10_gameAt_5 : decode cX10_gameAt 5 = .ok (.ifCond .eq 7, 3) := by decide +kernel
theorem dX10_gameAt_8 : decode cX10_gameAt 8 = .ok (.iconst 0, 1) := by decide +kernel
theorem dX10_gameAt_9 : decode cX10_gameAt 9 = .ok (.goto 9, 3) := by decide +kernel
theorem dX10_gameAt_12 : decode cX10_gameAt 12 = .ok (.aload_n 0, 1) := by decide +kernel
theorem dX10_gameAt_13 : decode cX10_gameAt 13 = .ok (.getfield 25, 3) := by decide +kernel
theorem dX10_gameAt_16 : decode cX10_gameAt 16 = .ok (.iload_n 1, 1) := by decide +kernel
theorem dX10_gameAt_17 : decode cX10_gameAt 17 = .ok (.iaload, 1) := by decide +kernel
theorem dX10_gameAt_18 : decode cX10_gameAt 18 = .ok (.ireturn, 1) := by decide +kernel
set_option maxRecDepth 20000 in
theorem ggX10_games_X10_fine : GoodIn wsX10_games wsX10_fine := goodIn_r _ [6, 7, 8, 9, 10, 11, 12, 13, 14, 15, 16, 17, 18, 19, 20, 21, 22, 23, 24, 25, 26, 27, 28, 29, 30, 31, 32, 33, 34, 35, 36, 37, 38, 39, 40, 41, 42, 43, 44, 45, 46, 47, 48, 49, 50, 51, 52, 53, 54, 55, 56, 57, 58, 59, 60, 61, 62] (by decide +kernel) (by decide +kernel)
set_option maxRecDepth 20000 in
theorem gX10_games_X10_fine : GoodIn wsX10_games (wsV RX10 178 RX10 yX10_fine wsX10_fine) := goodIn_app (goodIn_of _ (by decide +kernel)) ggX10_games_X10_fine
theorem dX10_games_0 : decode cX10_games 0 = .ok (.aload_n 0, 1) := by decide +kernel
theorem dX10_games_1 : decode cX10_games 1 = .ok (.aload_n 0, 1) := by decide +kernel
theorem dX10_games_2 : decode cX10_games 2 = .ok (.getfield 165, 3) := by decide +kernel
theorem dX10_games_5 : decode cX10_games 5 = .ok (.invokevirtual 178, 3) := by decide +kernel
theorem dX10_games_8 : decode cX10_games 8 = .ok (.ireturn, 1) := by decide +kernel
set_option maxRecDepth 20000 in
theorem ggX10_ballsLeft_X10_noGame : GoodIn wsX10_ballsLeft wsX10_noGame := goodIn_r _ [6, 7, 8, 9, 5, 10, 11, 12, 13, 14, 15, 16, 17, 18, 19, 20, 21, 22, 23, 24, 25, 26, 27, 28, 29, 30, 31, 32, 33, 34, 35, 36, 37, 38, 39, 40, 41, 42, 43, 44, 45, 46, 47, 48, 49, 50, 51, 52, 53, 54, 55, 56, 57, 58, 59, 60, 61, 62, 63, 64, 65, 66, 67, 68, 69, 70, 71, 72, 73, 74] (by decide +kernel) (by decide +kernel)
set_option maxRecDepth 20000 in
theorem gX10_ballsLeft_X10_noGame : GoodIn wsX10_ballsLeft (wsV RX10 231 RX10 yX10_noGame wsX10_noGame) := goodIn_app (goodIn_of _ (by decide +kernel)) ggX10_ballsLeft_X10_noGame
theorem dX10_ballsLeft_0 : decode cX10_ballsLeft 0 = .ok (.aload_n 0, 1) := by decide +kernel
theorem dX10_ballsLeft_1 : decode cX10_ballsLeft 1 = .ok (.iload_n 1, 1) := by decide +kernel
theorem dX10_ballsLeft_2 : decode cX10_ballsLeft 2 = .ok (.invokevirtual 231, 3) := by decide +kernel
theorem dX10_ballsLeft_5 : decode cX10_ballsLeft 5 = .ok (.ifCond .eq 7, 3) := by decide +kernel
theorem dX10_ballsLeft_8 : decode cX10_ballsLeft 8 = .ok (.iconst 0, 1) := by decide +kernel
theorem dX10_ballsLeft_9 : decode cX10_ballsLeft 9 = .ok (.goto 9, 3) := by decide +kernel
theorem dX10_ballsLeft_12 : decode cX10_ballsLeft 12 = .ok (.aload_n 0, 1) := by decide +kernel
theorem dX10_ballsLeft_13 : decode cX10_ballsLeft 13 = .ok (.getfield 77, 3) := by decide +kernel
theorem dX10_ballsLeft_16 : decode cX10_ballsLeft 16 = .ok (.iload_n 1, 1) := by decide +kernel
theorem dX10_ballsLeft_17 : decode cX10_ballsLeft 17 = .ok (.iaload, 1) := by decide +kernel
theorem dX10_ballsLeft_18 : decode cX10_ballsLeft 18 = .ok (.ireturn, 1) := by decide +kernel
set_option maxRecDepth 20000 in
theorem ggX10_stack_X10_noGame : GoodIn wsX10_stack wsX10_noGame := goodIn_r _ [7, 8, 9, 10, 6, 11, 12, 13, 14, 15, 16, 17, 18, 19, 20, 21, 22, 23, 24, 25, 26, 27, 28, 29, 30, 31, 32, 33, 34, 35, 36, 37, 38, 39, 40, 41, 42, 43, 44, 45, 46, 47, 48, 49, 50, 51, 52, 53, 54, 55, 56, 57, 58, 59, 60, 61, 62, 63, 64, 65, 66, 67, 68, 69, 70, 71, 72, 73, 74, 75] (by decide +kernel) (by decide +kernel)
set_option maxRecDepth 20000 in
theorem gX10_stack_X10_noGame : GoodIn wsX10_stack (wsV RX10 231 RX10 yX10_noGame wsX10_noGame) := goodIn_app (goodIn_of _ (by decide +kernel)) ggX10_stack_X10_noGame
theorem dX10_stack_0 : decode cX10_stack 0 = .ok (.aload_n 0, 1) := by decide +kernel
theorem dX10_stack_1 : decode cX10_stack 1 = .ok (.iload_n 1, 1) := by decide +kernel
theorem dX10_stack_2 : decode cX10_stack 2 = .ok (.invokevirtual 231, 3) := by decide +kernel
theorem dX10_stack_5 : decode cX10_stack 5 = .ok (.ifCond .eq 5, 3) := by decide +kernel
theorem dX10_stack_8 : decode cX10_stack 8 = .ok (.iconst 0, 1) := by decide +kernel
theorem dX10_stack_9 : decode cX10_stack 9 = .ok (.ireturn, 1) := by decide +kernel
theorem dX10_stack_10 : decode cX10_stack 10 = .ok (.iconst 0, 1) := by decide +kernel
theorem dX10_stack_11 : decode cX10_stack 11 = .ok (.istore_n 2, 1) := by decide +kernel
theorem dX10_stack_12 : decode cX10_stack 12 = .ok (.iconst 0, 1) := by decide +kernel
theorem dX10_stack_13 : decode cX10_stack 13 = .ok (.istore_n 3, 1) := by decide +kernel
theorem dX10_stack_14 : decode cX10_stack 14 = .ok (.iload_n 3, 1) := by decide +kernel
theorem dX10_stack_15 : decode cX10_stack 15 = .ok (.aload_n 0, 1) := by decide +kernel
theorem dX10_stack_16 : decode cX10_stack 16 = .ok (.getfield 101, 3) := by decide +kernel
theorem dX10_stack_19 : decode cX10_stack 19 = .ok (.iload_n 1, 1) := by decide +kernel
theorem dX10_stack_20 : decode cX10_stack 20 = .ok (.iaload, 1) := by decide +kernel
theorem dX10_stack_21 : decode cX10_stack 21 = .ok (.if_icmp .ge 27, 3) := by decide +kernel
theorem dX10_stack_24 : decode cX10_stack 24 = .ok (.bipush 10, 2) := by decide +kernel
theorem dX10_stack_26 : decode cX10_stack 26 = .ok (.iload_n 2, 1) := by decide +kernel
theorem dX10_stack_27 : decode cX10_stack 27 = .ok (.imul, 1) := by decide +kernel
theorem dX10_stack_28 : decode cX10_stack 28 = .ok (.aload_n 0, 1) := by decide +kernel
theorem dX10_stack_29 : decode cX10_stack 29 = .ok (.getfield 104, 3) := by decide +kernel
theorem dX10_stack_32 : decode cX10_stack 32 = .ok (.iconst 3, 1) := by decide +kernel
theorem dX10_stack_33 : decode cX10_stack 33 = .ok (.iload_n 1, 1) := by decide +kernel
theorem dX10_stack_34 : decode cX10_stack 34 = .ok (.imul, 1) := by decide +kernel
theorem dX10_stack_35 : decode cX10_stack 35 = .ok (.iload_n 3, 1) := by decide +kernel
theorem dX10_stack_36 : decode cX10_stack 36 = .ok (.iadd, 1) := by decide +kernel
theorem dX10_stack_37 : decode cX10_stack 37 = .ok (.iaload, 1) := by decide +kernel
theorem dX10_stack_38 : decode cX10_stack 38 = .ok (.iadd, 1) := by decide +kernel
theorem dX10_stack_39 : decode cX10_stack 39 = .ok (.iconst 1, 1) := by decide +kernel
theorem dX10_stack_40 : decode cX10_stack 40 = .ok (.iadd, 1) := by decide +kernel
theorem dX10_stack_41 : decode cX10_stack 41 = .ok (.istore_n 2, 1) := by decide +kernel
theorem dX10_stack_42 : decode cX10_stack 42 = .ok (.iinc 3 1, 3) := by decide +kernel
theorem dX10_stack_45 : decode cX10_stack 45 = .ok (.goto (-31), 3) := by decide +kernel
theorem dX10_stack_48 : decode cX10_stack 48 = .ok (.iload_n 2, 1) := by decide +kernel
theorem dX10_stack_49 : decode cX10_stack 49 = .ok (.ireturn, 1) := by decide +kernel
set_option maxRecDepth 20000 in
theorem ggX10_score_X10_noGame : GoodIn wsX10_score wsX10_noGame := goodIn_r _ [6, 7, 8, 9, 5, 10, 11, 12, 13, 14, 15, 16, 17, 18, 19, 20, 21, 22, 23, 24, 25, 26, 27, 28, 29, 30, 31, 32, 33, 34, 35, 36, 37, 38, 39, 40, 41, 42, 43, 44, 45, 46, 47, 48, 49, 50, 51, 52, 53, 54, 55, 56, 57, 58, 59, 60, 61, 62, 63, 64, 65, 66, 67, 68, 69, 70, 71, 72, 73, 74] (by decide +kernel) (by decide +kernel)
set_option maxRecDepth 20000 in
theorem gX10_score_X10_noGame : GoodIn wsX10_score (wsV RX10 231 RX10 yX10_noGame wsX10_noGame) := goodIn_app (goodIn_of _ (by decide +kernel)) ggX10_score_X10_noGame
theorem dX10_score_0 : decode cX10_score 0 = .ok (.aload_n 0, 1) := by decide +kernel
theorem dX10_score_1 : decode cX10_score 1 = .ok (.iload_n 1, 1) := by decide +kernel
theorem dX10_score_2 : decode cX10_score 2 = .ok (.invokevirtual 231, 3) := by decide +kernel
theorem dX10_score_5 : decode cX10_score 5 = .ok (.ifCond .eq 7, 3) := by decide +kernel
theorem dX10_score_8 : decode cX10_score 8 = .ok (.iconst 0, 1) := by decide +kernel
theorem dX10_score_9 : decode cX10_score 9 = .ok (.goto 9, 3) := by decide +kernel
theorem dX10_score_12 : decode cX10_score 12 = .ok (.aload_n 0, 1) := by decide +kernel
theorem dX10_score_13 : decode cX10_score 13 = .ok (.getfield 80, 3) := by decide +kernel
theorem dX10_score_16 : decode cX10_score 16 = .ok (.iload_n 1, 1) := by decide +kernel
theorem dX10_score_17 : decode cX10_score 17 = .ok (.iaload, 1) := by decide +kernel
theorem dX10_score_18 : decode cX10_score 18 = .ok (.ireturn, 1) := by decide +kernel
theorem dX10_rewind_0 : decode cX10_rewind 0 = .ok (.aload_n 0, 1) := by decide +kernel
theorem dX10_rewind_1 : decode cX10_rewind 1 = .ok (.getfield 126, 3) := by decide +kernel
theorem dX10_rewind_4 : decode cX10_rewind 4 = .ok (.iload_n 1, 1) := by decide +kernel
theorem dX10_rewind_5 : decode cX10_rewind 5 = .ok (.iconst 0, 1) := by decide +kernel
theorem dX10_rewind_6 : decode cX10_rewind 6 = .ok (.iastore, 1) := by decide +kernel
theorem dX10_rewind_7 : decode cX10_rewind 7 = .ok (.aload_n 0, 1) := by decide +kernel
theorem dX10_rewind_8 : decode cX10_rewind 8 = .ok (.getfield 129, 3) := by decide +kernel
theorem dX10_rewind_11 : decode cX10_rewind 11 = .ok (.iload_n 1, 1) := by decide +kernel
theorem dX10_rewind_12 : decode cX10_rewind 12 = .ok (.iconst 1, 1) := by decide +kernel
theorem dX10_rewind_13 : decode cX10_rewind 13 = .ok (.iastore, 1) := by decide +kernel
theorem dX10_rewind_14 : decode cX10_rewind 14 = .ok (.aload_n 0, 1) := by decide +kernel
theorem dX10_rewind_15 : decode cX10_rewind 15 = .ok (.getfield 132, 3) := by decide +kernel
theorem dX10_rewind_18 : decode cX10_rewind 18 = .ok (.iload_n 1, 1) := by decide +kernel
theorem dX10_rewind_19 : decode cX10_rewind 19 = .ok (.iconst 0, 1) := by decide +kernel
theorem dX10_rewind_20 : decode cX10_rewind 20 = .ok (.iastore, 1) := by decide +kernel
theorem dX10_rewind_21 : decode cX10_rewind 21 = .ok (.return_, 1) := by decide +kernel
theorem dX10_partOf_0 : decode cX10_partOf 0 = .ok (.aload_n 0, 1) := by decide +kernel
theorem dX10_partOf_1 : decode cX10_partOf 1 = .ok (.getfield 114, 3) := by decide +kernel
theorem dX10_partOf_4 : decode cX10_partOf 4 = .ok (.sipush 300, 3) := by decide +kernel
theorem dX10_partOf_7 : decode cX10_partOf 7 = .ok (.iload_n 1, 1) := by decide +kernel
theorem dX10_partOf_8 : decode cX10_partOf 8 = .ok (.imul, 1) := by decide +kernel
theorem dX10_partOf_9 : decode cX10_partOf 9 = .ok (.iload_n 2, 1) := by decide +kernel
theorem dX10_partOf_10 : decode cX10_partOf 10 = .ok (.iadd, 1) := by decide +kernel
theorem dX10_partOf_11 : decode cX10_partOf 11 = .ok (.iconst 1, 1) := by decide +kernel
theorem dX10_partOf_12 : decode cX10_partOf 12 = .ok (.isub, 1) := by decide +kernel
theorem dX10_partOf_13 : decode cX10_partOf 13 = .ok (.iaload, 1) := by decide +kernel
theorem dX10_partOf_14 : decode cX10_partOf 14 = .ok (.istore 4, 2) := by decide +kernel
theorem dX10_partOf_16 : decode cX10_partOf 16 = .ok (.iload_n 3, 1) := by decide +kernel
theorem dX10_partOf_17 : decode cX10_partOf 17 = .ok (.iconst 2, 1) := by decide +kernel
theorem dX10_partOf_18 : decode cX10_partOf 18 = .ok (.if_icmp .ge 21, 3) := by decide +kernel
theorem dX10_partOf_21 : decode cX10_partOf 21 = .ok (.iload_n 3, 1) := by decide +kernel
theorem dX10_partOf_22 : decode cX10_partOf 22 = .ok (.ifCond .ne 11, 3) := by decide +kernel
theorem dX10_partOf_25 : decode cX10_partOf 25 = .ok (.iload 4, 2) := by decide +kernel
theorem dX10_partOf_27 : decode cX10_partOf 27 = .ok (.bipush 9, 2) := by decide +kernel
theorem dX10_partOf_29 : decode cX10_partOf 29 = .ok (.irem, 1) := by decide +kernel
theorem dX10_partOf_30 : decode cX10_partOf 30 = .ok (.goto 8, 3) := by decide +kernel
theorem dX10_partOf_33 : decode cX10_partOf 33 = .ok (.iload 4, 2) := by decide +kernel
theorem dX10_partOf_35 : decode cX10_partOf 35 = .ok (.bipush 9, 2) := by decide +kernel
theorem dX10_partOf_37 : decode cX10_partOf 37 = .ok (.idiv, 1) := by decide +kernel
theorem dX10_partOf_38 : decode cX10_partOf 38 = .ok (.ireturn, 1) := by decide +kernel
theorem dX10_partOf_39 : decode cX10_partOf 39 = .ok (.iload_n 2, 1) := by decide +kernel
theorem dX10_partOf_40 : decode cX10_partOf 40 = .ok (.bipush 10, 2) := by decide +kernel
theorem dX10_partOf_42 : decode cX10_partOf 42 = .ok (.irem, 1) := by decide +kernel
theorem dX10_partOf_43 : decode cX10_partOf 43 = .ok (.ifCond .ne 19, 3) := by decide +kernel
theorem dX10_partOf_46 : decode cX10_partOf 46 = .ok (.aload_n 0, 1) := by decide +kernel
theorem dX10_partOf_47 : decode cX10_partOf 47 = .ok (.getfield 117, 3) := by decide +kernel
theorem dX10_partOf_50 : decode cX10_partOf 50 = .ok (.bipush 8, 2) := by decide +kernel
theorem dX10_partOf_52 : decode cX10_partOf 52 = .ok (.iload_n 1, 1) := by decide +kernel
theorem dX10_partOf_53 : decode cX10_partOf 53 = .ok (.imul, 1) := by decide +kernel
theorem dX10_partOf_54 : decode cX10_partOf 54 = .ok (.iload_n 3, 1) := by decide +kernel
theorem dX10_partOf_55 : decode cX10_partOf 55 = .ok (.iadd, 1) := by decide +kernel
theorem dX10_partOf_56 : decode cX10_partOf 56 = .ok (.iconst 2, 1) := by decide +kernel
theorem dX10_partOf_57 : decode cX10_partOf 57 = .ok (.isub, 1) := by decide +kernel
theorem dX10_partOf_58 : decode cX10_partOf 58 = .ok (.iaload, 1) := by decide +kernel
theorem dX10_partOf_59 : decode cX10_partOf 59 = .ok (.goto 4, 3) := by decide +kernel
theorem dX10_partOf_62 : decode cX10_partOf 62 = .ok (.iconst 0, 1) := by decide +kernel
theorem dX10_partOf_63 : decode cX10_partOf 63 = .ok (.istore 5, 2) := by decide +kernel
theorem dX10_partOf_65 : decode cX10_partOf 65 = .ok (.iload 5, 2) := by decide +kernel
theorem dX10_partOf_67 : decode cX10_partOf 67 = .ok (.ifCond .ne 7, 3) := by decide +kernel
theorem dX10_partOf_70 : decode cX10_partOf 70 = .ok (.iconst 0, 1) := by decide +kernel
theorem dX10_partOf_71 : decode cX10_partOf 71 = .ok (.goto 12, 3) := by decide +kernel
theorem dX10_partOf_74 : decode cX10_partOf 74 = .ok (.iload_n 3, 1) := by decide +kernel
theorem dX10_partOf_75 : decode cX10_partOf 75 = .ok (.iconst 1, 1) := by decide +kernel
theorem dX10_partOf_76 : decode cX10_partOf 76 = .ok (.isub, 1) := by decide +kernel
theorem dX10_partOf_77 : decode cX10_partOf 77 = .ok (.bipush 16, 2) := by decide +kernel
theorem dX10_partOf_79 : decode cX10_partOf 79 = .ok (.iload 5, 2) := by decide +kernel
theorem dX10_partOf_81 : decode cX10_partOf 81 = .ok (.imul, 1) := by decide +kernel
theorem dX10_partOf_82 : decode cX10_partOf 82 = .ok (.iadd, 1) := by decide +kernel
theorem dX10_partOf_83 : decode cX10_partOf 83 = .ok (.ireturn, 1) := by decide +kernel
set_option maxRecDepth 20000 in
theorem ggX10_next_X10_partOf : GoodIn wsX10_next wsX10_partOf := goodIn_r _ [11, 12, 13, 14, 15, 16, 17, 18, 19, 20, 21, 22, 23, 24, 25, 26, 27, 28, 29, 30, 31, 32, 33, 34, 35, 36, 37, 38, 39, 40, 41, 42, 43, 44, 45, 46, 47, 48, 49, 50, 51, 52, 53, 54, 55, 56, 57, 58, 59, 60, 61, 62, 63, 64, 65, 66, 67, 68] (by decide +kernel) (by decide +kernel)
set_option maxRecDepth 20000 in
theorem gX10_next_X10_partOf : GoodIn wsX10_next (wsV RX10 234 RX10 yX10_partOf wsX10_partOf) := goodIn_app (goodIn_of _ (by decide +kernel)) ggX10_next_X10_partOf
theorem dX10_next_0 : decode cX10_next 0 = .ok (.aload_n 0, 1) := by decide +kernel
theorem dX10_next_1 : decode cX10_next 1 = .ok (.getfield 126, 3) := by decide +kernel
theorem dX10_next_4 : decode cX10_next 4 = .ok (.iload_n 1, 1) := by decide +kernel
theorem dX10_next_5 : decode cX10_next 5 = .ok (.iaload, 1) := by decide +kernel
theorem dX10_next_6 : decode cX10_next 6 = .ok (.iconst 3, 1) := by decide +kernel
theorem dX10_next_7 : decode cX10_next 7 = .ok (.aload_n 0, 1) := by decide +kernel
theorem dX10_next_8 : decode cX10_next 8 = .ok (.getfield 77, 3) := by decide +kernel
theorem dX10_next_11 : decode cX10_next 11 = .ok (.iload_n 2, 1) := by decide +kernel
theorem dX10_next_12 : decode cX10_next 12 = .ok (.iaload, 1) := by decide +kernel
theorem dX10_next_13 : decode cX10_next 13 = .ok (.isub, 1) := by decide +kernel
theorem dX10_next_14 : decode cX10_next 14 = .ok (.if_icmp .ge 163, 3) := by decide +kernel
theorem dX10_next_17 : decode cX10_next 17 = .ok (.iconst 3, 1) := by decide +kernel
theorem dX10_next_18 : decode cX10_next 18 = .ok (.iload_n 2, 1) := by decide +kernel
theorem dX10_next_19 : decode cX10_next 19 = .ok (.imul, 1) := by decide +kernel
theorem dX10_next_20 : decode cX10_next 20 = .ok (.aload_n 0, 1) := by decide +kernel
theorem dX10_next_21 : decode cX10_next 21 = .ok (.getfield 126, 3) := by decide +kernel
theorem dX10_next_24 : decode cX10_next 24 = .ok (.iload_n 1, 1) := by decide +kernel
theorem dX10_next_25 : decode cX10_next 25 = .ok (.iaload, 1) := by decide +kernel
theorem dX10_next_26 : decode cX10_next 26 = .ok (.iadd, 1) := by decide +kernel
theorem dX10_next_27 : decode cX10_next 27 = .ok (.istore_n 3, 1) := by decide +kernel
theorem dX10_next_28 : decode cX10_next 28 = .ok (.aload_n 0, 1) := by decide +kernel
theorem dX10_next_29 : decode cX10_next 29 = .ok (.iload_n 3, 1) := by decide +kernel
theorem dX10_next_30 : decode cX10_next 30 = .ok (.aload_n 0, 1) := by decide +kernel
theorem dX10_next_31 : decode cX10_next 31 = .ok (.getfield 129, 3) := by decide +kernel
theorem dX10_next_34 : decode cX10_next 34 = .ok (.iload_n 1, 1) := by decide +kernel
theorem dX10_next_35 : decode cX10_next 35 = .ok (.iaload, 1) := by decide +kernel
theorem dX10_next_36 : decode cX10_next 36 = .ok (.aload_n 0, 1) := by decide +kernel
theorem dX10_next_37 : decode cX10_next 37 = .ok (.getfield 132, 3) := by decide +kernel
theorem dX10_next_40 : decode cX10_next 40 = .ok (.iload_n 1, 1) := by decide +kernel
theorem dX10_next_41 : decode cX10_next 41 = .ok (.iaload, 1) := by decide +kernel
theorem dX10_next_42 : decode cX10_next 42 = .ok (.invokevirtual 234, 3) := by decide +kernel
theorem dX10_next_45 : decode cX10_next 45 = .ok (.istore 4, 2) := by decide +kernel
theorem dX10_next_47 : decode cX10_next 47 = .ok (.iload 4, 2) := by decide +kernel
theorem dX10_next_49 : decode cX10_next 49 = .ok (.ifCond .ne 7, 3) := by decide +kernel
theorem dX10_next_52 : decode cX10_next 52 = .ok (.iconst (-1), 1) := by decide +kernel
theorem dX10_next_53 : decode cX10_next 53 = .ok (.goto 40, 3) := by decide +kernel
theorem dX10_next_56 : decode cX10_next 56 = .ok (.iload 4, 2) := by decide +kernel
theorem dX10_next_58 : decode cX10_next 58 = .ok (.bipush 16, 2) := by decide +kernel
theorem dX10_next_60 : decode cX10_next 60 = .ok (.irem, 1) := by decide +kernel
theorem dX10_next_61 : decode cX10_next 61 = .ok (.iconst 1, 1) := by decide +kernel
theorem dX10_next_62 : decode cX10_next 62 = .ok (.isub, 1) := by decide +kernel
theorem dX10_next_63 : decode cX10_next 63 = .ok (.bipush 16, 2) := by decide +kernel
theorem dX10_next_65 : decode cX10_next 65 = .ok (.aload_n 0, 1) := by decide +kernel
theorem dX10_next_66 : decode cX10_next 66 = .ok (.getfield 126, 3) := by decide +kernel
theorem dX10_next_69 : decode cX10_next 69 = .ok (.iload_n 1, 1) := by decide +kernel
theorem dX10_next_70 : decode cX10_next 70 = .ok (.iaload, 1) := by decide +kernel
theorem dX10_next_71 : decode cX10_next 71 = .ok (.imul, 1) := by decide +kernel
theorem dX10_next_72 : decode cX10_next 72 = .ok (.iadd, 1) := by decide +kernel
theorem dX10_next_73 : decode cX10_next 73 = .ok (.sipush 256, 3) := by decide +kernel
theorem dX10_next_76 : decode cX10_next 76 = .ok (.aload_n 0, 1) := by decide +kernel
theorem dX10_next_77 : decode cX10_next 77 = .ok (.getfield 129, 3) := by decide +kernel
theorem dX10_next_80 : decode cX10_next 80 = .ok (.iload_n 1, 1) := by decide +kernel
theorem dX10_next_81 : decode cX10_next 81 = .ok (.iaload, 1) := by decide +kernel
theorem dX10_next_82 : decode cX10_next 82 = .ok (.imul, 1) := by decide +kernel
theorem dX10_next_83 : decode cX10_next 83 = .ok (.iadd, 1) := by decide +kernel
theorem dX10_next_84 : decode cX10_next 84 = .ok (.ldc 237, 2) := by decide +kernel
theorem dX10_next_86 : decode cX10_next 86 = .ok (.iload 4, 2) := by decide +kernel
theorem dX10_next_88 : decode cX10_next 88 = .ok (.bipush 16, 2) := by decide +kernel
theorem dX10_next_90 : decode cX10_next 90 = .ok (.idiv, 1) := by decide +kernel
theorem dX10_next_91 : decode cX10_next 91 = .ok (.imul, 1) := by decide +kernel
theorem dX10_next_92 : decode cX10_next 92 = .ok (.iadd, 1) := by decide +kernel
theorem dX10_next_93 : decode cX10_next 93 = .ok (.istore 5, 2) := by decide +kernel
theorem dX10_next_95 : decode cX10_next 95 = .ok (.aload_n 0, 1) := by decide +kernel
theorem dX10_next_96 : decode cX10_next 96 = .ok (.getfield 132, 3) := by decide +kernel
theorem dX10_next_99 : decode cX10_next 99 = .ok (.iload_n 1, 1) := by decide +kernel
theorem dX10_next_100 : decode cX10_next 100 = .ok (.dup2, 1) := by decide +kernel
theorem dX10_next_101 : decode cX10_next 101 = .ok (.iaload, 1) := by decide +kernel
theorem dX10_next_102 : decode cX10_next 102 = .ok (.iconst 1, 1) := by decide +kernel
theorem dX10_next_103 : decode cX10_next 103 = .ok (.iadd, 1) := by decide +kernel
theorem dX10_next_104 : decode cX10_next 104 = .ok (.iastore, 1) := by decide +kernel
theorem dX10_next_105 : decode cX10_next 105 = .ok (.aload_n 0, 1) := by decide +kernel
theorem dX10_next_106 : decode cX10_next 106 = .ok (.getfield 132, 3) := by decide +kernel
theorem dX10_next_109 : decode cX10_next 109 = .ok (.iload_n 1, 1) := by decide +kernel
theorem dX10_next_110 : decode cX10_next 110 = .ok (.iaload, 1) := by decide +kernel
theorem dX10_next_111 : decode cX10_next 111 = .ok (.bipush 10, 2) := by decide +kernel
theorem dX10_next_113 : decode cX10_next 113 = .ok (.if_icmp .ne 20, 3) := by decide +kernel
theorem dX10_next_116 : decode cX10_next 116 = .ok (.aload_n 0, 1) := by decide +kernel
theorem dX10_next_117 : decode cX10_next 117 = .ok (.getfield 132, 3) := by decide +kernel
theorem dX10_next_120 : decode cX10_next 120 = .ok (.iload_n 1, 1) := by decide +kernel
theorem dX10_next_121 : decode cX10_next 121 = .ok (.iconst 0, 1) := by decide +kernel
theorem dX10_next_122 : decode cX10_next 122 = .ok (.iastore, 1) := by decide +kernel
theorem dX10_next_123 : decode cX10_next 123 = .ok (.aload_n 0, 1) := by decide +kernel
theorem dX10_next_124 : decode cX10_next 124 = .ok (.getfield 129, 3) := by decide +kernel
theorem dX10_next_127 : decode cX10_next 127 = .ok (.iload_n 1, 1) := by decide +kernel
theorem dX10_next_128 : decode cX10_next 128 = .ok (.dup2, 1) := by decide +kernel
theorem dX10_next_129 : decode cX10_next 129 = .ok (.iaload, 1) := by decide +kernel
theorem dX10_next_130 : decode cX10_next 130 = .ok (.iconst 1, 1) := by decide +kernel
theorem dX10_next_131 : decode cX10_next 131 = .ok (.iadd, 1) := by decide +kernel
theorem dX10_next_132 : decode cX10_next 132 = .ok (.iastore, 1) := by decide +kernel
theorem dX10_next_133 : decode cX10_next 133 = .ok (.aload_n 0, 1) := by decide +kernel
theorem dX10_next_134 : decode cX10_next 134 = .ok (.getfield 129, 3) := by decide +kernel
theorem dX10_next_137 : decode cX10_next 137 = .ok (.iload_n 1, 1) := by decide +kernel
theorem dX10_next_138 : decode cX10_next 138 = .ok (.iaload, 1) := by decide +kernel
theorem dX10_next_139 : decode cX10_next 139 = .ok (.aload_n 0, 1) := by decide +kernel
theorem dX10_next_140 : decode cX10_next 140 = .ok (.getfield 110, 3) := by decide +kernel
theorem dX10_next_143 : decode cX10_next 143 = .ok (.iload_n 3, 1) := by decide +kernel
theorem dX10_next_144 : decode cX10_next 144 = .ok (.iaload, 1) := by decide +kernel
theorem dX10_next_145 : decode cX10_next 145 = .ok (.if_icmp .le 20, 3) := by decide +kernel
theorem dX10_next_148 : decode cX10_next 148 = .ok (.aload_n 0, 1) := by decide +kernel
theorem dX10_next_149 : decode cX10_next 149 = .ok (.getfield 129, 3) := by decide +kernel
theorem dX10_next_152 : decode cX10_next 152 = .ok (.iload_n 1, 1) := by decide +kernel
theorem dX10_next_153 : decode cX10_next 153 = .ok (.iconst 1, 1) := by decide +kernel
theorem dX10_next_154 : decode cX10_next 154 = .ok (.iastore, 1) := by decide +kernel
theorem dX10_next_155 : decode cX10_next 155 = .ok (.aload_n 0, 1) := by decide +kernel
theorem dX10_next_156 : decode cX10_next 156 = .ok (.getfield 126, 3) := by decide +kernel
theorem dX10_next_159 : decode cX10_next 159 = .ok (.iload_n 1, 1) := by decide +kernel
theorem dX10_next_160 : decode cX10_next 160 = .ok (.dup2, 1) := by decide +kernel
theorem dX10_next_161 : decode cX10_next 161 = .ok (.iaload, 1) := by decide +kernel
theorem dX10_next_162 : decode cX10_next 162 = .ok (.iconst 1, 1) := by decide +kernel
theorem dX10_next_163 : decode cX10_next 163 = .ok (.iadd, 1) := by decide +kernel
theorem dX10_next_164 : decode cX10_next 164 = .ok (.iastore, 1) := by decide +kernel
theorem dX10_next_165 : decode cX10_next 165 = .ok (.iload 5, 2) := by decide +kernel
theorem dX10_next_167 : decode cX10_next 167 = .ok (.iconst (-1), 1) := by decide +kernel
theorem dX10_next_168 : decode cX10_next 168 = .ok (.if_icmp .eq 6, 3) := by decide +kernel
theorem dX10_next_171 : decode cX10_next 171 = .ok (.iload 5, 2) := by decide +kernel
theorem dX10_next_173 : decode cX10_next 173 = .ok (.ireturn, 1) := by decide +kernel
theorem dX10_next_174 : decode cX10_next 174 = .ok (.goto (-174), 3) := by decide +kernel
theorem dX10_next_177 : decode cX10_next 177 = .ok (.iconst (-1), 1) := by decide +kernel
theorem dX10_next_178 : decode cX10_next 178 = .ok (.ireturn, 1) := by decide +kernel
set_option maxRecDepth 20000 in
theorem ggX10_replayed_X10_rewind : GoodIn wsX10_replayed wsX10_rewind := goodIn_r _ [10, 11, 12, 13, 42, 43, 44, 45, 46, 47, 48, 49, 50, 51, 52, 53, 54, 55, 56, 57, 58, 59, 60, 61, 62, 63, 64, 65, 66, 67, 68, 69, 70, 71, 72, 73, 74, 75, 76, 77, 78, 79, 80, 81, 82, 83, 84, 85, 86, 87, 88, 89, 90, 91, 92, 93, 94, 95, 96] (by decide +kernel) (by decide +kernel)
set_option maxRecDepth 20000 in
theorem gX10_replayed_X10_rewind : GoodIn wsX10_replayed (wsV RX10 238 RX10 yX10_rewind wsX10_rewind) := goodIn_app (goodIn_of _ (by decide +kernel)) ggX10_replayed_X10_rewind
set_option maxRecDepth 20000 in
theorem ggX10_replayed_X10_next : GoodIn wsX10_replayed wsX10_next := goodIn_r _ [17, 11, 18, 12, 13, 4, 19, 20, 21, 22, 9, 23, 24, 25, 42, 43, 44, 45, 46, 47, 48, 49, 50, 51, 52, 53, 54, 55, 56, 57, 58, 59, 60, 61, 62, 63, 64, 65, 66, 67, 68, 69, 70, 71, 72, 73, 74, 75, 76, 77, 78, 79, 80, 81, 82, 83, 84, 85, 86, 87, 88, 89, 90, 91, 92, 93, 94, 95, 96] (by decide +kernel) (by decide +kernel)
set_option maxRecDepth 20000 in
theorem gX10_replayed_X10_next : GoodIn wsX10_replayed (wsV RX10 241 RX10 yX10_next wsX10_next) := goodIn_app (goodIn_of _ (by decide +kernel)) ggX10_replayed_X10_next
set_option maxRecDepth 20000 in
theorem ggX10_replayed_X10_close : GoodIn wsX10_replayed wsX10_close := goodIn_r _ [29, 3, 1, 30, 31, 2, 32, 33, 34, 35, 36, 37, 38, 39, 40, 9, 41, 42, 43, 44, 45, 46, 47, 48, 49, 50, 51, 52, 53, 54, 55, 56, 57, 58, 59, 60, 61, 62, 63, 64, 65, 66, 67, 68, 69, 70, 71, 72, 73, 74, 75, 76, 77, 78, 79, 80, 81, 82, 83, 84, 85, 86, 87, 88, 89, 90, 91, 92, 93, 94, 95, 96] (by decide +kernel) (by decide +kernel)
set_option maxRecDepth 20000 in
theorem gX10_replayed_X10_close : GoodIn wsX10_replayed (wsV RX10 200 RX10 yX10_close wsX10_close) := goodIn_app (goodIn_of _ (by decide +kernel)) ggX10_replayed_X10_close
theorem dX10_replayed_0 : decode cX10_replayed 0 = .ok (.aload_n 0, 1) := by decide +kernel
theorem dX10_replayed_1 : decode cX10_replayed 1 = .ok (.iload_n 1, 1) := by decide +kernel
theorem dX10_replayed_2 : decode cX10_replayed 2 = .ok (.putfield 191, 3) := by decide +kernel
theorem dX10_replayed_5 : decode cX10_replayed 5 = .ok (.aload_n 0, 1) := by decide +kernel
theorem dX10_replayed_6 : decode cX10_replayed 6 = .ok (.iconst 0, 1) := by decide +kernel
theorem dX10_replayed_7 : decode cX10_replayed 7 = .ok (.putfield 194, 3) := by decide +kernel
theorem dX10_replayed_10 : decode cX10_replayed 10 = .ok (.aload_n 0, 1) := by decide +kernel
theorem dX10_replayed_11 : decode cX10_replayed 11 = .ok (.iconst 0, 1) := by decide +kernel
theorem dX10_replayed_12 : decode cX10_replayed 12 = .ok (.putfield 188, 3) := by decide +kernel
theorem dX10_replayed_15 : decode cX10_replayed 15 = .ok (.aload_n 0, 1) := by decide +kernel
theorem dX10_replayed_16 : decode cX10_replayed 16 = .ok (.iconst 0, 1) := by decide +kernel
theorem dX10_replayed_17 : decode cX10_replayed 17 = .ok (.invokevirtual 238, 3) := by decide +kernel
theorem dX10_replayed_20 : decode cX10_replayed 20 = .ok (.aload_n 0, 1) := by decide +kernel
theorem dX10_replayed_21 : decode cX10_replayed 21 = .ok (.iconst 0, 1) := by decide +kernel
theorem dX10_replayed_22 : decode cX10_replayed 22 = .ok (.iload_n 1, 1) := by decide +kernel
theorem dX10_replayed_23 : decode cX10_replayed 23 = .ok (.invokevirtual 241, 3) := by decide +kernel
theorem dX10_replayed_26 : decode cX10_replayed 26 = .ok (.istore_n 3, 1) := by decide +kernel
theorem dX10_replayed_27 : decode cX10_replayed 27 = .ok (.iload_n 3, 1) := by decide +kernel
theorem dX10_replayed_28 : decode cX10_replayed 28 = .ok (.iconst (-1), 1) := by decide +kernel
theorem dX10_replayed_29 : decode cX10_replayed 29 = .ok (.if_icmp .eq 48, 3) := by decide +kernel
theorem dX10_replayed_32 : decode cX10_replayed 32 = .ok (.iload_n 3, 1) := by decide +kernel
theorem dX10_replayed_33 : decode cX10_replayed 33 = .ok (.ldc 237, 2) := by decide +kernel
theorem dX10_replayed_35 : decode cX10_replayed 35 = .ok (.idiv, 1) := by decide +kernel
theorem dX10_replayed_36 : decode cX10_replayed 36 = .ok (.istore 4, 2) := by decide +kernel
theorem dX10_replayed_38 : decode cX10_replayed 38 = .ok (.iload_n 2, 1) := by decide +kernel
theorem dX10_replayed_39 : decode cX10_replayed 39 = .ok (.ifCond .eq 20, 3) := by decide +kernel
theorem dX10_replayed_42 : decode cX10_replayed 42 = .ok (.iload 4, 2) := by decide +kernel
theorem dX10_replayed_44 : decode cX10_replayed 44 = .ok (.ifCond .eq 15, 3) := by decide +kernel
theorem dX10_replayed_47 : decode cX10_replayed 47 = .ok (.aload_n 0, 1) := by decide +kernel
theorem dX10_replayed_48 : decode cX10_replayed 48 = .ok (.getfield 70, 3) := by decide +kernel
theorem dX10_replayed_51 : decode cX10_replayed 51 = .ok (.iload 4, 2) := by decide +kernel
theorem dX10_replayed_53 : decode cX10_replayed 53 = .ok (.iconst 1, 1) := by decide +kernel
theorem dX10_replayed_54 : decode cX10_replayed 54 = .ok (.isub, 1) := by decide +kernel
theorem dX10_replayed_55 : decode cX10_replayed 55 = .ok (.baload, 1) := by decide +kernel
theorem dX10_replayed_56 : decode cX10_replayed 56 = .ok (.ifCond .ne 11, 3) := by decide +kernel
theorem dX10_replayed_59 : decode cX10_replayed 59 = .ok (.aload_n 0, 1) := by decide +kernel
theorem dX10_replayed_60 : decode cX10_replayed 60 = .ok (.iload_n 3, 1) := by decide +kernel
theorem dX10_replayed_61 : decode cX10_replayed 61 = .ok (.bipush 16, 2) := by decide +kernel
theorem dX10_replayed_63 : decode cX10_replayed 63 = .ok (.irem, 1) := by decide +kernel
theorem dX10_replayed_64 : decode cX10_replayed 64 = .ok (.invokevirtual 200, 3) := by decide +kernel
theorem dX10_replayed_67 : decode cX10_replayed 67 = .ok (.aload_n 0, 1) := by decide +kernel
theorem dX10_replayed_68 : decode cX10_replayed 68 = .ok (.iconst 0, 1) := by decide +kernel
theorem dX10_replayed_69 : decode cX10_replayed 69 = .ok (.iload_n 1, 1) := by decide +kernel
theorem dX10_replayed_70 : decode cX10_replayed 70 = .ok (.invokevirtual 241, 3) := by decide +kernel
theorem dX10_replayed_73 : decode cX10_replayed 73 = .ok (.istore_n 3, 1) := by decide +kernel
theorem dX10_replayed_74 : decode cX10_replayed 74 = .ok (.goto (-47), 3) := by decide +kernel
theorem dX10_replayed_77 : decode cX10_replayed 77 = .ok (.aload_n 0, 1) := by decide +kernel
theorem dX10_replayed_78 : decode cX10_replayed 78 = .ok (.getfield 194, 3) := by decide +kernel
theorem dX10_replayed_81 : decode cX10_replayed 81 = .ok (.ireturn, 1) := by decide +kernel
set_option maxRecDepth 20000 in
theorem ggX10_scoreByLog_X10_noGame : GoodIn wsX10_scoreByLog wsX10_noGame := goodIn_r _ [5, 6, 7, 8, 4, 9, 10, 11, 12, 13, 14, 15, 16, 17, 18, 63, 64, 65, 66, 67, 68, 69, 70, 71, 72, 73, 74, 75, 76, 77, 78, 79, 80, 81, 82, 83, 84, 85, 86, 87, 88, 89, 90, 91, 92, 93, 94, 95, 96, 97, 98, 99, 100, 101, 102, 103, 104, 105, 106, 107, 108, 109, 110, 111, 112, 113, 114, 115, 116, 117] (by decide +kernel) (by decide +kernel)
set_option maxRecDepth 20000 in
theorem gX10_scoreByLog_X10_noGame : GoodIn wsX10_scoreByLog (wsV RX10 231 RX10 yX10_noGame wsX10_noGame) := goodIn_app (goodIn_of _ (by decide +kernel)) ggX10_scoreByLog_X10_noGame
set_option maxRecDepth 20000 in
theorem ggX10_scoreByLog_X10_replayed : GoodIn wsX10_scoreByLog wsX10_replayed := goodIn_r _ [22, 23, 24, 25, 26, 27, 28, 29, 30, 4, 31, 32, 33, 34, 35, 36, 37, 38, 39, 40, 41, 42, 43, 44, 45, 46, 47, 48, 49, 50, 51, 52, 53, 54, 55, 56, 57, 58, 59, 60, 61, 62, 63, 64, 65, 66, 67, 68, 69, 70, 71, 72, 73, 74, 75, 76, 77, 78, 79, 80, 81, 82, 83, 84, 85, 86, 87, 88, 89, 90, 91, 92, 93, 94, 95, 96, 97, 98, 99, 100, 101, 102, 103, 104, 105, 106, 107, 108, 109, 110, 111, 112, 113, 114, 115, 116, 117] (by decide +kernel) (by decide +kernel)
set_option maxRecDepth 20000 in
theorem gX10_scoreByLog_X10_replayed : GoodIn wsX10_scoreByLog (wsV RX10 244 RX10 yX10_replayed wsX10_replayed) := goodIn_app (goodIn_of _ (by decide +kernel)) ggX10_scoreByLog_X10_replayed
theorem dX10_scoreByLog_0 : decode cX10_scoreByLog 0 = .ok (.aload_n 0, 1) := by decide +kernel
theorem dX10_scoreByLog_1 : decode cX10_scoreByLog 1 = .ok (.iload_n 1, 1) := by decide +kernel
theorem dX10_scoreByLog_2 : decode cX10_scoreByLog 2 = .ok (.invokevirtual 231, 3) := by decide +kernel
theorem dX10_scoreByLog_5 : decode cX10_scoreByLog 5 = .ok (.ifCond .eq 7, 3) := by decide +kernel
theorem dX10_scoreByLog_8 : decode cX10_scoreByLog 8 = .ok (.iconst 0, 1) := by decide +kernel
theorem dX10_scoreByLog_9 : decode cX10_scoreByLog 9 = .ok (.goto 9, 3) := by decide +kernel
theorem dX10_scoreByLog_12 : decode cX10_scoreByLog 12 = .ok (.aload_n 0, 1) := by decide +kernel
theorem dX10_scoreByLog_13 : decode cX10_scoreByLog 13 = .ok (.iload_n 1, 1) := by decide +kernel
theorem dX10_scoreByLog_14 : decode cX10_scoreByLog 14 = .ok (.iconst 0, 1) := by decide +kernel
theorem dX10_scoreByLog_15 : decode cX10_scoreByLog 15 = .ok (.invokevirtual 244, 3) := by decide +kernel
theorem dX10_scoreByLog_18 : decode cX10_scoreByLog 18 = .ok (.ireturn, 1) := by decide +kernel
set_option maxRecDepth 20000 in
theorem ggX10_valid_X10_noGame : GoodIn wsX10_valid wsX10_noGame := goodIn_r _ [5, 6, 7, 8, 4, 9, 10, 11, 12, 13, 14, 15, 16, 17, 18, 63, 64, 65, 66, 67, 68, 69, 70, 71, 72, 73, 74, 75, 76, 77, 78, 79, 80, 81, 82, 83, 84, 85, 86, 87, 88, 89, 90, 91, 92, 93, 94, 95, 96, 97, 98, 99, 100, 101, 102, 103, 104, 105, 106, 107, 108, 109, 110, 111, 112, 113, 114, 115, 116, 117] (by decide +kernel) (by decide +kernel)
set_option maxRecDepth 20000 in
theorem gX10_valid_X10_noGame : GoodIn wsX10_valid (wsV RX10 231 RX10 yX10_noGame wsX10_noGame) := goodIn_app (goodIn_of _ (by decide +kernel)) ggX10_valid_X10_noGame
set_option maxRecDepth 20000 in
theorem ggX10_valid_X10_replayed : GoodIn wsX10_valid wsX10_replayed := goodIn_r _ [22, 23, 24, 25, 26, 27, 28, 29, 30, 4, 31, 32, 33, 34, 35, 36, 37, 38, 39, 40, 41, 42, 43, 44, 45, 46, 47, 48, 49, 50, 51, 52, 53, 54, 55, 56, 57, 58, 59, 60, 61, 62, 63, 64, 65, 66, 67, 68, 69, 70, 71, 72, 73, 74, 75, 76, 77, 78, 79, 80, 81, 82, 83, 84, 85, 86, 87, 88, 89, 90, 91, 92, 93, 94, 95, 96, 97, 98, 99, 100, 101, 102, 103, 104, 105, 106, 107, 108, 109, 110, 111, 112, 113, 114, 115, 116, 117] (by decide +kernel) (by decide +kernel)
set_option maxRecDepth 20000 in
theorem gX10_valid_X10_replayed : GoodIn wsX10_valid (wsV RX10 244 RX10 yX10_replayed wsX10_replayed) := goodIn_app (goodIn_of _ (by decide +kernel)) ggX10_valid_X10_replayed
theorem dX10_valid_0 : decode cX10_valid 0 = .ok (.aload_n 0, 1) := by decide +kernel
theorem dX10_valid_1 : decode cX10_valid 1 = .ok (.iload_n 1, 1) := by decide +kernel
theorem dX10_valid_2 : decode cX10_valid 2 = .ok (.invokevirtual 231, 3) := by decide +kernel
theorem dX10_valid_5 : decode cX10_valid 5 = .ok (.ifCond .eq 7, 3) := by decide +kernel
theorem dX10_valid_8 : decode cX10_valid 8 = .ok (.iconst 0, 1) := by decide +kernel
theorem dX10_valid_9 : decode cX10_valid 9 = .ok (.goto 9, 3) := by decide +kernel
theorem dX10_valid_12 : decode cX10_valid 12 = .ok (.aload_n 0, 1) := by decide +kernel
theorem dX10_valid_13 : decode cX10_valid 13 = .ok (.iload_n 1, 1) := by decide +kernel
theorem dX10_valid_14 : decode cX10_valid 14 = .ok (.iconst 1, 1) := by decide +kernel
theorem dX10_valid_15 : decode cX10_valid 15 = .ok (.invokevirtual 244, 3) := by decide +kernel
theorem dX10_valid_18 : decode cX10_valid 18 = .ok (.ireturn, 1) := by decide +kernel
set_option maxRecDepth 20000 in
theorem ggX10_entries_X10_rewind : GoodIn wsX10_entries wsX10_rewind := goodIn_r _ [5, 6, 7, 8, 22, 23, 24, 25, 26, 27, 28, 29, 30, 31, 32, 33, 34, 35, 36, 37, 38, 39, 40, 41, 42, 43, 44, 45, 46, 47, 48, 49, 50, 51, 52, 53, 54, 55, 56, 57, 58, 59, 60, 61, 62, 63, 64, 65, 66, 67, 68, 69, 70, 71, 72, 73, 74, 75, 76] (by decide +kernel) (by decide +kernel)
set_option maxRecDepth 20000 in
theorem gX10_entries_X10_rewind : GoodIn wsX10_entries (wsV RX10 238 RX10 yX10_rewind wsX10_rewind) := goodIn_app (goodIn_of _ (by decide +kernel)) ggX10_entries_X10_rewind
set_option maxRecDepth 20000 in
theorem ggX10_entries_X10_next : GoodIn wsX10_entries wsX10_next := goodIn_r _ [12, 6, 13, 7, 8, 14, 15, 16, 17, 18, 4, 19, 20, 21, 22, 23, 24, 25, 26, 27, 28, 29, 30, 31, 32, 33, 34, 35, 36, 37, 38, 39, 40, 41, 42, 43, 44, 45, 46, 47, 48, 49, 50, 51, 52, 53, 54, 55, 56, 57, 58, 59, 60, 61, 62, 63, 64, 65, 66, 67, 68, 69, 70, 71, 72, 73, 74, 75, 76] (by decide +kernel) (by decide +kernel)
set_option maxRecDepth 20000 in
theorem gX10_entries_X10_next : GoodIn wsX10_entries (wsV RX10 241 RX10 yX10_next wsX10_next) := goodIn_app (goodIn_of _ (by decide +kernel)) ggX10_entries_X10_next
theorem dX10_entries_0 : decode cX10_entries 0 = .ok (.iconst 0, 1) := by decide +kernel
theorem dX10_entries_1 : decode cX10_entries 1 = .ok (.istore_n 2, 1) := by decide +kernel
theorem dX10_entries_2 : decode cX10_entries 2 = .ok (.aload_n 0, 1) := by decide +kernel
theorem dX10_entries_3 : decode cX10_entries 3 = .ok (.iconst 0, 1) := by decide +kernel
theorem dX10_entries_4 : decode cX10_entries 4 = .ok (.invokevirtual 238, 3) := by decide +kernel
theorem dX10_entries_7 : decode cX10_entries 7 = .ok (.aload_n 0, 1) := by decide +kernel
theorem dX10_entries_8 : decode cX10_entries 8 = .ok (.iconst 0, 1) := by decide +kernel
theorem dX10_entries_9 : decode cX10_entries 9 = .ok (.iload_n 1, 1) := by decide +kernel
theorem dX10_entries_10 : decode cX10_entries 10 = .ok (.invokevirtual 241, 3) := by decide +kernel
theorem dX10_entries_13 : decode cX10_entries 13 = .ok (.iconst (-1), 1) := by decide +kernel
theorem dX10_entries_14 : decode cX10_entries 14 = .ok (.if_icmp .eq 9, 3) := by decide +kernel
theorem dX10_entries_17 : decode cX10_entries 17 = .ok (.iinc 2 1, 3) := by decide +kernel
theorem dX10_entries_20 : decode cX10_entries 20 = .ok (.goto (-13), 3) := by decide +kernel
theorem dX10_entries_23 : decode cX10_entries 23 = .ok (.iload_n 2, 1) := by decide +kernel
theorem dX10_entries_24 : decode cX10_entries 24 = .ok (.ireturn, 1) := by decide +kernel
set_option maxRecDepth 20000 in
theorem ggX10_logged_X10_noGame : GoodIn wsX10_logged wsX10_noGame := goodIn_r _ [5, 6, 7, 8, 4, 9, 10, 11, 12, 13, 14, 15, 16, 17, 18, 43, 44, 45, 46, 47, 48, 49, 50, 51, 52, 53, 54, 55, 56, 57, 58, 59, 60, 61, 62, 63, 64, 65, 66, 67, 68, 69, 70, 71, 72, 73, 74, 75, 76, 77, 78, 79, 80, 81, 82, 83, 84, 85, 86, 87, 88, 89, 90, 91, 92, 93, 94, 95, 96, 97] (by decide +kernel) (by decide +kernel)
set_option maxRecDepth 20000 in
theorem gX10_logged_X10_noGame : GoodIn wsX10_logged (wsV RX10 231 RX10 yX10_noGame wsX10_noGame) := goodIn_app (goodIn_of _ (by decide +kernel)) ggX10_logged_X10_noGame
set_option maxRecDepth 20000 in
theorem ggX10_logged_X10_entries : GoodIn wsX10_logged wsX10_entries := goodIn_r _ [22, 23, 24, 25, 4, 26, 27, 28, 29, 30, 31, 32, 33, 34, 35, 36, 37, 38, 39, 40, 41, 42, 43, 44, 45, 46, 47, 48, 49, 50, 51, 52, 53, 54, 55, 56, 57, 58, 59, 60, 61, 62, 63, 64, 65, 66, 67, 68, 69, 70, 71, 72, 73, 74, 75, 76, 77, 78, 79, 80, 81, 82, 83, 84, 85, 86, 87, 88, 89, 90, 91, 92, 93, 94, 95, 96, 97] (by decide +kernel) (by decide +kernel)
set_option maxRecDepth 20000 in
theorem gX10_logged_X10_entries : GoodIn wsX10_logged (wsV RX10 248 RX10 yX10_entries wsX10_entries) := goodIn_app (goodIn_of _ (by decide +kernel)) ggX10_logged_X10_entries
theorem dX10_logged_0 : decode cX10_logged 0 = .ok (.aload_n 0, 1) := by decide +kernel
theorem dX10_logged_1 : decode cX10_logged 1 = .ok (.iload_n 1, 1) := by decide +kernel
theorem dX10_logged_2 : decode cX10_logged 2 = .ok (.invokevirtual 231, 3) := by decide +kernel
theorem dX10_logged_5 : decode cX10_logged 5 = .ok (.ifCond .eq 7, 3) := by decide +kernel
theorem dX10_logged_8 : decode cX10_logged 8 = .ok (.iconst 0, 1) := by decide +kernel
theorem dX10_logged_9 : decode cX10_logged 9 = .ok (.goto 8, 3) := by decide +kernel
theorem dX10_logged_12 : decode cX10_logged 12 = .ok (.aload_n 0, 1) := by decide +kernel
theorem dX10_logged_13 : decode cX10_logged 13 = .ok (.iload_n 1, 1) := by decide +kernel
theorem dX10_logged_14 : decode cX10_logged 14 = .ok (.invokevirtual 248, 3) := by decide +kernel
theorem dX10_logged_17 : decode cX10_logged 17 = .ok (.ireturn, 1) := by decide +kernel
set_option maxRecDepth 20000 in
theorem ggX10_entryAt_X10_isGame : GoodIn wsX10_entryAt wsX10_isGame := goodIn_r _ [5, 6, 7, 8, 4, 9, 39, 40, 41, 42, 43, 44, 45, 46, 47, 48, 49, 50, 51, 52, 53, 54, 55, 56, 57, 58, 59, 60, 61, 62, 63, 64, 65, 66, 67, 68, 69, 70, 71, 72, 73, 74, 75, 76, 77, 78, 79, 80, 81, 82, 83, 84, 85, 86, 87, 88, 89, 90, 91, 92, 93] (by decide +kernel) (by decide +kernel)
set_option maxRecDepth 20000 in
theorem gX10_entryAt_X10_isGame : GoodIn wsX10_entryAt (wsV RX10 225 RX10 yX10_isGame wsX10_isGame) := goodIn_app (goodIn_of _ (by decide +kernel)) ggX10_entryAt_X10_isGame
set_option maxRecDepth 20000 in
theorem ggX10_entryAt_X10_entries : GoodIn wsX10_entryAt wsX10_entries := goodIn_r _ [13, 14, 15, 16, 4, 17, 18, 19, 20, 21, 22, 23, 24, 25, 26, 27, 28, 29, 30, 31, 32, 33, 39, 40, 41, 42, 43, 44, 45, 46, 47, 48, 49, 50, 51, 52, 53, 54, 55, 56, 57, 58, 59, 60, 61, 62, 63, 64, 65, 66, 67, 68, 69, 70, 71, 72, 73, 74, 75, 76, 77, 78, 79, 80, 81, 82, 83, 84, 85, 86, 87, 88, 89, 90, 91, 92, 93] (by decide +kernel) (by decide +kernel)
set_option maxRecDepth 20000 in
theorem gX10_entryAt_X10_entries : GoodIn wsX10_entryAt (wsV RX10 248 RX10 yX10_entries wsX10_entries) := goodIn_app (goodIn_of _ (by decide +kernel)) ggX10_entryAt_X10_entries
set_option maxRecDepth 20000 in
theorem ggX10_entryAt_X10_refused : GoodIn wsX10_entryAt wsX10_refused := goodIn_r _ [37, 38, 39, 40, 41, 42, 43, 44, 45, 46, 47, 48, 49, 50, 51, 52, 53, 54, 55, 56, 57, 58, 59, 60, 61, 62, 63, 64, 65, 66, 67, 68, 69, 70, 71, 72, 73, 74, 75, 76, 77, 78, 79, 80, 81, 82, 83, 84, 85, 86, 87, 88, 89, 90, 91, 92, 93] (by decide +kernel) (by decide +kernel)
set_option maxRecDepth 20000 in
theorem gX10_entryAt_X10_refused : GoodIn wsX10_entryAt (wsV RX10 168 RX10 yX10_refused wsX10_refused) := goodIn_app (goodIn_of _ (by decide +kernel)) ggX10_entryAt_X10_refused
set_option maxRecDepth 20000 in
theorem ggX10_entryAt_X10_rewind : GoodIn wsX10_entryAt wsX10_rewind := goodIn_r _ [17, 18, 19, 20, 39, 40, 41, 42, 43, 44, 45, 46, 47, 48, 49, 50, 51, 52, 53, 54, 55, 56, 57, 58, 59, 60, 61, 62, 63, 64, 65, 66, 67, 68, 69, 70, 71, 72, 73, 74, 75, 76, 77, 78, 79, 80, 81, 82, 83, 84, 85, 86, 87, 88, 89, 90, 91, 92, 93] (by decide +kernel) (by decide +kernel)
set_option maxRecDepth 20000 in
theorem gX10_entryAt_X10_rewind : GoodIn wsX10_entryAt (wsV RX10 238 RX10 yX10_rewind wsX10_rewind) := goodIn_app (goodIn_of _ (by decide +kernel)) ggX10_entryAt_X10_rewind
set_option maxRecDepth 20000 in
theorem ggX10_entryAt_X10_next : GoodIn wsX10_entryAt wsX10_next := goodIn_r _ [24, 18, 25, 19, 20, 26, 27, 28, 29, 30, 4, 31, 32, 33, 39, 40, 41, 42, 43, 44, 45, 46, 47, 48, 49, 50, 51, 52, 53, 54, 55, 56, 57, 58, 59, 60, 61, 62, 63, 64, 65, 66, 67, 68, 69, 70, 71, 72, 73, 74, 75, 76, 77, 78, 79, 80, 81, 82, 83, 84, 85, 86, 87, 88, 89, 90, 91, 92, 93] (by decide +kernel) (by decide +kernel)
set_option maxRecDepth 20000 in
theorem gX10_entryAt_X10_next : GoodIn wsX10_entryAt (wsV RX10 241 RX10 yX10_next wsX10_next) := goodIn_app (goodIn_of _ (by decide +kernel)) ggX10_entryAt_X10_next
theorem dX10_entryAt_0 : decode cX10_entryAt 0 = .ok (.aload_n 0, 1) := by decide +kernel
theorem dX10_entryAt_1 : decode cX10_entryAt 1 = .ok (.iload_n 1, 1) := by decide +kernel
theorem dX10_entryAt_2 : decode cX10_entryAt 2 = .ok (.invokevirtual 225, 3) := by decide +kernel
theorem dX10_entryAt_5 : decode cX10_entryAt 5 = .ok (.ifCond .eq 20, 3) := by decide +kernel
theorem dX10_entryAt_8 : decode cX10_entryAt 8 = .ok (.iload_n 2, 1) := by decide +kernel
theorem dX10_entryAt_9 : decode cX10_entryAt 9 = .ok (.ifCond .lt 16, 3) := by decide +kernel
theorem dX10_entryAt_12 : decode cX10_entryAt 12 = .ok (.iload_n 2, 1) := by decide +kernel
theorem dX10_entryAt_13 : decode cX10_entryAt 13 = .ok (.aload_n 0, 1) := by decide +kernel
theorem dX10_entryAt_14 : decode cX10_entryAt 14 = .ok (.iload_n 1, 1) := by decide +kernel
theorem dX10_entryAt_15 : decode cX10_entryAt 15 = .ok (.invokevirtual 248, 3) := by decide +kernel
theorem dX10_entryAt_18 : decode cX10_entryAt 18 = .ok (.if_icmp .ge 7, 3) := by decide +kernel
theorem dX10_entryAt_21 : decode cX10_entryAt 21 = .ok (.iconst 1, 1) := by decide +kernel
theorem dX10_entryAt_22 : decode cX10_entryAt 22 = .ok (.goto 4, 3) := by decide +kernel
theorem dX10_entryAt_25 : decode cX10_entryAt 25 = .ok (.iconst 0, 1) := by decide +kernel
theorem dX10_entryAt_26 : decode cX10_entryAt 26 = .ok (.istore_n 3, 1) := by decide +kernel
theorem dX10_entryAt_27 : decode cX10_entryAt 27 = .ok (.aload_n 0, 1) := by decide +kernel
theorem dX10_entryAt_28 : decode cX10_entryAt 28 = .ok (.iload_n 3, 1) := by decide +kernel
theorem dX10_entryAt_29 : decode cX10_entryAt 29 = .ok (.ifCond .eq 7, 3) := by decide +kernel
theorem dX10_entryAt_32 : decode cX10_entryAt 32 = .ok (.iconst 0, 1) := by decide +kernel
theorem dX10_entryAt_33 : decode cX10_entryAt 33 = .ok (.goto 4, 3) := by decide +kernel
theorem dX10_entryAt_36 : decode cX10_entryAt 36 = .ok (.iconst 1, 1) := by decide +kernel
theorem dX10_entryAt_37 : decode cX10_entryAt 37 = .ok (.invokevirtual 168, 3) := by decide +kernel
theorem dX10_entryAt_40 : decode cX10_entryAt 40 = .ok (.ifCond .eq 5, 3) := by decide +kernel
theorem dX10_entryAt_43 : decode cX10_entryAt 43 = .ok (.lconst 0, 1) := by decide +kernel
theorem dX10_entryAt_44 : decode cX10_entryAt 44 = .ok (.lreturn, 1) := by decide +kernel
theorem dX10_entryAt_45 : decode cX10_entryAt 45 = .ok (.aload_n 0, 1) := by decide +kernel
theorem dX10_entryAt_46 : decode cX10_entryAt 46 = .ok (.iconst 0, 1) := by decide +kernel
theorem dX10_entryAt_47 : decode cX10_entryAt 47 = .ok (.invokevirtual 238, 3) := by decide +kernel
theorem dX10_entryAt_50 : decode cX10_entryAt 50 = .ok (.aload_n 0, 1) := by decide +kernel
theorem dX10_entryAt_51 : decode cX10_entryAt 51 = .ok (.iconst 0, 1) := by decide +kernel
theorem dX10_entryAt_52 : decode cX10_entryAt 52 = .ok (.iload_n 1, 1) := by decide +kernel
theorem dX10_entryAt_53 : decode cX10_entryAt 53 = .ok (.invokevirtual 241, 3) := by decide +kernel
theorem dX10_entryAt_56 : decode cX10_entryAt 56 = .ok (.istore 4, 2) := by decide +kernel
theorem dX10_entryAt_58 : decode cX10_entryAt 58 = .ok (.iconst 0, 1) := by decide +kernel
theorem dX10_entryAt_59 : decode cX10_entryAt 59 = .ok (.istore 5, 2) := by decide +kernel
theorem dX10_entryAt_61 : decode cX10_entryAt 61 = .ok (.iload 5, 2) := by decide +kernel
theorem dX10_entryAt_63 : decode cX10_entryAt 63 = .ok (.iload_n 2, 1) := by decide +kernel
theorem dX10_entryAt_64 : decode cX10_entryAt 64 = .ok (.if_icmp .ge 17, 3) := by decide +kernel
theorem dX10_entryAt_67 : decode cX10_entryAt 67 = .ok (.aload_n 0, 1) := by decide +kernel
theorem dX10_entryAt_68 : decode cX10_entryAt 68 = .ok (.iconst 0, 1) := by decide +kernel
theorem dX10_entryAt_69 : decode cX10_entryAt 69 = .ok (.iload_n 1, 1) := by decide +kernel
theorem dX10_entryAt_70 : decode cX10_entryAt 70 = .ok (.invokevirtual 241, 3) := by decide +kernel
theorem dX10_entryAt_73 : decode cX10_entryAt 73 = .ok (.istore 4, 2) := by decide +kernel
theorem dX10_entryAt_75 : decode cX10_entryAt 75 = .ok (.iinc 5 1, 3) := by decide +kernel
theorem dX10_entryAt_78 : decode cX10_entryAt 78 = .ok (.goto (-17), 3) := by decide +kernel
theorem dX10_entryAt_81 : decode cX10_entryAt 81 = .ok (.iload 4, 2) := by decide +kernel
theorem dX10_entryAt_83 : decode cX10_entryAt 83 = .ok (.i2l, 1) := by decide +kernel
theorem dX10_entryAt_84 : decode cX10_entryAt 84 = .ok (.lreturn, 1) := by decide +kernel
set_option maxRecDepth 20000 in
theorem ggX10_areAlike_X10_rewind : GoodIn wsX10_areAlike wsX10_rewind := goodIn_r _ [5, 6, 7, 8, 22, 23, 24, 25, 26, 27, 28, 29, 30, 31, 32, 33, 34, 35, 36, 37, 38, 39, 40, 41, 42, 43, 44, 45, 46, 47, 48, 49, 50, 51, 52, 53, 54, 55, 56, 57, 58, 59, 60, 61, 62, 63, 64, 65, 66, 67, 68, 69, 70, 71, 72, 73, 74, 75, 76] (by decide +kernel) (by decide +kernel)
set_option maxRecDepth 20000 in
theorem gX10_areAlike_X10_rewind : GoodIn wsX10_areAlike (wsV RX10 238 RX10 yX10_rewind wsX10_rewind) := goodIn_app (goodIn_of _ (by decide +kernel)) ggX10_areAlike_X10_rewind
set_option maxRecDepth 20000 in
theorem ggX10_areAlike_X10_next : GoodIn wsX10_areAlike wsX10_next := goodIn_r _ [12, 6, 13, 7, 8, 14, 15, 16, 17, 18, 4, 19, 20, 21, 22, 23, 24, 25, 26, 27, 28, 29, 30, 31, 32, 33, 34, 35, 36, 37, 38, 39, 40, 41, 42, 43, 44, 45, 46, 47, 48, 49, 50, 51, 52, 53, 54, 55, 56, 57, 58, 59, 60, 61, 62, 63, 64, 65, 66, 67, 68, 69, 70, 71, 72, 73, 74, 75, 76] (by decide +kernel) (by decide +kernel)
set_option maxRecDepth 20000 in
theorem gX10_areAlike_X10_next : GoodIn wsX10_areAlike (wsV RX10 241 RX10 yX10_next wsX10_next) := goodIn_app (goodIn_of _ (by decide +kernel)) ggX10_areAlike_X10_next
theorem dX10_areAlike_0 : decode cX10_areAlike 0 = .ok (.aload_n 0, 1) := by decide +kernel
theorem dX10_areAlike_1 : decode cX10_areAlike 1 = .ok (.iconst 0, 1) := by decide +kernel
theorem dX10_areAlike_2 : decode cX10_areAlike 2 = .ok (.invokevirtual 238, 3) := by decide +kernel
theorem dX10_areAlike_5 : decode cX10_areAlike 5 = .ok (.aload_n 0, 1) := by decide +kernel
theorem dX10_areAlike_6 : decode cX10_areAlike 6 = .ok (.iconst 1, 1) := by decide +kernel
theorem dX10_areAlike_7 : decode cX10_areAlike 7 = .ok (.invokevirtual 238, 3) := by decide +kernel
theorem dX10_areAlike_10 : decode cX10_areAlike 10 = .ok (.aload_n 0, 1) := by decide +kernel
theorem dX10_areAlike_11 : decode cX10_areAlike 11 = .ok (.iconst 0, 1) := by decide +kernel
theorem dX10_areAlike_12 : decode cX10_areAlike 12 = .ok (.iload_n 1, 1) := by decide +kernel
theorem dX10_areAlike_13 : decode cX10_areAlike 13 = .ok (.invokevirtual 241, 3) := by decide +kernel
theorem dX10_areAlike_16 : decode cX10_areAlike 16 = .ok (.istore_n 3, 1) := by decide +kernel
theorem dX10_areAlike_17 : decode cX10_areAlike 17 = .ok (.aload_n 0, 1) := by decide +kernel
theorem dX10_areAlike_18 : decode cX10_areAlike 18 = .ok (.iconst 1, 1) := by decide +kernel
theorem dX10_areAlike_19 : decode cX10_areAlike 19 = .ok (.iload_n 2, 1) := by decide +kernel
theorem dX10_areAlike_20 : decode cX10_areAlike 20 = .ok (.invokevirtual 241, 3) := by decide +kernel
theorem dX10_areAlike_23 : decode cX10_areAlike 23 = .ok (.istore 4, 2) := by decide +kernel
theorem dX10_areAlike_25 : decode cX10_areAlike 25 = .ok (.iload_n 3, 1) := by decide +kernel
theorem dX10_areAlike_26 : decode cX10_areAlike 26 = .ok (.iload 4, 2) := by decide +kernel
theorem dX10_areAlike_28 : decode cX10_areAlike 28 = .ok (.if_icmp .ne 26, 3) := by decide +kernel
theorem dX10_areAlike_31 : decode cX10_areAlike 31 = .ok (.iload_n 3, 1) := by decide +kernel
theorem dX10_areAlike_32 : decode cX10_areAlike 32 = .ok (.iconst (-1), 1) := by decide +kernel
theorem dX10_areAlike_33 : decode cX10_areAlike 33 = .ok (.if_icmp .eq 21, 3) := by decide +kernel
theorem dX10_areAlike_36 : decode cX10_areAlike 36 = .ok (.aload_n 0, 1) := by decide +kernel
theorem dX10_areAlike_37 : decode cX10_areAlike 37 = .ok (.iconst 0, 1) := by decide +kernel
theorem dX10_areAlike_38 : decode cX10_areAlike 38 = .ok (.iload_n 1, 1) := by decide +kernel
theorem dX10_areAlike_39 : decode cX10_areAlike 39 = .ok (.invokevirtual 241, 3) := by decide +kernel
theorem dX10_areAlike_42 : decode cX10_areAlike 42 = .ok (.istore_n 3, 1) := by decide +kernel
theorem dX10_areAlike_43 : decode cX10_areAlike 43 = .ok (.aload_n 0, 1) := by decide +kernel
theorem dX10_areAlike_44 : decode cX10_areAlike 44 = .ok (.iconst 1, 1) := by decide +kernel
theorem dX10_areAlike_45 : decode cX10_areAlike 45 = .ok (.iload_n 2, 1) := by decide +kernel
theorem dX10_areAlike_46 : decode cX10_areAlike 46 = .ok (.invokevirtual 241, 3) := by decide +kernel
theorem dX10_areAlike_49 : decode cX10_areAlike 49 = .ok (.istore 4, 2) := by decide +kernel
theorem dX10_areAlike_51 : decode cX10_areAlike 51 = .ok (.goto (-26), 3) := by decide +kernel
theorem dX10_areAlike_54 : decode cX10_areAlike 54 = .ok (.iload_n 3, 1) := by decide +kernel
theorem dX10_areAlike_55 : decode cX10_areAlike 55 = .ok (.iload 4, 2) := by decide +kernel
theorem dX10_areAlike_57 : decode cX10_areAlike 57 = .ok (.if_icmp .ne 7, 3) := by decide +kernel
theorem dX10_areAlike_60 : decode cX10_areAlike 60 = .ok (.iconst 1, 1) := by decide +kernel
theorem dX10_areAlike_61 : decode cX10_areAlike 61 = .ok (.goto 4, 3) := by decide +kernel
theorem dX10_areAlike_64 : decode cX10_areAlike 64 = .ok (.iconst 0, 1) := by decide +kernel
theorem dX10_areAlike_65 : decode cX10_areAlike 65 = .ok (.ireturn, 1) := by decide +kernel
set_option maxRecDepth 20000 in
theorem ggX10_twin_X10_noGame : GoodIn wsX10_twin wsX10_noGame := goodIn_r _ [7, 8, 9, 10, 6, 11, 1, 12, 13, 14, 15, 16, 17, 18, 19, 47, 48, 49, 50, 51, 52, 53, 54, 55, 56, 57, 58, 59, 60, 61, 62, 63, 64, 65, 66, 67, 68, 69, 70, 71, 72, 73, 74, 75, 76, 77, 78, 79, 80, 81, 82, 83, 84, 85, 86, 87, 88, 89, 90, 91, 92, 93, 94, 95, 96, 97, 98, 99, 100, 101] (by decide +kernel) (by decide +kernel)
set_option maxRecDepth 20000 in
theorem gX10_twin_X10_noGame : GoodIn wsX10_twin (wsV RX10 231 RX10 yX10_noGame wsX10_noGame) := goodIn_app (goodIn_of _ (by decide +kernel)) ggX10_twin_X10_noGame
set_option maxRecDepth 20000 in
theorem ggX10_twin_X10_entries : GoodIn wsX10_twin wsX10_entries := goodIn_r _ [23, 24, 25, 26, 6, 27, 28, 29, 30, 31, 32, 33, 34, 2, 35, 36, 37, 38, 39, 40, 41, 42, 47, 48, 49, 50, 51, 52, 53, 54, 55, 56, 57, 58, 59, 60, 61, 62, 63, 64, 65, 66, 67, 68, 69, 70, 71, 72, 73, 74, 75, 76, 77, 78, 79, 80, 81, 82, 83, 84, 85, 86, 87, 88, 89, 90, 91, 92, 93, 94, 95, 96, 97, 98, 99, 100, 101] (by decide +kernel) (by decide +kernel)
set_option maxRecDepth 20000 in
theorem gX10_twin_X10_entries : GoodIn wsX10_twin (wsV RX10 248 RX10 yX10_entries wsX10_entries) := goodIn_app (goodIn_of _ (by decide +kernel)) ggX10_twin_X10_entries
set_option maxRecDepth 20000 in
theorem ggX10_twin_X10_areAlike : GoodIn wsX10_twin wsX10_areAlike := goodIn_r _ [46, 24, 25, 26, 6, 27, 28, 29, 30, 31, 32, 33, 34, 2, 35, 36, 37, 38, 39, 40, 41, 42, 47, 48, 49, 50, 51, 52, 53, 54, 55, 56, 57, 58, 59, 60, 61, 62, 63, 64, 65, 66, 67, 68, 69, 70, 71, 72, 73, 74, 75, 76, 77, 78, 79, 80, 81, 82, 83, 84, 85, 86, 87, 88, 89, 90, 91, 92, 93, 94, 95, 96, 97, 98, 99, 100, 101] (by decide +kernel) (by decide +kernel)
set_option maxRecDepth 20000 in
theorem gX10_twin_X10_areAlike : GoodIn wsX10_twin (wsV RX10 251 RX10 yX10_areAlike wsX10_areAlike) := goodIn_app (goodIn_of _ (by decide +kernel)) ggX10_twin_X10_areAlike
theorem dX10_twin_0 : decode cX10_twin 0 = .ok (.aload_n 0, 1) := by decide +kernel
theorem dX10_twin_1 : decode cX10_twin 1 = .ok (.iload_n 1, 1) := by decide +kernel
theorem dX10_twin_2 : decode cX10_twin 2 = .ok (.invokevirtual 231, 3) := by decide +kernel
theorem dX10_twin_5 : decode cX10_twin 5 = .ok (.ifCond .eq 5, 3) := by decide +kernel
theorem dX10_twin_8 : decode cX10_twin 8 = .ok (.iconst 0, 1) := by decide +kernel
theorem dX10_twin_9 : decode cX10_twin 9 = .ok (.ireturn, 1) := by decide +kernel
theorem dX10_twin_10 : decode cX10_twin 10 = .ok (.iconst (-1), 1) := by decide +kernel
theorem dX10_twin_11 : decode cX10_twin 11 = .ok (.istore_n 2, 1) := by decide +kernel
theorem dX10_twin_12 : decode cX10_twin 12 = .ok (.aload_n 0, 1) := by decide +kernel
theorem dX10_twin_13 : decode cX10_twin 13 = .ok (.getfield 165, 3) := by decide +kernel
theorem dX10_twin_16 : decode cX10_twin 16 = .ok (.iconst 1, 1) := by decide +kernel
theorem dX10_twin_17 : decode cX10_twin 17 = .ok (.isub, 1) := by decide +kernel
theorem dX10_twin_18 : decode cX10_twin 18 = .ok (.istore_n 3, 1) := by decide +kernel
theorem dX10_twin_19 : decode cX10_twin 19 = .ok (.iload_n 3, 1) := by decide +kernel
theorem dX10_twin_20 : decode cX10_twin 20 = .ok (.ifCond .lt 55, 3) := by decide +kernel
theorem dX10_twin_23 : decode cX10_twin 23 = .ok (.aload_n 0, 1) := by decide +kernel
theorem dX10_twin_24 : decode cX10_twin 24 = .ok (.getfield 77, 3) := by decide +kernel
theorem dX10_twin_27 : decode cX10_twin 27 = .ok (.iload_n 1, 1) := by decide +kernel
theorem dX10_twin_28 : decode cX10_twin 28 = .ok (.iaload, 1) := by decide +kernel
theorem dX10_twin_29 : decode cX10_twin 29 = .ok (.ifCond .ne 46, 3) := by decide +kernel
theorem dX10_twin_32 : decode cX10_twin 32 = .ok (.aload_n 0, 1) := by decide +kernel
theorem dX10_twin_33 : decode cX10_twin 33 = .ok (.iload_n 1, 1) := by decide +kernel
theorem dX10_twin_34 : decode cX10_twin 34 = .ok (.invokevirtual 248, 3) := by decide +kernel
theorem dX10_twin_37 : decode cX10_twin 37 = .ok (.ifCond .le 38, 3) := by decide +kernel
theorem dX10_twin_40 : decode cX10_twin 40 = .ok (.iload_n 3, 1) := by decide +kernel
theorem dX10_twin_41 : decode cX10_twin 41 = .ok (.iload_n 1, 1) := by decide +kernel
theorem dX10_twin_42 : decode cX10_twin 42 = .ok (.if_icmp .eq 25, 3) := by decide +kernel
theorem dX10_twin_45 : decode cX10_twin 45 = .ok (.aload_n 0, 1) := by decide +kernel
theorem dX10_twin_46 : decode cX10_twin 46 = .ok (.getfield 77, 3) := by decide +kernel
theorem dX10_twin_49 : decode cX10_twin 49 = .ok (.iload_n 3, 1) := by decide +kernel
theorem dX10_twin_50 : decode cX10_twin 50 = .ok (.iaload, 1) := by decide +kernel
theorem dX10_twin_51 : decode cX10_twin 51 = .ok (.ifCond .ne 16, 3) := by decide +kernel
theorem dX10_twin_54 : decode cX10_twin 54 = .ok (.aload_n 0, 1) := by decide +kernel
theorem dX10_twin_55 : decode cX10_twin 55 = .ok (.iload_n 1, 1) := by decide +kernel
theorem dX10_twin_56 : decode cX10_twin 56 = .ok (.iload_n 3, 1) := by decide +kernel
theorem dX10_twin_57 : decode cX10_twin 57 = .ok (.invokevirtual 251, 3) := by decide +kernel
theorem dX10_twin_60 : decode cX10_twin 60 = .ok (.ifCond .eq 7, 3) := by decide +kernel
theorem dX10_twin_63 : decode cX10_twin 63 = .ok (.iload_n 3, 1) := by decide +kernel
theorem dX10_twin_64 : decode cX10_twin 64 = .ok (.goto 4, 3) := by decide +kernel
theorem dX10_twin_67 : decode cX10_twin 67 = .ok (.iload_n 2, 1) := by decide +kernel
theorem dX10_twin_68 : decode cX10_twin 68 = .ok (.istore_n 2, 1) := by decide +kernel
theorem dX10_twin_69 : decode cX10_twin 69 = .ok (.iinc 3 (-1), 3) := by decide +kernel
theorem dX10_twin_72 : decode cX10_twin 72 = .ok (.goto (-53), 3) := by decide +kernel
theorem dX10_twin_75 : decode cX10_twin 75 = .ok (.iload_n 2, 1) := by decide +kernel
theorem dX10_twin_76 : decode cX10_twin 76 = .ok (.ireturn, 1) := by decide +kernel
theorem dX10_isAhead_0 : decode cX10_isAhead 0 = .ok (.aload_n 0, 1) := by decide +kernel
theorem dX10_isAhead_1 : decode cX10_isAhead 1 = .ok (.getfield 135, 3) := by decide +kernel
theorem dX10_isAhead_4 : decode cX10_isAhead 4 = .ok (.iload_n 1, 1) := by decide +kernel
theorem dX10_isAhead_5 : decode cX10_isAhead 5 = .ok (.iaload, 1) := by decide +kernel
theorem dX10_isAhead_6 : decode cX10_isAhead 6 = .ok (.aload_n 0, 1) := by decide +kernel
theorem dX10_isAhead_7 : decode cX10_isAhead 7 = .ok (.getfield 135, 3) := by decide +kernel
theorem dX10_isAhead_10 : decode cX10_isAhead 10 = .ok (.iload_n 2, 1) := by decide +kernel
theorem dX10_isAhead_11 : decode cX10_isAhead 11 = .ok (.iaload, 1) := by decide +kernel
theorem dX10_isAhead_12 : decode cX10_isAhead 12 = .ok (.if_icmp .eq 26, 3) := by decide +kernel
theorem dX10_isAhead_15 : decode cX10_isAhead 15 = .ok (.aload_n 0, 1) := by decide +kernel
theorem dX10_isAhead_16 : decode cX10_isAhead 16 = .ok (.getfield 135, 3) := by decide +kernel
theorem dX10_isAhead_19 : decode cX10_isAhead 19 = .ok (.iload_n 1, 1) := by decide +kernel
theorem dX10_isAhead_20 : decode cX10_isAhead 20 = .ok (.iaload, 1) := by decide +kernel
theorem dX10_isAhead_21 : decode cX10_isAhead 21 = .ok (.aload_n 0, 1) := by decide +kernel
theorem dX10_isAhead_22 : decode cX10_isAhead 22 = .ok (.getfield 135, 3) := by decide +kernel
theorem dX10_isAhead_25 : decode cX10_isAhead 25 = .ok (.iload_n 2, 1) := by decide +kernel
theorem dX10_isAhead_26 : decode cX10_isAhead 26 = .ok (.iaload, 1) := by decide +kernel
theorem dX10_isAhead_27 : decode cX10_isAhead 27 = .ok (.if_icmp .le 7, 3) := by decide +kernel
theorem dX10_isAhead_30 : decode cX10_isAhead 30 = .ok (.iconst 1, 1) := by decide +kernel
theorem dX10_isAhead_31 : decode cX10_isAhead 31 = .ok (.goto 17, 3) := by decide +kernel
theorem dX10_isAhead_34 : decode cX10_isAhead 34 = .ok (.iconst 0, 1) := by decide +kernel
theorem dX10_isAhead_35 : decode cX10_isAhead 35 = .ok (.goto 13, 3) := by decide +kernel
theorem dX10_isAhead_38 : decode cX10_isAhead 38 = .ok (.iload_n 1, 1) := by decide +kernel
theorem dX10_isAhead_39 : decode cX10_isAhead 39 = .ok (.iload_n 2, 1) := by decide +kernel
theorem dX10_isAhead_40 : decode cX10_isAhead 40 = .ok (.if_icmp .ge 7, 3) := by decide +kernel
theorem dX10_isAhead_43 : decode cX10_isAhead 43 = .ok (.iconst 1, 1) := by decide +kernel
theorem dX10_isAhead_44 : decode cX10_isAhead 44 = .ok (.goto 4, 3) := by decide +kernel
theorem dX10_isAhead_47 : decode cX10_isAhead 47 = .ok (.iconst 0, 1) := by decide +kernel
theorem dX10_isAhead_48 : decode cX10_isAhead 48 = .ok (.ireturn, 1) := by decide +kernel
set_option maxRecDepth 20000 in
theorem ggX10_high_X10_isTable : GoodIn wsX10_high wsX10_isTable := goodIn_r _ [9, 10, 11, 12, 8, 13, 66, 67, 68, 69, 70, 71, 72, 73, 74, 75, 76, 77, 78, 79, 80, 81, 82, 83, 84, 85, 86, 87, 88, 89, 90, 91, 92, 93, 94, 95, 96, 97, 98, 99, 100, 101, 102, 103, 104, 105, 106, 107, 108, 109, 110, 111, 112, 113, 114, 115, 116, 117, 118, 119, 120] (by decide +kernel) (by decide +kernel)
set_option maxRecDepth 20000 in
theorem gX10_high_X10_isTable : GoodIn wsX10_high (wsV RX10 161 RX10 yX10_isTable wsX10_isTable) := goodIn_app (goodIn_of _ (by decide +kernel)) ggX10_high_X10_isTable
set_option maxRecDepth 20000 in
theorem ggX10_high_X10_refused : GoodIn wsX10_high wsX10_refused := goodIn_r _ [17, 18, 66, 67, 68, 69, 70, 71, 72, 73, 74, 75, 76, 77, 78, 79, 80, 81, 82, 83, 84, 85, 86, 87, 88, 89, 90, 91, 92, 93, 94, 95, 96, 97, 98, 99, 100, 101, 102, 103, 104, 105, 106, 107, 108, 109, 110, 111, 112, 113, 114, 115, 116, 117, 118, 119, 120] (by decide +kernel) (by decide +kernel)
set_option maxRecDepth 20000 in
theorem gX10_high_X10_refused : GoodIn wsX10_high (wsV RX10 168 RX10 yX10_refused wsX10_refused) := goodIn_app (goodIn_of _ (by decide +kernel)) ggX10_high_X10_refused
set_option maxRecDepth 20000 in
theorem ggX10_high_X10_replayed : GoodIn wsX10_high wsX10_replayed := goodIn_r _ [22, 23, 24, 25, 26, 27, 28, 29, 30, 8, 31, 32, 33, 34, 35, 36, 37, 38, 4, 39, 40, 41, 42, 43, 44, 45, 46, 47, 48, 49, 50, 51, 52, 53, 54, 55, 56, 57, 58, 59, 60, 61, 66, 67, 68, 69, 70, 71, 72, 73, 74, 75, 76, 77, 78, 79, 80, 81, 82, 83, 84, 85, 86, 87, 88, 89, 90, 91, 92, 93, 94, 95, 96, 97, 98, 99, 100, 101, 102, 103, 104, 105, 106, 107, 108, 109, 110, 111, 112, 113, 114, 115, 116, 117, 118, 119, 120] (by decide +kernel) (by decide +kernel)
set_option maxRecDepth 20000 in
theorem gX10_high_X10_replayed : GoodIn wsX10_high (wsV RX10 244 RX10 yX10_replayed wsX10_replayed) := goodIn_app (goodIn_of _ (by decide +kernel)) ggX10_high_X10_replayed
set_option maxRecDepth 20000 in
theorem ggX10_high_X10_isAhead : GoodIn wsX10_high wsX10_isAhead := goodIn_r _ [65, 2, 66, 67, 68, 69, 70, 71, 72, 73, 74, 75, 76, 77, 78, 79, 80, 81, 82, 83, 84, 85, 86, 87, 88, 89, 90, 91, 92, 93, 94, 95, 96, 97, 98, 99, 100, 101, 102, 103, 104, 105, 106, 107, 108, 109, 110, 111, 112, 113, 114, 115, 116, 117, 118, 119, 120] (by decide +kernel) (by decide +kernel)
set_option maxRecDepth 20000 in
theorem gX10_high_X10_isAhead : GoodIn wsX10_high (wsV RX10 254 RX10 yX10_isAhead wsX10_isAhead) := goodIn_app (goodIn_of _ (by decide +kernel)) ggX10_high_X10_isAhead
theorem dX10_high_0 : decode cX10_high 0 = .ok (.aload_n 0, 1) := by decide +kernel
theorem dX10_high_1 : decode cX10_high 1 = .ok (.aload_n 0, 1) := by decide +kernel
theorem dX10_high_2 : decode cX10_high 2 = .ok (.iload_n 1, 1) := by decide +kernel
theorem dX10_high_3 : decode cX10_high 3 = .ok (.invokevirtual 161, 3) := by decide +kernel
theorem dX10_high_6 : decode cX10_high 6 = .ok (.ifCond .ne 7, 3) := by decide +kernel
theorem dX10_high_9 : decode cX10_high 9 = .ok (.iconst 1, 1) := by decide +kernel
theorem dX10_high_10 : decode cX10_high 10 = .ok (.goto 12, 3) := by decide +kernel
theorem dX10_high_13 : decode cX10_high 13 = .ok (.iload_n 2, 1) := by decide +kernel
theorem dX10_high_14 : decode cX10_high 14 = .ok (.ifCond .ge 7, 3) := by decide +kernel
theorem dX10_high_17 : decode cX10_high 17 = .ok (.iconst 2, 1) := by decide +kernel
theorem dX10_high_18 : decode cX10_high 18 = .ok (.goto 4, 3) := by decide +kernel
theorem dX10_high_21 : decode cX10_high 21 = .ok (.iconst 0, 1) := by decide +kernel
theorem dX10_high_22 : decode cX10_high 22 = .ok (.invokevirtual 168, 3) := by decide +kernel
theorem dX10_high_25 : decode cX10_high 25 = .ok (.ifCond .eq 5, 3) := by decide +kernel
theorem dX10_high_28 : decode cX10_high 28 = .ok (.iconst 0, 1) := by decide +kernel
theorem dX10_high_29 : decode cX10_high 29 = .ok (.ireturn, 1) := by decide +kernel
theorem dX10_high_30 : decode cX10_high 30 = .ok (.iconst 0, 1) := by decide +kernel
theorem dX10_high_31 : decode cX10_high 31 = .ok (.istore_n 3, 1) := by decide +kernel
theorem dX10_high_32 : decode cX10_high 32 = .ok (.iload_n 3, 1) := by decide +kernel
theorem dX10_high_33 : decode cX10_high 33 = .ok (.aload_n 0, 1) := by decide +kernel
theorem dX10_high_34 : decode cX10_high 34 = .ok (.getfield 165, 3) := by decide +kernel
theorem dX10_high_37 : decode cX10_high 37 = .ok (.if_icmp .ge 44, 3) := by decide +kernel
theorem dX10_high_40 : decode cX10_high 40 = .ok (.aload_n 0, 1) := by decide +kernel
theorem dX10_high_41 : decode cX10_high 41 = .ok (.getfield 135, 3) := by decide +kernel
theorem dX10_high_44 : decode cX10_high 44 = .ok (.iload_n 3, 1) := by decide +kernel
theorem dX10_high_45 : decode cX10_high 45 = .ok (.aload_n 0, 1) := by decide +kernel
theorem dX10_high_46 : decode cX10_high 46 = .ok (.getfield 74, 3) := by decide +kernel
theorem dX10_high_49 : decode cX10_high 49 = .ok (.iload_n 3, 1) := by decide +kernel
theorem dX10_high_50 : decode cX10_high 50 = .ok (.iaload, 1) := by decide +kernel
theorem dX10_high_51 : decode cX10_high 51 = .ok (.iload_n 1, 1) := by decide +kernel
theorem dX10_high_52 : decode cX10_high 52 = .ok (.if_icmp .ne 21, 3) := by decide +kernel
theorem dX10_high_55 : decode cX10_high 55 = .ok (.aload_n 0, 1) := by decide +kernel
theorem dX10_high_56 : decode cX10_high 56 = .ok (.getfield 77, 3) := by decide +kernel
theorem dX10_high_59 : decode cX10_high 59 = .ok (.iload_n 3, 1) := by decide +kernel
theorem dX10_high_60 : decode cX10_high 60 = .ok (.iaload, 1) := by decide +kernel
theorem dX10_high_61 : decode cX10_high 61 = .ok (.ifCond .ne 12, 3) := by decide +kernel
theorem dX10_high_64 : decode cX10_high 64 = .ok (.aload_n 0, 1) := by decide +kernel
theorem dX10_high_65 : decode cX10_high 65 = .ok (.iload_n 3, 1) := by decide +kernel
theorem dX10_high_66 : decode cX10_high 66 = .ok (.iconst 1, 1) := by decide +kernel
theorem dX10_high_67 : decode cX10_high 67 = .ok (.invokevirtual 244, 3) := by decide +kernel
theorem dX10_high_70 : decode cX10_high 70 = .ok (.goto 4, 3) := by decide +kernel
theorem dX10_high_73 : decode cX10_high 73 = .ok (.iconst (-1), 1) := by decide +kernel
theorem dX10_high_74 : decode cX10_high 74 = .ok (.iastore, 1) := by decide +kernel
theorem dX10_high_75 : decode cX10_high 75 = .ok (.iinc 3 1, 3) := by decide +kernel
theorem dX10_high_78 : decode cX10_high 78 = .ok (.goto (-46), 3) := by decide +kernel
theorem dX10_high_81 : decode cX10_high 81 = .ok (.iconst (-1), 1) := by decide +kernel
theorem dX10_high_82 : decode cX10_high 82 = .ok (.istore_n 3, 1) := by decide +kernel
theorem dX10_high_83 : decode cX10_high 83 = .ok (.iconst 0, 1) := by decide +kernel
theorem dX10_high_84 : decode cX10_high 84 = .ok (.istore 4, 2) := by decide +kernel
theorem dX10_high_86 : decode cX10_high 86 = .ok (.iload 4, 2) := by decide +kernel
theorem dX10_high_88 : decode cX10_high 88 = .ok (.aload_n 0, 1) := by decide +kernel
theorem dX10_high_89 : decode cX10_high 89 = .ok (.getfield 165, 3) := by decide +kernel
theorem dX10_high_92 : decode cX10_high 92 = .ok (.if_icmp .ge 86, 3) := by decide +kernel
theorem dX10_high_95 : decode cX10_high 95 = .ok (.iconst 0, 1) := by decide +kernel
theorem dX10_high_96 : decode cX10_high 96 = .ok (.istore 5, 2) := by decide +kernel
theorem dX10_high_98 : decode cX10_high 98 = .ok (.iconst 0, 1) := by decide +kernel
theorem dX10_high_99 : decode cX10_high 99 = .ok (.istore 6, 2) := by decide +kernel
theorem dX10_high_101 : decode cX10_high 101 = .ok (.iload 6, 2) := by decide +kernel
theorem dX10_high_103 : decode cX10_high 103 = .ok (.aload_n 0, 1) := by decide +kernel
theorem dX10_high_104 : decode cX10_high 104 = .ok (.getfield 165, 3) := by decide +kernel
theorem dX10_high_107 : decode cX10_high 107 = .ok (.if_icmp .ge 41, 3) := by decide +kernel
theorem dX10_high_110 : decode cX10_high 110 = .ok (.iload 5, 2) := by decide +kernel
theorem dX10_high_112 : decode cX10_high 112 = .ok (.aload_n 0, 1) := by decide +kernel
theorem dX10_high_113 : decode cX10_high 113 = .ok (.getfield 135, 3) := by decide +kernel
theorem dX10_high_116 : decode cX10_high 116 = .ok (.iload 6, 2) := by decide +kernel
theorem dX10_high_118 : decode cX10_high 118 = .ok (.iaload, 1) := by decide +kernel
theorem dX10_high_119 : decode cX10_high 119 = .ok (.iconst (-1), 1) := by decide +kernel
theorem dX10_high_120 : decode cX10_high 120 = .ok (.if_icmp .eq 18, 3) := by decide +kernel
theorem dX10_high_123 : decode cX10_high 123 = .ok (.aload_n 0, 1) := by decide +kernel
theorem dX10_high_124 : decode cX10_high 124 = .ok (.iload 6, 2) := by decide +kernel
theorem dX10_high_126 : decode cX10_high 126 = .ok (.iload 4, 2) := by decide +kernel
theorem dX10_high_128 : decode cX10_high 128 = .ok (.invokevirtual 254, 3) := by decide +kernel
theorem dX10_high_131 : decode cX10_high 131 = .ok (.ifCond .eq 7, 3) := by decide +kernel
theorem dX10_high_134 : decode cX10_high 134 = .ok (.iconst 1, 1) := by decide +kernel
theorem dX10_high_135 : decode cX10_high 135 = .ok (.goto 4, 3) := by decide +kernel
theorem dX10_high_138 : decode cX10_high 138 = .ok (.iconst 0, 1) := by decide +kernel
theorem dX10_high_139 : decode cX10_high 139 = .ok (.iadd, 1) := by decide +kernel
theorem dX10_high_140 : decode cX10_high 140 = .ok (.istore 5, 2) := by decide +kernel
theorem dX10_high_142 : decode cX10_high 142 = .ok (.iinc 6 1, 3) := by decide +kernel
theorem dX10_high_145 : decode cX10_high 145 = .ok (.goto (-44), 3) := by decide +kernel
theorem dX10_high_148 : decode cX10_high 148 = .ok (.aload_n 0, 1) := by decide +kernel
theorem dX10_high_149 : decode cX10_high 149 = .ok (.getfield 135, 3) := by decide +kernel
theorem dX10_high_152 : decode cX10_high 152 = .ok (.iload 4, 2) := by decide +kernel
theorem dX10_high_154 : decode cX10_high 154 = .ok (.iaload, 1) := by decide +kernel
theorem dX10_high_155 : decode cX10_high 155 = .ok (.iconst (-1), 1) := by decide +kernel
theorem dX10_high_156 : decode cX10_high 156 = .ok (.if_icmp .eq 14, 3) := by decide +kernel
theorem dX10_high_159 : decode cX10_high 159 = .ok (.iload 5, 2) := by decide +kernel
theorem dX10_high_161 : decode cX10_high 161 = .ok (.iload_n 2, 1) := by decide +kernel
theorem dX10_high_162 : decode cX10_high 162 = .ok (.if_icmp .ne 8, 3) := by decide +kernel
theorem dX10_high_165 : decode cX10_high 165 = .ok (.iload 4, 2) := by decide +kernel
theorem dX10_high_167 : decode cX10_high 167 = .ok (.goto 4, 3) := by decide +kernel
theorem dX10_high_170 : decode cX10_high 170 = .ok (.iload_n 3, 1) := by decide +kernel
theorem dX10_high_171 : decode cX10_high 171 = .ok (.istore_n 3, 1) := by decide +kernel
theorem dX10_high_172 : decode cX10_high 172 = .ok (.iinc 4 1, 3) := by decide +kernel
theorem dX10_high_175 : decode cX10_high 175 = .ok (.goto (-89), 3) := by decide +kernel
theorem dX10_high_178 : decode cX10_high 178 = .ok (.iload_n 3, 1) := by decide +kernel
theorem dX10_high_179 : decode cX10_high 179 = .ok (.ireturn, 1) := by decide +kernel
set_option maxRecDepth 20000 in
theorem ggX10_rob_X10_in : GoodIn wsX10_rob wsX10_in := goodIn_r _ [5] (by decide +kernel) (by decide +kernel)
set_option maxRecDepth 20000 in
theorem gX10_rob_X10_in : GoodIn wsX10_rob (va_wsS RX10 157 yX10_in wsX10_in) := goodIn_app (goodIn_of _ (by decide +kernel)) ggX10_rob_X10_in
set_option maxRecDepth 20000 in
theorem ggX10_rob_X10_isTable : GoodIn wsX10_rob wsX10_isTable := goodIn_r _ [9, 10, 2, 3, 4, 5, 16, 17, 18, 19, 20, 21, 22, 23, 24, 25, 26, 27, 28, 29, 30, 31, 32, 33, 34, 35, 36, 37, 38, 39, 40, 41, 42, 43, 44, 45, 46, 47, 48, 49, 50, 51, 52, 53, 54, 55, 56, 57, 58, 59, 60, 61, 62, 63, 64, 65, 66, 67, 68, 69, 70] (by decide +kernel) (by decide +kernel)
set_option maxRecDepth 20000 in
theorem gX10_rob_X10_isTable : GoodIn wsX10_rob (wsV RX10 161 RX10 yX10_isTable wsX10_isTable) := goodIn_app (goodIn_of _ (by decide +kernel)) ggX10_rob_X10_isTable
set_option maxRecDepth 20000 in
theorem ggX10_rob_X10_refused : GoodIn wsX10_rob wsX10_refused := goodIn_r _ [14, 15, 16, 17, 18, 19, 20, 21, 22, 23, 24, 25, 26, 27, 28, 29, 30, 31, 32, 33, 34, 35, 36, 37, 38, 39, 40, 41, 42, 43, 44, 45, 46, 47, 48, 49, 50, 51, 52, 53, 54, 55, 56, 57, 58, 59, 60, 61, 62, 63, 64, 65, 66, 67, 68, 69, 70] (by decide +kernel) (by decide +kernel)
set_option maxRecDepth 20000 in
theorem gX10_rob_X10_refused : GoodIn wsX10_rob (wsV RX10 168 RX10 yX10_refused wsX10_refused) := goodIn_app (goodIn_of _ (by decide +kernel)) ggX10_rob_X10_refused
theorem dX10_rob_0 : decode cX10_rob 0 = .ok (.iload_n 2, 1) := by decide +kernel
theorem dX10_rob_1 : decode cX10_rob 1 = .ok (.iconst 1, 1) := by decide +kernel
theorem dX10_rob_2 : decode cX10_rob 2 = .ok (.bipush 100, 2) := by decide +kernel
theorem dX10_rob_4 : decode cX10_rob 4 = .ok (.invokestatic 157, 3) := by decide +kernel
theorem dX10_rob_7 : decode cX10_rob 7 = .ok (.istore_n 3, 1) := by decide +kernel
theorem dX10_rob_8 : decode cX10_rob 8 = .ok (.aload_n 0, 1) := by decide +kernel
theorem dX10_rob_9 : decode cX10_rob 9 = .ok (.iload_n 1, 1) := by decide +kernel
theorem dX10_rob_10 : decode cX10_rob 10 = .ok (.invokevirtual 161, 3) := by decide +kernel
theorem dX10_rob_13 : decode cX10_rob 13 = .ok (.ifCond .eq 21, 3) := by decide +kernel
theorem dX10_rob_16 : decode cX10_rob 16 = .ok (.iload_n 3, 1) := by decide +kernel
theorem dX10_rob_17 : decode cX10_rob 17 = .ok (.ifCond .eq 17, 3) := by decide +kernel
theorem dX10_rob_20 : decode cX10_rob 20 = .ok (.aload_n 0, 1) := by decide +kernel
theorem dX10_rob_21 : decode cX10_rob 21 = .ok (.getfield 16, 3) := by decide +kernel
theorem dX10_rob_24 : decode cX10_rob 24 = .ok (.iload_n 1, 1) := by decide +kernel
theorem dX10_rob_25 : decode cX10_rob 25 = .ok (.iaload, 1) := by decide +kernel
theorem dX10_rob_26 : decode cX10_rob 26 = .ok (.iload_n 2, 1) := by decide +kernel
theorem dX10_rob_27 : decode cX10_rob 27 = .ok (.if_icmp .lt 7, 3) := by decide +kernel
theorem dX10_rob_30 : decode cX10_rob 30 = .ok (.iconst 1, 1) := by decide +kernel
theorem dX10_rob_31 : decode cX10_rob 31 = .ok (.goto 4, 3) := by decide +kernel
theorem dX10_rob_34 : decode cX10_rob 34 = .ok (.iconst 0, 1) := by decide +kernel
theorem dX10_rob_35 : decode cX10_rob 35 = .ok (.istore 4, 2) := by decide +kernel
theorem dX10_rob_37 : decode cX10_rob 37 = .ok (.aload_n 0, 1) := by decide +kernel
theorem dX10_rob_38 : decode cX10_rob 38 = .ok (.aload_n 0, 1) := by decide +kernel
theorem dX10_rob_39 : decode cX10_rob 39 = .ok (.iload_n 1, 1) := by decide +kernel
theorem dX10_rob_40 : decode cX10_rob 40 = .ok (.invokevirtual 161, 3) := by decide +kernel
theorem dX10_rob_43 : decode cX10_rob 43 = .ok (.ifCond .ne 7, 3) := by decide +kernel
theorem dX10_rob_46 : decode cX10_rob 46 = .ok (.iconst 1, 1) := by decide +kernel
theorem dX10_rob_47 : decode cX10_rob 47 = .ok (.goto 21, 3) := by decide +kernel
theorem dX10_rob_50 : decode cX10_rob 50 = .ok (.iload_n 3, 1) := by decide +kernel
theorem dX10_rob_51 : decode cX10_rob 51 = .ok (.ifCond .ne 7, 3) := by decide +kernel
theorem dX10_rob_54 : decode cX10_rob 54 = .ok (.iconst 2, 1) := by decide +kernel
theorem dX10_rob_55 : decode cX10_rob 55 = .ok (.goto 13, 3) := by decide +kernel
theorem dX10_rob_58 : decode cX10_rob 58 = .ok (.iload 4, 2) := by decide +kernel
theorem dX10_rob_60 : decode cX10_rob 60 = .ok (.ifCond .eq 7, 3) := by decide +kernel
theorem dX10_rob_63 : decode cX10_rob 63 = .ok (.iconst 0, 1) := by decide +kernel
theorem dX10_rob_64 : decode cX10_rob 64 = .ok (.goto 4, 3) := by decide +kernel
theorem dX10_rob_67 : decode cX10_rob 67 = .ok (.iconst 3, 1) := by decide +kernel
theorem dX10_rob_68 : decode cX10_rob 68 = .ok (.invokevirtual 168, 3) := by decide +kernel
theorem dX10_rob_71 : decode cX10_rob 71 = .ok (.ifCond .eq 5, 3) := by decide +kernel
theorem dX10_rob_74 : decode cX10_rob 74 = .ok (.iconst 0, 1) := by decide +kernel
theorem dX10_rob_75 : decode cX10_rob 75 = .ok (.ireturn, 1) := by decide +kernel
theorem dX10_rob_76 : decode cX10_rob 76 = .ok (.aload_n 0, 1) := by decide +kernel
theorem dX10_rob_77 : decode cX10_rob 77 = .ok (.getfield 16, 3) := by decide +kernel
theorem dX10_rob_80 : decode cX10_rob 80 = .ok (.iload_n 1, 1) := by decide +kernel
theorem dX10_rob_81 : decode cX10_rob 81 = .ok (.dup2, 1) := by decide +kernel
theorem dX10_rob_82 : decode cX10_rob 82 = .ok (.iaload, 1) := by decide +kernel
theorem dX10_rob_83 : decode cX10_rob 83 = .ok (.iload_n 2, 1) := by decide +kernel
theorem dX10_rob_84 : decode cX10_rob 84 = .ok (.isub, 1) := by decide +kernel
theorem dX10_rob_85 : decode cX10_rob 85 = .ok (.iastore, 1) := by decide +kernel
theorem dX10_rob_86 : decode cX10_rob 86 = .ok (.aload_n 0, 1) := by decide +kernel
theorem dX10_rob_87 : decode cX10_rob 87 = .ok (.getfield 16, 3) := by decide +kernel
theorem dX10_rob_90 : decode cX10_rob 90 = .ok (.iload_n 1, 1) := by decide +kernel
theorem dX10_rob_91 : decode cX10_rob 91 = .ok (.iaload, 1) := by decide +kernel
theorem dX10_rob_92 : decode cX10_rob 92 = .ok (.ireturn, 1) := by decide +kernel
set_option maxRecDepth 20000 in
theorem ggX10_box_X10_noTable : GoodIn wsX10_box wsX10_noTable := goodIn_r _ [6, 7, 8, 9, 5, 10, 11, 12, 13, 14, 15, 16, 17, 18, 19, 20, 21, 22, 23, 24, 25, 26, 27, 28, 29, 30, 31, 32, 33, 34, 35, 36, 37, 38, 39, 40, 41, 42, 43, 44, 45, 46, 47, 48, 49, 50, 51, 52, 53, 54, 55, 56, 57, 58, 59, 60, 61, 62, 63, 64, 65, 66, 67, 68, 69, 70, 71, 72, 73, 74] (by decide +kernel) (by decide +kernel)
set_option maxRecDepth 20000 in
theorem gX10_box_X10_noTable : GoodIn wsX10_box (wsV RX10 228 RX10 yX10_noTable wsX10_noTable) := goodIn_app (goodIn_of _ (by decide +kernel)) ggX10_box_X10_noTable
theorem dX10_box_0 : decode cX10_box 0 = .ok (.aload_n 0, 1) := by decide +kernel
theorem dX10_box_1 : decode cX10_box 1 = .ok (.iload_n 1, 1) := by decide +kernel
theorem dX10_box_2 : decode cX10_box 2 = .ok (.invokevirtual 228, 3) := by decide +kernel
theorem dX10_box_5 : decode cX10_box 5 = .ok (.ifCond .eq 7, 3) := by decide +kernel
theorem dX10_box_8 : decode cX10_box 8 = .ok (.iconst 0, 1) := by decide +kernel
theorem dX10_box_9 : decode cX10_box 9 = .ok (.goto 9, 3) := by decide +kernel
theorem dX10_box_12 : decode cX10_box 12 = .ok (.aload_n 0, 1) := by decide +kernel
theorem dX10_box_13 : decode cX10_box 13 = .ok (.getfield 16, 3) := by decide +kernel
theorem dX10_box_16 : decode cX10_box 16 = .ok (.iload_n 1, 1) := by decide +kernel
theorem dX10_box_17 : decode cX10_box 17 = .ok (.iaload, 1) := by decide +kernel
theorem dX10_box_18 : decode cX10_box 18 = .ok (.ireturn, 1) := by decide +kernel
set_option maxRecDepth 20000 in
theorem ggX10_missing_X10_noTable : GoodIn wsX10_missing wsX10_noTable := goodIn_r _ [6, 7, 8, 9, 5, 10, 11, 12, 13, 14, 15, 16, 17, 18, 19, 20, 21, 22, 23, 24, 25, 26, 27, 28, 29, 30, 31, 32, 33, 34, 35, 36, 37, 38, 39, 40, 41, 42, 43, 44, 45, 46, 47, 48, 49, 50, 51, 52, 53, 54, 55, 56, 57, 58, 59, 60, 61, 62, 63, 64, 65, 66, 67, 68, 69, 70, 71, 72, 73, 74] (by decide +kernel) (by decide +kernel)
set_option maxRecDepth 20000 in
theorem gX10_missing_X10_noTable : GoodIn wsX10_missing (wsV RX10 228 RX10 yX10_noTable wsX10_noTable) := goodIn_app (goodIn_of _ (by decide +kernel)) ggX10_missing_X10_noTable
theorem dX10_missing_0 : decode cX10_missing 0 = .ok (.aload_n 0, 1) := by decide +kernel
theorem dX10_missing_1 : decode cX10_missing 1 = .ok (.iload_n 1, 1) := by decide +kernel
theorem dX10_missing_2 : decode cX10_missing 2 = .ok (.invokevirtual 228, 3) := by decide +kernel
theorem dX10_missing_5 : decode cX10_missing 5 = .ok (.ifCond .eq 7, 3) := by decide +kernel
theorem dX10_missing_8 : decode cX10_missing 8 = .ok (.iconst 0, 1) := by decide +kernel
theorem dX10_missing_9 : decode cX10_missing 9 = .ok (.goto 9, 3) := by decide +kernel
theorem dX10_missing_12 : decode cX10_missing 12 = .ok (.aload_n 0, 1) := by decide +kernel
theorem dX10_missing_13 : decode cX10_missing 13 = .ok (.getfield 22, 3) := by decide +kernel
theorem dX10_missing_16 : decode cX10_missing 16 = .ok (.iload_n 1, 1) := by decide +kernel
theorem dX10_missing_17 : decode cX10_missing 17 = .ok (.iaload, 1) := by decide +kernel
theorem dX10_missing_18 : decode cX10_missing 18 = .ok (.ireturn, 1) := by decide +kernel
set_option maxRecDepth 20000 in
theorem ggX10_load__X10_in : GoodIn wsX10_load_ wsX10_in := goodIn_r _ [5] (by decide +kernel) (by decide +kernel)
set_option maxRecDepth 20000 in
theorem gX10_load__X10_in : GoodIn wsX10_load_ (va_wsS RX10 157 yX10_in wsX10_in) := goodIn_app (goodIn_of _ (by decide +kernel)) ggX10_load__X10_in
set_option maxRecDepth 20000 in
theorem ggX10_load__X10_isVan : GoodIn wsX10_load_ wsX10_isVan := goodIn_r _ [8, 2, 3, 4, 5] (by decide +kernel) (by decide +kernel)
set_option maxRecDepth 20000 in
theorem gX10_load__X10_isVan : GoodIn wsX10_load_ (va_wsS RX10 257 yX10_isVan wsX10_isVan) := goodIn_app (goodIn_of _ (by decide +kernel)) ggX10_load__X10_isVan
set_option maxRecDepth 20000 in
theorem ggX10_load__X10_refused : GoodIn wsX10_load_ wsX10_refused := goodIn_r _ [12, 13, 14, 15, 16, 17, 18, 19, 20, 21, 22, 23, 24, 25, 26, 27, 28, 29, 30, 31, 32, 33, 34, 35, 36, 37, 38, 39, 40, 41, 42, 43, 44, 45, 46, 47, 48, 49, 50, 51, 52, 53, 54, 55, 56, 57, 58, 59, 60, 61, 62, 63, 64, 65, 66, 67, 68] (by decide +kernel) (by decide +kernel)
set_option maxRecDepth 20000 in
theorem gX10_load__X10_refused : GoodIn wsX10_load_ (wsV RX10 168 RX10 yX10_refused wsX10_refused) := goodIn_app (goodIn_of _ (by decide +kernel)) ggX10_load__X10_refused
theorem dX10_load__0 : decode cX10_load_ 0 = .ok (.iload_n 2, 1) := by decide +kernel
theorem dX10_load__1 : decode cX10_load_ 1 = .ok (.iconst 0, 1) := by decide +kernel
theorem dX10_load__2 : decode cX10_load_ 2 = .ok (.iconst 1, 1) := by decide +kernel
theorem dX10_load__3 : decode cX10_load_ 3 = .ok (.invokestatic 157, 3) := by decide +kernel
theorem dX10_load__6 : decode cX10_load_ 6 = .ok (.ifCond .eq 17, 3) := by decide +kernel
theorem dX10_load__9 : decode cX10_load_ 9 = .ok (.iload_n 3, 1) := by decide +kernel
theorem dX10_load__10 : decode cX10_load_ 10 = .ok (.iconst 1, 1) := by decide +kernel
theorem dX10_load__11 : decode cX10_load_ 11 = .ok (.bipush 20, 2) := by decide +kernel
theorem dX10_load__13 : decode cX10_load_ 13 = .ok (.invokestatic 157, 3) := by decide +kernel
theorem dX10_load__16 : decode cX10_load_ 16 = .ok (.ifCond .eq 7, 3) := by decide +kernel
theorem dX10_load__19 : decode cX10_load_ 19 = .ok (.iconst 1, 1) := by decide +kernel
theorem dX10_load__20 : decode cX10_load_ 20 = .ok (.goto 4, 3) := by decide +kernel
theorem dX10_load__23 : decode cX10_load_ 23 = .ok (.iconst 0, 1) := by decide +kernel
theorem dX10_load__24 : decode cX10_load_ 24 = .ok (.istore 4, 2) := by decide +kernel
theorem dX10_load__26 : decode cX10_load_ 26 = .ok (.iload_n 1, 1) := by decide +kernel
theorem dX10_load__27 : decode cX10_load_ 27 = .ok (.invokestatic 257, 3) := by decide +kernel
theorem dX10_load__30 : decode cX10_load_ 30 = .ok (.ifCond .eq 29, 3) := by decide +kernel
theorem dX10_load__33 : decode cX10_load_ 33 = .ok (.iload 4, 2) := by decide +kernel
theorem dX10_load__35 : decode cX10_load_ 35 = .ok (.ifCond .eq 24, 3) := by decide +kernel
theorem dX10_load__38 : decode cX10_load_ 38 = .ok (.aload_n 0, 1) := by decide +kernel
theorem dX10_load__39 : decode cX10_load_ 39 = .ok (.getfield 141, 3) := by decide +kernel
theorem dX10_load__42 : decode cX10_load_ 42 = .ok (.iconst 2, 1) := by decide +kernel
theorem dX10_load__43 : decode cX10_load_ 43 = .ok (.iload_n 1, 1) := by decide +kernel
theorem dX10_load__44 : decode cX10_load_ 44 = .ok (.imul, 1) := by decide +kernel
theorem dX10_load__45 : decode cX10_load_ 45 = .ok (.iload_n 2, 1) := by decide +kernel
theorem dX10_load__46 : decode cX10_load_ 46 = .ok (.iadd, 1) := by decide +kernel
theorem dX10_load__47 : decode cX10_load_ 47 = .ok (.iaload, 1) := by decide +kernel
theorem dX10_load__48 : decode cX10_load_ 48 = .ok (.iload_n 3, 1) := by decide +kernel
theorem dX10_load__49 : decode cX10_load_ 49 = .ok (.iadd, 1) := by decide +kernel
theorem dX10_load__50 : decode cX10_load_ 50 = .ok (.bipush 20, 2) := by decide +kernel
theorem dX10_load__52 : decode cX10_load_ 52 = .ok (.if_icmp .gt 7, 3) := by decide +kernel
theorem dX10_load__55 : decode cX10_load_ 55 = .ok (.iconst 1, 1) := by decide +kernel
theorem dX10_load__56 : decode cX10_load_ 56 = .ok (.goto 4, 3) := by decide +kernel
theorem dX10_load__59 : decode cX10_load_ 59 = .ok (.iconst 0, 1) := by decide +kernel
theorem dX10_load__60 : decode cX10_load_ 60 = .ok (.istore 5, 2) := by decide +kernel
theorem dX10_load__62 : decode cX10_load_ 62 = .ok (.aload_n 0, 1) := by decide +kernel
theorem dX10_load__63 : decode cX10_load_ 63 = .ok (.iload_n 1, 1) := by decide +kernel
theorem dX10_load__64 : decode cX10_load_ 64 = .ok (.invokestatic 257, 3) := by decide +kernel
theorem dX10_load__67 : decode cX10_load_ 67 = .ok (.ifCond .ne 7, 3) := by decide +kernel
theorem dX10_load__70 : decode cX10_load_ 70 = .ok (.iconst 1, 1) := by decide +kernel
theorem dX10_load__71 : decode cX10_load_ 71 = .ok (.goto 22, 3) := by decide +kernel
theorem dX10_load__74 : decode cX10_load_ 74 = .ok (.iload 4, 2) := by decide +kernel
theorem dX10_load__76 : decode cX10_load_ 76 = .ok (.ifCond .ne 7, 3) := by decide +kernel
theorem dX10_load__79 : decode cX10_load_ 79 = .ok (.iconst 2, 1) := by decide +kernel
theorem dX10_load__80 : decode cX10_load_ 80 = .ok (.goto 13, 3) := by decide +kernel
theorem dX10_load__83 : decode cX10_load_ 83 = .ok (.iload 5, 2) := by decide +kernel
theorem dX10_load__85 : decode cX10_load_ 85 = .ok (.ifCond .eq 7, 3) := by decide +kernel
theorem dX10_load__88 : decode cX10_load_ 88 = .ok (.iconst 0, 1) := by decide +kernel
theorem dX10_load__89 : decode cX10_load_ 89 = .ok (.goto 4, 3) := by decide +kernel
theorem dX10_load__92 : decode cX10_load_ 92 = .ok (.iconst 3, 1) := by decide +kernel
theorem dX10_load__93 : decode cX10_load_ 93 = .ok (.invokevirtual 168, 3) := by decide +kernel
theorem dX10_load__96 : decode cX10_load_ 96 = .ok (.ifCond .eq 5, 3) := by decide +kernel
theorem dX10_load__99 : decode cX10_load_ 99 = .ok (.iconst 0, 1) := by decide +kernel
theorem dX10_load__100 : decode cX10_load_ 100 = .ok (.ireturn, 1) := by decide +kernel
theorem dX10_load__101 : decode cX10_load_ 101 = .ok (.aload_n 0, 1) := by decide +kernel
theorem dX10_load__102 : decode cX10_load_ 102 = .ok (.getfield 141, 3) := by decide +kernel
theorem dX10_load__105 : decode cX10_load_ 105 = .ok (.iconst 2, 1) := by decide +kernel
theorem dX10_load__106 : decode cX10_load_ 106 = .ok (.iload_n 1, 1) := by decide +kernel
theorem dX10_load__107 : decode cX10_load_ 107 = .ok (.imul, 1) := by decide +kernel
theorem dX10_load__108 : decode cX10_load_ 108 = .ok (.iload_n 2, 1) := by decide +kernel
theorem dX10_load__109 : decode cX10_load_ 109 = .ok (.iadd, 1) := by decide +kernel
theorem dX10_load__110 : decode cX10_load_ 110 = .ok (.dup2, 1) := by decide +kernel
theorem dX10_load__111 : decode cX10_load_ 111 = .ok (.iaload, 1) := by decide +kernel
theorem dX10_load__112 : decode cX10_load_ 112 = .ok (.iload_n 3, 1) := by decide +kernel
theorem dX10_load__113 : decode cX10_load_ 113 = .ok (.iadd, 1) := by decide +kernel
theorem dX10_load__114 : decode cX10_load_ 114 = .ok (.iastore, 1) := by decide +kernel
theorem dX10_load__115 : decode cX10_load_ 115 = .ok (.aload_n 0, 1) := by decide +kernel
theorem dX10_load__116 : decode cX10_load_ 116 = .ok (.getfield 141, 3) := by decide +kernel
theorem dX10_load__119 : decode cX10_load_ 119 = .ok (.iconst 2, 1) := by decide +kernel
theorem dX10_load__120 : decode cX10_load_ 120 = .ok (.iload_n 1, 1) := by decide +kernel
theorem dX10_load__121 : decode cX10_load_ 121 = .ok (.imul, 1) := by decide +kernel
theorem dX10_load__122 : decode cX10_load_ 122 = .ok (.iload_n 2, 1) := by decide +kernel
theorem dX10_load__123 : decode cX10_load_ 123 = .ok (.iadd, 1) := by decide +kernel
theorem dX10_load__124 : decode cX10_load_ 124 = .ok (.iaload, 1) := by decide +kernel
theorem dX10_load__125 : decode cX10_load_ 125 = .ok (.ireturn, 1) := by decide +kernel
set_option maxRecDepth 20000 in
theorem ggX10_parts_X10_isVan : GoodIn wsX10_parts wsX10_isVan := goodIn_r _ [5, 6, 7, 4, 8] (by decide +kernel) (by decide +kernel)
set_option maxRecDepth 20000 in
theorem gX10_parts_X10_isVan : GoodIn wsX10_parts (va_wsS RX10 257 yX10_isVan wsX10_isVan) := goodIn_app (goodIn_of _ (by decide +kernel)) ggX10_parts_X10_isVan
set_option maxRecDepth 20000 in
theorem ggX10_parts_X10_in : GoodIn wsX10_parts wsX10_in := goodIn_r _ [8] (by decide +kernel) (by decide +kernel)
set_option maxRecDepth 20000 in
theorem gX10_parts_X10_in : GoodIn wsX10_parts (va_wsS RX10 157 yX10_in wsX10_in) := goodIn_app (goodIn_of _ (by decide +kernel)) ggX10_parts_X10_in
set_option maxRecDepth 20000 in
theorem ggX10_parts_X10_refused : GoodIn wsX10_parts wsX10_refused := goodIn_r _ [12, 13, 14, 15, 16, 17, 18, 19, 20, 21, 22, 23, 24, 25, 26, 27, 28, 29, 30, 31, 32, 33, 34, 35, 36, 37, 38, 39, 40, 41, 42, 43, 44, 45, 46, 47, 48, 49, 50, 51, 52, 53, 54, 55, 56, 57, 58, 59, 60, 61, 62, 63, 64, 65, 66, 67, 68] (by decide +kernel) (by decide +kernel)
set_option maxRecDepth 20000 in
theorem gX10_parts_X10_refused : GoodIn wsX10_parts (wsV RX10 168 RX10 yX10_refused wsX10_refused) := goodIn_app (goodIn_of _ (by decide +kernel)) ggX10_parts_X10_refused
theorem dX10_parts_0 : decode cX10_parts 0 = .ok (.aload_n 0, 1) := by decide +kernel
theorem dX10_parts_1 : decode cX10_parts 1 = .ok (.iload_n 1, 1) := by decide +kernel
theorem dX10_parts_2 : decode cX10_parts 2 = .ok (.invokestatic 257, 3) := by decide +kernel
theorem dX10_parts_5 : decode cX10_parts 5 = .ok (.ifCond .ne 7, 3) := by decide +kernel
theorem dX10_parts_8 : decode cX10_parts 8 = .ok (.iconst 1, 1) := by decide +kernel
theorem dX10_parts_9 : decode cX10_parts 9 = .ok (.goto 17, 3) := by decide +kernel
theorem dX10_parts_12 : decode cX10_parts 12 = .ok (.iload_n 2, 1) := by decide +kernel
theorem dX10_parts_13 : decode cX10_parts 13 = .ok (.iconst 0, 1) := by decide +kernel
theorem dX10_parts_14 : decode cX10_parts 14 = .ok (.iconst 1, 1) := by decide +kernel
theorem dX10_parts_15 : decode cX10_parts 15 = .ok (.invokestatic 157, 3) := by decide +kernel
theorem dX10_parts_18 : decode cX10_parts 18 = .ok (.ifCond .eq 7, 3) := by decide +kernel
theorem dX10_parts_21 : decode cX10_parts 21 = .ok (.iconst 0, 1) := by decide +kernel
theorem dX10_parts_22 : decode cX10_parts 22 = .ok (.goto 4, 3) := by decide +kernel
theorem dX10_parts_25 : decode cX10_parts 25 = .ok (.iconst 2, 1) := by decide +kernel
theorem dX10_parts_26 : decode cX10_parts 26 = .ok (.invokevirtual 168, 3) := by decide +kernel
theorem dX10_parts_29 : decode cX10_parts 29 = .ok (.ifCond .eq 7, 3) := by decide +kernel
theorem dX10_parts_32 : decode cX10_parts 32 = .ok (.iconst 0, 1) := by decide +kernel
theorem dX10_parts_33 : decode cX10_parts 33 = .ok (.goto 13, 3) := by decide +kernel
theorem dX10_parts_36 : decode cX10_parts 36 = .ok (.aload_n 0, 1) := by decide +kernel
theorem dX10_parts_37 : decode cX10_parts 37 = .ok (.getfield 141, 3) := by decide +kernel
theorem dX10_parts_40 : decode cX10_parts 40 = .ok (.iconst 2, 1) := by decide +kernel
theorem dX10_parts_41 : decode cX10_parts 41 = .ok (.iload_n 1, 1) := by decide +kernel
theorem dX10_parts_42 : decode cX10_parts 42 = .ok (.imul, 1) := by decide +kernel
theorem dX10_parts_43 : decode cX10_parts 43 = .ok (.iload_n 2, 1) := by decide +kernel
theorem dX10_parts_44 : decode cX10_parts 44 = .ok (.iadd, 1) := by decide +kernel
theorem dX10_parts_45 : decode cX10_parts 45 = .ok (.iaload, 1) := by decide +kernel
theorem dX10_parts_46 : decode cX10_parts 46 = .ok (.ireturn, 1) := by decide +kernel
theorem dX10_isBad_0 : decode cX10_isBad 0 = .ok (.iload_n 2, 1) := by decide +kernel
theorem dX10_isBad_1 : decode cX10_isBad 1 = .ok (.ifCond .ne 21, 3) := by decide +kernel
theorem dX10_isBad_4 : decode cX10_isBad 4 = .ok (.aload_n 0, 1) := by decide +kernel
theorem dX10_isBad_5 : decode cX10_isBad 5 = .ok (.getfield 52, 3) := by decide +kernel
theorem dX10_isBad_8 : decode cX10_isBad 8 = .ok (.iload_n 1, 1) := by decide +kernel
theorem dX10_isBad_9 : decode cX10_isBad 9 = .ok (.iaload, 1) := by decide +kernel
theorem dX10_isBad_10 : decode cX10_isBad 10 = .ok (.iconst (-1), 1) := by decide +kernel
theorem dX10_isBad_11 : decode cX10_isBad 11 = .ok (.if_icmp .eq 7, 3) := by decide +kernel
theorem dX10_isBad_14 : decode cX10_isBad 14 = .ok (.iconst 1, 1) := by decide +kernel
theorem dX10_isBad_15 : decode cX10_isBad 15 = .ok (.goto 23, 3) := by decide +kernel
theorem dX10_isBad_18 : decode cX10_isBad 18 = .ok (.iconst 0, 1) := by decide +kernel
theorem dX10_isBad_19 : decode cX10_isBad 19 = .ok (.goto 19, 3) := by decide +kernel
theorem dX10_isBad_22 : decode cX10_isBad 22 = .ok (.aload_n 0, 1) := by decide +kernel
theorem dX10_isBad_23 : decode cX10_isBad 23 = .ok (.getfield 49, 3) := by decide +kernel
theorem dX10_isBad_26 : decode cX10_isBad 26 = .ok (.iload_n 1, 1) := by decide +kernel
theorem dX10_isBad_27 : decode cX10_isBad 27 = .ok (.iaload, 1) := by decide +kernel
theorem dX10_isBad_28 : decode cX10_isBad 28 = .ok (.bipush 40, 2) := by decide +kernel
theorem dX10_isBad_30 : decode cX10_isBad 30 = .ok (.if_icmp .lt 7, 3) := by decide +kernel
theorem dX10_isBad_33 : decode cX10_isBad 33 = .ok (.iconst 1, 1) := by decide +kernel
theorem dX10_isBad_34 : decode cX10_isBad 34 = .ok (.goto 4, 3) := by decide +kernel
theorem dX10_isBad_37 : decode cX10_isBad 37 = .ok (.iconst 0, 1) := by decide +kernel
theorem dX10_isBad_38 : decode cX10_isBad 38 = .ok (.ireturn, 1) := by decide +kernel
set_option maxRecDepth 20000 in
theorem ggX10_bad_X10_isBad : GoodIn wsX10_bad wsX10_isBad := goodIn_r _ [6, 7, 8, 9, 10, 11, 12, 13, 14, 15, 16, 17, 18, 19, 20, 21, 22, 23, 24, 25, 26, 27, 28, 29, 30, 31, 32, 33, 34, 35, 36, 37, 38, 39, 40, 41, 42, 43, 44, 45, 46, 47, 48, 49, 50, 51, 52, 53, 54, 55, 56, 57, 58, 59, 60, 61, 62, 63] (by decide +kernel) (by decide +kernel)
set_option maxRecDepth 20000 in
theorem gX10_bad_X10_isBad : GoodIn wsX10_bad (wsV RX10 260 RX10 yX10_isBad wsX10_isBad) := goodIn_app (goodIn_of _ (by decide +kernel)) ggX10_bad_X10_isBad
theorem dX10_bad_0 : decode cX10_bad 0 = .ok (.iconst 0, 1) := by decide +kernel
theorem dX10_bad_1 : decode cX10_bad 1 = .ok (.istore_n 3, 1) := by decide +kernel
theorem dX10_bad_2 : decode cX10_bad 2 = .ok (.bipush 8, 2) := by decide +kernel
theorem dX10_bad_4 : decode cX10_bad 4 = .ok (.iload_n 1, 1) := by decide +kernel
theorem dX10_bad_5 : decode cX10_bad 5 = .ok (.imul, 1) := by decide +kernel
theorem dX10_bad_6 : decode cX10_bad 6 = .ok (.istore 4, 2) := by decide +kernel
theorem dX10_bad_8 : decode cX10_bad 8 = .ok (.iload 4, 2) := by decide +kernel
theorem dX10_bad_10 : decode cX10_bad 10 = .ok (.bipush 8, 2) := by decide +kernel
theorem dX10_bad_12 : decode cX10_bad 12 = .ok (.iload_n 1, 1) := by decide +kernel
theorem dX10_bad_13 : decode cX10_bad 13 = .ok (.imul, 1) := by decide +kernel
theorem dX10_bad_14 : decode cX10_bad 14 = .ok (.aload_n 0, 1) := by decide +kernel
theorem dX10_bad_15 : decode cX10_bad 15 = .ok (.getfield 28, 3) := by decide +kernel
theorem dX10_bad_18 : decode cX10_bad 18 = .ok (.iload_n 1, 1) := by decide +kernel
theorem dX10_bad_19 : decode cX10_bad 19 = .ok (.iaload, 1) := by decide +kernel
theorem dX10_bad_20 : decode cX10_bad 20 = .ok (.iadd, 1) := by decide +kernel
theorem dX10_bad_21 : decode cX10_bad 21 = .ok (.if_icmp .ge 27, 3) := by decide +kernel
theorem dX10_bad_24 : decode cX10_bad 24 = .ok (.iload_n 3, 1) := by decide +kernel
theorem dX10_bad_25 : decode cX10_bad 25 = .ok (.aload_n 0, 1) := by decide +kernel
theorem dX10_bad_26 : decode cX10_bad 26 = .ok (.iload 4, 2) := by decide +kernel
theorem dX10_bad_28 : decode cX10_bad 28 = .ok (.iload_n 2, 1) := by decide +kernel
theorem dX10_bad_29 : decode cX10_bad 29 = .ok (.invokevirtual 260, 3) := by decide +kernel
theorem dX10_bad_32 : decode cX10_bad 32 = .ok (.ifCond .eq 7, 3) := by decide +kernel
theorem dX10_bad_35 : decode cX10_bad 35 = .ok (.iconst 1, 1) := by decide +kernel
theorem dX10_bad_36 : decode cX10_bad 36 = .ok (.goto 4, 3) := by decide +kernel
theorem dX10_bad_39 : decode cX10_bad 39 = .ok (.iconst 0, 1) := by decide +kernel
theorem dX10_bad_40 : decode cX10_bad 40 = .ok (.iadd, 1) := by decide +kernel
theorem dX10_bad_41 : decode cX10_bad 41 = .ok (.istore_n 3, 1) := by decide +kernel
theorem dX10_bad_42 : decode cX10_bad 42 = .ok (.iinc 4 1, 3) := by decide +kernel
theorem dX10_bad_45 : decode cX10_bad 45 = .ok (.goto (-37), 3) := by decide +kernel
theorem dX10_bad_48 : decode cX10_bad 48 = .ok (.iload_n 3, 1) := by decide +kernel
theorem dX10_bad_49 : decode cX10_bad 49 = .ok (.ireturn, 1) := by decide +kernel
set_option maxRecDepth 20000 in
theorem ggX10_wanted_X10_in : GoodIn wsX10_wanted wsX10_in := goodIn_r _ [6] (by decide +kernel) (by decide +kernel)
set_option maxRecDepth 20000 in
theorem gX10_wanted_X10_in : GoodIn wsX10_wanted (va_wsS RX10 157 yX10_in wsX10_in) := goodIn_app (goodIn_of _ (by decide +kernel)) ggX10_wanted_X10_in
set_option maxRecDepth 20000 in
theorem ggX10_wanted_X10_refused : GoodIn wsX10_wanted wsX10_refused := goodIn_r _ [10, 11, 23, 24, 25, 26, 27, 28, 29, 30, 31, 32, 33, 34, 35, 36, 37, 38, 39, 40, 41, 42, 43, 44, 45, 46, 47, 48, 49, 50, 51, 52, 53, 54, 55, 56, 57, 58, 59, 60, 61, 62, 63, 64, 65, 66, 67, 68, 69, 70, 71, 72, 73, 74, 75, 76, 77] (by decide +kernel) (by decide +kernel)
set_option maxRecDepth 20000 in
theorem gX10_wanted_X10_refused : GoodIn wsX10_wanted (wsV RX10 168 RX10 yX10_refused wsX10_refused) := goodIn_app (goodIn_of _ (by decide +kernel)) ggX10_wanted_X10_refused
set_option maxRecDepth 20000 in
theorem ggX10_wanted_X10_bad : GoodIn wsX10_wanted wsX10_bad := goodIn_r _ [15, 16, 17, 18, 19, 5, 20, 21, 22, 23, 24, 25, 26, 27, 28, 29, 30, 31, 32, 33, 34, 35, 36, 37, 38, 39, 40, 41, 42, 43, 44, 45, 46, 47, 48, 49, 50, 51, 52, 53, 54, 55, 56, 57, 58, 59, 60, 61, 62, 63, 64, 65, 66, 67, 68, 69, 70, 71, 72, 73, 74, 75, 76, 77] (by decide +kernel) (by decide +kernel)
set_option maxRecDepth 20000 in
theorem gX10_wanted_X10_bad : GoodIn wsX10_wanted (wsV RX10 263 RX10 yX10_bad wsX10_bad) := goodIn_app (goodIn_of _ (by decide +kernel)) ggX10_wanted_X10_bad
theorem dX10_wanted_0 : decode cX10_wanted 0 = .ok (.aload_n 0, 1) := by decide +kernel
theorem dX10_wanted_1 : decode cX10_wanted 1 = .ok (.iload_n 1, 1) := by decide +kernel
theorem dX10_wanted_2 : decode cX10_wanted 2 = .ok (.iconst 0, 1) := by decide +kernel
theorem dX10_wanted_3 : decode cX10_wanted 3 = .ok (.iconst 1, 1) := by decide +kernel
theorem dX10_wanted_4 : decode cX10_wanted 4 = .ok (.invokestatic 157, 3) := by decide +kernel
theorem dX10_wanted_7 : decode cX10_wanted 7 = .ok (.ifCond .eq 7, 3) := by decide +kernel
theorem dX10_wanted_10 : decode cX10_wanted 10 = .ok (.iconst 0, 1) := by decide +kernel
theorem dX10_wanted_11 : decode cX10_wanted 11 = .ok (.goto 4, 3) := by decide +kernel
theorem dX10_wanted_14 : decode cX10_wanted 14 = .ok (.iconst 1, 1) := by decide +kernel
theorem dX10_wanted_15 : decode cX10_wanted 15 = .ok (.invokevirtual 168, 3) := by decide +kernel
theorem dX10_wanted_18 : decode cX10_wanted 18 = .ok (.ifCond .eq 5, 3) := by decide +kernel
theorem dX10_wanted_21 : decode cX10_wanted 21 = .ok (.iconst 0, 1) := by decide +kernel
theorem dX10_wanted_22 : decode cX10_wanted 22 = .ok (.ireturn, 1) := by decide +kernel
theorem dX10_wanted_23 : decode cX10_wanted 23 = .ok (.aload_n 0, 1) := by decide +kernel
theorem dX10_wanted_24 : decode cX10_wanted 24 = .ok (.getfield 141, 3) := by decide +kernel
theorem dX10_wanted_27 : decode cX10_wanted 27 = .ok (.iload_n 1, 1) := by decide +kernel
theorem dX10_wanted_28 : decode cX10_wanted 28 = .ok (.iaload, 1) := by decide +kernel
theorem dX10_wanted_29 : decode cX10_wanted 29 = .ok (.ineg, 1) := by decide +kernel
theorem dX10_wanted_30 : decode cX10_wanted 30 = .ok (.aload_n 0, 1) := by decide +kernel
theorem dX10_wanted_31 : decode cX10_wanted 31 = .ok (.getfield 141, 3) := by decide +kernel
theorem dX10_wanted_34 : decode cX10_wanted 34 = .ok (.iconst 2, 1) := by decide +kernel
theorem dX10_wanted_35 : decode cX10_wanted 35 = .ok (.iload_n 1, 1) := by decide +kernel
theorem dX10_wanted_36 : decode cX10_wanted 36 = .ok (.iadd, 1) := by decide +kernel
theorem dX10_wanted_37 : decode cX10_wanted 37 = .ok (.iaload, 1) := by decide +kernel
theorem dX10_wanted_38 : decode cX10_wanted 38 = .ok (.isub, 1) := by decide +kernel
theorem dX10_wanted_39 : decode cX10_wanted 39 = .ok (.istore_n 2, 1) := by decide +kernel
theorem dX10_wanted_40 : decode cX10_wanted 40 = .ok (.iconst 0, 1) := by decide +kernel
theorem dX10_wanted_41 : decode cX10_wanted 41 = .ok (.istore_n 3, 1) := by decide +kernel
theorem dX10_wanted_42 : decode cX10_wanted 42 = .ok (.iload_n 3, 1) := by decide +kernel
theorem dX10_wanted_43 : decode cX10_wanted 43 = .ok (.aload_n 0, 1) := by decide +kernel
theorem dX10_wanted_44 : decode cX10_wanted 44 = .ok (.getfield 154, 3) := by decide +kernel
theorem dX10_wanted_47 : decode cX10_wanted 47 = .ok (.if_icmp .ge 18, 3) := by decide +kernel
theorem dX10_wanted_50 : decode cX10_wanted 50 = .ok (.iload_n 2, 1) := by decide +kernel
theorem dX10_wanted_51 : decode cX10_wanted 51 = .ok (.aload_n 0, 1) := by decide +kernel
theorem dX10_wanted_52 : decode cX10_wanted 52 = .ok (.iload_n 3, 1) := by decide +kernel
theorem dX10_wanted_53 : decode cX10_wanted 53 = .ok (.iload_n 1, 1) := by decide +kernel
theorem dX10_wanted_54 : decode cX10_wanted 54 = .ok (.invokevirtual 263, 3) := by decide +kernel
theorem dX10_wanted_57 : decode cX10_wanted 57 = .ok (.iadd, 1) := by decide +kernel
theorem dX10_wanted_58 : decode cX10_wanted 58 = .ok (.istore_n 2, 1) := by decide +kernel
theorem dX10_wanted_59 : decode cX10_wanted 59 = .ok (.iinc 3 1, 3) := by decide +kernel
theorem dX10_wanted_62 : decode cX10_wanted 62 = .ok (.goto (-20), 3) := by decide +kernel
theorem dX10_wanted_65 : decode cX10_wanted 65 = .ok (.iload_n 2, 1) := by decide +kernel
theorem dX10_wanted_66 : decode cX10_wanted 66 = .ok (.ifCond .ge 7, 3) := by decide +kernel
theorem dX10_wanted_69 : decode cX10_wanted 69 = .ok (.iconst 0, 1) := by decide +kernel
theorem dX10_wanted_70 : decode cX10_wanted 70 = .ok (.goto 4, 3) := by decide +kernel
theorem dX10_wanted_73 : decode cX10_wanted 73 = .ok (.iload_n 2, 1) := by decide +kernel
theorem dX10_wanted_74 : decode cX10_wanted 74 = .ok (.ireturn, 1) := by decide +kernel
set_option maxRecDepth 20000 in
theorem ggX10_needsService_X10_isFree : GoodIn wsX10_needsService wsX10_isFree := goodIn_r _ [6, 7, 19, 20, 21, 22, 23, 24, 25, 26, 27, 28, 29, 30, 31, 32, 33, 34, 35, 36, 37, 38, 39, 40, 41, 42, 43, 44, 45, 46, 47, 48, 49, 50, 51, 52, 53, 54, 55, 56, 57, 58, 59, 60, 61, 62, 63, 64, 65, 66, 67, 68, 69, 70, 71, 72, 73] (by decide +kernel) (by decide +kernel)
set_option maxRecDepth 20000 in
theorem gX10_needsService_X10_isFree : GoodIn wsX10_needsService (wsV RX10 171 RX10 yX10_isFree wsX10_isFree) := goodIn_app (goodIn_of _ (by decide +kernel)) ggX10_needsService_X10_isFree
set_option maxRecDepth 20000 in
theorem ggX10_needsService_X10_bad : GoodIn wsX10_needsService wsX10_bad := goodIn_r _ [11, 12, 13, 14, 15, 5, 16, 17, 18, 19, 20, 21, 22, 23, 24, 25, 26, 27, 28, 29, 30, 31, 32, 33, 34, 35, 36, 37, 38, 39, 40, 41, 42, 43, 44, 45, 46, 47, 48, 49, 50, 51, 52, 53, 54, 55, 56, 57, 58, 59, 60, 61, 62, 63, 64, 65, 66, 67, 68, 69, 70, 71, 72, 73] (by decide +kernel) (by decide +kernel)
set_option maxRecDepth 20000 in
theorem gX10_needsService_X10_bad : GoodIn wsX10_needsService (wsV RX10 263 RX10 yX10_bad wsX10_bad) := goodIn_app (goodIn_of _ (by decide +kernel)) ggX10_needsService_X10_bad
theorem dX10_needsService_0 : decode cX10_needsService 0 = .ok (.aload_n 0, 1) := by decide +kernel
theorem dX10_needsService_1 : decode cX10_needsService 1 = .ok (.iload_n 1, 1) := by decide +kernel
theorem dX10_needsService_2 : decode cX10_needsService 2 = .ok (.invokevirtual 171, 3) := by decide +kernel
theorem dX10_needsService_5 : decode cX10_needsService 5 = .ok (.ifCond .eq 36, 3) := by decide +kernel
theorem dX10_needsService_8 : decode cX10_needsService 8 = .ok (.aload_n 0, 1) := by decide +kernel
theorem dX10_needsService_9 : decode cX10_needsService 9 = .ok (.getfield 16, 3) := by decide +kernel
theorem dX10_needsService_12 : decode cX10_needsService 12 = .ok (.iload_n 1, 1) := by decide +kernel
theorem dX10_needsService_13 : decode cX10_needsService 13 = .ok (.iaload, 1) := by decide +kernel
theorem dX10_needsService_14 : decode cX10_needsService 14 = .ok (.bipush 20, 2) := by decide +kernel
theorem dX10_needsService_16 : decode cX10_needsService 16 = .ok (.if_icmp .ge 21, 3) := by decide +kernel
theorem dX10_needsService_19 : decode cX10_needsService 19 = .ok (.aload_n 0, 1) := by decide +kernel
theorem dX10_needsService_20 : decode cX10_needsService 20 = .ok (.iload_n 1, 1) := by decide +kernel
theorem dX10_needsService_21 : decode cX10_needsService 21 = .ok (.iconst 0, 1) := by decide +kernel
theorem dX10_needsService_22 : decode cX10_needsService 22 = .ok (.invokevirtual 263, 3) := by decide +kernel
theorem dX10_needsService_25 : decode cX10_needsService 25 = .ok (.ifCond .gt 12, 3) := by decide +kernel
theorem dX10_needsService_28 : decode cX10_needsService 28 = .ok (.aload_n 0, 1) := by decide +kernel
theorem dX10_needsService_29 : decode cX10_needsService 29 = .ok (.iload_n 1, 1) := by decide +kernel
theorem dX10_needsService_30 : decode cX10_needsService 30 = .ok (.iconst 1, 1) := by decide +kernel
theorem dX10_needsService_31 : decode cX10_needsService 31 = .ok (.invokevirtual 263, 3) := by decide +kernel
theorem dX10_needsService_34 : decode cX10_needsService 34 = .ok (.ifCond .le 7, 3) := by decide +kernel
theorem dX10_needsService_37 : decode cX10_needsService 37 = .ok (.iconst 1, 1) := by decide +kernel
theorem dX10_needsService_38 : decode cX10_needsService 38 = .ok (.goto 4, 3) := by decide +kernel
theorem dX10_needsService_41 : decode cX10_needsService 41 = .ok (.iconst 0, 1) := by decide +kernel
theorem dX10_needsService_42 : decode cX10_needsService 42 = .ok (.ireturn, 1) := by decide +kernel
theorem dX10_far_0 : decode cX10_far 0 = .ok (.iload_n 0, 1) := by decide +kernel
theorem dX10_far_1 : decode cX10_far 1 = .ok (.iload_n 1, 1) := by decide +kernel
theorem dX10_far_2 : decode cX10_far 2 = .ok (.if_icmp .ge 9, 3) := by decide +kernel
theorem dX10_far_5 : decode cX10_far 5 = .ok (.iload_n 1, 1) := by decide +kernel
theorem dX10_far_6 : decode cX10_far 6 = .ok (.iload_n 0, 1) := by decide +kernel
theorem dX10_far_7 : decode cX10_far 7 = .ok (.isub, 1) := by decide +kernel
theorem dX10_far_8 : decode cX10_far 8 = .ok (.goto 6, 3) := by decide +kernel
theorem dX10_far_11 : decode cX10_far 11 = .ok (.iload_n 0, 1) := by decide +kernel
theorem dX10_far_12 : decode cX10_far 12 = .ok (.iload_n 1, 1) := by decide +kernel
theorem dX10_far_13 : decode cX10_far 13 = .ok (.isub, 1) := by decide +kernel
theorem dX10_far_14 : decode cX10_far 14 = .ok (.ireturn, 1) := by decide +kernel
set_option maxRecDepth 20000 in
theorem ggX10_lengthOf_X10_far : GoodIn wsX10_lengthOf wsX10_far := goodIn_r _ [8] (by decide +kernel) (by decide +kernel)
set_option maxRecDepth 20000 in
theorem gX10_lengthOf_X10_far : GoodIn wsX10_lengthOf (va_wsS RX10 269 yX10_far wsX10_far) := goodIn_app (goodIn_of _ (by decide +kernel)) ggX10_lengthOf_X10_far
theorem dX10_lengthOf_0 : decode cX10_lengthOf 0 = .ok (.iconst 0, 1) := by decide +kernel
theorem dX10_lengthOf_1 : decode cX10_lengthOf 1 = .ok (.istore_n 2, 1) := by decide +kernel
theorem dX10_lengthOf_2 : decode cX10_lengthOf 2 = .ok (.aload_n 0, 1) := by decide +kernel
theorem dX10_lengthOf_3 : decode cX10_lengthOf 3 = .ok (.getfield 138, 3) := by decide +kernel
theorem dX10_lengthOf_6 : decode cX10_lengthOf 6 = .ok (.iload_n 1, 1) := by decide +kernel
theorem dX10_lengthOf_7 : decode cX10_lengthOf 7 = .ok (.iaload, 1) := by decide +kernel
theorem dX10_lengthOf_8 : decode cX10_lengthOf 8 = .ok (.istore_n 3, 1) := by decide +kernel
theorem dX10_lengthOf_9 : decode cX10_lengthOf 9 = .ok (.iconst 0, 1) := by decide +kernel
theorem dX10_lengthOf_10 : decode cX10_lengthOf 10 = .ok (.istore 4, 2) := by decide +kernel
theorem dX10_lengthOf_12 : decode cX10_lengthOf 12 = .ok (.iload 4, 2) := by decide +kernel
theorem dX10_lengthOf_14 : decode cX10_lengthOf 14 = .ok (.aload_n 0, 1) := by decide +kernel
theorem dX10_lengthOf_15 : decode cX10_lengthOf 15 = .ok (.getfield 266, 3) := by decide +kernel
theorem dX10_lengthOf_18 : decode cX10_lengthOf 18 = .ok (.if_icmp .ge 41, 3) := by decide +kernel
theorem dX10_lengthOf_21 : decode cX10_lengthOf 21 = .ok (.iload_n 2, 1) := by decide +kernel
theorem dX10_lengthOf_22 : decode cX10_lengthOf 22 = .ok (.iload_n 3, 1) := by decide +kernel
theorem dX10_lengthOf_23 : decode cX10_lengthOf 23 = .ok (.aload_n 0, 1) := by decide +kernel
theorem dX10_lengthOf_24 : decode cX10_lengthOf 24 = .ok (.getfield 7, 3) := by decide +kernel
theorem dX10_lengthOf_27 : decode cX10_lengthOf 27 = .ok (.aload_n 0, 1) := by decide +kernel
theorem dX10_lengthOf_28 : decode cX10_lengthOf 28 = .ok (.getfield 144, 3) := by decide +kernel
theorem dX10_lengthOf_31 : decode cX10_lengthOf 31 = .ok (.iload 4, 2) := by decide +kernel
theorem dX10_lengthOf_33 : decode cX10_lengthOf 33 = .ok (.iaload, 1) := by decide +kernel
theorem dX10_lengthOf_34 : decode cX10_lengthOf 34 = .ok (.iaload, 1) := by decide +kernel
theorem dX10_lengthOf_35 : decode cX10_lengthOf 35 = .ok (.invokestatic 269, 3) := by decide +kernel
theorem dX10_lengthOf_38 : decode cX10_lengthOf 38 = .ok (.iadd, 1) := by decide +kernel
theorem dX10_lengthOf_39 : decode cX10_lengthOf 39 = .ok (.istore_n 2, 1) := by decide +kernel
theorem dX10_lengthOf_40 : decode cX10_lengthOf 40 = .ok (.aload_n 0, 1) := by decide +kernel
theorem dX10_lengthOf_41 : decode cX10_lengthOf 41 = .ok (.getfield 7, 3) := by decide +kernel
theorem dX10_lengthOf_44 : decode cX10_lengthOf 44 = .ok (.aload_n 0, 1) := by decide +kernel
theorem dX10_lengthOf_45 : decode cX10_lengthOf 45 = .ok (.getfield 144, 3) := by decide +kernel
theorem dX10_lengthOf_48 : decode cX10_lengthOf 48 = .ok (.iload 4, 2) := by decide +kernel
theorem dX10_lengthOf_50 : decode cX10_lengthOf 50 = .ok (.iaload, 1) := by decide +kernel
theorem dX10_lengthOf_51 : decode cX10_lengthOf 51 = .ok (.iaload, 1) := by decide +kernel
theorem dX10_lengthOf_52 : decode cX10_lengthOf 52 = .ok (.istore_n 3, 1) := by decide +kernel
theorem dX10_lengthOf_53 : decode cX10_lengthOf 53 = .ok (.iinc 4 1, 3) := by decide +kernel
theorem dX10_lengthOf_56 : decode cX10_lengthOf 56 = .ok (.goto (-44), 3) := by decide +kernel
theorem dX10_lengthOf_59 : decode cX10_lengthOf 59 = .ok (.iload_n 2, 1) := by decide +kernel
theorem dX10_lengthOf_60 : decode cX10_lengthOf 60 = .ok (.ireturn, 1) := by decide +kernel
theorem dX10_swap_0 : decode cX10_swap 0 = .ok (.aload_n 0, 1) := by decide +kernel
theorem dX10_swap_1 : decode cX10_swap 1 = .ok (.getfield 144, 3) := by decide +kernel
theorem dX10_swap_4 : decode cX10_swap 4 = .ok (.iload_n 1, 1) := by decide +kernel
theorem dX10_swap_5 : decode cX10_swap 5 = .ok (.iaload, 1) := by decide +kernel
theorem dX10_swap_6 : decode cX10_swap 6 = .ok (.istore_n 3, 1) := by decide +kernel
theorem dX10_swap_7 : decode cX10_swap 7 = .ok (.aload_n 0, 1) := by decide +kernel
theorem dX10_swap_8 : decode cX10_swap 8 = .ok (.getfield 144, 3) := by decide +kernel
theorem dX10_swap_11 : decode cX10_swap 11 = .ok (.iload_n 1, 1) := by decide +kernel
theorem dX10_swap_12 : decode cX10_swap 12 = .ok (.aload_n 0, 1) := by decide +kernel
theorem dX10_swap_13 : decode cX10_swap 13 = .ok (.getfield 144, 3) := by decide +kernel
theorem dX10_swap_16 : decode cX10_swap 16 = .ok (.iload_n 2, 1) := by decide +kernel
theorem dX10_swap_17 : decode cX10_swap 17 = .ok (.iaload, 1) := by decide +kernel
theorem dX10_swap_18 : decode cX10_swap 18 = .ok (.iastore, 1) := by decide +kernel
theorem dX10_swap_19 : decode cX10_swap 19 = .ok (.aload_n 0, 1) := by decide +kernel
theorem dX10_swap_20 : decode cX10_swap 20 = .ok (.getfield 144, 3) := by decide +kernel
theorem dX10_swap_23 : decode cX10_swap 23 = .ok (.iload_n 2, 1) := by decide +kernel
theorem dX10_swap_24 : decode cX10_swap 24 = .ok (.iload_n 3, 1) := by decide +kernel
theorem dX10_swap_25 : decode cX10_swap 25 = .ok (.iastore, 1) := by decide +kernel
theorem dX10_swap_26 : decode cX10_swap 26 = .ok (.return_, 1) := by decide +kernel
set_option maxRecDepth 20000 in
theorem ggX10_reorder_X10_swap : GoodIn wsX10_reorder wsX10_swap := goodIn_r _ [7, 2, 8, 9, 10, 11, 12, 13, 14, 15, 16, 17, 18, 19, 20, 21, 22, 23, 24, 25, 26, 27, 28, 29, 30, 31, 32, 33, 34, 35, 36, 37, 38, 39, 40, 41, 42, 43, 44, 45, 46, 47, 48, 49, 50, 51, 52, 53, 54, 55, 56, 57, 58, 59, 60, 61, 62] (by decide +kernel) (by decide +kernel)
set_option maxRecDepth 20000 in
theorem gX10_reorder_X10_swap : GoodIn wsX10_reorder (wsV RX10 272 RX10 yX10_swap wsX10_swap) := goodIn_app (goodIn_of _ (by decide +kernel)) ggX10_reorder_X10_swap
theorem dX10_reorder_0 : decode cX10_reorder 0 = .ok (.aload_n 0, 1) := by decide +kernel
theorem dX10_reorder_1 : decode cX10_reorder 1 = .ok (.getfield 266, 3) := by decide +kernel
theorem dX10_reorder_4 : decode cX10_reorder 4 = .ok (.iconst 2, 1) := by decide +kernel
theorem dX10_reorder_5 : decode cX10_reorder 5 = .ok (.isub, 1) := by decide +kernel
theorem dX10_reorder_6 : decode cX10_reorder 6 = .ok (.istore_n 1, 1) := by decide +kernel
theorem dX10_reorder_7 : decode cX10_reorder 7 = .ok (.iload_n 1, 1) := by decide +kernel
theorem dX10_reorder_8 : decode cX10_reorder 8 = .ok (.ifCond .lt 26, 3) := by decide +kernel
theorem dX10_reorder_11 : decode cX10_reorder 11 = .ok (.aload_n 0, 1) := by decide +kernel
theorem dX10_reorder_12 : decode cX10_reorder 12 = .ok (.getfield 144, 3) := by decide +kernel
theorem dX10_reorder_15 : decode cX10_reorder 15 = .ok (.iload_n 1, 1) := by decide +kernel
theorem dX10_reorder_16 : decode cX10_reorder 16 = .ok (.iaload, 1) := by decide +kernel
theorem dX10_reorder_17 : decode cX10_reorder 17 = .ok (.aload_n 0, 1) := by decide +kernel
theorem dX10_reorder_18 : decode cX10_reorder 18 = .ok (.getfield 144, 3) := by decide +kernel
theorem dX10_reorder_21 : decode cX10_reorder 21 = .ok (.iload_n 1, 1) := by decide +kernel
theorem dX10_reorder_22 : decode cX10_reorder 22 = .ok (.iconst 1, 1) := by decide +kernel
theorem dX10_reorder_23 : decode cX10_reorder 23 = .ok (.iadd, 1) := by decide +kernel
theorem dX10_reorder_24 : decode cX10_reorder 24 = .ok (.iaload, 1) := by decide +kernel
theorem dX10_reorder_25 : decode cX10_reorder 25 = .ok (.if_icmp .le 9, 3) := by decide +kernel
theorem dX10_reorder_28 : decode cX10_reorder 28 = .ok (.iinc 1 (-1), 3) := by decide +kernel
theorem dX10_reorder_31 : decode cX10_reorder 31 = .ok (.goto (-24), 3) := by decide +kernel
theorem dX10_reorder_34 : decode cX10_reorder 34 = .ok (.iload_n 1, 1) := by decide +kernel
theorem dX10_reorder_35 : decode cX10_reorder 35 = .ok (.ifCond .ge 5, 3) := by decide +kernel
theorem dX10_reorder_38 : decode cX10_reorder 38 = .ok (.iconst 0, 1) := by decide +kernel
theorem dX10_reorder_39 : decode cX10_reorder 39 = .ok (.ireturn, 1) := by decide +kernel
theorem dX10_reorder_40 : decode cX10_reorder 40 = .ok (.aload_n 0, 1) := by decide +kernel
theorem dX10_reorder_41 : decode cX10_reorder 41 = .ok (.getfield 266, 3) := by decide +kernel
theorem dX10_reorder_44 : decode cX10_reorder 44 = .ok (.iconst 1, 1) := by decide +kernel
theorem dX10_reorder_45 : decode cX10_reorder 45 = .ok (.isub, 1) := by decide +kernel
theorem dX10_reorder_46 : decode cX10_reorder 46 = .ok (.istore_n 2, 1) := by decide +kernel
theorem dX10_reorder_47 : decode cX10_reorder 47 = .ok (.aload_n 0, 1) := by decide +kernel
theorem dX10_reorder_48 : decode cX10_reorder 48 = .ok (.getfield 144, 3) := by decide +kernel
theorem dX10_reorder_51 : decode cX10_reorder 51 = .ok (.iload_n 2, 1) := by decide +kernel
theorem dX10_reorder_52 : decode cX10_reorder 52 = .ok (.iaload, 1) := by decide +kernel
theorem dX10_reorder_53 : decode cX10_reorder 53 = .ok (.aload_n 0, 1) := by decide +kernel
theorem dX10_reorder_54 : decode cX10_reorder 54 = .ok (.getfield 144, 3) := by decide +kernel
theorem dX10_reorder_57 : decode cX10_reorder 57 = .ok (.iload_n 1, 1) := by decide +kernel
theorem dX10_reorder_58 : decode cX10_reorder 58 = .ok (.iaload, 1) := by decide +kernel
theorem dX10_reorder_59 : decode cX10_reorder 59 = .ok (.if_icmp .ge 9, 3) := by decide +kernel
theorem dX10_reorder_62 : decode cX10_reorder 62 = .ok (.iinc 2 (-1), 3) := by decide +kernel
theorem dX10_reorder_65 : decode cX10_reorder 65 = .ok (.goto (-18), 3) := by decide +kernel
theorem dX10_reorder_68 : decode cX10_reorder 68 = .ok (.aload_n 0, 1) := by decide +kernel
theorem dX10_reorder_69 : decode cX10_reorder 69 = .ok (.iload_n 1, 1) := by decide +kernel
theorem dX10_reorder_70 : decode cX10_reorder 70 = .ok (.iload_n 2, 1) := by decide +kernel
theorem dX10_reorder_71 : decode cX10_reorder 71 = .ok (.invokevirtual 272, 3) := by decide +kernel
theorem dX10_reorder_74 : decode cX10_reorder 74 = .ok (.iload_n 1, 1) := by decide +kernel
theorem dX10_reorder_75 : decode cX10_reorder 75 = .ok (.iconst 1, 1) := by decide +kernel
theorem dX10_reorder_76 : decode cX10_reorder 76 = .ok (.iadd, 1) := by decide +kernel
theorem dX10_reorder_77 : decode cX10_reorder 77 = .ok (.istore_n 3, 1) := by decide +kernel
theorem dX10_reorder_78 : decode cX10_reorder 78 = .ok (.aload_n 0, 1) := by decide +kernel
theorem dX10_reorder_79 : decode cX10_reorder 79 = .ok (.getfield 266, 3) := by decide +kernel
theorem dX10_reorder_82 : decode cX10_reorder 82 = .ok (.iconst 1, 1) := by decide +kernel
theorem dX10_reorder_83 : decode cX10_reorder 83 = .ok (.isub, 1) := by decide +kernel
theorem dX10_reorder_84 : decode cX10_reorder 84 = .ok (.istore 4, 2) := by decide +kernel
theorem dX10_reorder_86 : decode cX10_reorder 86 = .ok (.iload_n 3, 1) := by decide +kernel
theorem dX10_reorder_87 : decode cX10_reorder 87 = .ok (.iload 4, 2) := by decide +kernel
theorem dX10_reorder_89 : decode cX10_reorder 89 = .ok (.if_icmp .ge 19, 3) := by decide +kernel
theorem dX10_reorder_92 : decode cX10_reorder 92 = .ok (.aload_n 0, 1) := by decide +kernel
theorem dX10_reorder_93 : decode cX10_reorder 93 = .ok (.iload_n 3, 1) := by decide +kernel
theorem dX10_reorder_94 : decode cX10_reorder 94 = .ok (.iload 4, 2) := by decide +kernel
theorem dX10_reorder_96 : decode cX10_reorder 96 = .ok (.invokevirtual 272, 3) := by decide +kernel
theorem dX10_reorder_99 : decode cX10_reorder 99 = .ok (.iinc 3 1, 3) := by decide +kernel
theorem dX10_reorder_102 : decode cX10_reorder 102 = .ok (.iinc 4 (-1), 3) := by decide +kernel
theorem dX10_reorder_105 : decode cX10_reorder 105 = .ok (.goto (-19), 3) := by decide +kernel
theorem dX10_reorder_108 : decode cX10_reorder 108 = .ok (.iconst 1, 1) := by decide +kernel
theorem dX10_reorder_109 : decode cX10_reorder 109 = .ok (.ireturn, 1) := by decide +kernel
set_option maxRecDepth 20000 in
theorem ggX10_makePlan_X10_needsService : GoodIn wsX10_makePlan wsX10_needsService := goodIn_r _ [10, 11, 12, 13, 14, 9, 15, 16, 17, 18, 19, 20, 21, 22, 23, 24, 25, 26, 27, 45, 46, 47, 48, 49, 50, 51, 52, 53, 54, 55, 56, 57, 58, 59, 60, 61, 62, 63, 64, 65, 66, 67, 68, 69, 70, 71, 72, 73, 74, 75, 76, 77, 78, 79, 80, 81, 82, 83, 84, 85, 86, 87, 88, 89, 90, 91, 92, 93, 94, 95, 96, 97, 98, 99] (by decide +kernel) (by decide +kernel)
set_option maxRecDepth 20000 in
theorem gX10_makePlan_X10_needsService : GoodIn wsX10_makePlan (wsV RX10 276 RX10 yX10_needsService wsX10_needsService) := goodIn_app (goodIn_of _ (by decide +kernel)) ggX10_makePlan_X10_needsService
set_option maxRecDepth 20000 in
theorem ggX10_makePlan_X10_lengthOf : GoodIn wsX10_makePlan wsX10_lengthOf := goodIn_r _ [31, 32, 1, 33, 3, 34, 35, 9, 36, 45, 46, 47, 48, 49, 50, 51, 52, 53, 54, 55, 56, 57, 58, 59, 60, 61, 62, 63, 64, 65, 66, 67, 68, 69, 70, 71, 72, 73, 74, 75, 76, 77, 78, 79, 80, 81, 82, 83, 84, 85, 86, 87, 88, 89, 90, 91, 92, 93, 94, 95, 96, 97, 98, 99] (by decide +kernel) (by decide +kernel)
set_option maxRecDepth 20000 in
theorem gX10_makePlan_X10_lengthOf : GoodIn wsX10_makePlan (wsV RX10 282 RX10 yX10_lengthOf wsX10_lengthOf) := goodIn_app (goodIn_of _ (by decide +kernel)) ggX10_makePlan_X10_lengthOf
set_option maxRecDepth 20000 in
theorem ggX10_makePlan_X10_reorder : GoodIn wsX10_makePlan wsX10_reorder := goodIn_r _ [40, 1, 3, 41, 42, 43, 9, 44, 45, 46, 47, 48, 49, 50, 51, 52, 53, 54, 55, 56, 57, 58, 59, 60, 61, 62, 63, 64, 65, 66, 67, 68, 69, 70, 71, 72, 73, 74, 75, 76, 77, 78, 79, 80, 81, 82, 83, 84, 85, 86, 87, 88, 89, 90, 91, 92, 93, 94, 95, 96, 97, 98, 99] (by decide +kernel) (by decide +kernel)
set_option maxRecDepth 20000 in
theorem gX10_makePlan_X10_reorder : GoodIn wsX10_makePlan (wsV RX10 285 RX10 yX10_reorder wsX10_reorder) := goodIn_app (goodIn_of _ (by decide +kernel)) ggX10_makePlan_X10_reorder
theorem dX10_makePlan_0 : decode cX10_makePlan 0 = .ok (.aload_n 0, 1) := by decide +kernel
theorem dX10_makePlan_1 : decode cX10_makePlan 1 = .ok (.iconst 0, 1) := by decide +kernel
theorem dX10_makePlan_2 : decode cX10_makePlan 2 = .ok (.putfield 266, 3) := by decide +kernel
theorem dX10_makePlan_5 : decode cX10_makePlan 5 = .ok (.iconst 0, 1) := by decide +kernel
theorem dX10_makePlan_6 : decode cX10_makePlan 6 = .ok (.istore_n 2, 1) := by decide +kernel
theorem dX10_makePlan_7 : decode cX10_makePlan 7 = .ok (.iload_n 2, 1) := by decide +kernel
theorem dX10_makePlan_8 : decode cX10_makePlan 8 = .ok (.aload_n 0, 1) := by decide +kernel
theorem dX10_makePlan_9 : decode cX10_makePlan 9 = .ok (.getfield 154, 3) := by decide +kernel
theorem dX10_makePlan_12 : decode cX10_makePlan 12 = .ok (.if_icmp .ge 37, 3) := by decide +kernel
theorem dX10_makePlan_15 : decode cX10_makePlan 15 = .ok (.aload_n 0, 1) := by decide +kernel
theorem dX10_makePlan_16 : decode cX10_makePlan 16 = .ok (.iload_n 2, 1) := by decide +kernel
theorem dX10_makePlan_17 : decode cX10_makePlan 17 = .ok (.invokevirtual 276, 3) := by decide +kernel
theorem dX10_makePlan_20 : decode cX10_makePlan 20 = .ok (.ifCond .eq 23, 3) := by decide +kernel
theorem dX10_makePlan_23 : decode cX10_makePlan 23 = .ok (.aload_n 0, 1) := by decide +kernel
theorem dX10_makePlan_24 : decode cX10_makePlan 24 = .ok (.getfield 144, 3) := by decide +kernel
theorem dX10_makePlan_27 : decode cX10_makePlan 27 = .ok (.aload_n 0, 1) := by decide +kernel
theorem dX10_makePlan_28 : decode cX10_makePlan 28 = .ok (.getfield 266, 3) := by decide +kernel
theorem dX10_makePlan_31 : decode cX10_makePlan 31 = .ok (.iload_n 2, 1) := by decide +kernel
theorem dX10_makePlan_32 : decode cX10_makePlan 32 = .ok (.iastore, 1) := by decide +kernel
theorem dX10_makePlan_33 : decode cX10_makePlan 33 = .ok (.aload_n 0, 1) := by decide +kernel
theorem dX10_makePlan_34 : decode cX10_makePlan 34 = .ok (.dup, 1) := by decide +kernel
theorem dX10_makePlan_35 : decode cX10_makePlan 35 = .ok (.getfield 266, 3) := by decide +kernel
theorem dX10_makePlan_38 : decode cX10_makePlan 38 = .ok (.iconst 1, 1) := by decide +kernel
theorem dX10_makePlan_39 : decode cX10_makePlan 39 = .ok (.iadd, 1) := by decide +kernel
theorem dX10_makePlan_40 : decode cX10_makePlan 40 = .ok (.putfield 266, 3) := by decide +kernel
theorem dX10_makePlan_43 : decode cX10_makePlan 43 = .ok (.iinc 2 1, 3) := by decide +kernel
theorem dX10_makePlan_46 : decode cX10_makePlan 46 = .ok (.goto (-39), 3) := by decide +kernel
theorem dX10_makePlan_49 : decode cX10_makePlan 49 = .ok (.aload_n 0, 1) := by decide +kernel
theorem dX10_makePlan_50 : decode cX10_makePlan 50 = .ok (.iconst (-1), 1) := by decide +kernel
theorem dX10_makePlan_51 : decode cX10_makePlan 51 = .ok (.putfield 279, 3) := by decide +kernel
theorem dX10_makePlan_54 : decode cX10_makePlan 54 = .ok (.iconst 1, 1) := by decide +kernel
theorem dX10_makePlan_55 : decode cX10_makePlan 55 = .ok (.istore_n 2, 1) := by decide +kernel
theorem dX10_makePlan_56 : decode cX10_makePlan 56 = .ok (.iload_n 2, 1) := by decide +kernel
theorem dX10_makePlan_57 : decode cX10_makePlan 57 = .ok (.ifCond .eq 70, 3) := by decide +kernel
theorem dX10_makePlan_60 : decode cX10_makePlan 60 = .ok (.aload_n 0, 1) := by decide +kernel
theorem dX10_makePlan_61 : decode cX10_makePlan 61 = .ok (.iload_n 1, 1) := by decide +kernel
theorem dX10_makePlan_62 : decode cX10_makePlan 62 = .ok (.invokevirtual 282, 3) := by decide +kernel
theorem dX10_makePlan_65 : decode cX10_makePlan 65 = .ok (.istore_n 3, 1) := by decide +kernel
theorem dX10_makePlan_66 : decode cX10_makePlan 66 = .ok (.aload_n 0, 1) := by decide +kernel
theorem dX10_makePlan_67 : decode cX10_makePlan 67 = .ok (.getfield 279, 3) := by decide +kernel
theorem dX10_makePlan_70 : decode cX10_makePlan 70 = .ok (.iconst (-1), 1) := by decide +kernel
theorem dX10_makePlan_71 : decode cX10_makePlan 71 = .ok (.if_icmp .eq 11, 3) := by decide +kernel
theorem dX10_makePlan_74 : decode cX10_makePlan 74 = .ok (.iload_n 3, 1) := by decide +kernel
theorem dX10_makePlan_75 : decode cX10_makePlan 75 = .ok (.aload_n 0, 1) := by decide +kernel
theorem dX10_makePlan_76 : decode cX10_makePlan 76 = .ok (.getfield 279, 3) := by decide +kernel
theorem dX10_makePlan_79 : decode cX10_makePlan 79 = .ok (.if_icmp .ge 40, 3) := by decide +kernel
theorem dX10_makePlan_82 : decode cX10_makePlan 82 = .ok (.aload_n 0, 1) := by decide +kernel
theorem dX10_makePlan_83 : decode cX10_makePlan 83 = .ok (.iload_n 3, 1) := by decide +kernel
theorem dX10_makePlan_84 : decode cX10_makePlan 84 = .ok (.putfield 279, 3) := by decide +kernel
theorem dX10_makePlan_87 : decode cX10_makePlan 87 = .ok (.iconst 0, 1) := by decide +kernel
theorem dX10_makePlan_88 : decode cX10_makePlan 88 = .ok (.istore 4, 2) := by decide +kernel
theorem dX10_makePlan_90 : decode cX10_makePlan 90 = .ok (.iload 4, 2) := by decide +kernel
theorem dX10_makePlan_92 : decode cX10_makePlan 92 = .ok (.aload_n 0, 1) := by decide +kernel
theorem dX10_makePlan_93 : decode cX10_makePlan 93 = .ok (.getfield 266, 3) := by decide +kernel
theorem dX10_makePlan_96 : decode cX10_makePlan 96 = .ok (.if_icmp .ge 23, 3) := by decide +kernel
theorem dX10_makePlan_99 : decode cX10_makePlan 99 = .ok (.aload_n 0, 1) := by decide +kernel
theorem dX10_makePlan_100 : decode cX10_makePlan 100 = .ok (.getfield 147, 3) := by decide +kernel
theorem dX10_makePlan_103 : decode cX10_makePlan 103 = .ok (.iload 4, 2) := by decide +kernel
theorem dX10_makePlan_105 : decode cX10_makePlan 105 = .ok (.aload_n 0, 1) := by decide +kernel
theorem dX10_makePlan_106 : decode cX10_makePlan 106 = .ok (.getfield 144, 3) := by decide +kernel
theorem dX10_makePlan_109 : decode cX10_makePlan 109 = .ok (.iload 4, 2) := by decide +kernel
theorem dX10_makePlan_111 : decode cX10_makePlan 111 = .ok (.iaload, 1) := by decide +kernel
theorem dX10_makePlan_112 : decode cX10_makePlan 112 = .ok (.iastore, 1) := by decide +kernel
theorem dX10_makePlan_113 : decode cX10_makePlan 113 = .ok (.iinc 4 1, 3) := by decide +kernel
theorem dX10_makePlan_116 : decode cX10_makePlan 116 = .ok (.goto (-26), 3) := by decide +kernel
theorem dX10_makePlan_119 : decode cX10_makePlan 119 = .ok (.aload_n 0, 1) := by decide +kernel
theorem dX10_makePlan_120 : decode cX10_makePlan 120 = .ok (.invokevirtual 285, 3) := by decide +kernel
theorem dX10_makePlan_123 : decode cX10_makePlan 123 = .ok (.istore_n 2, 1) := by decide +kernel
theorem dX10_makePlan_124 : decode cX10_makePlan 124 = .ok (.goto (-68), 3) := by decide +kernel
theorem dX10_makePlan_127 : decode cX10_makePlan 127 = .ok (.return_, 1) := by decide +kernel
set_option maxRecDepth 20000 in
theorem ggX10_way_X10_isVan : GoodIn wsX10_way wsX10_isVan := goodIn_r _ [5, 6, 7, 4, 8] (by decide +kernel) (by decide +kernel)
set_option maxRecDepth 20000 in
theorem gX10_way_X10_isVan : GoodIn wsX10_way (va_wsS RX10 257 yX10_isVan wsX10_isVan) := goodIn_app (goodIn_of _ (by decide +kernel)) ggX10_way_X10_isVan
set_option maxRecDepth 20000 in
theorem ggX10_way_X10_refused : GoodIn wsX10_way wsX10_refused := goodIn_r _ [12, 13, 60, 61, 62, 63, 64, 65, 66, 67, 68, 69, 70, 71, 72, 73, 74, 75, 76, 77, 78, 79, 80, 81, 82, 83, 84, 85, 86, 87, 88, 89, 90, 91, 92, 93, 94, 95, 96, 97, 98, 99, 100, 101, 102, 103, 104, 105, 106, 107, 108, 109, 110, 111, 112, 113, 114] (by decide +kernel) (by decide +kernel)
set_option maxRecDepth 20000 in
theorem gX10_way_X10_refused : GoodIn wsX10_way (wsV RX10 168 RX10 yX10_refused wsX10_refused) := goodIn_app (goodIn_of _ (by decide +kernel)) ggX10_way_X10_refused
set_option maxRecDepth 20000 in
theorem ggX10_way_X10_makePlan : GoodIn wsX10_way wsX10_makePlan := goodIn_r _ [17, 18, 19, 20, 1, 21, 22, 23, 24, 4, 25, 26, 27, 28, 29, 30, 31, 32, 33, 34, 35, 36, 37, 38, 39, 40, 41, 42, 43, 44, 45, 46, 47, 48, 49, 50, 51, 52, 53, 54, 55, 56, 57, 58, 59, 60, 61, 62, 63, 64, 65, 66, 67, 68, 69, 70, 71, 72, 73, 74, 75, 76, 77, 78, 79, 80, 81, 82, 83, 84, 85, 86, 87, 88, 89, 90, 91, 92, 93, 94, 95, 96, 97, 98, 99, 100, 101, 102, 103, 104, 105, 106, 107, 108, 109, 110, 111, 112, 113, 114] (by decide +kernel) (by decide +kernel)
set_option maxRecDepth 20000 in
theorem gX10_way_X10_makePlan : GoodIn wsX10_way (wsV RX10 289 RX10 yX10_makePlan wsX10_makePlan) := goodIn_app (goodIn_of _ (by decide +kernel)) ggX10_way_X10_makePlan
theorem dX10_way_0 : decode cX10_way 0 = .ok (.aload_n 0, 1) := by decide +kernel
theorem dX10_way_1 : decode cX10_way 1 = .ok (.iload_n 1, 1) := by decide +kernel
theorem dX10_way_2 : decode cX10_way 2 = .ok (.invokestatic 257, 3) := by decide +kernel
theorem dX10_way_5 : decode cX10_way 5 = .ok (.ifCond .eq 7, 3) := by decide +kernel
theorem dX10_way_8 : decode cX10_way 8 = .ok (.iconst 0, 1) := by decide +kernel
theorem dX10_way_9 : decode cX10_way 9 = .ok (.goto 4, 3) := by decide +kernel
theorem dX10_way_12 : decode cX10_way 12 = .ok (.iconst 1, 1) := by decide +kernel
theorem dX10_way_13 : decode cX10_way 13 = .ok (.invokevirtual 168, 3) := by decide +kernel
theorem dX10_way_16 : decode cX10_way 16 = .ok (.ifCond .eq 5, 3) := by decide +kernel
theorem dX10_way_19 : decode cX10_way 19 = .ok (.iconst 0, 1) := by decide +kernel
theorem dX10_way_20 : decode cX10_way 20 = .ok (.ireturn, 1) := by decide +kernel
theorem dX10_way_21 : decode cX10_way 21 = .ok (.aload_n 0, 1) := by decide +kernel
theorem dX10_way_22 : decode cX10_way 22 = .ok (.iload_n 1, 1) := by decide +kernel
theorem dX10_way_23 : decode cX10_way 23 = .ok (.invokevirtual 289, 3) := by decide +kernel
theorem dX10_way_26 : decode cX10_way 26 = .ok (.aload_n 0, 1) := by decide +kernel
theorem dX10_way_27 : decode cX10_way 27 = .ok (.getfield 279, 3) := by decide +kernel
theorem dX10_way_30 : decode cX10_way 30 = .ok (.ireturn, 1) := by decide +kernel
set_option maxRecDepth 20000 in
theorem ggX10_planned_X10_isVan : GoodIn wsX10_planned wsX10_isVan := goodIn_r _ [6, 7, 8, 5, 9] (by decide +kernel) (by decide +kernel)
set_option maxRecDepth 20000 in
theorem gX10_planned_X10_isVan : GoodIn wsX10_planned (va_wsS RX10 257 yX10_isVan wsX10_isVan) := goodIn_app (goodIn_of _ (by decide +kernel)) ggX10_planned_X10_isVan
set_option maxRecDepth 20000 in
theorem ggX10_planned_X10_makePlan : GoodIn wsX10_planned wsX10_makePlan := goodIn_r _ [13, 1, 14, 15, 16, 2, 17, 18, 19, 5, 20, 21, 22, 23, 24, 25, 26, 27, 28, 29, 30, 31, 32, 33, 34, 35, 36, 37, 38, 39, 40, 41, 42, 43, 44, 45, 46, 47, 48, 49, 50, 51, 52, 53, 54, 60, 61, 62, 63, 64, 65, 66, 67, 68, 69, 70, 71, 72, 73, 74, 75, 76, 77, 78, 79, 80, 81, 82, 83, 84, 85, 86, 87, 88, 89, 90, 91, 92, 93, 94, 95, 96, 97, 98, 99, 100, 101, 102, 103, 104, 105, 106, 107, 108, 109, 110, 111, 112, 113, 114] (by decide +kernel) (by decide +kernel)
set_option maxRecDepth 20000 in
theorem gX10_planned_X10_makePlan : GoodIn wsX10_planned (wsV RX10 289 RX10 yX10_makePlan wsX10_makePlan) := goodIn_app (goodIn_of _ (by decide +kernel)) ggX10_planned_X10_makePlan
set_option maxRecDepth 20000 in
theorem ggX10_planned_X10_refused : GoodIn wsX10_planned wsX10_refused := goodIn_r _ [58, 59, 60, 61, 62, 63, 64, 65, 66, 67, 68, 69, 70, 71, 72, 73, 74, 75, 76, 77, 78, 79, 80, 81, 82, 83, 84, 85, 86, 87, 88, 89, 90, 91, 92, 93, 94, 95, 96, 97, 98, 99, 100, 101, 102, 103, 104, 105, 106, 107, 108, 109, 110, 111, 112, 113, 114] (by decide +kernel) (by decide +kernel)
set_option maxRecDepth 20000 in
theorem gX10_planned_X10_refused : GoodIn wsX10_planned (wsV RX10 168 RX10 yX10_refused wsX10_refused) := goodIn_app (goodIn_of _ (by decide +kernel)) ggX10_planned_X10_refused
theorem dX10_planned_0 : decode cX10_planned 0 = .ok (.iload_n 1, 1) := by decide +kernel
theorem dX10_planned_1 : decode cX10_planned 1 = .ok (.invokestatic 257, 3) := by decide +kernel
theorem dX10_planned_4 : decode cX10_planned 4 = .ok (.ifCond .eq 11, 3) := by decide +kernel
theorem dX10_planned_7 : decode cX10_planned 7 = .ok (.iload_n 2, 1) := by decide +kernel
theorem dX10_planned_8 : decode cX10_planned 8 = .ok (.ifCond .lt 7, 3) := by decide +kernel
theorem dX10_planned_11 : decode cX10_planned 11 = .ok (.iconst 1, 1) := by decide +kernel
theorem dX10_planned_12 : decode cX10_planned 12 = .ok (.goto 4, 3) := by decide +kernel
theorem dX10_planned_15 : decode cX10_planned 15 = .ok (.iconst 0, 1) := by decide +kernel
theorem dX10_planned_16 : decode cX10_planned 16 = .ok (.istore_n 3, 1) := by decide +kernel
theorem dX10_planned_17 : decode cX10_planned 17 = .ok (.iload_n 3, 1) := by decide +kernel
theorem dX10_planned_18 : decode cX10_planned 18 = .ok (.ifCond .eq 8, 3) := by decide +kernel
theorem dX10_planned_21 : decode cX10_planned 21 = .ok (.aload_n 0, 1) := by decide +kernel
theorem dX10_planned_22 : decode cX10_planned 22 = .ok (.iload_n 1, 1) := by decide +kernel
theorem dX10_planned_23 : decode cX10_planned 23 = .ok (.invokevirtual 289, 3) := by decide +kernel
theorem dX10_planned_26 : decode cX10_planned 26 = .ok (.aload_n 0, 1) := by decide +kernel
theorem dX10_planned_27 : decode cX10_planned 27 = .ok (.iload_n 3, 1) := by decide +kernel
theorem dX10_planned_28 : decode cX10_planned 28 = .ok (.ifCond .eq 15, 3) := by decide +kernel
theorem dX10_planned_31 : decode cX10_planned 31 = .ok (.iload_n 2, 1) := by decide +kernel
theorem dX10_planned_32 : decode cX10_planned 32 = .ok (.aload_n 0, 1) := by decide +kernel
theorem dX10_planned_33 : decode cX10_planned 33 = .ok (.getfield 266, 3) := by decide +kernel
theorem dX10_planned_36 : decode cX10_planned 36 = .ok (.if_icmp .ge 7, 3) := by decide +kernel
theorem dX10_planned_39 : decode cX10_planned 39 = .ok (.iconst 0, 1) := by decide +kernel
theorem dX10_planned_40 : decode cX10_planned 40 = .ok (.goto 4, 3) := by decide +kernel
theorem dX10_planned_43 : decode cX10_planned 43 = .ok (.iconst 1, 1) := by decide +kernel
theorem dX10_planned_44 : decode cX10_planned 44 = .ok (.invokevirtual 168, 3) := by decide +kernel
theorem dX10_planned_47 : decode cX10_planned 47 = .ok (.ifCond .eq 7, 3) := by decide +kernel
theorem dX10_planned_50 : decode cX10_planned 50 = .ok (.iconst 0, 1) := by decide +kernel
theorem dX10_planned_51 : decode cX10_planned 51 = .ok (.goto 9, 3) := by decide +kernel
theorem dX10_planned_54 : decode cX10_planned 54 = .ok (.aload_n 0, 1) := by decide +kernel
theorem dX10_planned_55 : decode cX10_planned 55 = .ok (.getfield 147, 3) := by decide +kernel
theorem dX10_planned_58 : decode cX10_planned 58 = .ok (.iload_n 2, 1) := by decide +kernel
theorem dX10_planned_59 : decode cX10_planned 59 = .ok (.iaload, 1) := by decide +kernel
theorem dX10_planned_60 : decode cX10_planned 60 = .ok (.ireturn, 1) := by decide +kernel
set_option maxRecDepth 20000 in
theorem ggX10_mend_X10_isBad : GoodIn wsX10_mend wsX10_isBad := goodIn_r _ [10, 4, 5, 11, 12, 13, 14, 15, 16, 17, 18, 19, 20, 21, 22, 23, 24, 25, 26, 27, 28, 29, 30, 31, 32, 33, 34, 35, 36, 37, 38, 39, 40, 41, 42, 43, 44, 45, 46, 47, 48, 49, 50, 51, 52, 53, 54, 55, 56, 57, 58, 59, 60, 61, 62, 63, 64, 65] (by decide +kernel) (by decide +kernel)
set_option maxRecDepth 20000 in
theorem gX10_mend_X10_isBad : GoodIn wsX10_mend (wsV RX10 260 RX10 yX10_isBad wsX10_isBad) := goodIn_app (goodIn_of _ (by decide +kernel)) ggX10_mend_X10_isBad
theorem dX10_mend_0 : decode cX10_mend 0 = .ok (.bipush 8, 2) := by decide +kernel
theorem dX10_mend_2 : decode cX10_mend 2 = .ok (.iload_n 2, 1) := by decide +kernel
theorem dX10_mend_3 : decode cX10_mend 3 = .ok (.imul, 1) := by decide +kernel
theorem dX10_mend_4 : decode cX10_mend 4 = .ok (.istore 4, 2) := by decide +kernel
theorem dX10_mend_6 : decode cX10_mend 6 = .ok (.iload 4, 2) := by decide +kernel
theorem dX10_mend_8 : decode cX10_mend 8 = .ok (.bipush 8, 2) := by decide +kernel
theorem dX10_mend_10 : decode cX10_mend 10 = .ok (.iload_n 2, 1) := by decide +kernel
theorem dX10_mend_11 : decode cX10_mend 11 = .ok (.imul, 1) := by decide +kernel
theorem dX10_mend_12 : decode cX10_mend 12 = .ok (.aload_n 0, 1) := by decide +kernel
theorem dX10_mend_13 : decode cX10_mend 13 = .ok (.getfield 28, 3) := by decide +kernel
theorem dX10_mend_16 : decode cX10_mend 16 = .ok (.iload_n 2, 1) := by decide +kernel
theorem dX10_mend_17 : decode cX10_mend 17 = .ok (.iaload, 1) := by decide +kernel
theorem dX10_mend_18 : decode cX10_mend 18 = .ok (.iadd, 1) := by decide +kernel
theorem dX10_mend_19 : decode cX10_mend 19 = .ok (.if_icmp .ge 82, 3) := by decide +kernel
theorem dX10_mend_22 : decode cX10_mend 22 = .ok (.aload_n 0, 1) := by decide +kernel
theorem dX10_mend_23 : decode cX10_mend 23 = .ok (.getfield 141, 3) := by decide +kernel
theorem dX10_mend_26 : decode cX10_mend 26 = .ok (.iconst 2, 1) := by decide +kernel
theorem dX10_mend_27 : decode cX10_mend 27 = .ok (.iload_n 1, 1) := by decide +kernel
theorem dX10_mend_28 : decode cX10_mend 28 = .ok (.imul, 1) := by decide +kernel
theorem dX10_mend_29 : decode cX10_mend 29 = .ok (.iload_n 3, 1) := by decide +kernel
theorem dX10_mend_30 : decode cX10_mend 30 = .ok (.iadd, 1) := by decide +kernel
theorem dX10_mend_31 : decode cX10_mend 31 = .ok (.iaload, 1) := by decide +kernel
theorem dX10_mend_32 : decode cX10_mend 32 = .ok (.ifCond .le 69, 3) := by decide +kernel
theorem dX10_mend_35 : decode cX10_mend 35 = .ok (.aload_n 0, 1) := by decide +kernel
theorem dX10_mend_36 : decode cX10_mend 36 = .ok (.iload 4, 2) := by decide +kernel
theorem dX10_mend_38 : decode cX10_mend 38 = .ok (.iload_n 3, 1) := by decide +kernel
theorem dX10_mend_39 : decode cX10_mend 39 = .ok (.invokevirtual 260, 3) := by decide +kernel
theorem dX10_mend_42 : decode cX10_mend 42 = .ok (.ifCond .eq 53, 3) := by decide +kernel
theorem dX10_mend_45 : decode cX10_mend 45 = .ok (.aload_n 0, 1) := by decide +kernel
theorem dX10_mend_46 : decode cX10_mend 46 = .ok (.getfield 141, 3) := by decide +kernel
theorem dX10_mend_49 : decode cX10_mend 49 = .ok (.iconst 2, 1) := by decide +kernel
theorem dX10_mend_50 : decode cX10_mend 50 = .ok (.iload_n 1, 1) := by decide +kernel
theorem dX10_mend_51 : decode cX10_mend 51 = .ok (.imul, 1) := by decide +kernel
theorem dX10_mend_52 : decode cX10_mend 52 = .ok (.iload_n 3, 1) := by decide +kernel
theorem dX10_mend_53 : decode cX10_mend 53 = .ok (.iadd, 1) := by decide +kernel
theorem dX10_mend_54 : decode cX10_mend 54 = .ok (.dup2, 1) := by decide +kernel
theorem dX10_mend_55 : decode cX10_mend 55 = .ok (.iaload, 1) := by decide +kernel
theorem dX10_mend_56 : decode cX10_mend 56 = .ok (.iconst 1, 1) := by decide +kernel
theorem dX10_mend_57 : decode cX10_mend 57 = .ok (.isub, 1) := by decide +kernel
theorem dX10_mend_58 : decode cX10_mend 58 = .ok (.iastore, 1) := by decide +kernel
theorem dX10_mend_59 : decode cX10_mend 59 = .ok (.iload_n 3, 1) := by decide +kernel
theorem dX10_mend_60 : decode cX10_mend 60 = .ok (.ifCond .ne 27, 3) := by decide +kernel
theorem dX10_mend_63 : decode cX10_mend 63 = .ok (.aload_n 0, 1) := by decide +kernel
theorem dX10_mend_64 : decode cX10_mend 64 = .ok (.getfield 70, 3) := by decide +kernel
theorem dX10_mend_67 : decode cX10_mend 67 = .ok (.aload_n 0, 1) := by decide +kernel
theorem dX10_mend_68 : decode cX10_mend 68 = .ok (.getfield 52, 3) := by decide +kernel
theorem dX10_mend_71 : decode cX10_mend 71 = .ok (.iload 4, 2) := by decide +kernel
theorem dX10_mend_73 : decode cX10_mend 73 = .ok (.iaload, 1) := by decide +kernel
theorem dX10_mend_74 : decode cX10_mend 74 = .ok (.iconst 1, 1) := by decide +kernel
theorem dX10_mend_75 : decode cX10_mend 75 = .ok (.bastore, 1) := by decide +kernel
theorem dX10_mend_76 : decode cX10_mend 76 = .ok (.aload_n 0, 1) := by decide +kernel
theorem dX10_mend_77 : decode cX10_mend 77 = .ok (.getfield 52, 3) := by decide +kernel
theorem dX10_mend_80 : decode cX10_mend 80 = .ok (.iload 4, 2) := by decide +kernel
theorem dX10_mend_82 : decode cX10_mend 82 = .ok (.iconst (-1), 1) := by decide +kernel
theorem dX10_mend_83 : decode cX10_mend 83 = .ok (.iastore, 1) := by decide +kernel
theorem dX10_mend_84 : decode cX10_mend 84 = .ok (.goto 11, 3) := by decide +kernel
theorem dX10_mend_87 : decode cX10_mend 87 = .ok (.aload_n 0, 1) := by decide +kernel
theorem dX10_mend_88 : decode cX10_mend 88 = .ok (.getfield 49, 3) := by decide +kernel
theorem dX10_mend_91 : decode cX10_mend 91 = .ok (.iload 4, 2) := by decide +kernel
theorem dX10_mend_93 : decode cX10_mend 93 = .ok (.iconst 0, 1) := by decide +kernel
theorem dX10_mend_94 : decode cX10_mend 94 = .ok (.iastore, 1) := by decide +kernel
theorem dX10_mend_95 : decode cX10_mend 95 = .ok (.iinc 4 1, 3) := by decide +kernel
theorem dX10_mend_98 : decode cX10_mend 98 = .ok (.goto (-92), 3) := by decide +kernel
theorem dX10_mend_101 : decode cX10_mend 101 = .ok (.return_, 1) := by decide +kernel
set_option maxRecDepth 20000 in
theorem ggX10_go_X10_isVan : GoodIn wsX10_go wsX10_isVan := goodIn_r _ [11, 12, 13, 10, 14] (by decide +kernel) (by decide +kernel)
set_option maxRecDepth 20000 in
theorem gX10_go_X10_isVan : GoodIn wsX10_go (va_wsS RX10 257 yX10_isVan wsX10_isVan) := goodIn_app (goodIn_of _ (by decide +kernel)) ggX10_go_X10_isVan
set_option maxRecDepth 20000 in
theorem ggX10_go_X10_makePlan : GoodIn wsX10_go wsX10_makePlan := goodIn_r _ [18, 1, 19, 20, 21, 2, 22, 23, 24, 10, 25, 3, 26, 27, 28, 29, 30, 31, 32, 33, 34, 35, 36, 37, 38, 39, 40, 41, 42, 43, 44, 45, 6, 7, 46, 47, 48, 49, 50, 51, 52, 53, 54, 55, 56, 68, 69, 70, 71, 72, 73, 74, 75, 76, 77, 78, 79, 80, 81, 82, 83, 84, 85, 86, 87, 88, 89, 90, 91, 92, 93, 94, 95, 96, 97, 98, 99, 100, 101, 102, 103, 104, 105, 106, 107, 108, 109, 110, 111, 112, 113, 114, 115, 116, 117, 118, 119, 120, 121, 122] (by decide +kernel) (by decide +kernel)
set_option maxRecDepth 20000 in
theorem gX10_go_X10_makePlan : GoodIn wsX10_go (wsV RX10 289 RX10 yX10_makePlan wsX10_makePlan) := goodIn_app (goodIn_of _ (by decide +kernel)) ggX10_go_X10_makePlan
set_option maxRecDepth 20000 in
theorem ggX10_go_X10_refused : GoodIn wsX10_go wsX10_refused := goodIn_r _ [60, 61, 68, 69, 70, 71, 72, 73, 74, 75, 76, 77, 78, 79, 80, 81, 82, 83, 84, 85, 86, 87, 88, 89, 90, 91, 92, 93, 94, 95, 96, 97, 98, 99, 100, 101, 102, 103, 104, 105, 106, 107, 108, 109, 110, 111, 112, 113, 114, 115, 116, 117, 118, 119, 120, 121, 122] (by decide +kernel) (by decide +kernel)
set_option maxRecDepth 20000 in
theorem gX10_go_X10_refused : GoodIn wsX10_go (wsV RX10 168 RX10 yX10_refused wsX10_refused) := goodIn_app (goodIn_of _ (by decide +kernel)) ggX10_go_X10_refused
set_option maxRecDepth 20000 in
theorem ggX10_go_X10_mend : GoodIn wsX10_go wsX10_mend := goodIn_r _ [65, 35, 66, 67, 40, 41, 36, 37, 38, 10, 39, 68, 69, 70, 71, 72, 73, 74, 75, 76, 77, 78, 79, 80, 81, 82, 83, 84, 85, 86, 87, 88, 89, 90, 91, 92, 93, 94, 95, 96, 97, 98, 99, 100, 101, 102, 103, 104, 105, 106, 107, 108, 109, 110, 111, 112, 113, 114, 115, 116, 117, 118, 119, 120, 121, 122] (by decide +kernel) (by decide +kernel)
set_option maxRecDepth 20000 in
theorem gX10_go_X10_mend : GoodIn wsX10_go (wsV RX10 292 RX10 yX10_mend wsX10_mend) := goodIn_app (goodIn_of _ (by decide +kernel)) ggX10_go_X10_mend
theorem dX10_go_0 : decode cX10_go 0 = .ok (.iload_n 1, 1) := by decide +kernel
theorem dX10_go_1 : decode cX10_go 1 = .ok (.invokestatic 257, 3) := by decide +kernel
theorem dX10_go_4 : decode cX10_go 4 = .ok (.ifCond .eq 8, 3) := by decide +kernel
theorem dX10_go_7 : decode cX10_go 7 = .ok (.aload_n 0, 1) := by decide +kernel
theorem dX10_go_8 : decode cX10_go 8 = .ok (.iload_n 1, 1) := by decide +kernel
theorem dX10_go_9 : decode cX10_go 9 = .ok (.invokevirtual 289, 3) := by decide +kernel
theorem dX10_go_12 : decode cX10_go 12 = .ok (.aload_n 0, 1) := by decide +kernel
theorem dX10_go_13 : decode cX10_go 13 = .ok (.iload_n 1, 1) := by decide +kernel
theorem dX10_go_14 : decode cX10_go 14 = .ok (.invokestatic 257, 3) := by decide +kernel
theorem dX10_go_17 : decode cX10_go 17 = .ok (.ifCond .ne 7, 3) := by decide +kernel
theorem dX10_go_20 : decode cX10_go 20 = .ok (.iconst 1, 1) := by decide +kernel
theorem dX10_go_21 : decode cX10_go 21 = .ok (.goto 15, 3) := by decide +kernel
theorem dX10_go_24 : decode cX10_go 24 = .ok (.aload_n 0, 1) := by decide +kernel
theorem dX10_go_25 : decode cX10_go 25 = .ok (.getfield 266, 3) := by decide +kernel
theorem dX10_go_28 : decode cX10_go 28 = .ok (.ifCond .le 7, 3) := by decide +kernel
theorem dX10_go_31 : decode cX10_go 31 = .ok (.iconst 0, 1) := by decide +kernel
theorem dX10_go_32 : decode cX10_go 32 = .ok (.goto 4, 3) := by decide +kernel
theorem dX10_go_35 : decode cX10_go 35 = .ok (.iconst 2, 1) := by decide +kernel
theorem dX10_go_36 : decode cX10_go 36 = .ok (.invokevirtual 168, 3) := by decide +kernel
theorem dX10_go_39 : decode cX10_go 39 = .ok (.ifCond .eq 5, 3) := by decide +kernel
theorem dX10_go_42 : decode cX10_go 42 = .ok (.iconst 0, 1) := by decide +kernel
theorem dX10_go_43 : decode cX10_go 43 = .ok (.ireturn, 1) := by decide +kernel
theorem dX10_go_44 : decode cX10_go 44 = .ok (.iconst 0, 1) := by decide +kernel
theorem dX10_go_45 : decode cX10_go 45 = .ok (.istore_n 2, 1) := by decide +kernel
theorem dX10_go_46 : decode cX10_go 46 = .ok (.iconst 0, 1) := by decide +kernel
theorem dX10_go_47 : decode cX10_go 47 = .ok (.istore_n 3, 1) := by decide +kernel
theorem dX10_go_48 : decode cX10_go 48 = .ok (.iload_n 3, 1) := by decide +kernel
theorem dX10_go_49 : decode cX10_go 49 = .ok (.aload_n 0, 1) := by decide +kernel
theorem dX10_go_50 : decode cX10_go 50 = .ok (.getfield 266, 3) := by decide +kernel
theorem dX10_go_53 : decode cX10_go 53 = .ok (.if_icmp .ge 97, 3) := by decide +kernel
theorem dX10_go_56 : decode cX10_go 56 = .ok (.aload_n 0, 1) := by decide +kernel
theorem dX10_go_57 : decode cX10_go 57 = .ok (.getfield 147, 3) := by decide +kernel
theorem dX10_go_60 : decode cX10_go 60 = .ok (.iload_n 3, 1) := by decide +kernel
theorem dX10_go_61 : decode cX10_go 61 = .ok (.iaload, 1) := by decide +kernel
theorem dX10_go_62 : decode cX10_go 62 = .ok (.istore 4, 2) := by decide +kernel
theorem dX10_go_64 : decode cX10_go 64 = .ok (.iload_n 2, 1) := by decide +kernel
theorem dX10_go_65 : decode cX10_go 65 = .ok (.aload_n 0, 1) := by decide +kernel
theorem dX10_go_66 : decode cX10_go 66 = .ok (.getfield 16, 3) := by decide +kernel
theorem dX10_go_69 : decode cX10_go 69 = .ok (.iload 4, 2) := by decide +kernel
theorem dX10_go_71 : decode cX10_go 71 = .ok (.iaload, 1) := by decide +kernel
theorem dX10_go_72 : decode cX10_go 72 = .ok (.iadd, 1) := by decide +kernel
theorem dX10_go_73 : decode cX10_go 73 = .ok (.istore_n 2, 1) := by decide +kernel
theorem dX10_go_74 : decode cX10_go 74 = .ok (.aload_n 0, 1) := by decide +kernel
theorem dX10_go_75 : decode cX10_go 75 = .ok (.getfield 22, 3) := by decide +kernel
theorem dX10_go_78 : decode cX10_go 78 = .ok (.iload 4, 2) := by decide +kernel
theorem dX10_go_80 : decode cX10_go 80 = .ok (.dup2, 1) := by decide +kernel
theorem dX10_go_81 : decode cX10_go 81 = .ok (.iaload, 1) := by decide +kernel
theorem dX10_go_82 : decode cX10_go 82 = .ok (.aload_n 0, 1) := by decide +kernel
theorem dX10_go_83 : decode cX10_go 83 = .ok (.getfield 19, 3) := by decide +kernel
theorem dX10_go_86 : decode cX10_go 86 = .ok (.iload 4, 2) := by decide +kernel
theorem dX10_go_88 : decode cX10_go 88 = .ok (.iaload, 1) := by decide +kernel
theorem dX10_go_89 : decode cX10_go 89 = .ok (.aload_n 0, 1) := by decide +kernel
theorem dX10_go_90 : decode cX10_go 90 = .ok (.getfield 16, 3) := by decide +kernel
theorem dX10_go_93 : decode cX10_go 93 = .ok (.iload 4, 2) := by decide +kernel
theorem dX10_go_95 : decode cX10_go 95 = .ok (.iaload, 1) := by decide +kernel
theorem dX10_go_96 : decode cX10_go 96 = .ok (.isub, 1) := by decide +kernel
theorem dX10_go_97 : decode cX10_go 97 = .ok (.iadd, 1) := by decide +kernel
theorem dX10_go_98 : decode cX10_go 98 = .ok (.iastore, 1) := by decide +kernel
theorem dX10_go_99 : decode cX10_go 99 = .ok (.aload_n 0, 1) := by decide +kernel
theorem dX10_go_100 : decode cX10_go 100 = .ok (.getfield 16, 3) := by decide +kernel
theorem dX10_go_103 : decode cX10_go 103 = .ok (.iload 4, 2) := by decide +kernel
theorem dX10_go_105 : decode cX10_go 105 = .ok (.iconst 0, 1) := by decide +kernel
theorem dX10_go_106 : decode cX10_go 106 = .ok (.iastore, 1) := by decide +kernel
theorem dX10_go_107 : decode cX10_go 107 = .ok (.aload_n 0, 1) := by decide +kernel
theorem dX10_go_108 : decode cX10_go 108 = .ok (.getfield 19, 3) := by decide +kernel
theorem dX10_go_111 : decode cX10_go 111 = .ok (.iload 4, 2) := by decide +kernel
theorem dX10_go_113 : decode cX10_go 113 = .ok (.iconst 0, 1) := by decide +kernel
theorem dX10_go_114 : decode cX10_go 114 = .ok (.iastore, 1) := by decide +kernel
theorem dX10_go_115 : decode cX10_go 115 = .ok (.aload_n 0, 1) := by decide +kernel
theorem dX10_go_116 : decode cX10_go 116 = .ok (.iload_n 1, 1) := by decide +kernel
theorem dX10_go_117 : decode cX10_go 117 = .ok (.iload 4, 2) := by decide +kernel
theorem dX10_go_119 : decode cX10_go 119 = .ok (.iconst 0, 1) := by decide +kernel
theorem dX10_go_120 : decode cX10_go 120 = .ok (.invokevirtual 292, 3) := by decide +kernel
theorem dX10_go_123 : decode cX10_go 123 = .ok (.aload_n 0, 1) := by decide +kernel
theorem dX10_go_124 : decode cX10_go 124 = .ok (.iload_n 1, 1) := by decide +kernel
theorem dX10_go_125 : decode cX10_go 125 = .ok (.iload 4, 2) := by decide +kernel
theorem dX10_go_127 : decode cX10_go 127 = .ok (.iconst 1, 1) := by decide +kernel
theorem dX10_go_128 : decode cX10_go 128 = .ok (.invokevirtual 292, 3) := by decide +kernel
theorem dX10_go_131 : decode cX10_go 131 = .ok (.aload_n 0, 1) := by decide +kernel
theorem dX10_go_132 : decode cX10_go 132 = .ok (.getfield 138, 3) := by decide +kernel
theorem dX10_go_135 : decode cX10_go 135 = .ok (.iload_n 1, 1) := by decide +kernel
theorem dX10_go_136 : decode cX10_go 136 = .ok (.aload_n 0, 1) := by decide +kernel
theorem dX10_go_137 : decode cX10_go 137 = .ok (.getfield 7, 3) := by decide +kernel
theorem dX10_go_140 : decode cX10_go 140 = .ok (.iload 4, 2) := by decide +kernel
theorem dX10_go_142 : decode cX10_go 142 = .ok (.iaload, 1) := by decide +kernel
theorem dX10_go_143 : decode cX10_go 143 = .ok (.iastore, 1) := by decide +kernel
theorem dX10_go_144 : decode cX10_go 144 = .ok (.iinc 3 1, 3) := by decide +kernel
theorem dX10_go_147 : decode cX10_go 147 = .ok (.goto (-99), 3) := by decide +kernel
theorem dX10_go_150 : decode cX10_go 150 = .ok (.iload_n 2, 1) := by decide +kernel
theorem dX10_go_151 : decode cX10_go 151 = .ok (.ireturn, 1) := by decide +kernel
set_option maxRecDepth 20000 in
theorem ggX10_vanAt_X10_isVan : GoodIn wsX10_vanAt wsX10_isVan := goodIn_r _ [5, 6, 7, 4, 8] (by decide +kernel) (by decide +kernel)
set_option maxRecDepth 20000 in
theorem gX10_vanAt_X10_isVan : GoodIn wsX10_vanAt (va_wsS RX10 257 yX10_isVan wsX10_isVan) := goodIn_app (goodIn_of _ (by decide +kernel)) ggX10_vanAt_X10_isVan
set_option maxRecDepth 20000 in
theorem ggX10_vanAt_X10_refused : GoodIn wsX10_vanAt wsX10_refused := goodIn_r _ [12, 13, 14, 15, 16, 17, 18, 19, 20, 21, 22, 23, 24, 25, 26, 27, 28, 29, 30, 31, 32, 33, 34, 35, 36, 37, 38, 39, 40, 41, 42, 43, 44, 45, 46, 47, 48, 49, 50, 51, 52, 53, 54, 55, 56, 57, 58, 59, 60, 61, 62, 63, 64, 65, 66, 67, 68] (by decide +kernel) (by decide +kernel)
set_option maxRecDepth 20000 in
theorem gX10_vanAt_X10_refused : GoodIn wsX10_vanAt (wsV RX10 168 RX10 yX10_refused wsX10_refused) := goodIn_app (goodIn_of _ (by decide +kernel)) ggX10_vanAt_X10_refused
theorem dX10_vanAt_0 : decode cX10_vanAt 0 = .ok (.aload_n 0, 1) := by decide +kernel
theorem dX10_vanAt_1 : decode cX10_vanAt 1 = .ok (.iload_n 1, 1) := by decide +kernel
theorem dX10_vanAt_2 : decode cX10_vanAt 2 = .ok (.invokestatic 257, 3) := by decide +kernel
theorem dX10_vanAt_5 : decode cX10_vanAt 5 = .ok (.ifCond .eq 7, 3) := by decide +kernel
theorem dX10_vanAt_8 : decode cX10_vanAt 8 = .ok (.iconst 0, 1) := by decide +kernel
theorem dX10_vanAt_9 : decode cX10_vanAt 9 = .ok (.goto 4, 3) := by decide +kernel
theorem dX10_vanAt_12 : decode cX10_vanAt 12 = .ok (.iconst 1, 1) := by decide +kernel
theorem dX10_vanAt_13 : decode cX10_vanAt 13 = .ok (.invokevirtual 168, 3) := by decide +kernel
theorem dX10_vanAt_16 : decode cX10_vanAt 16 = .ok (.ifCond .eq 7, 3) := by decide +kernel
theorem dX10_vanAt_19 : decode cX10_vanAt 19 = .ok (.iconst 0, 1) := by decide +kernel
theorem dX10_vanAt_20 : decode cX10_vanAt 20 = .ok (.goto 9, 3) := by decide +kernel
theorem dX10_vanAt_23 : decode cX10_vanAt 23 = .ok (.aload_n 0, 1) := by decide +kernel
theorem dX10_vanAt_24 : decode cX10_vanAt 24 = .ok (.getfield 138, 3) := by decide +kernel
theorem dX10_vanAt_27 : decode cX10_vanAt 27 = .ok (.iload_n 1, 1) := by decide +kernel
theorem dX10_vanAt_28 : decode cX10_vanAt 28 = .ok (.iaload, 1) := by decide +kernel
theorem dX10_vanAt_29 : decode cX10_vanAt 29 = .ok (.ireturn, 1) := by decide +kernel
theorem dJ9_abs_0f7a4_0 : decode cJ9_abs_0f7a4 0 = .ok (.iload_n 0, 1) := by decide +kernel
theorem dJ9_abs_0f7a4_1 : decode cJ9_abs_0f7a4 1 = .ok (.ifCond .ge 8, 3) := by decide +kernel
theorem dJ9_abs_0f7a4_4 : decode cJ9_abs_0f7a4 4 = .ok (.iload_n 0, 1) := by decide +kernel
theorem dJ9_abs_0f7a4_5 : decode cJ9_abs_0f7a4 5 = .ok (.ineg, 1) := by decide +kernel
theorem dJ9_abs_0f7a4_6 : decode cJ9_abs_0f7a4 6 = .ok (.goto 4, 3) := by decide +kernel
theorem dJ9_abs_0f7a4_9 : decode cJ9_abs_0f7a4 9 = .ok (.iload_n 0, 1) := by decide +kernel
theorem dJ9_abs_0f7a4_10 : decode cJ9_abs_0f7a4 10 = .ok (.ireturn, 1) := by decide +kernel
theorem dJ9_max_7cf53_0 : decode cJ9_max_7cf53 0 = .ok (.iload_n 0, 1) := by decide +kernel
theorem dJ9_max_7cf53_1 : decode cJ9_max_7cf53 1 = .ok (.iload_n 1, 1) := by decide +kernel
theorem dJ9_max_7cf53_2 : decode cJ9_max_7cf53 2 = .ok (.if_icmp .lt 7, 3) := by decide +kernel
theorem dJ9_max_7cf53_5 : decode cJ9_max_7cf53 5 = .ok (.iload_n 0, 1) := by decide +kernel
theorem dJ9_max_7cf53_6 : decode cJ9_max_7cf53 6 = .ok (.goto 4, 3) := by decide +kernel
theorem dJ9_max_7cf53_9 : decode cJ9_max_7cf53 9 = .ok (.iload_n 1, 1) := by decide +kernel
theorem dJ9_max_7cf53_10 : decode cJ9_max_7cf53 10 = .ok (.ireturn, 1) := by decide +kernel
theorem dJ9_min_7cf53_0 : decode cJ9_min_7cf53 0 = .ok (.iload_n 0, 1) := by decide +kernel
theorem dJ9_min_7cf53_1 : decode cJ9_min_7cf53 1 = .ok (.iload_n 1, 1) := by decide +kernel
theorem dJ9_min_7cf53_2 : decode cJ9_min_7cf53 2 = .ok (.if_icmp .gt 7, 3) := by decide +kernel
theorem dJ9_min_7cf53_5 : decode cJ9_min_7cf53 5 = .ok (.iload_n 0, 1) := by decide +kernel
theorem dJ9_min_7cf53_6 : decode cJ9_min_7cf53 6 = .ok (.goto 4, 3) := by decide +kernel
theorem dJ9_min_7cf53_9 : decode cJ9_min_7cf53 9 = .ok (.iload_n 1, 1) := by decide +kernel
theorem dJ9_min_7cf53_10 : decode cJ9_min_7cf53 10 = .ok (.ireturn, 1) := by decide +kernel
theorem dJxa1e45_init_da8c8_0 : decode cJxa1e45_init_da8c8 0 = .ok (.aload_n 0, 1) := by decide +kernel
theorem dJxa1e45_init_da8c8_1 : decode cJxa1e45_init_da8c8 1 = .ok (.invokespecial 1, 3) := by decide +kernel
theorem dJxa1e45_init_da8c8_4 : decode cJxa1e45_init_da8c8 4 = .ok (.return_, 1) := by decide +kernel
set_option maxRecDepth 20000 in
theorem ggJxc12de_init_da8c8_Jxa1e45_init_da8c8 : GoodIn wsJxc12de_init_da8c8 wsJxa1e45_init_da8c8 := goodIn_r _ [5, 6, 7, 8] (by decide +kernel) (by decide +kernel)
set_option maxRecDepth 20000 in
theorem gJxc12de_init_da8c8_Jxa1e45_init_da8c8 : GoodIn wsJxc12de_init_da8c8 (wsJxa1e45_init_da8c8) := ggJxc12de_init_da8c8_Jxa1e45_init_da8c8
theorem dJxc12de_init_da8c8_0 : decode cJxc12de_init_da8c8 0 = .ok (.aload_n 0, 1) := by decide +kernel
theorem dJxc12de_init_da8c8_1 : decode cJxc12de_init_da8c8 1 = .ok (.invokespecial 1, 3) := by decide +kernel
theorem dJxc12de_init_da8c8_4 : decode cJxc12de_init_da8c8 4 = .ok (.aload_n 0, 1) := by decide +kernel
theorem dJxc12de_init_da8c8_5 : decode cJxc12de_init_da8c8 5 = .ok (.iconst 0, 1) := by decide +kernel
theorem dJxc12de_init_da8c8_6 : decode cJxc12de_init_da8c8 6 = .ok (.putfield 7, 3) := by decide +kernel
theorem dJxc12de_init_da8c8_9 : decode cJxc12de_init_da8c8 9 = .ok (.return_, 1) := by decide +kernel
set_option maxRecDepth 20000 in
theorem ggJx4a65c_init_da8c8_Jxc12de_init_da8c8 : GoodIn wsJx4a65c_init_da8c8 wsJxc12de_init_da8c8 := goodIn_r _ [6, 7, 8, 9, 10, 11, 12, 13, 14, 15, 16, 17] (by decide +kernel) (by decide +kernel)
set_option maxRecDepth 20000 in
theorem gJx4a65c_init_da8c8_Jxc12de_init_da8c8 : GoodIn wsJx4a65c_init_da8c8 (wsJxc12de_init_da8c8) := ggJx4a65c_init_da8c8_Jxc12de_init_da8c8
theorem dJx4a65c_init_da8c8_0 : decode cJx4a65c_init_da8c8 0 = .ok (.aload_n 0, 1) := by decide +kernel
theorem dJx4a65c_init_da8c8_1 : decode cJx4a65c_init_da8c8 1 = .ok (.invokespecial 1, 3) := by decide +kernel
theorem dJx4a65c_init_da8c8_4 : decode cJx4a65c_init_da8c8 4 = .ok (.aload_n 0, 1) := by decide +kernel
theorem dJx4a65c_init_da8c8_5 : decode cJx4a65c_init_da8c8 5 = .ok (.getstatic 39, 3) := by decide +kernel
theorem dJx4a65c_init_da8c8_8 : decode cJx4a65c_init_da8c8 8 = .ok (.putfield 9, 3) := by decide +kernel
theorem dJx4a65c_init_da8c8_11 : decode cJx4a65c_init_da8c8 11 = .ok (.return_, 1) := by decide +kernel
set_option maxRecDepth 20000 in
theorem ggJx4a65c_grow_92f84_J8_newLength_cabcc : GoodIn wsJx4a65c_grow_92f84 wsJ8_newLength_cabcc := goodIn_r _ [11, 12, 4, 5, 6, 13, 14, 15, 10, 16] (by decide +kernel) (by decide +kernel)
set_option maxRecDepth 20000 in
theorem gJx4a65c_grow_92f84_J8_newLength_cabcc : GoodIn wsJx4a65c_grow_92f84 (va_wsS RJx4a65c 73 yJ8_newLength_cabcc wsJ8_newLength_cabcc) := goodIn_app (goodIn_of _ (by decide +kernel)) ggJx4a65c_grow_92f84_J8_newLength_cabcc
set_option maxRecDepth 20000 in
theorem ggJx4a65c_grow_92f84_J7_copyOf_1904c : GoodIn wsJx4a65c_grow_92f84 wsJ7_copyOf_1904c := goodIn_r _ [20, 21, 22, 23, 24, 25, 26, 19, 27, 28, 29, 30, 31, 5, 32, 33, 34, 35, 36] (by decide +kernel) (by decide +kernel)
set_option maxRecDepth 20000 in
theorem gJx4a65c_grow_92f84_J7_copyOf_1904c : GoodIn wsJx4a65c_grow_92f84 (va_wsS RJx4a65c 66 yJ7_copyOf_1904c wsJ7_copyOf_1904c) := goodIn_app (goodIn_of _ (by decide +kernel)) ggJx4a65c_grow_92f84_J7_copyOf_1904c
theorem dJx4a65c_grow_92f84_0 : decode cJx4a65c_grow_92f84 0 = .ok (.aload_n 0, 1) := by decide +kernel
theorem dJx4a65c_grow_92f84_1 : decode cJx4a65c_grow_92f84 1 = .ok (.getfield 9, 3) := by decide +kernel
theorem dJx4a65c_grow_92f84_4 : decode cJx4a65c_grow_92f84 4 = .ok (.arraylength, 1) := by decide +kernel
theorem dJx4a65c_grow_92f84_5 : decode cJx4a65c_grow_92f84 5 = .ok (.istore_n 2, 1) := by decide +kernel
theorem dJx4a65c_grow_92f84_6 : decode cJx4a65c_grow_92f84 6 = .ok (.iload_n 2, 1) := by decide +kernel
theorem dJx4a65c_grow_92f84_7 : decode cJx4a65c_grow_92f84 7 = .ok (.ifCond .gt 13, 3) := by decide +kernel
theorem dJx4a65c_grow_92f84_10 : decode cJx4a65c_grow_92f84 10 = .ok (.aload_n 0, 1) := by decide +kernel
theorem dJx4a65c_grow_92f84_11 : decode cJx4a65c_grow_92f84 11 = .ok (.getfield 9, 3) := by decide +kernel
theorem dJx4a65c_grow_92f84_14 : decode cJx4a65c_grow_92f84 14 = .ok (.getstatic 39, 3) := by decide +kernel
theorem dJx4a65c_grow_92f84_17 : decode cJx4a65c_grow_92f84 17 = .ok (.if_acmp .eq 28, 3) := by decide +kernel
theorem dJx4a65c_grow_92f84_20 : decode cJx4a65c_grow_92f84 20 = .ok (.iload_n 2, 1) := by decide +kernel
theorem dJx4a65c_grow_92f84_21 : decode cJx4a65c_grow_92f84 21 = .ok (.iload_n 1, 1) := by decide +kernel
theorem dJx4a65c_grow_92f84_22 : decode cJx4a65c_grow_92f84 22 = .ok (.iload_n 2, 1) := by decide +kernel
theorem dJx4a65c_grow_92f84_23 : decode cJx4a65c_grow_92f84 23 = .ok (.isub, 1) := by decide +kernel
theorem dJx4a65c_grow_92f84_24 : decode cJx4a65c_grow_92f84 24 = .ok (.iload_n 2, 1) := by decide +kernel
theorem dJx4a65c_grow_92f84_25 : decode cJx4a65c_grow_92f84 25 = .ok (.iconst 1, 1) := by decide +kernel
theorem dJx4a65c_grow_92f84_26 : decode cJx4a65c_grow_92f84 26 = .ok (.ishr, 1) := by decide +kernel
theorem dJx4a65c_grow_92f84_27 : decode cJx4a65c_grow_92f84 27 = .ok (.invokestatic 73, 3) := by decide +kernel
theorem dJx4a65c_grow_92f84_30 : decode cJx4a65c_grow_92f84 30 = .ok (.istore_n 3, 1) := by decide +kernel
theorem dJx4a65c_grow_92f84_31 : decode cJx4a65c_grow_92f84 31 = .ok (.aload_n 0, 1) := by decide +kernel
theorem dJx4a65c_grow_92f84_32 : decode cJx4a65c_grow_92f84 32 = .ok (.aload_n 0, 1) := by decide +kernel
theorem dJx4a65c_grow_92f84_33 : decode cJx4a65c_grow_92f84 33 = .ok (.getfield 9, 3) := by decide +kernel
theorem dJx4a65c_grow_92f84_36 : decode cJx4a65c_grow_92f84 36 = .ok (.iload_n 3, 1) := by decide +kernel
theorem dJx4a65c_grow_92f84_37 : decode cJx4a65c_grow_92f84 37 = .ok (.invokestatic 66, 3) := by decide +kernel
theorem dJx4a65c_grow_92f84_40 : decode cJx4a65c_grow_92f84 40 = .ok (.dup_x1, 1) := by decide +kernel
theorem dJx4a65c_grow_92f84_41 : decode cJx4a65c_grow_92f84 41 = .ok (.putfield 9, 3) := by decide +kernel
theorem dJx4a65c_grow_92f84_44 : decode cJx4a65c_grow_92f84 44 = .ok (.areturn, 1) := by decide +kernel
theorem dJx4a65c_grow_92f84_45 : decode cJx4a65c_grow_92f84 45 = .ok (.aload_n 0, 1) := by decide +kernel
theorem dJx4a65c_grow_92f84_46 : decode cJx4a65c_grow_92f84 46 = .ok (.bipush 10, 2) := by decide +kernel
theorem dJx4a65c_grow_92f84_48 : decode cJx4a65c_grow_92f84 48 = .ok (.iload_n 1, 1) := by decide +kernel
theorem dJx4a65c_grow_92f84_49 : decode cJx4a65c_grow_92f84 49 = .ok (.invokestatic 79, 3) := by decide +kernel
theorem dJx4a65c_grow_92f84_52 : decode cJx4a65c_grow_92f84 52 = .ok (.anewarray 7, 3) := by decide +kernel
theorem dJx4a65c_grow_92f84_55 : decode cJx4a65c_grow_92f84 55 = .ok (.dup_x1, 1) := by decide +kernel
theorem dJx4a65c_grow_92f84_56 : decode cJx4a65c_grow_92f84 56 = .ok (.putfield 9, 3) := by decide +kernel
theorem dJx4a65c_grow_92f84_59 : decode cJx4a65c_grow_92f84 59 = .ok (.areturn, 1) := by decide +kernel
set_option maxRecDepth 20000 in
theorem ggJx4a65c_grow_d5877_Jx4a65c_grow_92f84 : GoodIn wsJx4a65c_grow_d5877 wsJx4a65c_grow_92f84 := goodIn_r _ [6, 7, 8, 9, 10, 11, 12, 13, 14, 15, 16, 17, 18, 19, 20, 21, 22, 23, 24, 25, 26, 27, 28, 29, 30, 31, 32, 33, 34, 35, 36, 37, 38, 39, 40, 41, 42, 43, 44, 45] (by decide +kernel) (by decide +kernel)
set_option maxRecDepth 20000 in
theorem gJx4a65c_grow_d5877_Jx4a65c_grow_92f84 : GoodIn wsJx4a65c_grow_d5877 (wsV RJx4a65c 69 RJx4a65c yJx4a65c_grow_92f84 wsJx4a65c_grow_92f84) := goodIn_app (goodIn_of _ (by decide +kernel)) ggJx4a65c_grow_d5877_Jx4a65c_grow_92f84
theorem dJx4a65c_grow_d5877_0 : decode cJx4a65c_grow_d5877 0 = .ok (.aload_n 0, 1) := by decide +kernel
theorem dJx4a65c_grow_d5877_1 : decode cJx4a65c_grow_d5877 1 = .ok (.aload_n 0, 1) := by decide +kernel
theorem dJx4a65c_grow_d5877_2 : decode cJx4a65c_grow_d5877 2 = .ok (.getfield 48, 3) := by decide +kernel
theorem dJx4a65c_grow_d5877_5 : decode cJx4a65c_grow_d5877 5 = .ok (.iconst 1, 1) := by decide +kernel
theorem dJx4a65c_grow_d5877_6 : decode cJx4a65c_grow_d5877 6 = .ok (.iadd, 1) := by decide +kernel
theorem dJx4a65c_grow_d5877_7 : decode cJx4a65c_grow_d5877 7 = .ok (.invokevirtual 69, 3) := by decide +kernel
theorem dJx4a65c_grow_d5877_10 : decode cJx4a65c_grow_d5877 10 = .ok (.areturn, 1) := by decide +kernel
theorem dJx4a65c_size_8abf5_0 : decode cJx4a65c_size_8abf5 0 = .ok (.aload_n 0, 1) := by decide +kernel
theorem dJx4a65c_size_8abf5_1 : decode cJx4a65c_size_8abf5 1 = .ok (.getfield 48, 3) := by decide +kernel
theorem dJx4a65c_size_8abf5_4 : decode cJx4a65c_size_8abf5 4 = .ok (.ireturn, 1) := by decide +kernel
theorem dJx4a65c_elementData_915e3_0 : decode cJx4a65c_elementData_915e3 0 = .ok (.aload_n 0, 1) := by decide +kernel
theorem dJx4a65c_elementData_915e3_1 : decode cJx4a65c_elementData_915e3 1 = .ok (.getfield 9, 3) := by decide +kernel
theorem dJx4a65c_elementData_915e3_4 : decode cJx4a65c_elementData_915e3 4 = .ok (.iload_n 1, 1) := by decide +kernel
theorem dJx4a65c_elementData_915e3_5 : decode cJx4a65c_elementData_915e3 5 = .ok (.aaload, 1) := by decide +kernel
theorem dJx4a65c_elementData_915e3_6 : decode cJx4a65c_elementData_915e3 6 = .ok (.areturn, 1) := by decide +kernel
set_option maxRecDepth 20000 in
theorem ggJx4a65c_get_915e3_J15_checkIndex_7cf53 : GoodIn wsJx4a65c_get_915e3 wsJ15_checkIndex_7cf53 := goodIn_r _ [5, 6, 7, 8, 9] (by decide +kernel) (by decide +kernel)
set_option maxRecDepth 20000 in
theorem gJx4a65c_get_915e3_J15_checkIndex_7cf53 : GoodIn wsJx4a65c_get_915e3 (va_wsS RJx4a65c 118 yJ15_checkIndex_7cf53 wsJ15_checkIndex_7cf53) := goodIn_app (goodIn_of _ (by decide +kernel)) ggJx4a65c_get_915e3_J15_checkIndex_7cf53
set_option maxRecDepth 20000 in
theorem ggJx4a65c_get_915e3_Jx4a65c_elementData_915e3 : GoodIn wsJx4a65c_get_915e3 wsJx4a65c_elementData_915e3 := goodIn_r _ [14, 15, 16, 17, 18] (by decide +kernel) (by decide +kernel)
set_option maxRecDepth 20000 in
theorem gJx4a65c_get_915e3_Jx4a65c_elementData_915e3 : GoodIn wsJx4a65c_get_915e3 (wsV RJx4a65c 123 RJx4a65c yJx4a65c_elementData_915e3 wsJx4a65c_elementData_915e3) := goodIn_app (goodIn_of _ (by decide +kernel)) ggJx4a65c_get_915e3_Jx4a65c_elementData_915e3
theorem dJx4a65c_get_915e3_0 : decode cJx4a65c_get_915e3 0 = .ok (.iload_n 1, 1) := by decide +kernel
theorem dJx4a65c_get_915e3_1 : decode cJx4a65c_get_915e3 1 = .ok (.aload_n 0, 1) := by decide +kernel
theorem dJx4a65c_get_915e3_2 : decode cJx4a65c_get_915e3 2 = .ok (.getfield 48, 3) := by decide +kernel
theorem dJx4a65c_get_915e3_5 : decode cJx4a65c_get_915e3 5 = .ok (.invokestatic 118, 3) := by decide +kernel
theorem dJx4a65c_get_915e3_8 : decode cJx4a65c_get_915e3 8 = .ok (.pop, 1) := by decide +kernel
theorem dJx4a65c_get_915e3_9 : decode cJx4a65c_get_915e3 9 = .ok (.aload_n 0, 1) := by decide +kernel
theorem dJx4a65c_get_915e3_10 : decode cJx4a65c_get_915e3 10 = .ok (.iload_n 1, 1) := by decide +kernel
theorem dJx4a65c_get_915e3_11 : decode cJx4a65c_get_915e3 11 = .ok (.invokevirtual 123, 3) := by decide +kernel
theorem dJx4a65c_get_915e3_14 : decode cJx4a65c_get_915e3 14 = .ok (.areturn, 1) := by decide +kernel
set_option maxRecDepth 20000 in
theorem ggJx4a65c_add_72be8_Jx4a65c_grow_d5877 : GoodIn wsJx4a65c_add_72be8 wsJx4a65c_grow_d5877 := goodIn_r _ [6, 1, 7, 8, 9, 5, 10, 11, 12, 13, 14, 15, 16, 17, 18, 19, 20, 21, 22, 23, 24, 25, 26, 27, 28, 29, 30, 31, 32, 33, 34, 35, 36, 37, 38, 39, 40, 41, 42, 43, 44, 45, 46, 47, 48, 49] (by decide +kernel) (by decide +kernel)
set_option maxRecDepth 20000 in
theorem gJx4a65c_add_72be8_Jx4a65c_grow_d5877 : GoodIn wsJx4a65c_add_72be8 (wsV RJx4a65c 129 RJx4a65c yJx4a65c_grow_d5877 wsJx4a65c_grow_d5877) := goodIn_app (goodIn_of _ (by decide +kernel)) ggJx4a65c_add_72be8_Jx4a65c_grow_d5877
theorem dJx4a65c_add_72be8_0 : decode cJx4a65c_add_72be8 0 = .ok (.iload_n 3, 1) := by decide +kernel
theorem dJx4a65c_add_72be8_1 : decode cJx4a65c_add_72be8 1 = .ok (.aload_n 2, 1) := by decide +kernel
theorem dJx4a65c_add_72be8_2 : decode cJx4a65c_add_72be8 2 = .ok (.arraylength, 1) := by decide +kernel
theorem dJx4a65c_add_72be8_3 : decode cJx4a65c_add_72be8 3 = .ok (.if_icmp .ne 8, 3) := by decide +kernel
theorem dJx4a65c_add_72be8_6 : decode cJx4a65c_add_72be8 6 = .ok (.aload_n 0, 1) := by decide +kernel
theorem dJx4a65c_add_72be8_7 : decode cJx4a65c_add_72be8 7 = .ok (.invokevirtual 129, 3) := by decide +kernel
theorem dJx4a65c_add_72be8_10 : decode cJx4a65c_add_72be8 10 = .ok (.astore_n 2, 1) := by decide +kernel
theorem dJx4a65c_add_72be8_11 : decode cJx4a65c_add_72be8 11 = .ok (.aload_n 2, 1) := by decide +kernel
theorem dJx4a65c_add_72be8_12 : decode cJx4a65c_add_72be8 12 = .ok (.iload_n 3, 1) := by decide +kernel
theorem dJx4a65c_add_72be8_13 : decode cJx4a65c_add_72be8 13 = .ok (.aload_n 1, 1) := by decide +kernel
theorem dJx4a65c_add_72be8_14 : decode cJx4a65c_add_72be8 14 = .ok (.aastore, 1) := by decide +kernel
theorem dJx4a65c_add_72be8_15 : decode cJx4a65c_add_72be8 15 = .ok (.aload_n 0, 1) := by decide +kernel
theorem dJx4a65c_add_72be8_16 : decode cJx4a65c_add_72be8 16 = .ok (.iload_n 3, 1) := by decide +kernel
theorem dJx4a65c_add_72be8_17 : decode cJx4a65c_add_72be8 17 = .ok (.iconst 1, 1) := by decide +kernel
theorem dJx4a65c_add_72be8_18 : decode cJx4a65c_add_72be8 18 = .ok (.iadd, 1) := by decide +kernel
theorem dJx4a65c_add_72be8_19 : decode cJx4a65c_add_72be8 19 = .ok (.putfield 48, 3) := by decide +kernel
theorem dJx4a65c_add_72be8_22 : decode cJx4a65c_add_72be8 22 = .ok (.return_, 1) := by decide +kernel
set_option maxRecDepth 20000 in
theorem ggJx4a65c_add_9ea2d_Jx4a65c_add_72be8 : GoodIn wsJx4a65c_add_9ea2d wsJx4a65c_add_72be8 := goodIn_r _ [9, 4, 10, 11, 12, 8, 13, 14, 15, 16, 17, 3, 18, 19, 20, 21, 22, 23, 24, 25, 26, 27, 28, 29, 30, 31, 32, 33, 34, 35, 36, 37, 38, 39, 40, 41, 42, 43, 44, 45, 46, 47, 48, 49, 50, 51, 52, 53, 54, 55] (by decide +kernel) (by decide +kernel)
set_option maxRecDepth 20000 in
theorem gJx4a65c_add_9ea2d_Jx4a65c_add_72be8 : GoodIn wsJx4a65c_add_9ea2d (wsV RJx4a65c 131 RJx4a65c yJx4a65c_add_72be8 wsJx4a65c_add_72be8) := goodIn_app (goodIn_of _ (by decide +kernel)) ggJx4a65c_add_9ea2d_Jx4a65c_add_72be8
theorem dJx4a65c_add_9ea2d_0 : decode cJx4a65c_add_9ea2d 0 = .ok (.aload_n 0, 1) := by decide +kernel
theorem dJx4a65c_add_9ea2d_1 : decode cJx4a65c_add_9ea2d 1 = .ok (.dup, 1) := by decide +kernel
theorem dJx4a65c_add_9ea2d_2 : decode cJx4a65c_add_9ea2d 2 = .ok (.getfield 63, 3) := by decide +kernel
theorem dJx4a65c_add_9ea2d_5 : decode cJx4a65c_add_9ea2d 5 = .ok (.iconst 1, 1) := by decide +kernel
theorem dJx4a65c_add_9ea2d_6 : decode cJx4a65c_add_9ea2d 6 = .ok (.iadd, 1) := by decide +kernel
theorem dJx4a65c_add_9ea2d_7 : decode cJx4a65c_add_9ea2d 7 = .ok (.putfield 63, 3) := by decide +kernel
theorem dJx4a65c_add_9ea2d_10 : decode cJx4a65c_add_9ea2d 10 = .ok (.aload_n 0, 1) := by decide +kernel
theorem dJx4a65c_add_9ea2d_11 : decode cJx4a65c_add_9ea2d 11 = .ok (.aload_n 1, 1) := by decide +kernel
theorem dJx4a65c_add_9ea2d_12 : decode cJx4a65c_add_9ea2d 12 = .ok (.aload_n 0, 1) := by decide +kernel
theorem dJx4a65c_add_9ea2d_13 : decode cJx4a65c_add_9ea2d 13 = .ok (.getfield 9, 3) := by decide +kernel
theorem dJx4a65c_add_9ea2d_16 : decode cJx4a65c_add_9ea2d 16 = .ok (.aload_n 0, 1) := by decide +kernel
theorem dJx4a65c_add_9ea2d_17 : decode cJx4a65c_add_9ea2d 17 = .ok (.getfield 48, 3) := by decide +kernel
theorem dJx4a65c_add_9ea2d_20 : decode cJx4a65c_add_9ea2d 20 = .ok (.invokevirtual 131, 3) := by decide +kernel
theorem dJx4a65c_add_9ea2d_23 : decode cJx4a65c_add_9ea2d 23 = .ok (.iconst 1, 1) := by decide +kernel
theorem dJx4a65c_add_9ea2d_24 : decode cJx4a65c_add_9ea2d 24 = .ok (.ireturn, 1) := by decide +kernel
set_option maxRecDepth 20000 in
theorem ggJ7_copyOf_1904c_J7_copyOf_6403c : GoodIn wsJ7_copyOf_1904c wsJ7_copyOf_6403c := goodIn_r _ [8, 9, 10, 11, 12, 13, 14, 15, 16, 17, 18] (by decide +kernel) (by decide +kernel)
set_option maxRecDepth 20000 in
theorem gJ7_copyOf_1904c_J7_copyOf_6403c : GoodIn wsJ7_copyOf_1904c (va_wsS RJ7 300 yJ7_copyOf_6403c wsJ7_copyOf_6403c) := goodIn_app (goodIn_of _ (by decide +kernel)) ggJ7_copyOf_1904c_J7_copyOf_6403c
theorem dJ7_copyOf_1904c_0 : decode cJ7_copyOf_1904c 0 = .ok (.aload_n 0, 1) := by decide +kernel
theorem dJ7_copyOf_1904c_1 : decode cJ7_copyOf_1904c 1 = .ok (.iload_n 1, 1) := by decide +kernel
theorem dJ7_copyOf_1904c_2 : decode cJ7_copyOf_1904c 2 = .ok (.aload_n 0, 1) := by decide +kernel
theorem dJ7_copyOf_1904c_3 : decode cJ7_copyOf_1904c 3 = .ok (.invokevirtual 86, 3) := by decide +kernel
theorem dJ7_copyOf_1904c_6 : decode cJ7_copyOf_1904c 6 = .ok (.invokestatic 300, 3) := by decide +kernel
theorem dJ7_copyOf_1904c_9 : decode cJ7_copyOf_1904c 9 = .ok (.areturn, 1) := by decide +kernel
theorem dJ7_copyOf_6403c_0 : decode cJ7_copyOf_6403c 0 = .ok (.aload_n 2, 1) := by decide +kernel
theorem dJ7_copyOf_6403c_1 : decode cJ7_copyOf_6403c 1 = .ok (.ldc 110, 2) := by decide +kernel
theorem dJ7_copyOf_6403c_3 : decode cJ7_copyOf_6403c 3 = .ok (.if_acmp .ne 10, 3) := by decide +kernel
theorem dJ7_copyOf_6403c_6 : decode cJ7_copyOf_6403c 6 = .ok (.iload_n 1, 1) := by decide +kernel
theorem dJ7_copyOf_6403c_7 : decode cJ7_copyOf_6403c 7 = .ok (.anewarray 2, 3) := by decide +kernel
theorem dJ7_copyOf_6403c_10 : decode cJ7_copyOf_6403c 10 = .ok (.goto 14, 3) := by decide +kernel
theorem dJ7_copyOf_6403c_13 : decode cJ7_copyOf_6403c 13 = .ok (.aload_n 2, 1) := by decide +kernel
theorem dJ7_copyOf_6403c_14 : decode cJ7_copyOf_6403c 14 = .ok (.invokevirtual 90, 3) := by decide +kernel
theorem dJ7_copyOf_6403c_17 : decode cJ7_copyOf_6403c 17 = .ok (.iload_n 1, 1) := by decide +kernel
theorem dJ7_copyOf_6403c_18 : decode cJ7_copyOf_6403c 18 = .ok (.invokestatic 95, 3) := by decide +kernel
theorem dJ7_copyOf_6403c_21 : decode cJ7_copyOf_6403c 21 = .ok (.checkcast 110, 3) := by decide +kernel
theorem dJ7_copyOf_6403c_24 : decode cJ7_copyOf_6403c 24 = .ok (.astore_n 3, 1) := by decide +kernel
theorem dJ7_copyOf_6403c_25 : decode cJ7_copyOf_6403c 25 = .ok (.aload_n 0, 1) := by decide +kernel
theorem dJ7_copyOf_6403c_26 : decode cJ7_copyOf_6403c 26 = .ok (.iconst 0, 1) := by decide +kernel
theorem dJ7_copyOf_6403c_27 : decode cJ7_copyOf_6403c 27 = .ok (.aload_n 3, 1) := by decide +kernel
theorem dJ7_copyOf_6403c_28 : decode cJ7_copyOf_6403c 28 = .ok (.iconst 0, 1) := by decide +kernel
theorem dJ7_copyOf_6403c_29 : decode cJ7_copyOf_6403c 29 = .ok (.aload_n 0, 1) := by decide +kernel
theorem dJ7_copyOf_6403c_30 : decode cJ7_copyOf_6403c 30 = .ok (.arraylength, 1) := by decide +kernel
theorem dJ7_copyOf_6403c_31 : decode cJ7_copyOf_6403c 31 = .ok (.iload_n 1, 1) := by decide +kernel
theorem dJ7_copyOf_6403c_32 : decode cJ7_copyOf_6403c 32 = .ok (.invokestatic 304, 3) := by decide +kernel
theorem dJ7_copyOf_6403c_35 : decode cJ7_copyOf_6403c 35 = .ok (.invokestatic 150, 3) := by decide +kernel
theorem dJ7_copyOf_6403c_38 : decode cJ7_copyOf_6403c 38 = .ok (.aload_n 3, 1) := by decide +kernel
theorem dJ7_copyOf_6403c_39 : decode cJ7_copyOf_6403c 39 = .ok (.areturn, 1) := by decide +kernel
set_option maxRecDepth 20000 in
theorem ggJ15_checkIndex_7cf53_J3_checkIndex_8e157 : GoodIn wsJ15_checkIndex_7cf53 wsJ3_checkIndex_8e157 := goodIn_r _ [4] (by decide +kernel) (by decide +kernel)
set_option maxRecDepth 20000 in
theorem gJ15_checkIndex_7cf53_J3_checkIndex_8e157 : GoodIn wsJ15_checkIndex_7cf53 (va_wsS RJ15 105 yJ3_checkIndex_8e157 wsJ3_checkIndex_8e157) := goodIn_app (goodIn_of _ (by decide +kernel)) ggJ15_checkIndex_7cf53_J3_checkIndex_8e157
theorem dJ15_checkIndex_7cf53_0 : decode cJ15_checkIndex_7cf53 0 = .ok (.iload_n 0, 1) := by decide +kernel
theorem dJ15_checkIndex_7cf53_1 : decode cJ15_checkIndex_7cf53 1 = .ok (.iload_n 1, 1) := by decide +kernel
theorem dJ15_checkIndex_7cf53_2 : decode cJ15_checkIndex_7cf53 2 = .ok (.aconst_null, 1) := by decide +kernel
theorem dJ15_checkIndex_7cf53_3 : decode cJ15_checkIndex_7cf53 3 = .ok (.invokestatic 105, 3) := by decide +kernel
theorem dJ15_checkIndex_7cf53_6 : decode cJ15_checkIndex_7cf53 6 = .ok (.ireturn, 1) := by decide +kernel
set_option maxRecDepth 20000 in
theorem ggJ8_newLength_cabcc_J8_hugeLength_7cf53 : GoodIn wsJ8_newLength_cabcc wsJ8_hugeLength_7cf53 := goodIn_r _ [9, 5] (by decide +kernel) (by decide +kernel)
set_option maxRecDepth 20000 in
theorem gJ8_newLength_cabcc_J8_hugeLength_7cf53 : GoodIn wsJ8_newLength_cabcc (va_wsS RJ8 201 yJ8_hugeLength_7cf53 wsJ8_hugeLength_7cf53) := goodIn_app (goodIn_of _ (by decide +kernel)) ggJ8_newLength_cabcc_J8_hugeLength_7cf53
theorem dJ8_newLength_cabcc_0 : decode cJ8_newLength_cabcc 0 = .ok (.iload_n 0, 1) := by decide +kernel
theorem dJ8_newLength_cabcc_1 : decode cJ8_newLength_cabcc 1 = .ok (.iload_n 1, 1) := by decide +kernel
theorem dJ8_newLength_cabcc_2 : decode cJ8_newLength_cabcc 2 = .ok (.iload_n 2, 1) := by decide +kernel
theorem dJ8_newLength_cabcc_3 : decode cJ8_newLength_cabcc 3 = .ok (.invokestatic 194, 3) := by decide +kernel
theorem dJ8_newLength_cabcc_6 : decode cJ8_newLength_cabcc 6 = .ok (.iadd, 1) := by decide +kernel
theorem dJ8_newLength_cabcc_7 : decode cJ8_newLength_cabcc 7 = .ok (.istore_n 3, 1) := by decide +kernel
theorem dJ8_newLength_cabcc_8 : decode cJ8_newLength_cabcc 8 = .ok (.iconst 0, 1) := by decide +kernel
theorem dJ8_newLength_cabcc_9 : decode cJ8_newLength_cabcc 9 = .ok (.iload_n 3, 1) := by decide +kernel
theorem dJ8_newLength_cabcc_10 : decode cJ8_newLength_cabcc 10 = .ok (.if_icmp .ge 11, 3) := by decide +kernel
theorem dJ8_newLength_cabcc_13 : decode cJ8_newLength_cabcc 13 = .ok (.iload_n 3, 1) := by decide +kernel
theorem dJ8_newLength_cabcc_14 : decode cJ8_newLength_cabcc 14 = .ok (.ldc 200, 2) := by decide +kernel
theorem dJ8_newLength_cabcc_16 : decode cJ8_newLength_cabcc 16 = .ok (.if_icmp .gt 5, 3) := by decide +kernel
theorem dJ8_newLength_cabcc_19 : decode cJ8_newLength_cabcc 19 = .ok (.iload_n 3, 1) := by decide +kernel
theorem dJ8_newLength_cabcc_20 : decode cJ8_newLength_cabcc 20 = .ok (.ireturn, 1) := by decide +kernel
theorem dJ8_newLength_cabcc_21 : decode cJ8_newLength_cabcc 21 = .ok (.iload_n 0, 1) := by decide +kernel
theorem dJ8_newLength_cabcc_22 : decode cJ8_newLength_cabcc 22 = .ok (.iload_n 1, 1) := by decide +kernel
theorem dJ8_newLength_cabcc_23 : decode cJ8_newLength_cabcc 23 = .ok (.invokestatic 201, 3) := by decide +kernel
theorem dJ8_newLength_cabcc_26 : decode cJ8_newLength_cabcc 26 = .ok (.ireturn, 1) := by decide +kernel
theorem dJ8_hugeLength_7cf53_0 : decode cJ8_hugeLength_7cf53 0 = .ok (.iload_n 0, 1) := by decide +kernel
theorem dJ8_hugeLength_7cf53_1 : decode cJ8_hugeLength_7cf53 1 = .ok (.iload_n 1, 1) := by decide +kernel
theorem dJ8_hugeLength_7cf53_2 : decode cJ8_hugeLength_7cf53 2 = .ok (.iadd, 1) := by decide +kernel
theorem dJ8_hugeLength_7cf53_3 : decode cJ8_hugeLength_7cf53 3 = .ok (.istore_n 2, 1) := by decide +kernel
theorem dJ8_hugeLength_7cf53_4 : decode cJ8_hugeLength_7cf53 4 = .ok (.iload_n 2, 1) := by decide +kernel
theorem dJ8_hugeLength_7cf53_5 : decode cJ8_hugeLength_7cf53 5 = .ok (.ifCond .ge 44, 3) := by decide +kernel
theorem dJ8_hugeLength_7cf53_8 : decode cJ8_hugeLength_7cf53 8 = .ok (.new 204, 3) := by decide +kernel
theorem dJ8_hugeLength_7cf53_11 : decode cJ8_hugeLength_7cf53 11 = .ok (.dup, 1) := by decide +kernel
theorem dJ8_hugeLength_7cf53_12 : decode cJ8_hugeLength_7cf53 12 = .ok (.new 89, 3) := by decide +kernel
theorem dJ8_hugeLength_7cf53_15 : decode cJ8_hugeLength_7cf53 15 = .ok (.dup, 1) := by decide +kernel
theorem dJ8_hugeLength_7cf53_16 : decode cJ8_hugeLength_7cf53 16 = .ok (.invokespecial 91, 3) := by decide +kernel
theorem dJ8_hugeLength_7cf53_19 : decode cJ8_hugeLength_7cf53 19 = .ok (.ldc 206, 2) := by decide +kernel
theorem dJ8_hugeLength_7cf53_21 : decode cJ8_hugeLength_7cf53 21 = .ok (.invokevirtual 94, 3) := by decide +kernel
theorem dJ8_hugeLength_7cf53_24 : decode cJ8_hugeLength_7cf53 24 = .ok (.iload_n 0, 1) := by decide +kernel
theorem dJ8_hugeLength_7cf53_25 : decode cJ8_hugeLength_7cf53 25 = .ok (.invokevirtual 98, 3) := by decide +kernel
theorem dJ8_hugeLength_7cf53_28 : decode cJ8_hugeLength_7cf53 28 = .ok (.ldc 208, 2) := by decide +kernel
theorem dJ8_hugeLength_7cf53_30 : decode cJ8_hugeLength_7cf53 30 = .ok (.invokevirtual 94, 3) := by decide +kernel
theorem dJ8_hugeLength_7cf53_33 : decode cJ8_hugeLength_7cf53 33 = .ok (.iload_n 1, 1) := by decide +kernel
theorem dJ8_hugeLength_7cf53_34 : decode cJ8_hugeLength_7cf53 34 = .ok (.invokevirtual 98, 3) := by decide +kernel
theorem dJ8_hugeLength_7cf53_37 : decode cJ8_hugeLength_7cf53 37 = .ok (.ldc 210, 2) := by decide +kernel
theorem dJ8_hugeLength_7cf53_39 : decode cJ8_hugeLength_7cf53 39 = .ok (.invokevirtual 94, 3) := by decide +kernel
theorem dJ8_hugeLength_7cf53_42 : decode cJ8_hugeLength_7cf53 42 = .ok (.invokevirtual 101, 3) := by decide +kernel
theorem dJ8_hugeLength_7cf53_45 : decode cJ8_hugeLength_7cf53 45 = .ok (.invokespecial 212, 3) := by decide +kernel
theorem dJ8_hugeLength_7cf53_48 : decode cJ8_hugeLength_7cf53 48 = .ok (.athrow, 1) := by decide +kernel
theorem dJ8_hugeLength_7cf53_49 : decode cJ8_hugeLength_7cf53 49 = .ok (.iload_n 2, 1) := by decide +kernel
theorem dJ8_hugeLength_7cf53_50 : decode cJ8_hugeLength_7cf53 50 = .ok (.ldc 200, 2) := by decide +kernel
theorem dJ8_hugeLength_7cf53_52 : decode cJ8_hugeLength_7cf53 52 = .ok (.if_icmp .gt 6, 3) := by decide +kernel
theorem dJ8_hugeLength_7cf53_55 : decode cJ8_hugeLength_7cf53 55 = .ok (.ldc 200, 2) := by decide +kernel
theorem dJ8_hugeLength_7cf53_57 : decode cJ8_hugeLength_7cf53 57 = .ok (.ireturn, 1) := by decide +kernel
theorem dJ8_hugeLength_7cf53_58 : decode cJ8_hugeLength_7cf53 58 = .ok (.iload_n 2, 1) := by decide +kernel
theorem dJ8_hugeLength_7cf53_59 : decode cJ8_hugeLength_7cf53 59 = .ok (.ireturn, 1) := by decide +kernel
theorem dJ3_checkIndex_8e157_0 : decode cJ3_checkIndex_8e157 0 = .ok (.iload_n 0, 1) := by decide +kernel
theorem dJ3_checkIndex_8e157_1 : decode cJ3_checkIndex_8e157 1 = .ok (.ifCond .lt 8, 3) := by decide +kernel
theorem dJ3_checkIndex_8e157_4 : decode cJ3_checkIndex_8e157 4 = .ok (.iload_n 0, 1) := by decide +kernel
theorem dJ3_checkIndex_8e157_5 : decode cJ3_checkIndex_8e157 5 = .ok (.iload_n 1, 1) := by decide +kernel
theorem dJ3_checkIndex_8e157_6 : decode cJ3_checkIndex_8e157 6 = .ok (.if_icmp .lt 10, 3) := by decide +kernel
theorem dJ3_checkIndex_8e157_9 : decode cJ3_checkIndex_8e157 9 = .ok (.aload_n 2, 1) := by decide +kernel
theorem dJ3_checkIndex_8e157_10 : decode cJ3_checkIndex_8e157 10 = .ok (.iload_n 0, 1) := by decide +kernel
theorem dJ3_checkIndex_8e157_11 : decode cJ3_checkIndex_8e157 11 = .ok (.iload_n 1, 1) := by decide +kernel
theorem dJ3_checkIndex_8e157_12 : decode cJ3_checkIndex_8e157 12 = .ok (.invokestatic 95, 3) := by decide +kernel
theorem dJ3_checkIndex_8e157_15 : decode cJ3_checkIndex_8e157 15 = .ok (.athrow, 1) := by decide +kernel
theorem dJ3_checkIndex_8e157_16 : decode cJ3_checkIndex_8e157 16 = .ok (.iload_n 0, 1) := by decide +kernel
theorem dJ3_checkIndex_8e157_17 : decode cJ3_checkIndex_8e157 17 = .ok (.ireturn, 1) := by decide +kernel
set_option maxRecDepth 20000 in
theorem ggL_addTable_X9_addTable : GoodIn wsL_addTable wsX9_addTable := goodIn_ca (goodIn_ca (goodIn_r _ [7, 8, 9, 10, 11, 12, 13, 14, 15, 6, 16, 17, 18, 19, 20, 21, 22, 23, 24, 25, 26, 27, 28, 29, 30, 31, 32, 33, 34, 35, 36, 37, 38, 39, 40, 41, 42, 43, 44, 45, 46, 47, 48, 49, 50, 51, 52, 53, 54, 55, 56, 57, 58, 59, 60, 61, 62, 63, 64, 65, 66, 67, 68, 69, 70, 71, 72, 73, 74, 75, 76, 77, 78, 79, 80, 81, 82, 83, 84, 85, 86, 87, 88, 89, 90, 91, 92, 93, 94, 95, 96, 97, 98, 99, 100, 101, 102, 103, 104, 105, 106, 107, 108, 109, 110, 111, 112, 113, 114, 115, 116, 117, 118, 119, 120, 121, 122, 123, 124, 125, 126, 127, 128, 129, 130, 131, 132, 133, 134, 135, 136, 137, 138, 139] (by decide +kernel) (by decide +kernel)) (goodIn_sub (fun _ h => List.mem_cons_of_mem _ (List.mem_append_left _ (List.mem_append_right _ h))) (by decide +kernel))) (goodIn_sub (fun _ h => List.mem_cons_of_mem _ (List.mem_append_right _ h)) (by decide +kernel))
set_option maxRecDepth 20000 in
theorem gL_addTable_X9_addTable : GoodIn wsL_addTable (wsV RL 7 RX9 yX9_addTable wsX9_addTable) := goodIn_app (goodIn_of _ (by decide +kernel)) ggL_addTable_X9_addTable
theorem dL_addTable_0 : decode cL_addTable 0 = .ok (.aload_n 3, 1) := by decide +kernel
theorem dL_addTable_1 : decode cL_addTable 1 = .ok (.iconst 0, 1) := by decide +kernel
theorem dL_addTable_2 : decode cL_addTable 2 = .ok (.aload_n 0, 1) := by decide +kernel
theorem dL_addTable_3 : decode cL_addTable 3 = .ok (.iload_n 1, 1) := by decide +kernel
theorem dL_addTable_4 : decode cL_addTable 4 = .ok (.iload_n 2, 1) := by decide +kernel
theorem dL_addTable_5 : decode cL_addTable 5 = .ok (.invokevirtual 7, 3) := by decide +kernel
theorem dL_addTable_8 : decode cL_addTable 8 = .ok (.i2l, 1) := by decide +kernel
theorem dL_addTable_9 : decode cL_addTable 9 = .ok (.lastore, 1) := by decide +kernel
theorem dL_addTable_10 : decode cL_addTable 10 = .ok (.goto 11, 3) := by decide +kernel
theorem dL_addTable_13 : decode cL_addTable 13 = .ok (.astore 4, 2) := by decide +kernel
theorem dL_addTable_15 : decode cL_addTable 15 = .ok (.iconst 1, 1) := by decide +kernel
theorem dL_addTable_16 : decode cL_addTable 16 = .ok (.ireturn, 1) := by decide +kernel
theorem dL_addTable_17 : decode cL_addTable 17 = .ok (.astore 4, 2) := by decide +kernel
theorem dL_addTable_19 : decode cL_addTable 19 = .ok (.iconst 2, 1) := by decide +kernel
theorem dL_addTable_20 : decode cL_addTable 20 = .ok (.ireturn, 1) := by decide +kernel
theorem dL_addTable_21 : decode cL_addTable 21 = .ok (.iconst 0, 1) := by decide +kernel
theorem dL_addTable_22 : decode cL_addTable 22 = .ok (.ireturn, 1) := by decide +kernel
set_option maxRecDepth 20000 in
theorem ggL_addBumper_X9_addBumper : GoodIn wsL_addBumper wsX9_addBumper := goodIn_ca (goodIn_ca (goodIn_ca (goodIn_r _ [8, 9, 10, 11, 12, 13, 14, 15, 16, 17, 7, 18, 19, 20, 21, 22, 23, 24, 25, 26, 27, 28, 29, 30, 31, 32, 33, 34, 35, 36, 37, 38, 39, 40, 41, 42, 43, 44, 45, 46, 47, 48, 49, 50, 51, 52, 53, 54, 55, 56, 57, 58, 59, 60, 61, 62, 63, 64, 65, 66, 67, 68, 69, 70, 71, 72, 73, 74, 75, 76, 77, 78, 79, 80, 81, 82, 83, 84, 85, 86, 87, 88, 89, 90, 91, 92, 93, 94, 95, 96, 97, 98, 99, 100, 101, 102, 103, 104, 105, 106, 107, 108, 109, 110, 111, 112, 113, 114, 115, 116, 117, 118, 119, 120, 121, 122, 123, 124, 125, 126, 127, 128, 129, 130, 131, 132, 133, 134, 135, 136, 137, 138, 139, 140, 141, 142, 143, 144, 145, 146, 147] (by decide +kernel) (by decide +kernel)) (goodIn_sub (fun _ h => List.mem_cons_of_mem _ (List.mem_append_left _ (List.mem_append_left _ (List.mem_append_right _ h)))) (by decide +kernel))) (goodIn_sub (fun _ h => List.mem_cons_of_mem _ (List.mem_append_left _ (List.mem_append_right _ h))) (by decide +kernel))) (goodIn_sub (fun _ h => List.mem_cons_of_mem _ (List.mem_append_right _ h)) (by decide +kernel))
set_option maxRecDepth 20000 in
theorem gL_addBumper_X9_addBumper : GoodIn wsL_addBumper (wsV RL 17 RX9 yX9_addBumper wsX9_addBumper) := goodIn_app (goodIn_of _ (by decide +kernel)) ggL_addBumper_X9_addBumper
theorem dL_addBumper_0 : decode cL_addBumper 0 = .ok (.aload 6, 2) := by decide +kernel
theorem dL_addBumper_2 : decode cL_addBumper 2 = .ok (.iconst 0, 1) := by decide +kernel
theorem dL_addBumper_3 : decode cL_addBumper 3 = .ok (.aload_n 0, 1) := by decide +kernel
theorem dL_addBumper_4 : decode cL_addBumper 4 = .ok (.iload_n 1, 1) := by decide +kernel
theorem dL_addBumper_5 : decode cL_addBumper 5 = .ok (.iload_n 2, 1) := by decide +kernel
theorem dL_addBumper_6 : decode cL_addBumper 6 = .ok (.iload_n 3, 1) := by decide +kernel
theorem dL_addBumper_7 : decode cL_addBumper 7 = .ok (.iload 4, 2) := by decide +kernel
theorem dL_addBumper_9 : decode cL_addBumper 9 = .ok (.iload 5, 2) := by decide +kernel
theorem dL_addBumper_11 : decode cL_addBumper 11 = .ok (.invokevirtual 17, 3) := by decide +kernel
theorem dL_addBumper_14 : decode cL_addBumper 14 = .ok (.i2l, 1) := by decide +kernel
theorem dL_addBumper_15 : decode cL_addBumper 15 = .ok (.lastore, 1) := by decide +kernel
theorem dL_addBumper_16 : decode cL_addBumper 16 = .ok (.goto 15, 3) := by decide +kernel
theorem dL_addBumper_19 : decode cL_addBumper 19 = .ok (.astore 7, 2) := by decide +kernel
theorem dL_addBumper_21 : decode cL_addBumper 21 = .ok (.iconst 1, 1) := by decide +kernel
theorem dL_addBumper_22 : decode cL_addBumper 22 = .ok (.ireturn, 1) := by decide +kernel
theorem dL_addBumper_23 : decode cL_addBumper 23 = .ok (.astore 7, 2) := by decide +kernel
theorem dL_addBumper_25 : decode cL_addBumper 25 = .ok (.iconst 2, 1) := by decide +kernel
theorem dL_addBumper_26 : decode cL_addBumper 26 = .ok (.ireturn, 1) := by decide +kernel
theorem dL_addBumper_27 : decode cL_addBumper 27 = .ok (.astore 7, 2) := by decide +kernel
theorem dL_addBumper_29 : decode cL_addBumper 29 = .ok (.iconst 3, 1) := by decide +kernel
theorem dL_addBumper_30 : decode cL_addBumper 30 = .ok (.ireturn, 1) := by decide +kernel
theorem dL_addBumper_31 : decode cL_addBumper 31 = .ok (.iconst 0, 1) := by decide +kernel
theorem dL_addBumper_32 : decode cL_addBumper 32 = .ok (.ireturn, 1) := by decide +kernel
set_option maxRecDepth 20000 in
theorem ggL_setPoints_X9_setPoints : GoodIn wsL_setPoints wsX9_setPoints := goodIn_ca (goodIn_ca (goodIn_ca (goodIn_r _ [8, 9, 10, 11, 12, 7, 13, 14, 15, 16, 17, 18, 19, 20, 21, 22, 23, 24, 25, 26, 27, 28, 29, 30, 31, 32, 33, 34, 35, 36, 37, 38, 39, 40, 41, 42, 43, 44, 45, 46, 47, 48, 49, 50, 51, 52, 53, 54, 55, 56, 57, 58, 59, 60, 61, 62, 63, 64, 65, 66, 67, 68, 69, 70, 71, 72, 73, 74, 75, 76, 77, 78, 79, 80, 81, 82, 83, 84, 85, 86, 87, 88] (by decide +kernel) (by decide +kernel)) (goodIn_sub (fun _ h => List.mem_cons_of_mem _ (List.mem_append_left _ (List.mem_append_left _ (List.mem_append_right _ h)))) (by decide +kernel))) (goodIn_sub (fun _ h => List.mem_cons_of_mem _ (List.mem_append_left _ (List.mem_append_right _ h))) (by decide +kernel))) (goodIn_sub (fun _ h => List.mem_cons_of_mem _ (List.mem_append_right _ h)) (by decide +kernel))
set_option maxRecDepth 20000 in
theorem gL_setPoints_X9_setPoints : GoodIn wsL_setPoints (wsV RL 23 RX9 yX9_setPoints wsX9_setPoints) := goodIn_app (goodIn_of _ (by decide +kernel)) ggL_setPoints_X9_setPoints
theorem dL_setPoints_0 : decode cL_setPoints 0 = .ok (.aload 4, 2) := by decide +kernel
theorem dL_setPoints_2 : decode cL_setPoints 2 = .ok (.iconst 0, 1) := by decide +kernel
theorem dL_setPoints_3 : decode cL_setPoints 3 = .ok (.aload_n 0, 1) := by decide +kernel
theorem dL_setPoints_4 : decode cL_setPoints 4 = .ok (.iload_n 1, 1) := by decide +kernel
theorem dL_setPoints_5 : decode cL_setPoints 5 = .ok (.iload_n 2, 1) := by decide +kernel
theorem dL_setPoints_6 : decode cL_setPoints 6 = .ok (.iload_n 3, 1) := by decide +kernel
theorem dL_setPoints_7 : decode cL_setPoints 7 = .ok (.invokevirtual 23, 3) := by decide +kernel
theorem dL_setPoints_10 : decode cL_setPoints 10 = .ok (.i2l, 1) := by decide +kernel
theorem dL_setPoints_11 : decode cL_setPoints 11 = .ok (.lastore, 1) := by decide +kernel
theorem dL_setPoints_12 : decode cL_setPoints 12 = .ok (.goto 15, 3) := by decide +kernel
theorem dL_setPoints_15 : decode cL_setPoints 15 = .ok (.astore 5, 2) := by decide +kernel
theorem dL_setPoints_17 : decode cL_setPoints 17 = .ok (.iconst 1, 1) := by decide +kernel
theorem dL_setPoints_18 : decode cL_setPoints 18 = .ok (.ireturn, 1) := by decide +kernel
theorem dL_setPoints_19 : decode cL_setPoints 19 = .ok (.astore 5, 2) := by decide +kernel
theorem dL_setPoints_21 : decode cL_setPoints 21 = .ok (.iconst 2, 1) := by decide +kernel
theorem dL_setPoints_22 : decode cL_setPoints 22 = .ok (.ireturn, 1) := by decide +kernel
theorem dL_setPoints_23 : decode cL_setPoints 23 = .ok (.astore 5, 2) := by decide +kernel
theorem dL_setPoints_25 : decode cL_setPoints 25 = .ok (.iconst 3, 1) := by decide +kernel
theorem dL_setPoints_26 : decode cL_setPoints 26 = .ok (.ireturn, 1) := by decide +kernel
theorem dL_setPoints_27 : decode cL_setPoints 27 = .ok (.iconst 0, 1) := by decide +kernel
theorem dL_setPoints_28 : decode cL_setPoints 28 = .ok (.ireturn, 1) := by decide +kernel
set_option maxRecDepth 20000 in
theorem ggL_setMode_X9_setMode : GoodIn wsL_setMode wsX9_setMode := goodIn_ca (goodIn_ca (goodIn_ca (goodIn_r _ [8, 9, 10, 11, 12, 13, 14, 15, 7, 16, 17, 18, 19, 20, 21, 22, 23, 24, 25, 26, 27, 28, 29, 30, 31, 32, 33, 34, 35, 36, 37, 38, 39, 40, 41, 42, 43, 44, 45, 46, 47, 48, 49, 50, 51, 52, 53, 54, 55, 56, 57, 58, 59, 60, 61, 62, 63, 64, 65, 66, 67, 68, 69, 70, 71, 72, 73, 74, 75, 76, 77, 78, 79, 80, 81, 82, 83, 84, 85, 86, 87, 88, 89, 90, 91, 92, 93, 94, 95, 96, 97, 98, 99, 100, 101, 102, 103, 104, 105, 106, 107, 108, 109, 110, 111, 112, 113] (by decide +kernel) (by decide +kernel)) (goodIn_sub (fun _ h => List.mem_cons_of_mem _ (List.mem_append_left _ (List.mem_append_left _ (List.mem_append_right _ h)))) (by decide +kernel))) (goodIn_sub (fun _ h => List.mem_cons_of_mem _ (List.mem_append_left _ (List.mem_append_right _ h))) (by decide +kernel))) (goodIn_sub (fun _ h => List.mem_cons_of_mem _ (List.mem_append_right _ h)) (by decide +kernel))
