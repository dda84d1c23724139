theorem dX12_holdsAll_123 : decode cX12_holdsAll 123 = .ok (.aload_n 0, 1) := by decide +kernel
theorem dX12_holdsAll_124 : decode cX12_holdsAll 124 = .ok (.getfield 32, 3) := by decide +kernel
theorem dX12_holdsAll_127 : decode cX12_holdsAll 127 = .ok (.iload_n 2, 1) := by decide +kernel
theorem dX12_holdsAll_128 : decode cX12_holdsAll 128 = .ok (.iaload, 1) := by decide +kernel
theorem dX12_holdsAll_129 : decode cX12_holdsAll 129 = .ok (.iload_n 1, 1) := by decide +kernel
theorem dX12_holdsAll_130 : decode cX12_holdsAll 130 = .ok (.if_icmp .eq 7, 3) := by decide +kernel
theorem dX12_holdsAll_133 : decode cX12_holdsAll 133 = .ok (.iconst 1, 1) := by decide +kernel
theorem dX12_holdsAll_134 : decode cX12_holdsAll 134 = .ok (.goto 4, 3) := by decide +kernel
theorem dX12_holdsAll_137 : decode cX12_holdsAll 137 = .ok (.iconst 0, 1) := by decide +kernel
theorem dX12_holdsAll_138 : decode cX12_holdsAll 138 = .ok (.istore 4, 2) := by decide +kernel
theorem dX12_holdsAll_140 : decode cX12_holdsAll 140 = .ok (.iload 4, 2) := by decide +kernel
theorem dX12_holdsAll_142 : decode cX12_holdsAll 142 = .ok (.ifCond .eq 5, 3) := by decide +kernel
theorem dX12_holdsAll_145 : decode cX12_holdsAll 145 = .ok (.iload_n 3, 1) := by decide +kernel
theorem dX12_holdsAll_146 : decode cX12_holdsAll 146 = .ok (.istore_n 2, 1) := by decide +kernel
theorem dX12_holdsAll_147 : decode cX12_holdsAll 147 = .ok (.iinc 3 1, 3) := by decide +kernel
theorem dX12_holdsAll_150 : decode cX12_holdsAll 150 = .ok (.goto (-114), 3) := by decide +kernel
theorem dX12_holdsAll_153 : decode cX12_holdsAll 153 = .ok (.aload_n 0, 1) := by decide +kernel
theorem dX12_holdsAll_154 : decode cX12_holdsAll 154 = .ok (.getfield 98, 3) := by decide +kernel
theorem dX12_holdsAll_157 : decode cX12_holdsAll 157 = .ok (.iload_n 1, 1) := by decide +kernel
theorem dX12_holdsAll_158 : decode cX12_holdsAll 158 = .ok (.iload_n 2, 1) := by decide +kernel
theorem dX12_holdsAll_159 : decode cX12_holdsAll 159 = .ok (.iastore, 1) := by decide +kernel
theorem dX12_holdsAll_160 : decode cX12_holdsAll 160 = .ok (.iconst 0, 1) := by decide +kernel
theorem dX12_holdsAll_161 : decode cX12_holdsAll 161 = .ok (.istore_n 3, 1) := by decide +kernel
theorem dX12_holdsAll_162 : decode cX12_holdsAll 162 = .ok (.iload_n 3, 1) := by decide +kernel
theorem dX12_holdsAll_163 : decode cX12_holdsAll 163 = .ok (.aload_n 0, 1) := by decide +kernel
theorem dX12_holdsAll_164 : decode cX12_holdsAll 164 = .ok (.getfield 153, 3) := by decide +kernel
theorem dX12_holdsAll_167 : decode cX12_holdsAll 167 = .ok (.if_icmp .ge 54, 3) := by decide +kernel
theorem dX12_holdsAll_170 : decode cX12_holdsAll 170 = .ok (.aload_n 0, 1) := by decide +kernel
theorem dX12_holdsAll_171 : decode cX12_holdsAll 171 = .ok (.getfield 101, 3) := by decide +kernel
theorem dX12_holdsAll_174 : decode cX12_holdsAll 174 = .ok (.iload_n 3, 1) := by decide +kernel
theorem dX12_holdsAll_175 : decode cX12_holdsAll 175 = .ok (.aload_n 0, 1) := by decide +kernel
theorem dX12_holdsAll_176 : decode cX12_holdsAll 176 = .ok (.getfield 101, 3) := by decide +kernel
theorem dX12_holdsAll_179 : decode cX12_holdsAll 179 = .ok (.iload_n 3, 1) := by decide +kernel
theorem dX12_holdsAll_180 : decode cX12_holdsAll 180 = .ok (.baload, 1) := by decide +kernel
theorem dX12_holdsAll_181 : decode cX12_holdsAll 181 = .ok (.ifCond .ne 13, 3) := by decide +kernel
theorem dX12_holdsAll_184 : decode cX12_holdsAll 184 = .ok (.aload_n 0, 1) := by decide +kernel
theorem dX12_holdsAll_185 : decode cX12_holdsAll 185 = .ok (.getfield 32, 3) := by decide +kernel
theorem dX12_holdsAll_188 : decode cX12_holdsAll 188 = .ok (.iload_n 3, 1) := by decide +kernel
theorem dX12_holdsAll_189 : decode cX12_holdsAll 189 = .ok (.iaload, 1) := by decide +kernel
theorem dX12_holdsAll_190 : decode cX12_holdsAll 190 = .ok (.iload_n 1, 1) := by decide +kernel
theorem dX12_holdsAll_191 : decode cX12_holdsAll 191 = .ok (.if_icmp .ne 22, 3) := by decide +kernel
theorem dX12_holdsAll_194 : decode cX12_holdsAll 194 = .ok (.iload_n 3, 1) := by decide +kernel
theorem dX12_holdsAll_195 : decode cX12_holdsAll 195 = .ok (.iload_n 2, 1) := by decide +kernel
theorem dX12_holdsAll_196 : decode cX12_holdsAll 196 = .ok (.if_icmp .eq 17, 3) := by decide +kernel
theorem dX12_holdsAll_199 : decode cX12_holdsAll 199 = .ok (.aload_n 0, 1) := by decide +kernel
theorem dX12_holdsAll_200 : decode cX12_holdsAll 200 = .ok (.getfield 35, 3) := by decide +kernel
theorem dX12_holdsAll_203 : decode cX12_holdsAll 203 = .ok (.iload_n 3, 1) := by decide +kernel
theorem dX12_holdsAll_204 : decode cX12_holdsAll 204 = .ok (.iaload, 1) := by decide +kernel
theorem dX12_holdsAll_205 : decode cX12_holdsAll 205 = .ok (.iconst 1, 1) := by decide +kernel
theorem dX12_holdsAll_206 : decode cX12_holdsAll 206 = .ok (.if_icmp .le 7, 3) := by decide +kernel
theorem dX12_holdsAll_209 : decode cX12_holdsAll 209 = .ok (.iconst 1, 1) := by decide +kernel
theorem dX12_holdsAll_210 : decode cX12_holdsAll 210 = .ok (.goto 4, 3) := by decide +kernel
theorem dX12_holdsAll_213 : decode cX12_holdsAll 213 = .ok (.iconst 0, 1) := by decide +kernel
theorem dX12_holdsAll_214 : decode cX12_holdsAll 214 = .ok (.bastore, 1) := by decide +kernel
theorem dX12_holdsAll_215 : decode cX12_holdsAll 215 = .ok (.iinc 3 1, 3) := by decide +kernel
theorem dX12_holdsAll_218 : decode cX12_holdsAll 218 = .ok (.goto (-56), 3) := by decide +kernel
theorem dX12_holdsAll_221 : decode cX12_holdsAll 221 = .ok (.iinc 1 1, 3) := by decide +kernel
theorem dX12_holdsAll_224 : decode cX12_holdsAll 224 = .ok (.goto (-199), 3) := by decide +kernel
theorem dX12_holdsAll_227 : decode cX12_holdsAll 227 = .ok (.return_, 1) := by decide +kernel
set_option maxRecDepth 20000 in
theorem ggX12_held_X12_isIn : GoodIn wsX12_held wsX12_isIn := goodIn_r _ [5] (by decide +kernel) (by decide +kernel)
set_option maxRecDepth 20000 in
theorem gX12_held_X12_isIn : GoodIn wsX12_held (va_wsS RX12 130 yX12_isIn wsX12_isIn) := goodIn_app (goodIn_of _ (by decide +kernel)) ggX12_held_X12_isIn
set_option maxRecDepth 20000 in
theorem ggX12_held_X12_holdsAll : GoodIn wsX12_held wsX12_holdsAll := goodIn_r _ [9, 10, 11, 12, 13, 1, 14, 15, 16, 17, 18, 19, 20, 21, 22, 23, 24, 25, 26, 27, 28, 29, 30, 31, 32, 33, 34, 35, 36, 37, 38, 39, 40, 41, 42, 43, 44, 45, 46, 47, 48, 49, 50, 51, 52, 53, 54, 55, 56, 57, 58, 59, 60, 61, 62, 63, 64, 65, 66, 67] (by decide +kernel) (by decide +kernel)
set_option maxRecDepth 20000 in
theorem gX12_held_X12_holdsAll : GoodIn wsX12_held (wsV RX12 156 RX12 yX12_holdsAll wsX12_holdsAll) := goodIn_app (goodIn_of _ (by decide +kernel)) ggX12_held_X12_holdsAll
theorem dX12_held_0 : decode cX12_held 0 = .ok (.iload_n 1, 1) := by decide +kernel
theorem dX12_held_1 : decode cX12_held 1 = .ok (.iconst 0, 1) := by decide +kernel
theorem dX12_held_2 : decode cX12_held 2 = .ok (.sipush 364, 3) := by decide +kernel
theorem dX12_held_5 : decode cX12_held 5 = .ok (.invokestatic 130, 3) := by decide +kernel
theorem dX12_held_8 : decode cX12_held 8 = .ok (.ifCond .ne 5, 3) := by decide +kernel
theorem dX12_held_11 : decode cX12_held 11 = .ok (.iconst (-1), 1) := by decide +kernel
theorem dX12_held_12 : decode cX12_held 12 = .ok (.ireturn, 1) := by decide +kernel
theorem dX12_held_13 : decode cX12_held 13 = .ok (.aload_n 0, 1) := by decide +kernel
theorem dX12_held_14 : decode cX12_held 14 = .ok (.invokevirtual 156, 3) := by decide +kernel
theorem dX12_held_17 : decode cX12_held 17 = .ok (.aload_n 0, 1) := by decide +kernel
theorem dX12_held_18 : decode cX12_held 18 = .ok (.getfield 98, 3) := by decide +kernel
theorem dX12_held_21 : decode cX12_held 21 = .ok (.iload_n 1, 1) := by decide +kernel
theorem dX12_held_22 : decode cX12_held 22 = .ok (.iaload, 1) := by decide +kernel
theorem dX12_held_23 : decode cX12_held 23 = .ok (.ireturn, 1) := by decide +kernel
set_option maxRecDepth 20000 in
theorem ggX12_when_X12_holdsAll : GoodIn wsX12_when wsX12_holdsAll := goodIn_r _ [6, 7, 8, 9, 10, 1, 11, 12, 13, 14, 15, 16, 17, 18, 19, 20, 21, 22, 23, 24, 25, 26, 27, 28, 29, 30, 31, 32, 33, 34, 35, 36, 37, 38, 39, 40, 41, 42, 43, 44, 45, 46, 47, 48, 49, 50, 51, 52, 53, 54, 55, 56, 57, 58, 59, 60, 61, 62, 63, 64] (by decide +kernel) (by decide +kernel)
set_option maxRecDepth 20000 in
theorem gX12_when_X12_holdsAll : GoodIn wsX12_when (wsV RX12 156 RX12 yX12_holdsAll wsX12_holdsAll) := goodIn_app (goodIn_of _ (by decide +kernel)) ggX12_when_X12_holdsAll
theorem dX12_when_0 : decode cX12_when 0 = .ok (.aload_n 0, 1) := by decide +kernel
theorem dX12_when_1 : decode cX12_when 1 = .ok (.invokevirtual 156, 3) := by decide +kernel
theorem dX12_when_4 : decode cX12_when 4 = .ok (.iconst 0, 1) := by decide +kernel
theorem dX12_when_5 : decode cX12_when 5 = .ok (.istore_n 2, 1) := by decide +kernel
theorem dX12_when_6 : decode cX12_when 6 = .ok (.iload_n 2, 1) := by decide +kernel
theorem dX12_when_7 : decode cX12_when 7 = .ok (.sipush 365, 3) := by decide +kernel
theorem dX12_when_10 : decode cX12_when 10 = .ok (.if_icmp .ge 25, 3) := by decide +kernel
theorem dX12_when_13 : decode cX12_when 13 = .ok (.iload_n 1, 1) := by decide +kernel
theorem dX12_when_14 : decode cX12_when 14 = .ok (.ifCond .lt 21, 3) := by decide +kernel
theorem dX12_when_17 : decode cX12_when 17 = .ok (.aload_n 0, 1) := by decide +kernel
theorem dX12_when_18 : decode cX12_when 18 = .ok (.getfield 98, 3) := by decide +kernel
theorem dX12_when_21 : decode cX12_when 21 = .ok (.iload_n 2, 1) := by decide +kernel
theorem dX12_when_22 : decode cX12_when 22 = .ok (.iaload, 1) := by decide +kernel
theorem dX12_when_23 : decode cX12_when 23 = .ok (.iload_n 1, 1) := by decide +kernel
theorem dX12_when_24 : decode cX12_when 24 = .ok (.if_icmp .ne 5, 3) := by decide +kernel
theorem dX12_when_27 : decode cX12_when 27 = .ok (.iload_n 2, 1) := by decide +kernel
theorem dX12_when_28 : decode cX12_when 28 = .ok (.ireturn, 1) := by decide +kernel
theorem dX12_when_29 : decode cX12_when 29 = .ok (.iinc 2 1, 3) := by decide +kernel
theorem dX12_when_32 : decode cX12_when 32 = .ok (.goto (-26), 3) := by decide +kernel
theorem dX12_when_35 : decode cX12_when 35 = .ok (.iconst (-1), 1) := by decide +kernel
theorem dX12_when_36 : decode cX12_when 36 = .ok (.ireturn, 1) := by decide +kernel
set_option maxRecDepth 20000 in
theorem ggX12_rankOn_X12_held : GoodIn wsX12_rankOn wsX12_held := goodIn_r _ [6, 7, 8, 9, 5, 10, 11, 12, 13, 14, 15, 16, 17, 1, 18, 19, 20, 21, 22, 23, 24, 25, 26, 27, 28, 29, 30, 31, 32, 33, 34, 35, 36, 37, 38, 39, 40, 41, 42, 43, 44, 45, 46, 47, 48, 49, 50, 51, 52, 53, 54, 55, 56, 57, 58, 59, 60, 61, 62, 63, 64, 65, 66, 67, 68, 69, 70, 71] (by decide +kernel) (by decide +kernel)
set_option maxRecDepth 20000 in
theorem gX12_rankOn_X12_held : GoodIn wsX12_rankOn (wsV RX12 159 RX12 yX12_held wsX12_held) := goodIn_app (goodIn_of _ (by decide +kernel)) ggX12_rankOn_X12_held
theorem dX12_rankOn_0 : decode cX12_rankOn 0 = .ok (.aload_n 0, 1) := by decide +kernel
theorem dX12_rankOn_1 : decode cX12_rankOn 1 = .ok (.iload_n 1, 1) := by decide +kernel
theorem dX12_rankOn_2 : decode cX12_rankOn 2 = .ok (.sipush 365, 3) := by decide +kernel
theorem dX12_rankOn_5 : decode cX12_rankOn 5 = .ok (.irem, 1) := by decide +kernel
theorem dX12_rankOn_6 : decode cX12_rankOn 6 = .ok (.invokevirtual 159, 3) := by decide +kernel
theorem dX12_rankOn_9 : decode cX12_rankOn 9 = .ok (.istore_n 2, 1) := by decide +kernel
theorem dX12_rankOn_10 : decode cX12_rankOn 10 = .ok (.iload_n 2, 1) := by decide +kernel
theorem dX12_rankOn_11 : decode cX12_rankOn 11 = .ok (.iconst (-1), 1) := by decide +kernel
theorem dX12_rankOn_12 : decode cX12_rankOn 12 = .ok (.if_icmp .ne 7, 3) := by decide +kernel
theorem dX12_rankOn_15 : decode cX12_rankOn 15 = .ok (.iconst 0, 1) := by decide +kernel
theorem dX12_rankOn_16 : decode cX12_rankOn 16 = .ok (.goto 9, 3) := by decide +kernel
theorem dX12_rankOn_19 : decode cX12_rankOn 19 = .ok (.aload_n 0, 1) := by decide +kernel
theorem dX12_rankOn_20 : decode cX12_rankOn 20 = .ok (.getfield 35, 3) := by decide +kernel
theorem dX12_rankOn_23 : decode cX12_rankOn 23 = .ok (.iload_n 2, 1) := by decide +kernel
theorem dX12_rankOn_24 : decode cX12_rankOn 24 = .ok (.iaload, 1) := by decide +kernel
theorem dX12_rankOn_25 : decode cX12_rankOn 25 = .ok (.ireturn, 1) := by decide +kernel
theorem dX12_lightOf_0 : decode cX12_lightOf 0 = .ok (.iload_n 0, 1) := by decide +kernel
theorem dX12_lightOf_1 : decode cX12_lightOf 1 = .ok (.sipush 355, 3) := by decide +kernel
theorem dX12_lightOf_4 : decode cX12_lightOf 4 = .ok (.if_icmp .lt 11, 3) := by decide +kernel
theorem dX12_lightOf_7 : decode cX12_lightOf 7 = .ok (.iload_n 0, 1) := by decide +kernel
theorem dX12_lightOf_8 : decode cX12_lightOf 8 = .ok (.sipush 355, 3) := by decide +kernel
theorem dX12_lightOf_11 : decode cX12_lightOf 11 = .ok (.isub, 1) := by decide +kernel
theorem dX12_lightOf_12 : decode cX12_lightOf 12 = .ok (.goto 7, 3) := by decide +kernel
theorem dX12_lightOf_15 : decode cX12_lightOf 15 = .ok (.iload_n 0, 1) := by decide +kernel
theorem dX12_lightOf_16 : decode cX12_lightOf 16 = .ok (.bipush 10, 2) := by decide +kernel
theorem dX12_lightOf_18 : decode cX12_lightOf 18 = .ok (.iadd, 1) := by decide +kernel
theorem dX12_lightOf_19 : decode cX12_lightOf 19 = .ok (.istore_n 1, 1) := by decide +kernel
theorem dX12_lightOf_20 : decode cX12_lightOf 20 = .ok (.iload_n 1, 1) := by decide +kernel
theorem dX12_lightOf_21 : decode cX12_lightOf 21 = .ok (.sipush 182, 3) := by decide +kernel
theorem dX12_lightOf_24 : decode cX12_lightOf 24 = .ok (.if_icmp .gt 19, 3) := by decide +kernel
theorem dX12_lightOf_27 : decode cX12_lightOf 27 = .ok (.sipush 480, 3) := by decide +kernel
theorem dX12_lightOf_30 : decode cX12_lightOf 30 = .ok (.sipush 480, 3) := by decide +kernel
theorem dX12_lightOf_33 : decode cX12_lightOf 33 = .ok (.iload_n 1, 1) := by decide +kernel
theorem dX12_lightOf_34 : decode cX12_lightOf 34 = .ok (.imul, 1) := by decide +kernel
theorem dX12_lightOf_35 : decode cX12_lightOf 35 = .ok (.sipush 182, 3) := by decide +kernel
theorem dX12_lightOf_38 : decode cX12_lightOf 38 = .ok (.idiv, 1) := by decide +kernel
theorem dX12_lightOf_39 : decode cX12_lightOf 39 = .ok (.iadd, 1) := by decide +kernel
theorem dX12_lightOf_40 : decode cX12_lightOf 40 = .ok (.goto 20, 3) := by decide +kernel
theorem dX12_lightOf_43 : decode cX12_lightOf 43 = .ok (.sipush 960, 3) := by decide +kernel
theorem dX12_lightOf_46 : decode cX12_lightOf 46 = .ok (.sipush 480, 3) := by decide +kernel
theorem dX12_lightOf_49 : decode cX12_lightOf 49 = .ok (.iload_n 1, 1) := by decide +kernel
theorem dX12_lightOf_50 : decode cX12_lightOf 50 = .ok (.sipush 182, 3) := by decide +kernel
theorem dX12_lightOf_53 : decode cX12_lightOf 53 = .ok (.isub, 1) := by decide +kernel
theorem dX12_lightOf_54 : decode cX12_lightOf 54 = .ok (.imul, 1) := by decide +kernel
theorem dX12_lightOf_55 : decode cX12_lightOf 55 = .ok (.sipush 183, 3) := by decide +kernel
theorem dX12_lightOf_58 : decode cX12_lightOf 58 = .ok (.idiv, 1) := by decide +kernel
theorem dX12_lightOf_59 : decode cX12_lightOf 59 = .ok (.isub, 1) := by decide +kernel
theorem dX12_lightOf_60 : decode cX12_lightOf 60 = .ok (.ireturn, 1) := by decide +kernel
set_option maxRecDepth 20000 in
theorem ggX12_rises_X12_lightOf : GoodIn wsX12_rises wsX12_lightOf := goodIn_r _ [4] (by decide +kernel) (by decide +kernel)
set_option maxRecDepth 20000 in
theorem gX12_rises_X12_lightOf : GoodIn wsX12_rises (va_wsS RX12 163 yX12_lightOf wsX12_lightOf) := goodIn_app (goodIn_of _ (by decide +kernel)) ggX12_rises_X12_lightOf
theorem dX12_rises_0 : decode cX12_rises 0 = .ok (.sipush 720, 3) := by decide +kernel
theorem dX12_rises_3 : decode cX12_rises 3 = .ok (.iload_n 0, 1) := by decide +kernel
theorem dX12_rises_4 : decode cX12_rises 4 = .ok (.invokestatic 163, 3) := by decide +kernel
theorem dX12_rises_7 : decode cX12_rises 7 = .ok (.iconst 2, 1) := by decide +kernel
theorem dX12_rises_8 : decode cX12_rises 8 = .ok (.idiv, 1) := by decide +kernel
theorem dX12_rises_9 : decode cX12_rises 9 = .ok (.isub, 1) := by decide +kernel
theorem dX12_rises_10 : decode cX12_rises 10 = .ok (.ireturn, 1) := by decide +kernel
set_option maxRecDepth 20000 in
theorem ggX12_sets_X12_rises : GoodIn wsX12_sets wsX12_rises := goodIn_r _ [4, 5, 6, 3, 7] (by decide +kernel) (by decide +kernel)
set_option maxRecDepth 20000 in
theorem gX12_sets_X12_rises : GoodIn wsX12_sets (va_wsS RX12 166 yX12_rises wsX12_rises) := goodIn_app (goodIn_of _ (by decide +kernel)) ggX12_sets_X12_rises
set_option maxRecDepth 20000 in
theorem ggX12_sets_X12_lightOf : GoodIn wsX12_sets wsX12_lightOf := goodIn_r _ [7] (by decide +kernel) (by decide +kernel)
set_option maxRecDepth 20000 in
theorem gX12_sets_X12_lightOf : GoodIn wsX12_sets (va_wsS RX12 163 yX12_lightOf wsX12_lightOf) := goodIn_app (goodIn_of _ (by decide +kernel)) ggX12_sets_X12_lightOf
theorem dX12_sets_0 : decode cX12_sets 0 = .ok (.iload_n 0, 1) := by decide +kernel
theorem dX12_sets_1 : decode cX12_sets 1 = .ok (.invokestatic 166, 3) := by decide +kernel
theorem dX12_sets_4 : decode cX12_sets 4 = .ok (.iload_n 0, 1) := by decide +kernel
theorem dX12_sets_5 : decode cX12_sets 5 = .ok (.invokestatic 163, 3) := by decide +kernel
theorem dX12_sets_8 : decode cX12_sets 8 = .ok (.iadd, 1) := by decide +kernel
theorem dX12_sets_9 : decode cX12_sets 9 = .ok (.ireturn, 1) := by decide +kernel
set_option maxRecDepth 20000 in
theorem ggX12_light_X12_isIn : GoodIn wsX12_light wsX12_isIn := goodIn_r _ [4] (by decide +kernel) (by decide +kernel)
set_option maxRecDepth 20000 in
theorem gX12_light_X12_isIn : GoodIn wsX12_light (va_wsS RX12 130 yX12_isIn wsX12_isIn) := goodIn_app (goodIn_of _ (by decide +kernel)) ggX12_light_X12_isIn
set_option maxRecDepth 20000 in
theorem ggX12_light_X12_lightOf : GoodIn wsX12_light wsX12_lightOf := goodIn_r _ [7] (by decide +kernel) (by decide +kernel)
set_option maxRecDepth 20000 in
theorem gX12_light_X12_lightOf : GoodIn wsX12_light (va_wsS RX12 163 yX12_lightOf wsX12_lightOf) := goodIn_app (goodIn_of _ (by decide +kernel)) ggX12_light_X12_lightOf
set_option maxRecDepth 20000 in
theorem ggX12_light_X12_rises : GoodIn wsX12_light wsX12_rises := goodIn_r _ [10, 5, 6, 3, 7] (by decide +kernel) (by decide +kernel)
set_option maxRecDepth 20000 in
theorem gX12_light_X12_rises : GoodIn wsX12_light (va_wsS RX12 166 yX12_rises wsX12_rises) := goodIn_app (goodIn_of _ (by decide +kernel)) ggX12_light_X12_rises
set_option maxRecDepth 20000 in
theorem ggX12_light_X12_sets : GoodIn wsX12_light wsX12_sets := goodIn_r _ [13, 8, 9, 3, 10, 5, 6, 7] (by decide +kernel) (by decide +kernel)
set_option maxRecDepth 20000 in
theorem gX12_light_X12_sets : GoodIn wsX12_light (va_wsS RX12 169 yX12_sets wsX12_sets) := goodIn_app (goodIn_of _ (by decide +kernel)) ggX12_light_X12_sets
theorem dX12_light_0 : decode cX12_light 0 = .ok (.iload_n 1, 1) := by decide +kernel
theorem dX12_light_1 : decode cX12_light 1 = .ok (.iconst 0, 1) := by decide +kernel
theorem dX12_light_2 : decode cX12_light 2 = .ok (.sipush 364, 3) := by decide +kernel
theorem dX12_light_5 : decode cX12_light 5 = .ok (.invokestatic 130, 3) := by decide +kernel
theorem dX12_light_8 : decode cX12_light 8 = .ok (.ifCond .eq 12, 3) := by decide +kernel
theorem dX12_light_11 : decode cX12_light 11 = .ok (.iload_n 2, 1) := by decide +kernel
theorem dX12_light_12 : decode cX12_light 12 = .ok (.iconst 0, 1) := by decide +kernel
theorem dX12_light_13 : decode cX12_light 13 = .ok (.iconst 2, 1) := by decide +kernel
theorem dX12_light_14 : decode cX12_light 14 = .ok (.invokestatic 130, 3) := by decide +kernel
theorem dX12_light_17 : decode cX12_light 17 = .ok (.ifCond .ne 7, 3) := by decide +kernel
theorem dX12_light_20 : decode cX12_light 20 = .ok (.iconst (-1), 1) := by decide +kernel
theorem dX12_light_21 : decode cX12_light 21 = .ok (.goto 30, 3) := by decide +kernel
theorem dX12_light_24 : decode cX12_light 24 = .ok (.iload_n 2, 1) := by decide +kernel
theorem dX12_light_25 : decode cX12_light 25 = .ok (.ifCond .ne 10, 3) := by decide +kernel
theorem dX12_light_28 : decode cX12_light 28 = .ok (.iload_n 1, 1) := by decide +kernel
theorem dX12_light_29 : decode cX12_light 29 = .ok (.invokestatic 163, 3) := by decide +kernel
theorem dX12_light_32 : decode cX12_light 32 = .ok (.goto 19, 3) := by decide +kernel
theorem dX12_light_35 : decode cX12_light 35 = .ok (.iload_n 2, 1) := by decide +kernel
theorem dX12_light_36 : decode cX12_light 36 = .ok (.iconst 1, 1) := by decide +kernel
theorem dX12_light_37 : decode cX12_light 37 = .ok (.if_icmp .ne 10, 3) := by decide +kernel
theorem dX12_light_40 : decode cX12_light 40 = .ok (.iload_n 1, 1) := by decide +kernel
theorem dX12_light_41 : decode cX12_light 41 = .ok (.invokestatic 166, 3) := by decide +kernel
theorem dX12_light_44 : decode cX12_light 44 = .ok (.goto 7, 3) := by decide +kernel
theorem dX12_light_47 : decode cX12_light 47 = .ok (.iload_n 1, 1) := by decide +kernel
theorem dX12_light_48 : decode cX12_light 48 = .ok (.invokestatic 169, 3) := by decide +kernel
theorem dX12_light_51 : decode cX12_light 51 = .ok (.ireturn, 1) := by decide +kernel
set_option maxRecDepth 20000 in
theorem ggX12_plain_X12_rises : GoodIn wsX12_plain wsX12_rises := goodIn_r _ [4, 5, 6, 3, 7] (by decide +kernel) (by decide +kernel)
set_option maxRecDepth 20000 in
theorem gX12_plain_X12_rises : GoodIn wsX12_plain (va_wsS RX12 166 yX12_rises wsX12_rises) := goodIn_app (goodIn_of _ (by decide +kernel)) ggX12_plain_X12_rises
set_option maxRecDepth 20000 in
theorem ggX12_plain_X12_sets : GoodIn wsX12_plain wsX12_sets := goodIn_r _ [10, 1, 2, 3, 4, 5, 6, 7] (by decide +kernel) (by decide +kernel)
set_option maxRecDepth 20000 in
theorem gX12_plain_X12_sets : GoodIn wsX12_plain (va_wsS RX12 169 yX12_sets wsX12_sets) := goodIn_app (goodIn_of _ (by decide +kernel)) ggX12_plain_X12_sets
set_option maxRecDepth 20000 in
theorem ggX12_plain_X12_lightOf : GoodIn wsX12_plain wsX12_lightOf := goodIn_r _ [7] (by decide +kernel) (by decide +kernel)
set_option maxRecDepth 20000 in
theorem gX12_plain_X12_lightOf : GoodIn wsX12_plain (va_wsS RX12 163 yX12_lightOf wsX12_lightOf) := goodIn_app (goodIn_of _ (by decide +kernel)) ggX12_plain_X12_lightOf
theorem dX12_plain_0 : decode cX12_plain 0 = .ok (.iload_n 0, 1) := by decide +kernel
theorem dX12_plain_1 : decode cX12_plain 1 = .ok (.sipush 365, 3) := by decide +kernel
theorem dX12_plain_4 : decode cX12_plain 4 = .ok (.irem, 1) := by decide +kernel
theorem dX12_plain_5 : decode cX12_plain 5 = .ok (.istore_n 2, 1) := by decide +kernel
theorem dX12_plain_6 : decode cX12_plain 6 = .ok (.iload_n 1, 1) := by decide +kernel
theorem dX12_plain_7 : decode cX12_plain 7 = .ok (.ifCond .ne 10, 3) := by decide +kernel
theorem dX12_plain_10 : decode cX12_plain 10 = .ok (.iload_n 2, 1) := by decide +kernel
theorem dX12_plain_11 : decode cX12_plain 11 = .ok (.invokestatic 166, 3) := by decide +kernel
theorem dX12_plain_14 : decode cX12_plain 14 = .ok (.iconst 3, 1) := by decide +kernel
theorem dX12_plain_15 : decode cX12_plain 15 = .ok (.idiv, 1) := by decide +kernel
theorem dX12_plain_16 : decode cX12_plain 16 = .ok (.ireturn, 1) := by decide +kernel
theorem dX12_plain_17 : decode cX12_plain 17 = .ok (.iload_n 1, 1) := by decide +kernel
theorem dX12_plain_18 : decode cX12_plain 18 = .ok (.iconst 1, 1) := by decide +kernel
theorem dX12_plain_19 : decode cX12_plain 19 = .ok (.if_icmp .ne 11, 3) := by decide +kernel
theorem dX12_plain_22 : decode cX12_plain 22 = .ok (.iload_n 2, 1) := by decide +kernel
theorem dX12_plain_23 : decode cX12_plain 23 = .ok (.invokestatic 166, 3) := by decide +kernel
theorem dX12_plain_26 : decode cX12_plain 26 = .ok (.bipush 60, 2) := by decide +kernel
theorem dX12_plain_28 : decode cX12_plain 28 = .ok (.isub, 1) := by decide +kernel
theorem dX12_plain_29 : decode cX12_plain 29 = .ok (.ireturn, 1) := by decide +kernel
theorem dX12_plain_30 : decode cX12_plain 30 = .ok (.iload_n 1, 1) := by decide +kernel
theorem dX12_plain_31 : decode cX12_plain 31 = .ok (.bipush 7, 2) := by decide +kernel
theorem dX12_plain_33 : decode cX12_plain 33 = .ok (.if_icmp .ne 19, 3) := by decide +kernel
theorem dX12_plain_36 : decode cX12_plain 36 = .ok (.iload_n 2, 1) := by decide +kernel
theorem dX12_plain_37 : decode cX12_plain 37 = .ok (.invokestatic 169, 3) := by decide +kernel
theorem dX12_plain_40 : decode cX12_plain 40 = .ok (.sipush 1440, 3) := by decide +kernel
theorem dX12_plain_43 : decode cX12_plain 43 = .ok (.iload_n 2, 1) := by decide +kernel
theorem dX12_plain_44 : decode cX12_plain 44 = .ok (.invokestatic 169, 3) := by decide +kernel
theorem dX12_plain_47 : decode cX12_plain 47 = .ok (.isub, 1) := by decide +kernel
theorem dX12_plain_48 : decode cX12_plain 48 = .ok (.iconst 3, 1) := by decide +kernel
theorem dX12_plain_49 : decode cX12_plain 49 = .ok (.idiv, 1) := by decide +kernel
theorem dX12_plain_50 : decode cX12_plain 50 = .ok (.iadd, 1) := by decide +kernel
theorem dX12_plain_51 : decode cX12_plain 51 = .ok (.ireturn, 1) := by decide +kernel
theorem dX12_plain_52 : decode cX12_plain 52 = .ok (.iload_n 1, 1) := by decide +kernel
theorem dX12_plain_53 : decode cX12_plain 53 = .ok (.bipush 6, 2) := by decide +kernel
theorem dX12_plain_55 : decode cX12_plain 55 = .ok (.if_icmp .ge 11, 3) := by decide +kernel
theorem dX12_plain_58 : decode cX12_plain 58 = .ok (.iconst 3, 1) := by decide +kernel
theorem dX12_plain_59 : decode cX12_plain 59 = .ok (.iload_n 1, 1) := by decide +kernel
theorem dX12_plain_60 : decode cX12_plain 60 = .ok (.iconst 2, 1) := by decide +kernel
theorem dX12_plain_61 : decode cX12_plain 61 = .ok (.isub, 1) := by decide +kernel
theorem dX12_plain_62 : decode cX12_plain 62 = .ok (.imul, 1) := by decide +kernel
theorem dX12_plain_63 : decode cX12_plain 63 = .ok (.goto 5, 3) := by decide +kernel
theorem dX12_plain_66 : decode cX12_plain 66 = .ok (.bipush 11, 2) := by decide +kernel
theorem dX12_plain_68 : decode cX12_plain 68 = .ok (.istore_n 3, 1) := by decide +kernel
theorem dX12_plain_69 : decode cX12_plain 69 = .ok (.iload_n 2, 1) := by decide +kernel
theorem dX12_plain_70 : decode cX12_plain 70 = .ok (.invokestatic 166, 3) := by decide +kernel
theorem dX12_plain_73 : decode cX12_plain 73 = .ok (.iload_n 2, 1) := by decide +kernel
theorem dX12_plain_74 : decode cX12_plain 74 = .ok (.invokestatic 163, 3) := by decide +kernel
theorem dX12_plain_77 : decode cX12_plain 77 = .ok (.iload_n 3, 1) := by decide +kernel
theorem dX12_plain_78 : decode cX12_plain 78 = .ok (.imul, 1) := by decide +kernel
theorem dX12_plain_79 : decode cX12_plain 79 = .ok (.bipush 12, 2) := by decide +kernel
theorem dX12_plain_81 : decode cX12_plain 81 = .ok (.idiv, 1) := by decide +kernel
theorem dX12_plain_82 : decode cX12_plain 82 = .ok (.iadd, 1) := by decide +kernel
theorem dX12_plain_83 : decode cX12_plain 83 = .ok (.ireturn, 1) := by decide +kernel
theorem dX12_lateRow_0 : decode cX12_lateRow 0 = .ok (.iconst 0, 1) := by decide +kernel
theorem dX12_lateRow_1 : decode cX12_lateRow 1 = .ok (.istore_n 3, 1) := by decide +kernel
theorem dX12_lateRow_2 : decode cX12_lateRow 2 = .ok (.iload_n 3, 1) := by decide +kernel
theorem dX12_lateRow_3 : decode cX12_lateRow 3 = .ok (.aload_n 0, 1) := by decide +kernel
theorem dX12_lateRow_4 : decode cX12_lateRow 4 = .ok (.getfield 172, 3) := by decide +kernel
theorem dX12_lateRow_7 : decode cX12_lateRow 7 = .ok (.if_icmp .ge 31, 3) := by decide +kernel
theorem dX12_lateRow_10 : decode cX12_lateRow 10 = .ok (.aload_n 0, 1) := by decide +kernel
theorem dX12_lateRow_11 : decode cX12_lateRow 11 = .ok (.getfield 68, 3) := by decide +kernel
theorem dX12_lateRow_14 : decode cX12_lateRow 14 = .ok (.iload_n 3, 1) := by decide +kernel
theorem dX12_lateRow_15 : decode cX12_lateRow 15 = .ok (.iaload, 1) := by decide +kernel
theorem dX12_lateRow_16 : decode cX12_lateRow 16 = .ok (.iload_n 1, 1) := by decide +kernel
theorem dX12_lateRow_17 : decode cX12_lateRow 17 = .ok (.if_icmp .ne 15, 3) := by decide +kernel
theorem dX12_lateRow_20 : decode cX12_lateRow 20 = .ok (.aload_n 0, 1) := by decide +kernel
theorem dX12_lateRow_21 : decode cX12_lateRow 21 = .ok (.getfield 71, 3) := by decide +kernel
theorem dX12_lateRow_24 : decode cX12_lateRow 24 = .ok (.iload_n 3, 1) := by decide +kernel
theorem dX12_lateRow_25 : decode cX12_lateRow 25 = .ok (.iaload, 1) := by decide +kernel
theorem dX12_lateRow_26 : decode cX12_lateRow 26 = .ok (.iload_n 2, 1) := by decide +kernel
theorem dX12_lateRow_27 : decode cX12_lateRow 27 = .ok (.if_icmp .ne 5, 3) := by decide +kernel
theorem dX12_lateRow_30 : decode cX12_lateRow 30 = .ok (.iload_n 3, 1) := by decide +kernel
theorem dX12_lateRow_31 : decode cX12_lateRow 31 = .ok (.ireturn, 1) := by decide +kernel
theorem dX12_lateRow_32 : decode cX12_lateRow 32 = .ok (.iinc 3 1, 3) := by decide +kernel
theorem dX12_lateRow_35 : decode cX12_lateRow 35 = .ok (.goto (-33), 3) := by decide +kernel
theorem dX12_lateRow_38 : decode cX12_lateRow 38 = .ok (.iconst (-1), 1) := by decide +kernel
theorem dX12_lateRow_39 : decode cX12_lateRow 39 = .ok (.ireturn, 1) := by decide +kernel
set_option maxRecDepth 20000 in
theorem ggX12_begins_X12_lateRow : GoodIn wsX12_begins wsX12_lateRow := goodIn_r _ [6, 7, 8, 9, 22, 23, 24, 25, 26, 27, 28, 29, 30, 31, 32, 33, 34, 35, 36, 37, 38, 39, 40, 41, 42, 43, 44, 45, 46, 47, 48, 49, 50, 51, 52, 53, 54, 55, 56, 57, 58, 59, 60, 61, 62, 63, 64, 65, 66, 67, 68, 69, 70, 71, 72, 73, 74, 75] (by decide +kernel) (by decide +kernel)
set_option maxRecDepth 20000 in
theorem gX12_begins_X12_lateRow : GoodIn wsX12_begins (wsV RX12 175 RX12 yX12_lateRow wsX12_lateRow) := goodIn_app (goodIn_of _ (by decide +kernel)) ggX12_begins_X12_lateRow
set_option maxRecDepth 20000 in
theorem ggX12_begins_X12_plain : GoodIn wsX12_begins wsX12_plain := goodIn_r _ [12, 13, 14, 5, 15, 16, 17, 18, 19, 20, 21] (by decide +kernel) (by decide +kernel)
set_option maxRecDepth 20000 in
theorem gX12_begins_X12_plain : GoodIn wsX12_begins (va_wsS RX12 179 yX12_plain wsX12_plain) := goodIn_app (goodIn_of _ (by decide +kernel)) ggX12_begins_X12_plain
theorem dX12_begins_0 : decode cX12_begins 0 = .ok (.aload_n 0, 1) := by decide +kernel
theorem dX12_begins_1 : decode cX12_begins 1 = .ok (.iload_n 1, 1) := by decide +kernel
theorem dX12_begins_2 : decode cX12_begins 2 = .ok (.iload_n 2, 1) := by decide +kernel
theorem dX12_begins_3 : decode cX12_begins 3 = .ok (.invokevirtual 175, 3) := by decide +kernel
theorem dX12_begins_6 : decode cX12_begins 6 = .ok (.istore_n 3, 1) := by decide +kernel
theorem dX12_begins_7 : decode cX12_begins 7 = .ok (.iload_n 1, 1) := by decide +kernel
theorem dX12_begins_8 : decode cX12_begins 8 = .ok (.iload_n 2, 1) := by decide +kernel
theorem dX12_begins_9 : decode cX12_begins 9 = .ok (.invokestatic 179, 3) := by decide +kernel
theorem dX12_begins_12 : decode cX12_begins 12 = .ok (.iload_n 3, 1) := by decide +kernel
theorem dX12_begins_13 : decode cX12_begins 13 = .ok (.iconst (-1), 1) := by decide +kernel
theorem dX12_begins_14 : decode cX12_begins 14 = .ok (.if_icmp .ne 7, 3) := by decide +kernel
theorem dX12_begins_17 : decode cX12_begins 17 = .ok (.iconst 0, 1) := by decide +kernel
theorem dX12_begins_18 : decode cX12_begins 18 = .ok (.goto 9, 3) := by decide +kernel
theorem dX12_begins_21 : decode cX12_begins 21 = .ok (.aload_n 0, 1) := by decide +kernel
theorem dX12_begins_22 : decode cX12_begins 22 = .ok (.getfield 74, 3) := by decide +kernel
theorem dX12_begins_25 : decode cX12_begins 25 = .ok (.iload_n 3, 1) := by decide +kernel
theorem dX12_begins_26 : decode cX12_begins 26 = .ok (.iaload, 1) := by decide +kernel
theorem dX12_begins_27 : decode cX12_begins 27 = .ok (.iadd, 1) := by decide +kernel
theorem dX12_begins_28 : decode cX12_begins 28 = .ok (.ireturn, 1) := by decide +kernel
set_option maxRecDepth 20000 in
theorem ggX12_office_X12_isDay : GoodIn wsX12_office wsX12_isDay := goodIn_r _ [4, 5, 6, 3, 7] (by decide +kernel) (by decide +kernel)
set_option maxRecDepth 20000 in
theorem gX12_office_X12_isDay : GoodIn wsX12_office (va_wsS RX12 147 yX12_isDay wsX12_isDay) := goodIn_app (goodIn_of _ (by decide +kernel)) ggX12_office_X12_isDay
set_option maxRecDepth 20000 in
theorem ggX12_office_X12_isIn : GoodIn wsX12_office wsX12_isIn := goodIn_r _ [7] (by decide +kernel) (by decide +kernel)
set_option maxRecDepth 20000 in
theorem gX12_office_X12_isIn : GoodIn wsX12_office (va_wsS RX12 130 yX12_isIn wsX12_isIn) := goodIn_app (goodIn_of _ (by decide +kernel)) ggX12_office_X12_isIn
set_option maxRecDepth 20000 in
theorem ggX12_office_X12_begins : GoodIn wsX12_office wsX12_begins := goodIn_r _ [11, 12, 13, 14, 15, 3, 16, 17, 18, 19, 20, 21, 22, 23, 24, 25, 26, 27, 28, 29, 30, 31, 32, 33, 34, 35, 36, 37, 38, 39, 40, 41, 42, 43, 44, 45, 46, 47, 48, 49, 50, 51, 52, 53, 54, 55, 56, 57, 58, 59, 60, 61, 62, 63, 64, 65, 66, 67, 68, 69, 70, 71, 72, 73, 74, 75, 76, 77, 78, 79, 80, 81, 82, 83, 84, 85] (by decide +kernel) (by decide +kernel)
set_option maxRecDepth 20000 in
theorem gX12_office_X12_begins : GoodIn wsX12_office (wsV RX12 182 RX12 yX12_begins wsX12_begins) := goodIn_app (goodIn_of _ (by decide +kernel)) ggX12_office_X12_begins
theorem dX12_office_0 : decode cX12_office 0 = .ok (.iload_n 1, 1) := by decide +kernel
theorem dX12_office_1 : decode cX12_office 1 = .ok (.invokestatic 147, 3) := by decide +kernel
theorem dX12_office_4 : decode cX12_office 4 = .ok (.ifCond .eq 22, 3) := by decide +kernel
theorem dX12_office_7 : decode cX12_office 7 = .ok (.iload_n 2, 1) := by decide +kernel
theorem dX12_office_8 : decode cX12_office 8 = .ok (.iconst 0, 1) := by decide +kernel
theorem dX12_office_9 : decode cX12_office 9 = .ok (.bipush 7, 2) := by decide +kernel
theorem dX12_office_11 : decode cX12_office 11 = .ok (.invokestatic 130, 3) := by decide +kernel
theorem dX12_office_14 : decode cX12_office 14 = .ok (.ifCond .eq 12, 3) := by decide +kernel
theorem dX12_office_17 : decode cX12_office 17 = .ok (.aload_n 0, 1) := by decide +kernel
theorem dX12_office_18 : decode cX12_office 18 = .ok (.iload_n 1, 1) := by decide +kernel
theorem dX12_office_19 : decode cX12_office 19 = .ok (.iload_n 2, 1) := by decide +kernel
theorem dX12_office_20 : decode cX12_office 20 = .ok (.invokevirtual 182, 3) := by decide +kernel
theorem dX12_office_23 : decode cX12_office 23 = .ok (.goto 4, 3) := by decide +kernel
theorem dX12_office_26 : decode cX12_office 26 = .ok (.iconst (-1), 1) := by decide +kernel
theorem dX12_office_27 : decode cX12_office 27 = .ok (.ireturn, 1) := by decide +kernel
set_option maxRecDepth 20000 in
theorem ggX12_late_X12_isIn : GoodIn wsX12_late wsX12_isIn := goodIn_r _ [9] (by decide +kernel) (by decide +kernel)
set_option maxRecDepth 20000 in
theorem gX12_late_X12_isIn : GoodIn wsX12_late (va_wsS RX12 130 yX12_isIn wsX12_isIn) := goodIn_app (goodIn_of _ (by decide +kernel)) ggX12_late_X12_isIn
set_option maxRecDepth 20000 in
theorem ggX12_late_X12_plain : GoodIn wsX12_late wsX12_plain := goodIn_r _ [12, 13, 14, 8, 15, 16, 17, 18, 19, 20, 21] (by decide +kernel) (by decide +kernel)
set_option maxRecDepth 20000 in
theorem gX12_late_X12_plain : GoodIn wsX12_late (va_wsS RX12 179 yX12_plain wsX12_plain) := goodIn_app (goodIn_of _ (by decide +kernel)) ggX12_late_X12_plain
set_option maxRecDepth 20000 in
theorem ggX12_late_X12_begins : GoodIn wsX12_late wsX12_begins := goodIn_r _ [25, 5, 26, 27, 28, 8, 29, 2, 3, 4, 10, 11, 12, 13, 14, 15, 16, 17, 18, 19, 20, 21, 30, 31, 32, 33, 34, 35, 36, 37, 38, 39, 40, 41, 42, 43, 44, 45, 46, 47, 48, 49, 50, 51, 52, 53, 54, 55, 56, 57, 58, 59, 60, 61, 62, 63, 64, 65, 66, 67, 68, 69, 70, 71, 72, 73, 74, 75, 76, 77, 78, 79, 80, 81, 82, 83] (by decide +kernel) (by decide +kernel)
set_option maxRecDepth 20000 in
theorem gX12_late_X12_begins : GoodIn wsX12_late (wsV RX12 182 RX12 yX12_begins wsX12_begins) := goodIn_app (goodIn_of _ (by decide +kernel)) ggX12_late_X12_begins
set_option maxRecDepth 20000 in
theorem ggX12_late_X12_lateRow : GoodIn wsX12_late wsX12_lateRow := goodIn_r _ [29, 2, 3, 4, 30, 31, 32, 33, 34, 35, 36, 37, 38, 39, 40, 41, 42, 43, 44, 45, 46, 47, 48, 49, 50, 51, 52, 53, 54, 55, 56, 57, 58, 59, 60, 61, 62, 63, 64, 65, 66, 67, 68, 69, 70, 71, 72, 73, 74, 75, 76, 77, 78, 79, 80, 81, 82, 83] (by decide +kernel) (by decide +kernel)
set_option maxRecDepth 20000 in
theorem gX12_late_X12_lateRow : GoodIn wsX12_late (wsV RX12 175 RX12 yX12_lateRow wsX12_lateRow) := goodIn_app (goodIn_of _ (by decide +kernel)) ggX12_late_X12_lateRow
theorem dX12_late_0 : decode cX12_late 0 = .ok (.iload_n 1, 1) := by decide +kernel
theorem dX12_late_1 : decode cX12_late 1 = .ok (.aload_n 0, 1) := by decide +kernel
theorem dX12_late_2 : decode cX12_late 2 = .ok (.getfield 140, 3) := by decide +kernel
theorem dX12_late_5 : decode cX12_late 5 = .ok (.sipush 1094, 3) := by decide +kernel
theorem dX12_late_8 : decode cX12_late 8 = .ok (.invokestatic 130, 3) := by decide +kernel
theorem dX12_late_11 : decode cX12_late 11 = .ok (.ifCond .eq 23, 3) := by decide +kernel
theorem dX12_late_14 : decode cX12_late 14 = .ok (.iload_n 2, 1) := by decide +kernel
theorem dX12_late_15 : decode cX12_late 15 = .ok (.iconst 0, 1) := by decide +kernel
theorem dX12_late_16 : decode cX12_late 16 = .ok (.bipush 7, 2) := by decide +kernel
theorem dX12_late_18 : decode cX12_late 18 = .ok (.invokestatic 130, 3) := by decide +kernel
theorem dX12_late_21 : decode cX12_late 21 = .ok (.ifCond .eq 13, 3) := by decide +kernel
theorem dX12_late_24 : decode cX12_late 24 = .ok (.iload_n 3, 1) := by decide +kernel
theorem dX12_late_25 : decode cX12_late 25 = .ok (.iconst 1, 1) := by decide +kernel
theorem dX12_late_26 : decode cX12_late 26 = .ok (.bipush 120, 2) := by decide +kernel
theorem dX12_late_28 : decode cX12_late 28 = .ok (.invokestatic 130, 3) := by decide +kernel
theorem dX12_late_31 : decode cX12_late 31 = .ok (.ifCond .ne 5, 3) := by decide +kernel
theorem dX12_late_34 : decode cX12_late 34 = .ok (.iconst (-1), 1) := by decide +kernel
theorem dX12_late_35 : decode cX12_late 35 = .ok (.ireturn, 1) := by decide +kernel
theorem dX12_late_36 : decode cX12_late 36 = .ok (.iload_n 1, 1) := by decide +kernel
theorem dX12_late_37 : decode cX12_late 37 = .ok (.iload_n 2, 1) := by decide +kernel
theorem dX12_late_38 : decode cX12_late 38 = .ok (.invokestatic 179, 3) := by decide +kernel
theorem dX12_late_41 : decode cX12_late 41 = .ok (.iload_n 3, 1) := by decide +kernel
theorem dX12_late_42 : decode cX12_late 42 = .ok (.iadd, 1) := by decide +kernel
theorem dX12_late_43 : decode cX12_late 43 = .ok (.istore 4, 2) := by decide +kernel
theorem dX12_late_45 : decode cX12_late 45 = .ok (.iload_n 2, 1) := by decide +kernel
theorem dX12_late_46 : decode cX12_late 46 = .ok (.bipush 7, 2) := by decide +kernel
theorem dX12_late_48 : decode cX12_late 48 = .ok (.if_icmp .ne 9, 3) := by decide +kernel
theorem dX12_late_51 : decode cX12_late 51 = .ok (.sipush 1410, 3) := by decide +kernel
theorem dX12_late_54 : decode cX12_late 54 = .ok (.goto 11, 3) := by decide +kernel
theorem dX12_late_57 : decode cX12_late 57 = .ok (.aload_n 0, 1) := by decide +kernel
theorem dX12_late_58 : decode cX12_late 58 = .ok (.iload_n 1, 1) := by decide +kernel
theorem dX12_late_59 : decode cX12_late 59 = .ok (.iload_n 2, 1) := by decide +kernel
theorem dX12_late_60 : decode cX12_late 60 = .ok (.iconst 1, 1) := by decide +kernel
theorem dX12_late_61 : decode cX12_late 61 = .ok (.iadd, 1) := by decide +kernel
theorem dX12_late_62 : decode cX12_late 62 = .ok (.invokevirtual 182, 3) := by decide +kernel
theorem dX12_late_65 : decode cX12_late 65 = .ok (.istore 5, 2) := by decide +kernel
theorem dX12_late_67 : decode cX12_late 67 = .ok (.iload 4, 2) := by decide +kernel
theorem dX12_late_69 : decode cX12_late 69 = .ok (.iload 5, 2) := by decide +kernel
theorem dX12_late_71 : decode cX12_late 71 = .ok (.if_icmp .ge 20, 3) := by decide +kernel
theorem dX12_late_74 : decode cX12_late 74 = .ok (.iload_n 2, 1) := by decide +kernel
theorem dX12_late_75 : decode cX12_late 75 = .ok (.ifCond .le 18, 3) := by decide +kernel
theorem dX12_late_78 : decode cX12_late 78 = .ok (.iload 4, 2) := by decide +kernel
theorem dX12_late_80 : decode cX12_late 80 = .ok (.aload_n 0, 1) := by decide +kernel
theorem dX12_late_81 : decode cX12_late 81 = .ok (.iload_n 1, 1) := by decide +kernel
theorem dX12_late_82 : decode cX12_late 82 = .ok (.iload_n 2, 1) := by decide +kernel
theorem dX12_late_83 : decode cX12_late 83 = .ok (.iconst 1, 1) := by decide +kernel
theorem dX12_late_84 : decode cX12_late 84 = .ok (.isub, 1) := by decide +kernel
theorem dX12_late_85 : decode cX12_late 85 = .ok (.invokevirtual 182, 3) := by decide +kernel
theorem dX12_late_88 : decode cX12_late 88 = .ok (.if_icmp .gt 5, 3) := by decide +kernel
theorem dX12_late_91 : decode cX12_late 91 = .ok (.iconst (-1), 1) := by decide +kernel
theorem dX12_late_92 : decode cX12_late 92 = .ok (.ireturn, 1) := by decide +kernel
theorem dX12_late_93 : decode cX12_late 93 = .ok (.aload_n 0, 1) := by decide +kernel
theorem dX12_late_94 : decode cX12_late 94 = .ok (.iload_n 1, 1) := by decide +kernel
theorem dX12_late_95 : decode cX12_late 95 = .ok (.iload_n 2, 1) := by decide +kernel
theorem dX12_late_96 : decode cX12_late 96 = .ok (.invokevirtual 175, 3) := by decide +kernel
theorem dX12_late_99 : decode cX12_late 99 = .ok (.istore 6, 2) := by decide +kernel
theorem dX12_late_101 : decode cX12_late 101 = .ok (.iload 6, 2) := by decide +kernel
theorem dX12_late_103 : decode cX12_late 103 = .ok (.iconst (-1), 1) := by decide +kernel
theorem dX12_late_104 : decode cX12_late 104 = .ok (.if_icmp .ne 30, 3) := by decide +kernel
theorem dX12_late_107 : decode cX12_late 107 = .ok (.aload_n 0, 1) := by decide +kernel
theorem dX12_late_108 : decode cX12_late 108 = .ok (.getfield 172, 3) := by decide +kernel
theorem dX12_late_111 : decode cX12_late 111 = .ok (.bipush 100, 2) := by decide +kernel
theorem dX12_late_113 : decode cX12_late 113 = .ok (.if_icmp .ne 5, 3) := by decide +kernel
theorem dX12_late_116 : decode cX12_late 116 = .ok (.iconst (-1), 1) := by decide +kernel
theorem dX12_late_117 : decode cX12_late 117 = .ok (.ireturn, 1) := by decide +kernel
theorem dX12_late_118 : decode cX12_late 118 = .ok (.aload_n 0, 1) := by decide +kernel
theorem dX12_late_119 : decode cX12_late 119 = .ok (.getfield 172, 3) := by decide +kernel
theorem dX12_late_122 : decode cX12_late 122 = .ok (.istore 6, 2) := by decide +kernel
theorem dX12_late_124 : decode cX12_late 124 = .ok (.aload_n 0, 1) := by decide +kernel
theorem dX12_late_125 : decode cX12_late 125 = .ok (.dup, 1) := by decide +kernel
theorem dX12_late_126 : decode cX12_late 126 = .ok (.getfield 172, 3) := by decide +kernel
theorem dX12_late_129 : decode cX12_late 129 = .ok (.iconst 1, 1) := by decide +kernel
theorem dX12_late_130 : decode cX12_late 130 = .ok (.iadd, 1) := by decide +kernel
theorem dX12_late_131 : decode cX12_late 131 = .ok (.putfield 172, 3) := by decide +kernel
theorem dX12_late_134 : decode cX12_late 134 = .ok (.aload_n 0, 1) := by decide +kernel
theorem dX12_late_135 : decode cX12_late 135 = .ok (.getfield 68, 3) := by decide +kernel
theorem dX12_late_138 : decode cX12_late 138 = .ok (.iload 6, 2) := by decide +kernel
theorem dX12_late_140 : decode cX12_late 140 = .ok (.iload_n 1, 1) := by decide +kernel
theorem dX12_late_141 : decode cX12_late 141 = .ok (.iastore, 1) := by decide +kernel
theorem dX12_late_142 : decode cX12_late 142 = .ok (.aload_n 0, 1) := by decide +kernel
theorem dX12_late_143 : decode cX12_late 143 = .ok (.getfield 71, 3) := by decide +kernel
theorem dX12_late_146 : decode cX12_late 146 = .ok (.iload 6, 2) := by decide +kernel
theorem dX12_late_148 : decode cX12_late 148 = .ok (.iload_n 2, 1) := by decide +kernel
theorem dX12_late_149 : decode cX12_late 149 = .ok (.iastore, 1) := by decide +kernel
theorem dX12_late_150 : decode cX12_late 150 = .ok (.aload_n 0, 1) := by decide +kernel
theorem dX12_late_151 : decode cX12_late 151 = .ok (.getfield 74, 3) := by decide +kernel
theorem dX12_late_154 : decode cX12_late 154 = .ok (.iload 6, 2) := by decide +kernel
theorem dX12_late_156 : decode cX12_late 156 = .ok (.iload_n 3, 1) := by decide +kernel
theorem dX12_late_157 : decode cX12_late 157 = .ok (.iastore, 1) := by decide +kernel
theorem dX12_late_158 : decode cX12_late 158 = .ok (.iload 4, 2) := by decide +kernel
theorem dX12_late_160 : decode cX12_late 160 = .ok (.ireturn, 1) := by decide +kernel
set_option maxRecDepth 20000 in
theorem ggX12_feed_X12_four : GoodIn wsX12_feed wsX12_four := goodIn_r _ [6, 7, 1, 8, 9, 10, 11, 12, 13, 14, 15, 16, 17, 18, 19, 20, 21, 22, 23, 24, 25, 26, 27, 28, 29, 30, 31, 32, 33, 34, 35, 36, 37, 38, 39, 40, 41, 42, 43, 44, 45, 46, 47, 48, 49, 50, 51, 52, 53, 54, 55, 56, 57, 58, 59, 60, 61] (by decide +kernel) (by decide +kernel)
set_option maxRecDepth 20000 in
theorem gX12_feed_X12_four : GoodIn wsX12_feed (wsV RX12 188 RX12 yX12_four wsX12_four) := goodIn_app (goodIn_of _ (by decide +kernel)) ggX12_feed_X12_four
theorem dX12_feed_0 : decode cX12_feed 0 = .ok (.aload_n 0, 1) := by decide +kernel
theorem dX12_feed_1 : decode cX12_feed 1 = .ok (.getfield 185, 3) := by decide +kernel
theorem dX12_feed_4 : decode cX12_feed 4 = .ok (.bipush 20, 2) := by decide +kernel
theorem dX12_feed_6 : decode cX12_feed 6 = .ok (.iadd, 1) := by decide +kernel
theorem dX12_feed_7 : decode cX12_feed 7 = .ok (.sipush 600, 3) := by decide +kernel
theorem dX12_feed_10 : decode cX12_feed 10 = .ok (.if_icmp .le 5, 3) := by decide +kernel
theorem dX12_feed_13 : decode cX12_feed 13 = .ok (.iconst (-1), 1) := by decide +kernel
theorem dX12_feed_14 : decode cX12_feed 14 = .ok (.ireturn, 1) := by decide +kernel
theorem dX12_feed_15 : decode cX12_feed 15 = .ok (.aload_n 0, 1) := by decide +kernel
theorem dX12_feed_16 : decode cX12_feed 16 = .ok (.iload_n 1, 1) := by decide +kernel
theorem dX12_feed_17 : decode cX12_feed 17 = .ok (.invokevirtual 188, 3) := by decide +kernel
theorem dX12_feed_20 : decode cX12_feed 20 = .ok (.aload_n 0, 1) := by decide +kernel
theorem dX12_feed_21 : decode cX12_feed 21 = .ok (.iload_n 2, 1) := by decide +kernel
theorem dX12_feed_22 : decode cX12_feed 22 = .ok (.invokevirtual 188, 3) := by decide +kernel
theorem dX12_feed_25 : decode cX12_feed 25 = .ok (.aload_n 0, 1) := by decide +kernel
theorem dX12_feed_26 : decode cX12_feed 26 = .ok (.iload_n 3, 1) := by decide +kernel
theorem dX12_feed_27 : decode cX12_feed 27 = .ok (.invokevirtual 188, 3) := by decide +kernel
theorem dX12_feed_30 : decode cX12_feed 30 = .ok (.aload_n 0, 1) := by decide +kernel
theorem dX12_feed_31 : decode cX12_feed 31 = .ok (.iload 4, 2) := by decide +kernel
theorem dX12_feed_33 : decode cX12_feed 33 = .ok (.invokevirtual 188, 3) := by decide +kernel
theorem dX12_feed_36 : decode cX12_feed 36 = .ok (.aload_n 0, 1) := by decide +kernel
theorem dX12_feed_37 : decode cX12_feed 37 = .ok (.iload 5, 2) := by decide +kernel
theorem dX12_feed_39 : decode cX12_feed 39 = .ok (.invokevirtual 188, 3) := by decide +kernel
theorem dX12_feed_42 : decode cX12_feed 42 = .ok (.aload_n 0, 1) := by decide +kernel
theorem dX12_feed_43 : decode cX12_feed 43 = .ok (.getfield 185, 3) := by decide +kernel
theorem dX12_feed_46 : decode cX12_feed 46 = .ok (.ireturn, 1) := by decide +kernel
theorem dX12_four_0 : decode cX12_four 0 = .ok (.bipush 24, 2) := by decide +kernel
theorem dX12_four_2 : decode cX12_four 2 = .ok (.istore_n 2, 1) := by decide +kernel
theorem dX12_four_3 : decode cX12_four 3 = .ok (.iload_n 2, 1) := by decide +kernel
theorem dX12_four_4 : decode cX12_four 4 = .ok (.ifCond .lt 32, 3) := by decide +kernel
theorem dX12_four_7 : decode cX12_four 7 = .ok (.aload_n 0, 1) := by decide +kernel
theorem dX12_four_8 : decode cX12_four 8 = .ok (.getfield 104, 3) := by decide +kernel
theorem dX12_four_11 : decode cX12_four 11 = .ok (.aload_n 0, 1) := by decide +kernel
theorem dX12_four_12 : decode cX12_four 12 = .ok (.getfield 185, 3) := by decide +kernel
theorem dX12_four_15 : decode cX12_four 15 = .ok (.iload_n 1, 1) := by decide +kernel
theorem dX12_four_16 : decode cX12_four 16 = .ok (.iload_n 2, 1) := by decide +kernel
theorem dX12_four_17 : decode cX12_four 17 = .ok (.ishr, 1) := by decide +kernel
theorem dX12_four_18 : decode cX12_four 18 = .ok (.i2b, 1) := by decide +kernel
theorem dX12_four_19 : decode cX12_four 19 = .ok (.bastore, 1) := by decide +kernel
theorem dX12_four_20 : decode cX12_four 20 = .ok (.aload_n 0, 1) := by decide +kernel
theorem dX12_four_21 : decode cX12_four 21 = .ok (.dup, 1) := by decide +kernel
theorem dX12_four_22 : decode cX12_four 22 = .ok (.getfield 185, 3) := by decide +kernel
theorem dX12_four_25 : decode cX12_four 25 = .ok (.iconst 1, 1) := by decide +kernel
theorem dX12_four_26 : decode cX12_four 26 = .ok (.iadd, 1) := by decide +kernel
theorem dX12_four_27 : decode cX12_four 27 = .ok (.putfield 185, 3) := by decide +kernel
theorem dX12_four_30 : decode cX12_four 30 = .ok (.iinc 2 (-8), 3) := by decide +kernel
theorem dX12_four_33 : decode cX12_four 33 = .ok (.goto (-30), 3) := by decide +kernel
theorem dX12_four_36 : decode cX12_four 36 = .ok (.return_, 1) := by decide +kernel
theorem dX12_blanks_0 : decode cX12_blanks 0 = .ok (.aload_n 0, 1) := by decide +kernel
theorem dX12_blanks_1 : decode cX12_blanks 1 = .ok (.getfield 192, 3) := by decide +kernel
theorem dX12_blanks_4 : decode cX12_blanks 4 = .ok (.aload_n 0, 1) := by decide +kernel
theorem dX12_blanks_5 : decode cX12_blanks 5 = .ok (.getfield 195, 3) := by decide +kernel
theorem dX12_blanks_8 : decode cX12_blanks 8 = .ok (.if_icmp .ge 44, 3) := by decide +kernel
theorem dX12_blanks_11 : decode cX12_blanks 11 = .ok (.aload_n 0, 1) := by decide +kernel
theorem dX12_blanks_12 : decode cX12_blanks 12 = .ok (.getfield 108, 3) := by decide +kernel
theorem dX12_blanks_15 : decode cX12_blanks 15 = .ok (.aload_n 0, 1) := by decide +kernel
theorem dX12_blanks_16 : decode cX12_blanks 16 = .ok (.getfield 192, 3) := by decide +kernel
theorem dX12_blanks_19 : decode cX12_blanks 19 = .ok (.baload, 1) := by decide +kernel
theorem dX12_blanks_20 : decode cX12_blanks 20 = .ok (.bipush 32, 2) := by decide +kernel
theorem dX12_blanks_22 : decode cX12_blanks 22 = .ok (.if_icmp .eq 17, 3) := by decide +kernel
theorem dX12_blanks_25 : decode cX12_blanks 25 = .ok (.aload_n 0, 1) := by decide +kernel
theorem dX12_blanks_26 : decode cX12_blanks 26 = .ok (.getfield 108, 3) := by decide +kernel
theorem dX12_blanks_29 : decode cX12_blanks 29 = .ok (.aload_n 0, 1) := by decide +kernel
theorem dX12_blanks_30 : decode cX12_blanks 30 = .ok (.getfield 192, 3) := by decide +kernel
theorem dX12_blanks_33 : decode cX12_blanks 33 = .ok (.baload, 1) := by decide +kernel
theorem dX12_blanks_34 : decode cX12_blanks 34 = .ok (.bipush 10, 2) := by decide +kernel
theorem dX12_blanks_36 : decode cX12_blanks 36 = .ok (.if_icmp .ne 16, 3) := by decide +kernel
theorem dX12_blanks_39 : decode cX12_blanks 39 = .ok (.aload_n 0, 1) := by decide +kernel
theorem dX12_blanks_40 : decode cX12_blanks 40 = .ok (.dup, 1) := by decide +kernel
theorem dX12_blanks_41 : decode cX12_blanks 41 = .ok (.getfield 192, 3) := by decide +kernel
theorem dX12_blanks_44 : decode cX12_blanks 44 = .ok (.iconst 1, 1) := by decide +kernel
theorem dX12_blanks_45 : decode cX12_blanks 45 = .ok (.iadd, 1) := by decide +kernel
theorem dX12_blanks_46 : decode cX12_blanks 46 = .ok (.putfield 192, 3) := by decide +kernel
theorem dX12_blanks_49 : decode cX12_blanks 49 = .ok (.goto (-49), 3) := by decide +kernel
theorem dX12_blanks_52 : decode cX12_blanks 52 = .ok (.return_, 1) := by decide +kernel
set_option maxRecDepth 20000 in
theorem ggX12_word_X12_blanks : GoodIn wsX12_word wsX12_blanks := goodIn_r _ [9, 1, 3, 4, 10, 11, 12, 13, 14, 15, 16, 17, 18, 19, 20, 21, 22, 23, 24, 25, 26, 27, 28, 29, 30, 31, 32, 33, 34, 35, 36, 37, 38, 39, 40, 41, 42, 43, 44, 45, 46, 47, 48, 49, 50, 51, 52, 53, 54, 55, 56, 57, 58, 59, 60, 61, 62, 63] (by decide +kernel) (by decide +kernel)
set_option maxRecDepth 20000 in
theorem gX12_word_X12_blanks : GoodIn wsX12_word (wsV RX12 198 RX12 yX12_blanks wsX12_blanks) := goodIn_app (goodIn_of _ (by decide +kernel)) ggX12_word_X12_blanks
theorem dX12_word_0 : decode cX12_word 0 = .ok (.aload_n 0, 1) := by decide +kernel
theorem dX12_word_1 : decode cX12_word 1 = .ok (.invokevirtual 198, 3) := by decide +kernel
theorem dX12_word_4 : decode cX12_word 4 = .ok (.aload_n 0, 1) := by decide +kernel
theorem dX12_word_5 : decode cX12_word 5 = .ok (.aload_n 0, 1) := by decide +kernel
theorem dX12_word_6 : decode cX12_word 6 = .ok (.getfield 192, 3) := by decide +kernel
theorem dX12_word_9 : decode cX12_word 9 = .ok (.putfield 201, 3) := by decide +kernel
theorem dX12_word_12 : decode cX12_word 12 = .ok (.lconst 0, 1) := by decide +kernel
theorem dX12_word_13 : decode cX12_word 13 = .ok (.lstore_n 1, 1) := by decide +kernel
theorem dX12_word_14 : decode cX12_word 14 = .ok (.aload_n 0, 1) := by decide +kernel
theorem dX12_word_15 : decode cX12_word 15 = .ok (.getfield 201, 3) := by decide +kernel
theorem dX12_word_18 : decode cX12_word 18 = .ok (.aload_n 0, 1) := by decide +kernel
theorem dX12_word_19 : decode cX12_word 19 = .ok (.getfield 195, 3) := by decide +kernel
theorem dX12_word_22 : decode cX12_word 22 = .ok (.if_icmp .ge 78, 3) := by decide +kernel
theorem dX12_word_25 : decode cX12_word 25 = .ok (.aload_n 0, 1) := by decide +kernel
theorem dX12_word_26 : decode cX12_word 26 = .ok (.getfield 108, 3) := by decide +kernel
theorem dX12_word_29 : decode cX12_word 29 = .ok (.aload_n 0, 1) := by decide +kernel
theorem dX12_word_30 : decode cX12_word 30 = .ok (.getfield 201, 3) := by decide +kernel
theorem dX12_word_33 : decode cX12_word 33 = .ok (.baload, 1) := by decide +kernel
theorem dX12_word_34 : decode cX12_word 34 = .ok (.bipush 97, 2) := by decide +kernel
theorem dX12_word_36 : decode cX12_word 36 = .ok (.if_icmp .lt 64, 3) := by decide +kernel
theorem dX12_word_39 : decode cX12_word 39 = .ok (.aload_n 0, 1) := by decide +kernel
theorem dX12_word_40 : decode cX12_word 40 = .ok (.getfield 108, 3) := by decide +kernel
theorem dX12_word_43 : decode cX12_word 43 = .ok (.aload_n 0, 1) := by decide +kernel
theorem dX12_word_44 : decode cX12_word 44 = .ok (.getfield 201, 3) := by decide +kernel
theorem dX12_word_47 : decode cX12_word 47 = .ok (.baload, 1) := by decide +kernel
theorem dX12_word_48 : decode cX12_word 48 = .ok (.bipush 122, 2) := by decide +kernel
theorem dX12_word_50 : decode cX12_word 50 = .ok (.if_icmp .gt 50, 3) := by decide +kernel
theorem dX12_word_53 : decode cX12_word 53 = .ok (.aload_n 0, 1) := by decide +kernel
theorem dX12_word_54 : decode cX12_word 54 = .ok (.getfield 201, 3) := by decide +kernel
theorem dX12_word_57 : decode cX12_word 57 = .ok (.aload_n 0, 1) := by decide +kernel
theorem dX12_word_58 : decode cX12_word 58 = .ok (.getfield 192, 3) := by decide +kernel
theorem dX12_word_61 : decode cX12_word 61 = .ok (.isub, 1) := by decide +kernel
theorem dX12_word_62 : decode cX12_word 62 = .ok (.bipush 7, 2) := by decide +kernel
theorem dX12_word_64 : decode cX12_word 64 = .ok (.if_icmp .ge 21, 3) := by decide +kernel
theorem dX12_word_67 : decode cX12_word 67 = .ok (.lload_n 1, 1) := by decide +kernel
theorem dX12_word_68 : decode cX12_word 68 = .ok (.bipush 8, 2) := by decide +kernel
theorem dX12_word_70 : decode cX12_word 70 = .ok (.lshl, 1) := by decide +kernel
theorem dX12_word_71 : decode cX12_word 71 = .ok (.aload_n 0, 1) := by decide +kernel
theorem dX12_word_72 : decode cX12_word 72 = .ok (.getfield 108, 3) := by decide +kernel
theorem dX12_word_75 : decode cX12_word 75 = .ok (.aload_n 0, 1) := by decide +kernel
theorem dX12_word_76 : decode cX12_word 76 = .ok (.getfield 201, 3) := by decide +kernel
theorem dX12_word_79 : decode cX12_word 79 = .ok (.baload, 1) := by decide +kernel
theorem dX12_word_80 : decode cX12_word 80 = .ok (.i2l, 1) := by decide +kernel
theorem dX12_word_81 : decode cX12_word 81 = .ok (.lor, 1) := by decide +kernel
theorem dX12_word_82 : decode cX12_word 82 = .ok (.goto 4, 3) := by decide +kernel
theorem dX12_word_85 : decode cX12_word 85 = .ok (.lconst 0, 1) := by decide +kernel
theorem dX12_word_86 : decode cX12_word 86 = .ok (.lstore_n 1, 1) := by decide +kernel
theorem dX12_word_87 : decode cX12_word 87 = .ok (.aload_n 0, 1) := by decide +kernel
theorem dX12_word_88 : decode cX12_word 88 = .ok (.dup, 1) := by decide +kernel
theorem dX12_word_89 : decode cX12_word 89 = .ok (.getfield 201, 3) := by decide +kernel
theorem dX12_word_92 : decode cX12_word 92 = .ok (.iconst 1, 1) := by decide +kernel
theorem dX12_word_93 : decode cX12_word 93 = .ok (.iadd, 1) := by decide +kernel
theorem dX12_word_94 : decode cX12_word 94 = .ok (.putfield 201, 3) := by decide +kernel
theorem dX12_word_97 : decode cX12_word 97 = .ok (.goto (-83), 3) := by decide +kernel
theorem dX12_word_100 : decode cX12_word 100 = .ok (.aload_n 0, 1) := by decide +kernel
theorem dX12_word_101 : decode cX12_word 101 = .ok (.getfield 201, 3) := by decide +kernel
theorem dX12_word_104 : decode cX12_word 104 = .ok (.aload_n 0, 1) := by decide +kernel
theorem dX12_word_105 : decode cX12_word 105 = .ok (.getfield 192, 3) := by decide +kernel
theorem dX12_word_108 : decode cX12_word 108 = .ok (.isub, 1) := by decide +kernel
theorem dX12_word_109 : decode cX12_word 109 = .ok (.bipush 7, 2) := by decide +kernel
theorem dX12_word_111 : decode cX12_word 111 = .ok (.if_icmp .le 7, 3) := by decide +kernel
theorem dX12_word_114 : decode cX12_word 114 = .ok (.lconst 0, 1) := by decide +kernel
theorem dX12_word_115 : decode cX12_word 115 = .ok (.goto 4, 3) := by decide +kernel
theorem dX12_word_118 : decode cX12_word 118 = .ok (.lload_n 1, 1) := by decide +kernel
theorem dX12_word_119 : decode cX12_word 119 = .ok (.lreturn, 1) := by decide +kernel
set_option maxRecDepth 20000 in
theorem ggX12_takes_X12_word : GoodIn wsX12_takes wsX12_word := goodIn_r _ [7, 2, 1, 8, 9, 10, 11, 12, 6, 13, 14, 15, 16, 17, 18, 19, 20, 21, 22, 23, 24, 25, 26, 27, 28, 29, 30, 31, 32, 33, 34, 35, 36, 37, 38, 39, 40, 41, 42, 43, 44, 45, 46, 47, 48, 49, 50, 51, 52, 53, 54, 55, 56, 57, 58, 59, 60, 61, 62, 63, 64, 65, 66, 67] (by decide +kernel) (by decide +kernel)
set_option maxRecDepth 20000 in
theorem gX12_takes_X12_word : GoodIn wsX12_takes (wsV RX12 204 RX12 yX12_word wsX12_word) := goodIn_app (goodIn_of _ (by decide +kernel)) ggX12_takes_X12_word
theorem dX12_takes_0 : decode cX12_takes 0 = .ok (.aload_n 0, 1) := by decide +kernel
theorem dX12_takes_1 : decode cX12_takes 1 = .ok (.invokevirtual 204, 3) := by decide +kernel
theorem dX12_takes_4 : decode cX12_takes 4 = .ok (.lload_n 1, 1) := by decide +kernel
theorem dX12_takes_5 : decode cX12_takes 5 = .ok (.lcmp, 1) := by decide +kernel
theorem dX12_takes_6 : decode cX12_takes 6 = .ok (.ifCond .eq 5, 3) := by decide +kernel
theorem dX12_takes_9 : decode cX12_takes 9 = .ok (.iconst 0, 1) := by decide +kernel
theorem dX12_takes_10 : decode cX12_takes 10 = .ok (.ireturn, 1) := by decide +kernel
theorem dX12_takes_11 : decode cX12_takes 11 = .ok (.aload_n 0, 1) := by decide +kernel
theorem dX12_takes_12 : decode cX12_takes 12 = .ok (.aload_n 0, 1) := by decide +kernel
theorem dX12_takes_13 : decode cX12_takes 13 = .ok (.getfield 201, 3) := by decide +kernel
theorem dX12_takes_16 : decode cX12_takes 16 = .ok (.putfield 192, 3) := by decide +kernel
theorem dX12_takes_19 : decode cX12_takes 19 = .ok (.iconst 1, 1) := by decide +kernel
theorem dX12_takes_20 : decode cX12_takes 20 = .ok (.ireturn, 1) := by decide +kernel
set_option maxRecDepth 20000 in
theorem ggX12_takesNumber_X12_blanks : GoodIn wsX12_takesNumber wsX12_blanks := goodIn_r _ [9, 1, 3, 4, 10, 11, 12, 13, 14, 15, 16, 17, 18, 19, 20, 21, 22, 23, 24, 25, 26, 27, 28, 29, 30, 31, 32, 33, 34, 35, 36, 37, 38, 39, 40, 41, 42, 43, 44, 45, 46, 47, 48, 49, 50, 51, 52, 53, 54, 55, 56, 57, 58, 59, 60, 61, 62, 63] (by decide +kernel) (by decide +kernel)
set_option maxRecDepth 20000 in
theorem gX12_takesNumber_X12_blanks : GoodIn wsX12_takesNumber (wsV RX12 198 RX12 yX12_blanks wsX12_blanks) := goodIn_app (goodIn_of _ (by decide +kernel)) ggX12_takesNumber_X12_blanks
theorem dX12_takesNumber_0 : decode cX12_takesNumber 0 = .ok (.aload_n 0, 1) := by decide +kernel
theorem dX12_takesNumber_1 : decode cX12_takesNumber 1 = .ok (.invokevirtual 198, 3) := by decide +kernel
theorem dX12_takesNumber_4 : decode cX12_takesNumber 4 = .ok (.aload_n 0, 1) := by decide +kernel
theorem dX12_takesNumber_5 : decode cX12_takesNumber 5 = .ok (.getfield 192, 3) := by decide +kernel
theorem dX12_takesNumber_8 : decode cX12_takesNumber 8 = .ok (.istore_n 1, 1) := by decide +kernel
theorem dX12_takesNumber_9 : decode cX12_takesNumber 9 = .ok (.aload_n 0, 1) := by decide +kernel
theorem dX12_takesNumber_10 : decode cX12_takesNumber 10 = .ok (.iconst 0, 1) := by decide +kernel
theorem dX12_takesNumber_11 : decode cX12_takesNumber 11 = .ok (.putfield 208, 3) := by decide +kernel
theorem dX12_takesNumber_14 : decode cX12_takesNumber 14 = .ok (.iload_n 1, 1) := by decide +kernel
theorem dX12_takesNumber_15 : decode cX12_takesNumber 15 = .ok (.aload_n 0, 1) := by decide +kernel
theorem dX12_takesNumber_16 : decode cX12_takesNumber 16 = .ok (.getfield 195, 3) := by decide +kernel
theorem dX12_takesNumber_19 : decode cX12_takesNumber 19 = .ok (.if_icmp .ge 62, 3) := by decide +kernel
theorem dX12_takesNumber_22 : decode cX12_takesNumber 22 = .ok (.aload_n 0, 1) := by decide +kernel
theorem dX12_takesNumber_23 : decode cX12_takesNumber 23 = .ok (.getfield 108, 3) := by decide +kernel
theorem dX12_takesNumber_26 : decode cX12_takesNumber 26 = .ok (.iload_n 1, 1) := by decide +kernel
theorem dX12_takesNumber_27 : decode cX12_takesNumber 27 = .ok (.baload, 1) := by decide +kernel
theorem dX12_takesNumber_28 : decode cX12_takesNumber 28 = .ok (.bipush 48, 2) := by decide +kernel
theorem dX12_takesNumber_30 : decode cX12_takesNumber 30 = .ok (.if_icmp .lt 51, 3) := by decide +kernel
theorem dX12_takesNumber_33 : decode cX12_takesNumber 33 = .ok (.aload_n 0, 1) := by decide +kernel
theorem dX12_takesNumber_34 : decode cX12_takesNumber 34 = .ok (.getfield 108, 3) := by decide +kernel
theorem dX12_takesNumber_37 : decode cX12_takesNumber 37 = .ok (.iload_n 1, 1) := by decide +kernel
theorem dX12_takesNumber_38 : decode cX12_takesNumber 38 = .ok (.baload, 1) := by decide +kernel
theorem dX12_takesNumber_39 : decode cX12_takesNumber 39 = .ok (.bipush 57, 2) := by decide +kernel
theorem dX12_takesNumber_41 : decode cX12_takesNumber 41 = .ok (.if_icmp .gt 40, 3) := by decide +kernel
theorem dX12_takesNumber_44 : decode cX12_takesNumber 44 = .ok (.iload_n 1, 1) := by decide +kernel
theorem dX12_takesNumber_45 : decode cX12_takesNumber 45 = .ok (.aload_n 0, 1) := by decide +kernel
theorem dX12_takesNumber_46 : decode cX12_takesNumber 46 = .ok (.getfield 192, 3) := by decide +kernel
theorem dX12_takesNumber_49 : decode cX12_takesNumber 49 = .ok (.isub, 1) := by decide +kernel
theorem dX12_takesNumber_50 : decode cX12_takesNumber 50 = .ok (.iconst 3, 1) := by decide +kernel
theorem dX12_takesNumber_51 : decode cX12_takesNumber 51 = .ok (.if_icmp .ge 24, 3) := by decide +kernel
theorem dX12_takesNumber_54 : decode cX12_takesNumber 54 = .ok (.aload_n 0, 1) := by decide +kernel
theorem dX12_takesNumber_55 : decode cX12_takesNumber 55 = .ok (.bipush 10, 2) := by decide +kernel
theorem dX12_takesNumber_57 : decode cX12_takesNumber 57 = .ok (.aload_n 0, 1) := by decide +kernel
theorem dX12_takesNumber_58 : decode cX12_takesNumber 58 = .ok (.getfield 208, 3) := by decide +kernel
theorem dX12_takesNumber_61 : decode cX12_takesNumber 61 = .ok (.imul, 1) := by decide +kernel
theorem dX12_takesNumber_62 : decode cX12_takesNumber 62 = .ok (.aload_n 0, 1) := by decide +kernel
theorem dX12_takesNumber_63 : decode cX12_takesNumber 63 = .ok (.getfield 108, 3) := by decide +kernel
theorem dX12_takesNumber_66 : decode cX12_takesNumber 66 = .ok (.iload_n 1, 1) := by decide +kernel
theorem dX12_takesNumber_67 : decode cX12_takesNumber 67 = .ok (.baload, 1) := by decide +kernel
theorem dX12_takesNumber_68 : decode cX12_takesNumber 68 = .ok (.iadd, 1) := by decide +kernel
theorem dX12_takesNumber_69 : decode cX12_takesNumber 69 = .ok (.bipush 48, 2) := by decide +kernel
theorem dX12_takesNumber_71 : decode cX12_takesNumber 71 = .ok (.isub, 1) := by decide +kernel
theorem dX12_takesNumber_72 : decode cX12_takesNumber 72 = .ok (.putfield 208, 3) := by decide +kernel
theorem dX12_takesNumber_75 : decode cX12_takesNumber 75 = .ok (.iinc 1 1, 3) := by decide +kernel
theorem dX12_takesNumber_78 : decode cX12_takesNumber 78 = .ok (.goto (-64), 3) := by decide +kernel
theorem dX12_takesNumber_81 : decode cX12_takesNumber 81 = .ok (.iload_n 1, 1) := by decide +kernel
theorem dX12_takesNumber_82 : decode cX12_takesNumber 82 = .ok (.aload_n 0, 1) := by decide +kernel
theorem dX12_takesNumber_83 : decode cX12_takesNumber 83 = .ok (.getfield 192, 3) := by decide +kernel
theorem dX12_takesNumber_86 : decode cX12_takesNumber 86 = .ok (.if_icmp .eq 13, 3) := by decide +kernel
theorem dX12_takesNumber_89 : decode cX12_takesNumber 89 = .ok (.iload_n 1, 1) := by decide +kernel
theorem dX12_takesNumber_90 : decode cX12_takesNumber 90 = .ok (.aload_n 0, 1) := by decide +kernel
theorem dX12_takesNumber_91 : decode cX12_takesNumber 91 = .ok (.getfield 192, 3) := by decide +kernel
theorem dX12_takesNumber_94 : decode cX12_takesNumber 94 = .ok (.isub, 1) := by decide +kernel
theorem dX12_takesNumber_95 : decode cX12_takesNumber 95 = .ok (.iconst 3, 1) := by decide +kernel
theorem dX12_takesNumber_96 : decode cX12_takesNumber 96 = .ok (.if_icmp .le 5, 3) := by decide +kernel
theorem dX12_takesNumber_99 : decode cX12_takesNumber 99 = .ok (.iconst 0, 1) := by decide +kernel
theorem dX12_takesNumber_100 : decode cX12_takesNumber 100 = .ok (.ireturn, 1) := by decide +kernel
theorem dX12_takesNumber_101 : decode cX12_takesNumber 101 = .ok (.aload_n 0, 1) := by decide +kernel
theorem dX12_takesNumber_102 : decode cX12_takesNumber 102 = .ok (.iload_n 1, 1) := by decide +kernel
theorem dX12_takesNumber_103 : decode cX12_takesNumber 103 = .ok (.putfield 192, 3) := by decide +kernel
theorem dX12_takesNumber_106 : decode cX12_takesNumber 106 = .ok (.iconst 1, 1) := by decide +kernel
theorem dX12_takesNumber_107 : decode cX12_takesNumber 107 = .ok (.ireturn, 1) := by decide +kernel
set_option maxRecDepth 20000 in
theorem ggX12_statement_X12_takes : GoodIn wsX12_statement wsX12_takes := goodIn_r _ [19, 20, 12, 21, 22, 23, 18, 24, 13, 14, 25, 26, 27, 28, 33, 34, 35, 36, 37, 38, 39, 40, 41, 42, 43, 44, 45, 46, 47, 48, 49, 50, 51, 52, 53, 54, 55, 56, 57, 58, 59, 60, 61, 62, 63, 64, 65, 66, 67, 68, 69, 70, 71, 72, 73, 74, 75, 76, 77, 78, 79, 80, 81, 82, 83, 84, 85, 86] (by decide +kernel) (by decide +kernel)
set_option maxRecDepth 20000 in
theorem gX12_statement_X12_takes : GoodIn wsX12_statement (wsV RX12 213 RX12 yX12_takes wsX12_takes) := goodIn_app (goodIn_of _ (by decide +kernel)) ggX12_statement_X12_takes
set_option maxRecDepth 20000 in
theorem ggX12_statement_X12_takesNumber : GoodIn wsX12_statement wsX12_takesNumber := goodIn_r _ [32, 12, 6, 13, 14, 25, 26, 27, 18, 28, 33, 34, 35, 36, 37, 38, 39, 40, 41, 42, 43, 44, 45, 46, 47, 48, 49, 50, 51, 52, 53, 54, 55, 56, 57, 58, 59, 60, 61, 62, 63, 64, 65, 66, 67, 68, 69, 70, 71, 72, 73, 74, 75, 76, 77, 78, 79, 80, 81, 82, 83, 84, 85, 86] (by decide +kernel) (by decide +kernel)
set_option maxRecDepth 20000 in
theorem gX12_statement_X12_takesNumber : GoodIn wsX12_statement (wsV RX12 221 RX12 yX12_takesNumber wsX12_takesNumber) := goodIn_app (goodIn_of _ (by decide +kernel)) ggX12_statement_X12_takesNumber
set_option maxRecDepth 20000 in
theorem ggX12_statement_X12_blanks : GoodIn wsX12_statement wsX12_blanks := goodIn_r _ [28, 12, 13, 14, 33, 34, 35, 36, 37, 38, 39, 40, 41, 42, 43, 44, 45, 46, 47, 48, 49, 50, 51, 52, 53, 54, 55, 56, 57, 58, 59, 60, 61, 62, 63, 64, 65, 66, 67, 68, 69, 70, 71, 72, 73, 74, 75, 76, 77, 78, 79, 80, 81, 82, 83, 84, 85, 86] (by decide +kernel) (by decide +kernel)
set_option maxRecDepth 20000 in
theorem gX12_statement_X12_blanks : GoodIn wsX12_statement (wsV RX12 198 RX12 yX12_blanks wsX12_blanks) := goodIn_app (goodIn_of _ (by decide +kernel)) ggX12_statement_X12_blanks
theorem dX12_statement_0 : decode cX12_statement 0 = .ok (.aload_n 0, 1) := by decide +kernel
theorem dX12_statement_1 : decode cX12_statement 1 = .ok (.ldc2_w 211, 3) := by decide +kernel
theorem dX12_statement_4 : decode cX12_statement 4 = .ok (.invokevirtual 213, 3) := by decide +kernel
theorem dX12_statement_7 : decode cX12_statement 7 = .ok (.ifCond .eq 105, 3) := by decide +kernel
theorem dX12_statement_10 : decode cX12_statement 10 = .ok (.aload_n 0, 1) := by decide +kernel
theorem dX12_statement_11 : decode cX12_statement 11 = .ok (.getfield 121, 3) := by decide +kernel
theorem dX12_statement_14 : decode cX12_statement 14 = .ok (.iload_n 1, 1) := by decide +kernel
theorem dX12_statement_15 : decode cX12_statement 15 = .ok (.aload_n 0, 1) := by decide +kernel
theorem dX12_statement_16 : decode cX12_statement 16 = .ok (.ldc2_w 217, 3) := by decide +kernel
theorem dX12_statement_19 : decode cX12_statement 19 = .ok (.invokevirtual 213, 3) := by decide +kernel
theorem dX12_statement_22 : decode cX12_statement 22 = .ok (.ifCond .eq 7, 3) := by decide +kernel
theorem dX12_statement_25 : decode cX12_statement 25 = .ok (.iconst 0, 1) := by decide +kernel
theorem dX12_statement_26 : decode cX12_statement 26 = .ok (.goto 4, 3) := by decide +kernel
theorem dX12_statement_29 : decode cX12_statement 29 = .ok (.iconst 1, 1) := by decide +kernel
theorem dX12_statement_30 : decode cX12_statement 30 = .ok (.iastore, 1) := by decide +kernel
theorem dX12_statement_31 : decode cX12_statement 31 = .ok (.aload_n 0, 1) := by decide +kernel
theorem dX12_statement_32 : decode cX12_statement 32 = .ok (.getfield 121, 3) := by decide +kernel
theorem dX12_statement_35 : decode cX12_statement 35 = .ok (.iload_n 1, 1) := by decide +kernel
theorem dX12_statement_36 : decode cX12_statement 36 = .ok (.iaload, 1) := by decide +kernel
theorem dX12_statement_37 : decode cX12_statement 37 = .ok (.iconst 1, 1) := by decide +kernel
theorem dX12_statement_38 : decode cX12_statement 38 = .ok (.if_icmp .ne 13, 3) := by decide +kernel
theorem dX12_statement_41 : decode cX12_statement 41 = .ok (.aload_n 0, 1) := by decide +kernel
theorem dX12_statement_42 : decode cX12_statement 42 = .ok (.ldc2_w 219, 3) := by decide +kernel
theorem dX12_statement_45 : decode cX12_statement 45 = .ok (.invokevirtual 213, 3) := by decide +kernel
theorem dX12_statement_48 : decode cX12_statement 48 = .ok (.ifCond .eq 10, 3) := by decide +kernel
theorem dX12_statement_51 : decode cX12_statement 51 = .ok (.aload_n 0, 1) := by decide +kernel
theorem dX12_statement_52 : decode cX12_statement 52 = .ok (.invokevirtual 221, 3) := by decide +kernel
theorem dX12_statement_55 : decode cX12_statement 55 = .ok (.ifCond .ne 5, 3) := by decide +kernel
theorem dX12_statement_58 : decode cX12_statement 58 = .ok (.iconst 0, 1) := by decide +kernel
theorem dX12_statement_59 : decode cX12_statement 59 = .ok (.ireturn, 1) := by decide +kernel
theorem dX12_statement_60 : decode cX12_statement 60 = .ok (.aload_n 0, 1) := by decide +kernel
theorem dX12_statement_61 : decode cX12_statement 61 = .ok (.getfield 124, 3) := by decide +kernel
theorem dX12_statement_64 : decode cX12_statement 64 = .ok (.iload_n 1, 1) := by decide +kernel
theorem dX12_statement_65 : decode cX12_statement 65 = .ok (.aload_n 0, 1) := by decide +kernel
theorem dX12_statement_66 : decode cX12_statement 66 = .ok (.getfield 208, 3) := by decide +kernel
theorem dX12_statement_69 : decode cX12_statement 69 = .ok (.iastore, 1) := by decide +kernel
theorem dX12_statement_70 : decode cX12_statement 70 = .ok (.aload_n 0, 1) := by decide +kernel
theorem dX12_statement_71 : decode cX12_statement 71 = .ok (.getfield 121, 3) := by decide +kernel
theorem dX12_statement_74 : decode cX12_statement 74 = .ok (.iload_n 1, 1) := by decide +kernel
theorem dX12_statement_75 : decode cX12_statement 75 = .ok (.iaload, 1) := by decide +kernel
theorem dX12_statement_76 : decode cX12_statement 76 = .ok (.iconst 1, 1) := by decide +kernel
theorem dX12_statement_77 : decode cX12_statement 77 = .ok (.if_icmp .ne 22, 3) := by decide +kernel
theorem dX12_statement_80 : decode cX12_statement 80 = .ok (.aload_n 0, 1) := by decide +kernel
theorem dX12_statement_81 : decode cX12_statement 81 = .ok (.ldc2_w 225, 3) := by decide +kernel
theorem dX12_statement_84 : decode cX12_statement 84 = .ok (.invokevirtual 213, 3) := by decide +kernel
theorem dX12_statement_87 : decode cX12_statement 87 = .ok (.ifCond .eq 10, 3) := by decide +kernel
theorem dX12_statement_90 : decode cX12_statement 90 = .ok (.aload_n 0, 1) := by decide +kernel
theorem dX12_statement_91 : decode cX12_statement 91 = .ok (.invokevirtual 221, 3) := by decide +kernel
theorem dX12_statement_94 : decode cX12_statement 94 = .ok (.ifCond .ne 5, 3) := by decide +kernel
theorem dX12_statement_97 : decode cX12_statement 97 = .ok (.iconst 0, 1) := by decide +kernel
theorem dX12_statement_98 : decode cX12_statement 98 = .ok (.ireturn, 1) := by decide +kernel
theorem dX12_statement_99 : decode cX12_statement 99 = .ok (.aload_n 0, 1) := by decide +kernel
theorem dX12_statement_100 : decode cX12_statement 100 = .ok (.getfield 127, 3) := by decide +kernel
theorem dX12_statement_103 : decode cX12_statement 103 = .ok (.iload_n 1, 1) := by decide +kernel
theorem dX12_statement_104 : decode cX12_statement 104 = .ok (.aload_n 0, 1) := by decide +kernel
theorem dX12_statement_105 : decode cX12_statement 105 = .ok (.getfield 208, 3) := by decide +kernel
theorem dX12_statement_108 : decode cX12_statement 108 = .ok (.iastore, 1) := by decide +kernel
theorem dX12_statement_109 : decode cX12_statement 109 = .ok (.goto 112, 3) := by decide +kernel
theorem dX12_statement_112 : decode cX12_statement 112 = .ok (.aload_n 0, 1) := by decide +kernel
theorem dX12_statement_113 : decode cX12_statement 113 = .ok (.ldc2_w 227, 3) := by decide +kernel
theorem dX12_statement_116 : decode cX12_statement 116 = .ok (.invokevirtual 213, 3) := by decide +kernel
theorem dX12_statement_119 : decode cX12_statement 119 = .ok (.ifCond .ne 5, 3) := by decide +kernel
theorem dX12_statement_122 : decode cX12_statement 122 = .ok (.iconst 0, 1) := by decide +kernel
theorem dX12_statement_123 : decode cX12_statement 123 = .ok (.ireturn, 1) := by decide +kernel
theorem dX12_statement_124 : decode cX12_statement 124 = .ok (.aload_n 0, 1) := by decide +kernel
theorem dX12_statement_125 : decode cX12_statement 125 = .ok (.getfield 121, 3) := by decide +kernel
theorem dX12_statement_128 : decode cX12_statement 128 = .ok (.iload_n 1, 1) := by decide +kernel
theorem dX12_statement_129 : decode cX12_statement 129 = .ok (.aload_n 0, 1) := by decide +kernel
theorem dX12_statement_130 : decode cX12_statement 130 = .ok (.ldc2_w 211, 3) := by decide +kernel
theorem dX12_statement_133 : decode cX12_statement 133 = .ok (.invokevirtual 213, 3) := by decide +kernel
theorem dX12_statement_136 : decode cX12_statement 136 = .ok (.ifCond .eq 7, 3) := by decide +kernel
theorem dX12_statement_139 : decode cX12_statement 139 = .ok (.iconst 2, 1) := by decide +kernel
theorem dX12_statement_140 : decode cX12_statement 140 = .ok (.goto 32, 3) := by decide +kernel
theorem dX12_statement_143 : decode cX12_statement 143 = .ok (.aload_n 0, 1) := by decide +kernel
theorem dX12_statement_144 : decode cX12_statement 144 = .ok (.ldc2_w 229, 3) := by decide +kernel
theorem dX12_statement_147 : decode cX12_statement 147 = .ok (.invokevirtual 213, 3) := by decide +kernel
theorem dX12_statement_150 : decode cX12_statement 150 = .ok (.ifCond .eq 7, 3) := by decide +kernel
theorem dX12_statement_153 : decode cX12_statement 153 = .ok (.iconst 3, 1) := by decide +kernel
theorem dX12_statement_154 : decode cX12_statement 154 = .ok (.goto 18, 3) := by decide +kernel
theorem dX12_statement_157 : decode cX12_statement 157 = .ok (.aload_n 0, 1) := by decide +kernel
theorem dX12_statement_158 : decode cX12_statement 158 = .ok (.ldc2_w 231, 3) := by decide +kernel
theorem dX12_statement_161 : decode cX12_statement 161 = .ok (.invokevirtual 213, 3) := by decide +kernel
theorem dX12_statement_164 : decode cX12_statement 164 = .ok (.ifCond .eq 7, 3) := by decide +kernel
theorem dX12_statement_167 : decode cX12_statement 167 = .ok (.iconst 4, 1) := by decide +kernel
theorem dX12_statement_168 : decode cX12_statement 168 = .ok (.goto 4, 3) := by decide +kernel
theorem dX12_statement_171 : decode cX12_statement 171 = .ok (.iconst 5, 1) := by decide +kernel
theorem dX12_statement_172 : decode cX12_statement 172 = .ok (.iastore, 1) := by decide +kernel
theorem dX12_statement_173 : decode cX12_statement 173 = .ok (.aload_n 0, 1) := by decide +kernel
theorem dX12_statement_174 : decode cX12_statement 174 = .ok (.invokevirtual 221, 3) := by decide +kernel
theorem dX12_statement_177 : decode cX12_statement 177 = .ok (.ifCond .ne 5, 3) := by decide +kernel
theorem dX12_statement_180 : decode cX12_statement 180 = .ok (.iconst 0, 1) := by decide +kernel
theorem dX12_statement_181 : decode cX12_statement 181 = .ok (.ireturn, 1) := by decide +kernel
theorem dX12_statement_182 : decode cX12_statement 182 = .ok (.aload_n 0, 1) := by decide +kernel
theorem dX12_statement_183 : decode cX12_statement 183 = .ok (.getfield 124, 3) := by decide +kernel
theorem dX12_statement_186 : decode cX12_statement 186 = .ok (.iload_n 1, 1) := by decide +kernel
theorem dX12_statement_187 : decode cX12_statement 187 = .ok (.aload_n 0, 1) := by decide +kernel
theorem dX12_statement_188 : decode cX12_statement 188 = .ok (.getfield 208, 3) := by decide +kernel
theorem dX12_statement_191 : decode cX12_statement 191 = .ok (.iastore, 1) := by decide +kernel
theorem dX12_statement_192 : decode cX12_statement 192 = .ok (.aload_n 0, 1) := by decide +kernel
theorem dX12_statement_193 : decode cX12_statement 193 = .ok (.getfield 121, 3) := by decide +kernel
theorem dX12_statement_196 : decode cX12_statement 196 = .ok (.iload_n 1, 1) := by decide +kernel
theorem dX12_statement_197 : decode cX12_statement 197 = .ok (.iaload, 1) := by decide +kernel
theorem dX12_statement_198 : decode cX12_statement 198 = .ok (.iconst 3, 1) := by decide +kernel
theorem dX12_statement_199 : decode cX12_statement 199 = .ok (.if_icmp .ne 12, 3) := by decide +kernel
theorem dX12_statement_202 : decode cX12_statement 202 = .ok (.aload_n 0, 1) := by decide +kernel
theorem dX12_statement_203 : decode cX12_statement 203 = .ok (.invokevirtual 221, 3) := by decide +kernel
theorem dX12_statement_206 : decode cX12_statement 206 = .ok (.ifCond .ne 5, 3) := by decide +kernel
theorem dX12_statement_209 : decode cX12_statement 209 = .ok (.iconst 0, 1) := by decide +kernel
theorem dX12_statement_210 : decode cX12_statement 210 = .ok (.ireturn, 1) := by decide +kernel
theorem dX12_statement_211 : decode cX12_statement 211 = .ok (.aload_n 0, 1) := by decide +kernel
theorem dX12_statement_212 : decode cX12_statement 212 = .ok (.getfield 127, 3) := by decide +kernel
theorem dX12_statement_215 : decode cX12_statement 215 = .ok (.iload_n 1, 1) := by decide +kernel
theorem dX12_statement_216 : decode cX12_statement 216 = .ok (.aload_n 0, 1) := by decide +kernel
theorem dX12_statement_217 : decode cX12_statement 217 = .ok (.getfield 208, 3) := by decide +kernel
theorem dX12_statement_220 : decode cX12_statement 220 = .ok (.iastore, 1) := by decide +kernel
theorem dX12_statement_221 : decode cX12_statement 221 = .ok (.aload_n 0, 1) := by decide +kernel
theorem dX12_statement_222 : decode cX12_statement 222 = .ok (.invokevirtual 198, 3) := by decide +kernel
theorem dX12_statement_225 : decode cX12_statement 225 = .ok (.aload_n 0, 1) := by decide +kernel
theorem dX12_statement_226 : decode cX12_statement 226 = .ok (.getfield 192, 3) := by decide +kernel
theorem dX12_statement_229 : decode cX12_statement 229 = .ok (.aload_n 0, 1) := by decide +kernel
theorem dX12_statement_230 : decode cX12_statement 230 = .ok (.getfield 195, 3) := by decide +kernel
theorem dX12_statement_233 : decode cX12_statement 233 = .ok (.if_icmp .eq 17, 3) := by decide +kernel
theorem dX12_statement_236 : decode cX12_statement 236 = .ok (.aload_n 0, 1) := by decide +kernel
theorem dX12_statement_237 : decode cX12_statement 237 = .ok (.getfield 108, 3) := by decide +kernel
theorem dX12_statement_240 : decode cX12_statement 240 = .ok (.aload_n 0, 1) := by decide +kernel
theorem dX12_statement_241 : decode cX12_statement 241 = .ok (.getfield 192, 3) := by decide +kernel
theorem dX12_statement_244 : decode cX12_statement 244 = .ok (.baload, 1) := by decide +kernel
theorem dX12_statement_245 : decode cX12_statement 245 = .ok (.bipush 59, 2) := by decide +kernel
theorem dX12_statement_247 : decode cX12_statement 247 = .ok (.if_icmp .eq 5, 3) := by decide +kernel
theorem dX12_statement_250 : decode cX12_statement 250 = .ok (.iconst 0, 1) := by decide +kernel
theorem dX12_statement_251 : decode cX12_statement 251 = .ok (.ireturn, 1) := by decide +kernel
theorem dX12_statement_252 : decode cX12_statement 252 = .ok (.aload_n 0, 1) := by decide +kernel
theorem dX12_statement_253 : decode cX12_statement 253 = .ok (.dup, 1) := by decide +kernel
theorem dX12_statement_254 : decode cX12_statement 254 = .ok (.getfield 192, 3) := by decide +kernel
theorem dX12_statement_257 : decode cX12_statement 257 = .ok (.iconst 1, 1) := by decide +kernel
theorem dX12_statement_258 : decode cX12_statement 258 = .ok (.iadd, 1) := by decide +kernel
theorem dX12_statement_259 : decode cX12_statement 259 = .ok (.putfield 192, 3) := by decide +kernel
theorem dX12_statement_262 : decode cX12_statement 262 = .ok (.iconst 1, 1) := by decide +kernel
theorem dX12_statement_263 : decode cX12_statement 263 = .ok (.ireturn, 1) := by decide +kernel
set_option maxRecDepth 20000 in
theorem ggX12_rule_X12_isIn : GoodIn wsX12_rule wsX12_isIn := goodIn_r _ [14] (by decide +kernel) (by decide +kernel)
set_option maxRecDepth 20000 in
theorem gX12_rule_X12_isIn : GoodIn wsX12_rule (va_wsS RX12 130 yX12_isIn wsX12_isIn) := goodIn_app (goodIn_of _ (by decide +kernel)) ggX12_rule_X12_isIn
set_option maxRecDepth 20000 in
theorem ggX12_rule_X12_blanks : GoodIn wsX12_rule wsX12_blanks := goodIn_r _ [18, 6, 5, 3, 47, 48, 49, 50, 51, 52, 53, 54, 55, 56, 57, 58, 59, 60, 61, 62, 63, 64, 65, 66, 67, 68, 69, 70, 71, 72, 73, 74, 75, 76, 77, 78, 79, 80, 81, 82, 83, 84, 85, 86, 87, 88, 89, 90, 91, 92, 93, 94, 95, 96, 97, 98, 99, 100] (by decide +kernel) (by decide +kernel)
set_option maxRecDepth 20000 in
theorem gX12_rule_X12_blanks : GoodIn wsX12_rule (wsV RX12 198 RX12 yX12_blanks wsX12_blanks) := goodIn_app (goodIn_of _ (by decide +kernel)) ggX12_rule_X12_blanks
set_option maxRecDepth 20000 in
theorem ggX12_rule_X12_statement : GoodIn wsX12_rule wsX12_statement := goodIn_r _ [22, 23, 24, 25, 26, 27, 28, 29, 30, 31, 32, 33, 6, 5, 3, 34, 35, 36, 13, 37, 38, 39, 40, 41, 42, 15, 16, 17, 18, 43, 44, 45, 46, 47, 48, 49, 50, 51, 52, 53, 54, 55, 56, 57, 58, 59, 60, 61, 62, 63, 64, 65, 66, 67, 68, 69, 70, 71, 72, 73, 74, 75, 76, 77, 78, 79, 80, 81, 82, 83, 84, 85, 86, 87, 88, 89, 90, 91, 92, 93, 94, 95, 96, 97, 98, 99, 100] (by decide +kernel) (by decide +kernel)
set_option maxRecDepth 20000 in
theorem gX12_rule_X12_statement : GoodIn wsX12_rule (wsV RX12 236 RX12 yX12_statement wsX12_statement) := goodIn_app (goodIn_of _ (by decide +kernel)) ggX12_rule_X12_statement
theorem dX12_rule_0 : decode cX12_rule 0 = .ok (.iload_n 1, 1) := by decide +kernel
theorem dX12_rule_1 : decode cX12_rule 1 = .ok (.iconst 0, 1) := by decide +kernel
theorem dX12_rule_2 : decode cX12_rule 2 = .ok (.aload_n 0, 1) := by decide +kernel
theorem dX12_rule_3 : decode cX12_rule 3 = .ok (.getfield 185, 3) := by decide +kernel
theorem dX12_rule_6 : decode cX12_rule 6 = .ok (.invokestatic 130, 3) := by decide +kernel
theorem dX12_rule_9 : decode cX12_rule 9 = .ok (.ifCond .ne 6, 3) := by decide +kernel
theorem dX12_rule_12 : decode cX12_rule 12 = .ok (.bipush (-2), 2) := by decide +kernel
theorem dX12_rule_14 : decode cX12_rule 14 = .ok (.ireturn, 1) := by decide +kernel
theorem dX12_rule_15 : decode cX12_rule 15 = .ok (.aload_n 0, 1) := by decide +kernel
theorem dX12_rule_16 : decode cX12_rule 16 = .ok (.getfield 233, 3) := by decide +kernel
theorem dX12_rule_19 : decode cX12_rule 19 = .ok (.bipush 10, 2) := by decide +kernel
theorem dX12_rule_21 : decode cX12_rule 21 = .ok (.if_icmp .ne 6, 3) := by decide +kernel
theorem dX12_rule_24 : decode cX12_rule 24 = .ok (.bipush (-3), 2) := by decide +kernel
theorem dX12_rule_26 : decode cX12_rule 26 = .ok (.ireturn, 1) := by decide +kernel
theorem dX12_rule_27 : decode cX12_rule 27 = .ok (.iconst 0, 1) := by decide +kernel
theorem dX12_rule_28 : decode cX12_rule 28 = .ok (.istore_n 2, 1) := by decide +kernel
theorem dX12_rule_29 : decode cX12_rule 29 = .ok (.iload_n 2, 1) := by decide +kernel
theorem dX12_rule_30 : decode cX12_rule 30 = .ok (.iload_n 1, 1) := by decide +kernel
theorem dX12_rule_31 : decode cX12_rule 31 = .ok (.if_icmp .ge 21, 3) := by decide +kernel
theorem dX12_rule_34 : decode cX12_rule 34 = .ok (.aload_n 0, 1) := by decide +kernel
theorem dX12_rule_35 : decode cX12_rule 35 = .ok (.getfield 108, 3) := by decide +kernel
theorem dX12_rule_38 : decode cX12_rule 38 = .ok (.iload_n 2, 1) := by decide +kernel
theorem dX12_rule_39 : decode cX12_rule 39 = .ok (.aload_n 0, 1) := by decide +kernel
theorem dX12_rule_40 : decode cX12_rule 40 = .ok (.getfield 104, 3) := by decide +kernel
theorem dX12_rule_43 : decode cX12_rule 43 = .ok (.iload_n 2, 1) := by decide +kernel
theorem dX12_rule_44 : decode cX12_rule 44 = .ok (.baload, 1) := by decide +kernel
theorem dX12_rule_45 : decode cX12_rule 45 = .ok (.bastore, 1) := by decide +kernel
theorem dX12_rule_46 : decode cX12_rule 46 = .ok (.iinc 2 1, 3) := by decide +kernel
theorem dX12_rule_49 : decode cX12_rule 49 = .ok (.goto (-20), 3) := by decide +kernel
theorem dX12_rule_52 : decode cX12_rule 52 = .ok (.aload_n 0, 1) := by decide +kernel
theorem dX12_rule_53 : decode cX12_rule 53 = .ok (.iload_n 1, 1) := by decide +kernel
theorem dX12_rule_54 : decode cX12_rule 54 = .ok (.putfield 195, 3) := by decide +kernel
theorem dX12_rule_57 : decode cX12_rule 57 = .ok (.aload_n 0, 1) := by decide +kernel
theorem dX12_rule_58 : decode cX12_rule 58 = .ok (.iconst 0, 1) := by decide +kernel
theorem dX12_rule_59 : decode cX12_rule 59 = .ok (.putfield 185, 3) := by decide +kernel
theorem dX12_rule_62 : decode cX12_rule 62 = .ok (.aload_n 0, 1) := by decide +kernel
theorem dX12_rule_63 : decode cX12_rule 63 = .ok (.iconst 0, 1) := by decide +kernel
theorem dX12_rule_64 : decode cX12_rule 64 = .ok (.putfield 192, 3) := by decide +kernel
theorem dX12_rule_67 : decode cX12_rule 67 = .ok (.aload_n 0, 1) := by decide +kernel
theorem dX12_rule_68 : decode cX12_rule 68 = .ok (.getfield 115, 3) := by decide +kernel
theorem dX12_rule_71 : decode cX12_rule 71 = .ok (.aload_n 0, 1) := by decide +kernel
theorem dX12_rule_72 : decode cX12_rule 72 = .ok (.getfield 233, 3) := by decide +kernel
theorem dX12_rule_75 : decode cX12_rule 75 = .ok (.iconst 0, 1) := by decide +kernel
theorem dX12_rule_76 : decode cX12_rule 76 = .ok (.iastore, 1) := by decide +kernel
theorem dX12_rule_77 : decode cX12_rule 77 = .ok (.iconst 1, 1) := by decide +kernel
theorem dX12_rule_78 : decode cX12_rule 78 = .ok (.istore_n 2, 1) := by decide +kernel
theorem dX12_rule_79 : decode cX12_rule 79 = .ok (.aload_n 0, 1) := by decide +kernel
theorem dX12_rule_80 : decode cX12_rule 80 = .ok (.invokevirtual 198, 3) := by decide +kernel
theorem dX12_rule_83 : decode cX12_rule 83 = .ok (.iload_n 2, 1) := by decide +kernel
theorem dX12_rule_84 : decode cX12_rule 84 = .ok (.ifCond .eq 85, 3) := by decide +kernel
theorem dX12_rule_87 : decode cX12_rule 87 = .ok (.aload_n 0, 1) := by decide +kernel
theorem dX12_rule_88 : decode cX12_rule 88 = .ok (.getfield 192, 3) := by decide +kernel
theorem dX12_rule_91 : decode cX12_rule 91 = .ok (.aload_n 0, 1) := by decide +kernel
theorem dX12_rule_92 : decode cX12_rule 92 = .ok (.getfield 195, 3) := by decide +kernel
theorem dX12_rule_95 : decode cX12_rule 95 = .ok (.if_icmp .ge 74, 3) := by decide +kernel
theorem dX12_rule_98 : decode cX12_rule 98 = .ok (.aload_n 0, 1) := by decide +kernel
theorem dX12_rule_99 : decode cX12_rule 99 = .ok (.getfield 115, 3) := by decide +kernel
theorem dX12_rule_102 : decode cX12_rule 102 = .ok (.aload_n 0, 1) := by decide +kernel
theorem dX12_rule_103 : decode cX12_rule 103 = .ok (.getfield 233, 3) := by decide +kernel
theorem dX12_rule_106 : decode cX12_rule 106 = .ok (.iaload, 1) := by decide +kernel
theorem dX12_rule_107 : decode cX12_rule 107 = .ok (.bipush 16, 2) := by decide +kernel
theorem dX12_rule_109 : decode cX12_rule 109 = .ok (.if_icmp .ge 31, 3) := by decide +kernel
theorem dX12_rule_112 : decode cX12_rule 112 = .ok (.aload_n 0, 1) := by decide +kernel
theorem dX12_rule_113 : decode cX12_rule 113 = .ok (.bipush 16, 2) := by decide +kernel
theorem dX12_rule_115 : decode cX12_rule 115 = .ok (.aload_n 0, 1) := by decide +kernel
theorem dX12_rule_116 : decode cX12_rule 116 = .ok (.getfield 233, 3) := by decide +kernel
theorem dX12_rule_119 : decode cX12_rule 119 = .ok (.imul, 1) := by decide +kernel
theorem dX12_rule_120 : decode cX12_rule 120 = .ok (.aload_n 0, 1) := by decide +kernel
theorem dX12_rule_121 : decode cX12_rule 121 = .ok (.getfield 115, 3) := by decide +kernel
theorem dX12_rule_124 : decode cX12_rule 124 = .ok (.aload_n 0, 1) := by decide +kernel
theorem dX12_rule_125 : decode cX12_rule 125 = .ok (.getfield 233, 3) := by decide +kernel
theorem dX12_rule_128 : decode cX12_rule 128 = .ok (.iaload, 1) := by decide +kernel
theorem dX12_rule_129 : decode cX12_rule 129 = .ok (.iadd, 1) := by decide +kernel
theorem dX12_rule_130 : decode cX12_rule 130 = .ok (.invokevirtual 236, 3) := by decide +kernel
theorem dX12_rule_133 : decode cX12_rule 133 = .ok (.ifCond .eq 7, 3) := by decide +kernel
theorem dX12_rule_136 : decode cX12_rule 136 = .ok (.iconst 1, 1) := by decide +kernel
theorem dX12_rule_137 : decode cX12_rule 137 = .ok (.goto 4, 3) := by decide +kernel
theorem dX12_rule_140 : decode cX12_rule 140 = .ok (.iconst 0, 1) := by decide +kernel
theorem dX12_rule_141 : decode cX12_rule 141 = .ok (.istore_n 2, 1) := by decide +kernel
theorem dX12_rule_142 : decode cX12_rule 142 = .ok (.iload_n 2, 1) := by decide +kernel
theorem dX12_rule_143 : decode cX12_rule 143 = .ok (.ifCond .ne 6, 3) := by decide +kernel
theorem dX12_rule_146 : decode cX12_rule 146 = .ok (.goto (-63), 3) := by decide +kernel
theorem dX12_rule_149 : decode cX12_rule 149 = .ok (.aload_n 0, 1) := by decide +kernel
theorem dX12_rule_150 : decode cX12_rule 150 = .ok (.getfield 115, 3) := by decide +kernel
theorem dX12_rule_153 : decode cX12_rule 153 = .ok (.aload_n 0, 1) := by decide +kernel
theorem dX12_rule_154 : decode cX12_rule 154 = .ok (.getfield 233, 3) := by decide +kernel
theorem dX12_rule_157 : decode cX12_rule 157 = .ok (.dup2, 1) := by decide +kernel
theorem dX12_rule_158 : decode cX12_rule 158 = .ok (.iaload, 1) := by decide +kernel
theorem dX12_rule_159 : decode cX12_rule 159 = .ok (.iconst 1, 1) := by decide +kernel
theorem dX12_rule_160 : decode cX12_rule 160 = .ok (.iadd, 1) := by decide +kernel
theorem dX12_rule_161 : decode cX12_rule 161 = .ok (.iastore, 1) := by decide +kernel
theorem dX12_rule_162 : decode cX12_rule 162 = .ok (.aload_n 0, 1) := by decide +kernel
theorem dX12_rule_163 : decode cX12_rule 163 = .ok (.invokevirtual 198, 3) := by decide +kernel
theorem dX12_rule_166 : decode cX12_rule 166 = .ok (.goto (-83), 3) := by decide +kernel
theorem dX12_rule_169 : decode cX12_rule 169 = .ok (.aload_n 0, 1) := by decide +kernel
theorem dX12_rule_170 : decode cX12_rule 170 = .ok (.iload_n 2, 1) := by decide +kernel
theorem dX12_rule_171 : decode cX12_rule 171 = .ok (.ifCond .eq 7, 3) := by decide +kernel
theorem dX12_rule_174 : decode cX12_rule 174 = .ok (.iconst (-1), 1) := by decide +kernel
theorem dX12_rule_175 : decode cX12_rule 175 = .ok (.goto 7, 3) := by decide +kernel
theorem dX12_rule_178 : decode cX12_rule 178 = .ok (.aload_n 0, 1) := by decide +kernel
theorem dX12_rule_179 : decode cX12_rule 179 = .ok (.getfield 192, 3) := by decide +kernel
theorem dX12_rule_182 : decode cX12_rule 182 = .ok (.putfield 111, 3) := by decide +kernel
theorem dX12_rule_185 : decode cX12_rule 185 = .ok (.iload_n 2, 1) := by decide +kernel
theorem dX12_rule_186 : decode cX12_rule 186 = .ok (.ifCond .ne 5, 3) := by decide +kernel
theorem dX12_rule_189 : decode cX12_rule 189 = .ok (.iconst (-1), 1) := by decide +kernel
theorem dX12_rule_190 : decode cX12_rule 190 = .ok (.ireturn, 1) := by decide +kernel
theorem dX12_rule_191 : decode cX12_rule 191 = .ok (.aload_n 0, 1) := by decide +kernel
theorem dX12_rule_192 : decode cX12_rule 192 = .ok (.getfield 118, 3) := by decide +kernel
theorem dX12_rule_195 : decode cX12_rule 195 = .ok (.aload_n 0, 1) := by decide +kernel
theorem dX12_rule_196 : decode cX12_rule 196 = .ok (.getfield 233, 3) := by decide +kernel
theorem dX12_rule_199 : decode cX12_rule 199 = .ok (.aload_n 0, 1) := by decide +kernel
theorem dX12_rule_200 : decode cX12_rule 200 = .ok (.getfield 140, 3) := by decide +kernel
theorem dX12_rule_203 : decode cX12_rule 203 = .ok (.iastore, 1) := by decide +kernel
theorem dX12_rule_204 : decode cX12_rule 204 = .ok (.aload_n 0, 1) := by decide +kernel
theorem dX12_rule_205 : decode cX12_rule 205 = .ok (.dup, 1) := by decide +kernel
theorem dX12_rule_206 : decode cX12_rule 206 = .ok (.getfield 233, 3) := by decide +kernel
theorem dX12_rule_209 : decode cX12_rule 209 = .ok (.iconst 1, 1) := by decide +kernel
theorem dX12_rule_210 : decode cX12_rule 210 = .ok (.iadd, 1) := by decide +kernel
theorem dX12_rule_211 : decode cX12_rule 211 = .ok (.putfield 233, 3) := by decide +kernel
theorem dX12_rule_214 : decode cX12_rule 214 = .ok (.aload_n 0, 1) := by decide +kernel
theorem dX12_rule_215 : decode cX12_rule 215 = .ok (.getfield 233, 3) := by decide +kernel
theorem dX12_rule_218 : decode cX12_rule 218 = .ok (.iconst 1, 1) := by decide +kernel
theorem dX12_rule_219 : decode cX12_rule 219 = .ok (.isub, 1) := by decide +kernel
theorem dX12_rule_220 : decode cX12_rule 220 = .ok (.ireturn, 1) := by decide +kernel
theorem dX12_fault_0 : decode cX12_fault 0 = .ok (.aload_n 0, 1) := by decide +kernel
theorem dX12_fault_1 : decode cX12_fault 1 = .ok (.getfield 111, 3) := by decide +kernel
theorem dX12_fault_4 : decode cX12_fault 4 = .ok (.ireturn, 1) := by decide +kernel
theorem dX12_inForce_0 : decode cX12_inForce 0 = .ok (.iconst (-1), 1) := by decide +kernel
theorem dX12_inForce_1 : decode cX12_inForce 1 = .ok (.istore_n 2, 1) := by decide +kernel
theorem dX12_inForce_2 : decode cX12_inForce 2 = .ok (.iconst 0, 1) := by decide +kernel
theorem dX12_inForce_3 : decode cX12_inForce 3 = .ok (.istore_n 3, 1) := by decide +kernel
theorem dX12_inForce_4 : decode cX12_inForce 4 = .ok (.iload_n 3, 1) := by decide +kernel
theorem dX12_inForce_5 : decode cX12_inForce 5 = .ok (.aload_n 0, 1) := by decide +kernel
theorem dX12_inForce_6 : decode cX12_inForce 6 = .ok (.getfield 233, 3) := by decide +kernel
theorem dX12_inForce_9 : decode cX12_inForce 9 = .ok (.if_icmp .ge 21, 3) := by decide +kernel
theorem dX12_inForce_12 : decode cX12_inForce 12 = .ok (.aload_n 0, 1) := by decide +kernel
theorem dX12_inForce_13 : decode cX12_inForce 13 = .ok (.getfield 118, 3) := by decide +kernel
theorem dX12_inForce_16 : decode cX12_inForce 16 = .ok (.iload_n 3, 1) := by decide +kernel
theorem dX12_inForce_17 : decode cX12_inForce 17 = .ok (.iaload, 1) := by decide +kernel
theorem dX12_inForce_18 : decode cX12_inForce 18 = .ok (.iload_n 1, 1) := by decide +kernel
theorem dX12_inForce_19 : decode cX12_inForce 19 = .ok (.if_icmp .gt 5, 3) := by decide +kernel
theorem dX12_inForce_22 : decode cX12_inForce 22 = .ok (.iload_n 3, 1) := by decide +kernel
theorem dX12_inForce_23 : decode cX12_inForce 23 = .ok (.istore_n 2, 1) := by decide +kernel
theorem dX12_inForce_24 : decode cX12_inForce 24 = .ok (.iinc 3 1, 3) := by decide +kernel
theorem dX12_inForce_27 : decode cX12_inForce 27 = .ok (.goto (-23), 3) := by decide +kernel
theorem dX12_inForce_30 : decode cX12_inForce 30 = .ok (.iload_n 2, 1) := by decide +kernel
theorem dX12_inForce_31 : decode cX12_inForce 31 = .ok (.ireturn, 1) := by decide +kernel
set_option maxRecDepth 20000 in
theorem ggX12_isFast_X12_inForce : GoodIn wsX12_isFast wsX12_inForce := goodIn_r _ [9, 10, 11, 32, 33, 34, 35, 36, 37, 38, 39, 40, 41, 42, 43, 44, 45, 46, 47, 48, 49, 50, 51, 52, 53, 54, 55, 56, 57, 58, 59, 60, 61, 62, 63, 64, 65, 66, 67, 68, 69, 70, 71, 72, 73, 74, 75, 76, 77, 78, 79, 80, 81, 82, 83, 84, 85] (by decide +kernel) (by decide +kernel)
set_option maxRecDepth 20000 in
theorem gX12_isFast_X12_inForce : GoodIn wsX12_isFast (wsV RX12 239 RX12 yX12_inForce wsX12_inForce) := goodIn_app (goodIn_of _ (by decide +kernel)) ggX12_isFast_X12_inForce
set_option maxRecDepth 20000 in
theorem ggX12_isFast_X12_rankOn : GoodIn wsX12_isFast wsX12_rankOn := goodIn_r _ [15, 16, 17, 18, 19, 8, 20, 21, 22, 23, 24, 25, 26, 27, 28, 29, 30, 31, 32, 33, 34, 35, 36, 37, 38, 39, 40, 41, 42, 43, 44, 45, 46, 47, 48, 49, 50, 51, 52, 53, 54, 55, 56, 57, 58, 59, 60, 61, 62, 63, 64, 65, 66, 67, 68, 69, 70, 71, 72, 73, 74, 75, 76, 77, 78, 79, 80, 81, 82, 83, 84, 85] (by decide +kernel) (by decide +kernel)
set_option maxRecDepth 20000 in
theorem gX12_isFast_X12_rankOn : GoodIn wsX12_isFast (wsV RX12 242 RX12 yX12_rankOn wsX12_rankOn) := goodIn_app (goodIn_of _ (by decide +kernel)) ggX12_isFast_X12_rankOn
set_option maxRecDepth 20000 in
theorem ggX12_isFast_X12_isIn : GoodIn wsX12_isFast wsX12_isIn := goodIn_r _ [24] (by decide +kernel) (by decide +kernel)
set_option maxRecDepth 20000 in
theorem gX12_isFast_X12_isIn : GoodIn wsX12_isFast (va_wsS RX12 130 yX12_isIn wsX12_isIn) := goodIn_app (goodIn_of _ (by decide +kernel)) ggX12_isFast_X12_isIn
theorem dX12_isFast_0 : decode cX12_isFast 0 = .ok (.aload_n 0, 1) := by decide +kernel
theorem dX12_isFast_1 : decode cX12_isFast 1 = .ok (.iload_n 1, 1) := by decide +kernel
theorem dX12_isFast_2 : decode cX12_isFast 2 = .ok (.invokevirtual 239, 3) := by decide +kernel
theorem dX12_isFast_5 : decode cX12_isFast 5 = .ok (.istore_n 2, 1) := by decide +kernel
theorem dX12_isFast_6 : decode cX12_isFast 6 = .ok (.iload_n 2, 1) := by decide +kernel
theorem dX12_isFast_7 : decode cX12_isFast 7 = .ok (.iconst (-1), 1) := by decide +kernel
theorem dX12_isFast_8 : decode cX12_isFast 8 = .ok (.if_icmp .eq 12, 3) := by decide +kernel
theorem dX12_isFast_11 : decode cX12_isFast 11 = .ok (.aload_n 0, 1) := by decide +kernel
theorem dX12_isFast_12 : decode cX12_isFast 12 = .ok (.iload_n 1, 1) := by decide +kernel
theorem dX12_isFast_13 : decode cX12_isFast 13 = .ok (.invokevirtual 242, 3) := by decide +kernel
theorem dX12_isFast_16 : decode cX12_isFast 16 = .ok (.iconst 3, 1) := by decide +kernel
theorem dX12_isFast_17 : decode cX12_isFast 17 = .ok (.if_icmp .lt 5, 3) := by decide +kernel
theorem dX12_isFast_20 : decode cX12_isFast 20 = .ok (.iconst 0, 1) := by decide +kernel
theorem dX12_isFast_21 : decode cX12_isFast 21 = .ok (.ireturn, 1) := by decide +kernel
theorem dX12_isFast_22 : decode cX12_isFast 22 = .ok (.iload_n 1, 1) := by decide +kernel
theorem dX12_isFast_23 : decode cX12_isFast 23 = .ok (.sipush 365, 3) := by decide +kernel
theorem dX12_isFast_26 : decode cX12_isFast 26 = .ok (.irem, 1) := by decide +kernel
theorem dX12_isFast_27 : decode cX12_isFast 27 = .ok (.istore_n 3, 1) := by decide +kernel
theorem dX12_isFast_28 : decode cX12_isFast 28 = .ok (.iconst 0, 1) := by decide +kernel
theorem dX12_isFast_29 : decode cX12_isFast 29 = .ok (.istore 4, 2) := by decide +kernel
theorem dX12_isFast_31 : decode cX12_isFast 31 = .ok (.bipush 16, 2) := by decide +kernel
theorem dX12_isFast_33 : decode cX12_isFast 33 = .ok (.iload_n 2, 1) := by decide +kernel
theorem dX12_isFast_34 : decode cX12_isFast 34 = .ok (.imul, 1) := by decide +kernel
theorem dX12_isFast_35 : decode cX12_isFast 35 = .ok (.istore 5, 2) := by decide +kernel
theorem dX12_isFast_37 : decode cX12_isFast 37 = .ok (.iload 5, 2) := by decide +kernel
theorem dX12_isFast_39 : decode cX12_isFast 39 = .ok (.bipush 16, 2) := by decide +kernel
theorem dX12_isFast_41 : decode cX12_isFast 41 = .ok (.iload_n 2, 1) := by decide +kernel
theorem dX12_isFast_42 : decode cX12_isFast 42 = .ok (.imul, 1) := by decide +kernel
theorem dX12_isFast_43 : decode cX12_isFast 43 = .ok (.aload_n 0, 1) := by decide +kernel
theorem dX12_isFast_44 : decode cX12_isFast 44 = .ok (.getfield 115, 3) := by decide +kernel
theorem dX12_isFast_47 : decode cX12_isFast 47 = .ok (.iload_n 2, 1) := by decide +kernel
theorem dX12_isFast_48 : decode cX12_isFast 48 = .ok (.iaload, 1) := by decide +kernel
theorem dX12_isFast_49 : decode cX12_isFast 49 = .ok (.iadd, 1) := by decide +kernel
theorem dX12_isFast_50 : decode cX12_isFast 50 = .ok (.if_icmp .ge 114, 3) := by decide +kernel
theorem dX12_isFast_53 : decode cX12_isFast 53 = .ok (.aload_n 0, 1) := by decide +kernel
theorem dX12_isFast_54 : decode cX12_isFast 54 = .ok (.getfield 124, 3) := by decide +kernel
theorem dX12_isFast_57 : decode cX12_isFast 57 = .ok (.iload 5, 2) := by decide +kernel
theorem dX12_isFast_59 : decode cX12_isFast 59 = .ok (.iaload, 1) := by decide +kernel
theorem dX12_isFast_60 : decode cX12_isFast 60 = .ok (.istore 6, 2) := by decide +kernel
theorem dX12_isFast_62 : decode cX12_isFast 62 = .ok (.aload_n 0, 1) := by decide +kernel
theorem dX12_isFast_63 : decode cX12_isFast 63 = .ok (.getfield 127, 3) := by decide +kernel
theorem dX12_isFast_66 : decode cX12_isFast 66 = .ok (.iload 5, 2) := by decide +kernel
theorem dX12_isFast_68 : decode cX12_isFast 68 = .ok (.iaload, 1) := by decide +kernel
theorem dX12_isFast_69 : decode cX12_isFast 69 = .ok (.istore 7, 2) := by decide +kernel
theorem dX12_isFast_71 : decode cX12_isFast 71 = .ok (.aload_n 0, 1) := by decide +kernel
theorem dX12_isFast_72 : decode cX12_isFast 72 = .ok (.getfield 121, 3) := by decide +kernel
theorem dX12_isFast_75 : decode cX12_isFast 75 = .ok (.iload 5, 2) := by decide +kernel
theorem dX12_isFast_77 : decode cX12_isFast 77 = .ok (.iaload, 1) := by decide +kernel
theorem dX12_isFast_78 : decode cX12_isFast 78 = .ok (.ifCond .ne 24, 3) := by decide +kernel
theorem dX12_isFast_81 : decode cX12_isFast 81 = .ok (.iload 4, 2) := by decide +kernel
theorem dX12_isFast_83 : decode cX12_isFast 83 = .ok (.ifCond .ne 12, 3) := by decide +kernel
theorem dX12_isFast_86 : decode cX12_isFast 86 = .ok (.iload 6, 2) := by decide +kernel
theorem dX12_isFast_88 : decode cX12_isFast 88 = .ok (.iload_n 1, 1) := by decide +kernel
theorem dX12_isFast_89 : decode cX12_isFast 89 = .ok (.bipush 7, 2) := by decide +kernel
theorem dX12_isFast_91 : decode cX12_isFast 91 = .ok (.irem, 1) := by decide +kernel
theorem dX12_isFast_92 : decode cX12_isFast 92 = .ok (.if_icmp .ne 7, 3) := by decide +kernel
theorem dX12_isFast_95 : decode cX12_isFast 95 = .ok (.iconst 1, 1) := by decide +kernel
theorem dX12_isFast_96 : decode cX12_isFast 96 = .ok (.goto 4, 3) := by decide +kernel
theorem dX12_isFast_99 : decode cX12_isFast 99 = .ok (.iconst 0, 1) := by decide +kernel
theorem dX12_isFast_100 : decode cX12_isFast 100 = .ok (.istore 4, 2) := by decide +kernel
theorem dX12_isFast_102 : decode cX12_isFast 102 = .ok (.aload_n 0, 1) := by decide +kernel
theorem dX12_isFast_103 : decode cX12_isFast 103 = .ok (.getfield 121, 3) := by decide +kernel
theorem dX12_isFast_106 : decode cX12_isFast 106 = .ok (.iload 5, 2) := by decide +kernel
theorem dX12_isFast_108 : decode cX12_isFast 108 = .ok (.iaload, 1) := by decide +kernel
theorem dX12_isFast_109 : decode cX12_isFast 109 = .ok (.iconst 1, 1) := by decide +kernel
theorem dX12_isFast_110 : decode cX12_isFast 110 = .ok (.if_icmp .ne 48, 3) := by decide +kernel
theorem dX12_isFast_113 : decode cX12_isFast 113 = .ok (.iload 4, 2) := by decide +kernel
theorem dX12_isFast_115 : decode cX12_isFast 115 = .ok (.ifCond .ne 36, 3) := by decide +kernel
theorem dX12_isFast_118 : decode cX12_isFast 118 = .ok (.iload 6, 2) := by decide +kernel
theorem dX12_isFast_120 : decode cX12_isFast 120 = .ok (.iload 7, 2) := by decide +kernel
theorem dX12_isFast_122 : decode cX12_isFast 122 = .ok (.if_icmp .gt 17, 3) := by decide +kernel
theorem dX12_isFast_125 : decode cX12_isFast 125 = .ok (.iload_n 3, 1) := by decide +kernel
