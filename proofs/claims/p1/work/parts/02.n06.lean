theorem dX12_isFast_126 : decode cX12_isFast 126 = .ok (.iload 6, 2) := by decide +kernel
theorem dX12_isFast_128 : decode cX12_isFast 128 = .ok (.iload 7, 2) := by decide +kernel
theorem dX12_isFast_130 : decode cX12_isFast 130 = .ok (.invokestatic 130, 3) := by decide +kernel
theorem dX12_isFast_133 : decode cX12_isFast 133 = .ok (.ifCond .eq 22, 3) := by decide +kernel
theorem dX12_isFast_136 : decode cX12_isFast 136 = .ok (.goto 15, 3) := by decide +kernel
theorem dX12_isFast_139 : decode cX12_isFast 139 = .ok (.iload_n 3, 1) := by decide +kernel
theorem dX12_isFast_140 : decode cX12_isFast 140 = .ok (.iload 6, 2) := by decide +kernel
theorem dX12_isFast_142 : decode cX12_isFast 142 = .ok (.if_icmp .ge 9, 3) := by decide +kernel
theorem dX12_isFast_145 : decode cX12_isFast 145 = .ok (.iload_n 3, 1) := by decide +kernel
theorem dX12_isFast_146 : decode cX12_isFast 146 = .ok (.iload 7, 2) := by decide +kernel
theorem dX12_isFast_148 : decode cX12_isFast 148 = .ok (.if_icmp .gt 7, 3) := by decide +kernel
theorem dX12_isFast_151 : decode cX12_isFast 151 = .ok (.iconst 1, 1) := by decide +kernel
theorem dX12_isFast_152 : decode cX12_isFast 152 = .ok (.goto 4, 3) := by decide +kernel
theorem dX12_isFast_155 : decode cX12_isFast 155 = .ok (.iconst 0, 1) := by decide +kernel
theorem dX12_isFast_156 : decode cX12_isFast 156 = .ok (.istore 4, 2) := by decide +kernel
theorem dX12_isFast_158 : decode cX12_isFast 158 = .ok (.iinc 5 1, 3) := by decide +kernel
theorem dX12_isFast_161 : decode cX12_isFast 161 = .ok (.goto (-124), 3) := by decide +kernel
theorem dX12_isFast_164 : decode cX12_isFast 164 = .ok (.iload 4, 2) := by decide +kernel
theorem dX12_isFast_166 : decode cX12_isFast 166 = .ok (.ireturn, 1) := by decide +kernel
theorem dX12_lastOf_0 : decode cX12_lastOf 0 = .ok (.iconst (-1), 1) := by decide +kernel
theorem dX12_lastOf_1 : decode cX12_lastOf 1 = .ok (.istore 4, 2) := by decide +kernel
theorem dX12_lastOf_3 : decode cX12_lastOf 3 = .ok (.bipush 16, 2) := by decide +kernel
theorem dX12_lastOf_5 : decode cX12_lastOf 5 = .ok (.iload_n 1, 1) := by decide +kernel
theorem dX12_lastOf_6 : decode cX12_lastOf 6 = .ok (.imul, 1) := by decide +kernel
theorem dX12_lastOf_7 : decode cX12_lastOf 7 = .ok (.istore 5, 2) := by decide +kernel
theorem dX12_lastOf_9 : decode cX12_lastOf 9 = .ok (.iload_n 1, 1) := by decide +kernel
theorem dX12_lastOf_10 : decode cX12_lastOf 10 = .ok (.iconst (-1), 1) := by decide +kernel
theorem dX12_lastOf_11 : decode cX12_lastOf 11 = .ok (.if_icmp .eq 61, 3) := by decide +kernel
theorem dX12_lastOf_14 : decode cX12_lastOf 14 = .ok (.iload 5, 2) := by decide +kernel
theorem dX12_lastOf_16 : decode cX12_lastOf 16 = .ok (.bipush 16, 2) := by decide +kernel
theorem dX12_lastOf_18 : decode cX12_lastOf 18 = .ok (.iload_n 1, 1) := by decide +kernel
theorem dX12_lastOf_19 : decode cX12_lastOf 19 = .ok (.imul, 1) := by decide +kernel
theorem dX12_lastOf_20 : decode cX12_lastOf 20 = .ok (.aload_n 0, 1) := by decide +kernel
theorem dX12_lastOf_21 : decode cX12_lastOf 21 = .ok (.getfield 115, 3) := by decide +kernel
theorem dX12_lastOf_24 : decode cX12_lastOf 24 = .ok (.iload_n 1, 1) := by decide +kernel
theorem dX12_lastOf_25 : decode cX12_lastOf 25 = .ok (.iaload, 1) := by decide +kernel
theorem dX12_lastOf_26 : decode cX12_lastOf 26 = .ok (.iadd, 1) := by decide +kernel
theorem dX12_lastOf_27 : decode cX12_lastOf 27 = .ok (.if_icmp .ge 45, 3) := by decide +kernel
theorem dX12_lastOf_30 : decode cX12_lastOf 30 = .ok (.aload_n 0, 1) := by decide +kernel
theorem dX12_lastOf_31 : decode cX12_lastOf 31 = .ok (.getfield 121, 3) := by decide +kernel
theorem dX12_lastOf_34 : decode cX12_lastOf 34 = .ok (.iload 5, 2) := by decide +kernel
theorem dX12_lastOf_36 : decode cX12_lastOf 36 = .ok (.iaload, 1) := by decide +kernel
theorem dX12_lastOf_37 : decode cX12_lastOf 37 = .ok (.iload_n 2, 1) := by decide +kernel
theorem dX12_lastOf_38 : decode cX12_lastOf 38 = .ok (.if_icmp .ne 28, 3) := by decide +kernel
theorem dX12_lastOf_41 : decode cX12_lastOf 41 = .ok (.iload_n 2, 1) := by decide +kernel
theorem dX12_lastOf_42 : decode cX12_lastOf 42 = .ok (.iconst 3, 1) := by decide +kernel
theorem dX12_lastOf_43 : decode cX12_lastOf 43 = .ok (.if_icmp .ne 14, 3) := by decide +kernel
theorem dX12_lastOf_46 : decode cX12_lastOf 46 = .ok (.aload_n 0, 1) := by decide +kernel
theorem dX12_lastOf_47 : decode cX12_lastOf 47 = .ok (.getfield 124, 3) := by decide +kernel
theorem dX12_lastOf_50 : decode cX12_lastOf 50 = .ok (.iload 5, 2) := by decide +kernel
theorem dX12_lastOf_52 : decode cX12_lastOf 52 = .ok (.iaload, 1) := by decide +kernel
theorem dX12_lastOf_53 : decode cX12_lastOf 53 = .ok (.iload_n 3, 1) := by decide +kernel
theorem dX12_lastOf_54 : decode cX12_lastOf 54 = .ok (.if_icmp .ne 12, 3) := by decide +kernel
theorem dX12_lastOf_57 : decode cX12_lastOf 57 = .ok (.aload_n 0, 1) := by decide +kernel
theorem dX12_lastOf_58 : decode cX12_lastOf 58 = .ok (.getfield 127, 3) := by decide +kernel
theorem dX12_lastOf_61 : decode cX12_lastOf 61 = .ok (.iload 5, 2) := by decide +kernel
theorem dX12_lastOf_63 : decode cX12_lastOf 63 = .ok (.iaload, 1) := by decide +kernel
theorem dX12_lastOf_64 : decode cX12_lastOf 64 = .ok (.istore 4, 2) := by decide +kernel
theorem dX12_lastOf_66 : decode cX12_lastOf 66 = .ok (.iinc 5 1, 3) := by decide +kernel
theorem dX12_lastOf_69 : decode cX12_lastOf 69 = .ok (.goto (-60), 3) := by decide +kernel
theorem dX12_lastOf_72 : decode cX12_lastOf 72 = .ok (.iload 4, 2) := by decide +kernel
theorem dX12_lastOf_74 : decode cX12_lastOf 74 = .ok (.ireturn, 1) := by decide +kernel
set_option maxRecDepth 20000 in
theorem ggX12_headFeed_X12_inForce : GoodIn wsX12_headFeed wsX12_inForce := goodIn_r _ [5, 6, 7, 40, 41, 42, 43, 44, 45, 46, 47, 48, 49, 50, 51, 52, 53, 54, 55, 56, 57, 58, 59, 60, 61, 62, 63, 64, 65, 66, 67, 68, 69, 70, 71, 72, 73, 74, 75, 76, 77, 78, 79, 80, 81, 82, 83, 84, 85, 86, 87, 88, 89, 90, 91, 92, 93] (by decide +kernel) (by decide +kernel)
set_option maxRecDepth 20000 in
theorem gX12_headFeed_X12_inForce : GoodIn wsX12_headFeed (wsV RX12 239 RX12 yX12_inForce wsX12_inForce) := goodIn_app (goodIn_of _ (by decide +kernel)) ggX12_headFeed_X12_inForce
set_option maxRecDepth 20000 in
theorem ggX12_headFeed_X12_isFast : GoodIn wsX12_headFeed wsX12_isFast := goodIn_r _ [11, 12, 13, 14, 15, 1, 2, 3, 4, 5, 6, 7, 16, 17, 18, 19, 20, 21, 22, 23, 24, 25, 26, 27, 28, 29, 30, 31, 32, 33, 34, 35, 40, 41, 42, 43, 44, 45, 46, 47, 48, 49, 50, 51, 52, 53, 54, 55, 56, 57, 58, 59, 60, 61, 62, 63, 64, 65, 66, 67, 68, 69, 70, 71, 72, 73, 74, 75, 76, 77, 78, 79, 80, 81, 82, 83, 84, 85, 86, 87, 88, 89, 90, 91, 92, 93] (by decide +kernel) (by decide +kernel)
set_option maxRecDepth 20000 in
theorem gX12_headFeed_X12_isFast : GoodIn wsX12_headFeed (wsV RX12 245 RX12 yX12_isFast wsX12_isFast) := goodIn_app (goodIn_of _ (by decide +kernel)) ggX12_headFeed_X12_isFast
set_option maxRecDepth 20000 in
theorem ggX12_headFeed_X12_lastOf : GoodIn wsX12_headFeed wsX12_lastOf := goodIn_r _ [39, 12, 15, 13, 14, 40, 41, 42, 43, 44, 45, 46, 47, 48, 49, 50, 51, 52, 53, 54, 55, 56, 57, 58, 59, 60, 61, 62, 63, 64, 65, 66, 67, 68, 69, 70, 71, 72, 73, 74, 75, 76, 77, 78, 79, 80, 81, 82, 83, 84, 85, 86, 87, 88, 89, 90, 91, 92, 93] (by decide +kernel) (by decide +kernel)
set_option maxRecDepth 20000 in
theorem gX12_headFeed_X12_lastOf : GoodIn wsX12_headFeed (wsV RX12 248 RX12 yX12_lastOf wsX12_lastOf) := goodIn_app (goodIn_of _ (by decide +kernel)) ggX12_headFeed_X12_lastOf
set_option maxRecDepth 20000 in
theorem ggX12_headFeed_X12_rankOn : GoodIn wsX12_headFeed wsX12_rankOn := goodIn_r _ [19, 20, 21, 22, 23, 4, 24, 25, 26, 27, 28, 29, 30, 31, 32, 33, 34, 35, 40, 41, 42, 43, 44, 45, 46, 47, 48, 49, 50, 51, 52, 53, 54, 55, 56, 57, 58, 59, 60, 61, 62, 63, 64, 65, 66, 67, 68, 69, 70, 71, 72, 73, 74, 75, 76, 77, 78, 79, 80, 81, 82, 83, 84, 85, 86, 87, 88, 89, 90, 91, 92, 93] (by decide +kernel) (by decide +kernel)
set_option maxRecDepth 20000 in
theorem gX12_headFeed_X12_rankOn : GoodIn wsX12_headFeed (wsV RX12 242 RX12 yX12_rankOn wsX12_rankOn) := goodIn_app (goodIn_of _ (by decide +kernel)) ggX12_headFeed_X12_rankOn
theorem dX12_headFeed_0 : decode cX12_headFeed 0 = .ok (.aload_n 0, 1) := by decide +kernel
theorem dX12_headFeed_1 : decode cX12_headFeed 1 = .ok (.iload_n 1, 1) := by decide +kernel
theorem dX12_headFeed_2 : decode cX12_headFeed 2 = .ok (.invokevirtual 239, 3) := by decide +kernel
theorem dX12_headFeed_5 : decode cX12_headFeed 5 = .ok (.istore_n 2, 1) := by decide +kernel
theorem dX12_headFeed_6 : decode cX12_headFeed 6 = .ok (.aload_n 0, 1) := by decide +kernel
theorem dX12_headFeed_7 : decode cX12_headFeed 7 = .ok (.iload_n 1, 1) := by decide +kernel
theorem dX12_headFeed_8 : decode cX12_headFeed 8 = .ok (.invokevirtual 245, 3) := by decide +kernel
theorem dX12_headFeed_11 : decode cX12_headFeed 11 = .ok (.ifCond .eq 13, 3) := by decide +kernel
theorem dX12_headFeed_14 : decode cX12_headFeed 14 = .ok (.aload_n 0, 1) := by decide +kernel
theorem dX12_headFeed_15 : decode cX12_headFeed 15 = .ok (.iload_n 2, 1) := by decide +kernel
theorem dX12_headFeed_16 : decode cX12_headFeed 16 = .ok (.iconst 2, 1) := by decide +kernel
theorem dX12_headFeed_17 : decode cX12_headFeed 17 = .ok (.iconst 0, 1) := by decide +kernel
theorem dX12_headFeed_18 : decode cX12_headFeed 18 = .ok (.invokevirtual 248, 3) := by decide +kernel
theorem dX12_headFeed_21 : decode cX12_headFeed 21 = .ok (.goto 4, 3) := by decide +kernel
theorem dX12_headFeed_24 : decode cX12_headFeed 24 = .ok (.iconst (-1), 1) := by decide +kernel
theorem dX12_headFeed_25 : decode cX12_headFeed 25 = .ok (.istore_n 3, 1) := by decide +kernel
theorem dX12_headFeed_26 : decode cX12_headFeed 26 = .ok (.iload_n 3, 1) := by decide +kernel
theorem dX12_headFeed_27 : decode cX12_headFeed 27 = .ok (.iconst (-1), 1) := by decide +kernel
theorem dX12_headFeed_28 : decode cX12_headFeed 28 = .ok (.if_icmp .ne 23, 3) := by decide +kernel
theorem dX12_headFeed_31 : decode cX12_headFeed 31 = .ok (.aload_n 0, 1) := by decide +kernel
theorem dX12_headFeed_32 : decode cX12_headFeed 32 = .ok (.iload_n 1, 1) := by decide +kernel
theorem dX12_headFeed_33 : decode cX12_headFeed 33 = .ok (.invokevirtual 242, 3) := by decide +kernel
theorem dX12_headFeed_36 : decode cX12_headFeed 36 = .ok (.ifCond .le 15, 3) := by decide +kernel
theorem dX12_headFeed_39 : decode cX12_headFeed 39 = .ok (.aload_n 0, 1) := by decide +kernel
theorem dX12_headFeed_40 : decode cX12_headFeed 40 = .ok (.iload_n 2, 1) := by decide +kernel
theorem dX12_headFeed_41 : decode cX12_headFeed 41 = .ok (.iconst 3, 1) := by decide +kernel
theorem dX12_headFeed_42 : decode cX12_headFeed 42 = .ok (.aload_n 0, 1) := by decide +kernel
theorem dX12_headFeed_43 : decode cX12_headFeed 43 = .ok (.iload_n 1, 1) := by decide +kernel
theorem dX12_headFeed_44 : decode cX12_headFeed 44 = .ok (.invokevirtual 242, 3) := by decide +kernel
theorem dX12_headFeed_47 : decode cX12_headFeed 47 = .ok (.invokevirtual 248, 3) := by decide +kernel
theorem dX12_headFeed_50 : decode cX12_headFeed 50 = .ok (.istore_n 3, 1) := by decide +kernel
theorem dX12_headFeed_51 : decode cX12_headFeed 51 = .ok (.iload_n 3, 1) := by decide +kernel
theorem dX12_headFeed_52 : decode cX12_headFeed 52 = .ok (.iconst (-1), 1) := by decide +kernel
theorem dX12_headFeed_53 : decode cX12_headFeed 53 = .ok (.if_icmp .ne 11, 3) := by decide +kernel
theorem dX12_headFeed_56 : decode cX12_headFeed 56 = .ok (.aload_n 0, 1) := by decide +kernel
theorem dX12_headFeed_57 : decode cX12_headFeed 57 = .ok (.iload_n 2, 1) := by decide +kernel
theorem dX12_headFeed_58 : decode cX12_headFeed 58 = .ok (.iconst 5, 1) := by decide +kernel
theorem dX12_headFeed_59 : decode cX12_headFeed 59 = .ok (.iconst 0, 1) := by decide +kernel
theorem dX12_headFeed_60 : decode cX12_headFeed 60 = .ok (.invokevirtual 248, 3) := by decide +kernel
theorem dX12_headFeed_63 : decode cX12_headFeed 63 = .ok (.istore_n 3, 1) := by decide +kernel
theorem dX12_headFeed_64 : decode cX12_headFeed 64 = .ok (.iload_n 3, 1) := by decide +kernel
theorem dX12_headFeed_65 : decode cX12_headFeed 65 = .ok (.iconst (-1), 1) := by decide +kernel
theorem dX12_headFeed_66 : decode cX12_headFeed 66 = .ok (.if_icmp .ne 7, 3) := by decide +kernel
theorem dX12_headFeed_69 : decode cX12_headFeed 69 = .ok (.iconst 2, 1) := by decide +kernel
theorem dX12_headFeed_70 : decode cX12_headFeed 70 = .ok (.goto 4, 3) := by decide +kernel
theorem dX12_headFeed_73 : decode cX12_headFeed 73 = .ok (.iload_n 3, 1) := by decide +kernel
theorem dX12_headFeed_74 : decode cX12_headFeed 74 = .ok (.ireturn, 1) := by decide +kernel
set_option maxRecDepth 20000 in
theorem ggX12_guestFeed_X12_inForce : GoodIn wsX12_guestFeed wsX12_inForce := goodIn_r _ [5, 6, 7, 16, 17, 18, 19, 20, 21, 22, 23, 24, 25, 26, 27, 28, 29, 30, 31, 32, 33, 34, 35, 36, 37, 38, 39, 40, 41, 42, 43, 44, 45, 46, 47, 48, 49, 50, 51, 52, 53, 54, 55, 56, 57, 58, 59, 60, 61, 62, 63, 64, 65, 66, 67, 68, 69] (by decide +kernel) (by decide +kernel)
set_option maxRecDepth 20000 in
theorem gX12_guestFeed_X12_inForce : GoodIn wsX12_guestFeed (wsV RX12 239 RX12 yX12_inForce wsX12_inForce) := goodIn_app (goodIn_of _ (by decide +kernel)) ggX12_guestFeed_X12_inForce
set_option maxRecDepth 20000 in
theorem ggX12_guestFeed_X12_lastOf : GoodIn wsX12_guestFeed wsX12_lastOf := goodIn_r _ [11, 12, 13, 14, 15, 16, 17, 18, 19, 20, 21, 22, 23, 24, 25, 26, 27, 28, 29, 30, 31, 32, 33, 34, 35, 36, 37, 38, 39, 40, 41, 42, 43, 44, 45, 46, 47, 48, 49, 50, 51, 52, 53, 54, 55, 56, 57, 58, 59, 60, 61, 62, 63, 64, 65, 66, 67, 68, 69] (by decide +kernel) (by decide +kernel)
set_option maxRecDepth 20000 in
theorem gX12_guestFeed_X12_lastOf : GoodIn wsX12_guestFeed (wsV RX12 248 RX12 yX12_lastOf wsX12_lastOf) := goodIn_app (goodIn_of _ (by decide +kernel)) ggX12_guestFeed_X12_lastOf
theorem dX12_guestFeed_0 : decode cX12_guestFeed 0 = .ok (.aload_n 0, 1) := by decide +kernel
theorem dX12_guestFeed_1 : decode cX12_guestFeed 1 = .ok (.aload_n 0, 1) := by decide +kernel
theorem dX12_guestFeed_2 : decode cX12_guestFeed 2 = .ok (.iload_n 1, 1) := by decide +kernel
theorem dX12_guestFeed_3 : decode cX12_guestFeed 3 = .ok (.invokevirtual 239, 3) := by decide +kernel
theorem dX12_guestFeed_6 : decode cX12_guestFeed 6 = .ok (.iconst 4, 1) := by decide +kernel
theorem dX12_guestFeed_7 : decode cX12_guestFeed 7 = .ok (.iconst 0, 1) := by decide +kernel
theorem dX12_guestFeed_8 : decode cX12_guestFeed 8 = .ok (.invokevirtual 248, 3) := by decide +kernel
theorem dX12_guestFeed_11 : decode cX12_guestFeed 11 = .ok (.istore_n 2, 1) := by decide +kernel
theorem dX12_guestFeed_12 : decode cX12_guestFeed 12 = .ok (.iload_n 2, 1) := by decide +kernel
theorem dX12_guestFeed_13 : decode cX12_guestFeed 13 = .ok (.iconst (-1), 1) := by decide +kernel
theorem dX12_guestFeed_14 : decode cX12_guestFeed 14 = .ok (.if_icmp .ne 7, 3) := by decide +kernel
theorem dX12_guestFeed_17 : decode cX12_guestFeed 17 = .ok (.iconst 3, 1) := by decide +kernel
theorem dX12_guestFeed_18 : decode cX12_guestFeed 18 = .ok (.goto 4, 3) := by decide +kernel
theorem dX12_guestFeed_21 : decode cX12_guestFeed 21 = .ok (.iload_n 2, 1) := by decide +kernel
theorem dX12_guestFeed_22 : decode cX12_guestFeed 22 = .ok (.ireturn, 1) := by decide +kernel
set_option maxRecDepth 20000 in
theorem ggX12_fast_X12_isDay : GoodIn wsX12_fast wsX12_isDay := goodIn_r _ [4, 5, 6, 3, 7] (by decide +kernel) (by decide +kernel)
set_option maxRecDepth 20000 in
theorem gX12_fast_X12_isDay : GoodIn wsX12_fast (va_wsS RX12 147 yX12_isDay wsX12_isDay) := goodIn_app (goodIn_of _ (by decide +kernel)) ggX12_fast_X12_isDay
set_option maxRecDepth 20000 in
theorem ggX12_fast_X12_isIn : GoodIn wsX12_fast wsX12_isIn := goodIn_r _ [7] (by decide +kernel) (by decide +kernel)
set_option maxRecDepth 20000 in
theorem gX12_fast_X12_isIn : GoodIn wsX12_fast (va_wsS RX12 130 yX12_isIn wsX12_isIn) := goodIn_app (goodIn_of _ (by decide +kernel)) ggX12_fast_X12_isIn
set_option maxRecDepth 20000 in
theorem ggX12_fast_X12_isFast : GoodIn wsX12_fast wsX12_isFast := goodIn_r _ [11, 12, 13, 14, 15, 16, 17, 18, 3, 19, 20, 21, 22, 23, 24, 25, 26, 27, 28, 29, 30, 31, 5, 6, 7, 32, 33, 34, 35, 36, 37, 38, 51, 52, 53, 54, 55, 56, 57, 58, 59, 60, 61, 62, 63, 64, 65, 66, 67, 68, 69, 70, 71, 72, 73, 74, 75, 76, 77, 78, 79, 80, 81, 82, 83, 84, 85, 86, 87, 88, 89, 90, 91, 92, 93, 94, 95, 96, 97, 98, 99, 100, 101, 102, 103, 104] (by decide +kernel) (by decide +kernel)
set_option maxRecDepth 20000 in
theorem gX12_fast_X12_isFast : GoodIn wsX12_fast (wsV RX12 245 RX12 yX12_isFast wsX12_isFast) := goodIn_app (goodIn_of _ (by decide +kernel)) ggX12_fast_X12_isFast
set_option maxRecDepth 20000 in
theorem ggX12_fast_X12_headFeed : GoodIn wsX12_fast wsX12_headFeed := goodIn_r _ [42, 16, 17, 18, 3, 19, 20, 21, 8, 9, 10, 11, 12, 13, 14, 15, 22, 23, 24, 25, 26, 27, 28, 29, 30, 31, 5, 6, 7, 32, 33, 34, 35, 36, 37, 38, 43, 44, 45, 46, 51, 52, 53, 54, 55, 56, 57, 58, 59, 60, 61, 62, 63, 64, 65, 66, 67, 68, 69, 70, 71, 72, 73, 74, 75, 76, 77, 78, 79, 80, 81, 82, 83, 84, 85, 86, 87, 88, 89, 90, 91, 92, 93, 94, 95, 96, 97, 98, 99, 100, 101, 102, 103, 104] (by decide +kernel) (by decide +kernel)
set_option maxRecDepth 20000 in
theorem gX12_fast_X12_headFeed : GoodIn wsX12_fast (wsV RX12 252 RX12 yX12_headFeed wsX12_headFeed) := goodIn_app (goodIn_of _ (by decide +kernel)) ggX12_fast_X12_headFeed
set_option maxRecDepth 20000 in
theorem ggX12_fast_X12_guestFeed : GoodIn wsX12_fast wsX12_guestFeed := goodIn_r _ [50, 16, 17, 18, 3, 19, 20, 21, 43, 44, 45, 46, 12, 15, 13, 14, 51, 52, 53, 54, 55, 56, 57, 58, 59, 60, 61, 62, 63, 64, 65, 66, 67, 68, 69, 70, 71, 72, 73, 74, 75, 76, 77, 78, 79, 80, 81, 82, 83, 84, 85, 86, 87, 88, 89, 90, 91, 92, 93, 94, 95, 96, 97, 98, 99, 100, 101, 102, 103, 104] (by decide +kernel) (by decide +kernel)
set_option maxRecDepth 20000 in
theorem gX12_fast_X12_guestFeed : GoodIn wsX12_fast (wsV RX12 255 RX12 yX12_guestFeed wsX12_guestFeed) := goodIn_app (goodIn_of _ (by decide +kernel)) ggX12_fast_X12_guestFeed
set_option maxRecDepth 20000 in
theorem ggX12_fast_X12_inForce : GoodIn wsX12_fast wsX12_inForce := goodIn_r _ [19, 20, 21, 51, 52, 53, 54, 55, 56, 57, 58, 59, 60, 61, 62, 63, 64, 65, 66, 67, 68, 69, 70, 71, 72, 73, 74, 75, 76, 77, 78, 79, 80, 81, 82, 83, 84, 85, 86, 87, 88, 89, 90, 91, 92, 93, 94, 95, 96, 97, 98, 99, 100, 101, 102, 103, 104] (by decide +kernel) (by decide +kernel)
set_option maxRecDepth 20000 in
theorem gX12_fast_X12_inForce : GoodIn wsX12_fast (wsV RX12 239 RX12 yX12_inForce wsX12_inForce) := goodIn_app (goodIn_of _ (by decide +kernel)) ggX12_fast_X12_inForce
theorem dX12_fast_0 : decode cX12_fast 0 = .ok (.iload_n 1, 1) := by decide +kernel
theorem dX12_fast_1 : decode cX12_fast 1 = .ok (.invokestatic 147, 3) := by decide +kernel
theorem dX12_fast_4 : decode cX12_fast 4 = .ok (.ifCond .eq 12, 3) := by decide +kernel
theorem dX12_fast_7 : decode cX12_fast 7 = .ok (.iload_n 2, 1) := by decide +kernel
theorem dX12_fast_8 : decode cX12_fast 8 = .ok (.iconst 0, 1) := by decide +kernel
theorem dX12_fast_9 : decode cX12_fast 9 = .ok (.iconst 3, 1) := by decide +kernel
theorem dX12_fast_10 : decode cX12_fast 10 = .ok (.invokestatic 130, 3) := by decide +kernel
theorem dX12_fast_13 : decode cX12_fast 13 = .ok (.ifCond .ne 5, 3) := by decide +kernel
theorem dX12_fast_16 : decode cX12_fast 16 = .ok (.iconst (-1), 1) := by decide +kernel
theorem dX12_fast_17 : decode cX12_fast 17 = .ok (.ireturn, 1) := by decide +kernel
theorem dX12_fast_18 : decode cX12_fast 18 = .ok (.iload_n 2, 1) := by decide +kernel
theorem dX12_fast_19 : decode cX12_fast 19 = .ok (.ifCond .ne 19, 3) := by decide +kernel
theorem dX12_fast_22 : decode cX12_fast 22 = .ok (.aload_n 0, 1) := by decide +kernel
theorem dX12_fast_23 : decode cX12_fast 23 = .ok (.iload_n 1, 1) := by decide +kernel
theorem dX12_fast_24 : decode cX12_fast 24 = .ok (.invokevirtual 245, 3) := by decide +kernel
theorem dX12_fast_27 : decode cX12_fast 27 = .ok (.ifCond .eq 7, 3) := by decide +kernel
theorem dX12_fast_30 : decode cX12_fast 30 = .ok (.iconst 1, 1) := by decide +kernel
theorem dX12_fast_31 : decode cX12_fast 31 = .ok (.goto 38, 3) := by decide +kernel
theorem dX12_fast_34 : decode cX12_fast 34 = .ok (.iconst 0, 1) := by decide +kernel
theorem dX12_fast_35 : decode cX12_fast 35 = .ok (.goto 34, 3) := by decide +kernel
theorem dX12_fast_38 : decode cX12_fast 38 = .ok (.iload_n 2, 1) := by decide +kernel
theorem dX12_fast_39 : decode cX12_fast 39 = .ok (.iconst 1, 1) := by decide +kernel
theorem dX12_fast_40 : decode cX12_fast 40 = .ok (.if_icmp .ne 11, 3) := by decide +kernel
theorem dX12_fast_43 : decode cX12_fast 43 = .ok (.aload_n 0, 1) := by decide +kernel
theorem dX12_fast_44 : decode cX12_fast 44 = .ok (.iload_n 1, 1) := by decide +kernel
theorem dX12_fast_45 : decode cX12_fast 45 = .ok (.invokevirtual 252, 3) := by decide +kernel
theorem dX12_fast_48 : decode cX12_fast 48 = .ok (.goto 21, 3) := by decide +kernel
theorem dX12_fast_51 : decode cX12_fast 51 = .ok (.iload_n 2, 1) := by decide +kernel
theorem dX12_fast_52 : decode cX12_fast 52 = .ok (.iconst 2, 1) := by decide +kernel
theorem dX12_fast_53 : decode cX12_fast 53 = .ok (.if_icmp .ne 11, 3) := by decide +kernel
theorem dX12_fast_56 : decode cX12_fast 56 = .ok (.aload_n 0, 1) := by decide +kernel
theorem dX12_fast_57 : decode cX12_fast 57 = .ok (.iload_n 1, 1) := by decide +kernel
theorem dX12_fast_58 : decode cX12_fast 58 = .ok (.invokevirtual 255, 3) := by decide +kernel
theorem dX12_fast_61 : decode cX12_fast 61 = .ok (.goto 8, 3) := by decide +kernel
theorem dX12_fast_64 : decode cX12_fast 64 = .ok (.aload_n 0, 1) := by decide +kernel
theorem dX12_fast_65 : decode cX12_fast 65 = .ok (.iload_n 1, 1) := by decide +kernel
theorem dX12_fast_66 : decode cX12_fast 66 = .ok (.invokevirtual 239, 3) := by decide +kernel
theorem dX12_fast_69 : decode cX12_fast 69 = .ok (.ireturn, 1) := by decide +kernel
set_option maxRecDepth 20000 in
theorem ggX12_gift_X12_isIn : GoodIn wsX12_gift wsX12_isIn := goodIn_r _ [10] (by decide +kernel) (by decide +kernel)
set_option maxRecDepth 20000 in
theorem gX12_gift_X12_isIn : GoodIn wsX12_gift (va_wsS RX12 130 yX12_isIn wsX12_isIn) := goodIn_app (goodIn_of _ (by decide +kernel)) ggX12_gift_X12_isIn
theorem dX12_gift_0 : decode cX12_gift 0 = .ok (.iload_n 2, 1) := by decide +kernel
theorem dX12_gift_1 : decode cX12_gift 1 = .ok (.iconst 0, 1) := by decide +kernel
theorem dX12_gift_2 : decode cX12_gift 2 = .ok (.iload_n 1, 1) := by decide +kernel
theorem dX12_gift_3 : decode cX12_gift 3 = .ok (.ifCond .eq 8, 3) := by decide +kernel
theorem dX12_gift_6 : decode cX12_gift 6 = .ok (.bipush 6, 2) := by decide +kernel
theorem dX12_gift_8 : decode cX12_gift 8 = .ok (.goto 6, 3) := by decide +kernel
theorem dX12_gift_11 : decode cX12_gift 11 = .ok (.sipush 364, 3) := by decide +kernel
theorem dX12_gift_14 : decode cX12_gift 14 = .ok (.invokestatic 130, 3) := by decide +kernel
theorem dX12_gift_17 : decode cX12_gift 17 = .ok (.ifCond .eq 12, 3) := by decide +kernel
theorem dX12_gift_20 : decode cX12_gift 20 = .ok (.aload_n 0, 1) := by decide +kernel
theorem dX12_gift_21 : decode cX12_gift 21 = .ok (.getfield 137, 3) := by decide +kernel
theorem dX12_gift_24 : decode cX12_gift 24 = .ok (.bipush 40, 2) := by decide +kernel
theorem dX12_gift_26 : decode cX12_gift 26 = .ok (.if_icmp .ne 5, 3) := by decide +kernel
theorem dX12_gift_29 : decode cX12_gift 29 = .ok (.iconst (-1), 1) := by decide +kernel
theorem dX12_gift_30 : decode cX12_gift 30 = .ok (.ireturn, 1) := by decide +kernel
theorem dX12_gift_31 : decode cX12_gift 31 = .ok (.aload_n 0, 1) := by decide +kernel
theorem dX12_gift_32 : decode cX12_gift 32 = .ok (.getfield 38, 3) := by decide +kernel
theorem dX12_gift_35 : decode cX12_gift 35 = .ok (.aload_n 0, 1) := by decide +kernel
theorem dX12_gift_36 : decode cX12_gift 36 = .ok (.getfield 137, 3) := by decide +kernel
theorem dX12_gift_39 : decode cX12_gift 39 = .ok (.iload_n 1, 1) := by decide +kernel
theorem dX12_gift_40 : decode cX12_gift 40 = .ok (.bastore, 1) := by decide +kernel
theorem dX12_gift_41 : decode cX12_gift 41 = .ok (.aload_n 0, 1) := by decide +kernel
theorem dX12_gift_42 : decode cX12_gift 42 = .ok (.getfield 44, 3) := by decide +kernel
theorem dX12_gift_45 : decode cX12_gift 45 = .ok (.aload_n 0, 1) := by decide +kernel
theorem dX12_gift_46 : decode cX12_gift 46 = .ok (.getfield 137, 3) := by decide +kernel
theorem dX12_gift_49 : decode cX12_gift 49 = .ok (.iload_n 2, 1) := by decide +kernel
theorem dX12_gift_50 : decode cX12_gift 50 = .ok (.iastore, 1) := by decide +kernel
theorem dX12_gift_51 : decode cX12_gift 51 = .ok (.aload_n 0, 1) := by decide +kernel
theorem dX12_gift_52 : decode cX12_gift 52 = .ok (.getfield 41, 3) := by decide +kernel
theorem dX12_gift_55 : decode cX12_gift 55 = .ok (.aload_n 0, 1) := by decide +kernel
theorem dX12_gift_56 : decode cX12_gift 56 = .ok (.getfield 137, 3) := by decide +kernel
theorem dX12_gift_59 : decode cX12_gift 59 = .ok (.iload_n 3, 1) := by decide +kernel
theorem dX12_gift_60 : decode cX12_gift 60 = .ok (.bastore, 1) := by decide +kernel
theorem dX12_gift_61 : decode cX12_gift 61 = .ok (.aload_n 0, 1) := by decide +kernel
theorem dX12_gift_62 : decode cX12_gift 62 = .ok (.getfield 47, 3) := by decide +kernel
theorem dX12_gift_65 : decode cX12_gift 65 = .ok (.aload_n 0, 1) := by decide +kernel
theorem dX12_gift_66 : decode cX12_gift 66 = .ok (.getfield 137, 3) := by decide +kernel
theorem dX12_gift_69 : decode cX12_gift 69 = .ok (.aload_n 0, 1) := by decide +kernel
theorem dX12_gift_70 : decode cX12_gift 70 = .ok (.getfield 140, 3) := by decide +kernel
theorem dX12_gift_73 : decode cX12_gift 73 = .ok (.iastore, 1) := by decide +kernel
theorem dX12_gift_74 : decode cX12_gift 74 = .ok (.aload_n 0, 1) := by decide +kernel
theorem dX12_gift_75 : decode cX12_gift 75 = .ok (.dup, 1) := by decide +kernel
theorem dX12_gift_76 : decode cX12_gift 76 = .ok (.getfield 137, 3) := by decide +kernel
theorem dX12_gift_79 : decode cX12_gift 79 = .ok (.iconst 1, 1) := by decide +kernel
theorem dX12_gift_80 : decode cX12_gift 80 = .ok (.iadd, 1) := by decide +kernel
theorem dX12_gift_81 : decode cX12_gift 81 = .ok (.putfield 137, 3) := by decide +kernel
theorem dX12_gift_84 : decode cX12_gift 84 = .ok (.aload_n 0, 1) := by decide +kernel
theorem dX12_gift_85 : decode cX12_gift 85 = .ok (.getfield 137, 3) := by decide +kernel
theorem dX12_gift_88 : decode cX12_gift 88 = .ok (.iconst 1, 1) := by decide +kernel
theorem dX12_gift_89 : decode cX12_gift 89 = .ok (.isub, 1) := by decide +kernel
theorem dX12_gift_90 : decode cX12_gift 90 = .ok (.ireturn, 1) := by decide +kernel
set_option maxRecDepth 20000 in
theorem ggX12_leave_X12_isGift : GoodIn wsX12_leave wsX12_isGift := goodIn_r _ [9, 10, 11, 12, 8, 13, 17, 18, 19, 20, 21, 22, 23, 24, 25, 26, 27, 28, 29, 30, 31, 32, 33, 34, 35, 36, 37, 38, 39, 40, 41, 42, 43, 44, 45, 46, 47, 48, 49, 50, 51, 52, 53, 54, 55, 56, 57, 58, 59, 60, 61, 62, 63, 64, 65, 66, 67, 68, 69, 70] (by decide +kernel) (by decide +kernel)
set_option maxRecDepth 20000 in
theorem gX12_leave_X12_isGift : GoodIn wsX12_leave (wsV RX12 258 RX12 yX12_isGift wsX12_isGift) := goodIn_app (goodIn_of _ (by decide +kernel)) ggX12_leave_X12_isGift
set_option maxRecDepth 20000 in
theorem ggX12_leave_X12_isDay : GoodIn wsX12_leave wsX12_isDay := goodIn_r _ [16, 11, 12, 8, 13] (by decide +kernel) (by decide +kernel)
set_option maxRecDepth 20000 in
theorem gX12_leave_X12_isDay : GoodIn wsX12_leave (va_wsS RX12 147 yX12_isDay wsX12_isDay) := goodIn_app (goodIn_of _ (by decide +kernel)) ggX12_leave_X12_isDay
theorem dX12_leave_0 : decode cX12_leave 0 = .ok (.aload_n 0, 1) := by decide +kernel
theorem dX12_leave_1 : decode cX12_leave 1 = .ok (.iload_n 1, 1) := by decide +kernel
theorem dX12_leave_2 : decode cX12_leave 2 = .ok (.invokevirtual 258, 3) := by decide +kernel
theorem dX12_leave_5 : decode cX12_leave 5 = .ok (.ifCond .eq 28, 3) := by decide +kernel
theorem dX12_leave_8 : decode cX12_leave 8 = .ok (.iload_n 2, 1) := by decide +kernel
theorem dX12_leave_9 : decode cX12_leave 9 = .ok (.ifCond .lt 24, 3) := by decide +kernel
theorem dX12_leave_12 : decode cX12_leave 12 = .ok (.iload_n 2, 1) := by decide +kernel
theorem dX12_leave_13 : decode cX12_leave 13 = .ok (.iload_n 3, 1) := by decide +kernel
theorem dX12_leave_14 : decode cX12_leave 14 = .ok (.if_icmp .gt 19, 3) := by decide +kernel
theorem dX12_leave_17 : decode cX12_leave 17 = .ok (.iload_n 3, 1) := by decide +kernel
theorem dX12_leave_18 : decode cX12_leave 18 = .ok (.invokestatic 147, 3) := by decide +kernel
theorem dX12_leave_21 : decode cX12_leave 21 = .ok (.ifCond .eq 12, 3) := by decide +kernel
theorem dX12_leave_24 : decode cX12_leave 24 = .ok (.aload_n 0, 1) := by decide +kernel
theorem dX12_leave_25 : decode cX12_leave 25 = .ok (.getfield 261, 3) := by decide +kernel
theorem dX12_leave_28 : decode cX12_leave 28 = .ok (.bipush 40, 2) := by decide +kernel
theorem dX12_leave_30 : decode cX12_leave 30 = .ok (.if_icmp .ne 5, 3) := by decide +kernel
theorem dX12_leave_33 : decode cX12_leave 33 = .ok (.iconst (-1), 1) := by decide +kernel
theorem dX12_leave_34 : decode cX12_leave 34 = .ok (.ireturn, 1) := by decide +kernel
theorem dX12_leave_35 : decode cX12_leave 35 = .ok (.aload_n 0, 1) := by decide +kernel
theorem dX12_leave_36 : decode cX12_leave 36 = .ok (.getfield 59, 3) := by decide +kernel
theorem dX12_leave_39 : decode cX12_leave 39 = .ok (.aload_n 0, 1) := by decide +kernel
theorem dX12_leave_40 : decode cX12_leave 40 = .ok (.getfield 261, 3) := by decide +kernel
theorem dX12_leave_43 : decode cX12_leave 43 = .ok (.iload_n 1, 1) := by decide +kernel
theorem dX12_leave_44 : decode cX12_leave 44 = .ok (.iastore, 1) := by decide +kernel
theorem dX12_leave_45 : decode cX12_leave 45 = .ok (.aload_n 0, 1) := by decide +kernel
theorem dX12_leave_46 : decode cX12_leave 46 = .ok (.getfield 62, 3) := by decide +kernel
theorem dX12_leave_49 : decode cX12_leave 49 = .ok (.aload_n 0, 1) := by decide +kernel
theorem dX12_leave_50 : decode cX12_leave 50 = .ok (.getfield 261, 3) := by decide +kernel
theorem dX12_leave_53 : decode cX12_leave 53 = .ok (.iload_n 2, 1) := by decide +kernel
theorem dX12_leave_54 : decode cX12_leave 54 = .ok (.iastore, 1) := by decide +kernel
theorem dX12_leave_55 : decode cX12_leave 55 = .ok (.aload_n 0, 1) := by decide +kernel
theorem dX12_leave_56 : decode cX12_leave 56 = .ok (.getfield 65, 3) := by decide +kernel
theorem dX12_leave_59 : decode cX12_leave 59 = .ok (.aload_n 0, 1) := by decide +kernel
theorem dX12_leave_60 : decode cX12_leave 60 = .ok (.getfield 261, 3) := by decide +kernel
theorem dX12_leave_63 : decode cX12_leave 63 = .ok (.iload_n 3, 1) := by decide +kernel
theorem dX12_leave_64 : decode cX12_leave 64 = .ok (.iastore, 1) := by decide +kernel
theorem dX12_leave_65 : decode cX12_leave 65 = .ok (.aload_n 0, 1) := by decide +kernel
theorem dX12_leave_66 : decode cX12_leave 66 = .ok (.dup, 1) := by decide +kernel
theorem dX12_leave_67 : decode cX12_leave 67 = .ok (.getfield 261, 3) := by decide +kernel
theorem dX12_leave_70 : decode cX12_leave 70 = .ok (.iconst 1, 1) := by decide +kernel
theorem dX12_leave_71 : decode cX12_leave 71 = .ok (.iadd, 1) := by decide +kernel
theorem dX12_leave_72 : decode cX12_leave 72 = .ok (.putfield 261, 3) := by decide +kernel
theorem dX12_leave_75 : decode cX12_leave 75 = .ok (.aload_n 0, 1) := by decide +kernel
theorem dX12_leave_76 : decode cX12_leave 76 = .ok (.getfield 261, 3) := by decide +kernel
theorem dX12_leave_79 : decode cX12_leave 79 = .ok (.ireturn, 1) := by decide +kernel
set_option maxRecDepth 20000 in
theorem ggX12_giftOf_X12_isGift : GoodIn wsX12_giftOf wsX12_isGift := goodIn_r _ [8, 9, 10, 11, 7, 12, 13, 14, 15, 16, 17, 18, 19, 20, 21, 22, 23, 24, 25, 26, 27, 28, 29, 30, 31, 32, 33, 34, 35, 36, 37, 38, 39, 40, 41, 42, 43, 44, 45, 46, 47, 48, 49, 50, 51, 52, 53, 54, 55, 56, 57, 58, 59, 60, 61, 62, 63, 64, 65, 66] (by decide +kernel) (by decide +kernel)
set_option maxRecDepth 20000 in
theorem gX12_giftOf_X12_isGift : GoodIn wsX12_giftOf (wsV RX12 258 RX12 yX12_isGift wsX12_isGift) := goodIn_app (goodIn_of _ (by decide +kernel)) ggX12_giftOf_X12_isGift
theorem dX12_giftOf_0 : decode cX12_giftOf 0 = .ok (.aload_n 0, 1) := by decide +kernel
theorem dX12_giftOf_1 : decode cX12_giftOf 1 = .ok (.iload_n 1, 1) := by decide +kernel
theorem dX12_giftOf_2 : decode cX12_giftOf 2 = .ok (.invokevirtual 258, 3) := by decide +kernel
theorem dX12_giftOf_5 : decode cX12_giftOf 5 = .ok (.ifCond .ne 7, 3) := by decide +kernel
theorem dX12_giftOf_8 : decode cX12_giftOf 8 = .ok (.iconst (-1), 1) := by decide +kernel
theorem dX12_giftOf_9 : decode cX12_giftOf 9 = .ok (.goto 45, 3) := by decide +kernel
theorem dX12_giftOf_12 : decode cX12_giftOf 12 = .ok (.iload_n 2, 1) := by decide +kernel
theorem dX12_giftOf_13 : decode cX12_giftOf 13 = .ok (.ifCond .ne 12, 3) := by decide +kernel
theorem dX12_giftOf_16 : decode cX12_giftOf 16 = .ok (.aload_n 0, 1) := by decide +kernel
theorem dX12_giftOf_17 : decode cX12_giftOf 17 = .ok (.getfield 50, 3) := by decide +kernel
theorem dX12_giftOf_20 : decode cX12_giftOf 20 = .ok (.iload_n 1, 1) := by decide +kernel
theorem dX12_giftOf_21 : decode cX12_giftOf 21 = .ok (.iaload, 1) := by decide +kernel
theorem dX12_giftOf_22 : decode cX12_giftOf 22 = .ok (.goto 32, 3) := by decide +kernel
theorem dX12_giftOf_25 : decode cX12_giftOf 25 = .ok (.iload_n 2, 1) := by decide +kernel
theorem dX12_giftOf_26 : decode cX12_giftOf 26 = .ok (.iconst 1, 1) := by decide +kernel
theorem dX12_giftOf_27 : decode cX12_giftOf 27 = .ok (.if_icmp .ne 12, 3) := by decide +kernel
theorem dX12_giftOf_30 : decode cX12_giftOf 30 = .ok (.aload_n 0, 1) := by decide +kernel
theorem dX12_giftOf_31 : decode cX12_giftOf 31 = .ok (.getfield 53, 3) := by decide +kernel
theorem dX12_giftOf_34 : decode cX12_giftOf 34 = .ok (.iload_n 1, 1) := by decide +kernel
theorem dX12_giftOf_35 : decode cX12_giftOf 35 = .ok (.iaload, 1) := by decide +kernel
theorem dX12_giftOf_36 : decode cX12_giftOf 36 = .ok (.goto 18, 3) := by decide +kernel
theorem dX12_giftOf_39 : decode cX12_giftOf 39 = .ok (.iload_n 2, 1) := by decide +kernel
theorem dX12_giftOf_40 : decode cX12_giftOf 40 = .ok (.iconst 2, 1) := by decide +kernel
theorem dX12_giftOf_41 : decode cX12_giftOf 41 = .ok (.if_icmp .ne 12, 3) := by decide +kernel
theorem dX12_giftOf_44 : decode cX12_giftOf 44 = .ok (.aload_n 0, 1) := by decide +kernel
theorem dX12_giftOf_45 : decode cX12_giftOf 45 = .ok (.getfield 56, 3) := by decide +kernel
theorem dX12_giftOf_48 : decode cX12_giftOf 48 = .ok (.iload_n 1, 1) := by decide +kernel
theorem dX12_giftOf_49 : decode cX12_giftOf 49 = .ok (.iaload, 1) := by decide +kernel
theorem dX12_giftOf_50 : decode cX12_giftOf 50 = .ok (.goto 4, 3) := by decide +kernel
theorem dX12_giftOf_53 : decode cX12_giftOf 53 = .ok (.iconst (-1), 1) := by decide +kernel
theorem dX12_giftOf_54 : decode cX12_giftOf 54 = .ok (.ireturn, 1) := by decide +kernel
set_option maxRecDepth 20000 in
theorem ggX12_store_X12_isIn : GoodIn wsX12_store wsX12_isIn := goodIn_r _ [6] (by decide +kernel) (by decide +kernel)
set_option maxRecDepth 20000 in
theorem gX12_store_X12_isIn : GoodIn wsX12_store (va_wsS RX12 130 yX12_isIn wsX12_isIn) := goodIn_app (goodIn_of _ (by decide +kernel)) ggX12_store_X12_isIn
theorem dX12_store_0 : decode cX12_store 0 = .ok (.iload_n 1, 1) := by decide +kernel
theorem dX12_store_1 : decode cX12_store 1 = .ok (.iconst 0, 1) := by decide +kernel
theorem dX12_store_2 : decode cX12_store 2 = .ok (.sipush 10000, 3) := by decide +kernel
theorem dX12_store_5 : decode cX12_store 5 = .ok (.invokestatic 130, 3) := by decide +kernel
theorem dX12_store_8 : decode cX12_store 8 = .ok (.ifCond .eq 15, 3) := by decide +kernel
theorem dX12_store_11 : decode cX12_store 11 = .ok (.aload_n 0, 1) := by decide +kernel
theorem dX12_store_12 : decode cX12_store 12 = .ok (.getfield 264, 3) := by decide +kernel
theorem dX12_store_15 : decode cX12_store 15 = .ok (.iload_n 1, 1) := by decide +kernel
theorem dX12_store_16 : decode cX12_store 16 = .ok (.iadd, 1) := by decide +kernel
theorem dX12_store_17 : decode cX12_store 17 = .ok (.ldc_w 267, 3) := by decide +kernel
theorem dX12_store_20 : decode cX12_store 20 = .ok (.if_icmp .le 5, 3) := by decide +kernel
theorem dX12_store_23 : decode cX12_store 23 = .ok (.iconst (-1), 1) := by decide +kernel
theorem dX12_store_24 : decode cX12_store 24 = .ok (.ireturn, 1) := by decide +kernel
theorem dX12_store_25 : decode cX12_store 25 = .ok (.aload_n 0, 1) := by decide +kernel
theorem dX12_store_26 : decode cX12_store 26 = .ok (.dup, 1) := by decide +kernel
theorem dX12_store_27 : decode cX12_store 27 = .ok (.getfield 264, 3) := by decide +kernel
theorem dX12_store_30 : decode cX12_store 30 = .ok (.iload_n 1, 1) := by decide +kernel
theorem dX12_store_31 : decode cX12_store 31 = .ok (.iadd, 1) := by decide +kernel
theorem dX12_store_32 : decode cX12_store 32 = .ok (.putfield 264, 3) := by decide +kernel
theorem dX12_store_35 : decode cX12_store 35 = .ok (.aload_n 0, 1) := by decide +kernel
theorem dX12_store_36 : decode cX12_store 36 = .ok (.getfield 264, 3) := by decide +kernel
theorem dX12_store_39 : decode cX12_store 39 = .ok (.ireturn, 1) := by decide +kernel
theorem dX12_allGuests_0 : decode cX12_allGuests 0 = .ok (.iconst 0, 1) := by decide +kernel
theorem dX12_allGuests_1 : decode cX12_allGuests 1 = .ok (.istore_n 1, 1) := by decide +kernel
theorem dX12_allGuests_2 : decode cX12_allGuests 2 = .ok (.iconst 0, 1) := by decide +kernel
theorem dX12_allGuests_3 : decode cX12_allGuests 3 = .ok (.istore_n 2, 1) := by decide +kernel
theorem dX12_allGuests_4 : decode cX12_allGuests 4 = .ok (.iload_n 2, 1) := by decide +kernel
theorem dX12_allGuests_5 : decode cX12_allGuests 5 = .ok (.bipush 6, 2) := by decide +kernel
theorem dX12_allGuests_7 : decode cX12_allGuests 7 = .ok (.if_icmp .ge 18, 3) := by decide +kernel
theorem dX12_allGuests_10 : decode cX12_allGuests 10 = .ok (.iload_n 1, 1) := by decide +kernel
theorem dX12_allGuests_11 : decode cX12_allGuests 11 = .ok (.aload_n 0, 1) := by decide +kernel
theorem dX12_allGuests_12 : decode cX12_allGuests 12 = .ok (.getfield 77, 3) := by decide +kernel
theorem dX12_allGuests_15 : decode cX12_allGuests 15 = .ok (.iload_n 2, 1) := by decide +kernel
theorem dX12_allGuests_16 : decode cX12_allGuests 16 = .ok (.iaload, 1) := by decide +kernel
theorem dX12_allGuests_17 : decode cX12_allGuests 17 = .ok (.iadd, 1) := by decide +kernel
theorem dX12_allGuests_18 : decode cX12_allGuests 18 = .ok (.istore_n 1, 1) := by decide +kernel
theorem dX12_allGuests_19 : decode cX12_allGuests 19 = .ok (.iinc 2 1, 3) := by decide +kernel
theorem dX12_allGuests_22 : decode cX12_allGuests 22 = .ok (.goto (-18), 3) := by decide +kernel
theorem dX12_allGuests_25 : decode cX12_allGuests 25 = .ok (.iload_n 1, 1) := by decide +kernel
theorem dX12_allGuests_26 : decode cX12_allGuests 26 = .ok (.ireturn, 1) := by decide +kernel
set_option maxRecDepth 20000 in
theorem ggX12_guests_X12_isIn : GoodIn wsX12_guests wsX12_isIn := goodIn_r _ [5] (by decide +kernel) (by decide +kernel)
set_option maxRecDepth 20000 in
theorem gX12_guests_X12_isIn : GoodIn wsX12_guests (va_wsS RX12 130 yX12_isIn wsX12_isIn) := goodIn_app (goodIn_of _ (by decide +kernel)) ggX12_guests_X12_isIn
set_option maxRecDepth 20000 in
theorem ggX12_guests_X12_allGuests : GoodIn wsX12_guests wsX12_allGuests := goodIn_r _ [9, 1, 10, 11, 12, 13, 14, 15, 16, 17, 18, 19, 20, 21, 22, 23, 24, 25, 26, 27, 28, 29, 30, 31, 32, 33, 34, 35, 36, 37, 38, 39, 40, 41, 42, 43, 44, 45, 46, 47, 48, 49, 50, 51, 52, 53, 54, 55, 56, 57, 58, 59, 60, 61, 62, 63] (by decide +kernel) (by decide +kernel)
set_option maxRecDepth 20000 in
theorem gX12_guests_X12_allGuests : GoodIn wsX12_guests (wsV RX12 268 RX12 yX12_allGuests wsX12_allGuests) := goodIn_app (goodIn_of _ (by decide +kernel)) ggX12_guests_X12_allGuests
theorem dX12_guests_0 : decode cX12_guests 0 = .ok (.iload_n 1, 1) := by decide +kernel
theorem dX12_guests_1 : decode cX12_guests 1 = .ok (.iconst 1, 1) := by decide +kernel
theorem dX12_guests_2 : decode cX12_guests 2 = .ok (.bipush 50, 2) := by decide +kernel
theorem dX12_guests_4 : decode cX12_guests 4 = .ok (.invokestatic 130, 3) := by decide +kernel
theorem dX12_guests_7 : decode cX12_guests 7 = .ok (.ifCond .eq 24, 3) := by decide +kernel
theorem dX12_guests_10 : decode cX12_guests 10 = .ok (.iload_n 2, 1) := by decide +kernel
theorem dX12_guests_11 : decode cX12_guests 11 = .ok (.iconst 0, 1) := by decide +kernel
theorem dX12_guests_12 : decode cX12_guests 12 = .ok (.iconst 5, 1) := by decide +kernel
theorem dX12_guests_13 : decode cX12_guests 13 = .ok (.invokestatic 130, 3) := by decide +kernel
theorem dX12_guests_16 : decode cX12_guests 16 = .ok (.ifCond .eq 15, 3) := by decide +kernel
theorem dX12_guests_19 : decode cX12_guests 19 = .ok (.aload_n 0, 1) := by decide +kernel
theorem dX12_guests_20 : decode cX12_guests 20 = .ok (.invokevirtual 268, 3) := by decide +kernel
theorem dX12_guests_23 : decode cX12_guests 23 = .ok (.iload_n 1, 1) := by decide +kernel
theorem dX12_guests_24 : decode cX12_guests 24 = .ok (.iadd, 1) := by decide +kernel
theorem dX12_guests_25 : decode cX12_guests 25 = .ok (.sipush 200, 3) := by decide +kernel
theorem dX12_guests_28 : decode cX12_guests 28 = .ok (.if_icmp .le 5, 3) := by decide +kernel
theorem dX12_guests_31 : decode cX12_guests 31 = .ok (.iconst (-1), 1) := by decide +kernel
theorem dX12_guests_32 : decode cX12_guests 32 = .ok (.ireturn, 1) := by decide +kernel
theorem dX12_guests_33 : decode cX12_guests 33 = .ok (.aload_n 0, 1) := by decide +kernel
theorem dX12_guests_34 : decode cX12_guests 34 = .ok (.getfield 77, 3) := by decide +kernel
theorem dX12_guests_37 : decode cX12_guests 37 = .ok (.iload_n 2, 1) := by decide +kernel
theorem dX12_guests_38 : decode cX12_guests 38 = .ok (.dup2, 1) := by decide +kernel
theorem dX12_guests_39 : decode cX12_guests 39 = .ok (.iaload, 1) := by decide +kernel
theorem dX12_guests_40 : decode cX12_guests 40 = .ok (.iload_n 1, 1) := by decide +kernel
theorem dX12_guests_41 : decode cX12_guests 41 = .ok (.iadd, 1) := by decide +kernel
theorem dX12_guests_42 : decode cX12_guests 42 = .ok (.iastore, 1) := by decide +kernel
theorem dX12_guests_43 : decode cX12_guests 43 = .ok (.aload_n 0, 1) := by decide +kernel
theorem dX12_guests_44 : decode cX12_guests 44 = .ok (.invokevirtual 268, 3) := by decide +kernel
theorem dX12_guests_47 : decode cX12_guests 47 = .ok (.ireturn, 1) := by decide +kernel
theorem dX12_hasDuty_0 : decode cX12_hasDuty 0 = .ok (.iconst 0, 1) := by decide +kernel
theorem dX12_hasDuty_1 : decode cX12_hasDuty 1 = .ok (.istore_n 3, 1) := by decide +kernel
theorem dX12_hasDuty_2 : decode cX12_hasDuty 2 = .ok (.iconst 0, 1) := by decide +kernel
theorem dX12_hasDuty_3 : decode cX12_hasDuty 3 = .ok (.istore 4, 2) := by decide +kernel
theorem dX12_hasDuty_5 : decode cX12_hasDuty 5 = .ok (.iload 4, 2) := by decide +kernel
theorem dX12_hasDuty_7 : decode cX12_hasDuty 7 = .ok (.iconst 4, 1) := by decide +kernel
theorem dX12_hasDuty_8 : decode cX12_hasDuty 8 = .ok (.if_icmp .ge 34, 3) := by decide +kernel
theorem dX12_hasDuty_11 : decode cX12_hasDuty 11 = .ok (.iload_n 3, 1) := by decide +kernel
theorem dX12_hasDuty_12 : decode cX12_hasDuty 12 = .ok (.ifCond .ne 18, 3) := by decide +kernel
theorem dX12_hasDuty_15 : decode cX12_hasDuty 15 = .ok (.aload_n 0, 1) := by decide +kernel
theorem dX12_hasDuty_16 : decode cX12_hasDuty 16 = .ok (.getfield 80, 3) := by decide +kernel
theorem dX12_hasDuty_19 : decode cX12_hasDuty 19 = .ok (.iconst 4, 1) := by decide +kernel
theorem dX12_hasDuty_20 : decode cX12_hasDuty 20 = .ok (.iload_n 2, 1) := by decide +kernel
theorem dX12_hasDuty_21 : decode cX12_hasDuty 21 = .ok (.imul, 1) := by decide +kernel
theorem dX12_hasDuty_22 : decode cX12_hasDuty 22 = .ok (.iload 4, 2) := by decide +kernel
theorem dX12_hasDuty_24 : decode cX12_hasDuty 24 = .ok (.iadd, 1) := by decide +kernel
theorem dX12_hasDuty_25 : decode cX12_hasDuty 25 = .ok (.iaload, 1) := by decide +kernel
theorem dX12_hasDuty_26 : decode cX12_hasDuty 26 = .ok (.iload_n 1, 1) := by decide +kernel
theorem dX12_hasDuty_27 : decode cX12_hasDuty 27 = .ok (.if_icmp .ne 7, 3) := by decide +kernel
theorem dX12_hasDuty_30 : decode cX12_hasDuty 30 = .ok (.iconst 1, 1) := by decide +kernel
theorem dX12_hasDuty_31 : decode cX12_hasDuty 31 = .ok (.goto 4, 3) := by decide +kernel
theorem dX12_hasDuty_34 : decode cX12_hasDuty 34 = .ok (.iconst 0, 1) := by decide +kernel
theorem dX12_hasDuty_35 : decode cX12_hasDuty 35 = .ok (.istore_n 3, 1) := by decide +kernel
theorem dX12_hasDuty_36 : decode cX12_hasDuty 36 = .ok (.iinc 4 1, 3) := by decide +kernel
theorem dX12_hasDuty_39 : decode cX12_hasDuty 39 = .ok (.goto (-34), 3) := by decide +kernel
theorem dX12_hasDuty_42 : decode cX12_hasDuty 42 = .ok (.iload_n 3, 1) := by decide +kernel
theorem dX12_hasDuty_43 : decode cX12_hasDuty 43 = .ok (.ireturn, 1) := by decide +kernel
set_option maxRecDepth 20000 in
theorem ggX12_nextFor_X12_isAble : GoodIn wsX12_nextFor wsX12_isAble := goodIn_r _ [8, 9, 10, 11, 12, 13, 14, 15, 7, 16, 22, 23, 24, 25, 26, 27, 28, 29, 30, 31, 32, 33, 34, 35, 36, 37, 38, 39, 40, 41, 42, 43, 44, 45, 46, 47, 48, 49, 50, 51, 52, 53, 54, 55, 56, 57, 58, 59, 60, 61, 62, 63, 64, 65, 66, 67, 68, 69, 70, 71, 72, 73, 74, 75] (by decide +kernel) (by decide +kernel)
set_option maxRecDepth 20000 in
theorem gX12_nextFor_X12_isAble : GoodIn wsX12_nextFor (wsV RX12 272 RX12 yX12_isAble wsX12_isAble) := goodIn_app (goodIn_of _ (by decide +kernel)) ggX12_nextFor_X12_isAble
set_option maxRecDepth 20000 in
theorem ggX12_nextFor_X12_hasDuty : GoodIn wsX12_nextFor wsX12_hasDuty := goodIn_r _ [20, 21, 22, 23, 24, 25, 26, 27, 28, 29, 30, 31, 32, 33, 34, 35, 36, 37, 38, 39, 40, 41, 42, 43, 44, 45, 46, 47, 48, 49, 50, 51, 52, 53, 54, 55, 56, 57, 58, 59, 60, 61, 62, 63, 64, 65, 66, 67, 68, 69, 70, 71, 72, 73, 74, 75] (by decide +kernel) (by decide +kernel)
set_option maxRecDepth 20000 in
theorem gX12_nextFor_X12_hasDuty : GoodIn wsX12_nextFor (wsV RX12 276 RX12 yX12_hasDuty wsX12_hasDuty) := goodIn_app (goodIn_of _ (by decide +kernel)) ggX12_nextFor_X12_hasDuty
theorem dX12_nextFor_0 : decode cX12_nextFor 0 = .ok (.iconst (-1), 1) := by decide +kernel
theorem dX12_nextFor_1 : decode cX12_nextFor 1 = .ok (.istore 4, 2) := by decide +kernel
theorem dX12_nextFor_3 : decode cX12_nextFor 3 = .ok (.iconst 0, 1) := by decide +kernel
theorem dX12_nextFor_4 : decode cX12_nextFor 4 = .ok (.istore 5, 2) := by decide +kernel
theorem dX12_nextFor_6 : decode cX12_nextFor 6 = .ok (.iload 5, 2) := by decide +kernel
theorem dX12_nextFor_8 : decode cX12_nextFor 8 = .ok (.aload_n 0, 1) := by decide +kernel
theorem dX12_nextFor_9 : decode cX12_nextFor 9 = .ok (.getfield 134, 3) := by decide +kernel
theorem dX12_nextFor_12 : decode cX12_nextFor 12 = .ok (.if_icmp .ge 88, 3) := by decide +kernel
theorem dX12_nextFor_15 : decode cX12_nextFor 15 = .ok (.iload 5, 2) := by decide +kernel
theorem dX12_nextFor_17 : decode cX12_nextFor 17 = .ok (.iload_n 3, 1) := by decide +kernel
theorem dX12_nextFor_18 : decode cX12_nextFor 18 = .ok (.if_icmp .eq 76, 3) := by decide +kernel
theorem dX12_nextFor_21 : decode cX12_nextFor 21 = .ok (.aload_n 0, 1) := by decide +kernel
theorem dX12_nextFor_22 : decode cX12_nextFor 22 = .ok (.getfield 13, 3) := by decide +kernel
theorem dX12_nextFor_25 : decode cX12_nextFor 25 = .ok (.iload 5, 2) := by decide +kernel
theorem dX12_nextFor_27 : decode cX12_nextFor 27 = .ok (.iaload, 1) := by decide +kernel
theorem dX12_nextFor_28 : decode cX12_nextFor 28 = .ok (.iload_n 1, 1) := by decide +kernel
theorem dX12_nextFor_29 : decode cX12_nextFor 29 = .ok (.ishr, 1) := by decide +kernel
theorem dX12_nextFor_30 : decode cX12_nextFor 30 = .ok (.iconst 1, 1) := by decide +kernel
theorem dX12_nextFor_31 : decode cX12_nextFor 31 = .ok (.iand, 1) := by decide +kernel
theorem dX12_nextFor_32 : decode cX12_nextFor 32 = .ok (.iconst 1, 1) := by decide +kernel
theorem dX12_nextFor_33 : decode cX12_nextFor 33 = .ok (.if_icmp .eq 61, 3) := by decide +kernel
theorem dX12_nextFor_36 : decode cX12_nextFor 36 = .ok (.aload_n 0, 1) := by decide +kernel
theorem dX12_nextFor_37 : decode cX12_nextFor 37 = .ok (.iload 5, 2) := by decide +kernel
theorem dX12_nextFor_39 : decode cX12_nextFor 39 = .ok (.iload_n 2, 1) := by decide +kernel
theorem dX12_nextFor_40 : decode cX12_nextFor 40 = .ok (.invokevirtual 272, 3) := by decide +kernel
theorem dX12_nextFor_43 : decode cX12_nextFor 43 = .ok (.ifCond .eq 51, 3) := by decide +kernel
theorem dX12_nextFor_46 : decode cX12_nextFor 46 = .ok (.aload_n 0, 1) := by decide +kernel
theorem dX12_nextFor_47 : decode cX12_nextFor 47 = .ok (.iload 5, 2) := by decide +kernel
theorem dX12_nextFor_49 : decode cX12_nextFor 49 = .ok (.iload_n 2, 1) := by decide +kernel
theorem dX12_nextFor_50 : decode cX12_nextFor 50 = .ok (.invokevirtual 276, 3) := by decide +kernel
theorem dX12_nextFor_53 : decode cX12_nextFor 53 = .ok (.ifCond .eq 6, 3) := by decide +kernel
theorem dX12_nextFor_56 : decode cX12_nextFor 56 = .ok (.goto 38, 3) := by decide +kernel
theorem dX12_nextFor_59 : decode cX12_nextFor 59 = .ok (.iload 4, 2) := by decide +kernel
theorem dX12_nextFor_61 : decode cX12_nextFor 61 = .ok (.iconst (-1), 1) := by decide +kernel
theorem dX12_nextFor_62 : decode cX12_nextFor 62 = .ok (.if_icmp .eq 28, 3) := by decide +kernel
theorem dX12_nextFor_65 : decode cX12_nextFor 65 = .ok (.aload_n 0, 1) := by decide +kernel
theorem dX12_nextFor_66 : decode cX12_nextFor 66 = .ok (.getfield 20, 3) := by decide +kernel
theorem dX12_nextFor_69 : decode cX12_nextFor 69 = .ok (.iconst 4, 1) := by decide +kernel
theorem dX12_nextFor_70 : decode cX12_nextFor 70 = .ok (.iload 5, 2) := by decide +kernel
theorem dX12_nextFor_72 : decode cX12_nextFor 72 = .ok (.imul, 1) := by decide +kernel
theorem dX12_nextFor_73 : decode cX12_nextFor 73 = .ok (.iload_n 1, 1) := by decide +kernel
theorem dX12_nextFor_74 : decode cX12_nextFor 74 = .ok (.iadd, 1) := by decide +kernel
theorem dX12_nextFor_75 : decode cX12_nextFor 75 = .ok (.iaload, 1) := by decide +kernel
theorem dX12_nextFor_76 : decode cX12_nextFor 76 = .ok (.aload_n 0, 1) := by decide +kernel
theorem dX12_nextFor_77 : decode cX12_nextFor 77 = .ok (.getfield 20, 3) := by decide +kernel
theorem dX12_nextFor_80 : decode cX12_nextFor 80 = .ok (.iconst 4, 1) := by decide +kernel
theorem dX12_nextFor_81 : decode cX12_nextFor 81 = .ok (.iload 4, 2) := by decide +kernel
theorem dX12_nextFor_83 : decode cX12_nextFor 83 = .ok (.imul, 1) := by decide +kernel
theorem dX12_nextFor_84 : decode cX12_nextFor 84 = .ok (.iload_n 1, 1) := by decide +kernel
theorem dX12_nextFor_85 : decode cX12_nextFor 85 = .ok (.iadd, 1) := by decide +kernel
theorem dX12_nextFor_86 : decode cX12_nextFor 86 = .ok (.iaload, 1) := by decide +kernel
theorem dX12_nextFor_87 : decode cX12_nextFor 87 = .ok (.if_icmp .ge 7, 3) := by decide +kernel
theorem dX12_nextFor_90 : decode cX12_nextFor 90 = .ok (.iload 5, 2) := by decide +kernel
theorem dX12_nextFor_92 : decode cX12_nextFor 92 = .ok (.istore 4, 2) := by decide +kernel
theorem dX12_nextFor_94 : decode cX12_nextFor 94 = .ok (.iinc 5 1, 3) := by decide +kernel
theorem dX12_nextFor_97 : decode cX12_nextFor 97 = .ok (.goto (-91), 3) := by decide +kernel
theorem dX12_nextFor_100 : decode cX12_nextFor 100 = .ok (.iload 4, 2) := by decide +kernel
theorem dX12_nextFor_102 : decode cX12_nextFor 102 = .ok (.ireturn, 1) := by decide +kernel
theorem dX12_has_0 : decode cX12_has 0 = .ok (.aload_n 0, 1) := by decide +kernel
theorem dX12_has_1 : decode cX12_has 1 = .ok (.getfield 80, 3) := by decide +kernel
theorem dX12_has_4 : decode cX12_has 4 = .ok (.iconst 4, 1) := by decide +kernel
theorem dX12_has_5 : decode cX12_has 5 = .ok (.iload_n 3, 1) := by decide +kernel
theorem dX12_has_6 : decode cX12_has 6 = .ok (.imul, 1) := by decide +kernel
theorem dX12_has_7 : decode cX12_has 7 = .ok (.iload_n 2, 1) := by decide +kernel
theorem dX12_has_8 : decode cX12_has 8 = .ok (.iadd, 1) := by decide +kernel
theorem dX12_has_9 : decode cX12_has 9 = .ok (.iload_n 1, 1) := by decide +kernel
theorem dX12_has_10 : decode cX12_has 10 = .ok (.iastore, 1) := by decide +kernel
theorem dX12_has_11 : decode cX12_has 11 = .ok (.iload_n 1, 1) := by decide +kernel
theorem dX12_has_12 : decode cX12_has 12 = .ok (.iconst (-1), 1) := by decide +kernel
theorem dX12_has_13 : decode cX12_has 13 = .ok (.if_icmp .eq 17, 3) := by decide +kernel
theorem dX12_has_16 : decode cX12_has 16 = .ok (.aload_n 0, 1) := by decide +kernel
theorem dX12_has_17 : decode cX12_has 17 = .ok (.getfield 20, 3) := by decide +kernel
theorem dX12_has_20 : decode cX12_has 20 = .ok (.iconst 4, 1) := by decide +kernel
theorem dX12_has_21 : decode cX12_has 21 = .ok (.iload_n 1, 1) := by decide +kernel
theorem dX12_has_22 : decode cX12_has 22 = .ok (.imul, 1) := by decide +kernel
theorem dX12_has_23 : decode cX12_has 23 = .ok (.iload_n 2, 1) := by decide +kernel
theorem dX12_has_24 : decode cX12_has 24 = .ok (.iadd, 1) := by decide +kernel
theorem dX12_has_25 : decode cX12_has 25 = .ok (.dup2, 1) := by decide +kernel
theorem dX12_has_26 : decode cX12_has 26 = .ok (.iaload, 1) := by decide +kernel
theorem dX12_has_27 : decode cX12_has 27 = .ok (.iconst 1, 1) := by decide +kernel
theorem dX12_has_28 : decode cX12_has 28 = .ok (.iadd, 1) := by decide +kernel
theorem dX12_has_29 : decode cX12_has 29 = .ok (.iastore, 1) := by decide +kernel
theorem dX12_has_30 : decode cX12_has 30 = .ok (.return_, 1) := by decide +kernel
set_option maxRecDepth 20000 in
theorem ggX12_day_X12_nextFor : GoodIn wsX12_day wsX12_nextFor := goodIn_r _ [21, 2, 22, 23, 24, 25, 26, 20, 27, 28, 29, 30, 31, 32, 33, 34, 35, 36, 37, 38, 39, 40, 131, 132, 133, 134, 135, 136, 137, 138, 139, 140, 141, 142, 143, 144, 145, 146, 147, 148, 149, 150, 151, 152, 153, 154, 155, 156, 157, 158, 159, 160, 161, 162, 163, 164, 165, 166, 167, 168, 169, 170, 171, 172, 173, 174, 175, 176, 177, 178, 179, 180, 181, 182, 183, 184] (by decide +kernel) (by decide +kernel)
set_option maxRecDepth 20000 in
theorem gX12_day_X12_nextFor : GoodIn wsX12_day (wsV RX12 279 RX12 yX12_nextFor wsX12_nextFor) := goodIn_app (goodIn_of _ (by decide +kernel)) ggX12_day_X12_nextFor
set_option maxRecDepth 20000 in
theorem ggX12_day_X12_has : GoodIn wsX12_day wsX12_has := goodIn_r _ [44, 40, 23, 131, 132, 133, 134, 135, 136, 137, 138, 139, 140, 141, 142, 143, 144, 145, 146, 147, 148, 149, 150, 151, 152, 153, 154, 155, 156, 157, 158, 159, 160, 161, 162, 163, 164, 165, 166, 167, 168, 169, 170, 171, 172, 173, 174, 175, 176, 177, 178, 179, 180, 181, 182, 183, 184] (by decide +kernel) (by decide +kernel)
set_option maxRecDepth 20000 in
theorem gX12_day_X12_has : GoodIn wsX12_day (wsV RX12 282 RX12 yX12_has wsX12_has) := goodIn_app (goodIn_of _ (by decide +kernel)) ggX12_day_X12_has
set_option maxRecDepth 20000 in
theorem ggX12_day_X12_owes : GoodIn wsX12_day wsX12_owes := goodIn_r _ [48, 4, 49, 50, 51, 52, 53, 54, 55, 56, 57, 6, 33, 34, 20, 35, 131, 132, 133, 134, 135, 136, 137, 138, 139, 140, 141, 142, 143, 144, 145, 146, 147, 148, 149, 150, 151, 152, 153, 154, 155, 156, 157, 158, 159, 160, 161, 162, 163, 164, 165, 166, 167, 168, 169, 170, 171, 172, 173, 174, 175, 176, 177, 178, 179, 180, 181, 182, 183, 184] (by decide +kernel) (by decide +kernel)
set_option maxRecDepth 20000 in
theorem gX12_day_X12_owes : GoodIn wsX12_day (wsV RX12 286 RX12 yX12_owes wsX12_owes) := goodIn_app (goodIn_of _ (by decide +kernel)) ggX12_day_X12_owes
set_option maxRecDepth 20000 in
theorem ggX12_day_X12_isAble : GoodIn wsX12_day wsX12_isAble := goodIn_r _ [27, 28, 29, 30, 31, 32, 33, 34, 20, 35, 131, 132, 133, 134, 135, 136, 137, 138, 139, 140, 141, 142, 143, 144, 145, 146, 147, 148, 149, 150, 151, 152, 153, 154, 155, 156, 157, 158, 159, 160, 161, 162, 163, 164, 165, 166, 167, 168, 169, 170, 171, 172, 173, 174, 175, 176, 177, 178, 179, 180, 181, 182, 183, 184] (by decide +kernel) (by decide +kernel)
set_option maxRecDepth 20000 in
theorem gX12_day_X12_isAble : GoodIn wsX12_day (wsV RX12 272 RX12 yX12_isAble wsX12_isAble) := goodIn_app (goodIn_of _ (by decide +kernel)) ggX12_day_X12_isAble
set_option maxRecDepth 20000 in
theorem ggX12_day_X12_says : GoodIn wsX12_day wsX12_says := goodIn_r _ [61, 4, 6, 62, 63, 131, 132, 133, 134, 135, 136, 137, 138, 139, 140, 141, 142, 143, 144, 145, 146, 147, 148, 149, 150, 151, 152, 153, 154, 155, 156, 157, 158, 159, 160, 161, 162, 163, 164, 165, 166, 167, 168, 169, 170, 171, 172, 173, 174, 175, 176, 177, 178, 179, 180, 181, 182, 183, 184] (by decide +kernel) (by decide +kernel)
set_option maxRecDepth 20000 in
theorem gX12_day_X12_says : GoodIn wsX12_day (wsV RX12 289 RX12 yX12_says wsX12_says) := goodIn_app (goodIn_of _ (by decide +kernel)) ggX12_day_X12_says
set_option maxRecDepth 20000 in
theorem ggX12_day_X12_headFeed : GoodIn wsX12_day wsX12_headFeed := goodIn_r _ [67, 68, 69, 70, 20, 71, 72, 73, 74, 75, 76, 77, 78, 79, 80, 81, 82, 83, 84, 85, 86, 87, 88, 89, 90, 91, 33, 34, 35, 92, 93, 94, 95, 96, 97, 98, 99, 100, 101, 102, 131, 132, 133, 134, 135, 136, 137, 138, 139, 140, 141, 142, 143, 144, 145, 146, 147, 148, 149, 150, 151, 152, 153, 154, 155, 156, 157, 158, 159, 160, 161, 162, 163, 164, 165, 166, 167, 168, 169, 170, 171, 172, 173, 174, 175, 176, 177, 178, 179, 180, 181, 182, 183, 184] (by decide +kernel) (by decide +kernel)
set_option maxRecDepth 20000 in
theorem gX12_day_X12_headFeed : GoodIn wsX12_day (wsV RX12 252 RX12 yX12_headFeed wsX12_headFeed) := goodIn_app (goodIn_of _ (by decide +kernel)) ggX12_day_X12_headFeed
set_option maxRecDepth 20000 in
theorem ggX12_day_X12_guestFeed : GoodIn wsX12_day wsX12_guestFeed := goodIn_r _ [106, 68, 69, 70, 20, 71, 72, 73, 99, 100, 101, 102, 78, 81, 79, 80, 131, 132, 133, 134, 135, 136, 137, 138, 139, 140, 141, 142, 143, 144, 145, 146, 147, 148, 149, 150, 151, 152, 153, 154, 155, 156, 157, 158, 159, 160, 161, 162, 163, 164, 165, 166, 167, 168, 169, 170, 171, 172, 173, 174, 175, 176, 177, 178, 179, 180, 181, 182, 183, 184] (by decide +kernel) (by decide +kernel)
set_option maxRecDepth 20000 in
theorem gX12_day_X12_guestFeed : GoodIn wsX12_day (wsV RX12 255 RX12 yX12_guestFeed wsX12_guestFeed) := goodIn_app (goodIn_of _ (by decide +kernel)) ggX12_day_X12_guestFeed
set_option maxRecDepth 20000 in
theorem ggX12_day_X12_begins : GoodIn wsX12_day wsX12_begins := goodIn_r _ [110, 111, 112, 113, 114, 20, 115, 116, 117, 118, 119, 120, 121, 122, 123, 124, 125, 126, 127, 128, 129, 130, 131, 132, 133, 134, 135, 136, 137, 138, 139, 140, 141, 142, 143, 144, 145, 146, 147, 148, 149, 150, 151, 152, 153, 154, 155, 156, 157, 158, 159, 160, 161, 162, 163, 164, 165, 166, 167, 168, 169, 170, 171, 172, 173, 174, 175, 176, 177, 178, 179, 180, 181, 182, 183, 184] (by decide +kernel) (by decide +kernel)
set_option maxRecDepth 20000 in
theorem gX12_day_X12_begins : GoodIn wsX12_day (wsV RX12 182 RX12 yX12_begins wsX12_begins) := goodIn_app (goodIn_of _ (by decide +kernel)) ggX12_day_X12_begins
set_option maxRecDepth 20000 in
theorem ggX12_day_X12_rises : GoodIn wsX12_day wsX12_rises := goodIn_r _ [124, 125, 126, 20, 127] (by decide +kernel) (by decide +kernel)
set_option maxRecDepth 20000 in
theorem gX12_day_X12_rises : GoodIn wsX12_day (va_wsS RX12 166 yX12_rises wsX12_rises) := goodIn_app (goodIn_of _ (by decide +kernel)) ggX12_day_X12_rises
set_option maxRecDepth 20000 in
theorem ggX12_day_X12_sets : GoodIn wsX12_day wsX12_sets := goodIn_r _ [130, 122, 123, 20, 124, 125, 126, 127] (by decide +kernel) (by decide +kernel)
set_option maxRecDepth 20000 in
theorem gX12_day_X12_sets : GoodIn wsX12_day (va_wsS RX12 169 yX12_sets wsX12_sets) := goodIn_app (goodIn_of _ (by decide +kernel)) ggX12_day_X12_sets
theorem dX12_day_0 : decode cX12_day 0 = .ok (.aload_n 0, 1) := by decide +kernel
theorem dX12_day_1 : decode cX12_day 1 = .ok (.getfield 140, 3) := by decide +kernel
theorem dX12_day_4 : decode cX12_day 4 = .ok (.sipush 1094, 3) := by decide +kernel
theorem dX12_day_7 : decode cX12_day 7 = .ok (.if_icmp .ne 5, 3) := by decide +kernel
theorem dX12_day_10 : decode cX12_day 10 = .ok (.iconst (-1), 1) := by decide +kernel
theorem dX12_day_11 : decode cX12_day 11 = .ok (.ireturn, 1) := by decide +kernel
theorem dX12_day_12 : decode cX12_day 12 = .ok (.aload_n 0, 1) := by decide +kernel
theorem dX12_day_13 : decode cX12_day 13 = .ok (.getfield 140, 3) := by decide +kernel
theorem dX12_day_16 : decode cX12_day 16 = .ok (.istore_n 1, 1) := by decide +kernel
theorem dX12_day_17 : decode cX12_day 17 = .ok (.iconst 0, 1) := by decide +kernel
theorem dX12_day_18 : decode cX12_day 18 = .ok (.istore_n 2, 1) := by decide +kernel
theorem dX12_day_19 : decode cX12_day 19 = .ok (.iload_n 2, 1) := by decide +kernel
theorem dX12_day_20 : decode cX12_day 20 = .ok (.iconst 4, 1) := by decide +kernel
theorem dX12_day_21 : decode cX12_day 21 = .ok (.if_icmp .ge 22, 3) := by decide +kernel
theorem dX12_day_24 : decode cX12_day 24 = .ok (.aload_n 0, 1) := by decide +kernel
theorem dX12_day_25 : decode cX12_day 25 = .ok (.aload_n 0, 1) := by decide +kernel
theorem dX12_day_26 : decode cX12_day 26 = .ok (.iload_n 2, 1) := by decide +kernel
theorem dX12_day_27 : decode cX12_day 27 = .ok (.iload_n 1, 1) := by decide +kernel
theorem dX12_day_28 : decode cX12_day 28 = .ok (.iconst (-1), 1) := by decide +kernel
theorem dX12_day_29 : decode cX12_day 29 = .ok (.invokevirtual 279, 3) := by decide +kernel
theorem dX12_day_32 : decode cX12_day 32 = .ok (.iload_n 2, 1) := by decide +kernel
theorem dX12_day_33 : decode cX12_day 33 = .ok (.iload_n 1, 1) := by decide +kernel
theorem dX12_day_34 : decode cX12_day 34 = .ok (.invokevirtual 282, 3) := by decide +kernel
theorem dX12_day_37 : decode cX12_day 37 = .ok (.iinc 2 1, 3) := by decide +kernel
theorem dX12_day_40 : decode cX12_day 40 = .ok (.goto (-21), 3) := by decide +kernel
theorem dX12_day_43 : decode cX12_day 43 = .ok (.aload_n 0, 1) := by decide +kernel
theorem dX12_day_44 : decode cX12_day 44 = .ok (.iload_n 1, 1) := by decide +kernel
theorem dX12_day_45 : decode cX12_day 45 = .ok (.invokevirtual 286, 3) := by decide +kernel
theorem dX12_day_48 : decode cX12_day 48 = .ok (.iconst 0, 1) := by decide +kernel
theorem dX12_day_49 : decode cX12_day 49 = .ok (.istore_n 2, 1) := by decide +kernel
theorem dX12_day_50 : decode cX12_day 50 = .ok (.iload_n 2, 1) := by decide +kernel
theorem dX12_day_51 : decode cX12_day 51 = .ok (.aload_n 0, 1) := by decide +kernel
theorem dX12_day_52 : decode cX12_day 52 = .ok (.getfield 134, 3) := by decide +kernel
theorem dX12_day_55 : decode cX12_day 55 = .ok (.if_icmp .ge 32, 3) := by decide +kernel
theorem dX12_day_58 : decode cX12_day 58 = .ok (.aload_n 0, 1) := by decide +kernel
theorem dX12_day_59 : decode cX12_day 59 = .ok (.getfield 7, 3) := by decide +kernel
theorem dX12_day_62 : decode cX12_day 62 = .ok (.iload_n 2, 1) := by decide +kernel
theorem dX12_day_63 : decode cX12_day 63 = .ok (.baload, 1) := by decide +kernel
theorem dX12_day_64 : decode cX12_day 64 = .ok (.ifCond .eq 17, 3) := by decide +kernel
theorem dX12_day_67 : decode cX12_day 67 = .ok (.aload_n 0, 1) := by decide +kernel
theorem dX12_day_68 : decode cX12_day 68 = .ok (.iload_n 2, 1) := by decide +kernel
theorem dX12_day_69 : decode cX12_day 69 = .ok (.iload_n 1, 1) := by decide +kernel
theorem dX12_day_70 : decode cX12_day 70 = .ok (.invokevirtual 272, 3) := by decide +kernel
theorem dX12_day_73 : decode cX12_day 73 = .ok (.ifCond .eq 8, 3) := by decide +kernel
theorem dX12_day_76 : decode cX12_day 76 = .ok (.aload_n 0, 1) := by decide +kernel
theorem dX12_day_77 : decode cX12_day 77 = .ok (.iload_n 1, 1) := by decide +kernel
theorem dX12_day_78 : decode cX12_day 78 = .ok (.invokevirtual 289, 3) := by decide +kernel
theorem dX12_day_81 : decode cX12_day 81 = .ok (.iinc 2 1, 3) := by decide +kernel
theorem dX12_day_84 : decode cX12_day 84 = .ok (.goto (-34), 3) := by decide +kernel
theorem dX12_day_87 : decode cX12_day 87 = .ok (.iconst 0, 1) := by decide +kernel
theorem dX12_day_88 : decode cX12_day 88 = .ok (.istore_n 2, 1) := by decide +kernel
theorem dX12_day_89 : decode cX12_day 89 = .ok (.iload_n 2, 1) := by decide +kernel
theorem dX12_day_90 : decode cX12_day 90 = .ok (.aload_n 0, 1) := by decide +kernel
theorem dX12_day_91 : decode cX12_day 91 = .ok (.getfield 137, 3) := by decide +kernel
theorem dX12_day_94 : decode cX12_day 94 = .ok (.if_icmp .ge 24, 3) := by decide +kernel
theorem dX12_day_97 : decode cX12_day 97 = .ok (.aload_n 0, 1) := by decide +kernel
theorem dX12_day_98 : decode cX12_day 98 = .ok (.getfield 95, 3) := by decide +kernel
theorem dX12_day_101 : decode cX12_day 101 = .ok (.iload_n 1, 1) := by decide +kernel
theorem dX12_day_102 : decode cX12_day 102 = .ok (.dup2, 1) := by decide +kernel
theorem dX12_day_103 : decode cX12_day 103 = .ok (.iaload, 1) := by decide +kernel
theorem dX12_day_104 : decode cX12_day 104 = .ok (.aload_n 0, 1) := by decide +kernel
theorem dX12_day_105 : decode cX12_day 105 = .ok (.getfield 50, 3) := by decide +kernel
theorem dX12_day_108 : decode cX12_day 108 = .ok (.iload_n 2, 1) := by decide +kernel
theorem dX12_day_109 : decode cX12_day 109 = .ok (.iaload, 1) := by decide +kernel
theorem dX12_day_110 : decode cX12_day 110 = .ok (.iadd, 1) := by decide +kernel
theorem dX12_day_111 : decode cX12_day 111 = .ok (.iastore, 1) := by decide +kernel
theorem dX12_day_112 : decode cX12_day 112 = .ok (.iinc 2 1, 3) := by decide +kernel
theorem dX12_day_115 : decode cX12_day 115 = .ok (.goto (-26), 3) := by decide +kernel
theorem dX12_day_118 : decode cX12_day 118 = .ok (.aload_n 0, 1) := by decide +kernel
theorem dX12_day_119 : decode cX12_day 119 = .ok (.getfield 134, 3) := by decide +kernel
theorem dX12_day_122 : decode cX12_day 122 = .ok (.aload_n 0, 1) := by decide +kernel
theorem dX12_day_123 : decode cX12_day 123 = .ok (.iload_n 1, 1) := by decide +kernel
theorem dX12_day_124 : decode cX12_day 124 = .ok (.invokevirtual 252, 3) := by decide +kernel
theorem dX12_day_127 : decode cX12_day 127 = .ok (.imul, 1) := by decide +kernel
theorem dX12_day_128 : decode cX12_day 128 = .ok (.istore_n 2, 1) := by decide +kernel
theorem dX12_day_129 : decode cX12_day 129 = .ok (.iconst 0, 1) := by decide +kernel
theorem dX12_day_130 : decode cX12_day 130 = .ok (.istore_n 3, 1) := by decide +kernel
theorem dX12_day_131 : decode cX12_day 131 = .ok (.iload_n 3, 1) := by decide +kernel
theorem dX12_day_132 : decode cX12_day 132 = .ok (.bipush 6, 2) := by decide +kernel
theorem dX12_day_134 : decode cX12_day 134 = .ok (.if_icmp .ge 33, 3) := by decide +kernel
theorem dX12_day_137 : decode cX12_day 137 = .ok (.iload_n 2, 1) := by decide +kernel
theorem dX12_day_138 : decode cX12_day 138 = .ok (.aload_n 0, 1) := by decide +kernel
theorem dX12_day_139 : decode cX12_day 139 = .ok (.getfield 77, 3) := by decide +kernel
theorem dX12_day_142 : decode cX12_day 142 = .ok (.iload_n 3, 1) := by decide +kernel
theorem dX12_day_143 : decode cX12_day 143 = .ok (.iaload, 1) := by decide +kernel
theorem dX12_day_144 : decode cX12_day 144 = .ok (.aload_n 0, 1) := by decide +kernel
theorem dX12_day_145 : decode cX12_day 145 = .ok (.iload_n 1, 1) := by decide +kernel
theorem dX12_day_146 : decode cX12_day 146 = .ok (.invokevirtual 255, 3) := by decide +kernel
theorem dX12_day_149 : decode cX12_day 149 = .ok (.iload_n 3, 1) := by decide +kernel
theorem dX12_day_150 : decode cX12_day 150 = .ok (.iadd, 1) := by decide +kernel
theorem dX12_day_151 : decode cX12_day 151 = .ok (.imul, 1) := by decide +kernel
theorem dX12_day_152 : decode cX12_day 152 = .ok (.iadd, 1) := by decide +kernel
theorem dX12_day_153 : decode cX12_day 153 = .ok (.istore_n 2, 1) := by decide +kernel
theorem dX12_day_154 : decode cX12_day 154 = .ok (.aload_n 0, 1) := by decide +kernel
theorem dX12_day_155 : decode cX12_day 155 = .ok (.getfield 77, 3) := by decide +kernel
theorem dX12_day_158 : decode cX12_day 158 = .ok (.iload_n 3, 1) := by decide +kernel
theorem dX12_day_159 : decode cX12_day 159 = .ok (.iconst 0, 1) := by decide +kernel
theorem dX12_day_160 : decode cX12_day 160 = .ok (.iastore, 1) := by decide +kernel
theorem dX12_day_161 : decode cX12_day 161 = .ok (.iinc 3 1, 3) := by decide +kernel
theorem dX12_day_164 : decode cX12_day 164 = .ok (.goto (-33), 3) := by decide +kernel
theorem dX12_day_167 : decode cX12_day 167 = .ok (.aload_n 0, 1) := by decide +kernel
theorem dX12_day_168 : decode cX12_day 168 = .ok (.getfield 83, 3) := by decide +kernel
theorem dX12_day_171 : decode cX12_day 171 = .ok (.iload_n 1, 1) := by decide +kernel
theorem dX12_day_172 : decode cX12_day 172 = .ok (.aload_n 0, 1) := by decide +kernel
theorem dX12_day_173 : decode cX12_day 173 = .ok (.getfield 264, 3) := by decide +kernel
theorem dX12_day_176 : decode cX12_day 176 = .ok (.iload_n 2, 1) := by decide +kernel
theorem dX12_day_177 : decode cX12_day 177 = .ok (.invokestatic 292, 3) := by decide +kernel
theorem dX12_day_180 : decode cX12_day 180 = .ok (.iastore, 1) := by decide +kernel
theorem dX12_day_181 : decode cX12_day 181 = .ok (.aload_n 0, 1) := by decide +kernel
theorem dX12_day_182 : decode cX12_day 182 = .ok (.getfield 86, 3) := by decide +kernel
theorem dX12_day_185 : decode cX12_day 185 = .ok (.iload_n 1, 1) := by decide +kernel
theorem dX12_day_186 : decode cX12_day 186 = .ok (.iload_n 2, 1) := by decide +kernel
theorem dX12_day_187 : decode cX12_day 187 = .ok (.aload_n 0, 1) := by decide +kernel
theorem dX12_day_188 : decode cX12_day 188 = .ok (.getfield 83, 3) := by decide +kernel
theorem dX12_day_191 : decode cX12_day 191 = .ok (.iload_n 1, 1) := by decide +kernel
theorem dX12_day_192 : decode cX12_day 192 = .ok (.iaload, 1) := by decide +kernel
theorem dX12_day_193 : decode cX12_day 193 = .ok (.isub, 1) := by decide +kernel
theorem dX12_day_194 : decode cX12_day 194 = .ok (.iastore, 1) := by decide +kernel
theorem dX12_day_195 : decode cX12_day 195 = .ok (.aload_n 0, 1) := by decide +kernel
theorem dX12_day_196 : decode cX12_day 196 = .ok (.dup, 1) := by decide +kernel
theorem dX12_day_197 : decode cX12_day 197 = .ok (.getfield 264, 3) := by decide +kernel
theorem dX12_day_200 : decode cX12_day 200 = .ok (.aload_n 0, 1) := by decide +kernel
theorem dX12_day_201 : decode cX12_day 201 = .ok (.getfield 83, 3) := by decide +kernel
theorem dX12_day_204 : decode cX12_day 204 = .ok (.iload_n 1, 1) := by decide +kernel
theorem dX12_day_205 : decode cX12_day 205 = .ok (.iaload, 1) := by decide +kernel
theorem dX12_day_206 : decode cX12_day 206 = .ok (.isub, 1) := by decide +kernel
theorem dX12_day_207 : decode cX12_day 207 = .ok (.putfield 264, 3) := by decide +kernel
theorem dX12_day_210 : decode cX12_day 210 = .ok (.iconst 0, 1) := by decide +kernel
theorem dX12_day_211 : decode cX12_day 211 = .ok (.istore_n 3, 1) := by decide +kernel
theorem dX12_day_212 : decode cX12_day 212 = .ok (.iload_n 3, 1) := by decide +kernel
theorem dX12_day_213 : decode cX12_day 213 = .ok (.bipush 8, 2) := by decide +kernel
theorem dX12_day_215 : decode cX12_day 215 = .ok (.if_icmp .ge 77, 3) := by decide +kernel
theorem dX12_day_218 : decode cX12_day 218 = .ok (.aload_n 0, 1) := by decide +kernel
theorem dX12_day_219 : decode cX12_day 219 = .ok (.iload_n 1, 1) := by decide +kernel
theorem dX12_day_220 : decode cX12_day 220 = .ok (.iload_n 3, 1) := by decide +kernel
theorem dX12_day_221 : decode cX12_day 221 = .ok (.invokevirtual 182, 3) := by decide +kernel
theorem dX12_day_224 : decode cX12_day 224 = .ok (.istore 4, 2) := by decide +kernel
theorem dX12_day_226 : decode cX12_day 226 = .ok (.iload 4, 2) := by decide +kernel
theorem dX12_day_228 : decode cX12_day 228 = .ok (.istore 5, 2) := by decide +kernel
theorem dX12_day_230 : decode cX12_day 230 = .ok (.iload 5, 2) := by decide +kernel
theorem dX12_day_232 : decode cX12_day 232 = .ok (.iload 4, 2) := by decide +kernel
theorem dX12_day_234 : decode cX12_day 234 = .ok (.bipush 30, 2) := by decide +kernel
theorem dX12_day_236 : decode cX12_day 236 = .ok (.iadd, 1) := by decide +kernel
theorem dX12_day_237 : decode cX12_day 237 = .ok (.if_icmp .ge 49, 3) := by decide +kernel
theorem dX12_day_240 : decode cX12_day 240 = .ok (.aload_n 0, 1) := by decide +kernel
theorem dX12_day_241 : decode cX12_day 241 = .ok (.getfield 89, 3) := by decide +kernel
theorem dX12_day_244 : decode cX12_day 244 = .ok (.iload_n 1, 1) := by decide +kernel
theorem dX12_day_245 : decode cX12_day 245 = .ok (.dup2, 1) := by decide +kernel
theorem dX12_day_246 : decode cX12_day 246 = .ok (.iaload, 1) := by decide +kernel
theorem dX12_day_247 : decode cX12_day 247 = .ok (.iload 5, 2) := by decide +kernel
theorem dX12_day_249 : decode cX12_day 249 = .ok (.iload_n 1, 1) := by decide +kernel
theorem dX12_day_250 : decode cX12_day 250 = .ok (.sipush 365, 3) := by decide +kernel
theorem dX12_day_253 : decode cX12_day 253 = .ok (.irem, 1) := by decide +kernel
theorem dX12_day_254 : decode cX12_day 254 = .ok (.invokestatic 166, 3) := by decide +kernel
theorem dX12_day_257 : decode cX12_day 257 = .ok (.if_icmp .lt 16, 3) := by decide +kernel
theorem dX12_day_260 : decode cX12_day 260 = .ok (.iload 5, 2) := by decide +kernel
theorem dX12_day_262 : decode cX12_day 262 = .ok (.iload_n 1, 1) := by decide +kernel
theorem dX12_day_263 : decode cX12_day 263 = .ok (.sipush 365, 3) := by decide +kernel
theorem dX12_day_266 : decode cX12_day 266 = .ok (.irem, 1) := by decide +kernel
theorem dX12_day_267 : decode cX12_day 267 = .ok (.invokestatic 169, 3) := by decide +kernel
theorem dX12_day_270 : decode cX12_day 270 = .ok (.if_icmp .lt 7, 3) := by decide +kernel
theorem dX12_day_273 : decode cX12_day 273 = .ok (.iconst 1, 1) := by decide +kernel
theorem dX12_day_274 : decode cX12_day 274 = .ok (.goto 4, 3) := by decide +kernel
theorem dX12_day_277 : decode cX12_day 277 = .ok (.iconst 0, 1) := by decide +kernel
theorem dX12_day_278 : decode cX12_day 278 = .ok (.iadd, 1) := by decide +kernel
theorem dX12_day_279 : decode cX12_day 279 = .ok (.iastore, 1) := by decide +kernel
theorem dX12_day_280 : decode cX12_day 280 = .ok (.iinc 5 1, 3) := by decide +kernel
theorem dX12_day_283 : decode cX12_day 283 = .ok (.goto (-53), 3) := by decide +kernel
theorem dX12_day_286 : decode cX12_day 286 = .ok (.iinc 3 1, 3) := by decide +kernel
theorem dX12_day_289 : decode cX12_day 289 = .ok (.goto (-77), 3) := by decide +kernel
theorem dX12_day_292 : decode cX12_day 292 = .ok (.aload_n 0, 1) := by decide +kernel
theorem dX12_day_293 : decode cX12_day 293 = .ok (.dup, 1) := by decide +kernel
theorem dX12_day_294 : decode cX12_day 294 = .ok (.getfield 297, 3) := by decide +kernel
theorem dX12_day_297 : decode cX12_day 297 = .ok (.aload_n 0, 1) := by decide +kernel
theorem dX12_day_298 : decode cX12_day 298 = .ok (.getfield 89, 3) := by decide +kernel
theorem dX12_day_301 : decode cX12_day 301 = .ok (.iload_n 1, 1) := by decide +kernel
theorem dX12_day_302 : decode cX12_day 302 = .ok (.iaload, 1) := by decide +kernel
theorem dX12_day_303 : decode cX12_day 303 = .ok (.iadd, 1) := by decide +kernel
theorem dX12_day_304 : decode cX12_day 304 = .ok (.putfield 297, 3) := by decide +kernel
theorem dX12_day_307 : decode cX12_day 307 = .ok (.aload_n 0, 1) := by decide +kernel
theorem dX12_day_308 : decode cX12_day 308 = .ok (.dup, 1) := by decide +kernel
theorem dX12_day_309 : decode cX12_day 309 = .ok (.getfield 140, 3) := by decide +kernel
theorem dX12_day_312 : decode cX12_day 312 = .ok (.iconst 1, 1) := by decide +kernel
theorem dX12_day_313 : decode cX12_day 313 = .ok (.iadd, 1) := by decide +kernel
theorem dX12_day_314 : decode cX12_day 314 = .ok (.putfield 140, 3) := by decide +kernel
theorem dX12_day_317 : decode cX12_day 317 = .ok (.aload_n 0, 1) := by decide +kernel
theorem dX12_day_318 : decode cX12_day 318 = .ok (.getfield 140, 3) := by decide +kernel
theorem dX12_day_321 : decode cX12_day 321 = .ok (.ireturn, 1) := by decide +kernel
set_option maxRecDepth 20000 in
theorem ggX12_owes_X12_isIn : GoodIn wsX12_owes wsX12_isIn := goodIn_r _ [15] (by decide +kernel) (by decide +kernel)
set_option maxRecDepth 20000 in
theorem gX12_owes_X12_isIn : GoodIn wsX12_owes (va_wsS RX12 130 yX12_isIn wsX12_isIn) := goodIn_app (goodIn_of _ (by decide +kernel)) ggX12_owes_X12_isIn
theorem dX12_owes_0 : decode cX12_owes 0 = .ok (.iconst 0, 1) := by decide +kernel
theorem dX12_owes_1 : decode cX12_owes 1 = .ok (.istore_n 2, 1) := by decide +kernel
theorem dX12_owes_2 : decode cX12_owes 2 = .ok (.iload_n 2, 1) := by decide +kernel
theorem dX12_owes_3 : decode cX12_owes 3 = .ok (.aload_n 0, 1) := by decide +kernel
theorem dX12_owes_4 : decode cX12_owes 4 = .ok (.getfield 137, 3) := by decide +kernel
theorem dX12_owes_7 : decode cX12_owes 7 = .ok (.if_icmp .ge 173, 3) := by decide +kernel
theorem dX12_owes_10 : decode cX12_owes 10 = .ok (.aload_n 0, 1) := by decide +kernel
theorem dX12_owes_11 : decode cX12_owes 11 = .ok (.getfield 47, 3) := by decide +kernel
theorem dX12_owes_14 : decode cX12_owes 14 = .ok (.iload_n 2, 1) := by decide +kernel
theorem dX12_owes_15 : decode cX12_owes 15 = .ok (.iaload, 1) := by decide +kernel
theorem dX12_owes_16 : decode cX12_owes 16 = .ok (.iload_n 1, 1) := by decide +kernel
theorem dX12_owes_17 : decode cX12_owes 17 = .ok (.if_icmp .gt 37, 3) := by decide +kernel
theorem dX12_owes_20 : decode cX12_owes 20 = .ok (.aload_n 0, 1) := by decide +kernel
theorem dX12_owes_21 : decode cX12_owes 21 = .ok (.getfield 44, 3) := by decide +kernel
theorem dX12_owes_24 : decode cX12_owes 24 = .ok (.iload_n 2, 1) := by decide +kernel
theorem dX12_owes_25 : decode cX12_owes 25 = .ok (.iaload, 1) := by decide +kernel
theorem dX12_owes_26 : decode cX12_owes 26 = .ok (.aload_n 0, 1) := by decide +kernel
theorem dX12_owes_27 : decode cX12_owes 27 = .ok (.getfield 38, 3) := by decide +kernel
theorem dX12_owes_30 : decode cX12_owes 30 = .ok (.iload_n 2, 1) := by decide +kernel
theorem dX12_owes_31 : decode cX12_owes 31 = .ok (.baload, 1) := by decide +kernel
theorem dX12_owes_32 : decode cX12_owes 32 = .ok (.ifCond .eq 10, 3) := by decide +kernel
theorem dX12_owes_35 : decode cX12_owes 35 = .ok (.iload_n 1, 1) := by decide +kernel
theorem dX12_owes_36 : decode cX12_owes 36 = .ok (.bipush 7, 2) := by decide +kernel
theorem dX12_owes_38 : decode cX12_owes 38 = .ok (.irem, 1) := by decide +kernel
theorem dX12_owes_39 : decode cX12_owes 39 = .ok (.goto 8, 3) := by decide +kernel
theorem dX12_owes_42 : decode cX12_owes 42 = .ok (.iload_n 1, 1) := by decide +kernel
theorem dX12_owes_43 : decode cX12_owes 43 = .ok (.sipush 365, 3) := by decide +kernel
theorem dX12_owes_46 : decode cX12_owes 46 = .ok (.irem, 1) := by decide +kernel
theorem dX12_owes_47 : decode cX12_owes 47 = .ok (.if_icmp .ne 7, 3) := by decide +kernel
theorem dX12_owes_50 : decode cX12_owes 50 = .ok (.iconst 1, 1) := by decide +kernel
theorem dX12_owes_51 : decode cX12_owes 51 = .ok (.goto 4, 3) := by decide +kernel
theorem dX12_owes_54 : decode cX12_owes 54 = .ok (.iconst 0, 1) := by decide +kernel
theorem dX12_owes_55 : decode cX12_owes 55 = .ok (.istore_n 3, 1) := by decide +kernel
theorem dX12_owes_56 : decode cX12_owes 56 = .ok (.iload_n 3, 1) := by decide +kernel
theorem dX12_owes_57 : decode cX12_owes 57 = .ok (.ifCond .ne 6, 3) := by decide +kernel
theorem dX12_owes_60 : decode cX12_owes 60 = .ok (.goto 114, 3) := by decide +kernel
theorem dX12_owes_63 : decode cX12_owes 63 = .ok (.iconst 0, 1) := by decide +kernel
theorem dX12_owes_64 : decode cX12_owes 64 = .ok (.istore 4, 2) := by decide +kernel
theorem dX12_owes_66 : decode cX12_owes 66 = .ok (.iconst 0, 1) := by decide +kernel
theorem dX12_owes_67 : decode cX12_owes 67 = .ok (.istore 5, 2) := by decide +kernel
theorem dX12_owes_69 : decode cX12_owes 69 = .ok (.iload 5, 2) := by decide +kernel
theorem dX12_owes_71 : decode cX12_owes 71 = .ok (.aload_n 0, 1) := by decide +kernel
theorem dX12_owes_72 : decode cX12_owes 72 = .ok (.getfield 261, 3) := by decide +kernel
theorem dX12_owes_75 : decode cX12_owes 75 = .ok (.if_icmp .ge 53, 3) := by decide +kernel
theorem dX12_owes_78 : decode cX12_owes 78 = .ok (.iload 4, 2) := by decide +kernel
theorem dX12_owes_80 : decode cX12_owes 80 = .ok (.ifCond .ne 35, 3) := by decide +kernel
theorem dX12_owes_83 : decode cX12_owes 83 = .ok (.aload_n 0, 1) := by decide +kernel
theorem dX12_owes_84 : decode cX12_owes 84 = .ok (.getfield 59, 3) := by decide +kernel
theorem dX12_owes_87 : decode cX12_owes 87 = .ok (.iload 5, 2) := by decide +kernel
theorem dX12_owes_89 : decode cX12_owes 89 = .ok (.iaload, 1) := by decide +kernel
theorem dX12_owes_90 : decode cX12_owes 90 = .ok (.iload_n 2, 1) := by decide +kernel
theorem dX12_owes_91 : decode cX12_owes 91 = .ok (.if_icmp .ne 28, 3) := by decide +kernel
theorem dX12_owes_94 : decode cX12_owes 94 = .ok (.iload_n 1, 1) := by decide +kernel
theorem dX12_owes_95 : decode cX12_owes 95 = .ok (.aload_n 0, 1) := by decide +kernel
theorem dX12_owes_96 : decode cX12_owes 96 = .ok (.getfield 62, 3) := by decide +kernel
theorem dX12_owes_99 : decode cX12_owes 99 = .ok (.iload 5, 2) := by decide +kernel
theorem dX12_owes_101 : decode cX12_owes 101 = .ok (.iaload, 1) := by decide +kernel
theorem dX12_owes_102 : decode cX12_owes 102 = .ok (.aload_n 0, 1) := by decide +kernel
theorem dX12_owes_103 : decode cX12_owes 103 = .ok (.getfield 65, 3) := by decide +kernel
theorem dX12_owes_106 : decode cX12_owes 106 = .ok (.iload 5, 2) := by decide +kernel
theorem dX12_owes_108 : decode cX12_owes 108 = .ok (.iaload, 1) := by decide +kernel
theorem dX12_owes_109 : decode cX12_owes 109 = .ok (.invokestatic 130, 3) := by decide +kernel
theorem dX12_owes_112 : decode cX12_owes 112 = .ok (.ifCond .eq 7, 3) := by decide +kernel
theorem dX12_owes_115 : decode cX12_owes 115 = .ok (.iconst 1, 1) := by decide +kernel
theorem dX12_owes_116 : decode cX12_owes 116 = .ok (.goto 4, 3) := by decide +kernel
theorem dX12_owes_119 : decode cX12_owes 119 = .ok (.iconst 0, 1) := by decide +kernel
theorem dX12_owes_120 : decode cX12_owes 120 = .ok (.istore 4, 2) := by decide +kernel
theorem dX12_owes_122 : decode cX12_owes 122 = .ok (.iinc 5 1, 3) := by decide +kernel
theorem dX12_owes_125 : decode cX12_owes 125 = .ok (.goto (-56), 3) := by decide +kernel
theorem dX12_owes_128 : decode cX12_owes 128 = .ok (.aload_n 0, 1) := by decide +kernel
theorem dX12_owes_129 : decode cX12_owes 129 = .ok (.getfield 41, 3) := by decide +kernel
theorem dX12_owes_132 : decode cX12_owes 132 = .ok (.iload_n 2, 1) := by decide +kernel
theorem dX12_owes_133 : decode cX12_owes 133 = .ok (.baload, 1) := by decide +kernel
theorem dX12_owes_134 : decode cX12_owes 134 = .ok (.ifCond .eq 7, 3) := by decide +kernel
theorem dX12_owes_137 : decode cX12_owes 137 = .ok (.iconst 2, 1) := by decide +kernel
theorem dX12_owes_138 : decode cX12_owes 138 = .ok (.goto 4, 3) := by decide +kernel
theorem dX12_owes_141 : decode cX12_owes 141 = .ok (.iconst 1, 1) := by decide +kernel
theorem dX12_owes_142 : decode cX12_owes 142 = .ok (.istore 5, 2) := by decide +kernel
theorem dX12_owes_144 : decode cX12_owes 144 = .ok (.iload 4, 2) := by decide +kernel
theorem dX12_owes_146 : decode cX12_owes 146 = .ok (.ifCond .eq 17, 3) := by decide +kernel
theorem dX12_owes_149 : decode cX12_owes 149 = .ok (.aload_n 0, 1) := by decide +kernel
theorem dX12_owes_150 : decode cX12_owes 150 = .ok (.getfield 56, 3) := by decide +kernel
theorem dX12_owes_153 : decode cX12_owes 153 = .ok (.iload_n 2, 1) := by decide +kernel
theorem dX12_owes_154 : decode cX12_owes 154 = .ok (.dup2, 1) := by decide +kernel
theorem dX12_owes_155 : decode cX12_owes 155 = .ok (.iaload, 1) := by decide +kernel
theorem dX12_owes_156 : decode cX12_owes 156 = .ok (.iload 5, 2) := by decide +kernel
theorem dX12_owes_158 : decode cX12_owes 158 = .ok (.iadd, 1) := by decide +kernel
theorem dX12_owes_159 : decode cX12_owes 159 = .ok (.iastore, 1) := by decide +kernel
theorem dX12_owes_160 : decode cX12_owes 160 = .ok (.goto 14, 3) := by decide +kernel
theorem dX12_owes_163 : decode cX12_owes 163 = .ok (.aload_n 0, 1) := by decide +kernel
theorem dX12_owes_164 : decode cX12_owes 164 = .ok (.getfield 50, 3) := by decide +kernel
theorem dX12_owes_167 : decode cX12_owes 167 = .ok (.iload_n 2, 1) := by decide +kernel
theorem dX12_owes_168 : decode cX12_owes 168 = .ok (.dup2, 1) := by decide +kernel
theorem dX12_owes_169 : decode cX12_owes 169 = .ok (.iaload, 1) := by decide +kernel
theorem dX12_owes_170 : decode cX12_owes 170 = .ok (.iload 5, 2) := by decide +kernel
theorem dX12_owes_172 : decode cX12_owes 172 = .ok (.iadd, 1) := by decide +kernel
theorem dX12_owes_173 : decode cX12_owes 173 = .ok (.iastore, 1) := by decide +kernel
theorem dX12_owes_174 : decode cX12_owes 174 = .ok (.iinc 2 1, 3) := by decide +kernel
theorem dX12_owes_177 : decode cX12_owes 177 = .ok (.goto (-175), 3) := by decide +kernel
theorem dX12_owes_180 : decode cX12_owes 180 = .ok (.return_, 1) := by decide +kernel
theorem dX12_says_0 : decode cX12_says 0 = .ok (.iconst (-1), 1) := by decide +kernel
theorem dX12_says_1 : decode cX12_says 1 = .ok (.istore_n 2, 1) := by decide +kernel
theorem dX12_says_2 : decode cX12_says 2 = .ok (.iconst 0, 1) := by decide +kernel
theorem dX12_says_3 : decode cX12_says 3 = .ok (.istore_n 3, 1) := by decide +kernel
theorem dX12_says_4 : decode cX12_says 4 = .ok (.iload_n 3, 1) := by decide +kernel
theorem dX12_says_5 : decode cX12_says 5 = .ok (.aload_n 0, 1) := by decide +kernel
theorem dX12_says_6 : decode cX12_says 6 = .ok (.getfield 137, 3) := by decide +kernel
theorem dX12_says_9 : decode cX12_says 9 = .ok (.if_icmp .ge 40, 3) := by decide +kernel
theorem dX12_says_12 : decode cX12_says 12 = .ok (.aload_n 0, 1) := by decide +kernel
theorem dX12_says_13 : decode cX12_says 13 = .ok (.getfield 50, 3) := by decide +kernel
theorem dX12_says_16 : decode cX12_says 16 = .ok (.iload_n 3, 1) := by decide +kernel
theorem dX12_says_17 : decode cX12_says 17 = .ok (.iaload, 1) := by decide +kernel
theorem dX12_says_18 : decode cX12_says 18 = .ok (.ifCond .le 25, 3) := by decide +kernel
theorem dX12_says_21 : decode cX12_says 21 = .ok (.iload_n 2, 1) := by decide +kernel
theorem dX12_says_22 : decode cX12_says 22 = .ok (.iconst (-1), 1) := by decide +kernel
theorem dX12_says_23 : decode cX12_says 23 = .ok (.if_icmp .eq 18, 3) := by decide +kernel
theorem dX12_says_26 : decode cX12_says 26 = .ok (.aload_n 0, 1) := by decide +kernel
theorem dX12_says_27 : decode cX12_says 27 = .ok (.getfield 50, 3) := by decide +kernel
theorem dX12_says_30 : decode cX12_says 30 = .ok (.iload_n 3, 1) := by decide +kernel
theorem dX12_says_31 : decode cX12_says 31 = .ok (.iaload, 1) := by decide +kernel
theorem dX12_says_32 : decode cX12_says 32 = .ok (.aload_n 0, 1) := by decide +kernel
theorem dX12_says_33 : decode cX12_says 33 = .ok (.getfield 50, 3) := by decide +kernel
theorem dX12_says_36 : decode cX12_says 36 = .ok (.iload_n 2, 1) := by decide +kernel
theorem dX12_says_37 : decode cX12_says 37 = .ok (.iaload, 1) := by decide +kernel
theorem dX12_says_38 : decode cX12_says 38 = .ok (.if_icmp .le 5, 3) := by decide +kernel
theorem dX12_says_41 : decode cX12_says 41 = .ok (.iload_n 3, 1) := by decide +kernel
theorem dX12_says_42 : decode cX12_says 42 = .ok (.istore_n 2, 1) := by decide +kernel
theorem dX12_says_43 : decode cX12_says 43 = .ok (.iinc 3 1, 3) := by decide +kernel
theorem dX12_says_46 : decode cX12_says 46 = .ok (.goto (-42), 3) := by decide +kernel
theorem dX12_says_49 : decode cX12_says 49 = .ok (.iload_n 2, 1) := by decide +kernel
theorem dX12_says_50 : decode cX12_says 50 = .ok (.iconst (-1), 1) := by decide +kernel
theorem dX12_says_51 : decode cX12_says 51 = .ok (.if_icmp .ne 4, 3) := by decide +kernel
theorem dX12_says_54 : decode cX12_says 54 = .ok (.return_, 1) := by decide +kernel
theorem dX12_says_55 : decode cX12_says 55 = .ok (.aload_n 0, 1) := by decide +kernel
theorem dX12_says_56 : decode cX12_says 56 = .ok (.getfield 50, 3) := by decide +kernel
theorem dX12_says_59 : decode cX12_says 59 = .ok (.iload_n 2, 1) := by decide +kernel
theorem dX12_says_60 : decode cX12_says 60 = .ok (.dup2, 1) := by decide +kernel
theorem dX12_says_61 : decode cX12_says 61 = .ok (.iaload, 1) := by decide +kernel
theorem dX12_says_62 : decode cX12_says 62 = .ok (.iconst 1, 1) := by decide +kernel
theorem dX12_says_63 : decode cX12_says 63 = .ok (.isub, 1) := by decide +kernel
theorem dX12_says_64 : decode cX12_says 64 = .ok (.iastore, 1) := by decide +kernel
theorem dX12_says_65 : decode cX12_says 65 = .ok (.aload_n 0, 1) := by decide +kernel
theorem dX12_says_66 : decode cX12_says 66 = .ok (.getfield 53, 3) := by decide +kernel
theorem dX12_says_69 : decode cX12_says 69 = .ok (.iload_n 2, 1) := by decide +kernel
theorem dX12_says_70 : decode cX12_says 70 = .ok (.dup2, 1) := by decide +kernel
theorem dX12_says_71 : decode cX12_says 71 = .ok (.iaload, 1) := by decide +kernel
theorem dX12_says_72 : decode cX12_says 72 = .ok (.iconst 1, 1) := by decide +kernel
theorem dX12_says_73 : decode cX12_says 73 = .ok (.iadd, 1) := by decide +kernel
theorem dX12_says_74 : decode cX12_says 74 = .ok (.iastore, 1) := by decide +kernel
theorem dX12_says_75 : decode cX12_says 75 = .ok (.aload_n 0, 1) := by decide +kernel
theorem dX12_says_76 : decode cX12_says 76 = .ok (.getfield 92, 3) := by decide +kernel
theorem dX12_says_79 : decode cX12_says 79 = .ok (.iload_n 1, 1) := by decide +kernel
theorem dX12_says_80 : decode cX12_says 80 = .ok (.dup2, 1) := by decide +kernel
theorem dX12_says_81 : decode cX12_says 81 = .ok (.iaload, 1) := by decide +kernel
theorem dX12_says_82 : decode cX12_says 82 = .ok (.iconst 1, 1) := by decide +kernel
theorem dX12_says_83 : decode cX12_says 83 = .ok (.iadd, 1) := by decide +kernel
theorem dX12_says_84 : decode cX12_says 84 = .ok (.iastore, 1) := by decide +kernel
theorem dX12_says_85 : decode cX12_says 85 = .ok (.return_, 1) := by decide +kernel
set_option maxRecDepth 20000 in
theorem ggX12_hasGone_X12_isIn : GoodIn wsX12_hasGone wsX12_isIn := goodIn_r _ [5] (by decide +kernel) (by decide +kernel)
set_option maxRecDepth 20000 in
theorem gX12_hasGone_X12_isIn : GoodIn wsX12_hasGone (va_wsS RX12 130 yX12_isIn wsX12_isIn) := goodIn_app (goodIn_of _ (by decide +kernel)) ggX12_hasGone_X12_isIn
theorem dX12_hasGone_0 : decode cX12_hasGone 0 = .ok (.iload_n 1, 1) := by decide +kernel
theorem dX12_hasGone_1 : decode cX12_hasGone 1 = .ok (.iconst 0, 1) := by decide +kernel
theorem dX12_hasGone_2 : decode cX12_hasGone 2 = .ok (.aload_n 0, 1) := by decide +kernel
theorem dX12_hasGone_3 : decode cX12_hasGone 3 = .ok (.getfield 140, 3) := by decide +kernel
theorem dX12_hasGone_6 : decode cX12_hasGone 6 = .ok (.iconst 1, 1) := by decide +kernel
theorem dX12_hasGone_7 : decode cX12_hasGone 7 = .ok (.isub, 1) := by decide +kernel
theorem dX12_hasGone_8 : decode cX12_hasGone 8 = .ok (.invokestatic 130, 3) := by decide +kernel
theorem dX12_hasGone_11 : decode cX12_hasGone 11 = .ok (.ireturn, 1) := by decide +kernel
set_option maxRecDepth 20000 in
theorem ggX12_turn_X12_hasGone : GoodIn wsX12_turn wsX12_hasGone := goodIn_r _ [6, 7, 8, 9, 5, 10, 11, 12, 13, 14, 15, 16, 17, 18, 19, 20, 21, 22, 23, 24, 25, 26, 27, 28, 29, 30, 31, 32, 33, 34, 35, 36, 37, 38, 39, 40, 41, 42, 43, 44, 45, 46, 47, 48, 49, 50, 51, 52, 53, 54, 55, 56, 57, 58, 59, 60, 61, 62, 63, 64] (by decide +kernel) (by decide +kernel)
set_option maxRecDepth 20000 in
theorem gX12_turn_X12_hasGone : GoodIn wsX12_turn (wsV RX12 300 RX12 yX12_hasGone wsX12_hasGone) := goodIn_app (goodIn_of _ (by decide +kernel)) ggX12_turn_X12_hasGone
set_option maxRecDepth 20000 in
theorem ggX12_turn_X12_isIn : GoodIn wsX12_turn wsX12_isIn := goodIn_r _ [10] (by decide +kernel) (by decide +kernel)
set_option maxRecDepth 20000 in
theorem gX12_turn_X12_isIn : GoodIn wsX12_turn (va_wsS RX12 130 yX12_isIn wsX12_isIn) := goodIn_app (goodIn_of _ (by decide +kernel)) ggX12_turn_X12_isIn
theorem dX12_turn_0 : decode cX12_turn 0 = .ok (.aload_n 0, 1) := by decide +kernel
theorem dX12_turn_1 : decode cX12_turn 1 = .ok (.iload_n 1, 1) := by decide +kernel
theorem dX12_turn_2 : decode cX12_turn 2 = .ok (.invokevirtual 300, 3) := by decide +kernel
theorem dX12_turn_5 : decode cX12_turn 5 = .ok (.ifCond .eq 25, 3) := by decide +kernel
theorem dX12_turn_8 : decode cX12_turn 8 = .ok (.iload_n 2, 1) := by decide +kernel
theorem dX12_turn_9 : decode cX12_turn 9 = .ok (.iconst 0, 1) := by decide +kernel
theorem dX12_turn_10 : decode cX12_turn 10 = .ok (.iconst 3, 1) := by decide +kernel
theorem dX12_turn_11 : decode cX12_turn 11 = .ok (.invokestatic 130, 3) := by decide +kernel
theorem dX12_turn_14 : decode cX12_turn 14 = .ok (.ifCond .eq 16, 3) := by decide +kernel
theorem dX12_turn_17 : decode cX12_turn 17 = .ok (.aload_n 0, 1) := by decide +kernel
theorem dX12_turn_18 : decode cX12_turn 18 = .ok (.getfield 80, 3) := by decide +kernel
theorem dX12_turn_21 : decode cX12_turn 21 = .ok (.iconst 4, 1) := by decide +kernel
theorem dX12_turn_22 : decode cX12_turn 22 = .ok (.iload_n 1, 1) := by decide +kernel
theorem dX12_turn_23 : decode cX12_turn 23 = .ok (.imul, 1) := by decide +kernel
theorem dX12_turn_24 : decode cX12_turn 24 = .ok (.iload_n 2, 1) := by decide +kernel
theorem dX12_turn_25 : decode cX12_turn 25 = .ok (.iadd, 1) := by decide +kernel
theorem dX12_turn_26 : decode cX12_turn 26 = .ok (.iaload, 1) := by decide +kernel
theorem dX12_turn_27 : decode cX12_turn 27 = .ok (.goto 4, 3) := by decide +kernel
theorem dX12_turn_30 : decode cX12_turn 30 = .ok (.iconst (-1), 1) := by decide +kernel
theorem dX12_turn_31 : decode cX12_turn 31 = .ok (.ireturn, 1) := by decide +kernel
set_option maxRecDepth 20000 in
theorem ggX12_turns_X12_isMonk : GoodIn wsX12_turns wsX12_isMonk := goodIn_r _ [6, 7, 8, 9, 5, 10, 11, 12, 13, 14, 15, 16, 17, 18, 19, 20, 21, 22, 23, 24, 25, 26, 27, 28, 29, 30, 31, 32, 33, 34, 35, 36, 37, 38, 39, 40, 41, 42, 43, 44, 45, 46, 47, 48, 49, 50, 51, 52, 53, 54, 55, 56, 57, 58, 59, 60, 61, 62, 63, 64] (by decide +kernel) (by decide +kernel)
set_option maxRecDepth 20000 in
theorem gX12_turns_X12_isMonk : GoodIn wsX12_turns (wsV RX12 143 RX12 yX12_isMonk wsX12_isMonk) := goodIn_app (goodIn_of _ (by decide +kernel)) ggX12_turns_X12_isMonk
set_option maxRecDepth 20000 in
theorem ggX12_turns_X12_isIn : GoodIn wsX12_turns wsX12_isIn := goodIn_r _ [10] (by decide +kernel) (by decide +kernel)
set_option maxRecDepth 20000 in
theorem gX12_turns_X12_isIn : GoodIn wsX12_turns (va_wsS RX12 130 yX12_isIn wsX12_isIn) := goodIn_app (goodIn_of _ (by decide +kernel)) ggX12_turns_X12_isIn
theorem dX12_turns_0 : decode cX12_turns 0 = .ok (.aload_n 0, 1) := by decide +kernel
theorem dX12_turns_1 : decode cX12_turns 1 = .ok (.iload_n 1, 1) := by decide +kernel
theorem dX12_turns_2 : decode cX12_turns 2 = .ok (.invokevirtual 143, 3) := by decide +kernel
theorem dX12_turns_5 : decode cX12_turns 5 = .ok (.ifCond .eq 12, 3) := by decide +kernel
theorem dX12_turns_8 : decode cX12_turns 8 = .ok (.iload_n 2, 1) := by decide +kernel
theorem dX12_turns_9 : decode cX12_turns 9 = .ok (.iconst 0, 1) := by decide +kernel
theorem dX12_turns_10 : decode cX12_turns 10 = .ok (.iconst 4, 1) := by decide +kernel
theorem dX12_turns_11 : decode cX12_turns 11 = .ok (.invokestatic 130, 3) := by decide +kernel
theorem dX12_turns_14 : decode cX12_turns 14 = .ok (.ifCond .ne 5, 3) := by decide +kernel
theorem dX12_turns_17 : decode cX12_turns 17 = .ok (.iconst (-1), 1) := by decide +kernel
theorem dX12_turns_18 : decode cX12_turns 18 = .ok (.ireturn, 1) := by decide +kernel
theorem dX12_turns_19 : decode cX12_turns 19 = .ok (.iload_n 2, 1) := by decide +kernel
theorem dX12_turns_20 : decode cX12_turns 20 = .ok (.iconst 4, 1) := by decide +kernel
theorem dX12_turns_21 : decode cX12_turns 21 = .ok (.if_icmp .ge 14, 3) := by decide +kernel
theorem dX12_turns_24 : decode cX12_turns 24 = .ok (.aload_n 0, 1) := by decide +kernel
theorem dX12_turns_25 : decode cX12_turns 25 = .ok (.getfield 20, 3) := by decide +kernel
theorem dX12_turns_28 : decode cX12_turns 28 = .ok (.iconst 4, 1) := by decide +kernel
theorem dX12_turns_29 : decode cX12_turns 29 = .ok (.iload_n 1, 1) := by decide +kernel
theorem dX12_turns_30 : decode cX12_turns 30 = .ok (.imul, 1) := by decide +kernel
theorem dX12_turns_31 : decode cX12_turns 31 = .ok (.iload_n 2, 1) := by decide +kernel
theorem dX12_turns_32 : decode cX12_turns 32 = .ok (.iadd, 1) := by decide +kernel
theorem dX12_turns_33 : decode cX12_turns 33 = .ok (.iaload, 1) := by decide +kernel
theorem dX12_turns_34 : decode cX12_turns 34 = .ok (.ireturn, 1) := by decide +kernel
theorem dX12_turns_35 : decode cX12_turns 35 = .ok (.iconst 0, 1) := by decide +kernel
theorem dX12_turns_36 : decode cX12_turns 36 = .ok (.istore_n 3, 1) := by decide +kernel
theorem dX12_turns_37 : decode cX12_turns 37 = .ok (.iconst 0, 1) := by decide +kernel
theorem dX12_turns_38 : decode cX12_turns 38 = .ok (.istore 4, 2) := by decide +kernel
theorem dX12_turns_40 : decode cX12_turns 40 = .ok (.iload 4, 2) := by decide +kernel
theorem dX12_turns_42 : decode cX12_turns 42 = .ok (.iconst 4, 1) := by decide +kernel
theorem dX12_turns_43 : decode cX12_turns 43 = .ok (.if_icmp .ge 23, 3) := by decide +kernel
theorem dX12_turns_46 : decode cX12_turns 46 = .ok (.iload_n 3, 1) := by decide +kernel
theorem dX12_turns_47 : decode cX12_turns 47 = .ok (.aload_n 0, 1) := by decide +kernel
theorem dX12_turns_48 : decode cX12_turns 48 = .ok (.getfield 20, 3) := by decide +kernel
theorem dX12_turns_51 : decode cX12_turns 51 = .ok (.iconst 4, 1) := by decide +kernel
theorem dX12_turns_52 : decode cX12_turns 52 = .ok (.iload_n 1, 1) := by decide +kernel
theorem dX12_turns_53 : decode cX12_turns 53 = .ok (.imul, 1) := by decide +kernel
theorem dX12_turns_54 : decode cX12_turns 54 = .ok (.iload 4, 2) := by decide +kernel
theorem dX12_turns_56 : decode cX12_turns 56 = .ok (.iadd, 1) := by decide +kernel
theorem dX12_turns_57 : decode cX12_turns 57 = .ok (.iaload, 1) := by decide +kernel
theorem dX12_turns_58 : decode cX12_turns 58 = .ok (.iadd, 1) := by decide +kernel
theorem dX12_turns_59 : decode cX12_turns 59 = .ok (.istore_n 3, 1) := by decide +kernel
theorem dX12_turns_60 : decode cX12_turns 60 = .ok (.iinc 4 1, 3) := by decide +kernel
theorem dX12_turns_63 : decode cX12_turns 63 = .ok (.goto (-23), 3) := by decide +kernel
theorem dX12_turns_66 : decode cX12_turns 66 = .ok (.iload_n 3, 1) := by decide +kernel
theorem dX12_turns_67 : decode cX12_turns 67 = .ok (.ireturn, 1) := by decide +kernel
set_option maxRecDepth 20000 in
theorem ggX12_fail_X12_isIn : GoodIn wsX12_fail wsX12_isIn := goodIn_r _ [7] (by decide +kernel) (by decide +kernel)
set_option maxRecDepth 20000 in
theorem gX12_fail_X12_isIn : GoodIn wsX12_fail (va_wsS RX12 130 yX12_isIn wsX12_isIn) := goodIn_app (goodIn_of _ (by decide +kernel)) ggX12_fail_X12_isIn
set_option maxRecDepth 20000 in
theorem ggX12_fail_X12_nextFor : GoodIn wsX12_fail wsX12_nextFor := goodIn_r _ [11, 12, 13, 3, 14, 15, 16, 6, 17, 18, 19, 20, 21, 22, 4, 5, 7, 23, 24, 25, 26, 2, 31, 32, 33, 34, 35, 36, 37, 38, 39, 40, 41, 42, 43, 44, 45, 46, 47, 48, 49, 50, 51, 52, 53, 54, 55, 56, 57, 58, 59, 60, 61, 62, 63, 64, 65, 66, 67, 68, 69, 70, 71, 72, 73, 74, 75, 76, 77, 78, 79, 80, 81, 82, 83, 84] (by decide +kernel) (by decide +kernel)
set_option maxRecDepth 20000 in
theorem gX12_fail_X12_nextFor : GoodIn wsX12_fail (wsV RX12 279 RX12 yX12_nextFor wsX12_nextFor) := goodIn_app (goodIn_of _ (by decide +kernel)) ggX12_fail_X12_nextFor
set_option maxRecDepth 20000 in
theorem ggX12_fail_X12_has : GoodIn wsX12_fail wsX12_has := goodIn_r _ [30, 2, 3, 31, 32, 33, 34, 35, 36, 37, 38, 39, 40, 41, 42, 43, 44, 45, 46, 47, 48, 49, 50, 51, 52, 53, 54, 55, 56, 57, 58, 59, 60, 61, 62, 63, 64, 65, 66, 67, 68, 69, 70, 71, 72, 73, 74, 75, 76, 77, 78, 79, 80, 81, 82, 83, 84] (by decide +kernel) (by decide +kernel)
set_option maxRecDepth 20000 in
theorem gX12_fail_X12_has : GoodIn wsX12_fail (wsV RX12 282 RX12 yX12_has wsX12_has) := goodIn_app (goodIn_of _ (by decide +kernel)) ggX12_fail_X12_has
theorem dX12_fail_0 : decode cX12_fail 0 = .ok (.aload_n 0, 1) := by decide +kernel
theorem dX12_fail_1 : decode cX12_fail 1 = .ok (.getfield 140, 3) := by decide +kernel
theorem dX12_fail_4 : decode cX12_fail 4 = .ok (.iconst 1, 1) := by decide +kernel
theorem dX12_fail_5 : decode cX12_fail 5 = .ok (.isub, 1) := by decide +kernel
theorem dX12_fail_6 : decode cX12_fail 6 = .ok (.istore_n 2, 1) := by decide +kernel
theorem dX12_fail_7 : decode cX12_fail 7 = .ok (.iload_n 2, 1) := by decide +kernel
theorem dX12_fail_8 : decode cX12_fail 8 = .ok (.ifCond .lt 26, 3) := by decide +kernel
theorem dX12_fail_11 : decode cX12_fail 11 = .ok (.iload_n 1, 1) := by decide +kernel
theorem dX12_fail_12 : decode cX12_fail 12 = .ok (.iconst 0, 1) := by decide +kernel
theorem dX12_fail_13 : decode cX12_fail 13 = .ok (.iconst 3, 1) := by decide +kernel
theorem dX12_fail_14 : decode cX12_fail 14 = .ok (.invokestatic 130, 3) := by decide +kernel
theorem dX12_fail_17 : decode cX12_fail 17 = .ok (.ifCond .eq 17, 3) := by decide +kernel
theorem dX12_fail_20 : decode cX12_fail 20 = .ok (.aload_n 0, 1) := by decide +kernel
theorem dX12_fail_21 : decode cX12_fail 21 = .ok (.getfield 80, 3) := by decide +kernel
theorem dX12_fail_24 : decode cX12_fail 24 = .ok (.iconst 4, 1) := by decide +kernel
theorem dX12_fail_25 : decode cX12_fail 25 = .ok (.iload_n 2, 1) := by decide +kernel
theorem dX12_fail_26 : decode cX12_fail 26 = .ok (.imul, 1) := by decide +kernel
theorem dX12_fail_27 : decode cX12_fail 27 = .ok (.iload_n 1, 1) := by decide +kernel
theorem dX12_fail_28 : decode cX12_fail 28 = .ok (.iadd, 1) := by decide +kernel
theorem dX12_fail_29 : decode cX12_fail 29 = .ok (.iaload, 1) := by decide +kernel
theorem dX12_fail_30 : decode cX12_fail 30 = .ok (.iconst (-1), 1) := by decide +kernel
theorem dX12_fail_31 : decode cX12_fail 31 = .ok (.if_icmp .ne 6, 3) := by decide +kernel
theorem dX12_fail_34 : decode cX12_fail 34 = .ok (.bipush (-2), 2) := by decide +kernel
theorem dX12_fail_36 : decode cX12_fail 36 = .ok (.ireturn, 1) := by decide +kernel
theorem dX12_fail_37 : decode cX12_fail 37 = .ok (.aload_n 0, 1) := by decide +kernel
theorem dX12_fail_38 : decode cX12_fail 38 = .ok (.getfield 80, 3) := by decide +kernel
theorem dX12_fail_41 : decode cX12_fail 41 = .ok (.iconst 4, 1) := by decide +kernel
theorem dX12_fail_42 : decode cX12_fail 42 = .ok (.iload_n 2, 1) := by decide +kernel
theorem dX12_fail_43 : decode cX12_fail 43 = .ok (.imul, 1) := by decide +kernel
theorem dX12_fail_44 : decode cX12_fail 44 = .ok (.iload_n 1, 1) := by decide +kernel
theorem dX12_fail_45 : decode cX12_fail 45 = .ok (.iadd, 1) := by decide +kernel
theorem dX12_fail_46 : decode cX12_fail 46 = .ok (.iaload, 1) := by decide +kernel
theorem dX12_fail_47 : decode cX12_fail 47 = .ok (.istore_n 3, 1) := by decide +kernel
theorem dX12_fail_48 : decode cX12_fail 48 = .ok (.aload_n 0, 1) := by decide +kernel
theorem dX12_fail_49 : decode cX12_fail 49 = .ok (.getfield 20, 3) := by decide +kernel
theorem dX12_fail_52 : decode cX12_fail 52 = .ok (.iconst 4, 1) := by decide +kernel
theorem dX12_fail_53 : decode cX12_fail 53 = .ok (.iload_n 3, 1) := by decide +kernel
theorem dX12_fail_54 : decode cX12_fail 54 = .ok (.imul, 1) := by decide +kernel
theorem dX12_fail_55 : decode cX12_fail 55 = .ok (.iload_n 1, 1) := by decide +kernel
theorem dX12_fail_56 : decode cX12_fail 56 = .ok (.iadd, 1) := by decide +kernel
theorem dX12_fail_57 : decode cX12_fail 57 = .ok (.dup2, 1) := by decide +kernel
theorem dX12_fail_58 : decode cX12_fail 58 = .ok (.iaload, 1) := by decide +kernel
theorem dX12_fail_59 : decode cX12_fail 59 = .ok (.iconst 1, 1) := by decide +kernel
theorem dX12_fail_60 : decode cX12_fail 60 = .ok (.isub, 1) := by decide +kernel
theorem dX12_fail_61 : decode cX12_fail 61 = .ok (.iastore, 1) := by decide +kernel
theorem dX12_fail_62 : decode cX12_fail 62 = .ok (.aload_n 0, 1) := by decide +kernel
theorem dX12_fail_63 : decode cX12_fail 63 = .ok (.getfield 80, 3) := by decide +kernel
theorem dX12_fail_66 : decode cX12_fail 66 = .ok (.iconst 4, 1) := by decide +kernel
theorem dX12_fail_67 : decode cX12_fail 67 = .ok (.iload_n 2, 1) := by decide +kernel
theorem dX12_fail_68 : decode cX12_fail 68 = .ok (.imul, 1) := by decide +kernel
theorem dX12_fail_69 : decode cX12_fail 69 = .ok (.iload_n 1, 1) := by decide +kernel
theorem dX12_fail_70 : decode cX12_fail 70 = .ok (.iadd, 1) := by decide +kernel
theorem dX12_fail_71 : decode cX12_fail 71 = .ok (.iconst (-1), 1) := by decide +kernel
