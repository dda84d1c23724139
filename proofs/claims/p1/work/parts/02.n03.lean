theorem dX7_lastTold_29 : decode cX7_lastTold 29 = .ok (.isub, 1) := by decide +kernel
theorem dX7_lastTold_30 : decode cX7_lastTold 30 = .ok (.istore 5, 2) := by decide +kernel
theorem dX7_lastTold_32 : decode cX7_lastTold 32 = .ok (.iload 5, 2) := by decide +kernel
theorem dX7_lastTold_34 : decode cX7_lastTold 34 = .ok (.iload 4, 2) := by decide +kernel
theorem dX7_lastTold_36 : decode cX7_lastTold 36 = .ok (.bipush 16, 2) := by decide +kernel
theorem dX7_lastTold_38 : decode cX7_lastTold 38 = .ok (.imul, 1) := by decide +kernel
theorem dX7_lastTold_39 : decode cX7_lastTold 39 = .ok (.if_icmp .lt 39, 3) := by decide +kernel
theorem dX7_lastTold_42 : decode cX7_lastTold 42 = .ok (.aload_n 0, 1) := by decide +kernel
theorem dX7_lastTold_43 : decode cX7_lastTold 43 = .ok (.getfield 20, 3) := by decide +kernel
theorem dX7_lastTold_46 : decode cX7_lastTold 46 = .ok (.iload 5, 2) := by decide +kernel
theorem dX7_lastTold_48 : decode cX7_lastTold 48 = .ok (.iaload, 1) := by decide +kernel
theorem dX7_lastTold_49 : decode cX7_lastTold 49 = .ok (.iload_n 2, 1) := by decide +kernel
theorem dX7_lastTold_50 : decode cX7_lastTold 50 = .ok (.if_icmp .ne 22, 3) := by decide +kernel
theorem dX7_lastTold_53 : decode cX7_lastTold 53 = .ok (.aload_n 0, 1) := by decide +kernel
theorem dX7_lastTold_54 : decode cX7_lastTold 54 = .ok (.getfield 23, 3) := by decide +kernel
theorem dX7_lastTold_57 : decode cX7_lastTold 57 = .ok (.iload 5, 2) := by decide +kernel
theorem dX7_lastTold_59 : decode cX7_lastTold 59 = .ok (.iaload, 1) := by decide +kernel
theorem dX7_lastTold_60 : decode cX7_lastTold 60 = .ok (.iload_n 3, 1) := by decide +kernel
theorem dX7_lastTold_61 : decode cX7_lastTold 61 = .ok (.if_icmp .ne 11, 3) := by decide +kernel
theorem dX7_lastTold_64 : decode cX7_lastTold 64 = .ok (.aload_n 0, 1) := by decide +kernel
theorem dX7_lastTold_65 : decode cX7_lastTold 65 = .ok (.getfield 26, 3) := by decide +kernel
theorem dX7_lastTold_68 : decode cX7_lastTold 68 = .ok (.iload 5, 2) := by decide +kernel
theorem dX7_lastTold_70 : decode cX7_lastTold 70 = .ok (.iaload, 1) := by decide +kernel
theorem dX7_lastTold_71 : decode cX7_lastTold 71 = .ok (.ireturn, 1) := by decide +kernel
theorem dX7_lastTold_72 : decode cX7_lastTold 72 = .ok (.iinc 5 (-1), 3) := by decide +kernel
theorem dX7_lastTold_75 : decode cX7_lastTold 75 = .ok (.goto (-43), 3) := by decide +kernel
theorem dX7_lastTold_78 : decode cX7_lastTold 78 = .ok (.iconst (-1), 1) := by decide +kernel
theorem dX7_lastTold_79 : decode cX7_lastTold 79 = .ok (.ireturn, 1) := by decide +kernel
theorem dX8_minutes_0 : decode cX8_minutes 0 = .ok (.iload_n 0, 1) := by decide +kernel
theorem dX8_minutes_1 : decode cX8_minutes 1 = .ok (.sipush 355, 3) := by decide +kernel
theorem dX8_minutes_4 : decode cX8_minutes 4 = .ok (.if_icmp .lt 11, 3) := by decide +kernel
theorem dX8_minutes_7 : decode cX8_minutes 7 = .ok (.iload_n 0, 1) := by decide +kernel
theorem dX8_minutes_8 : decode cX8_minutes 8 = .ok (.sipush 355, 3) := by decide +kernel
theorem dX8_minutes_11 : decode cX8_minutes 11 = .ok (.isub, 1) := by decide +kernel
theorem dX8_minutes_12 : decode cX8_minutes 12 = .ok (.goto 12, 3) := by decide +kernel
theorem dX8_minutes_15 : decode cX8_minutes 15 = .ok (.iload_n 0, 1) := by decide +kernel
theorem dX8_minutes_16 : decode cX8_minutes 16 = .ok (.sipush 365, 3) := by decide +kernel
theorem dX8_minutes_19 : decode cX8_minutes 19 = .ok (.iadd, 1) := by decide +kernel
theorem dX8_minutes_20 : decode cX8_minutes 20 = .ok (.sipush 355, 3) := by decide +kernel
theorem dX8_minutes_23 : decode cX8_minutes 23 = .ok (.isub, 1) := by decide +kernel
theorem dX8_minutes_24 : decode cX8_minutes 24 = .ok (.istore_n 1, 1) := by decide +kernel
theorem dX8_minutes_25 : decode cX8_minutes 25 = .ok (.iload_n 1, 1) := by decide +kernel
theorem dX8_minutes_26 : decode cX8_minutes 26 = .ok (.sipush 182, 3) := by decide +kernel
theorem dX8_minutes_29 : decode cX8_minutes 29 = .ok (.if_icmp .gt 17, 3) := by decide +kernel
theorem dX8_minutes_32 : decode cX8_minutes 32 = .ok (.sipush 480, 3) := by decide +kernel
theorem dX8_minutes_35 : decode cX8_minutes 35 = .ok (.sipush 480, 3) := by decide +kernel
theorem dX8_minutes_38 : decode cX8_minutes 38 = .ok (.iload_n 1, 1) := by decide +kernel
theorem dX8_minutes_39 : decode cX8_minutes 39 = .ok (.imul, 1) := by decide +kernel
theorem dX8_minutes_40 : decode cX8_minutes 40 = .ok (.sipush 182, 3) := by decide +kernel
theorem dX8_minutes_43 : decode cX8_minutes 43 = .ok (.idiv, 1) := by decide +kernel
theorem dX8_minutes_44 : decode cX8_minutes 44 = .ok (.iadd, 1) := by decide +kernel
theorem dX8_minutes_45 : decode cX8_minutes 45 = .ok (.ireturn, 1) := by decide +kernel
theorem dX8_minutes_46 : decode cX8_minutes 46 = .ok (.sipush 960, 3) := by decide +kernel
theorem dX8_minutes_49 : decode cX8_minutes 49 = .ok (.sipush 480, 3) := by decide +kernel
theorem dX8_minutes_52 : decode cX8_minutes 52 = .ok (.iload_n 1, 1) := by decide +kernel
theorem dX8_minutes_53 : decode cX8_minutes 53 = .ok (.sipush 182, 3) := by decide +kernel
theorem dX8_minutes_56 : decode cX8_minutes 56 = .ok (.isub, 1) := by decide +kernel
theorem dX8_minutes_57 : decode cX8_minutes 57 = .ok (.imul, 1) := by decide +kernel
theorem dX8_minutes_58 : decode cX8_minutes 58 = .ok (.sipush 183, 3) := by decide +kernel
theorem dX8_minutes_61 : decode cX8_minutes 61 = .ok (.idiv, 1) := by decide +kernel
theorem dX8_minutes_62 : decode cX8_minutes 62 = .ok (.isub, 1) := by decide +kernel
theorem dX8_minutes_63 : decode cX8_minutes 63 = .ok (.ireturn, 1) := by decide +kernel
set_option maxRecDepth 20000 in
theorem ggX8_rise_X8_minutes : GoodIn wsX8_rise wsX8_minutes := goodIn_r _ [4] (by decide +kernel) (by decide +kernel)
set_option maxRecDepth 20000 in
theorem gX8_rise_X8_minutes : GoodIn wsX8_rise (va_wsS RX8 11 yX8_minutes wsX8_minutes) := goodIn_app (goodIn_of _ (by decide +kernel)) ggX8_rise_X8_minutes
theorem dX8_rise_0 : decode cX8_rise 0 = .ok (.sipush 720, 3) := by decide +kernel
theorem dX8_rise_3 : decode cX8_rise 3 = .ok (.iload_n 0, 1) := by decide +kernel
theorem dX8_rise_4 : decode cX8_rise 4 = .ok (.invokestatic 11, 3) := by decide +kernel
theorem dX8_rise_7 : decode cX8_rise 7 = .ok (.iconst 2, 1) := by decide +kernel
theorem dX8_rise_8 : decode cX8_rise 8 = .ok (.idiv, 1) := by decide +kernel
theorem dX8_rise_9 : decode cX8_rise 9 = .ok (.isub, 1) := by decide +kernel
theorem dX8_rise_10 : decode cX8_rise 10 = .ok (.ireturn, 1) := by decide +kernel
set_option maxRecDepth 20000 in
theorem ggX8_setting_X8_rise : GoodIn wsX8_setting wsX8_rise := goodIn_r _ [4, 5, 6, 3, 7] (by decide +kernel) (by decide +kernel)
set_option maxRecDepth 20000 in
theorem gX8_setting_X8_rise : GoodIn wsX8_setting (va_wsS RX8 15 yX8_rise wsX8_rise) := goodIn_app (goodIn_of _ (by decide +kernel)) ggX8_setting_X8_rise
set_option maxRecDepth 20000 in
theorem ggX8_setting_X8_minutes : GoodIn wsX8_setting wsX8_minutes := goodIn_r _ [7] (by decide +kernel) (by decide +kernel)
set_option maxRecDepth 20000 in
theorem gX8_setting_X8_minutes : GoodIn wsX8_setting (va_wsS RX8 11 yX8_minutes wsX8_minutes) := goodIn_app (goodIn_of _ (by decide +kernel)) ggX8_setting_X8_minutes
theorem dX8_setting_0 : decode cX8_setting 0 = .ok (.iload_n 0, 1) := by decide +kernel
theorem dX8_setting_1 : decode cX8_setting 1 = .ok (.invokestatic 15, 3) := by decide +kernel
theorem dX8_setting_4 : decode cX8_setting 4 = .ok (.iload_n 0, 1) := by decide +kernel
theorem dX8_setting_5 : decode cX8_setting 5 = .ok (.invokestatic 11, 3) := by decide +kernel
theorem dX8_setting_8 : decode cX8_setting 8 = .ok (.iadd, 1) := by decide +kernel
theorem dX8_setting_9 : decode cX8_setting 9 = .ok (.ireturn, 1) := by decide +kernel
set_option maxRecDepth 20000 in
theorem ggX8_bell_X8_minutes : GoodIn wsX8_bell wsX8_minutes := goodIn_r _ [4] (by decide +kernel) (by decide +kernel)
set_option maxRecDepth 20000 in
theorem gX8_bell_X8_minutes : GoodIn wsX8_bell (va_wsS RX8 11 yX8_minutes wsX8_minutes) := goodIn_app (goodIn_of _ (by decide +kernel)) ggX8_bell_X8_minutes
set_option maxRecDepth 20000 in
theorem ggX8_bell_X8_rise : GoodIn wsX8_bell wsX8_rise := goodIn_r _ [7, 1, 2, 3, 4] (by decide +kernel) (by decide +kernel)
set_option maxRecDepth 20000 in
theorem gX8_bell_X8_rise : GoodIn wsX8_bell (va_wsS RX8 15 yX8_rise wsX8_rise) := goodIn_app (goodIn_of _ (by decide +kernel)) ggX8_bell_X8_rise
theorem dX8_bell_0 : decode cX8_bell 0 = .ok (.iload_n 0, 1) := by decide +kernel
theorem dX8_bell_1 : decode cX8_bell 1 = .ok (.invokestatic 11, 3) := by decide +kernel
theorem dX8_bell_4 : decode cX8_bell 4 = .ok (.istore_n 2, 1) := by decide +kernel
theorem dX8_bell_5 : decode cX8_bell 5 = .ok (.iload_n 0, 1) := by decide +kernel
theorem dX8_bell_6 : decode cX8_bell 6 = .ok (.invokestatic 15, 3) := by decide +kernel
theorem dX8_bell_9 : decode cX8_bell 9 = .ok (.istore_n 3, 1) := by decide +kernel
theorem dX8_bell_10 : decode cX8_bell 10 = .ok (.iload_n 3, 1) := by decide +kernel
theorem dX8_bell_11 : decode cX8_bell 11 = .ok (.iload_n 2, 1) := by decide +kernel
theorem dX8_bell_12 : decode cX8_bell 12 = .ok (.iadd, 1) := by decide +kernel
theorem dX8_bell_13 : decode cX8_bell 13 = .ok (.istore 4, 2) := by decide +kernel
theorem dX8_bell_15 : decode cX8_bell 15 = .ok (.iload_n 1, 1) := by decide +kernel
theorem dX8_bell_16 : decode cX8_bell 16 = .ok (.tableswitch 94 0 6 #[44, 48, 53, 55, 64, 74, 84], 44) := by decide +kernel
theorem dX8_bell_60 : decode cX8_bell 60 = .ok (.iload_n 3, 1) := by decide +kernel
theorem dX8_bell_61 : decode cX8_bell 61 = .ok (.iconst 3, 1) := by decide +kernel
theorem dX8_bell_62 : decode cX8_bell 62 = .ok (.idiv, 1) := by decide +kernel
theorem dX8_bell_63 : decode cX8_bell 63 = .ok (.ireturn, 1) := by decide +kernel
theorem dX8_bell_64 : decode cX8_bell 64 = .ok (.iload_n 3, 1) := by decide +kernel
theorem dX8_bell_65 : decode cX8_bell 65 = .ok (.bipush 60, 2) := by decide +kernel
theorem dX8_bell_67 : decode cX8_bell 67 = .ok (.isub, 1) := by decide +kernel
theorem dX8_bell_68 : decode cX8_bell 68 = .ok (.ireturn, 1) := by decide +kernel
theorem dX8_bell_69 : decode cX8_bell 69 = .ok (.iload_n 3, 1) := by decide +kernel
theorem dX8_bell_70 : decode cX8_bell 70 = .ok (.ireturn, 1) := by decide +kernel
theorem dX8_bell_71 : decode cX8_bell 71 = .ok (.iload_n 3, 1) := by decide +kernel
theorem dX8_bell_72 : decode cX8_bell 72 = .ok (.iload_n 2, 1) := by decide +kernel
theorem dX8_bell_73 : decode cX8_bell 73 = .ok (.iconst 3, 1) := by decide +kernel
theorem dX8_bell_74 : decode cX8_bell 74 = .ok (.imul, 1) := by decide +kernel
theorem dX8_bell_75 : decode cX8_bell 75 = .ok (.bipush 12, 2) := by decide +kernel
theorem dX8_bell_77 : decode cX8_bell 77 = .ok (.idiv, 1) := by decide +kernel
theorem dX8_bell_78 : decode cX8_bell 78 = .ok (.iadd, 1) := by decide +kernel
theorem dX8_bell_79 : decode cX8_bell 79 = .ok (.ireturn, 1) := by decide +kernel
theorem dX8_bell_80 : decode cX8_bell 80 = .ok (.iload_n 3, 1) := by decide +kernel
theorem dX8_bell_81 : decode cX8_bell 81 = .ok (.iload_n 2, 1) := by decide +kernel
theorem dX8_bell_82 : decode cX8_bell 82 = .ok (.bipush 6, 2) := by decide +kernel
theorem dX8_bell_84 : decode cX8_bell 84 = .ok (.imul, 1) := by decide +kernel
theorem dX8_bell_85 : decode cX8_bell 85 = .ok (.bipush 12, 2) := by decide +kernel
theorem dX8_bell_87 : decode cX8_bell 87 = .ok (.idiv, 1) := by decide +kernel
theorem dX8_bell_88 : decode cX8_bell 88 = .ok (.iadd, 1) := by decide +kernel
theorem dX8_bell_89 : decode cX8_bell 89 = .ok (.ireturn, 1) := by decide +kernel
theorem dX8_bell_90 : decode cX8_bell 90 = .ok (.iload_n 3, 1) := by decide +kernel
theorem dX8_bell_91 : decode cX8_bell 91 = .ok (.iload_n 2, 1) := by decide +kernel
theorem dX8_bell_92 : decode cX8_bell 92 = .ok (.bipush 9, 2) := by decide +kernel
theorem dX8_bell_94 : decode cX8_bell 94 = .ok (.imul, 1) := by decide +kernel
theorem dX8_bell_95 : decode cX8_bell 95 = .ok (.bipush 12, 2) := by decide +kernel
theorem dX8_bell_97 : decode cX8_bell 97 = .ok (.idiv, 1) := by decide +kernel
theorem dX8_bell_98 : decode cX8_bell 98 = .ok (.iadd, 1) := by decide +kernel
theorem dX8_bell_99 : decode cX8_bell 99 = .ok (.ireturn, 1) := by decide +kernel
theorem dX8_bell_100 : decode cX8_bell 100 = .ok (.iload_n 3, 1) := by decide +kernel
theorem dX8_bell_101 : decode cX8_bell 101 = .ok (.iload_n 2, 1) := by decide +kernel
theorem dX8_bell_102 : decode cX8_bell 102 = .ok (.bipush 11, 2) := by decide +kernel
theorem dX8_bell_104 : decode cX8_bell 104 = .ok (.imul, 1) := by decide +kernel
theorem dX8_bell_105 : decode cX8_bell 105 = .ok (.bipush 12, 2) := by decide +kernel
theorem dX8_bell_107 : decode cX8_bell 107 = .ok (.idiv, 1) := by decide +kernel
theorem dX8_bell_108 : decode cX8_bell 108 = .ok (.iadd, 1) := by decide +kernel
theorem dX8_bell_109 : decode cX8_bell 109 = .ok (.ireturn, 1) := by decide +kernel
theorem dX8_bell_110 : decode cX8_bell 110 = .ok (.iload 4, 2) := by decide +kernel
theorem dX8_bell_112 : decode cX8_bell 112 = .ok (.sipush 1440, 3) := by decide +kernel
theorem dX8_bell_115 : decode cX8_bell 115 = .ok (.iload 4, 2) := by decide +kernel
theorem dX8_bell_117 : decode cX8_bell 117 = .ok (.isub, 1) := by decide +kernel
theorem dX8_bell_118 : decode cX8_bell 118 = .ok (.iconst 3, 1) := by decide +kernel
theorem dX8_bell_119 : decode cX8_bell 119 = .ok (.idiv, 1) := by decide +kernel
theorem dX8_bell_120 : decode cX8_bell 120 = .ok (.iadd, 1) := by decide +kernel
theorem dX8_bell_121 : decode cX8_bell 121 = .ok (.ireturn, 1) := by decide +kernel
theorem dX9_init_0 : decode cX9_init 0 = .ok (.aload_n 0, 1) := by decide +kernel
theorem dX9_init_1 : decode cX9_init 1 = .ok (.invokespecial 1, 3) := by decide +kernel
theorem dX9_init_4 : decode cX9_init 4 = .ok (.aload_n 0, 1) := by decide +kernel
theorem dX9_init_5 : decode cX9_init 5 = .ok (.sipush 600, 3) := by decide +kernel
theorem dX9_init_8 : decode cX9_init 8 = .ok (.newarray .byte, 2) := by decide +kernel
theorem dX9_init_10 : decode cX9_init 10 = .ok (.putfield 9, 3) := by decide +kernel
theorem dX9_init_13 : decode cX9_init 13 = .ok (.return_, 1) := by decide +kernel
theorem dX9_length_0 : decode cX9_length 0 = .ok (.aload_n 0, 1) := by decide +kernel
theorem dX9_length_1 : decode cX9_length 1 = .ok (.getfield 13, 3) := by decide +kernel
theorem dX9_length_4 : decode cX9_length 4 = .ok (.ireturn, 1) := by decide +kernel
theorem dX9_hasRoomForFeed_0 : decode cX9_hasRoomForFeed 0 = .ok (.aload_n 0, 1) := by decide +kernel
theorem dX9_hasRoomForFeed_1 : decode cX9_hasRoomForFeed 1 = .ok (.getfield 13, 3) := by decide +kernel
theorem dX9_hasRoomForFeed_4 : decode cX9_hasRoomForFeed 4 = .ok (.bipush 20, 2) := by decide +kernel
theorem dX9_hasRoomForFeed_6 : decode cX9_hasRoomForFeed 6 = .ok (.iadd, 1) := by decide +kernel
theorem dX9_hasRoomForFeed_7 : decode cX9_hasRoomForFeed 7 = .ok (.sipush 600, 3) := by decide +kernel
theorem dX9_hasRoomForFeed_10 : decode cX9_hasRoomForFeed 10 = .ok (.if_icmp .gt 7, 3) := by decide +kernel
theorem dX9_hasRoomForFeed_13 : decode cX9_hasRoomForFeed 13 = .ok (.iconst 1, 1) := by decide +kernel
theorem dX9_hasRoomForFeed_14 : decode cX9_hasRoomForFeed 14 = .ok (.goto 4, 3) := by decide +kernel
theorem dX9_hasRoomForFeed_17 : decode cX9_hasRoomForFeed 17 = .ok (.iconst 0, 1) := by decide +kernel
theorem dX9_hasRoomForFeed_18 : decode cX9_hasRoomForFeed 18 = .ok (.ireturn, 1) := by decide +kernel
theorem dX9_put_0 : decode cX9_put 0 = .ok (.bipush 24, 2) := by decide +kernel
theorem dX9_put_2 : decode cX9_put 2 = .ok (.istore_n 2, 1) := by decide +kernel
theorem dX9_put_3 : decode cX9_put 3 = .ok (.iload_n 2, 1) := by decide +kernel
theorem dX9_put_4 : decode cX9_put 4 = .ok (.ifCond .lt 42, 3) := by decide +kernel
theorem dX9_put_7 : decode cX9_put 7 = .ok (.aload_n 0, 1) := by decide +kernel
theorem dX9_put_8 : decode cX9_put 8 = .ok (.getfield 13, 3) := by decide +kernel
theorem dX9_put_11 : decode cX9_put 11 = .ok (.sipush 600, 3) := by decide +kernel
theorem dX9_put_14 : decode cX9_put 14 = .ok (.if_icmp .ge 26, 3) := by decide +kernel
theorem dX9_put_17 : decode cX9_put 17 = .ok (.aload_n 0, 1) := by decide +kernel
theorem dX9_put_18 : decode cX9_put 18 = .ok (.getfield 9, 3) := by decide +kernel
theorem dX9_put_21 : decode cX9_put 21 = .ok (.aload_n 0, 1) := by decide +kernel
theorem dX9_put_22 : decode cX9_put 22 = .ok (.getfield 13, 3) := by decide +kernel
theorem dX9_put_25 : decode cX9_put 25 = .ok (.iload_n 1, 1) := by decide +kernel
theorem dX9_put_26 : decode cX9_put 26 = .ok (.iload_n 2, 1) := by decide +kernel
theorem dX9_put_27 : decode cX9_put 27 = .ok (.ishr, 1) := by decide +kernel
theorem dX9_put_28 : decode cX9_put 28 = .ok (.i2b, 1) := by decide +kernel
theorem dX9_put_29 : decode cX9_put 29 = .ok (.bastore, 1) := by decide +kernel
theorem dX9_put_30 : decode cX9_put 30 = .ok (.aload_n 0, 1) := by decide +kernel
theorem dX9_put_31 : decode cX9_put 31 = .ok (.dup, 1) := by decide +kernel
theorem dX9_put_32 : decode cX9_put 32 = .ok (.getfield 13, 3) := by decide +kernel
theorem dX9_put_35 : decode cX9_put 35 = .ok (.iconst 1, 1) := by decide +kernel
theorem dX9_put_36 : decode cX9_put 36 = .ok (.iadd, 1) := by decide +kernel
theorem dX9_put_37 : decode cX9_put 37 = .ok (.putfield 13, 3) := by decide +kernel
theorem dX9_put_40 : decode cX9_put 40 = .ok (.iinc 2 (-8), 3) := by decide +kernel
theorem dX9_put_43 : decode cX9_put 43 = .ok (.goto (-40), 3) := by decide +kernel
theorem dX9_put_46 : decode cX9_put 46 = .ok (.return_, 1) := by decide +kernel
theorem dX9_wipe_0 : decode cX9_wipe 0 = .ok (.aload_n 0, 1) := by decide +kernel
theorem dX9_wipe_1 : decode cX9_wipe 1 = .ok (.iconst 0, 1) := by decide +kernel
theorem dX9_wipe_2 : decode cX9_wipe 2 = .ok (.putfield 13, 3) := by decide +kernel
theorem dX9_wipe_5 : decode cX9_wipe 5 = .ok (.return_, 1) := by decide +kernel
theorem dX9_byteAt_0 : decode cX9_byteAt 0 = .ok (.iload_n 1, 1) := by decide +kernel
theorem dX9_byteAt_1 : decode cX9_byteAt 1 = .ok (.ifCond .lt 20, 3) := by decide +kernel
theorem dX9_byteAt_4 : decode cX9_byteAt 4 = .ok (.iload_n 1, 1) := by decide +kernel
theorem dX9_byteAt_5 : decode cX9_byteAt 5 = .ok (.aload_n 0, 1) := by decide +kernel
theorem dX9_byteAt_6 : decode cX9_byteAt 6 = .ok (.getfield 13, 3) := by decide +kernel
theorem dX9_byteAt_9 : decode cX9_byteAt 9 = .ok (.if_icmp .ge 12, 3) := by decide +kernel
theorem dX9_byteAt_12 : decode cX9_byteAt 12 = .ok (.aload_n 0, 1) := by decide +kernel
theorem dX9_byteAt_13 : decode cX9_byteAt 13 = .ok (.getfield 9, 3) := by decide +kernel
theorem dX9_byteAt_16 : decode cX9_byteAt 16 = .ok (.iload_n 1, 1) := by decide +kernel
theorem dX9_byteAt_17 : decode cX9_byteAt 17 = .ok (.baload, 1) := by decide +kernel
theorem dX9_byteAt_18 : decode cX9_byteAt 18 = .ok (.goto 4, 3) := by decide +kernel
theorem dX9_byteAt_21 : decode cX9_byteAt 21 = .ok (.iconst 0, 1) := by decide +kernel
theorem dX9_byteAt_22 : decode cX9_byteAt 22 = .ok (.ireturn, 1) := by decide +kernel
theorem dX10_init_0 : decode cX10_init 0 = .ok (.aload_n 0, 1) := by decide +kernel
theorem dX10_init_1 : decode cX10_init 1 = .ok (.invokespecial 3, 3) := by decide +kernel
theorem dX10_init_4 : decode cX10_init 4 = .ok (.aload_n 0, 1) := by decide +kernel
theorem dX10_init_5 : decode cX10_init 5 = .ok (.bipush 97, 2) := by decide +kernel
theorem dX10_init_7 : decode cX10_init 7 = .ok (.newarray .int, 2) := by decide +kernel
theorem dX10_init_9 : decode cX10_init 9 = .ok (.putfield 11, 3) := by decide +kernel
theorem dX10_init_12 : decode cX10_init 12 = .ok (.aload_n 0, 1) := by decide +kernel
theorem dX10_init_13 : decode cX10_init 13 = .ok (.bipush 97, 2) := by decide +kernel
theorem dX10_init_15 : decode cX10_init 15 = .ok (.newarray .int, 2) := by decide +kernel
theorem dX10_init_17 : decode cX10_init 17 = .ok (.putfield 15, 3) := by decide +kernel
theorem dX10_init_20 : decode cX10_init 20 = .ok (.aload_n 0, 1) := by decide +kernel
theorem dX10_init_21 : decode cX10_init 21 = .ok (.bipush 97, 2) := by decide +kernel
theorem dX10_init_23 : decode cX10_init 23 = .ok (.newarray .int, 2) := by decide +kernel
theorem dX10_init_25 : decode cX10_init 25 = .ok (.putfield 18, 3) := by decide +kernel
theorem dX10_init_28 : decode cX10_init 28 = .ok (.return_, 1) := by decide +kernel
theorem dX10_kind_0 : decode cX10_kind 0 = .ok (.iload_n 1, 1) := by decide +kernel
theorem dX10_kind_1 : decode cX10_kind 1 = .ok (.ifCond .lt 20, 3) := by decide +kernel
theorem dX10_kind_4 : decode cX10_kind 4 = .ok (.iload_n 1, 1) := by decide +kernel
theorem dX10_kind_5 : decode cX10_kind 5 = .ok (.aload_n 0, 1) := by decide +kernel
theorem dX10_kind_6 : decode cX10_kind 6 = .ok (.getfield 21, 3) := by decide +kernel
theorem dX10_kind_9 : decode cX10_kind 9 = .ok (.if_icmp .ge 12, 3) := by decide +kernel
theorem dX10_kind_12 : decode cX10_kind 12 = .ok (.aload_n 0, 1) := by decide +kernel
theorem dX10_kind_13 : decode cX10_kind 13 = .ok (.getfield 11, 3) := by decide +kernel
theorem dX10_kind_16 : decode cX10_kind 16 = .ok (.iload_n 1, 1) := by decide +kernel
theorem dX10_kind_17 : decode cX10_kind 17 = .ok (.iaload, 1) := by decide +kernel
theorem dX10_kind_18 : decode cX10_kind 18 = .ok (.goto 4, 3) := by decide +kernel
theorem dX10_kind_21 : decode cX10_kind 21 = .ok (.iconst 0, 1) := by decide +kernel
theorem dX10_kind_22 : decode cX10_kind 22 = .ok (.ireturn, 1) := by decide +kernel
theorem dX10_place_0 : decode cX10_place 0 = .ok (.iload_n 1, 1) := by decide +kernel
theorem dX10_place_1 : decode cX10_place 1 = .ok (.ifCond .lt 20, 3) := by decide +kernel
theorem dX10_place_4 : decode cX10_place 4 = .ok (.iload_n 1, 1) := by decide +kernel
theorem dX10_place_5 : decode cX10_place 5 = .ok (.aload_n 0, 1) := by decide +kernel
theorem dX10_place_6 : decode cX10_place 6 = .ok (.getfield 21, 3) := by decide +kernel
theorem dX10_place_9 : decode cX10_place 9 = .ok (.if_icmp .ge 12, 3) := by decide +kernel
theorem dX10_place_12 : decode cX10_place 12 = .ok (.aload_n 0, 1) := by decide +kernel
theorem dX10_place_13 : decode cX10_place 13 = .ok (.getfield 15, 3) := by decide +kernel
theorem dX10_place_16 : decode cX10_place 16 = .ok (.iload_n 1, 1) := by decide +kernel
theorem dX10_place_17 : decode cX10_place 17 = .ok (.iaload, 1) := by decide +kernel
theorem dX10_place_18 : decode cX10_place 18 = .ok (.goto 7, 3) := by decide +kernel
theorem dX10_place_21 : decode cX10_place 21 = .ok (.aload_n 0, 1) := by decide +kernel
theorem dX10_place_22 : decode cX10_place 22 = .ok (.getfield 25, 3) := by decide +kernel
theorem dX10_place_25 : decode cX10_place 25 = .ok (.ireturn, 1) := by decide +kernel
theorem dX10_value_0 : decode cX10_value 0 = .ok (.iload_n 1, 1) := by decide +kernel
theorem dX10_value_1 : decode cX10_value 1 = .ok (.ifCond .lt 20, 3) := by decide +kernel
theorem dX10_value_4 : decode cX10_value 4 = .ok (.iload_n 1, 1) := by decide +kernel
theorem dX10_value_5 : decode cX10_value 5 = .ok (.aload_n 0, 1) := by decide +kernel
theorem dX10_value_6 : decode cX10_value 6 = .ok (.getfield 21, 3) := by decide +kernel
theorem dX10_value_9 : decode cX10_value 9 = .ok (.if_icmp .ge 12, 3) := by decide +kernel
theorem dX10_value_12 : decode cX10_value 12 = .ok (.aload_n 0, 1) := by decide +kernel
theorem dX10_value_13 : decode cX10_value 13 = .ok (.getfield 18, 3) := by decide +kernel
theorem dX10_value_16 : decode cX10_value 16 = .ok (.iload_n 1, 1) := by decide +kernel
theorem dX10_value_17 : decode cX10_value 17 = .ok (.iaload, 1) := by decide +kernel
theorem dX10_value_18 : decode cX10_value 18 = .ok (.goto 4, 3) := by decide +kernel
theorem dX10_value_21 : decode cX10_value 21 = .ok (.iconst 0, 1) := by decide +kernel
theorem dX10_value_22 : decode cX10_value 22 = .ok (.ireturn, 1) := by decide +kernel
set_option maxRecDepth 20000 in
theorem ggX10_scan_X9_byteAt : GoodIn wsX10_scan wsX9_byteAt := goodIn_r _ [11, 12, 13, 101, 102] (by decide +kernel) (by decide +kernel)
set_option maxRecDepth 20000 in
theorem gX10_scan_X9_byteAt : GoodIn wsX10_scan (wsV RX10 28 RX9 yX9_byteAt wsX9_byteAt) := goodIn_app (goodIn_of _ (by decide +kernel)) ggX10_scan_X9_byteAt
set_option maxRecDepth 20000 in
theorem ggX10_scan_X10_isBlank : GoodIn wsX10_scan wsX10_isBlank := goodIn_r _ [17] (by decide +kernel) (by decide +kernel)
set_option maxRecDepth 20000 in
theorem gX10_scan_X10_isBlank : GoodIn wsX10_scan (va_wsS RX10 34 yX10_isBlank wsX10_isBlank) := goodIn_app (goodIn_of _ (by decide +kernel)) ggX10_scan_X10_isBlank
set_option maxRecDepth 20000 in
theorem ggX10_scan_X10_endOfToken : GoodIn wsX10_scan wsX10_endOfToken := goodIn_r _ [21, 2, 7, 8, 9, 10, 11, 12, 13, 22, 23, 16, 24, 25, 26, 27, 96, 97, 98, 99, 100, 101, 102] (by decide +kernel) (by decide +kernel)
set_option maxRecDepth 20000 in
theorem gX10_scan_X10_endOfToken : GoodIn wsX10_scan (wsV RX10 38 RX10 yX10_endOfToken wsX10_endOfToken) := goodIn_app (goodIn_of _ (by decide +kernel)) ggX10_scan_X10_endOfToken
set_option maxRecDepth 20000 in
theorem ggX10_scan_X10_keep : GoodIn wsX10_scan wsX10_keep := goodIn_r _ [31, 1, 32, 33, 34, 35, 36, 16, 37, 7, 8, 9, 10, 11, 12, 13, 22, 23, 24, 38, 39, 40, 41, 42, 43, 44, 45, 46, 47, 48, 49, 50, 51, 52, 53, 54, 55, 56, 57, 58, 59, 60, 61, 62, 63, 64, 65, 66, 67, 68, 69, 70, 71, 72, 73, 74, 75, 76, 77, 78, 79, 80, 81, 82, 83, 84, 85, 86, 87, 88, 89, 90, 91, 92, 25, 26, 27, 93, 94, 95, 96, 97, 98, 99, 100, 101, 102] (by decide +kernel) (by decide +kernel)
set_option maxRecDepth 20000 in
theorem gX10_scan_X10_keep : GoodIn wsX10_scan (wsV RX10 42 RX10 yX10_keep wsX10_keep) := goodIn_app (goodIn_of _ (by decide +kernel)) ggX10_scan_X10_keep
theorem dX10_scan_0 : decode cX10_scan 0 = .ok (.aload_n 0, 1) := by decide +kernel
theorem dX10_scan_1 : decode cX10_scan 1 = .ok (.iconst 0, 1) := by decide +kernel
theorem dX10_scan_2 : decode cX10_scan 2 = .ok (.putfield 21, 3) := by decide +kernel
theorem dX10_scan_5 : decode cX10_scan 5 = .ok (.aload_n 0, 1) := by decide +kernel
theorem dX10_scan_6 : decode cX10_scan 6 = .ok (.iload_n 2, 1) := by decide +kernel
theorem dX10_scan_7 : decode cX10_scan 7 = .ok (.putfield 25, 3) := by decide +kernel
theorem dX10_scan_10 : decode cX10_scan 10 = .ok (.iconst 0, 1) := by decide +kernel
theorem dX10_scan_11 : decode cX10_scan 11 = .ok (.istore_n 3, 1) := by decide +kernel
theorem dX10_scan_12 : decode cX10_scan 12 = .ok (.iload_n 3, 1) := by decide +kernel
theorem dX10_scan_13 : decode cX10_scan 13 = .ok (.iload_n 2, 1) := by decide +kernel
theorem dX10_scan_14 : decode cX10_scan 14 = .ok (.if_icmp .ge 54, 3) := by decide +kernel
theorem dX10_scan_17 : decode cX10_scan 17 = .ok (.aload_n 0, 1) := by decide +kernel
theorem dX10_scan_18 : decode cX10_scan 18 = .ok (.getfield 21, 3) := by decide +kernel
theorem dX10_scan_21 : decode cX10_scan 21 = .ok (.bipush 97, 2) := by decide +kernel
theorem dX10_scan_23 : decode cX10_scan 23 = .ok (.if_icmp .ge 45, 3) := by decide +kernel
theorem dX10_scan_26 : decode cX10_scan 26 = .ok (.aload_n 1, 1) := by decide +kernel
theorem dX10_scan_27 : decode cX10_scan 27 = .ok (.iload_n 3, 1) := by decide +kernel
theorem dX10_scan_28 : decode cX10_scan 28 = .ok (.invokevirtual 28, 3) := by decide +kernel
theorem dX10_scan_31 : decode cX10_scan 31 = .ok (.invokestatic 34, 3) := by decide +kernel
theorem dX10_scan_34 : decode cX10_scan 34 = .ok (.ifCond .ne 28, 3) := by decide +kernel
theorem dX10_scan_37 : decode cX10_scan 37 = .ok (.aload_n 0, 1) := by decide +kernel
theorem dX10_scan_38 : decode cX10_scan 38 = .ok (.aload_n 1, 1) := by decide +kernel
theorem dX10_scan_39 : decode cX10_scan 39 = .ok (.iload_n 3, 1) := by decide +kernel
theorem dX10_scan_40 : decode cX10_scan 40 = .ok (.invokevirtual 38, 3) := by decide +kernel
theorem dX10_scan_43 : decode cX10_scan 43 = .ok (.istore 4, 2) := by decide +kernel
theorem dX10_scan_45 : decode cX10_scan 45 = .ok (.aload_n 0, 1) := by decide +kernel
theorem dX10_scan_46 : decode cX10_scan 46 = .ok (.aload_n 1, 1) := by decide +kernel
theorem dX10_scan_47 : decode cX10_scan 47 = .ok (.iload_n 3, 1) := by decide +kernel
theorem dX10_scan_48 : decode cX10_scan 48 = .ok (.iload 4, 2) := by decide +kernel
theorem dX10_scan_50 : decode cX10_scan 50 = .ok (.invokevirtual 42, 3) := by decide +kernel
theorem dX10_scan_53 : decode cX10_scan 53 = .ok (.iload_n 3, 1) := by decide +kernel
theorem dX10_scan_54 : decode cX10_scan 54 = .ok (.iload 4, 2) := by decide +kernel
theorem dX10_scan_56 : decode cX10_scan 56 = .ok (.iconst 1, 1) := by decide +kernel
theorem dX10_scan_57 : decode cX10_scan 57 = .ok (.isub, 1) := by decide +kernel
theorem dX10_scan_58 : decode cX10_scan 58 = .ok (.invokestatic 46, 3) := by decide +kernel
theorem dX10_scan_61 : decode cX10_scan 61 = .ok (.istore_n 3, 1) := by decide +kernel
theorem dX10_scan_62 : decode cX10_scan 62 = .ok (.iinc 3 1, 3) := by decide +kernel
theorem dX10_scan_65 : decode cX10_scan 65 = .ok (.goto (-53), 3) := by decide +kernel
theorem dX10_scan_68 : decode cX10_scan 68 = .ok (.return_, 1) := by decide +kernel
set_option maxRecDepth 20000 in
theorem ggX10_keep_X10_kindOf : GoodIn wsX10_keep wsX10_kindOf := goodIn_r _ [8, 9, 10, 11, 12, 13, 14, 15, 16, 17, 7, 18, 19, 20, 21, 22, 23, 24, 25, 26, 27, 28, 29, 30, 31, 32, 33, 34, 35, 36, 37, 38, 39, 40, 41, 42, 43, 44, 45, 46, 47, 48, 49, 50, 51, 52, 53, 54, 55, 56, 57, 58, 59, 60, 61, 62, 63, 64, 65, 66, 67, 68, 69, 70, 71, 72, 73, 74, 75, 76, 85, 86] (by decide +kernel) (by decide +kernel)
set_option maxRecDepth 20000 in
theorem gX10_keep_X10_kindOf : GoodIn wsX10_keep (va_wsS RX10 52 yX10_kindOf wsX10_kindOf) := goodIn_app (goodIn_of _ (by decide +kernel)) ggX10_keep_X10_kindOf
set_option maxRecDepth 20000 in
theorem ggX10_keep_X10_numberOf : GoodIn wsX10_keep wsX10_numberOf := goodIn_r _ [79, 9, 10, 11, 12, 13, 14, 15, 85, 86] (by decide +kernel) (by decide +kernel)
set_option maxRecDepth 20000 in
theorem gX10_keep_X10_numberOf : GoodIn wsX10_keep (va_wsS RX10 56 yX10_numberOf wsX10_numberOf) := goodIn_app (goodIn_of _ (by decide +kernel)) ggX10_keep_X10_numberOf
theorem dX10_keep_0 : decode cX10_keep 0 = .ok (.aload_n 0, 1) := by decide +kernel
theorem dX10_keep_1 : decode cX10_keep 1 = .ok (.getfield 21, 3) := by decide +kernel
theorem dX10_keep_4 : decode cX10_keep 4 = .ok (.bipush 97, 2) := by decide +kernel
theorem dX10_keep_6 : decode cX10_keep 6 = .ok (.if_icmp .lt 4, 3) := by decide +kernel
theorem dX10_keep_9 : decode cX10_keep 9 = .ok (.return_, 1) := by decide +kernel
theorem dX10_keep_10 : decode cX10_keep 10 = .ok (.aload_n 1, 1) := by decide +kernel
theorem dX10_keep_11 : decode cX10_keep 11 = .ok (.iload_n 2, 1) := by decide +kernel
theorem dX10_keep_12 : decode cX10_keep 12 = .ok (.iload_n 3, 1) := by decide +kernel
theorem dX10_keep_13 : decode cX10_keep 13 = .ok (.invokestatic 52, 3) := by decide +kernel
theorem dX10_keep_16 : decode cX10_keep 16 = .ok (.istore 4, 2) := by decide +kernel
theorem dX10_keep_18 : decode cX10_keep 18 = .ok (.aload_n 0, 1) := by decide +kernel
theorem dX10_keep_19 : decode cX10_keep 19 = .ok (.getfield 11, 3) := by decide +kernel
theorem dX10_keep_22 : decode cX10_keep 22 = .ok (.aload_n 0, 1) := by decide +kernel
theorem dX10_keep_23 : decode cX10_keep 23 = .ok (.getfield 21, 3) := by decide +kernel
theorem dX10_keep_26 : decode cX10_keep 26 = .ok (.iload 4, 2) := by decide +kernel
theorem dX10_keep_28 : decode cX10_keep 28 = .ok (.iastore, 1) := by decide +kernel
theorem dX10_keep_29 : decode cX10_keep 29 = .ok (.aload_n 0, 1) := by decide +kernel
theorem dX10_keep_30 : decode cX10_keep 30 = .ok (.getfield 15, 3) := by decide +kernel
theorem dX10_keep_33 : decode cX10_keep 33 = .ok (.aload_n 0, 1) := by decide +kernel
theorem dX10_keep_34 : decode cX10_keep 34 = .ok (.getfield 21, 3) := by decide +kernel
theorem dX10_keep_37 : decode cX10_keep 37 = .ok (.iload_n 2, 1) := by decide +kernel
theorem dX10_keep_38 : decode cX10_keep 38 = .ok (.iastore, 1) := by decide +kernel
theorem dX10_keep_39 : decode cX10_keep 39 = .ok (.aload_n 0, 1) := by decide +kernel
theorem dX10_keep_40 : decode cX10_keep 40 = .ok (.getfield 18, 3) := by decide +kernel
theorem dX10_keep_43 : decode cX10_keep 43 = .ok (.aload_n 0, 1) := by decide +kernel
theorem dX10_keep_44 : decode cX10_keep 44 = .ok (.getfield 21, 3) := by decide +kernel
theorem dX10_keep_47 : decode cX10_keep 47 = .ok (.iload 4, 2) := by decide +kernel
theorem dX10_keep_49 : decode cX10_keep 49 = .ok (.iconst 3, 1) := by decide +kernel
theorem dX10_keep_50 : decode cX10_keep 50 = .ok (.if_icmp .ne 12, 3) := by decide +kernel
theorem dX10_keep_53 : decode cX10_keep 53 = .ok (.aload_n 1, 1) := by decide +kernel
theorem dX10_keep_54 : decode cX10_keep 54 = .ok (.iload_n 2, 1) := by decide +kernel
theorem dX10_keep_55 : decode cX10_keep 55 = .ok (.iload_n 3, 1) := by decide +kernel
theorem dX10_keep_56 : decode cX10_keep 56 = .ok (.invokestatic 56, 3) := by decide +kernel
theorem dX10_keep_59 : decode cX10_keep 59 = .ok (.goto 4, 3) := by decide +kernel
theorem dX10_keep_62 : decode cX10_keep 62 = .ok (.iconst 0, 1) := by decide +kernel
theorem dX10_keep_63 : decode cX10_keep 63 = .ok (.iastore, 1) := by decide +kernel
theorem dX10_keep_64 : decode cX10_keep 64 = .ok (.aload_n 0, 1) := by decide +kernel
theorem dX10_keep_65 : decode cX10_keep 65 = .ok (.dup, 1) := by decide +kernel
theorem dX10_keep_66 : decode cX10_keep 66 = .ok (.getfield 21, 3) := by decide +kernel
theorem dX10_keep_69 : decode cX10_keep 69 = .ok (.iconst 1, 1) := by decide +kernel
theorem dX10_keep_70 : decode cX10_keep 70 = .ok (.iadd, 1) := by decide +kernel
theorem dX10_keep_71 : decode cX10_keep 71 = .ok (.putfield 21, 3) := by decide +kernel
theorem dX10_keep_74 : decode cX10_keep 74 = .ok (.return_, 1) := by decide +kernel
set_option maxRecDepth 20000 in
theorem ggX10_endOfToken_X9_byteAt : GoodIn wsX10_endOfToken wsX9_byteAt := goodIn_r _ [6, 7, 8, 21, 22] (by decide +kernel) (by decide +kernel)
set_option maxRecDepth 20000 in
theorem gX10_endOfToken_X9_byteAt : GoodIn wsX10_endOfToken (wsV RX10 28 RX9 yX9_byteAt wsX9_byteAt) := goodIn_app (goodIn_of _ (by decide +kernel)) ggX10_endOfToken_X9_byteAt
set_option maxRecDepth 20000 in
theorem ggX10_endOfToken_X10_isLetter : GoodIn wsX10_endOfToken wsX10_isLetter := goodIn_r _ [12] (by decide +kernel) (by decide +kernel)
set_option maxRecDepth 20000 in
theorem gX10_endOfToken_X10_isLetter : GoodIn wsX10_endOfToken (va_wsS RX10 59 yX10_isLetter wsX10_isLetter) := goodIn_app (goodIn_of _ (by decide +kernel)) ggX10_endOfToken_X10_isLetter
set_option maxRecDepth 20000 in
theorem ggX10_endOfToken_X10_isDigit : GoodIn wsX10_endOfToken wsX10_isDigit := goodIn_r _ [15] (by decide +kernel) (by decide +kernel)
set_option maxRecDepth 20000 in
theorem gX10_endOfToken_X10_isDigit : GoodIn wsX10_endOfToken (va_wsS RX10 62 yX10_isDigit wsX10_isDigit) := goodIn_app (goodIn_of _ (by decide +kernel)) ggX10_endOfToken_X10_isDigit
theorem dX10_endOfToken_0 : decode cX10_endOfToken 0 = .ok (.iload_n 2, 1) := by decide +kernel
theorem dX10_endOfToken_1 : decode cX10_endOfToken 1 = .ok (.iconst 1, 1) := by decide +kernel
theorem dX10_endOfToken_2 : decode cX10_endOfToken 2 = .ok (.iadd, 1) := by decide +kernel
theorem dX10_endOfToken_3 : decode cX10_endOfToken 3 = .ok (.istore_n 3, 1) := by decide +kernel
theorem dX10_endOfToken_4 : decode cX10_endOfToken 4 = .ok (.aload_n 1, 1) := by decide +kernel
theorem dX10_endOfToken_5 : decode cX10_endOfToken 5 = .ok (.iload_n 2, 1) := by decide +kernel
theorem dX10_endOfToken_6 : decode cX10_endOfToken 6 = .ok (.invokevirtual 28, 3) := by decide +kernel
theorem dX10_endOfToken_9 : decode cX10_endOfToken 9 = .ok (.invokestatic 59, 3) := by decide +kernel
theorem dX10_endOfToken_12 : decode cX10_endOfToken 12 = .ok (.ifCond .eq 28, 3) := by decide +kernel
theorem dX10_endOfToken_15 : decode cX10_endOfToken 15 = .ok (.iload_n 3, 1) := by decide +kernel
theorem dX10_endOfToken_16 : decode cX10_endOfToken 16 = .ok (.aload_n 0, 1) := by decide +kernel
theorem dX10_endOfToken_17 : decode cX10_endOfToken 17 = .ok (.getfield 25, 3) := by decide +kernel
theorem dX10_endOfToken_20 : decode cX10_endOfToken 20 = .ok (.if_icmp .ge 56, 3) := by decide +kernel
theorem dX10_endOfToken_23 : decode cX10_endOfToken 23 = .ok (.aload_n 1, 1) := by decide +kernel
theorem dX10_endOfToken_24 : decode cX10_endOfToken 24 = .ok (.iload_n 3, 1) := by decide +kernel
theorem dX10_endOfToken_25 : decode cX10_endOfToken 25 = .ok (.invokevirtual 28, 3) := by decide +kernel
theorem dX10_endOfToken_28 : decode cX10_endOfToken 28 = .ok (.invokestatic 59, 3) := by decide +kernel
theorem dX10_endOfToken_31 : decode cX10_endOfToken 31 = .ok (.ifCond .eq 45, 3) := by decide +kernel
theorem dX10_endOfToken_34 : decode cX10_endOfToken 34 = .ok (.iinc 3 1, 3) := by decide +kernel
theorem dX10_endOfToken_37 : decode cX10_endOfToken 37 = .ok (.goto (-22), 3) := by decide +kernel
theorem dX10_endOfToken_40 : decode cX10_endOfToken 40 = .ok (.aload_n 1, 1) := by decide +kernel
theorem dX10_endOfToken_41 : decode cX10_endOfToken 41 = .ok (.iload_n 2, 1) := by decide +kernel
theorem dX10_endOfToken_42 : decode cX10_endOfToken 42 = .ok (.invokevirtual 28, 3) := by decide +kernel
theorem dX10_endOfToken_45 : decode cX10_endOfToken 45 = .ok (.invokestatic 62, 3) := by decide +kernel
theorem dX10_endOfToken_48 : decode cX10_endOfToken 48 = .ok (.ifCond .eq 28, 3) := by decide +kernel
theorem dX10_endOfToken_51 : decode cX10_endOfToken 51 = .ok (.iload_n 3, 1) := by decide +kernel
theorem dX10_endOfToken_52 : decode cX10_endOfToken 52 = .ok (.aload_n 0, 1) := by decide +kernel
theorem dX10_endOfToken_53 : decode cX10_endOfToken 53 = .ok (.getfield 25, 3) := by decide +kernel
theorem dX10_endOfToken_56 : decode cX10_endOfToken 56 = .ok (.if_icmp .ge 20, 3) := by decide +kernel
theorem dX10_endOfToken_59 : decode cX10_endOfToken 59 = .ok (.aload_n 1, 1) := by decide +kernel
theorem dX10_endOfToken_60 : decode cX10_endOfToken 60 = .ok (.iload_n 3, 1) := by decide +kernel
theorem dX10_endOfToken_61 : decode cX10_endOfToken 61 = .ok (.invokevirtual 28, 3) := by decide +kernel
theorem dX10_endOfToken_64 : decode cX10_endOfToken 64 = .ok (.invokestatic 62, 3) := by decide +kernel
theorem dX10_endOfToken_67 : decode cX10_endOfToken 67 = .ok (.ifCond .eq 9, 3) := by decide +kernel
theorem dX10_endOfToken_70 : decode cX10_endOfToken 70 = .ok (.iinc 3 1, 3) := by decide +kernel
theorem dX10_endOfToken_73 : decode cX10_endOfToken 73 = .ok (.goto (-22), 3) := by decide +kernel
theorem dX10_endOfToken_76 : decode cX10_endOfToken 76 = .ok (.iload_n 3, 1) := by decide +kernel
theorem dX10_endOfToken_77 : decode cX10_endOfToken 77 = .ok (.ireturn, 1) := by decide +kernel
set_option maxRecDepth 20000 in
theorem ggX10_kindOf_X9_byteAt : GoodIn wsX10_kindOf wsX9_byteAt := goodIn_r _ [5, 6, 7, 70, 71] (by decide +kernel) (by decide +kernel)
set_option maxRecDepth 20000 in
theorem gX10_kindOf_X9_byteAt : GoodIn wsX10_kindOf (wsV RX10 28 RX9 yX9_byteAt wsX9_byteAt) := goodIn_app (goodIn_of _ (by decide +kernel)) ggX10_kindOf_X9_byteAt
set_option maxRecDepth 20000 in
theorem ggX10_kindOf_X10_isLetter : GoodIn wsX10_kindOf wsX10_isLetter := goodIn_r _ [11] (by decide +kernel) (by decide +kernel)
set_option maxRecDepth 20000 in
theorem gX10_kindOf_X10_isLetter : GoodIn wsX10_kindOf (va_wsS RX10 59 yX10_isLetter wsX10_isLetter) := goodIn_app (goodIn_of _ (by decide +kernel)) ggX10_kindOf_X10_isLetter
set_option maxRecDepth 20000 in
theorem ggX10_kindOf_X10_wordOf : GoodIn wsX10_kindOf wsX10_wordOf := goodIn_r _ [14, 15, 16, 10, 17, 18, 19, 20, 21, 22, 23, 24, 25, 26, 27, 28, 29, 1, 2, 3, 4, 5, 6, 7, 30, 31, 32, 33, 34, 35, 36, 37, 38, 39, 40, 41, 42, 43, 44, 45, 46, 47, 48, 49, 50, 51, 52, 53, 54, 55, 56, 57, 58, 59, 60, 61, 62, 63, 64, 65, 66, 70, 71] (by decide +kernel) (by decide +kernel)
set_option maxRecDepth 20000 in
theorem gX10_kindOf_X10_wordOf : GoodIn wsX10_kindOf (va_wsS RX10 65 yX10_wordOf wsX10_wordOf) := goodIn_app (goodIn_of _ (by decide +kernel)) ggX10_kindOf_X10_wordOf
set_option maxRecDepth 20000 in
theorem ggX10_kindOf_X10_isDigit : GoodIn wsX10_kindOf wsX10_isDigit := goodIn_r _ [69] (by decide +kernel) (by decide +kernel)
set_option maxRecDepth 20000 in
theorem gX10_kindOf_X10_isDigit : GoodIn wsX10_kindOf (va_wsS RX10 62 yX10_isDigit wsX10_isDigit) := goodIn_app (goodIn_of _ (by decide +kernel)) ggX10_kindOf_X10_isDigit
theorem dX10_kindOf_0 : decode cX10_kindOf 0 = .ok (.aload_n 0, 1) := by decide +kernel
theorem dX10_kindOf_1 : decode cX10_kindOf 1 = .ok (.iload_n 1, 1) := by decide +kernel
theorem dX10_kindOf_2 : decode cX10_kindOf 2 = .ok (.invokevirtual 28, 3) := by decide +kernel
theorem dX10_kindOf_5 : decode cX10_kindOf 5 = .ok (.istore_n 3, 1) := by decide +kernel
theorem dX10_kindOf_6 : decode cX10_kindOf 6 = .ok (.iload_n 3, 1) := by decide +kernel
theorem dX10_kindOf_7 : decode cX10_kindOf 7 = .ok (.invokestatic 59, 3) := by decide +kernel
theorem dX10_kindOf_10 : decode cX10_kindOf 10 = .ok (.ifCond .eq 10, 3) := by decide +kernel
theorem dX10_kindOf_13 : decode cX10_kindOf 13 = .ok (.aload_n 0, 1) := by decide +kernel
theorem dX10_kindOf_14 : decode cX10_kindOf 14 = .ok (.iload_n 1, 1) := by decide +kernel
theorem dX10_kindOf_15 : decode cX10_kindOf 15 = .ok (.iload_n 2, 1) := by decide +kernel
theorem dX10_kindOf_16 : decode cX10_kindOf 16 = .ok (.invokestatic 65, 3) := by decide +kernel
theorem dX10_kindOf_19 : decode cX10_kindOf 19 = .ok (.ireturn, 1) := by decide +kernel
theorem dX10_kindOf_20 : decode cX10_kindOf 20 = .ok (.iload_n 3, 1) := by decide +kernel
theorem dX10_kindOf_21 : decode cX10_kindOf 21 = .ok (.invokestatic 62, 3) := by decide +kernel
theorem dX10_kindOf_24 : decode cX10_kindOf 24 = .ok (.ifCond .eq 16, 3) := by decide +kernel
theorem dX10_kindOf_27 : decode cX10_kindOf 27 = .ok (.iload_n 2, 1) := by decide +kernel
theorem dX10_kindOf_28 : decode cX10_kindOf 28 = .ok (.iload_n 1, 1) := by decide +kernel
theorem dX10_kindOf_29 : decode cX10_kindOf 29 = .ok (.isub, 1) := by decide +kernel
theorem dX10_kindOf_30 : decode cX10_kindOf 30 = .ok (.iconst 3, 1) := by decide +kernel
theorem dX10_kindOf_31 : decode cX10_kindOf 31 = .ok (.if_icmp .gt 7, 3) := by decide +kernel
theorem dX10_kindOf_34 : decode cX10_kindOf 34 = .ok (.iconst 3, 1) := by decide +kernel
theorem dX10_kindOf_35 : decode cX10_kindOf 35 = .ok (.goto 4, 3) := by decide +kernel
theorem dX10_kindOf_38 : decode cX10_kindOf 38 = .ok (.iconst 1, 1) := by decide +kernel
theorem dX10_kindOf_39 : decode cX10_kindOf 39 = .ok (.ireturn, 1) := by decide +kernel
theorem dX10_kindOf_40 : decode cX10_kindOf 40 = .ok (.iload_n 3, 1) := by decide +kernel
theorem dX10_kindOf_41 : decode cX10_kindOf 41 = .ok (.bipush 59, 2) := by decide +kernel
theorem dX10_kindOf_43 : decode cX10_kindOf 43 = .ok (.if_icmp .ne 7, 3) := by decide +kernel
theorem dX10_kindOf_46 : decode cX10_kindOf 46 = .ok (.iconst 2, 1) := by decide +kernel
theorem dX10_kindOf_47 : decode cX10_kindOf 47 = .ok (.goto 4, 3) := by decide +kernel
theorem dX10_kindOf_50 : decode cX10_kindOf 50 = .ok (.iconst 1, 1) := by decide +kernel
theorem dX10_kindOf_51 : decode cX10_kindOf 51 = .ok (.ireturn, 1) := by decide +kernel
set_option maxRecDepth 20000 in
theorem ggX10_wordOf_X10_spells : GoodIn wsX10_wordOf wsX10_spells := goodIn_r _ [4, 5, 6, 7, 8, 9, 10, 11, 12, 13, 14, 15, 16, 17, 18, 19, 20, 21, 22, 23, 24, 25, 26, 27, 28, 29, 30, 31, 32, 33, 34, 35, 36, 37, 38, 39, 40, 41, 42, 43, 44, 45, 46, 47, 48, 49, 50, 51, 52, 53, 54, 55, 56, 57, 58, 59, 60, 61, 62] (by decide +kernel) (by decide +kernel)
set_option maxRecDepth 20000 in
theorem gX10_wordOf_X10_spells : GoodIn wsX10_wordOf (va_wsS RX10 70 yX10_spells wsX10_spells) := goodIn_app (goodIn_of _ (by decide +kernel)) ggX10_wordOf_X10_spells
theorem dX10_wordOf_0 : decode cX10_wordOf 0 = .ok (.aload_n 0, 1) := by decide +kernel
theorem dX10_wordOf_1 : decode cX10_wordOf 1 = .ok (.iload_n 1, 1) := by decide +kernel
theorem dX10_wordOf_2 : decode cX10_wordOf 2 = .ok (.iload_n 2, 1) := by decide +kernel
theorem dX10_wordOf_3 : decode cX10_wordOf 3 = .ok (.ldc 68, 2) := by decide +kernel
theorem dX10_wordOf_5 : decode cX10_wordOf 5 = .ok (.invokestatic 70, 3) := by decide +kernel
theorem dX10_wordOf_8 : decode cX10_wordOf 8 = .ok (.ifCond .eq 5, 3) := by decide +kernel
theorem dX10_wordOf_11 : decode cX10_wordOf 11 = .ok (.iconst 4, 1) := by decide +kernel
theorem dX10_wordOf_12 : decode cX10_wordOf 12 = .ok (.ireturn, 1) := by decide +kernel
theorem dX10_wordOf_13 : decode cX10_wordOf 13 = .ok (.aload_n 0, 1) := by decide +kernel
theorem dX10_wordOf_14 : decode cX10_wordOf 14 = .ok (.iload_n 1, 1) := by decide +kernel
theorem dX10_wordOf_15 : decode cX10_wordOf 15 = .ok (.iload_n 2, 1) := by decide +kernel
theorem dX10_wordOf_16 : decode cX10_wordOf 16 = .ok (.ldc 74, 2) := by decide +kernel
theorem dX10_wordOf_18 : decode cX10_wordOf 18 = .ok (.invokestatic 70, 3) := by decide +kernel
theorem dX10_wordOf_21 : decode cX10_wordOf 21 = .ok (.ifCond .eq 5, 3) := by decide +kernel
theorem dX10_wordOf_24 : decode cX10_wordOf 24 = .ok (.iconst 5, 1) := by decide +kernel
theorem dX10_wordOf_25 : decode cX10_wordOf 25 = .ok (.ireturn, 1) := by decide +kernel
theorem dX10_wordOf_26 : decode cX10_wordOf 26 = .ok (.aload_n 0, 1) := by decide +kernel
theorem dX10_wordOf_27 : decode cX10_wordOf 27 = .ok (.iload_n 1, 1) := by decide +kernel
theorem dX10_wordOf_28 : decode cX10_wordOf 28 = .ok (.iload_n 2, 1) := by decide +kernel
theorem dX10_wordOf_29 : decode cX10_wordOf 29 = .ok (.ldc 76, 2) := by decide +kernel
theorem dX10_wordOf_31 : decode cX10_wordOf 31 = .ok (.invokestatic 70, 3) := by decide +kernel
theorem dX10_wordOf_34 : decode cX10_wordOf 34 = .ok (.ifCond .eq 6, 3) := by decide +kernel
theorem dX10_wordOf_37 : decode cX10_wordOf 37 = .ok (.bipush 6, 2) := by decide +kernel
theorem dX10_wordOf_39 : decode cX10_wordOf 39 = .ok (.ireturn, 1) := by decide +kernel
theorem dX10_wordOf_40 : decode cX10_wordOf 40 = .ok (.aload_n 0, 1) := by decide +kernel
theorem dX10_wordOf_41 : decode cX10_wordOf 41 = .ok (.iload_n 1, 1) := by decide +kernel
theorem dX10_wordOf_42 : decode cX10_wordOf 42 = .ok (.iload_n 2, 1) := by decide +kernel
theorem dX10_wordOf_43 : decode cX10_wordOf 43 = .ok (.ldc 78, 2) := by decide +kernel
theorem dX10_wordOf_45 : decode cX10_wordOf 45 = .ok (.invokestatic 70, 3) := by decide +kernel
theorem dX10_wordOf_48 : decode cX10_wordOf 48 = .ok (.ifCond .eq 6, 3) := by decide +kernel
theorem dX10_wordOf_51 : decode cX10_wordOf 51 = .ok (.bipush 7, 2) := by decide +kernel
theorem dX10_wordOf_53 : decode cX10_wordOf 53 = .ok (.ireturn, 1) := by decide +kernel
theorem dX10_wordOf_54 : decode cX10_wordOf 54 = .ok (.aload_n 0, 1) := by decide +kernel
theorem dX10_wordOf_55 : decode cX10_wordOf 55 = .ok (.iload_n 1, 1) := by decide +kernel
theorem dX10_wordOf_56 : decode cX10_wordOf 56 = .ok (.iload_n 2, 1) := by decide +kernel
theorem dX10_wordOf_57 : decode cX10_wordOf 57 = .ok (.ldc 80, 2) := by decide +kernel
theorem dX10_wordOf_59 : decode cX10_wordOf 59 = .ok (.invokestatic 70, 3) := by decide +kernel
theorem dX10_wordOf_62 : decode cX10_wordOf 62 = .ok (.ifCond .eq 6, 3) := by decide +kernel
theorem dX10_wordOf_65 : decode cX10_wordOf 65 = .ok (.bipush 8, 2) := by decide +kernel
theorem dX10_wordOf_67 : decode cX10_wordOf 67 = .ok (.ireturn, 1) := by decide +kernel
theorem dX10_wordOf_68 : decode cX10_wordOf 68 = .ok (.aload_n 0, 1) := by decide +kernel
theorem dX10_wordOf_69 : decode cX10_wordOf 69 = .ok (.iload_n 1, 1) := by decide +kernel
theorem dX10_wordOf_70 : decode cX10_wordOf 70 = .ok (.iload_n 2, 1) := by decide +kernel
theorem dX10_wordOf_71 : decode cX10_wordOf 71 = .ok (.ldc 82, 2) := by decide +kernel
theorem dX10_wordOf_73 : decode cX10_wordOf 73 = .ok (.invokestatic 70, 3) := by decide +kernel
theorem dX10_wordOf_76 : decode cX10_wordOf 76 = .ok (.ifCond .eq 6, 3) := by decide +kernel
theorem dX10_wordOf_79 : decode cX10_wordOf 79 = .ok (.bipush 9, 2) := by decide +kernel
theorem dX10_wordOf_81 : decode cX10_wordOf 81 = .ok (.ireturn, 1) := by decide +kernel
theorem dX10_wordOf_82 : decode cX10_wordOf 82 = .ok (.aload_n 0, 1) := by decide +kernel
theorem dX10_wordOf_83 : decode cX10_wordOf 83 = .ok (.iload_n 1, 1) := by decide +kernel
theorem dX10_wordOf_84 : decode cX10_wordOf 84 = .ok (.iload_n 2, 1) := by decide +kernel
theorem dX10_wordOf_85 : decode cX10_wordOf 85 = .ok (.ldc 84, 2) := by decide +kernel
theorem dX10_wordOf_87 : decode cX10_wordOf 87 = .ok (.invokestatic 70, 3) := by decide +kernel
theorem dX10_wordOf_90 : decode cX10_wordOf 90 = .ok (.ifCond .eq 8, 3) := by decide +kernel
theorem dX10_wordOf_93 : decode cX10_wordOf 93 = .ok (.bipush 10, 2) := by decide +kernel
theorem dX10_wordOf_95 : decode cX10_wordOf 95 = .ok (.goto 4, 3) := by decide +kernel
theorem dX10_wordOf_98 : decode cX10_wordOf 98 = .ok (.iconst 1, 1) := by decide +kernel
theorem dX10_wordOf_99 : decode cX10_wordOf 99 = .ok (.ireturn, 1) := by decide +kernel
set_option maxRecDepth 20000 in
theorem ggX10_spells_J0_length_8abf5 : GoodIn wsX10_spells wsJ0_length_8abf5 := goodIn_r _ [5, 6, 7, 8, 9, 4, 10, 11, 12] (by decide +kernel) (by decide +kernel)
set_option maxRecDepth 20000 in
theorem gX10_spells_J0_length_8abf5 : GoodIn wsX10_spells (wsV RX10 86 RJ0 yJ0_length_8abf5 wsJ0_length_8abf5) := goodIn_app (goodIn_of _ (by decide +kernel)) ggX10_spells_J0_length_8abf5
set_option maxRecDepth 20000 in
theorem ggX10_spells_X9_byteAt : GoodIn wsX10_spells wsX9_byteAt := goodIn_r _ [17, 18, 19, 57, 58] (by decide +kernel) (by decide +kernel)
set_option maxRecDepth 20000 in
theorem gX10_spells_X9_byteAt : GoodIn wsX10_spells (wsV RX10 28 RX9 yX9_byteAt wsX9_byteAt) := goodIn_app (goodIn_of _ (by decide +kernel)) ggX10_spells_X9_byteAt
set_option maxRecDepth 20000 in
theorem ggX10_spells_J0_charAt_5068e : GoodIn wsX10_spells wsJ0_charAt_5068e := goodIn_r _ [23, 6, 24, 25, 26, 4, 27, 11, 12, 28, 29, 30, 31, 32, 33, 34, 35, 36, 37, 38, 39, 40, 41, 42, 43, 44, 45, 46, 47, 48, 49, 50, 51, 52, 53, 54, 55, 56] (by decide +kernel) (by decide +kernel)
set_option maxRecDepth 20000 in
theorem gX10_spells_J0_charAt_5068e : GoodIn wsX10_spells (wsV RX10 92 RJ0 yJ0_charAt_5068e wsJ0_charAt_5068e) := goodIn_app (goodIn_of _ (by decide +kernel)) ggX10_spells_J0_charAt_5068e
theorem dX10_spells_0 : decode cX10_spells 0 = .ok (.iload_n 2, 1) := by decide +kernel
theorem dX10_spells_1 : decode cX10_spells 1 = .ok (.iload_n 1, 1) := by decide +kernel
theorem dX10_spells_2 : decode cX10_spells 2 = .ok (.isub, 1) := by decide +kernel
theorem dX10_spells_3 : decode cX10_spells 3 = .ok (.aload_n 3, 1) := by decide +kernel
theorem dX10_spells_4 : decode cX10_spells 4 = .ok (.invokevirtual 86, 3) := by decide +kernel
theorem dX10_spells_7 : decode cX10_spells 7 = .ok (.if_icmp .eq 5, 3) := by decide +kernel
theorem dX10_spells_10 : decode cX10_spells 10 = .ok (.iconst 0, 1) := by decide +kernel
theorem dX10_spells_11 : decode cX10_spells 11 = .ok (.ireturn, 1) := by decide +kernel
theorem dX10_spells_12 : decode cX10_spells 12 = .ok (.iconst 0, 1) := by decide +kernel
theorem dX10_spells_13 : decode cX10_spells 13 = .ok (.istore 4, 2) := by decide +kernel
theorem dX10_spells_15 : decode cX10_spells 15 = .ok (.iload 4, 2) := by decide +kernel
theorem dX10_spells_17 : decode cX10_spells 17 = .ok (.aload_n 3, 1) := by decide +kernel
theorem dX10_spells_18 : decode cX10_spells 18 = .ok (.invokevirtual 86, 3) := by decide +kernel
theorem dX10_spells_21 : decode cX10_spells 21 = .ok (.if_icmp .ge 28, 3) := by decide +kernel
theorem dX10_spells_24 : decode cX10_spells 24 = .ok (.aload_n 0, 1) := by decide +kernel
theorem dX10_spells_25 : decode cX10_spells 25 = .ok (.iload_n 1, 1) := by decide +kernel
theorem dX10_spells_26 : decode cX10_spells 26 = .ok (.iload 4, 2) := by decide +kernel
theorem dX10_spells_28 : decode cX10_spells 28 = .ok (.iadd, 1) := by decide +kernel
theorem dX10_spells_29 : decode cX10_spells 29 = .ok (.invokevirtual 28, 3) := by decide +kernel
theorem dX10_spells_32 : decode cX10_spells 32 = .ok (.aload_n 3, 1) := by decide +kernel
theorem dX10_spells_33 : decode cX10_spells 33 = .ok (.iload 4, 2) := by decide +kernel
theorem dX10_spells_35 : decode cX10_spells 35 = .ok (.invokevirtual 92, 3) := by decide +kernel
theorem dX10_spells_38 : decode cX10_spells 38 = .ok (.if_icmp .eq 5, 3) := by decide +kernel
theorem dX10_spells_41 : decode cX10_spells 41 = .ok (.iconst 0, 1) := by decide +kernel
theorem dX10_spells_42 : decode cX10_spells 42 = .ok (.ireturn, 1) := by decide +kernel
theorem dX10_spells_43 : decode cX10_spells 43 = .ok (.iinc 4 1, 3) := by decide +kernel
theorem dX10_spells_46 : decode cX10_spells 46 = .ok (.goto (-31), 3) := by decide +kernel
theorem dX10_spells_49 : decode cX10_spells 49 = .ok (.iconst 1, 1) := by decide +kernel
theorem dX10_spells_50 : decode cX10_spells 50 = .ok (.ireturn, 1) := by decide +kernel
set_option maxRecDepth 20000 in
theorem ggX10_numberOf_X9_byteAt : GoodIn wsX10_numberOf wsX9_byteAt := goodIn_r _ [5, 6, 7, 8, 9] (by decide +kernel) (by decide +kernel)
set_option maxRecDepth 20000 in
theorem gX10_numberOf_X9_byteAt : GoodIn wsX10_numberOf (wsV RX10 28 RX9 yX9_byteAt wsX9_byteAt) := goodIn_app (goodIn_of _ (by decide +kernel)) ggX10_numberOf_X9_byteAt
theorem dX10_numberOf_0 : decode cX10_numberOf 0 = .ok (.iconst 0, 1) := by decide +kernel
theorem dX10_numberOf_1 : decode cX10_numberOf 1 = .ok (.istore_n 3, 1) := by decide +kernel
theorem dX10_numberOf_2 : decode cX10_numberOf 2 = .ok (.iload_n 1, 1) := by decide +kernel
theorem dX10_numberOf_3 : decode cX10_numberOf 3 = .ok (.istore 4, 2) := by decide +kernel
theorem dX10_numberOf_5 : decode cX10_numberOf 5 = .ok (.iload 4, 2) := by decide +kernel
theorem dX10_numberOf_7 : decode cX10_numberOf 7 = .ok (.iload_n 2, 1) := by decide +kernel
theorem dX10_numberOf_8 : decode cX10_numberOf 8 = .ok (.if_icmp .ge 24, 3) := by decide +kernel
theorem dX10_numberOf_11 : decode cX10_numberOf 11 = .ok (.iload_n 3, 1) := by decide +kernel
theorem dX10_numberOf_12 : decode cX10_numberOf 12 = .ok (.bipush 10, 2) := by decide +kernel
theorem dX10_numberOf_14 : decode cX10_numberOf 14 = .ok (.imul, 1) := by decide +kernel
theorem dX10_numberOf_15 : decode cX10_numberOf 15 = .ok (.aload_n 0, 1) := by decide +kernel
theorem dX10_numberOf_16 : decode cX10_numberOf 16 = .ok (.iload 4, 2) := by decide +kernel
theorem dX10_numberOf_18 : decode cX10_numberOf 18 = .ok (.invokevirtual 28, 3) := by decide +kernel
theorem dX10_numberOf_21 : decode cX10_numberOf 21 = .ok (.iadd, 1) := by decide +kernel
theorem dX10_numberOf_22 : decode cX10_numberOf 22 = .ok (.bipush 48, 2) := by decide +kernel
theorem dX10_numberOf_24 : decode cX10_numberOf 24 = .ok (.isub, 1) := by decide +kernel
theorem dX10_numberOf_25 : decode cX10_numberOf 25 = .ok (.istore_n 3, 1) := by decide +kernel
theorem dX10_numberOf_26 : decode cX10_numberOf 26 = .ok (.iinc 4 1, 3) := by decide +kernel
theorem dX10_numberOf_29 : decode cX10_numberOf 29 = .ok (.goto (-24), 3) := by decide +kernel
theorem dX10_numberOf_32 : decode cX10_numberOf 32 = .ok (.iload_n 3, 1) := by decide +kernel
theorem dX10_numberOf_33 : decode cX10_numberOf 33 = .ok (.ireturn, 1) := by decide +kernel
theorem dX10_isBlank_0 : decode cX10_isBlank 0 = .ok (.iload_n 0, 1) := by decide +kernel
theorem dX10_isBlank_1 : decode cX10_isBlank 1 = .ok (.bipush 32, 2) := by decide +kernel
theorem dX10_isBlank_3 : decode cX10_isBlank 3 = .ok (.if_icmp .eq 9, 3) := by decide +kernel
theorem dX10_isBlank_6 : decode cX10_isBlank 6 = .ok (.iload_n 0, 1) := by decide +kernel
theorem dX10_isBlank_7 : decode cX10_isBlank 7 = .ok (.bipush 10, 2) := by decide +kernel
theorem dX10_isBlank_9 : decode cX10_isBlank 9 = .ok (.if_icmp .ne 7, 3) := by decide +kernel
theorem dX10_isBlank_12 : decode cX10_isBlank 12 = .ok (.iconst 1, 1) := by decide +kernel
theorem dX10_isBlank_13 : decode cX10_isBlank 13 = .ok (.goto 4, 3) := by decide +kernel
theorem dX10_isBlank_16 : decode cX10_isBlank 16 = .ok (.iconst 0, 1) := by decide +kernel
theorem dX10_isBlank_17 : decode cX10_isBlank 17 = .ok (.ireturn, 1) := by decide +kernel
theorem dX10_isLetter_0 : decode cX10_isLetter 0 = .ok (.iload_n 0, 1) := by decide +kernel
theorem dX10_isLetter_1 : decode cX10_isLetter 1 = .ok (.bipush 97, 2) := by decide +kernel
theorem dX10_isLetter_3 : decode cX10_isLetter 3 = .ok (.if_icmp .lt 13, 3) := by decide +kernel
theorem dX10_isLetter_6 : decode cX10_isLetter 6 = .ok (.iload_n 0, 1) := by decide +kernel
theorem dX10_isLetter_7 : decode cX10_isLetter 7 = .ok (.bipush 122, 2) := by decide +kernel
theorem dX10_isLetter_9 : decode cX10_isLetter 9 = .ok (.if_icmp .gt 7, 3) := by decide +kernel
theorem dX10_isLetter_12 : decode cX10_isLetter 12 = .ok (.iconst 1, 1) := by decide +kernel
theorem dX10_isLetter_13 : decode cX10_isLetter 13 = .ok (.goto 4, 3) := by decide +kernel
theorem dX10_isLetter_16 : decode cX10_isLetter 16 = .ok (.iconst 0, 1) := by decide +kernel
theorem dX10_isLetter_17 : decode cX10_isLetter 17 = .ok (.ireturn, 1) := by decide +kernel
theorem dX10_isDigit_0 : decode cX10_isDigit 0 = .ok (.iload_n 0, 1) := by decide +kernel
theorem dX10_isDigit_1 : decode cX10_isDigit 1 = .ok (.bipush 48, 2) := by decide +kernel
theorem dX10_isDigit_3 : decode cX10_isDigit 3 = .ok (.if_icmp .lt 13, 3) := by decide +kernel
theorem dX10_isDigit_6 : decode cX10_isDigit 6 = .ok (.iload_n 0, 1) := by decide +kernel
theorem dX10_isDigit_7 : decode cX10_isDigit 7 = .ok (.bipush 57, 2) := by decide +kernel
theorem dX10_isDigit_9 : decode cX10_isDigit 9 = .ok (.if_icmp .gt 7, 3) := by decide +kernel
theorem dX10_isDigit_12 : decode cX10_isDigit 12 = .ok (.iconst 1, 1) := by decide +kernel
theorem dX10_isDigit_13 : decode cX10_isDigit 13 = .ok (.goto 4, 3) := by decide +kernel
theorem dX10_isDigit_16 : decode cX10_isDigit 16 = .ok (.iconst 0, 1) := by decide +kernel
theorem dX10_isDigit_17 : decode cX10_isDigit 17 = .ok (.ireturn, 1) := by decide +kernel
set_option maxRecDepth 20000 in
theorem ggX11_init_X0_init : GoodIn wsX11_init wsX0_init := goodIn_r _ [42, 43, 2, 3, 44, 45, 46, 47, 125, 126, 127, 128] (by decide +kernel) (by decide +kernel)
set_option maxRecDepth 20000 in
theorem gX11_init_X0_init_n9 : GoodIn wsX11_init (wsX0_init) := ggX11_init_X0_init
set_option maxRecDepth 20000 in
theorem ggX11_init_X3_init : GoodIn wsX11_init wsX3_init := goodIn_r _ [49, 50, 2, 3, 44, 51, 52, 53, 54, 55, 56, 144, 145, 146, 147, 148, 149, 150] (by decide +kernel) (by decide +kernel)
set_option maxRecDepth 20000 in
theorem gX11_init_X3_init_n18 : GoodIn wsX11_init (wsX3_init) := ggX11_init_X3_init
set_option maxRecDepth 20000 in
theorem ggX11_init_X9_init : GoodIn wsX11_init wsX9_init := goodIn_r _ [58, 59, 2, 3, 60, 61, 151, 152] (by decide +kernel) (by decide +kernel)
set_option maxRecDepth 20000 in
theorem gX11_init_X9_init_n25 : GoodIn wsX11_init (wsX9_init) := ggX11_init_X9_init
set_option maxRecDepth 20000 in
theorem ggX11_init_X6_init : GoodIn wsX11_init wsX6_init := goodIn_r _ [63, 64, 2, 3, 65, 66, 67, 68, 44, 69, 70, 71, 72, 73, 74, 75, 76, 77, 190, 191, 192, 193, 194, 153, 154, 155, 156, 157, 158, 159, 160] (by decide +kernel) (by decide +kernel)
set_option maxRecDepth 20000 in
theorem gX11_init_X6_init_n32 : GoodIn wsX11_init (wsX6_init) := ggX11_init_X6_init
set_option maxRecDepth 20000 in
theorem ggX11_init_X7_init : GoodIn wsX11_init wsX7_init := goodIn_r _ [79, 80, 2, 3, 44, 81, 82, 83, 84, 85, 161, 162, 163, 164, 165, 166] (by decide +kernel) (by decide +kernel)
set_option maxRecDepth 20000 in
theorem gX11_init_X7_init_n39 : GoodIn wsX11_init (wsX7_init) := ggX11_init_X7_init
set_option maxRecDepth 20000 in
theorem ggX11_init_X5_init : GoodIn wsX11_init wsX5_init := goodIn_r _ [87, 88, 2, 3, 89, 90, 44, 91, 92, 93, 94, 95, 167, 168, 169, 170, 171, 172, 173, 174] (by decide +kernel) (by decide +kernel)
set_option maxRecDepth 20000 in
theorem gX11_init_X5_init_n46 : GoodIn wsX11_init (wsX5_init) := ggX11_init_X5_init
set_option maxRecDepth 20000 in
theorem ggX11_init_X2_init : GoodIn wsX11_init wsX2_init := goodIn_r _ [97, 98, 2, 3, 99, 37, 38, 100, 44, 101, 102, 103, 104, 105, 106, 107, 108, 109, 110, 111, 188, 189, 175, 176] (by decide +kernel) (by decide +kernel)
set_option maxRecDepth 20000 in
theorem gX11_init_X2_init_n53 : GoodIn wsX11_init (wsX2_init) := ggX11_init_X2_init
set_option maxRecDepth 20000 in
theorem ggX11_init_X4_init : GoodIn wsX11_init wsX4_init := goodIn_r _ [113, 114, 2, 3, 89, 115, 116, 44, 117, 118, 119, 120, 121, 122, 123, 177, 178, 179, 180, 181, 182, 183, 184, 185, 186, 187] (by decide +kernel) (by decide +kernel)
set_option maxRecDepth 20000 in
theorem gX11_init_X4_init_n60 : GoodIn wsX11_init (wsX4_init) := ggX11_init_X4_init
set_option maxRecDepth 20000 in
theorem ggX11_init_X1_init : GoodIn wsX11_init wsX1_init := goodIn_r _ [104, 105, 2, 3, 106, 107, 108, 109, 110, 44, 111, 188, 189] (by decide +kernel) (by decide +kernel)
set_option maxRecDepth 20000 in
theorem gX11_init_X1_init : GoodIn wsX11_init (wsX1_init) := ggX11_init_X1_init
theorem dX11_init_0 : decode cX11_init 0 = .ok (.aload_n 0, 1) := by decide +kernel
theorem dX11_init_1 : decode cX11_init 1 = .ok (.invokespecial 1, 3) := by decide +kernel
theorem dX11_init_4 : decode cX11_init 4 = .ok (.aload_n 0, 1) := by decide +kernel
theorem dX11_init_5 : decode cX11_init 5 = .ok (.new 7, 3) := by decide +kernel
theorem dX11_init_8 : decode cX11_init 8 = .ok (.dup, 1) := by decide +kernel
theorem dX11_init_9 : decode cX11_init 9 = .ok (.invokespecial 9, 3) := by decide +kernel
theorem dX11_init_12 : decode cX11_init 12 = .ok (.putfield 10, 3) := by decide +kernel
theorem dX11_init_15 : decode cX11_init 15 = .ok (.aload_n 0, 1) := by decide +kernel
theorem dX11_init_16 : decode cX11_init 16 = .ok (.new 16, 3) := by decide +kernel
theorem dX11_init_19 : decode cX11_init 19 = .ok (.dup, 1) := by decide +kernel
theorem dX11_init_20 : decode cX11_init 20 = .ok (.invokespecial 18, 3) := by decide +kernel
theorem dX11_init_23 : decode cX11_init 23 = .ok (.putfield 19, 3) := by decide +kernel
theorem dX11_init_26 : decode cX11_init 26 = .ok (.aload_n 0, 1) := by decide +kernel
theorem dX11_init_27 : decode cX11_init 27 = .ok (.new 23, 3) := by decide +kernel
theorem dX11_init_30 : decode cX11_init 30 = .ok (.dup, 1) := by decide +kernel
theorem dX11_init_31 : decode cX11_init 31 = .ok (.invokespecial 25, 3) := by decide +kernel
theorem dX11_init_34 : decode cX11_init 34 = .ok (.putfield 26, 3) := by decide +kernel
theorem dX11_init_37 : decode cX11_init 37 = .ok (.aload_n 0, 1) := by decide +kernel
theorem dX11_init_38 : decode cX11_init 38 = .ok (.new 30, 3) := by decide +kernel
theorem dX11_init_41 : decode cX11_init 41 = .ok (.dup, 1) := by decide +kernel
theorem dX11_init_42 : decode cX11_init 42 = .ok (.invokespecial 32, 3) := by decide +kernel
theorem dX11_init_45 : decode cX11_init 45 = .ok (.putfield 33, 3) := by decide +kernel
theorem dX11_init_48 : decode cX11_init 48 = .ok (.aload_n 0, 1) := by decide +kernel
theorem dX11_init_49 : decode cX11_init 49 = .ok (.new 37, 3) := by decide +kernel
theorem dX11_init_52 : decode cX11_init 52 = .ok (.dup, 1) := by decide +kernel
theorem dX11_init_53 : decode cX11_init 53 = .ok (.invokespecial 39, 3) := by decide +kernel
theorem dX11_init_56 : decode cX11_init 56 = .ok (.putfield 40, 3) := by decide +kernel
theorem dX11_init_59 : decode cX11_init 59 = .ok (.aload_n 0, 1) := by decide +kernel
theorem dX11_init_60 : decode cX11_init 60 = .ok (.new 44, 3) := by decide +kernel
theorem dX11_init_63 : decode cX11_init 63 = .ok (.dup, 1) := by decide +kernel
theorem dX11_init_64 : decode cX11_init 64 = .ok (.invokespecial 46, 3) := by decide +kernel
theorem dX11_init_67 : decode cX11_init 67 = .ok (.putfield 47, 3) := by decide +kernel
theorem dX11_init_70 : decode cX11_init 70 = .ok (.aload_n 0, 1) := by decide +kernel
theorem dX11_init_71 : decode cX11_init 71 = .ok (.new 51, 3) := by decide +kernel
theorem dX11_init_74 : decode cX11_init 74 = .ok (.dup, 1) := by decide +kernel
theorem dX11_init_75 : decode cX11_init 75 = .ok (.invokespecial 53, 3) := by decide +kernel
theorem dX11_init_78 : decode cX11_init 78 = .ok (.putfield 54, 3) := by decide +kernel
theorem dX11_init_81 : decode cX11_init 81 = .ok (.aload_n 0, 1) := by decide +kernel
theorem dX11_init_82 : decode cX11_init 82 = .ok (.new 58, 3) := by decide +kernel
theorem dX11_init_85 : decode cX11_init 85 = .ok (.dup, 1) := by decide +kernel
theorem dX11_init_86 : decode cX11_init 86 = .ok (.invokespecial 60, 3) := by decide +kernel
theorem dX11_init_89 : decode cX11_init 89 = .ok (.putfield 61, 3) := by decide +kernel
theorem dX11_init_92 : decode cX11_init 92 = .ok (.aload_n 0, 1) := by decide +kernel
theorem dX11_init_93 : decode cX11_init 93 = .ok (.new 65, 3) := by decide +kernel
theorem dX11_init_96 : decode cX11_init 96 = .ok (.dup, 1) := by decide +kernel
theorem dX11_init_97 : decode cX11_init 97 = .ok (.iconst 5, 1) := by decide +kernel
theorem dX11_init_98 : decode cX11_init 98 = .ok (.invokespecial 67, 3) := by decide +kernel
theorem dX11_init_101 : decode cX11_init 101 = .ok (.putfield 70, 3) := by decide +kernel
theorem dX11_init_104 : decode cX11_init 104 = .ok (.aload_n 0, 1) := by decide +kernel
theorem dX11_init_105 : decode cX11_init 105 = .ok (.iconst (-1), 1) := by decide +kernel
theorem dX11_init_106 : decode cX11_init 106 = .ok (.putfield 74, 3) := by decide +kernel
theorem dX11_init_109 : decode cX11_init 109 = .ok (.return_, 1) := by decide +kernel
set_option maxRecDepth 20000 in
theorem ggX11_monk_X11_within : GoodIn wsX11_monk wsX11_within := goodIn_r _ [6] (by decide +kernel) (by decide +kernel)
set_option maxRecDepth 20000 in
theorem gX11_monk_X11_within : GoodIn wsX11_monk (va_wsS RX11 78 yX11_within wsX11_within) := goodIn_app (goodIn_of _ (by decide +kernel)) ggX11_monk_X11_within
set_option maxRecDepth 20000 in
theorem ggX11_monk_X5_enter : GoodIn wsX11_monk wsX5_enter := goodIn_r _ [11, 12, 13, 14, 15, 31, 32, 33, 34, 35, 36, 37, 38] (by decide +kernel) (by decide +kernel)
set_option maxRecDepth 20000 in
theorem gX11_monk_X5_enter : GoodIn wsX11_monk (wsV RX11 85 RX5 yX5_enter wsX5_enter) := goodIn_app (goodIn_of _ (by decide +kernel)) ggX11_monk_X5_enter
theorem dX11_monk_0 : decode cX11_monk 0 = .ok (.iload_n 2, 1) := by decide +kernel
theorem dX11_monk_1 : decode cX11_monk 1 = .ok (.iconst 0, 1) := by decide +kernel
theorem dX11_monk_2 : decode cX11_monk 2 = .ok (.bipush 15, 2) := by decide +kernel
theorem dX11_monk_4 : decode cX11_monk 4 = .ok (.invokestatic 78, 3) := by decide +kernel
theorem dX11_monk_7 : decode cX11_monk 7 = .ok (.ifCond .eq 19, 3) := by decide +kernel
theorem dX11_monk_10 : decode cX11_monk 10 = .ok (.aload_n 0, 1) := by decide +kernel
theorem dX11_monk_11 : decode cX11_monk 11 = .ok (.getfield 47, 3) := by decide +kernel
theorem dX11_monk_14 : decode cX11_monk 14 = .ok (.iload_n 1, 1) := by decide +kernel
theorem dX11_monk_15 : decode cX11_monk 15 = .ok (.iload_n 2, 1) := by decide +kernel
theorem dX11_monk_16 : decode cX11_monk 16 = .ok (.aload_n 0, 1) := by decide +kernel
theorem dX11_monk_17 : decode cX11_monk 17 = .ok (.getfield 82, 3) := by decide +kernel
theorem dX11_monk_20 : decode cX11_monk 20 = .ok (.invokevirtual 85, 3) := by decide +kernel
theorem dX11_monk_23 : decode cX11_monk 23 = .ok (.goto 4, 3) := by decide +kernel
theorem dX11_monk_26 : decode cX11_monk 26 = .ok (.iconst (-1), 1) := by decide +kernel
theorem dX11_monk_27 : decode cX11_monk 27 = .ok (.ireturn, 1) := by decide +kernel
set_option maxRecDepth 20000 in
theorem ggX11_away_X5_has : GoodIn wsX11_away wsX5_has := goodIn_r _ [7, 8, 42, 43, 44, 45, 46, 47, 48, 49] (by decide +kernel) (by decide +kernel)
set_option maxRecDepth 20000 in
theorem gX11_away_X5_has : GoodIn wsX11_away (wsV RX11 89 RX5 yX5_has wsX5_has) := goodIn_app (goodIn_of _ (by decide +kernel)) ggX11_away_X5_has
set_option maxRecDepth 20000 in
theorem ggX11_away_X11_isSpan : GoodIn wsX11_away wsX11_isSpan := goodIn_r _ [12, 13, 14, 11, 15, 16, 17, 18] (by decide +kernel) (by decide +kernel)
set_option maxRecDepth 20000 in
theorem gX11_away_X11_isSpan : GoodIn wsX11_away (va_wsS RX11 93 yX11_isSpan wsX11_isSpan) := goodIn_app (goodIn_of _ (by decide +kernel)) ggX11_away_X11_isSpan
set_option maxRecDepth 20000 in
theorem ggX11_away_X5_tellAbsence : GoodIn wsX11_away wsX5_tellAbsence := goodIn_r _ [22, 23, 24, 25, 26, 42, 43, 44, 45, 46, 47, 48, 49] (by decide +kernel) (by decide +kernel)
set_option maxRecDepth 20000 in
theorem gX11_away_X5_tellAbsence : GoodIn wsX11_away (wsV RX11 97 RX5 yX5_tellAbsence wsX5_tellAbsence) := goodIn_app (goodIn_of _ (by decide +kernel)) ggX11_away_X5_tellAbsence
theorem dX11_away_0 : decode cX11_away 0 = .ok (.aload_n 0, 1) := by decide +kernel
theorem dX11_away_1 : decode cX11_away 1 = .ok (.getfield 47, 3) := by decide +kernel
theorem dX11_away_4 : decode cX11_away 4 = .ok (.iload_n 1, 1) := by decide +kernel
theorem dX11_away_5 : decode cX11_away 5 = .ok (.invokevirtual 89, 3) := by decide +kernel
theorem dX11_away_8 : decode cX11_away 8 = .ok (.ifCond .eq 23, 3) := by decide +kernel
theorem dX11_away_11 : decode cX11_away 11 = .ok (.iload_n 2, 1) := by decide +kernel
theorem dX11_away_12 : decode cX11_away 12 = .ok (.aload_n 0, 1) := by decide +kernel
theorem dX11_away_13 : decode cX11_away 13 = .ok (.getfield 82, 3) := by decide +kernel
theorem dX11_away_16 : decode cX11_away 16 = .ok (.if_icmp .lt 15, 3) := by decide +kernel
theorem dX11_away_19 : decode cX11_away 19 = .ok (.iload_n 2, 1) := by decide +kernel
theorem dX11_away_20 : decode cX11_away 20 = .ok (.iload_n 3, 1) := by decide +kernel
theorem dX11_away_21 : decode cX11_away 21 = .ok (.invokestatic 93, 3) := by decide +kernel
theorem dX11_away_24 : decode cX11_away 24 = .ok (.ifCond .eq 7, 3) := by decide +kernel
theorem dX11_away_27 : decode cX11_away 27 = .ok (.iconst 1, 1) := by decide +kernel
theorem dX11_away_28 : decode cX11_away 28 = .ok (.goto 4, 3) := by decide +kernel
theorem dX11_away_31 : decode cX11_away 31 = .ok (.iconst 0, 1) := by decide +kernel
theorem dX11_away_32 : decode cX11_away 32 = .ok (.istore 4, 2) := by decide +kernel
theorem dX11_away_34 : decode cX11_away 34 = .ok (.iload 4, 2) := by decide +kernel
theorem dX11_away_36 : decode cX11_away 36 = .ok (.ifCond .eq 16, 3) := by decide +kernel
theorem dX11_away_39 : decode cX11_away 39 = .ok (.aload_n 0, 1) := by decide +kernel
theorem dX11_away_40 : decode cX11_away 40 = .ok (.getfield 47, 3) := by decide +kernel
theorem dX11_away_43 : decode cX11_away 43 = .ok (.iload_n 1, 1) := by decide +kernel
theorem dX11_away_44 : decode cX11_away 44 = .ok (.iload_n 2, 1) := by decide +kernel
theorem dX11_away_45 : decode cX11_away 45 = .ok (.iload_n 3, 1) := by decide +kernel
theorem dX11_away_46 : decode cX11_away 46 = .ok (.invokevirtual 97, 3) := by decide +kernel
theorem dX11_away_49 : decode cX11_away 49 = .ok (.goto 4, 3) := by decide +kernel
theorem dX11_away_52 : decode cX11_away 52 = .ok (.iconst (-1), 1) := by decide +kernel
theorem dX11_away_53 : decode cX11_away 53 = .ok (.ireturn, 1) := by decide +kernel
set_option maxRecDepth 20000 in
theorem ggX11_feast_X11_isDayOfYear : GoodIn wsX11_feast wsX11_isDayOfYear := goodIn_r _ [5, 6, 7, 4, 8] (by decide +kernel) (by decide +kernel)
set_option maxRecDepth 20000 in
theorem gX11_feast_X11_isDayOfYear : GoodIn wsX11_feast (va_wsS RX11 101 yX11_isDayOfYear wsX11_isDayOfYear) := goodIn_app (goodIn_of _ (by decide +kernel)) ggX11_feast_X11_isDayOfYear
set_option maxRecDepth 20000 in
theorem ggX11_feast_X11_within : GoodIn wsX11_feast wsX11_within := goodIn_r _ [8] (by decide +kernel) (by decide +kernel)
set_option maxRecDepth 20000 in
theorem gX11_feast_X11_within : GoodIn wsX11_feast (va_wsS RX11 78 yX11_within wsX11_within) := goodIn_app (goodIn_of _ (by decide +kernel)) ggX11_feast_X11_within
set_option maxRecDepth 20000 in
theorem ggX11_feast_X3_enter : GoodIn wsX11_feast wsX3_enter := goodIn_r _ [13, 14, 15, 16, 17, 18, 19, 12, 20, 21, 22, 23, 24, 25, 26, 27, 28, 29, 30, 31, 32, 33, 34, 35, 36, 37, 38, 39, 40, 56, 57, 58, 59, 60, 61, 62] (by decide +kernel) (by decide +kernel)
set_option maxRecDepth 20000 in
theorem gX11_feast_X3_enter : GoodIn wsX11_feast (wsV RX11 104 RX3 yX3_enter wsX3_enter) := goodIn_app (goodIn_of _ (by decide +kernel)) ggX11_feast_X3_enter
theorem dX11_feast_0 : decode cX11_feast 0 = .ok (.iload_n 1, 1) := by decide +kernel
theorem dX11_feast_1 : decode cX11_feast 1 = .ok (.invokestatic 101, 3) := by decide +kernel
theorem dX11_feast_4 : decode cX11_feast 4 = .ok (.ifCond .eq 24, 3) := by decide +kernel
theorem dX11_feast_7 : decode cX11_feast 7 = .ok (.iload_n 2, 1) := by decide +kernel
theorem dX11_feast_8 : decode cX11_feast 8 = .ok (.iconst 1, 1) := by decide +kernel
theorem dX11_feast_9 : decode cX11_feast 9 = .ok (.iconst 4, 1) := by decide +kernel
theorem dX11_feast_10 : decode cX11_feast 10 = .ok (.invokestatic 78, 3) := by decide +kernel
theorem dX11_feast_13 : decode cX11_feast 13 = .ok (.ifCond .eq 15, 3) := by decide +kernel
theorem dX11_feast_16 : decode cX11_feast 16 = .ok (.aload_n 0, 1) := by decide +kernel
theorem dX11_feast_17 : decode cX11_feast 17 = .ok (.getfield 19, 3) := by decide +kernel
theorem dX11_feast_20 : decode cX11_feast 20 = .ok (.iload_n 1, 1) := by decide +kernel
theorem dX11_feast_21 : decode cX11_feast 21 = .ok (.iload_n 2, 1) := by decide +kernel
theorem dX11_feast_22 : decode cX11_feast 22 = .ok (.invokevirtual 104, 3) := by decide +kernel
theorem dX11_feast_25 : decode cX11_feast 25 = .ok (.goto 4, 3) := by decide +kernel
theorem dX11_feast_28 : decode cX11_feast 28 = .ok (.iconst (-1), 1) := by decide +kernel
theorem dX11_feast_29 : decode cX11_feast 29 = .ok (.ireturn, 1) := by decide +kernel
set_option maxRecDepth 20000 in
theorem ggX11_held_X3_heldBy : GoodIn wsX11_held wsX3_heldBy := goodIn_r _ [6, 7, 8, 9, 10, 11, 12, 13, 14, 30, 31, 32, 33, 34, 35, 36] (by decide +kernel) (by decide +kernel)
set_option maxRecDepth 20000 in
theorem gX11_held_X3_heldBy : GoodIn wsX11_held (wsV RX11 107 RX3 yX3_heldBy wsX3_heldBy) := goodIn_app (goodIn_of _ (by decide +kernel)) ggX11_held_X3_heldBy
theorem dX11_held_0 : decode cX11_held 0 = .ok (.aload_n 0, 1) := by decide +kernel
theorem dX11_held_1 : decode cX11_held 1 = .ok (.getfield 19, 3) := by decide +kernel
theorem dX11_held_4 : decode cX11_held 4 = .ok (.iload_n 1, 1) := by decide +kernel
theorem dX11_held_5 : decode cX11_held 5 = .ok (.invokevirtual 107, 3) := by decide +kernel
theorem dX11_held_8 : decode cX11_held 8 = .ok (.ireturn, 1) := by decide +kernel
set_option maxRecDepth 20000 in
theorem ggX11_when_X3_dayOfFeast : GoodIn wsX11_when wsX3_dayOfFeast := goodIn_r _ [6, 7, 8, 24, 25, 26, 27, 28, 29, 30] (by decide +kernel) (by decide +kernel)
set_option maxRecDepth 20000 in
theorem gX11_when_X3_dayOfFeast : GoodIn wsX11_when (wsV RX11 111 RX3 yX3_dayOfFeast wsX3_dayOfFeast) := goodIn_app (goodIn_of _ (by decide +kernel)) ggX11_when_X3_dayOfFeast
theorem dX11_when_0 : decode cX11_when 0 = .ok (.aload_n 0, 1) := by decide +kernel
theorem dX11_when_1 : decode cX11_when 1 = .ok (.getfield 19, 3) := by decide +kernel
theorem dX11_when_4 : decode cX11_when 4 = .ok (.iload_n 1, 1) := by decide +kernel
theorem dX11_when_5 : decode cX11_when 5 = .ok (.invokevirtual 111, 3) := by decide +kernel
theorem dX11_when_8 : decode cX11_when 8 = .ok (.ireturn, 1) := by decide +kernel
set_option maxRecDepth 20000 in
theorem ggX11_light_X11_isDayOfYear : GoodIn wsX11_light wsX11_isDayOfYear := goodIn_r _ [4, 5, 6, 3, 7] (by decide +kernel) (by decide +kernel)
set_option maxRecDepth 20000 in
theorem gX11_light_X11_isDayOfYear : GoodIn wsX11_light (va_wsS RX11 101 yX11_isDayOfYear wsX11_isDayOfYear) := goodIn_app (goodIn_of _ (by decide +kernel)) ggX11_light_X11_isDayOfYear
set_option maxRecDepth 20000 in
theorem ggX11_light_X8_minutes : GoodIn wsX11_light wsX8_minutes := goodIn_r _ [11] (by decide +kernel) (by decide +kernel)
set_option maxRecDepth 20000 in
theorem gX11_light_X8_minutes : GoodIn wsX11_light (va_wsS RX11 114 yX8_minutes wsX8_minutes) := goodIn_app (goodIn_of _ (by decide +kernel)) ggX11_light_X8_minutes
set_option maxRecDepth 20000 in
theorem ggX11_light_X8_rise : GoodIn wsX11_light wsX8_rise := goodIn_r _ [14, 15, 9, 10, 11] (by decide +kernel) (by decide +kernel)
set_option maxRecDepth 20000 in
theorem gX11_light_X8_rise : GoodIn wsX11_light (va_wsS RX11 119 yX8_rise wsX8_rise) := goodIn_app (goodIn_of _ (by decide +kernel)) ggX11_light_X8_rise
set_option maxRecDepth 20000 in
theorem ggX11_light_X8_setting : GoodIn wsX11_light wsX8_setting := goodIn_r _ [18, 19, 13, 10, 14, 15, 9, 11] (by decide +kernel) (by decide +kernel)
set_option maxRecDepth 20000 in
theorem gX11_light_X8_setting : GoodIn wsX11_light (va_wsS RX11 122 yX8_setting wsX8_setting) := goodIn_app (goodIn_of _ (by decide +kernel)) ggX11_light_X8_setting
theorem dX11_light_0 : decode cX11_light 0 = .ok (.iload_n 1, 1) := by decide +kernel
theorem dX11_light_1 : decode cX11_light 1 = .ok (.invokestatic 101, 3) := by decide +kernel
theorem dX11_light_4 : decode cX11_light 4 = .ok (.ifCond .ne 5, 3) := by decide +kernel
theorem dX11_light_7 : decode cX11_light 7 = .ok (.iconst (-1), 1) := by decide +kernel
theorem dX11_light_8 : decode cX11_light 8 = .ok (.ireturn, 1) := by decide +kernel
theorem dX11_light_9 : decode cX11_light 9 = .ok (.iload_n 2, 1) := by decide +kernel
theorem dX11_light_10 : decode cX11_light 10 = .ok (.tableswitch 41 0 2 #[26, 31, 36], 26) := by decide +kernel
theorem dX11_light_36 : decode cX11_light 36 = .ok (.iload_n 1, 1) := by decide +kernel
theorem dX11_light_37 : decode cX11_light 37 = .ok (.invokestatic 114, 3) := by decide +kernel
theorem dX11_light_40 : decode cX11_light 40 = .ok (.ireturn, 1) := by decide +kernel
theorem dX11_light_41 : decode cX11_light 41 = .ok (.iload_n 1, 1) := by decide +kernel
theorem dX11_light_42 : decode cX11_light 42 = .ok (.invokestatic 119, 3) := by decide +kernel
theorem dX11_light_45 : decode cX11_light 45 = .ok (.ireturn, 1) := by decide +kernel
theorem dX11_light_46 : decode cX11_light 46 = .ok (.iload_n 1, 1) := by decide +kernel
theorem dX11_light_47 : decode cX11_light 47 = .ok (.invokestatic 122, 3) := by decide +kernel
theorem dX11_light_50 : decode cX11_light 50 = .ok (.ireturn, 1) := by decide +kernel
theorem dX11_light_51 : decode cX11_light 51 = .ok (.iconst (-1), 1) := by decide +kernel
theorem dX11_light_52 : decode cX11_light 52 = .ok (.ireturn, 1) := by decide +kernel
set_option maxRecDepth 20000 in
theorem ggX11_office_X11_isDay : GoodIn wsX11_office wsX11_isDay := goodIn_r _ [5, 6, 7, 4, 8] (by decide +kernel) (by decide +kernel)
set_option maxRecDepth 20000 in
theorem gX11_office_X11_isDay : GoodIn wsX11_office (va_wsS RX11 125 yX11_isDay wsX11_isDay) := goodIn_app (goodIn_of _ (by decide +kernel)) ggX11_office_X11_isDay
set_option maxRecDepth 20000 in
theorem ggX11_office_X11_isOffice : GoodIn wsX11_office wsX11_isOffice := goodIn_r _ [11, 6, 7, 4, 8] (by decide +kernel) (by decide +kernel)
set_option maxRecDepth 20000 in
theorem gX11_office_X11_isOffice : GoodIn wsX11_office (va_wsS RX11 128 yX11_isOffice wsX11_isOffice) := goodIn_app (goodIn_of _ (by decide +kernel)) ggX11_office_X11_isOffice
set_option maxRecDepth 20000 in
theorem ggX11_office_X0_startOf : GoodIn wsX11_office wsX0_startOf := goodIn_r _ [16, 17, 18, 19, 20, 15, 21, 22, 23, 24, 25, 26, 27, 28, 29, 30, 31, 32, 33, 34, 50, 51, 52, 53] (by decide +kernel) (by decide +kernel)
set_option maxRecDepth 20000 in
theorem gX11_office_X0_startOf : GoodIn wsX11_office (wsV RX11 131 RX0 yX0_startOf wsX0_startOf) := goodIn_app (goodIn_of _ (by decide +kernel)) ggX11_office_X0_startOf
theorem dX11_office_0 : decode cX11_office 0 = .ok (.iload_n 1, 1) := by decide +kernel
theorem dX11_office_1 : decode cX11_office 1 = .ok (.invokestatic 125, 3) := by decide +kernel
theorem dX11_office_4 : decode cX11_office 4 = .ok (.ifCond .eq 22, 3) := by decide +kernel
theorem dX11_office_7 : decode cX11_office 7 = .ok (.iload_n 2, 1) := by decide +kernel
theorem dX11_office_8 : decode cX11_office 8 = .ok (.invokestatic 128, 3) := by decide +kernel
theorem dX11_office_11 : decode cX11_office 11 = .ok (.ifCond .eq 15, 3) := by decide +kernel
theorem dX11_office_14 : decode cX11_office 14 = .ok (.aload_n 0, 1) := by decide +kernel
theorem dX11_office_15 : decode cX11_office 15 = .ok (.getfield 10, 3) := by decide +kernel
theorem dX11_office_18 : decode cX11_office 18 = .ok (.iload_n 1, 1) := by decide +kernel
theorem dX11_office_19 : decode cX11_office 19 = .ok (.iload_n 2, 1) := by decide +kernel
theorem dX11_office_20 : decode cX11_office 20 = .ok (.invokevirtual 131, 3) := by decide +kernel
theorem dX11_office_23 : decode cX11_office 23 = .ok (.goto 4, 3) := by decide +kernel
theorem dX11_office_26 : decode cX11_office 26 = .ok (.iconst (-1), 1) := by decide +kernel
theorem dX11_office_27 : decode cX11_office 27 = .ok (.ireturn, 1) := by decide +kernel
set_option maxRecDepth 20000 in
theorem ggX11_late_X11_isDay : GoodIn wsX11_late wsX11_isDay := goodIn_r _ [6, 7, 8, 5, 9] (by decide +kernel) (by decide +kernel)
set_option maxRecDepth 20000 in
theorem gX11_late_X11_isDay : GoodIn wsX11_late (va_wsS RX11 125 yX11_isDay wsX11_isDay) := goodIn_app (goodIn_of _ (by decide +kernel)) ggX11_late_X11_isDay
set_option maxRecDepth 20000 in
theorem ggX11_late_X11_isOffice : GoodIn wsX11_late wsX11_isOffice := goodIn_r _ [12, 7, 8, 5, 9] (by decide +kernel) (by decide +kernel)
set_option maxRecDepth 20000 in
theorem gX11_late_X11_isOffice : GoodIn wsX11_late (va_wsS RX11 128 yX11_isOffice wsX11_isOffice) := goodIn_app (goodIn_of _ (by decide +kernel)) ggX11_late_X11_isOffice
set_option maxRecDepth 20000 in
theorem ggX11_late_X11_within : GoodIn wsX11_late wsX11_within := goodIn_r _ [9] (by decide +kernel) (by decide +kernel)
set_option maxRecDepth 20000 in
theorem gX11_late_X11_within : GoodIn wsX11_late (va_wsS RX11 78 yX11_within wsX11_within) := goodIn_app (goodIn_of _ (by decide +kernel)) ggX11_late_X11_within
set_option maxRecDepth 20000 in
theorem ggX11_late_X0_delay : GoodIn wsX11_late wsX0_delay := goodIn_r _ [17, 18, 19, 20, 21, 22, 23, 24, 25, 26, 27, 28, 29, 30, 31, 32, 33, 34, 16, 35, 36, 37, 38, 39, 40, 41, 42, 43, 59, 60, 61, 62] (by decide +kernel) (by decide +kernel)
set_option maxRecDepth 20000 in
theorem gX11_late_X0_delay : GoodIn wsX11_late (wsV RX11 134 RX0 yX0_delay wsX0_delay) := goodIn_app (goodIn_of _ (by decide +kernel)) ggX11_late_X0_delay
theorem dX11_late_0 : decode cX11_late 0 = .ok (.iload_n 1, 1) := by decide +kernel
theorem dX11_late_1 : decode cX11_late 1 = .ok (.invokestatic 125, 3) := by decide +kernel
theorem dX11_late_4 : decode cX11_late 4 = .ok (.ifCond .eq 32, 3) := by decide +kernel
theorem dX11_late_7 : decode cX11_late 7 = .ok (.iload_n 1, 1) := by decide +kernel
theorem dX11_late_8 : decode cX11_late 8 = .ok (.aload_n 0, 1) := by decide +kernel
theorem dX11_late_9 : decode cX11_late 9 = .ok (.getfield 82, 3) := by decide +kernel
theorem dX11_late_12 : decode cX11_late 12 = .ok (.if_icmp .lt 24, 3) := by decide +kernel
theorem dX11_late_15 : decode cX11_late 15 = .ok (.iload_n 2, 1) := by decide +kernel
theorem dX11_late_16 : decode cX11_late 16 = .ok (.invokestatic 128, 3) := by decide +kernel
theorem dX11_late_19 : decode cX11_late 19 = .ok (.ifCond .eq 17, 3) := by decide +kernel
theorem dX11_late_22 : decode cX11_late 22 = .ok (.iload_n 3, 1) := by decide +kernel
theorem dX11_late_23 : decode cX11_late 23 = .ok (.iconst 1, 1) := by decide +kernel
theorem dX11_late_24 : decode cX11_late 24 = .ok (.bipush 120, 2) := by decide +kernel
theorem dX11_late_26 : decode cX11_late 26 = .ok (.invokestatic 78, 3) := by decide +kernel
theorem dX11_late_29 : decode cX11_late 29 = .ok (.ifCond .eq 7, 3) := by decide +kernel
theorem dX11_late_32 : decode cX11_late 32 = .ok (.iconst 1, 1) := by decide +kernel
theorem dX11_late_33 : decode cX11_late 33 = .ok (.goto 4, 3) := by decide +kernel
theorem dX11_late_36 : decode cX11_late 36 = .ok (.iconst 0, 1) := by decide +kernel
theorem dX11_late_37 : decode cX11_late 37 = .ok (.istore 4, 2) := by decide +kernel
theorem dX11_late_39 : decode cX11_late 39 = .ok (.iload 4, 2) := by decide +kernel
theorem dX11_late_41 : decode cX11_late 41 = .ok (.ifCond .eq 16, 3) := by decide +kernel
theorem dX11_late_44 : decode cX11_late 44 = .ok (.aload_n 0, 1) := by decide +kernel
theorem dX11_late_45 : decode cX11_late 45 = .ok (.getfield 10, 3) := by decide +kernel
theorem dX11_late_48 : decode cX11_late 48 = .ok (.iload_n 1, 1) := by decide +kernel
theorem dX11_late_49 : decode cX11_late 49 = .ok (.iload_n 2, 1) := by decide +kernel
theorem dX11_late_50 : decode cX11_late 50 = .ok (.iload_n 3, 1) := by decide +kernel
theorem dX11_late_51 : decode cX11_late 51 = .ok (.invokevirtual 134, 3) := by decide +kernel
theorem dX11_late_54 : decode cX11_late 54 = .ok (.goto 4, 3) := by decide +kernel
theorem dX11_late_57 : decode cX11_late 57 = .ok (.iconst (-1), 1) := by decide +kernel
theorem dX11_late_58 : decode cX11_late 58 = .ok (.ireturn, 1) := by decide +kernel
set_option maxRecDepth 20000 in
theorem ggX11_feed_X9_hasRoomForFeed : GoodIn wsX11_feed wsX9_hasRoomForFeed := goodIn_r _ [6, 7, 32, 33] (by decide +kernel) (by decide +kernel)
set_option maxRecDepth 20000 in
theorem gX11_feed_X9_hasRoomForFeed : GoodIn wsX11_feed (wsV RX11 137 RX9 yX9_hasRoomForFeed wsX9_hasRoomForFeed) := goodIn_app (goodIn_of _ (by decide +kernel)) ggX11_feed_X9_hasRoomForFeed
set_option maxRecDepth 20000 in
theorem ggX11_feed_X9_put : GoodIn wsX11_feed wsX9_put := goodIn_r _ [11, 7, 12, 32, 33] (by decide +kernel) (by decide +kernel)
set_option maxRecDepth 20000 in
theorem gX11_feed_X9_put : GoodIn wsX11_feed (wsV RX11 141 RX9 yX9_put wsX9_put) := goodIn_app (goodIn_of _ (by decide +kernel)) ggX11_feed_X9_put
set_option maxRecDepth 20000 in
theorem ggX11_feed_X9_length : GoodIn wsX11_feed wsX9_length := goodIn_r _ [16, 7, 32, 33] (by decide +kernel) (by decide +kernel)
set_option maxRecDepth 20000 in
theorem gX11_feed_X9_length : GoodIn wsX11_feed (wsV RX11 144 RX9 yX9_length wsX9_length) := goodIn_app (goodIn_of _ (by decide +kernel)) ggX11_feed_X9_length
theorem dX11_feed_0 : decode cX11_feed 0 = .ok (.aload_n 0, 1) := by decide +kernel
theorem dX11_feed_1 : decode cX11_feed 1 = .ok (.getfield 26, 3) := by decide +kernel
theorem dX11_feed_4 : decode cX11_feed 4 = .ok (.invokevirtual 137, 3) := by decide +kernel
theorem dX11_feed_7 : decode cX11_feed 7 = .ok (.ifCond .ne 5, 3) := by decide +kernel
theorem dX11_feed_10 : decode cX11_feed 10 = .ok (.iconst (-1), 1) := by decide +kernel
theorem dX11_feed_11 : decode cX11_feed 11 = .ok (.ireturn, 1) := by decide +kernel
theorem dX11_feed_12 : decode cX11_feed 12 = .ok (.aload_n 0, 1) := by decide +kernel
theorem dX11_feed_13 : decode cX11_feed 13 = .ok (.getfield 26, 3) := by decide +kernel
theorem dX11_feed_16 : decode cX11_feed 16 = .ok (.iload_n 1, 1) := by decide +kernel
theorem dX11_feed_17 : decode cX11_feed 17 = .ok (.invokevirtual 141, 3) := by decide +kernel
theorem dX11_feed_20 : decode cX11_feed 20 = .ok (.aload_n 0, 1) := by decide +kernel
theorem dX11_feed_21 : decode cX11_feed 21 = .ok (.getfield 26, 3) := by decide +kernel
theorem dX11_feed_24 : decode cX11_feed 24 = .ok (.iload_n 2, 1) := by decide +kernel
theorem dX11_feed_25 : decode cX11_feed 25 = .ok (.invokevirtual 141, 3) := by decide +kernel
theorem dX11_feed_28 : decode cX11_feed 28 = .ok (.aload_n 0, 1) := by decide +kernel
theorem dX11_feed_29 : decode cX11_feed 29 = .ok (.getfield 26, 3) := by decide +kernel
theorem dX11_feed_32 : decode cX11_feed 32 = .ok (.iload_n 3, 1) := by decide +kernel
theorem dX11_feed_33 : decode cX11_feed 33 = .ok (.invokevirtual 141, 3) := by decide +kernel
theorem dX11_feed_36 : decode cX11_feed 36 = .ok (.aload_n 0, 1) := by decide +kernel
theorem dX11_feed_37 : decode cX11_feed 37 = .ok (.getfield 26, 3) := by decide +kernel
theorem dX11_feed_40 : decode cX11_feed 40 = .ok (.iload 4, 2) := by decide +kernel
theorem dX11_feed_42 : decode cX11_feed 42 = .ok (.invokevirtual 141, 3) := by decide +kernel
theorem dX11_feed_45 : decode cX11_feed 45 = .ok (.aload_n 0, 1) := by decide +kernel
theorem dX11_feed_46 : decode cX11_feed 46 = .ok (.getfield 26, 3) := by decide +kernel
theorem dX11_feed_49 : decode cX11_feed 49 = .ok (.iload 5, 2) := by decide +kernel
theorem dX11_feed_51 : decode cX11_feed 51 = .ok (.invokevirtual 141, 3) := by decide +kernel
theorem dX11_feed_54 : decode cX11_feed 54 = .ok (.aload_n 0, 1) := by decide +kernel
theorem dX11_feed_55 : decode cX11_feed 55 = .ok (.getfield 26, 3) := by decide +kernel
theorem dX11_feed_58 : decode cX11_feed 58 = .ok (.invokevirtual 144, 3) := by decide +kernel
theorem dX11_feed_61 : decode cX11_feed 61 = .ok (.ireturn, 1) := by decide +kernel
set_option maxRecDepth 20000 in
theorem ggX11_rule_X9_length : GoodIn wsX11_rule wsX9_length := goodIn_r _ [10, 11, 197, 198] (by decide +kernel) (by decide +kernel)
set_option maxRecDepth 20000 in
theorem gX11_rule_X9_length : GoodIn wsX11_rule (wsV RX11 144 RX9 yX9_length wsX9_length) := goodIn_app (goodIn_of _ (by decide +kernel)) ggX11_rule_X9_length
set_option maxRecDepth 20000 in
theorem ggX11_rule_X11_within : GoodIn wsX11_rule wsX11_within := goodIn_r _ [15] (by decide +kernel) (by decide +kernel)
set_option maxRecDepth 20000 in
theorem gX11_rule_X11_within : GoodIn wsX11_rule (va_wsS RX11 78 yX11_within wsX11_within) := goodIn_app (goodIn_of _ (by decide +kernel)) ggX11_rule_X11_within
set_option maxRecDepth 20000 in
theorem ggX11_rule_X7_isFull : GoodIn wsX11_rule wsX7_isFull := goodIn_r _ [20, 21, 199, 200, 201, 202, 203, 204] (by decide +kernel) (by decide +kernel)
set_option maxRecDepth 20000 in
theorem gX11_rule_X7_isFull : GoodIn wsX11_rule (wsV RX11 148 RX7 yX7_isFull wsX7_isFull) := goodIn_app (goodIn_of _ (by decide +kernel)) ggX11_rule_X7_isFull
set_option maxRecDepth 20000 in
theorem ggX11_rule_X6_read : GoodIn wsX11_rule wsX6_read := goodIn_r _ [26, 27, 28, 29, 30, 31, 32, 33, 34, 35, 36, 37, 38, 39, 40, 41, 42, 43, 44, 45, 46, 47, 48, 9, 49, 11, 50, 51, 52, 53, 54, 55, 56, 57, 58, 59, 60, 61, 62, 63, 64, 65, 66, 67, 68, 69, 70, 71, 72, 73, 74, 75, 76, 77, 78, 79, 80, 81, 82, 83, 84, 85, 86, 87, 88, 89, 90, 91, 92, 93, 94, 95, 96, 97, 98, 99, 100, 101, 102, 103, 104, 105, 106, 107, 108, 109, 110, 111, 112, 113, 114, 115, 116, 117, 118, 119, 120, 121, 122, 123, 124, 125, 126, 127, 128, 129, 130, 131, 132, 133, 134, 135, 136, 137, 138, 25, 139, 140, 141, 142, 143, 144, 145, 146, 147, 148, 149, 150, 151, 152, 153, 154, 155, 156, 157, 158, 159, 160, 161, 162, 163, 164, 165, 166, 167, 205, 206, 207, 208, 209, 210, 211, 212, 213, 214, 215, 216, 217, 197, 198] (by decide +kernel) (by decide +kernel)
set_option maxRecDepth 20000 in
theorem gX11_rule_X6_read : GoodIn wsX11_rule (wsV RX11 151 RX6 yX6_read wsX6_read) := goodIn_app (goodIn_of _ (by decide +kernel)) ggX11_rule_X6_read
set_option maxRecDepth 20000 in
theorem ggX11_rule_X9_wipe : GoodIn wsX11_rule wsX9_wipe := goodIn_r _ [171, 11, 197, 198] (by decide +kernel) (by decide +kernel)
set_option maxRecDepth 20000 in
theorem gX11_rule_X9_wipe : GoodIn wsX11_rule (wsV RX11 155 RX9 yX9_wipe wsX9_wipe) := goodIn_app (goodIn_of _ (by decide +kernel)) ggX11_rule_X9_wipe
set_option maxRecDepth 20000 in
theorem ggX11_rule_X7_take : GoodIn wsX11_rule wsX7_take := goodIn_r _ [175, 176, 21, 177, 178, 179, 180, 181, 17, 18, 19, 20, 199, 200, 201, 202, 203, 204, 205, 206, 207, 208, 209, 210, 211, 212] (by decide +kernel) (by decide +kernel)
set_option maxRecDepth 20000 in
theorem gX11_rule_X7_take : GoodIn wsX11_rule (wsV RX11 158 RX7 yX7_take wsX7_take) := goodIn_app (goodIn_of _ (by decide +kernel)) ggX11_rule_X7_take
theorem dX11_rule_0 : decode cX11_rule 0 = .ok (.iload_n 1, 1) := by decide +kernel
theorem dX11_rule_1 : decode cX11_rule 1 = .ok (.iconst 0, 1) := by decide +kernel
theorem dX11_rule_2 : decode cX11_rule 2 = .ok (.aload_n 0, 1) := by decide +kernel
theorem dX11_rule_3 : decode cX11_rule 3 = .ok (.getfield 26, 3) := by decide +kernel
theorem dX11_rule_6 : decode cX11_rule 6 = .ok (.invokevirtual 144, 3) := by decide +kernel
theorem dX11_rule_9 : decode cX11_rule 9 = .ok (.invokestatic 78, 3) := by decide +kernel
theorem dX11_rule_12 : decode cX11_rule 12 = .ok (.ifCond .ne 6, 3) := by decide +kernel
theorem dX11_rule_15 : decode cX11_rule 15 = .ok (.bipush (-2), 2) := by decide +kernel
theorem dX11_rule_17 : decode cX11_rule 17 = .ok (.ireturn, 1) := by decide +kernel
theorem dX11_rule_18 : decode cX11_rule 18 = .ok (.aload_n 0, 1) := by decide +kernel
theorem dX11_rule_19 : decode cX11_rule 19 = .ok (.getfield 40, 3) := by decide +kernel
theorem dX11_rule_22 : decode cX11_rule 22 = .ok (.invokevirtual 148, 3) := by decide +kernel
theorem dX11_rule_25 : decode cX11_rule 25 = .ok (.ifCond .eq 6, 3) := by decide +kernel
theorem dX11_rule_28 : decode cX11_rule 28 = .ok (.bipush (-3), 2) := by decide +kernel
theorem dX11_rule_30 : decode cX11_rule 30 = .ok (.ireturn, 1) := by decide +kernel
theorem dX11_rule_31 : decode cX11_rule 31 = .ok (.aload_n 0, 1) := by decide +kernel
theorem dX11_rule_32 : decode cX11_rule 32 = .ok (.aload_n 0, 1) := by decide +kernel
theorem dX11_rule_33 : decode cX11_rule 33 = .ok (.getfield 33, 3) := by decide +kernel
theorem dX11_rule_36 : decode cX11_rule 36 = .ok (.aload_n 0, 1) := by decide +kernel
theorem dX11_rule_37 : decode cX11_rule 37 = .ok (.getfield 26, 3) := by decide +kernel
theorem dX11_rule_40 : decode cX11_rule 40 = .ok (.iload_n 1, 1) := by decide +kernel
theorem dX11_rule_41 : decode cX11_rule 41 = .ok (.invokevirtual 151, 3) := by decide +kernel
theorem dX11_rule_44 : decode cX11_rule 44 = .ok (.putfield 74, 3) := by decide +kernel
theorem dX11_rule_47 : decode cX11_rule 47 = .ok (.aload_n 0, 1) := by decide +kernel
theorem dX11_rule_48 : decode cX11_rule 48 = .ok (.getfield 26, 3) := by decide +kernel
theorem dX11_rule_51 : decode cX11_rule 51 = .ok (.invokevirtual 155, 3) := by decide +kernel
theorem dX11_rule_54 : decode cX11_rule 54 = .ok (.aload_n 0, 1) := by decide +kernel
theorem dX11_rule_55 : decode cX11_rule 55 = .ok (.getfield 74, 3) := by decide +kernel
theorem dX11_rule_58 : decode cX11_rule 58 = .ok (.iconst (-1), 1) := by decide +kernel
theorem dX11_rule_59 : decode cX11_rule 59 = .ok (.if_icmp .ne 21, 3) := by decide +kernel
theorem dX11_rule_62 : decode cX11_rule 62 = .ok (.aload_n 0, 1) := by decide +kernel
theorem dX11_rule_63 : decode cX11_rule 63 = .ok (.getfield 40, 3) := by decide +kernel
theorem dX11_rule_66 : decode cX11_rule 66 = .ok (.aload_n 0, 1) := by decide +kernel
theorem dX11_rule_67 : decode cX11_rule 67 = .ok (.getfield 33, 3) := by decide +kernel
theorem dX11_rule_70 : decode cX11_rule 70 = .ok (.aload_n 0, 1) := by decide +kernel
theorem dX11_rule_71 : decode cX11_rule 71 = .ok (.getfield 82, 3) := by decide +kernel
theorem dX11_rule_74 : decode cX11_rule 74 = .ok (.invokevirtual 158, 3) := by decide +kernel
theorem dX11_rule_77 : decode cX11_rule 77 = .ok (.goto 4, 3) := by decide +kernel
theorem dX11_rule_80 : decode cX11_rule 80 = .ok (.iconst (-1), 1) := by decide +kernel
theorem dX11_rule_81 : decode cX11_rule 81 = .ok (.ireturn, 1) := by decide +kernel
theorem dX11_fault_0 : decode cX11_fault 0 = .ok (.aload_n 0, 1) := by decide +kernel
theorem dX11_fault_1 : decode cX11_fault 1 = .ok (.getfield 74, 3) := by decide +kernel
theorem dX11_fault_4 : decode cX11_fault 4 = .ok (.ireturn, 1) := by decide +kernel
set_option maxRecDepth 20000 in
theorem ggX11_fast_X11_isDay : GoodIn wsX11_fast wsX11_isDay := goodIn_r _ [6, 7, 8, 5, 9] (by decide +kernel) (by decide +kernel)
set_option maxRecDepth 20000 in
theorem gX11_fast_X11_isDay : GoodIn wsX11_fast (va_wsS RX11 125 yX11_isDay wsX11_isDay) := goodIn_app (goodIn_of _ (by decide +kernel)) ggX11_fast_X11_isDay
set_option maxRecDepth 20000 in
theorem ggX11_fast_X3_rankHeld : GoodIn wsX11_fast wsX3_rankHeld := goodIn_r _ [14, 15, 16, 17, 18, 13, 19, 20, 21, 22, 5, 23, 7, 8, 9, 72, 73, 74, 75, 76, 77, 78] (by decide +kernel) (by decide +kernel)
set_option maxRecDepth 20000 in
theorem gX11_fast_X3_rankHeld : GoodIn wsX11_fast (wsV RX11 162 RX3 yX3_rankHeld wsX3_rankHeld) := goodIn_app (goodIn_of _ (by decide +kernel)) ggX11_fast_X3_rankHeld
set_option maxRecDepth 20000 in
theorem ggX11_fast_X7_isFast : GoodIn wsX11_fast wsX7_isFast := goodIn_r _ [28, 29, 30, 31, 32, 27, 33, 34, 35, 36, 37, 38, 39, 40, 41, 42, 79, 80, 81, 82, 83, 84] (by decide +kernel) (by decide +kernel)
set_option maxRecDepth 20000 in
theorem gX11_fast_X7_isFast : GoodIn wsX11_fast (wsV RX11 165 RX7 yX7_isFast wsX7_isFast) := goodIn_app (goodIn_of _ (by decide +kernel)) ggX11_fast_X7_isFast
set_option maxRecDepth 20000 in
theorem ggX11_fast_X7_shareOfHead : GoodIn wsX11_fast wsX7_shareOfHead := goodIn_r _ [46, 47, 25, 26, 27, 28, 29, 30, 31, 32, 33, 34, 35, 36, 37, 38, 39, 40, 41, 42, 48, 49, 50, 51, 79, 80, 81, 82, 83, 84] (by decide +kernel) (by decide +kernel)
set_option maxRecDepth 20000 in
theorem gX11_fast_X7_shareOfHead : GoodIn wsX11_fast (wsV RX11 168 RX7 yX7_shareOfHead wsX7_shareOfHead) := goodIn_app (goodIn_of _ (by decide +kernel)) ggX11_fast_X7_shareOfHead
set_option maxRecDepth 20000 in
theorem ggX11_fast_X7_shareOfGuest : GoodIn wsX11_fast wsX7_shareOfGuest := goodIn_r _ [55, 48, 49, 50, 27, 51, 29, 40, 41, 42, 30, 31, 32, 33, 34, 35, 79, 80, 81, 82, 83, 84] (by decide +kernel) (by decide +kernel)
set_option maxRecDepth 20000 in
theorem gX11_fast_X7_shareOfGuest : GoodIn wsX11_fast (wsV RX11 171 RX7 yX7_shareOfGuest wsX7_shareOfGuest) := goodIn_app (goodIn_of _ (by decide +kernel)) ggX11_fast_X7_shareOfGuest
set_option maxRecDepth 20000 in
theorem ggX11_fast_X7_inForce : GoodIn wsX11_fast wsX7_inForce := goodIn_r _ [33, 34, 35, 79, 80, 81, 82, 83, 84] (by decide +kernel) (by decide +kernel)
set_option maxRecDepth 20000 in
theorem gX11_fast_X7_inForce : GoodIn wsX11_fast (wsV RX11 174 RX7 yX7_inForce wsX7_inForce) := goodIn_app (goodIn_of _ (by decide +kernel)) ggX11_fast_X7_inForce
theorem dX11_fast_0 : decode cX11_fast 0 = .ok (.iload_n 1, 1) := by decide +kernel
theorem dX11_fast_1 : decode cX11_fast 1 = .ok (.invokestatic 125, 3) := by decide +kernel
theorem dX11_fast_4 : decode cX11_fast 4 = .ok (.ifCond .ne 5, 3) := by decide +kernel
theorem dX11_fast_7 : decode cX11_fast 7 = .ok (.iconst (-1), 1) := by decide +kernel
theorem dX11_fast_8 : decode cX11_fast 8 = .ok (.ireturn, 1) := by decide +kernel
theorem dX11_fast_9 : decode cX11_fast 9 = .ok (.aload_n 0, 1) := by decide +kernel
theorem dX11_fast_10 : decode cX11_fast 10 = .ok (.getfield 19, 3) := by decide +kernel
theorem dX11_fast_13 : decode cX11_fast 13 = .ok (.iload_n 1, 1) := by decide +kernel
theorem dX11_fast_14 : decode cX11_fast 14 = .ok (.sipush 365, 3) := by decide +kernel
theorem dX11_fast_17 : decode cX11_fast 17 = .ok (.irem, 1) := by decide +kernel
theorem dX11_fast_18 : decode cX11_fast 18 = .ok (.invokevirtual 162, 3) := by decide +kernel
theorem dX11_fast_21 : decode cX11_fast 21 = .ok (.istore_n 3, 1) := by decide +kernel
theorem dX11_fast_22 : decode cX11_fast 22 = .ok (.iload_n 2, 1) := by decide +kernel
theorem dX11_fast_23 : decode cX11_fast 23 = .ok (.tableswitch 75 0 3 #[29, 47, 57, 66], 29) := by decide +kernel
theorem dX11_fast_52 : decode cX11_fast 52 = .ok (.aload_n 0, 1) := by decide +kernel
theorem dX11_fast_53 : decode cX11_fast 53 = .ok (.getfield 40, 3) := by decide +kernel
theorem dX11_fast_56 : decode cX11_fast 56 = .ok (.iload_n 1, 1) := by decide +kernel
theorem dX11_fast_57 : decode cX11_fast 57 = .ok (.iload_n 3, 1) := by decide +kernel
theorem dX11_fast_58 : decode cX11_fast 58 = .ok (.invokevirtual 165, 3) := by decide +kernel
theorem dX11_fast_61 : decode cX11_fast 61 = .ok (.ifCond .eq 7, 3) := by decide +kernel
theorem dX11_fast_64 : decode cX11_fast 64 = .ok (.iconst 1, 1) := by decide +kernel
theorem dX11_fast_65 : decode cX11_fast 65 = .ok (.goto 4, 3) := by decide +kernel
theorem dX11_fast_68 : decode cX11_fast 68 = .ok (.iconst 0, 1) := by decide +kernel
theorem dX11_fast_69 : decode cX11_fast 69 = .ok (.ireturn, 1) := by decide +kernel
theorem dX11_fast_70 : decode cX11_fast 70 = .ok (.aload_n 0, 1) := by decide +kernel
theorem dX11_fast_71 : decode cX11_fast 71 = .ok (.getfield 40, 3) := by decide +kernel
theorem dX11_fast_74 : decode cX11_fast 74 = .ok (.iload_n 1, 1) := by decide +kernel
theorem dX11_fast_75 : decode cX11_fast 75 = .ok (.iload_n 3, 1) := by decide +kernel
