theorem dX0_init_0 : decode cX0_init 0 = .ok (.aload_n 0, 1) := by decide +kernel
theorem dX0_init_1 : decode cX0_init 1 = .ok (.invokespecial 3, 3) := by decide +kernel
theorem dX0_init_4 : decode cX0_init 4 = .ok (.aload_n 0, 1) := by decide +kernel
theorem dX0_init_5 : decode cX0_init 5 = .ok (.bipush 100, 2) := by decide +kernel
theorem dX0_init_7 : decode cX0_init 7 = .ok (.newarray .int, 2) := by decide +kernel
theorem dX0_init_9 : decode cX0_init 9 = .ok (.putfield 11, 3) := by decide +kernel
theorem dX0_init_12 : decode cX0_init 12 = .ok (.aload_n 0, 1) := by decide +kernel
theorem dX0_init_13 : decode cX0_init 13 = .ok (.bipush 100, 2) := by decide +kernel
theorem dX0_init_15 : decode cX0_init 15 = .ok (.newarray .int, 2) := by decide +kernel
theorem dX0_init_17 : decode cX0_init 17 = .ok (.putfield 15, 3) := by decide +kernel
theorem dX0_init_20 : decode cX0_init 20 = .ok (.aload_n 0, 1) := by decide +kernel
theorem dX0_init_21 : decode cX0_init 21 = .ok (.bipush 100, 2) := by decide +kernel
theorem dX0_init_23 : decode cX0_init 23 = .ok (.newarray .int, 2) := by decide +kernel
theorem dX0_init_25 : decode cX0_init 25 = .ok (.putfield 18, 3) := by decide +kernel
theorem dX0_init_28 : decode cX0_init 28 = .ok (.return_, 1) := by decide +kernel
set_option maxRecDepth 20000 in
theorem ggX0_startOf_X0_rowOf : GoodIn wsX0_startOf wsX0_rowOf := goodIn_sub (List.forall_mem_cons.mpr ⟨List.mem_cons_of_mem _ (List.mem_append_left _ (List.mem_of_getElem? (i := 5) rfl)), List.forall_mem_append.mpr ⟨List.forall_mem_cons.mpr ⟨List.mem_cons_of_mem _ (List.mem_append_left _ (List.mem_of_getElem? (i := 6) rfl)), List.forall_mem_cons.mpr ⟨List.mem_cons_of_mem _ (List.mem_append_left _ (List.mem_of_getElem? (i := 7) rfl)), List.forall_mem_cons.mpr ⟨List.mem_cons_of_mem _ (List.mem_append_left _ (List.mem_of_getElem? (i := 8) rfl)), fun _ h => absurd h List.not_mem_nil⟩⟩⟩, tl_X0_startOf_X0⟩⟩) (by decide +kernel)
set_option maxRecDepth 20000 in
theorem gX0_startOf_X0_rowOf : GoodIn wsX0_startOf (wsV RX0 21 RX0 yX0_rowOf wsX0_rowOf) := goodIn_app (goodIn_sub (List.forall_mem_cons.mpr ⟨List.mem_cons_of_mem _ (List.mem_append_left _ (List.mem_of_getElem? (i := 1) rfl)), List.forall_mem_cons.mpr ⟨List.mem_cons_of_mem _ (List.mem_append_left _ (List.mem_of_getElem? (i := 2) rfl)), List.forall_mem_cons.mpr ⟨List.mem_cons_of_mem _ (List.mem_append_left _ (List.mem_of_getElem? (i := 3) rfl)), List.forall_mem_cons.mpr ⟨List.mem_cons_of_mem _ (List.mem_append_left _ (List.mem_of_getElem? (i := 4) rfl)), fun _ h => absurd h List.not_mem_nil⟩⟩⟩⟩) (by decide +kernel)) ggX0_startOf_X0_rowOf
set_option maxRecDepth 20000 in
theorem ggX0_startOf_X8_bell : GoodIn wsX0_startOf wsX8_bell := goodIn_sub (List.forall_mem_cons.mpr ⟨List.mem_cons_of_mem _ (List.mem_append_left _ (List.mem_of_getElem? (i := 12) rfl)), List.forall_mem_cons.mpr ⟨List.mem_cons_of_mem _ (List.mem_append_left _ (List.mem_of_getElem? (i := 13) rfl)), List.forall_mem_cons.mpr ⟨List.mem_cons_of_mem _ (List.mem_append_left _ (List.mem_of_getElem? (i := 14) rfl)), List.forall_mem_cons.mpr ⟨List.mem_cons_of_mem _ (List.mem_append_left _ (List.mem_of_getElem? (i := 11) rfl)), List.forall_mem_cons.mpr ⟨List.mem_cons_of_mem _ (List.mem_append_left _ (List.mem_of_getElem? (i := 15) rfl)), List.forall_mem_cons.mpr ⟨List.mem_cons_of_mem _ (List.mem_append_left _ (List.mem_of_getElem? (i := 16) rfl)), List.forall_mem_cons.mpr ⟨List.mem_cons_of_mem _ (List.mem_append_left _ (List.mem_of_getElem? (i := 17) rfl)), List.forall_mem_cons.mpr ⟨List.mem_cons_of_mem _ (List.mem_append_left _ (List.mem_of_getElem? (i := 18) rfl)), fun _ h => absurd h List.not_mem_nil⟩⟩⟩⟩⟩⟩⟩⟩) (by decide +kernel)
set_option maxRecDepth 20000 in
theorem gX0_startOf_X8_bell : GoodIn wsX0_startOf (va_wsS RX0 25 yX8_bell wsX8_bell) := goodIn_app (goodIn_sub (List.forall_mem_cons.mpr ⟨List.mem_cons_of_mem _ (List.mem_append_left _ (List.mem_of_getElem? (i := 9) rfl)), List.forall_mem_cons.mpr ⟨List.mem_cons_of_mem _ (List.mem_append_left _ (List.mem_of_getElem? (i := 10) rfl)), List.forall_mem_cons.mpr ⟨List.mem_cons_of_mem _ (List.mem_append_left _ (List.mem_of_getElem? (i := 11) rfl)), fun _ h => absurd h List.not_mem_nil⟩⟩⟩) (by decide +kernel)) ggX0_startOf_X8_bell
theorem dX0_startOf_0 : decode cX0_startOf 0 = .ok (.aload_n 0, 1) := by decide +kernel
theorem dX0_startOf_1 : decode cX0_startOf 1 = .ok (.iload_n 1, 1) := by decide +kernel
theorem dX0_startOf_2 : decode cX0_startOf 2 = .ok (.iload_n 2, 1) := by decide +kernel
theorem dX0_startOf_3 : decode cX0_startOf 3 = .ok (.invokevirtual 21, 3) := by decide +kernel
theorem dX0_startOf_6 : decode cX0_startOf 6 = .ok (.istore_n 3, 1) := by decide +kernel
theorem dX0_startOf_7 : decode cX0_startOf 7 = .ok (.iload_n 1, 1) := by decide +kernel
theorem dX0_startOf_8 : decode cX0_startOf 8 = .ok (.sipush 365, 3) := by decide +kernel
theorem dX0_startOf_11 : decode cX0_startOf 11 = .ok (.irem, 1) := by decide +kernel
theorem dX0_startOf_12 : decode cX0_startOf 12 = .ok (.iload_n 2, 1) := by decide +kernel
theorem dX0_startOf_13 : decode cX0_startOf 13 = .ok (.invokestatic 25, 3) := by decide +kernel
theorem dX0_startOf_16 : decode cX0_startOf 16 = .ok (.iload_n 3, 1) := by decide +kernel
theorem dX0_startOf_17 : decode cX0_startOf 17 = .ok (.iconst (-1), 1) := by decide +kernel
theorem dX0_startOf_18 : decode cX0_startOf 18 = .ok (.if_icmp .ne 7, 3) := by decide +kernel
theorem dX0_startOf_21 : decode cX0_startOf 21 = .ok (.iconst 0, 1) := by decide +kernel
theorem dX0_startOf_22 : decode cX0_startOf 22 = .ok (.goto 9, 3) := by decide +kernel
theorem dX0_startOf_25 : decode cX0_startOf 25 = .ok (.aload_n 0, 1) := by decide +kernel
theorem dX0_startOf_26 : decode cX0_startOf 26 = .ok (.getfield 18, 3) := by decide +kernel
theorem dX0_startOf_29 : decode cX0_startOf 29 = .ok (.iload_n 3, 1) := by decide +kernel
theorem dX0_startOf_30 : decode cX0_startOf 30 = .ok (.iaload, 1) := by decide +kernel
theorem dX0_startOf_31 : decode cX0_startOf 31 = .ok (.iadd, 1) := by decide +kernel
theorem dX0_startOf_32 : decode cX0_startOf 32 = .ok (.ireturn, 1) := by decide +kernel
set_option maxRecDepth 20000 in
theorem ggX0_delay_X8_bell : GoodIn wsX0_delay wsX8_bell := goodIn_sub (List.forall_mem_cons.mpr ⟨mc_X0_delay_r1 _ (List.mem_of_getElem? (i := 7) rfl), List.forall_mem_cons.mpr ⟨mc_X0_delay_r1 _ (List.mem_of_getElem? (i := 8) rfl), List.forall_mem_cons.mpr ⟨mc_X0_delay_r1 _ (List.mem_of_getElem? (i := 9) rfl), List.forall_mem_cons.mpr ⟨mc_X0_delay_r1 _ (List.mem_of_getElem? (i := 6) rfl), List.forall_mem_cons.mpr ⟨mc_X0_delay_r1 _ (List.mem_of_getElem? (i := 10) rfl), List.forall_mem_cons.mpr ⟨mc_X0_delay_r1 _ (List.mem_of_getElem? (i := 11) rfl), List.forall_mem_cons.mpr ⟨mc_X0_delay_r1 _ (List.mem_of_getElem? (i := 12) rfl), List.forall_mem_cons.mpr ⟨mc_X0_delay_r1 _ (List.mem_of_getElem? (i := 13) rfl), fun _ h => absurd h List.not_mem_nil⟩⟩⟩⟩⟩⟩⟩⟩) (by decide +kernel)
set_option maxRecDepth 20000 in
theorem gX0_delay_X8_bell : GoodIn wsX0_delay (va_wsS RX0 25 yX8_bell wsX8_bell) := goodIn_app (goodIn_sub (List.forall_mem_cons.mpr ⟨mc_X0_delay_r1 _ (List.mem_of_getElem? (i := 4) rfl), List.forall_mem_cons.mpr ⟨mc_X0_delay_r1 _ (List.mem_of_getElem? (i := 5) rfl), List.forall_mem_cons.mpr ⟨mc_X0_delay_r1 _ (List.mem_of_getElem? (i := 6) rfl), fun _ h => absurd h List.not_mem_nil⟩⟩⟩) (by decide +kernel)) ggX0_delay_X8_bell
set_option maxRecDepth 20000 in
theorem ggX0_delay_X0_keepsOrder : GoodIn wsX0_delay wsX0_keepsOrder := goodIn_sub (List.forall_mem_cons.mpr ⟨mc_X0_delay_r1 _ (List.mem_of_getElem? (i := 18) rfl), List.forall_mem_append.mpr ⟨List.forall_mem_cons.mpr ⟨mc_X0_delay_r1 _ (List.mem_of_getElem? (i := 19) rfl), List.forall_mem_cons.mpr ⟨mc_X0_delay_r1 _ (List.mem_of_getElem? (i := 20) rfl), List.forall_mem_cons.mpr ⟨mc_X0_delay_r1 _ (List.mem_of_getElem? (i := 21) rfl), List.forall_mem_cons.mpr ⟨mc_X0_delay_r1 _ (List.mem_of_getElem? (i := 17) rfl), List.forall_mem_cons.mpr ⟨mc_X0_delay_r1 _ (List.mem_of_getElem? (i := 22) rfl), List.forall_mem_cons.mpr ⟨mc_X0_delay_r1 _ (List.mem_of_getElem? (i := 3) rfl), List.forall_mem_cons.mpr ⟨mc_X0_delay_r1 _ (List.mem_of_getElem? (i := 23) rfl), List.forall_mem_cons.mpr ⟨mc_X0_delay_r2 _ (List.mem_of_getElem? (i := 0) rfl), List.forall_mem_cons.mpr ⟨mc_X0_delay_r2 _ (List.mem_of_getElem? (i := 1) rfl), List.forall_mem_cons.mpr ⟨mc_X0_delay_r2 _ (List.mem_of_getElem? (i := 2) rfl), List.forall_mem_cons.mpr ⟨mc_X0_delay_r1 _ (List.mem_of_getElem? (i := 0) rfl), List.forall_mem_cons.mpr ⟨mc_X0_delay_r1 _ (List.mem_of_getElem? (i := 1) rfl), List.forall_mem_cons.mpr ⟨mc_X0_delay_r1 _ (List.mem_of_getElem? (i := 2) rfl), List.forall_mem_cons.mpr ⟨mc_X0_delay_r1 _ (List.mem_of_getElem? (i := 4) rfl), List.forall_mem_cons.mpr ⟨mc_X0_delay_r1 _ (List.mem_of_getElem? (i := 5) rfl), List.forall_mem_cons.mpr ⟨mc_X0_delay_r1 _ (List.mem_of_getElem? (i := 6) rfl), List.forall_mem_cons.mpr ⟨mc_X0_delay_r1 _ (List.mem_of_getElem? (i := 7) rfl), List.forall_mem_cons.mpr ⟨mc_X0_delay_r1 _ (List.mem_of_getElem? (i := 8) rfl), List.forall_mem_cons.mpr ⟨mc_X0_delay_r1 _ (List.mem_of_getElem? (i := 9) rfl), List.forall_mem_cons.mpr ⟨mc_X0_delay_r1 _ (List.mem_of_getElem? (i := 10) rfl), List.forall_mem_cons.mpr ⟨mc_X0_delay_r1 _ (List.mem_of_getElem? (i := 11) rfl), List.forall_mem_cons.mpr ⟨mc_X0_delay_r1 _ (List.mem_of_getElem? (i := 12) rfl), List.forall_mem_cons.mpr ⟨mc_X0_delay_r1 _ (List.mem_of_getElem? (i := 13) rfl), fun _ h => absurd h List.not_mem_nil⟩⟩⟩⟩⟩⟩⟩⟩⟩⟩⟩⟩⟩⟩⟩⟩⟩⟩⟩⟩⟩⟩⟩, tl_X0_delay_X0⟩⟩) (by decide +kernel)
set_option maxRecDepth 20000 in
theorem gX0_delay_X0_keepsOrder : GoodIn wsX0_delay (wsV RX0 34 RX0 yX0_keepsOrder wsX0_keepsOrder) := goodIn_app (goodIn_sub (List.forall_mem_cons.mpr ⟨mc_X0_delay_r1 _ (List.mem_of_getElem? (i := 14) rfl), List.forall_mem_cons.mpr ⟨mc_X0_delay_r1 _ (List.mem_of_getElem? (i := 15) rfl), List.forall_mem_cons.mpr ⟨mc_X0_delay_r1 _ (List.mem_of_getElem? (i := 16) rfl), List.forall_mem_cons.mpr ⟨mc_X0_delay_r1 _ (List.mem_of_getElem? (i := 17) rfl), fun _ h => absurd h List.not_mem_nil⟩⟩⟩⟩) (by decide +kernel)) ggX0_delay_X0_keepsOrder
set_option maxRecDepth 20000 in
theorem ggX0_delay_X0_rowOf : GoodIn wsX0_delay wsX0_rowOf := goodIn_sub (List.forall_mem_cons.mpr ⟨mc_X0_delay_r2 _ (List.mem_of_getElem? (i := 2) rfl), List.forall_mem_append.mpr ⟨List.forall_mem_cons.mpr ⟨mc_X0_delay_r1 _ (List.mem_of_getElem? (i := 0) rfl), List.forall_mem_cons.mpr ⟨mc_X0_delay_r1 _ (List.mem_of_getElem? (i := 1) rfl), List.forall_mem_cons.mpr ⟨mc_X0_delay_r1 _ (List.mem_of_getElem? (i := 2) rfl), fun _ h => absurd h List.not_mem_nil⟩⟩⟩, tl_X0_delay_X0⟩⟩) (by decide +kernel)
set_option maxRecDepth 20000 in
theorem gX0_delay_X0_rowOf : GoodIn wsX0_delay (wsV RX0 21 RX0 yX0_rowOf wsX0_rowOf) := goodIn_app (goodIn_sub (List.forall_mem_cons.mpr ⟨mc_X0_delay_r1 _ (List.mem_of_getElem? (i := 23) rfl), List.forall_mem_cons.mpr ⟨mc_X0_delay_r2 _ (List.mem_of_getElem? (i := 0) rfl), List.forall_mem_cons.mpr ⟨mc_X0_delay_r2 _ (List.mem_of_getElem? (i := 1) rfl), List.forall_mem_cons.mpr ⟨mc_X0_delay_r1 _ (List.mem_of_getElem? (i := 17) rfl), fun _ h => absurd h List.not_mem_nil⟩⟩⟩⟩) (by decide +kernel)) ggX0_delay_X0_rowOf
theorem dX0_delay_0 : decode cX0_delay 0 = .ok (.iload_n 1, 1) := by decide +kernel
theorem dX0_delay_1 : decode cX0_delay 1 = .ok (.sipush 365, 3) := by decide +kernel
theorem dX0_delay_4 : decode cX0_delay 4 = .ok (.irem, 1) := by decide +kernel
theorem dX0_delay_5 : decode cX0_delay 5 = .ok (.iload_n 2, 1) := by decide +kernel
theorem dX0_delay_6 : decode cX0_delay 6 = .ok (.invokestatic 25, 3) := by decide +kernel
theorem dX0_delay_9 : decode cX0_delay 9 = .ok (.iload_n 3, 1) := by decide +kernel
theorem dX0_delay_10 : decode cX0_delay 10 = .ok (.iadd, 1) := by decide +kernel
theorem dX0_delay_11 : decode cX0_delay 11 = .ok (.istore 4, 2) := by decide +kernel
theorem dX0_delay_13 : decode cX0_delay 13 = .ok (.aload_n 0, 1) := by decide +kernel
theorem dX0_delay_14 : decode cX0_delay 14 = .ok (.getfield 30, 3) := by decide +kernel
theorem dX0_delay_17 : decode cX0_delay 17 = .ok (.bipush 100, 2) := by decide +kernel
theorem dX0_delay_19 : decode cX0_delay 19 = .ok (.if_icmp .ge 14, 3) := by decide +kernel
theorem dX0_delay_22 : decode cX0_delay 22 = .ok (.aload_n 0, 1) := by decide +kernel
theorem dX0_delay_23 : decode cX0_delay 23 = .ok (.iload_n 1, 1) := by decide +kernel
theorem dX0_delay_24 : decode cX0_delay 24 = .ok (.iload_n 2, 1) := by decide +kernel
theorem dX0_delay_25 : decode cX0_delay 25 = .ok (.iload 4, 2) := by decide +kernel
theorem dX0_delay_27 : decode cX0_delay 27 = .ok (.invokevirtual 34, 3) := by decide +kernel
theorem dX0_delay_30 : decode cX0_delay 30 = .ok (.ifCond .ne 5, 3) := by decide +kernel
theorem dX0_delay_33 : decode cX0_delay 33 = .ok (.iconst (-1), 1) := by decide +kernel
theorem dX0_delay_34 : decode cX0_delay 34 = .ok (.ireturn, 1) := by decide +kernel
theorem dX0_delay_35 : decode cX0_delay 35 = .ok (.aload_n 0, 1) := by decide +kernel
theorem dX0_delay_36 : decode cX0_delay 36 = .ok (.iload_n 1, 1) := by decide +kernel
theorem dX0_delay_37 : decode cX0_delay 37 = .ok (.iload_n 2, 1) := by decide +kernel
theorem dX0_delay_38 : decode cX0_delay 38 = .ok (.invokevirtual 21, 3) := by decide +kernel
theorem dX0_delay_41 : decode cX0_delay 41 = .ok (.istore 5, 2) := by decide +kernel
theorem dX0_delay_43 : decode cX0_delay 43 = .ok (.iload 5, 2) := by decide +kernel
theorem dX0_delay_45 : decode cX0_delay 45 = .ok (.iconst (-1), 1) := by decide +kernel
theorem dX0_delay_46 : decode cX0_delay 46 = .ok (.if_icmp .ne 19, 3) := by decide +kernel
theorem dX0_delay_49 : decode cX0_delay 49 = .ok (.aload_n 0, 1) := by decide +kernel
theorem dX0_delay_50 : decode cX0_delay 50 = .ok (.getfield 30, 3) := by decide +kernel
theorem dX0_delay_53 : decode cX0_delay 53 = .ok (.istore 5, 2) := by decide +kernel
theorem dX0_delay_55 : decode cX0_delay 55 = .ok (.aload_n 0, 1) := by decide +kernel
theorem dX0_delay_56 : decode cX0_delay 56 = .ok (.dup, 1) := by decide +kernel
theorem dX0_delay_57 : decode cX0_delay 57 = .ok (.getfield 30, 3) := by decide +kernel
theorem dX0_delay_60 : decode cX0_delay 60 = .ok (.iconst 1, 1) := by decide +kernel
theorem dX0_delay_61 : decode cX0_delay 61 = .ok (.iadd, 1) := by decide +kernel
theorem dX0_delay_62 : decode cX0_delay 62 = .ok (.putfield 30, 3) := by decide +kernel
theorem dX0_delay_65 : decode cX0_delay 65 = .ok (.aload_n 0, 1) := by decide +kernel
theorem dX0_delay_66 : decode cX0_delay 66 = .ok (.getfield 11, 3) := by decide +kernel
theorem dX0_delay_69 : decode cX0_delay 69 = .ok (.iload 5, 2) := by decide +kernel
theorem dX0_delay_71 : decode cX0_delay 71 = .ok (.iload_n 1, 1) := by decide +kernel
theorem dX0_delay_72 : decode cX0_delay 72 = .ok (.iastore, 1) := by decide +kernel
theorem dX0_delay_73 : decode cX0_delay 73 = .ok (.aload_n 0, 1) := by decide +kernel
theorem dX0_delay_74 : decode cX0_delay 74 = .ok (.getfield 15, 3) := by decide +kernel
theorem dX0_delay_77 : decode cX0_delay 77 = .ok (.iload 5, 2) := by decide +kernel
theorem dX0_delay_79 : decode cX0_delay 79 = .ok (.iload_n 2, 1) := by decide +kernel
theorem dX0_delay_80 : decode cX0_delay 80 = .ok (.iastore, 1) := by decide +kernel
theorem dX0_delay_81 : decode cX0_delay 81 = .ok (.aload_n 0, 1) := by decide +kernel
theorem dX0_delay_82 : decode cX0_delay 82 = .ok (.getfield 18, 3) := by decide +kernel
theorem dX0_delay_85 : decode cX0_delay 85 = .ok (.iload 5, 2) := by decide +kernel
theorem dX0_delay_87 : decode cX0_delay 87 = .ok (.iload_n 3, 1) := by decide +kernel
theorem dX0_delay_88 : decode cX0_delay 88 = .ok (.iastore, 1) := by decide +kernel
theorem dX0_delay_89 : decode cX0_delay 89 = .ok (.iload 4, 2) := by decide +kernel
theorem dX0_delay_91 : decode cX0_delay 91 = .ok (.ireturn, 1) := by decide +kernel
set_option maxRecDepth 20000 in
theorem ggX0_candles_X8_rise : GoodIn wsX0_candles wsX8_rise := goodIn_sub (List.forall_mem_cons.mpr ⟨mc_X0_candles_r1 _ (List.mem_of_getElem? (i := 3) rfl), List.forall_mem_cons.mpr ⟨mc_X0_candles_r1 _ (List.mem_of_getElem? (i := 4) rfl), List.forall_mem_cons.mpr ⟨mc_X0_candles_r1 _ (List.mem_of_getElem? (i := 5) rfl), List.forall_mem_cons.mpr ⟨mc_X0_candles_r1 _ (List.mem_of_getElem? (i := 2) rfl), List.forall_mem_cons.mpr ⟨mc_X0_candles_r1 _ (List.mem_of_getElem? (i := 6) rfl), fun _ h => absurd h List.not_mem_nil⟩⟩⟩⟩⟩) (by decide +kernel)
set_option maxRecDepth 20000 in
theorem gX0_candles_X8_rise : GoodIn wsX0_candles (va_wsS RX0 38 yX8_rise wsX8_rise) := goodIn_app (goodIn_sub (List.forall_mem_cons.mpr ⟨mc_X0_candles_r1 _ (List.mem_of_getElem? (i := 0) rfl), List.forall_mem_cons.mpr ⟨mc_X0_candles_r1 _ (List.mem_of_getElem? (i := 1) rfl), List.forall_mem_cons.mpr ⟨mc_X0_candles_r1 _ (List.mem_of_getElem? (i := 2) rfl), fun _ h => absurd h List.not_mem_nil⟩⟩⟩) (by decide +kernel)) ggX0_candles_X8_rise
set_option maxRecDepth 20000 in
theorem ggX0_candles_X8_setting : GoodIn wsX0_candles wsX8_setting := goodIn_sub (List.forall_mem_cons.mpr ⟨mc_X0_candles_r1 _ (List.mem_of_getElem? (i := 9) rfl), List.forall_mem_cons.mpr ⟨mc_X0_candles_r1 _ (List.mem_of_getElem? (i := 10) rfl), List.forall_mem_cons.mpr ⟨mc_X0_candles_r1 _ (List.mem_of_getElem? (i := 1) rfl), List.forall_mem_cons.mpr ⟨mc_X0_candles_r1 _ (List.mem_of_getElem? (i := 2) rfl), List.forall_mem_cons.mpr ⟨mc_X0_candles_r1 _ (List.mem_of_getElem? (i := 3) rfl), List.forall_mem_cons.mpr ⟨mc_X0_candles_r1 _ (List.mem_of_getElem? (i := 4) rfl), List.forall_mem_cons.mpr ⟨mc_X0_candles_r1 _ (List.mem_of_getElem? (i := 5) rfl), List.forall_mem_cons.mpr ⟨mc_X0_candles_r1 _ (List.mem_of_getElem? (i := 6) rfl), fun _ h => absurd h List.not_mem_nil⟩⟩⟩⟩⟩⟩⟩⟩) (by decide +kernel)
set_option maxRecDepth 20000 in
theorem gX0_candles_X8_setting : GoodIn wsX0_candles (va_wsS RX0 42 yX8_setting wsX8_setting) := goodIn_app (goodIn_sub (List.forall_mem_cons.mpr ⟨mc_X0_candles_r1 _ (List.mem_of_getElem? (i := 7) rfl), List.forall_mem_cons.mpr ⟨mc_X0_candles_r1 _ (List.mem_of_getElem? (i := 8) rfl), List.forall_mem_cons.mpr ⟨mc_X0_candles_r1 _ (List.mem_of_getElem? (i := 2) rfl), fun _ h => absurd h List.not_mem_nil⟩⟩⟩) (by decide +kernel)) ggX0_candles_X8_setting
set_option maxRecDepth 20000 in
theorem ggX0_candles_X0_startOf : GoodIn wsX0_candles wsX0_startOf := goodIn_sub (List.forall_mem_cons.mpr ⟨mc_X0_candles_r1 _ (List.mem_of_getElem? (i := 15) rfl), List.forall_mem_append.mpr ⟨List.forall_mem_cons.mpr ⟨mc_X0_candles_r1 _ (List.mem_of_getElem? (i := 16) rfl), List.forall_mem_cons.mpr ⟨mc_X0_candles_r1 _ (List.mem_of_getElem? (i := 17) rfl), List.forall_mem_cons.mpr ⟨mc_X0_candles_r1 _ (List.mem_of_getElem? (i := 18) rfl), List.forall_mem_cons.mpr ⟨mc_X0_candles_r1 _ (List.mem_of_getElem? (i := 19) rfl), List.forall_mem_cons.mpr ⟨mc_X0_candles_r1 _ (List.mem_of_getElem? (i := 14) rfl), List.forall_mem_cons.mpr ⟨mc_X0_candles_r1 _ (List.mem_of_getElem? (i := 20) rfl), List.forall_mem_cons.mpr ⟨mc_X0_candles_r1 _ (List.mem_of_getElem? (i := 21) rfl), List.forall_mem_cons.mpr ⟨mc_X0_candles_r1 _ (List.mem_of_getElem? (i := 22) rfl), List.forall_mem_cons.mpr ⟨mc_X0_candles_r1 _ (List.mem_of_getElem? (i := 23) rfl), List.forall_mem_cons.mpr ⟨mc_X0_candles_r2 _ (List.mem_of_getElem? (i := 0) rfl), List.forall_mem_cons.mpr ⟨mc_X0_candles_r2 _ (List.mem_of_getElem? (i := 1) rfl), List.forall_mem_cons.mpr ⟨mc_X0_candles_r1 _ (List.mem_of_getElem? (i := 2) rfl), List.forall_mem_cons.mpr ⟨mc_X0_candles_r2 _ (List.mem_of_getElem? (i := 2) rfl), List.forall_mem_cons.mpr ⟨mc_X0_candles_r1 _ (List.mem_of_getElem? (i := 4) rfl), List.forall_mem_cons.mpr ⟨mc_X0_candles_r1 _ (List.mem_of_getElem? (i := 5) rfl), List.forall_mem_cons.mpr ⟨mc_X0_candles_r1 _ (List.mem_of_getElem? (i := 6) rfl), List.forall_mem_cons.mpr ⟨mc_X0_candles_r1 _ (List.mem_of_getElem? (i := 10) rfl), List.forall_mem_cons.mpr ⟨mc_X0_candles_r1 _ (List.mem_of_getElem? (i := 1) rfl), List.forall_mem_cons.mpr ⟨mc_X0_candles_r1 _ (List.mem_of_getElem? (i := 3) rfl), fun _ h => absurd h List.not_mem_nil⟩⟩⟩⟩⟩⟩⟩⟩⟩⟩⟩⟩⟩⟩⟩⟩⟩⟩⟩, tl_X0_candles_X0⟩⟩) (by decide +kernel)
set_option maxRecDepth 20000 in
theorem gX0_candles_X0_startOf : GoodIn wsX0_candles (wsV RX0 45 RX0 yX0_startOf wsX0_startOf) := goodIn_app (goodIn_sub (List.forall_mem_cons.mpr ⟨mc_X0_candles_r1 _ (List.mem_of_getElem? (i := 11) rfl), List.forall_mem_cons.mpr ⟨mc_X0_candles_r1 _ (List.mem_of_getElem? (i := 12) rfl), List.forall_mem_cons.mpr ⟨mc_X0_candles_r1 _ (List.mem_of_getElem? (i := 13) rfl), List.forall_mem_cons.mpr ⟨mc_X0_candles_r1 _ (List.mem_of_getElem? (i := 14) rfl), fun _ h => absurd h List.not_mem_nil⟩⟩⟩⟩) (by decide +kernel)) ggX0_candles_X0_startOf
set_option maxRecDepth 20000 in
theorem ggX0_candles_X0_partOfOffice : GoodIn wsX0_candles wsX0_partOfOffice := goodIn_sub (List.forall_mem_cons.mpr ⟨mc_X0_candles_r2 _ (List.mem_of_getElem? (i := 5) rfl), List.forall_mem_cons.mpr ⟨mc_X0_candles_r2 _ (List.mem_of_getElem? (i := 6) rfl), List.forall_mem_cons.mpr ⟨mc_X0_candles_r2 _ (List.mem_of_getElem? (i := 7) rfl), List.forall_mem_cons.mpr ⟨mc_X0_candles_r2 _ (List.mem_of_getElem? (i := 8) rfl), List.forall_mem_cons.mpr ⟨mc_X0_candles_r2 _ (List.mem_of_getElem? (i := 9) rfl), List.forall_mem_cons.mpr ⟨mc_X0_candles_r2 _ (List.mem_of_getElem? (i := 10) rfl), List.forall_mem_cons.mpr ⟨mc_X0_candles_r2 _ (List.mem_of_getElem? (i := 11) rfl), List.forall_mem_cons.mpr ⟨mc_X0_candles_r2 _ (List.mem_of_getElem? (i := 12) rfl), fun _ h => absurd h List.not_mem_nil⟩⟩⟩⟩⟩⟩⟩⟩) (by decide +kernel)
set_option maxRecDepth 20000 in
theorem gX0_candles_X0_partOfOffice : GoodIn wsX0_candles (va_wsS RX0 48 yX0_partOfOffice wsX0_partOfOffice) := goodIn_app (goodIn_sub (List.forall_mem_cons.mpr ⟨mc_X0_candles_r2 _ (List.mem_of_getElem? (i := 3) rfl), List.forall_mem_cons.mpr ⟨mc_X0_candles_r2 _ (List.mem_of_getElem? (i := 4) rfl), List.forall_mem_cons.mpr ⟨mc_X0_candles_r1 _ (List.mem_of_getElem? (i := 14) rfl), fun _ h => absurd h List.not_mem_nil⟩⟩⟩) (by decide +kernel)) ggX0_candles_X0_partOfOffice
theorem dX0_candles_0 : decode cX0_candles 0 = .ok (.iload_n 1, 1) := by decide +kernel
theorem dX0_candles_1 : decode cX0_candles 1 = .ok (.sipush 365, 3) := by decide +kernel
theorem dX0_candles_4 : decode cX0_candles 4 = .ok (.irem, 1) := by decide +kernel
theorem dX0_candles_5 : decode cX0_candles 5 = .ok (.invokestatic 38, 3) := by decide +kernel
theorem dX0_candles_8 : decode cX0_candles 8 = .ok (.istore_n 2, 1) := by decide +kernel
theorem dX0_candles_9 : decode cX0_candles 9 = .ok (.iload_n 1, 1) := by decide +kernel
theorem dX0_candles_10 : decode cX0_candles 10 = .ok (.sipush 365, 3) := by decide +kernel
theorem dX0_candles_13 : decode cX0_candles 13 = .ok (.irem, 1) := by decide +kernel
theorem dX0_candles_14 : decode cX0_candles 14 = .ok (.invokestatic 42, 3) := by decide +kernel
theorem dX0_candles_17 : decode cX0_candles 17 = .ok (.istore_n 3, 1) := by decide +kernel
theorem dX0_candles_18 : decode cX0_candles 18 = .ok (.iconst 0, 1) := by decide +kernel
theorem dX0_candles_19 : decode cX0_candles 19 = .ok (.istore 4, 2) := by decide +kernel
theorem dX0_candles_21 : decode cX0_candles 21 = .ok (.iconst 0, 1) := by decide +kernel
theorem dX0_candles_22 : decode cX0_candles 22 = .ok (.istore 5, 2) := by decide +kernel
theorem dX0_candles_24 : decode cX0_candles 24 = .ok (.iload 5, 2) := by decide +kernel
theorem dX0_candles_26 : decode cX0_candles 26 = .ok (.bipush 8, 2) := by decide +kernel
theorem dX0_candles_28 : decode cX0_candles 28 = .ok (.if_icmp .ge 45, 3) := by decide +kernel
theorem dX0_candles_31 : decode cX0_candles 31 = .ok (.aload_n 0, 1) := by decide +kernel
theorem dX0_candles_32 : decode cX0_candles 32 = .ok (.iload_n 1, 1) := by decide +kernel
theorem dX0_candles_33 : decode cX0_candles 33 = .ok (.iload 5, 2) := by decide +kernel
theorem dX0_candles_35 : decode cX0_candles 35 = .ok (.invokevirtual 45, 3) := by decide +kernel
theorem dX0_candles_38 : decode cX0_candles 38 = .ok (.istore 6, 2) := by decide +kernel
theorem dX0_candles_40 : decode cX0_candles 40 = .ok (.iload 4, 2) := by decide +kernel
theorem dX0_candles_42 : decode cX0_candles 42 = .ok (.iload_n 2, 1) := by decide +kernel
theorem dX0_candles_43 : decode cX0_candles 43 = .ok (.iload 6, 2) := by decide +kernel
theorem dX0_candles_45 : decode cX0_candles 45 = .ok (.isub, 1) := by decide +kernel
theorem dX0_candles_46 : decode cX0_candles 46 = .ok (.invokestatic 48, 3) := by decide +kernel
theorem dX0_candles_49 : decode cX0_candles 49 = .ok (.iadd, 1) := by decide +kernel
theorem dX0_candles_50 : decode cX0_candles 50 = .ok (.istore 4, 2) := by decide +kernel
theorem dX0_candles_52 : decode cX0_candles 52 = .ok (.iload 4, 2) := by decide +kernel
theorem dX0_candles_54 : decode cX0_candles 54 = .ok (.iload 6, 2) := by decide +kernel
theorem dX0_candles_56 : decode cX0_candles 56 = .ok (.bipush 30, 2) := by decide +kernel
theorem dX0_candles_58 : decode cX0_candles 58 = .ok (.iadd, 1) := by decide +kernel
theorem dX0_candles_59 : decode cX0_candles 59 = .ok (.iload_n 3, 1) := by decide +kernel
theorem dX0_candles_60 : decode cX0_candles 60 = .ok (.isub, 1) := by decide +kernel
theorem dX0_candles_61 : decode cX0_candles 61 = .ok (.invokestatic 48, 3) := by decide +kernel
theorem dX0_candles_64 : decode cX0_candles 64 = .ok (.iadd, 1) := by decide +kernel
theorem dX0_candles_65 : decode cX0_candles 65 = .ok (.istore 4, 2) := by decide +kernel
theorem dX0_candles_67 : decode cX0_candles 67 = .ok (.iinc 5 1, 3) := by decide +kernel
theorem dX0_candles_70 : decode cX0_candles 70 = .ok (.goto (-46), 3) := by decide +kernel
theorem dX0_candles_73 : decode cX0_candles 73 = .ok (.iload 4, 2) := by decide +kernel
theorem dX0_candles_75 : decode cX0_candles 75 = .ok (.ireturn, 1) := by decide +kernel
set_option maxRecDepth 20000 in
theorem ggX0_keepsOrder_X0_startOf : GoodIn wsX0_keepsOrder wsX0_startOf := goodIn_sub (List.forall_mem_cons.mpr ⟨List.mem_cons_of_mem _ (List.mem_append_left _ (List.mem_of_getElem? (i := 4) rfl)), List.forall_mem_append.mpr ⟨List.forall_mem_cons.mpr ⟨List.mem_cons_of_mem _ (List.mem_append_left _ (List.mem_of_getElem? (i := 5) rfl)), List.forall_mem_cons.mpr ⟨List.mem_cons_of_mem _ (List.mem_append_left _ (List.mem_of_getElem? (i := 6) rfl)), List.forall_mem_cons.mpr ⟨List.mem_cons_of_mem _ (List.mem_append_left _ (List.mem_of_getElem? (i := 7) rfl)), List.forall_mem_cons.mpr ⟨List.mem_cons_of_mem _ (List.mem_append_left _ (List.mem_of_getElem? (i := 8) rfl)), List.forall_mem_cons.mpr ⟨List.mem_cons_of_mem _ (List.mem_append_left _ (List.mem_of_getElem? (i := 3) rfl)), List.forall_mem_cons.mpr ⟨List.mem_cons_of_mem _ (List.mem_append_left _ (List.mem_of_getElem? (i := 9) rfl)), List.forall_mem_cons.mpr ⟨List.mem_cons_of_mem _ (List.mem_append_left _ (List.mem_of_getElem? (i := 10) rfl)), List.forall_mem_cons.mpr ⟨List.mem_cons_of_mem _ (List.mem_append_left _ (List.mem_of_getElem? (i := 11) rfl)), List.forall_mem_cons.mpr ⟨List.mem_cons_of_mem _ (List.mem_append_left _ (List.mem_of_getElem? (i := 12) rfl)), List.forall_mem_cons.mpr ⟨List.mem_cons_of_mem _ (List.mem_append_left _ (List.mem_of_getElem? (i := 13) rfl)), List.forall_mem_cons.mpr ⟨List.mem_cons_of_mem _ (List.mem_append_left _ (List.mem_of_getElem? (i := 14) rfl)), List.forall_mem_cons.mpr ⟨List.mem_cons_of_mem _ (List.mem_append_left _ (List.mem_of_getElem? (i := 15) rfl)), List.forall_mem_cons.mpr ⟨List.mem_cons_of_mem _ (List.mem_append_left _ (List.mem_of_getElem? (i := 16) rfl)), List.forall_mem_cons.mpr ⟨List.mem_cons_of_mem _ (List.mem_append_left _ (List.mem_of_getElem? (i := 17) rfl)), List.forall_mem_cons.mpr ⟨List.mem_cons_of_mem _ (List.mem_append_left _ (List.mem_of_getElem? (i := 18) rfl)), List.forall_mem_cons.mpr ⟨List.mem_cons_of_mem _ (List.mem_append_left _ (List.mem_of_getElem? (i := 19) rfl)), List.forall_mem_cons.mpr ⟨List.mem_cons_of_mem _ (List.mem_append_left _ (List.mem_of_getElem? (i := 20) rfl)), List.forall_mem_cons.mpr ⟨List.mem_cons_of_mem _ (List.mem_append_left _ (List.mem_of_getElem? (i := 21) rfl)), List.forall_mem_cons.mpr ⟨List.mem_cons_of_mem _ (List.mem_append_left _ (List.mem_of_getElem? (i := 22) rfl)), fun _ h => absurd h List.not_mem_nil⟩⟩⟩⟩⟩⟩⟩⟩⟩⟩⟩⟩⟩⟩⟩⟩⟩⟩⟩, tl_X0_keepsOrder_X0⟩⟩) (by decide +kernel)
set_option maxRecDepth 20000 in
theorem gX0_keepsOrder_X0_startOf : GoodIn wsX0_keepsOrder (wsV RX0 45 RX0 yX0_startOf wsX0_startOf) := goodIn_app (goodIn_sub (List.forall_mem_cons.mpr ⟨List.mem_cons_of_mem _ (List.mem_append_left _ (List.mem_of_getElem? (i := 0) rfl)), List.forall_mem_cons.mpr ⟨List.mem_cons_of_mem _ (List.mem_append_left _ (List.mem_of_getElem? (i := 1) rfl)), List.forall_mem_cons.mpr ⟨List.mem_cons_of_mem _ (List.mem_append_left _ (List.mem_of_getElem? (i := 2) rfl)), List.forall_mem_cons.mpr ⟨List.mem_cons_of_mem _ (List.mem_append_left _ (List.mem_of_getElem? (i := 3) rfl)), fun _ h => absurd h List.not_mem_nil⟩⟩⟩⟩) (by decide +kernel)) ggX0_keepsOrder_X0_startOf
theorem dX0_keepsOrder_0 : decode cX0_keepsOrder 0 = .ok (.iload_n 2, 1) := by decide +kernel
theorem dX0_keepsOrder_1 : decode cX0_keepsOrder 1 = .ok (.bipush 7, 2) := by decide +kernel
theorem dX0_keepsOrder_3 : decode cX0_keepsOrder 3 = .ok (.if_icmp .ne 9, 3) := by decide +kernel
theorem dX0_keepsOrder_6 : decode cX0_keepsOrder 6 = .ok (.sipush 1410, 3) := by decide +kernel
theorem dX0_keepsOrder_9 : decode cX0_keepsOrder 9 = .ok (.goto 11, 3) := by decide +kernel
theorem dX0_keepsOrder_12 : decode cX0_keepsOrder 12 = .ok (.aload_n 0, 1) := by decide +kernel
theorem dX0_keepsOrder_13 : decode cX0_keepsOrder 13 = .ok (.iload_n 1, 1) := by decide +kernel
theorem dX0_keepsOrder_14 : decode cX0_keepsOrder 14 = .ok (.iload_n 2, 1) := by decide +kernel
theorem dX0_keepsOrder_15 : decode cX0_keepsOrder 15 = .ok (.iconst 1, 1) := by decide +kernel
theorem dX0_keepsOrder_16 : decode cX0_keepsOrder 16 = .ok (.iadd, 1) := by decide +kernel
theorem dX0_keepsOrder_17 : decode cX0_keepsOrder 17 = .ok (.invokevirtual 45, 3) := by decide +kernel
theorem dX0_keepsOrder_20 : decode cX0_keepsOrder 20 = .ok (.istore 4, 2) := by decide +kernel
theorem dX0_keepsOrder_22 : decode cX0_keepsOrder 22 = .ok (.iload_n 3, 1) := by decide +kernel
theorem dX0_keepsOrder_23 : decode cX0_keepsOrder 23 = .ok (.iload 4, 2) := by decide +kernel
theorem dX0_keepsOrder_25 : decode cX0_keepsOrder 25 = .ok (.if_icmp .ge 23, 3) := by decide +kernel
theorem dX0_keepsOrder_28 : decode cX0_keepsOrder 28 = .ok (.iload_n 2, 1) := by decide +kernel
theorem dX0_keepsOrder_29 : decode cX0_keepsOrder 29 = .ok (.ifCond .eq 15, 3) := by decide +kernel
theorem dX0_keepsOrder_32 : decode cX0_keepsOrder 32 = .ok (.iload_n 3, 1) := by decide +kernel
theorem dX0_keepsOrder_33 : decode cX0_keepsOrder 33 = .ok (.aload_n 0, 1) := by decide +kernel
theorem dX0_keepsOrder_34 : decode cX0_keepsOrder 34 = .ok (.iload_n 1, 1) := by decide +kernel
theorem dX0_keepsOrder_35 : decode cX0_keepsOrder 35 = .ok (.iload_n 2, 1) := by decide +kernel
theorem dX0_keepsOrder_36 : decode cX0_keepsOrder 36 = .ok (.iconst 1, 1) := by decide +kernel
theorem dX0_keepsOrder_37 : decode cX0_keepsOrder 37 = .ok (.isub, 1) := by decide +kernel
theorem dX0_keepsOrder_38 : decode cX0_keepsOrder 38 = .ok (.invokevirtual 45, 3) := by decide +kernel
theorem dX0_keepsOrder_41 : decode cX0_keepsOrder 41 = .ok (.if_icmp .le 7, 3) := by decide +kernel
theorem dX0_keepsOrder_44 : decode cX0_keepsOrder 44 = .ok (.iconst 1, 1) := by decide +kernel
theorem dX0_keepsOrder_45 : decode cX0_keepsOrder 45 = .ok (.goto 4, 3) := by decide +kernel
theorem dX0_keepsOrder_48 : decode cX0_keepsOrder 48 = .ok (.iconst 0, 1) := by decide +kernel
theorem dX0_keepsOrder_49 : decode cX0_keepsOrder 49 = .ok (.ireturn, 1) := by decide +kernel
theorem dX0_rowOf_0 : decode cX0_rowOf 0 = .ok (.iconst 0, 1) := by decide +kernel
theorem dX0_rowOf_1 : decode cX0_rowOf 1 = .ok (.istore_n 3, 1) := by decide +kernel
theorem dX0_rowOf_2 : decode cX0_rowOf 2 = .ok (.iload_n 3, 1) := by decide +kernel
theorem dX0_rowOf_3 : decode cX0_rowOf 3 = .ok (.aload_n 0, 1) := by decide +kernel
theorem dX0_rowOf_4 : decode cX0_rowOf 4 = .ok (.getfield 30, 3) := by decide +kernel
theorem dX0_rowOf_7 : decode cX0_rowOf 7 = .ok (.if_icmp .ge 31, 3) := by decide +kernel
theorem dX0_rowOf_10 : decode cX0_rowOf 10 = .ok (.aload_n 0, 1) := by decide +kernel
theorem dX0_rowOf_11 : decode cX0_rowOf 11 = .ok (.getfield 11, 3) := by decide +kernel
theorem dX0_rowOf_14 : decode cX0_rowOf 14 = .ok (.iload_n 3, 1) := by decide +kernel
theorem dX0_rowOf_15 : decode cX0_rowOf 15 = .ok (.iaload, 1) := by decide +kernel
theorem dX0_rowOf_16 : decode cX0_rowOf 16 = .ok (.iload_n 1, 1) := by decide +kernel
theorem dX0_rowOf_17 : decode cX0_rowOf 17 = .ok (.if_icmp .ne 15, 3) := by decide +kernel
theorem dX0_rowOf_20 : decode cX0_rowOf 20 = .ok (.aload_n 0, 1) := by decide +kernel
theorem dX0_rowOf_21 : decode cX0_rowOf 21 = .ok (.getfield 15, 3) := by decide +kernel
theorem dX0_rowOf_24 : decode cX0_rowOf 24 = .ok (.iload_n 3, 1) := by decide +kernel
theorem dX0_rowOf_25 : decode cX0_rowOf 25 = .ok (.iaload, 1) := by decide +kernel
theorem dX0_rowOf_26 : decode cX0_rowOf 26 = .ok (.iload_n 2, 1) := by decide +kernel
theorem dX0_rowOf_27 : decode cX0_rowOf 27 = .ok (.if_icmp .ne 5, 3) := by decide +kernel
theorem dX0_rowOf_30 : decode cX0_rowOf 30 = .ok (.iload_n 3, 1) := by decide +kernel
theorem dX0_rowOf_31 : decode cX0_rowOf 31 = .ok (.ireturn, 1) := by decide +kernel
theorem dX0_rowOf_32 : decode cX0_rowOf 32 = .ok (.iinc 3 1, 3) := by decide +kernel
theorem dX0_rowOf_35 : decode cX0_rowOf 35 = .ok (.goto (-33), 3) := by decide +kernel
theorem dX0_rowOf_38 : decode cX0_rowOf 38 = .ok (.iconst (-1), 1) := by decide +kernel
theorem dX0_rowOf_39 : decode cX0_rowOf 39 = .ok (.ireturn, 1) := by decide +kernel
theorem dX0_partOfOffice_0 : decode cX0_partOfOffice 0 = .ok (.iconst 0, 1) := by decide +kernel
theorem dX0_partOfOffice_1 : decode cX0_partOfOffice 1 = .ok (.bipush 30, 2) := by decide +kernel
theorem dX0_partOfOffice_3 : decode cX0_partOfOffice 3 = .ok (.iload_n 0, 1) := by decide +kernel
theorem dX0_partOfOffice_4 : decode cX0_partOfOffice 4 = .ok (.invokestatic 51, 3) := by decide +kernel
theorem dX0_partOfOffice_7 : decode cX0_partOfOffice 7 = .ok (.invokestatic 56, 3) := by decide +kernel
theorem dX0_partOfOffice_10 : decode cX0_partOfOffice 10 = .ok (.ireturn, 1) := by decide +kernel
theorem dX1_init_0 : decode cX1_init 0 = .ok (.aload_n 0, 1) := by decide +kernel
theorem dX1_init_1 : decode cX1_init 1 = .ok (.invokespecial 3, 3) := by decide +kernel
theorem dX1_init_4 : decode cX1_init 4 = .ok (.aload_n 0, 1) := by decide +kernel
theorem dX1_init_5 : decode cX1_init 5 = .ok (.iconst 1, 1) := by decide +kernel
theorem dX1_init_6 : decode cX1_init 6 = .ok (.iload_n 1, 1) := by decide +kernel
theorem dX1_init_7 : decode cX1_init 7 = .ok (.invokestatic 9, 3) := by decide +kernel
theorem dX1_init_10 : decode cX1_init 10 = .ok (.putfield 15, 3) := by decide +kernel
theorem dX1_init_13 : decode cX1_init 13 = .ok (.aload_n 0, 1) := by decide +kernel
theorem dX1_init_14 : decode cX1_init 14 = .ok (.aload_n 0, 1) := by decide +kernel
theorem dX1_init_15 : decode cX1_init 15 = .ok (.getfield 15, 3) := by decide +kernel
theorem dX1_init_18 : decode cX1_init 18 = .ok (.bipush 32, 2) := by decide +kernel
theorem dX1_init_20 : decode cX1_init 20 = .ok (.imul, 1) := by decide +kernel
theorem dX1_init_21 : decode cX1_init 21 = .ok (.newarray .int, 2) := by decide +kernel
theorem dX1_init_23 : decode cX1_init 23 = .ok (.putfield 21, 3) := by decide +kernel
theorem dX1_init_26 : decode cX1_init 26 = .ok (.return_, 1) := by decide +kernel
set_option maxRecDepth 20000 in
theorem ggX1_at_X1_isCell : GoodIn wsX1_at wsX1_isCell := goodIn_sub (List.forall_mem_cons.mpr ⟨List.mem_cons_of_mem _ (List.mem_append_left _ (List.mem_of_getElem? (i := 6) rfl)), List.forall_mem_append.mpr ⟨List.forall_mem_cons.mpr ⟨List.mem_cons_of_mem _ (List.mem_append_left _ (List.mem_of_getElem? (i := 0) rfl)), fun _ h => absurd h List.not_mem_nil⟩, tl_X1_at_X1⟩⟩) (by decide +kernel)
set_option maxRecDepth 20000 in
theorem gX1_at_X1_isCell : GoodIn wsX1_at (wsV RX1 25 RX1 yX1_isCell wsX1_isCell) := goodIn_app (goodIn_sub (List.forall_mem_cons.mpr ⟨List.mem_cons_of_mem _ (List.mem_append_left _ (List.mem_of_getElem? (i := 2) rfl)), List.forall_mem_cons.mpr ⟨List.mem_cons_of_mem _ (List.mem_append_left _ (List.mem_of_getElem? (i := 3) rfl)), List.forall_mem_cons.mpr ⟨List.mem_cons_of_mem _ (List.mem_append_left _ (List.mem_of_getElem? (i := 4) rfl)), List.forall_mem_cons.mpr ⟨List.mem_cons_of_mem _ (List.mem_append_left _ (List.mem_of_getElem? (i := 5) rfl)), fun _ h => absurd h List.not_mem_nil⟩⟩⟩⟩) (by decide +kernel)) ggX1_at_X1_isCell
theorem dX1_at_0 : decode cX1_at 0 = .ok (.aload_n 0, 1) := by decide +kernel
theorem dX1_at_1 : decode cX1_at 1 = .ok (.iload_n 1, 1) := by decide +kernel
theorem dX1_at_2 : decode cX1_at 2 = .ok (.iload_n 2, 1) := by decide +kernel
theorem dX1_at_3 : decode cX1_at 3 = .ok (.invokevirtual 25, 3) := by decide +kernel
theorem dX1_at_6 : decode cX1_at 6 = .ok (.ifCond .eq 35, 3) := by decide +kernel
theorem dX1_at_9 : decode cX1_at 9 = .ok (.iload_n 1, 1) := by decide +kernel
theorem dX1_at_10 : decode cX1_at 10 = .ok (.aload_n 0, 1) := by decide +kernel
theorem dX1_at_11 : decode cX1_at 11 = .ok (.getfield 15, 3) := by decide +kernel
theorem dX1_at_14 : decode cX1_at 14 = .ok (.imul, 1) := by decide +kernel
theorem dX1_at_15 : decode cX1_at 15 = .ok (.iload_n 2, 1) := by decide +kernel
theorem dX1_at_16 : decode cX1_at 16 = .ok (.iadd, 1) := by decide +kernel
theorem dX1_at_17 : decode cX1_at 17 = .ok (.aload_n 0, 1) := by decide +kernel
theorem dX1_at_18 : decode cX1_at 18 = .ok (.getfield 21, 3) := by decide +kernel
theorem dX1_at_21 : decode cX1_at 21 = .ok (.arraylength, 1) := by decide +kernel
theorem dX1_at_22 : decode cX1_at 22 = .ok (.if_icmp .ge 19, 3) := by decide +kernel
theorem dX1_at_25 : decode cX1_at 25 = .ok (.aload_n 0, 1) := by decide +kernel
theorem dX1_at_26 : decode cX1_at 26 = .ok (.getfield 21, 3) := by decide +kernel
theorem dX1_at_29 : decode cX1_at 29 = .ok (.iload_n 1, 1) := by decide +kernel
theorem dX1_at_30 : decode cX1_at 30 = .ok (.aload_n 0, 1) := by decide +kernel
theorem dX1_at_31 : decode cX1_at 31 = .ok (.getfield 15, 3) := by decide +kernel
theorem dX1_at_34 : decode cX1_at 34 = .ok (.imul, 1) := by decide +kernel
theorem dX1_at_35 : decode cX1_at 35 = .ok (.iload_n 2, 1) := by decide +kernel
theorem dX1_at_36 : decode cX1_at 36 = .ok (.iadd, 1) := by decide +kernel
theorem dX1_at_37 : decode cX1_at 37 = .ok (.iaload, 1) := by decide +kernel
theorem dX1_at_38 : decode cX1_at 38 = .ok (.goto 4, 3) := by decide +kernel
theorem dX1_at_41 : decode cX1_at 41 = .ok (.iconst (-1), 1) := by decide +kernel
theorem dX1_at_42 : decode cX1_at 42 = .ok (.ireturn, 1) := by decide +kernel
set_option maxRecDepth 20000 in
theorem ggX1_put_X1_isCell : GoodIn wsX1_put wsX1_isCell := goodIn_sub (List.forall_mem_cons.mpr ⟨List.mem_cons_of_mem _ (List.mem_append_left _ (List.mem_of_getElem? (i := 6) rfl)), List.forall_mem_append.mpr ⟨List.forall_mem_cons.mpr ⟨List.mem_cons_of_mem _ (List.mem_append_left _ (List.mem_of_getElem? (i := 0) rfl)), fun _ h => absurd h List.not_mem_nil⟩, tl_X1_put_X1⟩⟩) (by decide +kernel)
set_option maxRecDepth 20000 in
theorem gX1_put_X1_isCell : GoodIn wsX1_put (wsV RX1 25 RX1 yX1_isCell wsX1_isCell) := goodIn_app (goodIn_sub (List.forall_mem_cons.mpr ⟨List.mem_cons_of_mem _ (List.mem_append_left _ (List.mem_of_getElem? (i := 2) rfl)), List.forall_mem_cons.mpr ⟨List.mem_cons_of_mem _ (List.mem_append_left _ (List.mem_of_getElem? (i := 3) rfl)), List.forall_mem_cons.mpr ⟨List.mem_cons_of_mem _ (List.mem_append_left _ (List.mem_of_getElem? (i := 4) rfl)), List.forall_mem_cons.mpr ⟨List.mem_cons_of_mem _ (List.mem_append_left _ (List.mem_of_getElem? (i := 5) rfl)), fun _ h => absurd h List.not_mem_nil⟩⟩⟩⟩) (by decide +kernel)) ggX1_put_X1_isCell
set_option maxRecDepth 20000 in
theorem ggX1_put_X1_grow : GoodIn wsX1_put wsX1_grow := goodIn_sub (List.forall_mem_cons.mpr ⟨List.mem_cons_of_mem _ (List.mem_append_left _ (List.mem_of_getElem? (i := 10) rfl)), List.forall_mem_append.mpr ⟨List.forall_mem_cons.mpr ⟨List.mem_cons_of_mem _ (List.mem_append_left _ (List.mem_of_getElem? (i := 1) rfl)), List.forall_mem_cons.mpr ⟨List.mem_cons_of_mem _ (List.mem_append_left _ (List.mem_of_getElem? (i := 11) rfl)), List.forall_mem_cons.mpr ⟨List.mem_cons_of_mem _ (List.mem_append_left _ (List.mem_of_getElem? (i := 12) rfl)), List.forall_mem_cons.mpr ⟨List.mem_cons_of_mem _ (List.mem_append_left _ (List.mem_of_getElem? (i := 13) rfl)), List.forall_mem_cons.mpr ⟨List.mem_cons_of_mem _ (List.mem_append_left _ (List.mem_of_getElem? (i := 14) rfl)), List.forall_mem_cons.mpr ⟨List.mem_cons_of_mem _ (List.mem_append_left _ (List.mem_of_getElem? (i := 15) rfl)), List.forall_mem_cons.mpr ⟨List.mem_cons_of_mem _ (List.mem_append_left _ (List.mem_of_getElem? (i := 16) rfl)), List.forall_mem_cons.mpr ⟨List.mem_cons_of_mem _ (List.mem_append_left _ (List.mem_of_getElem? (i := 17) rfl)), List.forall_mem_cons.mpr ⟨List.mem_cons_of_mem _ (List.mem_append_left _ (List.mem_of_getElem? (i := 18) rfl)), List.forall_mem_cons.mpr ⟨List.mem_cons_of_mem _ (List.mem_append_left _ (List.mem_of_getElem? (i := 19) rfl)), fun _ h => absurd h List.not_mem_nil⟩⟩⟩⟩⟩⟩⟩⟩⟩⟩, tl_X1_put_X1⟩⟩) (by decide +kernel)
set_option maxRecDepth 20000 in
theorem gX1_put_X1_grow : GoodIn wsX1_put (wsV RX1 29 RX1 yX1_grow wsX1_grow) := goodIn_app (goodIn_sub (List.forall_mem_cons.mpr ⟨List.mem_cons_of_mem _ (List.mem_append_left _ (List.mem_of_getElem? (i := 7) rfl)), List.forall_mem_cons.mpr ⟨List.mem_cons_of_mem _ (List.mem_append_left _ (List.mem_of_getElem? (i := 8) rfl)), List.forall_mem_cons.mpr ⟨List.mem_cons_of_mem _ (List.mem_append_left _ (List.mem_of_getElem? (i := 9) rfl)), List.forall_mem_cons.mpr ⟨List.mem_cons_of_mem _ (List.mem_append_left _ (List.mem_of_getElem? (i := 5) rfl)), fun _ h => absurd h List.not_mem_nil⟩⟩⟩⟩) (by decide +kernel)) ggX1_put_X1_grow
theorem dX1_put_0 : decode cX1_put 0 = .ok (.aload_n 0, 1) := by decide +kernel
theorem dX1_put_1 : decode cX1_put 1 = .ok (.iload_n 1, 1) := by decide +kernel
theorem dX1_put_2 : decode cX1_put 2 = .ok (.iload_n 2, 1) := by decide +kernel
theorem dX1_put_3 : decode cX1_put 3 = .ok (.invokevirtual 25, 3) := by decide +kernel
theorem dX1_put_6 : decode cX1_put 6 = .ok (.ifCond .ne 4, 3) := by decide +kernel
theorem dX1_put_9 : decode cX1_put 9 = .ok (.return_, 1) := by decide +kernel
theorem dX1_put_10 : decode cX1_put 10 = .ok (.iload_n 1, 1) := by decide +kernel
theorem dX1_put_11 : decode cX1_put 11 = .ok (.iconst 1, 1) := by decide +kernel
theorem dX1_put_12 : decode cX1_put 12 = .ok (.iadd, 1) := by decide +kernel
theorem dX1_put_13 : decode cX1_put 13 = .ok (.aload_n 0, 1) := by decide +kernel
theorem dX1_put_14 : decode cX1_put 14 = .ok (.getfield 15, 3) := by decide +kernel
theorem dX1_put_17 : decode cX1_put 17 = .ok (.imul, 1) := by decide +kernel
theorem dX1_put_18 : decode cX1_put 18 = .ok (.aload_n 0, 1) := by decide +kernel
theorem dX1_put_19 : decode cX1_put 19 = .ok (.getfield 21, 3) := by decide +kernel
theorem dX1_put_22 : decode cX1_put 22 = .ok (.arraylength, 1) := by decide +kernel
theorem dX1_put_23 : decode cX1_put 23 = .ok (.if_icmp .le 15, 3) := by decide +kernel
theorem dX1_put_26 : decode cX1_put 26 = .ok (.aload_n 0, 1) := by decide +kernel
theorem dX1_put_27 : decode cX1_put 27 = .ok (.iload_n 1, 1) := by decide +kernel
theorem dX1_put_28 : decode cX1_put 28 = .ok (.iconst 1, 1) := by decide +kernel
theorem dX1_put_29 : decode cX1_put 29 = .ok (.iadd, 1) := by decide +kernel
theorem dX1_put_30 : decode cX1_put 30 = .ok (.aload_n 0, 1) := by decide +kernel
theorem dX1_put_31 : decode cX1_put 31 = .ok (.getfield 15, 3) := by decide +kernel
theorem dX1_put_34 : decode cX1_put 34 = .ok (.imul, 1) := by decide +kernel
theorem dX1_put_35 : decode cX1_put 35 = .ok (.invokevirtual 29, 3) := by decide +kernel
theorem dX1_put_38 : decode cX1_put 38 = .ok (.aload_n 0, 1) := by decide +kernel
theorem dX1_put_39 : decode cX1_put 39 = .ok (.getfield 21, 3) := by decide +kernel
theorem dX1_put_42 : decode cX1_put 42 = .ok (.iload_n 1, 1) := by decide +kernel
theorem dX1_put_43 : decode cX1_put 43 = .ok (.aload_n 0, 1) := by decide +kernel
theorem dX1_put_44 : decode cX1_put 44 = .ok (.getfield 15, 3) := by decide +kernel
theorem dX1_put_47 : decode cX1_put 47 = .ok (.imul, 1) := by decide +kernel
theorem dX1_put_48 : decode cX1_put 48 = .ok (.iload_n 2, 1) := by decide +kernel
theorem dX1_put_49 : decode cX1_put 49 = .ok (.iadd, 1) := by decide +kernel
theorem dX1_put_50 : decode cX1_put 50 = .ok (.iload_n 3, 1) := by decide +kernel
theorem dX1_put_51 : decode cX1_put 51 = .ok (.iastore, 1) := by decide +kernel
theorem dX1_put_52 : decode cX1_put 52 = .ok (.return_, 1) := by decide +kernel
theorem dX1_isCell_0 : decode cX1_isCell 0 = .ok (.iload_n 1, 1) := by decide +kernel
theorem dX1_isCell_1 : decode cX1_isCell 1 = .ok (.ifCond .lt 26, 3) := by decide +kernel
theorem dX1_isCell_4 : decode cX1_isCell 4 = .ok (.iload_n 1, 1) := by decide +kernel
theorem dX1_isCell_5 : decode cX1_isCell 5 = .ok (.sipush 1095, 3) := by decide +kernel
theorem dX1_isCell_8 : decode cX1_isCell 8 = .ok (.if_icmp .ge 19, 3) := by decide +kernel
theorem dX1_isCell_11 : decode cX1_isCell 11 = .ok (.iload_n 2, 1) := by decide +kernel
theorem dX1_isCell_12 : decode cX1_isCell 12 = .ok (.ifCond .lt 15, 3) := by decide +kernel
theorem dX1_isCell_15 : decode cX1_isCell 15 = .ok (.iload_n 2, 1) := by decide +kernel
theorem dX1_isCell_16 : decode cX1_isCell 16 = .ok (.aload_n 0, 1) := by decide +kernel
theorem dX1_isCell_17 : decode cX1_isCell 17 = .ok (.getfield 15, 3) := by decide +kernel
theorem dX1_isCell_20 : decode cX1_isCell 20 = .ok (.if_icmp .ge 7, 3) := by decide +kernel
theorem dX1_isCell_23 : decode cX1_isCell 23 = .ok (.iconst 1, 1) := by decide +kernel
theorem dX1_isCell_24 : decode cX1_isCell 24 = .ok (.goto 4, 3) := by decide +kernel
theorem dX1_isCell_27 : decode cX1_isCell 27 = .ok (.iconst 0, 1) := by decide +kernel
theorem dX1_isCell_28 : decode cX1_isCell 28 = .ok (.ireturn, 1) := by decide +kernel
theorem dX1_grow_0 : decode cX1_grow 0 = .ok (.iload_n 1, 1) := by decide +kernel
theorem dX1_grow_1 : decode cX1_grow 1 = .ok (.iconst 2, 1) := by decide +kernel
theorem dX1_grow_2 : decode cX1_grow 2 = .ok (.aload_n 0, 1) := by decide +kernel
theorem dX1_grow_3 : decode cX1_grow 3 = .ok (.getfield 21, 3) := by decide +kernel
theorem dX1_grow_6 : decode cX1_grow 6 = .ok (.arraylength, 1) := by decide +kernel
theorem dX1_grow_7 : decode cX1_grow 7 = .ok (.imul, 1) := by decide +kernel
theorem dX1_grow_8 : decode cX1_grow 8 = .ok (.invokestatic 9, 3) := by decide +kernel
theorem dX1_grow_11 : decode cX1_grow 11 = .ok (.newarray .int, 2) := by decide +kernel
theorem dX1_grow_13 : decode cX1_grow 13 = .ok (.astore_n 2, 1) := by decide +kernel
theorem dX1_grow_14 : decode cX1_grow 14 = .ok (.aload_n 0, 1) := by decide +kernel
theorem dX1_grow_15 : decode cX1_grow 15 = .ok (.getfield 21, 3) := by decide +kernel
theorem dX1_grow_18 : decode cX1_grow 18 = .ok (.iconst 0, 1) := by decide +kernel
theorem dX1_grow_19 : decode cX1_grow 19 = .ok (.aload_n 2, 1) := by decide +kernel
theorem dX1_grow_20 : decode cX1_grow 20 = .ok (.iconst 0, 1) := by decide +kernel
theorem dX1_grow_21 : decode cX1_grow 21 = .ok (.aload_n 0, 1) := by decide +kernel
theorem dX1_grow_22 : decode cX1_grow 22 = .ok (.getfield 21, 3) := by decide +kernel
theorem dX1_grow_25 : decode cX1_grow 25 = .ok (.arraylength, 1) := by decide +kernel
theorem dX1_grow_26 : decode cX1_grow 26 = .ok (.invokestatic 33, 3) := by decide +kernel
theorem dX1_grow_29 : decode cX1_grow 29 = .ok (.aload_n 0, 1) := by decide +kernel
theorem dX1_grow_30 : decode cX1_grow 30 = .ok (.aload_n 2, 1) := by decide +kernel
theorem dX1_grow_31 : decode cX1_grow 31 = .ok (.putfield 21, 3) := by decide +kernel
theorem dX1_grow_34 : decode cX1_grow 34 = .ok (.return_, 1) := by decide +kernel
set_option maxRecDepth 20000 in
theorem ggX2_init_X1_init : GoodIn wsX2_init wsX1_init := goodIn_sub (List.forall_mem_cons.mpr ⟨List.mem_cons_of_mem _ (List.mem_append_left _ (List.mem_append_left _ (List.mem_of_getElem? (i := 11) rfl))), List.forall_mem_append.mpr ⟨List.forall_mem_cons.mpr ⟨List.mem_cons_of_mem _ (List.mem_append_left _ (List.mem_append_left _ (List.mem_of_getElem? (i := 12) rfl))), List.forall_mem_cons.mpr ⟨List.mem_cons_of_mem _ (List.mem_append_left _ (List.mem_append_left _ (List.mem_of_getElem? (i := 1) rfl))), List.forall_mem_cons.mpr ⟨List.mem_cons_of_mem _ (List.mem_append_left _ (List.mem_append_left _ (List.mem_of_getElem? (i := 2) rfl))), List.forall_mem_cons.mpr ⟨List.mem_cons_of_mem _ (List.mem_append_left _ (List.mem_append_left _ (List.mem_of_getElem? (i := 13) rfl))), List.forall_mem_cons.mpr ⟨List.mem_cons_of_mem _ (List.mem_append_left _ (List.mem_append_left _ (List.mem_of_getElem? (i := 14) rfl))), List.forall_mem_cons.mpr ⟨List.mem_cons_of_mem _ (List.mem_append_left _ (List.mem_append_left _ (List.mem_of_getElem? (i := 15) rfl))), List.forall_mem_cons.mpr ⟨List.mem_cons_of_mem _ (List.mem_append_left _ (List.mem_append_left _ (List.mem_of_getElem? (i := 16) rfl))), List.forall_mem_cons.mpr ⟨List.mem_cons_of_mem _ (List.mem_append_left _ (List.mem_append_left _ (List.mem_of_getElem? (i := 17) rfl))), List.forall_mem_cons.mpr ⟨List.mem_cons_of_mem _ (List.mem_append_left _ (List.mem_append_left _ (List.mem_of_getElem? (i := 7) rfl))), List.forall_mem_cons.mpr ⟨List.mem_cons_of_mem _ (List.mem_append_left _ (List.mem_append_left _ (List.mem_of_getElem? (i := 18) rfl))), fun _ h => absurd h List.not_mem_nil⟩⟩⟩⟩⟩⟩⟩⟩⟩⟩, tl_X2_init_X1⟩⟩) (by decide +kernel)
set_option maxRecDepth 20000 in
theorem gX2_init_X1_init : GoodIn wsX2_init (wsX1_init) := ggX2_init_X1_init
theorem dX2_init_0 : decode cX2_init 0 = .ok (.aload_n 0, 1) := by decide +kernel
theorem dX2_init_1 : decode cX2_init 1 = .ok (.invokespecial 3, 3) := by decide +kernel
theorem dX2_init_4 : decode cX2_init 4 = .ok (.aload_n 0, 1) := by decide +kernel
theorem dX2_init_5 : decode cX2_init 5 = .ok (.new 9, 3) := by decide +kernel
theorem dX2_init_8 : decode cX2_init 8 = .ok (.dup, 1) := by decide +kernel
theorem dX2_init_9 : decode cX2_init 9 = .ok (.iconst 4, 1) := by decide +kernel
theorem dX2_init_10 : decode cX2_init 10 = .ok (.invokespecial 11, 3) := by decide +kernel
theorem dX2_init_13 : decode cX2_init 13 = .ok (.putfield 14, 3) := by decide +kernel
theorem dX2_init_16 : decode cX2_init 16 = .ok (.aload_n 0, 1) := by decide +kernel
theorem dX2_init_17 : decode cX2_init 17 = .ok (.bipush 96, 2) := by decide +kernel
theorem dX2_init_19 : decode cX2_init 19 = .ok (.newarray .int, 2) := by decide +kernel
theorem dX2_init_21 : decode cX2_init 21 = .ok (.putfield 22, 3) := by decide +kernel
theorem dX2_init_24 : decode cX2_init 24 = .ok (.return_, 1) := by decide +kernel
set_option maxRecDepth 20000 in
theorem ggX2_holder_X1_at : GoodIn wsX2_holder wsX1_at := goodIn_sub (List.forall_mem_cons.mpr ⟨List.mem_cons_of_mem _ (List.mem_append_left _ (List.mem_append_left _ (List.mem_of_getElem? (i := 5) rfl))), List.forall_mem_append.mpr ⟨List.forall_mem_cons.mpr ⟨List.mem_cons_of_mem _ (List.mem_append_left _ (List.mem_append_left _ (List.mem_of_getElem? (i := 6) rfl))), List.forall_mem_cons.mpr ⟨List.mem_cons_of_mem _ (List.mem_append_left _ (List.mem_append_left _ (List.mem_of_getElem? (i := 7) rfl))), List.forall_mem_cons.mpr ⟨List.mem_cons_of_mem _ (List.mem_append_left _ (List.mem_append_left _ (List.mem_of_getElem? (i := 8) rfl))), List.forall_mem_cons.mpr ⟨List.mem_cons_of_mem _ (List.mem_append_left _ (List.mem_append_left _ (List.mem_of_getElem? (i := 9) rfl))), List.forall_mem_cons.mpr ⟨List.mem_cons_of_mem _ (List.mem_append_left _ (List.mem_append_left _ (List.mem_of_getElem? (i := 10) rfl))), List.forall_mem_cons.mpr ⟨List.mem_cons_of_mem _ (List.mem_append_left _ (List.mem_append_left _ (List.mem_of_getElem? (i := 4) rfl))), List.forall_mem_cons.mpr ⟨List.mem_cons_of_mem _ (List.mem_append_left _ (List.mem_append_left _ (List.mem_of_getElem? (i := 11) rfl))), fun _ h => absurd h List.not_mem_nil⟩⟩⟩⟩⟩⟩⟩, tl_X2_holder_X1⟩⟩) (by decide +kernel)
set_option maxRecDepth 20000 in
theorem gX2_holder_X1_at : GoodIn wsX2_holder (wsV RX2 26 RX1 yX1_at wsX1_at) := goodIn_app (goodIn_sub (List.forall_mem_cons.mpr ⟨List.mem_cons_of_mem _ (List.mem_append_left _ (List.mem_append_left _ (List.mem_of_getElem? (i := 1) rfl))), List.forall_mem_cons.mpr ⟨List.mem_cons_of_mem _ (List.mem_append_left _ (List.mem_append_left _ (List.mem_of_getElem? (i := 2) rfl))), List.forall_mem_cons.mpr ⟨List.mem_cons_of_mem _ (List.mem_append_left _ (List.mem_append_left _ (List.mem_of_getElem? (i := 3) rfl))), List.forall_mem_cons.mpr ⟨List.mem_cons_of_mem _ (List.mem_append_left _ (List.mem_append_left _ (List.mem_of_getElem? (i := 4) rfl))), fun _ h => absurd h List.not_mem_nil⟩⟩⟩⟩) (by decide +kernel)) ggX2_holder_X1_at
theorem dX2_holder_0 : decode cX2_holder 0 = .ok (.aload_n 0, 1) := by decide +kernel
theorem dX2_holder_1 : decode cX2_holder 1 = .ok (.getfield 14, 3) := by decide +kernel
theorem dX2_holder_4 : decode cX2_holder 4 = .ok (.iload_n 1, 1) := by decide +kernel
theorem dX2_holder_5 : decode cX2_holder 5 = .ok (.iload_n 2, 1) := by decide +kernel
theorem dX2_holder_6 : decode cX2_holder 6 = .ok (.invokevirtual 26, 3) := by decide +kernel
theorem dX2_holder_9 : decode cX2_holder 9 = .ok (.ireturn, 1) := by decide +kernel
theorem dX2_turnsTaken_0 : decode cX2_turnsTaken 0 = .ok (.aload_n 0, 1) := by decide +kernel
theorem dX2_turnsTaken_1 : decode cX2_turnsTaken 1 = .ok (.getfield 22, 3) := by decide +kernel
theorem dX2_turnsTaken_4 : decode cX2_turnsTaken 4 = .ok (.iload_n 1, 1) := by decide +kernel
theorem dX2_turnsTaken_5 : decode cX2_turnsTaken 5 = .ok (.iconst 4, 1) := by decide +kernel
theorem dX2_turnsTaken_6 : decode cX2_turnsTaken 6 = .ok (.imul, 1) := by decide +kernel
theorem dX2_turnsTaken_7 : decode cX2_turnsTaken 7 = .ok (.iload_n 2, 1) := by decide +kernel
theorem dX2_turnsTaken_8 : decode cX2_turnsTaken 8 = .ok (.iadd, 1) := by decide +kernel
theorem dX2_turnsTaken_9 : decode cX2_turnsTaken 9 = .ok (.iaload, 1) := by decide +kernel
theorem dX2_turnsTaken_10 : decode cX2_turnsTaken 10 = .ok (.ireturn, 1) := by decide +kernel
set_option maxRecDepth 20000 in
theorem ggX2_turnsInAll_X2_turnsTaken : GoodIn wsX2_turnsInAll wsX2_turnsTaken := goodIn_sub (List.forall_mem_cons.mpr ⟨List.mem_cons_of_mem _ (List.mem_append_left _ (List.mem_of_getElem? (i := 4) rfl)), List.forall_mem_append.mpr ⟨List.forall_mem_cons.mpr ⟨List.mem_cons_of_mem _ (List.mem_append_left _ (List.mem_of_getElem? (i := 5) rfl)), fun _ h => absurd h List.not_mem_nil⟩, tl_X2_turnsInAll_X2⟩⟩) (by decide +kernel)
set_option maxRecDepth 20000 in
theorem gX2_turnsInAll_X2_turnsTaken : GoodIn wsX2_turnsInAll (wsV RX2 30 RX2 yX2_turnsTaken wsX2_turnsTaken) := goodIn_app (goodIn_sub (List.forall_mem_cons.mpr ⟨List.mem_cons_of_mem _ (List.mem_append_left _ (List.mem_of_getElem? (i := 0) rfl)), List.forall_mem_cons.mpr ⟨List.mem_cons_of_mem _ (List.mem_append_left _ (List.mem_of_getElem? (i := 1) rfl)), List.forall_mem_cons.mpr ⟨List.mem_cons_of_mem _ (List.mem_append_left _ (List.mem_of_getElem? (i := 2) rfl)), List.forall_mem_cons.mpr ⟨List.mem_cons_of_mem _ (List.mem_append_left _ (List.mem_of_getElem? (i := 3) rfl)), fun _ h => absurd h List.not_mem_nil⟩⟩⟩⟩) (by decide +kernel)) ggX2_turnsInAll_X2_turnsTaken
theorem dX2_turnsInAll_0 : decode cX2_turnsInAll 0 = .ok (.iconst 0, 1) := by decide +kernel
theorem dX2_turnsInAll_1 : decode cX2_turnsInAll 1 = .ok (.istore_n 2, 1) := by decide +kernel
theorem dX2_turnsInAll_2 : decode cX2_turnsInAll 2 = .ok (.iconst 0, 1) := by decide +kernel
theorem dX2_turnsInAll_3 : decode cX2_turnsInAll 3 = .ok (.istore_n 3, 1) := by decide +kernel
theorem dX2_turnsInAll_4 : decode cX2_turnsInAll 4 = .ok (.iload_n 3, 1) := by decide +kernel
theorem dX2_turnsInAll_5 : decode cX2_turnsInAll 5 = .ok (.iconst 4, 1) := by decide +kernel
theorem dX2_turnsInAll_6 : decode cX2_turnsInAll 6 = .ok (.if_icmp .ge 18, 3) := by decide +kernel
theorem dX2_turnsInAll_9 : decode cX2_turnsInAll 9 = .ok (.iload_n 2, 1) := by decide +kernel
theorem dX2_turnsInAll_10 : decode cX2_turnsInAll 10 = .ok (.aload_n 0, 1) := by decide +kernel
theorem dX2_turnsInAll_11 : decode cX2_turnsInAll 11 = .ok (.iload_n 1, 1) := by decide +kernel
theorem dX2_turnsInAll_12 : decode cX2_turnsInAll 12 = .ok (.iload_n 3, 1) := by decide +kernel
theorem dX2_turnsInAll_13 : decode cX2_turnsInAll 13 = .ok (.invokevirtual 30, 3) := by decide +kernel
theorem dX2_turnsInAll_16 : decode cX2_turnsInAll 16 = .ok (.iadd, 1) := by decide +kernel
theorem dX2_turnsInAll_17 : decode cX2_turnsInAll 17 = .ok (.istore_n 2, 1) := by decide +kernel
theorem dX2_turnsInAll_18 : decode cX2_turnsInAll 18 = .ok (.iinc 3 1, 3) := by decide +kernel
theorem dX2_turnsInAll_21 : decode cX2_turnsInAll 21 = .ok (.goto (-17), 3) := by decide +kernel
theorem dX2_turnsInAll_24 : decode cX2_turnsInAll 24 = .ok (.iload_n 2, 1) := by decide +kernel
theorem dX2_turnsInAll_25 : decode cX2_turnsInAll 25 = .ok (.ireturn, 1) := by decide +kernel
set_option maxRecDepth 20000 in
theorem ggX2_share_X1_put : GoodIn wsX2_share wsX1_put := goodIn_sub (List.forall_mem_cons.mpr ⟨mc_X2_share_r1 _ (List.mem_of_getElem? (i := 5) rfl), List.forall_mem_append.mpr ⟨List.forall_mem_cons.mpr ⟨mc_X2_share_r1 _ (List.mem_of_getElem? (i := 6) rfl), List.forall_mem_cons.mpr ⟨mc_X2_share_r1 _ (List.mem_of_getElem? (i := 7) rfl), List.forall_mem_cons.mpr ⟨mc_X2_share_r1 _ (List.mem_of_getElem? (i := 8) rfl), List.forall_mem_cons.mpr ⟨mc_X2_share_r1 _ (List.mem_of_getElem? (i := 9) rfl), List.forall_mem_cons.mpr ⟨mc_X2_share_r1 _ (List.mem_of_getElem? (i := 10) rfl), List.forall_mem_cons.mpr ⟨mc_X2_share_r1 _ (List.mem_of_getElem? (i := 4) rfl), List.forall_mem_cons.mpr ⟨mc_X2_share_r1 _ (List.mem_of_getElem? (i := 11) rfl), List.forall_mem_cons.mpr ⟨mc_X2_share_r1 _ (List.mem_of_getElem? (i := 12) rfl), List.forall_mem_cons.mpr ⟨mc_X2_share_r1 _ (List.mem_of_getElem? (i := 13) rfl), List.forall_mem_cons.mpr ⟨mc_X2_share_r1 _ (List.mem_of_getElem? (i := 14) rfl), List.forall_mem_cons.mpr ⟨mc_X2_share_r1 _ (List.mem_of_getElem? (i := 15) rfl), List.forall_mem_cons.mpr ⟨mc_X2_share_r1 _ (List.mem_of_getElem? (i := 16) rfl), List.forall_mem_cons.mpr ⟨mc_X2_share_r1 _ (List.mem_of_getElem? (i := 17) rfl), List.forall_mem_cons.mpr ⟨mc_X2_share_r1 _ (List.mem_of_getElem? (i := 18) rfl), List.forall_mem_cons.mpr ⟨mc_X2_share_r1 _ (List.mem_of_getElem? (i := 19) rfl), List.forall_mem_cons.mpr ⟨mc_X2_share_r1 _ (List.mem_of_getElem? (i := 20) rfl), List.forall_mem_cons.mpr ⟨mc_X2_share_r1 _ (List.mem_of_getElem? (i := 21) rfl), List.forall_mem_cons.mpr ⟨mc_X2_share_r1 _ (List.mem_of_getElem? (i := 22) rfl), List.forall_mem_cons.mpr ⟨mc_X2_share_r1 _ (List.mem_of_getElem? (i := 23) rfl), List.forall_mem_cons.mpr ⟨mc_X2_share_r2 _ (List.mem_of_getElem? (i := 0) rfl), fun _ h => absurd h List.not_mem_nil⟩⟩⟩⟩⟩⟩⟩⟩⟩⟩⟩⟩⟩⟩⟩⟩⟩⟩⟩⟩, tl_X2_share_X1⟩⟩) (by decide +kernel)
set_option maxRecDepth 20000 in
theorem gX2_share_X1_put : GoodIn wsX2_share (wsV RX2 33 RX1 yX1_put wsX1_put) := goodIn_app (goodIn_sub (List.forall_mem_cons.mpr ⟨mc_X2_share_r1 _ (List.mem_of_getElem? (i := 1) rfl), List.forall_mem_cons.mpr ⟨mc_X2_share_r1 _ (List.mem_of_getElem? (i := 2) rfl), List.forall_mem_cons.mpr ⟨mc_X2_share_r1 _ (List.mem_of_getElem? (i := 3) rfl), List.forall_mem_cons.mpr ⟨mc_X2_share_r1 _ (List.mem_of_getElem? (i := 4) rfl), fun _ h => absurd h List.not_mem_nil⟩⟩⟩⟩) (by decide +kernel)) ggX2_share_X1_put
set_option maxRecDepth 20000 in
theorem mm_X2_share_X2_choose_r1 : ∀ w ∈ wsX2_choose_r1, w ∈ wsX2_share := List.forall_mem_cons.mpr ⟨mc_X2_share_r2 _ (List.mem_of_getElem? (i := 6) rfl), List.forall_mem_cons.mpr ⟨mc_X2_share_r2 _ (List.mem_of_getElem? (i := 7) rfl), List.forall_mem_cons.mpr ⟨mc_X2_share_r2 _ (List.mem_of_getElem? (i := 8) rfl), List.forall_mem_cons.mpr ⟨mc_X2_share_r2 _ (List.mem_of_getElem? (i := 9) rfl), List.forall_mem_cons.mpr ⟨mc_X2_share_r2 _ (List.mem_of_getElem? (i := 10) rfl), List.forall_mem_cons.mpr ⟨mc_X2_share_r2 _ (List.mem_of_getElem? (i := 11) rfl), List.forall_mem_cons.mpr ⟨mc_X2_share_r2 _ (List.mem_of_getElem? (i := 12) rfl), List.forall_mem_cons.mpr ⟨mc_X2_share_r2 _ (List.mem_of_getElem? (i := 13) rfl), List.forall_mem_cons.mpr ⟨mc_X2_share_r2 _ (List.mem_of_getElem? (i := 14) rfl), List.forall_mem_cons.mpr ⟨mc_X2_share_r2 _ (List.mem_of_getElem? (i := 4) rfl), List.forall_mem_cons.mpr ⟨mc_X2_share_r2 _ (List.mem_of_getElem? (i := 15) rfl), List.forall_mem_cons.mpr ⟨mc_X2_share_r2 _ (List.mem_of_getElem? (i := 16) rfl), List.forall_mem_cons.mpr ⟨mc_X2_share_r2 _ (List.mem_of_getElem? (i := 17) rfl), List.forall_mem_cons.mpr ⟨mc_X2_share_r2 _ (List.mem_of_getElem? (i := 18) rfl), List.forall_mem_cons.mpr ⟨mc_X2_share_r2 _ (List.mem_of_getElem? (i := 19) rfl), List.forall_mem_cons.mpr ⟨mc_X2_share_r2 _ (List.mem_of_getElem? (i := 20) rfl), List.forall_mem_cons.mpr ⟨mc_X2_share_r2 _ (List.mem_of_getElem? (i := 21) rfl), List.forall_mem_cons.mpr ⟨mc_X2_share_r2 _ (List.mem_of_getElem? (i := 22) rfl), List.forall_mem_cons.mpr ⟨mc_X2_share_r2 _ (List.mem_of_getElem? (i := 23) rfl), List.forall_mem_cons.mpr ⟨mc_X2_share_r3 _ (List.mem_of_getElem? (i := 0) rfl), List.forall_mem_cons.mpr ⟨mc_X2_share_r3 _ (List.mem_of_getElem? (i := 1) rfl), List.forall_mem_cons.mpr ⟨mc_X2_share_r3 _ (List.mem_of_getElem? (i := 2) rfl), List.forall_mem_cons.mpr ⟨mc_X2_share_r3 _ (List.mem_of_getElem? (i := 3) rfl), List.forall_mem_cons.mpr ⟨mc_X2_share_r3 _ (List.mem_of_getElem? (i := 4) rfl), fun _ h => absurd h List.not_mem_nil⟩⟩⟩⟩⟩⟩⟩⟩⟩⟩⟩⟩⟩⟩⟩⟩⟩⟩⟩⟩⟩⟩⟩⟩
set_option maxRecDepth 20000 in
theorem mm_X2_share_X2_choose_r2 : ∀ w ∈ wsX2_choose_r2, w ∈ wsX2_share := List.forall_mem_cons.mpr ⟨mc_X2_share_r3 _ (List.mem_of_getElem? (i := 5) rfl), List.forall_mem_cons.mpr ⟨mc_X2_share_r3 _ (List.mem_of_getElem? (i := 6) rfl), List.forall_mem_cons.mpr ⟨mc_X2_share_r3 _ (List.mem_of_getElem? (i := 7) rfl), List.forall_mem_cons.mpr ⟨mc_X2_share_r3 _ (List.mem_of_getElem? (i := 8) rfl), List.forall_mem_cons.mpr ⟨mc_X2_share_r3 _ (List.mem_of_getElem? (i := 9) rfl), List.forall_mem_cons.mpr ⟨mc_X2_share_r1 _ (List.mem_of_getElem? (i := 0) rfl), List.forall_mem_cons.mpr ⟨mc_X2_share_r3 _ (List.mem_of_getElem? (i := 10) rfl), List.forall_mem_cons.mpr ⟨mc_X2_share_r3 _ (List.mem_of_getElem? (i := 11) rfl), List.forall_mem_cons.mpr ⟨mc_X2_share_r3 _ (List.mem_of_getElem? (i := 12) rfl), List.forall_mem_cons.mpr ⟨mc_X2_share_r1 _ (List.mem_of_getElem? (i := 4) rfl), List.forall_mem_cons.mpr ⟨mc_X2_share_r3 _ (List.mem_of_getElem? (i := 13) rfl), List.forall_mem_cons.mpr ⟨mc_X2_share_r1 _ (List.mem_of_getElem? (i := 6) rfl), List.forall_mem_cons.mpr ⟨mc_X2_share_r1 _ (List.mem_of_getElem? (i := 7) rfl), List.forall_mem_cons.mpr ⟨mc_X2_share_r1 _ (List.mem_of_getElem? (i := 8) rfl), List.forall_mem_cons.mpr ⟨mc_X2_share_r1 _ (List.mem_of_getElem? (i := 9) rfl), List.forall_mem_cons.mpr ⟨mc_X2_share_r1 _ (List.mem_of_getElem? (i := 10) rfl), List.forall_mem_cons.mpr ⟨mc_X2_share_r1 _ (List.mem_of_getElem? (i := 11) rfl), List.forall_mem_cons.mpr ⟨mc_X2_share_r3 _ (List.mem_of_getElem? (i := 14) rfl), List.forall_mem_cons.mpr ⟨mc_X2_share_r3 _ (List.mem_of_getElem? (i := 15) rfl), List.forall_mem_cons.mpr ⟨mc_X2_share_r3 _ (List.mem_of_getElem? (i := 16) rfl), List.forall_mem_cons.mpr ⟨mc_X2_share_r3 _ (List.mem_of_getElem? (i := 17) rfl), List.forall_mem_cons.mpr ⟨mc_X2_share_r3 _ (List.mem_of_getElem? (i := 18) rfl), List.forall_mem_cons.mpr ⟨mc_X2_share_r3 _ (List.mem_of_getElem? (i := 19) rfl), List.forall_mem_cons.mpr ⟨mc_X2_share_r3 _ (List.mem_of_getElem? (i := 20) rfl), fun _ h => absurd h List.not_mem_nil⟩⟩⟩⟩⟩⟩⟩⟩⟩⟩⟩⟩⟩⟩⟩⟩⟩⟩⟩⟩⟩⟩⟩⟩
set_option maxRecDepth 20000 in
theorem mm_X2_share_X2_choose_r3 : ∀ w ∈ wsX2_choose_r3, w ∈ wsX2_share := List.forall_mem_cons.mpr ⟨mc_X2_share_r3 _ (List.mem_of_getElem? (i := 21) rfl), List.forall_mem_cons.mpr ⟨mc_X2_share_r3 _ (List.mem_of_getElem? (i := 22) rfl), List.forall_mem_cons.mpr ⟨mc_X2_share_r3 _ (List.mem_of_getElem? (i := 23) rfl), List.forall_mem_cons.mpr ⟨mc_X2_share_r4 _ (List.mem_of_getElem? (i := 0) rfl), List.forall_mem_cons.mpr ⟨mc_X2_share_r4 _ (List.mem_of_getElem? (i := 1) rfl), fun _ h => absurd h List.not_mem_nil⟩⟩⟩⟩⟩
set_option maxRecDepth 20000 in
theorem ggX2_share_X2_choose : GoodIn wsX2_share wsX2_choose := goodIn_sub (List.forall_mem_cons.mpr ⟨mc_X2_share_r2 _ (List.mem_of_getElem? (i := 5) rfl), List.forall_mem_append.mpr ⟨List.forall_mem_append.mpr ⟨List.forall_mem_append.mpr ⟨List.forall_mem_append.mpr ⟨mm_X2_share_X2_choose_r1, List.forall_mem_append.mpr ⟨mm_X2_share_X2_choose_r2, mm_X2_share_X2_choose_r3⟩⟩, tl_X2_share_X5⟩, tl_X2_share_X2⟩, tl_X2_share_X1⟩⟩) (by decide +kernel)
set_option maxRecDepth 20000 in
theorem gX2_share_X2_choose : GoodIn wsX2_share (wsV RX2 37 RX2 yX2_choose wsX2_choose) := goodIn_app (goodIn_sub (List.forall_mem_cons.mpr ⟨mc_X2_share_r2 _ (List.mem_of_getElem? (i := 1) rfl), List.forall_mem_cons.mpr ⟨mc_X2_share_r2 _ (List.mem_of_getElem? (i := 2) rfl), List.forall_mem_cons.mpr ⟨mc_X2_share_r2 _ (List.mem_of_getElem? (i := 3) rfl), List.forall_mem_cons.mpr ⟨mc_X2_share_r2 _ (List.mem_of_getElem? (i := 4) rfl), fun _ h => absurd h List.not_mem_nil⟩⟩⟩⟩) (by decide +kernel)) ggX2_share_X2_choose
set_option maxRecDepth 20000 in
theorem mm_X2_share_X2_give_r1 : ∀ w ∈ wsX2_give_r1, w ∈ wsX2_share := List.forall_mem_cons.mpr ⟨mc_X2_share_r1 _ (List.mem_of_getElem? (i := 0) rfl), List.forall_mem_cons.mpr ⟨mc_X2_share_r2 _ (List.mem_of_getElem? (i := 16) rfl), List.forall_mem_cons.mpr ⟨mc_X2_share_r1 _ (List.mem_of_getElem? (i := 1) rfl), List.forall_mem_cons.mpr ⟨mc_X2_share_r1 _ (List.mem_of_getElem? (i := 2) rfl), List.forall_mem_cons.mpr ⟨mc_X2_share_r1 _ (List.mem_of_getElem? (i := 3) rfl), List.forall_mem_cons.mpr ⟨mc_X2_share_r1 _ (List.mem_of_getElem? (i := 4) rfl), List.forall_mem_cons.mpr ⟨mc_X2_share_r1 _ (List.mem_of_getElem? (i := 5) rfl), List.forall_mem_cons.mpr ⟨mc_X2_share_r1 _ (List.mem_of_getElem? (i := 6) rfl), List.forall_mem_cons.mpr ⟨mc_X2_share_r1 _ (List.mem_of_getElem? (i := 7) rfl), List.forall_mem_cons.mpr ⟨mc_X2_share_r1 _ (List.mem_of_getElem? (i := 8) rfl), List.forall_mem_cons.mpr ⟨mc_X2_share_r1 _ (List.mem_of_getElem? (i := 9) rfl), List.forall_mem_cons.mpr ⟨mc_X2_share_r1 _ (List.mem_of_getElem? (i := 10) rfl), List.forall_mem_cons.mpr ⟨mc_X2_share_r1 _ (List.mem_of_getElem? (i := 11) rfl), List.forall_mem_cons.mpr ⟨mc_X2_share_r1 _ (List.mem_of_getElem? (i := 12) rfl), List.forall_mem_cons.mpr ⟨mc_X2_share_r1 _ (List.mem_of_getElem? (i := 13) rfl), List.forall_mem_cons.mpr ⟨mc_X2_share_r1 _ (List.mem_of_getElem? (i := 14) rfl), List.forall_mem_cons.mpr ⟨mc_X2_share_r1 _ (List.mem_of_getElem? (i := 15) rfl), List.forall_mem_cons.mpr ⟨mc_X2_share_r1 _ (List.mem_of_getElem? (i := 16) rfl), List.forall_mem_cons.mpr ⟨mc_X2_share_r1 _ (List.mem_of_getElem? (i := 17) rfl), List.forall_mem_cons.mpr ⟨mc_X2_share_r1 _ (List.mem_of_getElem? (i := 18) rfl), List.forall_mem_cons.mpr ⟨mc_X2_share_r1 _ (List.mem_of_getElem? (i := 19) rfl), List.forall_mem_cons.mpr ⟨mc_X2_share_r1 _ (List.mem_of_getElem? (i := 20) rfl), List.forall_mem_cons.mpr ⟨mc_X2_share_r1 _ (List.mem_of_getElem? (i := 21) rfl), List.forall_mem_cons.mpr ⟨mc_X2_share_r1 _ (List.mem_of_getElem? (i := 22) rfl), fun _ h => absurd h List.not_mem_nil⟩⟩⟩⟩⟩⟩⟩⟩⟩⟩⟩⟩⟩⟩⟩⟩⟩⟩⟩⟩⟩⟩⟩⟩
set_option maxRecDepth 20000 in
theorem mm_X2_share_X2_give_r2 : ∀ w ∈ wsX2_give_r2, w ∈ wsX2_share := List.forall_mem_cons.mpr ⟨mc_X2_share_r1 _ (List.mem_of_getElem? (i := 23) rfl), List.forall_mem_cons.mpr ⟨mc_X2_share_r2 _ (List.mem_of_getElem? (i := 0) rfl), fun _ h => absurd h List.not_mem_nil⟩⟩
set_option maxRecDepth 20000 in
theorem ggX2_share_X2_give : GoodIn wsX2_share wsX2_give := goodIn_sub (List.forall_mem_cons.mpr ⟨mc_X2_share_r4 _ (List.mem_of_getElem? (i := 5) rfl), List.forall_mem_append.mpr ⟨List.forall_mem_append.mpr ⟨List.forall_mem_append.mpr ⟨mm_X2_share_X2_give_r1, mm_X2_share_X2_give_r2⟩, tl_X2_share_X2⟩, tl_X2_share_X1⟩⟩) (by decide +kernel)
set_option maxRecDepth 20000 in
theorem gX2_share_X2_give : GoodIn wsX2_share (wsV RX2 41 RX2 yX2_give wsX2_give) := goodIn_app (goodIn_sub (List.forall_mem_cons.mpr ⟨mc_X2_share_r4 _ (List.mem_of_getElem? (i := 2) rfl), List.forall_mem_cons.mpr ⟨mc_X2_share_r4 _ (List.mem_of_getElem? (i := 3) rfl), List.forall_mem_cons.mpr ⟨mc_X2_share_r4 _ (List.mem_of_getElem? (i := 4) rfl), List.forall_mem_cons.mpr ⟨mc_X2_share_r2 _ (List.mem_of_getElem? (i := 4) rfl), fun _ h => absurd h List.not_mem_nil⟩⟩⟩⟩) (by decide +kernel)) ggX2_share_X2_give
theorem dX2_share_0 : decode cX2_share 0 = .ok (.iconst 0, 1) := by decide +kernel
theorem dX2_share_1 : decode cX2_share 1 = .ok (.istore_n 3, 1) := by decide +kernel
theorem dX2_share_2 : decode cX2_share 2 = .ok (.iload_n 3, 1) := by decide +kernel
theorem dX2_share_3 : decode cX2_share 3 = .ok (.iconst 4, 1) := by decide +kernel
theorem dX2_share_4 : decode cX2_share 4 = .ok (.if_icmp .ge 19, 3) := by decide +kernel
theorem dX2_share_7 : decode cX2_share 7 = .ok (.aload_n 0, 1) := by decide +kernel
theorem dX2_share_8 : decode cX2_share 8 = .ok (.getfield 14, 3) := by decide +kernel
theorem dX2_share_11 : decode cX2_share 11 = .ok (.iload_n 2, 1) := by decide +kernel
theorem dX2_share_12 : decode cX2_share 12 = .ok (.iload_n 3, 1) := by decide +kernel
theorem dX2_share_13 : decode cX2_share 13 = .ok (.iconst (-1), 1) := by decide +kernel
theorem dX2_share_14 : decode cX2_share 14 = .ok (.invokevirtual 33, 3) := by decide +kernel
theorem dX2_share_17 : decode cX2_share 17 = .ok (.iinc 3 1, 3) := by decide +kernel
theorem dX2_share_20 : decode cX2_share 20 = .ok (.goto (-18), 3) := by decide +kernel
theorem dX2_share_23 : decode cX2_share 23 = .ok (.iconst 0, 1) := by decide +kernel
theorem dX2_share_24 : decode cX2_share 24 = .ok (.istore_n 3, 1) := by decide +kernel
theorem dX2_share_25 : decode cX2_share 25 = .ok (.iload_n 3, 1) := by decide +kernel
theorem dX2_share_26 : decode cX2_share 26 = .ok (.iconst 4, 1) := by decide +kernel
theorem dX2_share_27 : decode cX2_share 27 = .ok (.if_icmp .ge 22, 3) := by decide +kernel
theorem dX2_share_30 : decode cX2_share 30 = .ok (.aload_n 0, 1) := by decide +kernel
theorem dX2_share_31 : decode cX2_share 31 = .ok (.iload_n 2, 1) := by decide +kernel
theorem dX2_share_32 : decode cX2_share 32 = .ok (.iload_n 3, 1) := by decide +kernel
theorem dX2_share_33 : decode cX2_share 33 = .ok (.aload_n 0, 1) := by decide +kernel
theorem dX2_share_34 : decode cX2_share 34 = .ok (.aload_n 1, 1) := by decide +kernel
theorem dX2_share_35 : decode cX2_share 35 = .ok (.iload_n 2, 1) := by decide +kernel
theorem dX2_share_36 : decode cX2_share 36 = .ok (.iload_n 3, 1) := by decide +kernel
theorem dX2_share_37 : decode cX2_share 37 = .ok (.invokevirtual 37, 3) := by decide +kernel
theorem dX2_share_40 : decode cX2_share 40 = .ok (.invokevirtual 41, 3) := by decide +kernel
theorem dX2_share_43 : decode cX2_share 43 = .ok (.iinc 3 1, 3) := by decide +kernel
theorem dX2_share_46 : decode cX2_share 46 = .ok (.goto (-21), 3) := by decide +kernel
theorem dX2_share_49 : decode cX2_share 49 = .ok (.return_, 1) := by decide +kernel
set_option maxRecDepth 20000 in
theorem mm_X2_replace_X2_choose_r1 : ∀ w ∈ wsX2_choose_r1, w ∈ wsX2_replace := List.forall_mem_cons.mpr ⟨mc_X2_replace_r1 _ (List.mem_of_getElem? (i := 6) rfl), List.forall_mem_cons.mpr ⟨mc_X2_replace_r1 _ (List.mem_of_getElem? (i := 7) rfl), List.forall_mem_cons.mpr ⟨mc_X2_replace_r1 _ (List.mem_of_getElem? (i := 8) rfl), List.forall_mem_cons.mpr ⟨mc_X2_replace_r1 _ (List.mem_of_getElem? (i := 9) rfl), List.forall_mem_cons.mpr ⟨mc_X2_replace_r1 _ (List.mem_of_getElem? (i := 10) rfl), List.forall_mem_cons.mpr ⟨mc_X2_replace_r1 _ (List.mem_of_getElem? (i := 11) rfl), List.forall_mem_cons.mpr ⟨mc_X2_replace_r1 _ (List.mem_of_getElem? (i := 12) rfl), List.forall_mem_cons.mpr ⟨mc_X2_replace_r1 _ (List.mem_of_getElem? (i := 13) rfl), List.forall_mem_cons.mpr ⟨mc_X2_replace_r1 _ (List.mem_of_getElem? (i := 14) rfl), List.forall_mem_cons.mpr ⟨mc_X2_replace_r1 _ (List.mem_of_getElem? (i := 4) rfl), List.forall_mem_cons.mpr ⟨mc_X2_replace_r1 _ (List.mem_of_getElem? (i := 15) rfl), List.forall_mem_cons.mpr ⟨mc_X2_replace_r1 _ (List.mem_of_getElem? (i := 0) rfl), List.forall_mem_cons.mpr ⟨mc_X2_replace_r1 _ (List.mem_of_getElem? (i := 16) rfl), List.forall_mem_cons.mpr ⟨mc_X2_replace_r1 _ (List.mem_of_getElem? (i := 17) rfl), List.forall_mem_cons.mpr ⟨mc_X2_replace_r1 _ (List.mem_of_getElem? (i := 18) rfl), List.forall_mem_cons.mpr ⟨mc_X2_replace_r1 _ (List.mem_of_getElem? (i := 19) rfl), List.forall_mem_cons.mpr ⟨mc_X2_replace_r1 _ (List.mem_of_getElem? (i := 20) rfl), List.forall_mem_cons.mpr ⟨mc_X2_replace_r1 _ (List.mem_of_getElem? (i := 21) rfl), List.forall_mem_cons.mpr ⟨mc_X2_replace_r1 _ (List.mem_of_getElem? (i := 22) rfl), List.forall_mem_cons.mpr ⟨mc_X2_replace_r1 _ (List.mem_of_getElem? (i := 23) rfl), List.forall_mem_cons.mpr ⟨mc_X2_replace_r2 _ (List.mem_of_getElem? (i := 0) rfl), List.forall_mem_cons.mpr ⟨mc_X2_replace_r2 _ (List.mem_of_getElem? (i := 1) rfl), List.forall_mem_cons.mpr ⟨mc_X2_replace_r2 _ (List.mem_of_getElem? (i := 2) rfl), List.forall_mem_cons.mpr ⟨mc_X2_replace_r2 _ (List.mem_of_getElem? (i := 3) rfl), fun _ h => absurd h List.not_mem_nil⟩⟩⟩⟩⟩⟩⟩⟩⟩⟩⟩⟩⟩⟩⟩⟩⟩⟩⟩⟩⟩⟩⟩⟩
set_option maxRecDepth 20000 in
theorem mm_X2_replace_X2_choose_r2 : ∀ w ∈ wsX2_choose_r2, w ∈ wsX2_replace := List.forall_mem_cons.mpr ⟨mc_X2_replace_r2 _ (List.mem_of_getElem? (i := 4) rfl), List.forall_mem_cons.mpr ⟨mc_X2_replace_r2 _ (List.mem_of_getElem? (i := 5) rfl), List.forall_mem_cons.mpr ⟨mc_X2_replace_r2 _ (List.mem_of_getElem? (i := 6) rfl), List.forall_mem_cons.mpr ⟨mc_X2_replace_r2 _ (List.mem_of_getElem? (i := 7) rfl), List.forall_mem_cons.mpr ⟨mc_X2_replace_r2 _ (List.mem_of_getElem? (i := 8) rfl), List.forall_mem_cons.mpr ⟨mc_X2_replace_r2 _ (List.mem_of_getElem? (i := 9) rfl), List.forall_mem_cons.mpr ⟨mc_X2_replace_r2 _ (List.mem_of_getElem? (i := 10) rfl), List.forall_mem_cons.mpr ⟨mc_X2_replace_r2 _ (List.mem_of_getElem? (i := 11) rfl), List.forall_mem_cons.mpr ⟨mc_X2_replace_r2 _ (List.mem_of_getElem? (i := 12) rfl), List.forall_mem_cons.mpr ⟨mc_X2_replace_r2 _ (List.mem_of_getElem? (i := 13) rfl), List.forall_mem_cons.mpr ⟨mc_X2_replace_r2 _ (List.mem_of_getElem? (i := 14) rfl), List.forall_mem_cons.mpr ⟨mc_X2_replace_r2 _ (List.mem_of_getElem? (i := 15) rfl), List.forall_mem_cons.mpr ⟨mc_X2_replace_r2 _ (List.mem_of_getElem? (i := 16) rfl), List.forall_mem_cons.mpr ⟨mc_X2_replace_r2 _ (List.mem_of_getElem? (i := 17) rfl), List.forall_mem_cons.mpr ⟨mc_X2_replace_r2 _ (List.mem_of_getElem? (i := 18) rfl), List.forall_mem_cons.mpr ⟨mc_X2_replace_r2 _ (List.mem_of_getElem? (i := 19) rfl), List.forall_mem_cons.mpr ⟨mc_X2_replace_r2 _ (List.mem_of_getElem? (i := 20) rfl), List.forall_mem_cons.mpr ⟨mc_X2_replace_r2 _ (List.mem_of_getElem? (i := 21) rfl), List.forall_mem_cons.mpr ⟨mc_X2_replace_r2 _ (List.mem_of_getElem? (i := 22) rfl), List.forall_mem_cons.mpr ⟨mc_X2_replace_r2 _ (List.mem_of_getElem? (i := 23) rfl), List.forall_mem_cons.mpr ⟨mc_X2_replace_r3 _ (List.mem_of_getElem? (i := 0) rfl), List.forall_mem_cons.mpr ⟨mc_X2_replace_r3 _ (List.mem_of_getElem? (i := 1) rfl), List.forall_mem_cons.mpr ⟨mc_X2_replace_r3 _ (List.mem_of_getElem? (i := 2) rfl), List.forall_mem_cons.mpr ⟨mc_X2_replace_r3 _ (List.mem_of_getElem? (i := 3) rfl), fun _ h => absurd h List.not_mem_nil⟩⟩⟩⟩⟩⟩⟩⟩⟩⟩⟩⟩⟩⟩⟩⟩⟩⟩⟩⟩⟩⟩⟩⟩
set_option maxRecDepth 20000 in
theorem mm_X2_replace_X2_choose_r3 : ∀ w ∈ wsX2_choose_r3, w ∈ wsX2_replace := List.forall_mem_cons.mpr ⟨mc_X2_replace_r3 _ (List.mem_of_getElem? (i := 4) rfl), List.forall_mem_cons.mpr ⟨mc_X2_replace_r3 _ (List.mem_of_getElem? (i := 5) rfl), List.forall_mem_cons.mpr ⟨mc_X2_replace_r3 _ (List.mem_of_getElem? (i := 6) rfl), List.forall_mem_cons.mpr ⟨mc_X2_replace_r3 _ (List.mem_of_getElem? (i := 7) rfl), List.forall_mem_cons.mpr ⟨mc_X2_replace_r3 _ (List.mem_of_getElem? (i := 8) rfl), fun _ h => absurd h List.not_mem_nil⟩⟩⟩⟩⟩
set_option maxRecDepth 20000 in
theorem ggX2_replace_X2_choose : GoodIn wsX2_replace wsX2_choose := goodIn_sub (List.forall_mem_cons.mpr ⟨mc_X2_replace_r1 _ (List.mem_of_getElem? (i := 5) rfl), List.forall_mem_append.mpr ⟨List.forall_mem_append.mpr ⟨List.forall_mem_append.mpr ⟨List.forall_mem_append.mpr ⟨mm_X2_replace_X2_choose_r1, List.forall_mem_append.mpr ⟨mm_X2_replace_X2_choose_r2, mm_X2_replace_X2_choose_r3⟩⟩, tl_X2_replace_X5⟩, tl_X2_replace_X2⟩, tl_X2_replace_X1⟩⟩) (by decide +kernel)
set_option maxRecDepth 20000 in
theorem gX2_replace_X2_choose : GoodIn wsX2_replace (wsV RX2 37 RX2 yX2_choose wsX2_choose) := goodIn_app (goodIn_sub (List.forall_mem_cons.mpr ⟨mc_X2_replace_r1 _ (List.mem_of_getElem? (i := 1) rfl), List.forall_mem_cons.mpr ⟨mc_X2_replace_r1 _ (List.mem_of_getElem? (i := 2) rfl), List.forall_mem_cons.mpr ⟨mc_X2_replace_r1 _ (List.mem_of_getElem? (i := 3) rfl), List.forall_mem_cons.mpr ⟨mc_X2_replace_r1 _ (List.mem_of_getElem? (i := 4) rfl), fun _ h => absurd h List.not_mem_nil⟩⟩⟩⟩) (by decide +kernel)) ggX2_replace_X2_choose
set_option maxRecDepth 20000 in
theorem ggX2_replace_X2_holder : GoodIn wsX2_replace wsX2_holder := goodIn_sub (List.forall_mem_cons.mpr ⟨mc_X2_replace_r2 _ (List.mem_of_getElem? (i := 8) rfl), List.forall_mem_append.mpr ⟨List.forall_mem_append.mpr ⟨List.forall_mem_cons.mpr ⟨mc_X2_replace_r2 _ (List.mem_of_getElem? (i := 9) rfl), List.forall_mem_cons.mpr ⟨mc_X2_replace_r2 _ (List.mem_of_getElem? (i := 10) rfl), List.forall_mem_cons.mpr ⟨mc_X2_replace_r2 _ (List.mem_of_getElem? (i := 11) rfl), List.forall_mem_cons.mpr ⟨mc_X2_replace_r2 _ (List.mem_of_getElem? (i := 12) rfl), List.forall_mem_cons.mpr ⟨mc_X2_replace_r2 _ (List.mem_of_getElem? (i := 13) rfl), List.forall_mem_cons.mpr ⟨mc_X2_replace_r2 _ (List.mem_of_getElem? (i := 14) rfl), List.forall_mem_cons.mpr ⟨mc_X2_replace_r2 _ (List.mem_of_getElem? (i := 15) rfl), List.forall_mem_cons.mpr ⟨mc_X2_replace_r2 _ (List.mem_of_getElem? (i := 16) rfl), List.forall_mem_cons.mpr ⟨mc_X2_replace_r2 _ (List.mem_of_getElem? (i := 17) rfl), List.forall_mem_cons.mpr ⟨mc_X2_replace_r2 _ (List.mem_of_getElem? (i := 18) rfl), List.forall_mem_cons.mpr ⟨mc_X2_replace_r2 _ (List.mem_of_getElem? (i := 19) rfl), List.forall_mem_cons.mpr ⟨mc_X2_replace_r2 _ (List.mem_of_getElem? (i := 20) rfl), fun _ h => absurd h List.not_mem_nil⟩⟩⟩⟩⟩⟩⟩⟩⟩⟩⟩⟩, tl_X2_replace_X2⟩, tl_X2_replace_X1⟩⟩) (by decide +kernel)
set_option maxRecDepth 20000 in
theorem gX2_replace_X2_holder : GoodIn wsX2_replace (wsV RX2 44 RX2 yX2_holder wsX2_holder) := goodIn_app (goodIn_sub (List.forall_mem_cons.mpr ⟨mc_X2_replace_r2 _ (List.mem_of_getElem? (i := 5) rfl), List.forall_mem_cons.mpr ⟨mc_X2_replace_r2 _ (List.mem_of_getElem? (i := 6) rfl), List.forall_mem_cons.mpr ⟨mc_X2_replace_r2 _ (List.mem_of_getElem? (i := 7) rfl), List.forall_mem_cons.mpr ⟨mc_X2_replace_r1 _ (List.mem_of_getElem? (i := 4) rfl), fun _ h => absurd h List.not_mem_nil⟩⟩⟩⟩) (by decide +kernel)) ggX2_replace_X2_holder
set_option maxRecDepth 20000 in
theorem mm_X2_replace_X2_give_r1 : ∀ w ∈ wsX2_give_r1, w ∈ wsX2_replace := List.forall_mem_cons.mpr ⟨mc_X2_replace_r2 _ (List.mem_of_getElem? (i := 9) rfl), List.forall_mem_cons.mpr ⟨mc_X2_replace_r1 _ (List.mem_of_getElem? (i := 0) rfl), List.forall_mem_cons.mpr ⟨mc_X2_replace_r3 _ (List.mem_of_getElem? (i := 13) rfl), List.forall_mem_cons.mpr ⟨mc_X2_replace_r3 _ (List.mem_of_getElem? (i := 14) rfl), List.forall_mem_cons.mpr ⟨mc_X2_replace_r3 _ (List.mem_of_getElem? (i := 15) rfl), List.forall_mem_cons.mpr ⟨mc_X2_replace_r2 _ (List.mem_of_getElem? (i := 13) rfl), List.forall_mem_cons.mpr ⟨mc_X2_replace_r3 _ (List.mem_of_getElem? (i := 16) rfl), List.forall_mem_cons.mpr ⟨mc_X2_replace_r2 _ (List.mem_of_getElem? (i := 15) rfl), List.forall_mem_cons.mpr ⟨mc_X2_replace_r2 _ (List.mem_of_getElem? (i := 16) rfl), List.forall_mem_cons.mpr ⟨mc_X2_replace_r2 _ (List.mem_of_getElem? (i := 17) rfl), List.forall_mem_cons.mpr ⟨mc_X2_replace_r2 _ (List.mem_of_getElem? (i := 18) rfl), List.forall_mem_cons.mpr ⟨mc_X2_replace_r2 _ (List.mem_of_getElem? (i := 19) rfl), List.forall_mem_cons.mpr ⟨mc_X2_replace_r2 _ (List.mem_of_getElem? (i := 20) rfl), List.forall_mem_cons.mpr ⟨mc_X2_replace_r3 _ (List.mem_of_getElem? (i := 17) rfl), List.forall_mem_cons.mpr ⟨mc_X2_replace_r3 _ (List.mem_of_getElem? (i := 18) rfl), List.forall_mem_cons.mpr ⟨mc_X2_replace_r3 _ (List.mem_of_getElem? (i := 19) rfl), List.forall_mem_cons.mpr ⟨mc_X2_replace_r3 _ (List.mem_of_getElem? (i := 20) rfl), List.forall_mem_cons.mpr ⟨mc_X2_replace_r3 _ (List.mem_of_getElem? (i := 21) rfl), List.forall_mem_cons.mpr ⟨mc_X2_replace_r3 _ (List.mem_of_getElem? (i := 22) rfl), List.forall_mem_cons.mpr ⟨mc_X2_replace_r3 _ (List.mem_of_getElem? (i := 23) rfl), List.forall_mem_cons.mpr ⟨mc_X2_replace_r4 _ (List.mem_of_getElem? (i := 0) rfl), List.forall_mem_cons.mpr ⟨mc_X2_replace_r4 _ (List.mem_of_getElem? (i := 1) rfl), List.forall_mem_cons.mpr ⟨mc_X2_replace_r4 _ (List.mem_of_getElem? (i := 2) rfl), List.forall_mem_cons.mpr ⟨mc_X2_replace_r4 _ (List.mem_of_getElem? (i := 3) rfl), fun _ h => absurd h List.not_mem_nil⟩⟩⟩⟩⟩⟩⟩⟩⟩⟩⟩⟩⟩⟩⟩⟩⟩⟩⟩⟩⟩⟩⟩⟩
set_option maxRecDepth 20000 in
theorem mm_X2_replace_X2_give_r2 : ∀ w ∈ wsX2_give_r2, w ∈ wsX2_replace := List.forall_mem_cons.mpr ⟨mc_X2_replace_r4 _ (List.mem_of_getElem? (i := 4) rfl), List.forall_mem_cons.mpr ⟨mc_X2_replace_r4 _ (List.mem_of_getElem? (i := 5) rfl), fun _ h => absurd h List.not_mem_nil⟩⟩
set_option maxRecDepth 20000 in
theorem ggX2_replace_X2_give : GoodIn wsX2_replace wsX2_give := goodIn_sub (List.forall_mem_cons.mpr ⟨mc_X2_replace_r3 _ (List.mem_of_getElem? (i := 12) rfl), List.forall_mem_append.mpr ⟨List.forall_mem_append.mpr ⟨List.forall_mem_append.mpr ⟨mm_X2_replace_X2_give_r1, mm_X2_replace_X2_give_r2⟩, tl_X2_replace_X2⟩, tl_X2_replace_X1⟩⟩) (by decide +kernel)
set_option maxRecDepth 20000 in
theorem gX2_replace_X2_give : GoodIn wsX2_replace (wsV RX2 41 RX2 yX2_give wsX2_give) := goodIn_app (goodIn_sub (List.forall_mem_cons.mpr ⟨mc_X2_replace_r3 _ (List.mem_of_getElem? (i := 9) rfl), List.forall_mem_cons.mpr ⟨mc_X2_replace_r3 _ (List.mem_of_getElem? (i := 10) rfl), List.forall_mem_cons.mpr ⟨mc_X2_replace_r3 _ (List.mem_of_getElem? (i := 11) rfl), List.forall_mem_cons.mpr ⟨mc_X2_replace_r1 _ (List.mem_of_getElem? (i := 4) rfl), fun _ h => absurd h List.not_mem_nil⟩⟩⟩⟩) (by decide +kernel)) ggX2_replace_X2_give
theorem dX2_replace_0 : decode cX2_replace 0 = .ok (.aload_n 0, 1) := by decide +kernel
theorem dX2_replace_1 : decode cX2_replace 1 = .ok (.aload_n 1, 1) := by decide +kernel
theorem dX2_replace_2 : decode cX2_replace 2 = .ok (.iload_n 2, 1) := by decide +kernel
theorem dX2_replace_3 : decode cX2_replace 3 = .ok (.iload_n 3, 1) := by decide +kernel
theorem dX2_replace_4 : decode cX2_replace 4 = .ok (.invokevirtual 37, 3) := by decide +kernel
theorem dX2_replace_7 : decode cX2_replace 7 = .ok (.istore 4, 2) := by decide +kernel
theorem dX2_replace_9 : decode cX2_replace 9 = .ok (.aload_n 0, 1) := by decide +kernel
theorem dX2_replace_10 : decode cX2_replace 10 = .ok (.iload_n 2, 1) := by decide +kernel
theorem dX2_replace_11 : decode cX2_replace 11 = .ok (.iload_n 3, 1) := by decide +kernel
theorem dX2_replace_12 : decode cX2_replace 12 = .ok (.invokevirtual 44, 3) := by decide +kernel
theorem dX2_replace_15 : decode cX2_replace 15 = .ok (.istore 5, 2) := by decide +kernel
theorem dX2_replace_17 : decode cX2_replace 17 = .ok (.iload 5, 2) := by decide +kernel
theorem dX2_replace_19 : decode cX2_replace 19 = .ok (.iconst (-1), 1) := by decide +kernel
theorem dX2_replace_20 : decode cX2_replace 20 = .ok (.if_icmp .eq 18, 3) := by decide +kernel
theorem dX2_replace_23 : decode cX2_replace 23 = .ok (.aload_n 0, 1) := by decide +kernel
theorem dX2_replace_24 : decode cX2_replace 24 = .ok (.getfield 22, 3) := by decide +kernel
theorem dX2_replace_27 : decode cX2_replace 27 = .ok (.iload 5, 2) := by decide +kernel
theorem dX2_replace_29 : decode cX2_replace 29 = .ok (.iconst 4, 1) := by decide +kernel
theorem dX2_replace_30 : decode cX2_replace 30 = .ok (.imul, 1) := by decide +kernel
theorem dX2_replace_31 : decode cX2_replace 31 = .ok (.iload_n 3, 1) := by decide +kernel
theorem dX2_replace_32 : decode cX2_replace 32 = .ok (.iadd, 1) := by decide +kernel
theorem dX2_replace_33 : decode cX2_replace 33 = .ok (.dup2, 1) := by decide +kernel
theorem dX2_replace_34 : decode cX2_replace 34 = .ok (.iaload, 1) := by decide +kernel
theorem dX2_replace_35 : decode cX2_replace 35 = .ok (.iconst 1, 1) := by decide +kernel
theorem dX2_replace_36 : decode cX2_replace 36 = .ok (.isub, 1) := by decide +kernel
theorem dX2_replace_37 : decode cX2_replace 37 = .ok (.iastore, 1) := by decide +kernel
theorem dX2_replace_38 : decode cX2_replace 38 = .ok (.aload_n 0, 1) := by decide +kernel
theorem dX2_replace_39 : decode cX2_replace 39 = .ok (.iload_n 2, 1) := by decide +kernel
theorem dX2_replace_40 : decode cX2_replace 40 = .ok (.iload_n 3, 1) := by decide +kernel
theorem dX2_replace_41 : decode cX2_replace 41 = .ok (.iload 4, 2) := by decide +kernel
theorem dX2_replace_43 : decode cX2_replace 43 = .ok (.invokevirtual 41, 3) := by decide +kernel
theorem dX2_replace_46 : decode cX2_replace 46 = .ok (.iload 4, 2) := by decide +kernel
theorem dX2_replace_48 : decode cX2_replace 48 = .ok (.ireturn, 1) := by decide +kernel
set_option maxRecDepth 20000 in
theorem ggX2_give_X1_put : GoodIn wsX2_give wsX1_put := goodIn_sub (List.forall_mem_cons.mpr ⟨mc_X2_give_r1 _ (List.mem_of_getElem? (i := 6) rfl), List.forall_mem_append.mpr ⟨List.forall_mem_cons.mpr ⟨mc_X2_give_r1 _ (List.mem_of_getElem? (i := 7) rfl), List.forall_mem_cons.mpr ⟨mc_X2_give_r1 _ (List.mem_of_getElem? (i := 8) rfl), List.forall_mem_cons.mpr ⟨mc_X2_give_r1 _ (List.mem_of_getElem? (i := 9) rfl), List.forall_mem_cons.mpr ⟨mc_X2_give_r1 _ (List.mem_of_getElem? (i := 10) rfl), List.forall_mem_cons.mpr ⟨mc_X2_give_r1 _ (List.mem_of_getElem? (i := 11) rfl), List.forall_mem_cons.mpr ⟨mc_X2_give_r1 _ (List.mem_of_getElem? (i := 5) rfl), List.forall_mem_cons.mpr ⟨mc_X2_give_r1 _ (List.mem_of_getElem? (i := 12) rfl), List.forall_mem_cons.mpr ⟨mc_X2_give_r1 _ (List.mem_of_getElem? (i := 13) rfl), List.forall_mem_cons.mpr ⟨mc_X2_give_r1 _ (List.mem_of_getElem? (i := 14) rfl), List.forall_mem_cons.mpr ⟨mc_X2_give_r1 _ (List.mem_of_getElem? (i := 15) rfl), List.forall_mem_cons.mpr ⟨mc_X2_give_r1 _ (List.mem_of_getElem? (i := 16) rfl), List.forall_mem_cons.mpr ⟨mc_X2_give_r1 _ (List.mem_of_getElem? (i := 17) rfl), List.forall_mem_cons.mpr ⟨mc_X2_give_r1 _ (List.mem_of_getElem? (i := 18) rfl), List.forall_mem_cons.mpr ⟨mc_X2_give_r1 _ (List.mem_of_getElem? (i := 19) rfl), List.forall_mem_cons.mpr ⟨mc_X2_give_r1 _ (List.mem_of_getElem? (i := 20) rfl), List.forall_mem_cons.mpr ⟨mc_X2_give_r1 _ (List.mem_of_getElem? (i := 21) rfl), List.forall_mem_cons.mpr ⟨mc_X2_give_r1 _ (List.mem_of_getElem? (i := 22) rfl), List.forall_mem_cons.mpr ⟨mc_X2_give_r1 _ (List.mem_of_getElem? (i := 23) rfl), List.forall_mem_cons.mpr ⟨mc_X2_give_r2 _ (List.mem_of_getElem? (i := 0) rfl), List.forall_mem_cons.mpr ⟨mc_X2_give_r2 _ (List.mem_of_getElem? (i := 1) rfl), fun _ h => absurd h List.not_mem_nil⟩⟩⟩⟩⟩⟩⟩⟩⟩⟩⟩⟩⟩⟩⟩⟩⟩⟩⟩⟩, tl_X2_give_X1⟩⟩) (by decide +kernel)
set_option maxRecDepth 20000 in
theorem gX2_give_X1_put : GoodIn wsX2_give (wsV RX2 33 RX1 yX1_put wsX1_put) := goodIn_app (goodIn_sub (List.forall_mem_cons.mpr ⟨mc_X2_give_r1 _ (List.mem_of_getElem? (i := 2) rfl), List.forall_mem_cons.mpr ⟨mc_X2_give_r1 _ (List.mem_of_getElem? (i := 3) rfl), List.forall_mem_cons.mpr ⟨mc_X2_give_r1 _ (List.mem_of_getElem? (i := 4) rfl), List.forall_mem_cons.mpr ⟨mc_X2_give_r1 _ (List.mem_of_getElem? (i := 5) rfl), fun _ h => absurd h List.not_mem_nil⟩⟩⟩⟩) (by decide +kernel)) ggX2_give_X1_put
theorem dX2_give_0 : decode cX2_give 0 = .ok (.aload_n 0, 1) := by decide +kernel
theorem dX2_give_1 : decode cX2_give 1 = .ok (.getfield 14, 3) := by decide +kernel
theorem dX2_give_4 : decode cX2_give 4 = .ok (.iload_n 1, 1) := by decide +kernel
theorem dX2_give_5 : decode cX2_give 5 = .ok (.iload_n 2, 1) := by decide +kernel
theorem dX2_give_6 : decode cX2_give 6 = .ok (.iload_n 3, 1) := by decide +kernel
theorem dX2_give_7 : decode cX2_give 7 = .ok (.invokevirtual 33, 3) := by decide +kernel
theorem dX2_give_10 : decode cX2_give 10 = .ok (.iload_n 3, 1) := by decide +kernel
theorem dX2_give_11 : decode cX2_give 11 = .ok (.iconst (-1), 1) := by decide +kernel
theorem dX2_give_12 : decode cX2_give 12 = .ok (.if_icmp .eq 17, 3) := by decide +kernel
theorem dX2_give_15 : decode cX2_give 15 = .ok (.aload_n 0, 1) := by decide +kernel
theorem dX2_give_16 : decode cX2_give 16 = .ok (.getfield 22, 3) := by decide +kernel
theorem dX2_give_19 : decode cX2_give 19 = .ok (.iload_n 3, 1) := by decide +kernel
theorem dX2_give_20 : decode cX2_give 20 = .ok (.iconst 4, 1) := by decide +kernel
theorem dX2_give_21 : decode cX2_give 21 = .ok (.imul, 1) := by decide +kernel
theorem dX2_give_22 : decode cX2_give 22 = .ok (.iload_n 2, 1) := by decide +kernel
theorem dX2_give_23 : decode cX2_give 23 = .ok (.iadd, 1) := by decide +kernel
theorem dX2_give_24 : decode cX2_give 24 = .ok (.dup2, 1) := by decide +kernel
theorem dX2_give_25 : decode cX2_give 25 = .ok (.iaload, 1) := by decide +kernel
theorem dX2_give_26 : decode cX2_give 26 = .ok (.iconst 1, 1) := by decide +kernel
theorem dX2_give_27 : decode cX2_give 27 = .ok (.iadd, 1) := by decide +kernel
theorem dX2_give_28 : decode cX2_give 28 = .ok (.iastore, 1) := by decide +kernel
theorem dX2_give_29 : decode cX2_give 29 = .ok (.return_, 1) := by decide +kernel
set_option maxRecDepth 20000 in
theorem ggX2_choose_X5_size : GoodIn wsX2_choose wsX5_size := goodIn_sub (List.forall_mem_cons.mpr ⟨mc_X2_choose_r1 _ (List.mem_of_getElem? (i := 4) rfl), List.forall_mem_append.mpr ⟨List.forall_mem_cons.mpr ⟨mc_X2_choose_r1 _ (List.mem_of_getElem? (i := 5) rfl), fun _ h => absurd h List.not_mem_nil⟩, tl_X2_choose_X5⟩⟩) (by decide +kernel)
set_option maxRecDepth 20000 in
theorem gX2_choose_X5_size : GoodIn wsX2_choose (wsV RX2 47 RX5 yX5_size wsX5_size) := goodIn_app (goodIn_sub (List.forall_mem_cons.mpr ⟨mc_X2_choose_r1 _ (List.mem_of_getElem? (i := 0) rfl), List.forall_mem_cons.mpr ⟨mc_X2_choose_r1 _ (List.mem_of_getElem? (i := 1) rfl), List.forall_mem_cons.mpr ⟨mc_X2_choose_r1 _ (List.mem_of_getElem? (i := 2) rfl), List.forall_mem_cons.mpr ⟨mc_X2_choose_r1 _ (List.mem_of_getElem? (i := 3) rfl), fun _ h => absurd h List.not_mem_nil⟩⟩⟩⟩) (by decide +kernel)) ggX2_choose_X5_size
set_option maxRecDepth 20000 in
theorem ggX2_choose_X2_turnsTaken : GoodIn wsX2_choose wsX2_turnsTaken := goodIn_sub (List.forall_mem_cons.mpr ⟨mc_X2_choose_r1 _ (List.mem_of_getElem? (i := 10) rfl), List.forall_mem_append.mpr ⟨List.forall_mem_cons.mpr ⟨mc_X2_choose_r1 _ (List.mem_of_getElem? (i := 11) rfl), fun _ h => absurd h List.not_mem_nil⟩, tl_X2_choose_X2⟩⟩) (by decide +kernel)
set_option maxRecDepth 20000 in
theorem gX2_choose_X2_turnsTaken : GoodIn wsX2_choose (wsV RX2 30 RX2 yX2_turnsTaken wsX2_turnsTaken) := goodIn_app (goodIn_sub (List.forall_mem_cons.mpr ⟨mc_X2_choose_r1 _ (List.mem_of_getElem? (i := 6) rfl), List.forall_mem_cons.mpr ⟨mc_X2_choose_r1 _ (List.mem_of_getElem? (i := 7) rfl), List.forall_mem_cons.mpr ⟨mc_X2_choose_r1 _ (List.mem_of_getElem? (i := 8) rfl), List.forall_mem_cons.mpr ⟨mc_X2_choose_r1 _ (List.mem_of_getElem? (i := 9) rfl), fun _ h => absurd h List.not_mem_nil⟩⟩⟩⟩) (by decide +kernel)) ggX2_choose_X2_turnsTaken
set_option maxRecDepth 20000 in
theorem ggX2_choose_X5_isBarred : GoodIn wsX2_choose wsX5_isBarred := goodIn_sub (List.forall_mem_cons.mpr ⟨mc_X2_choose_r1 _ (List.mem_of_getElem? (i := 15) rfl), List.forall_mem_append.mpr ⟨List.forall_mem_cons.mpr ⟨mc_X2_choose_r1 _ (List.mem_of_getElem? (i := 16) rfl), List.forall_mem_cons.mpr ⟨mc_X2_choose_r1 _ (List.mem_of_getElem? (i := 17) rfl), List.forall_mem_cons.mpr ⟨mc_X2_choose_r1 _ (List.mem_of_getElem? (i := 18) rfl), List.forall_mem_cons.mpr ⟨mc_X2_choose_r1 _ (List.mem_of_getElem? (i := 19) rfl), List.forall_mem_cons.mpr ⟨mc_X2_choose_r1 _ (List.mem_of_getElem? (i := 3) rfl), List.forall_mem_cons.mpr ⟨mc_X2_choose_r1 _ (List.mem_of_getElem? (i := 20) rfl), List.forall_mem_cons.mpr ⟨mc_X2_choose_r1 _ (List.mem_of_getElem? (i := 5) rfl), fun _ h => absurd h List.not_mem_nil⟩⟩⟩⟩⟩⟩⟩, tl_X2_choose_X5⟩⟩) (by decide +kernel)
set_option maxRecDepth 20000 in
theorem gX2_choose_X5_isBarred : GoodIn wsX2_choose (wsV RX2 51 RX5 yX5_isBarred wsX5_isBarred) := goodIn_app (goodIn_sub (List.forall_mem_cons.mpr ⟨mc_X2_choose_r1 _ (List.mem_of_getElem? (i := 12) rfl), List.forall_mem_cons.mpr ⟨mc_X2_choose_r1 _ (List.mem_of_getElem? (i := 13) rfl), List.forall_mem_cons.mpr ⟨mc_X2_choose_r1 _ (List.mem_of_getElem? (i := 14) rfl), List.forall_mem_cons.mpr ⟨mc_X2_choose_r1 _ (List.mem_of_getElem? (i := 3) rfl), fun _ h => absurd h List.not_mem_nil⟩⟩⟩⟩) (by decide +kernel)) ggX2_choose_X5_isBarred
set_option maxRecDepth 20000 in
theorem ggX2_choose_X2_isFree : GoodIn wsX2_choose wsX2_isFree := goodIn_sub (List.forall_mem_cons.mpr ⟨mc_X2_choose_r2 _ (List.mem_of_getElem? (i := 0) rfl), List.forall_mem_append.mpr ⟨List.forall_mem_append.mpr ⟨List.forall_mem_cons.mpr ⟨mc_X2_choose_r2 _ (List.mem_of_getElem? (i := 1) rfl), List.forall_mem_cons.mpr ⟨mc_X2_choose_r2 _ (List.mem_of_getElem? (i := 2) rfl), List.forall_mem_cons.mpr ⟨mc_X2_choose_r2 _ (List.mem_of_getElem? (i := 3) rfl), List.forall_mem_cons.mpr ⟨mc_X2_choose_r1 _ (List.mem_of_getElem? (i := 9) rfl), List.forall_mem_cons.mpr ⟨mc_X2_choose_r2 _ (List.mem_of_getElem? (i := 4) rfl), List.forall_mem_cons.mpr ⟨mc_X2_choose_r2 _ (List.mem_of_getElem? (i := 5) rfl), List.forall_mem_cons.mpr ⟨mc_X2_choose_r2 _ (List.mem_of_getElem? (i := 6) rfl), List.forall_mem_cons.mpr ⟨mc_X2_choose_r2 _ (List.mem_of_getElem? (i := 7) rfl), List.forall_mem_cons.mpr ⟨mc_X2_choose_r2 _ (List.mem_of_getElem? (i := 8) rfl), List.forall_mem_cons.mpr ⟨mc_X2_choose_r2 _ (List.mem_of_getElem? (i := 9) rfl), List.forall_mem_cons.mpr ⟨mc_X2_choose_r2 _ (List.mem_of_getElem? (i := 10) rfl), List.forall_mem_cons.mpr ⟨mc_X2_choose_r2 _ (List.mem_of_getElem? (i := 11) rfl), List.forall_mem_cons.mpr ⟨mc_X2_choose_r2 _ (List.mem_of_getElem? (i := 12) rfl), List.forall_mem_cons.mpr ⟨mc_X2_choose_r2 _ (List.mem_of_getElem? (i := 13) rfl), List.forall_mem_cons.mpr ⟨mc_X2_choose_r2 _ (List.mem_of_getElem? (i := 14) rfl), List.forall_mem_cons.mpr ⟨mc_X2_choose_r2 _ (List.mem_of_getElem? (i := 15) rfl), List.forall_mem_cons.mpr ⟨mc_X2_choose_r2 _ (List.mem_of_getElem? (i := 16) rfl), fun _ h => absurd h List.not_mem_nil⟩⟩⟩⟩⟩⟩⟩⟩⟩⟩⟩⟩⟩⟩⟩⟩⟩, tl_X2_choose_X2⟩, tl_X2_choose_X1⟩⟩) (by decide +kernel)
set_option maxRecDepth 20000 in
theorem gX2_choose_X2_isFree : GoodIn wsX2_choose (wsV RX2 55 RX2 yX2_isFree wsX2_isFree) := goodIn_app (goodIn_sub (List.forall_mem_cons.mpr ⟨mc_X2_choose_r1 _ (List.mem_of_getElem? (i := 21) rfl), List.forall_mem_cons.mpr ⟨mc_X2_choose_r1 _ (List.mem_of_getElem? (i := 22) rfl), List.forall_mem_cons.mpr ⟨mc_X2_choose_r1 _ (List.mem_of_getElem? (i := 23) rfl), List.forall_mem_cons.mpr ⟨mc_X2_choose_r1 _ (List.mem_of_getElem? (i := 9) rfl), fun _ h => absurd h List.not_mem_nil⟩⟩⟩⟩) (by decide +kernel)) ggX2_choose_X2_isFree
set_option maxRecDepth 20000 in
theorem ggX2_choose_X5_isAble : GoodIn wsX2_choose wsX5_isAble := goodIn_sub (List.forall_mem_cons.mpr ⟨mc_X2_choose_r2 _ (List.mem_of_getElem? (i := 20) rfl), List.forall_mem_append.mpr ⟨List.forall_mem_cons.mpr ⟨mc_X2_choose_r2 _ (List.mem_of_getElem? (i := 21) rfl), List.forall_mem_cons.mpr ⟨mc_X2_choose_r2 _ (List.mem_of_getElem? (i := 22) rfl), List.forall_mem_cons.mpr ⟨mc_X2_choose_r2 _ (List.mem_of_getElem? (i := 23) rfl), List.forall_mem_cons.mpr ⟨mc_X2_choose_r3 _ (List.mem_of_getElem? (i := 0) rfl), List.forall_mem_cons.mpr ⟨mc_X2_choose_r3 _ (List.mem_of_getElem? (i := 1) rfl), List.forall_mem_cons.mpr ⟨mc_X2_choose_r1 _ (List.mem_of_getElem? (i := 17) rfl), List.forall_mem_cons.mpr ⟨mc_X2_choose_r1 _ (List.mem_of_getElem? (i := 18) rfl), List.forall_mem_cons.mpr ⟨mc_X2_choose_r1 _ (List.mem_of_getElem? (i := 19) rfl), List.forall_mem_cons.mpr ⟨mc_X2_choose_r1 _ (List.mem_of_getElem? (i := 3) rfl), List.forall_mem_cons.mpr ⟨mc_X2_choose_r1 _ (List.mem_of_getElem? (i := 20) rfl), List.forall_mem_cons.mpr ⟨mc_X2_choose_r1 _ (List.mem_of_getElem? (i := 5) rfl), List.forall_mem_cons.mpr ⟨mc_X2_choose_r3 _ (List.mem_of_getElem? (i := 2) rfl), List.forall_mem_cons.mpr ⟨mc_X2_choose_r3 _ (List.mem_of_getElem? (i := 3) rfl), List.forall_mem_cons.mpr ⟨mc_X2_choose_r3 _ (List.mem_of_getElem? (i := 4) rfl), fun _ h => absurd h List.not_mem_nil⟩⟩⟩⟩⟩⟩⟩⟩⟩⟩⟩⟩⟩⟩, tl_X2_choose_X5⟩⟩) (by decide +kernel)
set_option maxRecDepth 20000 in
theorem gX2_choose_X5_isAble : GoodIn wsX2_choose (wsV RX2 58 RX5 yX5_isAble wsX5_isAble) := goodIn_app (goodIn_sub (List.forall_mem_cons.mpr ⟨mc_X2_choose_r2 _ (List.mem_of_getElem? (i := 17) rfl), List.forall_mem_cons.mpr ⟨mc_X2_choose_r2 _ (List.mem_of_getElem? (i := 18) rfl), List.forall_mem_cons.mpr ⟨mc_X2_choose_r2 _ (List.mem_of_getElem? (i := 19) rfl), List.forall_mem_cons.mpr ⟨mc_X2_choose_r1 _ (List.mem_of_getElem? (i := 3) rfl), fun _ h => absurd h List.not_mem_nil⟩⟩⟩⟩) (by decide +kernel)) ggX2_choose_X5_isAble
theorem dX2_choose_0 : decode cX2_choose 0 = .ok (.iconst (-1), 1) := by decide +kernel
theorem dX2_choose_1 : decode cX2_choose 1 = .ok (.istore 4, 2) := by decide +kernel
theorem dX2_choose_3 : decode cX2_choose 3 = .ok (.iconst 0, 1) := by decide +kernel
theorem dX2_choose_4 : decode cX2_choose 4 = .ok (.istore 5, 2) := by decide +kernel
theorem dX2_choose_6 : decode cX2_choose 6 = .ok (.iload 5, 2) := by decide +kernel
theorem dX2_choose_8 : decode cX2_choose 8 = .ok (.aload_n 1, 1) := by decide +kernel
theorem dX2_choose_9 : decode cX2_choose 9 = .ok (.invokevirtual 47, 3) := by decide +kernel
theorem dX2_choose_12 : decode cX2_choose 12 = .ok (.if_icmp .ge 78, 3) := by decide +kernel
theorem dX2_choose_15 : decode cX2_choose 15 = .ok (.iload 4, 2) := by decide +kernel
theorem dX2_choose_17 : decode cX2_choose 17 = .ok (.iconst (-1), 1) := by decide +kernel
theorem dX2_choose_18 : decode cX2_choose 18 = .ok (.if_icmp .eq 20, 3) := by decide +kernel
theorem dX2_choose_21 : decode cX2_choose 21 = .ok (.aload_n 0, 1) := by decide +kernel
theorem dX2_choose_22 : decode cX2_choose 22 = .ok (.iload 5, 2) := by decide +kernel
theorem dX2_choose_24 : decode cX2_choose 24 = .ok (.iload_n 3, 1) := by decide +kernel
theorem dX2_choose_25 : decode cX2_choose 25 = .ok (.invokevirtual 30, 3) := by decide +kernel
theorem dX2_choose_28 : decode cX2_choose 28 = .ok (.aload_n 0, 1) := by decide +kernel
theorem dX2_choose_29 : decode cX2_choose 29 = .ok (.iload 4, 2) := by decide +kernel
theorem dX2_choose_31 : decode cX2_choose 31 = .ok (.iload_n 3, 1) := by decide +kernel
theorem dX2_choose_32 : decode cX2_choose 32 = .ok (.invokevirtual 30, 3) := by decide +kernel
theorem dX2_choose_35 : decode cX2_choose 35 = .ok (.if_icmp .ge 7, 3) := by decide +kernel
theorem dX2_choose_38 : decode cX2_choose 38 = .ok (.iconst 1, 1) := by decide +kernel
theorem dX2_choose_39 : decode cX2_choose 39 = .ok (.goto 4, 3) := by decide +kernel
theorem dX2_choose_42 : decode cX2_choose 42 = .ok (.iconst 0, 1) := by decide +kernel
theorem dX2_choose_43 : decode cX2_choose 43 = .ok (.istore 6, 2) := by decide +kernel
theorem dX2_choose_45 : decode cX2_choose 45 = .ok (.iload 6, 2) := by decide +kernel
theorem dX2_choose_47 : decode cX2_choose 47 = .ok (.ifCond .eq 37, 3) := by decide +kernel
theorem dX2_choose_50 : decode cX2_choose 50 = .ok (.aload_n 1, 1) := by decide +kernel
theorem dX2_choose_51 : decode cX2_choose 51 = .ok (.iload 5, 2) := by decide +kernel
theorem dX2_choose_53 : decode cX2_choose 53 = .ok (.iload_n 3, 1) := by decide +kernel
theorem dX2_choose_54 : decode cX2_choose 54 = .ok (.invokevirtual 51, 3) := by decide +kernel
theorem dX2_choose_57 : decode cX2_choose 57 = .ok (.ifCond .ne 27, 3) := by decide +kernel
theorem dX2_choose_60 : decode cX2_choose 60 = .ok (.aload_n 0, 1) := by decide +kernel
theorem dX2_choose_61 : decode cX2_choose 61 = .ok (.iload 5, 2) := by decide +kernel
theorem dX2_choose_63 : decode cX2_choose 63 = .ok (.iload_n 2, 1) := by decide +kernel
theorem dX2_choose_64 : decode cX2_choose 64 = .ok (.invokevirtual 55, 3) := by decide +kernel
theorem dX2_choose_67 : decode cX2_choose 67 = .ok (.ifCond .eq 17, 3) := by decide +kernel
theorem dX2_choose_70 : decode cX2_choose 70 = .ok (.aload_n 1, 1) := by decide +kernel
theorem dX2_choose_71 : decode cX2_choose 71 = .ok (.iload 5, 2) := by decide +kernel
theorem dX2_choose_73 : decode cX2_choose 73 = .ok (.iload_n 2, 1) := by decide +kernel
theorem dX2_choose_74 : decode cX2_choose 74 = .ok (.invokevirtual 58, 3) := by decide +kernel
theorem dX2_choose_77 : decode cX2_choose 77 = .ok (.ifCond .eq 7, 3) := by decide +kernel
theorem dX2_choose_80 : decode cX2_choose 80 = .ok (.iload 5, 2) := by decide +kernel
theorem dX2_choose_82 : decode cX2_choose 82 = .ok (.istore 4, 2) := by decide +kernel
theorem dX2_choose_84 : decode cX2_choose 84 = .ok (.iinc 5 1, 3) := by decide +kernel
theorem dX2_choose_87 : decode cX2_choose 87 = .ok (.goto (-81), 3) := by decide +kernel
theorem dX2_choose_90 : decode cX2_choose 90 = .ok (.iload 4, 2) := by decide +kernel
theorem dX2_choose_92 : decode cX2_choose 92 = .ok (.ireturn, 1) := by decide +kernel
set_option maxRecDepth 20000 in
theorem ggX2_isFree_X2_holder : GoodIn wsX2_isFree wsX2_holder := goodIn_sub (List.forall_mem_cons.mpr ⟨List.mem_cons_of_mem _ (List.mem_append_left _ (List.mem_append_left _ (List.mem_of_getElem? (i := 4) rfl))), List.forall_mem_append.mpr ⟨List.forall_mem_append.mpr ⟨List.forall_mem_cons.mpr ⟨List.mem_cons_of_mem _ (List.mem_append_left _ (List.mem_append_left _ (List.mem_of_getElem? (i := 5) rfl))), List.forall_mem_cons.mpr ⟨List.mem_cons_of_mem _ (List.mem_append_left _ (List.mem_append_left _ (List.mem_of_getElem? (i := 6) rfl))), List.forall_mem_cons.mpr ⟨List.mem_cons_of_mem _ (List.mem_append_left _ (List.mem_append_left _ (List.mem_of_getElem? (i := 7) rfl))), List.forall_mem_cons.mpr ⟨List.mem_cons_of_mem _ (List.mem_append_left _ (List.mem_append_left _ (List.mem_of_getElem? (i := 8) rfl))), List.forall_mem_cons.mpr ⟨List.mem_cons_of_mem _ (List.mem_append_left _ (List.mem_append_left _ (List.mem_of_getElem? (i := 9) rfl))), List.forall_mem_cons.mpr ⟨List.mem_cons_of_mem _ (List.mem_append_left _ (List.mem_append_left _ (List.mem_of_getElem? (i := 10) rfl))), List.forall_mem_cons.mpr ⟨List.mem_cons_of_mem _ (List.mem_append_left _ (List.mem_append_left _ (List.mem_of_getElem? (i := 11) rfl))), List.forall_mem_cons.mpr ⟨List.mem_cons_of_mem _ (List.mem_append_left _ (List.mem_append_left _ (List.mem_of_getElem? (i := 12) rfl))), List.forall_mem_cons.mpr ⟨List.mem_cons_of_mem _ (List.mem_append_left _ (List.mem_append_left _ (List.mem_of_getElem? (i := 13) rfl))), List.forall_mem_cons.mpr ⟨List.mem_cons_of_mem _ (List.mem_append_left _ (List.mem_append_left _ (List.mem_of_getElem? (i := 14) rfl))), List.forall_mem_cons.mpr ⟨List.mem_cons_of_mem _ (List.mem_append_left _ (List.mem_append_left _ (List.mem_of_getElem? (i := 15) rfl))), List.forall_mem_cons.mpr ⟨List.mem_cons_of_mem _ (List.mem_append_left _ (List.mem_append_left _ (List.mem_of_getElem? (i := 16) rfl))), fun _ h => absurd h List.not_mem_nil⟩⟩⟩⟩⟩⟩⟩⟩⟩⟩⟩⟩, tl_X2_isFree_X2⟩, tl_X2_isFree_X1⟩⟩) (by decide +kernel)
set_option maxRecDepth 20000 in
theorem gX2_isFree_X2_holder : GoodIn wsX2_isFree (wsV RX2 44 RX2 yX2_holder wsX2_holder) := goodIn_app (goodIn_sub (List.forall_mem_cons.mpr ⟨List.mem_cons_of_mem _ (List.mem_append_left _ (List.mem_append_left _ (List.mem_of_getElem? (i := 0) rfl))), List.forall_mem_cons.mpr ⟨List.mem_cons_of_mem _ (List.mem_append_left _ (List.mem_append_left _ (List.mem_of_getElem? (i := 1) rfl))), List.forall_mem_cons.mpr ⟨List.mem_cons_of_mem _ (List.mem_append_left _ (List.mem_append_left _ (List.mem_of_getElem? (i := 2) rfl))), List.forall_mem_cons.mpr ⟨List.mem_cons_of_mem _ (List.mem_append_left _ (List.mem_append_left _ (List.mem_of_getElem? (i := 3) rfl))), fun _ h => absurd h List.not_mem_nil⟩⟩⟩⟩) (by decide +kernel)) ggX2_isFree_X2_holder
theorem dX2_isFree_0 : decode cX2_isFree 0 = .ok (.iconst 0, 1) := by decide +kernel
theorem dX2_isFree_1 : decode cX2_isFree 1 = .ok (.istore_n 3, 1) := by decide +kernel
theorem dX2_isFree_2 : decode cX2_isFree 2 = .ok (.iload_n 3, 1) := by decide +kernel
theorem dX2_isFree_3 : decode cX2_isFree 3 = .ok (.iconst 4, 1) := by decide +kernel
theorem dX2_isFree_4 : decode cX2_isFree 4 = .ok (.if_icmp .ge 21, 3) := by decide +kernel
theorem dX2_isFree_7 : decode cX2_isFree 7 = .ok (.aload_n 0, 1) := by decide +kernel
theorem dX2_isFree_8 : decode cX2_isFree 8 = .ok (.iload_n 2, 1) := by decide +kernel
theorem dX2_isFree_9 : decode cX2_isFree 9 = .ok (.iload_n 3, 1) := by decide +kernel
theorem dX2_isFree_10 : decode cX2_isFree 10 = .ok (.invokevirtual 44, 3) := by decide +kernel
theorem dX2_isFree_13 : decode cX2_isFree 13 = .ok (.iload_n 1, 1) := by decide +kernel
theorem dX2_isFree_14 : decode cX2_isFree 14 = .ok (.if_icmp .ne 5, 3) := by decide +kernel
theorem dX2_isFree_17 : decode cX2_isFree 17 = .ok (.iconst 0, 1) := by decide +kernel
theorem dX2_isFree_18 : decode cX2_isFree 18 = .ok (.ireturn, 1) := by decide +kernel
theorem dX2_isFree_19 : decode cX2_isFree 19 = .ok (.iinc 3 1, 3) := by decide +kernel
theorem dX2_isFree_22 : decode cX2_isFree 22 = .ok (.goto (-20), 3) := by decide +kernel
theorem dX2_isFree_25 : decode cX2_isFree 25 = .ok (.iconst 1, 1) := by decide +kernel
theorem dX2_isFree_26 : decode cX2_isFree 26 = .ok (.ireturn, 1) := by decide +kernel
theorem dX3_init_0 : decode cX3_init 0 = .ok (.aload_n 0, 1) := by decide +kernel
theorem dX3_init_1 : decode cX3_init 1 = .ok (.invokespecial 3, 3) := by decide +kernel
theorem dX3_init_4 : decode cX3_init 4 = .ok (.aload_n 0, 1) := by decide +kernel
theorem dX3_init_5 : decode cX3_init 5 = .ok (.bipush 40, 2) := by decide +kernel
theorem dX3_init_7 : decode cX3_init 7 = .ok (.newarray .int, 2) := by decide +kernel
theorem dX3_init_9 : decode cX3_init 9 = .ok (.putfield 11, 3) := by decide +kernel
theorem dX3_init_12 : decode cX3_init 12 = .ok (.aload_n 0, 1) := by decide +kernel
theorem dX3_init_13 : decode cX3_init 13 = .ok (.bipush 40, 2) := by decide +kernel
theorem dX3_init_15 : decode cX3_init 15 = .ok (.newarray .int, 2) := by decide +kernel
theorem dX3_init_17 : decode cX3_init 17 = .ok (.putfield 15, 3) := by decide +kernel
theorem dX3_init_20 : decode cX3_init 20 = .ok (.aload_n 0, 1) := by decide +kernel
theorem dX3_init_21 : decode cX3_init 21 = .ok (.bipush 40, 2) := by decide +kernel
theorem dX3_init_23 : decode cX3_init 23 = .ok (.newarray .int, 2) := by decide +kernel
theorem dX3_init_25 : decode cX3_init 25 = .ok (.putfield 18, 3) := by decide +kernel
theorem dX3_init_28 : decode cX3_init 28 = .ok (.aload_n 0, 1) := by decide +kernel
theorem dX3_init_29 : decode cX3_init 29 = .ok (.bipush 40, 2) := by decide +kernel
theorem dX3_init_31 : decode cX3_init 31 = .ok (.newarray .int, 2) := by decide +kernel
theorem dX3_init_33 : decode cX3_init 33 = .ok (.putfield 21, 3) := by decide +kernel
theorem dX3_init_36 : decode cX3_init 36 = .ok (.aload_n 0, 1) := by decide +kernel
theorem dX3_init_37 : decode cX3_init 37 = .ok (.sipush 365, 3) := by decide +kernel
theorem dX3_init_40 : decode cX3_init 40 = .ok (.newarray .int, 2) := by decide +kernel
theorem dX3_init_42 : decode cX3_init 42 = .ok (.putfield 24, 3) := by decide +kernel
theorem dX3_init_45 : decode cX3_init 45 = .ok (.aload_n 0, 1) := by decide +kernel
theorem dX3_init_46 : decode cX3_init 46 = .ok (.sipush 365, 3) := by decide +kernel
theorem dX3_init_49 : decode cX3_init 49 = .ok (.newarray .int, 2) := by decide +kernel
theorem dX3_init_51 : decode cX3_init 51 = .ok (.putfield 27, 3) := by decide +kernel
theorem dX3_init_54 : decode cX3_init 54 = .ok (.return_, 1) := by decide +kernel
theorem dX3_size_0 : decode cX3_size 0 = .ok (.aload_n 0, 1) := by decide +kernel
theorem dX3_size_1 : decode cX3_size 1 = .ok (.getfield 30, 3) := by decide +kernel
theorem dX3_size_4 : decode cX3_size 4 = .ok (.ireturn, 1) := by decide +kernel
set_option maxRecDepth 20000 in
theorem ggX3_enter_X3_settle : GoodIn wsX3_enter wsX3_settle := goodIn_sub (List.forall_mem_cons.mpr ⟨mc_X3_enter_r1 _ (List.mem_of_getElem? (i := 7) rfl), List.forall_mem_append.mpr ⟨List.forall_mem_cons.mpr ⟨mc_X3_enter_r1 _ (List.mem_of_getElem? (i := 8) rfl), List.forall_mem_cons.mpr ⟨mc_X3_enter_r1 _ (List.mem_of_getElem? (i := 9) rfl), List.forall_mem_cons.mpr ⟨mc_X3_enter_r1 _ (List.mem_of_getElem? (i := 0) rfl), List.forall_mem_cons.mpr ⟨mc_X3_enter_r1 _ (List.mem_of_getElem? (i := 10) rfl), List.forall_mem_cons.mpr ⟨mc_X3_enter_r1 _ (List.mem_of_getElem? (i := 1) rfl), List.forall_mem_cons.mpr ⟨mc_X3_enter_r1 _ (List.mem_of_getElem? (i := 11) rfl), List.forall_mem_cons.mpr ⟨mc_X3_enter_r1 _ (List.mem_of_getElem? (i := 12) rfl), List.forall_mem_cons.mpr ⟨mc_X3_enter_r1 _ (List.mem_of_getElem? (i := 13) rfl), List.forall_mem_cons.mpr ⟨mc_X3_enter_r1 _ (List.mem_of_getElem? (i := 6) rfl), List.forall_mem_cons.mpr ⟨mc_X3_enter_r1 _ (List.mem_of_getElem? (i := 14) rfl), List.forall_mem_cons.mpr ⟨mc_X3_enter_r1 _ (List.mem_of_getElem? (i := 15) rfl), List.forall_mem_cons.mpr ⟨mc_X3_enter_r1 _ (List.mem_of_getElem? (i := 16) rfl), List.forall_mem_cons.mpr ⟨mc_X3_enter_r1 _ (List.mem_of_getElem? (i := 17) rfl), List.forall_mem_cons.mpr ⟨mc_X3_enter_r1 _ (List.mem_of_getElem? (i := 18) rfl), List.forall_mem_cons.mpr ⟨mc_X3_enter_r1 _ (List.mem_of_getElem? (i := 19) rfl), List.forall_mem_cons.mpr ⟨mc_X3_enter_r1 _ (List.mem_of_getElem? (i := 2) rfl), List.forall_mem_cons.mpr ⟨mc_X3_enter_r1 _ (List.mem_of_getElem? (i := 20) rfl), List.forall_mem_cons.mpr ⟨mc_X3_enter_r1 _ (List.mem_of_getElem? (i := 21) rfl), List.forall_mem_cons.mpr ⟨mc_X3_enter_r1 _ (List.mem_of_getElem? (i := 22) rfl), List.forall_mem_cons.mpr ⟨mc_X3_enter_r1 _ (List.mem_of_getElem? (i := 23) rfl), List.forall_mem_cons.mpr ⟨mc_X3_enter_r2 _ (List.mem_of_getElem? (i := 0) rfl), List.forall_mem_cons.mpr ⟨mc_X3_enter_r2 _ (List.mem_of_getElem? (i := 1) rfl), List.forall_mem_cons.mpr ⟨mc_X3_enter_r2 _ (List.mem_of_getElem? (i := 2) rfl), List.forall_mem_cons.mpr ⟨mc_X3_enter_r2 _ (List.mem_of_getElem? (i := 3) rfl), fun _ h => absurd h List.not_mem_nil⟩⟩⟩⟩⟩⟩⟩⟩⟩⟩⟩⟩⟩⟩⟩⟩⟩⟩⟩⟩⟩⟩⟩⟩, tl_X3_enter_X3⟩⟩) (by decide +kernel)
set_option maxRecDepth 20000 in
theorem gX3_enter_X3_settle : GoodIn wsX3_enter (wsV RX3 34 RX3 yX3_settle wsX3_settle) := goodIn_app (goodIn_sub (List.forall_mem_cons.mpr ⟨mc_X3_enter_r1 _ (List.mem_of_getElem? (i := 3) rfl), List.forall_mem_cons.mpr ⟨mc_X3_enter_r1 _ (List.mem_of_getElem? (i := 4) rfl), List.forall_mem_cons.mpr ⟨mc_X3_enter_r1 _ (List.mem_of_getElem? (i := 5) rfl), List.forall_mem_cons.mpr ⟨mc_X3_enter_r1 _ (List.mem_of_getElem? (i := 6) rfl), fun _ h => absurd h List.not_mem_nil⟩⟩⟩⟩) (by decide +kernel)) ggX3_enter_X3_settle
theorem dX3_enter_0 : decode cX3_enter 0 = .ok (.aload_n 0, 1) := by decide +kernel
theorem dX3_enter_1 : decode cX3_enter 1 = .ok (.getfield 30, 3) := by decide +kernel
theorem dX3_enter_4 : decode cX3_enter 4 = .ok (.bipush 40, 2) := by decide +kernel
theorem dX3_enter_6 : decode cX3_enter 6 = .ok (.if_icmp .lt 5, 3) := by decide +kernel
theorem dX3_enter_9 : decode cX3_enter 9 = .ok (.iconst (-1), 1) := by decide +kernel
theorem dX3_enter_10 : decode cX3_enter 10 = .ok (.ireturn, 1) := by decide +kernel
theorem dX3_enter_11 : decode cX3_enter 11 = .ok (.aload_n 0, 1) := by decide +kernel
theorem dX3_enter_12 : decode cX3_enter 12 = .ok (.getfield 11, 3) := by decide +kernel
theorem dX3_enter_15 : decode cX3_enter 15 = .ok (.aload_n 0, 1) := by decide +kernel
theorem dX3_enter_16 : decode cX3_enter 16 = .ok (.getfield 30, 3) := by decide +kernel
theorem dX3_enter_19 : decode cX3_enter 19 = .ok (.iload_n 1, 1) := by decide +kernel
theorem dX3_enter_20 : decode cX3_enter 20 = .ok (.iastore, 1) := by decide +kernel
theorem dX3_enter_21 : decode cX3_enter 21 = .ok (.aload_n 0, 1) := by decide +kernel
theorem dX3_enter_22 : decode cX3_enter 22 = .ok (.getfield 15, 3) := by decide +kernel
theorem dX3_enter_25 : decode cX3_enter 25 = .ok (.aload_n 0, 1) := by decide +kernel
theorem dX3_enter_26 : decode cX3_enter 26 = .ok (.getfield 30, 3) := by decide +kernel
theorem dX3_enter_29 : decode cX3_enter 29 = .ok (.iload_n 2, 1) := by decide +kernel
theorem dX3_enter_30 : decode cX3_enter 30 = .ok (.iastore, 1) := by decide +kernel
theorem dX3_enter_31 : decode cX3_enter 31 = .ok (.aload_n 0, 1) := by decide +kernel
theorem dX3_enter_32 : decode cX3_enter 32 = .ok (.dup, 1) := by decide +kernel
theorem dX3_enter_33 : decode cX3_enter 33 = .ok (.getfield 30, 3) := by decide +kernel
theorem dX3_enter_36 : decode cX3_enter 36 = .ok (.iconst 1, 1) := by decide +kernel
theorem dX3_enter_37 : decode cX3_enter 37 = .ok (.iadd, 1) := by decide +kernel
theorem dX3_enter_38 : decode cX3_enter 38 = .ok (.putfield 30, 3) := by decide +kernel
theorem dX3_enter_41 : decode cX3_enter 41 = .ok (.aload_n 0, 1) := by decide +kernel
theorem dX3_enter_42 : decode cX3_enter 42 = .ok (.invokevirtual 34, 3) := by decide +kernel
theorem dX3_enter_45 : decode cX3_enter 45 = .ok (.aload_n 0, 1) := by decide +kernel
theorem dX3_enter_46 : decode cX3_enter 46 = .ok (.getfield 30, 3) := by decide +kernel
theorem dX3_enter_49 : decode cX3_enter 49 = .ok (.iconst 1, 1) := by decide +kernel
theorem dX3_enter_50 : decode cX3_enter 50 = .ok (.isub, 1) := by decide +kernel
theorem dX3_enter_51 : decode cX3_enter 51 = .ok (.ireturn, 1) := by decide +kernel
set_option maxRecDepth 20000 in
theorem ggX3_heldBy_X11_isDayOfYear : GoodIn wsX3_heldBy wsX11_isDayOfYear := goodIn_sub (List.forall_mem_cons.mpr ⟨List.mem_cons_of_mem _ (List.mem_append_left _ (List.mem_of_getElem? (i := 4) rfl)), List.forall_mem_cons.mpr ⟨List.mem_cons_of_mem _ (List.mem_append_left _ (List.mem_of_getElem? (i := 5) rfl)), List.forall_mem_cons.mpr ⟨List.mem_cons_of_mem _ (List.mem_append_left _ (List.mem_of_getElem? (i := 6) rfl)), List.forall_mem_cons.mpr ⟨List.mem_cons_of_mem _ (List.mem_append_left _ (List.mem_of_getElem? (i := 3) rfl)), List.forall_mem_cons.mpr ⟨List.mem_cons_of_mem _ (List.mem_append_left _ (List.mem_of_getElem? (i := 7) rfl)), fun _ h => absurd h List.not_mem_nil⟩⟩⟩⟩⟩) (by decide +kernel)
set_option maxRecDepth 20000 in
theorem gX3_heldBy_X11_isDayOfYear_n37 : GoodIn wsX3_heldBy (wsX11_isDayOfYear) := ggX3_heldBy_X11_isDayOfYear
theorem dX3_heldBy_0 : decode cX3_heldBy 0 = .ok (.aload_n 0, 1) := by decide +kernel
theorem dX3_heldBy_1 : decode cX3_heldBy 1 = .ok (.getfield 30, 3) := by decide +kernel
theorem dX3_heldBy_4 : decode cX3_heldBy 4 = .ok (.ifCond .le 19, 3) := by decide +kernel
theorem dX3_heldBy_7 : decode cX3_heldBy 7 = .ok (.iload_n 1, 1) := by decide +kernel
theorem dX3_heldBy_8 : decode cX3_heldBy 8 = .ok (.invokestatic 37, 3) := by decide +kernel
theorem dX3_heldBy_11 : decode cX3_heldBy 11 = .ok (.ifCond .eq 12, 3) := by decide +kernel
theorem dX3_heldBy_14 : decode cX3_heldBy 14 = .ok (.aload_n 0, 1) := by decide +kernel
theorem dX3_heldBy_15 : decode cX3_heldBy 15 = .ok (.getfield 24, 3) := by decide +kernel
theorem dX3_heldBy_18 : decode cX3_heldBy 18 = .ok (.iload_n 1, 1) := by decide +kernel
theorem dX3_heldBy_19 : decode cX3_heldBy 19 = .ok (.iaload, 1) := by decide +kernel
theorem dX3_heldBy_20 : decode cX3_heldBy 20 = .ok (.goto 4, 3) := by decide +kernel
theorem dX3_heldBy_23 : decode cX3_heldBy 23 = .ok (.iconst (-1), 1) := by decide +kernel
theorem dX3_heldBy_24 : decode cX3_heldBy 24 = .ok (.ireturn, 1) := by decide +kernel
theorem dX3_dayOfFeast_0 : decode cX3_dayOfFeast 0 = .ok (.iload_n 1, 1) := by decide +kernel
theorem dX3_dayOfFeast_1 : decode cX3_dayOfFeast 1 = .ok (.ifCond .lt 20, 3) := by decide +kernel
theorem dX3_dayOfFeast_4 : decode cX3_dayOfFeast 4 = .ok (.iload_n 1, 1) := by decide +kernel
theorem dX3_dayOfFeast_5 : decode cX3_dayOfFeast 5 = .ok (.aload_n 0, 1) := by decide +kernel
theorem dX3_dayOfFeast_6 : decode cX3_dayOfFeast 6 = .ok (.getfield 30, 3) := by decide +kernel
theorem dX3_dayOfFeast_9 : decode cX3_dayOfFeast 9 = .ok (.if_icmp .ge 12, 3) := by decide +kernel
theorem dX3_dayOfFeast_12 : decode cX3_dayOfFeast 12 = .ok (.aload_n 0, 1) := by decide +kernel
theorem dX3_dayOfFeast_13 : decode cX3_dayOfFeast 13 = .ok (.getfield 21, 3) := by decide +kernel
theorem dX3_dayOfFeast_16 : decode cX3_dayOfFeast 16 = .ok (.iload_n 1, 1) := by decide +kernel
theorem dX3_dayOfFeast_17 : decode cX3_dayOfFeast 17 = .ok (.iaload, 1) := by decide +kernel
theorem dX3_dayOfFeast_18 : decode cX3_dayOfFeast 18 = .ok (.goto 4, 3) := by decide +kernel
theorem dX3_dayOfFeast_21 : decode cX3_dayOfFeast 21 = .ok (.iconst (-1), 1) := by decide +kernel
theorem dX3_dayOfFeast_22 : decode cX3_dayOfFeast 22 = .ok (.ireturn, 1) := by decide +kernel
set_option maxRecDepth 20000 in
theorem ggX3_rankHeld_X3_heldBy : GoodIn wsX3_rankHeld wsX3_heldBy := goodIn_sub (List.forall_mem_cons.mpr ⟨List.mem_cons_of_mem _ (List.mem_append_left _ (List.mem_of_getElem? (i := 5) rfl)), List.forall_mem_append.mpr ⟨List.forall_mem_cons.mpr ⟨List.mem_cons_of_mem _ (List.mem_append_left _ (List.mem_of_getElem? (i := 6) rfl)), List.forall_mem_cons.mpr ⟨List.mem_cons_of_mem _ (List.mem_append_left _ (List.mem_of_getElem? (i := 7) rfl)), List.forall_mem_cons.mpr ⟨List.mem_cons_of_mem _ (List.mem_append_left _ (List.mem_of_getElem? (i := 8) rfl)), List.forall_mem_cons.mpr ⟨List.mem_cons_of_mem _ (List.mem_append_left _ (List.mem_of_getElem? (i := 9) rfl)), List.forall_mem_cons.mpr ⟨List.mem_cons_of_mem _ (List.mem_append_left _ (List.mem_of_getElem? (i := 10) rfl)), List.forall_mem_cons.mpr ⟨List.mem_cons_of_mem _ (List.mem_append_left _ (List.mem_of_getElem? (i := 11) rfl)), List.forall_mem_cons.mpr ⟨List.mem_cons_of_mem _ (List.mem_append_left _ (List.mem_of_getElem? (i := 12) rfl)), List.forall_mem_cons.mpr ⟨List.mem_cons_of_mem _ (List.mem_append_left _ (List.mem_of_getElem? (i := 13) rfl)), fun _ h => absurd h List.not_mem_nil⟩⟩⟩⟩⟩⟩⟩⟩, tl_X3_rankHeld_X3⟩⟩) (by decide +kernel)
set_option maxRecDepth 20000 in
theorem gX3_rankHeld_X3_heldBy : GoodIn wsX3_rankHeld (wsV RX3 41 RX3 yX3_heldBy wsX3_heldBy) := goodIn_app (goodIn_sub (List.forall_mem_cons.mpr ⟨List.mem_cons_of_mem _ (List.mem_append_left _ (List.mem_of_getElem? (i := 1) rfl)), List.forall_mem_cons.mpr ⟨List.mem_cons_of_mem _ (List.mem_append_left _ (List.mem_of_getElem? (i := 2) rfl)), List.forall_mem_cons.mpr ⟨List.mem_cons_of_mem _ (List.mem_append_left _ (List.mem_of_getElem? (i := 3) rfl)), List.forall_mem_cons.mpr ⟨List.mem_cons_of_mem _ (List.mem_append_left _ (List.mem_of_getElem? (i := 4) rfl)), fun _ h => absurd h List.not_mem_nil⟩⟩⟩⟩) (by decide +kernel)) ggX3_rankHeld_X3_heldBy
theorem dX3_rankHeld_0 : decode cX3_rankHeld 0 = .ok (.aload_n 0, 1) := by decide +kernel
theorem dX3_rankHeld_1 : decode cX3_rankHeld 1 = .ok (.iload_n 1, 1) := by decide +kernel
theorem dX3_rankHeld_2 : decode cX3_rankHeld 2 = .ok (.invokevirtual 41, 3) := by decide +kernel
theorem dX3_rankHeld_5 : decode cX3_rankHeld 5 = .ok (.istore_n 2, 1) := by decide +kernel
theorem dX3_rankHeld_6 : decode cX3_rankHeld 6 = .ok (.iload_n 2, 1) := by decide +kernel
theorem dX3_rankHeld_7 : decode cX3_rankHeld 7 = .ok (.iconst (-1), 1) := by decide +kernel
theorem dX3_rankHeld_8 : decode cX3_rankHeld 8 = .ok (.if_icmp .ne 7, 3) := by decide +kernel
theorem dX3_rankHeld_11 : decode cX3_rankHeld 11 = .ok (.iconst 0, 1) := by decide +kernel
theorem dX3_rankHeld_12 : decode cX3_rankHeld 12 = .ok (.goto 9, 3) := by decide +kernel
theorem dX3_rankHeld_15 : decode cX3_rankHeld 15 = .ok (.aload_n 0, 1) := by decide +kernel
theorem dX3_rankHeld_16 : decode cX3_rankHeld 16 = .ok (.getfield 15, 3) := by decide +kernel
theorem dX3_rankHeld_19 : decode cX3_rankHeld 19 = .ok (.iload_n 2, 1) := by decide +kernel
theorem dX3_rankHeld_20 : decode cX3_rankHeld 20 = .ok (.iaload, 1) := by decide +kernel
theorem dX3_rankHeld_21 : decode cX3_rankHeld 21 = .ok (.ireturn, 1) := by decide +kernel
set_option maxRecDepth 20000 in
theorem ggX3_settle_X3_stand : GoodIn wsX3_settle wsX3_stand := goodIn_sub (List.forall_mem_cons.mpr ⟨List.mem_cons_of_mem _ (List.mem_append_left _ (List.mem_of_getElem? (i := 9) rfl)), List.forall_mem_append.mpr ⟨List.forall_mem_cons.mpr ⟨List.mem_cons_of_mem _ (List.mem_append_left _ (List.mem_of_getElem? (i := 10) rfl)), List.forall_mem_cons.mpr ⟨List.mem_cons_of_mem _ (List.mem_append_left _ (List.mem_of_getElem? (i := 1) rfl)), fun _ h => absurd h List.not_mem_nil⟩⟩, tl_X3_settle_X3⟩⟩) (by decide +kernel)
set_option maxRecDepth 20000 in
theorem gX3_settle_X3_stand : GoodIn wsX3_settle (wsV RX3 45 RX3 yX3_stand wsX3_stand) := goodIn_app (goodIn_sub (List.forall_mem_cons.mpr ⟨List.mem_cons_of_mem _ (List.mem_append_left _ (List.mem_of_getElem? (i := 5) rfl)), List.forall_mem_cons.mpr ⟨List.mem_cons_of_mem _ (List.mem_append_left _ (List.mem_of_getElem? (i := 6) rfl)), List.forall_mem_cons.mpr ⟨List.mem_cons_of_mem _ (List.mem_append_left _ (List.mem_of_getElem? (i := 7) rfl)), List.forall_mem_cons.mpr ⟨List.mem_cons_of_mem _ (List.mem_append_left _ (List.mem_of_getElem? (i := 8) rfl)), fun _ h => absurd h List.not_mem_nil⟩⟩⟩⟩) (by decide +kernel)) ggX3_settle_X3_stand
set_option maxRecDepth 20000 in
theorem ggX3_settle_X3_hold : GoodIn wsX3_settle wsX3_hold := goodIn_sub (List.forall_mem_cons.mpr ⟨List.mem_cons_of_mem _ (List.mem_append_left _ (List.mem_of_getElem? (i := 14) rfl)), List.forall_mem_append.mpr ⟨List.forall_mem_cons.mpr ⟨List.mem_cons_of_mem _ (List.mem_append_left _ (List.mem_of_getElem? (i := 0) rfl)), List.forall_mem_cons.mpr ⟨List.mem_cons_of_mem _ (List.mem_append_left _ (List.mem_of_getElem? (i := 3) rfl)), List.forall_mem_cons.mpr ⟨List.mem_cons_of_mem _ (List.mem_append_left _ (List.mem_of_getElem? (i := 2) rfl)), List.forall_mem_cons.mpr ⟨List.mem_cons_of_mem _ (List.mem_append_left _ (List.mem_of_getElem? (i := 10) rfl)), List.forall_mem_cons.mpr ⟨List.mem_cons_of_mem _ (List.mem_append_left _ (List.mem_of_getElem? (i := 15) rfl)), List.forall_mem_cons.mpr ⟨List.mem_cons_of_mem _ (List.mem_append_left _ (List.mem_of_getElem? (i := 16) rfl)), List.forall_mem_cons.mpr ⟨List.mem_cons_of_mem _ (List.mem_append_left _ (List.mem_of_getElem? (i := 17) rfl)), List.forall_mem_cons.mpr ⟨List.mem_cons_of_mem _ (List.mem_append_left _ (List.mem_of_getElem? (i := 18) rfl)), List.forall_mem_cons.mpr ⟨List.mem_cons_of_mem _ (List.mem_append_left _ (List.mem_of_getElem? (i := 8) rfl)), List.forall_mem_cons.mpr ⟨List.mem_cons_of_mem _ (List.mem_append_left _ (List.mem_of_getElem? (i := 19) rfl)), List.forall_mem_cons.mpr ⟨List.mem_cons_of_mem _ (List.mem_append_left _ (List.mem_of_getElem? (i := 20) rfl)), List.forall_mem_cons.mpr ⟨List.mem_cons_of_mem _ (List.mem_append_left _ (List.mem_of_getElem? (i := 21) rfl)), List.forall_mem_cons.mpr ⟨List.mem_cons_of_mem _ (List.mem_append_left _ (List.mem_of_getElem? (i := 22) rfl)), List.forall_mem_cons.mpr ⟨List.mem_cons_of_mem _ (List.mem_append_left _ (List.mem_of_getElem? (i := 23) rfl)), List.forall_mem_cons.mpr ⟨List.mem_cons_of_mem _ (List.mem_append_left _ (List.mem_of_getElem? (i := 4) rfl)), List.forall_mem_cons.mpr ⟨List.mem_cons_of_mem _ (List.mem_append_left _ (List.mem_of_getElem? (i := 5) rfl)), List.forall_mem_cons.mpr ⟨List.mem_cons_of_mem _ (List.mem_append_left _ (List.mem_of_getElem? (i := 6) rfl)), List.forall_mem_cons.mpr ⟨List.mem_cons_of_mem _ (List.mem_append_left _ (List.mem_of_getElem? (i := 7) rfl)), List.forall_mem_cons.mpr ⟨List.mem_cons_of_mem _ (List.mem_append_left _ (List.mem_of_getElem? (i := 9) rfl)), List.forall_mem_cons.mpr ⟨List.mem_cons_of_mem _ (List.mem_append_left _ (List.mem_of_getElem? (i := 1) rfl)), fun _ h => absurd h List.not_mem_nil⟩⟩⟩⟩⟩⟩⟩⟩⟩⟩⟩⟩⟩⟩⟩⟩⟩⟩⟩⟩, tl_X3_settle_X3⟩⟩) (by decide +kernel)
set_option maxRecDepth 20000 in
theorem gX3_settle_X3_hold : GoodIn wsX3_settle (wsV RX3 49 RX3 yX3_hold wsX3_hold) := goodIn_app (goodIn_sub (List.forall_mem_cons.mpr ⟨List.mem_cons_of_mem _ (List.mem_append_left _ (List.mem_of_getElem? (i := 11) rfl)), List.forall_mem_cons.mpr ⟨List.mem_cons_of_mem _ (List.mem_append_left _ (List.mem_of_getElem? (i := 12) rfl)), List.forall_mem_cons.mpr ⟨List.mem_cons_of_mem _ (List.mem_append_left _ (List.mem_of_getElem? (i := 13) rfl)), List.forall_mem_cons.mpr ⟨List.mem_cons_of_mem _ (List.mem_append_left _ (List.mem_of_getElem? (i := 8) rfl)), fun _ h => absurd h List.not_mem_nil⟩⟩⟩⟩) (by decide +kernel)) ggX3_settle_X3_hold
theorem dX3_settle_0 : decode cX3_settle 0 = .ok (.iconst 0, 1) := by decide +kernel
theorem dX3_settle_1 : decode cX3_settle 1 = .ok (.istore_n 1, 1) := by decide +kernel
theorem dX3_settle_2 : decode cX3_settle 2 = .ok (.iload_n 1, 1) := by decide +kernel
theorem dX3_settle_3 : decode cX3_settle 3 = .ok (.sipush 365, 3) := by decide +kernel
theorem dX3_settle_6 : decode cX3_settle 6 = .ok (.if_icmp .ge 23, 3) := by decide +kernel
theorem dX3_settle_9 : decode cX3_settle 9 = .ok (.aload_n 0, 1) := by decide +kernel
theorem dX3_settle_10 : decode cX3_settle 10 = .ok (.getfield 24, 3) := by decide +kernel
theorem dX3_settle_13 : decode cX3_settle 13 = .ok (.iload_n 1, 1) := by decide +kernel
theorem dX3_settle_14 : decode cX3_settle 14 = .ok (.iconst (-1), 1) := by decide +kernel
theorem dX3_settle_15 : decode cX3_settle 15 = .ok (.iastore, 1) := by decide +kernel
theorem dX3_settle_16 : decode cX3_settle 16 = .ok (.aload_n 0, 1) := by decide +kernel
theorem dX3_settle_17 : decode cX3_settle 17 = .ok (.getfield 27, 3) := by decide +kernel
theorem dX3_settle_20 : decode cX3_settle 20 = .ok (.iload_n 1, 1) := by decide +kernel
theorem dX3_settle_21 : decode cX3_settle 21 = .ok (.iconst 0, 1) := by decide +kernel
theorem dX3_settle_22 : decode cX3_settle 22 = .ok (.iastore, 1) := by decide +kernel
theorem dX3_settle_23 : decode cX3_settle 23 = .ok (.iinc 1 1, 3) := by decide +kernel
theorem dX3_settle_26 : decode cX3_settle 26 = .ok (.goto (-24), 3) := by decide +kernel
theorem dX3_settle_29 : decode cX3_settle 29 = .ok (.iconst 0, 1) := by decide +kernel
theorem dX3_settle_30 : decode cX3_settle 30 = .ok (.istore_n 1, 1) := by decide +kernel
theorem dX3_settle_31 : decode cX3_settle 31 = .ok (.iload_n 1, 1) := by decide +kernel
theorem dX3_settle_32 : decode cX3_settle 32 = .ok (.aload_n 0, 1) := by decide +kernel
theorem dX3_settle_33 : decode cX3_settle 33 = .ok (.getfield 30, 3) := by decide +kernel
theorem dX3_settle_36 : decode cX3_settle 36 = .ok (.if_icmp .ge 27, 3) := by decide +kernel
theorem dX3_settle_39 : decode cX3_settle 39 = .ok (.aload_n 0, 1) := by decide +kernel
theorem dX3_settle_40 : decode cX3_settle 40 = .ok (.getfield 21, 3) := by decide +kernel
theorem dX3_settle_43 : decode cX3_settle 43 = .ok (.iload_n 1, 1) := by decide +kernel
theorem dX3_settle_44 : decode cX3_settle 44 = .ok (.iconst (-1), 1) := by decide +kernel
theorem dX3_settle_45 : decode cX3_settle 45 = .ok (.iastore, 1) := by decide +kernel
theorem dX3_settle_46 : decode cX3_settle 46 = .ok (.aload_n 0, 1) := by decide +kernel
theorem dX3_settle_47 : decode cX3_settle 47 = .ok (.iload_n 1, 1) := by decide +kernel
theorem dX3_settle_48 : decode cX3_settle 48 = .ok (.aload_n 0, 1) := by decide +kernel
theorem dX3_settle_49 : decode cX3_settle 49 = .ok (.getfield 11, 3) := by decide +kernel
theorem dX3_settle_52 : decode cX3_settle 52 = .ok (.iload_n 1, 1) := by decide +kernel
theorem dX3_settle_53 : decode cX3_settle 53 = .ok (.iaload, 1) := by decide +kernel
theorem dX3_settle_54 : decode cX3_settle 54 = .ok (.invokevirtual 45, 3) := by decide +kernel
theorem dX3_settle_57 : decode cX3_settle 57 = .ok (.iinc 1 1, 3) := by decide +kernel
theorem dX3_settle_60 : decode cX3_settle 60 = .ok (.goto (-29), 3) := by decide +kernel
theorem dX3_settle_63 : decode cX3_settle 63 = .ok (.iconst 0, 1) := by decide +kernel
theorem dX3_settle_64 : decode cX3_settle 64 = .ok (.istore_n 1, 1) := by decide +kernel
theorem dX3_settle_65 : decode cX3_settle 65 = .ok (.iload_n 1, 1) := by decide +kernel
theorem dX3_settle_66 : decode cX3_settle 66 = .ok (.sipush 365, 3) := by decide +kernel
theorem dX3_settle_69 : decode cX3_settle 69 = .ok (.if_icmp .ge 23, 3) := by decide +kernel
theorem dX3_settle_72 : decode cX3_settle 72 = .ok (.aload_n 0, 1) := by decide +kernel
theorem dX3_settle_73 : decode cX3_settle 73 = .ok (.getfield 27, 3) := by decide +kernel
theorem dX3_settle_76 : decode cX3_settle 76 = .ok (.iload_n 1, 1) := by decide +kernel
theorem dX3_settle_77 : decode cX3_settle 77 = .ok (.iaload, 1) := by decide +kernel
theorem dX3_settle_78 : decode cX3_settle 78 = .ok (.ifCond .le 8, 3) := by decide +kernel
theorem dX3_settle_81 : decode cX3_settle 81 = .ok (.aload_n 0, 1) := by decide +kernel
theorem dX3_settle_82 : decode cX3_settle 82 = .ok (.iload_n 1, 1) := by decide +kernel
theorem dX3_settle_83 : decode cX3_settle 83 = .ok (.invokevirtual 49, 3) := by decide +kernel
theorem dX3_settle_86 : decode cX3_settle 86 = .ok (.iinc 1 1, 3) := by decide +kernel
theorem dX3_settle_89 : decode cX3_settle 89 = .ok (.goto (-24), 3) := by decide +kernel
theorem dX3_settle_92 : decode cX3_settle 92 = .ok (.return_, 1) := by decide +kernel
set_option maxRecDepth 20000 in
theorem ggX3_hold_X3_greatestOn : GoodIn wsX3_hold wsX3_greatestOn := goodIn_sub (List.forall_mem_cons.mpr ⟨List.mem_cons_of_mem _ (List.mem_append_left _ (List.mem_of_getElem? (i := 9) rfl)), List.forall_mem_append.mpr ⟨List.forall_mem_cons.mpr ⟨List.mem_cons_of_mem _ (List.mem_append_left _ (List.mem_of_getElem? (i := 2) rfl)), List.forall_mem_cons.mpr ⟨List.mem_cons_of_mem _ (List.mem_append_left _ (List.mem_of_getElem? (i := 3) rfl)), List.forall_mem_cons.mpr ⟨List.mem_cons_of_mem _ (List.mem_append_left _ (List.mem_of_getElem? (i := 10) rfl)), List.forall_mem_cons.mpr ⟨List.mem_cons_of_mem _ (List.mem_append_left _ (List.mem_of_getElem? (i := 11) rfl)), List.forall_mem_cons.mpr ⟨List.mem_cons_of_mem _ (List.mem_append_left _ (List.mem_of_getElem? (i := 12) rfl)), List.forall_mem_cons.mpr ⟨List.mem_cons_of_mem _ (List.mem_append_left _ (List.mem_of_getElem? (i := 8) rfl)), List.forall_mem_cons.mpr ⟨List.mem_cons_of_mem _ (List.mem_append_left _ (List.mem_of_getElem? (i := 13) rfl)), List.forall_mem_cons.mpr ⟨List.mem_cons_of_mem _ (List.mem_append_left _ (List.mem_of_getElem? (i := 4) rfl)), List.forall_mem_cons.mpr ⟨List.mem_cons_of_mem _ (List.mem_append_left _ (List.mem_of_getElem? (i := 14) rfl)), fun _ h => absurd h List.not_mem_nil⟩⟩⟩⟩⟩⟩⟩⟩⟩, tl_X3_hold_X3⟩⟩) (by decide +kernel)
set_option maxRecDepth 20000 in
theorem gX3_hold_X3_greatestOn : GoodIn wsX3_hold (wsV RX3 53 RX3 yX3_greatestOn wsX3_greatestOn) := goodIn_app (goodIn_sub (List.forall_mem_cons.mpr ⟨List.mem_cons_of_mem _ (List.mem_append_left _ (List.mem_of_getElem? (i := 5) rfl)), List.forall_mem_cons.mpr ⟨List.mem_cons_of_mem _ (List.mem_append_left _ (List.mem_of_getElem? (i := 6) rfl)), List.forall_mem_cons.mpr ⟨List.mem_cons_of_mem _ (List.mem_append_left _ (List.mem_of_getElem? (i := 7) rfl)), List.forall_mem_cons.mpr ⟨List.mem_cons_of_mem _ (List.mem_append_left _ (List.mem_of_getElem? (i := 8) rfl)), fun _ h => absurd h List.not_mem_nil⟩⟩⟩⟩) (by decide +kernel)) ggX3_hold_X3_greatestOn
set_option maxRecDepth 20000 in
theorem ggX3_hold_X3_stand : GoodIn wsX3_hold wsX3_stand := goodIn_sub (List.forall_mem_cons.mpr ⟨List.mem_cons_of_mem _ (List.mem_append_left _ (List.mem_of_getElem? (i := 18) rfl)), List.forall_mem_append.mpr ⟨List.forall_mem_cons.mpr ⟨List.mem_cons_of_mem _ (List.mem_append_left _ (List.mem_of_getElem? (i := 3) rfl)), List.forall_mem_cons.mpr ⟨List.mem_cons_of_mem _ (List.mem_append_left _ (List.mem_of_getElem? (i := 19) rfl)), fun _ h => absurd h List.not_mem_nil⟩⟩, tl_X3_hold_X3⟩⟩) (by decide +kernel)
set_option maxRecDepth 20000 in
theorem gX3_hold_X3_stand : GoodIn wsX3_hold (wsV RX3 45 RX3 yX3_stand wsX3_stand) := goodIn_app (goodIn_sub (List.forall_mem_cons.mpr ⟨List.mem_cons_of_mem _ (List.mem_append_left _ (List.mem_of_getElem? (i := 15) rfl)), List.forall_mem_cons.mpr ⟨List.mem_cons_of_mem _ (List.mem_append_left _ (List.mem_of_getElem? (i := 16) rfl)), List.forall_mem_cons.mpr ⟨List.mem_cons_of_mem _ (List.mem_append_left _ (List.mem_of_getElem? (i := 17) rfl)), List.forall_mem_cons.mpr ⟨List.mem_cons_of_mem _ (List.mem_append_left _ (List.mem_of_getElem? (i := 8) rfl)), fun _ h => absurd h List.not_mem_nil⟩⟩⟩⟩) (by decide +kernel)) ggX3_hold_X3_stand
theorem dX3_hold_0 : decode cX3_hold 0 = .ok (.aload_n 0, 1) := by decide +kernel
theorem dX3_hold_1 : decode cX3_hold 1 = .ok (.iload_n 1, 1) := by decide +kernel
theorem dX3_hold_2 : decode cX3_hold 2 = .ok (.invokevirtual 53, 3) := by decide +kernel
theorem dX3_hold_5 : decode cX3_hold 5 = .ok (.istore_n 2, 1) := by decide +kernel
theorem dX3_hold_6 : decode cX3_hold 6 = .ok (.iload_n 2, 1) := by decide +kernel
theorem dX3_hold_7 : decode cX3_hold 7 = .ok (.iconst (-1), 1) := by decide +kernel
theorem dX3_hold_8 : decode cX3_hold 8 = .ok (.if_icmp .ne 4, 3) := by decide +kernel
theorem dX3_hold_11 : decode cX3_hold 11 = .ok (.return_, 1) := by decide +kernel
theorem dX3_hold_12 : decode cX3_hold 12 = .ok (.aload_n 0, 1) := by decide +kernel
theorem dX3_hold_13 : decode cX3_hold 13 = .ok (.getfield 24, 3) := by decide +kernel
theorem dX3_hold_16 : decode cX3_hold 16 = .ok (.iload_n 1, 1) := by decide +kernel
theorem dX3_hold_17 : decode cX3_hold 17 = .ok (.iload_n 2, 1) := by decide +kernel
theorem dX3_hold_18 : decode cX3_hold 18 = .ok (.iastore, 1) := by decide +kernel
theorem dX3_hold_19 : decode cX3_hold 19 = .ok (.aload_n 0, 1) := by decide +kernel
theorem dX3_hold_20 : decode cX3_hold 20 = .ok (.getfield 21, 3) := by decide +kernel
theorem dX3_hold_23 : decode cX3_hold 23 = .ok (.iload_n 2, 1) := by decide +kernel
theorem dX3_hold_24 : decode cX3_hold 24 = .ok (.iload_n 1, 1) := by decide +kernel
theorem dX3_hold_25 : decode cX3_hold 25 = .ok (.iastore, 1) := by decide +kernel
theorem dX3_hold_26 : decode cX3_hold 26 = .ok (.iconst 0, 1) := by decide +kernel
theorem dX3_hold_27 : decode cX3_hold 27 = .ok (.istore_n 3, 1) := by decide +kernel
theorem dX3_hold_28 : decode cX3_hold 28 = .ok (.iload_n 3, 1) := by decide +kernel
theorem dX3_hold_29 : decode cX3_hold 29 = .ok (.aload_n 0, 1) := by decide +kernel
theorem dX3_hold_30 : decode cX3_hold 30 = .ok (.getfield 30, 3) := by decide +kernel
theorem dX3_hold_33 : decode cX3_hold 33 = .ok (.if_icmp .ge 42, 3) := by decide +kernel
theorem dX3_hold_36 : decode cX3_hold 36 = .ok (.iload_n 3, 1) := by decide +kernel
theorem dX3_hold_37 : decode cX3_hold 37 = .ok (.iload_n 2, 1) := by decide +kernel
theorem dX3_hold_38 : decode cX3_hold 38 = .ok (.if_icmp .eq 31, 3) := by decide +kernel
theorem dX3_hold_41 : decode cX3_hold 41 = .ok (.aload_n 0, 1) := by decide +kernel
theorem dX3_hold_42 : decode cX3_hold 42 = .ok (.getfield 18, 3) := by decide +kernel
theorem dX3_hold_45 : decode cX3_hold 45 = .ok (.iload_n 3, 1) := by decide +kernel
theorem dX3_hold_46 : decode cX3_hold 46 = .ok (.iaload, 1) := by decide +kernel
theorem dX3_hold_47 : decode cX3_hold 47 = .ok (.iload_n 1, 1) := by decide +kernel
theorem dX3_hold_48 : decode cX3_hold 48 = .ok (.if_icmp .ne 21, 3) := by decide +kernel
theorem dX3_hold_51 : decode cX3_hold 51 = .ok (.aload_n 0, 1) := by decide +kernel
theorem dX3_hold_52 : decode cX3_hold 52 = .ok (.getfield 15, 3) := by decide +kernel
theorem dX3_hold_55 : decode cX3_hold 55 = .ok (.iload_n 3, 1) := by decide +kernel
theorem dX3_hold_56 : decode cX3_hold 56 = .ok (.iaload, 1) := by decide +kernel
theorem dX3_hold_57 : decode cX3_hold 57 = .ok (.iconst 2, 1) := by decide +kernel
theorem dX3_hold_58 : decode cX3_hold 58 = .ok (.if_icmp .lt 11, 3) := by decide +kernel
theorem dX3_hold_61 : decode cX3_hold 61 = .ok (.aload_n 0, 1) := by decide +kernel
theorem dX3_hold_62 : decode cX3_hold 62 = .ok (.iload_n 3, 1) := by decide +kernel
theorem dX3_hold_63 : decode cX3_hold 63 = .ok (.iload_n 1, 1) := by decide +kernel
theorem dX3_hold_64 : decode cX3_hold 64 = .ok (.iconst 1, 1) := by decide +kernel
theorem dX3_hold_65 : decode cX3_hold 65 = .ok (.iadd, 1) := by decide +kernel
theorem dX3_hold_66 : decode cX3_hold 66 = .ok (.invokevirtual 45, 3) := by decide +kernel
theorem dX3_hold_69 : decode cX3_hold 69 = .ok (.iinc 3 1, 3) := by decide +kernel
theorem dX3_hold_72 : decode cX3_hold 72 = .ok (.goto (-44), 3) := by decide +kernel
theorem dX3_hold_75 : decode cX3_hold 75 = .ok (.return_, 1) := by decide +kernel
theorem dX3_stand_0 : decode cX3_stand 0 = .ok (.aload_n 0, 1) := by decide +kernel
theorem dX3_stand_1 : decode cX3_stand 1 = .ok (.getfield 18, 3) := by decide +kernel
theorem dX3_stand_4 : decode cX3_stand 4 = .ok (.iload_n 1, 1) := by decide +kernel
theorem dX3_stand_5 : decode cX3_stand 5 = .ok (.iload_n 2, 1) := by decide +kernel
theorem dX3_stand_6 : decode cX3_stand 6 = .ok (.iastore, 1) := by decide +kernel
theorem dX3_stand_7 : decode cX3_stand 7 = .ok (.iload_n 2, 1) := by decide +kernel
theorem dX3_stand_8 : decode cX3_stand 8 = .ok (.sipush 365, 3) := by decide +kernel
theorem dX3_stand_11 : decode cX3_stand 11 = .ok (.if_icmp .ge 13, 3) := by decide +kernel
theorem dX3_stand_14 : decode cX3_stand 14 = .ok (.aload_n 0, 1) := by decide +kernel
theorem dX3_stand_15 : decode cX3_stand 15 = .ok (.getfield 27, 3) := by decide +kernel
theorem dX3_stand_18 : decode cX3_stand 18 = .ok (.iload_n 2, 1) := by decide +kernel
theorem dX3_stand_19 : decode cX3_stand 19 = .ok (.dup2, 1) := by decide +kernel
theorem dX3_stand_20 : decode cX3_stand 20 = .ok (.iaload, 1) := by decide +kernel
theorem dX3_stand_21 : decode cX3_stand 21 = .ok (.iconst 1, 1) := by decide +kernel
theorem dX3_stand_22 : decode cX3_stand 22 = .ok (.iadd, 1) := by decide +kernel
theorem dX3_stand_23 : decode cX3_stand 23 = .ok (.iastore, 1) := by decide +kernel
theorem dX3_stand_24 : decode cX3_stand 24 = .ok (.return_, 1) := by decide +kernel
set_option maxRecDepth 20000 in
theorem ggX3_greatestOn_X3_givesWay : GoodIn wsX3_greatestOn wsX3_givesWay := goodIn_sub (List.forall_mem_cons.mpr ⟨List.mem_cons_of_mem _ (List.mem_append_left _ (List.mem_of_getElem? (i := 6) rfl)), List.forall_mem_append.mpr ⟨List.forall_mem_cons.mpr ⟨List.mem_cons_of_mem _ (List.mem_append_left _ (List.mem_of_getElem? (i := 7) rfl)), List.forall_mem_cons.mpr ⟨List.mem_cons_of_mem _ (List.mem_append_left _ (List.mem_of_getElem? (i := 8) rfl)), fun _ h => absurd h List.not_mem_nil⟩⟩, tl_X3_greatestOn_X3⟩⟩) (by decide +kernel)
set_option maxRecDepth 20000 in
theorem gX3_greatestOn_X3_givesWay : GoodIn wsX3_greatestOn (wsV RX3 56 RX3 yX3_givesWay wsX3_givesWay) := goodIn_app (goodIn_sub (List.forall_mem_cons.mpr ⟨List.mem_cons_of_mem _ (List.mem_append_left _ (List.mem_of_getElem? (i := 2) rfl)), List.forall_mem_cons.mpr ⟨List.mem_cons_of_mem _ (List.mem_append_left _ (List.mem_of_getElem? (i := 3) rfl)), List.forall_mem_cons.mpr ⟨List.mem_cons_of_mem _ (List.mem_append_left _ (List.mem_of_getElem? (i := 4) rfl)), List.forall_mem_cons.mpr ⟨List.mem_cons_of_mem _ (List.mem_append_left _ (List.mem_of_getElem? (i := 5) rfl)), fun _ h => absurd h List.not_mem_nil⟩⟩⟩⟩) (by decide +kernel)) ggX3_greatestOn_X3_givesWay
theorem dX3_greatestOn_0 : decode cX3_greatestOn 0 = .ok (.iconst (-1), 1) := by decide +kernel
theorem dX3_greatestOn_1 : decode cX3_greatestOn 1 = .ok (.istore_n 2, 1) := by decide +kernel
theorem dX3_greatestOn_2 : decode cX3_greatestOn 2 = .ok (.iconst 0, 1) := by decide +kernel
theorem dX3_greatestOn_3 : decode cX3_greatestOn 3 = .ok (.istore_n 3, 1) := by decide +kernel
theorem dX3_greatestOn_4 : decode cX3_greatestOn 4 = .ok (.iload_n 3, 1) := by decide +kernel
theorem dX3_greatestOn_5 : decode cX3_greatestOn 5 = .ok (.aload_n 0, 1) := by decide +kernel
theorem dX3_greatestOn_6 : decode cX3_greatestOn 6 = .ok (.getfield 30, 3) := by decide +kernel
theorem dX3_greatestOn_9 : decode cX3_greatestOn 9 = .ok (.if_icmp .ge 36, 3) := by decide +kernel
theorem dX3_greatestOn_12 : decode cX3_greatestOn 12 = .ok (.aload_n 0, 1) := by decide +kernel
theorem dX3_greatestOn_13 : decode cX3_greatestOn 13 = .ok (.getfield 18, 3) := by decide +kernel
theorem dX3_greatestOn_16 : decode cX3_greatestOn 16 = .ok (.iload_n 3, 1) := by decide +kernel
theorem dX3_greatestOn_17 : decode cX3_greatestOn 17 = .ok (.iaload, 1) := by decide +kernel
theorem dX3_greatestOn_18 : decode cX3_greatestOn 18 = .ok (.iload_n 1, 1) := by decide +kernel
theorem dX3_greatestOn_19 : decode cX3_greatestOn 19 = .ok (.if_icmp .ne 20, 3) := by decide +kernel
theorem dX3_greatestOn_22 : decode cX3_greatestOn 22 = .ok (.iload_n 2, 1) := by decide +kernel
theorem dX3_greatestOn_23 : decode cX3_greatestOn 23 = .ok (.iconst (-1), 1) := by decide +kernel
theorem dX3_greatestOn_24 : decode cX3_greatestOn 24 = .ok (.if_icmp .eq 13, 3) := by decide +kernel
theorem dX3_greatestOn_27 : decode cX3_greatestOn 27 = .ok (.aload_n 0, 1) := by decide +kernel
theorem dX3_greatestOn_28 : decode cX3_greatestOn 28 = .ok (.iload_n 2, 1) := by decide +kernel
theorem dX3_greatestOn_29 : decode cX3_greatestOn 29 = .ok (.iload_n 3, 1) := by decide +kernel
theorem dX3_greatestOn_30 : decode cX3_greatestOn 30 = .ok (.iload_n 1, 1) := by decide +kernel
theorem dX3_greatestOn_31 : decode cX3_greatestOn 31 = .ok (.invokevirtual 56, 3) := by decide +kernel
theorem dX3_greatestOn_34 : decode cX3_greatestOn 34 = .ok (.ifCond .eq 5, 3) := by decide +kernel
theorem dX3_greatestOn_37 : decode cX3_greatestOn 37 = .ok (.iload_n 3, 1) := by decide +kernel
theorem dX3_greatestOn_38 : decode cX3_greatestOn 38 = .ok (.istore_n 2, 1) := by decide +kernel
theorem dX3_greatestOn_39 : decode cX3_greatestOn 39 = .ok (.iinc 3 1, 3) := by decide +kernel
theorem dX3_greatestOn_42 : decode cX3_greatestOn 42 = .ok (.goto (-38), 3) := by decide +kernel
theorem dX3_greatestOn_45 : decode cX3_greatestOn 45 = .ok (.iload_n 2, 1) := by decide +kernel
theorem dX3_greatestOn_46 : decode cX3_greatestOn 46 = .ok (.ireturn, 1) := by decide +kernel
theorem dX3_givesWay_0 : decode cX3_givesWay 0 = .ok (.aload_n 0, 1) := by decide +kernel
theorem dX3_givesWay_1 : decode cX3_givesWay 1 = .ok (.getfield 15, 3) := by decide +kernel
theorem dX3_givesWay_4 : decode cX3_givesWay 4 = .ok (.iload_n 1, 1) := by decide +kernel
theorem dX3_givesWay_5 : decode cX3_givesWay 5 = .ok (.iaload, 1) := by decide +kernel
theorem dX3_givesWay_6 : decode cX3_givesWay 6 = .ok (.aload_n 0, 1) := by decide +kernel
theorem dX3_givesWay_7 : decode cX3_givesWay 7 = .ok (.getfield 15, 3) := by decide +kernel
theorem dX3_givesWay_10 : decode cX3_givesWay 10 = .ok (.iload_n 2, 1) := by decide +kernel
theorem dX3_givesWay_11 : decode cX3_givesWay 11 = .ok (.iaload, 1) := by decide +kernel
theorem dX3_givesWay_12 : decode cX3_givesWay 12 = .ok (.if_icmp .eq 24, 3) := by decide +kernel
theorem dX3_givesWay_15 : decode cX3_givesWay 15 = .ok (.aload_n 0, 1) := by decide +kernel
theorem dX3_givesWay_16 : decode cX3_givesWay 16 = .ok (.getfield 15, 3) := by decide +kernel
theorem dX3_givesWay_19 : decode cX3_givesWay 19 = .ok (.iload_n 1, 1) := by decide +kernel
theorem dX3_givesWay_20 : decode cX3_givesWay 20 = .ok (.iaload, 1) := by decide +kernel
theorem dX3_givesWay_21 : decode cX3_givesWay 21 = .ok (.aload_n 0, 1) := by decide +kernel
theorem dX3_givesWay_22 : decode cX3_givesWay 22 = .ok (.getfield 15, 3) := by decide +kernel
theorem dX3_givesWay_25 : decode cX3_givesWay 25 = .ok (.iload_n 2, 1) := by decide +kernel
theorem dX3_givesWay_26 : decode cX3_givesWay 26 = .ok (.iaload, 1) := by decide +kernel
theorem dX3_givesWay_27 : decode cX3_givesWay 27 = .ok (.if_icmp .ge 7, 3) := by decide +kernel
theorem dX3_givesWay_30 : decode cX3_givesWay 30 = .ok (.iconst 1, 1) := by decide +kernel
theorem dX3_givesWay_31 : decode cX3_givesWay 31 = .ok (.goto 4, 3) := by decide +kernel
theorem dX3_givesWay_34 : decode cX3_givesWay 34 = .ok (.iconst 0, 1) := by decide +kernel
theorem dX3_givesWay_35 : decode cX3_givesWay 35 = .ok (.ireturn, 1) := by decide +kernel
theorem dX3_givesWay_36 : decode cX3_givesWay 36 = .ok (.aload_n 0, 1) := by decide +kernel
theorem dX3_givesWay_37 : decode cX3_givesWay 37 = .ok (.getfield 11, 3) := by decide +kernel
theorem dX3_givesWay_40 : decode cX3_givesWay 40 = .ok (.iload_n 1, 1) := by decide +kernel
theorem dX3_givesWay_41 : decode cX3_givesWay 41 = .ok (.iaload, 1) := by decide +kernel
theorem dX3_givesWay_42 : decode cX3_givesWay 42 = .ok (.iload_n 3, 1) := by decide +kernel
theorem dX3_givesWay_43 : decode cX3_givesWay 43 = .ok (.if_icmp .eq 17, 3) := by decide +kernel
theorem dX3_givesWay_46 : decode cX3_givesWay 46 = .ok (.aload_n 0, 1) := by decide +kernel
theorem dX3_givesWay_47 : decode cX3_givesWay 47 = .ok (.getfield 11, 3) := by decide +kernel
theorem dX3_givesWay_50 : decode cX3_givesWay 50 = .ok (.iload_n 2, 1) := by decide +kernel
theorem dX3_givesWay_51 : decode cX3_givesWay 51 = .ok (.iaload, 1) := by decide +kernel
theorem dX3_givesWay_52 : decode cX3_givesWay 52 = .ok (.iload_n 3, 1) := by decide +kernel
theorem dX3_givesWay_53 : decode cX3_givesWay 53 = .ok (.if_icmp .ne 7, 3) := by decide +kernel
theorem dX3_givesWay_56 : decode cX3_givesWay 56 = .ok (.iconst 1, 1) := by decide +kernel
theorem dX3_givesWay_57 : decode cX3_givesWay 57 = .ok (.goto 4, 3) := by decide +kernel
theorem dX3_givesWay_60 : decode cX3_givesWay 60 = .ok (.iconst 0, 1) := by decide +kernel
theorem dX3_givesWay_61 : decode cX3_givesWay 61 = .ok (.ireturn, 1) := by decide +kernel
theorem dX4_init_0 : decode cX4_init 0 = .ok (.aload_n 0, 1) := by decide +kernel
theorem dX4_init_1 : decode cX4_init 1 = .ok (.invokespecial 3, 3) := by decide +kernel
theorem dX4_init_4 : decode cX4_init 4 = .ok (.aload_n 0, 1) := by decide +kernel
theorem dX4_init_5 : decode cX4_init 5 = .ok (.bipush 40, 2) := by decide +kernel
theorem dX4_init_7 : decode cX4_init 7 = .ok (.newarray .boolean, 2) := by decide +kernel
theorem dX4_init_9 : decode cX4_init 9 = .ok (.putfield 11, 3) := by decide +kernel
theorem dX4_init_12 : decode cX4_init 12 = .ok (.aload_n 0, 1) := by decide +kernel
theorem dX4_init_13 : decode cX4_init 13 = .ok (.bipush 40, 2) := by decide +kernel
theorem dX4_init_15 : decode cX4_init 15 = .ok (.newarray .boolean, 2) := by decide +kernel
theorem dX4_init_17 : decode cX4_init 17 = .ok (.putfield 15, 3) := by decide +kernel
theorem dX4_init_20 : decode cX4_init 20 = .ok (.aload_n 0, 1) := by decide +kernel
theorem dX4_init_21 : decode cX4_init 21 = .ok (.bipush 40, 2) := by decide +kernel
theorem dX4_init_23 : decode cX4_init 23 = .ok (.newarray .int, 2) := by decide +kernel
theorem dX4_init_25 : decode cX4_init 25 = .ok (.putfield 18, 3) := by decide +kernel
theorem dX4_init_28 : decode cX4_init 28 = .ok (.aload_n 0, 1) := by decide +kernel
theorem dX4_init_29 : decode cX4_init 29 = .ok (.bipush 40, 2) := by decide +kernel
theorem dX4_init_31 : decode cX4_init 31 = .ok (.newarray .int, 2) := by decide +kernel
theorem dX4_init_33 : decode cX4_init 33 = .ok (.putfield 22, 3) := by decide +kernel
theorem dX4_init_36 : decode cX4_init 36 = .ok (.aload_n 0, 1) := by decide +kernel
theorem dX4_init_37 : decode cX4_init 37 = .ok (.bipush 40, 2) := by decide +kernel
theorem dX4_init_39 : decode cX4_init 39 = .ok (.newarray .int, 2) := by decide +kernel
theorem dX4_init_41 : decode cX4_init 41 = .ok (.putfield 25, 3) := by decide +kernel
theorem dX4_init_44 : decode cX4_init 44 = .ok (.aload_n 0, 1) := by decide +kernel
theorem dX4_init_45 : decode cX4_init 45 = .ok (.bipush 40, 2) := by decide +kernel
theorem dX4_init_47 : decode cX4_init 47 = .ok (.newarray .int, 2) := by decide +kernel
theorem dX4_init_49 : decode cX4_init 49 = .ok (.putfield 28, 3) := by decide +kernel
theorem dX4_init_52 : decode cX4_init 52 = .ok (.aload_n 0, 1) := by decide +kernel
theorem dX4_init_53 : decode cX4_init 53 = .ok (.bipush 40, 2) := by decide +kernel
theorem dX4_init_55 : decode cX4_init 55 = .ok (.newarray .int, 2) := by decide +kernel
theorem dX4_init_57 : decode cX4_init 57 = .ok (.putfield 31, 3) := by decide +kernel

