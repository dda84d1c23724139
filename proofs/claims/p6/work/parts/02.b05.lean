theorem dX12_four_15 : decode cX12_four 15 = .ok (.iload_n 1, 1) := by decide +kernel
theorem dX12_four_16 : decode cX12_four 16 = .ok (.iload_n 2, 1) := by decide +kernel
theorem dX12_four_17 : decode cX12_four 17 = .ok (.ishr, 1) := by decide +kernel
theorem dX12_four_18 : decode cX12_four 18 = .ok (.i2b, 1) := by decide +kernel
theorem dX12_four_19 : decode cX12_four 19 = .ok (.bastore, 1) := by decide +kernel
theorem dX12_four_20 : decode cX12_four 20 = .ok (.aload_n 0, 1) := by decide +kernel
theorem dX12_four_21 : decode cX12_four 21 = .ok (.dup, 1) := by decide +kernel
theorem dX12_four_22 : decode cX12_four 22 = .ok (.getfield 185, 3) := by decide +kernel
theorem dX12_four_25 : decode cX12_four 25 = .ok (.iconst 1, 1) := by decide +kernel
theorem dX12_four_26 : decode cX12_four 26 = .ok (.iadd, 1) := by decide +kernel
theorem dX12_four_27 : decode cX12_four 27 = .ok (.putfield 185, 3) := by decide +kernel
theorem dX12_four_30 : decode cX12_four 30 = .ok (.iinc 2 (-8), 3) := by decide +kernel
theorem dX12_four_33 : decode cX12_four 33 = .ok (.goto (-30), 3) := by decide +kernel
theorem dX12_four_36 : decode cX12_four 36 = .ok (.return_, 1) := by decide +kernel
theorem dX12_blanks_0 : decode cX12_blanks 0 = .ok (.aload_n 0, 1) := by decide +kernel
theorem dX12_blanks_1 : decode cX12_blanks 1 = .ok (.getfield 192, 3) := by decide +kernel
theorem dX12_blanks_4 : decode cX12_blanks 4 = .ok (.aload_n 0, 1) := by decide +kernel
theorem dX12_blanks_5 : decode cX12_blanks 5 = .ok (.getfield 195, 3) := by decide +kernel
theorem dX12_blanks_8 : decode cX12_blanks 8 = .ok (.if_icmp .ge 44, 3) := by decide +kernel
theorem dX12_blanks_11 : decode cX12_blanks 11 = .ok (.aload_n 0, 1) := by decide +kernel
theorem dX12_blanks_12 : decode cX12_blanks 12 = .ok (.getfield 108, 3) := by decide +kernel
theorem dX12_blanks_15 : decode cX12_blanks 15 = .ok (.aload_n 0, 1) := by decide +kernel
theorem dX12_blanks_16 : decode cX12_blanks 16 = .ok (.getfield 192, 3) := by decide +kernel
theorem dX12_blanks_19 : decode cX12_blanks 19 = .ok (.baload, 1) := by decide +kernel
theorem dX12_blanks_20 : decode cX12_blanks 20 = .ok (.bipush 32, 2) := by decide +kernel
theorem dX12_blanks_22 : decode cX12_blanks 22 = .ok (.if_icmp .eq 17, 3) := by decide +kernel
theorem dX12_blanks_25 : decode cX12_blanks 25 = .ok (.aload_n 0, 1) := by decide +kernel
theorem dX12_blanks_26 : decode cX12_blanks 26 = .ok (.getfield 108, 3) := by decide +kernel
theorem dX12_blanks_29 : decode cX12_blanks 29 = .ok (.aload_n 0, 1) := by decide +kernel
theorem dX12_blanks_30 : decode cX12_blanks 30 = .ok (.getfield 192, 3) := by decide +kernel
theorem dX12_blanks_33 : decode cX12_blanks 33 = .ok (.baload, 1) := by decide +kernel
theorem dX12_blanks_34 : decode cX12_blanks 34 = .ok (.bipush 10, 2) := by decide +kernel
theorem dX12_blanks_36 : decode cX12_blanks 36 = .ok (.if_icmp .ne 16, 3) := by decide +kernel
theorem dX12_blanks_39 : decode cX12_blanks 39 = .ok (.aload_n 0, 1) := by decide +kernel
theorem dX12_blanks_40 : decode cX12_blanks 40 = .ok (.dup, 1) := by decide +kernel
theorem dX12_blanks_41 : decode cX12_blanks 41 = .ok (.getfield 192, 3) := by decide +kernel
theorem dX12_blanks_44 : decode cX12_blanks 44 = .ok (.iconst 1, 1) := by decide +kernel
theorem dX12_blanks_45 : decode cX12_blanks 45 = .ok (.iadd, 1) := by decide +kernel
theorem dX12_blanks_46 : decode cX12_blanks 46 = .ok (.putfield 192, 3) := by decide +kernel
theorem dX12_blanks_49 : decode cX12_blanks 49 = .ok (.goto (-49), 3) := by decide +kernel
theorem dX12_blanks_52 : decode cX12_blanks 52 = .ok (.return_, 1) := by decide +kernel
set_option maxRecDepth 20000 in
theorem ggX12_word_X12_blanks : GoodIn wsX12_word wsX12_blanks := goodIn_sub (List.forall_mem_cons.mpr ⟨List.mem_cons_of_mem _ (List.mem_append_left _ (List.mem_of_getElem? (i := 8) rfl)), List.forall_mem_append.mpr ⟨List.forall_mem_cons.mpr ⟨List.mem_cons_of_mem _ (List.mem_append_left _ (List.mem_of_getElem? (i := 0) rfl)), List.forall_mem_cons.mpr ⟨List.mem_cons_of_mem _ (List.mem_append_left _ (List.mem_of_getElem? (i := 2) rfl)), List.forall_mem_cons.mpr ⟨List.mem_cons_of_mem _ (List.mem_append_left _ (List.mem_of_getElem? (i := 3) rfl)), fun _ h => absurd h List.not_mem_nil⟩⟩⟩, tl_X12_word_X12⟩⟩) (by decide +kernel)
set_option maxRecDepth 20000 in
theorem gX12_word_X12_blanks : GoodIn wsX12_word (wsV RX12 198 RX12 yX12_blanks wsX12_blanks) := goodIn_app (goodIn_sub (List.forall_mem_cons.mpr ⟨List.mem_cons_of_mem _ (List.mem_append_left _ (List.mem_of_getElem? (i := 4) rfl)), List.forall_mem_cons.mpr ⟨List.mem_cons_of_mem _ (List.mem_append_left _ (List.mem_of_getElem? (i := 5) rfl)), List.forall_mem_cons.mpr ⟨List.mem_cons_of_mem _ (List.mem_append_left _ (List.mem_of_getElem? (i := 6) rfl)), List.forall_mem_cons.mpr ⟨List.mem_cons_of_mem _ (List.mem_append_left _ (List.mem_of_getElem? (i := 7) rfl)), fun _ h => absurd h List.not_mem_nil⟩⟩⟩⟩) (by decide +kernel)) ggX12_word_X12_blanks
theorem dX12_word_0 : decode cX12_word 0 = .ok (.aload_n 0, 1) := by decide +kernel
theorem dX12_word_1 : decode cX12_word 1 = .ok (.invokevirtual 198, 3) := by decide +kernel
theorem dX12_word_4 : decode cX12_word 4 = .ok (.aload_n 0, 1) := by decide +kernel
theorem dX12_word_5 : decode cX12_word 5 = .ok (.aload_n 0, 1) := by decide +kernel
theorem dX12_word_6 : decode cX12_word 6 = .ok (.getfield 192, 3) := by decide +kernel
theorem dX12_word_9 : decode cX12_word 9 = .ok (.putfield 201, 3) := by decide +kernel
theorem dX12_word_12 : decode cX12_word 12 = .ok (.lconst 0, 1) := by decide +kernel
theorem dX12_word_13 : decode cX12_word 13 = .ok (.lstore_n 1, 1) := by decide +kernel
theorem dX12_word_14 : decode cX12_word 14 = .ok (.aload_n 0, 1) := by decide +kernel
theorem dX12_word_15 : decode cX12_word 15 = .ok (.getfield 201, 3) := by decide +kernel
theorem dX12_word_18 : decode cX12_word 18 = .ok (.aload_n 0, 1) := by decide +kernel
theorem dX12_word_19 : decode cX12_word 19 = .ok (.getfield 195, 3) := by decide +kernel
theorem dX12_word_22 : decode cX12_word 22 = .ok (.if_icmp .ge 78, 3) := by decide +kernel
theorem dX12_word_25 : decode cX12_word 25 = .ok (.aload_n 0, 1) := by decide +kernel
theorem dX12_word_26 : decode cX12_word 26 = .ok (.getfield 108, 3) := by decide +kernel
theorem dX12_word_29 : decode cX12_word 29 = .ok (.aload_n 0, 1) := by decide +kernel
theorem dX12_word_30 : decode cX12_word 30 = .ok (.getfield 201, 3) := by decide +kernel
theorem dX12_word_33 : decode cX12_word 33 = .ok (.baload, 1) := by decide +kernel
theorem dX12_word_34 : decode cX12_word 34 = .ok (.bipush 97, 2) := by decide +kernel
theorem dX12_word_36 : decode cX12_word 36 = .ok (.if_icmp .lt 64, 3) := by decide +kernel
theorem dX12_word_39 : decode cX12_word 39 = .ok (.aload_n 0, 1) := by decide +kernel
theorem dX12_word_40 : decode cX12_word 40 = .ok (.getfield 108, 3) := by decide +kernel
theorem dX12_word_43 : decode cX12_word 43 = .ok (.aload_n 0, 1) := by decide +kernel
theorem dX12_word_44 : decode cX12_word 44 = .ok (.getfield 201, 3) := by decide +kernel
theorem dX12_word_47 : decode cX12_word 47 = .ok (.baload, 1) := by decide +kernel
theorem dX12_word_48 : decode cX12_word 48 = .ok (.bipush 122, 2) := by decide +kernel
theorem dX12_word_50 : decode cX12_word 50 = .ok (.if_icmp .gt 50, 3) := by decide +kernel
theorem dX12_word_53 : decode cX12_word 53 = .ok (.aload_n 0, 1) := by decide +kernel
theorem dX12_word_54 : decode cX12_word 54 = .ok (.getfield 201, 3) := by decide +kernel
theorem dX12_word_57 : decode cX12_word 57 = .ok (.aload_n 0, 1) := by decide +kernel
theorem dX12_word_58 : decode cX12_word 58 = .ok (.getfield 192, 3) := by decide +kernel
theorem dX12_word_61 : decode cX12_word 61 = .ok (.isub, 1) := by decide +kernel
theorem dX12_word_62 : decode cX12_word 62 = .ok (.bipush 7, 2) := by decide +kernel
theorem dX12_word_64 : decode cX12_word 64 = .ok (.if_icmp .ge 21, 3) := by decide +kernel
theorem dX12_word_67 : decode cX12_word 67 = .ok (.lload_n 1, 1) := by decide +kernel
theorem dX12_word_68 : decode cX12_word 68 = .ok (.bipush 8, 2) := by decide +kernel
theorem dX12_word_70 : decode cX12_word 70 = .ok (.lshl, 1) := by decide +kernel
theorem dX12_word_71 : decode cX12_word 71 = .ok (.aload_n 0, 1) := by decide +kernel
theorem dX12_word_72 : decode cX12_word 72 = .ok (.getfield 108, 3) := by decide +kernel
theorem dX12_word_75 : decode cX12_word 75 = .ok (.aload_n 0, 1) := by decide +kernel
theorem dX12_word_76 : decode cX12_word 76 = .ok (.getfield 201, 3) := by decide +kernel
theorem dX12_word_79 : decode cX12_word 79 = .ok (.baload, 1) := by decide +kernel
theorem dX12_word_80 : decode cX12_word 80 = .ok (.i2l, 1) := by decide +kernel
theorem dX12_word_81 : decode cX12_word 81 = .ok (.lor, 1) := by decide +kernel
theorem dX12_word_82 : decode cX12_word 82 = .ok (.goto 4, 3) := by decide +kernel
theorem dX12_word_85 : decode cX12_word 85 = .ok (.lconst 0, 1) := by decide +kernel
theorem dX12_word_86 : decode cX12_word 86 = .ok (.lstore_n 1, 1) := by decide +kernel
theorem dX12_word_87 : decode cX12_word 87 = .ok (.aload_n 0, 1) := by decide +kernel
theorem dX12_word_88 : decode cX12_word 88 = .ok (.dup, 1) := by decide +kernel
theorem dX12_word_89 : decode cX12_word 89 = .ok (.getfield 201, 3) := by decide +kernel
theorem dX12_word_92 : decode cX12_word 92 = .ok (.iconst 1, 1) := by decide +kernel
theorem dX12_word_93 : decode cX12_word 93 = .ok (.iadd, 1) := by decide +kernel
theorem dX12_word_94 : decode cX12_word 94 = .ok (.putfield 201, 3) := by decide +kernel
theorem dX12_word_97 : decode cX12_word 97 = .ok (.goto (-83), 3) := by decide +kernel
theorem dX12_word_100 : decode cX12_word 100 = .ok (.aload_n 0, 1) := by decide +kernel
theorem dX12_word_101 : decode cX12_word 101 = .ok (.getfield 201, 3) := by decide +kernel
theorem dX12_word_104 : decode cX12_word 104 = .ok (.aload_n 0, 1) := by decide +kernel
theorem dX12_word_105 : decode cX12_word 105 = .ok (.getfield 192, 3) := by decide +kernel
theorem dX12_word_108 : decode cX12_word 108 = .ok (.isub, 1) := by decide +kernel
theorem dX12_word_109 : decode cX12_word 109 = .ok (.bipush 7, 2) := by decide +kernel
theorem dX12_word_111 : decode cX12_word 111 = .ok (.if_icmp .le 7, 3) := by decide +kernel
theorem dX12_word_114 : decode cX12_word 114 = .ok (.lconst 0, 1) := by decide +kernel
theorem dX12_word_115 : decode cX12_word 115 = .ok (.goto 4, 3) := by decide +kernel
theorem dX12_word_118 : decode cX12_word 118 = .ok (.lload_n 1, 1) := by decide +kernel
theorem dX12_word_119 : decode cX12_word 119 = .ok (.lreturn, 1) := by decide +kernel
set_option maxRecDepth 20000 in
theorem ggX12_takes_X12_word : GoodIn wsX12_takes wsX12_word := goodIn_sub (List.forall_mem_cons.mpr ⟨List.mem_cons_of_mem _ (List.mem_append_left _ (List.mem_of_getElem? (i := 6) rfl)), List.forall_mem_append.mpr ⟨List.forall_mem_cons.mpr ⟨List.mem_cons_of_mem _ (List.mem_append_left _ (List.mem_of_getElem? (i := 1) rfl)), List.forall_mem_cons.mpr ⟨List.mem_cons_of_mem _ (List.mem_append_left _ (List.mem_of_getElem? (i := 0) rfl)), List.forall_mem_cons.mpr ⟨List.mem_cons_of_mem _ (List.mem_append_left _ (List.mem_of_getElem? (i := 7) rfl)), List.forall_mem_cons.mpr ⟨List.mem_cons_of_mem _ (List.mem_append_left _ (List.mem_of_getElem? (i := 8) rfl)), List.forall_mem_cons.mpr ⟨List.mem_cons_of_mem _ (List.mem_append_left _ (List.mem_of_getElem? (i := 9) rfl)), List.forall_mem_cons.mpr ⟨List.mem_cons_of_mem _ (List.mem_append_left _ (List.mem_of_getElem? (i := 10) rfl)), List.forall_mem_cons.mpr ⟨List.mem_cons_of_mem _ (List.mem_append_left _ (List.mem_of_getElem? (i := 11) rfl)), List.forall_mem_cons.mpr ⟨List.mem_cons_of_mem _ (List.mem_append_left _ (List.mem_of_getElem? (i := 5) rfl)), List.forall_mem_cons.mpr ⟨List.mem_cons_of_mem _ (List.mem_append_left _ (List.mem_of_getElem? (i := 12) rfl)), fun _ h => absurd h List.not_mem_nil⟩⟩⟩⟩⟩⟩⟩⟩⟩, tl_X12_takes_X12⟩⟩) (by decide +kernel)
set_option maxRecDepth 20000 in
theorem gX12_takes_X12_word : GoodIn wsX12_takes (wsV RX12 204 RX12 yX12_word wsX12_word) := goodIn_app (goodIn_sub (List.forall_mem_cons.mpr ⟨List.mem_cons_of_mem _ (List.mem_append_left _ (List.mem_of_getElem? (i := 2) rfl)), List.forall_mem_cons.mpr ⟨List.mem_cons_of_mem _ (List.mem_append_left _ (List.mem_of_getElem? (i := 3) rfl)), List.forall_mem_cons.mpr ⟨List.mem_cons_of_mem _ (List.mem_append_left _ (List.mem_of_getElem? (i := 4) rfl)), List.forall_mem_cons.mpr ⟨List.mem_cons_of_mem _ (List.mem_append_left _ (List.mem_of_getElem? (i := 5) rfl)), fun _ h => absurd h List.not_mem_nil⟩⟩⟩⟩) (by decide +kernel)) ggX12_takes_X12_word
theorem dX12_takes_0 : decode cX12_takes 0 = .ok (.aload_n 0, 1) := by decide +kernel
theorem dX12_takes_1 : decode cX12_takes 1 = .ok (.invokevirtual 204, 3) := by decide +kernel
theorem dX12_takes_4 : decode cX12_takes 4 = .ok (.lload_n 1, 1) := by decide +kernel
theorem dX12_takes_5 : decode cX12_takes 5 = .ok (.lcmp, 1) := by decide +kernel
theorem dX12_takes_6 : decode cX12_takes 6 = .ok (.ifCond .eq 5, 3) := by decide +kernel
theorem dX12_takes_9 : decode cX12_takes 9 = .ok (.iconst 0, 1) := by decide +kernel
theorem dX12_takes_10 : decode cX12_takes 10 = .ok (.ireturn, 1) := by decide +kernel
theorem dX12_takes_11 : decode cX12_takes 11 = .ok (.aload_n 0, 1) := by decide +kernel
theorem dX12_takes_12 : decode cX12_takes 12 = .ok (.aload_n 0, 1) := by decide +kernel
theorem dX12_takes_13 : decode cX12_takes 13 = .ok (.getfield 201, 3) := by decide +kernel
theorem dX12_takes_16 : decode cX12_takes 16 = .ok (.putfield 192, 3) := by decide +kernel
theorem dX12_takes_19 : decode cX12_takes 19 = .ok (.iconst 1, 1) := by decide +kernel
theorem dX12_takes_20 : decode cX12_takes 20 = .ok (.ireturn, 1) := by decide +kernel
set_option maxRecDepth 20000 in
theorem ggX12_takesNumber_X12_blanks : GoodIn wsX12_takesNumber wsX12_blanks := goodIn_sub (List.forall_mem_cons.mpr ⟨List.mem_cons_of_mem _ (List.mem_append_left _ (List.mem_of_getElem? (i := 8) rfl)), List.forall_mem_append.mpr ⟨List.forall_mem_cons.mpr ⟨List.mem_cons_of_mem _ (List.mem_append_left _ (List.mem_of_getElem? (i := 0) rfl)), List.forall_mem_cons.mpr ⟨List.mem_cons_of_mem _ (List.mem_append_left _ (List.mem_of_getElem? (i := 2) rfl)), List.forall_mem_cons.mpr ⟨List.mem_cons_of_mem _ (List.mem_append_left _ (List.mem_of_getElem? (i := 3) rfl)), fun _ h => absurd h List.not_mem_nil⟩⟩⟩, tl_X12_takesNumber_X12⟩⟩) (by decide +kernel)
set_option maxRecDepth 20000 in
theorem gX12_takesNumber_X12_blanks : GoodIn wsX12_takesNumber (wsV RX12 198 RX12 yX12_blanks wsX12_blanks) := goodIn_app (goodIn_sub (List.forall_mem_cons.mpr ⟨List.mem_cons_of_mem _ (List.mem_append_left _ (List.mem_of_getElem? (i := 4) rfl)), List.forall_mem_cons.mpr ⟨List.mem_cons_of_mem _ (List.mem_append_left _ (List.mem_of_getElem? (i := 5) rfl)), List.forall_mem_cons.mpr ⟨List.mem_cons_of_mem _ (List.mem_append_left _ (List.mem_of_getElem? (i := 6) rfl)), List.forall_mem_cons.mpr ⟨List.mem_cons_of_mem _ (List.mem_append_left _ (List.mem_of_getElem? (i := 7) rfl)), fun _ h => absurd h List.not_mem_nil⟩⟩⟩⟩) (by decide +kernel)) ggX12_takesNumber_X12_blanks
theorem dX12_takesNumber_0 : decode cX12_takesNumber 0 = .ok (.aload_n 0, 1) := by decide +kernel
theorem dX12_takesNumber_1 : decode cX12_takesNumber 1 = .ok (.invokevirtual 198, 3) := by decide +kernel
theorem dX12_takesNumber_4 : decode cX12_takesNumber 4 = .ok (.aload_n 0, 1) := by decide +kernel
theorem dX12_takesNumber_5 : decode cX12_takesNumber 5 = .ok (.getfield 192, 3) := by decide +kernel
theorem dX12_takesNumber_8 : decode cX12_takesNumber 8 = .ok (.istore_n 1, 1) := by decide +kernel
theorem dX12_takesNumber_9 : decode cX12_takesNumber 9 = .ok (.aload_n 0, 1) := by decide +kernel
theorem dX12_takesNumber_10 : decode cX12_takesNumber 10 = .ok (.iconst 0, 1) := by decide +kernel
theorem dX12_takesNumber_11 : decode cX12_takesNumber 11 = .ok (.putfield 208, 3) := by decide +kernel
theorem dX12_takesNumber_14 : decode cX12_takesNumber 14 = .ok (.iload_n 1, 1) := by decide +kernel
theorem dX12_takesNumber_15 : decode cX12_takesNumber 15 = .ok (.aload_n 0, 1) := by decide +kernel
theorem dX12_takesNumber_16 : decode cX12_takesNumber 16 = .ok (.getfield 195, 3) := by decide +kernel
theorem dX12_takesNumber_19 : decode cX12_takesNumber 19 = .ok (.if_icmp .ge 62, 3) := by decide +kernel
theorem dX12_takesNumber_22 : decode cX12_takesNumber 22 = .ok (.aload_n 0, 1) := by decide +kernel
theorem dX12_takesNumber_23 : decode cX12_takesNumber 23 = .ok (.getfield 108, 3) := by decide +kernel
theorem dX12_takesNumber_26 : decode cX12_takesNumber 26 = .ok (.iload_n 1, 1) := by decide +kernel
theorem dX12_takesNumber_27 : decode cX12_takesNumber 27 = .ok (.baload, 1) := by decide +kernel
theorem dX12_takesNumber_28 : decode cX12_takesNumber 28 = .ok (.bipush 48, 2) := by decide +kernel
theorem dX12_takesNumber_30 : decode cX12_takesNumber 30 = .ok (.if_icmp .lt 51, 3) := by decide +kernel
theorem dX12_takesNumber_33 : decode cX12_takesNumber 33 = .ok (.aload_n 0, 1) := by decide +kernel
theorem dX12_takesNumber_34 : decode cX12_takesNumber 34 = .ok (.getfield 108, 3) := by decide +kernel
theorem dX12_takesNumber_37 : decode cX12_takesNumber 37 = .ok (.iload_n 1, 1) := by decide +kernel
theorem dX12_takesNumber_38 : decode cX12_takesNumber 38 = .ok (.baload, 1) := by decide +kernel
theorem dX12_takesNumber_39 : decode cX12_takesNumber 39 = .ok (.bipush 57, 2) := by decide +kernel
theorem dX12_takesNumber_41 : decode cX12_takesNumber 41 = .ok (.if_icmp .gt 40, 3) := by decide +kernel
theorem dX12_takesNumber_44 : decode cX12_takesNumber 44 = .ok (.iload_n 1, 1) := by decide +kernel
theorem dX12_takesNumber_45 : decode cX12_takesNumber 45 = .ok (.aload_n 0, 1) := by decide +kernel
theorem dX12_takesNumber_46 : decode cX12_takesNumber 46 = .ok (.getfield 192, 3) := by decide +kernel
theorem dX12_takesNumber_49 : decode cX12_takesNumber 49 = .ok (.isub, 1) := by decide +kernel
theorem dX12_takesNumber_50 : decode cX12_takesNumber 50 = .ok (.iconst 3, 1) := by decide +kernel
theorem dX12_takesNumber_51 : decode cX12_takesNumber 51 = .ok (.if_icmp .ge 24, 3) := by decide +kernel
theorem dX12_takesNumber_54 : decode cX12_takesNumber 54 = .ok (.aload_n 0, 1) := by decide +kernel
theorem dX12_takesNumber_55 : decode cX12_takesNumber 55 = .ok (.bipush 10, 2) := by decide +kernel
theorem dX12_takesNumber_57 : decode cX12_takesNumber 57 = .ok (.aload_n 0, 1) := by decide +kernel
theorem dX12_takesNumber_58 : decode cX12_takesNumber 58 = .ok (.getfield 208, 3) := by decide +kernel
theorem dX12_takesNumber_61 : decode cX12_takesNumber 61 = .ok (.imul, 1) := by decide +kernel
theorem dX12_takesNumber_62 : decode cX12_takesNumber 62 = .ok (.aload_n 0, 1) := by decide +kernel
theorem dX12_takesNumber_63 : decode cX12_takesNumber 63 = .ok (.getfield 108, 3) := by decide +kernel
theorem dX12_takesNumber_66 : decode cX12_takesNumber 66 = .ok (.iload_n 1, 1) := by decide +kernel
theorem dX12_takesNumber_67 : decode cX12_takesNumber 67 = .ok (.baload, 1) := by decide +kernel
theorem dX12_takesNumber_68 : decode cX12_takesNumber 68 = .ok (.iadd, 1) := by decide +kernel
theorem dX12_takesNumber_69 : decode cX12_takesNumber 69 = .ok (.bipush 48, 2) := by decide +kernel
theorem dX12_takesNumber_71 : decode cX12_takesNumber 71 = .ok (.isub, 1) := by decide +kernel
theorem dX12_takesNumber_72 : decode cX12_takesNumber 72 = .ok (.putfield 208, 3) := by decide +kernel
theorem dX12_takesNumber_75 : decode cX12_takesNumber 75 = .ok (.iinc 1 1, 3) := by decide +kernel
theorem dX12_takesNumber_78 : decode cX12_takesNumber 78 = .ok (.goto (-64), 3) := by decide +kernel
theorem dX12_takesNumber_81 : decode cX12_takesNumber 81 = .ok (.iload_n 1, 1) := by decide +kernel
theorem dX12_takesNumber_82 : decode cX12_takesNumber 82 = .ok (.aload_n 0, 1) := by decide +kernel
theorem dX12_takesNumber_83 : decode cX12_takesNumber 83 = .ok (.getfield 192, 3) := by decide +kernel
theorem dX12_takesNumber_86 : decode cX12_takesNumber 86 = .ok (.if_icmp .eq 13, 3) := by decide +kernel
theorem dX12_takesNumber_89 : decode cX12_takesNumber 89 = .ok (.iload_n 1, 1) := by decide +kernel
theorem dX12_takesNumber_90 : decode cX12_takesNumber 90 = .ok (.aload_n 0, 1) := by decide +kernel
theorem dX12_takesNumber_91 : decode cX12_takesNumber 91 = .ok (.getfield 192, 3) := by decide +kernel
theorem dX12_takesNumber_94 : decode cX12_takesNumber 94 = .ok (.isub, 1) := by decide +kernel
theorem dX12_takesNumber_95 : decode cX12_takesNumber 95 = .ok (.iconst 3, 1) := by decide +kernel
theorem dX12_takesNumber_96 : decode cX12_takesNumber 96 = .ok (.if_icmp .le 5, 3) := by decide +kernel
theorem dX12_takesNumber_99 : decode cX12_takesNumber 99 = .ok (.iconst 0, 1) := by decide +kernel
theorem dX12_takesNumber_100 : decode cX12_takesNumber 100 = .ok (.ireturn, 1) := by decide +kernel
theorem dX12_takesNumber_101 : decode cX12_takesNumber 101 = .ok (.aload_n 0, 1) := by decide +kernel
theorem dX12_takesNumber_102 : decode cX12_takesNumber 102 = .ok (.iload_n 1, 1) := by decide +kernel
theorem dX12_takesNumber_103 : decode cX12_takesNumber 103 = .ok (.putfield 192, 3) := by decide +kernel
theorem dX12_takesNumber_106 : decode cX12_takesNumber 106 = .ok (.iconst 1, 1) := by decide +kernel
theorem dX12_takesNumber_107 : decode cX12_takesNumber 107 = .ok (.ireturn, 1) := by decide +kernel
set_option maxRecDepth 20000 in
theorem ggX12_statement_X12_takes : GoodIn wsX12_statement wsX12_takes := goodIn_sub (List.forall_mem_cons.mpr ⟨mc_X12_statement_r1 _ (List.mem_of_getElem? (i := 18) rfl), List.forall_mem_append.mpr ⟨List.forall_mem_cons.mpr ⟨mc_X12_statement_r1 _ (List.mem_of_getElem? (i := 19) rfl), List.forall_mem_cons.mpr ⟨mc_X12_statement_r1 _ (List.mem_of_getElem? (i := 11) rfl), List.forall_mem_cons.mpr ⟨mc_X12_statement_r1 _ (List.mem_of_getElem? (i := 20) rfl), List.forall_mem_cons.mpr ⟨mc_X12_statement_r1 _ (List.mem_of_getElem? (i := 21) rfl), List.forall_mem_cons.mpr ⟨mc_X12_statement_r1 _ (List.mem_of_getElem? (i := 22) rfl), List.forall_mem_cons.mpr ⟨mc_X12_statement_r1 _ (List.mem_of_getElem? (i := 17) rfl), List.forall_mem_cons.mpr ⟨mc_X12_statement_r1 _ (List.mem_of_getElem? (i := 23) rfl), List.forall_mem_cons.mpr ⟨mc_X12_statement_r1 _ (List.mem_of_getElem? (i := 12) rfl), List.forall_mem_cons.mpr ⟨mc_X12_statement_r1 _ (List.mem_of_getElem? (i := 13) rfl), List.forall_mem_cons.mpr ⟨mc_X12_statement_r2 _ (List.mem_of_getElem? (i := 0) rfl), List.forall_mem_cons.mpr ⟨mc_X12_statement_r2 _ (List.mem_of_getElem? (i := 1) rfl), List.forall_mem_cons.mpr ⟨mc_X12_statement_r2 _ (List.mem_of_getElem? (i := 2) rfl), List.forall_mem_cons.mpr ⟨mc_X12_statement_r2 _ (List.mem_of_getElem? (i := 3) rfl), fun _ h => absurd h List.not_mem_nil⟩⟩⟩⟩⟩⟩⟩⟩⟩⟩⟩⟩⟩, tl_X12_statement_X12⟩⟩) (by decide +kernel)
set_option maxRecDepth 20000 in
theorem gX12_statement_X12_takes : GoodIn wsX12_statement (wsV RX12 213 RX12 yX12_takes wsX12_takes) := goodIn_app (goodIn_sub (List.forall_mem_cons.mpr ⟨mc_X12_statement_r1 _ (List.mem_of_getElem? (i := 14) rfl), List.forall_mem_cons.mpr ⟨mc_X12_statement_r1 _ (List.mem_of_getElem? (i := 15) rfl), List.forall_mem_cons.mpr ⟨mc_X12_statement_r1 _ (List.mem_of_getElem? (i := 16) rfl), List.forall_mem_cons.mpr ⟨mc_X12_statement_r1 _ (List.mem_of_getElem? (i := 17) rfl), fun _ h => absurd h List.not_mem_nil⟩⟩⟩⟩) (by decide +kernel)) ggX12_statement_X12_takes
set_option maxRecDepth 20000 in
theorem ggX12_statement_X12_takesNumber : GoodIn wsX12_statement wsX12_takesNumber := goodIn_sub (List.forall_mem_cons.mpr ⟨mc_X12_statement_r2 _ (List.mem_of_getElem? (i := 7) rfl), List.forall_mem_append.mpr ⟨List.forall_mem_cons.mpr ⟨mc_X12_statement_r1 _ (List.mem_of_getElem? (i := 11) rfl), List.forall_mem_cons.mpr ⟨mc_X12_statement_r1 _ (List.mem_of_getElem? (i := 5) rfl), List.forall_mem_cons.mpr ⟨mc_X12_statement_r1 _ (List.mem_of_getElem? (i := 12) rfl), List.forall_mem_cons.mpr ⟨mc_X12_statement_r1 _ (List.mem_of_getElem? (i := 13) rfl), List.forall_mem_cons.mpr ⟨mc_X12_statement_r2 _ (List.mem_of_getElem? (i := 0) rfl), List.forall_mem_cons.mpr ⟨mc_X12_statement_r2 _ (List.mem_of_getElem? (i := 1) rfl), List.forall_mem_cons.mpr ⟨mc_X12_statement_r2 _ (List.mem_of_getElem? (i := 2) rfl), List.forall_mem_cons.mpr ⟨mc_X12_statement_r1 _ (List.mem_of_getElem? (i := 17) rfl), List.forall_mem_cons.mpr ⟨mc_X12_statement_r2 _ (List.mem_of_getElem? (i := 3) rfl), fun _ h => absurd h List.not_mem_nil⟩⟩⟩⟩⟩⟩⟩⟩⟩, tl_X12_statement_X12⟩⟩) (by decide +kernel)
set_option maxRecDepth 20000 in
theorem gX12_statement_X12_takesNumber : GoodIn wsX12_statement (wsV RX12 221 RX12 yX12_takesNumber wsX12_takesNumber) := goodIn_app (goodIn_sub (List.forall_mem_cons.mpr ⟨mc_X12_statement_r2 _ (List.mem_of_getElem? (i := 4) rfl), List.forall_mem_cons.mpr ⟨mc_X12_statement_r2 _ (List.mem_of_getElem? (i := 5) rfl), List.forall_mem_cons.mpr ⟨mc_X12_statement_r2 _ (List.mem_of_getElem? (i := 6) rfl), List.forall_mem_cons.mpr ⟨mc_X12_statement_r1 _ (List.mem_of_getElem? (i := 17) rfl), fun _ h => absurd h List.not_mem_nil⟩⟩⟩⟩) (by decide +kernel)) ggX12_statement_X12_takesNumber
set_option maxRecDepth 20000 in
theorem ggX12_statement_X12_blanks : GoodIn wsX12_statement wsX12_blanks := goodIn_sub (List.forall_mem_cons.mpr ⟨mc_X12_statement_r2 _ (List.mem_of_getElem? (i := 3) rfl), List.forall_mem_append.mpr ⟨List.forall_mem_cons.mpr ⟨mc_X12_statement_r1 _ (List.mem_of_getElem? (i := 11) rfl), List.forall_mem_cons.mpr ⟨mc_X12_statement_r1 _ (List.mem_of_getElem? (i := 12) rfl), List.forall_mem_cons.mpr ⟨mc_X12_statement_r1 _ (List.mem_of_getElem? (i := 13) rfl), fun _ h => absurd h List.not_mem_nil⟩⟩⟩, tl_X12_statement_X12⟩⟩) (by decide +kernel)
set_option maxRecDepth 20000 in
theorem gX12_statement_X12_blanks : GoodIn wsX12_statement (wsV RX12 198 RX12 yX12_blanks wsX12_blanks) := goodIn_app (goodIn_sub (List.forall_mem_cons.mpr ⟨mc_X12_statement_r2 _ (List.mem_of_getElem? (i := 0) rfl), List.forall_mem_cons.mpr ⟨mc_X12_statement_r2 _ (List.mem_of_getElem? (i := 1) rfl), List.forall_mem_cons.mpr ⟨mc_X12_statement_r2 _ (List.mem_of_getElem? (i := 2) rfl), List.forall_mem_cons.mpr ⟨mc_X12_statement_r1 _ (List.mem_of_getElem? (i := 17) rfl), fun _ h => absurd h List.not_mem_nil⟩⟩⟩⟩) (by decide +kernel)) ggX12_statement_X12_blanks
theorem dX12_statement_0 : decode cX12_statement 0 = .ok (.aload_n 0, 1) := by decide +kernel
theorem dX12_statement_1 : decode cX12_statement 1 = .ok (.ldc2_w 211, 3) := by decide +kernel
theorem dX12_statement_4 : decode cX12_statement 4 = .ok (.invokevirtual 213, 3) := by decide +kernel
theorem dX12_statement_7 : decode cX12_statement 7 = .ok (.ifCond .eq 105, 3) := by decide +kernel
theorem dX12_statement_10 : decode cX12_statement 10 = .ok (.aload_n 0, 1) := by decide +kernel
theorem dX12_statement_11 : decode cX12_statement 11 = .ok (.getfield 121, 3) := by decide +kernel
theorem dX12_statement_14 : decode cX12_statement 14 = .ok (.iload_n 1, 1) := by decide +kernel
theorem dX12_statement_15 : decode cX12_statement 15 = .ok (.aload_n 0, 1) := by decide +kernel
theorem dX12_statement_16 : decode cX12_statement 16 = .ok (.ldc2_w 217, 3) := by decide +kernel
theorem dX12_statement_19 : decode cX12_statement 19 = .ok (.invokevirtual 213, 3) := by decide +kernel
theorem dX12_statement_22 : decode cX12_statement 22 = .ok (.ifCond .eq 7, 3) := by decide +kernel
theorem dX12_statement_25 : decode cX12_statement 25 = .ok (.iconst 0, 1) := by decide +kernel
theorem dX12_statement_26 : decode cX12_statement 26 = .ok (.goto 4, 3) := by decide +kernel
theorem dX12_statement_29 : decode cX12_statement 29 = .ok (.iconst 1, 1) := by decide +kernel
theorem dX12_statement_30 : decode cX12_statement 30 = .ok (.iastore, 1) := by decide +kernel
theorem dX12_statement_31 : decode cX12_statement 31 = .ok (.aload_n 0, 1) := by decide +kernel
theorem dX12_statement_32 : decode cX12_statement 32 = .ok (.getfield 121, 3) := by decide +kernel
theorem dX12_statement_35 : decode cX12_statement 35 = .ok (.iload_n 1, 1) := by decide +kernel
theorem dX12_statement_36 : decode cX12_statement 36 = .ok (.iaload, 1) := by decide +kernel
theorem dX12_statement_37 : decode cX12_statement 37 = .ok (.iconst 1, 1) := by decide +kernel
theorem dX12_statement_38 : decode cX12_statement 38 = .ok (.if_icmp .ne 13, 3) := by decide +kernel
theorem dX12_statement_41 : decode cX12_statement 41 = .ok (.aload_n 0, 1) := by decide +kernel
theorem dX12_statement_42 : decode cX12_statement 42 = .ok (.ldc2_w 219, 3) := by decide +kernel
theorem dX12_statement_45 : decode cX12_statement 45 = .ok (.invokevirtual 213, 3) := by decide +kernel
theorem dX12_statement_48 : decode cX12_statement 48 = .ok (.ifCond .eq 10, 3) := by decide +kernel
theorem dX12_statement_51 : decode cX12_statement 51 = .ok (.aload_n 0, 1) := by decide +kernel
theorem dX12_statement_52 : decode cX12_statement 52 = .ok (.invokevirtual 221, 3) := by decide +kernel
theorem dX12_statement_55 : decode cX12_statement 55 = .ok (.ifCond .ne 5, 3) := by decide +kernel
theorem dX12_statement_58 : decode cX12_statement 58 = .ok (.iconst 0, 1) := by decide +kernel
theorem dX12_statement_59 : decode cX12_statement 59 = .ok (.ireturn, 1) := by decide +kernel
theorem dX12_statement_60 : decode cX12_statement 60 = .ok (.aload_n 0, 1) := by decide +kernel
theorem dX12_statement_61 : decode cX12_statement 61 = .ok (.getfield 124, 3) := by decide +kernel
theorem dX12_statement_64 : decode cX12_statement 64 = .ok (.iload_n 1, 1) := by decide +kernel
theorem dX12_statement_65 : decode cX12_statement 65 = .ok (.aload_n 0, 1) := by decide +kernel
theorem dX12_statement_66 : decode cX12_statement 66 = .ok (.getfield 208, 3) := by decide +kernel
theorem dX12_statement_69 : decode cX12_statement 69 = .ok (.iastore, 1) := by decide +kernel
theorem dX12_statement_70 : decode cX12_statement 70 = .ok (.aload_n 0, 1) := by decide +kernel
theorem dX12_statement_71 : decode cX12_statement 71 = .ok (.getfield 121, 3) := by decide +kernel
theorem dX12_statement_74 : decode cX12_statement 74 = .ok (.iload_n 1, 1) := by decide +kernel
theorem dX12_statement_75 : decode cX12_statement 75 = .ok (.iaload, 1) := by decide +kernel
theorem dX12_statement_76 : decode cX12_statement 76 = .ok (.iconst 1, 1) := by decide +kernel
theorem dX12_statement_77 : decode cX12_statement 77 = .ok (.if_icmp .ne 22, 3) := by decide +kernel
theorem dX12_statement_80 : decode cX12_statement 80 = .ok (.aload_n 0, 1) := by decide +kernel
theorem dX12_statement_81 : decode cX12_statement 81 = .ok (.ldc2_w 225, 3) := by decide +kernel
theorem dX12_statement_84 : decode cX12_statement 84 = .ok (.invokevirtual 213, 3) := by decide +kernel
theorem dX12_statement_87 : decode cX12_statement 87 = .ok (.ifCond .eq 10, 3) := by decide +kernel
theorem dX12_statement_90 : decode cX12_statement 90 = .ok (.aload_n 0, 1) := by decide +kernel
theorem dX12_statement_91 : decode cX12_statement 91 = .ok (.invokevirtual 221, 3) := by decide +kernel
theorem dX12_statement_94 : decode cX12_statement 94 = .ok (.ifCond .ne 5, 3) := by decide +kernel
theorem dX12_statement_97 : decode cX12_statement 97 = .ok (.iconst 0, 1) := by decide +kernel
theorem dX12_statement_98 : decode cX12_statement 98 = .ok (.ireturn, 1) := by decide +kernel
theorem dX12_statement_99 : decode cX12_statement 99 = .ok (.aload_n 0, 1) := by decide +kernel
theorem dX12_statement_100 : decode cX12_statement 100 = .ok (.getfield 127, 3) := by decide +kernel
theorem dX12_statement_103 : decode cX12_statement 103 = .ok (.iload_n 1, 1) := by decide +kernel
theorem dX12_statement_104 : decode cX12_statement 104 = .ok (.aload_n 0, 1) := by decide +kernel
theorem dX12_statement_105 : decode cX12_statement 105 = .ok (.getfield 208, 3) := by decide +kernel
theorem dX12_statement_108 : decode cX12_statement 108 = .ok (.iastore, 1) := by decide +kernel
theorem dX12_statement_109 : decode cX12_statement 109 = .ok (.goto 112, 3) := by decide +kernel
theorem dX12_statement_112 : decode cX12_statement 112 = .ok (.aload_n 0, 1) := by decide +kernel
theorem dX12_statement_113 : decode cX12_statement 113 = .ok (.ldc2_w 227, 3) := by decide +kernel
theorem dX12_statement_116 : decode cX12_statement 116 = .ok (.invokevirtual 213, 3) := by decide +kernel
theorem dX12_statement_119 : decode cX12_statement 119 = .ok (.ifCond .ne 5, 3) := by decide +kernel
theorem dX12_statement_122 : decode cX12_statement 122 = .ok (.iconst 0, 1) := by decide +kernel
theorem dX12_statement_123 : decode cX12_statement 123 = .ok (.ireturn, 1) := by decide +kernel
theorem dX12_statement_124 : decode cX12_statement 124 = .ok (.aload_n 0, 1) := by decide +kernel
theorem dX12_statement_125 : decode cX12_statement 125 = .ok (.getfield 121, 3) := by decide +kernel
theorem dX12_statement_128 : decode cX12_statement 128 = .ok (.iload_n 1, 1) := by decide +kernel
theorem dX12_statement_129 : decode cX12_statement 129 = .ok (.aload_n 0, 1) := by decide +kernel
theorem dX12_statement_130 : decode cX12_statement 130 = .ok (.ldc2_w 211, 3) := by decide +kernel
theorem dX12_statement_133 : decode cX12_statement 133 = .ok (.invokevirtual 213, 3) := by decide +kernel
theorem dX12_statement_136 : decode cX12_statement 136 = .ok (.ifCond .eq 7, 3) := by decide +kernel
theorem dX12_statement_139 : decode cX12_statement 139 = .ok (.iconst 2, 1) := by decide +kernel
theorem dX12_statement_140 : decode cX12_statement 140 = .ok (.goto 32, 3) := by decide +kernel
theorem dX12_statement_143 : decode cX12_statement 143 = .ok (.aload_n 0, 1) := by decide +kernel
theorem dX12_statement_144 : decode cX12_statement 144 = .ok (.ldc2_w 229, 3) := by decide +kernel
theorem dX12_statement_147 : decode cX12_statement 147 = .ok (.invokevirtual 213, 3) := by decide +kernel
theorem dX12_statement_150 : decode cX12_statement 150 = .ok (.ifCond .eq 7, 3) := by decide +kernel
theorem dX12_statement_153 : decode cX12_statement 153 = .ok (.iconst 3, 1) := by decide +kernel
theorem dX12_statement_154 : decode cX12_statement 154 = .ok (.goto 18, 3) := by decide +kernel
theorem dX12_statement_157 : decode cX12_statement 157 = .ok (.aload_n 0, 1) := by decide +kernel
theorem dX12_statement_158 : decode cX12_statement 158 = .ok (.ldc2_w 231, 3) := by decide +kernel
theorem dX12_statement_161 : decode cX12_statement 161 = .ok (.invokevirtual 213, 3) := by decide +kernel
theorem dX12_statement_164 : decode cX12_statement 164 = .ok (.ifCond .eq 7, 3) := by decide +kernel
theorem dX12_statement_167 : decode cX12_statement 167 = .ok (.iconst 4, 1) := by decide +kernel
theorem dX12_statement_168 : decode cX12_statement 168 = .ok (.goto 4, 3) := by decide +kernel
theorem dX12_statement_171 : decode cX12_statement 171 = .ok (.iconst 5, 1) := by decide +kernel
theorem dX12_statement_172 : decode cX12_statement 172 = .ok (.iastore, 1) := by decide +kernel
theorem dX12_statement_173 : decode cX12_statement 173 = .ok (.aload_n 0, 1) := by decide +kernel
theorem dX12_statement_174 : decode cX12_statement 174 = .ok (.invokevirtual 221, 3) := by decide +kernel
theorem dX12_statement_177 : decode cX12_statement 177 = .ok (.ifCond .ne 5, 3) := by decide +kernel
theorem dX12_statement_180 : decode cX12_statement 180 = .ok (.iconst 0, 1) := by decide +kernel
theorem dX12_statement_181 : decode cX12_statement 181 = .ok (.ireturn, 1) := by decide +kernel
theorem dX12_statement_182 : decode cX12_statement 182 = .ok (.aload_n 0, 1) := by decide +kernel
theorem dX12_statement_183 : decode cX12_statement 183 = .ok (.getfield 124, 3) := by decide +kernel
theorem dX12_statement_186 : decode cX12_statement 186 = .ok (.iload_n 1, 1) := by decide +kernel
theorem dX12_statement_187 : decode cX12_statement 187 = .ok (.aload_n 0, 1) := by decide +kernel
theorem dX12_statement_188 : decode cX12_statement 188 = .ok (.getfield 208, 3) := by decide +kernel
theorem dX12_statement_191 : decode cX12_statement 191 = .ok (.iastore, 1) := by decide +kernel
theorem dX12_statement_192 : decode cX12_statement 192 = .ok (.aload_n 0, 1) := by decide +kernel
theorem dX12_statement_193 : decode cX12_statement 193 = .ok (.getfield 121, 3) := by decide +kernel
theorem dX12_statement_196 : decode cX12_statement 196 = .ok (.iload_n 1, 1) := by decide +kernel
theorem dX12_statement_197 : decode cX12_statement 197 = .ok (.iaload, 1) := by decide +kernel
theorem dX12_statement_198 : decode cX12_statement 198 = .ok (.iconst 3, 1) := by decide +kernel
theorem dX12_statement_199 : decode cX12_statement 199 = .ok (.if_icmp .ne 12, 3) := by decide +kernel
theorem dX12_statement_202 : decode cX12_statement 202 = .ok (.aload_n 0, 1) := by decide +kernel
theorem dX12_statement_203 : decode cX12_statement 203 = .ok (.invokevirtual 221, 3) := by decide +kernel
theorem dX12_statement_206 : decode cX12_statement 206 = .ok (.ifCond .ne 5, 3) := by decide +kernel
theorem dX12_statement_209 : decode cX12_statement 209 = .ok (.iconst 0, 1) := by decide +kernel
theorem dX12_statement_210 : decode cX12_statement 210 = .ok (.ireturn, 1) := by decide +kernel
theorem dX12_statement_211 : decode cX12_statement 211 = .ok (.aload_n 0, 1) := by decide +kernel
theorem dX12_statement_212 : decode cX12_statement 212 = .ok (.getfield 127, 3) := by decide +kernel
theorem dX12_statement_215 : decode cX12_statement 215 = .ok (.iload_n 1, 1) := by decide +kernel
theorem dX12_statement_216 : decode cX12_statement 216 = .ok (.aload_n 0, 1) := by decide +kernel
theorem dX12_statement_217 : decode cX12_statement 217 = .ok (.getfield 208, 3) := by decide +kernel
theorem dX12_statement_220 : decode cX12_statement 220 = .ok (.iastore, 1) := by decide +kernel
theorem dX12_statement_221 : decode cX12_statement 221 = .ok (.aload_n 0, 1) := by decide +kernel
theorem dX12_statement_222 : decode cX12_statement 222 = .ok (.invokevirtual 198, 3) := by decide +kernel
theorem dX12_statement_225 : decode cX12_statement 225 = .ok (.aload_n 0, 1) := by decide +kernel
theorem dX12_statement_226 : decode cX12_statement 226 = .ok (.getfield 192, 3) := by decide +kernel
theorem dX12_statement_229 : decode cX12_statement 229 = .ok (.aload_n 0, 1) := by decide +kernel
theorem dX12_statement_230 : decode cX12_statement 230 = .ok (.getfield 195, 3) := by decide +kernel
theorem dX12_statement_233 : decode cX12_statement 233 = .ok (.if_icmp .eq 17, 3) := by decide +kernel
theorem dX12_statement_236 : decode cX12_statement 236 = .ok (.aload_n 0, 1) := by decide +kernel
theorem dX12_statement_237 : decode cX12_statement 237 = .ok (.getfield 108, 3) := by decide +kernel
theorem dX12_statement_240 : decode cX12_statement 240 = .ok (.aload_n 0, 1) := by decide +kernel
theorem dX12_statement_241 : decode cX12_statement 241 = .ok (.getfield 192, 3) := by decide +kernel
theorem dX12_statement_244 : decode cX12_statement 244 = .ok (.baload, 1) := by decide +kernel
theorem dX12_statement_245 : decode cX12_statement 245 = .ok (.bipush 59, 2) := by decide +kernel
theorem dX12_statement_247 : decode cX12_statement 247 = .ok (.if_icmp .eq 5, 3) := by decide +kernel
theorem dX12_statement_250 : decode cX12_statement 250 = .ok (.iconst 0, 1) := by decide +kernel
theorem dX12_statement_251 : decode cX12_statement 251 = .ok (.ireturn, 1) := by decide +kernel
theorem dX12_statement_252 : decode cX12_statement 252 = .ok (.aload_n 0, 1) := by decide +kernel
theorem dX12_statement_253 : decode cX12_statement 253 = .ok (.dup, 1) := by decide +kernel
theorem dX12_statement_254 : decode cX12_statement 254 = .ok (.getfield 192, 3) := by decide +kernel
theorem dX12_statement_257 : decode cX12_statement 257 = .ok (.iconst 1, 1) := by decide +kernel
theorem dX12_statement_258 : decode cX12_statement 258 = .ok (.iadd, 1) := by decide +kernel
theorem dX12_statement_259 : decode cX12_statement 259 = .ok (.putfield 192, 3) := by decide +kernel
theorem dX12_statement_262 : decode cX12_statement 262 = .ok (.iconst 1, 1) := by decide +kernel
theorem dX12_statement_263 : decode cX12_statement 263 = .ok (.ireturn, 1) := by decide +kernel
set_option maxRecDepth 20000 in
theorem ggX12_rule_X12_isIn : GoodIn wsX12_rule wsX12_isIn := goodIn_sub (List.forall_mem_cons.mpr ⟨mc_X12_rule_r1 _ (List.mem_of_getElem? (i := 13) rfl), fun _ h => absurd h List.not_mem_nil⟩) (by decide +kernel)
set_option maxRecDepth 20000 in
theorem gX12_rule_X12_isIn : GoodIn wsX12_rule (va_wsS RX12 130 yX12_isIn wsX12_isIn) := goodIn_app (goodIn_sub (List.forall_mem_cons.mpr ⟨mc_X12_rule_r1 _ (List.mem_of_getElem? (i := 10) rfl), List.forall_mem_cons.mpr ⟨mc_X12_rule_r1 _ (List.mem_of_getElem? (i := 11) rfl), List.forall_mem_cons.mpr ⟨mc_X12_rule_r1 _ (List.mem_of_getElem? (i := 12) rfl), fun _ h => absurd h List.not_mem_nil⟩⟩⟩) (by decide +kernel)) ggX12_rule_X12_isIn
set_option maxRecDepth 20000 in
theorem ggX12_rule_X12_blanks : GoodIn wsX12_rule wsX12_blanks := goodIn_sub (List.forall_mem_cons.mpr ⟨mc_X12_rule_r1 _ (List.mem_of_getElem? (i := 17) rfl), List.forall_mem_append.mpr ⟨List.forall_mem_cons.mpr ⟨mc_X12_rule_r1 _ (List.mem_of_getElem? (i := 5) rfl), List.forall_mem_cons.mpr ⟨mc_X12_rule_r1 _ (List.mem_of_getElem? (i := 4) rfl), List.forall_mem_cons.mpr ⟨mc_X12_rule_r1 _ (List.mem_of_getElem? (i := 2) rfl), fun _ h => absurd h List.not_mem_nil⟩⟩⟩, tl_X12_rule_X12⟩⟩) (by decide +kernel)
set_option maxRecDepth 20000 in
theorem gX12_rule_X12_blanks : GoodIn wsX12_rule (wsV RX12 198 RX12 yX12_blanks wsX12_blanks) := goodIn_app (goodIn_sub (List.forall_mem_cons.mpr ⟨mc_X12_rule_r1 _ (List.mem_of_getElem? (i := 14) rfl), List.forall_mem_cons.mpr ⟨mc_X12_rule_r1 _ (List.mem_of_getElem? (i := 15) rfl), List.forall_mem_cons.mpr ⟨mc_X12_rule_r1 _ (List.mem_of_getElem? (i := 16) rfl), List.forall_mem_cons.mpr ⟨mc_X12_rule_r1 _ (List.mem_of_getElem? (i := 12) rfl), fun _ h => absurd h List.not_mem_nil⟩⟩⟩⟩) (by decide +kernel)) ggX12_rule_X12_blanks
set_option maxRecDepth 20000 in
theorem mm_X12_rule_X12_statement_r1 : ∀ w ∈ wsX12_statement_r1, w ∈ wsX12_rule := List.forall_mem_cons.mpr ⟨mc_X12_rule_r1 _ (List.mem_of_getElem? (i := 22) rfl), List.forall_mem_cons.mpr ⟨mc_X12_rule_r1 _ (List.mem_of_getElem? (i := 23) rfl), List.forall_mem_cons.mpr ⟨mc_X12_rule_r2 _ (List.mem_of_getElem? (i := 0) rfl), List.forall_mem_cons.mpr ⟨mc_X12_rule_r2 _ (List.mem_of_getElem? (i := 1) rfl), List.forall_mem_cons.mpr ⟨mc_X12_rule_r2 _ (List.mem_of_getElem? (i := 2) rfl), List.forall_mem_cons.mpr ⟨mc_X12_rule_r2 _ (List.mem_of_getElem? (i := 3) rfl), List.forall_mem_cons.mpr ⟨mc_X12_rule_r2 _ (List.mem_of_getElem? (i := 4) rfl), List.forall_mem_cons.mpr ⟨mc_X12_rule_r2 _ (List.mem_of_getElem? (i := 5) rfl), List.forall_mem_cons.mpr ⟨mc_X12_rule_r2 _ (List.mem_of_getElem? (i := 6) rfl), List.forall_mem_cons.mpr ⟨mc_X12_rule_r2 _ (List.mem_of_getElem? (i := 7) rfl), List.forall_mem_cons.mpr ⟨mc_X12_rule_r2 _ (List.mem_of_getElem? (i := 8) rfl), List.forall_mem_cons.mpr ⟨mc_X12_rule_r1 _ (List.mem_of_getElem? (i := 5) rfl), List.forall_mem_cons.mpr ⟨mc_X12_rule_r1 _ (List.mem_of_getElem? (i := 4) rfl), List.forall_mem_cons.mpr ⟨mc_X12_rule_r1 _ (List.mem_of_getElem? (i := 2) rfl), List.forall_mem_cons.mpr ⟨mc_X12_rule_r2 _ (List.mem_of_getElem? (i := 9) rfl), List.forall_mem_cons.mpr ⟨mc_X12_rule_r2 _ (List.mem_of_getElem? (i := 10) rfl), List.forall_mem_cons.mpr ⟨mc_X12_rule_r2 _ (List.mem_of_getElem? (i := 11) rfl), List.forall_mem_cons.mpr ⟨mc_X12_rule_r1 _ (List.mem_of_getElem? (i := 12) rfl), List.forall_mem_cons.mpr ⟨mc_X12_rule_r2 _ (List.mem_of_getElem? (i := 12) rfl), List.forall_mem_cons.mpr ⟨mc_X12_rule_r2 _ (List.mem_of_getElem? (i := 13) rfl), List.forall_mem_cons.mpr ⟨mc_X12_rule_r2 _ (List.mem_of_getElem? (i := 14) rfl), List.forall_mem_cons.mpr ⟨mc_X12_rule_r2 _ (List.mem_of_getElem? (i := 15) rfl), List.forall_mem_cons.mpr ⟨mc_X12_rule_r2 _ (List.mem_of_getElem? (i := 16) rfl), List.forall_mem_cons.mpr ⟨mc_X12_rule_r2 _ (List.mem_of_getElem? (i := 17) rfl), fun _ h => absurd h List.not_mem_nil⟩⟩⟩⟩⟩⟩⟩⟩⟩⟩⟩⟩⟩⟩⟩⟩⟩⟩⟩⟩⟩⟩⟩⟩
set_option maxRecDepth 20000 in
theorem mm_X12_rule_X12_statement_r2 : ∀ w ∈ wsX12_statement_r2, w ∈ wsX12_rule := List.forall_mem_cons.mpr ⟨mc_X12_rule_r1 _ (List.mem_of_getElem? (i := 14) rfl), List.forall_mem_cons.mpr ⟨mc_X12_rule_r1 _ (List.mem_of_getElem? (i := 15) rfl), List.forall_mem_cons.mpr ⟨mc_X12_rule_r1 _ (List.mem_of_getElem? (i := 16) rfl), List.forall_mem_cons.mpr ⟨mc_X12_rule_r1 _ (List.mem_of_getElem? (i := 17) rfl), List.forall_mem_cons.mpr ⟨mc_X12_rule_r2 _ (List.mem_of_getElem? (i := 18) rfl), List.forall_mem_cons.mpr ⟨mc_X12_rule_r2 _ (List.mem_of_getElem? (i := 19) rfl), List.forall_mem_cons.mpr ⟨mc_X12_rule_r2 _ (List.mem_of_getElem? (i := 20) rfl), List.forall_mem_cons.mpr ⟨mc_X12_rule_r2 _ (List.mem_of_getElem? (i := 21) rfl), fun _ h => absurd h List.not_mem_nil⟩⟩⟩⟩⟩⟩⟩⟩
set_option maxRecDepth 20000 in
theorem ggX12_rule_X12_statement : GoodIn wsX12_rule wsX12_statement := goodIn_sub (List.forall_mem_cons.mpr ⟨mc_X12_rule_r1 _ (List.mem_of_getElem? (i := 21) rfl), List.forall_mem_append.mpr ⟨List.forall_mem_append.mpr ⟨mm_X12_rule_X12_statement_r1, mm_X12_rule_X12_statement_r2⟩, tl_X12_rule_X12⟩⟩) (by decide +kernel)
set_option maxRecDepth 20000 in
theorem gX12_rule_X12_statement : GoodIn wsX12_rule (wsV RX12 236 RX12 yX12_statement wsX12_statement) := goodIn_app (goodIn_sub (List.forall_mem_cons.mpr ⟨mc_X12_rule_r1 _ (List.mem_of_getElem? (i := 18) rfl), List.forall_mem_cons.mpr ⟨mc_X12_rule_r1 _ (List.mem_of_getElem? (i := 19) rfl), List.forall_mem_cons.mpr ⟨mc_X12_rule_r1 _ (List.mem_of_getElem? (i := 20) rfl), List.forall_mem_cons.mpr ⟨mc_X12_rule_r1 _ (List.mem_of_getElem? (i := 12) rfl), fun _ h => absurd h List.not_mem_nil⟩⟩⟩⟩) (by decide +kernel)) ggX12_rule_X12_statement
theorem dX12_rule_0 : decode cX12_rule 0 = .ok (.iload_n 1, 1) := by decide +kernel
theorem dX12_rule_1 : decode cX12_rule 1 = .ok (.iconst 0, 1) := by decide +kernel
theorem dX12_rule_2 : decode cX12_rule 2 = .ok (.aload_n 0, 1) := by decide +kernel
theorem dX12_rule_3 : decode cX12_rule 3 = .ok (.getfield 185, 3) := by decide +kernel
theorem dX12_rule_6 : decode cX12_rule 6 = .ok (.invokestatic 130, 3) := by decide +kernel
theorem dX12_rule_9 : decode cX12_rule 9 = .ok (.ifCond .ne 6, 3) := by decide +kernel
theorem dX12_rule_12 : decode cX12_rule 12 = .ok (.bipush (-2), 2) := by decide +kernel
theorem dX12_rule_14 : decode cX12_rule 14 = .ok (.ireturn, 1) := by decide +kernel
theorem dX12_rule_15 : decode cX12_rule 15 = .ok (.aload_n 0, 1) := by decide +kernel
theorem dX12_rule_16 : decode cX12_rule 16 = .ok (.getfield 233, 3) := by decide +kernel
theorem dX12_rule_19 : decode cX12_rule 19 = .ok (.bipush 10, 2) := by decide +kernel
theorem dX12_rule_21 : decode cX12_rule 21 = .ok (.if_icmp .ne 6, 3) := by decide +kernel
theorem dX12_rule_24 : decode cX12_rule 24 = .ok (.bipush (-3), 2) := by decide +kernel
theorem dX12_rule_26 : decode cX12_rule 26 = .ok (.ireturn, 1) := by decide +kernel
theorem dX12_rule_27 : decode cX12_rule 27 = .ok (.iconst 0, 1) := by decide +kernel
theorem dX12_rule_28 : decode cX12_rule 28 = .ok (.istore_n 2, 1) := by decide +kernel
theorem dX12_rule_29 : decode cX12_rule 29 = .ok (.iload_n 2, 1) := by decide +kernel
theorem dX12_rule_30 : decode cX12_rule 30 = .ok (.iload_n 1, 1) := by decide +kernel
theorem dX12_rule_31 : decode cX12_rule 31 = .ok (.if_icmp .ge 21, 3) := by decide +kernel
theorem dX12_rule_34 : decode cX12_rule 34 = .ok (.aload_n 0, 1) := by decide +kernel
theorem dX12_rule_35 : decode cX12_rule 35 = .ok (.getfield 108, 3) := by decide +kernel
theorem dX12_rule_38 : decode cX12_rule 38 = .ok (.iload_n 2, 1) := by decide +kernel
theorem dX12_rule_39 : decode cX12_rule 39 = .ok (.aload_n 0, 1) := by decide +kernel
theorem dX12_rule_40 : decode cX12_rule 40 = .ok (.getfield 104, 3) := by decide +kernel
theorem dX12_rule_43 : decode cX12_rule 43 = .ok (.iload_n 2, 1) := by decide +kernel
theorem dX12_rule_44 : decode cX12_rule 44 = .ok (.baload, 1) := by decide +kernel
theorem dX12_rule_45 : decode cX12_rule 45 = .ok (.bastore, 1) := by decide +kernel
theorem dX12_rule_46 : decode cX12_rule 46 = .ok (.iinc 2 1, 3) := by decide +kernel
theorem dX12_rule_49 : decode cX12_rule 49 = .ok (.goto (-20), 3) := by decide +kernel
theorem dX12_rule_52 : decode cX12_rule 52 = .ok (.aload_n 0, 1) := by decide +kernel
theorem dX12_rule_53 : decode cX12_rule 53 = .ok (.iload_n 1, 1) := by decide +kernel
theorem dX12_rule_54 : decode cX12_rule 54 = .ok (.putfield 195, 3) := by decide +kernel
theorem dX12_rule_57 : decode cX12_rule 57 = .ok (.aload_n 0, 1) := by decide +kernel
theorem dX12_rule_58 : decode cX12_rule 58 = .ok (.iconst 0, 1) := by decide +kernel
theorem dX12_rule_59 : decode cX12_rule 59 = .ok (.putfield 185, 3) := by decide +kernel
theorem dX12_rule_62 : decode cX12_rule 62 = .ok (.aload_n 0, 1) := by decide +kernel
theorem dX12_rule_63 : decode cX12_rule 63 = .ok (.iconst 0, 1) := by decide +kernel
theorem dX12_rule_64 : decode cX12_rule 64 = .ok (.putfield 192, 3) := by decide +kernel
theorem dX12_rule_67 : decode cX12_rule 67 = .ok (.aload_n 0, 1) := by decide +kernel
theorem dX12_rule_68 : decode cX12_rule 68 = .ok (.getfield 115, 3) := by decide +kernel
theorem dX12_rule_71 : decode cX12_rule 71 = .ok (.aload_n 0, 1) := by decide +kernel
theorem dX12_rule_72 : decode cX12_rule 72 = .ok (.getfield 233, 3) := by decide +kernel
theorem dX12_rule_75 : decode cX12_rule 75 = .ok (.iconst 0, 1) := by decide +kernel
theorem dX12_rule_76 : decode cX12_rule 76 = .ok (.iastore, 1) := by decide +kernel
theorem dX12_rule_77 : decode cX12_rule 77 = .ok (.iconst 1, 1) := by decide +kernel
theorem dX12_rule_78 : decode cX12_rule 78 = .ok (.istore_n 2, 1) := by decide +kernel
theorem dX12_rule_79 : decode cX12_rule 79 = .ok (.aload_n 0, 1) := by decide +kernel
theorem dX12_rule_80 : decode cX12_rule 80 = .ok (.invokevirtual 198, 3) := by decide +kernel
theorem dX12_rule_83 : decode cX12_rule 83 = .ok (.iload_n 2, 1) := by decide +kernel
theorem dX12_rule_84 : decode cX12_rule 84 = .ok (.ifCond .eq 85, 3) := by decide +kernel
theorem dX12_rule_87 : decode cX12_rule 87 = .ok (.aload_n 0, 1) := by decide +kernel
theorem dX12_rule_88 : decode cX12_rule 88 = .ok (.getfield 192, 3) := by decide +kernel
theorem dX12_rule_91 : decode cX12_rule 91 = .ok (.aload_n 0, 1) := by decide +kernel
theorem dX12_rule_92 : decode cX12_rule 92 = .ok (.getfield 195, 3) := by decide +kernel
theorem dX12_rule_95 : decode cX12_rule 95 = .ok (.if_icmp .ge 74, 3) := by decide +kernel
theorem dX12_rule_98 : decode cX12_rule 98 = .ok (.aload_n 0, 1) := by decide +kernel
theorem dX12_rule_99 : decode cX12_rule 99 = .ok (.getfield 115, 3) := by decide +kernel
theorem dX12_rule_102 : decode cX12_rule 102 = .ok (.aload_n 0, 1) := by decide +kernel
theorem dX12_rule_103 : decode cX12_rule 103 = .ok (.getfield 233, 3) := by decide +kernel
theorem dX12_rule_106 : decode cX12_rule 106 = .ok (.iaload, 1) := by decide +kernel
theorem dX12_rule_107 : decode cX12_rule 107 = .ok (.bipush 16, 2) := by decide +kernel
theorem dX12_rule_109 : decode cX12_rule 109 = .ok (.if_icmp .ge 31, 3) := by decide +kernel
theorem dX12_rule_112 : decode cX12_rule 112 = .ok (.aload_n 0, 1) := by decide +kernel
theorem dX12_rule_113 : decode cX12_rule 113 = .ok (.bipush 16, 2) := by decide +kernel
theorem dX12_rule_115 : decode cX12_rule 115 = .ok (.aload_n 0, 1) := by decide +kernel
theorem dX12_rule_116 : decode cX12_rule 116 = .ok (.getfield 233, 3) := by decide +kernel
theorem dX12_rule_119 : decode cX12_rule 119 = .ok (.imul, 1) := by decide +kernel
theorem dX12_rule_120 : decode cX12_rule 120 = .ok (.aload_n 0, 1) := by decide +kernel
theorem dX12_rule_121 : decode cX12_rule 121 = .ok (.getfield 115, 3) := by decide +kernel
theorem dX12_rule_124 : decode cX12_rule 124 = .ok (.aload_n 0, 1) := by decide +kernel
theorem dX12_rule_125 : decode cX12_rule 125 = .ok (.getfield 233, 3) := by decide +kernel
theorem dX12_rule_128 : decode cX12_rule 128 = .ok (.iaload, 1) := by decide +kernel
theorem dX12_rule_129 : decode cX12_rule 129 = .ok (.iadd, 1) := by decide +kernel
theorem dX12_rule_130 : decode cX12_rule 130 = .ok (.invokevirtual 236, 3) := by decide +kernel
theorem dX12_rule_133 : decode cX12_rule 133 = .ok (.ifCond .eq 7, 3) := by decide +kernel
theorem dX12_rule_136 : decode cX12_rule 136 = .ok (.iconst 1, 1) := by decide +kernel
theorem dX12_rule_137 : decode cX12_rule 137 = .ok (.goto 4, 3) := by decide +kernel
theorem dX12_rule_140 : decode cX12_rule 140 = .ok (.iconst 0, 1) := by decide +kernel
theorem dX12_rule_141 : decode cX12_rule 141 = .ok (.istore_n 2, 1) := by decide +kernel
theorem dX12_rule_142 : decode cX12_rule 142 = .ok (.iload_n 2, 1) := by decide +kernel
theorem dX12_rule_143 : decode cX12_rule 143 = .ok (.ifCond .ne 6, 3) := by decide +kernel
theorem dX12_rule_146 : decode cX12_rule 146 = .ok (.goto (-63), 3) := by decide +kernel
theorem dX12_rule_149 : decode cX12_rule 149 = .ok (.aload_n 0, 1) := by decide +kernel
theorem dX12_rule_150 : decode cX12_rule 150 = .ok (.getfield 115, 3) := by decide +kernel
theorem dX12_rule_153 : decode cX12_rule 153 = .ok (.aload_n 0, 1) := by decide +kernel
theorem dX12_rule_154 : decode cX12_rule 154 = .ok (.getfield 233, 3) := by decide +kernel
theorem dX12_rule_157 : decode cX12_rule 157 = .ok (.dup2, 1) := by decide +kernel
theorem dX12_rule_158 : decode cX12_rule 158 = .ok (.iaload, 1) := by decide +kernel
theorem dX12_rule_159 : decode cX12_rule 159 = .ok (.iconst 1, 1) := by decide +kernel
theorem dX12_rule_160 : decode cX12_rule 160 = .ok (.iadd, 1) := by decide +kernel
theorem dX12_rule_161 : decode cX12_rule 161 = .ok (.iastore, 1) := by decide +kernel
theorem dX12_rule_162 : decode cX12_rule 162 = .ok (.aload_n 0, 1) := by decide +kernel
theorem dX12_rule_163 : decode cX12_rule 163 = .ok (.invokevirtual 198, 3) := by decide +kernel
theorem dX12_rule_166 : decode cX12_rule 166 = .ok (.goto (-83), 3) := by decide +kernel
theorem dX12_rule_169 : decode cX12_rule 169 = .ok (.aload_n 0, 1) := by decide +kernel
theorem dX12_rule_170 : decode cX12_rule 170 = .ok (.iload_n 2, 1) := by decide +kernel
theorem dX12_rule_171 : decode cX12_rule 171 = .ok (.ifCond .eq 7, 3) := by decide +kernel
theorem dX12_rule_174 : decode cX12_rule 174 = .ok (.iconst (-1), 1) := by decide +kernel
theorem dX12_rule_175 : decode cX12_rule 175 = .ok (.goto 7, 3) := by decide +kernel
theorem dX12_rule_178 : decode cX12_rule 178 = .ok (.aload_n 0, 1) := by decide +kernel
theorem dX12_rule_179 : decode cX12_rule 179 = .ok (.getfield 192, 3) := by decide +kernel
theorem dX12_rule_182 : decode cX12_rule 182 = .ok (.putfield 111, 3) := by decide +kernel
theorem dX12_rule_185 : decode cX12_rule 185 = .ok (.iload_n 2, 1) := by decide +kernel
theorem dX12_rule_186 : decode cX12_rule 186 = .ok (.ifCond .ne 5, 3) := by decide +kernel
theorem dX12_rule_189 : decode cX12_rule 189 = .ok (.iconst (-1), 1) := by decide +kernel
theorem dX12_rule_190 : decode cX12_rule 190 = .ok (.ireturn, 1) := by decide +kernel
theorem dX12_rule_191 : decode cX12_rule 191 = .ok (.aload_n 0, 1) := by decide +kernel
theorem dX12_rule_192 : decode cX12_rule 192 = .ok (.getfield 118, 3) := by decide +kernel
theorem dX12_rule_195 : decode cX12_rule 195 = .ok (.aload_n 0, 1) := by decide +kernel
theorem dX12_rule_196 : decode cX12_rule 196 = .ok (.getfield 233, 3) := by decide +kernel
theorem dX12_rule_199 : decode cX12_rule 199 = .ok (.aload_n 0, 1) := by decide +kernel
theorem dX12_rule_200 : decode cX12_rule 200 = .ok (.getfield 140, 3) := by decide +kernel
theorem dX12_rule_203 : decode cX12_rule 203 = .ok (.iastore, 1) := by decide +kernel
theorem dX12_rule_204 : decode cX12_rule 204 = .ok (.aload_n 0, 1) := by decide +kernel
theorem dX12_rule_205 : decode cX12_rule 205 = .ok (.dup, 1) := by decide +kernel
theorem dX12_rule_206 : decode cX12_rule 206 = .ok (.getfield 233, 3) := by decide +kernel
theorem dX12_rule_209 : decode cX12_rule 209 = .ok (.iconst 1, 1) := by decide +kernel
theorem dX12_rule_210 : decode cX12_rule 210 = .ok (.iadd, 1) := by decide +kernel
theorem dX12_rule_211 : decode cX12_rule 211 = .ok (.putfield 233, 3) := by decide +kernel
theorem dX12_rule_214 : decode cX12_rule 214 = .ok (.aload_n 0, 1) := by decide +kernel
theorem dX12_rule_215 : decode cX12_rule 215 = .ok (.getfield 233, 3) := by decide +kernel
theorem dX12_rule_218 : decode cX12_rule 218 = .ok (.iconst 1, 1) := by decide +kernel
theorem dX12_rule_219 : decode cX12_rule 219 = .ok (.isub, 1) := by decide +kernel
theorem dX12_rule_220 : decode cX12_rule 220 = .ok (.ireturn, 1) := by decide +kernel
theorem dX12_fault_0 : decode cX12_fault 0 = .ok (.aload_n 0, 1) := by decide +kernel
theorem dX12_fault_1 : decode cX12_fault 1 = .ok (.getfield 111, 3) := by decide +kernel
theorem dX12_fault_4 : decode cX12_fault 4 = .ok (.ireturn, 1) := by decide +kernel
theorem dX12_inForce_0 : decode cX12_inForce 0 = .ok (.iconst (-1), 1) := by decide +kernel
theorem dX12_inForce_1 : decode cX12_inForce 1 = .ok (.istore_n 2, 1) := by decide +kernel
theorem dX12_inForce_2 : decode cX12_inForce 2 = .ok (.iconst 0, 1) := by decide +kernel
theorem dX12_inForce_3 : decode cX12_inForce 3 = .ok (.istore_n 3, 1) := by decide +kernel
theorem dX12_inForce_4 : decode cX12_inForce 4 = .ok (.iload_n 3, 1) := by decide +kernel
theorem dX12_inForce_5 : decode cX12_inForce 5 = .ok (.aload_n 0, 1) := by decide +kernel
theorem dX12_inForce_6 : decode cX12_inForce 6 = .ok (.getfield 233, 3) := by decide +kernel
theorem dX12_inForce_9 : decode cX12_inForce 9 = .ok (.if_icmp .ge 21, 3) := by decide +kernel
theorem dX12_inForce_12 : decode cX12_inForce 12 = .ok (.aload_n 0, 1) := by decide +kernel
theorem dX12_inForce_13 : decode cX12_inForce 13 = .ok (.getfield 118, 3) := by decide +kernel
theorem dX12_inForce_16 : decode cX12_inForce 16 = .ok (.iload_n 3, 1) := by decide +kernel
theorem dX12_inForce_17 : decode cX12_inForce 17 = .ok (.iaload, 1) := by decide +kernel
theorem dX12_inForce_18 : decode cX12_inForce 18 = .ok (.iload_n 1, 1) := by decide +kernel
theorem dX12_inForce_19 : decode cX12_inForce 19 = .ok (.if_icmp .gt 5, 3) := by decide +kernel
theorem dX12_inForce_22 : decode cX12_inForce 22 = .ok (.iload_n 3, 1) := by decide +kernel
theorem dX12_inForce_23 : decode cX12_inForce 23 = .ok (.istore_n 2, 1) := by decide +kernel
theorem dX12_inForce_24 : decode cX12_inForce 24 = .ok (.iinc 3 1, 3) := by decide +kernel
theorem dX12_inForce_27 : decode cX12_inForce 27 = .ok (.goto (-23), 3) := by decide +kernel
theorem dX12_inForce_30 : decode cX12_inForce 30 = .ok (.iload_n 2, 1) := by decide +kernel
theorem dX12_inForce_31 : decode cX12_inForce 31 = .ok (.ireturn, 1) := by decide +kernel
set_option maxRecDepth 20000 in
theorem ggX12_isFast_X12_inForce : GoodIn wsX12_isFast wsX12_inForce := goodIn_sub (List.forall_mem_cons.mpr ⟨mc_X12_isFast_r1 _ (List.mem_of_getElem? (i := 8) rfl), List.forall_mem_append.mpr ⟨List.forall_mem_cons.mpr ⟨mc_X12_isFast_r1 _ (List.mem_of_getElem? (i := 9) rfl), List.forall_mem_cons.mpr ⟨mc_X12_isFast_r1 _ (List.mem_of_getElem? (i := 10) rfl), fun _ h => absurd h List.not_mem_nil⟩⟩, tl_X12_isFast_X12⟩⟩) (by decide +kernel)
set_option maxRecDepth 20000 in
theorem gX12_isFast_X12_inForce : GoodIn wsX12_isFast (wsV RX12 239 RX12 yX12_inForce wsX12_inForce) := goodIn_app (goodIn_sub (List.forall_mem_cons.mpr ⟨mc_X12_isFast_r1 _ (List.mem_of_getElem? (i := 4) rfl), List.forall_mem_cons.mpr ⟨mc_X12_isFast_r1 _ (List.mem_of_getElem? (i := 5) rfl), List.forall_mem_cons.mpr ⟨mc_X12_isFast_r1 _ (List.mem_of_getElem? (i := 6) rfl), List.forall_mem_cons.mpr ⟨mc_X12_isFast_r1 _ (List.mem_of_getElem? (i := 7) rfl), fun _ h => absurd h List.not_mem_nil⟩⟩⟩⟩) (by decide +kernel)) ggX12_isFast_X12_inForce
set_option maxRecDepth 20000 in
theorem ggX12_isFast_X12_rankOn : GoodIn wsX12_isFast wsX12_rankOn := goodIn_sub (List.forall_mem_cons.mpr ⟨mc_X12_isFast_r1 _ (List.mem_of_getElem? (i := 14) rfl), List.forall_mem_append.mpr ⟨List.forall_mem_cons.mpr ⟨mc_X12_isFast_r1 _ (List.mem_of_getElem? (i := 15) rfl), List.forall_mem_cons.mpr ⟨mc_X12_isFast_r1 _ (List.mem_of_getElem? (i := 16) rfl), List.forall_mem_cons.mpr ⟨mc_X12_isFast_r1 _ (List.mem_of_getElem? (i := 17) rfl), List.forall_mem_cons.mpr ⟨mc_X12_isFast_r1 _ (List.mem_of_getElem? (i := 18) rfl), List.forall_mem_cons.mpr ⟨mc_X12_isFast_r1 _ (List.mem_of_getElem? (i := 7) rfl), List.forall_mem_cons.mpr ⟨mc_X12_isFast_r1 _ (List.mem_of_getElem? (i := 19) rfl), List.forall_mem_cons.mpr ⟨mc_X12_isFast_r1 _ (List.mem_of_getElem? (i := 20) rfl), List.forall_mem_cons.mpr ⟨mc_X12_isFast_r1 _ (List.mem_of_getElem? (i := 21) rfl), List.forall_mem_cons.mpr ⟨mc_X12_isFast_r1 _ (List.mem_of_getElem? (i := 22) rfl), List.forall_mem_cons.mpr ⟨mc_X12_isFast_r1 _ (List.mem_of_getElem? (i := 23) rfl), List.forall_mem_cons.mpr ⟨mc_X12_isFast_r2 _ (List.mem_of_getElem? (i := 0) rfl), List.forall_mem_cons.mpr ⟨mc_X12_isFast_r2 _ (List.mem_of_getElem? (i := 1) rfl), List.forall_mem_cons.mpr ⟨mc_X12_isFast_r2 _ (List.mem_of_getElem? (i := 2) rfl), List.forall_mem_cons.mpr ⟨mc_X12_isFast_r2 _ (List.mem_of_getElem? (i := 3) rfl), List.forall_mem_cons.mpr ⟨mc_X12_isFast_r2 _ (List.mem_of_getElem? (i := 4) rfl), List.forall_mem_cons.mpr ⟨mc_X12_isFast_r2 _ (List.mem_of_getElem? (i := 5) rfl), List.forall_mem_cons.mpr ⟨mc_X12_isFast_r2 _ (List.mem_of_getElem? (i := 6) rfl), fun _ h => absurd h List.not_mem_nil⟩⟩⟩⟩⟩⟩⟩⟩⟩⟩⟩⟩⟩⟩⟩⟩⟩, tl_X12_isFast_X12⟩⟩) (by decide +kernel)
set_option maxRecDepth 20000 in
theorem gX12_isFast_X12_rankOn : GoodIn wsX12_isFast (wsV RX12 242 RX12 yX12_rankOn wsX12_rankOn) := goodIn_app (goodIn_sub (List.forall_mem_cons.mpr ⟨mc_X12_isFast_r1 _ (List.mem_of_getElem? (i := 11) rfl), List.forall_mem_cons.mpr ⟨mc_X12_isFast_r1 _ (List.mem_of_getElem? (i := 12) rfl), List.forall_mem_cons.mpr ⟨mc_X12_isFast_r1 _ (List.mem_of_getElem? (i := 13) rfl), List.forall_mem_cons.mpr ⟨mc_X12_isFast_r1 _ (List.mem_of_getElem? (i := 7) rfl), fun _ h => absurd h List.not_mem_nil⟩⟩⟩⟩) (by decide +kernel)) ggX12_isFast_X12_rankOn
set_option maxRecDepth 20000 in
theorem ggX12_isFast_X12_isIn : GoodIn wsX12_isFast wsX12_isIn := goodIn_sub (List.forall_mem_cons.mpr ⟨mc_X12_isFast_r1 _ (List.mem_of_getElem? (i := 23) rfl), fun _ h => absurd h List.not_mem_nil⟩) (by decide +kernel)
set_option maxRecDepth 20000 in
theorem gX12_isFast_X12_isIn : GoodIn wsX12_isFast (va_wsS RX12 130 yX12_isIn wsX12_isIn) := goodIn_app (goodIn_sub (List.forall_mem_cons.mpr ⟨mc_X12_isFast_r1 _ (List.mem_of_getElem? (i := 21) rfl), List.forall_mem_cons.mpr ⟨mc_X12_isFast_r1 _ (List.mem_of_getElem? (i := 22) rfl), List.forall_mem_cons.mpr ⟨mc_X12_isFast_r1 _ (List.mem_of_getElem? (i := 7) rfl), fun _ h => absurd h List.not_mem_nil⟩⟩⟩) (by decide +kernel)) ggX12_isFast_X12_isIn
theorem dX12_isFast_0 : decode cX12_isFast 0 = .ok (.aload_n 0, 1) := by decide +kernel
theorem dX12_isFast_1 : decode cX12_isFast 1 = .ok (.iload_n 1, 1) := by decide +kernel
theorem dX12_isFast_2 : decode cX12_isFast 2 = .ok (.invokevirtual 239, 3) := by decide +kernel
theorem dX12_isFast_5 : decode cX12_isFast 5 = .ok (.istore_n 2, 1) := by decide +kernel
theorem dX12_isFast_6 : decode cX12_isFast 6 = .ok (.iload_n 2, 1) := by decide +kernel
theorem dX12_isFast_7 : decode cX12_isFast 7 = .ok (.iconst (-1), 1) := by decide +kernel
theorem dX12_isFast_8 : decode cX12_isFast 8 = .ok (.if_icmp .eq 12, 3) := by decide +kernel
theorem dX12_isFast_11 : decode cX12_isFast 11 = .ok (.aload_n 0, 1) := by decide +kernel
theorem dX12_isFast_12 : decode cX12_isFast 12 = .ok (.iload_n 1, 1) := by decide +kernel
theorem dX12_isFast_13 : decode cX12_isFast 13 = .ok (.invokevirtual 242, 3) := by decide +kernel
theorem dX12_isFast_16 : decode cX12_isFast 16 = .ok (.iconst 3, 1) := by decide +kernel
theorem dX12_isFast_17 : decode cX12_isFast 17 = .ok (.if_icmp .lt 5, 3) := by decide +kernel
theorem dX12_isFast_20 : decode cX12_isFast 20 = .ok (.iconst 0, 1) := by decide +kernel
theorem dX12_isFast_21 : decode cX12_isFast 21 = .ok (.ireturn, 1) := by decide +kernel
theorem dX12_isFast_22 : decode cX12_isFast 22 = .ok (.iload_n 1, 1) := by decide +kernel
theorem dX12_isFast_23 : decode cX12_isFast 23 = .ok (.sipush 365, 3) := by decide +kernel
theorem dX12_isFast_26 : decode cX12_isFast 26 = .ok (.irem, 1) := by decide +kernel
theorem dX12_isFast_27 : decode cX12_isFast 27 = .ok (.istore_n 3, 1) := by decide +kernel
theorem dX12_isFast_28 : decode cX12_isFast 28 = .ok (.iconst 0, 1) := by decide +kernel
theorem dX12_isFast_29 : decode cX12_isFast 29 = .ok (.istore 4, 2) := by decide +kernel
theorem dX12_isFast_31 : decode cX12_isFast 31 = .ok (.bipush 16, 2) := by decide +kernel
theorem dX12_isFast_33 : decode cX12_isFast 33 = .ok (.iload_n 2, 1) := by decide +kernel
theorem dX12_isFast_34 : decode cX12_isFast 34 = .ok (.imul, 1) := by decide +kernel
theorem dX12_isFast_35 : decode cX12_isFast 35 = .ok (.istore 5, 2) := by decide +kernel
theorem dX12_isFast_37 : decode cX12_isFast 37 = .ok (.iload 5, 2) := by decide +kernel
theorem dX12_isFast_39 : decode cX12_isFast 39 = .ok (.bipush 16, 2) := by decide +kernel
theorem dX12_isFast_41 : decode cX12_isFast 41 = .ok (.iload_n 2, 1) := by decide +kernel
theorem dX12_isFast_42 : decode cX12_isFast 42 = .ok (.imul, 1) := by decide +kernel
theorem dX12_isFast_43 : decode cX12_isFast 43 = .ok (.aload_n 0, 1) := by decide +kernel
theorem dX12_isFast_44 : decode cX12_isFast 44 = .ok (.getfield 115, 3) := by decide +kernel
theorem dX12_isFast_47 : decode cX12_isFast 47 = .ok (.iload_n 2, 1) := by decide +kernel
theorem dX12_isFast_48 : decode cX12_isFast 48 = .ok (.iaload, 1) := by decide +kernel
theorem dX12_isFast_49 : decode cX12_isFast 49 = .ok (.iadd, 1) := by decide +kernel
theorem dX12_isFast_50 : decode cX12_isFast 50 = .ok (.if_icmp .ge 114, 3) := by decide +kernel
theorem dX12_isFast_53 : decode cX12_isFast 53 = .ok (.aload_n 0, 1) := by decide +kernel
theorem dX12_isFast_54 : decode cX12_isFast 54 = .ok (.getfield 124, 3) := by decide +kernel
theorem dX12_isFast_57 : decode cX12_isFast 57 = .ok (.iload 5, 2) := by decide +kernel
theorem dX12_isFast_59 : decode cX12_isFast 59 = .ok (.iaload, 1) := by decide +kernel
theorem dX12_isFast_60 : decode cX12_isFast 60 = .ok (.istore 6, 2) := by decide +kernel
theorem dX12_isFast_62 : decode cX12_isFast 62 = .ok (.aload_n 0, 1) := by decide +kernel
theorem dX12_isFast_63 : decode cX12_isFast 63 = .ok (.getfield 127, 3) := by decide +kernel
theorem dX12_isFast_66 : decode cX12_isFast 66 = .ok (.iload 5, 2) := by decide +kernel
theorem dX12_isFast_68 : decode cX12_isFast 68 = .ok (.iaload, 1) := by decide +kernel
theorem dX12_isFast_69 : decode cX12_isFast 69 = .ok (.istore 7, 2) := by decide +kernel
theorem dX12_isFast_71 : decode cX12_isFast 71 = .ok (.aload_n 0, 1) := by decide +kernel
theorem dX12_isFast_72 : decode cX12_isFast 72 = .ok (.getfield 121, 3) := by decide +kernel
theorem dX12_isFast_75 : decode cX12_isFast 75 = .ok (.iload 5, 2) := by decide +kernel
theorem dX12_isFast_77 : decode cX12_isFast 77 = .ok (.iaload, 1) := by decide +kernel
theorem dX12_isFast_78 : decode cX12_isFast 78 = .ok (.ifCond .ne 24, 3) := by decide +kernel
theorem dX12_isFast_81 : decode cX12_isFast 81 = .ok (.iload 4, 2) := by decide +kernel
theorem dX12_isFast_83 : decode cX12_isFast 83 = .ok (.ifCond .ne 12, 3) := by decide +kernel
theorem dX12_isFast_86 : decode cX12_isFast 86 = .ok (.iload 6, 2) := by decide +kernel
theorem dX12_isFast_88 : decode cX12_isFast 88 = .ok (.iload_n 1, 1) := by decide +kernel
theorem dX12_isFast_89 : decode cX12_isFast 89 = .ok (.bipush 7, 2) := by decide +kernel
theorem dX12_isFast_91 : decode cX12_isFast 91 = .ok (.irem, 1) := by decide +kernel
theorem dX12_isFast_92 : decode cX12_isFast 92 = .ok (.if_icmp .ne 7, 3) := by decide +kernel
theorem dX12_isFast_95 : decode cX12_isFast 95 = .ok (.iconst 1, 1) := by decide +kernel
theorem dX12_isFast_96 : decode cX12_isFast 96 = .ok (.goto 4, 3) := by decide +kernel
theorem dX12_isFast_99 : decode cX12_isFast 99 = .ok (.iconst 0, 1) := by decide +kernel
theorem dX12_isFast_100 : decode cX12_isFast 100 = .ok (.istore 4, 2) := by decide +kernel
theorem dX12_isFast_102 : decode cX12_isFast 102 = .ok (.aload_n 0, 1) := by decide +kernel
theorem dX12_isFast_103 : decode cX12_isFast 103 = .ok (.getfield 121, 3) := by decide +kernel
theorem dX12_isFast_106 : decode cX12_isFast 106 = .ok (.iload 5, 2) := by decide +kernel
theorem dX12_isFast_108 : decode cX12_isFast 108 = .ok (.iaload, 1) := by decide +kernel
theorem dX12_isFast_109 : decode cX12_isFast 109 = .ok (.iconst 1, 1) := by decide +kernel
theorem dX12_isFast_110 : decode cX12_isFast 110 = .ok (.if_icmp .ne 48, 3) := by decide +kernel
theorem dX12_isFast_113 : decode cX12_isFast 113 = .ok (.iload 4, 2) := by decide +kernel
theorem dX12_isFast_115 : decode cX12_isFast 115 = .ok (.ifCond .ne 36, 3) := by decide +kernel
theorem dX12_isFast_118 : decode cX12_isFast 118 = .ok (.iload 6, 2) := by decide +kernel
theorem dX12_isFast_120 : decode cX12_isFast 120 = .ok (.iload 7, 2) := by decide +kernel
theorem dX12_isFast_122 : decode cX12_isFast 122 = .ok (.if_icmp .gt 17, 3) := by decide +kernel
theorem dX12_isFast_125 : decode cX12_isFast 125 = .ok (.iload_n 3, 1) := by decide +kernel
theorem dX12_isFast_126 : decode cX12_isFast 126 = .ok (.iload 6, 2) := by decide +kernel
theorem dX12_isFast_128 : decode cX12_isFast 128 = .ok (.iload 7, 2) := by decide +kernel
theorem dX12_isFast_130 : decode cX12_isFast 130 = .ok (.invokestatic 130, 3) := by decide +kernel
theorem dX12_isFast_133 : decode cX12_isFast 133 = .ok (.ifCond .eq 22, 3) := by decide +kernel
theorem dX12_isFast_136 : decode cX12_isFast 136 = .ok (.goto 15, 3) := by decide +kernel
theorem dX12_isFast_139 : decode cX12_isFast 139 = .ok (.iload_n 3, 1) := by decide +kernel
theorem dX12_isFast_140 : decode cX12_isFast 140 = .ok (.iload 6, 2) := by decide +kernel
theorem dX12_isFast_142 : decode cX12_isFast 142 = .ok (.if_icmp .ge 9, 3) := by decide +kernel
theorem dX12_isFast_145 : decode cX12_isFast 145 = .ok (.iload_n 3, 1) := by decide +kernel
theorem dX12_isFast_146 : decode cX12_isFast 146 = .ok (.iload 7, 2) := by decide +kernel
theorem dX12_isFast_148 : decode cX12_isFast 148 = .ok (.if_icmp .gt 7, 3) := by decide +kernel
theorem dX12_isFast_151 : decode cX12_isFast 151 = .ok (.iconst 1, 1) := by decide +kernel
theorem dX12_isFast_152 : decode cX12_isFast 152 = .ok (.goto 4, 3) := by decide +kernel
theorem dX12_isFast_155 : decode cX12_isFast 155 = .ok (.iconst 0, 1) := by decide +kernel
theorem dX12_isFast_156 : decode cX12_isFast 156 = .ok (.istore 4, 2) := by decide +kernel
theorem dX12_isFast_158 : decode cX12_isFast 158 = .ok (.iinc 5 1, 3) := by decide +kernel
theorem dX12_isFast_161 : decode cX12_isFast 161 = .ok (.goto (-124), 3) := by decide +kernel
theorem dX12_isFast_164 : decode cX12_isFast 164 = .ok (.iload 4, 2) := by decide +kernel
theorem dX12_isFast_166 : decode cX12_isFast 166 = .ok (.ireturn, 1) := by decide +kernel
theorem dX12_lastOf_0 : decode cX12_lastOf 0 = .ok (.iconst (-1), 1) := by decide +kernel
theorem dX12_lastOf_1 : decode cX12_lastOf 1 = .ok (.istore 4, 2) := by decide +kernel
theorem dX12_lastOf_3 : decode cX12_lastOf 3 = .ok (.bipush 16, 2) := by decide +kernel
theorem dX12_lastOf_5 : decode cX12_lastOf 5 = .ok (.iload_n 1, 1) := by decide +kernel
theorem dX12_lastOf_6 : decode cX12_lastOf 6 = .ok (.imul, 1) := by decide +kernel
theorem dX12_lastOf_7 : decode cX12_lastOf 7 = .ok (.istore 5, 2) := by decide +kernel
theorem dX12_lastOf_9 : decode cX12_lastOf 9 = .ok (.iload_n 1, 1) := by decide +kernel
theorem dX12_lastOf_10 : decode cX12_lastOf 10 = .ok (.iconst (-1), 1) := by decide +kernel
theorem dX12_lastOf_11 : decode cX12_lastOf 11 = .ok (.if_icmp .eq 61, 3) := by decide +kernel
theorem dX12_lastOf_14 : decode cX12_lastOf 14 = .ok (.iload 5, 2) := by decide +kernel
theorem dX12_lastOf_16 : decode cX12_lastOf 16 = .ok (.bipush 16, 2) := by decide +kernel
theorem dX12_lastOf_18 : decode cX12_lastOf 18 = .ok (.iload_n 1, 1) := by decide +kernel
theorem dX12_lastOf_19 : decode cX12_lastOf 19 = .ok (.imul, 1) := by decide +kernel
theorem dX12_lastOf_20 : decode cX12_lastOf 20 = .ok (.aload_n 0, 1) := by decide +kernel
theorem dX12_lastOf_21 : decode cX12_lastOf 21 = .ok (.getfield 115, 3) := by decide +kernel
theorem dX12_lastOf_24 : decode cX12_lastOf 24 = .ok (.iload_n 1, 1) := by decide +kernel
theorem dX12_lastOf_25 : decode cX12_lastOf 25 = .ok (.iaload, 1) := by decide +kernel
theorem dX12_lastOf_26 : decode cX12_lastOf 26 = .ok (.iadd, 1) := by decide +kernel
theorem dX12_lastOf_27 : decode cX12_lastOf 27 = .ok (.if_icmp .ge 45, 3) := by decide +kernel
theorem dX12_lastOf_30 : decode cX12_lastOf 30 = .ok (.aload_n 0, 1) := by decide +kernel
theorem dX12_lastOf_31 : decode cX12_lastOf 31 = .ok (.getfield 121, 3) := by decide +kernel
theorem dX12_lastOf_34 : decode cX12_lastOf 34 = .ok (.iload 5, 2) := by decide +kernel
theorem dX12_lastOf_36 : decode cX12_lastOf 36 = .ok (.iaload, 1) := by decide +kernel
theorem dX12_lastOf_37 : decode cX12_lastOf 37 = .ok (.iload_n 2, 1) := by decide +kernel
theorem dX12_lastOf_38 : decode cX12_lastOf 38 = .ok (.if_icmp .ne 28, 3) := by decide +kernel
theorem dX12_lastOf_41 : decode cX12_lastOf 41 = .ok (.iload_n 2, 1) := by decide +kernel
theorem dX12_lastOf_42 : decode cX12_lastOf 42 = .ok (.iconst 3, 1) := by decide +kernel
theorem dX12_lastOf_43 : decode cX12_lastOf 43 = .ok (.if_icmp .ne 14, 3) := by decide +kernel
theorem dX12_lastOf_46 : decode cX12_lastOf 46 = .ok (.aload_n 0, 1) := by decide +kernel
theorem dX12_lastOf_47 : decode cX12_lastOf 47 = .ok (.getfield 124, 3) := by decide +kernel
theorem dX12_lastOf_50 : decode cX12_lastOf 50 = .ok (.iload 5, 2) := by decide +kernel
theorem dX12_lastOf_52 : decode cX12_lastOf 52 = .ok (.iaload, 1) := by decide +kernel
theorem dX12_lastOf_53 : decode cX12_lastOf 53 = .ok (.iload_n 3, 1) := by decide +kernel
theorem dX12_lastOf_54 : decode cX12_lastOf 54 = .ok (.if_icmp .ne 12, 3) := by decide +kernel
theorem dX12_lastOf_57 : decode cX12_lastOf 57 = .ok (.aload_n 0, 1) := by decide +kernel
theorem dX12_lastOf_58 : decode cX12_lastOf 58 = .ok (.getfield 127, 3) := by decide +kernel
theorem dX12_lastOf_61 : decode cX12_lastOf 61 = .ok (.iload 5, 2) := by decide +kernel
theorem dX12_lastOf_63 : decode cX12_lastOf 63 = .ok (.iaload, 1) := by decide +kernel
theorem dX12_lastOf_64 : decode cX12_lastOf 64 = .ok (.istore 4, 2) := by decide +kernel
theorem dX12_lastOf_66 : decode cX12_lastOf 66 = .ok (.iinc 5 1, 3) := by decide +kernel
theorem dX12_lastOf_69 : decode cX12_lastOf 69 = .ok (.goto (-60), 3) := by decide +kernel
theorem dX12_lastOf_72 : decode cX12_lastOf 72 = .ok (.iload 4, 2) := by decide +kernel
theorem dX12_lastOf_74 : decode cX12_lastOf 74 = .ok (.ireturn, 1) := by decide +kernel
set_option maxRecDepth 20000 in
theorem ggX12_headFeed_X12_inForce : GoodIn wsX12_headFeed wsX12_inForce := goodIn_sub (List.forall_mem_cons.mpr ⟨mc_X12_headFeed_r1 _ (List.mem_of_getElem? (i := 4) rfl), List.forall_mem_append.mpr ⟨List.forall_mem_cons.mpr ⟨mc_X12_headFeed_r1 _ (List.mem_of_getElem? (i := 5) rfl), List.forall_mem_cons.mpr ⟨mc_X12_headFeed_r1 _ (List.mem_of_getElem? (i := 6) rfl), fun _ h => absurd h List.not_mem_nil⟩⟩, tl_X12_headFeed_X12⟩⟩) (by decide +kernel)
set_option maxRecDepth 20000 in
theorem gX12_headFeed_X12_inForce : GoodIn wsX12_headFeed (wsV RX12 239 RX12 yX12_inForce wsX12_inForce) := goodIn_app (goodIn_sub (List.forall_mem_cons.mpr ⟨mc_X12_headFeed_r1 _ (List.mem_of_getElem? (i := 0) rfl), List.forall_mem_cons.mpr ⟨mc_X12_headFeed_r1 _ (List.mem_of_getElem? (i := 1) rfl), List.forall_mem_cons.mpr ⟨mc_X12_headFeed_r1 _ (List.mem_of_getElem? (i := 2) rfl), List.forall_mem_cons.mpr ⟨mc_X12_headFeed_r1 _ (List.mem_of_getElem? (i := 3) rfl), fun _ h => absurd h List.not_mem_nil⟩⟩⟩⟩) (by decide +kernel)) ggX12_headFeed_X12_inForce
set_option maxRecDepth 20000 in
theorem mm_X12_headFeed_X12_isFast_r1 : ∀ w ∈ wsX12_isFast_r1, w ∈ wsX12_headFeed := List.forall_mem_cons.mpr ⟨mc_X12_headFeed_r1 _ (List.mem_of_getElem? (i := 11) rfl), List.forall_mem_cons.mpr ⟨mc_X12_headFeed_r1 _ (List.mem_of_getElem? (i := 12) rfl), List.forall_mem_cons.mpr ⟨mc_X12_headFeed_r1 _ (List.mem_of_getElem? (i := 13) rfl), List.forall_mem_cons.mpr ⟨mc_X12_headFeed_r1 _ (List.mem_of_getElem? (i := 14) rfl), List.forall_mem_cons.mpr ⟨mc_X12_headFeed_r1 _ (List.mem_of_getElem? (i := 0) rfl), List.forall_mem_cons.mpr ⟨mc_X12_headFeed_r1 _ (List.mem_of_getElem? (i := 1) rfl), List.forall_mem_cons.mpr ⟨mc_X12_headFeed_r1 _ (List.mem_of_getElem? (i := 2) rfl), List.forall_mem_cons.mpr ⟨mc_X12_headFeed_r1 _ (List.mem_of_getElem? (i := 3) rfl), List.forall_mem_cons.mpr ⟨mc_X12_headFeed_r1 _ (List.mem_of_getElem? (i := 4) rfl), List.forall_mem_cons.mpr ⟨mc_X12_headFeed_r1 _ (List.mem_of_getElem? (i := 5) rfl), List.forall_mem_cons.mpr ⟨mc_X12_headFeed_r1 _ (List.mem_of_getElem? (i := 6) rfl), List.forall_mem_cons.mpr ⟨mc_X12_headFeed_r1 _ (List.mem_of_getElem? (i := 15) rfl), List.forall_mem_cons.mpr ⟨mc_X12_headFeed_r1 _ (List.mem_of_getElem? (i := 16) rfl), List.forall_mem_cons.mpr ⟨mc_X12_headFeed_r1 _ (List.mem_of_getElem? (i := 17) rfl), List.forall_mem_cons.mpr ⟨mc_X12_headFeed_r1 _ (List.mem_of_getElem? (i := 18) rfl), List.forall_mem_cons.mpr ⟨mc_X12_headFeed_r1 _ (List.mem_of_getElem? (i := 19) rfl), List.forall_mem_cons.mpr ⟨mc_X12_headFeed_r1 _ (List.mem_of_getElem? (i := 20) rfl), List.forall_mem_cons.mpr ⟨mc_X12_headFeed_r1 _ (List.mem_of_getElem? (i := 21) rfl), List.forall_mem_cons.mpr ⟨mc_X12_headFeed_r1 _ (List.mem_of_getElem? (i := 22) rfl), List.forall_mem_cons.mpr ⟨mc_X12_headFeed_r1 _ (List.mem_of_getElem? (i := 23) rfl), List.forall_mem_cons.mpr ⟨mc_X12_headFeed_r2 _ (List.mem_of_getElem? (i := 0) rfl), List.forall_mem_cons.mpr ⟨mc_X12_headFeed_r2 _ (List.mem_of_getElem? (i := 1) rfl), List.forall_mem_cons.mpr ⟨mc_X12_headFeed_r2 _ (List.mem_of_getElem? (i := 2) rfl), List.forall_mem_cons.mpr ⟨mc_X12_headFeed_r2 _ (List.mem_of_getElem? (i := 3) rfl), fun _ h => absurd h List.not_mem_nil⟩⟩⟩⟩⟩⟩⟩⟩⟩⟩⟩⟩⟩⟩⟩⟩⟩⟩⟩⟩⟩⟩⟩⟩
set_option maxRecDepth 20000 in
theorem mm_X12_headFeed_X12_isFast_r2 : ∀ w ∈ wsX12_isFast_r2, w ∈ wsX12_headFeed := List.forall_mem_cons.mpr ⟨mc_X12_headFeed_r2 _ (List.mem_of_getElem? (i := 4) rfl), List.forall_mem_cons.mpr ⟨mc_X12_headFeed_r2 _ (List.mem_of_getElem? (i := 5) rfl), List.forall_mem_cons.mpr ⟨mc_X12_headFeed_r2 _ (List.mem_of_getElem? (i := 6) rfl), List.forall_mem_cons.mpr ⟨mc_X12_headFeed_r2 _ (List.mem_of_getElem? (i := 7) rfl), List.forall_mem_cons.mpr ⟨mc_X12_headFeed_r2 _ (List.mem_of_getElem? (i := 8) rfl), List.forall_mem_cons.mpr ⟨mc_X12_headFeed_r2 _ (List.mem_of_getElem? (i := 9) rfl), List.forall_mem_cons.mpr ⟨mc_X12_headFeed_r2 _ (List.mem_of_getElem? (i := 10) rfl), fun _ h => absurd h List.not_mem_nil⟩⟩⟩⟩⟩⟩⟩
set_option maxRecDepth 20000 in
theorem ggX12_headFeed_X12_isFast : GoodIn wsX12_headFeed wsX12_isFast := goodIn_sub (List.forall_mem_cons.mpr ⟨mc_X12_headFeed_r1 _ (List.mem_of_getElem? (i := 10) rfl), List.forall_mem_append.mpr ⟨List.forall_mem_append.mpr ⟨mm_X12_headFeed_X12_isFast_r1, mm_X12_headFeed_X12_isFast_r2⟩, tl_X12_headFeed_X12⟩⟩) (by decide +kernel)
set_option maxRecDepth 20000 in
theorem gX12_headFeed_X12_isFast : GoodIn wsX12_headFeed (wsV RX12 245 RX12 yX12_isFast wsX12_isFast) := goodIn_app (goodIn_sub (List.forall_mem_cons.mpr ⟨mc_X12_headFeed_r1 _ (List.mem_of_getElem? (i := 7) rfl), List.forall_mem_cons.mpr ⟨mc_X12_headFeed_r1 _ (List.mem_of_getElem? (i := 8) rfl), List.forall_mem_cons.mpr ⟨mc_X12_headFeed_r1 _ (List.mem_of_getElem? (i := 9) rfl), List.forall_mem_cons.mpr ⟨mc_X12_headFeed_r1 _ (List.mem_of_getElem? (i := 3) rfl), fun _ h => absurd h List.not_mem_nil⟩⟩⟩⟩) (by decide +kernel)) ggX12_headFeed_X12_isFast
set_option maxRecDepth 20000 in
theorem ggX12_headFeed_X12_lastOf : GoodIn wsX12_headFeed wsX12_lastOf := goodIn_sub (List.forall_mem_cons.mpr ⟨mc_X12_headFeed_r2 _ (List.mem_of_getElem? (i := 14) rfl), List.forall_mem_append.mpr ⟨List.forall_mem_cons.mpr ⟨mc_X12_headFeed_r1 _ (List.mem_of_getElem? (i := 11) rfl), List.forall_mem_cons.mpr ⟨mc_X12_headFeed_r1 _ (List.mem_of_getElem? (i := 14) rfl), List.forall_mem_cons.mpr ⟨mc_X12_headFeed_r1 _ (List.mem_of_getElem? (i := 12) rfl), List.forall_mem_cons.mpr ⟨mc_X12_headFeed_r1 _ (List.mem_of_getElem? (i := 13) rfl), fun _ h => absurd h List.not_mem_nil⟩⟩⟩⟩, tl_X12_headFeed_X12⟩⟩) (by decide +kernel)
set_option maxRecDepth 20000 in
theorem gX12_headFeed_X12_lastOf : GoodIn wsX12_headFeed (wsV RX12 248 RX12 yX12_lastOf wsX12_lastOf) := goodIn_app (goodIn_sub (List.forall_mem_cons.mpr ⟨mc_X12_headFeed_r2 _ (List.mem_of_getElem? (i := 11) rfl), List.forall_mem_cons.mpr ⟨mc_X12_headFeed_r2 _ (List.mem_of_getElem? (i := 12) rfl), List.forall_mem_cons.mpr ⟨mc_X12_headFeed_r2 _ (List.mem_of_getElem? (i := 13) rfl), List.forall_mem_cons.mpr ⟨mc_X12_headFeed_r1 _ (List.mem_of_getElem? (i := 3) rfl), fun _ h => absurd h List.not_mem_nil⟩⟩⟩⟩) (by decide +kernel)) ggX12_headFeed_X12_lastOf
set_option maxRecDepth 20000 in
theorem ggX12_headFeed_X12_rankOn : GoodIn wsX12_headFeed wsX12_rankOn := goodIn_sub (List.forall_mem_cons.mpr ⟨mc_X12_headFeed_r1 _ (List.mem_of_getElem? (i := 18) rfl), List.forall_mem_append.mpr ⟨List.forall_mem_cons.mpr ⟨mc_X12_headFeed_r1 _ (List.mem_of_getElem? (i := 19) rfl), List.forall_mem_cons.mpr ⟨mc_X12_headFeed_r1 _ (List.mem_of_getElem? (i := 20) rfl), List.forall_mem_cons.mpr ⟨mc_X12_headFeed_r1 _ (List.mem_of_getElem? (i := 21) rfl), List.forall_mem_cons.mpr ⟨mc_X12_headFeed_r1 _ (List.mem_of_getElem? (i := 22) rfl), List.forall_mem_cons.mpr ⟨mc_X12_headFeed_r1 _ (List.mem_of_getElem? (i := 3) rfl), List.forall_mem_cons.mpr ⟨mc_X12_headFeed_r1 _ (List.mem_of_getElem? (i := 23) rfl), List.forall_mem_cons.mpr ⟨mc_X12_headFeed_r2 _ (List.mem_of_getElem? (i := 0) rfl), List.forall_mem_cons.mpr ⟨mc_X12_headFeed_r2 _ (List.mem_of_getElem? (i := 1) rfl), List.forall_mem_cons.mpr ⟨mc_X12_headFeed_r2 _ (List.mem_of_getElem? (i := 2) rfl), List.forall_mem_cons.mpr ⟨mc_X12_headFeed_r2 _ (List.mem_of_getElem? (i := 3) rfl), List.forall_mem_cons.mpr ⟨mc_X12_headFeed_r2 _ (List.mem_of_getElem? (i := 4) rfl), List.forall_mem_cons.mpr ⟨mc_X12_headFeed_r2 _ (List.mem_of_getElem? (i := 5) rfl), List.forall_mem_cons.mpr ⟨mc_X12_headFeed_r2 _ (List.mem_of_getElem? (i := 6) rfl), List.forall_mem_cons.mpr ⟨mc_X12_headFeed_r2 _ (List.mem_of_getElem? (i := 7) rfl), List.forall_mem_cons.mpr ⟨mc_X12_headFeed_r2 _ (List.mem_of_getElem? (i := 8) rfl), List.forall_mem_cons.mpr ⟨mc_X12_headFeed_r2 _ (List.mem_of_getElem? (i := 9) rfl), List.forall_mem_cons.mpr ⟨mc_X12_headFeed_r2 _ (List.mem_of_getElem? (i := 10) rfl), fun _ h => absurd h List.not_mem_nil⟩⟩⟩⟩⟩⟩⟩⟩⟩⟩⟩⟩⟩⟩⟩⟩⟩, tl_X12_headFeed_X12⟩⟩) (by decide +kernel)
set_option maxRecDepth 20000 in
theorem gX12_headFeed_X12_rankOn : GoodIn wsX12_headFeed (wsV RX12 242 RX12 yX12_rankOn wsX12_rankOn) := goodIn_app (goodIn_sub (List.forall_mem_cons.mpr ⟨mc_X12_headFeed_r1 _ (List.mem_of_getElem? (i := 15) rfl), List.forall_mem_cons.mpr ⟨mc_X12_headFeed_r1 _ (List.mem_of_getElem? (i := 16) rfl), List.forall_mem_cons.mpr ⟨mc_X12_headFeed_r1 _ (List.mem_of_getElem? (i := 17) rfl), List.forall_mem_cons.mpr ⟨mc_X12_headFeed_r1 _ (List.mem_of_getElem? (i := 3) rfl), fun _ h => absurd h List.not_mem_nil⟩⟩⟩⟩) (by decide +kernel)) ggX12_headFeed_X12_rankOn
theorem dX12_headFeed_0 : decode cX12_headFeed 0 = .ok (.aload_n 0, 1) := by decide +kernel
theorem dX12_headFeed_1 : decode cX12_headFeed 1 = .ok (.iload_n 1, 1) := by decide +kernel
theorem dX12_headFeed_2 : decode cX12_headFeed 2 = .ok (.invokevirtual 239, 3) := by decide +kernel
theorem dX12_headFeed_5 : decode cX12_headFeed 5 = .ok (.istore_n 2, 1) := by decide +kernel
theorem dX12_headFeed_6 : decode cX12_headFeed 6 = .ok (.aload_n 0, 1) := by decide +kernel
theorem dX12_headFeed_7 : decode cX12_headFeed 7 = .ok (.iload_n 1, 1) := by decide +kernel
theorem dX12_headFeed_8 : decode cX12_headFeed 8 = .ok (.invokevirtual 245, 3) := by decide +kernel
theorem dX12_headFeed_11 : decode cX12_headFeed 11 = .ok (.ifCond .eq 13, 3) := by decide +kernel
theorem dX12_headFeed_14 : decode cX12_headFeed 14 = .ok (.aload_n 0, 1) := by decide +kernel
theorem dX12_headFeed_15 : decode cX12_headFeed 15 = .ok (.iload_n 2, 1) := by decide +kernel
theorem dX12_headFeed_16 : decode cX12_headFeed 16 = .ok (.iconst 2, 1) := by decide +kernel
theorem dX12_headFeed_17 : decode cX12_headFeed 17 = .ok (.iconst 0, 1) := by decide +kernel
theorem dX12_headFeed_18 : decode cX12_headFeed 18 = .ok (.invokevirtual 248, 3) := by decide +kernel
theorem dX12_headFeed_21 : decode cX12_headFeed 21 = .ok (.goto 4, 3) := by decide +kernel
theorem dX12_headFeed_24 : decode cX12_headFeed 24 = .ok (.iconst (-1), 1) := by decide +kernel
theorem dX12_headFeed_25 : decode cX12_headFeed 25 = .ok (.istore_n 3, 1) := by decide +kernel
theorem dX12_headFeed_26 : decode cX12_headFeed 26 = .ok (.iload_n 3, 1) := by decide +kernel
theorem dX12_headFeed_27 : decode cX12_headFeed 27 = .ok (.iconst (-1), 1) := by decide +kernel
theorem dX12_headFeed_28 : decode cX12_headFeed 28 = .ok (.if_icmp .ne 23, 3) := by decide +kernel
theorem dX12_headFeed_31 : decode cX12_headFeed 31 = .ok (.aload_n 0, 1) := by decide +kernel
theorem dX12_headFeed_32 : decode cX12_headFeed 32 = .ok (.iload_n 1, 1) := by decide +kernel
theorem dX12_headFeed_33 : decode cX12_headFeed 33 = .ok (.invokevirtual 242, 3) := by decide +kernel
theorem dX12_headFeed_36 : decode cX12_headFeed 36 = .ok (.ifCond .le 15, 3) := by decide +kernel
theorem dX12_headFeed_39 : decode cX12_headFeed 39 = .ok (.aload_n 0, 1) := by decide +kernel
theorem dX12_headFeed_40 : decode cX12_headFeed 40 = .ok (.iload_n 2, 1) := by decide +kernel
theorem dX12_headFeed_41 : decode cX12_headFeed 41 = .ok (.iconst 3, 1) := by decide +kernel
theorem dX12_headFeed_42 : decode cX12_headFeed 42 = .ok (.aload_n 0, 1) := by decide +kernel
theorem dX12_headFeed_43 : decode cX12_headFeed 43 = .ok (.iload_n 1, 1) := by decide +kernel
theorem dX12_headFeed_44 : decode cX12_headFeed 44 = .ok (.invokevirtual 242, 3) := by decide +kernel
theorem dX12_headFeed_47 : decode cX12_headFeed 47 = .ok (.invokevirtual 248, 3) := by decide +kernel
theorem dX12_headFeed_50 : decode cX12_headFeed 50 = .ok (.istore_n 3, 1) := by decide +kernel
theorem dX12_headFeed_51 : decode cX12_headFeed 51 = .ok (.iload_n 3, 1) := by decide +kernel
theorem dX12_headFeed_52 : decode cX12_headFeed 52 = .ok (.iconst (-1), 1) := by decide +kernel
theorem dX12_headFeed_53 : decode cX12_headFeed 53 = .ok (.if_icmp .ne 11, 3) := by decide +kernel
theorem dX12_headFeed_56 : decode cX12_headFeed 56 = .ok (.aload_n 0, 1) := by decide +kernel
theorem dX12_headFeed_57 : decode cX12_headFeed 57 = .ok (.iload_n 2, 1) := by decide +kernel
theorem dX12_headFeed_58 : decode cX12_headFeed 58 = .ok (.iconst 5, 1) := by decide +kernel
theorem dX12_headFeed_59 : decode cX12_headFeed 59 = .ok (.iconst 0, 1) := by decide +kernel
theorem dX12_headFeed_60 : decode cX12_headFeed 60 = .ok (.invokevirtual 248, 3) := by decide +kernel
theorem dX12_headFeed_63 : decode cX12_headFeed 63 = .ok (.istore_n 3, 1) := by decide +kernel
theorem dX12_headFeed_64 : decode cX12_headFeed 64 = .ok (.iload_n 3, 1) := by decide +kernel
theorem dX12_headFeed_65 : decode cX12_headFeed 65 = .ok (.iconst (-1), 1) := by decide +kernel
theorem dX12_headFeed_66 : decode cX12_headFeed 66 = .ok (.if_icmp .ne 7, 3) := by decide +kernel
theorem dX12_headFeed_69 : decode cX12_headFeed 69 = .ok (.iconst 2, 1) := by decide +kernel
theorem dX12_headFeed_70 : decode cX12_headFeed 70 = .ok (.goto 4, 3) := by decide +kernel
theorem dX12_headFeed_73 : decode cX12_headFeed 73 = .ok (.iload_n 3, 1) := by decide +kernel
theorem dX12_headFeed_74 : decode cX12_headFeed 74 = .ok (.ireturn, 1) := by decide +kernel
set_option maxRecDepth 20000 in
theorem ggX12_guestFeed_X12_inForce : GoodIn wsX12_guestFeed wsX12_inForce := goodIn_sub (List.forall_mem_cons.mpr ⟨List.mem_cons_of_mem _ (List.mem_append_left _ (List.mem_of_getElem? (i := 4) rfl)), List.forall_mem_append.mpr ⟨List.forall_mem_cons.mpr ⟨List.mem_cons_of_mem _ (List.mem_append_left _ (List.mem_of_getElem? (i := 5) rfl)), List.forall_mem_cons.mpr ⟨List.mem_cons_of_mem _ (List.mem_append_left _ (List.mem_of_getElem? (i := 6) rfl)), fun _ h => absurd h List.not_mem_nil⟩⟩, tl_X12_guestFeed_X12⟩⟩) (by decide +kernel)
set_option maxRecDepth 20000 in
theorem gX12_guestFeed_X12_inForce : GoodIn wsX12_guestFeed (wsV RX12 239 RX12 yX12_inForce wsX12_inForce) := goodIn_app (goodIn_sub (List.forall_mem_cons.mpr ⟨List.mem_cons_of_mem _ (List.mem_append_left _ (List.mem_of_getElem? (i := 0) rfl)), List.forall_mem_cons.mpr ⟨List.mem_cons_of_mem _ (List.mem_append_left _ (List.mem_of_getElem? (i := 1) rfl)), List.forall_mem_cons.mpr ⟨List.mem_cons_of_mem _ (List.mem_append_left _ (List.mem_of_getElem? (i := 2) rfl)), List.forall_mem_cons.mpr ⟨List.mem_cons_of_mem _ (List.mem_append_left _ (List.mem_of_getElem? (i := 3) rfl)), fun _ h => absurd h List.not_mem_nil⟩⟩⟩⟩) (by decide +kernel)) ggX12_guestFeed_X12_inForce
set_option maxRecDepth 20000 in
theorem ggX12_guestFeed_X12_lastOf : GoodIn wsX12_guestFeed wsX12_lastOf := goodIn_sub (List.forall_mem_cons.mpr ⟨List.mem_cons_of_mem _ (List.mem_append_left _ (List.mem_of_getElem? (i := 10) rfl)), List.forall_mem_append.mpr ⟨List.forall_mem_cons.mpr ⟨List.mem_cons_of_mem _ (List.mem_append_left _ (List.mem_of_getElem? (i := 11) rfl)), List.forall_mem_cons.mpr ⟨List.mem_cons_of_mem _ (List.mem_append_left _ (List.mem_of_getElem? (i := 12) rfl)), List.forall_mem_cons.mpr ⟨List.mem_cons_of_mem _ (List.mem_append_left _ (List.mem_of_getElem? (i := 13) rfl)), List.forall_mem_cons.mpr ⟨List.mem_cons_of_mem _ (List.mem_append_left _ (List.mem_of_getElem? (i := 14) rfl)), fun _ h => absurd h List.not_mem_nil⟩⟩⟩⟩, tl_X12_guestFeed_X12⟩⟩) (by decide +kernel)
set_option maxRecDepth 20000 in
theorem gX12_guestFeed_X12_lastOf : GoodIn wsX12_guestFeed (wsV RX12 248 RX12 yX12_lastOf wsX12_lastOf) := goodIn_app (goodIn_sub (List.forall_mem_cons.mpr ⟨List.mem_cons_of_mem _ (List.mem_append_left _ (List.mem_of_getElem? (i := 7) rfl)), List.forall_mem_cons.mpr ⟨List.mem_cons_of_mem _ (List.mem_append_left _ (List.mem_of_getElem? (i := 8) rfl)), List.forall_mem_cons.mpr ⟨List.mem_cons_of_mem _ (List.mem_append_left _ (List.mem_of_getElem? (i := 9) rfl)), List.forall_mem_cons.mpr ⟨List.mem_cons_of_mem _ (List.mem_append_left _ (List.mem_of_getElem? (i := 3) rfl)), fun _ h => absurd h List.not_mem_nil⟩⟩⟩⟩) (by decide +kernel)) ggX12_guestFeed_X12_lastOf
theorem dX12_guestFeed_0 : decode cX12_guestFeed 0 = .ok (.aload_n 0, 1) := by decide +kernel
theorem dX12_guestFeed_1 : decode cX12_guestFeed 1 = .ok (.aload_n 0, 1) := by decide +kernel
theorem dX12_guestFeed_2 : decode cX12_guestFeed 2 = .ok (.iload_n 1, 1) := by decide +kernel
theorem dX12_guestFeed_3 : decode cX12_guestFeed 3 = .ok (.invokevirtual 239, 3) := by decide +kernel
theorem dX12_guestFeed_6 : decode cX12_guestFeed 6 = .ok (.iconst 4, 1) := by decide +kernel
theorem dX12_guestFeed_7 : decode cX12_guestFeed 7 = .ok (.iconst 0, 1) := by decide +kernel
theorem dX12_guestFeed_8 : decode cX12_guestFeed 8 = .ok (.invokevirtual 248, 3) := by decide +kernel
theorem dX12_guestFeed_11 : decode cX12_guestFeed 11 = .ok (.istore_n 2, 1) := by decide +kernel
theorem dX12_guestFeed_12 : decode cX12_guestFeed 12 = .ok (.iload_n 2, 1) := by decide +kernel
theorem dX12_guestFeed_13 : decode cX12_guestFeed 13 = .ok (.iconst (-1), 1) := by decide +kernel
theorem dX12_guestFeed_14 : decode cX12_guestFeed 14 = .ok (.if_icmp .ne 7, 3) := by decide +kernel
theorem dX12_guestFeed_17 : decode cX12_guestFeed 17 = .ok (.iconst 3, 1) := by decide +kernel
theorem dX12_guestFeed_18 : decode cX12_guestFeed 18 = .ok (.goto 4, 3) := by decide +kernel
theorem dX12_guestFeed_21 : decode cX12_guestFeed 21 = .ok (.iload_n 2, 1) := by decide +kernel
theorem dX12_guestFeed_22 : decode cX12_guestFeed 22 = .ok (.ireturn, 1) := by decide +kernel
set_option maxRecDepth 20000 in
theorem ggX12_fast_X12_isDay : GoodIn wsX12_fast wsX12_isDay := goodIn_sub (List.forall_mem_cons.mpr ⟨mc_X12_fast_r1 _ (List.mem_of_getElem? (i := 3) rfl), List.forall_mem_cons.mpr ⟨mc_X12_fast_r1 _ (List.mem_of_getElem? (i := 4) rfl), List.forall_mem_cons.mpr ⟨mc_X12_fast_r1 _ (List.mem_of_getElem? (i := 5) rfl), List.forall_mem_cons.mpr ⟨mc_X12_fast_r1 _ (List.mem_of_getElem? (i := 2) rfl), List.forall_mem_cons.mpr ⟨mc_X12_fast_r1 _ (List.mem_of_getElem? (i := 6) rfl), fun _ h => absurd h List.not_mem_nil⟩⟩⟩⟩⟩) (by decide +kernel)
set_option maxRecDepth 20000 in
theorem gX12_fast_X12_isDay : GoodIn wsX12_fast (va_wsS RX12 147 yX12_isDay wsX12_isDay) := goodIn_app (goodIn_sub (List.forall_mem_cons.mpr ⟨mc_X12_fast_r1 _ (List.mem_of_getElem? (i := 0) rfl), List.forall_mem_cons.mpr ⟨mc_X12_fast_r1 _ (List.mem_of_getElem? (i := 1) rfl), List.forall_mem_cons.mpr ⟨mc_X12_fast_r1 _ (List.mem_of_getElem? (i := 2) rfl), fun _ h => absurd h List.not_mem_nil⟩⟩⟩) (by decide +kernel)) ggX12_fast_X12_isDay
set_option maxRecDepth 20000 in
theorem ggX12_fast_X12_isIn : GoodIn wsX12_fast wsX12_isIn := goodIn_sub (List.forall_mem_cons.mpr ⟨mc_X12_fast_r1 _ (List.mem_of_getElem? (i := 6) rfl), fun _ h => absurd h List.not_mem_nil⟩) (by decide +kernel)
set_option maxRecDepth 20000 in
theorem gX12_fast_X12_isIn : GoodIn wsX12_fast (va_wsS RX12 130 yX12_isIn wsX12_isIn) := goodIn_app (goodIn_sub (List.forall_mem_cons.mpr ⟨mc_X12_fast_r1 _ (List.mem_of_getElem? (i := 4) rfl), List.forall_mem_cons.mpr ⟨mc_X12_fast_r1 _ (List.mem_of_getElem? (i := 5) rfl), List.forall_mem_cons.mpr ⟨mc_X12_fast_r1 _ (List.mem_of_getElem? (i := 2) rfl), fun _ h => absurd h List.not_mem_nil⟩⟩⟩) (by decide +kernel)) ggX12_fast_X12_isIn
set_option maxRecDepth 20000 in
theorem mm_X12_fast_X12_isFast_r1 : ∀ w ∈ wsX12_isFast_r1, w ∈ wsX12_fast := List.forall_mem_cons.mpr ⟨mc_X12_fast_r1 _ (List.mem_of_getElem? (i := 11) rfl), List.forall_mem_cons.mpr ⟨mc_X12_fast_r1 _ (List.mem_of_getElem? (i := 12) rfl), List.forall_mem_cons.mpr ⟨mc_X12_fast_r1 _ (List.mem_of_getElem? (i := 13) rfl), List.forall_mem_cons.mpr ⟨mc_X12_fast_r1 _ (List.mem_of_getElem? (i := 14) rfl), List.forall_mem_cons.mpr ⟨mc_X12_fast_r1 _ (List.mem_of_getElem? (i := 15) rfl), List.forall_mem_cons.mpr ⟨mc_X12_fast_r1 _ (List.mem_of_getElem? (i := 16) rfl), List.forall_mem_cons.mpr ⟨mc_X12_fast_r1 _ (List.mem_of_getElem? (i := 17) rfl), List.forall_mem_cons.mpr ⟨mc_X12_fast_r1 _ (List.mem_of_getElem? (i := 2) rfl), List.forall_mem_cons.mpr ⟨mc_X12_fast_r1 _ (List.mem_of_getElem? (i := 18) rfl), List.forall_mem_cons.mpr ⟨mc_X12_fast_r1 _ (List.mem_of_getElem? (i := 19) rfl), List.forall_mem_cons.mpr ⟨mc_X12_fast_r1 _ (List.mem_of_getElem? (i := 20) rfl), List.forall_mem_cons.mpr ⟨mc_X12_fast_r1 _ (List.mem_of_getElem? (i := 21) rfl), List.forall_mem_cons.mpr ⟨mc_X12_fast_r1 _ (List.mem_of_getElem? (i := 22) rfl), List.forall_mem_cons.mpr ⟨mc_X12_fast_r1 _ (List.mem_of_getElem? (i := 23) rfl), List.forall_mem_cons.mpr ⟨mc_X12_fast_r2 _ (List.mem_of_getElem? (i := 0) rfl), List.forall_mem_cons.mpr ⟨mc_X12_fast_r2 _ (List.mem_of_getElem? (i := 1) rfl), List.forall_mem_cons.mpr ⟨mc_X12_fast_r2 _ (List.mem_of_getElem? (i := 2) rfl), List.forall_mem_cons.mpr ⟨mc_X12_fast_r2 _ (List.mem_of_getElem? (i := 3) rfl), List.forall_mem_cons.mpr ⟨mc_X12_fast_r2 _ (List.mem_of_getElem? (i := 4) rfl), List.forall_mem_cons.mpr ⟨mc_X12_fast_r2 _ (List.mem_of_getElem? (i := 5) rfl), List.forall_mem_cons.mpr ⟨mc_X12_fast_r2 _ (List.mem_of_getElem? (i := 6) rfl), List.forall_mem_cons.mpr ⟨mc_X12_fast_r1 _ (List.mem_of_getElem? (i := 4) rfl), List.forall_mem_cons.mpr ⟨mc_X12_fast_r1 _ (List.mem_of_getElem? (i := 5) rfl), List.forall_mem_cons.mpr ⟨mc_X12_fast_r1 _ (List.mem_of_getElem? (i := 6) rfl), fun _ h => absurd h List.not_mem_nil⟩⟩⟩⟩⟩⟩⟩⟩⟩⟩⟩⟩⟩⟩⟩⟩⟩⟩⟩⟩⟩⟩⟩⟩
set_option maxRecDepth 20000 in
theorem mm_X12_fast_X12_isFast_r2 : ∀ w ∈ wsX12_isFast_r2, w ∈ wsX12_fast := List.forall_mem_cons.mpr ⟨mc_X12_fast_r2 _ (List.mem_of_getElem? (i := 7) rfl), List.forall_mem_cons.mpr ⟨mc_X12_fast_r2 _ (List.mem_of_getElem? (i := 8) rfl), List.forall_mem_cons.mpr ⟨mc_X12_fast_r2 _ (List.mem_of_getElem? (i := 9) rfl), List.forall_mem_cons.mpr ⟨mc_X12_fast_r2 _ (List.mem_of_getElem? (i := 10) rfl), List.forall_mem_cons.mpr ⟨mc_X12_fast_r2 _ (List.mem_of_getElem? (i := 11) rfl), List.forall_mem_cons.mpr ⟨mc_X12_fast_r2 _ (List.mem_of_getElem? (i := 12) rfl), List.forall_mem_cons.mpr ⟨mc_X12_fast_r2 _ (List.mem_of_getElem? (i := 13) rfl), fun _ h => absurd h List.not_mem_nil⟩⟩⟩⟩⟩⟩⟩
set_option maxRecDepth 20000 in
theorem ggX12_fast_X12_isFast : GoodIn wsX12_fast wsX12_isFast := goodIn_sub (List.forall_mem_cons.mpr ⟨mc_X12_fast_r1 _ (List.mem_of_getElem? (i := 10) rfl), List.forall_mem_append.mpr ⟨List.forall_mem_append.mpr ⟨mm_X12_fast_X12_isFast_r1, mm_X12_fast_X12_isFast_r2⟩, tl_X12_fast_X12⟩⟩) (by decide +kernel)
set_option maxRecDepth 20000 in
theorem gX12_fast_X12_isFast : GoodIn wsX12_fast (wsV RX12 245 RX12 yX12_isFast wsX12_isFast) := goodIn_app (goodIn_sub (List.forall_mem_cons.mpr ⟨mc_X12_fast_r1 _ (List.mem_of_getElem? (i := 7) rfl), List.forall_mem_cons.mpr ⟨mc_X12_fast_r1 _ (List.mem_of_getElem? (i := 8) rfl), List.forall_mem_cons.mpr ⟨mc_X12_fast_r1 _ (List.mem_of_getElem? (i := 9) rfl), List.forall_mem_cons.mpr ⟨mc_X12_fast_r1 _ (List.mem_of_getElem? (i := 2) rfl), fun _ h => absurd h List.not_mem_nil⟩⟩⟩⟩) (by decide +kernel)) ggX12_fast_X12_isFast
set_option maxRecDepth 20000 in
theorem mm_X12_fast_X12_headFeed_r1 : ∀ w ∈ wsX12_headFeed_r1, w ∈ wsX12_fast := List.forall_mem_cons.mpr ⟨mc_X12_fast_r1 _ (List.mem_of_getElem? (i := 15) rfl), List.forall_mem_cons.mpr ⟨mc_X12_fast_r1 _ (List.mem_of_getElem? (i := 16) rfl), List.forall_mem_cons.mpr ⟨mc_X12_fast_r1 _ (List.mem_of_getElem? (i := 17) rfl), List.forall_mem_cons.mpr ⟨mc_X12_fast_r1 _ (List.mem_of_getElem? (i := 2) rfl), List.forall_mem_cons.mpr ⟨mc_X12_fast_r1 _ (List.mem_of_getElem? (i := 18) rfl), List.forall_mem_cons.mpr ⟨mc_X12_fast_r1 _ (List.mem_of_getElem? (i := 19) rfl), List.forall_mem_cons.mpr ⟨mc_X12_fast_r1 _ (List.mem_of_getElem? (i := 20) rfl), List.forall_mem_cons.mpr ⟨mc_X12_fast_r1 _ (List.mem_of_getElem? (i := 7) rfl), List.forall_mem_cons.mpr ⟨mc_X12_fast_r1 _ (List.mem_of_getElem? (i := 8) rfl), List.forall_mem_cons.mpr ⟨mc_X12_fast_r1 _ (List.mem_of_getElem? (i := 9) rfl), List.forall_mem_cons.mpr ⟨mc_X12_fast_r1 _ (List.mem_of_getElem? (i := 10) rfl), List.forall_mem_cons.mpr ⟨mc_X12_fast_r1 _ (List.mem_of_getElem? (i := 11) rfl), List.forall_mem_cons.mpr ⟨mc_X12_fast_r1 _ (List.mem_of_getElem? (i := 12) rfl), List.forall_mem_cons.mpr ⟨mc_X12_fast_r1 _ (List.mem_of_getElem? (i := 13) rfl), List.forall_mem_cons.mpr ⟨mc_X12_fast_r1 _ (List.mem_of_getElem? (i := 14) rfl), List.forall_mem_cons.mpr ⟨mc_X12_fast_r1 _ (List.mem_of_getElem? (i := 21) rfl), List.forall_mem_cons.mpr ⟨mc_X12_fast_r1 _ (List.mem_of_getElem? (i := 22) rfl), List.forall_mem_cons.mpr ⟨mc_X12_fast_r1 _ (List.mem_of_getElem? (i := 23) rfl), List.forall_mem_cons.mpr ⟨mc_X12_fast_r2 _ (List.mem_of_getElem? (i := 0) rfl), List.forall_mem_cons.mpr ⟨mc_X12_fast_r2 _ (List.mem_of_getElem? (i := 1) rfl), List.forall_mem_cons.mpr ⟨mc_X12_fast_r2 _ (List.mem_of_getElem? (i := 2) rfl), List.forall_mem_cons.mpr ⟨mc_X12_fast_r2 _ (List.mem_of_getElem? (i := 3) rfl), List.forall_mem_cons.mpr ⟨mc_X12_fast_r2 _ (List.mem_of_getElem? (i := 4) rfl), List.forall_mem_cons.mpr ⟨mc_X12_fast_r2 _ (List.mem_of_getElem? (i := 5) rfl), fun _ h => absurd h List.not_mem_nil⟩⟩⟩⟩⟩⟩⟩⟩⟩⟩⟩⟩⟩⟩⟩⟩⟩⟩⟩⟩⟩⟩⟩⟩
set_option maxRecDepth 20000 in
theorem mm_X12_fast_X12_headFeed_r2 : ∀ w ∈ wsX12_headFeed_r2, w ∈ wsX12_fast := List.forall_mem_cons.mpr ⟨mc_X12_fast_r2 _ (List.mem_of_getElem? (i := 6) rfl), List.forall_mem_cons.mpr ⟨mc_X12_fast_r1 _ (List.mem_of_getElem? (i := 4) rfl), List.forall_mem_cons.mpr ⟨mc_X12_fast_r1 _ (List.mem_of_getElem? (i := 5) rfl), List.forall_mem_cons.mpr ⟨mc_X12_fast_r1 _ (List.mem_of_getElem? (i := 6) rfl), List.forall_mem_cons.mpr ⟨mc_X12_fast_r2 _ (List.mem_of_getElem? (i := 7) rfl), List.forall_mem_cons.mpr ⟨mc_X12_fast_r2 _ (List.mem_of_getElem? (i := 8) rfl), List.forall_mem_cons.mpr ⟨mc_X12_fast_r2 _ (List.mem_of_getElem? (i := 9) rfl), List.forall_mem_cons.mpr ⟨mc_X12_fast_r2 _ (List.mem_of_getElem? (i := 10) rfl), List.forall_mem_cons.mpr ⟨mc_X12_fast_r2 _ (List.mem_of_getElem? (i := 11) rfl), List.forall_mem_cons.mpr ⟨mc_X12_fast_r2 _ (List.mem_of_getElem? (i := 12) rfl), List.forall_mem_cons.mpr ⟨mc_X12_fast_r2 _ (List.mem_of_getElem? (i := 13) rfl), List.forall_mem_cons.mpr ⟨mc_X12_fast_r2 _ (List.mem_of_getElem? (i := 18) rfl), List.forall_mem_cons.mpr ⟨mc_X12_fast_r2 _ (List.mem_of_getElem? (i := 19) rfl), List.forall_mem_cons.mpr ⟨mc_X12_fast_r2 _ (List.mem_of_getElem? (i := 20) rfl), List.forall_mem_cons.mpr ⟨mc_X12_fast_r2 _ (List.mem_of_getElem? (i := 21) rfl), fun _ h => absurd h List.not_mem_nil⟩⟩⟩⟩⟩⟩⟩⟩⟩⟩⟩⟩⟩⟩⟩
set_option maxRecDepth 20000 in
theorem ggX12_fast_X12_headFeed : GoodIn wsX12_fast wsX12_headFeed := goodIn_sub (List.forall_mem_cons.mpr ⟨mc_X12_fast_r2 _ (List.mem_of_getElem? (i := 17) rfl), List.forall_mem_append.mpr ⟨List.forall_mem_append.mpr ⟨mm_X12_fast_X12_headFeed_r1, mm_X12_fast_X12_headFeed_r2⟩, tl_X12_fast_X12⟩⟩) (by decide +kernel)
set_option maxRecDepth 20000 in
theorem gX12_fast_X12_headFeed : GoodIn wsX12_fast (wsV RX12 252 RX12 yX12_headFeed wsX12_headFeed) := goodIn_app (goodIn_sub (List.forall_mem_cons.mpr ⟨mc_X12_fast_r2 _ (List.mem_of_getElem? (i := 14) rfl), List.forall_mem_cons.mpr ⟨mc_X12_fast_r2 _ (List.mem_of_getElem? (i := 15) rfl), List.forall_mem_cons.mpr ⟨mc_X12_fast_r2 _ (List.mem_of_getElem? (i := 16) rfl), List.forall_mem_cons.mpr ⟨mc_X12_fast_r1 _ (List.mem_of_getElem? (i := 2) rfl), fun _ h => absurd h List.not_mem_nil⟩⟩⟩⟩) (by decide +kernel)) ggX12_fast_X12_headFeed
set_option maxRecDepth 20000 in
theorem ggX12_fast_X12_guestFeed : GoodIn wsX12_fast wsX12_guestFeed := goodIn_sub (List.forall_mem_cons.mpr ⟨mc_X12_fast_r3 _ (List.mem_of_getElem? (i := 1) rfl), List.forall_mem_append.mpr ⟨List.forall_mem_cons.mpr ⟨mc_X12_fast_r1 _ (List.mem_of_getElem? (i := 15) rfl), List.forall_mem_cons.mpr ⟨mc_X12_fast_r1 _ (List.mem_of_getElem? (i := 16) rfl), List.forall_mem_cons.mpr ⟨mc_X12_fast_r1 _ (List.mem_of_getElem? (i := 17) rfl), List.forall_mem_cons.mpr ⟨mc_X12_fast_r1 _ (List.mem_of_getElem? (i := 2) rfl), List.forall_mem_cons.mpr ⟨mc_X12_fast_r1 _ (List.mem_of_getElem? (i := 18) rfl), List.forall_mem_cons.mpr ⟨mc_X12_fast_r1 _ (List.mem_of_getElem? (i := 19) rfl), List.forall_mem_cons.mpr ⟨mc_X12_fast_r1 _ (List.mem_of_getElem? (i := 20) rfl), List.forall_mem_cons.mpr ⟨mc_X12_fast_r2 _ (List.mem_of_getElem? (i := 18) rfl), List.forall_mem_cons.mpr ⟨mc_X12_fast_r2 _ (List.mem_of_getElem? (i := 19) rfl), List.forall_mem_cons.mpr ⟨mc_X12_fast_r2 _ (List.mem_of_getElem? (i := 20) rfl), List.forall_mem_cons.mpr ⟨mc_X12_fast_r2 _ (List.mem_of_getElem? (i := 21) rfl), List.forall_mem_cons.mpr ⟨mc_X12_fast_r1 _ (List.mem_of_getElem? (i := 11) rfl), List.forall_mem_cons.mpr ⟨mc_X12_fast_r1 _ (List.mem_of_getElem? (i := 14) rfl), List.forall_mem_cons.mpr ⟨mc_X12_fast_r1 _ (List.mem_of_getElem? (i := 12) rfl), List.forall_mem_cons.mpr ⟨mc_X12_fast_r1 _ (List.mem_of_getElem? (i := 13) rfl), fun _ h => absurd h List.not_mem_nil⟩⟩⟩⟩⟩⟩⟩⟩⟩⟩⟩⟩⟩⟩⟩, tl_X12_fast_X12⟩⟩) (by decide +kernel)
set_option maxRecDepth 20000 in
theorem gX12_fast_X12_guestFeed : GoodIn wsX12_fast (wsV RX12 255 RX12 yX12_guestFeed wsX12_guestFeed) := goodIn_app (goodIn_sub (List.forall_mem_cons.mpr ⟨mc_X12_fast_r2 _ (List.mem_of_getElem? (i := 22) rfl), List.forall_mem_cons.mpr ⟨mc_X12_fast_r2 _ (List.mem_of_getElem? (i := 23) rfl), List.forall_mem_cons.mpr ⟨mc_X12_fast_r3 _ (List.mem_of_getElem? (i := 0) rfl), List.forall_mem_cons.mpr ⟨mc_X12_fast_r1 _ (List.mem_of_getElem? (i := 2) rfl), fun _ h => absurd h List.not_mem_nil⟩⟩⟩⟩) (by decide +kernel)) ggX12_fast_X12_guestFeed
set_option maxRecDepth 20000 in
theorem ggX12_fast_X12_inForce : GoodIn wsX12_fast wsX12_inForce := goodIn_sub (List.forall_mem_cons.mpr ⟨mc_X12_fast_r1 _ (List.mem_of_getElem? (i := 18) rfl), List.forall_mem_append.mpr ⟨List.forall_mem_cons.mpr ⟨mc_X12_fast_r1 _ (List.mem_of_getElem? (i := 19) rfl), List.forall_mem_cons.mpr ⟨mc_X12_fast_r1 _ (List.mem_of_getElem? (i := 20) rfl), fun _ h => absurd h List.not_mem_nil⟩⟩, tl_X12_fast_X12⟩⟩) (by decide +kernel)
set_option maxRecDepth 20000 in
theorem gX12_fast_X12_inForce : GoodIn wsX12_fast (wsV RX12 239 RX12 yX12_inForce wsX12_inForce) := goodIn_app (goodIn_sub (List.forall_mem_cons.mpr ⟨mc_X12_fast_r1 _ (List.mem_of_getElem? (i := 15) rfl), List.forall_mem_cons.mpr ⟨mc_X12_fast_r1 _ (List.mem_of_getElem? (i := 16) rfl), List.forall_mem_cons.mpr ⟨mc_X12_fast_r1 _ (List.mem_of_getElem? (i := 17) rfl), List.forall_mem_cons.mpr ⟨mc_X12_fast_r1 _ (List.mem_of_getElem? (i := 2) rfl), fun _ h => absurd h List.not_mem_nil⟩⟩⟩⟩) (by decide +kernel)) ggX12_fast_X12_inForce
theorem dX12_fast_0 : decode cX12_fast 0 = .ok (.iload_n 1, 1) := by decide +kernel
theorem dX12_fast_1 : decode cX12_fast 1 = .ok (.invokestatic 147, 3) := by decide +kernel
theorem dX12_fast_4 : decode cX12_fast 4 = .ok (.ifCond .eq 12, 3) := by decide +kernel
theorem dX12_fast_7 : decode cX12_fast 7 = .ok (.iload_n 2, 1) := by decide +kernel
theorem dX12_fast_8 : decode cX12_fast 8 = .ok (.iconst 0, 1) := by decide +kernel
theorem dX12_fast_9 : decode cX12_fast 9 = .ok (.iconst 3, 1) := by decide +kernel
theorem dX12_fast_10 : decode cX12_fast 10 = .ok (.invokestatic 130, 3) := by decide +kernel
theorem dX12_fast_13 : decode cX12_fast 13 = .ok (.ifCond .ne 5, 3) := by decide +kernel
theorem dX12_fast_16 : decode cX12_fast 16 = .ok (.iconst (-1), 1) := by decide +kernel
theorem dX12_fast_17 : decode cX12_fast 17 = .ok (.ireturn, 1) := by decide +kernel
theorem dX12_fast_18 : decode cX12_fast 18 = .ok (.iload_n 2, 1) := by decide +kernel
theorem dX12_fast_19 : decode cX12_fast 19 = .ok (.ifCond .ne 19, 3) := by decide +kernel
theorem dX12_fast_22 : decode cX12_fast 22 = .ok (.aload_n 0, 1) := by decide +kernel
theorem dX12_fast_23 : decode cX12_fast 23 = .ok (.iload_n 1, 1) := by decide +kernel
theorem dX12_fast_24 : decode cX12_fast 24 = .ok (.invokevirtual 245, 3) := by decide +kernel
theorem dX12_fast_27 : decode cX12_fast 27 = .ok (.ifCond .eq 7, 3) := by decide +kernel
theorem dX12_fast_30 : decode cX12_fast 30 = .ok (.iconst 1, 1) := by decide +kernel
theorem dX12_fast_31 : decode cX12_fast 31 = .ok (.goto 38, 3) := by decide +kernel
theorem dX12_fast_34 : decode cX12_fast 34 = .ok (.iconst 0, 1) := by decide +kernel
theorem dX12_fast_35 : decode cX12_fast 35 = .ok (.goto 34, 3) := by decide +kernel
theorem dX12_fast_38 : decode cX12_fast 38 = .ok (.iload_n 2, 1) := by decide +kernel
theorem dX12_fast_39 : decode cX12_fast 39 = .ok (.iconst 1, 1) := by decide +kernel
theorem dX12_fast_40 : decode cX12_fast 40 = .ok (.if_icmp .ne 11, 3) := by decide +kernel
theorem dX12_fast_43 : decode cX12_fast 43 = .ok (.aload_n 0, 1) := by decide +kernel
theorem dX12_fast_44 : decode cX12_fast 44 = .ok (.iload_n 1, 1) := by decide +kernel
theorem dX12_fast_45 : decode cX12_fast 45 = .ok (.invokevirtual 252, 3) := by decide +kernel
theorem dX12_fast_48 : decode cX12_fast 48 = .ok (.goto 21, 3) := by decide +kernel
theorem dX12_fast_51 : decode cX12_fast 51 = .ok (.iload_n 2, 1) := by decide +kernel
theorem dX12_fast_52 : decode cX12_fast 52 = .ok (.iconst 2, 1) := by decide +kernel
theorem dX12_fast_53 : decode cX12_fast 53 = .ok (.if_icmp .ne 11, 3) := by decide +kernel
theorem dX12_fast_56 : decode cX12_fast 56 = .ok (.aload_n 0, 1) := by decide +kernel
theorem dX12_fast_57 : decode cX12_fast 57 = .ok (.iload_n 1, 1) := by decide +kernel
theorem dX12_fast_58 : decode cX12_fast 58 = .ok (.invokevirtual 255, 3) := by decide +kernel
theorem dX12_fast_61 : decode cX12_fast 61 = .ok (.goto 8, 3) := by decide +kernel
theorem dX12_fast_64 : decode cX12_fast 64 = .ok (.aload_n 0, 1) := by decide +kernel
theorem dX12_fast_65 : decode cX12_fast 65 = .ok (.iload_n 1, 1) := by decide +kernel
theorem dX12_fast_66 : decode cX12_fast 66 = .ok (.invokevirtual 239, 3) := by decide +kernel
theorem dX12_fast_69 : decode cX12_fast 69 = .ok (.ireturn, 1) := by decide +kernel
set_option maxRecDepth 20000 in
theorem ggX12_gift_X12_isIn : GoodIn wsX12_gift wsX12_isIn := goodIn_sub (List.forall_mem_cons.mpr ⟨List.mem_cons_of_mem _ (List.mem_append_left _ (List.mem_of_getElem? (i := 9) rfl)), fun _ h => absurd h List.not_mem_nil⟩) (by decide +kernel)
set_option maxRecDepth 20000 in
theorem gX12_gift_X12_isIn : GoodIn wsX12_gift (va_wsS RX12 130 yX12_isIn wsX12_isIn) := goodIn_app (goodIn_sub (List.forall_mem_cons.mpr ⟨List.mem_cons_of_mem _ (List.mem_append_left _ (List.mem_of_getElem? (i := 6) rfl)), List.forall_mem_cons.mpr ⟨List.mem_cons_of_mem _ (List.mem_append_left _ (List.mem_of_getElem? (i := 7) rfl)), List.forall_mem_cons.mpr ⟨List.mem_cons_of_mem _ (List.mem_append_left _ (List.mem_of_getElem? (i := 8) rfl)), fun _ h => absurd h List.not_mem_nil⟩⟩⟩) (by decide +kernel)) ggX12_gift_X12_isIn
theorem dX12_gift_0 : decode cX12_gift 0 = .ok (.iload_n 2, 1) := by decide +kernel
theorem dX12_gift_1 : decode cX12_gift 1 = .ok (.iconst 0, 1) := by decide +kernel
theorem dX12_gift_2 : decode cX12_gift 2 = .ok (.iload_n 1, 1) := by decide +kernel
theorem dX12_gift_3 : decode cX12_gift 3 = .ok (.ifCond .eq 8, 3) := by decide +kernel
theorem dX12_gift_6 : decode cX12_gift 6 = .ok (.bipush 6, 2) := by decide +kernel
theorem dX12_gift_8 : decode cX12_gift 8 = .ok (.goto 6, 3) := by decide +kernel
theorem dX12_gift_11 : decode cX12_gift 11 = .ok (.sipush 364, 3) := by decide +kernel
theorem dX12_gift_14 : decode cX12_gift 14 = .ok (.invokestatic 130, 3) := by decide +kernel
theorem dX12_gift_17 : decode cX12_gift 17 = .ok (.ifCond .eq 12, 3) := by decide +kernel
theorem dX12_gift_20 : decode cX12_gift 20 = .ok (.aload_n 0, 1) := by decide +kernel
theorem dX12_gift_21 : decode cX12_gift 21 = .ok (.getfield 137, 3) := by decide +kernel
theorem dX12_gift_24 : decode cX12_gift 24 = .ok (.bipush 40, 2) := by decide +kernel
theorem dX12_gift_26 : decode cX12_gift 26 = .ok (.if_icmp .ne 5, 3) := by decide +kernel
theorem dX12_gift_29 : decode cX12_gift 29 = .ok (.iconst (-1), 1) := by decide +kernel
theorem dX12_gift_30 : decode cX12_gift 30 = .ok (.ireturn, 1) := by decide +kernel
theorem dX12_gift_31 : decode cX12_gift 31 = .ok (.aload_n 0, 1) := by decide +kernel
theorem dX12_gift_32 : decode cX12_gift 32 = .ok (.getfield 38, 3) := by decide +kernel
theorem dX12_gift_35 : decode cX12_gift 35 = .ok (.aload_n 0, 1) := by decide +kernel
theorem dX12_gift_36 : decode cX12_gift 36 = .ok (.getfield 137, 3) := by decide +kernel
theorem dX12_gift_39 : decode cX12_gift 39 = .ok (.iload_n 1, 1) := by decide +kernel
theorem dX12_gift_40 : decode cX12_gift 40 = .ok (.bastore, 1) := by decide +kernel
theorem dX12_gift_41 : decode cX12_gift 41 = .ok (.aload_n 0, 1) := by decide +kernel
theorem dX12_gift_42 : decode cX12_gift 42 = .ok (.getfield 44, 3) := by decide +kernel
theorem dX12_gift_45 : decode cX12_gift 45 = .ok (.aload_n 0, 1) := by decide +kernel
theorem dX12_gift_46 : decode cX12_gift 46 = .ok (.getfield 137, 3) := by decide +kernel
theorem dX12_gift_49 : decode cX12_gift 49 = .ok (.iload_n 2, 1) := by decide +kernel
theorem dX12_gift_50 : decode cX12_gift 50 = .ok (.iastore, 1) := by decide +kernel
theorem dX12_gift_51 : decode cX12_gift 51 = .ok (.aload_n 0, 1) := by decide +kernel
theorem dX12_gift_52 : decode cX12_gift 52 = .ok (.getfield 41, 3) := by decide +kernel
theorem dX12_gift_55 : decode cX12_gift 55 = .ok (.aload_n 0, 1) := by decide +kernel
theorem dX12_gift_56 : decode cX12_gift 56 = .ok (.getfield 137, 3) := by decide +kernel
theorem dX12_gift_59 : decode cX12_gift 59 = .ok (.iload_n 3, 1) := by decide +kernel
theorem dX12_gift_60 : decode cX12_gift 60 = .ok (.bastore, 1) := by decide +kernel
theorem dX12_gift_61 : decode cX12_gift 61 = .ok (.aload_n 0, 1) := by decide +kernel
theorem dX12_gift_62 : decode cX12_gift 62 = .ok (.getfield 47, 3) := by decide +kernel
theorem dX12_gift_65 : decode cX12_gift 65 = .ok (.aload_n 0, 1) := by decide +kernel
theorem dX12_gift_66 : decode cX12_gift 66 = .ok (.getfield 137, 3) := by decide +kernel
theorem dX12_gift_69 : decode cX12_gift 69 = .ok (.aload_n 0, 1) := by decide +kernel
theorem dX12_gift_70 : decode cX12_gift 70 = .ok (.getfield 140, 3) := by decide +kernel
theorem dX12_gift_73 : decode cX12_gift 73 = .ok (.iastore, 1) := by decide +kernel
theorem dX12_gift_74 : decode cX12_gift 74 = .ok (.aload_n 0, 1) := by decide +kernel
theorem dX12_gift_75 : decode cX12_gift 75 = .ok (.dup, 1) := by decide +kernel
theorem dX12_gift_76 : decode cX12_gift 76 = .ok (.getfield 137, 3) := by decide +kernel
theorem dX12_gift_79 : decode cX12_gift 79 = .ok (.iconst 1, 1) := by decide +kernel
theorem dX12_gift_80 : decode cX12_gift 80 = .ok (.iadd, 1) := by decide +kernel
theorem dX12_gift_81 : decode cX12_gift 81 = .ok (.putfield 137, 3) := by decide +kernel
theorem dX12_gift_84 : decode cX12_gift 84 = .ok (.aload_n 0, 1) := by decide +kernel
theorem dX12_gift_85 : decode cX12_gift 85 = .ok (.getfield 137, 3) := by decide +kernel
theorem dX12_gift_88 : decode cX12_gift 88 = .ok (.iconst 1, 1) := by decide +kernel
theorem dX12_gift_89 : decode cX12_gift 89 = .ok (.isub, 1) := by decide +kernel
theorem dX12_gift_90 : decode cX12_gift 90 = .ok (.ireturn, 1) := by decide +kernel
set_option maxRecDepth 20000 in
theorem ggX12_leave_X12_isGift : GoodIn wsX12_leave wsX12_isGift := goodIn_sub (List.forall_mem_cons.mpr ⟨List.mem_cons_of_mem _ (List.mem_append_left _ (List.mem_of_getElem? (i := 8) rfl)), List.forall_mem_append.mpr ⟨List.forall_mem_cons.mpr ⟨List.mem_cons_of_mem _ (List.mem_append_left _ (List.mem_of_getElem? (i := 9) rfl)), List.forall_mem_cons.mpr ⟨List.mem_cons_of_mem _ (List.mem_append_left _ (List.mem_of_getElem? (i := 10) rfl)), List.forall_mem_cons.mpr ⟨List.mem_cons_of_mem _ (List.mem_append_left _ (List.mem_of_getElem? (i := 11) rfl)), List.forall_mem_cons.mpr ⟨List.mem_cons_of_mem _ (List.mem_append_left _ (List.mem_of_getElem? (i := 7) rfl)), List.forall_mem_cons.mpr ⟨List.mem_cons_of_mem _ (List.mem_append_left _ (List.mem_of_getElem? (i := 12) rfl)), fun _ h => absurd h List.not_mem_nil⟩⟩⟩⟩⟩, tl_X12_leave_X12⟩⟩) (by decide +kernel)
set_option maxRecDepth 20000 in
theorem gX12_leave_X12_isGift : GoodIn wsX12_leave (wsV RX12 258 RX12 yX12_isGift wsX12_isGift) := goodIn_app (goodIn_sub (List.forall_mem_cons.mpr ⟨List.mem_cons_of_mem _ (List.mem_append_left _ (List.mem_of_getElem? (i := 4) rfl)), List.forall_mem_cons.mpr ⟨List.mem_cons_of_mem _ (List.mem_append_left _ (List.mem_of_getElem? (i := 5) rfl)), List.forall_mem_cons.mpr ⟨List.mem_cons_of_mem _ (List.mem_append_left _ (List.mem_of_getElem? (i := 6) rfl)), List.forall_mem_cons.mpr ⟨List.mem_cons_of_mem _ (List.mem_append_left _ (List.mem_of_getElem? (i := 7) rfl)), fun _ h => absurd h List.not_mem_nil⟩⟩⟩⟩) (by decide +kernel)) ggX12_leave_X12_isGift
set_option maxRecDepth 20000 in
theorem ggX12_leave_X12_isDay : GoodIn wsX12_leave wsX12_isDay := goodIn_sub (List.forall_mem_cons.mpr ⟨List.mem_cons_of_mem _ (List.mem_append_left _ (List.mem_of_getElem? (i := 15) rfl)), List.forall_mem_cons.mpr ⟨List.mem_cons_of_mem _ (List.mem_append_left _ (List.mem_of_getElem? (i := 10) rfl)), List.forall_mem_cons.mpr ⟨List.mem_cons_of_mem _ (List.mem_append_left _ (List.mem_of_getElem? (i := 11) rfl)), List.forall_mem_cons.mpr ⟨List.mem_cons_of_mem _ (List.mem_append_left _ (List.mem_of_getElem? (i := 7) rfl)), List.forall_mem_cons.mpr ⟨List.mem_cons_of_mem _ (List.mem_append_left _ (List.mem_of_getElem? (i := 12) rfl)), fun _ h => absurd h List.not_mem_nil⟩⟩⟩⟩⟩) (by decide +kernel)
set_option maxRecDepth 20000 in
theorem gX12_leave_X12_isDay : GoodIn wsX12_leave (va_wsS RX12 147 yX12_isDay wsX12_isDay) := goodIn_app (goodIn_sub (List.forall_mem_cons.mpr ⟨List.mem_cons_of_mem _ (List.mem_append_left _ (List.mem_of_getElem? (i := 13) rfl)), List.forall_mem_cons.mpr ⟨List.mem_cons_of_mem _ (List.mem_append_left _ (List.mem_of_getElem? (i := 14) rfl)), List.forall_mem_cons.mpr ⟨List.mem_cons_of_mem _ (List.mem_append_left _ (List.mem_of_getElem? (i := 7) rfl)), fun _ h => absurd h List.not_mem_nil⟩⟩⟩) (by decide +kernel)) ggX12_leave_X12_isDay
theorem dX12_leave_0 : decode cX12_leave 0 = .ok (.aload_n 0, 1) := by decide +kernel
theorem dX12_leave_1 : decode cX12_leave 1 = .ok (.iload_n 1, 1) := by decide +kernel
theorem dX12_leave_2 : decode cX12_leave 2 = .ok (.invokevirtual 258, 3) := by decide +kernel
theorem dX12_leave_5 : decode cX12_leave 5 = .ok (.ifCond .eq 28, 3) := by decide +kernel
theorem dX12_leave_8 : decode cX12_leave 8 = .ok (.iload_n 2, 1) := by decide +kernel
theorem dX12_leave_9 : decode cX12_leave 9 = .ok (.ifCond .lt 24, 3) := by decide +kernel
theorem dX12_leave_12 : decode cX12_leave 12 = .ok (.iload_n 2, 1) := by decide +kernel
theorem dX12_leave_13 : decode cX12_leave 13 = .ok (.iload_n 3, 1) := by decide +kernel
theorem dX12_leave_14 : decode cX12_leave 14 = .ok (.if_icmp .gt 19, 3) := by decide +kernel
theorem dX12_leave_17 : decode cX12_leave 17 = .ok (.iload_n 3, 1) := by decide +kernel
theorem dX12_leave_18 : decode cX12_leave 18 = .ok (.invokestatic 147, 3) := by decide +kernel
theorem dX12_leave_21 : decode cX12_leave 21 = .ok (.ifCond .eq 12, 3) := by decide +kernel
theorem dX12_leave_24 : decode cX12_leave 24 = .ok (.aload_n 0, 1) := by decide +kernel
theorem dX12_leave_25 : decode cX12_leave 25 = .ok (.getfield 261, 3) := by decide +kernel
theorem dX12_leave_28 : decode cX12_leave 28 = .ok (.bipush 40, 2) := by decide +kernel
theorem dX12_leave_30 : decode cX12_leave 30 = .ok (.if_icmp .ne 5, 3) := by decide +kernel
theorem dX12_leave_33 : decode cX12_leave 33 = .ok (.iconst (-1), 1) := by decide +kernel
theorem dX12_leave_34 : decode cX12_leave 34 = .ok (.ireturn, 1) := by decide +kernel
theorem dX12_leave_35 : decode cX12_leave 35 = .ok (.aload_n 0, 1) := by decide +kernel
theorem dX12_leave_36 : decode cX12_leave 36 = .ok (.getfield 59, 3) := by decide +kernel
theorem dX12_leave_39 : decode cX12_leave 39 = .ok (.aload_n 0, 1) := by decide +kernel
theorem dX12_leave_40 : decode cX12_leave 40 = .ok (.getfield 261, 3) := by decide +kernel
theorem dX12_leave_43 : decode cX12_leave 43 = .ok (.iload_n 1, 1) := by decide +kernel
theorem dX12_leave_44 : decode cX12_leave 44 = .ok (.iastore, 1) := by decide +kernel
theorem dX12_leave_45 : decode cX12_leave 45 = .ok (.aload_n 0, 1) := by decide +kernel
theorem dX12_leave_46 : decode cX12_leave 46 = .ok (.getfield 62, 3) := by decide +kernel
theorem dX12_leave_49 : decode cX12_leave 49 = .ok (.aload_n 0, 1) := by decide +kernel
theorem dX12_leave_50 : decode cX12_leave 50 = .ok (.getfield 261, 3) := by decide +kernel
theorem dX12_leave_53 : decode cX12_leave 53 = .ok (.iload_n 2, 1) := by decide +kernel
theorem dX12_leave_54 : decode cX12_leave 54 = .ok (.iastore, 1) := by decide +kernel
theorem dX12_leave_55 : decode cX12_leave 55 = .ok (.aload_n 0, 1) := by decide +kernel
theorem dX12_leave_56 : decode cX12_leave 56 = .ok (.getfield 65, 3) := by decide +kernel
theorem dX12_leave_59 : decode cX12_leave 59 = .ok (.aload_n 0, 1) := by decide +kernel
theorem dX12_leave_60 : decode cX12_leave 60 = .ok (.getfield 261, 3) := by decide +kernel
theorem dX12_leave_63 : decode cX12_leave 63 = .ok (.iload_n 3, 1) := by decide +kernel
theorem dX12_leave_64 : decode cX12_leave 64 = .ok (.iastore, 1) := by decide +kernel
theorem dX12_leave_65 : decode cX12_leave 65 = .ok (.aload_n 0, 1) := by decide +kernel
theorem dX12_leave_66 : decode cX12_leave 66 = .ok (.dup, 1) := by decide +kernel
theorem dX12_leave_67 : decode cX12_leave 67 = .ok (.getfield 261, 3) := by decide +kernel
theorem dX12_leave_70 : decode cX12_leave 70 = .ok (.iconst 1, 1) := by decide +kernel
theorem dX12_leave_71 : decode cX12_leave 71 = .ok (.iadd, 1) := by decide +kernel
theorem dX12_leave_72 : decode cX12_leave 72 = .ok (.putfield 261, 3) := by decide +kernel
theorem dX12_leave_75 : decode cX12_leave 75 = .ok (.aload_n 0, 1) := by decide +kernel
theorem dX12_leave_76 : decode cX12_leave 76 = .ok (.getfield 261, 3) := by decide +kernel
theorem dX12_leave_79 : decode cX12_leave 79 = .ok (.ireturn, 1) := by decide +kernel
set_option maxRecDepth 20000 in
theorem ggX12_giftOf_X12_isGift : GoodIn wsX12_giftOf wsX12_isGift := goodIn_sub (List.forall_mem_cons.mpr ⟨List.mem_cons_of_mem _ (List.mem_append_left _ (List.mem_of_getElem? (i := 7) rfl)), List.forall_mem_append.mpr ⟨List.forall_mem_cons.mpr ⟨List.mem_cons_of_mem _ (List.mem_append_left _ (List.mem_of_getElem? (i := 8) rfl)), List.forall_mem_cons.mpr ⟨List.mem_cons_of_mem _ (List.mem_append_left _ (List.mem_of_getElem? (i := 9) rfl)), List.forall_mem_cons.mpr ⟨List.mem_cons_of_mem _ (List.mem_append_left _ (List.mem_of_getElem? (i := 10) rfl)), List.forall_mem_cons.mpr ⟨List.mem_cons_of_mem _ (List.mem_append_left _ (List.mem_of_getElem? (i := 6) rfl)), List.forall_mem_cons.mpr ⟨List.mem_cons_of_mem _ (List.mem_append_left _ (List.mem_of_getElem? (i := 11) rfl)), fun _ h => absurd h List.not_mem_nil⟩⟩⟩⟩⟩, tl_X12_giftOf_X12⟩⟩) (by decide +kernel)
set_option maxRecDepth 20000 in
theorem gX12_giftOf_X12_isGift : GoodIn wsX12_giftOf (wsV RX12 258 RX12 yX12_isGift wsX12_isGift) := goodIn_app (goodIn_sub (List.forall_mem_cons.mpr ⟨List.mem_cons_of_mem _ (List.mem_append_left _ (List.mem_of_getElem? (i := 3) rfl)), List.forall_mem_cons.mpr ⟨List.mem_cons_of_mem _ (List.mem_append_left _ (List.mem_of_getElem? (i := 4) rfl)), List.forall_mem_cons.mpr ⟨List.mem_cons_of_mem _ (List.mem_append_left _ (List.mem_of_getElem? (i := 5) rfl)), List.forall_mem_cons.mpr ⟨List.mem_cons_of_mem _ (List.mem_append_left _ (List.mem_of_getElem? (i := 6) rfl)), fun _ h => absurd h List.not_mem_nil⟩⟩⟩⟩) (by decide +kernel)) ggX12_giftOf_X12_isGift
theorem dX12_giftOf_0 : decode cX12_giftOf 0 = .ok (.aload_n 0, 1) := by decide +kernel
theorem dX12_giftOf_1 : decode cX12_giftOf 1 = .ok (.iload_n 1, 1) := by decide +kernel
theorem dX12_giftOf_2 : decode cX12_giftOf 2 = .ok (.invokevirtual 258, 3) := by decide +kernel
theorem dX12_giftOf_5 : decode cX12_giftOf 5 = .ok (.ifCond .ne 7, 3) := by decide +kernel
theorem dX12_giftOf_8 : decode cX12_giftOf 8 = .ok (.iconst (-1), 1) := by decide +kernel
theorem dX12_giftOf_9 : decode cX12_giftOf 9 = .ok (.goto 45, 3) := by decide +kernel
theorem dX12_giftOf_12 : decode cX12_giftOf 12 = .ok (.iload_n 2, 1) := by decide +kernel
theorem dX12_giftOf_13 : decode cX12_giftOf 13 = .ok (.ifCond .ne 12, 3) := by decide +kernel
theorem dX12_giftOf_16 : decode cX12_giftOf 16 = .ok (.aload_n 0, 1) := by decide +kernel
theorem dX12_giftOf_17 : decode cX12_giftOf 17 = .ok (.getfield 50, 3) := by decide +kernel
theorem dX12_giftOf_20 : decode cX12_giftOf 20 = .ok (.iload_n 1, 1) := by decide +kernel
theorem dX12_giftOf_21 : decode cX12_giftOf 21 = .ok (.iaload, 1) := by decide +kernel
theorem dX12_giftOf_22 : decode cX12_giftOf 22 = .ok (.goto 32, 3) := by decide +kernel
theorem dX12_giftOf_25 : decode cX12_giftOf 25 = .ok (.iload_n 2, 1) := by decide +kernel
theorem dX12_giftOf_26 : decode cX12_giftOf 26 = .ok (.iconst 1, 1) := by decide +kernel
theorem dX12_giftOf_27 : decode cX12_giftOf 27 = .ok (.if_icmp .ne 12, 3) := by decide +kernel
theorem dX12_giftOf_30 : decode cX12_giftOf 30 = .ok (.aload_n 0, 1) := by decide +kernel
theorem dX12_giftOf_31 : decode cX12_giftOf 31 = .ok (.getfield 53, 3) := by decide +kernel
theorem dX12_giftOf_34 : decode cX12_giftOf 34 = .ok (.iload_n 1, 1) := by decide +kernel
theorem dX12_giftOf_35 : decode cX12_giftOf 35 = .ok (.iaload, 1) := by decide +kernel
theorem dX12_giftOf_36 : decode cX12_giftOf 36 = .ok (.goto 18, 3) := by decide +kernel
theorem dX12_giftOf_39 : decode cX12_giftOf 39 = .ok (.iload_n 2, 1) := by decide +kernel
theorem dX12_giftOf_40 : decode cX12_giftOf 40 = .ok (.iconst 2, 1) := by decide +kernel
theorem dX12_giftOf_41 : decode cX12_giftOf 41 = .ok (.if_icmp .ne 12, 3) := by decide +kernel
theorem dX12_giftOf_44 : decode cX12_giftOf 44 = .ok (.aload_n 0, 1) := by decide +kernel
theorem dX12_giftOf_45 : decode cX12_giftOf 45 = .ok (.getfield 56, 3) := by decide +kernel
theorem dX12_giftOf_48 : decode cX12_giftOf 48 = .ok (.iload_n 1, 1) := by decide +kernel
theorem dX12_giftOf_49 : decode cX12_giftOf 49 = .ok (.iaload, 1) := by decide +kernel
theorem dX12_giftOf_50 : decode cX12_giftOf 50 = .ok (.goto 4, 3) := by decide +kernel
theorem dX12_giftOf_53 : decode cX12_giftOf 53 = .ok (.iconst (-1), 1) := by decide +kernel
theorem dX12_giftOf_54 : decode cX12_giftOf 54 = .ok (.ireturn, 1) := by decide +kernel
set_option maxRecDepth 20000 in
theorem ggX12_store_X12_isIn : GoodIn wsX12_store wsX12_isIn := goodIn_sub (List.forall_mem_cons.mpr ⟨List.mem_cons_of_mem _ (List.mem_append_left _ (List.mem_of_getElem? (i := 5) rfl)), fun _ h => absurd h List.not_mem_nil⟩) (by decide +kernel)
set_option maxRecDepth 20000 in
theorem gX12_store_X12_isIn : GoodIn wsX12_store (va_wsS RX12 130 yX12_isIn wsX12_isIn) := goodIn_app (goodIn_sub (List.forall_mem_cons.mpr ⟨List.mem_cons_of_mem _ (List.mem_append_left _ (List.mem_of_getElem? (i := 2) rfl)), List.forall_mem_cons.mpr ⟨List.mem_cons_of_mem _ (List.mem_append_left _ (List.mem_of_getElem? (i := 3) rfl)), List.forall_mem_cons.mpr ⟨List.mem_cons_of_mem _ (List.mem_append_left _ (List.mem_of_getElem? (i := 4) rfl)), fun _ h => absurd h List.not_mem_nil⟩⟩⟩) (by decide +kernel)) ggX12_store_X12_isIn
theorem dX12_store_0 : decode cX12_store 0 = .ok (.iload_n 1, 1) := by decide +kernel
theorem dX12_store_1 : decode cX12_store 1 = .ok (.iconst 0, 1) := by decide +kernel
theorem dX12_store_2 : decode cX12_store 2 = .ok (.sipush 10000, 3) := by decide +kernel
theorem dX12_store_5 : decode cX12_store 5 = .ok (.invokestatic 130, 3) := by decide +kernel
theorem dX12_store_8 : decode cX12_store 8 = .ok (.ifCond .eq 15, 3) := by decide +kernel
theorem dX12_store_11 : decode cX12_store 11 = .ok (.aload_n 0, 1) := by decide +kernel

