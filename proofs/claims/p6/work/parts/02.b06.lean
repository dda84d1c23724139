theorem dX12_store_12 : decode cX12_store 12 = .ok (.getfield 264, 3) := by decide +kernel
theorem dX12_store_15 : decode cX12_store 15 = .ok (.iload_n 1, 1) := by decide +kernel
theorem dX12_store_16 : decode cX12_store 16 = .ok (.iadd, 1) := by decide +kernel
theorem dX12_store_17 : decode cX12_store 17 = .ok (.ldc_w 267, 3) := by decide +kernel
theorem dX12_store_20 : decode cX12_store 20 = .ok (.if_icmp .le 5, 3) := by decide +kernel
theorem dX12_store_23 : decode cX12_store 23 = .ok (.iconst (-1), 1) := by decide +kernel
theorem dX12_store_24 : decode cX12_store 24 = .ok (.ireturn, 1) := by decide +kernel
theorem dX12_store_25 : decode cX12_store 25 = .ok (.aload_n 0, 1) := by decide +kernel
theorem dX12_store_26 : decode cX12_store 26 = .ok (.dup, 1) := by decide +kernel
theorem dX12_store_27 : decode cX12_store 27 = .ok (.getfield 264, 3) := by decide +kernel
theorem dX12_store_30 : decode cX12_store 30 = .ok (.iload_n 1, 1) := by decide +kernel
theorem dX12_store_31 : decode cX12_store 31 = .ok (.iadd, 1) := by decide +kernel
theorem dX12_store_32 : decode cX12_store 32 = .ok (.putfield 264, 3) := by decide +kernel
theorem dX12_store_35 : decode cX12_store 35 = .ok (.aload_n 0, 1) := by decide +kernel
theorem dX12_store_36 : decode cX12_store 36 = .ok (.getfield 264, 3) := by decide +kernel
theorem dX12_store_39 : decode cX12_store 39 = .ok (.ireturn, 1) := by decide +kernel
theorem dX12_allGuests_0 : decode cX12_allGuests 0 = .ok (.iconst 0, 1) := by decide +kernel
theorem dX12_allGuests_1 : decode cX12_allGuests 1 = .ok (.istore_n 1, 1) := by decide +kernel
theorem dX12_allGuests_2 : decode cX12_allGuests 2 = .ok (.iconst 0, 1) := by decide +kernel
theorem dX12_allGuests_3 : decode cX12_allGuests 3 = .ok (.istore_n 2, 1) := by decide +kernel
theorem dX12_allGuests_4 : decode cX12_allGuests 4 = .ok (.iload_n 2, 1) := by decide +kernel
theorem dX12_allGuests_5 : decode cX12_allGuests 5 = .ok (.bipush 6, 2) := by decide +kernel
theorem dX12_allGuests_7 : decode cX12_allGuests 7 = .ok (.if_icmp .ge 18, 3) := by decide +kernel
theorem dX12_allGuests_10 : decode cX12_allGuests 10 = .ok (.iload_n 1, 1) := by decide +kernel
theorem dX12_allGuests_11 : decode cX12_allGuests 11 = .ok (.aload_n 0, 1) := by decide +kernel
theorem dX12_allGuests_12 : decode cX12_allGuests 12 = .ok (.getfield 77, 3) := by decide +kernel
theorem dX12_allGuests_15 : decode cX12_allGuests 15 = .ok (.iload_n 2, 1) := by decide +kernel
theorem dX12_allGuests_16 : decode cX12_allGuests 16 = .ok (.iaload, 1) := by decide +kernel
theorem dX12_allGuests_17 : decode cX12_allGuests 17 = .ok (.iadd, 1) := by decide +kernel
theorem dX12_allGuests_18 : decode cX12_allGuests 18 = .ok (.istore_n 1, 1) := by decide +kernel
theorem dX12_allGuests_19 : decode cX12_allGuests 19 = .ok (.iinc 2 1, 3) := by decide +kernel
theorem dX12_allGuests_22 : decode cX12_allGuests 22 = .ok (.goto (-18), 3) := by decide +kernel
theorem dX12_allGuests_25 : decode cX12_allGuests 25 = .ok (.iload_n 1, 1) := by decide +kernel
theorem dX12_allGuests_26 : decode cX12_allGuests 26 = .ok (.ireturn, 1) := by decide +kernel
set_option maxRecDepth 20000 in
theorem ggX12_guests_X12_isIn : GoodIn wsX12_guests wsX12_isIn := goodIn_sub (List.forall_mem_cons.mpr ⟨List.mem_cons_of_mem _ (List.mem_append_left _ (List.mem_of_getElem? (i := 4) rfl)), fun _ h => absurd h List.not_mem_nil⟩) (by decide +kernel)
set_option maxRecDepth 20000 in
theorem gX12_guests_X12_isIn : GoodIn wsX12_guests (va_wsS RX12 130 yX12_isIn wsX12_isIn) := goodIn_app (goodIn_sub (List.forall_mem_cons.mpr ⟨List.mem_cons_of_mem _ (List.mem_append_left _ (List.mem_of_getElem? (i := 1) rfl)), List.forall_mem_cons.mpr ⟨List.mem_cons_of_mem _ (List.mem_append_left _ (List.mem_of_getElem? (i := 2) rfl)), List.forall_mem_cons.mpr ⟨List.mem_cons_of_mem _ (List.mem_append_left _ (List.mem_of_getElem? (i := 3) rfl)), fun _ h => absurd h List.not_mem_nil⟩⟩⟩) (by decide +kernel)) ggX12_guests_X12_isIn
set_option maxRecDepth 20000 in
theorem ggX12_guests_X12_allGuests : GoodIn wsX12_guests wsX12_allGuests := goodIn_sub (List.forall_mem_cons.mpr ⟨List.mem_cons_of_mem _ (List.mem_append_left _ (List.mem_of_getElem? (i := 8) rfl)), List.forall_mem_append.mpr ⟨List.forall_mem_cons.mpr ⟨List.mem_cons_of_mem _ (List.mem_append_left _ (List.mem_of_getElem? (i := 0) rfl)), fun _ h => absurd h List.not_mem_nil⟩, tl_X12_guests_X12⟩⟩) (by decide +kernel)
set_option maxRecDepth 20000 in
theorem gX12_guests_X12_allGuests : GoodIn wsX12_guests (wsV RX12 268 RX12 yX12_allGuests wsX12_allGuests) := goodIn_app (goodIn_sub (List.forall_mem_cons.mpr ⟨List.mem_cons_of_mem _ (List.mem_append_left _ (List.mem_of_getElem? (i := 5) rfl)), List.forall_mem_cons.mpr ⟨List.mem_cons_of_mem _ (List.mem_append_left _ (List.mem_of_getElem? (i := 6) rfl)), List.forall_mem_cons.mpr ⟨List.mem_cons_of_mem _ (List.mem_append_left _ (List.mem_of_getElem? (i := 7) rfl)), List.forall_mem_cons.mpr ⟨List.mem_cons_of_mem _ (List.mem_append_left _ (List.mem_of_getElem? (i := 3) rfl)), fun _ h => absurd h List.not_mem_nil⟩⟩⟩⟩) (by decide +kernel)) ggX12_guests_X12_allGuests
theorem dX12_guests_0 : decode cX12_guests 0 = .ok (.iload_n 1, 1) := by decide +kernel
theorem dX12_guests_1 : decode cX12_guests 1 = .ok (.iconst 1, 1) := by decide +kernel
theorem dX12_guests_2 : decode cX12_guests 2 = .ok (.bipush 50, 2) := by decide +kernel
theorem dX12_guests_4 : decode cX12_guests 4 = .ok (.invokestatic 130, 3) := by decide +kernel
theorem dX12_guests_7 : decode cX12_guests 7 = .ok (.ifCond .eq 24, 3) := by decide +kernel
theorem dX12_guests_10 : decode cX12_guests 10 = .ok (.iload_n 2, 1) := by decide +kernel
theorem dX12_guests_11 : decode cX12_guests 11 = .ok (.iconst 0, 1) := by decide +kernel
theorem dX12_guests_12 : decode cX12_guests 12 = .ok (.iconst 5, 1) := by decide +kernel
theorem dX12_guests_13 : decode cX12_guests 13 = .ok (.invokestatic 130, 3) := by decide +kernel
theorem dX12_guests_16 : decode cX12_guests 16 = .ok (.ifCond .eq 15, 3) := by decide +kernel
theorem dX12_guests_19 : decode cX12_guests 19 = .ok (.aload_n 0, 1) := by decide +kernel
theorem dX12_guests_20 : decode cX12_guests 20 = .ok (.invokevirtual 268, 3) := by decide +kernel
theorem dX12_guests_23 : decode cX12_guests 23 = .ok (.iload_n 1, 1) := by decide +kernel
theorem dX12_guests_24 : decode cX12_guests 24 = .ok (.iadd, 1) := by decide +kernel
theorem dX12_guests_25 : decode cX12_guests 25 = .ok (.sipush 200, 3) := by decide +kernel
theorem dX12_guests_28 : decode cX12_guests 28 = .ok (.if_icmp .le 5, 3) := by decide +kernel
theorem dX12_guests_31 : decode cX12_guests 31 = .ok (.iconst (-1), 1) := by decide +kernel
theorem dX12_guests_32 : decode cX12_guests 32 = .ok (.ireturn, 1) := by decide +kernel
theorem dX12_guests_33 : decode cX12_guests 33 = .ok (.aload_n 0, 1) := by decide +kernel
theorem dX12_guests_34 : decode cX12_guests 34 = .ok (.getfield 77, 3) := by decide +kernel
theorem dX12_guests_37 : decode cX12_guests 37 = .ok (.iload_n 2, 1) := by decide +kernel
theorem dX12_guests_38 : decode cX12_guests 38 = .ok (.dup2, 1) := by decide +kernel
theorem dX12_guests_39 : decode cX12_guests 39 = .ok (.iaload, 1) := by decide +kernel
theorem dX12_guests_40 : decode cX12_guests 40 = .ok (.iload_n 1, 1) := by decide +kernel
theorem dX12_guests_41 : decode cX12_guests 41 = .ok (.iadd, 1) := by decide +kernel
theorem dX12_guests_42 : decode cX12_guests 42 = .ok (.iastore, 1) := by decide +kernel
theorem dX12_guests_43 : decode cX12_guests 43 = .ok (.aload_n 0, 1) := by decide +kernel
theorem dX12_guests_44 : decode cX12_guests 44 = .ok (.invokevirtual 268, 3) := by decide +kernel
theorem dX12_guests_47 : decode cX12_guests 47 = .ok (.ireturn, 1) := by decide +kernel
theorem dX12_hasDuty_0 : decode cX12_hasDuty 0 = .ok (.iconst 0, 1) := by decide +kernel
theorem dX12_hasDuty_1 : decode cX12_hasDuty 1 = .ok (.istore_n 3, 1) := by decide +kernel
theorem dX12_hasDuty_2 : decode cX12_hasDuty 2 = .ok (.iconst 0, 1) := by decide +kernel
theorem dX12_hasDuty_3 : decode cX12_hasDuty 3 = .ok (.istore 4, 2) := by decide +kernel
theorem dX12_hasDuty_5 : decode cX12_hasDuty 5 = .ok (.iload 4, 2) := by decide +kernel
theorem dX12_hasDuty_7 : decode cX12_hasDuty 7 = .ok (.iconst 4, 1) := by decide +kernel
theorem dX12_hasDuty_8 : decode cX12_hasDuty 8 = .ok (.if_icmp .ge 34, 3) := by decide +kernel
theorem dX12_hasDuty_11 : decode cX12_hasDuty 11 = .ok (.iload_n 3, 1) := by decide +kernel
theorem dX12_hasDuty_12 : decode cX12_hasDuty 12 = .ok (.ifCond .ne 18, 3) := by decide +kernel
theorem dX12_hasDuty_15 : decode cX12_hasDuty 15 = .ok (.aload_n 0, 1) := by decide +kernel
theorem dX12_hasDuty_16 : decode cX12_hasDuty 16 = .ok (.getfield 80, 3) := by decide +kernel
theorem dX12_hasDuty_19 : decode cX12_hasDuty 19 = .ok (.iconst 4, 1) := by decide +kernel
theorem dX12_hasDuty_20 : decode cX12_hasDuty 20 = .ok (.iload_n 2, 1) := by decide +kernel
theorem dX12_hasDuty_21 : decode cX12_hasDuty 21 = .ok (.imul, 1) := by decide +kernel
theorem dX12_hasDuty_22 : decode cX12_hasDuty 22 = .ok (.iload 4, 2) := by decide +kernel
theorem dX12_hasDuty_24 : decode cX12_hasDuty 24 = .ok (.iadd, 1) := by decide +kernel
theorem dX12_hasDuty_25 : decode cX12_hasDuty 25 = .ok (.iaload, 1) := by decide +kernel
theorem dX12_hasDuty_26 : decode cX12_hasDuty 26 = .ok (.iload_n 1, 1) := by decide +kernel
theorem dX12_hasDuty_27 : decode cX12_hasDuty 27 = .ok (.if_icmp .ne 7, 3) := by decide +kernel
theorem dX12_hasDuty_30 : decode cX12_hasDuty 30 = .ok (.iconst 1, 1) := by decide +kernel
theorem dX12_hasDuty_31 : decode cX12_hasDuty 31 = .ok (.goto 4, 3) := by decide +kernel
theorem dX12_hasDuty_34 : decode cX12_hasDuty 34 = .ok (.iconst 0, 1) := by decide +kernel
theorem dX12_hasDuty_35 : decode cX12_hasDuty 35 = .ok (.istore_n 3, 1) := by decide +kernel
theorem dX12_hasDuty_36 : decode cX12_hasDuty 36 = .ok (.iinc 4 1, 3) := by decide +kernel
theorem dX12_hasDuty_39 : decode cX12_hasDuty 39 = .ok (.goto (-34), 3) := by decide +kernel
theorem dX12_hasDuty_42 : decode cX12_hasDuty 42 = .ok (.iload_n 3, 1) := by decide +kernel
theorem dX12_hasDuty_43 : decode cX12_hasDuty 43 = .ok (.ireturn, 1) := by decide +kernel
set_option maxRecDepth 20000 in
theorem ggX12_nextFor_X12_isAble : GoodIn wsX12_nextFor wsX12_isAble := goodIn_sub (List.forall_mem_cons.mpr ⟨List.mem_cons_of_mem _ (List.mem_append_left _ (List.mem_of_getElem? (i := 7) rfl)), List.forall_mem_append.mpr ⟨List.forall_mem_cons.mpr ⟨List.mem_cons_of_mem _ (List.mem_append_left _ (List.mem_of_getElem? (i := 8) rfl)), List.forall_mem_cons.mpr ⟨List.mem_cons_of_mem _ (List.mem_append_left _ (List.mem_of_getElem? (i := 9) rfl)), List.forall_mem_cons.mpr ⟨List.mem_cons_of_mem _ (List.mem_append_left _ (List.mem_of_getElem? (i := 10) rfl)), List.forall_mem_cons.mpr ⟨List.mem_cons_of_mem _ (List.mem_append_left _ (List.mem_of_getElem? (i := 11) rfl)), List.forall_mem_cons.mpr ⟨List.mem_cons_of_mem _ (List.mem_append_left _ (List.mem_of_getElem? (i := 12) rfl)), List.forall_mem_cons.mpr ⟨List.mem_cons_of_mem _ (List.mem_append_left _ (List.mem_of_getElem? (i := 13) rfl)), List.forall_mem_cons.mpr ⟨List.mem_cons_of_mem _ (List.mem_append_left _ (List.mem_of_getElem? (i := 14) rfl)), List.forall_mem_cons.mpr ⟨List.mem_cons_of_mem _ (List.mem_append_left _ (List.mem_of_getElem? (i := 6) rfl)), List.forall_mem_cons.mpr ⟨List.mem_cons_of_mem _ (List.mem_append_left _ (List.mem_of_getElem? (i := 15) rfl)), fun _ h => absurd h List.not_mem_nil⟩⟩⟩⟩⟩⟩⟩⟩⟩, tl_X12_nextFor_X12⟩⟩) (by decide +kernel)
set_option maxRecDepth 20000 in
theorem gX12_nextFor_X12_isAble : GoodIn wsX12_nextFor (wsV RX12 272 RX12 yX12_isAble wsX12_isAble) := goodIn_app (goodIn_sub (List.forall_mem_cons.mpr ⟨List.mem_cons_of_mem _ (List.mem_append_left _ (List.mem_of_getElem? (i := 3) rfl)), List.forall_mem_cons.mpr ⟨List.mem_cons_of_mem _ (List.mem_append_left _ (List.mem_of_getElem? (i := 4) rfl)), List.forall_mem_cons.mpr ⟨List.mem_cons_of_mem _ (List.mem_append_left _ (List.mem_of_getElem? (i := 5) rfl)), List.forall_mem_cons.mpr ⟨List.mem_cons_of_mem _ (List.mem_append_left _ (List.mem_of_getElem? (i := 6) rfl)), fun _ h => absurd h List.not_mem_nil⟩⟩⟩⟩) (by decide +kernel)) ggX12_nextFor_X12_isAble
set_option maxRecDepth 20000 in
theorem ggX12_nextFor_X12_hasDuty : GoodIn wsX12_nextFor wsX12_hasDuty := goodIn_sub (List.forall_mem_cons.mpr ⟨List.mem_cons_of_mem _ (List.mem_append_left _ (List.mem_of_getElem? (i := 19) rfl)), List.forall_mem_append.mpr ⟨List.forall_mem_cons.mpr ⟨List.mem_cons_of_mem _ (List.mem_append_left _ (List.mem_of_getElem? (i := 20) rfl)), fun _ h => absurd h List.not_mem_nil⟩, tl_X12_nextFor_X12⟩⟩) (by decide +kernel)
set_option maxRecDepth 20000 in
theorem gX12_nextFor_X12_hasDuty : GoodIn wsX12_nextFor (wsV RX12 276 RX12 yX12_hasDuty wsX12_hasDuty) := goodIn_app (goodIn_sub (List.forall_mem_cons.mpr ⟨List.mem_cons_of_mem _ (List.mem_append_left _ (List.mem_of_getElem? (i := 16) rfl)), List.forall_mem_cons.mpr ⟨List.mem_cons_of_mem _ (List.mem_append_left _ (List.mem_of_getElem? (i := 17) rfl)), List.forall_mem_cons.mpr ⟨List.mem_cons_of_mem _ (List.mem_append_left _ (List.mem_of_getElem? (i := 18) rfl)), List.forall_mem_cons.mpr ⟨List.mem_cons_of_mem _ (List.mem_append_left _ (List.mem_of_getElem? (i := 6) rfl)), fun _ h => absurd h List.not_mem_nil⟩⟩⟩⟩) (by decide +kernel)) ggX12_nextFor_X12_hasDuty
theorem dX12_nextFor_0 : decode cX12_nextFor 0 = .ok (.iconst (-1), 1) := by decide +kernel
theorem dX12_nextFor_1 : decode cX12_nextFor 1 = .ok (.istore 4, 2) := by decide +kernel
theorem dX12_nextFor_3 : decode cX12_nextFor 3 = .ok (.iconst 0, 1) := by decide +kernel
theorem dX12_nextFor_4 : decode cX12_nextFor 4 = .ok (.istore 5, 2) := by decide +kernel
theorem dX12_nextFor_6 : decode cX12_nextFor 6 = .ok (.iload 5, 2) := by decide +kernel
theorem dX12_nextFor_8 : decode cX12_nextFor 8 = .ok (.aload_n 0, 1) := by decide +kernel
theorem dX12_nextFor_9 : decode cX12_nextFor 9 = .ok (.getfield 134, 3) := by decide +kernel
theorem dX12_nextFor_12 : decode cX12_nextFor 12 = .ok (.if_icmp .ge 88, 3) := by decide +kernel
theorem dX12_nextFor_15 : decode cX12_nextFor 15 = .ok (.iload 5, 2) := by decide +kernel
theorem dX12_nextFor_17 : decode cX12_nextFor 17 = .ok (.iload_n 3, 1) := by decide +kernel
theorem dX12_nextFor_18 : decode cX12_nextFor 18 = .ok (.if_icmp .eq 76, 3) := by decide +kernel
theorem dX12_nextFor_21 : decode cX12_nextFor 21 = .ok (.aload_n 0, 1) := by decide +kernel
theorem dX12_nextFor_22 : decode cX12_nextFor 22 = .ok (.getfield 13, 3) := by decide +kernel
theorem dX12_nextFor_25 : decode cX12_nextFor 25 = .ok (.iload 5, 2) := by decide +kernel
theorem dX12_nextFor_27 : decode cX12_nextFor 27 = .ok (.iaload, 1) := by decide +kernel
theorem dX12_nextFor_28 : decode cX12_nextFor 28 = .ok (.iload_n 1, 1) := by decide +kernel
theorem dX12_nextFor_29 : decode cX12_nextFor 29 = .ok (.ishr, 1) := by decide +kernel
theorem dX12_nextFor_30 : decode cX12_nextFor 30 = .ok (.iconst 1, 1) := by decide +kernel
theorem dX12_nextFor_31 : decode cX12_nextFor 31 = .ok (.iand, 1) := by decide +kernel
theorem dX12_nextFor_32 : decode cX12_nextFor 32 = .ok (.iconst 1, 1) := by decide +kernel
theorem dX12_nextFor_33 : decode cX12_nextFor 33 = .ok (.if_icmp .eq 61, 3) := by decide +kernel
theorem dX12_nextFor_36 : decode cX12_nextFor 36 = .ok (.aload_n 0, 1) := by decide +kernel
theorem dX12_nextFor_37 : decode cX12_nextFor 37 = .ok (.iload 5, 2) := by decide +kernel
theorem dX12_nextFor_39 : decode cX12_nextFor 39 = .ok (.iload_n 2, 1) := by decide +kernel
theorem dX12_nextFor_40 : decode cX12_nextFor 40 = .ok (.invokevirtual 272, 3) := by decide +kernel
theorem dX12_nextFor_43 : decode cX12_nextFor 43 = .ok (.ifCond .eq 51, 3) := by decide +kernel
theorem dX12_nextFor_46 : decode cX12_nextFor 46 = .ok (.aload_n 0, 1) := by decide +kernel
theorem dX12_nextFor_47 : decode cX12_nextFor 47 = .ok (.iload 5, 2) := by decide +kernel
theorem dX12_nextFor_49 : decode cX12_nextFor 49 = .ok (.iload_n 2, 1) := by decide +kernel
theorem dX12_nextFor_50 : decode cX12_nextFor 50 = .ok (.invokevirtual 276, 3) := by decide +kernel
theorem dX12_nextFor_53 : decode cX12_nextFor 53 = .ok (.ifCond .eq 6, 3) := by decide +kernel
theorem dX12_nextFor_56 : decode cX12_nextFor 56 = .ok (.goto 38, 3) := by decide +kernel
theorem dX12_nextFor_59 : decode cX12_nextFor 59 = .ok (.iload 4, 2) := by decide +kernel
theorem dX12_nextFor_61 : decode cX12_nextFor 61 = .ok (.iconst (-1), 1) := by decide +kernel
theorem dX12_nextFor_62 : decode cX12_nextFor 62 = .ok (.if_icmp .eq 28, 3) := by decide +kernel
theorem dX12_nextFor_65 : decode cX12_nextFor 65 = .ok (.aload_n 0, 1) := by decide +kernel
theorem dX12_nextFor_66 : decode cX12_nextFor 66 = .ok (.getfield 20, 3) := by decide +kernel
theorem dX12_nextFor_69 : decode cX12_nextFor 69 = .ok (.iconst 4, 1) := by decide +kernel
theorem dX12_nextFor_70 : decode cX12_nextFor 70 = .ok (.iload 5, 2) := by decide +kernel
theorem dX12_nextFor_72 : decode cX12_nextFor 72 = .ok (.imul, 1) := by decide +kernel
theorem dX12_nextFor_73 : decode cX12_nextFor 73 = .ok (.iload_n 1, 1) := by decide +kernel
theorem dX12_nextFor_74 : decode cX12_nextFor 74 = .ok (.iadd, 1) := by decide +kernel
theorem dX12_nextFor_75 : decode cX12_nextFor 75 = .ok (.iaload, 1) := by decide +kernel
theorem dX12_nextFor_76 : decode cX12_nextFor 76 = .ok (.aload_n 0, 1) := by decide +kernel
theorem dX12_nextFor_77 : decode cX12_nextFor 77 = .ok (.getfield 20, 3) := by decide +kernel
theorem dX12_nextFor_80 : decode cX12_nextFor 80 = .ok (.iconst 4, 1) := by decide +kernel
theorem dX12_nextFor_81 : decode cX12_nextFor 81 = .ok (.iload 4, 2) := by decide +kernel
theorem dX12_nextFor_83 : decode cX12_nextFor 83 = .ok (.imul, 1) := by decide +kernel
theorem dX12_nextFor_84 : decode cX12_nextFor 84 = .ok (.iload_n 1, 1) := by decide +kernel
theorem dX12_nextFor_85 : decode cX12_nextFor 85 = .ok (.iadd, 1) := by decide +kernel
theorem dX12_nextFor_86 : decode cX12_nextFor 86 = .ok (.iaload, 1) := by decide +kernel
theorem dX12_nextFor_87 : decode cX12_nextFor 87 = .ok (.if_icmp .ge 7, 3) := by decide +kernel
theorem dX12_nextFor_90 : decode cX12_nextFor 90 = .ok (.iload 5, 2) := by decide +kernel
theorem dX12_nextFor_92 : decode cX12_nextFor 92 = .ok (.istore 4, 2) := by decide +kernel
theorem dX12_nextFor_94 : decode cX12_nextFor 94 = .ok (.iinc 5 1, 3) := by decide +kernel
theorem dX12_nextFor_97 : decode cX12_nextFor 97 = .ok (.goto (-91), 3) := by decide +kernel
theorem dX12_nextFor_100 : decode cX12_nextFor 100 = .ok (.iload 4, 2) := by decide +kernel
theorem dX12_nextFor_102 : decode cX12_nextFor 102 = .ok (.ireturn, 1) := by decide +kernel
theorem dX12_has_0 : decode cX12_has 0 = .ok (.aload_n 0, 1) := by decide +kernel
theorem dX12_has_1 : decode cX12_has 1 = .ok (.getfield 80, 3) := by decide +kernel
theorem dX12_has_4 : decode cX12_has 4 = .ok (.iconst 4, 1) := by decide +kernel
theorem dX12_has_5 : decode cX12_has 5 = .ok (.iload_n 3, 1) := by decide +kernel
theorem dX12_has_6 : decode cX12_has 6 = .ok (.imul, 1) := by decide +kernel
theorem dX12_has_7 : decode cX12_has 7 = .ok (.iload_n 2, 1) := by decide +kernel
theorem dX12_has_8 : decode cX12_has 8 = .ok (.iadd, 1) := by decide +kernel
theorem dX12_has_9 : decode cX12_has 9 = .ok (.iload_n 1, 1) := by decide +kernel
theorem dX12_has_10 : decode cX12_has 10 = .ok (.iastore, 1) := by decide +kernel
theorem dX12_has_11 : decode cX12_has 11 = .ok (.iload_n 1, 1) := by decide +kernel
theorem dX12_has_12 : decode cX12_has 12 = .ok (.iconst (-1), 1) := by decide +kernel
theorem dX12_has_13 : decode cX12_has 13 = .ok (.if_icmp .eq 17, 3) := by decide +kernel
theorem dX12_has_16 : decode cX12_has 16 = .ok (.aload_n 0, 1) := by decide +kernel
theorem dX12_has_17 : decode cX12_has 17 = .ok (.getfield 20, 3) := by decide +kernel
theorem dX12_has_20 : decode cX12_has 20 = .ok (.iconst 4, 1) := by decide +kernel
theorem dX12_has_21 : decode cX12_has 21 = .ok (.iload_n 1, 1) := by decide +kernel
theorem dX12_has_22 : decode cX12_has 22 = .ok (.imul, 1) := by decide +kernel
theorem dX12_has_23 : decode cX12_has 23 = .ok (.iload_n 2, 1) := by decide +kernel
theorem dX12_has_24 : decode cX12_has 24 = .ok (.iadd, 1) := by decide +kernel
theorem dX12_has_25 : decode cX12_has 25 = .ok (.dup2, 1) := by decide +kernel
theorem dX12_has_26 : decode cX12_has 26 = .ok (.iaload, 1) := by decide +kernel
theorem dX12_has_27 : decode cX12_has 27 = .ok (.iconst 1, 1) := by decide +kernel
theorem dX12_has_28 : decode cX12_has 28 = .ok (.iadd, 1) := by decide +kernel
theorem dX12_has_29 : decode cX12_has 29 = .ok (.iastore, 1) := by decide +kernel
theorem dX12_has_30 : decode cX12_has 30 = .ok (.return_, 1) := by decide +kernel
set_option maxRecDepth 20000 in
theorem ggX12_day_X12_nextFor : GoodIn wsX12_day wsX12_nextFor := goodIn_sub (List.forall_mem_cons.mpr ⟨mc_X12_day_r1 _ (List.mem_of_getElem? (i := 20) rfl), List.forall_mem_append.mpr ⟨List.forall_mem_cons.mpr ⟨mc_X12_day_r1 _ (List.mem_of_getElem? (i := 1) rfl), List.forall_mem_cons.mpr ⟨mc_X12_day_r1 _ (List.mem_of_getElem? (i := 21) rfl), List.forall_mem_cons.mpr ⟨mc_X12_day_r1 _ (List.mem_of_getElem? (i := 22) rfl), List.forall_mem_cons.mpr ⟨mc_X12_day_r1 _ (List.mem_of_getElem? (i := 23) rfl), List.forall_mem_cons.mpr ⟨mc_X12_day_r2 _ (List.mem_of_getElem? (i := 0) rfl), List.forall_mem_cons.mpr ⟨mc_X12_day_r2 _ (List.mem_of_getElem? (i := 1) rfl), List.forall_mem_cons.mpr ⟨mc_X12_day_r1 _ (List.mem_of_getElem? (i := 19) rfl), List.forall_mem_cons.mpr ⟨mc_X12_day_r2 _ (List.mem_of_getElem? (i := 2) rfl), List.forall_mem_cons.mpr ⟨mc_X12_day_r2 _ (List.mem_of_getElem? (i := 3) rfl), List.forall_mem_cons.mpr ⟨mc_X12_day_r2 _ (List.mem_of_getElem? (i := 4) rfl), List.forall_mem_cons.mpr ⟨mc_X12_day_r2 _ (List.mem_of_getElem? (i := 5) rfl), List.forall_mem_cons.mpr ⟨mc_X12_day_r2 _ (List.mem_of_getElem? (i := 6) rfl), List.forall_mem_cons.mpr ⟨mc_X12_day_r2 _ (List.mem_of_getElem? (i := 7) rfl), List.forall_mem_cons.mpr ⟨mc_X12_day_r2 _ (List.mem_of_getElem? (i := 8) rfl), List.forall_mem_cons.mpr ⟨mc_X12_day_r2 _ (List.mem_of_getElem? (i := 9) rfl), List.forall_mem_cons.mpr ⟨mc_X12_day_r2 _ (List.mem_of_getElem? (i := 10) rfl), List.forall_mem_cons.mpr ⟨mc_X12_day_r2 _ (List.mem_of_getElem? (i := 11) rfl), List.forall_mem_cons.mpr ⟨mc_X12_day_r2 _ (List.mem_of_getElem? (i := 12) rfl), List.forall_mem_cons.mpr ⟨mc_X12_day_r2 _ (List.mem_of_getElem? (i := 13) rfl), List.forall_mem_cons.mpr ⟨mc_X12_day_r2 _ (List.mem_of_getElem? (i := 14) rfl), List.forall_mem_cons.mpr ⟨mc_X12_day_r2 _ (List.mem_of_getElem? (i := 15) rfl), fun _ h => absurd h List.not_mem_nil⟩⟩⟩⟩⟩⟩⟩⟩⟩⟩⟩⟩⟩⟩⟩⟩⟩⟩⟩⟩⟩, tl_X12_day_X12⟩⟩) (by decide +kernel)
set_option maxRecDepth 20000 in
theorem gX12_day_X12_nextFor : GoodIn wsX12_day (wsV RX12 279 RX12 yX12_nextFor wsX12_nextFor) := goodIn_app (goodIn_sub (List.forall_mem_cons.mpr ⟨mc_X12_day_r1 _ (List.mem_of_getElem? (i := 16) rfl), List.forall_mem_cons.mpr ⟨mc_X12_day_r1 _ (List.mem_of_getElem? (i := 17) rfl), List.forall_mem_cons.mpr ⟨mc_X12_day_r1 _ (List.mem_of_getElem? (i := 18) rfl), List.forall_mem_cons.mpr ⟨mc_X12_day_r1 _ (List.mem_of_getElem? (i := 19) rfl), fun _ h => absurd h List.not_mem_nil⟩⟩⟩⟩) (by decide +kernel)) ggX12_day_X12_nextFor
set_option maxRecDepth 20000 in
theorem ggX12_day_X12_has : GoodIn wsX12_day wsX12_has := goodIn_sub (List.forall_mem_cons.mpr ⟨mc_X12_day_r2 _ (List.mem_of_getElem? (i := 19) rfl), List.forall_mem_append.mpr ⟨List.forall_mem_cons.mpr ⟨mc_X12_day_r2 _ (List.mem_of_getElem? (i := 15) rfl), List.forall_mem_cons.mpr ⟨mc_X12_day_r1 _ (List.mem_of_getElem? (i := 22) rfl), fun _ h => absurd h List.not_mem_nil⟩⟩, tl_X12_day_X12⟩⟩) (by decide +kernel)
set_option maxRecDepth 20000 in
theorem gX12_day_X12_has : GoodIn wsX12_day (wsV RX12 282 RX12 yX12_has wsX12_has) := goodIn_app (goodIn_sub (List.forall_mem_cons.mpr ⟨mc_X12_day_r2 _ (List.mem_of_getElem? (i := 16) rfl), List.forall_mem_cons.mpr ⟨mc_X12_day_r2 _ (List.mem_of_getElem? (i := 17) rfl), List.forall_mem_cons.mpr ⟨mc_X12_day_r2 _ (List.mem_of_getElem? (i := 18) rfl), List.forall_mem_cons.mpr ⟨mc_X12_day_r1 _ (List.mem_of_getElem? (i := 19) rfl), fun _ h => absurd h List.not_mem_nil⟩⟩⟩⟩) (by decide +kernel)) ggX12_day_X12_has
set_option maxRecDepth 20000 in
theorem ggX12_day_X12_owes : GoodIn wsX12_day wsX12_owes := goodIn_sub (List.forall_mem_cons.mpr ⟨mc_X12_day_r2 _ (List.mem_of_getElem? (i := 23) rfl), List.forall_mem_append.mpr ⟨List.forall_mem_cons.mpr ⟨mc_X12_day_r1 _ (List.mem_of_getElem? (i := 3) rfl), List.forall_mem_cons.mpr ⟨mc_X12_day_r3 _ (List.mem_of_getElem? (i := 0) rfl), List.forall_mem_cons.mpr ⟨mc_X12_day_r3 _ (List.mem_of_getElem? (i := 1) rfl), List.forall_mem_cons.mpr ⟨mc_X12_day_r3 _ (List.mem_of_getElem? (i := 2) rfl), List.forall_mem_cons.mpr ⟨mc_X12_day_r3 _ (List.mem_of_getElem? (i := 3) rfl), List.forall_mem_cons.mpr ⟨mc_X12_day_r3 _ (List.mem_of_getElem? (i := 4) rfl), List.forall_mem_cons.mpr ⟨mc_X12_day_r3 _ (List.mem_of_getElem? (i := 5) rfl), List.forall_mem_cons.mpr ⟨mc_X12_day_r3 _ (List.mem_of_getElem? (i := 6) rfl), List.forall_mem_cons.mpr ⟨mc_X12_day_r3 _ (List.mem_of_getElem? (i := 7) rfl), List.forall_mem_cons.mpr ⟨mc_X12_day_r3 _ (List.mem_of_getElem? (i := 8) rfl), List.forall_mem_cons.mpr ⟨mc_X12_day_r1 _ (List.mem_of_getElem? (i := 5) rfl), List.forall_mem_cons.mpr ⟨mc_X12_day_r2 _ (List.mem_of_getElem? (i := 8) rfl), List.forall_mem_cons.mpr ⟨mc_X12_day_r2 _ (List.mem_of_getElem? (i := 9) rfl), List.forall_mem_cons.mpr ⟨mc_X12_day_r1 _ (List.mem_of_getElem? (i := 19) rfl), List.forall_mem_cons.mpr ⟨mc_X12_day_r2 _ (List.mem_of_getElem? (i := 10) rfl), fun _ h => absurd h List.not_mem_nil⟩⟩⟩⟩⟩⟩⟩⟩⟩⟩⟩⟩⟩⟩⟩, tl_X12_day_X12⟩⟩) (by decide +kernel)
set_option maxRecDepth 20000 in
theorem gX12_day_X12_owes : GoodIn wsX12_day (wsV RX12 286 RX12 yX12_owes wsX12_owes) := goodIn_app (goodIn_sub (List.forall_mem_cons.mpr ⟨mc_X12_day_r2 _ (List.mem_of_getElem? (i := 20) rfl), List.forall_mem_cons.mpr ⟨mc_X12_day_r2 _ (List.mem_of_getElem? (i := 21) rfl), List.forall_mem_cons.mpr ⟨mc_X12_day_r2 _ (List.mem_of_getElem? (i := 22) rfl), List.forall_mem_cons.mpr ⟨mc_X12_day_r1 _ (List.mem_of_getElem? (i := 19) rfl), fun _ h => absurd h List.not_mem_nil⟩⟩⟩⟩) (by decide +kernel)) ggX12_day_X12_owes
set_option maxRecDepth 20000 in
theorem ggX12_day_X12_isAble : GoodIn wsX12_day wsX12_isAble := goodIn_sub (List.forall_mem_cons.mpr ⟨mc_X12_day_r2 _ (List.mem_of_getElem? (i := 2) rfl), List.forall_mem_append.mpr ⟨List.forall_mem_cons.mpr ⟨mc_X12_day_r2 _ (List.mem_of_getElem? (i := 3) rfl), List.forall_mem_cons.mpr ⟨mc_X12_day_r2 _ (List.mem_of_getElem? (i := 4) rfl), List.forall_mem_cons.mpr ⟨mc_X12_day_r2 _ (List.mem_of_getElem? (i := 5) rfl), List.forall_mem_cons.mpr ⟨mc_X12_day_r2 _ (List.mem_of_getElem? (i := 6) rfl), List.forall_mem_cons.mpr ⟨mc_X12_day_r2 _ (List.mem_of_getElem? (i := 7) rfl), List.forall_mem_cons.mpr ⟨mc_X12_day_r2 _ (List.mem_of_getElem? (i := 8) rfl), List.forall_mem_cons.mpr ⟨mc_X12_day_r2 _ (List.mem_of_getElem? (i := 9) rfl), List.forall_mem_cons.mpr ⟨mc_X12_day_r1 _ (List.mem_of_getElem? (i := 19) rfl), List.forall_mem_cons.mpr ⟨mc_X12_day_r2 _ (List.mem_of_getElem? (i := 10) rfl), fun _ h => absurd h List.not_mem_nil⟩⟩⟩⟩⟩⟩⟩⟩⟩, tl_X12_day_X12⟩⟩) (by decide +kernel)
set_option maxRecDepth 20000 in
theorem gX12_day_X12_isAble : GoodIn wsX12_day (wsV RX12 272 RX12 yX12_isAble wsX12_isAble) := goodIn_app (goodIn_sub (List.forall_mem_cons.mpr ⟨mc_X12_day_r1 _ (List.mem_of_getElem? (i := 23) rfl), List.forall_mem_cons.mpr ⟨mc_X12_day_r2 _ (List.mem_of_getElem? (i := 0) rfl), List.forall_mem_cons.mpr ⟨mc_X12_day_r2 _ (List.mem_of_getElem? (i := 1) rfl), List.forall_mem_cons.mpr ⟨mc_X12_day_r1 _ (List.mem_of_getElem? (i := 19) rfl), fun _ h => absurd h List.not_mem_nil⟩⟩⟩⟩) (by decide +kernel)) ggX12_day_X12_isAble
set_option maxRecDepth 20000 in
theorem ggX12_day_X12_says : GoodIn wsX12_day wsX12_says := goodIn_sub (List.forall_mem_cons.mpr ⟨mc_X12_day_r3 _ (List.mem_of_getElem? (i := 12) rfl), List.forall_mem_append.mpr ⟨List.forall_mem_cons.mpr ⟨mc_X12_day_r1 _ (List.mem_of_getElem? (i := 3) rfl), List.forall_mem_cons.mpr ⟨mc_X12_day_r1 _ (List.mem_of_getElem? (i := 5) rfl), List.forall_mem_cons.mpr ⟨mc_X12_day_r3 _ (List.mem_of_getElem? (i := 13) rfl), List.forall_mem_cons.mpr ⟨mc_X12_day_r3 _ (List.mem_of_getElem? (i := 14) rfl), fun _ h => absurd h List.not_mem_nil⟩⟩⟩⟩, tl_X12_day_X12⟩⟩) (by decide +kernel)
set_option maxRecDepth 20000 in
theorem gX12_day_X12_says : GoodIn wsX12_day (wsV RX12 289 RX12 yX12_says wsX12_says) := goodIn_app (goodIn_sub (List.forall_mem_cons.mpr ⟨mc_X12_day_r3 _ (List.mem_of_getElem? (i := 9) rfl), List.forall_mem_cons.mpr ⟨mc_X12_day_r3 _ (List.mem_of_getElem? (i := 10) rfl), List.forall_mem_cons.mpr ⟨mc_X12_day_r3 _ (List.mem_of_getElem? (i := 11) rfl), List.forall_mem_cons.mpr ⟨mc_X12_day_r1 _ (List.mem_of_getElem? (i := 19) rfl), fun _ h => absurd h List.not_mem_nil⟩⟩⟩⟩) (by decide +kernel)) ggX12_day_X12_says
set_option maxRecDepth 20000 in
theorem mm_X12_day_X12_headFeed_r1 : ∀ w ∈ wsX12_headFeed_r1, w ∈ wsX12_day := List.forall_mem_cons.mpr ⟨mc_X12_day_r3 _ (List.mem_of_getElem? (i := 19) rfl), List.forall_mem_cons.mpr ⟨mc_X12_day_r3 _ (List.mem_of_getElem? (i := 20) rfl), List.forall_mem_cons.mpr ⟨mc_X12_day_r3 _ (List.mem_of_getElem? (i := 21) rfl), List.forall_mem_cons.mpr ⟨mc_X12_day_r1 _ (List.mem_of_getElem? (i := 19) rfl), List.forall_mem_cons.mpr ⟨mc_X12_day_r3 _ (List.mem_of_getElem? (i := 22) rfl), List.forall_mem_cons.mpr ⟨mc_X12_day_r3 _ (List.mem_of_getElem? (i := 23) rfl), List.forall_mem_cons.mpr ⟨mc_X12_day_r4 _ (List.mem_of_getElem? (i := 0) rfl), List.forall_mem_cons.mpr ⟨mc_X12_day_r4 _ (List.mem_of_getElem? (i := 1) rfl), List.forall_mem_cons.mpr ⟨mc_X12_day_r4 _ (List.mem_of_getElem? (i := 2) rfl), List.forall_mem_cons.mpr ⟨mc_X12_day_r4 _ (List.mem_of_getElem? (i := 3) rfl), List.forall_mem_cons.mpr ⟨mc_X12_day_r4 _ (List.mem_of_getElem? (i := 4) rfl), List.forall_mem_cons.mpr ⟨mc_X12_day_r4 _ (List.mem_of_getElem? (i := 5) rfl), List.forall_mem_cons.mpr ⟨mc_X12_day_r4 _ (List.mem_of_getElem? (i := 6) rfl), List.forall_mem_cons.mpr ⟨mc_X12_day_r4 _ (List.mem_of_getElem? (i := 7) rfl), List.forall_mem_cons.mpr ⟨mc_X12_day_r4 _ (List.mem_of_getElem? (i := 8) rfl), List.forall_mem_cons.mpr ⟨mc_X12_day_r4 _ (List.mem_of_getElem? (i := 9) rfl), List.forall_mem_cons.mpr ⟨mc_X12_day_r4 _ (List.mem_of_getElem? (i := 10) rfl), List.forall_mem_cons.mpr ⟨mc_X12_day_r4 _ (List.mem_of_getElem? (i := 11) rfl), List.forall_mem_cons.mpr ⟨mc_X12_day_r4 _ (List.mem_of_getElem? (i := 12) rfl), List.forall_mem_cons.mpr ⟨mc_X12_day_r4 _ (List.mem_of_getElem? (i := 13) rfl), List.forall_mem_cons.mpr ⟨mc_X12_day_r4 _ (List.mem_of_getElem? (i := 14) rfl), List.forall_mem_cons.mpr ⟨mc_X12_day_r4 _ (List.mem_of_getElem? (i := 15) rfl), List.forall_mem_cons.mpr ⟨mc_X12_day_r4 _ (List.mem_of_getElem? (i := 16) rfl), List.forall_mem_cons.mpr ⟨mc_X12_day_r4 _ (List.mem_of_getElem? (i := 17) rfl), fun _ h => absurd h List.not_mem_nil⟩⟩⟩⟩⟩⟩⟩⟩⟩⟩⟩⟩⟩⟩⟩⟩⟩⟩⟩⟩⟩⟩⟩⟩
set_option maxRecDepth 20000 in
theorem mm_X12_day_X12_headFeed_r2 : ∀ w ∈ wsX12_headFeed_r2, w ∈ wsX12_day := List.forall_mem_cons.mpr ⟨mc_X12_day_r4 _ (List.mem_of_getElem? (i := 18) rfl), List.forall_mem_cons.mpr ⟨mc_X12_day_r2 _ (List.mem_of_getElem? (i := 8) rfl), List.forall_mem_cons.mpr ⟨mc_X12_day_r2 _ (List.mem_of_getElem? (i := 9) rfl), List.forall_mem_cons.mpr ⟨mc_X12_day_r2 _ (List.mem_of_getElem? (i := 10) rfl), List.forall_mem_cons.mpr ⟨mc_X12_day_r4 _ (List.mem_of_getElem? (i := 19) rfl), List.forall_mem_cons.mpr ⟨mc_X12_day_r4 _ (List.mem_of_getElem? (i := 20) rfl), List.forall_mem_cons.mpr ⟨mc_X12_day_r4 _ (List.mem_of_getElem? (i := 21) rfl), List.forall_mem_cons.mpr ⟨mc_X12_day_r4 _ (List.mem_of_getElem? (i := 22) rfl), List.forall_mem_cons.mpr ⟨mc_X12_day_r4 _ (List.mem_of_getElem? (i := 23) rfl), List.forall_mem_cons.mpr ⟨mc_X12_day_r5 _ (List.mem_of_getElem? (i := 0) rfl), List.forall_mem_cons.mpr ⟨mc_X12_day_r5 _ (List.mem_of_getElem? (i := 1) rfl), List.forall_mem_cons.mpr ⟨mc_X12_day_r5 _ (List.mem_of_getElem? (i := 2) rfl), List.forall_mem_cons.mpr ⟨mc_X12_day_r5 _ (List.mem_of_getElem? (i := 3) rfl), List.forall_mem_cons.mpr ⟨mc_X12_day_r5 _ (List.mem_of_getElem? (i := 4) rfl), List.forall_mem_cons.mpr ⟨mc_X12_day_r5 _ (List.mem_of_getElem? (i := 5) rfl), fun _ h => absurd h List.not_mem_nil⟩⟩⟩⟩⟩⟩⟩⟩⟩⟩⟩⟩⟩⟩⟩
set_option maxRecDepth 20000 in
theorem ggX12_day_X12_headFeed : GoodIn wsX12_day wsX12_headFeed := goodIn_sub (List.forall_mem_cons.mpr ⟨mc_X12_day_r3 _ (List.mem_of_getElem? (i := 18) rfl), List.forall_mem_append.mpr ⟨List.forall_mem_append.mpr ⟨mm_X12_day_X12_headFeed_r1, mm_X12_day_X12_headFeed_r2⟩, tl_X12_day_X12⟩⟩) (by decide +kernel)
set_option maxRecDepth 20000 in
theorem gX12_day_X12_headFeed : GoodIn wsX12_day (wsV RX12 252 RX12 yX12_headFeed wsX12_headFeed) := goodIn_app (goodIn_sub (List.forall_mem_cons.mpr ⟨mc_X12_day_r3 _ (List.mem_of_getElem? (i := 15) rfl), List.forall_mem_cons.mpr ⟨mc_X12_day_r3 _ (List.mem_of_getElem? (i := 16) rfl), List.forall_mem_cons.mpr ⟨mc_X12_day_r3 _ (List.mem_of_getElem? (i := 17) rfl), List.forall_mem_cons.mpr ⟨mc_X12_day_r1 _ (List.mem_of_getElem? (i := 19) rfl), fun _ h => absurd h List.not_mem_nil⟩⟩⟩⟩) (by decide +kernel)) ggX12_day_X12_headFeed
set_option maxRecDepth 20000 in
theorem ggX12_day_X12_guestFeed : GoodIn wsX12_day wsX12_guestFeed := goodIn_sub (List.forall_mem_cons.mpr ⟨mc_X12_day_r5 _ (List.mem_of_getElem? (i := 9) rfl), List.forall_mem_append.mpr ⟨List.forall_mem_cons.mpr ⟨mc_X12_day_r3 _ (List.mem_of_getElem? (i := 19) rfl), List.forall_mem_cons.mpr ⟨mc_X12_day_r3 _ (List.mem_of_getElem? (i := 20) rfl), List.forall_mem_cons.mpr ⟨mc_X12_day_r3 _ (List.mem_of_getElem? (i := 21) rfl), List.forall_mem_cons.mpr ⟨mc_X12_day_r1 _ (List.mem_of_getElem? (i := 19) rfl), List.forall_mem_cons.mpr ⟨mc_X12_day_r3 _ (List.mem_of_getElem? (i := 22) rfl), List.forall_mem_cons.mpr ⟨mc_X12_day_r3 _ (List.mem_of_getElem? (i := 23) rfl), List.forall_mem_cons.mpr ⟨mc_X12_day_r4 _ (List.mem_of_getElem? (i := 0) rfl), List.forall_mem_cons.mpr ⟨mc_X12_day_r5 _ (List.mem_of_getElem? (i := 2) rfl), List.forall_mem_cons.mpr ⟨mc_X12_day_r5 _ (List.mem_of_getElem? (i := 3) rfl), List.forall_mem_cons.mpr ⟨mc_X12_day_r5 _ (List.mem_of_getElem? (i := 4) rfl), List.forall_mem_cons.mpr ⟨mc_X12_day_r5 _ (List.mem_of_getElem? (i := 5) rfl), List.forall_mem_cons.mpr ⟨mc_X12_day_r4 _ (List.mem_of_getElem? (i := 5) rfl), List.forall_mem_cons.mpr ⟨mc_X12_day_r4 _ (List.mem_of_getElem? (i := 8) rfl), List.forall_mem_cons.mpr ⟨mc_X12_day_r4 _ (List.mem_of_getElem? (i := 6) rfl), List.forall_mem_cons.mpr ⟨mc_X12_day_r4 _ (List.mem_of_getElem? (i := 7) rfl), fun _ h => absurd h List.not_mem_nil⟩⟩⟩⟩⟩⟩⟩⟩⟩⟩⟩⟩⟩⟩⟩, tl_X12_day_X12⟩⟩) (by decide +kernel)
set_option maxRecDepth 20000 in
theorem gX12_day_X12_guestFeed : GoodIn wsX12_day (wsV RX12 255 RX12 yX12_guestFeed wsX12_guestFeed) := goodIn_app (goodIn_sub (List.forall_mem_cons.mpr ⟨mc_X12_day_r5 _ (List.mem_of_getElem? (i := 6) rfl), List.forall_mem_cons.mpr ⟨mc_X12_day_r5 _ (List.mem_of_getElem? (i := 7) rfl), List.forall_mem_cons.mpr ⟨mc_X12_day_r5 _ (List.mem_of_getElem? (i := 8) rfl), List.forall_mem_cons.mpr ⟨mc_X12_day_r1 _ (List.mem_of_getElem? (i := 19) rfl), fun _ h => absurd h List.not_mem_nil⟩⟩⟩⟩) (by decide +kernel)) ggX12_day_X12_guestFeed
set_option maxRecDepth 20000 in
theorem ggX12_day_X12_begins : GoodIn wsX12_day wsX12_begins := goodIn_sub (List.forall_mem_cons.mpr ⟨mc_X12_day_r5 _ (List.mem_of_getElem? (i := 13) rfl), List.forall_mem_append.mpr ⟨List.forall_mem_cons.mpr ⟨mc_X12_day_r5 _ (List.mem_of_getElem? (i := 14) rfl), List.forall_mem_cons.mpr ⟨mc_X12_day_r5 _ (List.mem_of_getElem? (i := 15) rfl), List.forall_mem_cons.mpr ⟨mc_X12_day_r5 _ (List.mem_of_getElem? (i := 16) rfl), List.forall_mem_cons.mpr ⟨mc_X12_day_r5 _ (List.mem_of_getElem? (i := 17) rfl), List.forall_mem_cons.mpr ⟨mc_X12_day_r1 _ (List.mem_of_getElem? (i := 19) rfl), List.forall_mem_cons.mpr ⟨mc_X12_day_r5 _ (List.mem_of_getElem? (i := 18) rfl), List.forall_mem_cons.mpr ⟨mc_X12_day_r5 _ (List.mem_of_getElem? (i := 19) rfl), List.forall_mem_cons.mpr ⟨mc_X12_day_r5 _ (List.mem_of_getElem? (i := 20) rfl), List.forall_mem_cons.mpr ⟨mc_X12_day_r5 _ (List.mem_of_getElem? (i := 21) rfl), List.forall_mem_cons.mpr ⟨mc_X12_day_r5 _ (List.mem_of_getElem? (i := 22) rfl), List.forall_mem_cons.mpr ⟨mc_X12_day_r5 _ (List.mem_of_getElem? (i := 23) rfl), List.forall_mem_cons.mpr ⟨mc_X12_day_r6 _ (List.mem_of_getElem? (i := 0) rfl), List.forall_mem_cons.mpr ⟨mc_X12_day_r6 _ (List.mem_of_getElem? (i := 1) rfl), List.forall_mem_cons.mpr ⟨mc_X12_day_r6 _ (List.mem_of_getElem? (i := 2) rfl), List.forall_mem_cons.mpr ⟨mc_X12_day_r6 _ (List.mem_of_getElem? (i := 3) rfl), List.forall_mem_cons.mpr ⟨mc_X12_day_r6 _ (List.mem_of_getElem? (i := 4) rfl), List.forall_mem_cons.mpr ⟨mc_X12_day_r6 _ (List.mem_of_getElem? (i := 5) rfl), List.forall_mem_cons.mpr ⟨mc_X12_day_r6 _ (List.mem_of_getElem? (i := 6) rfl), List.forall_mem_cons.mpr ⟨mc_X12_day_r6 _ (List.mem_of_getElem? (i := 7) rfl), List.forall_mem_cons.mpr ⟨mc_X12_day_r6 _ (List.mem_of_getElem? (i := 8) rfl), List.forall_mem_cons.mpr ⟨mc_X12_day_r6 _ (List.mem_of_getElem? (i := 9) rfl), fun _ h => absurd h List.not_mem_nil⟩⟩⟩⟩⟩⟩⟩⟩⟩⟩⟩⟩⟩⟩⟩⟩⟩⟩⟩⟩⟩, tl_X12_day_X12⟩⟩) (by decide +kernel)
set_option maxRecDepth 20000 in
theorem gX12_day_X12_begins : GoodIn wsX12_day (wsV RX12 182 RX12 yX12_begins wsX12_begins) := goodIn_app (goodIn_sub (List.forall_mem_cons.mpr ⟨mc_X12_day_r5 _ (List.mem_of_getElem? (i := 10) rfl), List.forall_mem_cons.mpr ⟨mc_X12_day_r5 _ (List.mem_of_getElem? (i := 11) rfl), List.forall_mem_cons.mpr ⟨mc_X12_day_r5 _ (List.mem_of_getElem? (i := 12) rfl), List.forall_mem_cons.mpr ⟨mc_X12_day_r1 _ (List.mem_of_getElem? (i := 19) rfl), fun _ h => absurd h List.not_mem_nil⟩⟩⟩⟩) (by decide +kernel)) ggX12_day_X12_begins
set_option maxRecDepth 20000 in
theorem ggX12_day_X12_rises : GoodIn wsX12_day wsX12_rises := goodIn_sub (List.forall_mem_cons.mpr ⟨mc_X12_day_r6 _ (List.mem_of_getElem? (i := 3) rfl), List.forall_mem_cons.mpr ⟨mc_X12_day_r6 _ (List.mem_of_getElem? (i := 4) rfl), List.forall_mem_cons.mpr ⟨mc_X12_day_r6 _ (List.mem_of_getElem? (i := 5) rfl), List.forall_mem_cons.mpr ⟨mc_X12_day_r1 _ (List.mem_of_getElem? (i := 19) rfl), List.forall_mem_cons.mpr ⟨mc_X12_day_r6 _ (List.mem_of_getElem? (i := 6) rfl), fun _ h => absurd h List.not_mem_nil⟩⟩⟩⟩⟩) (by decide +kernel)
set_option maxRecDepth 20000 in
theorem gX12_day_X12_rises : GoodIn wsX12_day (va_wsS RX12 166 yX12_rises wsX12_rises) := goodIn_app (goodIn_sub (List.forall_mem_cons.mpr ⟨mc_X12_day_r6 _ (List.mem_of_getElem? (i := 1) rfl), List.forall_mem_cons.mpr ⟨mc_X12_day_r6 _ (List.mem_of_getElem? (i := 2) rfl), List.forall_mem_cons.mpr ⟨mc_X12_day_r1 _ (List.mem_of_getElem? (i := 19) rfl), fun _ h => absurd h List.not_mem_nil⟩⟩⟩) (by decide +kernel)) ggX12_day_X12_rises
set_option maxRecDepth 20000 in
theorem ggX12_day_X12_sets : GoodIn wsX12_day wsX12_sets := goodIn_sub (List.forall_mem_cons.mpr ⟨mc_X12_day_r6 _ (List.mem_of_getElem? (i := 9) rfl), List.forall_mem_cons.mpr ⟨mc_X12_day_r6 _ (List.mem_of_getElem? (i := 1) rfl), List.forall_mem_cons.mpr ⟨mc_X12_day_r6 _ (List.mem_of_getElem? (i := 2) rfl), List.forall_mem_cons.mpr ⟨mc_X12_day_r1 _ (List.mem_of_getElem? (i := 19) rfl), List.forall_mem_cons.mpr ⟨mc_X12_day_r6 _ (List.mem_of_getElem? (i := 3) rfl), List.forall_mem_cons.mpr ⟨mc_X12_day_r6 _ (List.mem_of_getElem? (i := 4) rfl), List.forall_mem_cons.mpr ⟨mc_X12_day_r6 _ (List.mem_of_getElem? (i := 5) rfl), List.forall_mem_cons.mpr ⟨mc_X12_day_r6 _ (List.mem_of_getElem? (i := 6) rfl), fun _ h => absurd h List.not_mem_nil⟩⟩⟩⟩⟩⟩⟩⟩) (by decide +kernel)
set_option maxRecDepth 20000 in
theorem gX12_day_X12_sets : GoodIn wsX12_day (va_wsS RX12 169 yX12_sets wsX12_sets) := goodIn_app (goodIn_sub (List.forall_mem_cons.mpr ⟨mc_X12_day_r6 _ (List.mem_of_getElem? (i := 7) rfl), List.forall_mem_cons.mpr ⟨mc_X12_day_r6 _ (List.mem_of_getElem? (i := 8) rfl), List.forall_mem_cons.mpr ⟨mc_X12_day_r1 _ (List.mem_of_getElem? (i := 19) rfl), fun _ h => absurd h List.not_mem_nil⟩⟩⟩) (by decide +kernel)) ggX12_day_X12_sets
theorem dX12_day_0 : decode cX12_day 0 = .ok (.aload_n 0, 1) := by decide +kernel
theorem dX12_day_1 : decode cX12_day 1 = .ok (.getfield 140, 3) := by decide +kernel
theorem dX12_day_4 : decode cX12_day 4 = .ok (.sipush 1094, 3) := by decide +kernel
theorem dX12_day_7 : decode cX12_day 7 = .ok (.if_icmp .ne 5, 3) := by decide +kernel
theorem dX12_day_10 : decode cX12_day 10 = .ok (.iconst (-1), 1) := by decide +kernel
theorem dX12_day_11 : decode cX12_day 11 = .ok (.ireturn, 1) := by decide +kernel
theorem dX12_day_12 : decode cX12_day 12 = .ok (.aload_n 0, 1) := by decide +kernel
theorem dX12_day_13 : decode cX12_day 13 = .ok (.getfield 140, 3) := by decide +kernel
theorem dX12_day_16 : decode cX12_day 16 = .ok (.istore_n 1, 1) := by decide +kernel
theorem dX12_day_17 : decode cX12_day 17 = .ok (.iconst 0, 1) := by decide +kernel
theorem dX12_day_18 : decode cX12_day 18 = .ok (.istore_n 2, 1) := by decide +kernel
theorem dX12_day_19 : decode cX12_day 19 = .ok (.iload_n 2, 1) := by decide +kernel
theorem dX12_day_20 : decode cX12_day 20 = .ok (.iconst 4, 1) := by decide +kernel
theorem dX12_day_21 : decode cX12_day 21 = .ok (.if_icmp .ge 22, 3) := by decide +kernel
theorem dX12_day_24 : decode cX12_day 24 = .ok (.aload_n 0, 1) := by decide +kernel
theorem dX12_day_25 : decode cX12_day 25 = .ok (.aload_n 0, 1) := by decide +kernel
theorem dX12_day_26 : decode cX12_day 26 = .ok (.iload_n 2, 1) := by decide +kernel
theorem dX12_day_27 : decode cX12_day 27 = .ok (.iload_n 1, 1) := by decide +kernel
theorem dX12_day_28 : decode cX12_day 28 = .ok (.iconst (-1), 1) := by decide +kernel
theorem dX12_day_29 : decode cX12_day 29 = .ok (.invokevirtual 279, 3) := by decide +kernel
theorem dX12_day_32 : decode cX12_day 32 = .ok (.iload_n 2, 1) := by decide +kernel
theorem dX12_day_33 : decode cX12_day 33 = .ok (.iload_n 1, 1) := by decide +kernel
theorem dX12_day_34 : decode cX12_day 34 = .ok (.invokevirtual 282, 3) := by decide +kernel
theorem dX12_day_37 : decode cX12_day 37 = .ok (.iinc 2 1, 3) := by decide +kernel
theorem dX12_day_40 : decode cX12_day 40 = .ok (.goto (-21), 3) := by decide +kernel
theorem dX12_day_43 : decode cX12_day 43 = .ok (.aload_n 0, 1) := by decide +kernel
theorem dX12_day_44 : decode cX12_day 44 = .ok (.iload_n 1, 1) := by decide +kernel
theorem dX12_day_45 : decode cX12_day 45 = .ok (.invokevirtual 286, 3) := by decide +kernel
theorem dX12_day_48 : decode cX12_day 48 = .ok (.iconst 0, 1) := by decide +kernel
theorem dX12_day_49 : decode cX12_day 49 = .ok (.istore_n 2, 1) := by decide +kernel
theorem dX12_day_50 : decode cX12_day 50 = .ok (.iload_n 2, 1) := by decide +kernel
theorem dX12_day_51 : decode cX12_day 51 = .ok (.aload_n 0, 1) := by decide +kernel
theorem dX12_day_52 : decode cX12_day 52 = .ok (.getfield 134, 3) := by decide +kernel
theorem dX12_day_55 : decode cX12_day 55 = .ok (.if_icmp .ge 32, 3) := by decide +kernel
theorem dX12_day_58 : decode cX12_day 58 = .ok (.aload_n 0, 1) := by decide +kernel
theorem dX12_day_59 : decode cX12_day 59 = .ok (.getfield 7, 3) := by decide +kernel
theorem dX12_day_62 : decode cX12_day 62 = .ok (.iload_n 2, 1) := by decide +kernel
theorem dX12_day_63 : decode cX12_day 63 = .ok (.baload, 1) := by decide +kernel
theorem dX12_day_64 : decode cX12_day 64 = .ok (.ifCond .eq 17, 3) := by decide +kernel
theorem dX12_day_67 : decode cX12_day 67 = .ok (.aload_n 0, 1) := by decide +kernel
theorem dX12_day_68 : decode cX12_day 68 = .ok (.iload_n 2, 1) := by decide +kernel
theorem dX12_day_69 : decode cX12_day 69 = .ok (.iload_n 1, 1) := by decide +kernel
theorem dX12_day_70 : decode cX12_day 70 = .ok (.invokevirtual 272, 3) := by decide +kernel
theorem dX12_day_73 : decode cX12_day 73 = .ok (.ifCond .eq 8, 3) := by decide +kernel
theorem dX12_day_76 : decode cX12_day 76 = .ok (.aload_n 0, 1) := by decide +kernel
theorem dX12_day_77 : decode cX12_day 77 = .ok (.iload_n 1, 1) := by decide +kernel
theorem dX12_day_78 : decode cX12_day 78 = .ok (.invokevirtual 289, 3) := by decide +kernel
theorem dX12_day_81 : decode cX12_day 81 = .ok (.iinc 2 1, 3) := by decide +kernel
theorem dX12_day_84 : decode cX12_day 84 = .ok (.goto (-34), 3) := by decide +kernel
theorem dX12_day_87 : decode cX12_day 87 = .ok (.iconst 0, 1) := by decide +kernel
theorem dX12_day_88 : decode cX12_day 88 = .ok (.istore_n 2, 1) := by decide +kernel
theorem dX12_day_89 : decode cX12_day 89 = .ok (.iload_n 2, 1) := by decide +kernel
theorem dX12_day_90 : decode cX12_day 90 = .ok (.aload_n 0, 1) := by decide +kernel
theorem dX12_day_91 : decode cX12_day 91 = .ok (.getfield 137, 3) := by decide +kernel
theorem dX12_day_94 : decode cX12_day 94 = .ok (.if_icmp .ge 24, 3) := by decide +kernel
theorem dX12_day_97 : decode cX12_day 97 = .ok (.aload_n 0, 1) := by decide +kernel
theorem dX12_day_98 : decode cX12_day 98 = .ok (.getfield 95, 3) := by decide +kernel
theorem dX12_day_101 : decode cX12_day 101 = .ok (.iload_n 1, 1) := by decide +kernel
theorem dX12_day_102 : decode cX12_day 102 = .ok (.dup2, 1) := by decide +kernel
theorem dX12_day_103 : decode cX12_day 103 = .ok (.iaload, 1) := by decide +kernel
theorem dX12_day_104 : decode cX12_day 104 = .ok (.aload_n 0, 1) := by decide +kernel
theorem dX12_day_105 : decode cX12_day 105 = .ok (.getfield 50, 3) := by decide +kernel
theorem dX12_day_108 : decode cX12_day 108 = .ok (.iload_n 2, 1) := by decide +kernel
theorem dX12_day_109 : decode cX12_day 109 = .ok (.iaload, 1) := by decide +kernel
theorem dX12_day_110 : decode cX12_day 110 = .ok (.iadd, 1) := by decide +kernel
theorem dX12_day_111 : decode cX12_day 111 = .ok (.iastore, 1) := by decide +kernel
theorem dX12_day_112 : decode cX12_day 112 = .ok (.iinc 2 1, 3) := by decide +kernel
theorem dX12_day_115 : decode cX12_day 115 = .ok (.goto (-26), 3) := by decide +kernel
theorem dX12_day_118 : decode cX12_day 118 = .ok (.aload_n 0, 1) := by decide +kernel
theorem dX12_day_119 : decode cX12_day 119 = .ok (.getfield 134, 3) := by decide +kernel
theorem dX12_day_122 : decode cX12_day 122 = .ok (.aload_n 0, 1) := by decide +kernel
theorem dX12_day_123 : decode cX12_day 123 = .ok (.iload_n 1, 1) := by decide +kernel
theorem dX12_day_124 : decode cX12_day 124 = .ok (.invokevirtual 252, 3) := by decide +kernel
theorem dX12_day_127 : decode cX12_day 127 = .ok (.imul, 1) := by decide +kernel
theorem dX12_day_128 : decode cX12_day 128 = .ok (.istore_n 2, 1) := by decide +kernel
theorem dX12_day_129 : decode cX12_day 129 = .ok (.iconst 0, 1) := by decide +kernel
theorem dX12_day_130 : decode cX12_day 130 = .ok (.istore_n 3, 1) := by decide +kernel
theorem dX12_day_131 : decode cX12_day 131 = .ok (.iload_n 3, 1) := by decide +kernel
theorem dX12_day_132 : decode cX12_day 132 = .ok (.bipush 6, 2) := by decide +kernel
theorem dX12_day_134 : decode cX12_day 134 = .ok (.if_icmp .ge 33, 3) := by decide +kernel
theorem dX12_day_137 : decode cX12_day 137 = .ok (.iload_n 2, 1) := by decide +kernel
theorem dX12_day_138 : decode cX12_day 138 = .ok (.aload_n 0, 1) := by decide +kernel
theorem dX12_day_139 : decode cX12_day 139 = .ok (.getfield 77, 3) := by decide +kernel
theorem dX12_day_142 : decode cX12_day 142 = .ok (.iload_n 3, 1) := by decide +kernel
theorem dX12_day_143 : decode cX12_day 143 = .ok (.iaload, 1) := by decide +kernel
theorem dX12_day_144 : decode cX12_day 144 = .ok (.aload_n 0, 1) := by decide +kernel
theorem dX12_day_145 : decode cX12_day 145 = .ok (.iload_n 1, 1) := by decide +kernel
theorem dX12_day_146 : decode cX12_day 146 = .ok (.invokevirtual 255, 3) := by decide +kernel
theorem dX12_day_149 : decode cX12_day 149 = .ok (.iload_n 3, 1) := by decide +kernel
theorem dX12_day_150 : decode cX12_day 150 = .ok (.iadd, 1) := by decide +kernel
theorem dX12_day_151 : decode cX12_day 151 = .ok (.imul, 1) := by decide +kernel
theorem dX12_day_152 : decode cX12_day 152 = .ok (.iadd, 1) := by decide +kernel
theorem dX12_day_153 : decode cX12_day 153 = .ok (.istore_n 2, 1) := by decide +kernel
theorem dX12_day_154 : decode cX12_day 154 = .ok (.aload_n 0, 1) := by decide +kernel
theorem dX12_day_155 : decode cX12_day 155 = .ok (.getfield 77, 3) := by decide +kernel
theorem dX12_day_158 : decode cX12_day 158 = .ok (.iload_n 3, 1) := by decide +kernel
theorem dX12_day_159 : decode cX12_day 159 = .ok (.iconst 0, 1) := by decide +kernel
theorem dX12_day_160 : decode cX12_day 160 = .ok (.iastore, 1) := by decide +kernel
theorem dX12_day_161 : decode cX12_day 161 = .ok (.iinc 3 1, 3) := by decide +kernel
theorem dX12_day_164 : decode cX12_day 164 = .ok (.goto (-33), 3) := by decide +kernel
theorem dX12_day_167 : decode cX12_day 167 = .ok (.aload_n 0, 1) := by decide +kernel
theorem dX12_day_168 : decode cX12_day 168 = .ok (.getfield 83, 3) := by decide +kernel
theorem dX12_day_171 : decode cX12_day 171 = .ok (.iload_n 1, 1) := by decide +kernel
theorem dX12_day_172 : decode cX12_day 172 = .ok (.aload_n 0, 1) := by decide +kernel
theorem dX12_day_173 : decode cX12_day 173 = .ok (.getfield 264, 3) := by decide +kernel
theorem dX12_day_176 : decode cX12_day 176 = .ok (.iload_n 2, 1) := by decide +kernel
theorem dX12_day_177 : decode cX12_day 177 = .ok (.invokestatic 292, 3) := by decide +kernel
theorem dX12_day_180 : decode cX12_day 180 = .ok (.iastore, 1) := by decide +kernel
theorem dX12_day_181 : decode cX12_day 181 = .ok (.aload_n 0, 1) := by decide +kernel
theorem dX12_day_182 : decode cX12_day 182 = .ok (.getfield 86, 3) := by decide +kernel
theorem dX12_day_185 : decode cX12_day 185 = .ok (.iload_n 1, 1) := by decide +kernel
theorem dX12_day_186 : decode cX12_day 186 = .ok (.iload_n 2, 1) := by decide +kernel
theorem dX12_day_187 : decode cX12_day 187 = .ok (.aload_n 0, 1) := by decide +kernel
theorem dX12_day_188 : decode cX12_day 188 = .ok (.getfield 83, 3) := by decide +kernel
theorem dX12_day_191 : decode cX12_day 191 = .ok (.iload_n 1, 1) := by decide +kernel
theorem dX12_day_192 : decode cX12_day 192 = .ok (.iaload, 1) := by decide +kernel
theorem dX12_day_193 : decode cX12_day 193 = .ok (.isub, 1) := by decide +kernel
theorem dX12_day_194 : decode cX12_day 194 = .ok (.iastore, 1) := by decide +kernel
theorem dX12_day_195 : decode cX12_day 195 = .ok (.aload_n 0, 1) := by decide +kernel
theorem dX12_day_196 : decode cX12_day 196 = .ok (.dup, 1) := by decide +kernel
theorem dX12_day_197 : decode cX12_day 197 = .ok (.getfield 264, 3) := by decide +kernel
theorem dX12_day_200 : decode cX12_day 200 = .ok (.aload_n 0, 1) := by decide +kernel
theorem dX12_day_201 : decode cX12_day 201 = .ok (.getfield 83, 3) := by decide +kernel
theorem dX12_day_204 : decode cX12_day 204 = .ok (.iload_n 1, 1) := by decide +kernel
theorem dX12_day_205 : decode cX12_day 205 = .ok (.iaload, 1) := by decide +kernel
theorem dX12_day_206 : decode cX12_day 206 = .ok (.isub, 1) := by decide +kernel
theorem dX12_day_207 : decode cX12_day 207 = .ok (.putfield 264, 3) := by decide +kernel
theorem dX12_day_210 : decode cX12_day 210 = .ok (.iconst 0, 1) := by decide +kernel
theorem dX12_day_211 : decode cX12_day 211 = .ok (.istore_n 3, 1) := by decide +kernel
theorem dX12_day_212 : decode cX12_day 212 = .ok (.iload_n 3, 1) := by decide +kernel
theorem dX12_day_213 : decode cX12_day 213 = .ok (.bipush 8, 2) := by decide +kernel
theorem dX12_day_215 : decode cX12_day 215 = .ok (.if_icmp .ge 77, 3) := by decide +kernel
theorem dX12_day_218 : decode cX12_day 218 = .ok (.aload_n 0, 1) := by decide +kernel
theorem dX12_day_219 : decode cX12_day 219 = .ok (.iload_n 1, 1) := by decide +kernel
theorem dX12_day_220 : decode cX12_day 220 = .ok (.iload_n 3, 1) := by decide +kernel
theorem dX12_day_221 : decode cX12_day 221 = .ok (.invokevirtual 182, 3) := by decide +kernel
theorem dX12_day_224 : decode cX12_day 224 = .ok (.istore 4, 2) := by decide +kernel
theorem dX12_day_226 : decode cX12_day 226 = .ok (.iload 4, 2) := by decide +kernel
theorem dX12_day_228 : decode cX12_day 228 = .ok (.istore 5, 2) := by decide +kernel
theorem dX12_day_230 : decode cX12_day 230 = .ok (.iload 5, 2) := by decide +kernel
theorem dX12_day_232 : decode cX12_day 232 = .ok (.iload 4, 2) := by decide +kernel
theorem dX12_day_234 : decode cX12_day 234 = .ok (.bipush 30, 2) := by decide +kernel
theorem dX12_day_236 : decode cX12_day 236 = .ok (.iadd, 1) := by decide +kernel
theorem dX12_day_237 : decode cX12_day 237 = .ok (.if_icmp .ge 49, 3) := by decide +kernel
theorem dX12_day_240 : decode cX12_day 240 = .ok (.aload_n 0, 1) := by decide +kernel
theorem dX12_day_241 : decode cX12_day 241 = .ok (.getfield 89, 3) := by decide +kernel
theorem dX12_day_244 : decode cX12_day 244 = .ok (.iload_n 1, 1) := by decide +kernel
theorem dX12_day_245 : decode cX12_day 245 = .ok (.dup2, 1) := by decide +kernel
theorem dX12_day_246 : decode cX12_day 246 = .ok (.iaload, 1) := by decide +kernel
theorem dX12_day_247 : decode cX12_day 247 = .ok (.iload 5, 2) := by decide +kernel
theorem dX12_day_249 : decode cX12_day 249 = .ok (.iload_n 1, 1) := by decide +kernel
theorem dX12_day_250 : decode cX12_day 250 = .ok (.sipush 365, 3) := by decide +kernel
theorem dX12_day_253 : decode cX12_day 253 = .ok (.irem, 1) := by decide +kernel
theorem dX12_day_254 : decode cX12_day 254 = .ok (.invokestatic 166, 3) := by decide +kernel
theorem dX12_day_257 : decode cX12_day 257 = .ok (.if_icmp .lt 16, 3) := by decide +kernel
theorem dX12_day_260 : decode cX12_day 260 = .ok (.iload 5, 2) := by decide +kernel
theorem dX12_day_262 : decode cX12_day 262 = .ok (.iload_n 1, 1) := by decide +kernel
theorem dX12_day_263 : decode cX12_day 263 = .ok (.sipush 365, 3) := by decide +kernel
theorem dX12_day_266 : decode cX12_day 266 = .ok (.irem, 1) := by decide +kernel
theorem dX12_day_267 : decode cX12_day 267 = .ok (.invokestatic 169, 3) := by decide +kernel
theorem dX12_day_270 : decode cX12_day 270 = .ok (.if_icmp .lt 7, 3) := by decide +kernel
theorem dX12_day_273 : decode cX12_day 273 = .ok (.iconst 1, 1) := by decide +kernel
theorem dX12_day_274 : decode cX12_day 274 = .ok (.goto 4, 3) := by decide +kernel
theorem dX12_day_277 : decode cX12_day 277 = .ok (.iconst 0, 1) := by decide +kernel
theorem dX12_day_278 : decode cX12_day 278 = .ok (.iadd, 1) := by decide +kernel
theorem dX12_day_279 : decode cX12_day 279 = .ok (.iastore, 1) := by decide +kernel
theorem dX12_day_280 : decode cX12_day 280 = .ok (.iinc 5 1, 3) := by decide +kernel
theorem dX12_day_283 : decode cX12_day 283 = .ok (.goto (-53), 3) := by decide +kernel
theorem dX12_day_286 : decode cX12_day 286 = .ok (.iinc 3 1, 3) := by decide +kernel
theorem dX12_day_289 : decode cX12_day 289 = .ok (.goto (-77), 3) := by decide +kernel
theorem dX12_day_292 : decode cX12_day 292 = .ok (.aload_n 0, 1) := by decide +kernel
theorem dX12_day_293 : decode cX12_day 293 = .ok (.dup, 1) := by decide +kernel
theorem dX12_day_294 : decode cX12_day 294 = .ok (.getfield 297, 3) := by decide +kernel
theorem dX12_day_297 : decode cX12_day 297 = .ok (.aload_n 0, 1) := by decide +kernel
theorem dX12_day_298 : decode cX12_day 298 = .ok (.getfield 89, 3) := by decide +kernel
theorem dX12_day_301 : decode cX12_day 301 = .ok (.iload_n 1, 1) := by decide +kernel
theorem dX12_day_302 : decode cX12_day 302 = .ok (.iaload, 1) := by decide +kernel
theorem dX12_day_303 : decode cX12_day 303 = .ok (.iadd, 1) := by decide +kernel
theorem dX12_day_304 : decode cX12_day 304 = .ok (.putfield 297, 3) := by decide +kernel
theorem dX12_day_307 : decode cX12_day 307 = .ok (.aload_n 0, 1) := by decide +kernel
theorem dX12_day_308 : decode cX12_day 308 = .ok (.dup, 1) := by decide +kernel
theorem dX12_day_309 : decode cX12_day 309 = .ok (.getfield 140, 3) := by decide +kernel
theorem dX12_day_312 : decode cX12_day 312 = .ok (.iconst 1, 1) := by decide +kernel
theorem dX12_day_313 : decode cX12_day 313 = .ok (.iadd, 1) := by decide +kernel
theorem dX12_day_314 : decode cX12_day 314 = .ok (.putfield 140, 3) := by decide +kernel
theorem dX12_day_317 : decode cX12_day 317 = .ok (.aload_n 0, 1) := by decide +kernel
theorem dX12_day_318 : decode cX12_day 318 = .ok (.getfield 140, 3) := by decide +kernel
theorem dX12_day_321 : decode cX12_day 321 = .ok (.ireturn, 1) := by decide +kernel
set_option maxRecDepth 20000 in
theorem ggX12_owes_X12_isIn : GoodIn wsX12_owes wsX12_isIn := goodIn_sub (List.forall_mem_cons.mpr ⟨List.mem_cons_of_mem _ (List.mem_append_left _ (List.mem_of_getElem? (i := 14) rfl)), fun _ h => absurd h List.not_mem_nil⟩) (by decide +kernel)
set_option maxRecDepth 20000 in
theorem gX12_owes_X12_isIn : GoodIn wsX12_owes (va_wsS RX12 130 yX12_isIn wsX12_isIn) := goodIn_app (goodIn_sub (List.forall_mem_cons.mpr ⟨List.mem_cons_of_mem _ (List.mem_append_left _ (List.mem_of_getElem? (i := 11) rfl)), List.forall_mem_cons.mpr ⟨List.mem_cons_of_mem _ (List.mem_append_left _ (List.mem_of_getElem? (i := 12) rfl)), List.forall_mem_cons.mpr ⟨List.mem_cons_of_mem _ (List.mem_append_left _ (List.mem_of_getElem? (i := 13) rfl)), fun _ h => absurd h List.not_mem_nil⟩⟩⟩) (by decide +kernel)) ggX12_owes_X12_isIn
theorem dX12_owes_0 : decode cX12_owes 0 = .ok (.iconst 0, 1) := by decide +kernel
theorem dX12_owes_1 : decode cX12_owes 1 = .ok (.istore_n 2, 1) := by decide +kernel
theorem dX12_owes_2 : decode cX12_owes 2 = .ok (.iload_n 2, 1) := by decide +kernel
theorem dX12_owes_3 : decode cX12_owes 3 = .ok (.aload_n 0, 1) := by decide +kernel
theorem dX12_owes_4 : decode cX12_owes 4 = .ok (.getfield 137, 3) := by decide +kernel
theorem dX12_owes_7 : decode cX12_owes 7 = .ok (.if_icmp .ge 173, 3) := by decide +kernel
theorem dX12_owes_10 : decode cX12_owes 10 = .ok (.aload_n 0, 1) := by decide +kernel
theorem dX12_owes_11 : decode cX12_owes 11 = .ok (.getfield 47, 3) := by decide +kernel
theorem dX12_owes_14 : decode cX12_owes 14 = .ok (.iload_n 2, 1) := by decide +kernel
theorem dX12_owes_15 : decode cX12_owes 15 = .ok (.iaload, 1) := by decide +kernel
theorem dX12_owes_16 : decode cX12_owes 16 = .ok (.iload_n 1, 1) := by decide +kernel
theorem dX12_owes_17 : decode cX12_owes 17 = .ok (.if_icmp .gt 37, 3) := by decide +kernel
theorem dX12_owes_20 : decode cX12_owes 20 = .ok (.aload_n 0, 1) := by decide +kernel
theorem dX12_owes_21 : decode cX12_owes 21 = .ok (.getfield 44, 3) := by decide +kernel
theorem dX12_owes_24 : decode cX12_owes 24 = .ok (.iload_n 2, 1) := by decide +kernel
theorem dX12_owes_25 : decode cX12_owes 25 = .ok (.iaload, 1) := by decide +kernel
theorem dX12_owes_26 : decode cX12_owes 26 = .ok (.aload_n 0, 1) := by decide +kernel
theorem dX12_owes_27 : decode cX12_owes 27 = .ok (.getfield 38, 3) := by decide +kernel
theorem dX12_owes_30 : decode cX12_owes 30 = .ok (.iload_n 2, 1) := by decide +kernel
theorem dX12_owes_31 : decode cX12_owes 31 = .ok (.baload, 1) := by decide +kernel
theorem dX12_owes_32 : decode cX12_owes 32 = .ok (.ifCond .eq 10, 3) := by decide +kernel
theorem dX12_owes_35 : decode cX12_owes 35 = .ok (.iload_n 1, 1) := by decide +kernel
theorem dX12_owes_36 : decode cX12_owes 36 = .ok (.bipush 7, 2) := by decide +kernel
theorem dX12_owes_38 : decode cX12_owes 38 = .ok (.irem, 1) := by decide +kernel
theorem dX12_owes_39 : decode cX12_owes 39 = .ok (.goto 8, 3) := by decide +kernel
theorem dX12_owes_42 : decode cX12_owes 42 = .ok (.iload_n 1, 1) := by decide +kernel
theorem dX12_owes_43 : decode cX12_owes 43 = .ok (.sipush 365, 3) := by decide +kernel
theorem dX12_owes_46 : decode cX12_owes 46 = .ok (.irem, 1) := by decide +kernel
theorem dX12_owes_47 : decode cX12_owes 47 = .ok (.if_icmp .ne 7, 3) := by decide +kernel
theorem dX12_owes_50 : decode cX12_owes 50 = .ok (.iconst 1, 1) := by decide +kernel
theorem dX12_owes_51 : decode cX12_owes 51 = .ok (.goto 4, 3) := by decide +kernel
theorem dX12_owes_54 : decode cX12_owes 54 = .ok (.iconst 0, 1) := by decide +kernel
theorem dX12_owes_55 : decode cX12_owes 55 = .ok (.istore_n 3, 1) := by decide +kernel
theorem dX12_owes_56 : decode cX12_owes 56 = .ok (.iload_n 3, 1) := by decide +kernel
theorem dX12_owes_57 : decode cX12_owes 57 = .ok (.ifCond .ne 6, 3) := by decide +kernel
theorem dX12_owes_60 : decode cX12_owes 60 = .ok (.goto 114, 3) := by decide +kernel
theorem dX12_owes_63 : decode cX12_owes 63 = .ok (.iconst 0, 1) := by decide +kernel
theorem dX12_owes_64 : decode cX12_owes 64 = .ok (.istore 4, 2) := by decide +kernel
theorem dX12_owes_66 : decode cX12_owes 66 = .ok (.iconst 0, 1) := by decide +kernel
theorem dX12_owes_67 : decode cX12_owes 67 = .ok (.istore 5, 2) := by decide +kernel
theorem dX12_owes_69 : decode cX12_owes 69 = .ok (.iload 5, 2) := by decide +kernel
theorem dX12_owes_71 : decode cX12_owes 71 = .ok (.aload_n 0, 1) := by decide +kernel
theorem dX12_owes_72 : decode cX12_owes 72 = .ok (.getfield 261, 3) := by decide +kernel
theorem dX12_owes_75 : decode cX12_owes 75 = .ok (.if_icmp .ge 53, 3) := by decide +kernel
theorem dX12_owes_78 : decode cX12_owes 78 = .ok (.iload 4, 2) := by decide +kernel
theorem dX12_owes_80 : decode cX12_owes 80 = .ok (.ifCond .ne 35, 3) := by decide +kernel
theorem dX12_owes_83 : decode cX12_owes 83 = .ok (.aload_n 0, 1) := by decide +kernel
theorem dX12_owes_84 : decode cX12_owes 84 = .ok (.getfield 59, 3) := by decide +kernel
theorem dX12_owes_87 : decode cX12_owes 87 = .ok (.iload 5, 2) := by decide +kernel
theorem dX12_owes_89 : decode cX12_owes 89 = .ok (.iaload, 1) := by decide +kernel
theorem dX12_owes_90 : decode cX12_owes 90 = .ok (.iload_n 2, 1) := by decide +kernel
theorem dX12_owes_91 : decode cX12_owes 91 = .ok (.if_icmp .ne 28, 3) := by decide +kernel
theorem dX12_owes_94 : decode cX12_owes 94 = .ok (.iload_n 1, 1) := by decide +kernel
theorem dX12_owes_95 : decode cX12_owes 95 = .ok (.aload_n 0, 1) := by decide +kernel
theorem dX12_owes_96 : decode cX12_owes 96 = .ok (.getfield 62, 3) := by decide +kernel
theorem dX12_owes_99 : decode cX12_owes 99 = .ok (.iload 5, 2) := by decide +kernel
theorem dX12_owes_101 : decode cX12_owes 101 = .ok (.iaload, 1) := by decide +kernel
theorem dX12_owes_102 : decode cX12_owes 102 = .ok (.aload_n 0, 1) := by decide +kernel
theorem dX12_owes_103 : decode cX12_owes 103 = .ok (.getfield 65, 3) := by decide +kernel
theorem dX12_owes_106 : decode cX12_owes 106 = .ok (.iload 5, 2) := by decide +kernel
theorem dX12_owes_108 : decode cX12_owes 108 = .ok (.iaload, 1) := by decide +kernel
theorem dX12_owes_109 : decode cX12_owes 109 = .ok (.invokestatic 130, 3) := by decide +kernel
theorem dX12_owes_112 : decode cX12_owes 112 = .ok (.ifCond .eq 7, 3) := by decide +kernel
theorem dX12_owes_115 : decode cX12_owes 115 = .ok (.iconst 1, 1) := by decide +kernel
theorem dX12_owes_116 : decode cX12_owes 116 = .ok (.goto 4, 3) := by decide +kernel
theorem dX12_owes_119 : decode cX12_owes 119 = .ok (.iconst 0, 1) := by decide +kernel
theorem dX12_owes_120 : decode cX12_owes 120 = .ok (.istore 4, 2) := by decide +kernel
theorem dX12_owes_122 : decode cX12_owes 122 = .ok (.iinc 5 1, 3) := by decide +kernel
theorem dX12_owes_125 : decode cX12_owes 125 = .ok (.goto (-56), 3) := by decide +kernel
theorem dX12_owes_128 : decode cX12_owes 128 = .ok (.aload_n 0, 1) := by decide +kernel
theorem dX12_owes_129 : decode cX12_owes 129 = .ok (.getfield 41, 3) := by decide +kernel
theorem dX12_owes_132 : decode cX12_owes 132 = .ok (.iload_n 2, 1) := by decide +kernel
theorem dX12_owes_133 : decode cX12_owes 133 = .ok (.baload, 1) := by decide +kernel
theorem dX12_owes_134 : decode cX12_owes 134 = .ok (.ifCond .eq 7, 3) := by decide +kernel
theorem dX12_owes_137 : decode cX12_owes 137 = .ok (.iconst 2, 1) := by decide +kernel
theorem dX12_owes_138 : decode cX12_owes 138 = .ok (.goto 4, 3) := by decide +kernel
theorem dX12_owes_141 : decode cX12_owes 141 = .ok (.iconst 1, 1) := by decide +kernel
theorem dX12_owes_142 : decode cX12_owes 142 = .ok (.istore 5, 2) := by decide +kernel
theorem dX12_owes_144 : decode cX12_owes 144 = .ok (.iload 4, 2) := by decide +kernel
theorem dX12_owes_146 : decode cX12_owes 146 = .ok (.ifCond .eq 17, 3) := by decide +kernel
theorem dX12_owes_149 : decode cX12_owes 149 = .ok (.aload_n 0, 1) := by decide +kernel
theorem dX12_owes_150 : decode cX12_owes 150 = .ok (.getfield 56, 3) := by decide +kernel
theorem dX12_owes_153 : decode cX12_owes 153 = .ok (.iload_n 2, 1) := by decide +kernel
theorem dX12_owes_154 : decode cX12_owes 154 = .ok (.dup2, 1) := by decide +kernel
theorem dX12_owes_155 : decode cX12_owes 155 = .ok (.iaload, 1) := by decide +kernel
theorem dX12_owes_156 : decode cX12_owes 156 = .ok (.iload 5, 2) := by decide +kernel
theorem dX12_owes_158 : decode cX12_owes 158 = .ok (.iadd, 1) := by decide +kernel
theorem dX12_owes_159 : decode cX12_owes 159 = .ok (.iastore, 1) := by decide +kernel
theorem dX12_owes_160 : decode cX12_owes 160 = .ok (.goto 14, 3) := by decide +kernel
theorem dX12_owes_163 : decode cX12_owes 163 = .ok (.aload_n 0, 1) := by decide +kernel
theorem dX12_owes_164 : decode cX12_owes 164 = .ok (.getfield 50, 3) := by decide +kernel
theorem dX12_owes_167 : decode cX12_owes 167 = .ok (.iload_n 2, 1) := by decide +kernel
theorem dX12_owes_168 : decode cX12_owes 168 = .ok (.dup2, 1) := by decide +kernel
theorem dX12_owes_169 : decode cX12_owes 169 = .ok (.iaload, 1) := by decide +kernel
theorem dX12_owes_170 : decode cX12_owes 170 = .ok (.iload 5, 2) := by decide +kernel
theorem dX12_owes_172 : decode cX12_owes 172 = .ok (.iadd, 1) := by decide +kernel
theorem dX12_owes_173 : decode cX12_owes 173 = .ok (.iastore, 1) := by decide +kernel
theorem dX12_owes_174 : decode cX12_owes 174 = .ok (.iinc 2 1, 3) := by decide +kernel
theorem dX12_owes_177 : decode cX12_owes 177 = .ok (.goto (-175), 3) := by decide +kernel
theorem dX12_owes_180 : decode cX12_owes 180 = .ok (.return_, 1) := by decide +kernel
theorem dX12_says_0 : decode cX12_says 0 = .ok (.iconst (-1), 1) := by decide +kernel
theorem dX12_says_1 : decode cX12_says 1 = .ok (.istore_n 2, 1) := by decide +kernel
theorem dX12_says_2 : decode cX12_says 2 = .ok (.iconst 0, 1) := by decide +kernel
theorem dX12_says_3 : decode cX12_says 3 = .ok (.istore_n 3, 1) := by decide +kernel
theorem dX12_says_4 : decode cX12_says 4 = .ok (.iload_n 3, 1) := by decide +kernel
theorem dX12_says_5 : decode cX12_says 5 = .ok (.aload_n 0, 1) := by decide +kernel
theorem dX12_says_6 : decode cX12_says 6 = .ok (.getfield 137, 3) := by decide +kernel
theorem dX12_says_9 : decode cX12_says 9 = .ok (.if_icmp .ge 40, 3) := by decide +kernel
theorem dX12_says_12 : decode cX12_says 12 = .ok (.aload_n 0, 1) := by decide +kernel
theorem dX12_says_13 : decode cX12_says 13 = .ok (.getfield 50, 3) := by decide +kernel
theorem dX12_says_16 : decode cX12_says 16 = .ok (.iload_n 3, 1) := by decide +kernel
theorem dX12_says_17 : decode cX12_says 17 = .ok (.iaload, 1) := by decide +kernel
theorem dX12_says_18 : decode cX12_says 18 = .ok (.ifCond .le 25, 3) := by decide +kernel
theorem dX12_says_21 : decode cX12_says 21 = .ok (.iload_n 2, 1) := by decide +kernel
theorem dX12_says_22 : decode cX12_says 22 = .ok (.iconst (-1), 1) := by decide +kernel
theorem dX12_says_23 : decode cX12_says 23 = .ok (.if_icmp .eq 18, 3) := by decide +kernel
theorem dX12_says_26 : decode cX12_says 26 = .ok (.aload_n 0, 1) := by decide +kernel
theorem dX12_says_27 : decode cX12_says 27 = .ok (.getfield 50, 3) := by decide +kernel
theorem dX12_says_30 : decode cX12_says 30 = .ok (.iload_n 3, 1) := by decide +kernel
theorem dX12_says_31 : decode cX12_says 31 = .ok (.iaload, 1) := by decide +kernel
theorem dX12_says_32 : decode cX12_says 32 = .ok (.aload_n 0, 1) := by decide +kernel
theorem dX12_says_33 : decode cX12_says 33 = .ok (.getfield 50, 3) := by decide +kernel
theorem dX12_says_36 : decode cX12_says 36 = .ok (.iload_n 2, 1) := by decide +kernel
theorem dX12_says_37 : decode cX12_says 37 = .ok (.iaload, 1) := by decide +kernel
theorem dX12_says_38 : decode cX12_says 38 = .ok (.if_icmp .le 5, 3) := by decide +kernel
theorem dX12_says_41 : decode cX12_says 41 = .ok (.iload_n 3, 1) := by decide +kernel
theorem dX12_says_42 : decode cX12_says 42 = .ok (.istore_n 2, 1) := by decide +kernel
theorem dX12_says_43 : decode cX12_says 43 = .ok (.iinc 3 1, 3) := by decide +kernel
theorem dX12_says_46 : decode cX12_says 46 = .ok (.goto (-42), 3) := by decide +kernel
theorem dX12_says_49 : decode cX12_says 49 = .ok (.iload_n 2, 1) := by decide +kernel
theorem dX12_says_50 : decode cX12_says 50 = .ok (.iconst (-1), 1) := by decide +kernel
theorem dX12_says_51 : decode cX12_says 51 = .ok (.if_icmp .ne 4, 3) := by decide +kernel
theorem dX12_says_54 : decode cX12_says 54 = .ok (.return_, 1) := by decide +kernel
theorem dX12_says_55 : decode cX12_says 55 = .ok (.aload_n 0, 1) := by decide +kernel
theorem dX12_says_56 : decode cX12_says 56 = .ok (.getfield 50, 3) := by decide +kernel
theorem dX12_says_59 : decode cX12_says 59 = .ok (.iload_n 2, 1) := by decide +kernel
theorem dX12_says_60 : decode cX12_says 60 = .ok (.dup2, 1) := by decide +kernel
theorem dX12_says_61 : decode cX12_says 61 = .ok (.iaload, 1) := by decide +kernel
theorem dX12_says_62 : decode cX12_says 62 = .ok (.iconst 1, 1) := by decide +kernel
theorem dX12_says_63 : decode cX12_says 63 = .ok (.isub, 1) := by decide +kernel
theorem dX12_says_64 : decode cX12_says 64 = .ok (.iastore, 1) := by decide +kernel
theorem dX12_says_65 : decode cX12_says 65 = .ok (.aload_n 0, 1) := by decide +kernel
theorem dX12_says_66 : decode cX12_says 66 = .ok (.getfield 53, 3) := by decide +kernel
theorem dX12_says_69 : decode cX12_says 69 = .ok (.iload_n 2, 1) := by decide +kernel
theorem dX12_says_70 : decode cX12_says 70 = .ok (.dup2, 1) := by decide +kernel
theorem dX12_says_71 : decode cX12_says 71 = .ok (.iaload, 1) := by decide +kernel
theorem dX12_says_72 : decode cX12_says 72 = .ok (.iconst 1, 1) := by decide +kernel
theorem dX12_says_73 : decode cX12_says 73 = .ok (.iadd, 1) := by decide +kernel
theorem dX12_says_74 : decode cX12_says 74 = .ok (.iastore, 1) := by decide +kernel
theorem dX12_says_75 : decode cX12_says 75 = .ok (.aload_n 0, 1) := by decide +kernel
theorem dX12_says_76 : decode cX12_says 76 = .ok (.getfield 92, 3) := by decide +kernel
theorem dX12_says_79 : decode cX12_says 79 = .ok (.iload_n 1, 1) := by decide +kernel
theorem dX12_says_80 : decode cX12_says 80 = .ok (.dup2, 1) := by decide +kernel
theorem dX12_says_81 : decode cX12_says 81 = .ok (.iaload, 1) := by decide +kernel
theorem dX12_says_82 : decode cX12_says 82 = .ok (.iconst 1, 1) := by decide +kernel
theorem dX12_says_83 : decode cX12_says 83 = .ok (.iadd, 1) := by decide +kernel
theorem dX12_says_84 : decode cX12_says 84 = .ok (.iastore, 1) := by decide +kernel
theorem dX12_says_85 : decode cX12_says 85 = .ok (.return_, 1) := by decide +kernel
set_option maxRecDepth 20000 in
theorem ggX12_hasGone_X12_isIn : GoodIn wsX12_hasGone wsX12_isIn := goodIn_sub (List.forall_mem_cons.mpr ⟨List.mem_cons_of_mem _ (List.mem_append_left _ (List.mem_of_getElem? (i := 4) rfl)), fun _ h => absurd h List.not_mem_nil⟩) (by decide +kernel)
set_option maxRecDepth 20000 in
theorem gX12_hasGone_X12_isIn : GoodIn wsX12_hasGone (va_wsS RX12 130 yX12_isIn wsX12_isIn) := goodIn_app (goodIn_sub (List.forall_mem_cons.mpr ⟨List.mem_cons_of_mem _ (List.mem_append_left _ (List.mem_of_getElem? (i := 1) rfl)), List.forall_mem_cons.mpr ⟨List.mem_cons_of_mem _ (List.mem_append_left _ (List.mem_of_getElem? (i := 2) rfl)), List.forall_mem_cons.mpr ⟨List.mem_cons_of_mem _ (List.mem_append_left _ (List.mem_of_getElem? (i := 3) rfl)), fun _ h => absurd h List.not_mem_nil⟩⟩⟩) (by decide +kernel)) ggX12_hasGone_X12_isIn
theorem dX12_hasGone_0 : decode cX12_hasGone 0 = .ok (.iload_n 1, 1) := by decide +kernel
theorem dX12_hasGone_1 : decode cX12_hasGone 1 = .ok (.iconst 0, 1) := by decide +kernel
theorem dX12_hasGone_2 : decode cX12_hasGone 2 = .ok (.aload_n 0, 1) := by decide +kernel
theorem dX12_hasGone_3 : decode cX12_hasGone 3 = .ok (.getfield 140, 3) := by decide +kernel
theorem dX12_hasGone_6 : decode cX12_hasGone 6 = .ok (.iconst 1, 1) := by decide +kernel
theorem dX12_hasGone_7 : decode cX12_hasGone 7 = .ok (.isub, 1) := by decide +kernel
theorem dX12_hasGone_8 : decode cX12_hasGone 8 = .ok (.invokestatic 130, 3) := by decide +kernel
theorem dX12_hasGone_11 : decode cX12_hasGone 11 = .ok (.ireturn, 1) := by decide +kernel
set_option maxRecDepth 20000 in
theorem ggX12_turn_X12_hasGone : GoodIn wsX12_turn wsX12_hasGone := goodIn_sub (List.forall_mem_cons.mpr ⟨List.mem_cons_of_mem _ (List.mem_append_left _ (List.mem_of_getElem? (i := 5) rfl)), List.forall_mem_append.mpr ⟨List.forall_mem_cons.mpr ⟨List.mem_cons_of_mem _ (List.mem_append_left _ (List.mem_of_getElem? (i := 6) rfl)), List.forall_mem_cons.mpr ⟨List.mem_cons_of_mem _ (List.mem_append_left _ (List.mem_of_getElem? (i := 7) rfl)), List.forall_mem_cons.mpr ⟨List.mem_cons_of_mem _ (List.mem_append_left _ (List.mem_of_getElem? (i := 8) rfl)), List.forall_mem_cons.mpr ⟨List.mem_cons_of_mem _ (List.mem_append_left _ (List.mem_of_getElem? (i := 4) rfl)), List.forall_mem_cons.mpr ⟨List.mem_cons_of_mem _ (List.mem_append_left _ (List.mem_of_getElem? (i := 9) rfl)), fun _ h => absurd h List.not_mem_nil⟩⟩⟩⟩⟩, tl_X12_turn_X12⟩⟩) (by decide +kernel)
set_option maxRecDepth 20000 in
theorem gX12_turn_X12_hasGone : GoodIn wsX12_turn (wsV RX12 300 RX12 yX12_hasGone wsX12_hasGone) := goodIn_app (goodIn_sub (List.forall_mem_cons.mpr ⟨List.mem_cons_of_mem _ (List.mem_append_left _ (List.mem_of_getElem? (i := 1) rfl)), List.forall_mem_cons.mpr ⟨List.mem_cons_of_mem _ (List.mem_append_left _ (List.mem_of_getElem? (i := 2) rfl)), List.forall_mem_cons.mpr ⟨List.mem_cons_of_mem _ (List.mem_append_left _ (List.mem_of_getElem? (i := 3) rfl)), List.forall_mem_cons.mpr ⟨List.mem_cons_of_mem _ (List.mem_append_left _ (List.mem_of_getElem? (i := 4) rfl)), fun _ h => absurd h List.not_mem_nil⟩⟩⟩⟩) (by decide +kernel)) ggX12_turn_X12_hasGone
set_option maxRecDepth 20000 in
theorem ggX12_turn_X12_isIn : GoodIn wsX12_turn wsX12_isIn := goodIn_sub (List.forall_mem_cons.mpr ⟨List.mem_cons_of_mem _ (List.mem_append_left _ (List.mem_of_getElem? (i := 9) rfl)), fun _ h => absurd h List.not_mem_nil⟩) (by decide +kernel)
set_option maxRecDepth 20000 in
theorem gX12_turn_X12_isIn : GoodIn wsX12_turn (va_wsS RX12 130 yX12_isIn wsX12_isIn) := goodIn_app (goodIn_sub (List.forall_mem_cons.mpr ⟨List.mem_cons_of_mem _ (List.mem_append_left _ (List.mem_of_getElem? (i := 7) rfl)), List.forall_mem_cons.mpr ⟨List.mem_cons_of_mem _ (List.mem_append_left _ (List.mem_of_getElem? (i := 8) rfl)), List.forall_mem_cons.mpr ⟨List.mem_cons_of_mem _ (List.mem_append_left _ (List.mem_of_getElem? (i := 4) rfl)), fun _ h => absurd h List.not_mem_nil⟩⟩⟩) (by decide +kernel)) ggX12_turn_X12_isIn
theorem dX12_turn_0 : decode cX12_turn 0 = .ok (.aload_n 0, 1) := by decide +kernel
theorem dX12_turn_1 : decode cX12_turn 1 = .ok (.iload_n 1, 1) := by decide +kernel
theorem dX12_turn_2 : decode cX12_turn 2 = .ok (.invokevirtual 300, 3) := by decide +kernel
theorem dX12_turn_5 : decode cX12_turn 5 = .ok (.ifCond .eq 25, 3) := by decide +kernel
theorem dX12_turn_8 : decode cX12_turn 8 = .ok (.iload_n 2, 1) := by decide +kernel
theorem dX12_turn_9 : decode cX12_turn 9 = .ok (.iconst 0, 1) := by decide +kernel
theorem dX12_turn_10 : decode cX12_turn 10 = .ok (.iconst 3, 1) := by decide +kernel
theorem dX12_turn_11 : decode cX12_turn 11 = .ok (.invokestatic 130, 3) := by decide +kernel
theorem dX12_turn_14 : decode cX12_turn 14 = .ok (.ifCond .eq 16, 3) := by decide +kernel
theorem dX12_turn_17 : decode cX12_turn 17 = .ok (.aload_n 0, 1) := by decide +kernel
theorem dX12_turn_18 : decode cX12_turn 18 = .ok (.getfield 80, 3) := by decide +kernel
theorem dX12_turn_21 : decode cX12_turn 21 = .ok (.iconst 4, 1) := by decide +kernel
theorem dX12_turn_22 : decode cX12_turn 22 = .ok (.iload_n 1, 1) := by decide +kernel
theorem dX12_turn_23 : decode cX12_turn 23 = .ok (.imul, 1) := by decide +kernel
theorem dX12_turn_24 : decode cX12_turn 24 = .ok (.iload_n 2, 1) := by decide +kernel
theorem dX12_turn_25 : decode cX12_turn 25 = .ok (.iadd, 1) := by decide +kernel
theorem dX12_turn_26 : decode cX12_turn 26 = .ok (.iaload, 1) := by decide +kernel
theorem dX12_turn_27 : decode cX12_turn 27 = .ok (.goto 4, 3) := by decide +kernel
theorem dX12_turn_30 : decode cX12_turn 30 = .ok (.iconst (-1), 1) := by decide +kernel
theorem dX12_turn_31 : decode cX12_turn 31 = .ok (.ireturn, 1) := by decide +kernel
set_option maxRecDepth 20000 in
theorem ggX12_turns_X12_isMonk : GoodIn wsX12_turns wsX12_isMonk := goodIn_sub (List.forall_mem_cons.mpr ⟨List.mem_cons_of_mem _ (List.mem_append_left _ (List.mem_of_getElem? (i := 5) rfl)), List.forall_mem_append.mpr ⟨List.forall_mem_cons.mpr ⟨List.mem_cons_of_mem _ (List.mem_append_left _ (List.mem_of_getElem? (i := 6) rfl)), List.forall_mem_cons.mpr ⟨List.mem_cons_of_mem _ (List.mem_append_left _ (List.mem_of_getElem? (i := 7) rfl)), List.forall_mem_cons.mpr ⟨List.mem_cons_of_mem _ (List.mem_append_left _ (List.mem_of_getElem? (i := 8) rfl)), List.forall_mem_cons.mpr ⟨List.mem_cons_of_mem _ (List.mem_append_left _ (List.mem_of_getElem? (i := 4) rfl)), List.forall_mem_cons.mpr ⟨List.mem_cons_of_mem _ (List.mem_append_left _ (List.mem_of_getElem? (i := 9) rfl)), fun _ h => absurd h List.not_mem_nil⟩⟩⟩⟩⟩, tl_X12_turns_X12⟩⟩) (by decide +kernel)
set_option maxRecDepth 20000 in
theorem gX12_turns_X12_isMonk : GoodIn wsX12_turns (wsV RX12 143 RX12 yX12_isMonk wsX12_isMonk) := goodIn_app (goodIn_sub (List.forall_mem_cons.mpr ⟨List.mem_cons_of_mem _ (List.mem_append_left _ (List.mem_of_getElem? (i := 1) rfl)), List.forall_mem_cons.mpr ⟨List.mem_cons_of_mem _ (List.mem_append_left _ (List.mem_of_getElem? (i := 2) rfl)), List.forall_mem_cons.mpr ⟨List.mem_cons_of_mem _ (List.mem_append_left _ (List.mem_of_getElem? (i := 3) rfl)), List.forall_mem_cons.mpr ⟨List.mem_cons_of_mem _ (List.mem_append_left _ (List.mem_of_getElem? (i := 4) rfl)), fun _ h => absurd h List.not_mem_nil⟩⟩⟩⟩) (by decide +kernel)) ggX12_turns_X12_isMonk
set_option maxRecDepth 20000 in
theorem ggX12_turns_X12_isIn : GoodIn wsX12_turns wsX12_isIn := goodIn_sub (List.forall_mem_cons.mpr ⟨List.mem_cons_of_mem _ (List.mem_append_left _ (List.mem_of_getElem? (i := 9) rfl)), fun _ h => absurd h List.not_mem_nil⟩) (by decide +kernel)
set_option maxRecDepth 20000 in
theorem gX12_turns_X12_isIn : GoodIn wsX12_turns (va_wsS RX12 130 yX12_isIn wsX12_isIn) := goodIn_app (goodIn_sub (List.forall_mem_cons.mpr ⟨List.mem_cons_of_mem _ (List.mem_append_left _ (List.mem_of_getElem? (i := 7) rfl)), List.forall_mem_cons.mpr ⟨List.mem_cons_of_mem _ (List.mem_append_left _ (List.mem_of_getElem? (i := 8) rfl)), List.forall_mem_cons.mpr ⟨List.mem_cons_of_mem _ (List.mem_append_left _ (List.mem_of_getElem? (i := 4) rfl)), fun _ h => absurd h List.not_mem_nil⟩⟩⟩) (by decide +kernel)) ggX12_turns_X12_isIn
theorem dX12_turns_0 : decode cX12_turns 0 = .ok (.aload_n 0, 1) := by decide +kernel
theorem dX12_turns_1 : decode cX12_turns 1 = .ok (.iload_n 1, 1) := by decide +kernel
theorem dX12_turns_2 : decode cX12_turns 2 = .ok (.invokevirtual 143, 3) := by decide +kernel
theorem dX12_turns_5 : decode cX12_turns 5 = .ok (.ifCond .eq 12, 3) := by decide +kernel
theorem dX12_turns_8 : decode cX12_turns 8 = .ok (.iload_n 2, 1) := by decide +kernel
theorem dX12_turns_9 : decode cX12_turns 9 = .ok (.iconst 0, 1) := by decide +kernel
theorem dX12_turns_10 : decode cX12_turns 10 = .ok (.iconst 4, 1) := by decide +kernel
theorem dX12_turns_11 : decode cX12_turns 11 = .ok (.invokestatic 130, 3) := by decide +kernel
theorem dX12_turns_14 : decode cX12_turns 14 = .ok (.ifCond .ne 5, 3) := by decide +kernel
theorem dX12_turns_17 : decode cX12_turns 17 = .ok (.iconst (-1), 1) := by decide +kernel
theorem dX12_turns_18 : decode cX12_turns 18 = .ok (.ireturn, 1) := by decide +kernel
theorem dX12_turns_19 : decode cX12_turns 19 = .ok (.iload_n 2, 1) := by decide +kernel
theorem dX12_turns_20 : decode cX12_turns 20 = .ok (.iconst 4, 1) := by decide +kernel
theorem dX12_turns_21 : decode cX12_turns 21 = .ok (.if_icmp .ge 14, 3) := by decide +kernel
theorem dX12_turns_24 : decode cX12_turns 24 = .ok (.aload_n 0, 1) := by decide +kernel
theorem dX12_turns_25 : decode cX12_turns 25 = .ok (.getfield 20, 3) := by decide +kernel
theorem dX12_turns_28 : decode cX12_turns 28 = .ok (.iconst 4, 1) := by decide +kernel
theorem dX12_turns_29 : decode cX12_turns 29 = .ok (.iload_n 1, 1) := by decide +kernel
theorem dX12_turns_30 : decode cX12_turns 30 = .ok (.imul, 1) := by decide +kernel
theorem dX12_turns_31 : decode cX12_turns 31 = .ok (.iload_n 2, 1) := by decide +kernel
theorem dX12_turns_32 : decode cX12_turns 32 = .ok (.iadd, 1) := by decide +kernel
theorem dX12_turns_33 : decode cX12_turns 33 = .ok (.iaload, 1) := by decide +kernel
theorem dX12_turns_34 : decode cX12_turns 34 = .ok (.ireturn, 1) := by decide +kernel
theorem dX12_turns_35 : decode cX12_turns 35 = .ok (.iconst 0, 1) := by decide +kernel
theorem dX12_turns_36 : decode cX12_turns 36 = .ok (.istore_n 3, 1) := by decide +kernel
theorem dX12_turns_37 : decode cX12_turns 37 = .ok (.iconst 0, 1) := by decide +kernel
theorem dX12_turns_38 : decode cX12_turns 38 = .ok (.istore 4, 2) := by decide +kernel
theorem dX12_turns_40 : decode cX12_turns 40 = .ok (.iload 4, 2) := by decide +kernel
theorem dX12_turns_42 : decode cX12_turns 42 = .ok (.iconst 4, 1) := by decide +kernel
theorem dX12_turns_43 : decode cX12_turns 43 = .ok (.if_icmp .ge 23, 3) := by decide +kernel
theorem dX12_turns_46 : decode cX12_turns 46 = .ok (.iload_n 3, 1) := by decide +kernel
theorem dX12_turns_47 : decode cX12_turns 47 = .ok (.aload_n 0, 1) := by decide +kernel
theorem dX12_turns_48 : decode cX12_turns 48 = .ok (.getfield 20, 3) := by decide +kernel
theorem dX12_turns_51 : decode cX12_turns 51 = .ok (.iconst 4, 1) := by decide +kernel
theorem dX12_turns_52 : decode cX12_turns 52 = .ok (.iload_n 1, 1) := by decide +kernel
theorem dX12_turns_53 : decode cX12_turns 53 = .ok (.imul, 1) := by decide +kernel
theorem dX12_turns_54 : decode cX12_turns 54 = .ok (.iload 4, 2) := by decide +kernel
theorem dX12_turns_56 : decode cX12_turns 56 = .ok (.iadd, 1) := by decide +kernel
theorem dX12_turns_57 : decode cX12_turns 57 = .ok (.iaload, 1) := by decide +kernel
theorem dX12_turns_58 : decode cX12_turns 58 = .ok (.iadd, 1) := by decide +kernel
theorem dX12_turns_59 : decode cX12_turns 59 = .ok (.istore_n 3, 1) := by decide +kernel
theorem dX12_turns_60 : decode cX12_turns 60 = .ok (.iinc 4 1, 3) := by decide +kernel
theorem dX12_turns_63 : decode cX12_turns 63 = .ok (.goto (-23), 3) := by decide +kernel
theorem dX12_turns_66 : decode cX12_turns 66 = .ok (.iload_n 3, 1) := by decide +kernel
theorem dX12_turns_67 : decode cX12_turns 67 = .ok (.ireturn, 1) := by decide +kernel
set_option maxRecDepth 20000 in
theorem ggX12_fail_X12_isIn : GoodIn wsX12_fail wsX12_isIn := goodIn_sub (List.forall_mem_cons.mpr ⟨mc_X12_fail_r1 _ (List.mem_of_getElem? (i := 6) rfl), fun _ h => absurd h List.not_mem_nil⟩) (by decide +kernel)
set_option maxRecDepth 20000 in
theorem gX12_fail_X12_isIn : GoodIn wsX12_fail (va_wsS RX12 130 yX12_isIn wsX12_isIn) := goodIn_app (goodIn_sub (List.forall_mem_cons.mpr ⟨mc_X12_fail_r1 _ (List.mem_of_getElem? (i := 3) rfl), List.forall_mem_cons.mpr ⟨mc_X12_fail_r1 _ (List.mem_of_getElem? (i := 4) rfl), List.forall_mem_cons.mpr ⟨mc_X12_fail_r1 _ (List.mem_of_getElem? (i := 5) rfl), fun _ h => absurd h List.not_mem_nil⟩⟩⟩) (by decide +kernel)) ggX12_fail_X12_isIn
set_option maxRecDepth 20000 in
theorem ggX12_fail_X12_nextFor : GoodIn wsX12_fail wsX12_nextFor := goodIn_sub (List.forall_mem_cons.mpr ⟨mc_X12_fail_r1 _ (List.mem_of_getElem? (i := 10) rfl), List.forall_mem_append.mpr ⟨List.forall_mem_cons.mpr ⟨mc_X12_fail_r1 _ (List.mem_of_getElem? (i := 11) rfl), List.forall_mem_cons.mpr ⟨mc_X12_fail_r1 _ (List.mem_of_getElem? (i := 12) rfl), List.forall_mem_cons.mpr ⟨mc_X12_fail_r1 _ (List.mem_of_getElem? (i := 2) rfl), List.forall_mem_cons.mpr ⟨mc_X12_fail_r1 _ (List.mem_of_getElem? (i := 13) rfl), List.forall_mem_cons.mpr ⟨mc_X12_fail_r1 _ (List.mem_of_getElem? (i := 14) rfl), List.forall_mem_cons.mpr ⟨mc_X12_fail_r1 _ (List.mem_of_getElem? (i := 15) rfl), List.forall_mem_cons.mpr ⟨mc_X12_fail_r1 _ (List.mem_of_getElem? (i := 5) rfl), List.forall_mem_cons.mpr ⟨mc_X12_fail_r1 _ (List.mem_of_getElem? (i := 16) rfl), List.forall_mem_cons.mpr ⟨mc_X12_fail_r1 _ (List.mem_of_getElem? (i := 17) rfl), List.forall_mem_cons.mpr ⟨mc_X12_fail_r1 _ (List.mem_of_getElem? (i := 18) rfl), List.forall_mem_cons.mpr ⟨mc_X12_fail_r1 _ (List.mem_of_getElem? (i := 19) rfl), List.forall_mem_cons.mpr ⟨mc_X12_fail_r1 _ (List.mem_of_getElem? (i := 20) rfl), List.forall_mem_cons.mpr ⟨mc_X12_fail_r1 _ (List.mem_of_getElem? (i := 21) rfl), List.forall_mem_cons.mpr ⟨mc_X12_fail_r1 _ (List.mem_of_getElem? (i := 3) rfl), List.forall_mem_cons.mpr ⟨mc_X12_fail_r1 _ (List.mem_of_getElem? (i := 4) rfl), List.forall_mem_cons.mpr ⟨mc_X12_fail_r1 _ (List.mem_of_getElem? (i := 6) rfl), List.forall_mem_cons.mpr ⟨mc_X12_fail_r1 _ (List.mem_of_getElem? (i := 22) rfl), List.forall_mem_cons.mpr ⟨mc_X12_fail_r1 _ (List.mem_of_getElem? (i := 23) rfl), List.forall_mem_cons.mpr ⟨mc_X12_fail_r2 _ (List.mem_of_getElem? (i := 0) rfl), List.forall_mem_cons.mpr ⟨mc_X12_fail_r2 _ (List.mem_of_getElem? (i := 1) rfl), List.forall_mem_cons.mpr ⟨mc_X12_fail_r1 _ (List.mem_of_getElem? (i := 1) rfl), fun _ h => absurd h List.not_mem_nil⟩⟩⟩⟩⟩⟩⟩⟩⟩⟩⟩⟩⟩⟩⟩⟩⟩⟩⟩⟩⟩, tl_X12_fail_X12⟩⟩) (by decide +kernel)
set_option maxRecDepth 20000 in
theorem gX12_fail_X12_nextFor : GoodIn wsX12_fail (wsV RX12 279 RX12 yX12_nextFor wsX12_nextFor) := goodIn_app (goodIn_sub (List.forall_mem_cons.mpr ⟨mc_X12_fail_r1 _ (List.mem_of_getElem? (i := 7) rfl), List.forall_mem_cons.mpr ⟨mc_X12_fail_r1 _ (List.mem_of_getElem? (i := 8) rfl), List.forall_mem_cons.mpr ⟨mc_X12_fail_r1 _ (List.mem_of_getElem? (i := 9) rfl), List.forall_mem_cons.mpr ⟨mc_X12_fail_r1 _ (List.mem_of_getElem? (i := 5) rfl), fun _ h => absurd h List.not_mem_nil⟩⟩⟩⟩) (by decide +kernel)) ggX12_fail_X12_nextFor
set_option maxRecDepth 20000 in
theorem ggX12_fail_X12_has : GoodIn wsX12_fail wsX12_has := goodIn_sub (List.forall_mem_cons.mpr ⟨mc_X12_fail_r2 _ (List.mem_of_getElem? (i := 5) rfl), List.forall_mem_append.mpr ⟨List.forall_mem_cons.mpr ⟨mc_X12_fail_r1 _ (List.mem_of_getElem? (i := 1) rfl), List.forall_mem_cons.mpr ⟨mc_X12_fail_r1 _ (List.mem_of_getElem? (i := 2) rfl), fun _ h => absurd h List.not_mem_nil⟩⟩, tl_X12_fail_X12⟩⟩) (by decide +kernel)
set_option maxRecDepth 20000 in
theorem gX12_fail_X12_has : GoodIn wsX12_fail (wsV RX12 282 RX12 yX12_has wsX12_has) := goodIn_app (goodIn_sub (List.forall_mem_cons.mpr ⟨mc_X12_fail_r2 _ (List.mem_of_getElem? (i := 2) rfl), List.forall_mem_cons.mpr ⟨mc_X12_fail_r2 _ (List.mem_of_getElem? (i := 3) rfl), List.forall_mem_cons.mpr ⟨mc_X12_fail_r2 _ (List.mem_of_getElem? (i := 4) rfl), List.forall_mem_cons.mpr ⟨mc_X12_fail_r1 _ (List.mem_of_getElem? (i := 5) rfl), fun _ h => absurd h List.not_mem_nil⟩⟩⟩⟩) (by decide +kernel)) ggX12_fail_X12_has
theorem dX12_fail_0 : decode cX12_fail 0 = .ok (.aload_n 0, 1) := by decide +kernel
theorem dX12_fail_1 : decode cX12_fail 1 = .ok (.getfield 140, 3) := by decide +kernel
theorem dX12_fail_4 : decode cX12_fail 4 = .ok (.iconst 1, 1) := by decide +kernel
theorem dX12_fail_5 : decode cX12_fail 5 = .ok (.isub, 1) := by decide +kernel
theorem dX12_fail_6 : decode cX12_fail 6 = .ok (.istore_n 2, 1) := by decide +kernel
theorem dX12_fail_7 : decode cX12_fail 7 = .ok (.iload_n 2, 1) := by decide +kernel
theorem dX12_fail_8 : decode cX12_fail 8 = .ok (.ifCond .lt 26, 3) := by decide +kernel
theorem dX12_fail_11 : decode cX12_fail 11 = .ok (.iload_n 1, 1) := by decide +kernel
theorem dX12_fail_12 : decode cX12_fail 12 = .ok (.iconst 0, 1) := by decide +kernel
theorem dX12_fail_13 : decode cX12_fail 13 = .ok (.iconst 3, 1) := by decide +kernel
theorem dX12_fail_14 : decode cX12_fail 14 = .ok (.invokestatic 130, 3) := by decide +kernel
theorem dX12_fail_17 : decode cX12_fail 17 = .ok (.ifCond .eq 17, 3) := by decide +kernel
theorem dX12_fail_20 : decode cX12_fail 20 = .ok (.aload_n 0, 1) := by decide +kernel
theorem dX12_fail_21 : decode cX12_fail 21 = .ok (.getfield 80, 3) := by decide +kernel
theorem dX12_fail_24 : decode cX12_fail 24 = .ok (.iconst 4, 1) := by decide +kernel
theorem dX12_fail_25 : decode cX12_fail 25 = .ok (.iload_n 2, 1) := by decide +kernel
theorem dX12_fail_26 : decode cX12_fail 26 = .ok (.imul, 1) := by decide +kernel
theorem dX12_fail_27 : decode cX12_fail 27 = .ok (.iload_n 1, 1) := by decide +kernel
theorem dX12_fail_28 : decode cX12_fail 28 = .ok (.iadd, 1) := by decide +kernel
theorem dX12_fail_29 : decode cX12_fail 29 = .ok (.iaload, 1) := by decide +kernel
theorem dX12_fail_30 : decode cX12_fail 30 = .ok (.iconst (-1), 1) := by decide +kernel
theorem dX12_fail_31 : decode cX12_fail 31 = .ok (.if_icmp .ne 6, 3) := by decide +kernel
theorem dX12_fail_34 : decode cX12_fail 34 = .ok (.bipush (-2), 2) := by decide +kernel
theorem dX12_fail_36 : decode cX12_fail 36 = .ok (.ireturn, 1) := by decide +kernel
theorem dX12_fail_37 : decode cX12_fail 37 = .ok (.aload_n 0, 1) := by decide +kernel
theorem dX12_fail_38 : decode cX12_fail 38 = .ok (.getfield 80, 3) := by decide +kernel
theorem dX12_fail_41 : decode cX12_fail 41 = .ok (.iconst 4, 1) := by decide +kernel
theorem dX12_fail_42 : decode cX12_fail 42 = .ok (.iload_n 2, 1) := by decide +kernel
theorem dX12_fail_43 : decode cX12_fail 43 = .ok (.imul, 1) := by decide +kernel
theorem dX12_fail_44 : decode cX12_fail 44 = .ok (.iload_n 1, 1) := by decide +kernel
theorem dX12_fail_45 : decode cX12_fail 45 = .ok (.iadd, 1) := by decide +kernel
theorem dX12_fail_46 : decode cX12_fail 46 = .ok (.iaload, 1) := by decide +kernel
theorem dX12_fail_47 : decode cX12_fail 47 = .ok (.istore_n 3, 1) := by decide +kernel
theorem dX12_fail_48 : decode cX12_fail 48 = .ok (.aload_n 0, 1) := by decide +kernel
theorem dX12_fail_49 : decode cX12_fail 49 = .ok (.getfield 20, 3) := by decide +kernel
theorem dX12_fail_52 : decode cX12_fail 52 = .ok (.iconst 4, 1) := by decide +kernel
theorem dX12_fail_53 : decode cX12_fail 53 = .ok (.iload_n 3, 1) := by decide +kernel
theorem dX12_fail_54 : decode cX12_fail 54 = .ok (.imul, 1) := by decide +kernel
theorem dX12_fail_55 : decode cX12_fail 55 = .ok (.iload_n 1, 1) := by decide +kernel
theorem dX12_fail_56 : decode cX12_fail 56 = .ok (.iadd, 1) := by decide +kernel
theorem dX12_fail_57 : decode cX12_fail 57 = .ok (.dup2, 1) := by decide +kernel
theorem dX12_fail_58 : decode cX12_fail 58 = .ok (.iaload, 1) := by decide +kernel
theorem dX12_fail_59 : decode cX12_fail 59 = .ok (.iconst 1, 1) := by decide +kernel
theorem dX12_fail_60 : decode cX12_fail 60 = .ok (.isub, 1) := by decide +kernel
theorem dX12_fail_61 : decode cX12_fail 61 = .ok (.iastore, 1) := by decide +kernel
theorem dX12_fail_62 : decode cX12_fail 62 = .ok (.aload_n 0, 1) := by decide +kernel
theorem dX12_fail_63 : decode cX12_fail 63 = .ok (.getfield 80, 3) := by decide +kernel
theorem dX12_fail_66 : decode cX12_fail 66 = .ok (.iconst 4, 1) := by decide +kernel
theorem dX12_fail_67 : decode cX12_fail 67 = .ok (.iload_n 2, 1) := by decide +kernel
theorem dX12_fail_68 : decode cX12_fail 68 = .ok (.imul, 1) := by decide +kernel
theorem dX12_fail_69 : decode cX12_fail 69 = .ok (.iload_n 1, 1) := by decide +kernel
theorem dX12_fail_70 : decode cX12_fail 70 = .ok (.iadd, 1) := by decide +kernel
theorem dX12_fail_71 : decode cX12_fail 71 = .ok (.iconst (-1), 1) := by decide +kernel
theorem dX12_fail_72 : decode cX12_fail 72 = .ok (.iastore, 1) := by decide +kernel
theorem dX12_fail_73 : decode cX12_fail 73 = .ok (.aload_n 0, 1) := by decide +kernel
theorem dX12_fail_74 : decode cX12_fail 74 = .ok (.iload_n 1, 1) := by decide +kernel
theorem dX12_fail_75 : decode cX12_fail 75 = .ok (.iload_n 2, 1) := by decide +kernel
theorem dX12_fail_76 : decode cX12_fail 76 = .ok (.iload_n 3, 1) := by decide +kernel
theorem dX12_fail_77 : decode cX12_fail 77 = .ok (.invokevirtual 279, 3) := by decide +kernel
theorem dX12_fail_80 : decode cX12_fail 80 = .ok (.istore 4, 2) := by decide +kernel
theorem dX12_fail_82 : decode cX12_fail 82 = .ok (.aload_n 0, 1) := by decide +kernel
theorem dX12_fail_83 : decode cX12_fail 83 = .ok (.iload 4, 2) := by decide +kernel
theorem dX12_fail_85 : decode cX12_fail 85 = .ok (.iload_n 1, 1) := by decide +kernel
theorem dX12_fail_86 : decode cX12_fail 86 = .ok (.iload_n 2, 1) := by decide +kernel
theorem dX12_fail_87 : decode cX12_fail 87 = .ok (.invokevirtual 282, 3) := by decide +kernel
theorem dX12_fail_90 : decode cX12_fail 90 = .ok (.iload 4, 2) := by decide +kernel
theorem dX12_fail_92 : decode cX12_fail 92 = .ok (.ireturn, 1) := by decide +kernel
set_option maxRecDepth 20000 in
theorem ggX12_dayOf_X12_hasGone : GoodIn wsX12_dayOf wsX12_hasGone := goodIn_sub (List.forall_mem_cons.mpr ⟨List.mem_cons_of_mem _ (List.mem_append_left _ (List.mem_of_getElem? (i := 9) rfl)), List.forall_mem_append.mpr ⟨List.forall_mem_cons.mpr ⟨List.mem_cons_of_mem _ (List.mem_append_left _ (List.mem_of_getElem? (i := 10) rfl)), List.forall_mem_cons.mpr ⟨List.mem_cons_of_mem _ (List.mem_append_left _ (List.mem_of_getElem? (i := 11) rfl)), List.forall_mem_cons.mpr ⟨List.mem_cons_of_mem _ (List.mem_append_left _ (List.mem_of_getElem? (i := 12) rfl)), List.forall_mem_cons.mpr ⟨List.mem_cons_of_mem _ (List.mem_append_left _ (List.mem_of_getElem? (i := 8) rfl)), List.forall_mem_cons.mpr ⟨List.mem_cons_of_mem _ (List.mem_append_left _ (List.mem_of_getElem? (i := 13) rfl)), fun _ h => absurd h List.not_mem_nil⟩⟩⟩⟩⟩, tl_X12_dayOf_X12⟩⟩) (by decide +kernel)
set_option maxRecDepth 20000 in
theorem gX12_dayOf_X12_hasGone : GoodIn wsX12_dayOf (wsV RX12 300 RX12 yX12_hasGone wsX12_hasGone) := goodIn_app (goodIn_sub (List.forall_mem_cons.mpr ⟨List.mem_cons_of_mem _ (List.mem_append_left _ (List.mem_of_getElem? (i := 5) rfl)), List.forall_mem_cons.mpr ⟨List.mem_cons_of_mem _ (List.mem_append_left _ (List.mem_of_getElem? (i := 6) rfl)), List.forall_mem_cons.mpr ⟨List.mem_cons_of_mem _ (List.mem_append_left _ (List.mem_of_getElem? (i := 7) rfl)), List.forall_mem_cons.mpr ⟨List.mem_cons_of_mem _ (List.mem_append_left _ (List.mem_of_getElem? (i := 8) rfl)), fun _ h => absurd h List.not_mem_nil⟩⟩⟩⟩) (by decide +kernel)) ggX12_dayOf_X12_hasGone
theorem dX12_dayOf_0 : decode cX12_dayOf 0 = .ok (.aload_n 0, 1) := by decide +kernel
theorem dX12_dayOf_1 : decode cX12_dayOf 1 = .ok (.iload_n 1, 1) := by decide +kernel
theorem dX12_dayOf_2 : decode cX12_dayOf 2 = .ok (.invokevirtual 300, 3) := by decide +kernel
theorem dX12_dayOf_5 : decode cX12_dayOf 5 = .ok (.ifCond .ne 5, 3) := by decide +kernel
theorem dX12_dayOf_8 : decode cX12_dayOf 8 = .ok (.iconst (-1), 1) := by decide +kernel
theorem dX12_dayOf_9 : decode cX12_dayOf 9 = .ok (.ireturn, 1) := by decide +kernel
theorem dX12_dayOf_10 : decode cX12_dayOf 10 = .ok (.iload_n 2, 1) := by decide +kernel
theorem dX12_dayOf_11 : decode cX12_dayOf 11 = .ok (.ifCond .ne 12, 3) := by decide +kernel
theorem dX12_dayOf_14 : decode cX12_dayOf 14 = .ok (.aload_n 0, 1) := by decide +kernel
theorem dX12_dayOf_15 : decode cX12_dayOf 15 = .ok (.getfield 83, 3) := by decide +kernel
theorem dX12_dayOf_18 : decode cX12_dayOf 18 = .ok (.iload_n 1, 1) := by decide +kernel
theorem dX12_dayOf_19 : decode cX12_dayOf 19 = .ok (.iaload, 1) := by decide +kernel
theorem dX12_dayOf_20 : decode cX12_dayOf 20 = .ok (.goto 60, 3) := by decide +kernel
theorem dX12_dayOf_23 : decode cX12_dayOf 23 = .ok (.iload_n 2, 1) := by decide +kernel
theorem dX12_dayOf_24 : decode cX12_dayOf 24 = .ok (.iconst 1, 1) := by decide +kernel
theorem dX12_dayOf_25 : decode cX12_dayOf 25 = .ok (.if_icmp .ne 12, 3) := by decide +kernel
theorem dX12_dayOf_28 : decode cX12_dayOf 28 = .ok (.aload_n 0, 1) := by decide +kernel
theorem dX12_dayOf_29 : decode cX12_dayOf 29 = .ok (.getfield 86, 3) := by decide +kernel
theorem dX12_dayOf_32 : decode cX12_dayOf 32 = .ok (.iload_n 1, 1) := by decide +kernel
theorem dX12_dayOf_33 : decode cX12_dayOf 33 = .ok (.iaload, 1) := by decide +kernel
theorem dX12_dayOf_34 : decode cX12_dayOf 34 = .ok (.goto 46, 3) := by decide +kernel
theorem dX12_dayOf_37 : decode cX12_dayOf 37 = .ok (.iload_n 2, 1) := by decide +kernel
theorem dX12_dayOf_38 : decode cX12_dayOf 38 = .ok (.iconst 2, 1) := by decide +kernel
theorem dX12_dayOf_39 : decode cX12_dayOf 39 = .ok (.if_icmp .ne 12, 3) := by decide +kernel
theorem dX12_dayOf_42 : decode cX12_dayOf 42 = .ok (.aload_n 0, 1) := by decide +kernel
theorem dX12_dayOf_43 : decode cX12_dayOf 43 = .ok (.getfield 89, 3) := by decide +kernel
theorem dX12_dayOf_46 : decode cX12_dayOf 46 = .ok (.iload_n 1, 1) := by decide +kernel
theorem dX12_dayOf_47 : decode cX12_dayOf 47 = .ok (.iaload, 1) := by decide +kernel
theorem dX12_dayOf_48 : decode cX12_dayOf 48 = .ok (.goto 32, 3) := by decide +kernel
theorem dX12_dayOf_51 : decode cX12_dayOf 51 = .ok (.iload_n 2, 1) := by decide +kernel
theorem dX12_dayOf_52 : decode cX12_dayOf 52 = .ok (.iconst 3, 1) := by decide +kernel
theorem dX12_dayOf_53 : decode cX12_dayOf 53 = .ok (.if_icmp .ne 12, 3) := by decide +kernel
theorem dX12_dayOf_56 : decode cX12_dayOf 56 = .ok (.aload_n 0, 1) := by decide +kernel
theorem dX12_dayOf_57 : decode cX12_dayOf 57 = .ok (.getfield 92, 3) := by decide +kernel
theorem dX12_dayOf_60 : decode cX12_dayOf 60 = .ok (.iload_n 1, 1) := by decide +kernel
theorem dX12_dayOf_61 : decode cX12_dayOf 61 = .ok (.iaload, 1) := by decide +kernel
theorem dX12_dayOf_62 : decode cX12_dayOf 62 = .ok (.goto 18, 3) := by decide +kernel
theorem dX12_dayOf_65 : decode cX12_dayOf 65 = .ok (.iload_n 2, 1) := by decide +kernel
theorem dX12_dayOf_66 : decode cX12_dayOf 66 = .ok (.iconst 4, 1) := by decide +kernel
theorem dX12_dayOf_67 : decode cX12_dayOf 67 = .ok (.if_icmp .ne 12, 3) := by decide +kernel
theorem dX12_dayOf_70 : decode cX12_dayOf 70 = .ok (.aload_n 0, 1) := by decide +kernel
theorem dX12_dayOf_71 : decode cX12_dayOf 71 = .ok (.getfield 95, 3) := by decide +kernel
theorem dX12_dayOf_74 : decode cX12_dayOf 74 = .ok (.iload_n 1, 1) := by decide +kernel
theorem dX12_dayOf_75 : decode cX12_dayOf 75 = .ok (.iaload, 1) := by decide +kernel
theorem dX12_dayOf_76 : decode cX12_dayOf 76 = .ok (.goto 4, 3) := by decide +kernel
theorem dX12_dayOf_79 : decode cX12_dayOf 79 = .ok (.iconst (-1), 1) := by decide +kernel
theorem dX12_dayOf_80 : decode cX12_dayOf 80 = .ok (.ireturn, 1) := by decide +kernel
set_option maxRecDepth 20000 in
theorem ggX12_count_X12_allGuests : GoodIn wsX12_count wsX12_allGuests := goodIn_sub (List.forall_mem_cons.mpr ⟨List.mem_cons_of_mem _ (List.mem_append_left _ (List.mem_of_getElem? (i := 14) rfl)), List.forall_mem_append.mpr ⟨List.forall_mem_cons.mpr ⟨List.mem_cons_of_mem _ (List.mem_append_left _ (List.mem_of_getElem? (i := 15) rfl)), fun _ h => absurd h List.not_mem_nil⟩, tl_X12_count_X12⟩⟩) (by decide +kernel)
set_option maxRecDepth 20000 in
theorem gX12_count_X12_allGuests : GoodIn wsX12_count (wsV RX12 268 RX12 yX12_allGuests wsX12_allGuests) := goodIn_app (goodIn_sub (List.forall_mem_cons.mpr ⟨List.mem_cons_of_mem _ (List.mem_append_left _ (List.mem_of_getElem? (i := 10) rfl)), List.forall_mem_cons.mpr ⟨List.mem_cons_of_mem _ (List.mem_append_left _ (List.mem_of_getElem? (i := 11) rfl)), List.forall_mem_cons.mpr ⟨List.mem_cons_of_mem _ (List.mem_append_left _ (List.mem_of_getElem? (i := 12) rfl)), List.forall_mem_cons.mpr ⟨List.mem_cons_of_mem _ (List.mem_append_left _ (List.mem_of_getElem? (i := 13) rfl)), fun _ h => absurd h List.not_mem_nil⟩⟩⟩⟩) (by decide +kernel)) ggX12_count_X12_allGuests
theorem dX12_count_0 : decode cX12_count 0 = .ok (.iconst 0, 1) := by decide +kernel
theorem dX12_count_1 : decode cX12_count 1 = .ok (.istore_n 2, 1) := by decide +kernel
theorem dX12_count_2 : decode cX12_count 2 = .ok (.iload_n 1, 1) := by decide +kernel
theorem dX12_count_3 : decode cX12_count 3 = .ok (.tableswitch 156 0 10 #[57, 62, 67, 72, 77, 82, 87, 92, 119, 146, 151], 57) := by decide +kernel
theorem dX12_count_60 : decode cX12_count 60 = .ok (.aload_n 0, 1) := by decide +kernel
theorem dX12_count_61 : decode cX12_count 61 = .ok (.getfield 140, 3) := by decide +kernel
theorem dX12_count_64 : decode cX12_count 64 = .ok (.ireturn, 1) := by decide +kernel
theorem dX12_count_65 : decode cX12_count 65 = .ok (.aload_n 0, 1) := by decide +kernel
theorem dX12_count_66 : decode cX12_count 66 = .ok (.getfield 134, 3) := by decide +kernel
theorem dX12_count_69 : decode cX12_count 69 = .ok (.ireturn, 1) := by decide +kernel
theorem dX12_count_70 : decode cX12_count 70 = .ok (.aload_n 0, 1) := by decide +kernel
theorem dX12_count_71 : decode cX12_count 71 = .ok (.getfield 153, 3) := by decide +kernel
theorem dX12_count_74 : decode cX12_count 74 = .ok (.ireturn, 1) := by decide +kernel
theorem dX12_count_75 : decode cX12_count 75 = .ok (.aload_n 0, 1) := by decide +kernel
theorem dX12_count_76 : decode cX12_count 76 = .ok (.getfield 137, 3) := by decide +kernel
theorem dX12_count_79 : decode cX12_count 79 = .ok (.ireturn, 1) := by decide +kernel
theorem dX12_count_80 : decode cX12_count 80 = .ok (.aload_n 0, 1) := by decide +kernel
theorem dX12_count_81 : decode cX12_count 81 = .ok (.getfield 264, 3) := by decide +kernel
theorem dX12_count_84 : decode cX12_count 84 = .ok (.ireturn, 1) := by decide +kernel
theorem dX12_count_85 : decode cX12_count 85 = .ok (.aload_n 0, 1) := by decide +kernel
theorem dX12_count_86 : decode cX12_count 86 = .ok (.invokevirtual 268, 3) := by decide +kernel
theorem dX12_count_89 : decode cX12_count 89 = .ok (.ireturn, 1) := by decide +kernel
theorem dX12_count_90 : decode cX12_count 90 = .ok (.aload_n 0, 1) := by decide +kernel
theorem dX12_count_91 : decode cX12_count 91 = .ok (.getfield 233, 3) := by decide +kernel
theorem dX12_count_94 : decode cX12_count 94 = .ok (.ireturn, 1) := by decide +kernel
theorem dX12_count_95 : decode cX12_count 95 = .ok (.iconst 0, 1) := by decide +kernel
theorem dX12_count_96 : decode cX12_count 96 = .ok (.istore_n 3, 1) := by decide +kernel
theorem dX12_count_97 : decode cX12_count 97 = .ok (.iload_n 3, 1) := by decide +kernel
theorem dX12_count_98 : decode cX12_count 98 = .ok (.aload_n 0, 1) := by decide +kernel
theorem dX12_count_99 : decode cX12_count 99 = .ok (.getfield 137, 3) := by decide +kernel
theorem dX12_count_102 : decode cX12_count 102 = .ok (.if_icmp .ge 18, 3) := by decide +kernel
theorem dX12_count_105 : decode cX12_count 105 = .ok (.iload_n 2, 1) := by decide +kernel
theorem dX12_count_106 : decode cX12_count 106 = .ok (.aload_n 0, 1) := by decide +kernel
theorem dX12_count_107 : decode cX12_count 107 = .ok (.getfield 50, 3) := by decide +kernel
theorem dX12_count_110 : decode cX12_count 110 = .ok (.iload_n 3, 1) := by decide +kernel
theorem dX12_count_111 : decode cX12_count 111 = .ok (.iaload, 1) := by decide +kernel
theorem dX12_count_112 : decode cX12_count 112 = .ok (.iadd, 1) := by decide +kernel
theorem dX12_count_113 : decode cX12_count 113 = .ok (.istore_n 2, 1) := by decide +kernel
theorem dX12_count_114 : decode cX12_count 114 = .ok (.iinc 3 1, 3) := by decide +kernel
theorem dX12_count_117 : decode cX12_count 117 = .ok (.goto (-20), 3) := by decide +kernel
theorem dX12_count_120 : decode cX12_count 120 = .ok (.iload_n 2, 1) := by decide +kernel
theorem dX12_count_121 : decode cX12_count 121 = .ok (.ireturn, 1) := by decide +kernel
theorem dX12_count_122 : decode cX12_count 122 = .ok (.iconst 0, 1) := by decide +kernel
theorem dX12_count_123 : decode cX12_count 123 = .ok (.istore_n 3, 1) := by decide +kernel
theorem dX12_count_124 : decode cX12_count 124 = .ok (.iload_n 3, 1) := by decide +kernel
theorem dX12_count_125 : decode cX12_count 125 = .ok (.aload_n 0, 1) := by decide +kernel
theorem dX12_count_126 : decode cX12_count 126 = .ok (.getfield 137, 3) := by decide +kernel
theorem dX12_count_129 : decode cX12_count 129 = .ok (.if_icmp .ge 18, 3) := by decide +kernel
theorem dX12_count_132 : decode cX12_count 132 = .ok (.iload_n 2, 1) := by decide +kernel
theorem dX12_count_133 : decode cX12_count 133 = .ok (.aload_n 0, 1) := by decide +kernel
theorem dX12_count_134 : decode cX12_count 134 = .ok (.getfield 53, 3) := by decide +kernel
theorem dX12_count_137 : decode cX12_count 137 = .ok (.iload_n 3, 1) := by decide +kernel
theorem dX12_count_138 : decode cX12_count 138 = .ok (.iaload, 1) := by decide +kernel
theorem dX12_count_139 : decode cX12_count 139 = .ok (.iadd, 1) := by decide +kernel
theorem dX12_count_140 : decode cX12_count 140 = .ok (.istore_n 2, 1) := by decide +kernel
theorem dX12_count_141 : decode cX12_count 141 = .ok (.iinc 3 1, 3) := by decide +kernel
theorem dX12_count_144 : decode cX12_count 144 = .ok (.goto (-20), 3) := by decide +kernel
theorem dX12_count_147 : decode cX12_count 147 = .ok (.iload_n 2, 1) := by decide +kernel
theorem dX12_count_148 : decode cX12_count 148 = .ok (.ireturn, 1) := by decide +kernel
theorem dX12_count_149 : decode cX12_count 149 = .ok (.aload_n 0, 1) := by decide +kernel
theorem dX12_count_150 : decode cX12_count 150 = .ok (.getfield 297, 3) := by decide +kernel
theorem dX12_count_153 : decode cX12_count 153 = .ok (.ireturn, 1) := by decide +kernel
theorem dX12_count_154 : decode cX12_count 154 = .ok (.aload_n 0, 1) := by decide +kernel
theorem dX12_count_155 : decode cX12_count 155 = .ok (.getfield 185, 3) := by decide +kernel
theorem dX12_count_158 : decode cX12_count 158 = .ok (.ireturn, 1) := by decide +kernel
theorem dX12_count_159 : decode cX12_count 159 = .ok (.iconst (-1), 1) := by decide +kernel
theorem dX12_count_160 : decode cX12_count 160 = .ok (.ireturn, 1) := by decide +kernel

