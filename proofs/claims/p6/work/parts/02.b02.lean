theorem dX7_take_89 : decode cX7_take 89 = .ok (.getfield 26, 3) := by decide +kernel
theorem dX7_take_92 : decode cX7_take 92 = .ok (.aload_n 0, 1) := by decide +kernel
theorem dX7_take_93 : decode cX7_take 93 = .ok (.getfield 29, 3) := by decide +kernel
theorem dX7_take_96 : decode cX7_take 96 = .ok (.bipush 16, 2) := by decide +kernel
theorem dX7_take_98 : decode cX7_take 98 = .ok (.imul, 1) := by decide +kernel
theorem dX7_take_99 : decode cX7_take 99 = .ok (.iload_n 3, 1) := by decide +kernel
theorem dX7_take_100 : decode cX7_take 100 = .ok (.iadd, 1) := by decide +kernel
theorem dX7_take_101 : decode cX7_take 101 = .ok (.aload_n 1, 1) := by decide +kernel
theorem dX7_take_102 : decode cX7_take 102 = .ok (.getfield 40, 3) := by decide +kernel
theorem dX7_take_105 : decode cX7_take 105 = .ok (.iload_n 3, 1) := by decide +kernel
theorem dX7_take_106 : decode cX7_take 106 = .ok (.iaload, 1) := by decide +kernel
theorem dX7_take_107 : decode cX7_take 107 = .ok (.iastore, 1) := by decide +kernel
theorem dX7_take_108 : decode cX7_take 108 = .ok (.iinc 3 1, 3) := by decide +kernel
theorem dX7_take_111 : decode cX7_take 111 = .ok (.goto (-77), 3) := by decide +kernel
theorem dX7_take_114 : decode cX7_take 114 = .ok (.aload_n 0, 1) := by decide +kernel
theorem dX7_take_115 : decode cX7_take 115 = .ok (.dup, 1) := by decide +kernel
theorem dX7_take_116 : decode cX7_take 116 = .ok (.getfield 29, 3) := by decide +kernel
theorem dX7_take_119 : decode cX7_take 119 = .ok (.iconst 1, 1) := by decide +kernel
theorem dX7_take_120 : decode cX7_take 120 = .ok (.iadd, 1) := by decide +kernel
theorem dX7_take_121 : decode cX7_take 121 = .ok (.putfield 29, 3) := by decide +kernel
theorem dX7_take_124 : decode cX7_take 124 = .ok (.aload_n 0, 1) := by decide +kernel
theorem dX7_take_125 : decode cX7_take 125 = .ok (.getfield 29, 3) := by decide +kernel
theorem dX7_take_128 : decode cX7_take 128 = .ok (.iconst 1, 1) := by decide +kernel
theorem dX7_take_129 : decode cX7_take 129 = .ok (.isub, 1) := by decide +kernel
theorem dX7_take_130 : decode cX7_take 130 = .ok (.ireturn, 1) := by decide +kernel
theorem dX7_inForce_0 : decode cX7_inForce 0 = .ok (.aload_n 0, 1) := by decide +kernel
theorem dX7_inForce_1 : decode cX7_inForce 1 = .ok (.getfield 29, 3) := by decide +kernel
theorem dX7_inForce_4 : decode cX7_inForce 4 = .ok (.iconst 1, 1) := by decide +kernel
theorem dX7_inForce_5 : decode cX7_inForce 5 = .ok (.isub, 1) := by decide +kernel
theorem dX7_inForce_6 : decode cX7_inForce 6 = .ok (.istore_n 2, 1) := by decide +kernel
theorem dX7_inForce_7 : decode cX7_inForce 7 = .ok (.iload_n 2, 1) := by decide +kernel
theorem dX7_inForce_8 : decode cX7_inForce 8 = .ok (.ifCond .lt 21, 3) := by decide +kernel
theorem dX7_inForce_11 : decode cX7_inForce 11 = .ok (.aload_n 0, 1) := by decide +kernel
theorem dX7_inForce_12 : decode cX7_inForce 12 = .ok (.getfield 13, 3) := by decide +kernel
theorem dX7_inForce_15 : decode cX7_inForce 15 = .ok (.iload_n 2, 1) := by decide +kernel
theorem dX7_inForce_16 : decode cX7_inForce 16 = .ok (.iaload, 1) := by decide +kernel
theorem dX7_inForce_17 : decode cX7_inForce 17 = .ok (.iload_n 1, 1) := by decide +kernel
theorem dX7_inForce_18 : decode cX7_inForce 18 = .ok (.if_icmp .gt 5, 3) := by decide +kernel
theorem dX7_inForce_21 : decode cX7_inForce 21 = .ok (.iload_n 2, 1) := by decide +kernel
theorem dX7_inForce_22 : decode cX7_inForce 22 = .ok (.ireturn, 1) := by decide +kernel
theorem dX7_inForce_23 : decode cX7_inForce 23 = .ok (.iinc 2 (-1), 3) := by decide +kernel
theorem dX7_inForce_26 : decode cX7_inForce 26 = .ok (.goto (-19), 3) := by decide +kernel
theorem dX7_inForce_29 : decode cX7_inForce 29 = .ok (.iconst (-1), 1) := by decide +kernel
theorem dX7_inForce_30 : decode cX7_inForce 30 = .ok (.ireturn, 1) := by decide +kernel
set_option maxRecDepth 20000 in
theorem ggX7_isFast_X7_inForce : GoodIn wsX7_isFast wsX7_inForce := goodIn_sub (List.forall_mem_cons.mpr ⟨List.mem_cons_of_mem _ (List.mem_append_left _ (List.mem_of_getElem? (i := 5) rfl)), List.forall_mem_append.mpr ⟨List.forall_mem_cons.mpr ⟨List.mem_cons_of_mem _ (List.mem_append_left _ (List.mem_of_getElem? (i := 6) rfl)), List.forall_mem_cons.mpr ⟨List.mem_cons_of_mem _ (List.mem_append_left _ (List.mem_of_getElem? (i := 7) rfl)), fun _ h => absurd h List.not_mem_nil⟩⟩, tl_X7_isFast_X7⟩⟩) (by decide +kernel)
set_option maxRecDepth 20000 in
theorem gX7_isFast_X7_inForce : GoodIn wsX7_isFast (wsV RX7 41 RX7 yX7_inForce wsX7_inForce) := goodIn_app (goodIn_sub (List.forall_mem_cons.mpr ⟨List.mem_cons_of_mem _ (List.mem_append_left _ (List.mem_of_getElem? (i := 1) rfl)), List.forall_mem_cons.mpr ⟨List.mem_cons_of_mem _ (List.mem_append_left _ (List.mem_of_getElem? (i := 2) rfl)), List.forall_mem_cons.mpr ⟨List.mem_cons_of_mem _ (List.mem_append_left _ (List.mem_of_getElem? (i := 3) rfl)), List.forall_mem_cons.mpr ⟨List.mem_cons_of_mem _ (List.mem_append_left _ (List.mem_of_getElem? (i := 4) rfl)), fun _ h => absurd h List.not_mem_nil⟩⟩⟩⟩) (by decide +kernel)) ggX7_isFast_X7_inForce
set_option maxRecDepth 20000 in
theorem ggX7_isFast_X7_tellsFast : GoodIn wsX7_isFast wsX7_tellsFast := goodIn_sub (List.forall_mem_cons.mpr ⟨List.mem_cons_of_mem _ (List.mem_append_left _ (List.mem_of_getElem? (i := 11) rfl)), List.forall_mem_append.mpr ⟨List.forall_mem_cons.mpr ⟨List.mem_cons_of_mem _ (List.mem_append_left _ (List.mem_of_getElem? (i := 12) rfl)), List.forall_mem_cons.mpr ⟨List.mem_cons_of_mem _ (List.mem_append_left _ (List.mem_of_getElem? (i := 13) rfl)), List.forall_mem_cons.mpr ⟨List.mem_cons_of_mem _ (List.mem_append_left _ (List.mem_of_getElem? (i := 14) rfl)), fun _ h => absurd h List.not_mem_nil⟩⟩⟩, tl_X7_isFast_X7⟩⟩) (by decide +kernel)
set_option maxRecDepth 20000 in
theorem gX7_isFast_X7_tellsFast : GoodIn wsX7_isFast (wsV RX7 45 RX7 yX7_tellsFast wsX7_tellsFast) := goodIn_app (goodIn_sub (List.forall_mem_cons.mpr ⟨List.mem_cons_of_mem _ (List.mem_append_left _ (List.mem_of_getElem? (i := 8) rfl)), List.forall_mem_cons.mpr ⟨List.mem_cons_of_mem _ (List.mem_append_left _ (List.mem_of_getElem? (i := 9) rfl)), List.forall_mem_cons.mpr ⟨List.mem_cons_of_mem _ (List.mem_append_left _ (List.mem_of_getElem? (i := 10) rfl)), List.forall_mem_cons.mpr ⟨List.mem_cons_of_mem _ (List.mem_append_left _ (List.mem_of_getElem? (i := 4) rfl)), fun _ h => absurd h List.not_mem_nil⟩⟩⟩⟩) (by decide +kernel)) ggX7_isFast_X7_tellsFast
theorem dX7_isFast_0 : decode cX7_isFast 0 = .ok (.aload_n 0, 1) := by decide +kernel
theorem dX7_isFast_1 : decode cX7_isFast 1 = .ok (.iload_n 1, 1) := by decide +kernel
theorem dX7_isFast_2 : decode cX7_isFast 2 = .ok (.invokevirtual 41, 3) := by decide +kernel
theorem dX7_isFast_5 : decode cX7_isFast 5 = .ok (.istore_n 3, 1) := by decide +kernel
theorem dX7_isFast_6 : decode cX7_isFast 6 = .ok (.iload_n 3, 1) := by decide +kernel
theorem dX7_isFast_7 : decode cX7_isFast 7 = .ok (.iconst (-1), 1) := by decide +kernel
theorem dX7_isFast_8 : decode cX7_isFast 8 = .ok (.if_icmp .eq 8, 3) := by decide +kernel
theorem dX7_isFast_11 : decode cX7_isFast 11 = .ok (.iload_n 2, 1) := by decide +kernel
theorem dX7_isFast_12 : decode cX7_isFast 12 = .ok (.iconst 3, 1) := by decide +kernel
theorem dX7_isFast_13 : decode cX7_isFast 13 = .ok (.if_icmp .lt 5, 3) := by decide +kernel
theorem dX7_isFast_16 : decode cX7_isFast 16 = .ok (.iconst 0, 1) := by decide +kernel
theorem dX7_isFast_17 : decode cX7_isFast 17 = .ok (.ireturn, 1) := by decide +kernel
theorem dX7_isFast_18 : decode cX7_isFast 18 = .ok (.iload_n 3, 1) := by decide +kernel
theorem dX7_isFast_19 : decode cX7_isFast 19 = .ok (.bipush 16, 2) := by decide +kernel
theorem dX7_isFast_21 : decode cX7_isFast 21 = .ok (.imul, 1) := by decide +kernel
theorem dX7_isFast_22 : decode cX7_isFast 22 = .ok (.istore 4, 2) := by decide +kernel
theorem dX7_isFast_24 : decode cX7_isFast 24 = .ok (.iload 4, 2) := by decide +kernel
theorem dX7_isFast_26 : decode cX7_isFast 26 = .ok (.iload_n 3, 1) := by decide +kernel
theorem dX7_isFast_27 : decode cX7_isFast 27 = .ok (.bipush 16, 2) := by decide +kernel
theorem dX7_isFast_29 : decode cX7_isFast 29 = .ok (.imul, 1) := by decide +kernel
theorem dX7_isFast_30 : decode cX7_isFast 30 = .ok (.aload_n 0, 1) := by decide +kernel
theorem dX7_isFast_31 : decode cX7_isFast 31 = .ok (.getfield 17, 3) := by decide +kernel
theorem dX7_isFast_34 : decode cX7_isFast 34 = .ok (.iload_n 3, 1) := by decide +kernel
theorem dX7_isFast_35 : decode cX7_isFast 35 = .ok (.iaload, 1) := by decide +kernel
theorem dX7_isFast_36 : decode cX7_isFast 36 = .ok (.iadd, 1) := by decide +kernel
theorem dX7_isFast_37 : decode cX7_isFast 37 = .ok (.if_icmp .ge 21, 3) := by decide +kernel
theorem dX7_isFast_40 : decode cX7_isFast 40 = .ok (.aload_n 0, 1) := by decide +kernel
theorem dX7_isFast_41 : decode cX7_isFast 41 = .ok (.iload 4, 2) := by decide +kernel
theorem dX7_isFast_43 : decode cX7_isFast 43 = .ok (.iload_n 1, 1) := by decide +kernel
theorem dX7_isFast_44 : decode cX7_isFast 44 = .ok (.invokevirtual 45, 3) := by decide +kernel
theorem dX7_isFast_47 : decode cX7_isFast 47 = .ok (.ifCond .eq 5, 3) := by decide +kernel
theorem dX7_isFast_50 : decode cX7_isFast 50 = .ok (.iconst 1, 1) := by decide +kernel
theorem dX7_isFast_51 : decode cX7_isFast 51 = .ok (.ireturn, 1) := by decide +kernel
theorem dX7_isFast_52 : decode cX7_isFast 52 = .ok (.iinc 4 1, 3) := by decide +kernel
theorem dX7_isFast_55 : decode cX7_isFast 55 = .ok (.goto (-31), 3) := by decide +kernel
theorem dX7_isFast_58 : decode cX7_isFast 58 = .ok (.iconst 0, 1) := by decide +kernel
theorem dX7_isFast_59 : decode cX7_isFast 59 = .ok (.ireturn, 1) := by decide +kernel
set_option maxRecDepth 20000 in
theorem ggX7_shareOfHead_X7_isFast : GoodIn wsX7_shareOfHead wsX7_isFast := goodIn_sub (List.forall_mem_cons.mpr ⟨List.mem_cons_of_mem _ (List.mem_append_left _ (List.mem_of_getElem? (i := 4) rfl)), List.forall_mem_append.mpr ⟨List.forall_mem_cons.mpr ⟨List.mem_cons_of_mem _ (List.mem_append_left _ (List.mem_of_getElem? (i := 5) rfl)), List.forall_mem_cons.mpr ⟨List.mem_cons_of_mem _ (List.mem_append_left _ (List.mem_of_getElem? (i := 6) rfl)), List.forall_mem_cons.mpr ⟨List.mem_cons_of_mem _ (List.mem_append_left _ (List.mem_of_getElem? (i := 7) rfl)), List.forall_mem_cons.mpr ⟨List.mem_cons_of_mem _ (List.mem_append_left _ (List.mem_of_getElem? (i := 8) rfl)), List.forall_mem_cons.mpr ⟨List.mem_cons_of_mem _ (List.mem_append_left _ (List.mem_of_getElem? (i := 3) rfl)), List.forall_mem_cons.mpr ⟨List.mem_cons_of_mem _ (List.mem_append_left _ (List.mem_of_getElem? (i := 9) rfl)), List.forall_mem_cons.mpr ⟨List.mem_cons_of_mem _ (List.mem_append_left _ (List.mem_of_getElem? (i := 10) rfl)), List.forall_mem_cons.mpr ⟨List.mem_cons_of_mem _ (List.mem_append_left _ (List.mem_of_getElem? (i := 11) rfl)), List.forall_mem_cons.mpr ⟨List.mem_cons_of_mem _ (List.mem_append_left _ (List.mem_of_getElem? (i := 12) rfl)), List.forall_mem_cons.mpr ⟨List.mem_cons_of_mem _ (List.mem_append_left _ (List.mem_of_getElem? (i := 13) rfl)), List.forall_mem_cons.mpr ⟨List.mem_cons_of_mem _ (List.mem_append_left _ (List.mem_of_getElem? (i := 14) rfl)), List.forall_mem_cons.mpr ⟨List.mem_cons_of_mem _ (List.mem_append_left _ (List.mem_of_getElem? (i := 15) rfl)), List.forall_mem_cons.mpr ⟨List.mem_cons_of_mem _ (List.mem_append_left _ (List.mem_of_getElem? (i := 16) rfl)), List.forall_mem_cons.mpr ⟨List.mem_cons_of_mem _ (List.mem_append_left _ (List.mem_of_getElem? (i := 17) rfl)), List.forall_mem_cons.mpr ⟨List.mem_cons_of_mem _ (List.mem_append_left _ (List.mem_of_getElem? (i := 18) rfl)), fun _ h => absurd h List.not_mem_nil⟩⟩⟩⟩⟩⟩⟩⟩⟩⟩⟩⟩⟩⟩⟩, tl_X7_shareOfHead_X7⟩⟩) (by decide +kernel)
set_option maxRecDepth 20000 in
theorem gX7_shareOfHead_X7_isFast : GoodIn wsX7_shareOfHead (wsV RX7 49 RX7 yX7_isFast wsX7_isFast) := goodIn_app (goodIn_sub (List.forall_mem_cons.mpr ⟨List.mem_cons_of_mem _ (List.mem_append_left _ (List.mem_of_getElem? (i := 0) rfl)), List.forall_mem_cons.mpr ⟨List.mem_cons_of_mem _ (List.mem_append_left _ (List.mem_of_getElem? (i := 1) rfl)), List.forall_mem_cons.mpr ⟨List.mem_cons_of_mem _ (List.mem_append_left _ (List.mem_of_getElem? (i := 2) rfl)), List.forall_mem_cons.mpr ⟨List.mem_cons_of_mem _ (List.mem_append_left _ (List.mem_of_getElem? (i := 3) rfl)), fun _ h => absurd h List.not_mem_nil⟩⟩⟩⟩) (by decide +kernel)) ggX7_shareOfHead_X7_isFast
set_option maxRecDepth 20000 in
theorem ggX7_shareOfHead_X7_lastTold : GoodIn wsX7_shareOfHead wsX7_lastTold := goodIn_sub (List.forall_mem_cons.mpr ⟨List.mem_cons_of_mem _ (List.mem_append_left _ (List.mem_of_getElem? (i := 22) rfl)), List.forall_mem_append.mpr ⟨List.forall_mem_cons.mpr ⟨List.mem_cons_of_mem _ (List.mem_append_left _ (List.mem_of_getElem? (i := 5) rfl)), List.forall_mem_cons.mpr ⟨List.mem_cons_of_mem _ (List.mem_append_left _ (List.mem_of_getElem? (i := 16) rfl)), List.forall_mem_cons.mpr ⟨List.mem_cons_of_mem _ (List.mem_append_left _ (List.mem_of_getElem? (i := 17) rfl)), List.forall_mem_cons.mpr ⟨List.mem_cons_of_mem _ (List.mem_append_left _ (List.mem_of_getElem? (i := 18) rfl)), List.forall_mem_cons.mpr ⟨List.mem_cons_of_mem _ (List.mem_append_left _ (List.mem_of_getElem? (i := 6) rfl)), List.forall_mem_cons.mpr ⟨List.mem_cons_of_mem _ (List.mem_append_left _ (List.mem_of_getElem? (i := 7) rfl)), List.forall_mem_cons.mpr ⟨List.mem_cons_of_mem _ (List.mem_append_left _ (List.mem_of_getElem? (i := 8) rfl)), List.forall_mem_cons.mpr ⟨List.mem_cons_of_mem _ (List.mem_append_left _ (List.mem_of_getElem? (i := 3) rfl)), List.forall_mem_cons.mpr ⟨List.mem_cons_of_mem _ (List.mem_append_left _ (List.mem_of_getElem? (i := 9) rfl)), List.forall_mem_cons.mpr ⟨List.mem_cons_of_mem _ (List.mem_append_left _ (List.mem_of_getElem? (i := 10) rfl)), List.forall_mem_cons.mpr ⟨List.mem_cons_of_mem _ (List.mem_append_left _ (List.mem_of_getElem? (i := 11) rfl)), fun _ h => absurd h List.not_mem_nil⟩⟩⟩⟩⟩⟩⟩⟩⟩⟩⟩, tl_X7_shareOfHead_X7⟩⟩) (by decide +kernel)
set_option maxRecDepth 20000 in
theorem gX7_shareOfHead_X7_lastTold : GoodIn wsX7_shareOfHead (wsV RX7 52 RX7 yX7_lastTold wsX7_lastTold) := goodIn_app (goodIn_sub (List.forall_mem_cons.mpr ⟨List.mem_cons_of_mem _ (List.mem_append_left _ (List.mem_of_getElem? (i := 19) rfl)), List.forall_mem_cons.mpr ⟨List.mem_cons_of_mem _ (List.mem_append_left _ (List.mem_of_getElem? (i := 20) rfl)), List.forall_mem_cons.mpr ⟨List.mem_cons_of_mem _ (List.mem_append_left _ (List.mem_of_getElem? (i := 21) rfl)), List.forall_mem_cons.mpr ⟨List.mem_cons_of_mem _ (List.mem_append_left _ (List.mem_of_getElem? (i := 3) rfl)), fun _ h => absurd h List.not_mem_nil⟩⟩⟩⟩) (by decide +kernel)) ggX7_shareOfHead_X7_lastTold
theorem dX7_shareOfHead_0 : decode cX7_shareOfHead 0 = .ok (.iconst (-1), 1) := by decide +kernel
theorem dX7_shareOfHead_1 : decode cX7_shareOfHead 1 = .ok (.istore_n 3, 1) := by decide +kernel
theorem dX7_shareOfHead_2 : decode cX7_shareOfHead 2 = .ok (.aload_n 0, 1) := by decide +kernel
theorem dX7_shareOfHead_3 : decode cX7_shareOfHead 3 = .ok (.iload_n 1, 1) := by decide +kernel
theorem dX7_shareOfHead_4 : decode cX7_shareOfHead 4 = .ok (.iload_n 2, 1) := by decide +kernel
theorem dX7_shareOfHead_5 : decode cX7_shareOfHead 5 = .ok (.invokevirtual 49, 3) := by decide +kernel
theorem dX7_shareOfHead_8 : decode cX7_shareOfHead 8 = .ok (.ifCond .eq 11, 3) := by decide +kernel
theorem dX7_shareOfHead_11 : decode cX7_shareOfHead 11 = .ok (.aload_n 0, 1) := by decide +kernel
theorem dX7_shareOfHead_12 : decode cX7_shareOfHead 12 = .ok (.iload_n 1, 1) := by decide +kernel
theorem dX7_shareOfHead_13 : decode cX7_shareOfHead 13 = .ok (.iconst 3, 1) := by decide +kernel
theorem dX7_shareOfHead_14 : decode cX7_shareOfHead 14 = .ok (.iconst 0, 1) := by decide +kernel
theorem dX7_shareOfHead_15 : decode cX7_shareOfHead 15 = .ok (.invokevirtual 52, 3) := by decide +kernel
theorem dX7_shareOfHead_18 : decode cX7_shareOfHead 18 = .ok (.istore_n 3, 1) := by decide +kernel
theorem dX7_shareOfHead_19 : decode cX7_shareOfHead 19 = .ok (.iload_n 3, 1) := by decide +kernel
theorem dX7_shareOfHead_20 : decode cX7_shareOfHead 20 = .ok (.iconst (-1), 1) := by decide +kernel
theorem dX7_shareOfHead_21 : decode cX7_shareOfHead 21 = .ok (.if_icmp .ne 15, 3) := by decide +kernel
theorem dX7_shareOfHead_24 : decode cX7_shareOfHead 24 = .ok (.iload_n 2, 1) := by decide +kernel
theorem dX7_shareOfHead_25 : decode cX7_shareOfHead 25 = .ok (.ifCond .le 11, 3) := by decide +kernel
theorem dX7_shareOfHead_28 : decode cX7_shareOfHead 28 = .ok (.aload_n 0, 1) := by decide +kernel
theorem dX7_shareOfHead_29 : decode cX7_shareOfHead 29 = .ok (.iload_n 1, 1) := by decide +kernel
theorem dX7_shareOfHead_30 : decode cX7_shareOfHead 30 = .ok (.iconst 4, 1) := by decide +kernel
theorem dX7_shareOfHead_31 : decode cX7_shareOfHead 31 = .ok (.iload_n 2, 1) := by decide +kernel
theorem dX7_shareOfHead_32 : decode cX7_shareOfHead 32 = .ok (.invokevirtual 52, 3) := by decide +kernel
theorem dX7_shareOfHead_35 : decode cX7_shareOfHead 35 = .ok (.istore_n 3, 1) := by decide +kernel
theorem dX7_shareOfHead_36 : decode cX7_shareOfHead 36 = .ok (.iload_n 3, 1) := by decide +kernel
theorem dX7_shareOfHead_37 : decode cX7_shareOfHead 37 = .ok (.iconst (-1), 1) := by decide +kernel
theorem dX7_shareOfHead_38 : decode cX7_shareOfHead 38 = .ok (.if_icmp .ne 12, 3) := by decide +kernel
theorem dX7_shareOfHead_41 : decode cX7_shareOfHead 41 = .ok (.aload_n 0, 1) := by decide +kernel
theorem dX7_shareOfHead_42 : decode cX7_shareOfHead 42 = .ok (.iload_n 1, 1) := by decide +kernel
theorem dX7_shareOfHead_43 : decode cX7_shareOfHead 43 = .ok (.bipush 6, 2) := by decide +kernel
theorem dX7_shareOfHead_45 : decode cX7_shareOfHead 45 = .ok (.iconst 0, 1) := by decide +kernel
theorem dX7_shareOfHead_46 : decode cX7_shareOfHead 46 = .ok (.invokevirtual 52, 3) := by decide +kernel
theorem dX7_shareOfHead_49 : decode cX7_shareOfHead 49 = .ok (.istore_n 3, 1) := by decide +kernel
theorem dX7_shareOfHead_50 : decode cX7_shareOfHead 50 = .ok (.iload_n 3, 1) := by decide +kernel
theorem dX7_shareOfHead_51 : decode cX7_shareOfHead 51 = .ok (.iconst (-1), 1) := by decide +kernel
theorem dX7_shareOfHead_52 : decode cX7_shareOfHead 52 = .ok (.if_icmp .ne 7, 3) := by decide +kernel
theorem dX7_shareOfHead_55 : decode cX7_shareOfHead 55 = .ok (.iconst 2, 1) := by decide +kernel
theorem dX7_shareOfHead_56 : decode cX7_shareOfHead 56 = .ok (.goto 4, 3) := by decide +kernel
theorem dX7_shareOfHead_59 : decode cX7_shareOfHead 59 = .ok (.iload_n 3, 1) := by decide +kernel
theorem dX7_shareOfHead_60 : decode cX7_shareOfHead 60 = .ok (.ireturn, 1) := by decide +kernel
set_option maxRecDepth 20000 in
theorem ggX7_shareOfGuest_X7_lastTold : GoodIn wsX7_shareOfGuest wsX7_lastTold := goodIn_sub (List.forall_mem_cons.mpr ⟨List.mem_cons_of_mem _ (List.mem_append_left _ (List.mem_of_getElem? (i := 4) rfl)), List.forall_mem_append.mpr ⟨List.forall_mem_cons.mpr ⟨List.mem_cons_of_mem _ (List.mem_append_left _ (List.mem_of_getElem? (i := 5) rfl)), List.forall_mem_cons.mpr ⟨List.mem_cons_of_mem _ (List.mem_append_left _ (List.mem_of_getElem? (i := 6) rfl)), List.forall_mem_cons.mpr ⟨List.mem_cons_of_mem _ (List.mem_append_left _ (List.mem_of_getElem? (i := 7) rfl)), List.forall_mem_cons.mpr ⟨List.mem_cons_of_mem _ (List.mem_append_left _ (List.mem_of_getElem? (i := 8) rfl)), List.forall_mem_cons.mpr ⟨List.mem_cons_of_mem _ (List.mem_append_left _ (List.mem_of_getElem? (i := 9) rfl)), List.forall_mem_cons.mpr ⟨List.mem_cons_of_mem _ (List.mem_append_left _ (List.mem_of_getElem? (i := 10) rfl)), List.forall_mem_cons.mpr ⟨List.mem_cons_of_mem _ (List.mem_append_left _ (List.mem_of_getElem? (i := 11) rfl)), List.forall_mem_cons.mpr ⟨List.mem_cons_of_mem _ (List.mem_append_left _ (List.mem_of_getElem? (i := 3) rfl)), List.forall_mem_cons.mpr ⟨List.mem_cons_of_mem _ (List.mem_append_left _ (List.mem_of_getElem? (i := 12) rfl)), List.forall_mem_cons.mpr ⟨List.mem_cons_of_mem _ (List.mem_append_left _ (List.mem_of_getElem? (i := 13) rfl)), List.forall_mem_cons.mpr ⟨List.mem_cons_of_mem _ (List.mem_append_left _ (List.mem_of_getElem? (i := 14) rfl)), fun _ h => absurd h List.not_mem_nil⟩⟩⟩⟩⟩⟩⟩⟩⟩⟩⟩, tl_X7_shareOfGuest_X7⟩⟩) (by decide +kernel)
set_option maxRecDepth 20000 in
theorem gX7_shareOfGuest_X7_lastTold : GoodIn wsX7_shareOfGuest (wsV RX7 52 RX7 yX7_lastTold wsX7_lastTold) := goodIn_app (goodIn_sub (List.forall_mem_cons.mpr ⟨List.mem_cons_of_mem _ (List.mem_append_left _ (List.mem_of_getElem? (i := 0) rfl)), List.forall_mem_cons.mpr ⟨List.mem_cons_of_mem _ (List.mem_append_left _ (List.mem_of_getElem? (i := 1) rfl)), List.forall_mem_cons.mpr ⟨List.mem_cons_of_mem _ (List.mem_append_left _ (List.mem_of_getElem? (i := 2) rfl)), List.forall_mem_cons.mpr ⟨List.mem_cons_of_mem _ (List.mem_append_left _ (List.mem_of_getElem? (i := 3) rfl)), fun _ h => absurd h List.not_mem_nil⟩⟩⟩⟩) (by decide +kernel)) ggX7_shareOfGuest_X7_lastTold
theorem dX7_shareOfGuest_0 : decode cX7_shareOfGuest 0 = .ok (.aload_n 0, 1) := by decide +kernel
theorem dX7_shareOfGuest_1 : decode cX7_shareOfGuest 1 = .ok (.iload_n 1, 1) := by decide +kernel
theorem dX7_shareOfGuest_2 : decode cX7_shareOfGuest 2 = .ok (.iconst 5, 1) := by decide +kernel
theorem dX7_shareOfGuest_3 : decode cX7_shareOfGuest 3 = .ok (.iconst 0, 1) := by decide +kernel
theorem dX7_shareOfGuest_4 : decode cX7_shareOfGuest 4 = .ok (.invokevirtual 52, 3) := by decide +kernel
theorem dX7_shareOfGuest_7 : decode cX7_shareOfGuest 7 = .ok (.istore_n 2, 1) := by decide +kernel
theorem dX7_shareOfGuest_8 : decode cX7_shareOfGuest 8 = .ok (.iload_n 2, 1) := by decide +kernel
theorem dX7_shareOfGuest_9 : decode cX7_shareOfGuest 9 = .ok (.iconst (-1), 1) := by decide +kernel
theorem dX7_shareOfGuest_10 : decode cX7_shareOfGuest 10 = .ok (.if_icmp .ne 7, 3) := by decide +kernel
theorem dX7_shareOfGuest_13 : decode cX7_shareOfGuest 13 = .ok (.iconst 3, 1) := by decide +kernel
theorem dX7_shareOfGuest_14 : decode cX7_shareOfGuest 14 = .ok (.goto 4, 3) := by decide +kernel
theorem dX7_shareOfGuest_17 : decode cX7_shareOfGuest 17 = .ok (.iload_n 2, 1) := by decide +kernel
theorem dX7_shareOfGuest_18 : decode cX7_shareOfGuest 18 = .ok (.ireturn, 1) := by decide +kernel
theorem dX7_tellsFast_0 : decode cX7_tellsFast 0 = .ok (.iload_n 2, 1) := by decide +kernel
theorem dX7_tellsFast_1 : decode cX7_tellsFast 1 = .ok (.sipush 365, 3) := by decide +kernel
theorem dX7_tellsFast_4 : decode cX7_tellsFast 4 = .ok (.irem, 1) := by decide +kernel
theorem dX7_tellsFast_5 : decode cX7_tellsFast 5 = .ok (.istore_n 3, 1) := by decide +kernel
theorem dX7_tellsFast_6 : decode cX7_tellsFast 6 = .ok (.aload_n 0, 1) := by decide +kernel
theorem dX7_tellsFast_7 : decode cX7_tellsFast 7 = .ok (.getfield 20, 3) := by decide +kernel
theorem dX7_tellsFast_10 : decode cX7_tellsFast 10 = .ok (.iload_n 1, 1) := by decide +kernel
theorem dX7_tellsFast_11 : decode cX7_tellsFast 11 = .ok (.iaload, 1) := by decide +kernel
theorem dX7_tellsFast_12 : decode cX7_tellsFast 12 = .ok (.iconst 1, 1) := by decide +kernel
theorem dX7_tellsFast_13 : decode cX7_tellsFast 13 = .ok (.if_icmp .ne 22, 3) := by decide +kernel
theorem dX7_tellsFast_16 : decode cX7_tellsFast 16 = .ok (.aload_n 0, 1) := by decide +kernel
theorem dX7_tellsFast_17 : decode cX7_tellsFast 17 = .ok (.getfield 23, 3) := by decide +kernel
theorem dX7_tellsFast_20 : decode cX7_tellsFast 20 = .ok (.iload_n 1, 1) := by decide +kernel
theorem dX7_tellsFast_21 : decode cX7_tellsFast 21 = .ok (.iaload, 1) := by decide +kernel
theorem dX7_tellsFast_22 : decode cX7_tellsFast 22 = .ok (.iload_n 2, 1) := by decide +kernel
theorem dX7_tellsFast_23 : decode cX7_tellsFast 23 = .ok (.bipush 7, 2) := by decide +kernel
theorem dX7_tellsFast_25 : decode cX7_tellsFast 25 = .ok (.irem, 1) := by decide +kernel
theorem dX7_tellsFast_26 : decode cX7_tellsFast 26 = .ok (.if_icmp .ne 7, 3) := by decide +kernel
theorem dX7_tellsFast_29 : decode cX7_tellsFast 29 = .ok (.iconst 1, 1) := by decide +kernel
theorem dX7_tellsFast_30 : decode cX7_tellsFast 30 = .ok (.goto 4, 3) := by decide +kernel
theorem dX7_tellsFast_33 : decode cX7_tellsFast 33 = .ok (.iconst 0, 1) := by decide +kernel
theorem dX7_tellsFast_34 : decode cX7_tellsFast 34 = .ok (.ireturn, 1) := by decide +kernel
theorem dX7_tellsFast_35 : decode cX7_tellsFast 35 = .ok (.aload_n 0, 1) := by decide +kernel
theorem dX7_tellsFast_36 : decode cX7_tellsFast 36 = .ok (.getfield 20, 3) := by decide +kernel
theorem dX7_tellsFast_39 : decode cX7_tellsFast 39 = .ok (.iload_n 1, 1) := by decide +kernel
theorem dX7_tellsFast_40 : decode cX7_tellsFast 40 = .ok (.iaload, 1) := by decide +kernel
theorem dX7_tellsFast_41 : decode cX7_tellsFast 41 = .ok (.iconst 2, 1) := by decide +kernel
theorem dX7_tellsFast_42 : decode cX7_tellsFast 42 = .ok (.if_icmp .eq 5, 3) := by decide +kernel
theorem dX7_tellsFast_45 : decode cX7_tellsFast 45 = .ok (.iconst 0, 1) := by decide +kernel
theorem dX7_tellsFast_46 : decode cX7_tellsFast 46 = .ok (.ireturn, 1) := by decide +kernel
theorem dX7_tellsFast_47 : decode cX7_tellsFast 47 = .ok (.iload_n 3, 1) := by decide +kernel
theorem dX7_tellsFast_48 : decode cX7_tellsFast 48 = .ok (.aload_n 0, 1) := by decide +kernel
theorem dX7_tellsFast_49 : decode cX7_tellsFast 49 = .ok (.getfield 23, 3) := by decide +kernel
theorem dX7_tellsFast_52 : decode cX7_tellsFast 52 = .ok (.iload_n 1, 1) := by decide +kernel
theorem dX7_tellsFast_53 : decode cX7_tellsFast 53 = .ok (.iaload, 1) := by decide +kernel
theorem dX7_tellsFast_54 : decode cX7_tellsFast 54 = .ok (.if_icmp .lt 7, 3) := by decide +kernel
theorem dX7_tellsFast_57 : decode cX7_tellsFast 57 = .ok (.iconst 1, 1) := by decide +kernel
theorem dX7_tellsFast_58 : decode cX7_tellsFast 58 = .ok (.goto 4, 3) := by decide +kernel
theorem dX7_tellsFast_61 : decode cX7_tellsFast 61 = .ok (.iconst 0, 1) := by decide +kernel
theorem dX7_tellsFast_62 : decode cX7_tellsFast 62 = .ok (.istore 4, 2) := by decide +kernel
theorem dX7_tellsFast_64 : decode cX7_tellsFast 64 = .ok (.iload_n 3, 1) := by decide +kernel
theorem dX7_tellsFast_65 : decode cX7_tellsFast 65 = .ok (.aload_n 0, 1) := by decide +kernel
theorem dX7_tellsFast_66 : decode cX7_tellsFast 66 = .ok (.getfield 26, 3) := by decide +kernel
theorem dX7_tellsFast_69 : decode cX7_tellsFast 69 = .ok (.iload_n 1, 1) := by decide +kernel
theorem dX7_tellsFast_70 : decode cX7_tellsFast 70 = .ok (.iaload, 1) := by decide +kernel
theorem dX7_tellsFast_71 : decode cX7_tellsFast 71 = .ok (.if_icmp .gt 7, 3) := by decide +kernel
theorem dX7_tellsFast_74 : decode cX7_tellsFast 74 = .ok (.iconst 1, 1) := by decide +kernel
theorem dX7_tellsFast_75 : decode cX7_tellsFast 75 = .ok (.goto 4, 3) := by decide +kernel
theorem dX7_tellsFast_78 : decode cX7_tellsFast 78 = .ok (.iconst 0, 1) := by decide +kernel
theorem dX7_tellsFast_79 : decode cX7_tellsFast 79 = .ok (.istore 5, 2) := by decide +kernel
theorem dX7_tellsFast_81 : decode cX7_tellsFast 81 = .ok (.aload_n 0, 1) := by decide +kernel
theorem dX7_tellsFast_82 : decode cX7_tellsFast 82 = .ok (.getfield 26, 3) := by decide +kernel
theorem dX7_tellsFast_85 : decode cX7_tellsFast 85 = .ok (.iload_n 1, 1) := by decide +kernel
theorem dX7_tellsFast_86 : decode cX7_tellsFast 86 = .ok (.iaload, 1) := by decide +kernel
theorem dX7_tellsFast_87 : decode cX7_tellsFast 87 = .ok (.aload_n 0, 1) := by decide +kernel
theorem dX7_tellsFast_88 : decode cX7_tellsFast 88 = .ok (.getfield 23, 3) := by decide +kernel
theorem dX7_tellsFast_91 : decode cX7_tellsFast 91 = .ok (.iload_n 1, 1) := by decide +kernel
theorem dX7_tellsFast_92 : decode cX7_tellsFast 92 = .ok (.iaload, 1) := by decide +kernel
theorem dX7_tellsFast_93 : decode cX7_tellsFast 93 = .ok (.if_icmp .ge 21, 3) := by decide +kernel
theorem dX7_tellsFast_96 : decode cX7_tellsFast 96 = .ok (.iload 4, 2) := by decide +kernel
theorem dX7_tellsFast_98 : decode cX7_tellsFast 98 = .ok (.ifCond .ne 8, 3) := by decide +kernel
theorem dX7_tellsFast_101 : decode cX7_tellsFast 101 = .ok (.iload 5, 2) := by decide +kernel
theorem dX7_tellsFast_103 : decode cX7_tellsFast 103 = .ok (.ifCond .eq 7, 3) := by decide +kernel
theorem dX7_tellsFast_106 : decode cX7_tellsFast 106 = .ok (.iconst 1, 1) := by decide +kernel
theorem dX7_tellsFast_107 : decode cX7_tellsFast 107 = .ok (.goto 22, 3) := by decide +kernel
theorem dX7_tellsFast_110 : decode cX7_tellsFast 110 = .ok (.iconst 0, 1) := by decide +kernel
theorem dX7_tellsFast_111 : decode cX7_tellsFast 111 = .ok (.goto 18, 3) := by decide +kernel
theorem dX7_tellsFast_114 : decode cX7_tellsFast 114 = .ok (.iload 4, 2) := by decide +kernel
theorem dX7_tellsFast_116 : decode cX7_tellsFast 116 = .ok (.ifCond .eq 12, 3) := by decide +kernel
theorem dX7_tellsFast_119 : decode cX7_tellsFast 119 = .ok (.iload 5, 2) := by decide +kernel
theorem dX7_tellsFast_121 : decode cX7_tellsFast 121 = .ok (.ifCond .eq 7, 3) := by decide +kernel
theorem dX7_tellsFast_124 : decode cX7_tellsFast 124 = .ok (.iconst 1, 1) := by decide +kernel
theorem dX7_tellsFast_125 : decode cX7_tellsFast 125 = .ok (.goto 4, 3) := by decide +kernel
theorem dX7_tellsFast_128 : decode cX7_tellsFast 128 = .ok (.iconst 0, 1) := by decide +kernel
theorem dX7_tellsFast_129 : decode cX7_tellsFast 129 = .ok (.ireturn, 1) := by decide +kernel
set_option maxRecDepth 20000 in
theorem ggX7_lastTold_X7_inForce : GoodIn wsX7_lastTold wsX7_inForce := goodIn_sub (List.forall_mem_cons.mpr ⟨List.mem_cons_of_mem _ (List.mem_append_left _ (List.mem_of_getElem? (i := 8) rfl)), List.forall_mem_append.mpr ⟨List.forall_mem_cons.mpr ⟨List.mem_cons_of_mem _ (List.mem_append_left _ (List.mem_of_getElem? (i := 9) rfl)), List.forall_mem_cons.mpr ⟨List.mem_cons_of_mem _ (List.mem_append_left _ (List.mem_of_getElem? (i := 10) rfl)), fun _ h => absurd h List.not_mem_nil⟩⟩, tl_X7_lastTold_X7⟩⟩) (by decide +kernel)
set_option maxRecDepth 20000 in
theorem gX7_lastTold_X7_inForce : GoodIn wsX7_lastTold (wsV RX7 41 RX7 yX7_inForce wsX7_inForce) := goodIn_app (goodIn_sub (List.forall_mem_cons.mpr ⟨List.mem_cons_of_mem _ (List.mem_append_left _ (List.mem_of_getElem? (i := 4) rfl)), List.forall_mem_cons.mpr ⟨List.mem_cons_of_mem _ (List.mem_append_left _ (List.mem_of_getElem? (i := 5) rfl)), List.forall_mem_cons.mpr ⟨List.mem_cons_of_mem _ (List.mem_append_left _ (List.mem_of_getElem? (i := 6) rfl)), List.forall_mem_cons.mpr ⟨List.mem_cons_of_mem _ (List.mem_append_left _ (List.mem_of_getElem? (i := 7) rfl)), fun _ h => absurd h List.not_mem_nil⟩⟩⟩⟩) (by decide +kernel)) ggX7_lastTold_X7_inForce
theorem dX7_lastTold_0 : decode cX7_lastTold 0 = .ok (.aload_n 0, 1) := by decide +kernel
theorem dX7_lastTold_1 : decode cX7_lastTold 1 = .ok (.iload_n 1, 1) := by decide +kernel
theorem dX7_lastTold_2 : decode cX7_lastTold 2 = .ok (.invokevirtual 41, 3) := by decide +kernel
theorem dX7_lastTold_5 : decode cX7_lastTold 5 = .ok (.istore 4, 2) := by decide +kernel
theorem dX7_lastTold_7 : decode cX7_lastTold 7 = .ok (.iload 4, 2) := by decide +kernel
theorem dX7_lastTold_9 : decode cX7_lastTold 9 = .ok (.iconst (-1), 1) := by decide +kernel
theorem dX7_lastTold_10 : decode cX7_lastTold 10 = .ok (.if_icmp .ne 5, 3) := by decide +kernel
theorem dX7_lastTold_13 : decode cX7_lastTold 13 = .ok (.iconst (-1), 1) := by decide +kernel
theorem dX7_lastTold_14 : decode cX7_lastTold 14 = .ok (.ireturn, 1) := by decide +kernel
theorem dX7_lastTold_15 : decode cX7_lastTold 15 = .ok (.iload 4, 2) := by decide +kernel
theorem dX7_lastTold_17 : decode cX7_lastTold 17 = .ok (.bipush 16, 2) := by decide +kernel
theorem dX7_lastTold_19 : decode cX7_lastTold 19 = .ok (.imul, 1) := by decide +kernel
theorem dX7_lastTold_20 : decode cX7_lastTold 20 = .ok (.aload_n 0, 1) := by decide +kernel
theorem dX7_lastTold_21 : decode cX7_lastTold 21 = .ok (.getfield 17, 3) := by decide +kernel
theorem dX7_lastTold_24 : decode cX7_lastTold 24 = .ok (.iload 4, 2) := by decide +kernel
theorem dX7_lastTold_26 : decode cX7_lastTold 26 = .ok (.iaload, 1) := by decide +kernel
theorem dX7_lastTold_27 : decode cX7_lastTold 27 = .ok (.iadd, 1) := by decide +kernel
theorem dX7_lastTold_28 : decode cX7_lastTold 28 = .ok (.iconst 1, 1) := by decide +kernel
theorem dX7_lastTold_29 : decode cX7_lastTold 29 = .ok (.isub, 1) := by decide +kernel
theorem dX7_lastTold_30 : decode cX7_lastTold 30 = .ok (.istore 5, 2) := by decide +kernel
theorem dX7_lastTold_32 : decode cX7_lastTold 32 = .ok (.iload 5, 2) := by decide +kernel
theorem dX7_lastTold_34 : decode cX7_lastTold 34 = .ok (.iload 4, 2) := by decide +kernel
theorem dX7_lastTold_36 : decode cX7_lastTold 36 = .ok (.bipush 16, 2) := by decide +kernel
theorem dX7_lastTold_38 : decode cX7_lastTold 38 = .ok (.imul, 1) := by decide +kernel
theorem dX7_lastTold_39 : decode cX7_lastTold 39 = .ok (.if_icmp .lt 39, 3) := by decide +kernel
theorem dX7_lastTold_42 : decode cX7_lastTold 42 = .ok (.aload_n 0, 1) := by decide +kernel
theorem dX7_lastTold_43 : decode cX7_lastTold 43 = .ok (.getfield 20, 3) := by decide +kernel
theorem dX7_lastTold_46 : decode cX7_lastTold 46 = .ok (.iload 5, 2) := by decide +kernel
theorem dX7_lastTold_48 : decode cX7_lastTold 48 = .ok (.iaload, 1) := by decide +kernel
theorem dX7_lastTold_49 : decode cX7_lastTold 49 = .ok (.iload_n 2, 1) := by decide +kernel
theorem dX7_lastTold_50 : decode cX7_lastTold 50 = .ok (.if_icmp .ne 22, 3) := by decide +kernel
theorem dX7_lastTold_53 : decode cX7_lastTold 53 = .ok (.aload_n 0, 1) := by decide +kernel
theorem dX7_lastTold_54 : decode cX7_lastTold 54 = .ok (.getfield 23, 3) := by decide +kernel
theorem dX7_lastTold_57 : decode cX7_lastTold 57 = .ok (.iload 5, 2) := by decide +kernel
theorem dX7_lastTold_59 : decode cX7_lastTold 59 = .ok (.iaload, 1) := by decide +kernel
theorem dX7_lastTold_60 : decode cX7_lastTold 60 = .ok (.iload_n 3, 1) := by decide +kernel
theorem dX7_lastTold_61 : decode cX7_lastTold 61 = .ok (.if_icmp .ne 11, 3) := by decide +kernel
theorem dX7_lastTold_64 : decode cX7_lastTold 64 = .ok (.aload_n 0, 1) := by decide +kernel
theorem dX7_lastTold_65 : decode cX7_lastTold 65 = .ok (.getfield 26, 3) := by decide +kernel
theorem dX7_lastTold_68 : decode cX7_lastTold 68 = .ok (.iload 5, 2) := by decide +kernel
theorem dX7_lastTold_70 : decode cX7_lastTold 70 = .ok (.iaload, 1) := by decide +kernel
theorem dX7_lastTold_71 : decode cX7_lastTold 71 = .ok (.ireturn, 1) := by decide +kernel
theorem dX7_lastTold_72 : decode cX7_lastTold 72 = .ok (.iinc 5 (-1), 3) := by decide +kernel
theorem dX7_lastTold_75 : decode cX7_lastTold 75 = .ok (.goto (-43), 3) := by decide +kernel
theorem dX7_lastTold_78 : decode cX7_lastTold 78 = .ok (.iconst (-1), 1) := by decide +kernel
theorem dX7_lastTold_79 : decode cX7_lastTold 79 = .ok (.ireturn, 1) := by decide +kernel
theorem dX8_minutes_0 : decode cX8_minutes 0 = .ok (.iload_n 0, 1) := by decide +kernel
theorem dX8_minutes_1 : decode cX8_minutes 1 = .ok (.sipush 355, 3) := by decide +kernel
theorem dX8_minutes_4 : decode cX8_minutes 4 = .ok (.if_icmp .lt 11, 3) := by decide +kernel
theorem dX8_minutes_7 : decode cX8_minutes 7 = .ok (.iload_n 0, 1) := by decide +kernel
theorem dX8_minutes_8 : decode cX8_minutes 8 = .ok (.sipush 355, 3) := by decide +kernel
theorem dX8_minutes_11 : decode cX8_minutes 11 = .ok (.isub, 1) := by decide +kernel
theorem dX8_minutes_12 : decode cX8_minutes 12 = .ok (.goto 12, 3) := by decide +kernel
theorem dX8_minutes_15 : decode cX8_minutes 15 = .ok (.iload_n 0, 1) := by decide +kernel
theorem dX8_minutes_16 : decode cX8_minutes 16 = .ok (.sipush 365, 3) := by decide +kernel
theorem dX8_minutes_19 : decode cX8_minutes 19 = .ok (.iadd, 1) := by decide +kernel
theorem dX8_minutes_20 : decode cX8_minutes 20 = .ok (.sipush 355, 3) := by decide +kernel
theorem dX8_minutes_23 : decode cX8_minutes 23 = .ok (.isub, 1) := by decide +kernel
theorem dX8_minutes_24 : decode cX8_minutes 24 = .ok (.istore_n 1, 1) := by decide +kernel
theorem dX8_minutes_25 : decode cX8_minutes 25 = .ok (.iload_n 1, 1) := by decide +kernel
theorem dX8_minutes_26 : decode cX8_minutes 26 = .ok (.sipush 182, 3) := by decide +kernel
theorem dX8_minutes_29 : decode cX8_minutes 29 = .ok (.if_icmp .gt 17, 3) := by decide +kernel
theorem dX8_minutes_32 : decode cX8_minutes 32 = .ok (.sipush 480, 3) := by decide +kernel
theorem dX8_minutes_35 : decode cX8_minutes 35 = .ok (.sipush 480, 3) := by decide +kernel
theorem dX8_minutes_38 : decode cX8_minutes 38 = .ok (.iload_n 1, 1) := by decide +kernel
theorem dX8_minutes_39 : decode cX8_minutes 39 = .ok (.imul, 1) := by decide +kernel
theorem dX8_minutes_40 : decode cX8_minutes 40 = .ok (.sipush 182, 3) := by decide +kernel
theorem dX8_minutes_43 : decode cX8_minutes 43 = .ok (.idiv, 1) := by decide +kernel
theorem dX8_minutes_44 : decode cX8_minutes 44 = .ok (.iadd, 1) := by decide +kernel
theorem dX8_minutes_45 : decode cX8_minutes 45 = .ok (.ireturn, 1) := by decide +kernel
theorem dX8_minutes_46 : decode cX8_minutes 46 = .ok (.sipush 960, 3) := by decide +kernel
theorem dX8_minutes_49 : decode cX8_minutes 49 = .ok (.sipush 480, 3) := by decide +kernel
theorem dX8_minutes_52 : decode cX8_minutes 52 = .ok (.iload_n 1, 1) := by decide +kernel
theorem dX8_minutes_53 : decode cX8_minutes 53 = .ok (.sipush 182, 3) := by decide +kernel
theorem dX8_minutes_56 : decode cX8_minutes 56 = .ok (.isub, 1) := by decide +kernel
theorem dX8_minutes_57 : decode cX8_minutes 57 = .ok (.imul, 1) := by decide +kernel
theorem dX8_minutes_58 : decode cX8_minutes 58 = .ok (.sipush 183, 3) := by decide +kernel
theorem dX8_minutes_61 : decode cX8_minutes 61 = .ok (.idiv, 1) := by decide +kernel
theorem dX8_minutes_62 : decode cX8_minutes 62 = .ok (.isub, 1) := by decide +kernel
theorem dX8_minutes_63 : decode cX8_minutes 63 = .ok (.ireturn, 1) := by decide +kernel
set_option maxRecDepth 20000 in
theorem ggX8_rise_X8_minutes : GoodIn wsX8_rise wsX8_minutes := goodIn_sub (List.forall_mem_cons.mpr ⟨List.mem_cons_of_mem _ (List.mem_of_getElem? (i := 3) rfl), fun _ h => absurd h List.not_mem_nil⟩) (by decide +kernel)
set_option maxRecDepth 20000 in
theorem gX8_rise_X8_minutes : GoodIn wsX8_rise (va_wsS RX8 11 yX8_minutes wsX8_minutes) := goodIn_app (goodIn_sub (List.forall_mem_cons.mpr ⟨List.mem_cons_of_mem _ (List.mem_of_getElem? (i := 0) rfl), List.forall_mem_cons.mpr ⟨List.mem_cons_of_mem _ (List.mem_of_getElem? (i := 1) rfl), List.forall_mem_cons.mpr ⟨List.mem_cons_of_mem _ (List.mem_of_getElem? (i := 2) rfl), fun _ h => absurd h List.not_mem_nil⟩⟩⟩) (by decide +kernel)) ggX8_rise_X8_minutes
theorem dX8_rise_0 : decode cX8_rise 0 = .ok (.sipush 720, 3) := by decide +kernel
theorem dX8_rise_3 : decode cX8_rise 3 = .ok (.iload_n 0, 1) := by decide +kernel
theorem dX8_rise_4 : decode cX8_rise 4 = .ok (.invokestatic 11, 3) := by decide +kernel
theorem dX8_rise_7 : decode cX8_rise 7 = .ok (.iconst 2, 1) := by decide +kernel
theorem dX8_rise_8 : decode cX8_rise 8 = .ok (.idiv, 1) := by decide +kernel
theorem dX8_rise_9 : decode cX8_rise 9 = .ok (.isub, 1) := by decide +kernel
theorem dX8_rise_10 : decode cX8_rise 10 = .ok (.ireturn, 1) := by decide +kernel
set_option maxRecDepth 20000 in
theorem ggX8_setting_X8_rise : GoodIn wsX8_setting wsX8_rise := goodIn_sub (List.forall_mem_cons.mpr ⟨List.mem_cons_of_mem _ (List.mem_of_getElem? (i := 3) rfl), List.forall_mem_cons.mpr ⟨List.mem_cons_of_mem _ (List.mem_of_getElem? (i := 4) rfl), List.forall_mem_cons.mpr ⟨List.mem_cons_of_mem _ (List.mem_of_getElem? (i := 5) rfl), List.forall_mem_cons.mpr ⟨List.mem_cons_of_mem _ (List.mem_of_getElem? (i := 2) rfl), List.forall_mem_cons.mpr ⟨List.mem_cons_of_mem _ (List.mem_of_getElem? (i := 6) rfl), fun _ h => absurd h List.not_mem_nil⟩⟩⟩⟩⟩) (by decide +kernel)
set_option maxRecDepth 20000 in
theorem gX8_setting_X8_rise : GoodIn wsX8_setting (va_wsS RX8 15 yX8_rise wsX8_rise) := goodIn_app (goodIn_sub (List.forall_mem_cons.mpr ⟨List.mem_cons_of_mem _ (List.mem_of_getElem? (i := 0) rfl), List.forall_mem_cons.mpr ⟨List.mem_cons_of_mem _ (List.mem_of_getElem? (i := 1) rfl), List.forall_mem_cons.mpr ⟨List.mem_cons_of_mem _ (List.mem_of_getElem? (i := 2) rfl), fun _ h => absurd h List.not_mem_nil⟩⟩⟩) (by decide +kernel)) ggX8_setting_X8_rise
set_option maxRecDepth 20000 in
theorem ggX8_setting_X8_minutes : GoodIn wsX8_setting wsX8_minutes := goodIn_sub (List.forall_mem_cons.mpr ⟨List.mem_cons_of_mem _ (List.mem_of_getElem? (i := 6) rfl), fun _ h => absurd h List.not_mem_nil⟩) (by decide +kernel)
set_option maxRecDepth 20000 in
theorem gX8_setting_X8_minutes : GoodIn wsX8_setting (va_wsS RX8 11 yX8_minutes wsX8_minutes) := goodIn_app (goodIn_sub (List.forall_mem_cons.mpr ⟨List.mem_cons_of_mem _ (List.mem_of_getElem? (i := 4) rfl), List.forall_mem_cons.mpr ⟨List.mem_cons_of_mem _ (List.mem_of_getElem? (i := 5) rfl), List.forall_mem_cons.mpr ⟨List.mem_cons_of_mem _ (List.mem_of_getElem? (i := 2) rfl), fun _ h => absurd h List.not_mem_nil⟩⟩⟩) (by decide +kernel)) ggX8_setting_X8_minutes
theorem dX8_setting_0 : decode cX8_setting 0 = .ok (.iload_n 0, 1) := by decide +kernel
theorem dX8_setting_1 : decode cX8_setting 1 = .ok (.invokestatic 15, 3) := by decide +kernel
theorem dX8_setting_4 : decode cX8_setting 4 = .ok (.iload_n 0, 1) := by decide +kernel
theorem dX8_setting_5 : decode cX8_setting 5 = .ok (.invokestatic 11, 3) := by decide +kernel
theorem dX8_setting_8 : decode cX8_setting 8 = .ok (.iadd, 1) := by decide +kernel
theorem dX8_setting_9 : decode cX8_setting 9 = .ok (.ireturn, 1) := by decide +kernel
set_option maxRecDepth 20000 in
theorem ggX8_bell_X8_minutes : GoodIn wsX8_bell wsX8_minutes := goodIn_sub (List.forall_mem_cons.mpr ⟨List.mem_cons_of_mem _ (List.mem_of_getElem? (i := 3) rfl), fun _ h => absurd h List.not_mem_nil⟩) (by decide +kernel)
set_option maxRecDepth 20000 in
theorem gX8_bell_X8_minutes : GoodIn wsX8_bell (va_wsS RX8 11 yX8_minutes wsX8_minutes) := goodIn_app (goodIn_sub (List.forall_mem_cons.mpr ⟨List.mem_cons_of_mem _ (List.mem_of_getElem? (i := 0) rfl), List.forall_mem_cons.mpr ⟨List.mem_cons_of_mem _ (List.mem_of_getElem? (i := 1) rfl), List.forall_mem_cons.mpr ⟨List.mem_cons_of_mem _ (List.mem_of_getElem? (i := 2) rfl), fun _ h => absurd h List.not_mem_nil⟩⟩⟩) (by decide +kernel)) ggX8_bell_X8_minutes
set_option maxRecDepth 20000 in
theorem ggX8_bell_X8_rise : GoodIn wsX8_bell wsX8_rise := goodIn_sub (List.forall_mem_cons.mpr ⟨List.mem_cons_of_mem _ (List.mem_of_getElem? (i := 6) rfl), List.forall_mem_cons.mpr ⟨List.mem_cons_of_mem _ (List.mem_of_getElem? (i := 0) rfl), List.forall_mem_cons.mpr ⟨List.mem_cons_of_mem _ (List.mem_of_getElem? (i := 1) rfl), List.forall_mem_cons.mpr ⟨List.mem_cons_of_mem _ (List.mem_of_getElem? (i := 2) rfl), List.forall_mem_cons.mpr ⟨List.mem_cons_of_mem _ (List.mem_of_getElem? (i := 3) rfl), fun _ h => absurd h List.not_mem_nil⟩⟩⟩⟩⟩) (by decide +kernel)
set_option maxRecDepth 20000 in
theorem gX8_bell_X8_rise : GoodIn wsX8_bell (va_wsS RX8 15 yX8_rise wsX8_rise) := goodIn_app (goodIn_sub (List.forall_mem_cons.mpr ⟨List.mem_cons_of_mem _ (List.mem_of_getElem? (i := 4) rfl), List.forall_mem_cons.mpr ⟨List.mem_cons_of_mem _ (List.mem_of_getElem? (i := 5) rfl), List.forall_mem_cons.mpr ⟨List.mem_cons_of_mem _ (List.mem_of_getElem? (i := 2) rfl), fun _ h => absurd h List.not_mem_nil⟩⟩⟩) (by decide +kernel)) ggX8_bell_X8_rise
theorem dX8_bell_0 : decode cX8_bell 0 = .ok (.iload_n 0, 1) := by decide +kernel
theorem dX8_bell_1 : decode cX8_bell 1 = .ok (.invokestatic 11, 3) := by decide +kernel
theorem dX8_bell_4 : decode cX8_bell 4 = .ok (.istore_n 2, 1) := by decide +kernel
theorem dX8_bell_5 : decode cX8_bell 5 = .ok (.iload_n 0, 1) := by decide +kernel
theorem dX8_bell_6 : decode cX8_bell 6 = .ok (.invokestatic 15, 3) := by decide +kernel
theorem dX8_bell_9 : decode cX8_bell 9 = .ok (.istore_n 3, 1) := by decide +kernel
theorem dX8_bell_10 : decode cX8_bell 10 = .ok (.iload_n 3, 1) := by decide +kernel
theorem dX8_bell_11 : decode cX8_bell 11 = .ok (.iload_n 2, 1) := by decide +kernel
theorem dX8_bell_12 : decode cX8_bell 12 = .ok (.iadd, 1) := by decide +kernel
theorem dX8_bell_13 : decode cX8_bell 13 = .ok (.istore 4, 2) := by decide +kernel
theorem dX8_bell_15 : decode cX8_bell 15 = .ok (.iload_n 1, 1) := by decide +kernel
theorem dX8_bell_16 : decode cX8_bell 16 = .ok (.tableswitch 94 0 6 #[44, 48, 53, 55, 64, 74, 84], 44) := by decide +kernel
theorem dX8_bell_60 : decode cX8_bell 60 = .ok (.iload_n 3, 1) := by decide +kernel
theorem dX8_bell_61 : decode cX8_bell 61 = .ok (.iconst 3, 1) := by decide +kernel
theorem dX8_bell_62 : decode cX8_bell 62 = .ok (.idiv, 1) := by decide +kernel
theorem dX8_bell_63 : decode cX8_bell 63 = .ok (.ireturn, 1) := by decide +kernel
theorem dX8_bell_64 : decode cX8_bell 64 = .ok (.iload_n 3, 1) := by decide +kernel
theorem dX8_bell_65 : decode cX8_bell 65 = .ok (.bipush 60, 2) := by decide +kernel
theorem dX8_bell_67 : decode cX8_bell 67 = .ok (.isub, 1) := by decide +kernel
theorem dX8_bell_68 : decode cX8_bell 68 = .ok (.ireturn, 1) := by decide +kernel
theorem dX8_bell_69 : decode cX8_bell 69 = .ok (.iload_n 3, 1) := by decide +kernel
theorem dX8_bell_70 : decode cX8_bell 70 = .ok (.ireturn, 1) := by decide +kernel
theorem dX8_bell_71 : decode cX8_bell 71 = .ok (.iload_n 3, 1) := by decide +kernel
theorem dX8_bell_72 : decode cX8_bell 72 = .ok (.iload_n 2, 1) := by decide +kernel
theorem dX8_bell_73 : decode cX8_bell 73 = .ok (.iconst 3, 1) := by decide +kernel
theorem dX8_bell_74 : decode cX8_bell 74 = .ok (.imul, 1) := by decide +kernel
theorem dX8_bell_75 : decode cX8_bell 75 = .ok (.bipush 12, 2) := by decide +kernel
theorem dX8_bell_77 : decode cX8_bell 77 = .ok (.idiv, 1) := by decide +kernel
theorem dX8_bell_78 : decode cX8_bell 78 = .ok (.iadd, 1) := by decide +kernel
theorem dX8_bell_79 : decode cX8_bell 79 = .ok (.ireturn, 1) := by decide +kernel
theorem dX8_bell_80 : decode cX8_bell 80 = .ok (.iload_n 3, 1) := by decide +kernel
theorem dX8_bell_81 : decode cX8_bell 81 = .ok (.iload_n 2, 1) := by decide +kernel
theorem dX8_bell_82 : decode cX8_bell 82 = .ok (.bipush 6, 2) := by decide +kernel
theorem dX8_bell_84 : decode cX8_bell 84 = .ok (.imul, 1) := by decide +kernel
theorem dX8_bell_85 : decode cX8_bell 85 = .ok (.bipush 12, 2) := by decide +kernel
theorem dX8_bell_87 : decode cX8_bell 87 = .ok (.idiv, 1) := by decide +kernel
theorem dX8_bell_88 : decode cX8_bell 88 = .ok (.iadd, 1) := by decide +kernel
theorem dX8_bell_89 : decode cX8_bell 89 = .ok (.ireturn, 1) := by decide +kernel
theorem dX8_bell_90 : decode cX8_bell 90 = .ok (.iload_n 3, 1) := by decide +kernel
theorem dX8_bell_91 : decode cX8_bell 91 = .ok (.iload_n 2, 1) := by decide +kernel
theorem dX8_bell_92 : decode cX8_bell 92 = .ok (.bipush 9, 2) := by decide +kernel
theorem dX8_bell_94 : decode cX8_bell 94 = .ok (.imul, 1) := by decide +kernel
theorem dX8_bell_95 : decode cX8_bell 95 = .ok (.bipush 12, 2) := by decide +kernel
theorem dX8_bell_97 : decode cX8_bell 97 = .ok (.idiv, 1) := by decide +kernel
theorem dX8_bell_98 : decode cX8_bell 98 = .ok (.iadd, 1) := by decide +kernel
theorem dX8_bell_99 : decode cX8_bell 99 = .ok (.ireturn, 1) := by decide +kernel
theorem dX8_bell_100 : decode cX8_bell 100 = .ok (.iload_n 3, 1) := by decide +kernel
theorem dX8_bell_101 : decode cX8_bell 101 = .ok (.iload_n 2, 1) := by decide +kernel
theorem dX8_bell_102 : decode cX8_bell 102 = .ok (.bipush 11, 2) := by decide +kernel
theorem dX8_bell_104 : decode cX8_bell 104 = .ok (.imul, 1) := by decide +kernel
theorem dX8_bell_105 : decode cX8_bell 105 = .ok (.bipush 12, 2) := by decide +kernel
theorem dX8_bell_107 : decode cX8_bell 107 = .ok (.idiv, 1) := by decide +kernel
theorem dX8_bell_108 : decode cX8_bell 108 = .ok (.iadd, 1) := by decide +kernel
theorem dX8_bell_109 : decode cX8_bell 109 = .ok (.ireturn, 1) := by decide +kernel
theorem dX8_bell_110 : decode cX8_bell 110 = .ok (.iload 4, 2) := by decide +kernel
theorem dX8_bell_112 : decode cX8_bell 112 = .ok (.sipush 1440, 3) := by decide +kernel
theorem dX8_bell_115 : decode cX8_bell 115 = .ok (.iload 4, 2) := by decide +kernel
theorem dX8_bell_117 : decode cX8_bell 117 = .ok (.isub, 1) := by decide +kernel
theorem dX8_bell_118 : decode cX8_bell 118 = .ok (.iconst 3, 1) := by decide +kernel
theorem dX8_bell_119 : decode cX8_bell 119 = .ok (.idiv, 1) := by decide +kernel
theorem dX8_bell_120 : decode cX8_bell 120 = .ok (.iadd, 1) := by decide +kernel
theorem dX8_bell_121 : decode cX8_bell 121 = .ok (.ireturn, 1) := by decide +kernel
theorem dX9_init_0 : decode cX9_init 0 = .ok (.aload_n 0, 1) := by decide +kernel
theorem dX9_init_1 : decode cX9_init 1 = .ok (.invokespecial 1, 3) := by decide +kernel
theorem dX9_init_4 : decode cX9_init 4 = .ok (.aload_n 0, 1) := by decide +kernel
theorem dX9_init_5 : decode cX9_init 5 = .ok (.sipush 600, 3) := by decide +kernel
theorem dX9_init_8 : decode cX9_init 8 = .ok (.newarray .byte, 2) := by decide +kernel
theorem dX9_init_10 : decode cX9_init 10 = .ok (.putfield 9, 3) := by decide +kernel
theorem dX9_init_13 : decode cX9_init 13 = .ok (.return_, 1) := by decide +kernel
theorem dX9_length_0 : decode cX9_length 0 = .ok (.aload_n 0, 1) := by decide +kernel
theorem dX9_length_1 : decode cX9_length 1 = .ok (.getfield 13, 3) := by decide +kernel
theorem dX9_length_4 : decode cX9_length 4 = .ok (.ireturn, 1) := by decide +kernel
theorem dX9_hasRoomForFeed_0 : decode cX9_hasRoomForFeed 0 = .ok (.aload_n 0, 1) := by decide +kernel
theorem dX9_hasRoomForFeed_1 : decode cX9_hasRoomForFeed 1 = .ok (.getfield 13, 3) := by decide +kernel
theorem dX9_hasRoomForFeed_4 : decode cX9_hasRoomForFeed 4 = .ok (.bipush 20, 2) := by decide +kernel
theorem dX9_hasRoomForFeed_6 : decode cX9_hasRoomForFeed 6 = .ok (.iadd, 1) := by decide +kernel
theorem dX9_hasRoomForFeed_7 : decode cX9_hasRoomForFeed 7 = .ok (.sipush 600, 3) := by decide +kernel
theorem dX9_hasRoomForFeed_10 : decode cX9_hasRoomForFeed 10 = .ok (.if_icmp .gt 7, 3) := by decide +kernel
theorem dX9_hasRoomForFeed_13 : decode cX9_hasRoomForFeed 13 = .ok (.iconst 1, 1) := by decide +kernel
theorem dX9_hasRoomForFeed_14 : decode cX9_hasRoomForFeed 14 = .ok (.goto 4, 3) := by decide +kernel
theorem dX9_hasRoomForFeed_17 : decode cX9_hasRoomForFeed 17 = .ok (.iconst 0, 1) := by decide +kernel
theorem dX9_hasRoomForFeed_18 : decode cX9_hasRoomForFeed 18 = .ok (.ireturn, 1) := by decide +kernel
theorem dX9_put_0 : decode cX9_put 0 = .ok (.bipush 24, 2) := by decide +kernel
theorem dX9_put_2 : decode cX9_put 2 = .ok (.istore_n 2, 1) := by decide +kernel
theorem dX9_put_3 : decode cX9_put 3 = .ok (.iload_n 2, 1) := by decide +kernel
theorem dX9_put_4 : decode cX9_put 4 = .ok (.ifCond .lt 42, 3) := by decide +kernel
theorem dX9_put_7 : decode cX9_put 7 = .ok (.aload_n 0, 1) := by decide +kernel
theorem dX9_put_8 : decode cX9_put 8 = .ok (.getfield 13, 3) := by decide +kernel
theorem dX9_put_11 : decode cX9_put 11 = .ok (.sipush 600, 3) := by decide +kernel
theorem dX9_put_14 : decode cX9_put 14 = .ok (.if_icmp .ge 26, 3) := by decide +kernel
theorem dX9_put_17 : decode cX9_put 17 = .ok (.aload_n 0, 1) := by decide +kernel
theorem dX9_put_18 : decode cX9_put 18 = .ok (.getfield 9, 3) := by decide +kernel
theorem dX9_put_21 : decode cX9_put 21 = .ok (.aload_n 0, 1) := by decide +kernel
theorem dX9_put_22 : decode cX9_put 22 = .ok (.getfield 13, 3) := by decide +kernel
theorem dX9_put_25 : decode cX9_put 25 = .ok (.iload_n 1, 1) := by decide +kernel
theorem dX9_put_26 : decode cX9_put 26 = .ok (.iload_n 2, 1) := by decide +kernel
theorem dX9_put_27 : decode cX9_put 27 = .ok (.ishr, 1) := by decide +kernel
theorem dX9_put_28 : decode cX9_put 28 = .ok (.i2b, 1) := by decide +kernel
theorem dX9_put_29 : decode cX9_put 29 = .ok (.bastore, 1) := by decide +kernel
theorem dX9_put_30 : decode cX9_put 30 = .ok (.aload_n 0, 1) := by decide +kernel
theorem dX9_put_31 : decode cX9_put 31 = .ok (.dup, 1) := by decide +kernel
theorem dX9_put_32 : decode cX9_put 32 = .ok (.getfield 13, 3) := by decide +kernel
theorem dX9_put_35 : decode cX9_put 35 = .ok (.iconst 1, 1) := by decide +kernel
theorem dX9_put_36 : decode cX9_put 36 = .ok (.iadd, 1) := by decide +kernel
theorem dX9_put_37 : decode cX9_put 37 = .ok (.putfield 13, 3) := by decide +kernel
theorem dX9_put_40 : decode cX9_put 40 = .ok (.iinc 2 (-8), 3) := by decide +kernel
theorem dX9_put_43 : decode cX9_put 43 = .ok (.goto (-40), 3) := by decide +kernel
theorem dX9_put_46 : decode cX9_put 46 = .ok (.return_, 1) := by decide +kernel
theorem dX9_wipe_0 : decode cX9_wipe 0 = .ok (.aload_n 0, 1) := by decide +kernel
theorem dX9_wipe_1 : decode cX9_wipe 1 = .ok (.iconst 0, 1) := by decide +kernel
theorem dX9_wipe_2 : decode cX9_wipe 2 = .ok (.putfield 13, 3) := by decide +kernel
theorem dX9_wipe_5 : decode cX9_wipe 5 = .ok (.return_, 1) := by decide +kernel
theorem dX9_byteAt_0 : decode cX9_byteAt 0 = .ok (.iload_n 1, 1) := by decide +kernel
theorem dX9_byteAt_1 : decode cX9_byteAt 1 = .ok (.ifCond .lt 20, 3) := by decide +kernel
theorem dX9_byteAt_4 : decode cX9_byteAt 4 = .ok (.iload_n 1, 1) := by decide +kernel
theorem dX9_byteAt_5 : decode cX9_byteAt 5 = .ok (.aload_n 0, 1) := by decide +kernel
theorem dX9_byteAt_6 : decode cX9_byteAt 6 = .ok (.getfield 13, 3) := by decide +kernel
theorem dX9_byteAt_9 : decode cX9_byteAt 9 = .ok (.if_icmp .ge 12, 3) := by decide +kernel
theorem dX9_byteAt_12 : decode cX9_byteAt 12 = .ok (.aload_n 0, 1) := by decide +kernel
theorem dX9_byteAt_13 : decode cX9_byteAt 13 = .ok (.getfield 9, 3) := by decide +kernel
theorem dX9_byteAt_16 : decode cX9_byteAt 16 = .ok (.iload_n 1, 1) := by decide +kernel
theorem dX9_byteAt_17 : decode cX9_byteAt 17 = .ok (.baload, 1) := by decide +kernel
theorem dX9_byteAt_18 : decode cX9_byteAt 18 = .ok (.goto 4, 3) := by decide +kernel
theorem dX9_byteAt_21 : decode cX9_byteAt 21 = .ok (.iconst 0, 1) := by decide +kernel
theorem dX9_byteAt_22 : decode cX9_byteAt 22 = .ok (.ireturn, 1) := by decide +kernel
theorem dX10_init_0 : decode cX10_init 0 = .ok (.aload_n 0, 1) := by decide +kernel
theorem dX10_init_1 : decode cX10_init 1 = .ok (.invokespecial 3, 3) := by decide +kernel
theorem dX10_init_4 : decode cX10_init 4 = .ok (.aload_n 0, 1) := by decide +kernel
theorem dX10_init_5 : decode cX10_init 5 = .ok (.bipush 97, 2) := by decide +kernel
theorem dX10_init_7 : decode cX10_init 7 = .ok (.newarray .int, 2) := by decide +kernel
theorem dX10_init_9 : decode cX10_init 9 = .ok (.putfield 11, 3) := by decide +kernel
theorem dX10_init_12 : decode cX10_init 12 = .ok (.aload_n 0, 1) := by decide +kernel
theorem dX10_init_13 : decode cX10_init 13 = .ok (.bipush 97, 2) := by decide +kernel
theorem dX10_init_15 : decode cX10_init 15 = .ok (.newarray .int, 2) := by decide +kernel
theorem dX10_init_17 : decode cX10_init 17 = .ok (.putfield 15, 3) := by decide +kernel
theorem dX10_init_20 : decode cX10_init 20 = .ok (.aload_n 0, 1) := by decide +kernel
theorem dX10_init_21 : decode cX10_init 21 = .ok (.bipush 97, 2) := by decide +kernel
theorem dX10_init_23 : decode cX10_init 23 = .ok (.newarray .int, 2) := by decide +kernel
theorem dX10_init_25 : decode cX10_init 25 = .ok (.putfield 18, 3) := by decide +kernel
theorem dX10_init_28 : decode cX10_init 28 = .ok (.return_, 1) := by decide +kernel
theorem dX10_kind_0 : decode cX10_kind 0 = .ok (.iload_n 1, 1) := by decide +kernel
theorem dX10_kind_1 : decode cX10_kind 1 = .ok (.ifCond .lt 20, 3) := by decide +kernel
theorem dX10_kind_4 : decode cX10_kind 4 = .ok (.iload_n 1, 1) := by decide +kernel
theorem dX10_kind_5 : decode cX10_kind 5 = .ok (.aload_n 0, 1) := by decide +kernel
theorem dX10_kind_6 : decode cX10_kind 6 = .ok (.getfield 21, 3) := by decide +kernel
theorem dX10_kind_9 : decode cX10_kind 9 = .ok (.if_icmp .ge 12, 3) := by decide +kernel
theorem dX10_kind_12 : decode cX10_kind 12 = .ok (.aload_n 0, 1) := by decide +kernel
theorem dX10_kind_13 : decode cX10_kind 13 = .ok (.getfield 11, 3) := by decide +kernel
theorem dX10_kind_16 : decode cX10_kind 16 = .ok (.iload_n 1, 1) := by decide +kernel
theorem dX10_kind_17 : decode cX10_kind 17 = .ok (.iaload, 1) := by decide +kernel
theorem dX10_kind_18 : decode cX10_kind 18 = .ok (.goto 4, 3) := by decide +kernel
theorem dX10_kind_21 : decode cX10_kind 21 = .ok (.iconst 0, 1) := by decide +kernel
theorem dX10_kind_22 : decode cX10_kind 22 = .ok (.ireturn, 1) := by decide +kernel
theorem dX10_place_0 : decode cX10_place 0 = .ok (.iload_n 1, 1) := by decide +kernel
theorem dX10_place_1 : decode cX10_place 1 = .ok (.ifCond .lt 20, 3) := by decide +kernel
theorem dX10_place_4 : decode cX10_place 4 = .ok (.iload_n 1, 1) := by decide +kernel
theorem dX10_place_5 : decode cX10_place 5 = .ok (.aload_n 0, 1) := by decide +kernel
theorem dX10_place_6 : decode cX10_place 6 = .ok (.getfield 21, 3) := by decide +kernel
theorem dX10_place_9 : decode cX10_place 9 = .ok (.if_icmp .ge 12, 3) := by decide +kernel
theorem dX10_place_12 : decode cX10_place 12 = .ok (.aload_n 0, 1) := by decide +kernel
theorem dX10_place_13 : decode cX10_place 13 = .ok (.getfield 15, 3) := by decide +kernel
theorem dX10_place_16 : decode cX10_place 16 = .ok (.iload_n 1, 1) := by decide +kernel
theorem dX10_place_17 : decode cX10_place 17 = .ok (.iaload, 1) := by decide +kernel
theorem dX10_place_18 : decode cX10_place 18 = .ok (.goto 7, 3) := by decide +kernel
theorem dX10_place_21 : decode cX10_place 21 = .ok (.aload_n 0, 1) := by decide +kernel
theorem dX10_place_22 : decode cX10_place 22 = .ok (.getfield 25, 3) := by decide +kernel
theorem dX10_place_25 : decode cX10_place 25 = .ok (.ireturn, 1) := by decide +kernel
theorem dX10_value_0 : decode cX10_value 0 = .ok (.iload_n 1, 1) := by decide +kernel
theorem dX10_value_1 : decode cX10_value 1 = .ok (.ifCond .lt 20, 3) := by decide +kernel
theorem dX10_value_4 : decode cX10_value 4 = .ok (.iload_n 1, 1) := by decide +kernel
theorem dX10_value_5 : decode cX10_value 5 = .ok (.aload_n 0, 1) := by decide +kernel
theorem dX10_value_6 : decode cX10_value 6 = .ok (.getfield 21, 3) := by decide +kernel
theorem dX10_value_9 : decode cX10_value 9 = .ok (.if_icmp .ge 12, 3) := by decide +kernel
theorem dX10_value_12 : decode cX10_value 12 = .ok (.aload_n 0, 1) := by decide +kernel
theorem dX10_value_13 : decode cX10_value 13 = .ok (.getfield 18, 3) := by decide +kernel
theorem dX10_value_16 : decode cX10_value 16 = .ok (.iload_n 1, 1) := by decide +kernel
theorem dX10_value_17 : decode cX10_value 17 = .ok (.iaload, 1) := by decide +kernel
theorem dX10_value_18 : decode cX10_value 18 = .ok (.goto 4, 3) := by decide +kernel
theorem dX10_value_21 : decode cX10_value 21 = .ok (.iconst 0, 1) := by decide +kernel
theorem dX10_value_22 : decode cX10_value 22 = .ok (.ireturn, 1) := by decide +kernel
set_option maxRecDepth 20000 in
theorem ggX10_scan_X9_byteAt : GoodIn wsX10_scan wsX9_byteAt := goodIn_sub (List.forall_mem_cons.mpr ⟨mc_X10_scan_r1 _ (List.mem_of_getElem? (i := 10) rfl), List.forall_mem_append.mpr ⟨List.forall_mem_cons.mpr ⟨mc_X10_scan_r1 _ (List.mem_of_getElem? (i := 11) rfl), List.forall_mem_cons.mpr ⟨mc_X10_scan_r1 _ (List.mem_of_getElem? (i := 12) rfl), fun _ h => absurd h List.not_mem_nil⟩⟩, tl_X10_scan_X9⟩⟩) (by decide +kernel)
set_option maxRecDepth 20000 in
theorem gX10_scan_X9_byteAt : GoodIn wsX10_scan (wsV RX10 28 RX9 yX9_byteAt wsX9_byteAt) := goodIn_app (goodIn_sub (List.forall_mem_cons.mpr ⟨mc_X10_scan_r1 _ (List.mem_of_getElem? (i := 6) rfl), List.forall_mem_cons.mpr ⟨mc_X10_scan_r1 _ (List.mem_of_getElem? (i := 7) rfl), List.forall_mem_cons.mpr ⟨mc_X10_scan_r1 _ (List.mem_of_getElem? (i := 8) rfl), List.forall_mem_cons.mpr ⟨mc_X10_scan_r1 _ (List.mem_of_getElem? (i := 9) rfl), fun _ h => absurd h List.not_mem_nil⟩⟩⟩⟩) (by decide +kernel)) ggX10_scan_X9_byteAt
set_option maxRecDepth 20000 in
theorem ggX10_scan_X10_isBlank : GoodIn wsX10_scan wsX10_isBlank := goodIn_sub (List.forall_mem_cons.mpr ⟨mc_X10_scan_r1 _ (List.mem_of_getElem? (i := 16) rfl), fun _ h => absurd h List.not_mem_nil⟩) (by decide +kernel)
set_option maxRecDepth 20000 in
theorem gX10_scan_X10_isBlank : GoodIn wsX10_scan (va_wsS RX10 34 yX10_isBlank wsX10_isBlank) := goodIn_app (goodIn_sub (List.forall_mem_cons.mpr ⟨mc_X10_scan_r1 _ (List.mem_of_getElem? (i := 13) rfl), List.forall_mem_cons.mpr ⟨mc_X10_scan_r1 _ (List.mem_of_getElem? (i := 14) rfl), List.forall_mem_cons.mpr ⟨mc_X10_scan_r1 _ (List.mem_of_getElem? (i := 15) rfl), fun _ h => absurd h List.not_mem_nil⟩⟩⟩) (by decide +kernel)) ggX10_scan_X10_isBlank
set_option maxRecDepth 20000 in
theorem ggX10_scan_X10_endOfToken : GoodIn wsX10_scan wsX10_endOfToken := goodIn_sub (List.forall_mem_cons.mpr ⟨mc_X10_scan_r1 _ (List.mem_of_getElem? (i := 20) rfl), List.forall_mem_append.mpr ⟨List.forall_mem_append.mpr ⟨List.forall_mem_cons.mpr ⟨mc_X10_scan_r1 _ (List.mem_of_getElem? (i := 1) rfl), List.forall_mem_cons.mpr ⟨mc_X10_scan_r1 _ (List.mem_of_getElem? (i := 6) rfl), List.forall_mem_cons.mpr ⟨mc_X10_scan_r1 _ (List.mem_of_getElem? (i := 7) rfl), List.forall_mem_cons.mpr ⟨mc_X10_scan_r1 _ (List.mem_of_getElem? (i := 8) rfl), List.forall_mem_cons.mpr ⟨mc_X10_scan_r1 _ (List.mem_of_getElem? (i := 9) rfl), List.forall_mem_cons.mpr ⟨mc_X10_scan_r1 _ (List.mem_of_getElem? (i := 10) rfl), List.forall_mem_cons.mpr ⟨mc_X10_scan_r1 _ (List.mem_of_getElem? (i := 11) rfl), List.forall_mem_cons.mpr ⟨mc_X10_scan_r1 _ (List.mem_of_getElem? (i := 12) rfl), List.forall_mem_cons.mpr ⟨mc_X10_scan_r1 _ (List.mem_of_getElem? (i := 21) rfl), List.forall_mem_cons.mpr ⟨mc_X10_scan_r1 _ (List.mem_of_getElem? (i := 22) rfl), List.forall_mem_cons.mpr ⟨mc_X10_scan_r1 _ (List.mem_of_getElem? (i := 15) rfl), List.forall_mem_cons.mpr ⟨mc_X10_scan_r1 _ (List.mem_of_getElem? (i := 23) rfl), List.forall_mem_cons.mpr ⟨mc_X10_scan_r2 _ (List.mem_of_getElem? (i := 0) rfl), List.forall_mem_cons.mpr ⟨mc_X10_scan_r2 _ (List.mem_of_getElem? (i := 1) rfl), List.forall_mem_cons.mpr ⟨mc_X10_scan_r2 _ (List.mem_of_getElem? (i := 2) rfl), fun _ h => absurd h List.not_mem_nil⟩⟩⟩⟩⟩⟩⟩⟩⟩⟩⟩⟩⟩⟩⟩, tl_X10_scan_X10⟩, tl_X10_scan_X9⟩⟩) (by decide +kernel)
set_option maxRecDepth 20000 in
theorem gX10_scan_X10_endOfToken : GoodIn wsX10_scan (wsV RX10 38 RX10 yX10_endOfToken wsX10_endOfToken) := goodIn_app (goodIn_sub (List.forall_mem_cons.mpr ⟨mc_X10_scan_r1 _ (List.mem_of_getElem? (i := 17) rfl), List.forall_mem_cons.mpr ⟨mc_X10_scan_r1 _ (List.mem_of_getElem? (i := 18) rfl), List.forall_mem_cons.mpr ⟨mc_X10_scan_r1 _ (List.mem_of_getElem? (i := 19) rfl), List.forall_mem_cons.mpr ⟨mc_X10_scan_r1 _ (List.mem_of_getElem? (i := 15) rfl), fun _ h => absurd h List.not_mem_nil⟩⟩⟩⟩) (by decide +kernel)) ggX10_scan_X10_endOfToken
set_option maxRecDepth 20000 in
theorem mm_X10_scan_X10_keep_r1 : ∀ w ∈ wsX10_keep_r1, w ∈ wsX10_scan := List.forall_mem_cons.mpr ⟨mc_X10_scan_r1 _ (List.mem_of_getElem? (i := 0) rfl), List.forall_mem_cons.mpr ⟨mc_X10_scan_r2 _ (List.mem_of_getElem? (i := 7) rfl), List.forall_mem_cons.mpr ⟨mc_X10_scan_r2 _ (List.mem_of_getElem? (i := 8) rfl), List.forall_mem_cons.mpr ⟨mc_X10_scan_r2 _ (List.mem_of_getElem? (i := 9) rfl), List.forall_mem_cons.mpr ⟨mc_X10_scan_r2 _ (List.mem_of_getElem? (i := 10) rfl), List.forall_mem_cons.mpr ⟨mc_X10_scan_r2 _ (List.mem_of_getElem? (i := 11) rfl), List.forall_mem_cons.mpr ⟨mc_X10_scan_r1 _ (List.mem_of_getElem? (i := 15) rfl), List.forall_mem_cons.mpr ⟨mc_X10_scan_r2 _ (List.mem_of_getElem? (i := 12) rfl), List.forall_mem_cons.mpr ⟨mc_X10_scan_r1 _ (List.mem_of_getElem? (i := 6) rfl), List.forall_mem_cons.mpr ⟨mc_X10_scan_r1 _ (List.mem_of_getElem? (i := 7) rfl), List.forall_mem_cons.mpr ⟨mc_X10_scan_r1 _ (List.mem_of_getElem? (i := 8) rfl), List.forall_mem_cons.mpr ⟨mc_X10_scan_r1 _ (List.mem_of_getElem? (i := 9) rfl), List.forall_mem_cons.mpr ⟨mc_X10_scan_r1 _ (List.mem_of_getElem? (i := 10) rfl), List.forall_mem_cons.mpr ⟨mc_X10_scan_r1 _ (List.mem_of_getElem? (i := 11) rfl), List.forall_mem_cons.mpr ⟨mc_X10_scan_r1 _ (List.mem_of_getElem? (i := 12) rfl), List.forall_mem_cons.mpr ⟨mc_X10_scan_r1 _ (List.mem_of_getElem? (i := 21) rfl), List.forall_mem_cons.mpr ⟨mc_X10_scan_r1 _ (List.mem_of_getElem? (i := 22) rfl), List.forall_mem_cons.mpr ⟨mc_X10_scan_r1 _ (List.mem_of_getElem? (i := 23) rfl), List.forall_mem_cons.mpr ⟨mc_X10_scan_r2 _ (List.mem_of_getElem? (i := 13) rfl), List.forall_mem_cons.mpr ⟨mc_X10_scan_r2 _ (List.mem_of_getElem? (i := 14) rfl), List.forall_mem_cons.mpr ⟨mc_X10_scan_r2 _ (List.mem_of_getElem? (i := 15) rfl), List.forall_mem_cons.mpr ⟨mc_X10_scan_r2 _ (List.mem_of_getElem? (i := 16) rfl), List.forall_mem_cons.mpr ⟨mc_X10_scan_r2 _ (List.mem_of_getElem? (i := 17) rfl), List.forall_mem_cons.mpr ⟨mc_X10_scan_r2 _ (List.mem_of_getElem? (i := 18) rfl), fun _ h => absurd h List.not_mem_nil⟩⟩⟩⟩⟩⟩⟩⟩⟩⟩⟩⟩⟩⟩⟩⟩⟩⟩⟩⟩⟩⟩⟩⟩
set_option maxRecDepth 20000 in
theorem mm_X10_scan_X10_keep_r2 : ∀ w ∈ wsX10_keep_r2, w ∈ wsX10_scan := List.forall_mem_cons.mpr ⟨mc_X10_scan_r2 _ (List.mem_of_getElem? (i := 19) rfl), List.forall_mem_cons.mpr ⟨mc_X10_scan_r2 _ (List.mem_of_getElem? (i := 20) rfl), List.forall_mem_cons.mpr ⟨mc_X10_scan_r2 _ (List.mem_of_getElem? (i := 21) rfl), List.forall_mem_cons.mpr ⟨mc_X10_scan_r2 _ (List.mem_of_getElem? (i := 22) rfl), List.forall_mem_cons.mpr ⟨mc_X10_scan_r2 _ (List.mem_of_getElem? (i := 23) rfl), List.forall_mem_cons.mpr ⟨mc_X10_scan_r3 _ (List.mem_of_getElem? (i := 0) rfl), List.forall_mem_cons.mpr ⟨mc_X10_scan_r3 _ (List.mem_of_getElem? (i := 1) rfl), List.forall_mem_cons.mpr ⟨mc_X10_scan_r3 _ (List.mem_of_getElem? (i := 2) rfl), List.forall_mem_cons.mpr ⟨mc_X10_scan_r3 _ (List.mem_of_getElem? (i := 3) rfl), List.forall_mem_cons.mpr ⟨mc_X10_scan_r3 _ (List.mem_of_getElem? (i := 4) rfl), List.forall_mem_cons.mpr ⟨mc_X10_scan_r3 _ (List.mem_of_getElem? (i := 5) rfl), List.forall_mem_cons.mpr ⟨mc_X10_scan_r3 _ (List.mem_of_getElem? (i := 6) rfl), List.forall_mem_cons.mpr ⟨mc_X10_scan_r3 _ (List.mem_of_getElem? (i := 7) rfl), List.forall_mem_cons.mpr ⟨mc_X10_scan_r3 _ (List.mem_of_getElem? (i := 8) rfl), List.forall_mem_cons.mpr ⟨mc_X10_scan_r3 _ (List.mem_of_getElem? (i := 9) rfl), List.forall_mem_cons.mpr ⟨mc_X10_scan_r3 _ (List.mem_of_getElem? (i := 10) rfl), List.forall_mem_cons.mpr ⟨mc_X10_scan_r3 _ (List.mem_of_getElem? (i := 11) rfl), List.forall_mem_cons.mpr ⟨mc_X10_scan_r3 _ (List.mem_of_getElem? (i := 12) rfl), List.forall_mem_cons.mpr ⟨mc_X10_scan_r3 _ (List.mem_of_getElem? (i := 13) rfl), List.forall_mem_cons.mpr ⟨mc_X10_scan_r3 _ (List.mem_of_getElem? (i := 14) rfl), List.forall_mem_cons.mpr ⟨mc_X10_scan_r3 _ (List.mem_of_getElem? (i := 15) rfl), List.forall_mem_cons.mpr ⟨mc_X10_scan_r3 _ (List.mem_of_getElem? (i := 16) rfl), List.forall_mem_cons.mpr ⟨mc_X10_scan_r3 _ (List.mem_of_getElem? (i := 17) rfl), List.forall_mem_cons.mpr ⟨mc_X10_scan_r3 _ (List.mem_of_getElem? (i := 18) rfl), fun _ h => absurd h List.not_mem_nil⟩⟩⟩⟩⟩⟩⟩⟩⟩⟩⟩⟩⟩⟩⟩⟩⟩⟩⟩⟩⟩⟩⟩⟩
set_option maxRecDepth 20000 in
theorem mm_X10_scan_X10_keep_r3 : ∀ w ∈ wsX10_keep_r3, w ∈ wsX10_scan := List.forall_mem_cons.mpr ⟨mc_X10_scan_r3 _ (List.mem_of_getElem? (i := 19) rfl), List.forall_mem_cons.mpr ⟨mc_X10_scan_r3 _ (List.mem_of_getElem? (i := 20) rfl), List.forall_mem_cons.mpr ⟨mc_X10_scan_r3 _ (List.mem_of_getElem? (i := 21) rfl), List.forall_mem_cons.mpr ⟨mc_X10_scan_r3 _ (List.mem_of_getElem? (i := 22) rfl), List.forall_mem_cons.mpr ⟨mc_X10_scan_r3 _ (List.mem_of_getElem? (i := 23) rfl), List.forall_mem_cons.mpr ⟨mc_X10_scan_r4 _ (List.mem_of_getElem? (i := 0) rfl), List.forall_mem_cons.mpr ⟨mc_X10_scan_r4 _ (List.mem_of_getElem? (i := 1) rfl), List.forall_mem_cons.mpr ⟨mc_X10_scan_r4 _ (List.mem_of_getElem? (i := 2) rfl), List.forall_mem_cons.mpr ⟨mc_X10_scan_r4 _ (List.mem_of_getElem? (i := 3) rfl), List.forall_mem_cons.mpr ⟨mc_X10_scan_r4 _ (List.mem_of_getElem? (i := 4) rfl), List.forall_mem_cons.mpr ⟨mc_X10_scan_r4 _ (List.mem_of_getElem? (i := 5) rfl), List.forall_mem_cons.mpr ⟨mc_X10_scan_r4 _ (List.mem_of_getElem? (i := 6) rfl), List.forall_mem_cons.mpr ⟨mc_X10_scan_r4 _ (List.mem_of_getElem? (i := 7) rfl), List.forall_mem_cons.mpr ⟨mc_X10_scan_r4 _ (List.mem_of_getElem? (i := 8) rfl), List.forall_mem_cons.mpr ⟨mc_X10_scan_r4 _ (List.mem_of_getElem? (i := 9) rfl), List.forall_mem_cons.mpr ⟨mc_X10_scan_r4 _ (List.mem_of_getElem? (i := 10) rfl), List.forall_mem_cons.mpr ⟨mc_X10_scan_r4 _ (List.mem_of_getElem? (i := 11) rfl), List.forall_mem_cons.mpr ⟨mc_X10_scan_r4 _ (List.mem_of_getElem? (i := 12) rfl), List.forall_mem_cons.mpr ⟨mc_X10_scan_r4 _ (List.mem_of_getElem? (i := 13) rfl), List.forall_mem_cons.mpr ⟨mc_X10_scan_r4 _ (List.mem_of_getElem? (i := 14) rfl), List.forall_mem_cons.mpr ⟨mc_X10_scan_r4 _ (List.mem_of_getElem? (i := 15) rfl), List.forall_mem_cons.mpr ⟨mc_X10_scan_r4 _ (List.mem_of_getElem? (i := 16) rfl), List.forall_mem_cons.mpr ⟨mc_X10_scan_r4 _ (List.mem_of_getElem? (i := 17) rfl), List.forall_mem_cons.mpr ⟨mc_X10_scan_r4 _ (List.mem_of_getElem? (i := 18) rfl), fun _ h => absurd h List.not_mem_nil⟩⟩⟩⟩⟩⟩⟩⟩⟩⟩⟩⟩⟩⟩⟩⟩⟩⟩⟩⟩⟩⟩⟩⟩
set_option maxRecDepth 20000 in
theorem mm_X10_scan_X10_keep_r4 : ∀ w ∈ wsX10_keep_r4, w ∈ wsX10_scan := List.forall_mem_cons.mpr ⟨mc_X10_scan_r4 _ (List.mem_of_getElem? (i := 19) rfl), List.forall_mem_cons.mpr ⟨mc_X10_scan_r2 _ (List.mem_of_getElem? (i := 0) rfl), List.forall_mem_cons.mpr ⟨mc_X10_scan_r2 _ (List.mem_of_getElem? (i := 1) rfl), List.forall_mem_cons.mpr ⟨mc_X10_scan_r2 _ (List.mem_of_getElem? (i := 2) rfl), List.forall_mem_cons.mpr ⟨mc_X10_scan_r4 _ (List.mem_of_getElem? (i := 20) rfl), List.forall_mem_cons.mpr ⟨mc_X10_scan_r4 _ (List.mem_of_getElem? (i := 21) rfl), List.forall_mem_cons.mpr ⟨mc_X10_scan_r4 _ (List.mem_of_getElem? (i := 22) rfl), fun _ h => absurd h List.not_mem_nil⟩⟩⟩⟩⟩⟩⟩
set_option maxRecDepth 20000 in
theorem ggX10_scan_X10_keep : GoodIn wsX10_scan wsX10_keep := goodIn_sub (List.forall_mem_cons.mpr ⟨mc_X10_scan_r2 _ (List.mem_of_getElem? (i := 6) rfl), List.forall_mem_append.mpr ⟨List.forall_mem_append.mpr ⟨List.forall_mem_append.mpr ⟨mm_X10_scan_X10_keep_r1, List.forall_mem_append.mpr ⟨mm_X10_scan_X10_keep_r2, List.forall_mem_append.mpr ⟨mm_X10_scan_X10_keep_r3, mm_X10_scan_X10_keep_r4⟩⟩⟩, tl_X10_scan_X10⟩, tl_X10_scan_X9⟩⟩) (by decide +kernel)
set_option maxRecDepth 20000 in
theorem gX10_scan_X10_keep : GoodIn wsX10_scan (wsV RX10 42 RX10 yX10_keep wsX10_keep) := goodIn_app (goodIn_sub (List.forall_mem_cons.mpr ⟨mc_X10_scan_r2 _ (List.mem_of_getElem? (i := 3) rfl), List.forall_mem_cons.mpr ⟨mc_X10_scan_r2 _ (List.mem_of_getElem? (i := 4) rfl), List.forall_mem_cons.mpr ⟨mc_X10_scan_r2 _ (List.mem_of_getElem? (i := 5) rfl), List.forall_mem_cons.mpr ⟨mc_X10_scan_r1 _ (List.mem_of_getElem? (i := 15) rfl), fun _ h => absurd h List.not_mem_nil⟩⟩⟩⟩) (by decide +kernel)) ggX10_scan_X10_keep
theorem dX10_scan_0 : decode cX10_scan 0 = .ok (.aload_n 0, 1) := by decide +kernel
theorem dX10_scan_1 : decode cX10_scan 1 = .ok (.iconst 0, 1) := by decide +kernel
theorem dX10_scan_2 : decode cX10_scan 2 = .ok (.putfield 21, 3) := by decide +kernel
theorem dX10_scan_5 : decode cX10_scan 5 = .ok (.aload_n 0, 1) := by decide +kernel
theorem dX10_scan_6 : decode cX10_scan 6 = .ok (.iload_n 2, 1) := by decide +kernel
theorem dX10_scan_7 : decode cX10_scan 7 = .ok (.putfield 25, 3) := by decide +kernel
theorem dX10_scan_10 : decode cX10_scan 10 = .ok (.iconst 0, 1) := by decide +kernel
theorem dX10_scan_11 : decode cX10_scan 11 = .ok (.istore_n 3, 1) := by decide +kernel
theorem dX10_scan_12 : decode cX10_scan 12 = .ok (.iload_n 3, 1) := by decide +kernel
theorem dX10_scan_13 : decode cX10_scan 13 = .ok (.iload_n 2, 1) := by decide +kernel
theorem dX10_scan_14 : decode cX10_scan 14 = .ok (.if_icmp .ge 54, 3) := by decide +kernel
theorem dX10_scan_17 : decode cX10_scan 17 = .ok (.aload_n 0, 1) := by decide +kernel
theorem dX10_scan_18 : decode cX10_scan 18 = .ok (.getfield 21, 3) := by decide +kernel
theorem dX10_scan_21 : decode cX10_scan 21 = .ok (.bipush 97, 2) := by decide +kernel
theorem dX10_scan_23 : decode cX10_scan 23 = .ok (.if_icmp .ge 45, 3) := by decide +kernel
theorem dX10_scan_26 : decode cX10_scan 26 = .ok (.aload_n 1, 1) := by decide +kernel
theorem dX10_scan_27 : decode cX10_scan 27 = .ok (.iload_n 3, 1) := by decide +kernel
theorem dX10_scan_28 : decode cX10_scan 28 = .ok (.invokevirtual 28, 3) := by decide +kernel
theorem dX10_scan_31 : decode cX10_scan 31 = .ok (.invokestatic 34, 3) := by decide +kernel
theorem dX10_scan_34 : decode cX10_scan 34 = .ok (.ifCond .ne 28, 3) := by decide +kernel
theorem dX10_scan_37 : decode cX10_scan 37 = .ok (.aload_n 0, 1) := by decide +kernel
theorem dX10_scan_38 : decode cX10_scan 38 = .ok (.aload_n 1, 1) := by decide +kernel
theorem dX10_scan_39 : decode cX10_scan 39 = .ok (.iload_n 3, 1) := by decide +kernel
theorem dX10_scan_40 : decode cX10_scan 40 = .ok (.invokevirtual 38, 3) := by decide +kernel
theorem dX10_scan_43 : decode cX10_scan 43 = .ok (.istore 4, 2) := by decide +kernel
theorem dX10_scan_45 : decode cX10_scan 45 = .ok (.aload_n 0, 1) := by decide +kernel
theorem dX10_scan_46 : decode cX10_scan 46 = .ok (.aload_n 1, 1) := by decide +kernel
theorem dX10_scan_47 : decode cX10_scan 47 = .ok (.iload_n 3, 1) := by decide +kernel
theorem dX10_scan_48 : decode cX10_scan 48 = .ok (.iload 4, 2) := by decide +kernel
theorem dX10_scan_50 : decode cX10_scan 50 = .ok (.invokevirtual 42, 3) := by decide +kernel
theorem dX10_scan_53 : decode cX10_scan 53 = .ok (.iload_n 3, 1) := by decide +kernel
theorem dX10_scan_54 : decode cX10_scan 54 = .ok (.iload 4, 2) := by decide +kernel
theorem dX10_scan_56 : decode cX10_scan 56 = .ok (.iconst 1, 1) := by decide +kernel
theorem dX10_scan_57 : decode cX10_scan 57 = .ok (.isub, 1) := by decide +kernel
theorem dX10_scan_58 : decode cX10_scan 58 = .ok (.invokestatic 46, 3) := by decide +kernel
theorem dX10_scan_61 : decode cX10_scan 61 = .ok (.istore_n 3, 1) := by decide +kernel
theorem dX10_scan_62 : decode cX10_scan 62 = .ok (.iinc 3 1, 3) := by decide +kernel
theorem dX10_scan_65 : decode cX10_scan 65 = .ok (.goto (-53), 3) := by decide +kernel
theorem dX10_scan_68 : decode cX10_scan 68 = .ok (.return_, 1) := by decide +kernel
set_option maxRecDepth 20000 in
theorem mm_X10_keep_X10_kindOf_r1 : ∀ w ∈ wsX10_kindOf_r1, w ∈ wsX10_keep := List.forall_mem_cons.mpr ⟨mc_X10_keep_r1 _ (List.mem_of_getElem? (i := 8) rfl), List.forall_mem_cons.mpr ⟨mc_X10_keep_r1 _ (List.mem_of_getElem? (i := 9) rfl), List.forall_mem_cons.mpr ⟨mc_X10_keep_r1 _ (List.mem_of_getElem? (i := 10) rfl), List.forall_mem_cons.mpr ⟨mc_X10_keep_r1 _ (List.mem_of_getElem? (i := 11) rfl), List.forall_mem_cons.mpr ⟨mc_X10_keep_r1 _ (List.mem_of_getElem? (i := 12) rfl), List.forall_mem_cons.mpr ⟨mc_X10_keep_r1 _ (List.mem_of_getElem? (i := 13) rfl), List.forall_mem_cons.mpr ⟨mc_X10_keep_r1 _ (List.mem_of_getElem? (i := 14) rfl), List.forall_mem_cons.mpr ⟨mc_X10_keep_r1 _ (List.mem_of_getElem? (i := 15) rfl), List.forall_mem_cons.mpr ⟨mc_X10_keep_r1 _ (List.mem_of_getElem? (i := 16) rfl), List.forall_mem_cons.mpr ⟨mc_X10_keep_r1 _ (List.mem_of_getElem? (i := 6) rfl), List.forall_mem_cons.mpr ⟨mc_X10_keep_r1 _ (List.mem_of_getElem? (i := 17) rfl), List.forall_mem_cons.mpr ⟨mc_X10_keep_r1 _ (List.mem_of_getElem? (i := 18) rfl), List.forall_mem_cons.mpr ⟨mc_X10_keep_r1 _ (List.mem_of_getElem? (i := 19) rfl), List.forall_mem_cons.mpr ⟨mc_X10_keep_r1 _ (List.mem_of_getElem? (i := 20) rfl), List.forall_mem_cons.mpr ⟨mc_X10_keep_r1 _ (List.mem_of_getElem? (i := 21) rfl), List.forall_mem_cons.mpr ⟨mc_X10_keep_r1 _ (List.mem_of_getElem? (i := 22) rfl), List.forall_mem_cons.mpr ⟨mc_X10_keep_r1 _ (List.mem_of_getElem? (i := 23) rfl), List.forall_mem_cons.mpr ⟨mc_X10_keep_r2 _ (List.mem_of_getElem? (i := 0) rfl), List.forall_mem_cons.mpr ⟨mc_X10_keep_r2 _ (List.mem_of_getElem? (i := 1) rfl), List.forall_mem_cons.mpr ⟨mc_X10_keep_r2 _ (List.mem_of_getElem? (i := 2) rfl), List.forall_mem_cons.mpr ⟨mc_X10_keep_r2 _ (List.mem_of_getElem? (i := 3) rfl), List.forall_mem_cons.mpr ⟨mc_X10_keep_r2 _ (List.mem_of_getElem? (i := 4) rfl), List.forall_mem_cons.mpr ⟨mc_X10_keep_r2 _ (List.mem_of_getElem? (i := 5) rfl), List.forall_mem_cons.mpr ⟨mc_X10_keep_r2 _ (List.mem_of_getElem? (i := 6) rfl), fun _ h => absurd h List.not_mem_nil⟩⟩⟩⟩⟩⟩⟩⟩⟩⟩⟩⟩⟩⟩⟩⟩⟩⟩⟩⟩⟩⟩⟩⟩
set_option maxRecDepth 20000 in
theorem mm_X10_keep_X10_kindOf_r2 : ∀ w ∈ wsX10_kindOf_r2, w ∈ wsX10_keep := List.forall_mem_cons.mpr ⟨mc_X10_keep_r2 _ (List.mem_of_getElem? (i := 7) rfl), List.forall_mem_cons.mpr ⟨mc_X10_keep_r2 _ (List.mem_of_getElem? (i := 8) rfl), List.forall_mem_cons.mpr ⟨mc_X10_keep_r2 _ (List.mem_of_getElem? (i := 9) rfl), List.forall_mem_cons.mpr ⟨mc_X10_keep_r2 _ (List.mem_of_getElem? (i := 10) rfl), List.forall_mem_cons.mpr ⟨mc_X10_keep_r2 _ (List.mem_of_getElem? (i := 11) rfl), List.forall_mem_cons.mpr ⟨mc_X10_keep_r2 _ (List.mem_of_getElem? (i := 12) rfl), List.forall_mem_cons.mpr ⟨mc_X10_keep_r2 _ (List.mem_of_getElem? (i := 13) rfl), List.forall_mem_cons.mpr ⟨mc_X10_keep_r2 _ (List.mem_of_getElem? (i := 14) rfl), List.forall_mem_cons.mpr ⟨mc_X10_keep_r2 _ (List.mem_of_getElem? (i := 15) rfl), List.forall_mem_cons.mpr ⟨mc_X10_keep_r2 _ (List.mem_of_getElem? (i := 16) rfl), List.forall_mem_cons.mpr ⟨mc_X10_keep_r2 _ (List.mem_of_getElem? (i := 17) rfl), List.forall_mem_cons.mpr ⟨mc_X10_keep_r2 _ (List.mem_of_getElem? (i := 18) rfl), List.forall_mem_cons.mpr ⟨mc_X10_keep_r2 _ (List.mem_of_getElem? (i := 19) rfl), List.forall_mem_cons.mpr ⟨mc_X10_keep_r2 _ (List.mem_of_getElem? (i := 20) rfl), List.forall_mem_cons.mpr ⟨mc_X10_keep_r2 _ (List.mem_of_getElem? (i := 21) rfl), List.forall_mem_cons.mpr ⟨mc_X10_keep_r2 _ (List.mem_of_getElem? (i := 22) rfl), List.forall_mem_cons.mpr ⟨mc_X10_keep_r2 _ (List.mem_of_getElem? (i := 23) rfl), List.forall_mem_cons.mpr ⟨mc_X10_keep_r3 _ (List.mem_of_getElem? (i := 0) rfl), List.forall_mem_cons.mpr ⟨mc_X10_keep_r3 _ (List.mem_of_getElem? (i := 1) rfl), List.forall_mem_cons.mpr ⟨mc_X10_keep_r3 _ (List.mem_of_getElem? (i := 2) rfl), List.forall_mem_cons.mpr ⟨mc_X10_keep_r3 _ (List.mem_of_getElem? (i := 3) rfl), List.forall_mem_cons.mpr ⟨mc_X10_keep_r3 _ (List.mem_of_getElem? (i := 4) rfl), List.forall_mem_cons.mpr ⟨mc_X10_keep_r3 _ (List.mem_of_getElem? (i := 5) rfl), List.forall_mem_cons.mpr ⟨mc_X10_keep_r3 _ (List.mem_of_getElem? (i := 6) rfl), fun _ h => absurd h List.not_mem_nil⟩⟩⟩⟩⟩⟩⟩⟩⟩⟩⟩⟩⟩⟩⟩⟩⟩⟩⟩⟩⟩⟩⟩⟩
set_option maxRecDepth 20000 in
theorem mm_X10_keep_X10_kindOf_r3 : ∀ w ∈ wsX10_kindOf_r3, w ∈ wsX10_keep := List.forall_mem_cons.mpr ⟨mc_X10_keep_r3 _ (List.mem_of_getElem? (i := 7) rfl), List.forall_mem_cons.mpr ⟨mc_X10_keep_r3 _ (List.mem_of_getElem? (i := 8) rfl), List.forall_mem_cons.mpr ⟨mc_X10_keep_r3 _ (List.mem_of_getElem? (i := 9) rfl), List.forall_mem_cons.mpr ⟨mc_X10_keep_r3 _ (List.mem_of_getElem? (i := 10) rfl), List.forall_mem_cons.mpr ⟨mc_X10_keep_r3 _ (List.mem_of_getElem? (i := 11) rfl), List.forall_mem_cons.mpr ⟨mc_X10_keep_r3 _ (List.mem_of_getElem? (i := 12) rfl), List.forall_mem_cons.mpr ⟨mc_X10_keep_r3 _ (List.mem_of_getElem? (i := 13) rfl), List.forall_mem_cons.mpr ⟨mc_X10_keep_r3 _ (List.mem_of_getElem? (i := 14) rfl), List.forall_mem_cons.mpr ⟨mc_X10_keep_r3 _ (List.mem_of_getElem? (i := 15) rfl), List.forall_mem_cons.mpr ⟨mc_X10_keep_r3 _ (List.mem_of_getElem? (i := 16) rfl), List.forall_mem_cons.mpr ⟨mc_X10_keep_r3 _ (List.mem_of_getElem? (i := 17) rfl), List.forall_mem_cons.mpr ⟨mc_X10_keep_r3 _ (List.mem_of_getElem? (i := 18) rfl), List.forall_mem_cons.mpr ⟨mc_X10_keep_r3 _ (List.mem_of_getElem? (i := 19) rfl), List.forall_mem_cons.mpr ⟨mc_X10_keep_r3 _ (List.mem_of_getElem? (i := 20) rfl), List.forall_mem_cons.mpr ⟨mc_X10_keep_r3 _ (List.mem_of_getElem? (i := 21) rfl), List.forall_mem_cons.mpr ⟨mc_X10_keep_r3 _ (List.mem_of_getElem? (i := 22) rfl), List.forall_mem_cons.mpr ⟨mc_X10_keep_r3 _ (List.mem_of_getElem? (i := 23) rfl), List.forall_mem_cons.mpr ⟨mc_X10_keep_r4 _ (List.mem_of_getElem? (i := 0) rfl), List.forall_mem_cons.mpr ⟨mc_X10_keep_r4 _ (List.mem_of_getElem? (i := 1) rfl), List.forall_mem_cons.mpr ⟨mc_X10_keep_r4 _ (List.mem_of_getElem? (i := 2) rfl), List.forall_mem_cons.mpr ⟨mc_X10_keep_r4 _ (List.mem_of_getElem? (i := 3) rfl), fun _ h => absurd h List.not_mem_nil⟩⟩⟩⟩⟩⟩⟩⟩⟩⟩⟩⟩⟩⟩⟩⟩⟩⟩⟩⟩⟩
set_option maxRecDepth 20000 in
theorem ggX10_keep_X10_kindOf : GoodIn wsX10_keep wsX10_kindOf := goodIn_sub (List.forall_mem_cons.mpr ⟨mc_X10_keep_r1 _ (List.mem_of_getElem? (i := 7) rfl), List.forall_mem_append.mpr ⟨List.forall_mem_append.mpr ⟨mm_X10_keep_X10_kindOf_r1, List.forall_mem_append.mpr ⟨mm_X10_keep_X10_kindOf_r2, mm_X10_keep_X10_kindOf_r3⟩⟩, tl_X10_keep_X9⟩⟩) (by decide +kernel)
set_option maxRecDepth 20000 in
theorem gX10_keep_X10_kindOf : GoodIn wsX10_keep (va_wsS RX10 52 yX10_kindOf wsX10_kindOf) := goodIn_app (goodIn_sub (List.forall_mem_cons.mpr ⟨mc_X10_keep_r1 _ (List.mem_of_getElem? (i := 4) rfl), List.forall_mem_cons.mpr ⟨mc_X10_keep_r1 _ (List.mem_of_getElem? (i := 5) rfl), List.forall_mem_cons.mpr ⟨mc_X10_keep_r1 _ (List.mem_of_getElem? (i := 6) rfl), fun _ h => absurd h List.not_mem_nil⟩⟩⟩) (by decide +kernel)) ggX10_keep_X10_kindOf
set_option maxRecDepth 20000 in
theorem ggX10_keep_X10_numberOf : GoodIn wsX10_keep wsX10_numberOf := goodIn_sub (List.forall_mem_cons.mpr ⟨mc_X10_keep_r4 _ (List.mem_of_getElem? (i := 6) rfl), List.forall_mem_append.mpr ⟨List.forall_mem_cons.mpr ⟨mc_X10_keep_r1 _ (List.mem_of_getElem? (i := 8) rfl), List.forall_mem_cons.mpr ⟨mc_X10_keep_r1 _ (List.mem_of_getElem? (i := 9) rfl), List.forall_mem_cons.mpr ⟨mc_X10_keep_r1 _ (List.mem_of_getElem? (i := 10) rfl), List.forall_mem_cons.mpr ⟨mc_X10_keep_r1 _ (List.mem_of_getElem? (i := 11) rfl), List.forall_mem_cons.mpr ⟨mc_X10_keep_r1 _ (List.mem_of_getElem? (i := 12) rfl), List.forall_mem_cons.mpr ⟨mc_X10_keep_r1 _ (List.mem_of_getElem? (i := 13) rfl), List.forall_mem_cons.mpr ⟨mc_X10_keep_r1 _ (List.mem_of_getElem? (i := 14) rfl), fun _ h => absurd h List.not_mem_nil⟩⟩⟩⟩⟩⟩⟩, tl_X10_keep_X9⟩⟩) (by decide +kernel)
set_option maxRecDepth 20000 in
theorem gX10_keep_X10_numberOf : GoodIn wsX10_keep (va_wsS RX10 56 yX10_numberOf wsX10_numberOf) := goodIn_app (goodIn_sub (List.forall_mem_cons.mpr ⟨mc_X10_keep_r4 _ (List.mem_of_getElem? (i := 4) rfl), List.forall_mem_cons.mpr ⟨mc_X10_keep_r4 _ (List.mem_of_getElem? (i := 5) rfl), List.forall_mem_cons.mpr ⟨mc_X10_keep_r1 _ (List.mem_of_getElem? (i := 6) rfl), fun _ h => absurd h List.not_mem_nil⟩⟩⟩) (by decide +kernel)) ggX10_keep_X10_numberOf
theorem dX10_keep_0 : decode cX10_keep 0 = .ok (.aload_n 0, 1) := by decide +kernel
theorem dX10_keep_1 : decode cX10_keep 1 = .ok (.getfield 21, 3) := by decide +kernel
theorem dX10_keep_4 : decode cX10_keep 4 = .ok (.bipush 97, 2) := by decide +kernel
theorem dX10_keep_6 : decode cX10_keep 6 = .ok (.if_icmp .lt 4, 3) := by decide +kernel
theorem dX10_keep_9 : decode cX10_keep 9 = .ok (.return_, 1) := by decide +kernel
theorem dX10_keep_10 : decode cX10_keep 10 = .ok (.aload_n 1, 1) := by decide +kernel
theorem dX10_keep_11 : decode cX10_keep 11 = .ok (.iload_n 2, 1) := by decide +kernel
theorem dX10_keep_12 : decode cX10_keep 12 = .ok (.iload_n 3, 1) := by decide +kernel
theorem dX10_keep_13 : decode cX10_keep 13 = .ok (.invokestatic 52, 3) := by decide +kernel
theorem dX10_keep_16 : decode cX10_keep 16 = .ok (.istore 4, 2) := by decide +kernel
theorem dX10_keep_18 : decode cX10_keep 18 = .ok (.aload_n 0, 1) := by decide +kernel
theorem dX10_keep_19 : decode cX10_keep 19 = .ok (.getfield 11, 3) := by decide +kernel
theorem dX10_keep_22 : decode cX10_keep 22 = .ok (.aload_n 0, 1) := by decide +kernel
theorem dX10_keep_23 : decode cX10_keep 23 = .ok (.getfield 21, 3) := by decide +kernel
theorem dX10_keep_26 : decode cX10_keep 26 = .ok (.iload 4, 2) := by decide +kernel
theorem dX10_keep_28 : decode cX10_keep 28 = .ok (.iastore, 1) := by decide +kernel
theorem dX10_keep_29 : decode cX10_keep 29 = .ok (.aload_n 0, 1) := by decide +kernel
theorem dX10_keep_30 : decode cX10_keep 30 = .ok (.getfield 15, 3) := by decide +kernel
theorem dX10_keep_33 : decode cX10_keep 33 = .ok (.aload_n 0, 1) := by decide +kernel
theorem dX10_keep_34 : decode cX10_keep 34 = .ok (.getfield 21, 3) := by decide +kernel
theorem dX10_keep_37 : decode cX10_keep 37 = .ok (.iload_n 2, 1) := by decide +kernel
theorem dX10_keep_38 : decode cX10_keep 38 = .ok (.iastore, 1) := by decide +kernel
theorem dX10_keep_39 : decode cX10_keep 39 = .ok (.aload_n 0, 1) := by decide +kernel
theorem dX10_keep_40 : decode cX10_keep 40 = .ok (.getfield 18, 3) := by decide +kernel
theorem dX10_keep_43 : decode cX10_keep 43 = .ok (.aload_n 0, 1) := by decide +kernel
theorem dX10_keep_44 : decode cX10_keep 44 = .ok (.getfield 21, 3) := by decide +kernel
theorem dX10_keep_47 : decode cX10_keep 47 = .ok (.iload 4, 2) := by decide +kernel
theorem dX10_keep_49 : decode cX10_keep 49 = .ok (.iconst 3, 1) := by decide +kernel
theorem dX10_keep_50 : decode cX10_keep 50 = .ok (.if_icmp .ne 12, 3) := by decide +kernel
theorem dX10_keep_53 : decode cX10_keep 53 = .ok (.aload_n 1, 1) := by decide +kernel
theorem dX10_keep_54 : decode cX10_keep 54 = .ok (.iload_n 2, 1) := by decide +kernel
theorem dX10_keep_55 : decode cX10_keep 55 = .ok (.iload_n 3, 1) := by decide +kernel
theorem dX10_keep_56 : decode cX10_keep 56 = .ok (.invokestatic 56, 3) := by decide +kernel
theorem dX10_keep_59 : decode cX10_keep 59 = .ok (.goto 4, 3) := by decide +kernel
theorem dX10_keep_62 : decode cX10_keep 62 = .ok (.iconst 0, 1) := by decide +kernel
theorem dX10_keep_63 : decode cX10_keep 63 = .ok (.iastore, 1) := by decide +kernel
theorem dX10_keep_64 : decode cX10_keep 64 = .ok (.aload_n 0, 1) := by decide +kernel
theorem dX10_keep_65 : decode cX10_keep 65 = .ok (.dup, 1) := by decide +kernel
theorem dX10_keep_66 : decode cX10_keep 66 = .ok (.getfield 21, 3) := by decide +kernel
theorem dX10_keep_69 : decode cX10_keep 69 = .ok (.iconst 1, 1) := by decide +kernel
theorem dX10_keep_70 : decode cX10_keep 70 = .ok (.iadd, 1) := by decide +kernel
theorem dX10_keep_71 : decode cX10_keep 71 = .ok (.putfield 21, 3) := by decide +kernel
theorem dX10_keep_74 : decode cX10_keep 74 = .ok (.return_, 1) := by decide +kernel
set_option maxRecDepth 20000 in
theorem ggX10_endOfToken_X9_byteAt : GoodIn wsX10_endOfToken wsX9_byteAt := goodIn_sub (List.forall_mem_cons.mpr ⟨List.mem_cons_of_mem _ (List.mem_append_left _ (List.mem_append_left _ (List.mem_of_getElem? (i := 5) rfl))), List.forall_mem_append.mpr ⟨List.forall_mem_cons.mpr ⟨List.mem_cons_of_mem _ (List.mem_append_left _ (List.mem_append_left _ (List.mem_of_getElem? (i := 6) rfl))), List.forall_mem_cons.mpr ⟨List.mem_cons_of_mem _ (List.mem_append_left _ (List.mem_append_left _ (List.mem_of_getElem? (i := 7) rfl))), fun _ h => absurd h List.not_mem_nil⟩⟩, tl_X10_endOfToken_X9⟩⟩) (by decide +kernel)
set_option maxRecDepth 20000 in
theorem gX10_endOfToken_X9_byteAt : GoodIn wsX10_endOfToken (wsV RX10 28 RX9 yX9_byteAt wsX9_byteAt) := goodIn_app (goodIn_sub (List.forall_mem_cons.mpr ⟨List.mem_cons_of_mem _ (List.mem_append_left _ (List.mem_append_left _ (List.mem_of_getElem? (i := 1) rfl))), List.forall_mem_cons.mpr ⟨List.mem_cons_of_mem _ (List.mem_append_left _ (List.mem_append_left _ (List.mem_of_getElem? (i := 2) rfl))), List.forall_mem_cons.mpr ⟨List.mem_cons_of_mem _ (List.mem_append_left _ (List.mem_append_left _ (List.mem_of_getElem? (i := 3) rfl))), List.forall_mem_cons.mpr ⟨List.mem_cons_of_mem _ (List.mem_append_left _ (List.mem_append_left _ (List.mem_of_getElem? (i := 4) rfl))), fun _ h => absurd h List.not_mem_nil⟩⟩⟩⟩) (by decide +kernel)) ggX10_endOfToken_X9_byteAt
set_option maxRecDepth 20000 in
theorem ggX10_endOfToken_X10_isLetter : GoodIn wsX10_endOfToken wsX10_isLetter := goodIn_sub (List.forall_mem_cons.mpr ⟨List.mem_cons_of_mem _ (List.mem_append_left _ (List.mem_append_left _ (List.mem_of_getElem? (i := 11) rfl))), fun _ h => absurd h List.not_mem_nil⟩) (by decide +kernel)
set_option maxRecDepth 20000 in
theorem gX10_endOfToken_X10_isLetter : GoodIn wsX10_endOfToken (va_wsS RX10 59 yX10_isLetter wsX10_isLetter) := goodIn_app (goodIn_sub (List.forall_mem_cons.mpr ⟨List.mem_cons_of_mem _ (List.mem_append_left _ (List.mem_append_left _ (List.mem_of_getElem? (i := 8) rfl))), List.forall_mem_cons.mpr ⟨List.mem_cons_of_mem _ (List.mem_append_left _ (List.mem_append_left _ (List.mem_of_getElem? (i := 9) rfl))), List.forall_mem_cons.mpr ⟨List.mem_cons_of_mem _ (List.mem_append_left _ (List.mem_append_left _ (List.mem_of_getElem? (i := 10) rfl))), fun _ h => absurd h List.not_mem_nil⟩⟩⟩) (by decide +kernel)) ggX10_endOfToken_X10_isLetter
set_option maxRecDepth 20000 in
theorem ggX10_endOfToken_X10_isDigit : GoodIn wsX10_endOfToken wsX10_isDigit := goodIn_sub (List.forall_mem_cons.mpr ⟨List.mem_cons_of_mem _ (List.mem_append_left _ (List.mem_append_left _ (List.mem_of_getElem? (i := 14) rfl))), fun _ h => absurd h List.not_mem_nil⟩) (by decide +kernel)
set_option maxRecDepth 20000 in
theorem gX10_endOfToken_X10_isDigit : GoodIn wsX10_endOfToken (va_wsS RX10 62 yX10_isDigit wsX10_isDigit) := goodIn_app (goodIn_sub (List.forall_mem_cons.mpr ⟨List.mem_cons_of_mem _ (List.mem_append_left _ (List.mem_append_left _ (List.mem_of_getElem? (i := 12) rfl))), List.forall_mem_cons.mpr ⟨List.mem_cons_of_mem _ (List.mem_append_left _ (List.mem_append_left _ (List.mem_of_getElem? (i := 13) rfl))), List.forall_mem_cons.mpr ⟨List.mem_cons_of_mem _ (List.mem_append_left _ (List.mem_append_left _ (List.mem_of_getElem? (i := 10) rfl))), fun _ h => absurd h List.not_mem_nil⟩⟩⟩) (by decide +kernel)) ggX10_endOfToken_X10_isDigit
theorem dX10_endOfToken_0 : decode cX10_endOfToken 0 = .ok (.iload_n 2, 1) := by decide +kernel
theorem dX10_endOfToken_1 : decode cX10_endOfToken 1 = .ok (.iconst 1, 1) := by decide +kernel
theorem dX10_endOfToken_2 : decode cX10_endOfToken 2 = .ok (.iadd, 1) := by decide +kernel
theorem dX10_endOfToken_3 : decode cX10_endOfToken 3 = .ok (.istore_n 3, 1) := by decide +kernel
theorem dX10_endOfToken_4 : decode cX10_endOfToken 4 = .ok (.aload_n 1, 1) := by decide +kernel
theorem dX10_endOfToken_5 : decode cX10_endOfToken 5 = .ok (.iload_n 2, 1) := by decide +kernel
theorem dX10_endOfToken_6 : decode cX10_endOfToken 6 = .ok (.invokevirtual 28, 3) := by decide +kernel
theorem dX10_endOfToken_9 : decode cX10_endOfToken 9 = .ok (.invokestatic 59, 3) := by decide +kernel
theorem dX10_endOfToken_12 : decode cX10_endOfToken 12 = .ok (.ifCond .eq 28, 3) := by decide +kernel
theorem dX10_endOfToken_15 : decode cX10_endOfToken 15 = .ok (.iload_n 3, 1) := by decide +kernel
theorem dX10_endOfToken_16 : decode cX10_endOfToken 16 = .ok (.aload_n 0, 1) := by decide +kernel
theorem dX10_endOfToken_17 : decode cX10_endOfToken 17 = .ok (.getfield 25, 3) := by decide +kernel
theorem dX10_endOfToken_20 : decode cX10_endOfToken 20 = .ok (.if_icmp .ge 56, 3) := by decide +kernel
theorem dX10_endOfToken_23 : decode cX10_endOfToken 23 = .ok (.aload_n 1, 1) := by decide +kernel
theorem dX10_endOfToken_24 : decode cX10_endOfToken 24 = .ok (.iload_n 3, 1) := by decide +kernel
theorem dX10_endOfToken_25 : decode cX10_endOfToken 25 = .ok (.invokevirtual 28, 3) := by decide +kernel
theorem dX10_endOfToken_28 : decode cX10_endOfToken 28 = .ok (.invokestatic 59, 3) := by decide +kernel
theorem dX10_endOfToken_31 : decode cX10_endOfToken 31 = .ok (.ifCond .eq 45, 3) := by decide +kernel
theorem dX10_endOfToken_34 : decode cX10_endOfToken 34 = .ok (.iinc 3 1, 3) := by decide +kernel
theorem dX10_endOfToken_37 : decode cX10_endOfToken 37 = .ok (.goto (-22), 3) := by decide +kernel
theorem dX10_endOfToken_40 : decode cX10_endOfToken 40 = .ok (.aload_n 1, 1) := by decide +kernel
theorem dX10_endOfToken_41 : decode cX10_endOfToken 41 = .ok (.iload_n 2, 1) := by decide +kernel
theorem dX10_endOfToken_42 : decode cX10_endOfToken 42 = .ok (.invokevirtual 28, 3) := by decide +kernel
theorem dX10_endOfToken_45 : decode cX10_endOfToken 45 = .ok (.invokestatic 62, 3) := by decide +kernel
theorem dX10_endOfToken_48 : decode cX10_endOfToken 48 = .ok (.ifCond .eq 28, 3) := by decide +kernel
theorem dX10_endOfToken_51 : decode cX10_endOfToken 51 = .ok (.iload_n 3, 1) := by decide +kernel
theorem dX10_endOfToken_52 : decode cX10_endOfToken 52 = .ok (.aload_n 0, 1) := by decide +kernel
theorem dX10_endOfToken_53 : decode cX10_endOfToken 53 = .ok (.getfield 25, 3) := by decide +kernel
theorem dX10_endOfToken_56 : decode cX10_endOfToken 56 = .ok (.if_icmp .ge 20, 3) := by decide +kernel
theorem dX10_endOfToken_59 : decode cX10_endOfToken 59 = .ok (.aload_n 1, 1) := by decide +kernel
theorem dX10_endOfToken_60 : decode cX10_endOfToken 60 = .ok (.iload_n 3, 1) := by decide +kernel
theorem dX10_endOfToken_61 : decode cX10_endOfToken 61 = .ok (.invokevirtual 28, 3) := by decide +kernel
theorem dX10_endOfToken_64 : decode cX10_endOfToken 64 = .ok (.invokestatic 62, 3) := by decide +kernel
theorem dX10_endOfToken_67 : decode cX10_endOfToken 67 = .ok (.ifCond .eq 9, 3) := by decide +kernel
theorem dX10_endOfToken_70 : decode cX10_endOfToken 70 = .ok (.iinc 3 1, 3) := by decide +kernel
theorem dX10_endOfToken_73 : decode cX10_endOfToken 73 = .ok (.goto (-22), 3) := by decide +kernel
theorem dX10_endOfToken_76 : decode cX10_endOfToken 76 = .ok (.iload_n 3, 1) := by decide +kernel
theorem dX10_endOfToken_77 : decode cX10_endOfToken 77 = .ok (.ireturn, 1) := by decide +kernel
set_option maxRecDepth 20000 in
theorem ggX10_kindOf_X9_byteAt : GoodIn wsX10_kindOf wsX9_byteAt := goodIn_sub (List.forall_mem_cons.mpr ⟨mc_X10_kindOf_r1 _ (List.mem_of_getElem? (i := 4) rfl), List.forall_mem_append.mpr ⟨List.forall_mem_cons.mpr ⟨mc_X10_kindOf_r1 _ (List.mem_of_getElem? (i := 5) rfl), List.forall_mem_cons.mpr ⟨mc_X10_kindOf_r1 _ (List.mem_of_getElem? (i := 6) rfl), fun _ h => absurd h List.not_mem_nil⟩⟩, tl_X10_kindOf_X9⟩⟩) (by decide +kernel)
set_option maxRecDepth 20000 in
theorem gX10_kindOf_X9_byteAt : GoodIn wsX10_kindOf (wsV RX10 28 RX9 yX9_byteAt wsX9_byteAt) := goodIn_app (goodIn_sub (List.forall_mem_cons.mpr ⟨mc_X10_kindOf_r1 _ (List.mem_of_getElem? (i := 0) rfl), List.forall_mem_cons.mpr ⟨mc_X10_kindOf_r1 _ (List.mem_of_getElem? (i := 1) rfl), List.forall_mem_cons.mpr ⟨mc_X10_kindOf_r1 _ (List.mem_of_getElem? (i := 2) rfl), List.forall_mem_cons.mpr ⟨mc_X10_kindOf_r1 _ (List.mem_of_getElem? (i := 3) rfl), fun _ h => absurd h List.not_mem_nil⟩⟩⟩⟩) (by decide +kernel)) ggX10_kindOf_X9_byteAt
set_option maxRecDepth 20000 in
theorem ggX10_kindOf_X10_isLetter : GoodIn wsX10_kindOf wsX10_isLetter := goodIn_sub (List.forall_mem_cons.mpr ⟨mc_X10_kindOf_r1 _ (List.mem_of_getElem? (i := 10) rfl), fun _ h => absurd h List.not_mem_nil⟩) (by decide +kernel)
set_option maxRecDepth 20000 in
theorem gX10_kindOf_X10_isLetter : GoodIn wsX10_kindOf (va_wsS RX10 59 yX10_isLetter wsX10_isLetter) := goodIn_app (goodIn_sub (List.forall_mem_cons.mpr ⟨mc_X10_kindOf_r1 _ (List.mem_of_getElem? (i := 7) rfl), List.forall_mem_cons.mpr ⟨mc_X10_kindOf_r1 _ (List.mem_of_getElem? (i := 8) rfl), List.forall_mem_cons.mpr ⟨mc_X10_kindOf_r1 _ (List.mem_of_getElem? (i := 9) rfl), fun _ h => absurd h List.not_mem_nil⟩⟩⟩) (by decide +kernel)) ggX10_kindOf_X10_isLetter
set_option maxRecDepth 20000 in
theorem mm_X10_kindOf_X10_wordOf_r1 : ∀ w ∈ wsX10_wordOf_r1, w ∈ wsX10_kindOf := List.forall_mem_cons.mpr ⟨mc_X10_kindOf_r1 _ (List.mem_of_getElem? (i := 14) rfl), List.forall_mem_cons.mpr ⟨mc_X10_kindOf_r1 _ (List.mem_of_getElem? (i := 15) rfl), List.forall_mem_cons.mpr ⟨mc_X10_kindOf_r1 _ (List.mem_of_getElem? (i := 9) rfl), List.forall_mem_cons.mpr ⟨mc_X10_kindOf_r1 _ (List.mem_of_getElem? (i := 16) rfl), List.forall_mem_cons.mpr ⟨mc_X10_kindOf_r1 _ (List.mem_of_getElem? (i := 17) rfl), List.forall_mem_cons.mpr ⟨mc_X10_kindOf_r1 _ (List.mem_of_getElem? (i := 18) rfl), List.forall_mem_cons.mpr ⟨mc_X10_kindOf_r1 _ (List.mem_of_getElem? (i := 19) rfl), List.forall_mem_cons.mpr ⟨mc_X10_kindOf_r1 _ (List.mem_of_getElem? (i := 20) rfl), List.forall_mem_cons.mpr ⟨mc_X10_kindOf_r1 _ (List.mem_of_getElem? (i := 21) rfl), List.forall_mem_cons.mpr ⟨mc_X10_kindOf_r1 _ (List.mem_of_getElem? (i := 22) rfl), List.forall_mem_cons.mpr ⟨mc_X10_kindOf_r1 _ (List.mem_of_getElem? (i := 23) rfl), List.forall_mem_cons.mpr ⟨mc_X10_kindOf_r2 _ (List.mem_of_getElem? (i := 0) rfl), List.forall_mem_cons.mpr ⟨mc_X10_kindOf_r2 _ (List.mem_of_getElem? (i := 1) rfl), List.forall_mem_cons.mpr ⟨mc_X10_kindOf_r2 _ (List.mem_of_getElem? (i := 2) rfl), List.forall_mem_cons.mpr ⟨mc_X10_kindOf_r2 _ (List.mem_of_getElem? (i := 3) rfl), List.forall_mem_cons.mpr ⟨mc_X10_kindOf_r2 _ (List.mem_of_getElem? (i := 4) rfl), List.forall_mem_cons.mpr ⟨mc_X10_kindOf_r1 _ (List.mem_of_getElem? (i := 0) rfl), List.forall_mem_cons.mpr ⟨mc_X10_kindOf_r1 _ (List.mem_of_getElem? (i := 1) rfl), List.forall_mem_cons.mpr ⟨mc_X10_kindOf_r1 _ (List.mem_of_getElem? (i := 2) rfl), List.forall_mem_cons.mpr ⟨mc_X10_kindOf_r1 _ (List.mem_of_getElem? (i := 3) rfl), List.forall_mem_cons.mpr ⟨mc_X10_kindOf_r1 _ (List.mem_of_getElem? (i := 4) rfl), List.forall_mem_cons.mpr ⟨mc_X10_kindOf_r1 _ (List.mem_of_getElem? (i := 5) rfl), List.forall_mem_cons.mpr ⟨mc_X10_kindOf_r1 _ (List.mem_of_getElem? (i := 6) rfl), List.forall_mem_cons.mpr ⟨mc_X10_kindOf_r2 _ (List.mem_of_getElem? (i := 5) rfl), fun _ h => absurd h List.not_mem_nil⟩⟩⟩⟩⟩⟩⟩⟩⟩⟩⟩⟩⟩⟩⟩⟩⟩⟩⟩⟩⟩⟩⟩⟩
set_option maxRecDepth 20000 in
theorem mm_X10_kindOf_X10_wordOf_r2 : ∀ w ∈ wsX10_wordOf_r2, w ∈ wsX10_kindOf := List.forall_mem_cons.mpr ⟨mc_X10_kindOf_r2 _ (List.mem_of_getElem? (i := 6) rfl), List.forall_mem_cons.mpr ⟨mc_X10_kindOf_r2 _ (List.mem_of_getElem? (i := 7) rfl), List.forall_mem_cons.mpr ⟨mc_X10_kindOf_r2 _ (List.mem_of_getElem? (i := 8) rfl), List.forall_mem_cons.mpr ⟨mc_X10_kindOf_r2 _ (List.mem_of_getElem? (i := 9) rfl), List.forall_mem_cons.mpr ⟨mc_X10_kindOf_r2 _ (List.mem_of_getElem? (i := 10) rfl), List.forall_mem_cons.mpr ⟨mc_X10_kindOf_r2 _ (List.mem_of_getElem? (i := 11) rfl), List.forall_mem_cons.mpr ⟨mc_X10_kindOf_r2 _ (List.mem_of_getElem? (i := 12) rfl), List.forall_mem_cons.mpr ⟨mc_X10_kindOf_r2 _ (List.mem_of_getElem? (i := 13) rfl), List.forall_mem_cons.mpr ⟨mc_X10_kindOf_r2 _ (List.mem_of_getElem? (i := 14) rfl), List.forall_mem_cons.mpr ⟨mc_X10_kindOf_r2 _ (List.mem_of_getElem? (i := 15) rfl), List.forall_mem_cons.mpr ⟨mc_X10_kindOf_r2 _ (List.mem_of_getElem? (i := 16) rfl), List.forall_mem_cons.mpr ⟨mc_X10_kindOf_r2 _ (List.mem_of_getElem? (i := 17) rfl), List.forall_mem_cons.mpr ⟨mc_X10_kindOf_r2 _ (List.mem_of_getElem? (i := 18) rfl), List.forall_mem_cons.mpr ⟨mc_X10_kindOf_r2 _ (List.mem_of_getElem? (i := 19) rfl), List.forall_mem_cons.mpr ⟨mc_X10_kindOf_r2 _ (List.mem_of_getElem? (i := 20) rfl), List.forall_mem_cons.mpr ⟨mc_X10_kindOf_r2 _ (List.mem_of_getElem? (i := 21) rfl), List.forall_mem_cons.mpr ⟨mc_X10_kindOf_r2 _ (List.mem_of_getElem? (i := 22) rfl), List.forall_mem_cons.mpr ⟨mc_X10_kindOf_r2 _ (List.mem_of_getElem? (i := 23) rfl), List.forall_mem_cons.mpr ⟨mc_X10_kindOf_r3 _ (List.mem_of_getElem? (i := 0) rfl), List.forall_mem_cons.mpr ⟨mc_X10_kindOf_r3 _ (List.mem_of_getElem? (i := 1) rfl), List.forall_mem_cons.mpr ⟨mc_X10_kindOf_r3 _ (List.mem_of_getElem? (i := 2) rfl), List.forall_mem_cons.mpr ⟨mc_X10_kindOf_r3 _ (List.mem_of_getElem? (i := 3) rfl), List.forall_mem_cons.mpr ⟨mc_X10_kindOf_r3 _ (List.mem_of_getElem? (i := 4) rfl), List.forall_mem_cons.mpr ⟨mc_X10_kindOf_r3 _ (List.mem_of_getElem? (i := 5) rfl), fun _ h => absurd h List.not_mem_nil⟩⟩⟩⟩⟩⟩⟩⟩⟩⟩⟩⟩⟩⟩⟩⟩⟩⟩⟩⟩⟩⟩⟩⟩
set_option maxRecDepth 20000 in
theorem mm_X10_kindOf_X10_wordOf_r3 : ∀ w ∈ wsX10_wordOf_r3, w ∈ wsX10_kindOf := List.forall_mem_cons.mpr ⟨mc_X10_kindOf_r3 _ (List.mem_of_getElem? (i := 6) rfl), List.forall_mem_cons.mpr ⟨mc_X10_kindOf_r3 _ (List.mem_of_getElem? (i := 7) rfl), List.forall_mem_cons.mpr ⟨mc_X10_kindOf_r3 _ (List.mem_of_getElem? (i := 8) rfl), List.forall_mem_cons.mpr ⟨mc_X10_kindOf_r3 _ (List.mem_of_getElem? (i := 9) rfl), List.forall_mem_cons.mpr ⟨mc_X10_kindOf_r3 _ (List.mem_of_getElem? (i := 10) rfl), List.forall_mem_cons.mpr ⟨mc_X10_kindOf_r3 _ (List.mem_of_getElem? (i := 11) rfl), List.forall_mem_cons.mpr ⟨mc_X10_kindOf_r3 _ (List.mem_of_getElem? (i := 12) rfl), List.forall_mem_cons.mpr ⟨mc_X10_kindOf_r3 _ (List.mem_of_getElem? (i := 13) rfl), List.forall_mem_cons.mpr ⟨mc_X10_kindOf_r3 _ (List.mem_of_getElem? (i := 14) rfl), List.forall_mem_cons.mpr ⟨mc_X10_kindOf_r3 _ (List.mem_of_getElem? (i := 15) rfl), List.forall_mem_cons.mpr ⟨mc_X10_kindOf_r3 _ (List.mem_of_getElem? (i := 16) rfl), List.forall_mem_cons.mpr ⟨mc_X10_kindOf_r3 _ (List.mem_of_getElem? (i := 17) rfl), fun _ h => absurd h List.not_mem_nil⟩⟩⟩⟩⟩⟩⟩⟩⟩⟩⟩⟩
set_option maxRecDepth 20000 in
theorem ggX10_kindOf_X10_wordOf : GoodIn wsX10_kindOf wsX10_wordOf := goodIn_sub (List.forall_mem_cons.mpr ⟨mc_X10_kindOf_r1 _ (List.mem_of_getElem? (i := 13) rfl), List.forall_mem_append.mpr ⟨List.forall_mem_append.mpr ⟨mm_X10_kindOf_X10_wordOf_r1, List.forall_mem_append.mpr ⟨mm_X10_kindOf_X10_wordOf_r2, mm_X10_kindOf_X10_wordOf_r3⟩⟩, tl_X10_kindOf_X9⟩⟩) (by decide +kernel)
set_option maxRecDepth 20000 in
theorem gX10_kindOf_X10_wordOf : GoodIn wsX10_kindOf (va_wsS RX10 65 yX10_wordOf wsX10_wordOf) := goodIn_app (goodIn_sub (List.forall_mem_cons.mpr ⟨mc_X10_kindOf_r1 _ (List.mem_of_getElem? (i := 11) rfl), List.forall_mem_cons.mpr ⟨mc_X10_kindOf_r1 _ (List.mem_of_getElem? (i := 12) rfl), List.forall_mem_cons.mpr ⟨mc_X10_kindOf_r1 _ (List.mem_of_getElem? (i := 9) rfl), fun _ h => absurd h List.not_mem_nil⟩⟩⟩) (by decide +kernel)) ggX10_kindOf_X10_wordOf
set_option maxRecDepth 20000 in
theorem ggX10_kindOf_X10_isDigit : GoodIn wsX10_kindOf wsX10_isDigit := goodIn_sub (List.forall_mem_cons.mpr ⟨mc_X10_kindOf_r3 _ (List.mem_of_getElem? (i := 20) rfl), fun _ h => absurd h List.not_mem_nil⟩) (by decide +kernel)
set_option maxRecDepth 20000 in
theorem gX10_kindOf_X10_isDigit : GoodIn wsX10_kindOf (va_wsS RX10 62 yX10_isDigit wsX10_isDigit) := goodIn_app (goodIn_sub (List.forall_mem_cons.mpr ⟨mc_X10_kindOf_r3 _ (List.mem_of_getElem? (i := 18) rfl), List.forall_mem_cons.mpr ⟨mc_X10_kindOf_r3 _ (List.mem_of_getElem? (i := 19) rfl), List.forall_mem_cons.mpr ⟨mc_X10_kindOf_r1 _ (List.mem_of_getElem? (i := 9) rfl), fun _ h => absurd h List.not_mem_nil⟩⟩⟩) (by decide +kernel)) ggX10_kindOf_X10_isDigit
theorem dX10_kindOf_0 : decode cX10_kindOf 0 = .ok (.aload_n 0, 1) := by decide +kernel
theorem dX10_kindOf_1 : decode cX10_kindOf 1 = .ok (.iload_n 1, 1) := by decide +kernel
theorem dX10_kindOf_2 : decode cX10_kindOf 2 = .ok (.invokevirtual 28, 3) := by decide +kernel
theorem dX10_kindOf_5 : decode cX10_kindOf 5 = .ok (.istore_n 3, 1) := by decide +kernel
theorem dX10_kindOf_6 : decode cX10_kindOf 6 = .ok (.iload_n 3, 1) := by decide +kernel
theorem dX10_kindOf_7 : decode cX10_kindOf 7 = .ok (.invokestatic 59, 3) := by decide +kernel
theorem dX10_kindOf_10 : decode cX10_kindOf 10 = .ok (.ifCond .eq 10, 3) := by decide +kernel
theorem dX10_kindOf_13 : decode cX10_kindOf 13 = .ok (.aload_n 0, 1) := by decide +kernel
theorem dX10_kindOf_14 : decode cX10_kindOf 14 = .ok (.iload_n 1, 1) := by decide +kernel
theorem dX10_kindOf_15 : decode cX10_kindOf 15 = .ok (.iload_n 2, 1) := by decide +kernel
theorem dX10_kindOf_16 : decode cX10_kindOf 16 = .ok (.invokestatic 65, 3) := by decide +kernel
theorem dX10_kindOf_19 : decode cX10_kindOf 19 = .ok (.ireturn, 1) := by decide +kernel
theorem dX10_kindOf_20 : decode cX10_kindOf 20 = .ok (.iload_n 3, 1) := by decide +kernel
theorem dX10_kindOf_21 : decode cX10_kindOf 21 = .ok (.invokestatic 62, 3) := by decide +kernel
theorem dX10_kindOf_24 : decode cX10_kindOf 24 = .ok (.ifCond .eq 16, 3) := by decide +kernel
theorem dX10_kindOf_27 : decode cX10_kindOf 27 = .ok (.iload_n 2, 1) := by decide +kernel
theorem dX10_kindOf_28 : decode cX10_kindOf 28 = .ok (.iload_n 1, 1) := by decide +kernel
theorem dX10_kindOf_29 : decode cX10_kindOf 29 = .ok (.isub, 1) := by decide +kernel
theorem dX10_kindOf_30 : decode cX10_kindOf 30 = .ok (.iconst 3, 1) := by decide +kernel
theorem dX10_kindOf_31 : decode cX10_kindOf 31 = .ok (.if_icmp .gt 7, 3) := by decide +kernel
theorem dX10_kindOf_34 : decode cX10_kindOf 34 = .ok (.iconst 3, 1) := by decide +kernel
theorem dX10_kindOf_35 : decode cX10_kindOf 35 = .ok (.goto 4, 3) := by decide +kernel
theorem dX10_kindOf_38 : decode cX10_kindOf 38 = .ok (.iconst 1, 1) := by decide +kernel
theorem dX10_kindOf_39 : decode cX10_kindOf 39 = .ok (.ireturn, 1) := by decide +kernel
theorem dX10_kindOf_40 : decode cX10_kindOf 40 = .ok (.iload_n 3, 1) := by decide +kernel
theorem dX10_kindOf_41 : decode cX10_kindOf 41 = .ok (.bipush 59, 2) := by decide +kernel
theorem dX10_kindOf_43 : decode cX10_kindOf 43 = .ok (.if_icmp .ne 7, 3) := by decide +kernel
theorem dX10_kindOf_46 : decode cX10_kindOf 46 = .ok (.iconst 2, 1) := by decide +kernel
theorem dX10_kindOf_47 : decode cX10_kindOf 47 = .ok (.goto 4, 3) := by decide +kernel
theorem dX10_kindOf_50 : decode cX10_kindOf 50 = .ok (.iconst 1, 1) := by decide +kernel
theorem dX10_kindOf_51 : decode cX10_kindOf 51 = .ok (.ireturn, 1) := by decide +kernel
set_option maxRecDepth 20000 in
theorem mm_X10_wordOf_X10_spells_r1 : ∀ w ∈ wsX10_spells_r1, w ∈ wsX10_wordOf := List.forall_mem_cons.mpr ⟨mc_X10_wordOf_r1 _ (List.mem_of_getElem? (i := 4) rfl), List.forall_mem_cons.mpr ⟨mc_X10_wordOf_r1 _ (List.mem_of_getElem? (i := 5) rfl), List.forall_mem_cons.mpr ⟨mc_X10_wordOf_r1 _ (List.mem_of_getElem? (i := 6) rfl), List.forall_mem_cons.mpr ⟨mc_X10_wordOf_r1 _ (List.mem_of_getElem? (i := 7) rfl), List.forall_mem_cons.mpr ⟨mc_X10_wordOf_r1 _ (List.mem_of_getElem? (i := 8) rfl), List.forall_mem_cons.mpr ⟨mc_X10_wordOf_r1 _ (List.mem_of_getElem? (i := 9) rfl), List.forall_mem_cons.mpr ⟨mc_X10_wordOf_r1 _ (List.mem_of_getElem? (i := 10) rfl), List.forall_mem_cons.mpr ⟨mc_X10_wordOf_r1 _ (List.mem_of_getElem? (i := 11) rfl), List.forall_mem_cons.mpr ⟨mc_X10_wordOf_r1 _ (List.mem_of_getElem? (i := 12) rfl), List.forall_mem_cons.mpr ⟨mc_X10_wordOf_r1 _ (List.mem_of_getElem? (i := 13) rfl), List.forall_mem_cons.mpr ⟨mc_X10_wordOf_r1 _ (List.mem_of_getElem? (i := 14) rfl), List.forall_mem_cons.mpr ⟨mc_X10_wordOf_r1 _ (List.mem_of_getElem? (i := 15) rfl), List.forall_mem_cons.mpr ⟨mc_X10_wordOf_r1 _ (List.mem_of_getElem? (i := 16) rfl), List.forall_mem_cons.mpr ⟨mc_X10_wordOf_r1 _ (List.mem_of_getElem? (i := 17) rfl), List.forall_mem_cons.mpr ⟨mc_X10_wordOf_r1 _ (List.mem_of_getElem? (i := 18) rfl), List.forall_mem_cons.mpr ⟨mc_X10_wordOf_r1 _ (List.mem_of_getElem? (i := 19) rfl), List.forall_mem_cons.mpr ⟨mc_X10_wordOf_r1 _ (List.mem_of_getElem? (i := 20) rfl), List.forall_mem_cons.mpr ⟨mc_X10_wordOf_r1 _ (List.mem_of_getElem? (i := 21) rfl), List.forall_mem_cons.mpr ⟨mc_X10_wordOf_r1 _ (List.mem_of_getElem? (i := 22) rfl), List.forall_mem_cons.mpr ⟨mc_X10_wordOf_r1 _ (List.mem_of_getElem? (i := 23) rfl), List.forall_mem_cons.mpr ⟨mc_X10_wordOf_r2 _ (List.mem_of_getElem? (i := 0) rfl), List.forall_mem_cons.mpr ⟨mc_X10_wordOf_r2 _ (List.mem_of_getElem? (i := 1) rfl), List.forall_mem_cons.mpr ⟨mc_X10_wordOf_r2 _ (List.mem_of_getElem? (i := 2) rfl), List.forall_mem_cons.mpr ⟨mc_X10_wordOf_r2 _ (List.mem_of_getElem? (i := 3) rfl), fun _ h => absurd h List.not_mem_nil⟩⟩⟩⟩⟩⟩⟩⟩⟩⟩⟩⟩⟩⟩⟩⟩⟩⟩⟩⟩⟩⟩⟩⟩
set_option maxRecDepth 20000 in
theorem mm_X10_wordOf_X10_spells_r2 : ∀ w ∈ wsX10_spells_r2, w ∈ wsX10_wordOf := List.forall_mem_cons.mpr ⟨mc_X10_wordOf_r2 _ (List.mem_of_getElem? (i := 4) rfl), List.forall_mem_cons.mpr ⟨mc_X10_wordOf_r2 _ (List.mem_of_getElem? (i := 5) rfl), List.forall_mem_cons.mpr ⟨mc_X10_wordOf_r2 _ (List.mem_of_getElem? (i := 6) rfl), List.forall_mem_cons.mpr ⟨mc_X10_wordOf_r2 _ (List.mem_of_getElem? (i := 7) rfl), List.forall_mem_cons.mpr ⟨mc_X10_wordOf_r2 _ (List.mem_of_getElem? (i := 8) rfl), List.forall_mem_cons.mpr ⟨mc_X10_wordOf_r2 _ (List.mem_of_getElem? (i := 9) rfl), List.forall_mem_cons.mpr ⟨mc_X10_wordOf_r2 _ (List.mem_of_getElem? (i := 10) rfl), List.forall_mem_cons.mpr ⟨mc_X10_wordOf_r2 _ (List.mem_of_getElem? (i := 11) rfl), List.forall_mem_cons.mpr ⟨mc_X10_wordOf_r2 _ (List.mem_of_getElem? (i := 12) rfl), List.forall_mem_cons.mpr ⟨mc_X10_wordOf_r2 _ (List.mem_of_getElem? (i := 13) rfl), List.forall_mem_cons.mpr ⟨mc_X10_wordOf_r2 _ (List.mem_of_getElem? (i := 14) rfl), List.forall_mem_cons.mpr ⟨mc_X10_wordOf_r2 _ (List.mem_of_getElem? (i := 15) rfl), List.forall_mem_cons.mpr ⟨mc_X10_wordOf_r2 _ (List.mem_of_getElem? (i := 16) rfl), List.forall_mem_cons.mpr ⟨mc_X10_wordOf_r2 _ (List.mem_of_getElem? (i := 17) rfl), List.forall_mem_cons.mpr ⟨mc_X10_wordOf_r2 _ (List.mem_of_getElem? (i := 18) rfl), List.forall_mem_cons.mpr ⟨mc_X10_wordOf_r2 _ (List.mem_of_getElem? (i := 19) rfl), List.forall_mem_cons.mpr ⟨mc_X10_wordOf_r2 _ (List.mem_of_getElem? (i := 20) rfl), List.forall_mem_cons.mpr ⟨mc_X10_wordOf_r2 _ (List.mem_of_getElem? (i := 21) rfl), List.forall_mem_cons.mpr ⟨mc_X10_wordOf_r2 _ (List.mem_of_getElem? (i := 22) rfl), List.forall_mem_cons.mpr ⟨mc_X10_wordOf_r2 _ (List.mem_of_getElem? (i := 23) rfl), List.forall_mem_cons.mpr ⟨mc_X10_wordOf_r3 _ (List.mem_of_getElem? (i := 0) rfl), List.forall_mem_cons.mpr ⟨mc_X10_wordOf_r3 _ (List.mem_of_getElem? (i := 1) rfl), List.forall_mem_cons.mpr ⟨mc_X10_wordOf_r3 _ (List.mem_of_getElem? (i := 2) rfl), List.forall_mem_cons.mpr ⟨mc_X10_wordOf_r3 _ (List.mem_of_getElem? (i := 3) rfl), fun _ h => absurd h List.not_mem_nil⟩⟩⟩⟩⟩⟩⟩⟩⟩⟩⟩⟩⟩⟩⟩⟩⟩⟩⟩⟩⟩⟩⟩⟩
set_option maxRecDepth 20000 in
theorem mm_X10_wordOf_X10_spells_r3 : ∀ w ∈ wsX10_spells_r3, w ∈ wsX10_wordOf := List.forall_mem_cons.mpr ⟨mc_X10_wordOf_r3 _ (List.mem_of_getElem? (i := 4) rfl), List.forall_mem_cons.mpr ⟨mc_X10_wordOf_r3 _ (List.mem_of_getElem? (i := 5) rfl), List.forall_mem_cons.mpr ⟨mc_X10_wordOf_r3 _ (List.mem_of_getElem? (i := 6) rfl), List.forall_mem_cons.mpr ⟨mc_X10_wordOf_r3 _ (List.mem_of_getElem? (i := 7) rfl), List.forall_mem_cons.mpr ⟨mc_X10_wordOf_r3 _ (List.mem_of_getElem? (i := 8) rfl), List.forall_mem_cons.mpr ⟨mc_X10_wordOf_r3 _ (List.mem_of_getElem? (i := 9) rfl), List.forall_mem_cons.mpr ⟨mc_X10_wordOf_r3 _ (List.mem_of_getElem? (i := 10) rfl), List.forall_mem_cons.mpr ⟨mc_X10_wordOf_r3 _ (List.mem_of_getElem? (i := 11) rfl), fun _ h => absurd h List.not_mem_nil⟩⟩⟩⟩⟩⟩⟩⟩
set_option maxRecDepth 20000 in
theorem ggX10_wordOf_X10_spells : GoodIn wsX10_wordOf wsX10_spells := goodIn_sub (List.forall_mem_cons.mpr ⟨mc_X10_wordOf_r1 _ (List.mem_of_getElem? (i := 3) rfl), List.forall_mem_append.mpr ⟨List.forall_mem_append.mpr ⟨mm_X10_wordOf_X10_spells_r1, List.forall_mem_append.mpr ⟨mm_X10_wordOf_X10_spells_r2, mm_X10_wordOf_X10_spells_r3⟩⟩, tl_X10_wordOf_X9⟩⟩) (by decide +kernel)
set_option maxRecDepth 20000 in
theorem gX10_wordOf_X10_spells : GoodIn wsX10_wordOf (va_wsS RX10 70 yX10_spells wsX10_spells) := goodIn_app (goodIn_sub (List.forall_mem_cons.mpr ⟨mc_X10_wordOf_r1 _ (List.mem_of_getElem? (i := 0) rfl), List.forall_mem_cons.mpr ⟨mc_X10_wordOf_r1 _ (List.mem_of_getElem? (i := 1) rfl), List.forall_mem_cons.mpr ⟨mc_X10_wordOf_r1 _ (List.mem_of_getElem? (i := 2) rfl), fun _ h => absurd h List.not_mem_nil⟩⟩⟩) (by decide +kernel)) ggX10_wordOf_X10_spells
theorem dX10_wordOf_0 : decode cX10_wordOf 0 = .ok (.aload_n 0, 1) := by decide +kernel
theorem dX10_wordOf_1 : decode cX10_wordOf 1 = .ok (.iload_n 1, 1) := by decide +kernel
theorem dX10_wordOf_2 : decode cX10_wordOf 2 = .ok (.iload_n 2, 1) := by decide +kernel
theorem dX10_wordOf_3 : decode cX10_wordOf 3 = .ok (.ldc 68, 2) := by decide +kernel
theorem dX10_wordOf_5 : decode cX10_wordOf 5 = .ok (.invokestatic 70, 3) := by decide +kernel
theorem dX10_wordOf_8 : decode cX10_wordOf 8 = .ok (.ifCond .eq 5, 3) := by decide +kernel
theorem dX10_wordOf_11 : decode cX10_wordOf 11 = .ok (.iconst 4, 1) := by decide +kernel
theorem dX10_wordOf_12 : decode cX10_wordOf 12 = .ok (.ireturn, 1) := by decide +kernel
theorem dX10_wordOf_13 : decode cX10_wordOf 13 = .ok (.aload_n 0, 1) := by decide +kernel
theorem dX10_wordOf_14 : decode cX10_wordOf 14 = .ok (.iload_n 1, 1) := by decide +kernel
theorem dX10_wordOf_15 : decode cX10_wordOf 15 = .ok (.iload_n 2, 1) := by decide +kernel
theorem dX10_wordOf_16 : decode cX10_wordOf 16 = .ok (.ldc 74, 2) := by decide +kernel
theorem dX10_wordOf_18 : decode cX10_wordOf 18 = .ok (.invokestatic 70, 3) := by decide +kernel
theorem dX10_wordOf_21 : decode cX10_wordOf 21 = .ok (.ifCond .eq 5, 3) := by decide +kernel
theorem dX10_wordOf_24 : decode cX10_wordOf 24 = .ok (.iconst 5, 1) := by decide +kernel
theorem dX10_wordOf_25 : decode cX10_wordOf 25 = .ok (.ireturn, 1) := by decide +kernel
theorem dX10_wordOf_26 : decode cX10_wordOf 26 = .ok (.aload_n 0, 1) := by decide +kernel
theorem dX10_wordOf_27 : decode cX10_wordOf 27 = .ok (.iload_n 1, 1) := by decide +kernel
theorem dX10_wordOf_28 : decode cX10_wordOf 28 = .ok (.iload_n 2, 1) := by decide +kernel
theorem dX10_wordOf_29 : decode cX10_wordOf 29 = .ok (.ldc 76, 2) := by decide +kernel
theorem dX10_wordOf_31 : decode cX10_wordOf 31 = .ok (.invokestatic 70, 3) := by decide +kernel
theorem dX10_wordOf_34 : decode cX10_wordOf 34 = .ok (.ifCond .eq 6, 3) := by decide +kernel
theorem dX10_wordOf_37 : decode cX10_wordOf 37 = .ok (.bipush 6, 2) := by decide +kernel
theorem dX10_wordOf_39 : decode cX10_wordOf 39 = .ok (.ireturn, 1) := by decide +kernel
theorem dX10_wordOf_40 : decode cX10_wordOf 40 = .ok (.aload_n 0, 1) := by decide +kernel
theorem dX10_wordOf_41 : decode cX10_wordOf 41 = .ok (.iload_n 1, 1) := by decide +kernel
theorem dX10_wordOf_42 : decode cX10_wordOf 42 = .ok (.iload_n 2, 1) := by decide +kernel
theorem dX10_wordOf_43 : decode cX10_wordOf 43 = .ok (.ldc 78, 2) := by decide +kernel
theorem dX10_wordOf_45 : decode cX10_wordOf 45 = .ok (.invokestatic 70, 3) := by decide +kernel
theorem dX10_wordOf_48 : decode cX10_wordOf 48 = .ok (.ifCond .eq 6, 3) := by decide +kernel
theorem dX10_wordOf_51 : decode cX10_wordOf 51 = .ok (.bipush 7, 2) := by decide +kernel
theorem dX10_wordOf_53 : decode cX10_wordOf 53 = .ok (.ireturn, 1) := by decide +kernel
theorem dX10_wordOf_54 : decode cX10_wordOf 54 = .ok (.aload_n 0, 1) := by decide +kernel
theorem dX10_wordOf_55 : decode cX10_wordOf 55 = .ok (.iload_n 1, 1) := by decide +kernel
theorem dX10_wordOf_56 : decode cX10_wordOf 56 = .ok (.iload_n 2, 1) := by decide +kernel
theorem dX10_wordOf_57 : decode cX10_wordOf 57 = .ok (.ldc 80, 2) := by decide +kernel
theorem dX10_wordOf_59 : decode cX10_wordOf 59 = .ok (.invokestatic 70, 3) := by decide +kernel
theorem dX10_wordOf_62 : decode cX10_wordOf 62 = .ok (.ifCond .eq 6, 3) := by decide +kernel
theorem dX10_wordOf_65 : decode cX10_wordOf 65 = .ok (.bipush 8, 2) := by decide +kernel
theorem dX10_wordOf_67 : decode cX10_wordOf 67 = .ok (.ireturn, 1) := by decide +kernel
theorem dX10_wordOf_68 : decode cX10_wordOf 68 = .ok (.aload_n 0, 1) := by decide +kernel
theorem dX10_wordOf_69 : decode cX10_wordOf 69 = .ok (.iload_n 1, 1) := by decide +kernel
theorem dX10_wordOf_70 : decode cX10_wordOf 70 = .ok (.iload_n 2, 1) := by decide +kernel
theorem dX10_wordOf_71 : decode cX10_wordOf 71 = .ok (.ldc 82, 2) := by decide +kernel
theorem dX10_wordOf_73 : decode cX10_wordOf 73 = .ok (.invokestatic 70, 3) := by decide +kernel
theorem dX10_wordOf_76 : decode cX10_wordOf 76 = .ok (.ifCond .eq 6, 3) := by decide +kernel
theorem dX10_wordOf_79 : decode cX10_wordOf 79 = .ok (.bipush 9, 2) := by decide +kernel
theorem dX10_wordOf_81 : decode cX10_wordOf 81 = .ok (.ireturn, 1) := by decide +kernel
theorem dX10_wordOf_82 : decode cX10_wordOf 82 = .ok (.aload_n 0, 1) := by decide +kernel
theorem dX10_wordOf_83 : decode cX10_wordOf 83 = .ok (.iload_n 1, 1) := by decide +kernel
theorem dX10_wordOf_84 : decode cX10_wordOf 84 = .ok (.iload_n 2, 1) := by decide +kernel
theorem dX10_wordOf_85 : decode cX10_wordOf 85 = .ok (.ldc 84, 2) := by decide +kernel
theorem dX10_wordOf_87 : decode cX10_wordOf 87 = .ok (.invokestatic 70, 3) := by decide +kernel
theorem dX10_wordOf_90 : decode cX10_wordOf 90 = .ok (.ifCond .eq 8, 3) := by decide +kernel
theorem dX10_wordOf_93 : decode cX10_wordOf 93 = .ok (.bipush 10, 2) := by decide +kernel
theorem dX10_wordOf_95 : decode cX10_wordOf 95 = .ok (.goto 4, 3) := by decide +kernel
theorem dX10_wordOf_98 : decode cX10_wordOf 98 = .ok (.iconst 1, 1) := by decide +kernel
theorem dX10_wordOf_99 : decode cX10_wordOf 99 = .ok (.ireturn, 1) := by decide +kernel
set_option maxRecDepth 20000 in
theorem ggX10_spells_J0_length_8abf5 : GoodIn wsX10_spells wsJ0_length_8abf5 := goodIn_sub (List.forall_mem_cons.mpr ⟨mc_X10_spells_r1 _ (List.mem_of_getElem? (i := 4) rfl), List.forall_mem_cons.mpr ⟨mc_X10_spells_r1 _ (List.mem_of_getElem? (i := 5) rfl), List.forall_mem_cons.mpr ⟨mc_X10_spells_r1 _ (List.mem_of_getElem? (i := 6) rfl), List.forall_mem_cons.mpr ⟨mc_X10_spells_r1 _ (List.mem_of_getElem? (i := 7) rfl), List.forall_mem_cons.mpr ⟨mc_X10_spells_r1 _ (List.mem_of_getElem? (i := 8) rfl), List.forall_mem_cons.mpr ⟨mc_X10_spells_r1 _ (List.mem_of_getElem? (i := 3) rfl), List.forall_mem_cons.mpr ⟨mc_X10_spells_r1 _ (List.mem_of_getElem? (i := 9) rfl), List.forall_mem_cons.mpr ⟨mc_X10_spells_r1 _ (List.mem_of_getElem? (i := 10) rfl), List.forall_mem_cons.mpr ⟨mc_X10_spells_r1 _ (List.mem_of_getElem? (i := 11) rfl), fun _ h => absurd h List.not_mem_nil⟩⟩⟩⟩⟩⟩⟩⟩⟩) (by decide +kernel)
set_option maxRecDepth 20000 in
theorem gX10_spells_J0_length_8abf5 : GoodIn wsX10_spells (wsV RX10 86 RJ0 yJ0_length_8abf5 wsJ0_length_8abf5) := goodIn_app (goodIn_sub (List.forall_mem_cons.mpr ⟨mc_X10_spells_r1 _ (List.mem_of_getElem? (i := 0) rfl), List.forall_mem_cons.mpr ⟨mc_X10_spells_r1 _ (List.mem_of_getElem? (i := 1) rfl), List.forall_mem_cons.mpr ⟨mc_X10_spells_r1 _ (List.mem_of_getElem? (i := 2) rfl), List.forall_mem_cons.mpr ⟨mc_X10_spells_r1 _ (List.mem_of_getElem? (i := 3) rfl), fun _ h => absurd h List.not_mem_nil⟩⟩⟩⟩) (by decide +kernel)) ggX10_spells_J0_length_8abf5
set_option maxRecDepth 20000 in
theorem ggX10_spells_X9_byteAt : GoodIn wsX10_spells wsX9_byteAt := goodIn_sub (List.forall_mem_cons.mpr ⟨mc_X10_spells_r1 _ (List.mem_of_getElem? (i := 16) rfl), List.forall_mem_append.mpr ⟨List.forall_mem_cons.mpr ⟨mc_X10_spells_r1 _ (List.mem_of_getElem? (i := 17) rfl), List.forall_mem_cons.mpr ⟨mc_X10_spells_r1 _ (List.mem_of_getElem? (i := 18) rfl), fun _ h => absurd h List.not_mem_nil⟩⟩, tl_X10_spells_X9⟩⟩) (by decide +kernel)
set_option maxRecDepth 20000 in
theorem gX10_spells_X9_byteAt : GoodIn wsX10_spells (wsV RX10 28 RX9 yX9_byteAt wsX9_byteAt) := goodIn_app (goodIn_sub (List.forall_mem_cons.mpr ⟨mc_X10_spells_r1 _ (List.mem_of_getElem? (i := 12) rfl), List.forall_mem_cons.mpr ⟨mc_X10_spells_r1 _ (List.mem_of_getElem? (i := 13) rfl), List.forall_mem_cons.mpr ⟨mc_X10_spells_r1 _ (List.mem_of_getElem? (i := 14) rfl), List.forall_mem_cons.mpr ⟨mc_X10_spells_r1 _ (List.mem_of_getElem? (i := 15) rfl), fun _ h => absurd h List.not_mem_nil⟩⟩⟩⟩) (by decide +kernel)) ggX10_spells_X9_byteAt
set_option maxRecDepth 20000 in
theorem mm_X10_spells_J0_charAt_5068e_r1 : ∀ w ∈ wsJ0_charAt_5068e_r1, w ∈ wsX10_spells := List.forall_mem_cons.mpr ⟨mc_X10_spells_r1 _ (List.mem_of_getElem? (i := 5) rfl), List.forall_mem_cons.mpr ⟨mc_X10_spells_r1 _ (List.mem_of_getElem? (i := 23) rfl), List.forall_mem_cons.mpr ⟨mc_X10_spells_r2 _ (List.mem_of_getElem? (i := 0) rfl), List.forall_mem_cons.mpr ⟨mc_X10_spells_r2 _ (List.mem_of_getElem? (i := 1) rfl), List.forall_mem_cons.mpr ⟨mc_X10_spells_r1 _ (List.mem_of_getElem? (i := 3) rfl), List.forall_mem_cons.mpr ⟨mc_X10_spells_r2 _ (List.mem_of_getElem? (i := 2) rfl), List.forall_mem_cons.mpr ⟨mc_X10_spells_r1 _ (List.mem_of_getElem? (i := 10) rfl), List.forall_mem_cons.mpr ⟨mc_X10_spells_r1 _ (List.mem_of_getElem? (i := 11) rfl), List.forall_mem_cons.mpr ⟨mc_X10_spells_r2 _ (List.mem_of_getElem? (i := 3) rfl), List.forall_mem_cons.mpr ⟨mc_X10_spells_r2 _ (List.mem_of_getElem? (i := 4) rfl), List.forall_mem_cons.mpr ⟨mc_X10_spells_r2 _ (List.mem_of_getElem? (i := 5) rfl), List.forall_mem_cons.mpr ⟨mc_X10_spells_r2 _ (List.mem_of_getElem? (i := 6) rfl), List.forall_mem_cons.mpr ⟨mc_X10_spells_r2 _ (List.mem_of_getElem? (i := 7) rfl), List.forall_mem_cons.mpr ⟨mc_X10_spells_r2 _ (List.mem_of_getElem? (i := 8) rfl), List.forall_mem_cons.mpr ⟨mc_X10_spells_r2 _ (List.mem_of_getElem? (i := 9) rfl), List.forall_mem_cons.mpr ⟨mc_X10_spells_r2 _ (List.mem_of_getElem? (i := 10) rfl), List.forall_mem_cons.mpr ⟨mc_X10_spells_r2 _ (List.mem_of_getElem? (i := 11) rfl), List.forall_mem_cons.mpr ⟨mc_X10_spells_r2 _ (List.mem_of_getElem? (i := 12) rfl), List.forall_mem_cons.mpr ⟨mc_X10_spells_r2 _ (List.mem_of_getElem? (i := 13) rfl), List.forall_mem_cons.mpr ⟨mc_X10_spells_r2 _ (List.mem_of_getElem? (i := 14) rfl), List.forall_mem_cons.mpr ⟨mc_X10_spells_r2 _ (List.mem_of_getElem? (i := 15) rfl), List.forall_mem_cons.mpr ⟨mc_X10_spells_r2 _ (List.mem_of_getElem? (i := 16) rfl), List.forall_mem_cons.mpr ⟨mc_X10_spells_r2 _ (List.mem_of_getElem? (i := 17) rfl), List.forall_mem_cons.mpr ⟨mc_X10_spells_r2 _ (List.mem_of_getElem? (i := 18) rfl), fun _ h => absurd h List.not_mem_nil⟩⟩⟩⟩⟩⟩⟩⟩⟩⟩⟩⟩⟩⟩⟩⟩⟩⟩⟩⟩⟩⟩⟩⟩
set_option maxRecDepth 20000 in
theorem mm_X10_spells_J0_charAt_5068e_r2 : ∀ w ∈ wsJ0_charAt_5068e_r2, w ∈ wsX10_spells := List.forall_mem_cons.mpr ⟨mc_X10_spells_r2 _ (List.mem_of_getElem? (i := 19) rfl), List.forall_mem_cons.mpr ⟨mc_X10_spells_r2 _ (List.mem_of_getElem? (i := 20) rfl), List.forall_mem_cons.mpr ⟨mc_X10_spells_r2 _ (List.mem_of_getElem? (i := 21) rfl), List.forall_mem_cons.mpr ⟨mc_X10_spells_r2 _ (List.mem_of_getElem? (i := 22) rfl), List.forall_mem_cons.mpr ⟨mc_X10_spells_r2 _ (List.mem_of_getElem? (i := 23) rfl), List.forall_mem_cons.mpr ⟨mc_X10_spells_r3 _ (List.mem_of_getElem? (i := 0) rfl), List.forall_mem_cons.mpr ⟨mc_X10_spells_r3 _ (List.mem_of_getElem? (i := 1) rfl), List.forall_mem_cons.mpr ⟨mc_X10_spells_r3 _ (List.mem_of_getElem? (i := 2) rfl), List.forall_mem_cons.mpr ⟨mc_X10_spells_r3 _ (List.mem_of_getElem? (i := 3) rfl), List.forall_mem_cons.mpr ⟨mc_X10_spells_r3 _ (List.mem_of_getElem? (i := 4) rfl), List.forall_mem_cons.mpr ⟨mc_X10_spells_r3 _ (List.mem_of_getElem? (i := 5) rfl), List.forall_mem_cons.mpr ⟨mc_X10_spells_r3 _ (List.mem_of_getElem? (i := 6) rfl), List.forall_mem_cons.mpr ⟨mc_X10_spells_r3 _ (List.mem_of_getElem? (i := 7) rfl), fun _ h => absurd h List.not_mem_nil⟩⟩⟩⟩⟩⟩⟩⟩⟩⟩⟩⟩⟩
set_option maxRecDepth 20000 in
theorem ggX10_spells_J0_charAt_5068e : GoodIn wsX10_spells wsJ0_charAt_5068e := goodIn_sub (List.forall_mem_cons.mpr ⟨mc_X10_spells_r1 _ (List.mem_of_getElem? (i := 22) rfl), List.forall_mem_append.mpr ⟨mm_X10_spells_J0_charAt_5068e_r1, mm_X10_spells_J0_charAt_5068e_r2⟩⟩) (by decide +kernel)
set_option maxRecDepth 20000 in
theorem gX10_spells_J0_charAt_5068e : GoodIn wsX10_spells (wsV RX10 92 RJ0 yJ0_charAt_5068e wsJ0_charAt_5068e) := goodIn_app (goodIn_sub (List.forall_mem_cons.mpr ⟨mc_X10_spells_r1 _ (List.mem_of_getElem? (i := 19) rfl), List.forall_mem_cons.mpr ⟨mc_X10_spells_r1 _ (List.mem_of_getElem? (i := 20) rfl), List.forall_mem_cons.mpr ⟨mc_X10_spells_r1 _ (List.mem_of_getElem? (i := 21) rfl), List.forall_mem_cons.mpr ⟨mc_X10_spells_r1 _ (List.mem_of_getElem? (i := 3) rfl), fun _ h => absurd h List.not_mem_nil⟩⟩⟩⟩) (by decide +kernel)) ggX10_spells_J0_charAt_5068e
theorem dX10_spells_0 : decode cX10_spells 0 = .ok (.iload_n 2, 1) := by decide +kernel
theorem dX10_spells_1 : decode cX10_spells 1 = .ok (.iload_n 1, 1) := by decide +kernel
theorem dX10_spells_2 : decode cX10_spells 2 = .ok (.isub, 1) := by decide +kernel
theorem dX10_spells_3 : decode cX10_spells 3 = .ok (.aload_n 3, 1) := by decide +kernel
theorem dX10_spells_4 : decode cX10_spells 4 = .ok (.invokevirtual 86, 3) := by decide +kernel
theorem dX10_spells_7 : decode cX10_spells 7 = .ok (.if_icmp .eq 5, 3) := by decide +kernel
theorem dX10_spells_10 : decode cX10_spells 10 = .ok (.iconst 0, 1) := by decide +kernel
theorem dX10_spells_11 : decode cX10_spells 11 = .ok (.ireturn, 1) := by decide +kernel
theorem dX10_spells_12 : decode cX10_spells 12 = .ok (.iconst 0, 1) := by decide +kernel
theorem dX10_spells_13 : decode cX10_spells 13 = .ok (.istore 4, 2) := by decide +kernel
theorem dX10_spells_15 : decode cX10_spells 15 = .ok (.iload 4, 2) := by decide +kernel
theorem dX10_spells_17 : decode cX10_spells 17 = .ok (.aload_n 3, 1) := by decide +kernel
theorem dX10_spells_18 : decode cX10_spells 18 = .ok (.invokevirtual 86, 3) := by decide +kernel
theorem dX10_spells_21 : decode cX10_spells 21 = .ok (.if_icmp .ge 28, 3) := by decide +kernel
theorem dX10_spells_24 : decode cX10_spells 24 = .ok (.aload_n 0, 1) := by decide +kernel
theorem dX10_spells_25 : decode cX10_spells 25 = .ok (.iload_n 1, 1) := by decide +kernel
theorem dX10_spells_26 : decode cX10_spells 26 = .ok (.iload 4, 2) := by decide +kernel
theorem dX10_spells_28 : decode cX10_spells 28 = .ok (.iadd, 1) := by decide +kernel
theorem dX10_spells_29 : decode cX10_spells 29 = .ok (.invokevirtual 28, 3) := by decide +kernel
theorem dX10_spells_32 : decode cX10_spells 32 = .ok (.aload_n 3, 1) := by decide +kernel
theorem dX10_spells_33 : decode cX10_spells 33 = .ok (.iload 4, 2) := by decide +kernel
theorem dX10_spells_35 : decode cX10_spells 35 = .ok (.invokevirtual 92, 3) := by decide +kernel
theorem dX10_spells_38 : decode cX10_spells 38 = .ok (.if_icmp .eq 5, 3) := by decide +kernel
theorem dX10_spells_41 : decode cX10_spells 41 = .ok (.iconst 0, 1) := by decide +kernel
theorem dX10_spells_42 : decode cX10_spells 42 = .ok (.ireturn, 1) := by decide +kernel
theorem dX10_spells_43 : decode cX10_spells 43 = .ok (.iinc 4 1, 3) := by decide +kernel
theorem dX10_spells_46 : decode cX10_spells 46 = .ok (.goto (-31), 3) := by decide +kernel
theorem dX10_spells_49 : decode cX10_spells 49 = .ok (.iconst 1, 1) := by decide +kernel
theorem dX10_spells_50 : decode cX10_spells 50 = .ok (.ireturn, 1) := by decide +kernel
set_option maxRecDepth 20000 in
theorem ggX10_numberOf_X9_byteAt : GoodIn wsX10_numberOf wsX9_byteAt := goodIn_sub (List.forall_mem_cons.mpr ⟨List.mem_cons_of_mem _ (List.mem_append_left _ (List.mem_of_getElem? (i := 4) rfl)), List.forall_mem_append.mpr ⟨List.forall_mem_cons.mpr ⟨List.mem_cons_of_mem _ (List.mem_append_left _ (List.mem_of_getElem? (i := 5) rfl)), List.forall_mem_cons.mpr ⟨List.mem_cons_of_mem _ (List.mem_append_left _ (List.mem_of_getElem? (i := 6) rfl)), fun _ h => absurd h List.not_mem_nil⟩⟩, tl_X10_numberOf_X9⟩⟩) (by decide +kernel)
set_option maxRecDepth 20000 in
theorem gX10_numberOf_X9_byteAt : GoodIn wsX10_numberOf (wsV RX10 28 RX9 yX9_byteAt wsX9_byteAt) := goodIn_app (goodIn_sub (List.forall_mem_cons.mpr ⟨List.mem_cons_of_mem _ (List.mem_append_left _ (List.mem_of_getElem? (i := 0) rfl)), List.forall_mem_cons.mpr ⟨List.mem_cons_of_mem _ (List.mem_append_left _ (List.mem_of_getElem? (i := 1) rfl)), List.forall_mem_cons.mpr ⟨List.mem_cons_of_mem _ (List.mem_append_left _ (List.mem_of_getElem? (i := 2) rfl)), List.forall_mem_cons.mpr ⟨List.mem_cons_of_mem _ (List.mem_append_left _ (List.mem_of_getElem? (i := 3) rfl)), fun _ h => absurd h List.not_mem_nil⟩⟩⟩⟩) (by decide +kernel)) ggX10_numberOf_X9_byteAt
theorem dX10_numberOf_0 : decode cX10_numberOf 0 = .ok (.iconst 0, 1) := by decide +kernel
theorem dX10_numberOf_1 : decode cX10_numberOf 1 = .ok (.istore_n 3, 1) := by decide +kernel
theorem dX10_numberOf_2 : decode cX10_numberOf 2 = .ok (.iload_n 1, 1) := by decide +kernel
theorem dX10_numberOf_3 : decode cX10_numberOf 3 = .ok (.istore 4, 2) := by decide +kernel
theorem dX10_numberOf_5 : decode cX10_numberOf 5 = .ok (.iload 4, 2) := by decide +kernel
theorem dX10_numberOf_7 : decode cX10_numberOf 7 = .ok (.iload_n 2, 1) := by decide +kernel
theorem dX10_numberOf_8 : decode cX10_numberOf 8 = .ok (.if_icmp .ge 24, 3) := by decide +kernel
theorem dX10_numberOf_11 : decode cX10_numberOf 11 = .ok (.iload_n 3, 1) := by decide +kernel
theorem dX10_numberOf_12 : decode cX10_numberOf 12 = .ok (.bipush 10, 2) := by decide +kernel
theorem dX10_numberOf_14 : decode cX10_numberOf 14 = .ok (.imul, 1) := by decide +kernel
theorem dX10_numberOf_15 : decode cX10_numberOf 15 = .ok (.aload_n 0, 1) := by decide +kernel
theorem dX10_numberOf_16 : decode cX10_numberOf 16 = .ok (.iload 4, 2) := by decide +kernel
theorem dX10_numberOf_18 : decode cX10_numberOf 18 = .ok (.invokevirtual 28, 3) := by decide +kernel
theorem dX10_numberOf_21 : decode cX10_numberOf 21 = .ok (.iadd, 1) := by decide +kernel
theorem dX10_numberOf_22 : decode cX10_numberOf 22 = .ok (.bipush 48, 2) := by decide +kernel
theorem dX10_numberOf_24 : decode cX10_numberOf 24 = .ok (.isub, 1) := by decide +kernel
theorem dX10_numberOf_25 : decode cX10_numberOf 25 = .ok (.istore_n 3, 1) := by decide +kernel
theorem dX10_numberOf_26 : decode cX10_numberOf 26 = .ok (.iinc 4 1, 3) := by decide +kernel
theorem dX10_numberOf_29 : decode cX10_numberOf 29 = .ok (.goto (-24), 3) := by decide +kernel
theorem dX10_numberOf_32 : decode cX10_numberOf 32 = .ok (.iload_n 3, 1) := by decide +kernel
theorem dX10_numberOf_33 : decode cX10_numberOf 33 = .ok (.ireturn, 1) := by decide +kernel
theorem dX10_isBlank_0 : decode cX10_isBlank 0 = .ok (.iload_n 0, 1) := by decide +kernel
theorem dX10_isBlank_1 : decode cX10_isBlank 1 = .ok (.bipush 32, 2) := by decide +kernel
theorem dX10_isBlank_3 : decode cX10_isBlank 3 = .ok (.if_icmp .eq 9, 3) := by decide +kernel
theorem dX10_isBlank_6 : decode cX10_isBlank 6 = .ok (.iload_n 0, 1) := by decide +kernel
theorem dX10_isBlank_7 : decode cX10_isBlank 7 = .ok (.bipush 10, 2) := by decide +kernel
theorem dX10_isBlank_9 : decode cX10_isBlank 9 = .ok (.if_icmp .ne 7, 3) := by decide +kernel
theorem dX10_isBlank_12 : decode cX10_isBlank 12 = .ok (.iconst 1, 1) := by decide +kernel
theorem dX10_isBlank_13 : decode cX10_isBlank 13 = .ok (.goto 4, 3) := by decide +kernel
theorem dX10_isBlank_16 : decode cX10_isBlank 16 = .ok (.iconst 0, 1) := by decide +kernel
theorem dX10_isBlank_17 : decode cX10_isBlank 17 = .ok (.ireturn, 1) := by decide +kernel
theorem dX10_isLetter_0 : decode cX10_isLetter 0 = .ok (.iload_n 0, 1) := by decide +kernel
theorem dX10_isLetter_1 : decode cX10_isLetter 1 = .ok (.bipush 97, 2) := by decide +kernel
theorem dX10_isLetter_3 : decode cX10_isLetter 3 = .ok (.if_icmp .lt 13, 3) := by decide +kernel
theorem dX10_isLetter_6 : decode cX10_isLetter 6 = .ok (.iload_n 0, 1) := by decide +kernel
theorem dX10_isLetter_7 : decode cX10_isLetter 7 = .ok (.bipush 122, 2) := by decide +kernel
theorem dX10_isLetter_9 : decode cX10_isLetter 9 = .ok (.if_icmp .gt 7, 3) := by decide +kernel
theorem dX10_isLetter_12 : decode cX10_isLetter 12 = .ok (.iconst 1, 1) := by decide +kernel
theorem dX10_isLetter_13 : decode cX10_isLetter 13 = .ok (.goto 4, 3) := by decide +kernel
theorem dX10_isLetter_16 : decode cX10_isLetter 16 = .ok (.iconst 0, 1) := by decide +kernel
theorem dX10_isLetter_17 : decode cX10_isLetter 17 = .ok (.ireturn, 1) := by decide +kernel
theorem dX10_isDigit_0 : decode cX10_isDigit 0 = .ok (.iload_n 0, 1) := by decide +kernel
theorem dX10_isDigit_1 : decode cX10_isDigit 1 = .ok (.bipush 48, 2) := by decide +kernel
theorem dX10_isDigit_3 : decode cX10_isDigit 3 = .ok (.if_icmp .lt 13, 3) := by decide +kernel
theorem dX10_isDigit_6 : decode cX10_isDigit 6 = .ok (.iload_n 0, 1) := by decide +kernel
theorem dX10_isDigit_7 : decode cX10_isDigit 7 = .ok (.bipush 57, 2) := by decide +kernel
theorem dX10_isDigit_9 : decode cX10_isDigit 9 = .ok (.if_icmp .gt 7, 3) := by decide +kernel
theorem dX10_isDigit_12 : decode cX10_isDigit 12 = .ok (.iconst 1, 1) := by decide +kernel
theorem dX10_isDigit_13 : decode cX10_isDigit 13 = .ok (.goto 4, 3) := by decide +kernel
theorem dX10_isDigit_16 : decode cX10_isDigit 16 = .ok (.iconst 0, 1) := by decide +kernel
theorem dX10_isDigit_17 : decode cX10_isDigit 17 = .ok (.ireturn, 1) := by decide +kernel
set_option maxRecDepth 20000 in
theorem ggX11_init_X0_init : GoodIn wsX11_init wsX0_init := goodIn_sub (List.forall_mem_cons.mpr ⟨mc_X11_init_r2 _ (List.mem_of_getElem? (i := 17) rfl), List.forall_mem_append.mpr ⟨List.forall_mem_cons.mpr ⟨mc_X11_init_r2 _ (List.mem_of_getElem? (i := 18) rfl), List.forall_mem_cons.mpr ⟨mc_X11_init_r1 _ (List.mem_of_getElem? (i := 1) rfl), List.forall_mem_cons.mpr ⟨mc_X11_init_r1 _ (List.mem_of_getElem? (i := 2) rfl), List.forall_mem_cons.mpr ⟨mc_X11_init_r2 _ (List.mem_of_getElem? (i := 19) rfl), List.forall_mem_cons.mpr ⟨mc_X11_init_r2 _ (List.mem_of_getElem? (i := 20) rfl), List.forall_mem_cons.mpr ⟨mc_X11_init_r2 _ (List.mem_of_getElem? (i := 21) rfl), List.forall_mem_cons.mpr ⟨mc_X11_init_r2 _ (List.mem_of_getElem? (i := 22) rfl), fun _ h => absurd h List.not_mem_nil⟩⟩⟩⟩⟩⟩⟩, tl_X11_init_X0⟩⟩) (by decide +kernel)
set_option maxRecDepth 20000 in
theorem gX11_init_X0_init_n9 : GoodIn wsX11_init (wsX0_init) := ggX11_init_X0_init
set_option maxRecDepth 20000 in
theorem ggX11_init_X3_init : GoodIn wsX11_init wsX3_init := goodIn_sub (List.forall_mem_cons.mpr ⟨mc_X11_init_r3 _ (List.mem_of_getElem? (i := 0) rfl), List.forall_mem_append.mpr ⟨List.forall_mem_cons.mpr ⟨mc_X11_init_r3 _ (List.mem_of_getElem? (i := 1) rfl), List.forall_mem_cons.mpr ⟨mc_X11_init_r1 _ (List.mem_of_getElem? (i := 1) rfl), List.forall_mem_cons.mpr ⟨mc_X11_init_r1 _ (List.mem_of_getElem? (i := 2) rfl), List.forall_mem_cons.mpr ⟨mc_X11_init_r2 _ (List.mem_of_getElem? (i := 19) rfl), List.forall_mem_cons.mpr ⟨mc_X11_init_r3 _ (List.mem_of_getElem? (i := 2) rfl), List.forall_mem_cons.mpr ⟨mc_X11_init_r3 _ (List.mem_of_getElem? (i := 3) rfl), List.forall_mem_cons.mpr ⟨mc_X11_init_r3 _ (List.mem_of_getElem? (i := 4) rfl), List.forall_mem_cons.mpr ⟨mc_X11_init_r3 _ (List.mem_of_getElem? (i := 5) rfl), List.forall_mem_cons.mpr ⟨mc_X11_init_r3 _ (List.mem_of_getElem? (i := 6) rfl), List.forall_mem_cons.mpr ⟨mc_X11_init_r3 _ (List.mem_of_getElem? (i := 7) rfl), fun _ h => absurd h List.not_mem_nil⟩⟩⟩⟩⟩⟩⟩⟩⟩⟩, tl_X11_init_X3⟩⟩) (by decide +kernel)
set_option maxRecDepth 20000 in
theorem gX11_init_X3_init_n18 : GoodIn wsX11_init (wsX3_init) := ggX11_init_X3_init
set_option maxRecDepth 20000 in
theorem ggX11_init_X9_init : GoodIn wsX11_init wsX9_init := goodIn_sub (List.forall_mem_cons.mpr ⟨mc_X11_init_r3 _ (List.mem_of_getElem? (i := 9) rfl), List.forall_mem_append.mpr ⟨List.forall_mem_cons.mpr ⟨mc_X11_init_r3 _ (List.mem_of_getElem? (i := 10) rfl), List.forall_mem_cons.mpr ⟨mc_X11_init_r1 _ (List.mem_of_getElem? (i := 1) rfl), List.forall_mem_cons.mpr ⟨mc_X11_init_r1 _ (List.mem_of_getElem? (i := 2) rfl), List.forall_mem_cons.mpr ⟨mc_X11_init_r3 _ (List.mem_of_getElem? (i := 11) rfl), List.forall_mem_cons.mpr ⟨mc_X11_init_r3 _ (List.mem_of_getElem? (i := 12) rfl), fun _ h => absurd h List.not_mem_nil⟩⟩⟩⟩⟩, tl_X11_init_X9⟩⟩) (by decide +kernel)
set_option maxRecDepth 20000 in
theorem gX11_init_X9_init_n25 : GoodIn wsX11_init (wsX9_init) := ggX11_init_X9_init
set_option maxRecDepth 20000 in
theorem ggX11_init_X6_init : GoodIn wsX11_init wsX6_init := goodIn_sub (List.forall_mem_cons.mpr ⟨mc_X11_init_r3 _ (List.mem_of_getElem? (i := 14) rfl), List.forall_mem_append.mpr ⟨List.forall_mem_append.mpr ⟨List.forall_mem_cons.mpr ⟨mc_X11_init_r3 _ (List.mem_of_getElem? (i := 15) rfl), List.forall_mem_cons.mpr ⟨mc_X11_init_r1 _ (List.mem_of_getElem? (i := 1) rfl), List.forall_mem_cons.mpr ⟨mc_X11_init_r1 _ (List.mem_of_getElem? (i := 2) rfl), List.forall_mem_cons.mpr ⟨mc_X11_init_r3 _ (List.mem_of_getElem? (i := 16) rfl), List.forall_mem_cons.mpr ⟨mc_X11_init_r3 _ (List.mem_of_getElem? (i := 17) rfl), List.forall_mem_cons.mpr ⟨mc_X11_init_r3 _ (List.mem_of_getElem? (i := 18) rfl), List.forall_mem_cons.mpr ⟨mc_X11_init_r3 _ (List.mem_of_getElem? (i := 19) rfl), List.forall_mem_cons.mpr ⟨mc_X11_init_r2 _ (List.mem_of_getElem? (i := 19) rfl), List.forall_mem_cons.mpr ⟨mc_X11_init_r3 _ (List.mem_of_getElem? (i := 20) rfl), List.forall_mem_cons.mpr ⟨mc_X11_init_r3 _ (List.mem_of_getElem? (i := 21) rfl), List.forall_mem_cons.mpr ⟨mc_X11_init_r3 _ (List.mem_of_getElem? (i := 22) rfl), List.forall_mem_cons.mpr ⟨mc_X11_init_r3 _ (List.mem_of_getElem? (i := 23) rfl), List.forall_mem_cons.mpr ⟨mc_X11_init_r4 _ (List.mem_of_getElem? (i := 0) rfl), List.forall_mem_cons.mpr ⟨mc_X11_init_r4 _ (List.mem_of_getElem? (i := 1) rfl), List.forall_mem_cons.mpr ⟨mc_X11_init_r4 _ (List.mem_of_getElem? (i := 2) rfl), List.forall_mem_cons.mpr ⟨mc_X11_init_r4 _ (List.mem_of_getElem? (i := 3) rfl), List.forall_mem_cons.mpr ⟨mc_X11_init_r4 _ (List.mem_of_getElem? (i := 4) rfl), fun _ h => absurd h List.not_mem_nil⟩⟩⟩⟩⟩⟩⟩⟩⟩⟩⟩⟩⟩⟩⟩⟩⟩, tl_X11_init_X10⟩, tl_X11_init_X6⟩⟩) (by decide +kernel)
set_option maxRecDepth 20000 in
theorem gX11_init_X6_init_n32 : GoodIn wsX11_init (wsX6_init) := ggX11_init_X6_init
set_option maxRecDepth 20000 in
theorem ggX11_init_X7_init : GoodIn wsX11_init wsX7_init := goodIn_sub (List.forall_mem_cons.mpr ⟨mc_X11_init_r4 _ (List.mem_of_getElem? (i := 6) rfl), List.forall_mem_append.mpr ⟨List.forall_mem_cons.mpr ⟨mc_X11_init_r4 _ (List.mem_of_getElem? (i := 7) rfl), List.forall_mem_cons.mpr ⟨mc_X11_init_r1 _ (List.mem_of_getElem? (i := 1) rfl), List.forall_mem_cons.mpr ⟨mc_X11_init_r1 _ (List.mem_of_getElem? (i := 2) rfl), List.forall_mem_cons.mpr ⟨mc_X11_init_r2 _ (List.mem_of_getElem? (i := 19) rfl), List.forall_mem_cons.mpr ⟨mc_X11_init_r4 _ (List.mem_of_getElem? (i := 8) rfl), List.forall_mem_cons.mpr ⟨mc_X11_init_r4 _ (List.mem_of_getElem? (i := 9) rfl), List.forall_mem_cons.mpr ⟨mc_X11_init_r4 _ (List.mem_of_getElem? (i := 10) rfl), List.forall_mem_cons.mpr ⟨mc_X11_init_r4 _ (List.mem_of_getElem? (i := 11) rfl), List.forall_mem_cons.mpr ⟨mc_X11_init_r4 _ (List.mem_of_getElem? (i := 12) rfl), fun _ h => absurd h List.not_mem_nil⟩⟩⟩⟩⟩⟩⟩⟩⟩, tl_X11_init_X7⟩⟩) (by decide +kernel)
set_option maxRecDepth 20000 in
theorem gX11_init_X7_init_n39 : GoodIn wsX11_init (wsX7_init) := ggX11_init_X7_init
set_option maxRecDepth 20000 in
theorem ggX11_init_X5_init : GoodIn wsX11_init wsX5_init := goodIn_sub (List.forall_mem_cons.mpr ⟨mc_X11_init_r4 _ (List.mem_of_getElem? (i := 14) rfl), List.forall_mem_append.mpr ⟨List.forall_mem_cons.mpr ⟨mc_X11_init_r4 _ (List.mem_of_getElem? (i := 15) rfl), List.forall_mem_cons.mpr ⟨mc_X11_init_r1 _ (List.mem_of_getElem? (i := 1) rfl), List.forall_mem_cons.mpr ⟨mc_X11_init_r1 _ (List.mem_of_getElem? (i := 2) rfl), List.forall_mem_cons.mpr ⟨mc_X11_init_r4 _ (List.mem_of_getElem? (i := 16) rfl), List.forall_mem_cons.mpr ⟨mc_X11_init_r4 _ (List.mem_of_getElem? (i := 17) rfl), List.forall_mem_cons.mpr ⟨mc_X11_init_r2 _ (List.mem_of_getElem? (i := 19) rfl), List.forall_mem_cons.mpr ⟨mc_X11_init_r4 _ (List.mem_of_getElem? (i := 18) rfl), List.forall_mem_cons.mpr ⟨mc_X11_init_r4 _ (List.mem_of_getElem? (i := 19) rfl), List.forall_mem_cons.mpr ⟨mc_X11_init_r4 _ (List.mem_of_getElem? (i := 20) rfl), List.forall_mem_cons.mpr ⟨mc_X11_init_r4 _ (List.mem_of_getElem? (i := 21) rfl), List.forall_mem_cons.mpr ⟨mc_X11_init_r4 _ (List.mem_of_getElem? (i := 22) rfl), fun _ h => absurd h List.not_mem_nil⟩⟩⟩⟩⟩⟩⟩⟩⟩⟩⟩, tl_X11_init_X5⟩⟩) (by decide +kernel)
set_option maxRecDepth 20000 in
theorem gX11_init_X5_init_n46 : GoodIn wsX11_init (wsX5_init) := ggX11_init_X5_init
set_option maxRecDepth 20000 in
theorem ggX11_init_X2_init : GoodIn wsX11_init wsX2_init := goodIn_sub (List.forall_mem_cons.mpr ⟨mc_X11_init_r5 _ (List.mem_of_getElem? (i := 0) rfl), List.forall_mem_append.mpr ⟨List.forall_mem_append.mpr ⟨List.forall_mem_cons.mpr ⟨mc_X11_init_r5 _ (List.mem_of_getElem? (i := 1) rfl), List.forall_mem_cons.mpr ⟨mc_X11_init_r1 _ (List.mem_of_getElem? (i := 1) rfl), List.forall_mem_cons.mpr ⟨mc_X11_init_r1 _ (List.mem_of_getElem? (i := 2) rfl), List.forall_mem_cons.mpr ⟨mc_X11_init_r5 _ (List.mem_of_getElem? (i := 2) rfl), List.forall_mem_cons.mpr ⟨mc_X11_init_r2 _ (List.mem_of_getElem? (i := 12) rfl), List.forall_mem_cons.mpr ⟨mc_X11_init_r2 _ (List.mem_of_getElem? (i := 13) rfl), List.forall_mem_cons.mpr ⟨mc_X11_init_r5 _ (List.mem_of_getElem? (i := 3) rfl), List.forall_mem_cons.mpr ⟨mc_X11_init_r2 _ (List.mem_of_getElem? (i := 19) rfl), List.forall_mem_cons.mpr ⟨mc_X11_init_r5 _ (List.mem_of_getElem? (i := 4) rfl), List.forall_mem_cons.mpr ⟨mc_X11_init_r5 _ (List.mem_of_getElem? (i := 5) rfl), List.forall_mem_cons.mpr ⟨mc_X11_init_r5 _ (List.mem_of_getElem? (i := 6) rfl), List.forall_mem_cons.mpr ⟨mc_X11_init_r5 _ (List.mem_of_getElem? (i := 7) rfl), List.forall_mem_cons.mpr ⟨mc_X11_init_r5 _ (List.mem_of_getElem? (i := 8) rfl), List.forall_mem_cons.mpr ⟨mc_X11_init_r5 _ (List.mem_of_getElem? (i := 9) rfl), List.forall_mem_cons.mpr ⟨mc_X11_init_r5 _ (List.mem_of_getElem? (i := 10) rfl), List.forall_mem_cons.mpr ⟨mc_X11_init_r5 _ (List.mem_of_getElem? (i := 11) rfl), List.forall_mem_cons.mpr ⟨mc_X11_init_r5 _ (List.mem_of_getElem? (i := 12) rfl), List.forall_mem_cons.mpr ⟨mc_X11_init_r5 _ (List.mem_of_getElem? (i := 13) rfl), List.forall_mem_cons.mpr ⟨mc_X11_init_r5 _ (List.mem_of_getElem? (i := 14) rfl), fun _ h => absurd h List.not_mem_nil⟩⟩⟩⟩⟩⟩⟩⟩⟩⟩⟩⟩⟩⟩⟩⟩⟩⟩⟩, tl_X11_init_X1⟩, tl_X11_init_X2⟩⟩) (by decide +kernel)
set_option maxRecDepth 20000 in
theorem gX11_init_X2_init_n53 : GoodIn wsX11_init (wsX2_init) := ggX11_init_X2_init
set_option maxRecDepth 20000 in
theorem ggX11_init_X4_init : GoodIn wsX11_init wsX4_init := goodIn_sub (List.forall_mem_cons.mpr ⟨mc_X11_init_r5 _ (List.mem_of_getElem? (i := 16) rfl), List.forall_mem_append.mpr ⟨List.forall_mem_cons.mpr ⟨mc_X11_init_r5 _ (List.mem_of_getElem? (i := 17) rfl), List.forall_mem_cons.mpr ⟨mc_X11_init_r1 _ (List.mem_of_getElem? (i := 1) rfl), List.forall_mem_cons.mpr ⟨mc_X11_init_r1 _ (List.mem_of_getElem? (i := 2) rfl), List.forall_mem_cons.mpr ⟨mc_X11_init_r4 _ (List.mem_of_getElem? (i := 16) rfl), List.forall_mem_cons.mpr ⟨mc_X11_init_r5 _ (List.mem_of_getElem? (i := 18) rfl), List.forall_mem_cons.mpr ⟨mc_X11_init_r5 _ (List.mem_of_getElem? (i := 19) rfl), List.forall_mem_cons.mpr ⟨mc_X11_init_r2 _ (List.mem_of_getElem? (i := 19) rfl), List.forall_mem_cons.mpr ⟨mc_X11_init_r5 _ (List.mem_of_getElem? (i := 20) rfl), List.forall_mem_cons.mpr ⟨mc_X11_init_r5 _ (List.mem_of_getElem? (i := 21) rfl), List.forall_mem_cons.mpr ⟨mc_X11_init_r5 _ (List.mem_of_getElem? (i := 22) rfl), List.forall_mem_cons.mpr ⟨mc_X11_init_r5 _ (List.mem_of_getElem? (i := 23) rfl), List.forall_mem_cons.mpr ⟨mc_X11_init_r6 _ (List.mem_of_getElem? (i := 0) rfl), List.forall_mem_cons.mpr ⟨mc_X11_init_r6 _ (List.mem_of_getElem? (i := 1) rfl), List.forall_mem_cons.mpr ⟨mc_X11_init_r6 _ (List.mem_of_getElem? (i := 2) rfl), fun _ h => absurd h List.not_mem_nil⟩⟩⟩⟩⟩⟩⟩⟩⟩⟩⟩⟩⟩⟩, tl_X11_init_X4⟩⟩) (by decide +kernel)
set_option maxRecDepth 20000 in
theorem gX11_init_X4_init_n60 : GoodIn wsX11_init (wsX4_init) := ggX11_init_X4_init
set_option maxRecDepth 20000 in
theorem ggX11_init_X1_init : GoodIn wsX11_init wsX1_init := goodIn_sub (List.forall_mem_cons.mpr ⟨mc_X11_init_r5 _ (List.mem_of_getElem? (i := 7) rfl), List.forall_mem_append.mpr ⟨List.forall_mem_cons.mpr ⟨mc_X11_init_r5 _ (List.mem_of_getElem? (i := 8) rfl), List.forall_mem_cons.mpr ⟨mc_X11_init_r1 _ (List.mem_of_getElem? (i := 1) rfl), List.forall_mem_cons.mpr ⟨mc_X11_init_r1 _ (List.mem_of_getElem? (i := 2) rfl), List.forall_mem_cons.mpr ⟨mc_X11_init_r5 _ (List.mem_of_getElem? (i := 9) rfl), List.forall_mem_cons.mpr ⟨mc_X11_init_r5 _ (List.mem_of_getElem? (i := 10) rfl), List.forall_mem_cons.mpr ⟨mc_X11_init_r5 _ (List.mem_of_getElem? (i := 11) rfl), List.forall_mem_cons.mpr ⟨mc_X11_init_r5 _ (List.mem_of_getElem? (i := 12) rfl), List.forall_mem_cons.mpr ⟨mc_X11_init_r5 _ (List.mem_of_getElem? (i := 13) rfl), List.forall_mem_cons.mpr ⟨mc_X11_init_r2 _ (List.mem_of_getElem? (i := 19) rfl), List.forall_mem_cons.mpr ⟨mc_X11_init_r5 _ (List.mem_of_getElem? (i := 14) rfl), fun _ h => absurd h List.not_mem_nil⟩⟩⟩⟩⟩⟩⟩⟩⟩⟩, tl_X11_init_X1⟩⟩) (by decide +kernel)
set_option maxRecDepth 20000 in
theorem gX11_init_X1_init : GoodIn wsX11_init (wsX1_init) := ggX11_init_X1_init
theorem dX11_init_0 : decode cX11_init 0 = .ok (.aload_n 0, 1) := by decide +kernel
theorem dX11_init_1 : decode cX11_init 1 = .ok (.invokespecial 1, 3) := by decide +kernel
theorem dX11_init_4 : decode cX11_init 4 = .ok (.aload_n 0, 1) := by decide +kernel
theorem dX11_init_5 : decode cX11_init 5 = .ok (.new 7, 3) := by decide +kernel
theorem dX11_init_8 : decode cX11_init 8 = .ok (.dup, 1) := by decide +kernel
theorem dX11_init_9 : decode cX11_init 9 = .ok (.invokespecial 9, 3) := by decide +kernel
theorem dX11_init_12 : decode cX11_init 12 = .ok (.putfield 10, 3) := by decide +kernel
theorem dX11_init_15 : decode cX11_init 15 = .ok (.aload_n 0, 1) := by decide +kernel
theorem dX11_init_16 : decode cX11_init 16 = .ok (.new 16, 3) := by decide +kernel
theorem dX11_init_19 : decode cX11_init 19 = .ok (.dup, 1) := by decide +kernel
theorem dX11_init_20 : decode cX11_init 20 = .ok (.invokespecial 18, 3) := by decide +kernel
theorem dX11_init_23 : decode cX11_init 23 = .ok (.putfield 19, 3) := by decide +kernel
theorem dX11_init_26 : decode cX11_init 26 = .ok (.aload_n 0, 1) := by decide +kernel
theorem dX11_init_27 : decode cX11_init 27 = .ok (.new 23, 3) := by decide +kernel
theorem dX11_init_30 : decode cX11_init 30 = .ok (.dup, 1) := by decide +kernel
theorem dX11_init_31 : decode cX11_init 31 = .ok (.invokespecial 25, 3) := by decide +kernel
theorem dX11_init_34 : decode cX11_init 34 = .ok (.putfield 26, 3) := by decide +kernel
theorem dX11_init_37 : decode cX11_init 37 = .ok (.aload_n 0, 1) := by decide +kernel
theorem dX11_init_38 : decode cX11_init 38 = .ok (.new 30, 3) := by decide +kernel
theorem dX11_init_41 : decode cX11_init 41 = .ok (.dup, 1) := by decide +kernel
theorem dX11_init_42 : decode cX11_init 42 = .ok (.invokespecial 32, 3) := by decide +kernel
theorem dX11_init_45 : decode cX11_init 45 = .ok (.putfield 33, 3) := by decide +kernel
theorem dX11_init_48 : decode cX11_init 48 = .ok (.aload_n 0, 1) := by decide +kernel
theorem dX11_init_49 : decode cX11_init 49 = .ok (.new 37, 3) := by decide +kernel
theorem dX11_init_52 : decode cX11_init 52 = .ok (.dup, 1) := by decide +kernel
theorem dX11_init_53 : decode cX11_init 53 = .ok (.invokespecial 39, 3) := by decide +kernel
theorem dX11_init_56 : decode cX11_init 56 = .ok (.putfield 40, 3) := by decide +kernel
theorem dX11_init_59 : decode cX11_init 59 = .ok (.aload_n 0, 1) := by decide +kernel
theorem dX11_init_60 : decode cX11_init 60 = .ok (.new 44, 3) := by decide +kernel
theorem dX11_init_63 : decode cX11_init 63 = .ok (.dup, 1) := by decide +kernel
theorem dX11_init_64 : decode cX11_init 64 = .ok (.invokespecial 46, 3) := by decide +kernel
theorem dX11_init_67 : decode cX11_init 67 = .ok (.putfield 47, 3) := by decide +kernel
theorem dX11_init_70 : decode cX11_init 70 = .ok (.aload_n 0, 1) := by decide +kernel
theorem dX11_init_71 : decode cX11_init 71 = .ok (.new 51, 3) := by decide +kernel
theorem dX11_init_74 : decode cX11_init 74 = .ok (.dup, 1) := by decide +kernel
theorem dX11_init_75 : decode cX11_init 75 = .ok (.invokespecial 53, 3) := by decide +kernel
theorem dX11_init_78 : decode cX11_init 78 = .ok (.putfield 54, 3) := by decide +kernel
theorem dX11_init_81 : decode cX11_init 81 = .ok (.aload_n 0, 1) := by decide +kernel

