theorem dX4_init_60 : decode cX4_init 60 = .ok (.aload_n 0, 1) := by decide +kernel
theorem dX4_init_61 : decode cX4_init 61 = .ok (.bipush 40, 2) := by decide +kernel
theorem dX4_init_63 : decode cX4_init 63 = .ok (.newarray .int, 2) := by decide +kernel
theorem dX4_init_65 : decode cX4_init 65 = .ok (.putfield 34, 3) := by decide +kernel
theorem dX4_init_68 : decode cX4_init 68 = .ok (.aload_n 0, 1) := by decide +kernel
theorem dX4_init_69 : decode cX4_init 69 = .ok (.bipush 40, 2) := by decide +kernel
theorem dX4_init_71 : decode cX4_init 71 = .ok (.newarray .int, 2) := by decide +kernel
theorem dX4_init_73 : decode cX4_init 73 = .ok (.putfield 37, 3) := by decide +kernel
theorem dX4_init_76 : decode cX4_init 76 = .ok (.return_, 1) := by decide +kernel
theorem dX4_size_0 : decode cX4_size 0 = .ok (.aload_n 0, 1) := by decide +kernel
theorem dX4_size_1 : decode cX4_size 1 = .ok (.getfield 40, 3) := by decide +kernel
theorem dX4_size_4 : decode cX4_size 4 = .ok (.ireturn, 1) := by decide +kernel
theorem dX4_has_0 : decode cX4_has 0 = .ok (.iload_n 1, 1) := by decide +kernel
theorem dX4_has_1 : decode cX4_has 1 = .ok (.ifCond .lt 15, 3) := by decide +kernel
theorem dX4_has_4 : decode cX4_has 4 = .ok (.iload_n 1, 1) := by decide +kernel
theorem dX4_has_5 : decode cX4_has 5 = .ok (.aload_n 0, 1) := by decide +kernel
theorem dX4_has_6 : decode cX4_has 6 = .ok (.getfield 40, 3) := by decide +kernel
theorem dX4_has_9 : decode cX4_has 9 = .ok (.if_icmp .ge 7, 3) := by decide +kernel
theorem dX4_has_12 : decode cX4_has 12 = .ok (.iconst 1, 1) := by decide +kernel
theorem dX4_has_13 : decode cX4_has 13 = .ok (.goto 4, 3) := by decide +kernel
theorem dX4_has_16 : decode cX4_has 16 = .ok (.iconst 0, 1) := by decide +kernel
theorem dX4_has_17 : decode cX4_has 17 = .ok (.ireturn, 1) := by decide +kernel
theorem dX4_enter_0 : decode cX4_enter 0 = .ok (.aload_n 0, 1) := by decide +kernel
theorem dX4_enter_1 : decode cX4_enter 1 = .ok (.getfield 40, 3) := by decide +kernel
theorem dX4_enter_4 : decode cX4_enter 4 = .ok (.bipush 40, 2) := by decide +kernel
theorem dX4_enter_6 : decode cX4_enter 6 = .ok (.if_icmp .lt 5, 3) := by decide +kernel
theorem dX4_enter_9 : decode cX4_enter 9 = .ok (.iconst (-1), 1) := by decide +kernel
theorem dX4_enter_10 : decode cX4_enter 10 = .ok (.ireturn, 1) := by decide +kernel
theorem dX4_enter_11 : decode cX4_enter 11 = .ok (.aload_n 0, 1) := by decide +kernel
theorem dX4_enter_12 : decode cX4_enter 12 = .ok (.getfield 11, 3) := by decide +kernel
theorem dX4_enter_15 : decode cX4_enter 15 = .ok (.aload_n 0, 1) := by decide +kernel
theorem dX4_enter_16 : decode cX4_enter 16 = .ok (.getfield 40, 3) := by decide +kernel
theorem dX4_enter_19 : decode cX4_enter 19 = .ok (.iload_n 1, 1) := by decide +kernel
theorem dX4_enter_20 : decode cX4_enter 20 = .ok (.bastore, 1) := by decide +kernel
theorem dX4_enter_21 : decode cX4_enter 21 = .ok (.aload_n 0, 1) := by decide +kernel
theorem dX4_enter_22 : decode cX4_enter 22 = .ok (.getfield 18, 3) := by decide +kernel
theorem dX4_enter_25 : decode cX4_enter 25 = .ok (.aload_n 0, 1) := by decide +kernel
theorem dX4_enter_26 : decode cX4_enter 26 = .ok (.getfield 40, 3) := by decide +kernel
theorem dX4_enter_29 : decode cX4_enter 29 = .ok (.iload_n 2, 1) := by decide +kernel
theorem dX4_enter_30 : decode cX4_enter 30 = .ok (.iastore, 1) := by decide +kernel
theorem dX4_enter_31 : decode cX4_enter 31 = .ok (.aload_n 0, 1) := by decide +kernel
theorem dX4_enter_32 : decode cX4_enter 32 = .ok (.getfield 15, 3) := by decide +kernel
theorem dX4_enter_35 : decode cX4_enter 35 = .ok (.aload_n 0, 1) := by decide +kernel
theorem dX4_enter_36 : decode cX4_enter 36 = .ok (.getfield 40, 3) := by decide +kernel
theorem dX4_enter_39 : decode cX4_enter 39 = .ok (.iload_n 3, 1) := by decide +kernel
theorem dX4_enter_40 : decode cX4_enter 40 = .ok (.bastore, 1) := by decide +kernel
theorem dX4_enter_41 : decode cX4_enter 41 = .ok (.aload_n 0, 1) := by decide +kernel
theorem dX4_enter_42 : decode cX4_enter 42 = .ok (.dup, 1) := by decide +kernel
theorem dX4_enter_43 : decode cX4_enter 43 = .ok (.getfield 40, 3) := by decide +kernel
theorem dX4_enter_46 : decode cX4_enter 46 = .ok (.iconst 1, 1) := by decide +kernel
theorem dX4_enter_47 : decode cX4_enter 47 = .ok (.iadd, 1) := by decide +kernel
theorem dX4_enter_48 : decode cX4_enter 48 = .ok (.putfield 40, 3) := by decide +kernel
theorem dX4_enter_51 : decode cX4_enter 51 = .ok (.aload_n 0, 1) := by decide +kernel
theorem dX4_enter_52 : decode cX4_enter 52 = .ok (.getfield 40, 3) := by decide +kernel
theorem dX4_enter_55 : decode cX4_enter 55 = .ok (.iconst 1, 1) := by decide +kernel
theorem dX4_enter_56 : decode cX4_enter 56 = .ok (.isub, 1) := by decide +kernel
theorem dX4_enter_57 : decode cX4_enter 57 = .ok (.ireturn, 1) := by decide +kernel
theorem dX4_spare_0 : decode cX4_spare 0 = .ok (.aload_n 0, 1) := by decide +kernel
theorem dX4_spare_1 : decode cX4_spare 1 = .ok (.getfield 44, 3) := by decide +kernel
theorem dX4_spare_4 : decode cX4_spare 4 = .ok (.bipush 40, 2) := by decide +kernel
theorem dX4_spare_6 : decode cX4_spare 6 = .ok (.if_icmp .lt 5, 3) := by decide +kernel
theorem dX4_spare_9 : decode cX4_spare 9 = .ok (.iconst (-1), 1) := by decide +kernel
theorem dX4_spare_10 : decode cX4_spare 10 = .ok (.ireturn, 1) := by decide +kernel
theorem dX4_spare_11 : decode cX4_spare 11 = .ok (.aload_n 0, 1) := by decide +kernel
theorem dX4_spare_12 : decode cX4_spare 12 = .ok (.getfield 31, 3) := by decide +kernel
theorem dX4_spare_15 : decode cX4_spare 15 = .ok (.aload_n 0, 1) := by decide +kernel
theorem dX4_spare_16 : decode cX4_spare 16 = .ok (.getfield 44, 3) := by decide +kernel
theorem dX4_spare_19 : decode cX4_spare 19 = .ok (.iload_n 1, 1) := by decide +kernel
theorem dX4_spare_20 : decode cX4_spare 20 = .ok (.iastore, 1) := by decide +kernel
theorem dX4_spare_21 : decode cX4_spare 21 = .ok (.aload_n 0, 1) := by decide +kernel
theorem dX4_spare_22 : decode cX4_spare 22 = .ok (.getfield 34, 3) := by decide +kernel
theorem dX4_spare_25 : decode cX4_spare 25 = .ok (.aload_n 0, 1) := by decide +kernel
theorem dX4_spare_26 : decode cX4_spare 26 = .ok (.getfield 44, 3) := by decide +kernel
theorem dX4_spare_29 : decode cX4_spare 29 = .ok (.iload_n 2, 1) := by decide +kernel
theorem dX4_spare_30 : decode cX4_spare 30 = .ok (.iastore, 1) := by decide +kernel
theorem dX4_spare_31 : decode cX4_spare 31 = .ok (.aload_n 0, 1) := by decide +kernel
theorem dX4_spare_32 : decode cX4_spare 32 = .ok (.getfield 37, 3) := by decide +kernel
theorem dX4_spare_35 : decode cX4_spare 35 = .ok (.aload_n 0, 1) := by decide +kernel
theorem dX4_spare_36 : decode cX4_spare 36 = .ok (.getfield 44, 3) := by decide +kernel
theorem dX4_spare_39 : decode cX4_spare 39 = .ok (.iload_n 3, 1) := by decide +kernel
theorem dX4_spare_40 : decode cX4_spare 40 = .ok (.iastore, 1) := by decide +kernel
theorem dX4_spare_41 : decode cX4_spare 41 = .ok (.aload_n 0, 1) := by decide +kernel
theorem dX4_spare_42 : decode cX4_spare 42 = .ok (.dup, 1) := by decide +kernel
theorem dX4_spare_43 : decode cX4_spare 43 = .ok (.getfield 44, 3) := by decide +kernel
theorem dX4_spare_46 : decode cX4_spare 46 = .ok (.iconst 1, 1) := by decide +kernel
theorem dX4_spare_47 : decode cX4_spare 47 = .ok (.iadd, 1) := by decide +kernel
theorem dX4_spare_48 : decode cX4_spare 48 = .ok (.putfield 44, 3) := by decide +kernel
theorem dX4_spare_51 : decode cX4_spare 51 = .ok (.aload_n 0, 1) := by decide +kernel
theorem dX4_spare_52 : decode cX4_spare 52 = .ok (.getfield 44, 3) := by decide +kernel
theorem dX4_spare_55 : decode cX4_spare 55 = .ok (.ireturn, 1) := by decide +kernel
set_option maxRecDepth 20000 in
theorem ggX4_figure_X4_has : GoodIn wsX4_figure wsX4_has := goodIn_sub (List.forall_mem_cons.mpr ⟨List.mem_cons_of_mem _ (List.mem_append_left _ (List.mem_of_getElem? (i := 7) rfl)), List.forall_mem_append.mpr ⟨List.forall_mem_cons.mpr ⟨List.mem_cons_of_mem _ (List.mem_append_left _ (List.mem_of_getElem? (i := 8) rfl)), fun _ h => absurd h List.not_mem_nil⟩, tl_X4_figure_X4⟩⟩) (by decide +kernel)
set_option maxRecDepth 20000 in
theorem gX4_figure_X4_has : GoodIn wsX4_figure (wsV RX4 47 RX4 yX4_has wsX4_has) := goodIn_app (goodIn_sub (List.forall_mem_cons.mpr ⟨List.mem_cons_of_mem _ (List.mem_append_left _ (List.mem_of_getElem? (i := 3) rfl)), List.forall_mem_cons.mpr ⟨List.mem_cons_of_mem _ (List.mem_append_left _ (List.mem_of_getElem? (i := 4) rfl)), List.forall_mem_cons.mpr ⟨List.mem_cons_of_mem _ (List.mem_append_left _ (List.mem_of_getElem? (i := 5) rfl)), List.forall_mem_cons.mpr ⟨List.mem_cons_of_mem _ (List.mem_append_left _ (List.mem_of_getElem? (i := 6) rfl)), fun _ h => absurd h List.not_mem_nil⟩⟩⟩⟩) (by decide +kernel)) ggX4_figure_X4_has
theorem dX4_figure_0 : decode cX4_figure 0 = .ok (.aload_n 0, 1) := by decide +kernel
theorem dX4_figure_1 : decode cX4_figure 1 = .ok (.iload_n 1, 1) := by decide +kernel
theorem dX4_figure_2 : decode cX4_figure 2 = .ok (.invokevirtual 47, 3) := by decide +kernel
theorem dX4_figure_5 : decode cX4_figure 5 = .ok (.ifCond .ne 5, 3) := by decide +kernel
theorem dX4_figure_8 : decode cX4_figure 8 = .ok (.iconst (-1), 1) := by decide +kernel
theorem dX4_figure_9 : decode cX4_figure 9 = .ok (.ireturn, 1) := by decide +kernel
theorem dX4_figure_10 : decode cX4_figure 10 = .ok (.iload_n 2, 1) := by decide +kernel
theorem dX4_figure_11 : decode cX4_figure 11 = .ok (.tableswitch 46 0 2 #[25, 32, 39], 25) := by decide +kernel
theorem dX4_figure_36 : decode cX4_figure 36 = .ok (.aload_n 0, 1) := by decide +kernel
theorem dX4_figure_37 : decode cX4_figure 37 = .ok (.getfield 22, 3) := by decide +kernel
theorem dX4_figure_40 : decode cX4_figure 40 = .ok (.iload_n 1, 1) := by decide +kernel
theorem dX4_figure_41 : decode cX4_figure 41 = .ok (.iaload, 1) := by decide +kernel
theorem dX4_figure_42 : decode cX4_figure 42 = .ok (.ireturn, 1) := by decide +kernel
theorem dX4_figure_43 : decode cX4_figure 43 = .ok (.aload_n 0, 1) := by decide +kernel
theorem dX4_figure_44 : decode cX4_figure 44 = .ok (.getfield 25, 3) := by decide +kernel
theorem dX4_figure_47 : decode cX4_figure 47 = .ok (.iload_n 1, 1) := by decide +kernel
theorem dX4_figure_48 : decode cX4_figure 48 = .ok (.iaload, 1) := by decide +kernel
theorem dX4_figure_49 : decode cX4_figure 49 = .ok (.ireturn, 1) := by decide +kernel
theorem dX4_figure_50 : decode cX4_figure 50 = .ok (.aload_n 0, 1) := by decide +kernel
theorem dX4_figure_51 : decode cX4_figure 51 = .ok (.getfield 28, 3) := by decide +kernel
theorem dX4_figure_54 : decode cX4_figure 54 = .ok (.iload_n 1, 1) := by decide +kernel
theorem dX4_figure_55 : decode cX4_figure 55 = .ok (.iaload, 1) := by decide +kernel
theorem dX4_figure_56 : decode cX4_figure 56 = .ok (.ireturn, 1) := by decide +kernel
theorem dX4_figure_57 : decode cX4_figure 57 = .ok (.iconst (-1), 1) := by decide +kernel
theorem dX4_figure_58 : decode cX4_figure 58 = .ok (.ireturn, 1) := by decide +kernel
set_option maxRecDepth 20000 in
theorem ggX4_fallDue_X4_isDue : GoodIn wsX4_fallDue wsX4_isDue := goodIn_sub (List.forall_mem_cons.mpr ⟨List.mem_cons_of_mem _ (List.mem_append_left _ (List.mem_of_getElem? (i := 8) rfl)), List.forall_mem_append.mpr ⟨List.forall_mem_cons.mpr ⟨List.mem_cons_of_mem _ (List.mem_append_left _ (List.mem_of_getElem? (i := 9) rfl)), List.forall_mem_cons.mpr ⟨List.mem_cons_of_mem _ (List.mem_append_left _ (List.mem_of_getElem? (i := 10) rfl)), fun _ h => absurd h List.not_mem_nil⟩⟩, tl_X4_fallDue_X4⟩⟩) (by decide +kernel)
set_option maxRecDepth 20000 in
theorem gX4_fallDue_X4_isDue : GoodIn wsX4_fallDue (wsV RX4 51 RX4 yX4_isDue wsX4_isDue) := goodIn_app (goodIn_sub (List.forall_mem_cons.mpr ⟨List.mem_cons_of_mem _ (List.mem_append_left _ (List.mem_of_getElem? (i := 4) rfl)), List.forall_mem_cons.mpr ⟨List.mem_cons_of_mem _ (List.mem_append_left _ (List.mem_of_getElem? (i := 5) rfl)), List.forall_mem_cons.mpr ⟨List.mem_cons_of_mem _ (List.mem_append_left _ (List.mem_of_getElem? (i := 6) rfl)), List.forall_mem_cons.mpr ⟨List.mem_cons_of_mem _ (List.mem_append_left _ (List.mem_of_getElem? (i := 7) rfl)), fun _ h => absurd h List.not_mem_nil⟩⟩⟩⟩) (by decide +kernel)) ggX4_fallDue_X4_isDue
set_option maxRecDepth 20000 in
theorem ggX4_fallDue_X4_hasLeave : GoodIn wsX4_fallDue wsX4_hasLeave := goodIn_sub (List.forall_mem_cons.mpr ⟨List.mem_cons_of_mem _ (List.mem_append_left _ (List.mem_of_getElem? (i := 14) rfl)), List.forall_mem_append.mpr ⟨List.forall_mem_cons.mpr ⟨List.mem_cons_of_mem _ (List.mem_append_left _ (List.mem_of_getElem? (i := 15) rfl)), List.forall_mem_cons.mpr ⟨List.mem_cons_of_mem _ (List.mem_append_left _ (List.mem_of_getElem? (i := 16) rfl)), List.forall_mem_cons.mpr ⟨List.mem_cons_of_mem _ (List.mem_append_left _ (List.mem_of_getElem? (i := 17) rfl)), List.forall_mem_cons.mpr ⟨List.mem_cons_of_mem _ (List.mem_append_left _ (List.mem_of_getElem? (i := 18) rfl)), List.forall_mem_cons.mpr ⟨List.mem_cons_of_mem _ (List.mem_append_left _ (List.mem_of_getElem? (i := 19) rfl)), List.forall_mem_cons.mpr ⟨List.mem_cons_of_mem _ (List.mem_append_left _ (List.mem_of_getElem? (i := 20) rfl)), List.forall_mem_cons.mpr ⟨List.mem_cons_of_mem _ (List.mem_append_left _ (List.mem_of_getElem? (i := 21) rfl)), fun _ h => absurd h List.not_mem_nil⟩⟩⟩⟩⟩⟩⟩, tl_X4_fallDue_X4⟩⟩) (by decide +kernel)
set_option maxRecDepth 20000 in
theorem gX4_fallDue_X4_hasLeave : GoodIn wsX4_fallDue (wsV RX4 55 RX4 yX4_hasLeave wsX4_hasLeave) := goodIn_app (goodIn_sub (List.forall_mem_cons.mpr ⟨List.mem_cons_of_mem _ (List.mem_append_left _ (List.mem_of_getElem? (i := 11) rfl)), List.forall_mem_cons.mpr ⟨List.mem_cons_of_mem _ (List.mem_append_left _ (List.mem_of_getElem? (i := 12) rfl)), List.forall_mem_cons.mpr ⟨List.mem_cons_of_mem _ (List.mem_append_left _ (List.mem_of_getElem? (i := 13) rfl)), List.forall_mem_cons.mpr ⟨List.mem_cons_of_mem _ (List.mem_append_left _ (List.mem_of_getElem? (i := 7) rfl)), fun _ h => absurd h List.not_mem_nil⟩⟩⟩⟩) (by decide +kernel)) ggX4_fallDue_X4_hasLeave
theorem dX4_fallDue_0 : decode cX4_fallDue 0 = .ok (.iconst 0, 1) := by decide +kernel
theorem dX4_fallDue_1 : decode cX4_fallDue 1 = .ok (.istore_n 2, 1) := by decide +kernel
theorem dX4_fallDue_2 : decode cX4_fallDue 2 = .ok (.iload_n 2, 1) := by decide +kernel
theorem dX4_fallDue_3 : decode cX4_fallDue 3 = .ok (.aload_n 0, 1) := by decide +kernel
theorem dX4_fallDue_4 : decode cX4_fallDue 4 = .ok (.getfield 40, 3) := by decide +kernel
theorem dX4_fallDue_7 : decode cX4_fallDue 7 = .ok (.if_icmp .ge 65, 3) := by decide +kernel
theorem dX4_fallDue_10 : decode cX4_fallDue 10 = .ok (.aload_n 0, 1) := by decide +kernel
theorem dX4_fallDue_11 : decode cX4_fallDue 11 = .ok (.iload_n 2, 1) := by decide +kernel
theorem dX4_fallDue_12 : decode cX4_fallDue 12 = .ok (.iload_n 1, 1) := by decide +kernel
theorem dX4_fallDue_13 : decode cX4_fallDue 13 = .ok (.invokevirtual 51, 3) := by decide +kernel
theorem dX4_fallDue_16 : decode cX4_fallDue 16 = .ok (.ifCond .eq 50, 3) := by decide +kernel
theorem dX4_fallDue_19 : decode cX4_fallDue 19 = .ok (.aload_n 0, 1) := by decide +kernel
theorem dX4_fallDue_20 : decode cX4_fallDue 20 = .ok (.getfield 15, 3) := by decide +kernel
theorem dX4_fallDue_23 : decode cX4_fallDue 23 = .ok (.iload_n 2, 1) := by decide +kernel
theorem dX4_fallDue_24 : decode cX4_fallDue 24 = .ok (.baload, 1) := by decide +kernel
theorem dX4_fallDue_25 : decode cX4_fallDue 25 = .ok (.ifCond .eq 7, 3) := by decide +kernel
theorem dX4_fallDue_28 : decode cX4_fallDue 28 = .ok (.iconst 2, 1) := by decide +kernel
theorem dX4_fallDue_29 : decode cX4_fallDue 29 = .ok (.goto 4, 3) := by decide +kernel
theorem dX4_fallDue_32 : decode cX4_fallDue 32 = .ok (.iconst 1, 1) := by decide +kernel
theorem dX4_fallDue_33 : decode cX4_fallDue 33 = .ok (.istore_n 3, 1) := by decide +kernel
theorem dX4_fallDue_34 : decode cX4_fallDue 34 = .ok (.aload_n 0, 1) := by decide +kernel
theorem dX4_fallDue_35 : decode cX4_fallDue 35 = .ok (.iload_n 2, 1) := by decide +kernel
theorem dX4_fallDue_36 : decode cX4_fallDue 36 = .ok (.iload_n 1, 1) := by decide +kernel
theorem dX4_fallDue_37 : decode cX4_fallDue 37 = .ok (.invokevirtual 55, 3) := by decide +kernel
theorem dX4_fallDue_40 : decode cX4_fallDue 40 = .ok (.ifCond .eq 16, 3) := by decide +kernel
theorem dX4_fallDue_43 : decode cX4_fallDue 43 = .ok (.aload_n 0, 1) := by decide +kernel
theorem dX4_fallDue_44 : decode cX4_fallDue 44 = .ok (.getfield 28, 3) := by decide +kernel
theorem dX4_fallDue_47 : decode cX4_fallDue 47 = .ok (.iload_n 2, 1) := by decide +kernel
theorem dX4_fallDue_48 : decode cX4_fallDue 48 = .ok (.dup2, 1) := by decide +kernel
theorem dX4_fallDue_49 : decode cX4_fallDue 49 = .ok (.iaload, 1) := by decide +kernel
theorem dX4_fallDue_50 : decode cX4_fallDue 50 = .ok (.iload_n 3, 1) := by decide +kernel
theorem dX4_fallDue_51 : decode cX4_fallDue 51 = .ok (.iadd, 1) := by decide +kernel
theorem dX4_fallDue_52 : decode cX4_fallDue 52 = .ok (.iastore, 1) := by decide +kernel
theorem dX4_fallDue_53 : decode cX4_fallDue 53 = .ok (.goto 13, 3) := by decide +kernel
theorem dX4_fallDue_56 : decode cX4_fallDue 56 = .ok (.aload_n 0, 1) := by decide +kernel
theorem dX4_fallDue_57 : decode cX4_fallDue 57 = .ok (.getfield 22, 3) := by decide +kernel
theorem dX4_fallDue_60 : decode cX4_fallDue 60 = .ok (.iload_n 2, 1) := by decide +kernel
theorem dX4_fallDue_61 : decode cX4_fallDue 61 = .ok (.dup2, 1) := by decide +kernel
theorem dX4_fallDue_62 : decode cX4_fallDue 62 = .ok (.iaload, 1) := by decide +kernel
theorem dX4_fallDue_63 : decode cX4_fallDue 63 = .ok (.iload_n 3, 1) := by decide +kernel
theorem dX4_fallDue_64 : decode cX4_fallDue 64 = .ok (.iadd, 1) := by decide +kernel
theorem dX4_fallDue_65 : decode cX4_fallDue 65 = .ok (.iastore, 1) := by decide +kernel
theorem dX4_fallDue_66 : decode cX4_fallDue 66 = .ok (.iinc 2 1, 3) := by decide +kernel
theorem dX4_fallDue_69 : decode cX4_fallDue 69 = .ok (.goto (-67), 3) := by decide +kernel
theorem dX4_fallDue_72 : decode cX4_fallDue 72 = .ok (.return_, 1) := by decide +kernel
set_option maxRecDepth 20000 in
theorem ggX4_say_X4_mostOwed : GoodIn wsX4_say wsX4_mostOwed := goodIn_sub (List.forall_mem_cons.mpr ⟨List.mem_cons_of_mem _ (List.mem_append_left _ (List.mem_of_getElem? (i := 6) rfl)), List.forall_mem_append.mpr ⟨List.forall_mem_cons.mpr ⟨List.mem_cons_of_mem _ (List.mem_append_left _ (List.mem_of_getElem? (i := 7) rfl)), List.forall_mem_cons.mpr ⟨List.mem_cons_of_mem _ (List.mem_append_left _ (List.mem_of_getElem? (i := 0) rfl)), fun _ h => absurd h List.not_mem_nil⟩⟩, tl_X4_say_X4⟩⟩) (by decide +kernel)
set_option maxRecDepth 20000 in
theorem gX4_say_X4_mostOwed : GoodIn wsX4_say (wsV RX4 58 RX4 yX4_mostOwed wsX4_mostOwed) := goodIn_app (goodIn_sub (List.forall_mem_cons.mpr ⟨List.mem_cons_of_mem _ (List.mem_append_left _ (List.mem_of_getElem? (i := 2) rfl)), List.forall_mem_cons.mpr ⟨List.mem_cons_of_mem _ (List.mem_append_left _ (List.mem_of_getElem? (i := 3) rfl)), List.forall_mem_cons.mpr ⟨List.mem_cons_of_mem _ (List.mem_append_left _ (List.mem_of_getElem? (i := 4) rfl)), List.forall_mem_cons.mpr ⟨List.mem_cons_of_mem _ (List.mem_append_left _ (List.mem_of_getElem? (i := 5) rfl)), fun _ h => absurd h List.not_mem_nil⟩⟩⟩⟩) (by decide +kernel)) ggX4_say_X4_mostOwed
theorem dX4_say_0 : decode cX4_say 0 = .ok (.iconst 0, 1) := by decide +kernel
theorem dX4_say_1 : decode cX4_say 1 = .ok (.istore_n 2, 1) := by decide +kernel
theorem dX4_say_2 : decode cX4_say 2 = .ok (.iconst 0, 1) := by decide +kernel
theorem dX4_say_3 : decode cX4_say 3 = .ok (.istore_n 3, 1) := by decide +kernel
theorem dX4_say_4 : decode cX4_say 4 = .ok (.iload_n 3, 1) := by decide +kernel
theorem dX4_say_5 : decode cX4_say 5 = .ok (.iload_n 1, 1) := by decide +kernel
theorem dX4_say_6 : decode cX4_say 6 = .ok (.if_icmp .ge 48, 3) := by decide +kernel
theorem dX4_say_9 : decode cX4_say 9 = .ok (.aload_n 0, 1) := by decide +kernel
theorem dX4_say_10 : decode cX4_say 10 = .ok (.invokevirtual 58, 3) := by decide +kernel
theorem dX4_say_13 : decode cX4_say 13 = .ok (.istore 4, 2) := by decide +kernel
theorem dX4_say_15 : decode cX4_say 15 = .ok (.iload 4, 2) := by decide +kernel
theorem dX4_say_17 : decode cX4_say 17 = .ok (.iconst (-1), 1) := by decide +kernel
theorem dX4_say_18 : decode cX4_say 18 = .ok (.if_icmp .ne 5, 3) := by decide +kernel
theorem dX4_say_21 : decode cX4_say 21 = .ok (.iload_n 2, 1) := by decide +kernel
theorem dX4_say_22 : decode cX4_say 22 = .ok (.ireturn, 1) := by decide +kernel
theorem dX4_say_23 : decode cX4_say 23 = .ok (.aload_n 0, 1) := by decide +kernel
theorem dX4_say_24 : decode cX4_say 24 = .ok (.getfield 22, 3) := by decide +kernel
theorem dX4_say_27 : decode cX4_say 27 = .ok (.iload 4, 2) := by decide +kernel
theorem dX4_say_29 : decode cX4_say 29 = .ok (.dup2, 1) := by decide +kernel
theorem dX4_say_30 : decode cX4_say 30 = .ok (.iaload, 1) := by decide +kernel
theorem dX4_say_31 : decode cX4_say 31 = .ok (.iconst 1, 1) := by decide +kernel
theorem dX4_say_32 : decode cX4_say 32 = .ok (.isub, 1) := by decide +kernel
theorem dX4_say_33 : decode cX4_say 33 = .ok (.iastore, 1) := by decide +kernel
theorem dX4_say_34 : decode cX4_say 34 = .ok (.aload_n 0, 1) := by decide +kernel
theorem dX4_say_35 : decode cX4_say 35 = .ok (.getfield 25, 3) := by decide +kernel
theorem dX4_say_38 : decode cX4_say 38 = .ok (.iload 4, 2) := by decide +kernel
theorem dX4_say_40 : decode cX4_say 40 = .ok (.dup2, 1) := by decide +kernel
theorem dX4_say_41 : decode cX4_say 41 = .ok (.iaload, 1) := by decide +kernel
theorem dX4_say_42 : decode cX4_say 42 = .ok (.iconst 1, 1) := by decide +kernel
theorem dX4_say_43 : decode cX4_say 43 = .ok (.iadd, 1) := by decide +kernel
theorem dX4_say_44 : decode cX4_say 44 = .ok (.iastore, 1) := by decide +kernel
theorem dX4_say_45 : decode cX4_say 45 = .ok (.iinc 2 1, 3) := by decide +kernel
theorem dX4_say_48 : decode cX4_say 48 = .ok (.iinc 3 1, 3) := by decide +kernel
theorem dX4_say_51 : decode cX4_say 51 = .ok (.goto (-47), 3) := by decide +kernel
theorem dX4_say_54 : decode cX4_say 54 = .ok (.iload_n 2, 1) := by decide +kernel
theorem dX4_say_55 : decode cX4_say 55 = .ok (.ireturn, 1) := by decide +kernel
set_option maxRecDepth 20000 in
theorem ggX4_owedInAll_X4_sum : GoodIn wsX4_owedInAll wsX4_sum := goodIn_sub (List.forall_mem_cons.mpr ⟨List.mem_cons_of_mem _ (List.mem_append_left _ (List.mem_of_getElem? (i := 5) rfl)), List.forall_mem_append.mpr ⟨List.forall_mem_cons.mpr ⟨List.mem_cons_of_mem _ (List.mem_append_left _ (List.mem_of_getElem? (i := 6) rfl)), fun _ h => absurd h List.not_mem_nil⟩, tl_X4_owedInAll_X4⟩⟩) (by decide +kernel)
set_option maxRecDepth 20000 in
theorem gX4_owedInAll_X4_sum : GoodIn wsX4_owedInAll (wsV RX4 62 RX4 yX4_sum wsX4_sum) := goodIn_app (goodIn_sub (List.forall_mem_cons.mpr ⟨List.mem_cons_of_mem _ (List.mem_append_left _ (List.mem_of_getElem? (i := 1) rfl)), List.forall_mem_cons.mpr ⟨List.mem_cons_of_mem _ (List.mem_append_left _ (List.mem_of_getElem? (i := 2) rfl)), List.forall_mem_cons.mpr ⟨List.mem_cons_of_mem _ (List.mem_append_left _ (List.mem_of_getElem? (i := 3) rfl)), List.forall_mem_cons.mpr ⟨List.mem_cons_of_mem _ (List.mem_append_left _ (List.mem_of_getElem? (i := 4) rfl)), fun _ h => absurd h List.not_mem_nil⟩⟩⟩⟩) (by decide +kernel)) ggX4_owedInAll_X4_sum
theorem dX4_owedInAll_0 : decode cX4_owedInAll 0 = .ok (.aload_n 0, 1) := by decide +kernel
theorem dX4_owedInAll_1 : decode cX4_owedInAll 1 = .ok (.aload_n 0, 1) := by decide +kernel
theorem dX4_owedInAll_2 : decode cX4_owedInAll 2 = .ok (.getfield 22, 3) := by decide +kernel
theorem dX4_owedInAll_5 : decode cX4_owedInAll 5 = .ok (.invokevirtual 62, 3) := by decide +kernel
theorem dX4_owedInAll_8 : decode cX4_owedInAll 8 = .ok (.ireturn, 1) := by decide +kernel
set_option maxRecDepth 20000 in
theorem ggX4_saidInAll_X4_sum : GoodIn wsX4_saidInAll wsX4_sum := goodIn_sub (List.forall_mem_cons.mpr ⟨List.mem_cons_of_mem _ (List.mem_append_left _ (List.mem_of_getElem? (i := 5) rfl)), List.forall_mem_append.mpr ⟨List.forall_mem_cons.mpr ⟨List.mem_cons_of_mem _ (List.mem_append_left _ (List.mem_of_getElem? (i := 6) rfl)), fun _ h => absurd h List.not_mem_nil⟩, tl_X4_saidInAll_X4⟩⟩) (by decide +kernel)
set_option maxRecDepth 20000 in
theorem gX4_saidInAll_X4_sum : GoodIn wsX4_saidInAll (wsV RX4 62 RX4 yX4_sum wsX4_sum) := goodIn_app (goodIn_sub (List.forall_mem_cons.mpr ⟨List.mem_cons_of_mem _ (List.mem_append_left _ (List.mem_of_getElem? (i := 1) rfl)), List.forall_mem_cons.mpr ⟨List.mem_cons_of_mem _ (List.mem_append_left _ (List.mem_of_getElem? (i := 2) rfl)), List.forall_mem_cons.mpr ⟨List.mem_cons_of_mem _ (List.mem_append_left _ (List.mem_of_getElem? (i := 3) rfl)), List.forall_mem_cons.mpr ⟨List.mem_cons_of_mem _ (List.mem_append_left _ (List.mem_of_getElem? (i := 4) rfl)), fun _ h => absurd h List.not_mem_nil⟩⟩⟩⟩) (by decide +kernel)) ggX4_saidInAll_X4_sum
theorem dX4_saidInAll_0 : decode cX4_saidInAll 0 = .ok (.aload_n 0, 1) := by decide +kernel
theorem dX4_saidInAll_1 : decode cX4_saidInAll 1 = .ok (.aload_n 0, 1) := by decide +kernel
theorem dX4_saidInAll_2 : decode cX4_saidInAll 2 = .ok (.getfield 25, 3) := by decide +kernel
theorem dX4_saidInAll_5 : decode cX4_saidInAll 5 = .ok (.invokevirtual 62, 3) := by decide +kernel
theorem dX4_saidInAll_8 : decode cX4_saidInAll 8 = .ok (.ireturn, 1) := by decide +kernel
theorem dX4_sum_0 : decode cX4_sum 0 = .ok (.iconst 0, 1) := by decide +kernel
theorem dX4_sum_1 : decode cX4_sum 1 = .ok (.istore_n 2, 1) := by decide +kernel
theorem dX4_sum_2 : decode cX4_sum 2 = .ok (.iconst 0, 1) := by decide +kernel
theorem dX4_sum_3 : decode cX4_sum 3 = .ok (.istore_n 3, 1) := by decide +kernel
theorem dX4_sum_4 : decode cX4_sum 4 = .ok (.iload_n 3, 1) := by decide +kernel
theorem dX4_sum_5 : decode cX4_sum 5 = .ok (.aload_n 0, 1) := by decide +kernel
theorem dX4_sum_6 : decode cX4_sum 6 = .ok (.getfield 40, 3) := by decide +kernel
theorem dX4_sum_9 : decode cX4_sum 9 = .ok (.if_icmp .ge 15, 3) := by decide +kernel
theorem dX4_sum_12 : decode cX4_sum 12 = .ok (.iload_n 2, 1) := by decide +kernel
theorem dX4_sum_13 : decode cX4_sum 13 = .ok (.aload_n 1, 1) := by decide +kernel
theorem dX4_sum_14 : decode cX4_sum 14 = .ok (.iload_n 3, 1) := by decide +kernel
theorem dX4_sum_15 : decode cX4_sum 15 = .ok (.iaload, 1) := by decide +kernel
theorem dX4_sum_16 : decode cX4_sum 16 = .ok (.iadd, 1) := by decide +kernel
theorem dX4_sum_17 : decode cX4_sum 17 = .ok (.istore_n 2, 1) := by decide +kernel
theorem dX4_sum_18 : decode cX4_sum 18 = .ok (.iinc 3 1, 3) := by decide +kernel
theorem dX4_sum_21 : decode cX4_sum 21 = .ok (.goto (-17), 3) := by decide +kernel
theorem dX4_sum_24 : decode cX4_sum 24 = .ok (.iload_n 2, 1) := by decide +kernel
theorem dX4_sum_25 : decode cX4_sum 25 = .ok (.ireturn, 1) := by decide +kernel
theorem dX4_mostOwed_0 : decode cX4_mostOwed 0 = .ok (.iconst (-1), 1) := by decide +kernel
theorem dX4_mostOwed_1 : decode cX4_mostOwed 1 = .ok (.istore_n 1, 1) := by decide +kernel
theorem dX4_mostOwed_2 : decode cX4_mostOwed 2 = .ok (.iconst 0, 1) := by decide +kernel
theorem dX4_mostOwed_3 : decode cX4_mostOwed 3 = .ok (.istore_n 2, 1) := by decide +kernel
theorem dX4_mostOwed_4 : decode cX4_mostOwed 4 = .ok (.iload_n 2, 1) := by decide +kernel
theorem dX4_mostOwed_5 : decode cX4_mostOwed 5 = .ok (.aload_n 0, 1) := by decide +kernel
theorem dX4_mostOwed_6 : decode cX4_mostOwed 6 = .ok (.getfield 40, 3) := by decide +kernel
theorem dX4_mostOwed_9 : decode cX4_mostOwed 9 = .ok (.if_icmp .ge 40, 3) := by decide +kernel
theorem dX4_mostOwed_12 : decode cX4_mostOwed 12 = .ok (.aload_n 0, 1) := by decide +kernel
theorem dX4_mostOwed_13 : decode cX4_mostOwed 13 = .ok (.getfield 22, 3) := by decide +kernel
theorem dX4_mostOwed_16 : decode cX4_mostOwed 16 = .ok (.iload_n 2, 1) := by decide +kernel
theorem dX4_mostOwed_17 : decode cX4_mostOwed 17 = .ok (.iaload, 1) := by decide +kernel
theorem dX4_mostOwed_18 : decode cX4_mostOwed 18 = .ok (.ifCond .le 25, 3) := by decide +kernel
theorem dX4_mostOwed_21 : decode cX4_mostOwed 21 = .ok (.iload_n 1, 1) := by decide +kernel
theorem dX4_mostOwed_22 : decode cX4_mostOwed 22 = .ok (.iconst (-1), 1) := by decide +kernel
theorem dX4_mostOwed_23 : decode cX4_mostOwed 23 = .ok (.if_icmp .eq 18, 3) := by decide +kernel
theorem dX4_mostOwed_26 : decode cX4_mostOwed 26 = .ok (.aload_n 0, 1) := by decide +kernel
theorem dX4_mostOwed_27 : decode cX4_mostOwed 27 = .ok (.getfield 22, 3) := by decide +kernel
theorem dX4_mostOwed_30 : decode cX4_mostOwed 30 = .ok (.iload_n 2, 1) := by decide +kernel
theorem dX4_mostOwed_31 : decode cX4_mostOwed 31 = .ok (.iaload, 1) := by decide +kernel
theorem dX4_mostOwed_32 : decode cX4_mostOwed 32 = .ok (.aload_n 0, 1) := by decide +kernel
theorem dX4_mostOwed_33 : decode cX4_mostOwed 33 = .ok (.getfield 22, 3) := by decide +kernel
theorem dX4_mostOwed_36 : decode cX4_mostOwed 36 = .ok (.iload_n 1, 1) := by decide +kernel
theorem dX4_mostOwed_37 : decode cX4_mostOwed 37 = .ok (.iaload, 1) := by decide +kernel
theorem dX4_mostOwed_38 : decode cX4_mostOwed 38 = .ok (.if_icmp .le 5, 3) := by decide +kernel
theorem dX4_mostOwed_41 : decode cX4_mostOwed 41 = .ok (.iload_n 2, 1) := by decide +kernel
theorem dX4_mostOwed_42 : decode cX4_mostOwed 42 = .ok (.istore_n 1, 1) := by decide +kernel
theorem dX4_mostOwed_43 : decode cX4_mostOwed 43 = .ok (.iinc 2 1, 3) := by decide +kernel
theorem dX4_mostOwed_46 : decode cX4_mostOwed 46 = .ok (.goto (-42), 3) := by decide +kernel
theorem dX4_mostOwed_49 : decode cX4_mostOwed 49 = .ok (.iload_n 1, 1) := by decide +kernel
theorem dX4_mostOwed_50 : decode cX4_mostOwed 50 = .ok (.ireturn, 1) := by decide +kernel
theorem dX4_isDue_0 : decode cX4_isDue 0 = .ok (.aload_n 0, 1) := by decide +kernel
theorem dX4_isDue_1 : decode cX4_isDue 1 = .ok (.getfield 18, 3) := by decide +kernel
theorem dX4_isDue_4 : decode cX4_isDue 4 = .ok (.iload_n 1, 1) := by decide +kernel
theorem dX4_isDue_5 : decode cX4_isDue 5 = .ok (.iaload, 1) := by decide +kernel
theorem dX4_isDue_6 : decode cX4_isDue 6 = .ok (.aload_n 0, 1) := by decide +kernel
theorem dX4_isDue_7 : decode cX4_isDue 7 = .ok (.getfield 11, 3) := by decide +kernel
theorem dX4_isDue_10 : decode cX4_isDue 10 = .ok (.iload_n 1, 1) := by decide +kernel
theorem dX4_isDue_11 : decode cX4_isDue 11 = .ok (.baload, 1) := by decide +kernel
theorem dX4_isDue_12 : decode cX4_isDue 12 = .ok (.ifCond .eq 10, 3) := by decide +kernel
theorem dX4_isDue_15 : decode cX4_isDue 15 = .ok (.iload_n 2, 1) := by decide +kernel
theorem dX4_isDue_16 : decode cX4_isDue 16 = .ok (.bipush 7, 2) := by decide +kernel
theorem dX4_isDue_18 : decode cX4_isDue 18 = .ok (.irem, 1) := by decide +kernel
theorem dX4_isDue_19 : decode cX4_isDue 19 = .ok (.goto 8, 3) := by decide +kernel
theorem dX4_isDue_22 : decode cX4_isDue 22 = .ok (.iload_n 2, 1) := by decide +kernel
theorem dX4_isDue_23 : decode cX4_isDue 23 = .ok (.sipush 365, 3) := by decide +kernel
theorem dX4_isDue_26 : decode cX4_isDue 26 = .ok (.irem, 1) := by decide +kernel
theorem dX4_isDue_27 : decode cX4_isDue 27 = .ok (.if_icmp .ne 7, 3) := by decide +kernel
theorem dX4_isDue_30 : decode cX4_isDue 30 = .ok (.iconst 1, 1) := by decide +kernel
theorem dX4_isDue_31 : decode cX4_isDue 31 = .ok (.goto 4, 3) := by decide +kernel
theorem dX4_isDue_34 : decode cX4_isDue 34 = .ok (.iconst 0, 1) := by decide +kernel
theorem dX4_isDue_35 : decode cX4_isDue 35 = .ok (.ireturn, 1) := by decide +kernel
set_option maxRecDepth 20000 in
theorem ggX4_hasLeave_X11_within : GoodIn wsX4_hasLeave wsX11_within := goodIn_sub (List.forall_mem_cons.mpr ⟨List.mem_cons_of_mem _ (List.mem_append_left _ (List.mem_of_getElem? (i := 6) rfl)), fun _ h => absurd h List.not_mem_nil⟩) (by decide +kernel)
set_option maxRecDepth 20000 in
theorem gX4_hasLeave_X11_within_n66 : GoodIn wsX4_hasLeave (wsX11_within) := ggX4_hasLeave_X11_within
theorem dX4_hasLeave_0 : decode cX4_hasLeave 0 = .ok (.iconst 0, 1) := by decide +kernel
theorem dX4_hasLeave_1 : decode cX4_hasLeave 1 = .ok (.istore_n 3, 1) := by decide +kernel
theorem dX4_hasLeave_2 : decode cX4_hasLeave 2 = .ok (.iload_n 3, 1) := by decide +kernel
theorem dX4_hasLeave_3 : decode cX4_hasLeave 3 = .ok (.aload_n 0, 1) := by decide +kernel
theorem dX4_hasLeave_4 : decode cX4_hasLeave 4 = .ok (.getfield 44, 3) := by decide +kernel
theorem dX4_hasLeave_7 : decode cX4_hasLeave 7 = .ok (.if_icmp .ge 40, 3) := by decide +kernel
theorem dX4_hasLeave_10 : decode cX4_hasLeave 10 = .ok (.aload_n 0, 1) := by decide +kernel
theorem dX4_hasLeave_11 : decode cX4_hasLeave 11 = .ok (.getfield 31, 3) := by decide +kernel
theorem dX4_hasLeave_14 : decode cX4_hasLeave 14 = .ok (.iload_n 3, 1) := by decide +kernel
theorem dX4_hasLeave_15 : decode cX4_hasLeave 15 = .ok (.iaload, 1) := by decide +kernel
theorem dX4_hasLeave_16 : decode cX4_hasLeave 16 = .ok (.iload_n 1, 1) := by decide +kernel
theorem dX4_hasLeave_17 : decode cX4_hasLeave 17 = .ok (.if_icmp .ne 24, 3) := by decide +kernel
theorem dX4_hasLeave_20 : decode cX4_hasLeave 20 = .ok (.iload_n 2, 1) := by decide +kernel
theorem dX4_hasLeave_21 : decode cX4_hasLeave 21 = .ok (.aload_n 0, 1) := by decide +kernel
theorem dX4_hasLeave_22 : decode cX4_hasLeave 22 = .ok (.getfield 34, 3) := by decide +kernel
theorem dX4_hasLeave_25 : decode cX4_hasLeave 25 = .ok (.iload_n 3, 1) := by decide +kernel
theorem dX4_hasLeave_26 : decode cX4_hasLeave 26 = .ok (.iaload, 1) := by decide +kernel
theorem dX4_hasLeave_27 : decode cX4_hasLeave 27 = .ok (.aload_n 0, 1) := by decide +kernel
theorem dX4_hasLeave_28 : decode cX4_hasLeave 28 = .ok (.getfield 37, 3) := by decide +kernel
theorem dX4_hasLeave_31 : decode cX4_hasLeave 31 = .ok (.iload_n 3, 1) := by decide +kernel
theorem dX4_hasLeave_32 : decode cX4_hasLeave 32 = .ok (.iaload, 1) := by decide +kernel
theorem dX4_hasLeave_33 : decode cX4_hasLeave 33 = .ok (.invokestatic 66, 3) := by decide +kernel
theorem dX4_hasLeave_36 : decode cX4_hasLeave 36 = .ok (.ifCond .eq 5, 3) := by decide +kernel
theorem dX4_hasLeave_39 : decode cX4_hasLeave 39 = .ok (.iconst 1, 1) := by decide +kernel
theorem dX4_hasLeave_40 : decode cX4_hasLeave 40 = .ok (.ireturn, 1) := by decide +kernel
theorem dX4_hasLeave_41 : decode cX4_hasLeave 41 = .ok (.iinc 3 1, 3) := by decide +kernel
theorem dX4_hasLeave_44 : decode cX4_hasLeave 44 = .ok (.goto (-42), 3) := by decide +kernel
theorem dX4_hasLeave_47 : decode cX4_hasLeave 47 = .ok (.iconst 0, 1) := by decide +kernel
theorem dX4_hasLeave_48 : decode cX4_hasLeave 48 = .ok (.ireturn, 1) := by decide +kernel
theorem dX5_init_0 : decode cX5_init 0 = .ok (.aload_n 0, 1) := by decide +kernel
theorem dX5_init_1 : decode cX5_init 1 = .ok (.invokespecial 3, 3) := by decide +kernel
theorem dX5_init_4 : decode cX5_init 4 = .ok (.aload_n 0, 1) := by decide +kernel
theorem dX5_init_5 : decode cX5_init 5 = .ok (.bipush 24, 2) := by decide +kernel
theorem dX5_init_7 : decode cX5_init 7 = .ok (.newarray .boolean, 2) := by decide +kernel
theorem dX5_init_9 : decode cX5_init 9 = .ok (.putfield 11, 3) := by decide +kernel
theorem dX5_init_12 : decode cX5_init 12 = .ok (.aload_n 0, 1) := by decide +kernel
theorem dX5_init_13 : decode cX5_init 13 = .ok (.bipush 24, 2) := by decide +kernel
theorem dX5_init_15 : decode cX5_init 15 = .ok (.newarray .int, 2) := by decide +kernel
theorem dX5_init_17 : decode cX5_init 17 = .ok (.putfield 15, 3) := by decide +kernel
theorem dX5_init_20 : decode cX5_init 20 = .ok (.aload_n 0, 1) := by decide +kernel
theorem dX5_init_21 : decode cX5_init 21 = .ok (.bipush 24, 2) := by decide +kernel
theorem dX5_init_23 : decode cX5_init 23 = .ok (.newarray .int, 2) := by decide +kernel
theorem dX5_init_25 : decode cX5_init 25 = .ok (.putfield 19, 3) := by decide +kernel
theorem dX5_init_28 : decode cX5_init 28 = .ok (.aload_n 0, 1) := by decide +kernel
theorem dX5_init_29 : decode cX5_init 29 = .ok (.bipush 60, 2) := by decide +kernel
theorem dX5_init_31 : decode cX5_init 31 = .ok (.newarray .int, 2) := by decide +kernel
theorem dX5_init_33 : decode cX5_init 33 = .ok (.putfield 22, 3) := by decide +kernel
theorem dX5_init_36 : decode cX5_init 36 = .ok (.aload_n 0, 1) := by decide +kernel
theorem dX5_init_37 : decode cX5_init 37 = .ok (.bipush 60, 2) := by decide +kernel
theorem dX5_init_39 : decode cX5_init 39 = .ok (.newarray .int, 2) := by decide +kernel
theorem dX5_init_41 : decode cX5_init 41 = .ok (.putfield 25, 3) := by decide +kernel
theorem dX5_init_44 : decode cX5_init 44 = .ok (.aload_n 0, 1) := by decide +kernel
theorem dX5_init_45 : decode cX5_init 45 = .ok (.bipush 60, 2) := by decide +kernel
theorem dX5_init_47 : decode cX5_init 47 = .ok (.newarray .int, 2) := by decide +kernel
theorem dX5_init_49 : decode cX5_init 49 = .ok (.putfield 28, 3) := by decide +kernel
theorem dX5_init_52 : decode cX5_init 52 = .ok (.return_, 1) := by decide +kernel
theorem dX5_size_0 : decode cX5_size 0 = .ok (.aload_n 0, 1) := by decide +kernel
theorem dX5_size_1 : decode cX5_size 1 = .ok (.getfield 31, 3) := by decide +kernel
theorem dX5_size_4 : decode cX5_size 4 = .ok (.ireturn, 1) := by decide +kernel
theorem dX5_has_0 : decode cX5_has 0 = .ok (.iload_n 1, 1) := by decide +kernel
theorem dX5_has_1 : decode cX5_has 1 = .ok (.ifCond .lt 15, 3) := by decide +kernel
theorem dX5_has_4 : decode cX5_has 4 = .ok (.iload_n 1, 1) := by decide +kernel
theorem dX5_has_5 : decode cX5_has 5 = .ok (.aload_n 0, 1) := by decide +kernel
theorem dX5_has_6 : decode cX5_has 6 = .ok (.getfield 31, 3) := by decide +kernel
theorem dX5_has_9 : decode cX5_has 9 = .ok (.if_icmp .ge 7, 3) := by decide +kernel
theorem dX5_has_12 : decode cX5_has 12 = .ok (.iconst 1, 1) := by decide +kernel
theorem dX5_has_13 : decode cX5_has 13 = .ok (.goto 4, 3) := by decide +kernel
theorem dX5_has_16 : decode cX5_has 16 = .ok (.iconst 0, 1) := by decide +kernel
theorem dX5_has_17 : decode cX5_has 17 = .ok (.ireturn, 1) := by decide +kernel
theorem dX5_enter_0 : decode cX5_enter 0 = .ok (.aload_n 0, 1) := by decide +kernel
theorem dX5_enter_1 : decode cX5_enter 1 = .ok (.getfield 31, 3) := by decide +kernel
theorem dX5_enter_4 : decode cX5_enter 4 = .ok (.bipush 24, 2) := by decide +kernel
theorem dX5_enter_6 : decode cX5_enter 6 = .ok (.if_icmp .lt 5, 3) := by decide +kernel
theorem dX5_enter_9 : decode cX5_enter 9 = .ok (.iconst (-1), 1) := by decide +kernel
theorem dX5_enter_10 : decode cX5_enter 10 = .ok (.ireturn, 1) := by decide +kernel
theorem dX5_enter_11 : decode cX5_enter 11 = .ok (.aload_n 0, 1) := by decide +kernel
theorem dX5_enter_12 : decode cX5_enter 12 = .ok (.getfield 11, 3) := by decide +kernel
theorem dX5_enter_15 : decode cX5_enter 15 = .ok (.aload_n 0, 1) := by decide +kernel
theorem dX5_enter_16 : decode cX5_enter 16 = .ok (.getfield 31, 3) := by decide +kernel
theorem dX5_enter_19 : decode cX5_enter 19 = .ok (.iload_n 1, 1) := by decide +kernel
theorem dX5_enter_20 : decode cX5_enter 20 = .ok (.bastore, 1) := by decide +kernel
theorem dX5_enter_21 : decode cX5_enter 21 = .ok (.aload_n 0, 1) := by decide +kernel
theorem dX5_enter_22 : decode cX5_enter 22 = .ok (.getfield 15, 3) := by decide +kernel
theorem dX5_enter_25 : decode cX5_enter 25 = .ok (.aload_n 0, 1) := by decide +kernel
theorem dX5_enter_26 : decode cX5_enter 26 = .ok (.getfield 31, 3) := by decide +kernel
theorem dX5_enter_29 : decode cX5_enter 29 = .ok (.iload_n 2, 1) := by decide +kernel
theorem dX5_enter_30 : decode cX5_enter 30 = .ok (.iastore, 1) := by decide +kernel
theorem dX5_enter_31 : decode cX5_enter 31 = .ok (.aload_n 0, 1) := by decide +kernel
theorem dX5_enter_32 : decode cX5_enter 32 = .ok (.getfield 19, 3) := by decide +kernel
theorem dX5_enter_35 : decode cX5_enter 35 = .ok (.aload_n 0, 1) := by decide +kernel
theorem dX5_enter_36 : decode cX5_enter 36 = .ok (.getfield 31, 3) := by decide +kernel
theorem dX5_enter_39 : decode cX5_enter 39 = .ok (.iload_n 3, 1) := by decide +kernel
theorem dX5_enter_40 : decode cX5_enter 40 = .ok (.iastore, 1) := by decide +kernel
theorem dX5_enter_41 : decode cX5_enter 41 = .ok (.aload_n 0, 1) := by decide +kernel
theorem dX5_enter_42 : decode cX5_enter 42 = .ok (.dup, 1) := by decide +kernel
theorem dX5_enter_43 : decode cX5_enter 43 = .ok (.getfield 31, 3) := by decide +kernel
theorem dX5_enter_46 : decode cX5_enter 46 = .ok (.iconst 1, 1) := by decide +kernel
theorem dX5_enter_47 : decode cX5_enter 47 = .ok (.iadd, 1) := by decide +kernel
theorem dX5_enter_48 : decode cX5_enter 48 = .ok (.putfield 31, 3) := by decide +kernel
theorem dX5_enter_51 : decode cX5_enter 51 = .ok (.aload_n 0, 1) := by decide +kernel
theorem dX5_enter_52 : decode cX5_enter 52 = .ok (.getfield 31, 3) := by decide +kernel
theorem dX5_enter_55 : decode cX5_enter 55 = .ok (.iconst 1, 1) := by decide +kernel
theorem dX5_enter_56 : decode cX5_enter 56 = .ok (.isub, 1) := by decide +kernel
theorem dX5_enter_57 : decode cX5_enter 57 = .ok (.ireturn, 1) := by decide +kernel
theorem dX5_tellAbsence_0 : decode cX5_tellAbsence 0 = .ok (.aload_n 0, 1) := by decide +kernel
theorem dX5_tellAbsence_1 : decode cX5_tellAbsence 1 = .ok (.getfield 35, 3) := by decide +kernel
theorem dX5_tellAbsence_4 : decode cX5_tellAbsence 4 = .ok (.bipush 60, 2) := by decide +kernel
theorem dX5_tellAbsence_6 : decode cX5_tellAbsence 6 = .ok (.if_icmp .lt 5, 3) := by decide +kernel
theorem dX5_tellAbsence_9 : decode cX5_tellAbsence 9 = .ok (.iconst (-1), 1) := by decide +kernel
theorem dX5_tellAbsence_10 : decode cX5_tellAbsence 10 = .ok (.ireturn, 1) := by decide +kernel
theorem dX5_tellAbsence_11 : decode cX5_tellAbsence 11 = .ok (.aload_n 0, 1) := by decide +kernel
theorem dX5_tellAbsence_12 : decode cX5_tellAbsence 12 = .ok (.getfield 22, 3) := by decide +kernel
theorem dX5_tellAbsence_15 : decode cX5_tellAbsence 15 = .ok (.aload_n 0, 1) := by decide +kernel
theorem dX5_tellAbsence_16 : decode cX5_tellAbsence 16 = .ok (.getfield 35, 3) := by decide +kernel
theorem dX5_tellAbsence_19 : decode cX5_tellAbsence 19 = .ok (.iload_n 1, 1) := by decide +kernel
theorem dX5_tellAbsence_20 : decode cX5_tellAbsence 20 = .ok (.iastore, 1) := by decide +kernel
theorem dX5_tellAbsence_21 : decode cX5_tellAbsence 21 = .ok (.aload_n 0, 1) := by decide +kernel
theorem dX5_tellAbsence_22 : decode cX5_tellAbsence 22 = .ok (.getfield 25, 3) := by decide +kernel
theorem dX5_tellAbsence_25 : decode cX5_tellAbsence 25 = .ok (.aload_n 0, 1) := by decide +kernel
theorem dX5_tellAbsence_26 : decode cX5_tellAbsence 26 = .ok (.getfield 35, 3) := by decide +kernel
theorem dX5_tellAbsence_29 : decode cX5_tellAbsence 29 = .ok (.iload_n 2, 1) := by decide +kernel
theorem dX5_tellAbsence_30 : decode cX5_tellAbsence 30 = .ok (.iastore, 1) := by decide +kernel
theorem dX5_tellAbsence_31 : decode cX5_tellAbsence 31 = .ok (.aload_n 0, 1) := by decide +kernel
theorem dX5_tellAbsence_32 : decode cX5_tellAbsence 32 = .ok (.getfield 28, 3) := by decide +kernel
theorem dX5_tellAbsence_35 : decode cX5_tellAbsence 35 = .ok (.aload_n 0, 1) := by decide +kernel
theorem dX5_tellAbsence_36 : decode cX5_tellAbsence 36 = .ok (.getfield 35, 3) := by decide +kernel
theorem dX5_tellAbsence_39 : decode cX5_tellAbsence 39 = .ok (.iload_n 3, 1) := by decide +kernel
theorem dX5_tellAbsence_40 : decode cX5_tellAbsence 40 = .ok (.iastore, 1) := by decide +kernel
theorem dX5_tellAbsence_41 : decode cX5_tellAbsence 41 = .ok (.aload_n 0, 1) := by decide +kernel
theorem dX5_tellAbsence_42 : decode cX5_tellAbsence 42 = .ok (.dup, 1) := by decide +kernel
theorem dX5_tellAbsence_43 : decode cX5_tellAbsence 43 = .ok (.getfield 35, 3) := by decide +kernel
theorem dX5_tellAbsence_46 : decode cX5_tellAbsence 46 = .ok (.iconst 1, 1) := by decide +kernel
theorem dX5_tellAbsence_47 : decode cX5_tellAbsence 47 = .ok (.iadd, 1) := by decide +kernel
theorem dX5_tellAbsence_48 : decode cX5_tellAbsence 48 = .ok (.putfield 35, 3) := by decide +kernel
theorem dX5_tellAbsence_51 : decode cX5_tellAbsence 51 = .ok (.aload_n 0, 1) := by decide +kernel
theorem dX5_tellAbsence_52 : decode cX5_tellAbsence 52 = .ok (.getfield 35, 3) := by decide +kernel
theorem dX5_tellAbsence_55 : decode cX5_tellAbsence 55 = .ok (.ireturn, 1) := by decide +kernel
set_option maxRecDepth 20000 in
theorem ggX5_isAble_X5_has : GoodIn wsX5_isAble wsX5_has := goodIn_sub (List.forall_mem_cons.mpr ⟨List.mem_cons_of_mem _ (List.mem_append_left _ (List.mem_of_getElem? (i := 9) rfl)), List.forall_mem_append.mpr ⟨List.forall_mem_cons.mpr ⟨List.mem_cons_of_mem _ (List.mem_append_left _ (List.mem_of_getElem? (i := 10) rfl)), fun _ h => absurd h List.not_mem_nil⟩, tl_X5_isAble_X5⟩⟩) (by decide +kernel)
set_option maxRecDepth 20000 in
theorem gX5_isAble_X5_has : GoodIn wsX5_isAble (wsV RX5 38 RX5 yX5_has wsX5_has) := goodIn_app (goodIn_sub (List.forall_mem_cons.mpr ⟨List.mem_cons_of_mem _ (List.mem_append_left _ (List.mem_of_getElem? (i := 5) rfl)), List.forall_mem_cons.mpr ⟨List.mem_cons_of_mem _ (List.mem_append_left _ (List.mem_of_getElem? (i := 6) rfl)), List.forall_mem_cons.mpr ⟨List.mem_cons_of_mem _ (List.mem_append_left _ (List.mem_of_getElem? (i := 7) rfl)), List.forall_mem_cons.mpr ⟨List.mem_cons_of_mem _ (List.mem_append_left _ (List.mem_of_getElem? (i := 8) rfl)), fun _ h => absurd h List.not_mem_nil⟩⟩⟩⟩) (by decide +kernel)) ggX5_isAble_X5_has
set_option maxRecDepth 20000 in
theorem ggX5_isAble_X11_within : GoodIn wsX5_isAble wsX11_within := goodIn_sub (List.forall_mem_cons.mpr ⟨List.mem_cons_of_mem _ (List.mem_append_left _ (List.mem_of_getElem? (i := 13) rfl)), fun _ h => absurd h List.not_mem_nil⟩) (by decide +kernel)
set_option maxRecDepth 20000 in
theorem gX5_isAble_X11_within_n42 : GoodIn wsX5_isAble (wsX11_within) := ggX5_isAble_X11_within
theorem dX5_isAble_0 : decode cX5_isAble 0 = .ok (.aload_n 0, 1) := by decide +kernel
theorem dX5_isAble_1 : decode cX5_isAble 1 = .ok (.iload_n 1, 1) := by decide +kernel
theorem dX5_isAble_2 : decode cX5_isAble 2 = .ok (.invokevirtual 38, 3) := by decide +kernel
theorem dX5_isAble_5 : decode cX5_isAble 5 = .ok (.ifCond .eq 13, 3) := by decide +kernel
theorem dX5_isAble_8 : decode cX5_isAble 8 = .ok (.iload_n 2, 1) := by decide +kernel
theorem dX5_isAble_9 : decode cX5_isAble 9 = .ok (.aload_n 0, 1) := by decide +kernel
theorem dX5_isAble_10 : decode cX5_isAble 10 = .ok (.getfield 19, 3) := by decide +kernel
theorem dX5_isAble_13 : decode cX5_isAble 13 = .ok (.iload_n 1, 1) := by decide +kernel
theorem dX5_isAble_14 : decode cX5_isAble 14 = .ok (.iaload, 1) := by decide +kernel
theorem dX5_isAble_15 : decode cX5_isAble 15 = .ok (.if_icmp .ge 5, 3) := by decide +kernel
theorem dX5_isAble_18 : decode cX5_isAble 18 = .ok (.iconst 0, 1) := by decide +kernel
theorem dX5_isAble_19 : decode cX5_isAble 19 = .ok (.ireturn, 1) := by decide +kernel
theorem dX5_isAble_20 : decode cX5_isAble 20 = .ok (.iconst 0, 1) := by decide +kernel
theorem dX5_isAble_21 : decode cX5_isAble 21 = .ok (.istore_n 3, 1) := by decide +kernel
theorem dX5_isAble_22 : decode cX5_isAble 22 = .ok (.iload_n 3, 1) := by decide +kernel
theorem dX5_isAble_23 : decode cX5_isAble 23 = .ok (.aload_n 0, 1) := by decide +kernel
theorem dX5_isAble_24 : decode cX5_isAble 24 = .ok (.getfield 35, 3) := by decide +kernel
theorem dX5_isAble_27 : decode cX5_isAble 27 = .ok (.if_icmp .ge 40, 3) := by decide +kernel
theorem dX5_isAble_30 : decode cX5_isAble 30 = .ok (.aload_n 0, 1) := by decide +kernel
theorem dX5_isAble_31 : decode cX5_isAble 31 = .ok (.getfield 22, 3) := by decide +kernel
theorem dX5_isAble_34 : decode cX5_isAble 34 = .ok (.iload_n 3, 1) := by decide +kernel
theorem dX5_isAble_35 : decode cX5_isAble 35 = .ok (.iaload, 1) := by decide +kernel
theorem dX5_isAble_36 : decode cX5_isAble 36 = .ok (.iload_n 1, 1) := by decide +kernel
theorem dX5_isAble_37 : decode cX5_isAble 37 = .ok (.if_icmp .ne 24, 3) := by decide +kernel
theorem dX5_isAble_40 : decode cX5_isAble 40 = .ok (.iload_n 2, 1) := by decide +kernel
theorem dX5_isAble_41 : decode cX5_isAble 41 = .ok (.aload_n 0, 1) := by decide +kernel
theorem dX5_isAble_42 : decode cX5_isAble 42 = .ok (.getfield 25, 3) := by decide +kernel
theorem dX5_isAble_45 : decode cX5_isAble 45 = .ok (.iload_n 3, 1) := by decide +kernel
theorem dX5_isAble_46 : decode cX5_isAble 46 = .ok (.iaload, 1) := by decide +kernel
theorem dX5_isAble_47 : decode cX5_isAble 47 = .ok (.aload_n 0, 1) := by decide +kernel
theorem dX5_isAble_48 : decode cX5_isAble 48 = .ok (.getfield 28, 3) := by decide +kernel
theorem dX5_isAble_51 : decode cX5_isAble 51 = .ok (.iload_n 3, 1) := by decide +kernel
theorem dX5_isAble_52 : decode cX5_isAble 52 = .ok (.iaload, 1) := by decide +kernel
theorem dX5_isAble_53 : decode cX5_isAble 53 = .ok (.invokestatic 42, 3) := by decide +kernel
theorem dX5_isAble_56 : decode cX5_isAble 56 = .ok (.ifCond .eq 5, 3) := by decide +kernel
theorem dX5_isAble_59 : decode cX5_isAble 59 = .ok (.iconst 0, 1) := by decide +kernel
theorem dX5_isAble_60 : decode cX5_isAble 60 = .ok (.ireturn, 1) := by decide +kernel
theorem dX5_isAble_61 : decode cX5_isAble 61 = .ok (.iinc 3 1, 3) := by decide +kernel
theorem dX5_isAble_64 : decode cX5_isAble 64 = .ok (.goto (-42), 3) := by decide +kernel
theorem dX5_isAble_67 : decode cX5_isAble 67 = .ok (.iconst 1, 1) := by decide +kernel
theorem dX5_isAble_68 : decode cX5_isAble 68 = .ok (.ireturn, 1) := by decide +kernel
set_option maxRecDepth 20000 in
theorem ggX5_isBarred_X5_has : GoodIn wsX5_isBarred wsX5_has := goodIn_sub (List.forall_mem_cons.mpr ⟨List.mem_cons_of_mem _ (List.mem_append_left _ (List.mem_of_getElem? (i := 5) rfl)), List.forall_mem_append.mpr ⟨List.forall_mem_cons.mpr ⟨List.mem_cons_of_mem _ (List.mem_append_left _ (List.mem_of_getElem? (i := 6) rfl)), fun _ h => absurd h List.not_mem_nil⟩, tl_X5_isBarred_X5⟩⟩) (by decide +kernel)
set_option maxRecDepth 20000 in
theorem gX5_isBarred_X5_has : GoodIn wsX5_isBarred (wsV RX5 38 RX5 yX5_has wsX5_has) := goodIn_app (goodIn_sub (List.forall_mem_cons.mpr ⟨List.mem_cons_of_mem _ (List.mem_append_left _ (List.mem_of_getElem? (i := 1) rfl)), List.forall_mem_cons.mpr ⟨List.mem_cons_of_mem _ (List.mem_append_left _ (List.mem_of_getElem? (i := 2) rfl)), List.forall_mem_cons.mpr ⟨List.mem_cons_of_mem _ (List.mem_append_left _ (List.mem_of_getElem? (i := 3) rfl)), List.forall_mem_cons.mpr ⟨List.mem_cons_of_mem _ (List.mem_append_left _ (List.mem_of_getElem? (i := 4) rfl)), fun _ h => absurd h List.not_mem_nil⟩⟩⟩⟩) (by decide +kernel)) ggX5_isBarred_X5_has
theorem dX5_isBarred_0 : decode cX5_isBarred 0 = .ok (.aload_n 0, 1) := by decide +kernel
theorem dX5_isBarred_1 : decode cX5_isBarred 1 = .ok (.iload_n 1, 1) := by decide +kernel
theorem dX5_isBarred_2 : decode cX5_isBarred 2 = .ok (.invokevirtual 38, 3) := by decide +kernel
theorem dX5_isBarred_5 : decode cX5_isBarred 5 = .ok (.ifCond .eq 21, 3) := by decide +kernel
theorem dX5_isBarred_8 : decode cX5_isBarred 8 = .ok (.aload_n 0, 1) := by decide +kernel
theorem dX5_isBarred_9 : decode cX5_isBarred 9 = .ok (.getfield 15, 3) := by decide +kernel
theorem dX5_isBarred_12 : decode cX5_isBarred 12 = .ok (.iload_n 1, 1) := by decide +kernel
theorem dX5_isBarred_13 : decode cX5_isBarred 13 = .ok (.iaload, 1) := by decide +kernel
theorem dX5_isBarred_14 : decode cX5_isBarred 14 = .ok (.iload_n 2, 1) := by decide +kernel
theorem dX5_isBarred_15 : decode cX5_isBarred 15 = .ok (.ishr, 1) := by decide +kernel
theorem dX5_isBarred_16 : decode cX5_isBarred 16 = .ok (.iconst 1, 1) := by decide +kernel
theorem dX5_isBarred_17 : decode cX5_isBarred 17 = .ok (.iand, 1) := by decide +kernel
theorem dX5_isBarred_18 : decode cX5_isBarred 18 = .ok (.iconst 1, 1) := by decide +kernel
theorem dX5_isBarred_19 : decode cX5_isBarred 19 = .ok (.if_icmp .ne 7, 3) := by decide +kernel
theorem dX5_isBarred_22 : decode cX5_isBarred 22 = .ok (.iconst 1, 1) := by decide +kernel
theorem dX5_isBarred_23 : decode cX5_isBarred 23 = .ok (.goto 4, 3) := by decide +kernel
theorem dX5_isBarred_26 : decode cX5_isBarred 26 = .ok (.iconst 0, 1) := by decide +kernel
theorem dX5_isBarred_27 : decode cX5_isBarred 27 = .ok (.ireturn, 1) := by decide +kernel
set_option maxRecDepth 20000 in
theorem ggX5_ablePriests_X5_isAble : GoodIn wsX5_ablePriests wsX5_isAble := goodIn_sub (List.forall_mem_cons.mpr ⟨List.mem_cons_of_mem _ (List.mem_append_left _ (List.mem_of_getElem? (i := 6) rfl)), List.forall_mem_append.mpr ⟨List.forall_mem_cons.mpr ⟨List.mem_cons_of_mem _ (List.mem_append_left _ (List.mem_of_getElem? (i := 7) rfl)), List.forall_mem_cons.mpr ⟨List.mem_cons_of_mem _ (List.mem_append_left _ (List.mem_of_getElem? (i := 8) rfl)), List.forall_mem_cons.mpr ⟨List.mem_cons_of_mem _ (List.mem_append_left _ (List.mem_of_getElem? (i := 9) rfl)), List.forall_mem_cons.mpr ⟨List.mem_cons_of_mem _ (List.mem_append_left _ (List.mem_of_getElem? (i := 10) rfl)), List.forall_mem_cons.mpr ⟨List.mem_cons_of_mem _ (List.mem_append_left _ (List.mem_of_getElem? (i := 11) rfl)), List.forall_mem_cons.mpr ⟨List.mem_cons_of_mem _ (List.mem_append_left _ (List.mem_of_getElem? (i := 12) rfl)), List.forall_mem_cons.mpr ⟨List.mem_cons_of_mem _ (List.mem_append_left _ (List.mem_of_getElem? (i := 13) rfl)), List.forall_mem_cons.mpr ⟨List.mem_cons_of_mem _ (List.mem_append_left _ (List.mem_of_getElem? (i := 14) rfl)), List.forall_mem_cons.mpr ⟨List.mem_cons_of_mem _ (List.mem_append_left _ (List.mem_of_getElem? (i := 5) rfl)), List.forall_mem_cons.mpr ⟨List.mem_cons_of_mem _ (List.mem_append_left _ (List.mem_of_getElem? (i := 15) rfl)), List.forall_mem_cons.mpr ⟨List.mem_cons_of_mem _ (List.mem_append_left _ (List.mem_of_getElem? (i := 0) rfl)), List.forall_mem_cons.mpr ⟨List.mem_cons_of_mem _ (List.mem_append_left _ (List.mem_of_getElem? (i := 16) rfl)), List.forall_mem_cons.mpr ⟨List.mem_cons_of_mem _ (List.mem_append_left _ (List.mem_of_getElem? (i := 17) rfl)), List.forall_mem_cons.mpr ⟨List.mem_cons_of_mem _ (List.mem_append_left _ (List.mem_of_getElem? (i := 18) rfl)), fun _ h => absurd h List.not_mem_nil⟩⟩⟩⟩⟩⟩⟩⟩⟩⟩⟩⟩⟩⟩, tl_X5_ablePriests_X5⟩⟩) (by decide +kernel)
set_option maxRecDepth 20000 in
theorem gX5_ablePriests_X5_isAble : GoodIn wsX5_ablePriests (wsV RX5 46 RX5 yX5_isAble wsX5_isAble) := goodIn_app (goodIn_sub (List.forall_mem_cons.mpr ⟨List.mem_cons_of_mem _ (List.mem_append_left _ (List.mem_of_getElem? (i := 2) rfl)), List.forall_mem_cons.mpr ⟨List.mem_cons_of_mem _ (List.mem_append_left _ (List.mem_of_getElem? (i := 3) rfl)), List.forall_mem_cons.mpr ⟨List.mem_cons_of_mem _ (List.mem_append_left _ (List.mem_of_getElem? (i := 4) rfl)), List.forall_mem_cons.mpr ⟨List.mem_cons_of_mem _ (List.mem_append_left _ (List.mem_of_getElem? (i := 5) rfl)), fun _ h => absurd h List.not_mem_nil⟩⟩⟩⟩) (by decide +kernel)) ggX5_ablePriests_X5_isAble
theorem dX5_ablePriests_0 : decode cX5_ablePriests 0 = .ok (.iconst 0, 1) := by decide +kernel
theorem dX5_ablePriests_1 : decode cX5_ablePriests 1 = .ok (.istore_n 2, 1) := by decide +kernel
theorem dX5_ablePriests_2 : decode cX5_ablePriests 2 = .ok (.iconst 0, 1) := by decide +kernel
theorem dX5_ablePriests_3 : decode cX5_ablePriests 3 = .ok (.istore_n 3, 1) := by decide +kernel
theorem dX5_ablePriests_4 : decode cX5_ablePriests 4 = .ok (.iload_n 3, 1) := by decide +kernel
theorem dX5_ablePriests_5 : decode cX5_ablePriests 5 = .ok (.aload_n 0, 1) := by decide +kernel
theorem dX5_ablePriests_6 : decode cX5_ablePriests 6 = .ok (.getfield 31, 3) := by decide +kernel
theorem dX5_ablePriests_9 : decode cX5_ablePriests 9 = .ok (.if_icmp .ge 30, 3) := by decide +kernel
theorem dX5_ablePriests_12 : decode cX5_ablePriests 12 = .ok (.aload_n 0, 1) := by decide +kernel
theorem dX5_ablePriests_13 : decode cX5_ablePriests 13 = .ok (.getfield 11, 3) := by decide +kernel
theorem dX5_ablePriests_16 : decode cX5_ablePriests 16 = .ok (.iload_n 3, 1) := by decide +kernel
theorem dX5_ablePriests_17 : decode cX5_ablePriests 17 = .ok (.baload, 1) := by decide +kernel
theorem dX5_ablePriests_18 : decode cX5_ablePriests 18 = .ok (.ifCond .eq 15, 3) := by decide +kernel
theorem dX5_ablePriests_21 : decode cX5_ablePriests 21 = .ok (.aload_n 0, 1) := by decide +kernel
theorem dX5_ablePriests_22 : decode cX5_ablePriests 22 = .ok (.iload_n 3, 1) := by decide +kernel
theorem dX5_ablePriests_23 : decode cX5_ablePriests 23 = .ok (.iload_n 1, 1) := by decide +kernel
theorem dX5_ablePriests_24 : decode cX5_ablePriests 24 = .ok (.invokevirtual 46, 3) := by decide +kernel
theorem dX5_ablePriests_27 : decode cX5_ablePriests 27 = .ok (.ifCond .eq 6, 3) := by decide +kernel
theorem dX5_ablePriests_30 : decode cX5_ablePriests 30 = .ok (.iinc 2 1, 3) := by decide +kernel
theorem dX5_ablePriests_33 : decode cX5_ablePriests 33 = .ok (.iinc 3 1, 3) := by decide +kernel
theorem dX5_ablePriests_36 : decode cX5_ablePriests 36 = .ok (.goto (-32), 3) := by decide +kernel
theorem dX5_ablePriests_39 : decode cX5_ablePriests 39 = .ok (.iload_n 2, 1) := by decide +kernel
theorem dX5_ablePriests_40 : decode cX5_ablePriests 40 = .ok (.ireturn, 1) := by decide +kernel
set_option maxRecDepth 20000 in
theorem ggX6_init_X10_init : GoodIn wsX6_init wsX10_init := goodIn_sub (List.forall_mem_cons.mpr ⟨List.mem_cons_of_mem _ (List.mem_append_left _ (List.mem_append_left _ (List.mem_of_getElem? (i := 12) rfl))), List.forall_mem_append.mpr ⟨List.forall_mem_cons.mpr ⟨List.mem_cons_of_mem _ (List.mem_append_left _ (List.mem_append_left _ (List.mem_of_getElem? (i := 13) rfl))), List.forall_mem_cons.mpr ⟨List.mem_cons_of_mem _ (List.mem_append_left _ (List.mem_append_left _ (List.mem_of_getElem? (i := 1) rfl))), List.forall_mem_cons.mpr ⟨List.mem_cons_of_mem _ (List.mem_append_left _ (List.mem_append_left _ (List.mem_of_getElem? (i := 2) rfl))), List.forall_mem_cons.mpr ⟨List.mem_cons_of_mem _ (List.mem_append_left _ (List.mem_append_left _ (List.mem_of_getElem? (i := 7) rfl))), List.forall_mem_cons.mpr ⟨List.mem_cons_of_mem _ (List.mem_append_left _ (List.mem_append_left _ (List.mem_of_getElem? (i := 14) rfl))), List.forall_mem_cons.mpr ⟨List.mem_cons_of_mem _ (List.mem_append_left _ (List.mem_append_left _ (List.mem_of_getElem? (i := 15) rfl))), List.forall_mem_cons.mpr ⟨List.mem_cons_of_mem _ (List.mem_append_left _ (List.mem_append_left _ (List.mem_of_getElem? (i := 16) rfl))), fun _ h => absurd h List.not_mem_nil⟩⟩⟩⟩⟩⟩⟩, tl_X6_init_X10⟩⟩) (by decide +kernel)
set_option maxRecDepth 20000 in
theorem gX6_init_X10_init_n11 : GoodIn wsX6_init (wsX10_init) := ggX6_init_X10_init
theorem dX6_init_0 : decode cX6_init 0 = .ok (.aload_n 0, 1) := by decide +kernel
theorem dX6_init_1 : decode cX6_init 1 = .ok (.invokespecial 3, 3) := by decide +kernel
theorem dX6_init_4 : decode cX6_init 4 = .ok (.aload_n 0, 1) := by decide +kernel
theorem dX6_init_5 : decode cX6_init 5 = .ok (.new 9, 3) := by decide +kernel
theorem dX6_init_8 : decode cX6_init 8 = .ok (.dup, 1) := by decide +kernel
theorem dX6_init_9 : decode cX6_init 9 = .ok (.invokespecial 11, 3) := by decide +kernel
theorem dX6_init_12 : decode cX6_init 12 = .ok (.putfield 12, 3) := by decide +kernel
theorem dX6_init_15 : decode cX6_init 15 = .ok (.aload_n 0, 1) := by decide +kernel
theorem dX6_init_16 : decode cX6_init 16 = .ok (.bipush 16, 2) := by decide +kernel
theorem dX6_init_18 : decode cX6_init 18 = .ok (.newarray .int, 2) := by decide +kernel
theorem dX6_init_20 : decode cX6_init 20 = .ok (.putfield 18, 3) := by decide +kernel
theorem dX6_init_23 : decode cX6_init 23 = .ok (.aload_n 0, 1) := by decide +kernel
theorem dX6_init_24 : decode cX6_init 24 = .ok (.bipush 16, 2) := by decide +kernel
theorem dX6_init_26 : decode cX6_init 26 = .ok (.newarray .int, 2) := by decide +kernel
theorem dX6_init_28 : decode cX6_init 28 = .ok (.putfield 22, 3) := by decide +kernel
theorem dX6_init_31 : decode cX6_init 31 = .ok (.aload_n 0, 1) := by decide +kernel
theorem dX6_init_32 : decode cX6_init 32 = .ok (.bipush 16, 2) := by decide +kernel
theorem dX6_init_34 : decode cX6_init 34 = .ok (.newarray .int, 2) := by decide +kernel
theorem dX6_init_36 : decode cX6_init 36 = .ok (.putfield 25, 3) := by decide +kernel
theorem dX6_init_39 : decode cX6_init 39 = .ok (.return_, 1) := by decide +kernel
set_option maxRecDepth 20000 in
theorem mm_X6_read_X10_scan_r1 : ∀ w ∈ wsX10_scan_r1, w ∈ wsX6_read := List.forall_mem_cons.mpr ⟨mc_X6_read_r1 _ (List.mem_of_getElem? (i := 13) rfl), List.forall_mem_cons.mpr ⟨mc_X6_read_r1 _ (List.mem_of_getElem? (i := 14) rfl), List.forall_mem_cons.mpr ⟨mc_X6_read_r1 _ (List.mem_of_getElem? (i := 15) rfl), List.forall_mem_cons.mpr ⟨mc_X6_read_r1 _ (List.mem_of_getElem? (i := 16) rfl), List.forall_mem_cons.mpr ⟨mc_X6_read_r1 _ (List.mem_of_getElem? (i := 17) rfl), List.forall_mem_cons.mpr ⟨mc_X6_read_r1 _ (List.mem_of_getElem? (i := 18) rfl), List.forall_mem_cons.mpr ⟨mc_X6_read_r1 _ (List.mem_of_getElem? (i := 19) rfl), List.forall_mem_cons.mpr ⟨mc_X6_read_r1 _ (List.mem_of_getElem? (i := 20) rfl), List.forall_mem_cons.mpr ⟨mc_X6_read_r1 _ (List.mem_of_getElem? (i := 21) rfl), List.forall_mem_cons.mpr ⟨mc_X6_read_r1 _ (List.mem_of_getElem? (i := 22) rfl), List.forall_mem_cons.mpr ⟨mc_X6_read_r1 _ (List.mem_of_getElem? (i := 23) rfl), List.forall_mem_cons.mpr ⟨mc_X6_read_r2 _ (List.mem_of_getElem? (i := 0) rfl), List.forall_mem_cons.mpr ⟨mc_X6_read_r2 _ (List.mem_of_getElem? (i := 1) rfl), List.forall_mem_cons.mpr ⟨mc_X6_read_r2 _ (List.mem_of_getElem? (i := 2) rfl), List.forall_mem_cons.mpr ⟨mc_X6_read_r2 _ (List.mem_of_getElem? (i := 3) rfl), List.forall_mem_cons.mpr ⟨mc_X6_read_r1 _ (List.mem_of_getElem? (i := 11) rfl), List.forall_mem_cons.mpr ⟨mc_X6_read_r2 _ (List.mem_of_getElem? (i := 4) rfl), List.forall_mem_cons.mpr ⟨mc_X6_read_r2 _ (List.mem_of_getElem? (i := 5) rfl), List.forall_mem_cons.mpr ⟨mc_X6_read_r2 _ (List.mem_of_getElem? (i := 6) rfl), List.forall_mem_cons.mpr ⟨mc_X6_read_r2 _ (List.mem_of_getElem? (i := 7) rfl), List.forall_mem_cons.mpr ⟨mc_X6_read_r2 _ (List.mem_of_getElem? (i := 8) rfl), List.forall_mem_cons.mpr ⟨mc_X6_read_r2 _ (List.mem_of_getElem? (i := 9) rfl), List.forall_mem_cons.mpr ⟨mc_X6_read_r2 _ (List.mem_of_getElem? (i := 10) rfl), List.forall_mem_cons.mpr ⟨mc_X6_read_r2 _ (List.mem_of_getElem? (i := 11) rfl), fun _ h => absurd h List.not_mem_nil⟩⟩⟩⟩⟩⟩⟩⟩⟩⟩⟩⟩⟩⟩⟩⟩⟩⟩⟩⟩⟩⟩⟩⟩
set_option maxRecDepth 20000 in
theorem mm_X6_read_X10_scan_r2 : ∀ w ∈ wsX10_scan_r2, w ∈ wsX6_read := List.forall_mem_cons.mpr ⟨mc_X6_read_r2 _ (List.mem_of_getElem? (i := 12) rfl), List.forall_mem_cons.mpr ⟨mc_X6_read_r2 _ (List.mem_of_getElem? (i := 13) rfl), List.forall_mem_cons.mpr ⟨mc_X6_read_r2 _ (List.mem_of_getElem? (i := 14) rfl), List.forall_mem_cons.mpr ⟨mc_X6_read_r2 _ (List.mem_of_getElem? (i := 15) rfl), List.forall_mem_cons.mpr ⟨mc_X6_read_r2 _ (List.mem_of_getElem? (i := 16) rfl), List.forall_mem_cons.mpr ⟨mc_X6_read_r2 _ (List.mem_of_getElem? (i := 17) rfl), List.forall_mem_cons.mpr ⟨mc_X6_read_r2 _ (List.mem_of_getElem? (i := 18) rfl), List.forall_mem_cons.mpr ⟨mc_X6_read_r2 _ (List.mem_of_getElem? (i := 19) rfl), List.forall_mem_cons.mpr ⟨mc_X6_read_r2 _ (List.mem_of_getElem? (i := 20) rfl), List.forall_mem_cons.mpr ⟨mc_X6_read_r2 _ (List.mem_of_getElem? (i := 21) rfl), List.forall_mem_cons.mpr ⟨mc_X6_read_r2 _ (List.mem_of_getElem? (i := 22) rfl), List.forall_mem_cons.mpr ⟨mc_X6_read_r2 _ (List.mem_of_getElem? (i := 23) rfl), List.forall_mem_cons.mpr ⟨mc_X6_read_r3 _ (List.mem_of_getElem? (i := 0) rfl), List.forall_mem_cons.mpr ⟨mc_X6_read_r3 _ (List.mem_of_getElem? (i := 1) rfl), List.forall_mem_cons.mpr ⟨mc_X6_read_r3 _ (List.mem_of_getElem? (i := 2) rfl), List.forall_mem_cons.mpr ⟨mc_X6_read_r3 _ (List.mem_of_getElem? (i := 3) rfl), List.forall_mem_cons.mpr ⟨mc_X6_read_r3 _ (List.mem_of_getElem? (i := 4) rfl), List.forall_mem_cons.mpr ⟨mc_X6_read_r3 _ (List.mem_of_getElem? (i := 5) rfl), List.forall_mem_cons.mpr ⟨mc_X6_read_r3 _ (List.mem_of_getElem? (i := 6) rfl), List.forall_mem_cons.mpr ⟨mc_X6_read_r3 _ (List.mem_of_getElem? (i := 7) rfl), List.forall_mem_cons.mpr ⟨mc_X6_read_r3 _ (List.mem_of_getElem? (i := 8) rfl), List.forall_mem_cons.mpr ⟨mc_X6_read_r3 _ (List.mem_of_getElem? (i := 9) rfl), List.forall_mem_cons.mpr ⟨mc_X6_read_r3 _ (List.mem_of_getElem? (i := 10) rfl), List.forall_mem_cons.mpr ⟨mc_X6_read_r3 _ (List.mem_of_getElem? (i := 11) rfl), fun _ h => absurd h List.not_mem_nil⟩⟩⟩⟩⟩⟩⟩⟩⟩⟩⟩⟩⟩⟩⟩⟩⟩⟩⟩⟩⟩⟩⟩⟩
set_option maxRecDepth 20000 in
theorem mm_X6_read_X10_scan_r3 : ∀ w ∈ wsX10_scan_r3, w ∈ wsX6_read := List.forall_mem_cons.mpr ⟨mc_X6_read_r3 _ (List.mem_of_getElem? (i := 12) rfl), List.forall_mem_cons.mpr ⟨mc_X6_read_r3 _ (List.mem_of_getElem? (i := 13) rfl), List.forall_mem_cons.mpr ⟨mc_X6_read_r3 _ (List.mem_of_getElem? (i := 14) rfl), List.forall_mem_cons.mpr ⟨mc_X6_read_r3 _ (List.mem_of_getElem? (i := 15) rfl), List.forall_mem_cons.mpr ⟨mc_X6_read_r3 _ (List.mem_of_getElem? (i := 16) rfl), List.forall_mem_cons.mpr ⟨mc_X6_read_r3 _ (List.mem_of_getElem? (i := 17) rfl), List.forall_mem_cons.mpr ⟨mc_X6_read_r3 _ (List.mem_of_getElem? (i := 18) rfl), List.forall_mem_cons.mpr ⟨mc_X6_read_r3 _ (List.mem_of_getElem? (i := 19) rfl), List.forall_mem_cons.mpr ⟨mc_X6_read_r3 _ (List.mem_of_getElem? (i := 20) rfl), List.forall_mem_cons.mpr ⟨mc_X6_read_r3 _ (List.mem_of_getElem? (i := 21) rfl), List.forall_mem_cons.mpr ⟨mc_X6_read_r3 _ (List.mem_of_getElem? (i := 22) rfl), List.forall_mem_cons.mpr ⟨mc_X6_read_r3 _ (List.mem_of_getElem? (i := 23) rfl), List.forall_mem_cons.mpr ⟨mc_X6_read_r4 _ (List.mem_of_getElem? (i := 0) rfl), List.forall_mem_cons.mpr ⟨mc_X6_read_r4 _ (List.mem_of_getElem? (i := 1) rfl), List.forall_mem_cons.mpr ⟨mc_X6_read_r4 _ (List.mem_of_getElem? (i := 2) rfl), List.forall_mem_cons.mpr ⟨mc_X6_read_r4 _ (List.mem_of_getElem? (i := 3) rfl), List.forall_mem_cons.mpr ⟨mc_X6_read_r4 _ (List.mem_of_getElem? (i := 4) rfl), List.forall_mem_cons.mpr ⟨mc_X6_read_r4 _ (List.mem_of_getElem? (i := 5) rfl), List.forall_mem_cons.mpr ⟨mc_X6_read_r4 _ (List.mem_of_getElem? (i := 6) rfl), List.forall_mem_cons.mpr ⟨mc_X6_read_r4 _ (List.mem_of_getElem? (i := 7) rfl), List.forall_mem_cons.mpr ⟨mc_X6_read_r4 _ (List.mem_of_getElem? (i := 8) rfl), List.forall_mem_cons.mpr ⟨mc_X6_read_r4 _ (List.mem_of_getElem? (i := 9) rfl), List.forall_mem_cons.mpr ⟨mc_X6_read_r4 _ (List.mem_of_getElem? (i := 10) rfl), List.forall_mem_cons.mpr ⟨mc_X6_read_r4 _ (List.mem_of_getElem? (i := 11) rfl), fun _ h => absurd h List.not_mem_nil⟩⟩⟩⟩⟩⟩⟩⟩⟩⟩⟩⟩⟩⟩⟩⟩⟩⟩⟩⟩⟩⟩⟩⟩
set_option maxRecDepth 20000 in
theorem mm_X6_read_X10_scan_r4 : ∀ w ∈ wsX10_scan_r4, w ∈ wsX6_read := List.forall_mem_cons.mpr ⟨mc_X6_read_r4 _ (List.mem_of_getElem? (i := 12) rfl), List.forall_mem_cons.mpr ⟨mc_X6_read_r4 _ (List.mem_of_getElem? (i := 13) rfl), List.forall_mem_cons.mpr ⟨mc_X6_read_r4 _ (List.mem_of_getElem? (i := 14) rfl), List.forall_mem_cons.mpr ⟨mc_X6_read_r4 _ (List.mem_of_getElem? (i := 15) rfl), List.forall_mem_cons.mpr ⟨mc_X6_read_r4 _ (List.mem_of_getElem? (i := 16) rfl), List.forall_mem_cons.mpr ⟨mc_X6_read_r4 _ (List.mem_of_getElem? (i := 17) rfl), List.forall_mem_cons.mpr ⟨mc_X6_read_r4 _ (List.mem_of_getElem? (i := 18) rfl), List.forall_mem_cons.mpr ⟨mc_X6_read_r4 _ (List.mem_of_getElem? (i := 19) rfl), List.forall_mem_cons.mpr ⟨mc_X6_read_r4 _ (List.mem_of_getElem? (i := 20) rfl), List.forall_mem_cons.mpr ⟨mc_X6_read_r4 _ (List.mem_of_getElem? (i := 21) rfl), List.forall_mem_cons.mpr ⟨mc_X6_read_r4 _ (List.mem_of_getElem? (i := 22) rfl), List.forall_mem_cons.mpr ⟨mc_X6_read_r4 _ (List.mem_of_getElem? (i := 23) rfl), List.forall_mem_cons.mpr ⟨mc_X6_read_r5 _ (List.mem_of_getElem? (i := 0) rfl), List.forall_mem_cons.mpr ⟨mc_X6_read_r5 _ (List.mem_of_getElem? (i := 1) rfl), List.forall_mem_cons.mpr ⟨mc_X6_read_r5 _ (List.mem_of_getElem? (i := 2) rfl), List.forall_mem_cons.mpr ⟨mc_X6_read_r5 _ (List.mem_of_getElem? (i := 3) rfl), List.forall_mem_cons.mpr ⟨mc_X6_read_r5 _ (List.mem_of_getElem? (i := 4) rfl), List.forall_mem_cons.mpr ⟨mc_X6_read_r5 _ (List.mem_of_getElem? (i := 5) rfl), List.forall_mem_cons.mpr ⟨mc_X6_read_r5 _ (List.mem_of_getElem? (i := 6) rfl), List.forall_mem_cons.mpr ⟨mc_X6_read_r5 _ (List.mem_of_getElem? (i := 7) rfl), List.forall_mem_cons.mpr ⟨mc_X6_read_r5 _ (List.mem_of_getElem? (i := 8) rfl), List.forall_mem_cons.mpr ⟨mc_X6_read_r5 _ (List.mem_of_getElem? (i := 9) rfl), List.forall_mem_cons.mpr ⟨mc_X6_read_r5 _ (List.mem_of_getElem? (i := 10) rfl), fun _ h => absurd h List.not_mem_nil⟩⟩⟩⟩⟩⟩⟩⟩⟩⟩⟩⟩⟩⟩⟩⟩⟩⟩⟩⟩⟩⟩⟩
set_option maxRecDepth 20000 in
theorem ggX6_read_X10_scan : GoodIn wsX6_read wsX10_scan := goodIn_sub (List.forall_mem_cons.mpr ⟨mc_X6_read_r1 _ (List.mem_of_getElem? (i := 12) rfl), List.forall_mem_append.mpr ⟨List.forall_mem_append.mpr ⟨List.forall_mem_append.mpr ⟨mm_X6_read_X10_scan_r1, List.forall_mem_append.mpr ⟨mm_X6_read_X10_scan_r2, List.forall_mem_append.mpr ⟨mm_X6_read_X10_scan_r3, mm_X6_read_X10_scan_r4⟩⟩⟩, tl_X6_read_X10⟩, tl_X6_read_X9⟩⟩) (by decide +kernel)
set_option maxRecDepth 20000 in
theorem gX6_read_X10_scan : GoodIn wsX6_read (wsV RX6 28 RX10 yX10_scan wsX10_scan) := goodIn_app (goodIn_sub (List.forall_mem_cons.mpr ⟨mc_X6_read_r1 _ (List.mem_of_getElem? (i := 8) rfl), List.forall_mem_cons.mpr ⟨mc_X6_read_r1 _ (List.mem_of_getElem? (i := 9) rfl), List.forall_mem_cons.mpr ⟨mc_X6_read_r1 _ (List.mem_of_getElem? (i := 10) rfl), List.forall_mem_cons.mpr ⟨mc_X6_read_r1 _ (List.mem_of_getElem? (i := 11) rfl), fun _ h => absurd h List.not_mem_nil⟩⟩⟩⟩) (by decide +kernel)) ggX6_read_X10_scan
set_option maxRecDepth 20000 in
theorem ggX6_read_X10_kind : GoodIn wsX6_read wsX10_kind := goodIn_sub (List.forall_mem_cons.mpr ⟨mc_X6_read_r5 _ (List.mem_of_getElem? (i := 14) rfl), List.forall_mem_append.mpr ⟨List.forall_mem_cons.mpr ⟨mc_X6_read_r1 _ (List.mem_of_getElem? (i := 13) rfl), List.forall_mem_cons.mpr ⟨mc_X6_read_r2 _ (List.mem_of_getElem? (i := 19) rfl), fun _ h => absurd h List.not_mem_nil⟩⟩, tl_X6_read_X10⟩⟩) (by decide +kernel)
set_option maxRecDepth 20000 in
theorem gX6_read_X10_kind : GoodIn wsX6_read (wsV RX6 39 RX10 yX10_kind wsX10_kind) := goodIn_app (goodIn_sub (List.forall_mem_cons.mpr ⟨mc_X6_read_r5 _ (List.mem_of_getElem? (i := 11) rfl), List.forall_mem_cons.mpr ⟨mc_X6_read_r5 _ (List.mem_of_getElem? (i := 12) rfl), List.forall_mem_cons.mpr ⟨mc_X6_read_r5 _ (List.mem_of_getElem? (i := 13) rfl), List.forall_mem_cons.mpr ⟨mc_X6_read_r1 _ (List.mem_of_getElem? (i := 11) rfl), fun _ h => absurd h List.not_mem_nil⟩⟩⟩⟩) (by decide +kernel)) ggX6_read_X10_kind
set_option maxRecDepth 20000 in
theorem mm_X6_read_X6_statement_r1 : ∀ w ∈ wsX6_statement_r1, w ∈ wsX6_read := List.forall_mem_cons.mpr ⟨mc_X6_read_r1 _ (List.mem_of_getElem? (i := 5) rfl), List.forall_mem_cons.mpr ⟨mc_X6_read_r1 _ (List.mem_of_getElem? (i := 7) rfl), List.forall_mem_cons.mpr ⟨mc_X6_read_r5 _ (List.mem_of_getElem? (i := 20) rfl), List.forall_mem_cons.mpr ⟨mc_X6_read_r5 _ (List.mem_of_getElem? (i := 21) rfl), List.forall_mem_cons.mpr ⟨mc_X6_read_r5 _ (List.mem_of_getElem? (i := 22) rfl), List.forall_mem_cons.mpr ⟨mc_X6_read_r5 _ (List.mem_of_getElem? (i := 18) rfl), List.forall_mem_cons.mpr ⟨mc_X6_read_r5 _ (List.mem_of_getElem? (i := 23) rfl), List.forall_mem_cons.mpr ⟨mc_X6_read_r1 _ (List.mem_of_getElem? (i := 0) rfl), List.forall_mem_cons.mpr ⟨mc_X6_read_r1 _ (List.mem_of_getElem? (i := 1) rfl), List.forall_mem_cons.mpr ⟨mc_X6_read_r5 _ (List.mem_of_getElem? (i := 11) rfl), List.forall_mem_cons.mpr ⟨mc_X6_read_r5 _ (List.mem_of_getElem? (i := 12) rfl), List.forall_mem_cons.mpr ⟨mc_X6_read_r5 _ (List.mem_of_getElem? (i := 13) rfl), List.forall_mem_cons.mpr ⟨mc_X6_read_r1 _ (List.mem_of_getElem? (i := 11) rfl), List.forall_mem_cons.mpr ⟨mc_X6_read_r5 _ (List.mem_of_getElem? (i := 14) rfl), List.forall_mem_cons.mpr ⟨mc_X6_read_r1 _ (List.mem_of_getElem? (i := 13) rfl), List.forall_mem_cons.mpr ⟨mc_X6_read_r2 _ (List.mem_of_getElem? (i := 19) rfl), List.forall_mem_cons.mpr ⟨mc_X6_read_r6 _ (List.mem_of_getElem? (i := 0) rfl), List.forall_mem_cons.mpr ⟨mc_X6_read_r6 _ (List.mem_of_getElem? (i := 1) rfl), List.forall_mem_cons.mpr ⟨mc_X6_read_r6 _ (List.mem_of_getElem? (i := 2) rfl), List.forall_mem_cons.mpr ⟨mc_X6_read_r6 _ (List.mem_of_getElem? (i := 3) rfl), List.forall_mem_cons.mpr ⟨mc_X6_read_r6 _ (List.mem_of_getElem? (i := 4) rfl), List.forall_mem_cons.mpr ⟨mc_X6_read_r6 _ (List.mem_of_getElem? (i := 5) rfl), List.forall_mem_cons.mpr ⟨mc_X6_read_r6 _ (List.mem_of_getElem? (i := 6) rfl), List.forall_mem_cons.mpr ⟨mc_X6_read_r6 _ (List.mem_of_getElem? (i := 7) rfl), fun _ h => absurd h List.not_mem_nil⟩⟩⟩⟩⟩⟩⟩⟩⟩⟩⟩⟩⟩⟩⟩⟩⟩⟩⟩⟩⟩⟩⟩⟩
set_option maxRecDepth 20000 in
theorem mm_X6_read_X6_statement_r2 : ∀ w ∈ wsX6_statement_r2, w ∈ wsX6_read := List.forall_mem_cons.mpr ⟨mc_X6_read_r6 _ (List.mem_of_getElem? (i := 8) rfl), List.forall_mem_cons.mpr ⟨mc_X6_read_r6 _ (List.mem_of_getElem? (i := 9) rfl), List.forall_mem_cons.mpr ⟨mc_X6_read_r6 _ (List.mem_of_getElem? (i := 10) rfl), List.forall_mem_cons.mpr ⟨mc_X6_read_r6 _ (List.mem_of_getElem? (i := 11) rfl), List.forall_mem_cons.mpr ⟨mc_X6_read_r2 _ (List.mem_of_getElem? (i := 21) rfl), List.forall_mem_cons.mpr ⟨mc_X6_read_r6 _ (List.mem_of_getElem? (i := 12) rfl), List.forall_mem_cons.mpr ⟨mc_X6_read_r6 _ (List.mem_of_getElem? (i := 13) rfl), List.forall_mem_cons.mpr ⟨mc_X6_read_r6 _ (List.mem_of_getElem? (i := 14) rfl), List.forall_mem_cons.mpr ⟨mc_X6_read_r6 _ (List.mem_of_getElem? (i := 15) rfl), List.forall_mem_cons.mpr ⟨mc_X6_read_r6 _ (List.mem_of_getElem? (i := 16) rfl), List.forall_mem_cons.mpr ⟨mc_X6_read_r6 _ (List.mem_of_getElem? (i := 17) rfl), List.forall_mem_cons.mpr ⟨mc_X6_read_r6 _ (List.mem_of_getElem? (i := 18) rfl), List.forall_mem_cons.mpr ⟨mc_X6_read_r6 _ (List.mem_of_getElem? (i := 19) rfl), fun _ h => absurd h List.not_mem_nil⟩⟩⟩⟩⟩⟩⟩⟩⟩⟩⟩⟩⟩
set_option maxRecDepth 20000 in
theorem ggX6_read_X6_statement : GoodIn wsX6_read wsX6_statement := goodIn_sub (List.forall_mem_cons.mpr ⟨mc_X6_read_r5 _ (List.mem_of_getElem? (i := 19) rfl), List.forall_mem_append.mpr ⟨List.forall_mem_append.mpr ⟨List.forall_mem_append.mpr ⟨mm_X6_read_X6_statement_r1, mm_X6_read_X6_statement_r2⟩, tl_X6_read_X6⟩, tl_X6_read_X10⟩⟩) (by decide +kernel)
set_option maxRecDepth 20000 in
theorem gX6_read_X6_statement : GoodIn wsX6_read (wsV RX6 43 RX6 yX6_statement wsX6_statement) := goodIn_app (goodIn_sub (List.forall_mem_cons.mpr ⟨mc_X6_read_r5 _ (List.mem_of_getElem? (i := 15) rfl), List.forall_mem_cons.mpr ⟨mc_X6_read_r5 _ (List.mem_of_getElem? (i := 16) rfl), List.forall_mem_cons.mpr ⟨mc_X6_read_r5 _ (List.mem_of_getElem? (i := 17) rfl), List.forall_mem_cons.mpr ⟨mc_X6_read_r5 _ (List.mem_of_getElem? (i := 18) rfl), fun _ h => absurd h List.not_mem_nil⟩⟩⟩⟩) (by decide +kernel)) ggX6_read_X6_statement
set_option maxRecDepth 20000 in
theorem ggX6_read_X10_place : GoodIn wsX6_read wsX10_place := goodIn_sub (List.forall_mem_cons.mpr ⟨mc_X6_read_r6 _ (List.mem_of_getElem? (i := 23) rfl), List.forall_mem_append.mpr ⟨List.forall_mem_cons.mpr ⟨mc_X6_read_r1 _ (List.mem_of_getElem? (i := 13) rfl), List.forall_mem_cons.mpr ⟨mc_X6_read_r2 _ (List.mem_of_getElem? (i := 20) rfl), List.forall_mem_cons.mpr ⟨mc_X6_read_r1 _ (List.mem_of_getElem? (i := 14) rfl), fun _ h => absurd h List.not_mem_nil⟩⟩⟩, tl_X6_read_X10⟩⟩) (by decide +kernel)
set_option maxRecDepth 20000 in
theorem gX6_read_X10_place : GoodIn wsX6_read (wsV RX6 47 RX10 yX10_place wsX10_place) := goodIn_app (goodIn_sub (List.forall_mem_cons.mpr ⟨mc_X6_read_r6 _ (List.mem_of_getElem? (i := 20) rfl), List.forall_mem_cons.mpr ⟨mc_X6_read_r6 _ (List.mem_of_getElem? (i := 21) rfl), List.forall_mem_cons.mpr ⟨mc_X6_read_r6 _ (List.mem_of_getElem? (i := 22) rfl), List.forall_mem_cons.mpr ⟨mc_X6_read_r1 _ (List.mem_of_getElem? (i := 11) rfl), fun _ h => absurd h List.not_mem_nil⟩⟩⟩⟩) (by decide +kernel)) ggX6_read_X10_place
theorem dX6_read_0 : decode cX6_read 0 = .ok (.aload_n 0, 1) := by decide +kernel
theorem dX6_read_1 : decode cX6_read 1 = .ok (.getfield 12, 3) := by decide +kernel
theorem dX6_read_4 : decode cX6_read 4 = .ok (.aload_n 1, 1) := by decide +kernel
theorem dX6_read_5 : decode cX6_read 5 = .ok (.iload_n 2, 1) := by decide +kernel
theorem dX6_read_6 : decode cX6_read 6 = .ok (.invokevirtual 28, 3) := by decide +kernel
theorem dX6_read_9 : decode cX6_read 9 = .ok (.aload_n 0, 1) := by decide +kernel
theorem dX6_read_10 : decode cX6_read 10 = .ok (.iconst 0, 1) := by decide +kernel
theorem dX6_read_11 : decode cX6_read 11 = .ok (.putfield 32, 3) := by decide +kernel
theorem dX6_read_14 : decode cX6_read 14 = .ok (.aload_n 0, 1) := by decide +kernel
theorem dX6_read_15 : decode cX6_read 15 = .ok (.iconst 0, 1) := by decide +kernel
theorem dX6_read_16 : decode cX6_read 16 = .ok (.putfield 36, 3) := by decide +kernel
theorem dX6_read_19 : decode cX6_read 19 = .ok (.aload_n 0, 1) := by decide +kernel
theorem dX6_read_20 : decode cX6_read 20 = .ok (.getfield 36, 3) := by decide +kernel
theorem dX6_read_23 : decode cX6_read 23 = .ok (.bipush 16, 2) := by decide +kernel
theorem dX6_read_25 : decode cX6_read 25 = .ok (.if_icmp .ge 88, 3) := by decide +kernel
theorem dX6_read_28 : decode cX6_read 28 = .ok (.aload_n 0, 1) := by decide +kernel
theorem dX6_read_29 : decode cX6_read 29 = .ok (.getfield 12, 3) := by decide +kernel
theorem dX6_read_32 : decode cX6_read 32 = .ok (.aload_n 0, 1) := by decide +kernel
theorem dX6_read_33 : decode cX6_read 33 = .ok (.getfield 32, 3) := by decide +kernel
theorem dX6_read_36 : decode cX6_read 36 = .ok (.invokevirtual 39, 3) := by decide +kernel
theorem dX6_read_39 : decode cX6_read 39 = .ok (.ifCond .eq 74, 3) := by decide +kernel
theorem dX6_read_42 : decode cX6_read 42 = .ok (.aload_n 0, 1) := by decide +kernel
theorem dX6_read_43 : decode cX6_read 43 = .ok (.invokevirtual 43, 3) := by decide +kernel
theorem dX6_read_46 : decode cX6_read 46 = .ok (.istore_n 3, 1) := by decide +kernel
theorem dX6_read_47 : decode cX6_read 47 = .ok (.iload_n 3, 1) := by decide +kernel
theorem dX6_read_48 : decode cX6_read 48 = .ok (.iconst (-1), 1) := by decide +kernel
theorem dX6_read_49 : decode cX6_read 49 = .ok (.if_icmp .ne 15, 3) := by decide +kernel
theorem dX6_read_52 : decode cX6_read 52 = .ok (.aload_n 0, 1) := by decide +kernel
theorem dX6_read_53 : decode cX6_read 53 = .ok (.getfield 12, 3) := by decide +kernel
theorem dX6_read_56 : decode cX6_read 56 = .ok (.aload_n 0, 1) := by decide +kernel
theorem dX6_read_57 : decode cX6_read 57 = .ok (.getfield 32, 3) := by decide +kernel
theorem dX6_read_60 : decode cX6_read 60 = .ok (.invokevirtual 47, 3) := by decide +kernel
theorem dX6_read_63 : decode cX6_read 63 = .ok (.ireturn, 1) := by decide +kernel
theorem dX6_read_64 : decode cX6_read 64 = .ok (.aload_n 0, 1) := by decide +kernel
theorem dX6_read_65 : decode cX6_read 65 = .ok (.getfield 18, 3) := by decide +kernel
theorem dX6_read_68 : decode cX6_read 68 = .ok (.aload_n 0, 1) := by decide +kernel
theorem dX6_read_69 : decode cX6_read 69 = .ok (.getfield 36, 3) := by decide +kernel
theorem dX6_read_72 : decode cX6_read 72 = .ok (.iload_n 3, 1) := by decide +kernel
theorem dX6_read_73 : decode cX6_read 73 = .ok (.iastore, 1) := by decide +kernel
theorem dX6_read_74 : decode cX6_read 74 = .ok (.aload_n 0, 1) := by decide +kernel
theorem dX6_read_75 : decode cX6_read 75 = .ok (.getfield 22, 3) := by decide +kernel
theorem dX6_read_78 : decode cX6_read 78 = .ok (.aload_n 0, 1) := by decide +kernel
theorem dX6_read_79 : decode cX6_read 79 = .ok (.getfield 36, 3) := by decide +kernel
theorem dX6_read_82 : decode cX6_read 82 = .ok (.aload_n 0, 1) := by decide +kernel
theorem dX6_read_83 : decode cX6_read 83 = .ok (.getfield 50, 3) := by decide +kernel
theorem dX6_read_86 : decode cX6_read 86 = .ok (.iastore, 1) := by decide +kernel
theorem dX6_read_87 : decode cX6_read 87 = .ok (.aload_n 0, 1) := by decide +kernel
theorem dX6_read_88 : decode cX6_read 88 = .ok (.getfield 25, 3) := by decide +kernel
theorem dX6_read_91 : decode cX6_read 91 = .ok (.aload_n 0, 1) := by decide +kernel
theorem dX6_read_92 : decode cX6_read 92 = .ok (.getfield 36, 3) := by decide +kernel
theorem dX6_read_95 : decode cX6_read 95 = .ok (.aload_n 0, 1) := by decide +kernel
theorem dX6_read_96 : decode cX6_read 96 = .ok (.getfield 53, 3) := by decide +kernel
theorem dX6_read_99 : decode cX6_read 99 = .ok (.iastore, 1) := by decide +kernel
theorem dX6_read_100 : decode cX6_read 100 = .ok (.aload_n 0, 1) := by decide +kernel
theorem dX6_read_101 : decode cX6_read 101 = .ok (.dup, 1) := by decide +kernel
theorem dX6_read_102 : decode cX6_read 102 = .ok (.getfield 36, 3) := by decide +kernel
theorem dX6_read_105 : decode cX6_read 105 = .ok (.iconst 1, 1) := by decide +kernel
theorem dX6_read_106 : decode cX6_read 106 = .ok (.iadd, 1) := by decide +kernel
theorem dX6_read_107 : decode cX6_read 107 = .ok (.putfield 36, 3) := by decide +kernel
theorem dX6_read_110 : decode cX6_read 110 = .ok (.goto (-91), 3) := by decide +kernel
theorem dX6_read_113 : decode cX6_read 113 = .ok (.aload_n 0, 1) := by decide +kernel
theorem dX6_read_114 : decode cX6_read 114 = .ok (.getfield 12, 3) := by decide +kernel
theorem dX6_read_117 : decode cX6_read 117 = .ok (.aload_n 0, 1) := by decide +kernel
theorem dX6_read_118 : decode cX6_read 118 = .ok (.getfield 32, 3) := by decide +kernel
theorem dX6_read_121 : decode cX6_read 121 = .ok (.invokevirtual 39, 3) := by decide +kernel
theorem dX6_read_124 : decode cX6_read 124 = .ok (.ifCond .ne 7, 3) := by decide +kernel
theorem dX6_read_127 : decode cX6_read 127 = .ok (.iconst (-1), 1) := by decide +kernel
theorem dX6_read_128 : decode cX6_read 128 = .ok (.goto 14, 3) := by decide +kernel
theorem dX6_read_131 : decode cX6_read 131 = .ok (.aload_n 0, 1) := by decide +kernel
theorem dX6_read_132 : decode cX6_read 132 = .ok (.getfield 12, 3) := by decide +kernel
theorem dX6_read_135 : decode cX6_read 135 = .ok (.aload_n 0, 1) := by decide +kernel
theorem dX6_read_136 : decode cX6_read 136 = .ok (.getfield 32, 3) := by decide +kernel
theorem dX6_read_139 : decode cX6_read 139 = .ok (.invokevirtual 47, 3) := by decide +kernel
theorem dX6_read_142 : decode cX6_read 142 = .ok (.ireturn, 1) := by decide +kernel
set_option maxRecDepth 20000 in
theorem ggX6_statement_X6_accept : GoodIn wsX6_statement wsX6_accept := goodIn_sub (List.forall_mem_cons.mpr ⟨mc_X6_statement_r1 _ (List.mem_of_getElem? (i := 6) rfl), List.forall_mem_append.mpr ⟨List.forall_mem_append.mpr ⟨List.forall_mem_cons.mpr ⟨mc_X6_statement_r1 _ (List.mem_of_getElem? (i := 7) rfl), List.forall_mem_cons.mpr ⟨mc_X6_statement_r1 _ (List.mem_of_getElem? (i := 8) rfl), List.forall_mem_cons.mpr ⟨mc_X6_statement_r1 _ (List.mem_of_getElem? (i := 9) rfl), List.forall_mem_cons.mpr ⟨mc_X6_statement_r1 _ (List.mem_of_getElem? (i := 10) rfl), List.forall_mem_cons.mpr ⟨mc_X6_statement_r1 _ (List.mem_of_getElem? (i := 11) rfl), List.forall_mem_cons.mpr ⟨mc_X6_statement_r1 _ (List.mem_of_getElem? (i := 12) rfl), List.forall_mem_cons.mpr ⟨mc_X6_statement_r1 _ (List.mem_of_getElem? (i := 13) rfl), List.forall_mem_cons.mpr ⟨mc_X6_statement_r1 _ (List.mem_of_getElem? (i := 14) rfl), List.forall_mem_cons.mpr ⟨mc_X6_statement_r1 _ (List.mem_of_getElem? (i := 15) rfl), fun _ h => absurd h List.not_mem_nil⟩⟩⟩⟩⟩⟩⟩⟩⟩, tl_X6_statement_X6⟩, tl_X6_statement_X10⟩⟩) (by decide +kernel)
set_option maxRecDepth 20000 in
theorem gX6_statement_X6_accept : GoodIn wsX6_statement (wsV RX6 56 RX6 yX6_accept wsX6_accept) := goodIn_app (goodIn_sub (List.forall_mem_cons.mpr ⟨mc_X6_statement_r1 _ (List.mem_of_getElem? (i := 2) rfl), List.forall_mem_cons.mpr ⟨mc_X6_statement_r1 _ (List.mem_of_getElem? (i := 3) rfl), List.forall_mem_cons.mpr ⟨mc_X6_statement_r1 _ (List.mem_of_getElem? (i := 4) rfl), List.forall_mem_cons.mpr ⟨mc_X6_statement_r1 _ (List.mem_of_getElem? (i := 5) rfl), fun _ h => absurd h List.not_mem_nil⟩⟩⟩⟩) (by decide +kernel)) ggX6_statement_X6_accept
set_option maxRecDepth 20000 in
theorem mm_X6_statement_X6_fastStatement_r1 : ∀ w ∈ wsX6_fastStatement_r1, w ∈ wsX6_statement := List.forall_mem_cons.mpr ⟨mc_X6_statement_r1 _ (List.mem_of_getElem? (i := 2) rfl), List.forall_mem_cons.mpr ⟨mc_X6_statement_r1 _ (List.mem_of_getElem? (i := 3) rfl), List.forall_mem_cons.mpr ⟨mc_X6_statement_r1 _ (List.mem_of_getElem? (i := 4) rfl), List.forall_mem_cons.mpr ⟨mc_X6_statement_r1 _ (List.mem_of_getElem? (i := 5) rfl), List.forall_mem_cons.mpr ⟨mc_X6_statement_r1 _ (List.mem_of_getElem? (i := 6) rfl), List.forall_mem_cons.mpr ⟨mc_X6_statement_r1 _ (List.mem_of_getElem? (i := 7) rfl), List.forall_mem_cons.mpr ⟨mc_X6_statement_r1 _ (List.mem_of_getElem? (i := 8) rfl), List.forall_mem_cons.mpr ⟨mc_X6_statement_r1 _ (List.mem_of_getElem? (i := 9) rfl), List.forall_mem_cons.mpr ⟨mc_X6_statement_r1 _ (List.mem_of_getElem? (i := 10) rfl), List.forall_mem_cons.mpr ⟨mc_X6_statement_r1 _ (List.mem_of_getElem? (i := 11) rfl), List.forall_mem_cons.mpr ⟨mc_X6_statement_r1 _ (List.mem_of_getElem? (i := 12) rfl), List.forall_mem_cons.mpr ⟨mc_X6_statement_r1 _ (List.mem_of_getElem? (i := 13) rfl), List.forall_mem_cons.mpr ⟨mc_X6_statement_r1 _ (List.mem_of_getElem? (i := 14) rfl), List.forall_mem_cons.mpr ⟨mc_X6_statement_r1 _ (List.mem_of_getElem? (i := 15) rfl), List.forall_mem_cons.mpr ⟨mc_X6_statement_r1 _ (List.mem_of_getElem? (i := 20) rfl), List.forall_mem_cons.mpr ⟨mc_X6_statement_r1 _ (List.mem_of_getElem? (i := 21) rfl), List.forall_mem_cons.mpr ⟨mc_X6_statement_r1 _ (List.mem_of_getElem? (i := 22) rfl), List.forall_mem_cons.mpr ⟨mc_X6_statement_r1 _ (List.mem_of_getElem? (i := 23) rfl), List.forall_mem_cons.mpr ⟨mc_X6_statement_r1 _ (List.mem_of_getElem? (i := 0) rfl), List.forall_mem_cons.mpr ⟨mc_X6_statement_r2 _ (List.mem_of_getElem? (i := 0) rfl), List.forall_mem_cons.mpr ⟨mc_X6_statement_r2 _ (List.mem_of_getElem? (i := 1) rfl), List.forall_mem_cons.mpr ⟨mc_X6_statement_r2 _ (List.mem_of_getElem? (i := 2) rfl), List.forall_mem_cons.mpr ⟨mc_X6_statement_r2 _ (List.mem_of_getElem? (i := 3) rfl), List.forall_mem_cons.mpr ⟨mc_X6_statement_r2 _ (List.mem_of_getElem? (i := 4) rfl), fun _ h => absurd h List.not_mem_nil⟩⟩⟩⟩⟩⟩⟩⟩⟩⟩⟩⟩⟩⟩⟩⟩⟩⟩⟩⟩⟩⟩⟩⟩
set_option maxRecDepth 20000 in
theorem mm_X6_statement_X6_fastStatement_r2 : ∀ w ∈ wsX6_fastStatement_r2, w ∈ wsX6_statement := List.forall_mem_cons.mpr ⟨mc_X6_statement_r2 _ (List.mem_of_getElem? (i := 5) rfl), List.forall_mem_cons.mpr ⟨mc_X6_statement_r2 _ (List.mem_of_getElem? (i := 6) rfl), List.forall_mem_cons.mpr ⟨mc_X6_statement_r2 _ (List.mem_of_getElem? (i := 7) rfl), List.forall_mem_cons.mpr ⟨mc_X6_statement_r2 _ (List.mem_of_getElem? (i := 8) rfl), List.forall_mem_cons.mpr ⟨mc_X6_statement_r1 _ (List.mem_of_getElem? (i := 1) rfl), fun _ h => absurd h List.not_mem_nil⟩⟩⟩⟩⟩
set_option maxRecDepth 20000 in
theorem ggX6_statement_X6_fastStatement : GoodIn wsX6_statement wsX6_fastStatement := goodIn_sub (List.forall_mem_cons.mpr ⟨mc_X6_statement_r1 _ (List.mem_of_getElem? (i := 19) rfl), List.forall_mem_append.mpr ⟨List.forall_mem_append.mpr ⟨List.forall_mem_append.mpr ⟨mm_X6_statement_X6_fastStatement_r1, mm_X6_statement_X6_fastStatement_r2⟩, tl_X6_statement_X6⟩, tl_X6_statement_X10⟩⟩) (by decide +kernel)
set_option maxRecDepth 20000 in
theorem gX6_statement_X6_fastStatement : GoodIn wsX6_statement (wsV RX6 60 RX6 yX6_fastStatement wsX6_fastStatement) := goodIn_app (goodIn_sub (List.forall_mem_cons.mpr ⟨mc_X6_statement_r1 _ (List.mem_of_getElem? (i := 16) rfl), List.forall_mem_cons.mpr ⟨mc_X6_statement_r1 _ (List.mem_of_getElem? (i := 17) rfl), List.forall_mem_cons.mpr ⟨mc_X6_statement_r1 _ (List.mem_of_getElem? (i := 18) rfl), List.forall_mem_cons.mpr ⟨mc_X6_statement_r1 _ (List.mem_of_getElem? (i := 5) rfl), fun _ h => absurd h List.not_mem_nil⟩⟩⟩⟩) (by decide +kernel)) ggX6_statement_X6_fastStatement
set_option maxRecDepth 20000 in
theorem mm_X6_statement_X6_feedStatement_r1 : ∀ w ∈ wsX6_feedStatement_r1, w ∈ wsX6_statement := List.forall_mem_cons.mpr ⟨mc_X6_statement_r1 _ (List.mem_of_getElem? (i := 2) rfl), List.forall_mem_cons.mpr ⟨mc_X6_statement_r1 _ (List.mem_of_getElem? (i := 3) rfl), List.forall_mem_cons.mpr ⟨mc_X6_statement_r1 _ (List.mem_of_getElem? (i := 4) rfl), List.forall_mem_cons.mpr ⟨mc_X6_statement_r1 _ (List.mem_of_getElem? (i := 5) rfl), List.forall_mem_cons.mpr ⟨mc_X6_statement_r1 _ (List.mem_of_getElem? (i := 6) rfl), List.forall_mem_cons.mpr ⟨mc_X6_statement_r1 _ (List.mem_of_getElem? (i := 7) rfl), List.forall_mem_cons.mpr ⟨mc_X6_statement_r1 _ (List.mem_of_getElem? (i := 8) rfl), List.forall_mem_cons.mpr ⟨mc_X6_statement_r1 _ (List.mem_of_getElem? (i := 9) rfl), List.forall_mem_cons.mpr ⟨mc_X6_statement_r1 _ (List.mem_of_getElem? (i := 10) rfl), List.forall_mem_cons.mpr ⟨mc_X6_statement_r1 _ (List.mem_of_getElem? (i := 11) rfl), List.forall_mem_cons.mpr ⟨mc_X6_statement_r1 _ (List.mem_of_getElem? (i := 12) rfl), List.forall_mem_cons.mpr ⟨mc_X6_statement_r1 _ (List.mem_of_getElem? (i := 13) rfl), List.forall_mem_cons.mpr ⟨mc_X6_statement_r1 _ (List.mem_of_getElem? (i := 14) rfl), List.forall_mem_cons.mpr ⟨mc_X6_statement_r1 _ (List.mem_of_getElem? (i := 15) rfl), List.forall_mem_cons.mpr ⟨mc_X6_statement_r2 _ (List.mem_of_getElem? (i := 5) rfl), List.forall_mem_cons.mpr ⟨mc_X6_statement_r2 _ (List.mem_of_getElem? (i := 6) rfl), List.forall_mem_cons.mpr ⟨mc_X6_statement_r2 _ (List.mem_of_getElem? (i := 7) rfl), List.forall_mem_cons.mpr ⟨mc_X6_statement_r2 _ (List.mem_of_getElem? (i := 8) rfl), List.forall_mem_cons.mpr ⟨mc_X6_statement_r1 _ (List.mem_of_getElem? (i := 1) rfl), List.forall_mem_cons.mpr ⟨mc_X6_statement_r2 _ (List.mem_of_getElem? (i := 0) rfl), List.forall_mem_cons.mpr ⟨mc_X6_statement_r2 _ (List.mem_of_getElem? (i := 1) rfl), List.forall_mem_cons.mpr ⟨mc_X6_statement_r2 _ (List.mem_of_getElem? (i := 2) rfl), List.forall_mem_cons.mpr ⟨mc_X6_statement_r2 _ (List.mem_of_getElem? (i := 3) rfl), List.forall_mem_cons.mpr ⟨mc_X6_statement_r2 _ (List.mem_of_getElem? (i := 4) rfl), fun _ h => absurd h List.not_mem_nil⟩⟩⟩⟩⟩⟩⟩⟩⟩⟩⟩⟩⟩⟩⟩⟩⟩⟩⟩⟩⟩⟩⟩⟩
set_option maxRecDepth 20000 in
theorem mm_X6_statement_X6_feedStatement_r2 : ∀ w ∈ wsX6_feedStatement_r2, w ∈ wsX6_statement := List.forall_mem_cons.mpr ⟨mc_X6_statement_r1 _ (List.mem_of_getElem? (i := 20) rfl), List.forall_mem_cons.mpr ⟨mc_X6_statement_r1 _ (List.mem_of_getElem? (i := 21) rfl), List.forall_mem_cons.mpr ⟨mc_X6_statement_r1 _ (List.mem_of_getElem? (i := 22) rfl), List.forall_mem_cons.mpr ⟨mc_X6_statement_r1 _ (List.mem_of_getElem? (i := 23) rfl), List.forall_mem_cons.mpr ⟨mc_X6_statement_r1 _ (List.mem_of_getElem? (i := 0) rfl), fun _ h => absurd h List.not_mem_nil⟩⟩⟩⟩⟩
set_option maxRecDepth 20000 in
theorem ggX6_statement_X6_feedStatement : GoodIn wsX6_statement wsX6_feedStatement := goodIn_sub (List.forall_mem_cons.mpr ⟨mc_X6_statement_r2 _ (List.mem_of_getElem? (i := 12) rfl), List.forall_mem_append.mpr ⟨List.forall_mem_append.mpr ⟨List.forall_mem_append.mpr ⟨mm_X6_statement_X6_feedStatement_r1, mm_X6_statement_X6_feedStatement_r2⟩, tl_X6_statement_X6⟩, tl_X6_statement_X10⟩⟩) (by decide +kernel)
set_option maxRecDepth 20000 in
theorem gX6_statement_X6_feedStatement : GoodIn wsX6_statement (wsV RX6 63 RX6 yX6_feedStatement wsX6_feedStatement) := goodIn_app (goodIn_sub (List.forall_mem_cons.mpr ⟨mc_X6_statement_r2 _ (List.mem_of_getElem? (i := 9) rfl), List.forall_mem_cons.mpr ⟨mc_X6_statement_r2 _ (List.mem_of_getElem? (i := 10) rfl), List.forall_mem_cons.mpr ⟨mc_X6_statement_r2 _ (List.mem_of_getElem? (i := 11) rfl), List.forall_mem_cons.mpr ⟨mc_X6_statement_r1 _ (List.mem_of_getElem? (i := 5) rfl), fun _ h => absurd h List.not_mem_nil⟩⟩⟩⟩) (by decide +kernel)) ggX6_statement_X6_feedStatement
theorem dX6_statement_0 : decode cX6_statement 0 = .ok (.aload_n 0, 1) := by decide +kernel
theorem dX6_statement_1 : decode cX6_statement 1 = .ok (.iconst 0, 1) := by decide +kernel
theorem dX6_statement_2 : decode cX6_statement 2 = .ok (.putfield 50, 3) := by decide +kernel
theorem dX6_statement_5 : decode cX6_statement 5 = .ok (.aload_n 0, 1) := by decide +kernel
theorem dX6_statement_6 : decode cX6_statement 6 = .ok (.iconst 0, 1) := by decide +kernel
theorem dX6_statement_7 : decode cX6_statement 7 = .ok (.putfield 53, 3) := by decide +kernel
theorem dX6_statement_10 : decode cX6_statement 10 = .ok (.iconst (-1), 1) := by decide +kernel
theorem dX6_statement_11 : decode cX6_statement 11 = .ok (.istore_n 1, 1) := by decide +kernel
theorem dX6_statement_12 : decode cX6_statement 12 = .ok (.aload_n 0, 1) := by decide +kernel
theorem dX6_statement_13 : decode cX6_statement 13 = .ok (.iconst 4, 1) := by decide +kernel
theorem dX6_statement_14 : decode cX6_statement 14 = .ok (.invokevirtual 56, 3) := by decide +kernel
theorem dX6_statement_17 : decode cX6_statement 17 = .ok (.ifCond .eq 11, 3) := by decide +kernel
theorem dX6_statement_20 : decode cX6_statement 20 = .ok (.aload_n 0, 1) := by decide +kernel
theorem dX6_statement_21 : decode cX6_statement 21 = .ok (.invokevirtual 60, 3) := by decide +kernel
theorem dX6_statement_24 : decode cX6_statement 24 = .ok (.istore_n 1, 1) := by decide +kernel
theorem dX6_statement_25 : decode cX6_statement 25 = .ok (.goto 17, 3) := by decide +kernel
theorem dX6_statement_28 : decode cX6_statement 28 = .ok (.aload_n 0, 1) := by decide +kernel
theorem dX6_statement_29 : decode cX6_statement 29 = .ok (.bipush 8, 2) := by decide +kernel
theorem dX6_statement_31 : decode cX6_statement 31 = .ok (.invokevirtual 56, 3) := by decide +kernel
theorem dX6_statement_34 : decode cX6_statement 34 = .ok (.ifCond .eq 8, 3) := by decide +kernel
theorem dX6_statement_37 : decode cX6_statement 37 = .ok (.aload_n 0, 1) := by decide +kernel
theorem dX6_statement_38 : decode cX6_statement 38 = .ok (.invokevirtual 63, 3) := by decide +kernel
theorem dX6_statement_41 : decode cX6_statement 41 = .ok (.istore_n 1, 1) := by decide +kernel
theorem dX6_statement_42 : decode cX6_statement 42 = .ok (.iload_n 1, 1) := by decide +kernel
theorem dX6_statement_43 : decode cX6_statement 43 = .ok (.iconst (-1), 1) := by decide +kernel
theorem dX6_statement_44 : decode cX6_statement 44 = .ok (.if_icmp .eq 15, 3) := by decide +kernel
theorem dX6_statement_47 : decode cX6_statement 47 = .ok (.aload_n 0, 1) := by decide +kernel
theorem dX6_statement_48 : decode cX6_statement 48 = .ok (.iconst 2, 1) := by decide +kernel
theorem dX6_statement_49 : decode cX6_statement 49 = .ok (.invokevirtual 56, 3) := by decide +kernel
theorem dX6_statement_52 : decode cX6_statement 52 = .ok (.ifCond .eq 7, 3) := by decide +kernel
theorem dX6_statement_55 : decode cX6_statement 55 = .ok (.iload_n 1, 1) := by decide +kernel
theorem dX6_statement_56 : decode cX6_statement 56 = .ok (.goto 4, 3) := by decide +kernel
theorem dX6_statement_59 : decode cX6_statement 59 = .ok (.iconst (-1), 1) := by decide +kernel
theorem dX6_statement_60 : decode cX6_statement 60 = .ok (.ireturn, 1) := by decide +kernel
set_option maxRecDepth 20000 in
theorem ggX6_fastStatement_X6_accept : GoodIn wsX6_fastStatement wsX6_accept := goodIn_sub (List.forall_mem_cons.mpr ⟨mc_X6_fastStatement_r1 _ (List.mem_of_getElem? (i := 4) rfl), List.forall_mem_append.mpr ⟨List.forall_mem_append.mpr ⟨List.forall_mem_cons.mpr ⟨mc_X6_fastStatement_r1 _ (List.mem_of_getElem? (i := 5) rfl), List.forall_mem_cons.mpr ⟨mc_X6_fastStatement_r1 _ (List.mem_of_getElem? (i := 6) rfl), List.forall_mem_cons.mpr ⟨mc_X6_fastStatement_r1 _ (List.mem_of_getElem? (i := 7) rfl), List.forall_mem_cons.mpr ⟨mc_X6_fastStatement_r1 _ (List.mem_of_getElem? (i := 8) rfl), List.forall_mem_cons.mpr ⟨mc_X6_fastStatement_r1 _ (List.mem_of_getElem? (i := 9) rfl), List.forall_mem_cons.mpr ⟨mc_X6_fastStatement_r1 _ (List.mem_of_getElem? (i := 10) rfl), List.forall_mem_cons.mpr ⟨mc_X6_fastStatement_r1 _ (List.mem_of_getElem? (i := 11) rfl), List.forall_mem_cons.mpr ⟨mc_X6_fastStatement_r1 _ (List.mem_of_getElem? (i := 12) rfl), List.forall_mem_cons.mpr ⟨mc_X6_fastStatement_r1 _ (List.mem_of_getElem? (i := 13) rfl), fun _ h => absurd h List.not_mem_nil⟩⟩⟩⟩⟩⟩⟩⟩⟩, tl_X6_fastStatement_X6⟩, tl_X6_fastStatement_X10⟩⟩) (by decide +kernel)
set_option maxRecDepth 20000 in
theorem gX6_fastStatement_X6_accept : GoodIn wsX6_fastStatement (wsV RX6 56 RX6 yX6_accept wsX6_accept) := goodIn_app (goodIn_sub (List.forall_mem_cons.mpr ⟨mc_X6_fastStatement_r1 _ (List.mem_of_getElem? (i := 0) rfl), List.forall_mem_cons.mpr ⟨mc_X6_fastStatement_r1 _ (List.mem_of_getElem? (i := 1) rfl), List.forall_mem_cons.mpr ⟨mc_X6_fastStatement_r1 _ (List.mem_of_getElem? (i := 2) rfl), List.forall_mem_cons.mpr ⟨mc_X6_fastStatement_r1 _ (List.mem_of_getElem? (i := 3) rfl), fun _ h => absurd h List.not_mem_nil⟩⟩⟩⟩) (by decide +kernel)) ggX6_fastStatement_X6_accept
set_option maxRecDepth 20000 in
theorem ggX6_fastStatement_X6_acceptFirst : GoodIn wsX6_fastStatement wsX6_acceptFirst := goodIn_sub (List.forall_mem_cons.mpr ⟨mc_X6_fastStatement_r1 _ (List.mem_of_getElem? (i := 17) rfl), List.forall_mem_append.mpr ⟨List.forall_mem_append.mpr ⟨List.forall_mem_cons.mpr ⟨mc_X6_fastStatement_r1 _ (List.mem_of_getElem? (i := 5) rfl), List.forall_mem_cons.mpr ⟨mc_X6_fastStatement_r1 _ (List.mem_of_getElem? (i := 6) rfl), List.forall_mem_cons.mpr ⟨mc_X6_fastStatement_r1 _ (List.mem_of_getElem? (i := 18) rfl), List.forall_mem_cons.mpr ⟨mc_X6_fastStatement_r1 _ (List.mem_of_getElem? (i := 19) rfl), List.forall_mem_cons.mpr ⟨mc_X6_fastStatement_r1 _ (List.mem_of_getElem? (i := 20) rfl), List.forall_mem_cons.mpr ⟨mc_X6_fastStatement_r1 _ (List.mem_of_getElem? (i := 21) rfl), List.forall_mem_cons.mpr ⟨mc_X6_fastStatement_r1 _ (List.mem_of_getElem? (i := 10) rfl), List.forall_mem_cons.mpr ⟨mc_X6_fastStatement_r1 _ (List.mem_of_getElem? (i := 22) rfl), List.forall_mem_cons.mpr ⟨mc_X6_fastStatement_r1 _ (List.mem_of_getElem? (i := 12) rfl), List.forall_mem_cons.mpr ⟨mc_X6_fastStatement_r1 _ (List.mem_of_getElem? (i := 23) rfl), List.forall_mem_cons.mpr ⟨mc_X6_fastStatement_r1 _ (List.mem_of_getElem? (i := 0) rfl), List.forall_mem_cons.mpr ⟨mc_X6_fastStatement_r1 _ (List.mem_of_getElem? (i := 1) rfl), List.forall_mem_cons.mpr ⟨mc_X6_fastStatement_r1 _ (List.mem_of_getElem? (i := 2) rfl), List.forall_mem_cons.mpr ⟨mc_X6_fastStatement_r1 _ (List.mem_of_getElem? (i := 3) rfl), List.forall_mem_cons.mpr ⟨mc_X6_fastStatement_r1 _ (List.mem_of_getElem? (i := 4) rfl), List.forall_mem_cons.mpr ⟨mc_X6_fastStatement_r1 _ (List.mem_of_getElem? (i := 7) rfl), List.forall_mem_cons.mpr ⟨mc_X6_fastStatement_r1 _ (List.mem_of_getElem? (i := 8) rfl), List.forall_mem_cons.mpr ⟨mc_X6_fastStatement_r1 _ (List.mem_of_getElem? (i := 9) rfl), List.forall_mem_cons.mpr ⟨mc_X6_fastStatement_r1 _ (List.mem_of_getElem? (i := 11) rfl), List.forall_mem_cons.mpr ⟨mc_X6_fastStatement_r1 _ (List.mem_of_getElem? (i := 13) rfl), fun _ h => absurd h List.not_mem_nil⟩⟩⟩⟩⟩⟩⟩⟩⟩⟩⟩⟩⟩⟩⟩⟩⟩⟩⟩⟩, tl_X6_fastStatement_X6⟩, tl_X6_fastStatement_X10⟩⟩) (by decide +kernel)
set_option maxRecDepth 20000 in
theorem gX6_fastStatement_X6_acceptFirst : GoodIn wsX6_fastStatement (wsV RX6 66 RX6 yX6_acceptFirst wsX6_acceptFirst) := goodIn_app (goodIn_sub (List.forall_mem_cons.mpr ⟨mc_X6_fastStatement_r1 _ (List.mem_of_getElem? (i := 14) rfl), List.forall_mem_cons.mpr ⟨mc_X6_fastStatement_r1 _ (List.mem_of_getElem? (i := 15) rfl), List.forall_mem_cons.mpr ⟨mc_X6_fastStatement_r1 _ (List.mem_of_getElem? (i := 16) rfl), List.forall_mem_cons.mpr ⟨mc_X6_fastStatement_r1 _ (List.mem_of_getElem? (i := 3) rfl), fun _ h => absurd h List.not_mem_nil⟩⟩⟩⟩) (by decide +kernel)) ggX6_fastStatement_X6_acceptFirst
set_option maxRecDepth 20000 in
theorem ggX6_fastStatement_X6_acceptSecond : GoodIn wsX6_fastStatement wsX6_acceptSecond := goodIn_sub (List.forall_mem_cons.mpr ⟨mc_X6_fastStatement_r2 _ (List.mem_of_getElem? (i := 3) rfl), List.forall_mem_append.mpr ⟨List.forall_mem_append.mpr ⟨List.forall_mem_cons.mpr ⟨mc_X6_fastStatement_r1 _ (List.mem_of_getElem? (i := 5) rfl), List.forall_mem_cons.mpr ⟨mc_X6_fastStatement_r1 _ (List.mem_of_getElem? (i := 6) rfl), List.forall_mem_cons.mpr ⟨mc_X6_fastStatement_r2 _ (List.mem_of_getElem? (i := 4) rfl), List.forall_mem_cons.mpr ⟨mc_X6_fastStatement_r1 _ (List.mem_of_getElem? (i := 19) rfl), List.forall_mem_cons.mpr ⟨mc_X6_fastStatement_r1 _ (List.mem_of_getElem? (i := 20) rfl), List.forall_mem_cons.mpr ⟨mc_X6_fastStatement_r1 _ (List.mem_of_getElem? (i := 21) rfl), List.forall_mem_cons.mpr ⟨mc_X6_fastStatement_r1 _ (List.mem_of_getElem? (i := 10) rfl), List.forall_mem_cons.mpr ⟨mc_X6_fastStatement_r1 _ (List.mem_of_getElem? (i := 22) rfl), List.forall_mem_cons.mpr ⟨mc_X6_fastStatement_r1 _ (List.mem_of_getElem? (i := 12) rfl), List.forall_mem_cons.mpr ⟨mc_X6_fastStatement_r1 _ (List.mem_of_getElem? (i := 23) rfl), List.forall_mem_cons.mpr ⟨mc_X6_fastStatement_r1 _ (List.mem_of_getElem? (i := 0) rfl), List.forall_mem_cons.mpr ⟨mc_X6_fastStatement_r1 _ (List.mem_of_getElem? (i := 1) rfl), List.forall_mem_cons.mpr ⟨mc_X6_fastStatement_r1 _ (List.mem_of_getElem? (i := 2) rfl), List.forall_mem_cons.mpr ⟨mc_X6_fastStatement_r1 _ (List.mem_of_getElem? (i := 3) rfl), List.forall_mem_cons.mpr ⟨mc_X6_fastStatement_r1 _ (List.mem_of_getElem? (i := 4) rfl), List.forall_mem_cons.mpr ⟨mc_X6_fastStatement_r1 _ (List.mem_of_getElem? (i := 7) rfl), List.forall_mem_cons.mpr ⟨mc_X6_fastStatement_r1 _ (List.mem_of_getElem? (i := 8) rfl), List.forall_mem_cons.mpr ⟨mc_X6_fastStatement_r1 _ (List.mem_of_getElem? (i := 9) rfl), List.forall_mem_cons.mpr ⟨mc_X6_fastStatement_r1 _ (List.mem_of_getElem? (i := 11) rfl), List.forall_mem_cons.mpr ⟨mc_X6_fastStatement_r1 _ (List.mem_of_getElem? (i := 13) rfl), fun _ h => absurd h List.not_mem_nil⟩⟩⟩⟩⟩⟩⟩⟩⟩⟩⟩⟩⟩⟩⟩⟩⟩⟩⟩⟩, tl_X6_fastStatement_X6⟩, tl_X6_fastStatement_X10⟩⟩) (by decide +kernel)
set_option maxRecDepth 20000 in
theorem gX6_fastStatement_X6_acceptSecond : GoodIn wsX6_fastStatement (wsV RX6 70 RX6 yX6_acceptSecond wsX6_acceptSecond) := goodIn_app (goodIn_sub (List.forall_mem_cons.mpr ⟨mc_X6_fastStatement_r2 _ (List.mem_of_getElem? (i := 0) rfl), List.forall_mem_cons.mpr ⟨mc_X6_fastStatement_r2 _ (List.mem_of_getElem? (i := 1) rfl), List.forall_mem_cons.mpr ⟨mc_X6_fastStatement_r2 _ (List.mem_of_getElem? (i := 2) rfl), List.forall_mem_cons.mpr ⟨mc_X6_fastStatement_r1 _ (List.mem_of_getElem? (i := 3) rfl), fun _ h => absurd h List.not_mem_nil⟩⟩⟩⟩) (by decide +kernel)) ggX6_fastStatement_X6_acceptSecond
theorem dX6_fastStatement_0 : decode cX6_fastStatement 0 = .ok (.aload_n 0, 1) := by decide +kernel
theorem dX6_fastStatement_1 : decode cX6_fastStatement 1 = .ok (.iconst 5, 1) := by decide +kernel
theorem dX6_fastStatement_2 : decode cX6_fastStatement 2 = .ok (.invokevirtual 56, 3) := by decide +kernel
theorem dX6_fastStatement_5 : decode cX6_fastStatement 5 = .ok (.ifCond .eq 16, 3) := by decide +kernel
theorem dX6_fastStatement_8 : decode cX6_fastStatement 8 = .ok (.aload_n 0, 1) := by decide +kernel
theorem dX6_fastStatement_9 : decode cX6_fastStatement 9 = .ok (.invokevirtual 66, 3) := by decide +kernel
theorem dX6_fastStatement_12 : decode cX6_fastStatement 12 = .ok (.ifCond .eq 7, 3) := by decide +kernel
theorem dX6_fastStatement_15 : decode cX6_fastStatement 15 = .ok (.iconst 1, 1) := by decide +kernel
theorem dX6_fastStatement_16 : decode cX6_fastStatement 16 = .ok (.goto 4, 3) := by decide +kernel
theorem dX6_fastStatement_19 : decode cX6_fastStatement 19 = .ok (.iconst (-1), 1) := by decide +kernel
theorem dX6_fastStatement_20 : decode cX6_fastStatement 20 = .ok (.ireturn, 1) := by decide +kernel
theorem dX6_fastStatement_21 : decode cX6_fastStatement 21 = .ok (.aload_n 0, 1) := by decide +kernel
theorem dX6_fastStatement_22 : decode cX6_fastStatement 22 = .ok (.bipush 6, 2) := by decide +kernel
theorem dX6_fastStatement_24 : decode cX6_fastStatement 24 = .ok (.invokevirtual 56, 3) := by decide +kernel
theorem dX6_fastStatement_27 : decode cX6_fastStatement 27 = .ok (.ifCond .eq 30, 3) := by decide +kernel
theorem dX6_fastStatement_30 : decode cX6_fastStatement 30 = .ok (.aload_n 0, 1) := by decide +kernel
theorem dX6_fastStatement_31 : decode cX6_fastStatement 31 = .ok (.invokevirtual 66, 3) := by decide +kernel
theorem dX6_fastStatement_34 : decode cX6_fastStatement 34 = .ok (.ifCond .eq 23, 3) := by decide +kernel
theorem dX6_fastStatement_37 : decode cX6_fastStatement 37 = .ok (.aload_n 0, 1) := by decide +kernel
theorem dX6_fastStatement_38 : decode cX6_fastStatement 38 = .ok (.bipush 7, 2) := by decide +kernel
theorem dX6_fastStatement_40 : decode cX6_fastStatement 40 = .ok (.invokevirtual 56, 3) := by decide +kernel
theorem dX6_fastStatement_43 : decode cX6_fastStatement 43 = .ok (.ifCond .eq 14, 3) := by decide +kernel
theorem dX6_fastStatement_46 : decode cX6_fastStatement 46 = .ok (.aload_n 0, 1) := by decide +kernel
theorem dX6_fastStatement_47 : decode cX6_fastStatement 47 = .ok (.invokevirtual 70, 3) := by decide +kernel
theorem dX6_fastStatement_50 : decode cX6_fastStatement 50 = .ok (.ifCond .eq 7, 3) := by decide +kernel
theorem dX6_fastStatement_53 : decode cX6_fastStatement 53 = .ok (.iconst 1, 1) := by decide +kernel
theorem dX6_fastStatement_54 : decode cX6_fastStatement 54 = .ok (.goto 4, 3) := by decide +kernel
theorem dX6_fastStatement_57 : decode cX6_fastStatement 57 = .ok (.iconst 0, 1) := by decide +kernel
theorem dX6_fastStatement_58 : decode cX6_fastStatement 58 = .ok (.istore_n 1, 1) := by decide +kernel
theorem dX6_fastStatement_59 : decode cX6_fastStatement 59 = .ok (.iload_n 1, 1) := by decide +kernel
theorem dX6_fastStatement_60 : decode cX6_fastStatement 60 = .ok (.ifCond .eq 7, 3) := by decide +kernel
theorem dX6_fastStatement_63 : decode cX6_fastStatement 63 = .ok (.iconst 2, 1) := by decide +kernel
theorem dX6_fastStatement_64 : decode cX6_fastStatement 64 = .ok (.goto 4, 3) := by decide +kernel
theorem dX6_fastStatement_67 : decode cX6_fastStatement 67 = .ok (.iconst (-1), 1) := by decide +kernel
theorem dX6_fastStatement_68 : decode cX6_fastStatement 68 = .ok (.ireturn, 1) := by decide +kernel
set_option maxRecDepth 20000 in
theorem ggX6_feedStatement_X6_accept : GoodIn wsX6_feedStatement wsX6_accept := goodIn_sub (List.forall_mem_cons.mpr ⟨mc_X6_feedStatement_r1 _ (List.mem_of_getElem? (i := 4) rfl), List.forall_mem_append.mpr ⟨List.forall_mem_append.mpr ⟨List.forall_mem_cons.mpr ⟨mc_X6_feedStatement_r1 _ (List.mem_of_getElem? (i := 5) rfl), List.forall_mem_cons.mpr ⟨mc_X6_feedStatement_r1 _ (List.mem_of_getElem? (i := 6) rfl), List.forall_mem_cons.mpr ⟨mc_X6_feedStatement_r1 _ (List.mem_of_getElem? (i := 7) rfl), List.forall_mem_cons.mpr ⟨mc_X6_feedStatement_r1 _ (List.mem_of_getElem? (i := 8) rfl), List.forall_mem_cons.mpr ⟨mc_X6_feedStatement_r1 _ (List.mem_of_getElem? (i := 9) rfl), List.forall_mem_cons.mpr ⟨mc_X6_feedStatement_r1 _ (List.mem_of_getElem? (i := 10) rfl), List.forall_mem_cons.mpr ⟨mc_X6_feedStatement_r1 _ (List.mem_of_getElem? (i := 11) rfl), List.forall_mem_cons.mpr ⟨mc_X6_feedStatement_r1 _ (List.mem_of_getElem? (i := 12) rfl), List.forall_mem_cons.mpr ⟨mc_X6_feedStatement_r1 _ (List.mem_of_getElem? (i := 13) rfl), fun _ h => absurd h List.not_mem_nil⟩⟩⟩⟩⟩⟩⟩⟩⟩, tl_X6_feedStatement_X6⟩, tl_X6_feedStatement_X10⟩⟩) (by decide +kernel)
set_option maxRecDepth 20000 in
theorem gX6_feedStatement_X6_accept : GoodIn wsX6_feedStatement (wsV RX6 56 RX6 yX6_accept wsX6_accept) := goodIn_app (goodIn_sub (List.forall_mem_cons.mpr ⟨mc_X6_feedStatement_r1 _ (List.mem_of_getElem? (i := 0) rfl), List.forall_mem_cons.mpr ⟨mc_X6_feedStatement_r1 _ (List.mem_of_getElem? (i := 1) rfl), List.forall_mem_cons.mpr ⟨mc_X6_feedStatement_r1 _ (List.mem_of_getElem? (i := 2) rfl), List.forall_mem_cons.mpr ⟨mc_X6_feedStatement_r1 _ (List.mem_of_getElem? (i := 3) rfl), fun _ h => absurd h List.not_mem_nil⟩⟩⟩⟩) (by decide +kernel)) ggX6_feedStatement_X6_accept
set_option maxRecDepth 20000 in
theorem ggX6_feedStatement_X6_acceptSecond : GoodIn wsX6_feedStatement wsX6_acceptSecond := goodIn_sub (List.forall_mem_cons.mpr ⟨mc_X6_feedStatement_r1 _ (List.mem_of_getElem? (i := 17) rfl), List.forall_mem_append.mpr ⟨List.forall_mem_append.mpr ⟨List.forall_mem_cons.mpr ⟨mc_X6_feedStatement_r1 _ (List.mem_of_getElem? (i := 5) rfl), List.forall_mem_cons.mpr ⟨mc_X6_feedStatement_r1 _ (List.mem_of_getElem? (i := 6) rfl), List.forall_mem_cons.mpr ⟨mc_X6_feedStatement_r1 _ (List.mem_of_getElem? (i := 18) rfl), List.forall_mem_cons.mpr ⟨mc_X6_feedStatement_r1 _ (List.mem_of_getElem? (i := 19) rfl), List.forall_mem_cons.mpr ⟨mc_X6_feedStatement_r1 _ (List.mem_of_getElem? (i := 20) rfl), List.forall_mem_cons.mpr ⟨mc_X6_feedStatement_r1 _ (List.mem_of_getElem? (i := 21) rfl), List.forall_mem_cons.mpr ⟨mc_X6_feedStatement_r1 _ (List.mem_of_getElem? (i := 10) rfl), List.forall_mem_cons.mpr ⟨mc_X6_feedStatement_r1 _ (List.mem_of_getElem? (i := 22) rfl), List.forall_mem_cons.mpr ⟨mc_X6_feedStatement_r1 _ (List.mem_of_getElem? (i := 12) rfl), List.forall_mem_cons.mpr ⟨mc_X6_feedStatement_r1 _ (List.mem_of_getElem? (i := 23) rfl), List.forall_mem_cons.mpr ⟨mc_X6_feedStatement_r1 _ (List.mem_of_getElem? (i := 0) rfl), List.forall_mem_cons.mpr ⟨mc_X6_feedStatement_r1 _ (List.mem_of_getElem? (i := 1) rfl), List.forall_mem_cons.mpr ⟨mc_X6_feedStatement_r1 _ (List.mem_of_getElem? (i := 2) rfl), List.forall_mem_cons.mpr ⟨mc_X6_feedStatement_r1 _ (List.mem_of_getElem? (i := 3) rfl), List.forall_mem_cons.mpr ⟨mc_X6_feedStatement_r1 _ (List.mem_of_getElem? (i := 4) rfl), List.forall_mem_cons.mpr ⟨mc_X6_feedStatement_r1 _ (List.mem_of_getElem? (i := 7) rfl), List.forall_mem_cons.mpr ⟨mc_X6_feedStatement_r1 _ (List.mem_of_getElem? (i := 8) rfl), List.forall_mem_cons.mpr ⟨mc_X6_feedStatement_r1 _ (List.mem_of_getElem? (i := 9) rfl), List.forall_mem_cons.mpr ⟨mc_X6_feedStatement_r1 _ (List.mem_of_getElem? (i := 11) rfl), List.forall_mem_cons.mpr ⟨mc_X6_feedStatement_r1 _ (List.mem_of_getElem? (i := 13) rfl), fun _ h => absurd h List.not_mem_nil⟩⟩⟩⟩⟩⟩⟩⟩⟩⟩⟩⟩⟩⟩⟩⟩⟩⟩⟩⟩, tl_X6_feedStatement_X6⟩, tl_X6_feedStatement_X10⟩⟩) (by decide +kernel)
set_option maxRecDepth 20000 in
theorem gX6_feedStatement_X6_acceptSecond : GoodIn wsX6_feedStatement (wsV RX6 70 RX6 yX6_acceptSecond wsX6_acceptSecond) := goodIn_app (goodIn_sub (List.forall_mem_cons.mpr ⟨mc_X6_feedStatement_r1 _ (List.mem_of_getElem? (i := 14) rfl), List.forall_mem_cons.mpr ⟨mc_X6_feedStatement_r1 _ (List.mem_of_getElem? (i := 15) rfl), List.forall_mem_cons.mpr ⟨mc_X6_feedStatement_r1 _ (List.mem_of_getElem? (i := 16) rfl), List.forall_mem_cons.mpr ⟨mc_X6_feedStatement_r1 _ (List.mem_of_getElem? (i := 3) rfl), fun _ h => absurd h List.not_mem_nil⟩⟩⟩⟩) (by decide +kernel)) ggX6_feedStatement_X6_acceptSecond
set_option maxRecDepth 20000 in
theorem ggX6_feedStatement_X6_acceptFirst : GoodIn wsX6_feedStatement wsX6_acceptFirst := goodIn_sub (List.forall_mem_cons.mpr ⟨mc_X6_feedStatement_r2 _ (List.mem_of_getElem? (i := 3) rfl), List.forall_mem_append.mpr ⟨List.forall_mem_append.mpr ⟨List.forall_mem_cons.mpr ⟨mc_X6_feedStatement_r1 _ (List.mem_of_getElem? (i := 5) rfl), List.forall_mem_cons.mpr ⟨mc_X6_feedStatement_r1 _ (List.mem_of_getElem? (i := 6) rfl), List.forall_mem_cons.mpr ⟨mc_X6_feedStatement_r2 _ (List.mem_of_getElem? (i := 4) rfl), List.forall_mem_cons.mpr ⟨mc_X6_feedStatement_r1 _ (List.mem_of_getElem? (i := 19) rfl), List.forall_mem_cons.mpr ⟨mc_X6_feedStatement_r1 _ (List.mem_of_getElem? (i := 20) rfl), List.forall_mem_cons.mpr ⟨mc_X6_feedStatement_r1 _ (List.mem_of_getElem? (i := 21) rfl), List.forall_mem_cons.mpr ⟨mc_X6_feedStatement_r1 _ (List.mem_of_getElem? (i := 10) rfl), List.forall_mem_cons.mpr ⟨mc_X6_feedStatement_r1 _ (List.mem_of_getElem? (i := 22) rfl), List.forall_mem_cons.mpr ⟨mc_X6_feedStatement_r1 _ (List.mem_of_getElem? (i := 12) rfl), List.forall_mem_cons.mpr ⟨mc_X6_feedStatement_r1 _ (List.mem_of_getElem? (i := 23) rfl), List.forall_mem_cons.mpr ⟨mc_X6_feedStatement_r1 _ (List.mem_of_getElem? (i := 0) rfl), List.forall_mem_cons.mpr ⟨mc_X6_feedStatement_r1 _ (List.mem_of_getElem? (i := 1) rfl), List.forall_mem_cons.mpr ⟨mc_X6_feedStatement_r1 _ (List.mem_of_getElem? (i := 2) rfl), List.forall_mem_cons.mpr ⟨mc_X6_feedStatement_r1 _ (List.mem_of_getElem? (i := 3) rfl), List.forall_mem_cons.mpr ⟨mc_X6_feedStatement_r1 _ (List.mem_of_getElem? (i := 4) rfl), List.forall_mem_cons.mpr ⟨mc_X6_feedStatement_r1 _ (List.mem_of_getElem? (i := 7) rfl), List.forall_mem_cons.mpr ⟨mc_X6_feedStatement_r1 _ (List.mem_of_getElem? (i := 8) rfl), List.forall_mem_cons.mpr ⟨mc_X6_feedStatement_r1 _ (List.mem_of_getElem? (i := 9) rfl), List.forall_mem_cons.mpr ⟨mc_X6_feedStatement_r1 _ (List.mem_of_getElem? (i := 11) rfl), List.forall_mem_cons.mpr ⟨mc_X6_feedStatement_r1 _ (List.mem_of_getElem? (i := 13) rfl), fun _ h => absurd h List.not_mem_nil⟩⟩⟩⟩⟩⟩⟩⟩⟩⟩⟩⟩⟩⟩⟩⟩⟩⟩⟩⟩, tl_X6_feedStatement_X6⟩, tl_X6_feedStatement_X10⟩⟩) (by decide +kernel)
set_option maxRecDepth 20000 in
theorem gX6_feedStatement_X6_acceptFirst : GoodIn wsX6_feedStatement (wsV RX6 66 RX6 yX6_acceptFirst wsX6_acceptFirst) := goodIn_app (goodIn_sub (List.forall_mem_cons.mpr ⟨mc_X6_feedStatement_r2 _ (List.mem_of_getElem? (i := 0) rfl), List.forall_mem_cons.mpr ⟨mc_X6_feedStatement_r2 _ (List.mem_of_getElem? (i := 1) rfl), List.forall_mem_cons.mpr ⟨mc_X6_feedStatement_r2 _ (List.mem_of_getElem? (i := 2) rfl), List.forall_mem_cons.mpr ⟨mc_X6_feedStatement_r1 _ (List.mem_of_getElem? (i := 3) rfl), fun _ h => absurd h List.not_mem_nil⟩⟩⟩⟩) (by decide +kernel)) ggX6_feedStatement_X6_acceptFirst
theorem dX6_feedStatement_0 : decode cX6_feedStatement 0 = .ok (.aload_n 0, 1) := by decide +kernel
theorem dX6_feedStatement_1 : decode cX6_feedStatement 1 = .ok (.iconst 4, 1) := by decide +kernel
theorem dX6_feedStatement_2 : decode cX6_feedStatement 2 = .ok (.invokevirtual 56, 3) := by decide +kernel
theorem dX6_feedStatement_5 : decode cX6_feedStatement 5 = .ok (.ifCond .eq 16, 3) := by decide +kernel
theorem dX6_feedStatement_8 : decode cX6_feedStatement 8 = .ok (.aload_n 0, 1) := by decide +kernel
theorem dX6_feedStatement_9 : decode cX6_feedStatement 9 = .ok (.invokevirtual 70, 3) := by decide +kernel
theorem dX6_feedStatement_12 : decode cX6_feedStatement 12 = .ok (.ifCond .eq 7, 3) := by decide +kernel
theorem dX6_feedStatement_15 : decode cX6_feedStatement 15 = .ok (.iconst 3, 1) := by decide +kernel
theorem dX6_feedStatement_16 : decode cX6_feedStatement 16 = .ok (.goto 4, 3) := by decide +kernel
theorem dX6_feedStatement_19 : decode cX6_feedStatement 19 = .ok (.iconst (-1), 1) := by decide +kernel
theorem dX6_feedStatement_20 : decode cX6_feedStatement 20 = .ok (.ireturn, 1) := by decide +kernel
theorem dX6_feedStatement_21 : decode cX6_feedStatement 21 = .ok (.aload_n 0, 1) := by decide +kernel
theorem dX6_feedStatement_22 : decode cX6_feedStatement 22 = .ok (.bipush 9, 2) := by decide +kernel
theorem dX6_feedStatement_24 : decode cX6_feedStatement 24 = .ok (.invokevirtual 56, 3) := by decide +kernel
theorem dX6_feedStatement_27 : decode cX6_feedStatement 27 = .ok (.ifCond .eq 23, 3) := by decide +kernel
theorem dX6_feedStatement_30 : decode cX6_feedStatement 30 = .ok (.aload_n 0, 1) := by decide +kernel
theorem dX6_feedStatement_31 : decode cX6_feedStatement 31 = .ok (.invokevirtual 66, 3) := by decide +kernel
theorem dX6_feedStatement_34 : decode cX6_feedStatement 34 = .ok (.ifCond .eq 14, 3) := by decide +kernel
theorem dX6_feedStatement_37 : decode cX6_feedStatement 37 = .ok (.aload_n 0, 1) := by decide +kernel
theorem dX6_feedStatement_38 : decode cX6_feedStatement 38 = .ok (.invokevirtual 70, 3) := by decide +kernel
theorem dX6_feedStatement_41 : decode cX6_feedStatement 41 = .ok (.ifCond .eq 7, 3) := by decide +kernel
theorem dX6_feedStatement_44 : decode cX6_feedStatement 44 = .ok (.iconst 4, 1) := by decide +kernel
theorem dX6_feedStatement_45 : decode cX6_feedStatement 45 = .ok (.goto 4, 3) := by decide +kernel
theorem dX6_feedStatement_48 : decode cX6_feedStatement 48 = .ok (.iconst (-1), 1) := by decide +kernel
theorem dX6_feedStatement_49 : decode cX6_feedStatement 49 = .ok (.ireturn, 1) := by decide +kernel
theorem dX6_feedStatement_50 : decode cX6_feedStatement 50 = .ok (.aload_n 0, 1) := by decide +kernel
theorem dX6_feedStatement_51 : decode cX6_feedStatement 51 = .ok (.bipush 10, 2) := by decide +kernel
theorem dX6_feedStatement_53 : decode cX6_feedStatement 53 = .ok (.invokevirtual 56, 3) := by decide +kernel
theorem dX6_feedStatement_56 : decode cX6_feedStatement 56 = .ok (.ifCond .eq 16, 3) := by decide +kernel
theorem dX6_feedStatement_59 : decode cX6_feedStatement 59 = .ok (.aload_n 0, 1) := by decide +kernel
theorem dX6_feedStatement_60 : decode cX6_feedStatement 60 = .ok (.invokevirtual 70, 3) := by decide +kernel
theorem dX6_feedStatement_63 : decode cX6_feedStatement 63 = .ok (.ifCond .eq 7, 3) := by decide +kernel
theorem dX6_feedStatement_66 : decode cX6_feedStatement 66 = .ok (.iconst 5, 1) := by decide +kernel
theorem dX6_feedStatement_67 : decode cX6_feedStatement 67 = .ok (.goto 4, 3) := by decide +kernel
theorem dX6_feedStatement_70 : decode cX6_feedStatement 70 = .ok (.iconst (-1), 1) := by decide +kernel
theorem dX6_feedStatement_71 : decode cX6_feedStatement 71 = .ok (.ireturn, 1) := by decide +kernel
theorem dX6_feedStatement_72 : decode cX6_feedStatement 72 = .ok (.aload_n 0, 1) := by decide +kernel
theorem dX6_feedStatement_73 : decode cX6_feedStatement 73 = .ok (.invokevirtual 70, 3) := by decide +kernel
theorem dX6_feedStatement_76 : decode cX6_feedStatement 76 = .ok (.ifCond .eq 8, 3) := by decide +kernel
theorem dX6_feedStatement_79 : decode cX6_feedStatement 79 = .ok (.bipush 6, 2) := by decide +kernel
theorem dX6_feedStatement_81 : decode cX6_feedStatement 81 = .ok (.goto 4, 3) := by decide +kernel
theorem dX6_feedStatement_84 : decode cX6_feedStatement 84 = .ok (.iconst (-1), 1) := by decide +kernel
theorem dX6_feedStatement_85 : decode cX6_feedStatement 85 = .ok (.ireturn, 1) := by decide +kernel
set_option maxRecDepth 20000 in
theorem ggX6_acceptFirst_X10_value : GoodIn wsX6_acceptFirst wsX10_value := goodIn_sub (List.forall_mem_cons.mpr ⟨List.mem_cons_of_mem _ (List.mem_append_left _ (List.mem_append_left _ (List.mem_of_getElem? (i := 7) rfl))), List.forall_mem_append.mpr ⟨List.forall_mem_cons.mpr ⟨List.mem_cons_of_mem _ (List.mem_append_left _ (List.mem_append_left _ (List.mem_of_getElem? (i := 8) rfl))), List.forall_mem_cons.mpr ⟨List.mem_cons_of_mem _ (List.mem_append_left _ (List.mem_append_left _ (List.mem_of_getElem? (i := 9) rfl))), fun _ h => absurd h List.not_mem_nil⟩⟩, tl_X6_acceptFirst_X10⟩⟩) (by decide +kernel)
set_option maxRecDepth 20000 in
theorem gX6_acceptFirst_X10_value : GoodIn wsX6_acceptFirst (wsV RX6 73 RX10 yX10_value wsX10_value) := goodIn_app (goodIn_sub (List.forall_mem_cons.mpr ⟨List.mem_cons_of_mem _ (List.mem_append_left _ (List.mem_append_left _ (List.mem_of_getElem? (i := 3) rfl))), List.forall_mem_cons.mpr ⟨List.mem_cons_of_mem _ (List.mem_append_left _ (List.mem_append_left _ (List.mem_of_getElem? (i := 4) rfl))), List.forall_mem_cons.mpr ⟨List.mem_cons_of_mem _ (List.mem_append_left _ (List.mem_append_left _ (List.mem_of_getElem? (i := 5) rfl))), List.forall_mem_cons.mpr ⟨List.mem_cons_of_mem _ (List.mem_append_left _ (List.mem_append_left _ (List.mem_of_getElem? (i := 6) rfl))), fun _ h => absurd h List.not_mem_nil⟩⟩⟩⟩) (by decide +kernel)) ggX6_acceptFirst_X10_value
set_option maxRecDepth 20000 in
theorem ggX6_acceptFirst_X6_accept : GoodIn wsX6_acceptFirst wsX6_accept := goodIn_sub (List.forall_mem_cons.mpr ⟨List.mem_cons_of_mem _ (List.mem_append_left _ (List.mem_append_left _ (List.mem_of_getElem? (i := 14) rfl))), List.forall_mem_append.mpr ⟨List.forall_mem_append.mpr ⟨List.forall_mem_cons.mpr ⟨List.mem_cons_of_mem _ (List.mem_append_left _ (List.mem_append_left _ (List.mem_of_getElem? (i := 0) rfl))), List.forall_mem_cons.mpr ⟨List.mem_cons_of_mem _ (List.mem_append_left _ (List.mem_append_left _ (List.mem_of_getElem? (i := 1) rfl))), List.forall_mem_cons.mpr ⟨List.mem_cons_of_mem _ (List.mem_append_left _ (List.mem_append_left _ (List.mem_of_getElem? (i := 15) rfl))), List.forall_mem_cons.mpr ⟨List.mem_cons_of_mem _ (List.mem_append_left _ (List.mem_append_left _ (List.mem_of_getElem? (i := 16) rfl))), List.forall_mem_cons.mpr ⟨List.mem_cons_of_mem _ (List.mem_append_left _ (List.mem_append_left _ (List.mem_of_getElem? (i := 17) rfl))), List.forall_mem_cons.mpr ⟨List.mem_cons_of_mem _ (List.mem_append_left _ (List.mem_append_left _ (List.mem_of_getElem? (i := 6) rfl))), List.forall_mem_cons.mpr ⟨List.mem_cons_of_mem _ (List.mem_append_left _ (List.mem_append_left _ (List.mem_of_getElem? (i := 18) rfl))), List.forall_mem_cons.mpr ⟨List.mem_cons_of_mem _ (List.mem_append_left _ (List.mem_append_left _ (List.mem_of_getElem? (i := 8) rfl))), List.forall_mem_cons.mpr ⟨List.mem_cons_of_mem _ (List.mem_append_left _ (List.mem_append_left _ (List.mem_of_getElem? (i := 19) rfl))), fun _ h => absurd h List.not_mem_nil⟩⟩⟩⟩⟩⟩⟩⟩⟩, tl_X6_acceptFirst_X6⟩, tl_X6_acceptFirst_X10⟩⟩) (by decide +kernel)
set_option maxRecDepth 20000 in
theorem gX6_acceptFirst_X6_accept : GoodIn wsX6_acceptFirst (wsV RX6 56 RX6 yX6_accept wsX6_accept) := goodIn_app (goodIn_sub (List.forall_mem_cons.mpr ⟨List.mem_cons_of_mem _ (List.mem_append_left _ (List.mem_append_left _ (List.mem_of_getElem? (i := 10) rfl))), List.forall_mem_cons.mpr ⟨List.mem_cons_of_mem _ (List.mem_append_left _ (List.mem_append_left _ (List.mem_of_getElem? (i := 11) rfl))), List.forall_mem_cons.mpr ⟨List.mem_cons_of_mem _ (List.mem_append_left _ (List.mem_append_left _ (List.mem_of_getElem? (i := 12) rfl))), List.forall_mem_cons.mpr ⟨List.mem_cons_of_mem _ (List.mem_append_left _ (List.mem_append_left _ (List.mem_of_getElem? (i := 13) rfl))), fun _ h => absurd h List.not_mem_nil⟩⟩⟩⟩) (by decide +kernel)) ggX6_acceptFirst_X6_accept
theorem dX6_acceptFirst_0 : decode cX6_acceptFirst 0 = .ok (.aload_n 0, 1) := by decide +kernel
theorem dX6_acceptFirst_1 : decode cX6_acceptFirst 1 = .ok (.aload_n 0, 1) := by decide +kernel
theorem dX6_acceptFirst_2 : decode cX6_acceptFirst 2 = .ok (.getfield 12, 3) := by decide +kernel
theorem dX6_acceptFirst_5 : decode cX6_acceptFirst 5 = .ok (.aload_n 0, 1) := by decide +kernel
theorem dX6_acceptFirst_6 : decode cX6_acceptFirst 6 = .ok (.getfield 32, 3) := by decide +kernel
theorem dX6_acceptFirst_9 : decode cX6_acceptFirst 9 = .ok (.invokevirtual 73, 3) := by decide +kernel
theorem dX6_acceptFirst_12 : decode cX6_acceptFirst 12 = .ok (.putfield 50, 3) := by decide +kernel
theorem dX6_acceptFirst_15 : decode cX6_acceptFirst 15 = .ok (.aload_n 0, 1) := by decide +kernel
theorem dX6_acceptFirst_16 : decode cX6_acceptFirst 16 = .ok (.iconst 3, 1) := by decide +kernel
theorem dX6_acceptFirst_17 : decode cX6_acceptFirst 17 = .ok (.invokevirtual 56, 3) := by decide +kernel
theorem dX6_acceptFirst_20 : decode cX6_acceptFirst 20 = .ok (.ireturn, 1) := by decide +kernel
set_option maxRecDepth 20000 in
theorem ggX6_acceptSecond_X10_value : GoodIn wsX6_acceptSecond wsX10_value := goodIn_sub (List.forall_mem_cons.mpr ⟨List.mem_cons_of_mem _ (List.mem_append_left _ (List.mem_append_left _ (List.mem_of_getElem? (i := 7) rfl))), List.forall_mem_append.mpr ⟨List.forall_mem_cons.mpr ⟨List.mem_cons_of_mem _ (List.mem_append_left _ (List.mem_append_left _ (List.mem_of_getElem? (i := 8) rfl))), List.forall_mem_cons.mpr ⟨List.mem_cons_of_mem _ (List.mem_append_left _ (List.mem_append_left _ (List.mem_of_getElem? (i := 9) rfl))), fun _ h => absurd h List.not_mem_nil⟩⟩, tl_X6_acceptSecond_X10⟩⟩) (by decide +kernel)
set_option maxRecDepth 20000 in
theorem gX6_acceptSecond_X10_value : GoodIn wsX6_acceptSecond (wsV RX6 73 RX10 yX10_value wsX10_value) := goodIn_app (goodIn_sub (List.forall_mem_cons.mpr ⟨List.mem_cons_of_mem _ (List.mem_append_left _ (List.mem_append_left _ (List.mem_of_getElem? (i := 3) rfl))), List.forall_mem_cons.mpr ⟨List.mem_cons_of_mem _ (List.mem_append_left _ (List.mem_append_left _ (List.mem_of_getElem? (i := 4) rfl))), List.forall_mem_cons.mpr ⟨List.mem_cons_of_mem _ (List.mem_append_left _ (List.mem_append_left _ (List.mem_of_getElem? (i := 5) rfl))), List.forall_mem_cons.mpr ⟨List.mem_cons_of_mem _ (List.mem_append_left _ (List.mem_append_left _ (List.mem_of_getElem? (i := 6) rfl))), fun _ h => absurd h List.not_mem_nil⟩⟩⟩⟩) (by decide +kernel)) ggX6_acceptSecond_X10_value
set_option maxRecDepth 20000 in
theorem ggX6_acceptSecond_X6_accept : GoodIn wsX6_acceptSecond wsX6_accept := goodIn_sub (List.forall_mem_cons.mpr ⟨List.mem_cons_of_mem _ (List.mem_append_left _ (List.mem_append_left _ (List.mem_of_getElem? (i := 14) rfl))), List.forall_mem_append.mpr ⟨List.forall_mem_append.mpr ⟨List.forall_mem_cons.mpr ⟨List.mem_cons_of_mem _ (List.mem_append_left _ (List.mem_append_left _ (List.mem_of_getElem? (i := 0) rfl))), List.forall_mem_cons.mpr ⟨List.mem_cons_of_mem _ (List.mem_append_left _ (List.mem_append_left _ (List.mem_of_getElem? (i := 1) rfl))), List.forall_mem_cons.mpr ⟨List.mem_cons_of_mem _ (List.mem_append_left _ (List.mem_append_left _ (List.mem_of_getElem? (i := 15) rfl))), List.forall_mem_cons.mpr ⟨List.mem_cons_of_mem _ (List.mem_append_left _ (List.mem_append_left _ (List.mem_of_getElem? (i := 16) rfl))), List.forall_mem_cons.mpr ⟨List.mem_cons_of_mem _ (List.mem_append_left _ (List.mem_append_left _ (List.mem_of_getElem? (i := 17) rfl))), List.forall_mem_cons.mpr ⟨List.mem_cons_of_mem _ (List.mem_append_left _ (List.mem_append_left _ (List.mem_of_getElem? (i := 6) rfl))), List.forall_mem_cons.mpr ⟨List.mem_cons_of_mem _ (List.mem_append_left _ (List.mem_append_left _ (List.mem_of_getElem? (i := 18) rfl))), List.forall_mem_cons.mpr ⟨List.mem_cons_of_mem _ (List.mem_append_left _ (List.mem_append_left _ (List.mem_of_getElem? (i := 8) rfl))), List.forall_mem_cons.mpr ⟨List.mem_cons_of_mem _ (List.mem_append_left _ (List.mem_append_left _ (List.mem_of_getElem? (i := 19) rfl))), fun _ h => absurd h List.not_mem_nil⟩⟩⟩⟩⟩⟩⟩⟩⟩, tl_X6_acceptSecond_X6⟩, tl_X6_acceptSecond_X10⟩⟩) (by decide +kernel)
set_option maxRecDepth 20000 in
theorem gX6_acceptSecond_X6_accept : GoodIn wsX6_acceptSecond (wsV RX6 56 RX6 yX6_accept wsX6_accept) := goodIn_app (goodIn_sub (List.forall_mem_cons.mpr ⟨List.mem_cons_of_mem _ (List.mem_append_left _ (List.mem_append_left _ (List.mem_of_getElem? (i := 10) rfl))), List.forall_mem_cons.mpr ⟨List.mem_cons_of_mem _ (List.mem_append_left _ (List.mem_append_left _ (List.mem_of_getElem? (i := 11) rfl))), List.forall_mem_cons.mpr ⟨List.mem_cons_of_mem _ (List.mem_append_left _ (List.mem_append_left _ (List.mem_of_getElem? (i := 12) rfl))), List.forall_mem_cons.mpr ⟨List.mem_cons_of_mem _ (List.mem_append_left _ (List.mem_append_left _ (List.mem_of_getElem? (i := 13) rfl))), fun _ h => absurd h List.not_mem_nil⟩⟩⟩⟩) (by decide +kernel)) ggX6_acceptSecond_X6_accept
theorem dX6_acceptSecond_0 : decode cX6_acceptSecond 0 = .ok (.aload_n 0, 1) := by decide +kernel
theorem dX6_acceptSecond_1 : decode cX6_acceptSecond 1 = .ok (.aload_n 0, 1) := by decide +kernel
theorem dX6_acceptSecond_2 : decode cX6_acceptSecond 2 = .ok (.getfield 12, 3) := by decide +kernel
theorem dX6_acceptSecond_5 : decode cX6_acceptSecond 5 = .ok (.aload_n 0, 1) := by decide +kernel
theorem dX6_acceptSecond_6 : decode cX6_acceptSecond 6 = .ok (.getfield 32, 3) := by decide +kernel
theorem dX6_acceptSecond_9 : decode cX6_acceptSecond 9 = .ok (.invokevirtual 73, 3) := by decide +kernel
theorem dX6_acceptSecond_12 : decode cX6_acceptSecond 12 = .ok (.putfield 53, 3) := by decide +kernel
theorem dX6_acceptSecond_15 : decode cX6_acceptSecond 15 = .ok (.aload_n 0, 1) := by decide +kernel
theorem dX6_acceptSecond_16 : decode cX6_acceptSecond 16 = .ok (.iconst 3, 1) := by decide +kernel
theorem dX6_acceptSecond_17 : decode cX6_acceptSecond 17 = .ok (.invokevirtual 56, 3) := by decide +kernel
theorem dX6_acceptSecond_20 : decode cX6_acceptSecond 20 = .ok (.ireturn, 1) := by decide +kernel
set_option maxRecDepth 20000 in
theorem ggX6_accept_X10_kind : GoodIn wsX6_accept wsX10_kind := goodIn_sub (List.forall_mem_cons.mpr ⟨List.mem_cons_of_mem _ (List.mem_append_left _ (List.mem_append_left _ (List.mem_of_getElem? (i := 6) rfl))), List.forall_mem_append.mpr ⟨List.forall_mem_cons.mpr ⟨List.mem_cons_of_mem _ (List.mem_append_left _ (List.mem_append_left _ (List.mem_of_getElem? (i := 7) rfl))), List.forall_mem_cons.mpr ⟨List.mem_cons_of_mem _ (List.mem_append_left _ (List.mem_append_left _ (List.mem_of_getElem? (i := 8) rfl))), fun _ h => absurd h List.not_mem_nil⟩⟩, tl_X6_accept_X10⟩⟩) (by decide +kernel)
set_option maxRecDepth 20000 in
theorem gX6_accept_X10_kind : GoodIn wsX6_accept (wsV RX6 39 RX10 yX10_kind wsX10_kind) := goodIn_app (goodIn_sub (List.forall_mem_cons.mpr ⟨List.mem_cons_of_mem _ (List.mem_append_left _ (List.mem_append_left _ (List.mem_of_getElem? (i := 2) rfl))), List.forall_mem_cons.mpr ⟨List.mem_cons_of_mem _ (List.mem_append_left _ (List.mem_append_left _ (List.mem_of_getElem? (i := 3) rfl))), List.forall_mem_cons.mpr ⟨List.mem_cons_of_mem _ (List.mem_append_left _ (List.mem_append_left _ (List.mem_of_getElem? (i := 4) rfl))), List.forall_mem_cons.mpr ⟨List.mem_cons_of_mem _ (List.mem_append_left _ (List.mem_append_left _ (List.mem_of_getElem? (i := 5) rfl))), fun _ h => absurd h List.not_mem_nil⟩⟩⟩⟩) (by decide +kernel)) ggX6_accept_X10_kind
theorem dX6_accept_0 : decode cX6_accept 0 = .ok (.aload_n 0, 1) := by decide +kernel
theorem dX6_accept_1 : decode cX6_accept 1 = .ok (.getfield 12, 3) := by decide +kernel
theorem dX6_accept_4 : decode cX6_accept 4 = .ok (.aload_n 0, 1) := by decide +kernel
theorem dX6_accept_5 : decode cX6_accept 5 = .ok (.getfield 32, 3) := by decide +kernel
theorem dX6_accept_8 : decode cX6_accept 8 = .ok (.invokevirtual 39, 3) := by decide +kernel
theorem dX6_accept_11 : decode cX6_accept 11 = .ok (.iload_n 1, 1) := by decide +kernel
theorem dX6_accept_12 : decode cX6_accept 12 = .ok (.if_icmp .eq 5, 3) := by decide +kernel
theorem dX6_accept_15 : decode cX6_accept 15 = .ok (.iconst 0, 1) := by decide +kernel
theorem dX6_accept_16 : decode cX6_accept 16 = .ok (.ireturn, 1) := by decide +kernel
theorem dX6_accept_17 : decode cX6_accept 17 = .ok (.aload_n 0, 1) := by decide +kernel
theorem dX6_accept_18 : decode cX6_accept 18 = .ok (.dup, 1) := by decide +kernel
theorem dX6_accept_19 : decode cX6_accept 19 = .ok (.getfield 32, 3) := by decide +kernel
theorem dX6_accept_22 : decode cX6_accept 22 = .ok (.iconst 1, 1) := by decide +kernel
theorem dX6_accept_23 : decode cX6_accept 23 = .ok (.iadd, 1) := by decide +kernel
theorem dX6_accept_24 : decode cX6_accept 24 = .ok (.putfield 32, 3) := by decide +kernel
theorem dX6_accept_27 : decode cX6_accept 27 = .ok (.iconst 1, 1) := by decide +kernel
theorem dX6_accept_28 : decode cX6_accept 28 = .ok (.ireturn, 1) := by decide +kernel
theorem dX7_init_0 : decode cX7_init 0 = .ok (.aload_n 0, 1) := by decide +kernel
theorem dX7_init_1 : decode cX7_init 1 = .ok (.invokespecial 5, 3) := by decide +kernel
theorem dX7_init_4 : decode cX7_init 4 = .ok (.aload_n 0, 1) := by decide +kernel
theorem dX7_init_5 : decode cX7_init 5 = .ok (.bipush 10, 2) := by decide +kernel
theorem dX7_init_7 : decode cX7_init 7 = .ok (.newarray .int, 2) := by decide +kernel
theorem dX7_init_9 : decode cX7_init 9 = .ok (.putfield 13, 3) := by decide +kernel
theorem dX7_init_12 : decode cX7_init 12 = .ok (.aload_n 0, 1) := by decide +kernel
theorem dX7_init_13 : decode cX7_init 13 = .ok (.bipush 10, 2) := by decide +kernel
theorem dX7_init_15 : decode cX7_init 15 = .ok (.newarray .int, 2) := by decide +kernel
theorem dX7_init_17 : decode cX7_init 17 = .ok (.putfield 17, 3) := by decide +kernel
theorem dX7_init_20 : decode cX7_init 20 = .ok (.aload_n 0, 1) := by decide +kernel
theorem dX7_init_21 : decode cX7_init 21 = .ok (.sipush 160, 3) := by decide +kernel
theorem dX7_init_24 : decode cX7_init 24 = .ok (.newarray .int, 2) := by decide +kernel
theorem dX7_init_26 : decode cX7_init 26 = .ok (.putfield 20, 3) := by decide +kernel
theorem dX7_init_29 : decode cX7_init 29 = .ok (.aload_n 0, 1) := by decide +kernel
theorem dX7_init_30 : decode cX7_init 30 = .ok (.sipush 160, 3) := by decide +kernel
theorem dX7_init_33 : decode cX7_init 33 = .ok (.newarray .int, 2) := by decide +kernel
theorem dX7_init_35 : decode cX7_init 35 = .ok (.putfield 23, 3) := by decide +kernel
theorem dX7_init_38 : decode cX7_init 38 = .ok (.aload_n 0, 1) := by decide +kernel
theorem dX7_init_39 : decode cX7_init 39 = .ok (.sipush 160, 3) := by decide +kernel
theorem dX7_init_42 : decode cX7_init 42 = .ok (.newarray .int, 2) := by decide +kernel
theorem dX7_init_44 : decode cX7_init 44 = .ok (.putfield 26, 3) := by decide +kernel
theorem dX7_init_47 : decode cX7_init 47 = .ok (.return_, 1) := by decide +kernel
theorem dX7_size_0 : decode cX7_size 0 = .ok (.aload_n 0, 1) := by decide +kernel
theorem dX7_size_1 : decode cX7_size 1 = .ok (.getfield 29, 3) := by decide +kernel
theorem dX7_size_4 : decode cX7_size 4 = .ok (.ireturn, 1) := by decide +kernel
theorem dX7_isFull_0 : decode cX7_isFull 0 = .ok (.aload_n 0, 1) := by decide +kernel
theorem dX7_isFull_1 : decode cX7_isFull 1 = .ok (.getfield 29, 3) := by decide +kernel
theorem dX7_isFull_4 : decode cX7_isFull 4 = .ok (.bipush 10, 2) := by decide +kernel
theorem dX7_isFull_6 : decode cX7_isFull 6 = .ok (.if_icmp .lt 7, 3) := by decide +kernel
theorem dX7_isFull_9 : decode cX7_isFull 9 = .ok (.iconst 1, 1) := by decide +kernel
theorem dX7_isFull_10 : decode cX7_isFull 10 = .ok (.goto 4, 3) := by decide +kernel
theorem dX7_isFull_13 : decode cX7_isFull 13 = .ok (.iconst 0, 1) := by decide +kernel
theorem dX7_isFull_14 : decode cX7_isFull 14 = .ok (.ireturn, 1) := by decide +kernel
set_option maxRecDepth 20000 in
theorem ggX7_take_X7_isFull : GoodIn wsX7_take wsX7_isFull := goodIn_sub (List.forall_mem_cons.mpr ⟨List.mem_cons_of_mem _ (List.mem_append_left _ (List.mem_append_left _ (List.mem_of_getElem? (i := 10) rfl))), List.forall_mem_append.mpr ⟨List.forall_mem_cons.mpr ⟨List.mem_cons_of_mem _ (List.mem_append_left _ (List.mem_append_left _ (List.mem_of_getElem? (i := 1) rfl))), fun _ h => absurd h List.not_mem_nil⟩, tl_X7_take_X7⟩⟩) (by decide +kernel)
set_option maxRecDepth 20000 in
theorem gX7_take_X7_isFull : GoodIn wsX7_take (wsV RX7 33 RX7 yX7_isFull wsX7_isFull) := goodIn_app (goodIn_sub (List.forall_mem_cons.mpr ⟨List.mem_cons_of_mem _ (List.mem_append_left _ (List.mem_append_left _ (List.mem_of_getElem? (i := 6) rfl))), List.forall_mem_cons.mpr ⟨List.mem_cons_of_mem _ (List.mem_append_left _ (List.mem_append_left _ (List.mem_of_getElem? (i := 7) rfl))), List.forall_mem_cons.mpr ⟨List.mem_cons_of_mem _ (List.mem_append_left _ (List.mem_append_left _ (List.mem_of_getElem? (i := 8) rfl))), List.forall_mem_cons.mpr ⟨List.mem_cons_of_mem _ (List.mem_append_left _ (List.mem_append_left _ (List.mem_of_getElem? (i := 9) rfl))), fun _ h => absurd h List.not_mem_nil⟩⟩⟩⟩) (by decide +kernel)) ggX7_take_X7_isFull
theorem dX7_take_0 : decode cX7_take 0 = .ok (.aload_n 0, 1) := by decide +kernel
theorem dX7_take_1 : decode cX7_take 1 = .ok (.invokevirtual 33, 3) := by decide +kernel
theorem dX7_take_4 : decode cX7_take 4 = .ok (.ifCond .eq 5, 3) := by decide +kernel
theorem dX7_take_7 : decode cX7_take 7 = .ok (.iconst (-1), 1) := by decide +kernel
theorem dX7_take_8 : decode cX7_take 8 = .ok (.ireturn, 1) := by decide +kernel
theorem dX7_take_9 : decode cX7_take 9 = .ok (.aload_n 0, 1) := by decide +kernel
theorem dX7_take_10 : decode cX7_take 10 = .ok (.getfield 13, 3) := by decide +kernel
theorem dX7_take_13 : decode cX7_take 13 = .ok (.aload_n 0, 1) := by decide +kernel
theorem dX7_take_14 : decode cX7_take 14 = .ok (.getfield 29, 3) := by decide +kernel
theorem dX7_take_17 : decode cX7_take 17 = .ok (.iload_n 2, 1) := by decide +kernel
theorem dX7_take_18 : decode cX7_take 18 = .ok (.iastore, 1) := by decide +kernel
theorem dX7_take_19 : decode cX7_take 19 = .ok (.aload_n 0, 1) := by decide +kernel
theorem dX7_take_20 : decode cX7_take 20 = .ok (.getfield 17, 3) := by decide +kernel
theorem dX7_take_23 : decode cX7_take 23 = .ok (.aload_n 0, 1) := by decide +kernel
theorem dX7_take_24 : decode cX7_take 24 = .ok (.getfield 29, 3) := by decide +kernel
theorem dX7_take_27 : decode cX7_take 27 = .ok (.aload_n 1, 1) := by decide +kernel
theorem dX7_take_28 : decode cX7_take 28 = .ok (.getfield 37, 3) := by decide +kernel
theorem dX7_take_31 : decode cX7_take 31 = .ok (.iastore, 1) := by decide +kernel
theorem dX7_take_32 : decode cX7_take 32 = .ok (.iconst 0, 1) := by decide +kernel
theorem dX7_take_33 : decode cX7_take 33 = .ok (.istore_n 3, 1) := by decide +kernel
theorem dX7_take_34 : decode cX7_take 34 = .ok (.iload_n 3, 1) := by decide +kernel
theorem dX7_take_35 : decode cX7_take 35 = .ok (.aload_n 1, 1) := by decide +kernel
theorem dX7_take_36 : decode cX7_take 36 = .ok (.getfield 37, 3) := by decide +kernel
theorem dX7_take_39 : decode cX7_take 39 = .ok (.if_icmp .ge 75, 3) := by decide +kernel
theorem dX7_take_42 : decode cX7_take 42 = .ok (.iload_n 3, 1) := by decide +kernel
theorem dX7_take_43 : decode cX7_take 43 = .ok (.bipush 16, 2) := by decide +kernel
theorem dX7_take_45 : decode cX7_take 45 = .ok (.if_icmp .ge 69, 3) := by decide +kernel
theorem dX7_take_48 : decode cX7_take 48 = .ok (.aload_n 0, 1) := by decide +kernel
theorem dX7_take_49 : decode cX7_take 49 = .ok (.getfield 20, 3) := by decide +kernel
theorem dX7_take_52 : decode cX7_take 52 = .ok (.aload_n 0, 1) := by decide +kernel
theorem dX7_take_53 : decode cX7_take 53 = .ok (.getfield 29, 3) := by decide +kernel
theorem dX7_take_56 : decode cX7_take 56 = .ok (.bipush 16, 2) := by decide +kernel
theorem dX7_take_58 : decode cX7_take 58 = .ok (.imul, 1) := by decide +kernel
theorem dX7_take_59 : decode cX7_take 59 = .ok (.iload_n 3, 1) := by decide +kernel
theorem dX7_take_60 : decode cX7_take 60 = .ok (.iadd, 1) := by decide +kernel
theorem dX7_take_61 : decode cX7_take 61 = .ok (.aload_n 1, 1) := by decide +kernel
theorem dX7_take_62 : decode cX7_take 62 = .ok (.getfield 38, 3) := by decide +kernel
theorem dX7_take_65 : decode cX7_take 65 = .ok (.iload_n 3, 1) := by decide +kernel
theorem dX7_take_66 : decode cX7_take 66 = .ok (.iaload, 1) := by decide +kernel
theorem dX7_take_67 : decode cX7_take 67 = .ok (.iastore, 1) := by decide +kernel
theorem dX7_take_68 : decode cX7_take 68 = .ok (.aload_n 0, 1) := by decide +kernel
theorem dX7_take_69 : decode cX7_take 69 = .ok (.getfield 23, 3) := by decide +kernel
theorem dX7_take_72 : decode cX7_take 72 = .ok (.aload_n 0, 1) := by decide +kernel
theorem dX7_take_73 : decode cX7_take 73 = .ok (.getfield 29, 3) := by decide +kernel
theorem dX7_take_76 : decode cX7_take 76 = .ok (.bipush 16, 2) := by decide +kernel
theorem dX7_take_78 : decode cX7_take 78 = .ok (.imul, 1) := by decide +kernel
theorem dX7_take_79 : decode cX7_take 79 = .ok (.iload_n 3, 1) := by decide +kernel
theorem dX7_take_80 : decode cX7_take 80 = .ok (.iadd, 1) := by decide +kernel
theorem dX7_take_81 : decode cX7_take 81 = .ok (.aload_n 1, 1) := by decide +kernel
theorem dX7_take_82 : decode cX7_take 82 = .ok (.getfield 39, 3) := by decide +kernel
theorem dX7_take_85 : decode cX7_take 85 = .ok (.iload_n 3, 1) := by decide +kernel
theorem dX7_take_86 : decode cX7_take 86 = .ok (.iaload, 1) := by decide +kernel
theorem dX7_take_87 : decode cX7_take 87 = .ok (.iastore, 1) := by decide +kernel
theorem dX7_take_88 : decode cX7_take 88 = .ok (.aload_n 0, 1) := by decide +kernel

