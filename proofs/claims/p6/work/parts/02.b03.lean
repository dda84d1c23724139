theorem dX11_init_82 : decode cX11_init 82 = .ok (.new 58, 3) := by decide +kernel
theorem dX11_init_85 : decode cX11_init 85 = .ok (.dup, 1) := by decide +kernel
theorem dX11_init_86 : decode cX11_init 86 = .ok (.invokespecial 60, 3) := by decide +kernel
theorem dX11_init_89 : decode cX11_init 89 = .ok (.putfield 61, 3) := by decide +kernel
theorem dX11_init_92 : decode cX11_init 92 = .ok (.aload_n 0, 1) := by decide +kernel
theorem dX11_init_93 : decode cX11_init 93 = .ok (.new 65, 3) := by decide +kernel
theorem dX11_init_96 : decode cX11_init 96 = .ok (.dup, 1) := by decide +kernel
theorem dX11_init_97 : decode cX11_init 97 = .ok (.iconst 5, 1) := by decide +kernel
theorem dX11_init_98 : decode cX11_init 98 = .ok (.invokespecial 67, 3) := by decide +kernel
theorem dX11_init_101 : decode cX11_init 101 = .ok (.putfield 70, 3) := by decide +kernel
theorem dX11_init_104 : decode cX11_init 104 = .ok (.aload_n 0, 1) := by decide +kernel
theorem dX11_init_105 : decode cX11_init 105 = .ok (.iconst (-1), 1) := by decide +kernel
theorem dX11_init_106 : decode cX11_init 106 = .ok (.putfield 74, 3) := by decide +kernel
theorem dX11_init_109 : decode cX11_init 109 = .ok (.return_, 1) := by decide +kernel
set_option maxRecDepth 20000 in
theorem ggX11_monk_X11_within : GoodIn wsX11_monk wsX11_within := goodIn_sub (List.forall_mem_cons.mpr ⟨List.mem_cons_of_mem _ (List.mem_append_left _ (List.mem_append_left _ (List.mem_of_getElem? (i := 5) rfl))), fun _ h => absurd h List.not_mem_nil⟩) (by decide +kernel)
set_option maxRecDepth 20000 in
theorem gX11_monk_X11_within : GoodIn wsX11_monk (va_wsS RX11 78 yX11_within wsX11_within) := goodIn_app (goodIn_sub (List.forall_mem_cons.mpr ⟨List.mem_cons_of_mem _ (List.mem_append_left _ (List.mem_append_left _ (List.mem_of_getElem? (i := 2) rfl))), List.forall_mem_cons.mpr ⟨List.mem_cons_of_mem _ (List.mem_append_left _ (List.mem_append_left _ (List.mem_of_getElem? (i := 3) rfl))), List.forall_mem_cons.mpr ⟨List.mem_cons_of_mem _ (List.mem_append_left _ (List.mem_append_left _ (List.mem_of_getElem? (i := 4) rfl))), fun _ h => absurd h List.not_mem_nil⟩⟩⟩) (by decide +kernel)) ggX11_monk_X11_within
set_option maxRecDepth 20000 in
theorem ggX11_monk_X5_enter : GoodIn wsX11_monk wsX5_enter := goodIn_sub (List.forall_mem_cons.mpr ⟨List.mem_cons_of_mem _ (List.mem_append_left _ (List.mem_append_left _ (List.mem_of_getElem? (i := 10) rfl))), List.forall_mem_append.mpr ⟨List.forall_mem_cons.mpr ⟨List.mem_cons_of_mem _ (List.mem_append_left _ (List.mem_append_left _ (List.mem_of_getElem? (i := 11) rfl))), List.forall_mem_cons.mpr ⟨List.mem_cons_of_mem _ (List.mem_append_left _ (List.mem_append_left _ (List.mem_of_getElem? (i := 12) rfl))), List.forall_mem_cons.mpr ⟨List.mem_cons_of_mem _ (List.mem_append_left _ (List.mem_append_left _ (List.mem_of_getElem? (i := 13) rfl))), List.forall_mem_cons.mpr ⟨List.mem_cons_of_mem _ (List.mem_append_left _ (List.mem_append_left _ (List.mem_of_getElem? (i := 14) rfl))), fun _ h => absurd h List.not_mem_nil⟩⟩⟩⟩, tl_X11_monk_X5⟩⟩) (by decide +kernel)
set_option maxRecDepth 20000 in
theorem gX11_monk_X5_enter : GoodIn wsX11_monk (wsV RX11 85 RX5 yX5_enter wsX5_enter) := goodIn_app (goodIn_sub (List.forall_mem_cons.mpr ⟨List.mem_cons_of_mem _ (List.mem_append_left _ (List.mem_append_left _ (List.mem_of_getElem? (i := 6) rfl))), List.forall_mem_cons.mpr ⟨List.mem_cons_of_mem _ (List.mem_append_left _ (List.mem_append_left _ (List.mem_of_getElem? (i := 7) rfl))), List.forall_mem_cons.mpr ⟨List.mem_cons_of_mem _ (List.mem_append_left _ (List.mem_append_left _ (List.mem_of_getElem? (i := 8) rfl))), List.forall_mem_cons.mpr ⟨List.mem_cons_of_mem _ (List.mem_append_left _ (List.mem_append_left _ (List.mem_of_getElem? (i := 9) rfl))), fun _ h => absurd h List.not_mem_nil⟩⟩⟩⟩) (by decide +kernel)) ggX11_monk_X5_enter
theorem dX11_monk_0 : decode cX11_monk 0 = .ok (.iload_n 2, 1) := by decide +kernel
theorem dX11_monk_1 : decode cX11_monk 1 = .ok (.iconst 0, 1) := by decide +kernel
theorem dX11_monk_2 : decode cX11_monk 2 = .ok (.bipush 15, 2) := by decide +kernel
theorem dX11_monk_4 : decode cX11_monk 4 = .ok (.invokestatic 78, 3) := by decide +kernel
theorem dX11_monk_7 : decode cX11_monk 7 = .ok (.ifCond .eq 19, 3) := by decide +kernel
theorem dX11_monk_10 : decode cX11_monk 10 = .ok (.aload_n 0, 1) := by decide +kernel
theorem dX11_monk_11 : decode cX11_monk 11 = .ok (.getfield 47, 3) := by decide +kernel
theorem dX11_monk_14 : decode cX11_monk 14 = .ok (.iload_n 1, 1) := by decide +kernel
theorem dX11_monk_15 : decode cX11_monk 15 = .ok (.iload_n 2, 1) := by decide +kernel
theorem dX11_monk_16 : decode cX11_monk 16 = .ok (.aload_n 0, 1) := by decide +kernel
theorem dX11_monk_17 : decode cX11_monk 17 = .ok (.getfield 82, 3) := by decide +kernel
theorem dX11_monk_20 : decode cX11_monk 20 = .ok (.invokevirtual 85, 3) := by decide +kernel
theorem dX11_monk_23 : decode cX11_monk 23 = .ok (.goto 4, 3) := by decide +kernel
theorem dX11_monk_26 : decode cX11_monk 26 = .ok (.iconst (-1), 1) := by decide +kernel
theorem dX11_monk_27 : decode cX11_monk 27 = .ok (.ireturn, 1) := by decide +kernel
set_option maxRecDepth 20000 in
theorem ggX11_away_X5_has : GoodIn wsX11_away wsX5_has := goodIn_sub (List.forall_mem_cons.mpr ⟨mc_X11_away_r1 _ (List.mem_of_getElem? (i := 6) rfl), List.forall_mem_append.mpr ⟨List.forall_mem_cons.mpr ⟨mc_X11_away_r1 _ (List.mem_of_getElem? (i := 7) rfl), fun _ h => absurd h List.not_mem_nil⟩, tl_X11_away_X5⟩⟩) (by decide +kernel)
set_option maxRecDepth 20000 in
theorem gX11_away_X5_has : GoodIn wsX11_away (wsV RX11 89 RX5 yX5_has wsX5_has) := goodIn_app (goodIn_sub (List.forall_mem_cons.mpr ⟨mc_X11_away_r1 _ (List.mem_of_getElem? (i := 2) rfl), List.forall_mem_cons.mpr ⟨mc_X11_away_r1 _ (List.mem_of_getElem? (i := 3) rfl), List.forall_mem_cons.mpr ⟨mc_X11_away_r1 _ (List.mem_of_getElem? (i := 4) rfl), List.forall_mem_cons.mpr ⟨mc_X11_away_r1 _ (List.mem_of_getElem? (i := 5) rfl), fun _ h => absurd h List.not_mem_nil⟩⟩⟩⟩) (by decide +kernel)) ggX11_away_X5_has
set_option maxRecDepth 20000 in
theorem ggX11_away_X11_isSpan : GoodIn wsX11_away wsX11_isSpan := goodIn_sub (List.forall_mem_cons.mpr ⟨mc_X11_away_r1 _ (List.mem_of_getElem? (i := 11) rfl), List.forall_mem_cons.mpr ⟨mc_X11_away_r1 _ (List.mem_of_getElem? (i := 12) rfl), List.forall_mem_cons.mpr ⟨mc_X11_away_r1 _ (List.mem_of_getElem? (i := 13) rfl), List.forall_mem_cons.mpr ⟨mc_X11_away_r1 _ (List.mem_of_getElem? (i := 10) rfl), List.forall_mem_cons.mpr ⟨mc_X11_away_r1 _ (List.mem_of_getElem? (i := 14) rfl), List.forall_mem_cons.mpr ⟨mc_X11_away_r1 _ (List.mem_of_getElem? (i := 15) rfl), List.forall_mem_cons.mpr ⟨mc_X11_away_r1 _ (List.mem_of_getElem? (i := 16) rfl), List.forall_mem_cons.mpr ⟨mc_X11_away_r1 _ (List.mem_of_getElem? (i := 17) rfl), fun _ h => absurd h List.not_mem_nil⟩⟩⟩⟩⟩⟩⟩⟩) (by decide +kernel)
set_option maxRecDepth 20000 in
theorem gX11_away_X11_isSpan : GoodIn wsX11_away (va_wsS RX11 93 yX11_isSpan wsX11_isSpan) := goodIn_app (goodIn_sub (List.forall_mem_cons.mpr ⟨mc_X11_away_r1 _ (List.mem_of_getElem? (i := 8) rfl), List.forall_mem_cons.mpr ⟨mc_X11_away_r1 _ (List.mem_of_getElem? (i := 9) rfl), List.forall_mem_cons.mpr ⟨mc_X11_away_r1 _ (List.mem_of_getElem? (i := 10) rfl), fun _ h => absurd h List.not_mem_nil⟩⟩⟩) (by decide +kernel)) ggX11_away_X11_isSpan
set_option maxRecDepth 20000 in
theorem ggX11_away_X5_tellAbsence : GoodIn wsX11_away wsX5_tellAbsence := goodIn_sub (List.forall_mem_cons.mpr ⟨mc_X11_away_r1 _ (List.mem_of_getElem? (i := 21) rfl), List.forall_mem_append.mpr ⟨List.forall_mem_cons.mpr ⟨mc_X11_away_r1 _ (List.mem_of_getElem? (i := 22) rfl), List.forall_mem_cons.mpr ⟨mc_X11_away_r1 _ (List.mem_of_getElem? (i := 23) rfl), List.forall_mem_cons.mpr ⟨mc_X11_away_r2 _ (List.mem_of_getElem? (i := 0) rfl), List.forall_mem_cons.mpr ⟨mc_X11_away_r2 _ (List.mem_of_getElem? (i := 1) rfl), fun _ h => absurd h List.not_mem_nil⟩⟩⟩⟩, tl_X11_away_X5⟩⟩) (by decide +kernel)
set_option maxRecDepth 20000 in
theorem gX11_away_X5_tellAbsence : GoodIn wsX11_away (wsV RX11 97 RX5 yX5_tellAbsence wsX5_tellAbsence) := goodIn_app (goodIn_sub (List.forall_mem_cons.mpr ⟨mc_X11_away_r1 _ (List.mem_of_getElem? (i := 18) rfl), List.forall_mem_cons.mpr ⟨mc_X11_away_r1 _ (List.mem_of_getElem? (i := 19) rfl), List.forall_mem_cons.mpr ⟨mc_X11_away_r1 _ (List.mem_of_getElem? (i := 20) rfl), List.forall_mem_cons.mpr ⟨mc_X11_away_r1 _ (List.mem_of_getElem? (i := 5) rfl), fun _ h => absurd h List.not_mem_nil⟩⟩⟩⟩) (by decide +kernel)) ggX11_away_X5_tellAbsence
theorem dX11_away_0 : decode cX11_away 0 = .ok (.aload_n 0, 1) := by decide +kernel
theorem dX11_away_1 : decode cX11_away 1 = .ok (.getfield 47, 3) := by decide +kernel
theorem dX11_away_4 : decode cX11_away 4 = .ok (.iload_n 1, 1) := by decide +kernel
theorem dX11_away_5 : decode cX11_away 5 = .ok (.invokevirtual 89, 3) := by decide +kernel
theorem dX11_away_8 : decode cX11_away 8 = .ok (.ifCond .eq 23, 3) := by decide +kernel
theorem dX11_away_11 : decode cX11_away 11 = .ok (.iload_n 2, 1) := by decide +kernel
theorem dX11_away_12 : decode cX11_away 12 = .ok (.aload_n 0, 1) := by decide +kernel
theorem dX11_away_13 : decode cX11_away 13 = .ok (.getfield 82, 3) := by decide +kernel
theorem dX11_away_16 : decode cX11_away 16 = .ok (.if_icmp .lt 15, 3) := by decide +kernel
theorem dX11_away_19 : decode cX11_away 19 = .ok (.iload_n 2, 1) := by decide +kernel
theorem dX11_away_20 : decode cX11_away 20 = .ok (.iload_n 3, 1) := by decide +kernel
theorem dX11_away_21 : decode cX11_away 21 = .ok (.invokestatic 93, 3) := by decide +kernel
theorem dX11_away_24 : decode cX11_away 24 = .ok (.ifCond .eq 7, 3) := by decide +kernel
theorem dX11_away_27 : decode cX11_away 27 = .ok (.iconst 1, 1) := by decide +kernel
theorem dX11_away_28 : decode cX11_away 28 = .ok (.goto 4, 3) := by decide +kernel
theorem dX11_away_31 : decode cX11_away 31 = .ok (.iconst 0, 1) := by decide +kernel
theorem dX11_away_32 : decode cX11_away 32 = .ok (.istore 4, 2) := by decide +kernel
theorem dX11_away_34 : decode cX11_away 34 = .ok (.iload 4, 2) := by decide +kernel
theorem dX11_away_36 : decode cX11_away 36 = .ok (.ifCond .eq 16, 3) := by decide +kernel
theorem dX11_away_39 : decode cX11_away 39 = .ok (.aload_n 0, 1) := by decide +kernel
theorem dX11_away_40 : decode cX11_away 40 = .ok (.getfield 47, 3) := by decide +kernel
theorem dX11_away_43 : decode cX11_away 43 = .ok (.iload_n 1, 1) := by decide +kernel
theorem dX11_away_44 : decode cX11_away 44 = .ok (.iload_n 2, 1) := by decide +kernel
theorem dX11_away_45 : decode cX11_away 45 = .ok (.iload_n 3, 1) := by decide +kernel
theorem dX11_away_46 : decode cX11_away 46 = .ok (.invokevirtual 97, 3) := by decide +kernel
theorem dX11_away_49 : decode cX11_away 49 = .ok (.goto 4, 3) := by decide +kernel
theorem dX11_away_52 : decode cX11_away 52 = .ok (.iconst (-1), 1) := by decide +kernel
theorem dX11_away_53 : decode cX11_away 53 = .ok (.ireturn, 1) := by decide +kernel
set_option maxRecDepth 20000 in
theorem ggX11_feast_X11_isDayOfYear : GoodIn wsX11_feast wsX11_isDayOfYear := goodIn_sub (List.forall_mem_cons.mpr ⟨mc_X11_feast_r1 _ (List.mem_of_getElem? (i := 4) rfl), List.forall_mem_cons.mpr ⟨mc_X11_feast_r1 _ (List.mem_of_getElem? (i := 5) rfl), List.forall_mem_cons.mpr ⟨mc_X11_feast_r1 _ (List.mem_of_getElem? (i := 6) rfl), List.forall_mem_cons.mpr ⟨mc_X11_feast_r1 _ (List.mem_of_getElem? (i := 3) rfl), List.forall_mem_cons.mpr ⟨mc_X11_feast_r1 _ (List.mem_of_getElem? (i := 7) rfl), fun _ h => absurd h List.not_mem_nil⟩⟩⟩⟩⟩) (by decide +kernel)
set_option maxRecDepth 20000 in
theorem gX11_feast_X11_isDayOfYear : GoodIn wsX11_feast (va_wsS RX11 101 yX11_isDayOfYear wsX11_isDayOfYear) := goodIn_app (goodIn_sub (List.forall_mem_cons.mpr ⟨mc_X11_feast_r1 _ (List.mem_of_getElem? (i := 1) rfl), List.forall_mem_cons.mpr ⟨mc_X11_feast_r1 _ (List.mem_of_getElem? (i := 2) rfl), List.forall_mem_cons.mpr ⟨mc_X11_feast_r1 _ (List.mem_of_getElem? (i := 3) rfl), fun _ h => absurd h List.not_mem_nil⟩⟩⟩) (by decide +kernel)) ggX11_feast_X11_isDayOfYear
set_option maxRecDepth 20000 in
theorem ggX11_feast_X11_within : GoodIn wsX11_feast wsX11_within := goodIn_sub (List.forall_mem_cons.mpr ⟨mc_X11_feast_r1 _ (List.mem_of_getElem? (i := 7) rfl), fun _ h => absurd h List.not_mem_nil⟩) (by decide +kernel)
set_option maxRecDepth 20000 in
theorem gX11_feast_X11_within : GoodIn wsX11_feast (va_wsS RX11 78 yX11_within wsX11_within) := goodIn_app (goodIn_sub (List.forall_mem_cons.mpr ⟨mc_X11_feast_r1 _ (List.mem_of_getElem? (i := 5) rfl), List.forall_mem_cons.mpr ⟨mc_X11_feast_r1 _ (List.mem_of_getElem? (i := 6) rfl), List.forall_mem_cons.mpr ⟨mc_X11_feast_r1 _ (List.mem_of_getElem? (i := 3) rfl), fun _ h => absurd h List.not_mem_nil⟩⟩⟩) (by decide +kernel)) ggX11_feast_X11_within
set_option maxRecDepth 20000 in
theorem mm_X11_feast_X3_enter_r1 : ∀ w ∈ wsX3_enter_r1, w ∈ wsX11_feast := List.forall_mem_cons.mpr ⟨mc_X11_feast_r1 _ (List.mem_of_getElem? (i := 13) rfl), List.forall_mem_cons.mpr ⟨mc_X11_feast_r1 _ (List.mem_of_getElem? (i := 14) rfl), List.forall_mem_cons.mpr ⟨mc_X11_feast_r1 _ (List.mem_of_getElem? (i := 15) rfl), List.forall_mem_cons.mpr ⟨mc_X11_feast_r1 _ (List.mem_of_getElem? (i := 16) rfl), List.forall_mem_cons.mpr ⟨mc_X11_feast_r1 _ (List.mem_of_getElem? (i := 17) rfl), List.forall_mem_cons.mpr ⟨mc_X11_feast_r1 _ (List.mem_of_getElem? (i := 18) rfl), List.forall_mem_cons.mpr ⟨mc_X11_feast_r1 _ (List.mem_of_getElem? (i := 11) rfl), List.forall_mem_cons.mpr ⟨mc_X11_feast_r1 _ (List.mem_of_getElem? (i := 19) rfl), List.forall_mem_cons.mpr ⟨mc_X11_feast_r1 _ (List.mem_of_getElem? (i := 20) rfl), List.forall_mem_cons.mpr ⟨mc_X11_feast_r1 _ (List.mem_of_getElem? (i := 21) rfl), List.forall_mem_cons.mpr ⟨mc_X11_feast_r1 _ (List.mem_of_getElem? (i := 22) rfl), List.forall_mem_cons.mpr ⟨mc_X11_feast_r1 _ (List.mem_of_getElem? (i := 23) rfl), List.forall_mem_cons.mpr ⟨mc_X11_feast_r2 _ (List.mem_of_getElem? (i := 0) rfl), List.forall_mem_cons.mpr ⟨mc_X11_feast_r2 _ (List.mem_of_getElem? (i := 1) rfl), List.forall_mem_cons.mpr ⟨mc_X11_feast_r2 _ (List.mem_of_getElem? (i := 2) rfl), List.forall_mem_cons.mpr ⟨mc_X11_feast_r2 _ (List.mem_of_getElem? (i := 3) rfl), List.forall_mem_cons.mpr ⟨mc_X11_feast_r2 _ (List.mem_of_getElem? (i := 4) rfl), List.forall_mem_cons.mpr ⟨mc_X11_feast_r2 _ (List.mem_of_getElem? (i := 5) rfl), List.forall_mem_cons.mpr ⟨mc_X11_feast_r2 _ (List.mem_of_getElem? (i := 6) rfl), List.forall_mem_cons.mpr ⟨mc_X11_feast_r2 _ (List.mem_of_getElem? (i := 7) rfl), List.forall_mem_cons.mpr ⟨mc_X11_feast_r2 _ (List.mem_of_getElem? (i := 8) rfl), List.forall_mem_cons.mpr ⟨mc_X11_feast_r2 _ (List.mem_of_getElem? (i := 9) rfl), List.forall_mem_cons.mpr ⟨mc_X11_feast_r2 _ (List.mem_of_getElem? (i := 10) rfl), List.forall_mem_cons.mpr ⟨mc_X11_feast_r2 _ (List.mem_of_getElem? (i := 11) rfl), fun _ h => absurd h List.not_mem_nil⟩⟩⟩⟩⟩⟩⟩⟩⟩⟩⟩⟩⟩⟩⟩⟩⟩⟩⟩⟩⟩⟩⟩⟩
set_option maxRecDepth 20000 in
theorem mm_X11_feast_X3_enter_r2 : ∀ w ∈ wsX3_enter_r2, w ∈ wsX11_feast := List.forall_mem_cons.mpr ⟨mc_X11_feast_r2 _ (List.mem_of_getElem? (i := 12) rfl), List.forall_mem_cons.mpr ⟨mc_X11_feast_r2 _ (List.mem_of_getElem? (i := 13) rfl), List.forall_mem_cons.mpr ⟨mc_X11_feast_r2 _ (List.mem_of_getElem? (i := 14) rfl), List.forall_mem_cons.mpr ⟨mc_X11_feast_r2 _ (List.mem_of_getElem? (i := 15) rfl), fun _ h => absurd h List.not_mem_nil⟩⟩⟩⟩
set_option maxRecDepth 20000 in
theorem ggX11_feast_X3_enter : GoodIn wsX11_feast wsX3_enter := goodIn_sub (List.forall_mem_cons.mpr ⟨mc_X11_feast_r1 _ (List.mem_of_getElem? (i := 12) rfl), List.forall_mem_append.mpr ⟨List.forall_mem_append.mpr ⟨mm_X11_feast_X3_enter_r1, mm_X11_feast_X3_enter_r2⟩, tl_X11_feast_X3⟩⟩) (by decide +kernel)
set_option maxRecDepth 20000 in
theorem gX11_feast_X3_enter : GoodIn wsX11_feast (wsV RX11 104 RX3 yX3_enter wsX3_enter) := goodIn_app (goodIn_sub (List.forall_mem_cons.mpr ⟨mc_X11_feast_r1 _ (List.mem_of_getElem? (i := 8) rfl), List.forall_mem_cons.mpr ⟨mc_X11_feast_r1 _ (List.mem_of_getElem? (i := 9) rfl), List.forall_mem_cons.mpr ⟨mc_X11_feast_r1 _ (List.mem_of_getElem? (i := 10) rfl), List.forall_mem_cons.mpr ⟨mc_X11_feast_r1 _ (List.mem_of_getElem? (i := 11) rfl), fun _ h => absurd h List.not_mem_nil⟩⟩⟩⟩) (by decide +kernel)) ggX11_feast_X3_enter
theorem dX11_feast_0 : decode cX11_feast 0 = .ok (.iload_n 1, 1) := by decide +kernel
theorem dX11_feast_1 : decode cX11_feast 1 = .ok (.invokestatic 101, 3) := by decide +kernel
theorem dX11_feast_4 : decode cX11_feast 4 = .ok (.ifCond .eq 24, 3) := by decide +kernel
theorem dX11_feast_7 : decode cX11_feast 7 = .ok (.iload_n 2, 1) := by decide +kernel
theorem dX11_feast_8 : decode cX11_feast 8 = .ok (.iconst 1, 1) := by decide +kernel
theorem dX11_feast_9 : decode cX11_feast 9 = .ok (.iconst 4, 1) := by decide +kernel
theorem dX11_feast_10 : decode cX11_feast 10 = .ok (.invokestatic 78, 3) := by decide +kernel
theorem dX11_feast_13 : decode cX11_feast 13 = .ok (.ifCond .eq 15, 3) := by decide +kernel
theorem dX11_feast_16 : decode cX11_feast 16 = .ok (.aload_n 0, 1) := by decide +kernel
theorem dX11_feast_17 : decode cX11_feast 17 = .ok (.getfield 19, 3) := by decide +kernel
theorem dX11_feast_20 : decode cX11_feast 20 = .ok (.iload_n 1, 1) := by decide +kernel
theorem dX11_feast_21 : decode cX11_feast 21 = .ok (.iload_n 2, 1) := by decide +kernel
theorem dX11_feast_22 : decode cX11_feast 22 = .ok (.invokevirtual 104, 3) := by decide +kernel
theorem dX11_feast_25 : decode cX11_feast 25 = .ok (.goto 4, 3) := by decide +kernel
theorem dX11_feast_28 : decode cX11_feast 28 = .ok (.iconst (-1), 1) := by decide +kernel
theorem dX11_feast_29 : decode cX11_feast 29 = .ok (.ireturn, 1) := by decide +kernel
set_option maxRecDepth 20000 in
theorem ggX11_held_X3_heldBy : GoodIn wsX11_held wsX3_heldBy := goodIn_sub (List.forall_mem_cons.mpr ⟨List.mem_cons_of_mem _ (List.mem_append_left _ (List.mem_append_left _ (List.mem_of_getElem? (i := 5) rfl))), List.forall_mem_append.mpr ⟨List.forall_mem_cons.mpr ⟨List.mem_cons_of_mem _ (List.mem_append_left _ (List.mem_append_left _ (List.mem_of_getElem? (i := 6) rfl))), List.forall_mem_cons.mpr ⟨List.mem_cons_of_mem _ (List.mem_append_left _ (List.mem_append_left _ (List.mem_of_getElem? (i := 7) rfl))), List.forall_mem_cons.mpr ⟨List.mem_cons_of_mem _ (List.mem_append_left _ (List.mem_append_left _ (List.mem_of_getElem? (i := 8) rfl))), List.forall_mem_cons.mpr ⟨List.mem_cons_of_mem _ (List.mem_append_left _ (List.mem_append_left _ (List.mem_of_getElem? (i := 9) rfl))), List.forall_mem_cons.mpr ⟨List.mem_cons_of_mem _ (List.mem_append_left _ (List.mem_append_left _ (List.mem_of_getElem? (i := 10) rfl))), List.forall_mem_cons.mpr ⟨List.mem_cons_of_mem _ (List.mem_append_left _ (List.mem_append_left _ (List.mem_of_getElem? (i := 11) rfl))), List.forall_mem_cons.mpr ⟨List.mem_cons_of_mem _ (List.mem_append_left _ (List.mem_append_left _ (List.mem_of_getElem? (i := 12) rfl))), List.forall_mem_cons.mpr ⟨List.mem_cons_of_mem _ (List.mem_append_left _ (List.mem_append_left _ (List.mem_of_getElem? (i := 13) rfl))), fun _ h => absurd h List.not_mem_nil⟩⟩⟩⟩⟩⟩⟩⟩, tl_X11_held_X3⟩⟩) (by decide +kernel)
set_option maxRecDepth 20000 in
theorem gX11_held_X3_heldBy : GoodIn wsX11_held (wsV RX11 107 RX3 yX3_heldBy wsX3_heldBy) := goodIn_app (goodIn_sub (List.forall_mem_cons.mpr ⟨List.mem_cons_of_mem _ (List.mem_append_left _ (List.mem_append_left _ (List.mem_of_getElem? (i := 1) rfl))), List.forall_mem_cons.mpr ⟨List.mem_cons_of_mem _ (List.mem_append_left _ (List.mem_append_left _ (List.mem_of_getElem? (i := 2) rfl))), List.forall_mem_cons.mpr ⟨List.mem_cons_of_mem _ (List.mem_append_left _ (List.mem_append_left _ (List.mem_of_getElem? (i := 3) rfl))), List.forall_mem_cons.mpr ⟨List.mem_cons_of_mem _ (List.mem_append_left _ (List.mem_append_left _ (List.mem_of_getElem? (i := 4) rfl))), fun _ h => absurd h List.not_mem_nil⟩⟩⟩⟩) (by decide +kernel)) ggX11_held_X3_heldBy
theorem dX11_held_0 : decode cX11_held 0 = .ok (.aload_n 0, 1) := by decide +kernel
theorem dX11_held_1 : decode cX11_held 1 = .ok (.getfield 19, 3) := by decide +kernel
theorem dX11_held_4 : decode cX11_held 4 = .ok (.iload_n 1, 1) := by decide +kernel
theorem dX11_held_5 : decode cX11_held 5 = .ok (.invokevirtual 107, 3) := by decide +kernel
theorem dX11_held_8 : decode cX11_held 8 = .ok (.ireturn, 1) := by decide +kernel
set_option maxRecDepth 20000 in
theorem ggX11_when_X3_dayOfFeast : GoodIn wsX11_when wsX3_dayOfFeast := goodIn_sub (List.forall_mem_cons.mpr ⟨List.mem_cons_of_mem _ (List.mem_append_left _ (List.mem_append_left _ (List.mem_of_getElem? (i := 5) rfl))), List.forall_mem_append.mpr ⟨List.forall_mem_cons.mpr ⟨List.mem_cons_of_mem _ (List.mem_append_left _ (List.mem_append_left _ (List.mem_of_getElem? (i := 6) rfl))), List.forall_mem_cons.mpr ⟨List.mem_cons_of_mem _ (List.mem_append_left _ (List.mem_append_left _ (List.mem_of_getElem? (i := 7) rfl))), fun _ h => absurd h List.not_mem_nil⟩⟩, tl_X11_when_X3⟩⟩) (by decide +kernel)
set_option maxRecDepth 20000 in
theorem gX11_when_X3_dayOfFeast : GoodIn wsX11_when (wsV RX11 111 RX3 yX3_dayOfFeast wsX3_dayOfFeast) := goodIn_app (goodIn_sub (List.forall_mem_cons.mpr ⟨List.mem_cons_of_mem _ (List.mem_append_left _ (List.mem_append_left _ (List.mem_of_getElem? (i := 1) rfl))), List.forall_mem_cons.mpr ⟨List.mem_cons_of_mem _ (List.mem_append_left _ (List.mem_append_left _ (List.mem_of_getElem? (i := 2) rfl))), List.forall_mem_cons.mpr ⟨List.mem_cons_of_mem _ (List.mem_append_left _ (List.mem_append_left _ (List.mem_of_getElem? (i := 3) rfl))), List.forall_mem_cons.mpr ⟨List.mem_cons_of_mem _ (List.mem_append_left _ (List.mem_append_left _ (List.mem_of_getElem? (i := 4) rfl))), fun _ h => absurd h List.not_mem_nil⟩⟩⟩⟩) (by decide +kernel)) ggX11_when_X3_dayOfFeast
theorem dX11_when_0 : decode cX11_when 0 = .ok (.aload_n 0, 1) := by decide +kernel
theorem dX11_when_1 : decode cX11_when 1 = .ok (.getfield 19, 3) := by decide +kernel
theorem dX11_when_4 : decode cX11_when 4 = .ok (.iload_n 1, 1) := by decide +kernel
theorem dX11_when_5 : decode cX11_when 5 = .ok (.invokevirtual 111, 3) := by decide +kernel
theorem dX11_when_8 : decode cX11_when 8 = .ok (.ireturn, 1) := by decide +kernel
set_option maxRecDepth 20000 in
theorem ggX11_light_X11_isDayOfYear : GoodIn wsX11_light wsX11_isDayOfYear := goodIn_sub (List.forall_mem_cons.mpr ⟨List.mem_cons_of_mem _ (List.mem_of_getElem? (i := 3) rfl), List.forall_mem_cons.mpr ⟨List.mem_cons_of_mem _ (List.mem_of_getElem? (i := 4) rfl), List.forall_mem_cons.mpr ⟨List.mem_cons_of_mem _ (List.mem_of_getElem? (i := 5) rfl), List.forall_mem_cons.mpr ⟨List.mem_cons_of_mem _ (List.mem_of_getElem? (i := 2) rfl), List.forall_mem_cons.mpr ⟨List.mem_cons_of_mem _ (List.mem_of_getElem? (i := 6) rfl), fun _ h => absurd h List.not_mem_nil⟩⟩⟩⟩⟩) (by decide +kernel)
set_option maxRecDepth 20000 in
theorem gX11_light_X11_isDayOfYear : GoodIn wsX11_light (va_wsS RX11 101 yX11_isDayOfYear wsX11_isDayOfYear) := goodIn_app (goodIn_sub (List.forall_mem_cons.mpr ⟨List.mem_cons_of_mem _ (List.mem_of_getElem? (i := 0) rfl), List.forall_mem_cons.mpr ⟨List.mem_cons_of_mem _ (List.mem_of_getElem? (i := 1) rfl), List.forall_mem_cons.mpr ⟨List.mem_cons_of_mem _ (List.mem_of_getElem? (i := 2) rfl), fun _ h => absurd h List.not_mem_nil⟩⟩⟩) (by decide +kernel)) ggX11_light_X11_isDayOfYear
set_option maxRecDepth 20000 in
theorem ggX11_light_X8_minutes : GoodIn wsX11_light wsX8_minutes := goodIn_sub (List.forall_mem_cons.mpr ⟨List.mem_cons_of_mem _ (List.mem_of_getElem? (i := 10) rfl), fun _ h => absurd h List.not_mem_nil⟩) (by decide +kernel)
set_option maxRecDepth 20000 in
theorem gX11_light_X8_minutes : GoodIn wsX11_light (va_wsS RX11 114 yX8_minutes wsX8_minutes) := goodIn_app (goodIn_sub (List.forall_mem_cons.mpr ⟨List.mem_cons_of_mem _ (List.mem_of_getElem? (i := 7) rfl), List.forall_mem_cons.mpr ⟨List.mem_cons_of_mem _ (List.mem_of_getElem? (i := 8) rfl), List.forall_mem_cons.mpr ⟨List.mem_cons_of_mem _ (List.mem_of_getElem? (i := 9) rfl), fun _ h => absurd h List.not_mem_nil⟩⟩⟩) (by decide +kernel)) ggX11_light_X8_minutes
set_option maxRecDepth 20000 in
theorem ggX11_light_X8_rise : GoodIn wsX11_light wsX8_rise := goodIn_sub (List.forall_mem_cons.mpr ⟨List.mem_cons_of_mem _ (List.mem_of_getElem? (i := 13) rfl), List.forall_mem_cons.mpr ⟨List.mem_cons_of_mem _ (List.mem_of_getElem? (i := 14) rfl), List.forall_mem_cons.mpr ⟨List.mem_cons_of_mem _ (List.mem_of_getElem? (i := 8) rfl), List.forall_mem_cons.mpr ⟨List.mem_cons_of_mem _ (List.mem_of_getElem? (i := 9) rfl), List.forall_mem_cons.mpr ⟨List.mem_cons_of_mem _ (List.mem_of_getElem? (i := 10) rfl), fun _ h => absurd h List.not_mem_nil⟩⟩⟩⟩⟩) (by decide +kernel)
set_option maxRecDepth 20000 in
theorem gX11_light_X8_rise : GoodIn wsX11_light (va_wsS RX11 119 yX8_rise wsX8_rise) := goodIn_app (goodIn_sub (List.forall_mem_cons.mpr ⟨List.mem_cons_of_mem _ (List.mem_of_getElem? (i := 11) rfl), List.forall_mem_cons.mpr ⟨List.mem_cons_of_mem _ (List.mem_of_getElem? (i := 12) rfl), List.forall_mem_cons.mpr ⟨List.mem_cons_of_mem _ (List.mem_of_getElem? (i := 9) rfl), fun _ h => absurd h List.not_mem_nil⟩⟩⟩) (by decide +kernel)) ggX11_light_X8_rise
set_option maxRecDepth 20000 in
theorem ggX11_light_X8_setting : GoodIn wsX11_light wsX8_setting := goodIn_sub (List.forall_mem_cons.mpr ⟨List.mem_cons_of_mem _ (List.mem_of_getElem? (i := 17) rfl), List.forall_mem_cons.mpr ⟨List.mem_cons_of_mem _ (List.mem_of_getElem? (i := 18) rfl), List.forall_mem_cons.mpr ⟨List.mem_cons_of_mem _ (List.mem_of_getElem? (i := 12) rfl), List.forall_mem_cons.mpr ⟨List.mem_cons_of_mem _ (List.mem_of_getElem? (i := 9) rfl), List.forall_mem_cons.mpr ⟨List.mem_cons_of_mem _ (List.mem_of_getElem? (i := 13) rfl), List.forall_mem_cons.mpr ⟨List.mem_cons_of_mem _ (List.mem_of_getElem? (i := 14) rfl), List.forall_mem_cons.mpr ⟨List.mem_cons_of_mem _ (List.mem_of_getElem? (i := 8) rfl), List.forall_mem_cons.mpr ⟨List.mem_cons_of_mem _ (List.mem_of_getElem? (i := 10) rfl), fun _ h => absurd h List.not_mem_nil⟩⟩⟩⟩⟩⟩⟩⟩) (by decide +kernel)
set_option maxRecDepth 20000 in
theorem gX11_light_X8_setting : GoodIn wsX11_light (va_wsS RX11 122 yX8_setting wsX8_setting) := goodIn_app (goodIn_sub (List.forall_mem_cons.mpr ⟨List.mem_cons_of_mem _ (List.mem_of_getElem? (i := 15) rfl), List.forall_mem_cons.mpr ⟨List.mem_cons_of_mem _ (List.mem_of_getElem? (i := 16) rfl), List.forall_mem_cons.mpr ⟨List.mem_cons_of_mem _ (List.mem_of_getElem? (i := 9) rfl), fun _ h => absurd h List.not_mem_nil⟩⟩⟩) (by decide +kernel)) ggX11_light_X8_setting
theorem dX11_light_0 : decode cX11_light 0 = .ok (.iload_n 1, 1) := by decide +kernel
theorem dX11_light_1 : decode cX11_light 1 = .ok (.invokestatic 101, 3) := by decide +kernel
theorem dX11_light_4 : decode cX11_light 4 = .ok (.ifCond .ne 5, 3) := by decide +kernel
theorem dX11_light_7 : decode cX11_light 7 = .ok (.iconst (-1), 1) := by decide +kernel
theorem dX11_light_8 : decode cX11_light 8 = .ok (.ireturn, 1) := by decide +kernel
theorem dX11_light_9 : decode cX11_light 9 = .ok (.iload_n 2, 1) := by decide +kernel
theorem dX11_light_10 : decode cX11_light 10 = .ok (.tableswitch 41 0 2 #[26, 31, 36], 26) := by decide +kernel
theorem dX11_light_36 : decode cX11_light 36 = .ok (.iload_n 1, 1) := by decide +kernel
theorem dX11_light_37 : decode cX11_light 37 = .ok (.invokestatic 114, 3) := by decide +kernel
theorem dX11_light_40 : decode cX11_light 40 = .ok (.ireturn, 1) := by decide +kernel
theorem dX11_light_41 : decode cX11_light 41 = .ok (.iload_n 1, 1) := by decide +kernel
theorem dX11_light_42 : decode cX11_light 42 = .ok (.invokestatic 119, 3) := by decide +kernel
theorem dX11_light_45 : decode cX11_light 45 = .ok (.ireturn, 1) := by decide +kernel
theorem dX11_light_46 : decode cX11_light 46 = .ok (.iload_n 1, 1) := by decide +kernel
theorem dX11_light_47 : decode cX11_light 47 = .ok (.invokestatic 122, 3) := by decide +kernel
theorem dX11_light_50 : decode cX11_light 50 = .ok (.ireturn, 1) := by decide +kernel
theorem dX11_light_51 : decode cX11_light 51 = .ok (.iconst (-1), 1) := by decide +kernel
theorem dX11_light_52 : decode cX11_light 52 = .ok (.ireturn, 1) := by decide +kernel
set_option maxRecDepth 20000 in
theorem ggX11_office_X11_isDay : GoodIn wsX11_office wsX11_isDay := goodIn_sub (List.forall_mem_cons.mpr ⟨mc_X11_office_r1 _ (List.mem_of_getElem? (i := 4) rfl), List.forall_mem_cons.mpr ⟨mc_X11_office_r1 _ (List.mem_of_getElem? (i := 5) rfl), List.forall_mem_cons.mpr ⟨mc_X11_office_r1 _ (List.mem_of_getElem? (i := 6) rfl), List.forall_mem_cons.mpr ⟨mc_X11_office_r1 _ (List.mem_of_getElem? (i := 3) rfl), List.forall_mem_cons.mpr ⟨mc_X11_office_r1 _ (List.mem_of_getElem? (i := 7) rfl), fun _ h => absurd h List.not_mem_nil⟩⟩⟩⟩⟩) (by decide +kernel)
set_option maxRecDepth 20000 in
theorem gX11_office_X11_isDay : GoodIn wsX11_office (va_wsS RX11 125 yX11_isDay wsX11_isDay) := goodIn_app (goodIn_sub (List.forall_mem_cons.mpr ⟨mc_X11_office_r1 _ (List.mem_of_getElem? (i := 1) rfl), List.forall_mem_cons.mpr ⟨mc_X11_office_r1 _ (List.mem_of_getElem? (i := 2) rfl), List.forall_mem_cons.mpr ⟨mc_X11_office_r1 _ (List.mem_of_getElem? (i := 3) rfl), fun _ h => absurd h List.not_mem_nil⟩⟩⟩) (by decide +kernel)) ggX11_office_X11_isDay
set_option maxRecDepth 20000 in
theorem ggX11_office_X11_isOffice : GoodIn wsX11_office wsX11_isOffice := goodIn_sub (List.forall_mem_cons.mpr ⟨mc_X11_office_r1 _ (List.mem_of_getElem? (i := 10) rfl), List.forall_mem_cons.mpr ⟨mc_X11_office_r1 _ (List.mem_of_getElem? (i := 5) rfl), List.forall_mem_cons.mpr ⟨mc_X11_office_r1 _ (List.mem_of_getElem? (i := 6) rfl), List.forall_mem_cons.mpr ⟨mc_X11_office_r1 _ (List.mem_of_getElem? (i := 3) rfl), List.forall_mem_cons.mpr ⟨mc_X11_office_r1 _ (List.mem_of_getElem? (i := 7) rfl), fun _ h => absurd h List.not_mem_nil⟩⟩⟩⟩⟩) (by decide +kernel)
set_option maxRecDepth 20000 in
theorem gX11_office_X11_isOffice : GoodIn wsX11_office (va_wsS RX11 128 yX11_isOffice wsX11_isOffice) := goodIn_app (goodIn_sub (List.forall_mem_cons.mpr ⟨mc_X11_office_r1 _ (List.mem_of_getElem? (i := 8) rfl), List.forall_mem_cons.mpr ⟨mc_X11_office_r1 _ (List.mem_of_getElem? (i := 9) rfl), List.forall_mem_cons.mpr ⟨mc_X11_office_r1 _ (List.mem_of_getElem? (i := 3) rfl), fun _ h => absurd h List.not_mem_nil⟩⟩⟩) (by decide +kernel)) ggX11_office_X11_isOffice
set_option maxRecDepth 20000 in
theorem ggX11_office_X0_startOf : GoodIn wsX11_office wsX0_startOf := goodIn_sub (List.forall_mem_cons.mpr ⟨mc_X11_office_r1 _ (List.mem_of_getElem? (i := 15) rfl), List.forall_mem_append.mpr ⟨List.forall_mem_cons.mpr ⟨mc_X11_office_r1 _ (List.mem_of_getElem? (i := 16) rfl), List.forall_mem_cons.mpr ⟨mc_X11_office_r1 _ (List.mem_of_getElem? (i := 17) rfl), List.forall_mem_cons.mpr ⟨mc_X11_office_r1 _ (List.mem_of_getElem? (i := 18) rfl), List.forall_mem_cons.mpr ⟨mc_X11_office_r1 _ (List.mem_of_getElem? (i := 19) rfl), List.forall_mem_cons.mpr ⟨mc_X11_office_r1 _ (List.mem_of_getElem? (i := 14) rfl), List.forall_mem_cons.mpr ⟨mc_X11_office_r1 _ (List.mem_of_getElem? (i := 20) rfl), List.forall_mem_cons.mpr ⟨mc_X11_office_r1 _ (List.mem_of_getElem? (i := 21) rfl), List.forall_mem_cons.mpr ⟨mc_X11_office_r1 _ (List.mem_of_getElem? (i := 22) rfl), List.forall_mem_cons.mpr ⟨mc_X11_office_r1 _ (List.mem_of_getElem? (i := 23) rfl), List.forall_mem_cons.mpr ⟨mc_X11_office_r2 _ (List.mem_of_getElem? (i := 0) rfl), List.forall_mem_cons.mpr ⟨mc_X11_office_r2 _ (List.mem_of_getElem? (i := 1) rfl), List.forall_mem_cons.mpr ⟨mc_X11_office_r2 _ (List.mem_of_getElem? (i := 2) rfl), List.forall_mem_cons.mpr ⟨mc_X11_office_r2 _ (List.mem_of_getElem? (i := 3) rfl), List.forall_mem_cons.mpr ⟨mc_X11_office_r2 _ (List.mem_of_getElem? (i := 4) rfl), List.forall_mem_cons.mpr ⟨mc_X11_office_r2 _ (List.mem_of_getElem? (i := 5) rfl), List.forall_mem_cons.mpr ⟨mc_X11_office_r2 _ (List.mem_of_getElem? (i := 6) rfl), List.forall_mem_cons.mpr ⟨mc_X11_office_r2 _ (List.mem_of_getElem? (i := 7) rfl), List.forall_mem_cons.mpr ⟨mc_X11_office_r2 _ (List.mem_of_getElem? (i := 8) rfl), List.forall_mem_cons.mpr ⟨mc_X11_office_r2 _ (List.mem_of_getElem? (i := 9) rfl), fun _ h => absurd h List.not_mem_nil⟩⟩⟩⟩⟩⟩⟩⟩⟩⟩⟩⟩⟩⟩⟩⟩⟩⟩⟩, tl_X11_office_X0⟩⟩) (by decide +kernel)
set_option maxRecDepth 20000 in
theorem gX11_office_X0_startOf : GoodIn wsX11_office (wsV RX11 131 RX0 yX0_startOf wsX0_startOf) := goodIn_app (goodIn_sub (List.forall_mem_cons.mpr ⟨mc_X11_office_r1 _ (List.mem_of_getElem? (i := 11) rfl), List.forall_mem_cons.mpr ⟨mc_X11_office_r1 _ (List.mem_of_getElem? (i := 12) rfl), List.forall_mem_cons.mpr ⟨mc_X11_office_r1 _ (List.mem_of_getElem? (i := 13) rfl), List.forall_mem_cons.mpr ⟨mc_X11_office_r1 _ (List.mem_of_getElem? (i := 14) rfl), fun _ h => absurd h List.not_mem_nil⟩⟩⟩⟩) (by decide +kernel)) ggX11_office_X0_startOf
theorem dX11_office_0 : decode cX11_office 0 = .ok (.iload_n 1, 1) := by decide +kernel
theorem dX11_office_1 : decode cX11_office 1 = .ok (.invokestatic 125, 3) := by decide +kernel
theorem dX11_office_4 : decode cX11_office 4 = .ok (.ifCond .eq 22, 3) := by decide +kernel
theorem dX11_office_7 : decode cX11_office 7 = .ok (.iload_n 2, 1) := by decide +kernel
theorem dX11_office_8 : decode cX11_office 8 = .ok (.invokestatic 128, 3) := by decide +kernel
theorem dX11_office_11 : decode cX11_office 11 = .ok (.ifCond .eq 15, 3) := by decide +kernel
theorem dX11_office_14 : decode cX11_office 14 = .ok (.aload_n 0, 1) := by decide +kernel
theorem dX11_office_15 : decode cX11_office 15 = .ok (.getfield 10, 3) := by decide +kernel
theorem dX11_office_18 : decode cX11_office 18 = .ok (.iload_n 1, 1) := by decide +kernel
theorem dX11_office_19 : decode cX11_office 19 = .ok (.iload_n 2, 1) := by decide +kernel
theorem dX11_office_20 : decode cX11_office 20 = .ok (.invokevirtual 131, 3) := by decide +kernel
theorem dX11_office_23 : decode cX11_office 23 = .ok (.goto 4, 3) := by decide +kernel
theorem dX11_office_26 : decode cX11_office 26 = .ok (.iconst (-1), 1) := by decide +kernel
theorem dX11_office_27 : decode cX11_office 27 = .ok (.ireturn, 1) := by decide +kernel
set_option maxRecDepth 20000 in
theorem ggX11_late_X11_isDay : GoodIn wsX11_late wsX11_isDay := goodIn_sub (List.forall_mem_cons.mpr ⟨mc_X11_late_r1 _ (List.mem_of_getElem? (i := 5) rfl), List.forall_mem_cons.mpr ⟨mc_X11_late_r1 _ (List.mem_of_getElem? (i := 6) rfl), List.forall_mem_cons.mpr ⟨mc_X11_late_r1 _ (List.mem_of_getElem? (i := 7) rfl), List.forall_mem_cons.mpr ⟨mc_X11_late_r1 _ (List.mem_of_getElem? (i := 4) rfl), List.forall_mem_cons.mpr ⟨mc_X11_late_r1 _ (List.mem_of_getElem? (i := 8) rfl), fun _ h => absurd h List.not_mem_nil⟩⟩⟩⟩⟩) (by decide +kernel)
set_option maxRecDepth 20000 in
theorem gX11_late_X11_isDay : GoodIn wsX11_late (va_wsS RX11 125 yX11_isDay wsX11_isDay) := goodIn_app (goodIn_sub (List.forall_mem_cons.mpr ⟨mc_X11_late_r1 _ (List.mem_of_getElem? (i := 2) rfl), List.forall_mem_cons.mpr ⟨mc_X11_late_r1 _ (List.mem_of_getElem? (i := 3) rfl), List.forall_mem_cons.mpr ⟨mc_X11_late_r1 _ (List.mem_of_getElem? (i := 4) rfl), fun _ h => absurd h List.not_mem_nil⟩⟩⟩) (by decide +kernel)) ggX11_late_X11_isDay
set_option maxRecDepth 20000 in
theorem ggX11_late_X11_isOffice : GoodIn wsX11_late wsX11_isOffice := goodIn_sub (List.forall_mem_cons.mpr ⟨mc_X11_late_r1 _ (List.mem_of_getElem? (i := 11) rfl), List.forall_mem_cons.mpr ⟨mc_X11_late_r1 _ (List.mem_of_getElem? (i := 6) rfl), List.forall_mem_cons.mpr ⟨mc_X11_late_r1 _ (List.mem_of_getElem? (i := 7) rfl), List.forall_mem_cons.mpr ⟨mc_X11_late_r1 _ (List.mem_of_getElem? (i := 4) rfl), List.forall_mem_cons.mpr ⟨mc_X11_late_r1 _ (List.mem_of_getElem? (i := 8) rfl), fun _ h => absurd h List.not_mem_nil⟩⟩⟩⟩⟩) (by decide +kernel)
set_option maxRecDepth 20000 in
theorem gX11_late_X11_isOffice : GoodIn wsX11_late (va_wsS RX11 128 yX11_isOffice wsX11_isOffice) := goodIn_app (goodIn_sub (List.forall_mem_cons.mpr ⟨mc_X11_late_r1 _ (List.mem_of_getElem? (i := 9) rfl), List.forall_mem_cons.mpr ⟨mc_X11_late_r1 _ (List.mem_of_getElem? (i := 10) rfl), List.forall_mem_cons.mpr ⟨mc_X11_late_r1 _ (List.mem_of_getElem? (i := 4) rfl), fun _ h => absurd h List.not_mem_nil⟩⟩⟩) (by decide +kernel)) ggX11_late_X11_isOffice
set_option maxRecDepth 20000 in
theorem ggX11_late_X11_within : GoodIn wsX11_late wsX11_within := goodIn_sub (List.forall_mem_cons.mpr ⟨mc_X11_late_r1 _ (List.mem_of_getElem? (i := 8) rfl), fun _ h => absurd h List.not_mem_nil⟩) (by decide +kernel)
set_option maxRecDepth 20000 in
theorem gX11_late_X11_within : GoodIn wsX11_late (va_wsS RX11 78 yX11_within wsX11_within) := goodIn_app (goodIn_sub (List.forall_mem_cons.mpr ⟨mc_X11_late_r1 _ (List.mem_of_getElem? (i := 6) rfl), List.forall_mem_cons.mpr ⟨mc_X11_late_r1 _ (List.mem_of_getElem? (i := 7) rfl), List.forall_mem_cons.mpr ⟨mc_X11_late_r1 _ (List.mem_of_getElem? (i := 4) rfl), fun _ h => absurd h List.not_mem_nil⟩⟩⟩) (by decide +kernel)) ggX11_late_X11_within
set_option maxRecDepth 20000 in
theorem mm_X11_late_X0_delay_r1 : ∀ w ∈ wsX0_delay_r1, w ∈ wsX11_late := List.forall_mem_cons.mpr ⟨mc_X11_late_r1 _ (List.mem_of_getElem? (i := 17) rfl), List.forall_mem_cons.mpr ⟨mc_X11_late_r1 _ (List.mem_of_getElem? (i := 18) rfl), List.forall_mem_cons.mpr ⟨mc_X11_late_r1 _ (List.mem_of_getElem? (i := 19) rfl), List.forall_mem_cons.mpr ⟨mc_X11_late_r1 _ (List.mem_of_getElem? (i := 20) rfl), List.forall_mem_cons.mpr ⟨mc_X11_late_r1 _ (List.mem_of_getElem? (i := 21) rfl), List.forall_mem_cons.mpr ⟨mc_X11_late_r1 _ (List.mem_of_getElem? (i := 22) rfl), List.forall_mem_cons.mpr ⟨mc_X11_late_r1 _ (List.mem_of_getElem? (i := 23) rfl), List.forall_mem_cons.mpr ⟨mc_X11_late_r2 _ (List.mem_of_getElem? (i := 0) rfl), List.forall_mem_cons.mpr ⟨mc_X11_late_r2 _ (List.mem_of_getElem? (i := 1) rfl), List.forall_mem_cons.mpr ⟨mc_X11_late_r2 _ (List.mem_of_getElem? (i := 2) rfl), List.forall_mem_cons.mpr ⟨mc_X11_late_r2 _ (List.mem_of_getElem? (i := 3) rfl), List.forall_mem_cons.mpr ⟨mc_X11_late_r2 _ (List.mem_of_getElem? (i := 4) rfl), List.forall_mem_cons.mpr ⟨mc_X11_late_r2 _ (List.mem_of_getElem? (i := 5) rfl), List.forall_mem_cons.mpr ⟨mc_X11_late_r2 _ (List.mem_of_getElem? (i := 6) rfl), List.forall_mem_cons.mpr ⟨mc_X11_late_r2 _ (List.mem_of_getElem? (i := 7) rfl), List.forall_mem_cons.mpr ⟨mc_X11_late_r2 _ (List.mem_of_getElem? (i := 8) rfl), List.forall_mem_cons.mpr ⟨mc_X11_late_r2 _ (List.mem_of_getElem? (i := 9) rfl), List.forall_mem_cons.mpr ⟨mc_X11_late_r1 _ (List.mem_of_getElem? (i := 15) rfl), List.forall_mem_cons.mpr ⟨mc_X11_late_r2 _ (List.mem_of_getElem? (i := 10) rfl), List.forall_mem_cons.mpr ⟨mc_X11_late_r2 _ (List.mem_of_getElem? (i := 11) rfl), List.forall_mem_cons.mpr ⟨mc_X11_late_r2 _ (List.mem_of_getElem? (i := 12) rfl), List.forall_mem_cons.mpr ⟨mc_X11_late_r2 _ (List.mem_of_getElem? (i := 13) rfl), List.forall_mem_cons.mpr ⟨mc_X11_late_r2 _ (List.mem_of_getElem? (i := 14) rfl), List.forall_mem_cons.mpr ⟨mc_X11_late_r2 _ (List.mem_of_getElem? (i := 15) rfl), fun _ h => absurd h List.not_mem_nil⟩⟩⟩⟩⟩⟩⟩⟩⟩⟩⟩⟩⟩⟩⟩⟩⟩⟩⟩⟩⟩⟩⟩⟩
set_option maxRecDepth 20000 in
theorem mm_X11_late_X0_delay_r2 : ∀ w ∈ wsX0_delay_r2, w ∈ wsX11_late := List.forall_mem_cons.mpr ⟨mc_X11_late_r2 _ (List.mem_of_getElem? (i := 16) rfl), List.forall_mem_cons.mpr ⟨mc_X11_late_r2 _ (List.mem_of_getElem? (i := 17) rfl), List.forall_mem_cons.mpr ⟨mc_X11_late_r2 _ (List.mem_of_getElem? (i := 18) rfl), fun _ h => absurd h List.not_mem_nil⟩⟩⟩
set_option maxRecDepth 20000 in
theorem ggX11_late_X0_delay : GoodIn wsX11_late wsX0_delay := goodIn_sub (List.forall_mem_cons.mpr ⟨mc_X11_late_r1 _ (List.mem_of_getElem? (i := 16) rfl), List.forall_mem_append.mpr ⟨List.forall_mem_append.mpr ⟨mm_X11_late_X0_delay_r1, mm_X11_late_X0_delay_r2⟩, tl_X11_late_X0⟩⟩) (by decide +kernel)
set_option maxRecDepth 20000 in
theorem gX11_late_X0_delay : GoodIn wsX11_late (wsV RX11 134 RX0 yX0_delay wsX0_delay) := goodIn_app (goodIn_sub (List.forall_mem_cons.mpr ⟨mc_X11_late_r1 _ (List.mem_of_getElem? (i := 12) rfl), List.forall_mem_cons.mpr ⟨mc_X11_late_r1 _ (List.mem_of_getElem? (i := 13) rfl), List.forall_mem_cons.mpr ⟨mc_X11_late_r1 _ (List.mem_of_getElem? (i := 14) rfl), List.forall_mem_cons.mpr ⟨mc_X11_late_r1 _ (List.mem_of_getElem? (i := 15) rfl), fun _ h => absurd h List.not_mem_nil⟩⟩⟩⟩) (by decide +kernel)) ggX11_late_X0_delay
theorem dX11_late_0 : decode cX11_late 0 = .ok (.iload_n 1, 1) := by decide +kernel
theorem dX11_late_1 : decode cX11_late 1 = .ok (.invokestatic 125, 3) := by decide +kernel
theorem dX11_late_4 : decode cX11_late 4 = .ok (.ifCond .eq 32, 3) := by decide +kernel
theorem dX11_late_7 : decode cX11_late 7 = .ok (.iload_n 1, 1) := by decide +kernel
theorem dX11_late_8 : decode cX11_late 8 = .ok (.aload_n 0, 1) := by decide +kernel
theorem dX11_late_9 : decode cX11_late 9 = .ok (.getfield 82, 3) := by decide +kernel
theorem dX11_late_12 : decode cX11_late 12 = .ok (.if_icmp .lt 24, 3) := by decide +kernel
theorem dX11_late_15 : decode cX11_late 15 = .ok (.iload_n 2, 1) := by decide +kernel
theorem dX11_late_16 : decode cX11_late 16 = .ok (.invokestatic 128, 3) := by decide +kernel
theorem dX11_late_19 : decode cX11_late 19 = .ok (.ifCond .eq 17, 3) := by decide +kernel
theorem dX11_late_22 : decode cX11_late 22 = .ok (.iload_n 3, 1) := by decide +kernel
theorem dX11_late_23 : decode cX11_late 23 = .ok (.iconst 1, 1) := by decide +kernel
theorem dX11_late_24 : decode cX11_late 24 = .ok (.bipush 120, 2) := by decide +kernel
theorem dX11_late_26 : decode cX11_late 26 = .ok (.invokestatic 78, 3) := by decide +kernel
theorem dX11_late_29 : decode cX11_late 29 = .ok (.ifCond .eq 7, 3) := by decide +kernel
theorem dX11_late_32 : decode cX11_late 32 = .ok (.iconst 1, 1) := by decide +kernel
theorem dX11_late_33 : decode cX11_late 33 = .ok (.goto 4, 3) := by decide +kernel
theorem dX11_late_36 : decode cX11_late 36 = .ok (.iconst 0, 1) := by decide +kernel
theorem dX11_late_37 : decode cX11_late 37 = .ok (.istore 4, 2) := by decide +kernel
theorem dX11_late_39 : decode cX11_late 39 = .ok (.iload 4, 2) := by decide +kernel
theorem dX11_late_41 : decode cX11_late 41 = .ok (.ifCond .eq 16, 3) := by decide +kernel
theorem dX11_late_44 : decode cX11_late 44 = .ok (.aload_n 0, 1) := by decide +kernel
theorem dX11_late_45 : decode cX11_late 45 = .ok (.getfield 10, 3) := by decide +kernel
theorem dX11_late_48 : decode cX11_late 48 = .ok (.iload_n 1, 1) := by decide +kernel
theorem dX11_late_49 : decode cX11_late 49 = .ok (.iload_n 2, 1) := by decide +kernel
theorem dX11_late_50 : decode cX11_late 50 = .ok (.iload_n 3, 1) := by decide +kernel
theorem dX11_late_51 : decode cX11_late 51 = .ok (.invokevirtual 134, 3) := by decide +kernel
theorem dX11_late_54 : decode cX11_late 54 = .ok (.goto 4, 3) := by decide +kernel
theorem dX11_late_57 : decode cX11_late 57 = .ok (.iconst (-1), 1) := by decide +kernel
theorem dX11_late_58 : decode cX11_late 58 = .ok (.ireturn, 1) := by decide +kernel
set_option maxRecDepth 20000 in
theorem ggX11_feed_X9_hasRoomForFeed : GoodIn wsX11_feed wsX9_hasRoomForFeed := goodIn_sub (List.forall_mem_cons.mpr ⟨List.mem_cons_of_mem _ (List.mem_append_left _ (List.mem_append_left _ (List.mem_of_getElem? (i := 5) rfl))), List.forall_mem_append.mpr ⟨List.forall_mem_cons.mpr ⟨List.mem_cons_of_mem _ (List.mem_append_left _ (List.mem_append_left _ (List.mem_of_getElem? (i := 6) rfl))), fun _ h => absurd h List.not_mem_nil⟩, tl_X11_feed_X9⟩⟩) (by decide +kernel)
set_option maxRecDepth 20000 in
theorem gX11_feed_X9_hasRoomForFeed : GoodIn wsX11_feed (wsV RX11 137 RX9 yX9_hasRoomForFeed wsX9_hasRoomForFeed) := goodIn_app (goodIn_sub (List.forall_mem_cons.mpr ⟨List.mem_cons_of_mem _ (List.mem_append_left _ (List.mem_append_left _ (List.mem_of_getElem? (i := 1) rfl))), List.forall_mem_cons.mpr ⟨List.mem_cons_of_mem _ (List.mem_append_left _ (List.mem_append_left _ (List.mem_of_getElem? (i := 2) rfl))), List.forall_mem_cons.mpr ⟨List.mem_cons_of_mem _ (List.mem_append_left _ (List.mem_append_left _ (List.mem_of_getElem? (i := 3) rfl))), List.forall_mem_cons.mpr ⟨List.mem_cons_of_mem _ (List.mem_append_left _ (List.mem_append_left _ (List.mem_of_getElem? (i := 4) rfl))), fun _ h => absurd h List.not_mem_nil⟩⟩⟩⟩) (by decide +kernel)) ggX11_feed_X9_hasRoomForFeed
set_option maxRecDepth 20000 in
theorem ggX11_feed_X9_put : GoodIn wsX11_feed wsX9_put := goodIn_sub (List.forall_mem_cons.mpr ⟨List.mem_cons_of_mem _ (List.mem_append_left _ (List.mem_append_left _ (List.mem_of_getElem? (i := 10) rfl))), List.forall_mem_append.mpr ⟨List.forall_mem_cons.mpr ⟨List.mem_cons_of_mem _ (List.mem_append_left _ (List.mem_append_left _ (List.mem_of_getElem? (i := 6) rfl))), List.forall_mem_cons.mpr ⟨List.mem_cons_of_mem _ (List.mem_append_left _ (List.mem_append_left _ (List.mem_of_getElem? (i := 11) rfl))), fun _ h => absurd h List.not_mem_nil⟩⟩, tl_X11_feed_X9⟩⟩) (by decide +kernel)
set_option maxRecDepth 20000 in
theorem gX11_feed_X9_put : GoodIn wsX11_feed (wsV RX11 141 RX9 yX9_put wsX9_put) := goodIn_app (goodIn_sub (List.forall_mem_cons.mpr ⟨List.mem_cons_of_mem _ (List.mem_append_left _ (List.mem_append_left _ (List.mem_of_getElem? (i := 7) rfl))), List.forall_mem_cons.mpr ⟨List.mem_cons_of_mem _ (List.mem_append_left _ (List.mem_append_left _ (List.mem_of_getElem? (i := 8) rfl))), List.forall_mem_cons.mpr ⟨List.mem_cons_of_mem _ (List.mem_append_left _ (List.mem_append_left _ (List.mem_of_getElem? (i := 9) rfl))), List.forall_mem_cons.mpr ⟨List.mem_cons_of_mem _ (List.mem_append_left _ (List.mem_append_left _ (List.mem_of_getElem? (i := 4) rfl))), fun _ h => absurd h List.not_mem_nil⟩⟩⟩⟩) (by decide +kernel)) ggX11_feed_X9_put
set_option maxRecDepth 20000 in
theorem ggX11_feed_X9_length : GoodIn wsX11_feed wsX9_length := goodIn_sub (List.forall_mem_cons.mpr ⟨List.mem_cons_of_mem _ (List.mem_append_left _ (List.mem_append_left _ (List.mem_of_getElem? (i := 15) rfl))), List.forall_mem_append.mpr ⟨List.forall_mem_cons.mpr ⟨List.mem_cons_of_mem _ (List.mem_append_left _ (List.mem_append_left _ (List.mem_of_getElem? (i := 6) rfl))), fun _ h => absurd h List.not_mem_nil⟩, tl_X11_feed_X9⟩⟩) (by decide +kernel)
set_option maxRecDepth 20000 in
theorem gX11_feed_X9_length : GoodIn wsX11_feed (wsV RX11 144 RX9 yX9_length wsX9_length) := goodIn_app (goodIn_sub (List.forall_mem_cons.mpr ⟨List.mem_cons_of_mem _ (List.mem_append_left _ (List.mem_append_left _ (List.mem_of_getElem? (i := 12) rfl))), List.forall_mem_cons.mpr ⟨List.mem_cons_of_mem _ (List.mem_append_left _ (List.mem_append_left _ (List.mem_of_getElem? (i := 13) rfl))), List.forall_mem_cons.mpr ⟨List.mem_cons_of_mem _ (List.mem_append_left _ (List.mem_append_left _ (List.mem_of_getElem? (i := 14) rfl))), List.forall_mem_cons.mpr ⟨List.mem_cons_of_mem _ (List.mem_append_left _ (List.mem_append_left _ (List.mem_of_getElem? (i := 4) rfl))), fun _ h => absurd h List.not_mem_nil⟩⟩⟩⟩) (by decide +kernel)) ggX11_feed_X9_length
theorem dX11_feed_0 : decode cX11_feed 0 = .ok (.aload_n 0, 1) := by decide +kernel
theorem dX11_feed_1 : decode cX11_feed 1 = .ok (.getfield 26, 3) := by decide +kernel
theorem dX11_feed_4 : decode cX11_feed 4 = .ok (.invokevirtual 137, 3) := by decide +kernel
theorem dX11_feed_7 : decode cX11_feed 7 = .ok (.ifCond .ne 5, 3) := by decide +kernel
theorem dX11_feed_10 : decode cX11_feed 10 = .ok (.iconst (-1), 1) := by decide +kernel
theorem dX11_feed_11 : decode cX11_feed 11 = .ok (.ireturn, 1) := by decide +kernel
theorem dX11_feed_12 : decode cX11_feed 12 = .ok (.aload_n 0, 1) := by decide +kernel
theorem dX11_feed_13 : decode cX11_feed 13 = .ok (.getfield 26, 3) := by decide +kernel
theorem dX11_feed_16 : decode cX11_feed 16 = .ok (.iload_n 1, 1) := by decide +kernel
theorem dX11_feed_17 : decode cX11_feed 17 = .ok (.invokevirtual 141, 3) := by decide +kernel
theorem dX11_feed_20 : decode cX11_feed 20 = .ok (.aload_n 0, 1) := by decide +kernel
theorem dX11_feed_21 : decode cX11_feed 21 = .ok (.getfield 26, 3) := by decide +kernel
theorem dX11_feed_24 : decode cX11_feed 24 = .ok (.iload_n 2, 1) := by decide +kernel
theorem dX11_feed_25 : decode cX11_feed 25 = .ok (.invokevirtual 141, 3) := by decide +kernel
theorem dX11_feed_28 : decode cX11_feed 28 = .ok (.aload_n 0, 1) := by decide +kernel
theorem dX11_feed_29 : decode cX11_feed 29 = .ok (.getfield 26, 3) := by decide +kernel
theorem dX11_feed_32 : decode cX11_feed 32 = .ok (.iload_n 3, 1) := by decide +kernel
theorem dX11_feed_33 : decode cX11_feed 33 = .ok (.invokevirtual 141, 3) := by decide +kernel
theorem dX11_feed_36 : decode cX11_feed 36 = .ok (.aload_n 0, 1) := by decide +kernel
theorem dX11_feed_37 : decode cX11_feed 37 = .ok (.getfield 26, 3) := by decide +kernel
theorem dX11_feed_40 : decode cX11_feed 40 = .ok (.iload 4, 2) := by decide +kernel
theorem dX11_feed_42 : decode cX11_feed 42 = .ok (.invokevirtual 141, 3) := by decide +kernel
theorem dX11_feed_45 : decode cX11_feed 45 = .ok (.aload_n 0, 1) := by decide +kernel
theorem dX11_feed_46 : decode cX11_feed 46 = .ok (.getfield 26, 3) := by decide +kernel
theorem dX11_feed_49 : decode cX11_feed 49 = .ok (.iload 5, 2) := by decide +kernel
theorem dX11_feed_51 : decode cX11_feed 51 = .ok (.invokevirtual 141, 3) := by decide +kernel
theorem dX11_feed_54 : decode cX11_feed 54 = .ok (.aload_n 0, 1) := by decide +kernel
theorem dX11_feed_55 : decode cX11_feed 55 = .ok (.getfield 26, 3) := by decide +kernel
theorem dX11_feed_58 : decode cX11_feed 58 = .ok (.invokevirtual 144, 3) := by decide +kernel
theorem dX11_feed_61 : decode cX11_feed 61 = .ok (.ireturn, 1) := by decide +kernel
set_option maxRecDepth 20000 in
theorem ggX11_rule_X9_length : GoodIn wsX11_rule wsX9_length := goodIn_sub (List.forall_mem_cons.mpr ⟨mc_X11_rule_r1 _ (List.mem_of_getElem? (i := 9) rfl), List.forall_mem_append.mpr ⟨List.forall_mem_cons.mpr ⟨mc_X11_rule_r1 _ (List.mem_of_getElem? (i := 10) rfl), fun _ h => absurd h List.not_mem_nil⟩, tl_X11_rule_X9⟩⟩) (by decide +kernel)
set_option maxRecDepth 20000 in
theorem gX11_rule_X9_length : GoodIn wsX11_rule (wsV RX11 144 RX9 yX9_length wsX9_length) := goodIn_app (goodIn_sub (List.forall_mem_cons.mpr ⟨mc_X11_rule_r1 _ (List.mem_of_getElem? (i := 5) rfl), List.forall_mem_cons.mpr ⟨mc_X11_rule_r1 _ (List.mem_of_getElem? (i := 6) rfl), List.forall_mem_cons.mpr ⟨mc_X11_rule_r1 _ (List.mem_of_getElem? (i := 7) rfl), List.forall_mem_cons.mpr ⟨mc_X11_rule_r1 _ (List.mem_of_getElem? (i := 8) rfl), fun _ h => absurd h List.not_mem_nil⟩⟩⟩⟩) (by decide +kernel)) ggX11_rule_X9_length
set_option maxRecDepth 20000 in
theorem ggX11_rule_X11_within : GoodIn wsX11_rule wsX11_within := goodIn_sub (List.forall_mem_cons.mpr ⟨mc_X11_rule_r1 _ (List.mem_of_getElem? (i := 14) rfl), fun _ h => absurd h List.not_mem_nil⟩) (by decide +kernel)
set_option maxRecDepth 20000 in
theorem gX11_rule_X11_within : GoodIn wsX11_rule (va_wsS RX11 78 yX11_within wsX11_within) := goodIn_app (goodIn_sub (List.forall_mem_cons.mpr ⟨mc_X11_rule_r1 _ (List.mem_of_getElem? (i := 11) rfl), List.forall_mem_cons.mpr ⟨mc_X11_rule_r1 _ (List.mem_of_getElem? (i := 12) rfl), List.forall_mem_cons.mpr ⟨mc_X11_rule_r1 _ (List.mem_of_getElem? (i := 13) rfl), fun _ h => absurd h List.not_mem_nil⟩⟩⟩) (by decide +kernel)) ggX11_rule_X11_within
set_option maxRecDepth 20000 in
theorem ggX11_rule_X7_isFull : GoodIn wsX11_rule wsX7_isFull := goodIn_sub (List.forall_mem_cons.mpr ⟨mc_X11_rule_r1 _ (List.mem_of_getElem? (i := 19) rfl), List.forall_mem_append.mpr ⟨List.forall_mem_cons.mpr ⟨mc_X11_rule_r1 _ (List.mem_of_getElem? (i := 20) rfl), fun _ h => absurd h List.not_mem_nil⟩, tl_X11_rule_X7⟩⟩) (by decide +kernel)
set_option maxRecDepth 20000 in
theorem gX11_rule_X7_isFull : GoodIn wsX11_rule (wsV RX11 148 RX7 yX7_isFull wsX7_isFull) := goodIn_app (goodIn_sub (List.forall_mem_cons.mpr ⟨mc_X11_rule_r1 _ (List.mem_of_getElem? (i := 15) rfl), List.forall_mem_cons.mpr ⟨mc_X11_rule_r1 _ (List.mem_of_getElem? (i := 16) rfl), List.forall_mem_cons.mpr ⟨mc_X11_rule_r1 _ (List.mem_of_getElem? (i := 17) rfl), List.forall_mem_cons.mpr ⟨mc_X11_rule_r1 _ (List.mem_of_getElem? (i := 18) rfl), fun _ h => absurd h List.not_mem_nil⟩⟩⟩⟩) (by decide +kernel)) ggX11_rule_X7_isFull
set_option maxRecDepth 20000 in
theorem mm_X11_rule_X6_read_r1 : ∀ w ∈ wsX6_read_r1, w ∈ wsX11_rule := List.forall_mem_cons.mpr ⟨mc_X11_rule_r2 _ (List.mem_of_getElem? (i := 2) rfl), List.forall_mem_cons.mpr ⟨mc_X11_rule_r2 _ (List.mem_of_getElem? (i := 3) rfl), List.forall_mem_cons.mpr ⟨mc_X11_rule_r2 _ (List.mem_of_getElem? (i := 4) rfl), List.forall_mem_cons.mpr ⟨mc_X11_rule_r2 _ (List.mem_of_getElem? (i := 5) rfl), List.forall_mem_cons.mpr ⟨mc_X11_rule_r2 _ (List.mem_of_getElem? (i := 6) rfl), List.forall_mem_cons.mpr ⟨mc_X11_rule_r2 _ (List.mem_of_getElem? (i := 7) rfl), List.forall_mem_cons.mpr ⟨mc_X11_rule_r2 _ (List.mem_of_getElem? (i := 8) rfl), List.forall_mem_cons.mpr ⟨mc_X11_rule_r2 _ (List.mem_of_getElem? (i := 9) rfl), List.forall_mem_cons.mpr ⟨mc_X11_rule_r2 _ (List.mem_of_getElem? (i := 10) rfl), List.forall_mem_cons.mpr ⟨mc_X11_rule_r2 _ (List.mem_of_getElem? (i := 11) rfl), List.forall_mem_cons.mpr ⟨mc_X11_rule_r2 _ (List.mem_of_getElem? (i := 12) rfl), List.forall_mem_cons.mpr ⟨mc_X11_rule_r2 _ (List.mem_of_getElem? (i := 13) rfl), List.forall_mem_cons.mpr ⟨mc_X11_rule_r2 _ (List.mem_of_getElem? (i := 14) rfl), List.forall_mem_cons.mpr ⟨mc_X11_rule_r2 _ (List.mem_of_getElem? (i := 15) rfl), List.forall_mem_cons.mpr ⟨mc_X11_rule_r2 _ (List.mem_of_getElem? (i := 16) rfl), List.forall_mem_cons.mpr ⟨mc_X11_rule_r2 _ (List.mem_of_getElem? (i := 17) rfl), List.forall_mem_cons.mpr ⟨mc_X11_rule_r2 _ (List.mem_of_getElem? (i := 18) rfl), List.forall_mem_cons.mpr ⟨mc_X11_rule_r2 _ (List.mem_of_getElem? (i := 19) rfl), List.forall_mem_cons.mpr ⟨mc_X11_rule_r2 _ (List.mem_of_getElem? (i := 20) rfl), List.forall_mem_cons.mpr ⟨mc_X11_rule_r2 _ (List.mem_of_getElem? (i := 21) rfl), List.forall_mem_cons.mpr ⟨mc_X11_rule_r2 _ (List.mem_of_getElem? (i := 22) rfl), List.forall_mem_cons.mpr ⟨mc_X11_rule_r2 _ (List.mem_of_getElem? (i := 23) rfl), List.forall_mem_cons.mpr ⟨mc_X11_rule_r1 _ (List.mem_of_getElem? (i := 8) rfl), List.forall_mem_cons.mpr ⟨mc_X11_rule_r3 _ (List.mem_of_getElem? (i := 0) rfl), fun _ h => absurd h List.not_mem_nil⟩⟩⟩⟩⟩⟩⟩⟩⟩⟩⟩⟩⟩⟩⟩⟩⟩⟩⟩⟩⟩⟩⟩⟩
set_option maxRecDepth 20000 in
theorem mm_X11_rule_X6_read_r2 : ∀ w ∈ wsX6_read_r2, w ∈ wsX11_rule := List.forall_mem_cons.mpr ⟨mc_X11_rule_r1 _ (List.mem_of_getElem? (i := 10) rfl), List.forall_mem_cons.mpr ⟨mc_X11_rule_r3 _ (List.mem_of_getElem? (i := 1) rfl), List.forall_mem_cons.mpr ⟨mc_X11_rule_r3 _ (List.mem_of_getElem? (i := 2) rfl), List.forall_mem_cons.mpr ⟨mc_X11_rule_r3 _ (List.mem_of_getElem? (i := 3) rfl), List.forall_mem_cons.mpr ⟨mc_X11_rule_r3 _ (List.mem_of_getElem? (i := 4) rfl), List.forall_mem_cons.mpr ⟨mc_X11_rule_r3 _ (List.mem_of_getElem? (i := 5) rfl), List.forall_mem_cons.mpr ⟨mc_X11_rule_r3 _ (List.mem_of_getElem? (i := 6) rfl), List.forall_mem_cons.mpr ⟨mc_X11_rule_r3 _ (List.mem_of_getElem? (i := 7) rfl), List.forall_mem_cons.mpr ⟨mc_X11_rule_r3 _ (List.mem_of_getElem? (i := 8) rfl), List.forall_mem_cons.mpr ⟨mc_X11_rule_r3 _ (List.mem_of_getElem? (i := 9) rfl), List.forall_mem_cons.mpr ⟨mc_X11_rule_r3 _ (List.mem_of_getElem? (i := 10) rfl), List.forall_mem_cons.mpr ⟨mc_X11_rule_r3 _ (List.mem_of_getElem? (i := 11) rfl), List.forall_mem_cons.mpr ⟨mc_X11_rule_r3 _ (List.mem_of_getElem? (i := 12) rfl), List.forall_mem_cons.mpr ⟨mc_X11_rule_r3 _ (List.mem_of_getElem? (i := 13) rfl), List.forall_mem_cons.mpr ⟨mc_X11_rule_r3 _ (List.mem_of_getElem? (i := 14) rfl), List.forall_mem_cons.mpr ⟨mc_X11_rule_r3 _ (List.mem_of_getElem? (i := 15) rfl), List.forall_mem_cons.mpr ⟨mc_X11_rule_r3 _ (List.mem_of_getElem? (i := 16) rfl), List.forall_mem_cons.mpr ⟨mc_X11_rule_r3 _ (List.mem_of_getElem? (i := 17) rfl), List.forall_mem_cons.mpr ⟨mc_X11_rule_r3 _ (List.mem_of_getElem? (i := 18) rfl), List.forall_mem_cons.mpr ⟨mc_X11_rule_r3 _ (List.mem_of_getElem? (i := 19) rfl), List.forall_mem_cons.mpr ⟨mc_X11_rule_r3 _ (List.mem_of_getElem? (i := 20) rfl), List.forall_mem_cons.mpr ⟨mc_X11_rule_r3 _ (List.mem_of_getElem? (i := 21) rfl), List.forall_mem_cons.mpr ⟨mc_X11_rule_r3 _ (List.mem_of_getElem? (i := 22) rfl), List.forall_mem_cons.mpr ⟨mc_X11_rule_r3 _ (List.mem_of_getElem? (i := 23) rfl), fun _ h => absurd h List.not_mem_nil⟩⟩⟩⟩⟩⟩⟩⟩⟩⟩⟩⟩⟩⟩⟩⟩⟩⟩⟩⟩⟩⟩⟩⟩
set_option maxRecDepth 20000 in
theorem mm_X11_rule_X6_read_r3 : ∀ w ∈ wsX6_read_r3, w ∈ wsX11_rule := List.forall_mem_cons.mpr ⟨mc_X11_rule_r4 _ (List.mem_of_getElem? (i := 0) rfl), List.forall_mem_cons.mpr ⟨mc_X11_rule_r4 _ (List.mem_of_getElem? (i := 1) rfl), List.forall_mem_cons.mpr ⟨mc_X11_rule_r4 _ (List.mem_of_getElem? (i := 2) rfl), List.forall_mem_cons.mpr ⟨mc_X11_rule_r4 _ (List.mem_of_getElem? (i := 3) rfl), List.forall_mem_cons.mpr ⟨mc_X11_rule_r4 _ (List.mem_of_getElem? (i := 4) rfl), List.forall_mem_cons.mpr ⟨mc_X11_rule_r4 _ (List.mem_of_getElem? (i := 5) rfl), List.forall_mem_cons.mpr ⟨mc_X11_rule_r4 _ (List.mem_of_getElem? (i := 6) rfl), List.forall_mem_cons.mpr ⟨mc_X11_rule_r4 _ (List.mem_of_getElem? (i := 7) rfl), List.forall_mem_cons.mpr ⟨mc_X11_rule_r4 _ (List.mem_of_getElem? (i := 8) rfl), List.forall_mem_cons.mpr ⟨mc_X11_rule_r4 _ (List.mem_of_getElem? (i := 9) rfl), List.forall_mem_cons.mpr ⟨mc_X11_rule_r4 _ (List.mem_of_getElem? (i := 10) rfl), List.forall_mem_cons.mpr ⟨mc_X11_rule_r4 _ (List.mem_of_getElem? (i := 11) rfl), List.forall_mem_cons.mpr ⟨mc_X11_rule_r4 _ (List.mem_of_getElem? (i := 12) rfl), List.forall_mem_cons.mpr ⟨mc_X11_rule_r4 _ (List.mem_of_getElem? (i := 13) rfl), List.forall_mem_cons.mpr ⟨mc_X11_rule_r4 _ (List.mem_of_getElem? (i := 14) rfl), List.forall_mem_cons.mpr ⟨mc_X11_rule_r4 _ (List.mem_of_getElem? (i := 15) rfl), List.forall_mem_cons.mpr ⟨mc_X11_rule_r4 _ (List.mem_of_getElem? (i := 16) rfl), List.forall_mem_cons.mpr ⟨mc_X11_rule_r4 _ (List.mem_of_getElem? (i := 17) rfl), List.forall_mem_cons.mpr ⟨mc_X11_rule_r4 _ (List.mem_of_getElem? (i := 18) rfl), List.forall_mem_cons.mpr ⟨mc_X11_rule_r4 _ (List.mem_of_getElem? (i := 19) rfl), List.forall_mem_cons.mpr ⟨mc_X11_rule_r4 _ (List.mem_of_getElem? (i := 20) rfl), List.forall_mem_cons.mpr ⟨mc_X11_rule_r4 _ (List.mem_of_getElem? (i := 21) rfl), List.forall_mem_cons.mpr ⟨mc_X11_rule_r4 _ (List.mem_of_getElem? (i := 22) rfl), List.forall_mem_cons.mpr ⟨mc_X11_rule_r4 _ (List.mem_of_getElem? (i := 23) rfl), fun _ h => absurd h List.not_mem_nil⟩⟩⟩⟩⟩⟩⟩⟩⟩⟩⟩⟩⟩⟩⟩⟩⟩⟩⟩⟩⟩⟩⟩⟩
set_option maxRecDepth 20000 in
theorem mm_X11_rule_X6_read_r4 : ∀ w ∈ wsX6_read_r4, w ∈ wsX11_rule := List.forall_mem_cons.mpr ⟨mc_X11_rule_r5 _ (List.mem_of_getElem? (i := 0) rfl), List.forall_mem_cons.mpr ⟨mc_X11_rule_r5 _ (List.mem_of_getElem? (i := 1) rfl), List.forall_mem_cons.mpr ⟨mc_X11_rule_r5 _ (List.mem_of_getElem? (i := 2) rfl), List.forall_mem_cons.mpr ⟨mc_X11_rule_r5 _ (List.mem_of_getElem? (i := 3) rfl), List.forall_mem_cons.mpr ⟨mc_X11_rule_r5 _ (List.mem_of_getElem? (i := 4) rfl), List.forall_mem_cons.mpr ⟨mc_X11_rule_r5 _ (List.mem_of_getElem? (i := 5) rfl), List.forall_mem_cons.mpr ⟨mc_X11_rule_r5 _ (List.mem_of_getElem? (i := 6) rfl), List.forall_mem_cons.mpr ⟨mc_X11_rule_r5 _ (List.mem_of_getElem? (i := 7) rfl), List.forall_mem_cons.mpr ⟨mc_X11_rule_r5 _ (List.mem_of_getElem? (i := 8) rfl), List.forall_mem_cons.mpr ⟨mc_X11_rule_r5 _ (List.mem_of_getElem? (i := 9) rfl), List.forall_mem_cons.mpr ⟨mc_X11_rule_r5 _ (List.mem_of_getElem? (i := 10) rfl), List.forall_mem_cons.mpr ⟨mc_X11_rule_r5 _ (List.mem_of_getElem? (i := 11) rfl), List.forall_mem_cons.mpr ⟨mc_X11_rule_r5 _ (List.mem_of_getElem? (i := 12) rfl), List.forall_mem_cons.mpr ⟨mc_X11_rule_r5 _ (List.mem_of_getElem? (i := 13) rfl), List.forall_mem_cons.mpr ⟨mc_X11_rule_r5 _ (List.mem_of_getElem? (i := 14) rfl), List.forall_mem_cons.mpr ⟨mc_X11_rule_r5 _ (List.mem_of_getElem? (i := 15) rfl), List.forall_mem_cons.mpr ⟨mc_X11_rule_r5 _ (List.mem_of_getElem? (i := 16) rfl), List.forall_mem_cons.mpr ⟨mc_X11_rule_r5 _ (List.mem_of_getElem? (i := 17) rfl), List.forall_mem_cons.mpr ⟨mc_X11_rule_r5 _ (List.mem_of_getElem? (i := 18) rfl), List.forall_mem_cons.mpr ⟨mc_X11_rule_r5 _ (List.mem_of_getElem? (i := 19) rfl), List.forall_mem_cons.mpr ⟨mc_X11_rule_r5 _ (List.mem_of_getElem? (i := 20) rfl), List.forall_mem_cons.mpr ⟨mc_X11_rule_r5 _ (List.mem_of_getElem? (i := 21) rfl), List.forall_mem_cons.mpr ⟨mc_X11_rule_r5 _ (List.mem_of_getElem? (i := 22) rfl), List.forall_mem_cons.mpr ⟨mc_X11_rule_r5 _ (List.mem_of_getElem? (i := 23) rfl), fun _ h => absurd h List.not_mem_nil⟩⟩⟩⟩⟩⟩⟩⟩⟩⟩⟩⟩⟩⟩⟩⟩⟩⟩⟩⟩⟩⟩⟩⟩
set_option maxRecDepth 20000 in
theorem mm_X11_rule_X6_read_r5 : ∀ w ∈ wsX6_read_r5, w ∈ wsX11_rule := List.forall_mem_cons.mpr ⟨mc_X11_rule_r6 _ (List.mem_of_getElem? (i := 0) rfl), List.forall_mem_cons.mpr ⟨mc_X11_rule_r6 _ (List.mem_of_getElem? (i := 1) rfl), List.forall_mem_cons.mpr ⟨mc_X11_rule_r6 _ (List.mem_of_getElem? (i := 2) rfl), List.forall_mem_cons.mpr ⟨mc_X11_rule_r6 _ (List.mem_of_getElem? (i := 3) rfl), List.forall_mem_cons.mpr ⟨mc_X11_rule_r6 _ (List.mem_of_getElem? (i := 4) rfl), List.forall_mem_cons.mpr ⟨mc_X11_rule_r6 _ (List.mem_of_getElem? (i := 5) rfl), List.forall_mem_cons.mpr ⟨mc_X11_rule_r6 _ (List.mem_of_getElem? (i := 6) rfl), List.forall_mem_cons.mpr ⟨mc_X11_rule_r6 _ (List.mem_of_getElem? (i := 7) rfl), List.forall_mem_cons.mpr ⟨mc_X11_rule_r6 _ (List.mem_of_getElem? (i := 8) rfl), List.forall_mem_cons.mpr ⟨mc_X11_rule_r6 _ (List.mem_of_getElem? (i := 9) rfl), List.forall_mem_cons.mpr ⟨mc_X11_rule_r6 _ (List.mem_of_getElem? (i := 10) rfl), List.forall_mem_cons.mpr ⟨mc_X11_rule_r6 _ (List.mem_of_getElem? (i := 11) rfl), List.forall_mem_cons.mpr ⟨mc_X11_rule_r6 _ (List.mem_of_getElem? (i := 12) rfl), List.forall_mem_cons.mpr ⟨mc_X11_rule_r6 _ (List.mem_of_getElem? (i := 13) rfl), List.forall_mem_cons.mpr ⟨mc_X11_rule_r6 _ (List.mem_of_getElem? (i := 14) rfl), List.forall_mem_cons.mpr ⟨mc_X11_rule_r6 _ (List.mem_of_getElem? (i := 15) rfl), List.forall_mem_cons.mpr ⟨mc_X11_rule_r6 _ (List.mem_of_getElem? (i := 16) rfl), List.forall_mem_cons.mpr ⟨mc_X11_rule_r6 _ (List.mem_of_getElem? (i := 17) rfl), List.forall_mem_cons.mpr ⟨mc_X11_rule_r2 _ (List.mem_of_getElem? (i := 0) rfl), List.forall_mem_cons.mpr ⟨mc_X11_rule_r6 _ (List.mem_of_getElem? (i := 18) rfl), List.forall_mem_cons.mpr ⟨mc_X11_rule_r6 _ (List.mem_of_getElem? (i := 19) rfl), List.forall_mem_cons.mpr ⟨mc_X11_rule_r6 _ (List.mem_of_getElem? (i := 20) rfl), List.forall_mem_cons.mpr ⟨mc_X11_rule_r6 _ (List.mem_of_getElem? (i := 21) rfl), List.forall_mem_cons.mpr ⟨mc_X11_rule_r6 _ (List.mem_of_getElem? (i := 22) rfl), fun _ h => absurd h List.not_mem_nil⟩⟩⟩⟩⟩⟩⟩⟩⟩⟩⟩⟩⟩⟩⟩⟩⟩⟩⟩⟩⟩⟩⟩⟩
set_option maxRecDepth 20000 in
theorem mm_X11_rule_X6_read_r6 : ∀ w ∈ wsX6_read_r6, w ∈ wsX11_rule := List.forall_mem_cons.mpr ⟨mc_X11_rule_r6 _ (List.mem_of_getElem? (i := 23) rfl), List.forall_mem_cons.mpr ⟨mc_X11_rule_r7 _ (List.mem_of_getElem? (i := 0) rfl), List.forall_mem_cons.mpr ⟨mc_X11_rule_r7 _ (List.mem_of_getElem? (i := 1) rfl), List.forall_mem_cons.mpr ⟨mc_X11_rule_r7 _ (List.mem_of_getElem? (i := 2) rfl), List.forall_mem_cons.mpr ⟨mc_X11_rule_r7 _ (List.mem_of_getElem? (i := 3) rfl), List.forall_mem_cons.mpr ⟨mc_X11_rule_r7 _ (List.mem_of_getElem? (i := 4) rfl), List.forall_mem_cons.mpr ⟨mc_X11_rule_r7 _ (List.mem_of_getElem? (i := 5) rfl), List.forall_mem_cons.mpr ⟨mc_X11_rule_r7 _ (List.mem_of_getElem? (i := 6) rfl), List.forall_mem_cons.mpr ⟨mc_X11_rule_r7 _ (List.mem_of_getElem? (i := 7) rfl), List.forall_mem_cons.mpr ⟨mc_X11_rule_r7 _ (List.mem_of_getElem? (i := 8) rfl), List.forall_mem_cons.mpr ⟨mc_X11_rule_r7 _ (List.mem_of_getElem? (i := 9) rfl), List.forall_mem_cons.mpr ⟨mc_X11_rule_r7 _ (List.mem_of_getElem? (i := 10) rfl), List.forall_mem_cons.mpr ⟨mc_X11_rule_r7 _ (List.mem_of_getElem? (i := 11) rfl), List.forall_mem_cons.mpr ⟨mc_X11_rule_r7 _ (List.mem_of_getElem? (i := 12) rfl), List.forall_mem_cons.mpr ⟨mc_X11_rule_r7 _ (List.mem_of_getElem? (i := 13) rfl), List.forall_mem_cons.mpr ⟨mc_X11_rule_r7 _ (List.mem_of_getElem? (i := 14) rfl), List.forall_mem_cons.mpr ⟨mc_X11_rule_r7 _ (List.mem_of_getElem? (i := 15) rfl), List.forall_mem_cons.mpr ⟨mc_X11_rule_r7 _ (List.mem_of_getElem? (i := 16) rfl), List.forall_mem_cons.mpr ⟨mc_X11_rule_r7 _ (List.mem_of_getElem? (i := 17) rfl), List.forall_mem_cons.mpr ⟨mc_X11_rule_r7 _ (List.mem_of_getElem? (i := 18) rfl), List.forall_mem_cons.mpr ⟨mc_X11_rule_r7 _ (List.mem_of_getElem? (i := 19) rfl), List.forall_mem_cons.mpr ⟨mc_X11_rule_r7 _ (List.mem_of_getElem? (i := 20) rfl), List.forall_mem_cons.mpr ⟨mc_X11_rule_r7 _ (List.mem_of_getElem? (i := 21) rfl), List.forall_mem_cons.mpr ⟨mc_X11_rule_r7 _ (List.mem_of_getElem? (i := 22) rfl), fun _ h => absurd h List.not_mem_nil⟩⟩⟩⟩⟩⟩⟩⟩⟩⟩⟩⟩⟩⟩⟩⟩⟩⟩⟩⟩⟩⟩⟩⟩
set_option maxRecDepth 20000 in
theorem ggX11_rule_X6_read : GoodIn wsX11_rule wsX6_read := goodIn_sub (List.forall_mem_cons.mpr ⟨mc_X11_rule_r2 _ (List.mem_of_getElem? (i := 1) rfl), List.forall_mem_append.mpr ⟨List.forall_mem_append.mpr ⟨List.forall_mem_append.mpr ⟨List.forall_mem_append.mpr ⟨mm_X11_rule_X6_read_r1, List.forall_mem_append.mpr ⟨mm_X11_rule_X6_read_r2, List.forall_mem_append.mpr ⟨mm_X11_rule_X6_read_r3, List.forall_mem_append.mpr ⟨mm_X11_rule_X6_read_r4, List.forall_mem_append.mpr ⟨mm_X11_rule_X6_read_r5, mm_X11_rule_X6_read_r6⟩⟩⟩⟩⟩, tl_X11_rule_X6⟩, tl_X11_rule_X10⟩, tl_X11_rule_X9⟩⟩) (by decide +kernel)
set_option maxRecDepth 20000 in
theorem gX11_rule_X6_read : GoodIn wsX11_rule (wsV RX11 151 RX6 yX6_read wsX6_read) := goodIn_app (goodIn_sub (List.forall_mem_cons.mpr ⟨mc_X11_rule_r1 _ (List.mem_of_getElem? (i := 21) rfl), List.forall_mem_cons.mpr ⟨mc_X11_rule_r1 _ (List.mem_of_getElem? (i := 22) rfl), List.forall_mem_cons.mpr ⟨mc_X11_rule_r1 _ (List.mem_of_getElem? (i := 23) rfl), List.forall_mem_cons.mpr ⟨mc_X11_rule_r2 _ (List.mem_of_getElem? (i := 0) rfl), fun _ h => absurd h List.not_mem_nil⟩⟩⟩⟩) (by decide +kernel)) ggX11_rule_X6_read
set_option maxRecDepth 20000 in
theorem ggX11_rule_X9_wipe : GoodIn wsX11_rule wsX9_wipe := goodIn_sub (List.forall_mem_cons.mpr ⟨mc_X11_rule_r8 _ (List.mem_of_getElem? (i := 2) rfl), List.forall_mem_append.mpr ⟨List.forall_mem_cons.mpr ⟨mc_X11_rule_r1 _ (List.mem_of_getElem? (i := 10) rfl), fun _ h => absurd h List.not_mem_nil⟩, tl_X11_rule_X9⟩⟩) (by decide +kernel)
set_option maxRecDepth 20000 in
theorem gX11_rule_X9_wipe : GoodIn wsX11_rule (wsV RX11 155 RX9 yX9_wipe wsX9_wipe) := goodIn_app (goodIn_sub (List.forall_mem_cons.mpr ⟨mc_X11_rule_r7 _ (List.mem_of_getElem? (i := 23) rfl), List.forall_mem_cons.mpr ⟨mc_X11_rule_r8 _ (List.mem_of_getElem? (i := 0) rfl), List.forall_mem_cons.mpr ⟨mc_X11_rule_r8 _ (List.mem_of_getElem? (i := 1) rfl), List.forall_mem_cons.mpr ⟨mc_X11_rule_r1 _ (List.mem_of_getElem? (i := 8) rfl), fun _ h => absurd h List.not_mem_nil⟩⟩⟩⟩) (by decide +kernel)) ggX11_rule_X9_wipe
set_option maxRecDepth 20000 in
theorem ggX11_rule_X7_take : GoodIn wsX11_rule wsX7_take := goodIn_sub (List.forall_mem_cons.mpr ⟨mc_X11_rule_r8 _ (List.mem_of_getElem? (i := 6) rfl), List.forall_mem_append.mpr ⟨List.forall_mem_append.mpr ⟨List.forall_mem_cons.mpr ⟨mc_X11_rule_r8 _ (List.mem_of_getElem? (i := 7) rfl), List.forall_mem_cons.mpr ⟨mc_X11_rule_r1 _ (List.mem_of_getElem? (i := 20) rfl), List.forall_mem_cons.mpr ⟨mc_X11_rule_r8 _ (List.mem_of_getElem? (i := 8) rfl), List.forall_mem_cons.mpr ⟨mc_X11_rule_r8 _ (List.mem_of_getElem? (i := 9) rfl), List.forall_mem_cons.mpr ⟨mc_X11_rule_r8 _ (List.mem_of_getElem? (i := 10) rfl), List.forall_mem_cons.mpr ⟨mc_X11_rule_r8 _ (List.mem_of_getElem? (i := 11) rfl), List.forall_mem_cons.mpr ⟨mc_X11_rule_r8 _ (List.mem_of_getElem? (i := 12) rfl), List.forall_mem_cons.mpr ⟨mc_X11_rule_r1 _ (List.mem_of_getElem? (i := 16) rfl), List.forall_mem_cons.mpr ⟨mc_X11_rule_r1 _ (List.mem_of_getElem? (i := 17) rfl), List.forall_mem_cons.mpr ⟨mc_X11_rule_r1 _ (List.mem_of_getElem? (i := 18) rfl), List.forall_mem_cons.mpr ⟨mc_X11_rule_r1 _ (List.mem_of_getElem? (i := 19) rfl), fun _ h => absurd h List.not_mem_nil⟩⟩⟩⟩⟩⟩⟩⟩⟩⟩⟩, tl_X11_rule_X7⟩, tl_X11_rule_X6⟩⟩) (by decide +kernel)
set_option maxRecDepth 20000 in
theorem gX11_rule_X7_take : GoodIn wsX11_rule (wsV RX11 158 RX7 yX7_take wsX7_take) := goodIn_app (goodIn_sub (List.forall_mem_cons.mpr ⟨mc_X11_rule_r8 _ (List.mem_of_getElem? (i := 3) rfl), List.forall_mem_cons.mpr ⟨mc_X11_rule_r8 _ (List.mem_of_getElem? (i := 4) rfl), List.forall_mem_cons.mpr ⟨mc_X11_rule_r8 _ (List.mem_of_getElem? (i := 5) rfl), List.forall_mem_cons.mpr ⟨mc_X11_rule_r1 _ (List.mem_of_getElem? (i := 18) rfl), fun _ h => absurd h List.not_mem_nil⟩⟩⟩⟩) (by decide +kernel)) ggX11_rule_X7_take
theorem dX11_rule_0 : decode cX11_rule 0 = .ok (.iload_n 1, 1) := by decide +kernel
theorem dX11_rule_1 : decode cX11_rule 1 = .ok (.iconst 0, 1) := by decide +kernel
theorem dX11_rule_2 : decode cX11_rule 2 = .ok (.aload_n 0, 1) := by decide +kernel
theorem dX11_rule_3 : decode cX11_rule 3 = .ok (.getfield 26, 3) := by decide +kernel
theorem dX11_rule_6 : decode cX11_rule 6 = .ok (.invokevirtual 144, 3) := by decide +kernel
theorem dX11_rule_9 : decode cX11_rule 9 = .ok (.invokestatic 78, 3) := by decide +kernel
theorem dX11_rule_12 : decode cX11_rule 12 = .ok (.ifCond .ne 6, 3) := by decide +kernel
theorem dX11_rule_15 : decode cX11_rule 15 = .ok (.bipush (-2), 2) := by decide +kernel
theorem dX11_rule_17 : decode cX11_rule 17 = .ok (.ireturn, 1) := by decide +kernel
theorem dX11_rule_18 : decode cX11_rule 18 = .ok (.aload_n 0, 1) := by decide +kernel
theorem dX11_rule_19 : decode cX11_rule 19 = .ok (.getfield 40, 3) := by decide +kernel
theorem dX11_rule_22 : decode cX11_rule 22 = .ok (.invokevirtual 148, 3) := by decide +kernel
theorem dX11_rule_25 : decode cX11_rule 25 = .ok (.ifCond .eq 6, 3) := by decide +kernel
theorem dX11_rule_28 : decode cX11_rule 28 = .ok (.bipush (-3), 2) := by decide +kernel
theorem dX11_rule_30 : decode cX11_rule 30 = .ok (.ireturn, 1) := by decide +kernel
theorem dX11_rule_31 : decode cX11_rule 31 = .ok (.aload_n 0, 1) := by decide +kernel
theorem dX11_rule_32 : decode cX11_rule 32 = .ok (.aload_n 0, 1) := by decide +kernel
theorem dX11_rule_33 : decode cX11_rule 33 = .ok (.getfield 33, 3) := by decide +kernel
theorem dX11_rule_36 : decode cX11_rule 36 = .ok (.aload_n 0, 1) := by decide +kernel
theorem dX11_rule_37 : decode cX11_rule 37 = .ok (.getfield 26, 3) := by decide +kernel
theorem dX11_rule_40 : decode cX11_rule 40 = .ok (.iload_n 1, 1) := by decide +kernel
theorem dX11_rule_41 : decode cX11_rule 41 = .ok (.invokevirtual 151, 3) := by decide +kernel
theorem dX11_rule_44 : decode cX11_rule 44 = .ok (.putfield 74, 3) := by decide +kernel
theorem dX11_rule_47 : decode cX11_rule 47 = .ok (.aload_n 0, 1) := by decide +kernel
theorem dX11_rule_48 : decode cX11_rule 48 = .ok (.getfield 26, 3) := by decide +kernel
theorem dX11_rule_51 : decode cX11_rule 51 = .ok (.invokevirtual 155, 3) := by decide +kernel
theorem dX11_rule_54 : decode cX11_rule 54 = .ok (.aload_n 0, 1) := by decide +kernel
theorem dX11_rule_55 : decode cX11_rule 55 = .ok (.getfield 74, 3) := by decide +kernel
theorem dX11_rule_58 : decode cX11_rule 58 = .ok (.iconst (-1), 1) := by decide +kernel
theorem dX11_rule_59 : decode cX11_rule 59 = .ok (.if_icmp .ne 21, 3) := by decide +kernel
theorem dX11_rule_62 : decode cX11_rule 62 = .ok (.aload_n 0, 1) := by decide +kernel
theorem dX11_rule_63 : decode cX11_rule 63 = .ok (.getfield 40, 3) := by decide +kernel
theorem dX11_rule_66 : decode cX11_rule 66 = .ok (.aload_n 0, 1) := by decide +kernel
theorem dX11_rule_67 : decode cX11_rule 67 = .ok (.getfield 33, 3) := by decide +kernel
theorem dX11_rule_70 : decode cX11_rule 70 = .ok (.aload_n 0, 1) := by decide +kernel
theorem dX11_rule_71 : decode cX11_rule 71 = .ok (.getfield 82, 3) := by decide +kernel
theorem dX11_rule_74 : decode cX11_rule 74 = .ok (.invokevirtual 158, 3) := by decide +kernel
theorem dX11_rule_77 : decode cX11_rule 77 = .ok (.goto 4, 3) := by decide +kernel
theorem dX11_rule_80 : decode cX11_rule 80 = .ok (.iconst (-1), 1) := by decide +kernel
theorem dX11_rule_81 : decode cX11_rule 81 = .ok (.ireturn, 1) := by decide +kernel
theorem dX11_fault_0 : decode cX11_fault 0 = .ok (.aload_n 0, 1) := by decide +kernel
theorem dX11_fault_1 : decode cX11_fault 1 = .ok (.getfield 74, 3) := by decide +kernel
theorem dX11_fault_4 : decode cX11_fault 4 = .ok (.ireturn, 1) := by decide +kernel
set_option maxRecDepth 20000 in
theorem ggX11_fast_X11_isDay : GoodIn wsX11_fast wsX11_isDay := goodIn_sub (List.forall_mem_cons.mpr ⟨mc_X11_fast_r1 _ (List.mem_of_getElem? (i := 5) rfl), List.forall_mem_cons.mpr ⟨mc_X11_fast_r1 _ (List.mem_of_getElem? (i := 6) rfl), List.forall_mem_cons.mpr ⟨mc_X11_fast_r1 _ (List.mem_of_getElem? (i := 7) rfl), List.forall_mem_cons.mpr ⟨mc_X11_fast_r1 _ (List.mem_of_getElem? (i := 4) rfl), List.forall_mem_cons.mpr ⟨mc_X11_fast_r1 _ (List.mem_of_getElem? (i := 8) rfl), fun _ h => absurd h List.not_mem_nil⟩⟩⟩⟩⟩) (by decide +kernel)
set_option maxRecDepth 20000 in
theorem gX11_fast_X11_isDay : GoodIn wsX11_fast (va_wsS RX11 125 yX11_isDay wsX11_isDay) := goodIn_app (goodIn_sub (List.forall_mem_cons.mpr ⟨mc_X11_fast_r1 _ (List.mem_of_getElem? (i := 2) rfl), List.forall_mem_cons.mpr ⟨mc_X11_fast_r1 _ (List.mem_of_getElem? (i := 3) rfl), List.forall_mem_cons.mpr ⟨mc_X11_fast_r1 _ (List.mem_of_getElem? (i := 4) rfl), fun _ h => absurd h List.not_mem_nil⟩⟩⟩) (by decide +kernel)) ggX11_fast_X11_isDay
set_option maxRecDepth 20000 in
theorem ggX11_fast_X3_rankHeld : GoodIn wsX11_fast wsX3_rankHeld := goodIn_sub (List.forall_mem_cons.mpr ⟨mc_X11_fast_r1 _ (List.mem_of_getElem? (i := 13) rfl), List.forall_mem_append.mpr ⟨List.forall_mem_cons.mpr ⟨mc_X11_fast_r1 _ (List.mem_of_getElem? (i := 14) rfl), List.forall_mem_cons.mpr ⟨mc_X11_fast_r1 _ (List.mem_of_getElem? (i := 15) rfl), List.forall_mem_cons.mpr ⟨mc_X11_fast_r1 _ (List.mem_of_getElem? (i := 16) rfl), List.forall_mem_cons.mpr ⟨mc_X11_fast_r1 _ (List.mem_of_getElem? (i := 17) rfl), List.forall_mem_cons.mpr ⟨mc_X11_fast_r1 _ (List.mem_of_getElem? (i := 12) rfl), List.forall_mem_cons.mpr ⟨mc_X11_fast_r1 _ (List.mem_of_getElem? (i := 18) rfl), List.forall_mem_cons.mpr ⟨mc_X11_fast_r1 _ (List.mem_of_getElem? (i := 19) rfl), List.forall_mem_cons.mpr ⟨mc_X11_fast_r1 _ (List.mem_of_getElem? (i := 20) rfl), List.forall_mem_cons.mpr ⟨mc_X11_fast_r1 _ (List.mem_of_getElem? (i := 21) rfl), List.forall_mem_cons.mpr ⟨mc_X11_fast_r1 _ (List.mem_of_getElem? (i := 4) rfl), List.forall_mem_cons.mpr ⟨mc_X11_fast_r1 _ (List.mem_of_getElem? (i := 22) rfl), List.forall_mem_cons.mpr ⟨mc_X11_fast_r1 _ (List.mem_of_getElem? (i := 6) rfl), List.forall_mem_cons.mpr ⟨mc_X11_fast_r1 _ (List.mem_of_getElem? (i := 7) rfl), List.forall_mem_cons.mpr ⟨mc_X11_fast_r1 _ (List.mem_of_getElem? (i := 8) rfl), fun _ h => absurd h List.not_mem_nil⟩⟩⟩⟩⟩⟩⟩⟩⟩⟩⟩⟩⟩⟩, tl_X11_fast_X3⟩⟩) (by decide +kernel)
set_option maxRecDepth 20000 in
theorem gX11_fast_X3_rankHeld : GoodIn wsX11_fast (wsV RX11 162 RX3 yX3_rankHeld wsX3_rankHeld) := goodIn_app (goodIn_sub (List.forall_mem_cons.mpr ⟨mc_X11_fast_r1 _ (List.mem_of_getElem? (i := 9) rfl), List.forall_mem_cons.mpr ⟨mc_X11_fast_r1 _ (List.mem_of_getElem? (i := 10) rfl), List.forall_mem_cons.mpr ⟨mc_X11_fast_r1 _ (List.mem_of_getElem? (i := 11) rfl), List.forall_mem_cons.mpr ⟨mc_X11_fast_r1 _ (List.mem_of_getElem? (i := 12) rfl), fun _ h => absurd h List.not_mem_nil⟩⟩⟩⟩) (by decide +kernel)) ggX11_fast_X3_rankHeld
set_option maxRecDepth 20000 in
theorem ggX11_fast_X7_isFast : GoodIn wsX11_fast wsX7_isFast := goodIn_sub (List.forall_mem_cons.mpr ⟨mc_X11_fast_r2 _ (List.mem_of_getElem? (i := 3) rfl), List.forall_mem_append.mpr ⟨List.forall_mem_cons.mpr ⟨mc_X11_fast_r2 _ (List.mem_of_getElem? (i := 4) rfl), List.forall_mem_cons.mpr ⟨mc_X11_fast_r2 _ (List.mem_of_getElem? (i := 5) rfl), List.forall_mem_cons.mpr ⟨mc_X11_fast_r2 _ (List.mem_of_getElem? (i := 6) rfl), List.forall_mem_cons.mpr ⟨mc_X11_fast_r2 _ (List.mem_of_getElem? (i := 7) rfl), List.forall_mem_cons.mpr ⟨mc_X11_fast_r2 _ (List.mem_of_getElem? (i := 2) rfl), List.forall_mem_cons.mpr ⟨mc_X11_fast_r2 _ (List.mem_of_getElem? (i := 8) rfl), List.forall_mem_cons.mpr ⟨mc_X11_fast_r2 _ (List.mem_of_getElem? (i := 9) rfl), List.forall_mem_cons.mpr ⟨mc_X11_fast_r2 _ (List.mem_of_getElem? (i := 10) rfl), List.forall_mem_cons.mpr ⟨mc_X11_fast_r2 _ (List.mem_of_getElem? (i := 11) rfl), List.forall_mem_cons.mpr ⟨mc_X11_fast_r2 _ (List.mem_of_getElem? (i := 12) rfl), List.forall_mem_cons.mpr ⟨mc_X11_fast_r2 _ (List.mem_of_getElem? (i := 13) rfl), List.forall_mem_cons.mpr ⟨mc_X11_fast_r2 _ (List.mem_of_getElem? (i := 14) rfl), List.forall_mem_cons.mpr ⟨mc_X11_fast_r2 _ (List.mem_of_getElem? (i := 15) rfl), List.forall_mem_cons.mpr ⟨mc_X11_fast_r2 _ (List.mem_of_getElem? (i := 16) rfl), List.forall_mem_cons.mpr ⟨mc_X11_fast_r2 _ (List.mem_of_getElem? (i := 17) rfl), fun _ h => absurd h List.not_mem_nil⟩⟩⟩⟩⟩⟩⟩⟩⟩⟩⟩⟩⟩⟩⟩, tl_X11_fast_X7⟩⟩) (by decide +kernel)
set_option maxRecDepth 20000 in
theorem gX11_fast_X7_isFast : GoodIn wsX11_fast (wsV RX11 165 RX7 yX7_isFast wsX7_isFast) := goodIn_app (goodIn_sub (List.forall_mem_cons.mpr ⟨mc_X11_fast_r1 _ (List.mem_of_getElem? (i := 23) rfl), List.forall_mem_cons.mpr ⟨mc_X11_fast_r2 _ (List.mem_of_getElem? (i := 0) rfl), List.forall_mem_cons.mpr ⟨mc_X11_fast_r2 _ (List.mem_of_getElem? (i := 1) rfl), List.forall_mem_cons.mpr ⟨mc_X11_fast_r2 _ (List.mem_of_getElem? (i := 2) rfl), fun _ h => absurd h List.not_mem_nil⟩⟩⟩⟩) (by decide +kernel)) ggX11_fast_X7_isFast
set_option maxRecDepth 20000 in
theorem ggX11_fast_X7_shareOfHead : GoodIn wsX11_fast wsX7_shareOfHead := goodIn_sub (List.forall_mem_cons.mpr ⟨mc_X11_fast_r2 _ (List.mem_of_getElem? (i := 21) rfl), List.forall_mem_append.mpr ⟨List.forall_mem_cons.mpr ⟨mc_X11_fast_r2 _ (List.mem_of_getElem? (i := 22) rfl), List.forall_mem_cons.mpr ⟨mc_X11_fast_r2 _ (List.mem_of_getElem? (i := 0) rfl), List.forall_mem_cons.mpr ⟨mc_X11_fast_r2 _ (List.mem_of_getElem? (i := 1) rfl), List.forall_mem_cons.mpr ⟨mc_X11_fast_r2 _ (List.mem_of_getElem? (i := 2) rfl), List.forall_mem_cons.mpr ⟨mc_X11_fast_r2 _ (List.mem_of_getElem? (i := 3) rfl), List.forall_mem_cons.mpr ⟨mc_X11_fast_r2 _ (List.mem_of_getElem? (i := 4) rfl), List.forall_mem_cons.mpr ⟨mc_X11_fast_r2 _ (List.mem_of_getElem? (i := 5) rfl), List.forall_mem_cons.mpr ⟨mc_X11_fast_r2 _ (List.mem_of_getElem? (i := 6) rfl), List.forall_mem_cons.mpr ⟨mc_X11_fast_r2 _ (List.mem_of_getElem? (i := 7) rfl), List.forall_mem_cons.mpr ⟨mc_X11_fast_r2 _ (List.mem_of_getElem? (i := 8) rfl), List.forall_mem_cons.mpr ⟨mc_X11_fast_r2 _ (List.mem_of_getElem? (i := 9) rfl), List.forall_mem_cons.mpr ⟨mc_X11_fast_r2 _ (List.mem_of_getElem? (i := 10) rfl), List.forall_mem_cons.mpr ⟨mc_X11_fast_r2 _ (List.mem_of_getElem? (i := 11) rfl), List.forall_mem_cons.mpr ⟨mc_X11_fast_r2 _ (List.mem_of_getElem? (i := 12) rfl), List.forall_mem_cons.mpr ⟨mc_X11_fast_r2 _ (List.mem_of_getElem? (i := 13) rfl), List.forall_mem_cons.mpr ⟨mc_X11_fast_r2 _ (List.mem_of_getElem? (i := 14) rfl), List.forall_mem_cons.mpr ⟨mc_X11_fast_r2 _ (List.mem_of_getElem? (i := 15) rfl), List.forall_mem_cons.mpr ⟨mc_X11_fast_r2 _ (List.mem_of_getElem? (i := 16) rfl), List.forall_mem_cons.mpr ⟨mc_X11_fast_r2 _ (List.mem_of_getElem? (i := 17) rfl), List.forall_mem_cons.mpr ⟨mc_X11_fast_r2 _ (List.mem_of_getElem? (i := 23) rfl), List.forall_mem_cons.mpr ⟨mc_X11_fast_r3 _ (List.mem_of_getElem? (i := 0) rfl), List.forall_mem_cons.mpr ⟨mc_X11_fast_r3 _ (List.mem_of_getElem? (i := 1) rfl), List.forall_mem_cons.mpr ⟨mc_X11_fast_r3 _ (List.mem_of_getElem? (i := 2) rfl), fun _ h => absurd h List.not_mem_nil⟩⟩⟩⟩⟩⟩⟩⟩⟩⟩⟩⟩⟩⟩⟩⟩⟩⟩⟩⟩⟩⟩⟩, tl_X11_fast_X7⟩⟩) (by decide +kernel)
set_option maxRecDepth 20000 in
theorem gX11_fast_X7_shareOfHead : GoodIn wsX11_fast (wsV RX11 168 RX7 yX7_shareOfHead wsX7_shareOfHead) := goodIn_app (goodIn_sub (List.forall_mem_cons.mpr ⟨mc_X11_fast_r2 _ (List.mem_of_getElem? (i := 18) rfl), List.forall_mem_cons.mpr ⟨mc_X11_fast_r2 _ (List.mem_of_getElem? (i := 19) rfl), List.forall_mem_cons.mpr ⟨mc_X11_fast_r2 _ (List.mem_of_getElem? (i := 20) rfl), List.forall_mem_cons.mpr ⟨mc_X11_fast_r2 _ (List.mem_of_getElem? (i := 2) rfl), fun _ h => absurd h List.not_mem_nil⟩⟩⟩⟩) (by decide +kernel)) ggX11_fast_X7_shareOfHead
set_option maxRecDepth 20000 in
theorem ggX11_fast_X7_shareOfGuest : GoodIn wsX11_fast wsX7_shareOfGuest := goodIn_sub (List.forall_mem_cons.mpr ⟨mc_X11_fast_r3 _ (List.mem_of_getElem? (i := 6) rfl), List.forall_mem_append.mpr ⟨List.forall_mem_cons.mpr ⟨mc_X11_fast_r2 _ (List.mem_of_getElem? (i := 23) rfl), List.forall_mem_cons.mpr ⟨mc_X11_fast_r3 _ (List.mem_of_getElem? (i := 0) rfl), List.forall_mem_cons.mpr ⟨mc_X11_fast_r3 _ (List.mem_of_getElem? (i := 1) rfl), List.forall_mem_cons.mpr ⟨mc_X11_fast_r2 _ (List.mem_of_getElem? (i := 2) rfl), List.forall_mem_cons.mpr ⟨mc_X11_fast_r3 _ (List.mem_of_getElem? (i := 2) rfl), List.forall_mem_cons.mpr ⟨mc_X11_fast_r2 _ (List.mem_of_getElem? (i := 4) rfl), List.forall_mem_cons.mpr ⟨mc_X11_fast_r2 _ (List.mem_of_getElem? (i := 15) rfl), List.forall_mem_cons.mpr ⟨mc_X11_fast_r2 _ (List.mem_of_getElem? (i := 16) rfl), List.forall_mem_cons.mpr ⟨mc_X11_fast_r2 _ (List.mem_of_getElem? (i := 17) rfl), List.forall_mem_cons.mpr ⟨mc_X11_fast_r2 _ (List.mem_of_getElem? (i := 5) rfl), List.forall_mem_cons.mpr ⟨mc_X11_fast_r2 _ (List.mem_of_getElem? (i := 6) rfl), List.forall_mem_cons.mpr ⟨mc_X11_fast_r2 _ (List.mem_of_getElem? (i := 7) rfl), List.forall_mem_cons.mpr ⟨mc_X11_fast_r2 _ (List.mem_of_getElem? (i := 8) rfl), List.forall_mem_cons.mpr ⟨mc_X11_fast_r2 _ (List.mem_of_getElem? (i := 9) rfl), List.forall_mem_cons.mpr ⟨mc_X11_fast_r2 _ (List.mem_of_getElem? (i := 10) rfl), fun _ h => absurd h List.not_mem_nil⟩⟩⟩⟩⟩⟩⟩⟩⟩⟩⟩⟩⟩⟩⟩, tl_X11_fast_X7⟩⟩) (by decide +kernel)
set_option maxRecDepth 20000 in
theorem gX11_fast_X7_shareOfGuest : GoodIn wsX11_fast (wsV RX11 171 RX7 yX7_shareOfGuest wsX7_shareOfGuest) := goodIn_app (goodIn_sub (List.forall_mem_cons.mpr ⟨mc_X11_fast_r3 _ (List.mem_of_getElem? (i := 3) rfl), List.forall_mem_cons.mpr ⟨mc_X11_fast_r3 _ (List.mem_of_getElem? (i := 4) rfl), List.forall_mem_cons.mpr ⟨mc_X11_fast_r3 _ (List.mem_of_getElem? (i := 5) rfl), List.forall_mem_cons.mpr ⟨mc_X11_fast_r2 _ (List.mem_of_getElem? (i := 2) rfl), fun _ h => absurd h List.not_mem_nil⟩⟩⟩⟩) (by decide +kernel)) ggX11_fast_X7_shareOfGuest
set_option maxRecDepth 20000 in
theorem ggX11_fast_X7_inForce : GoodIn wsX11_fast wsX7_inForce := goodIn_sub (List.forall_mem_cons.mpr ⟨mc_X11_fast_r2 _ (List.mem_of_getElem? (i := 8) rfl), List.forall_mem_append.mpr ⟨List.forall_mem_cons.mpr ⟨mc_X11_fast_r2 _ (List.mem_of_getElem? (i := 9) rfl), List.forall_mem_cons.mpr ⟨mc_X11_fast_r2 _ (List.mem_of_getElem? (i := 10) rfl), fun _ h => absurd h List.not_mem_nil⟩⟩, tl_X11_fast_X7⟩⟩) (by decide +kernel)
set_option maxRecDepth 20000 in
theorem gX11_fast_X7_inForce : GoodIn wsX11_fast (wsV RX11 174 RX7 yX7_inForce wsX7_inForce) := goodIn_app (goodIn_sub (List.forall_mem_cons.mpr ⟨mc_X11_fast_r3 _ (List.mem_of_getElem? (i := 7) rfl), List.forall_mem_cons.mpr ⟨mc_X11_fast_r2 _ (List.mem_of_getElem? (i := 6) rfl), List.forall_mem_cons.mpr ⟨mc_X11_fast_r2 _ (List.mem_of_getElem? (i := 7) rfl), List.forall_mem_cons.mpr ⟨mc_X11_fast_r2 _ (List.mem_of_getElem? (i := 2) rfl), fun _ h => absurd h List.not_mem_nil⟩⟩⟩⟩) (by decide +kernel)) ggX11_fast_X7_inForce
theorem dX11_fast_0 : decode cX11_fast 0 = .ok (.iload_n 1, 1) := by decide +kernel
theorem dX11_fast_1 : decode cX11_fast 1 = .ok (.invokestatic 125, 3) := by decide +kernel
theorem dX11_fast_4 : decode cX11_fast 4 = .ok (.ifCond .ne 5, 3) := by decide +kernel
theorem dX11_fast_7 : decode cX11_fast 7 = .ok (.iconst (-1), 1) := by decide +kernel
theorem dX11_fast_8 : decode cX11_fast 8 = .ok (.ireturn, 1) := by decide +kernel
theorem dX11_fast_9 : decode cX11_fast 9 = .ok (.aload_n 0, 1) := by decide +kernel
theorem dX11_fast_10 : decode cX11_fast 10 = .ok (.getfield 19, 3) := by decide +kernel
theorem dX11_fast_13 : decode cX11_fast 13 = .ok (.iload_n 1, 1) := by decide +kernel
theorem dX11_fast_14 : decode cX11_fast 14 = .ok (.sipush 365, 3) := by decide +kernel
theorem dX11_fast_17 : decode cX11_fast 17 = .ok (.irem, 1) := by decide +kernel
theorem dX11_fast_18 : decode cX11_fast 18 = .ok (.invokevirtual 162, 3) := by decide +kernel
theorem dX11_fast_21 : decode cX11_fast 21 = .ok (.istore_n 3, 1) := by decide +kernel
theorem dX11_fast_22 : decode cX11_fast 22 = .ok (.iload_n 2, 1) := by decide +kernel
theorem dX11_fast_23 : decode cX11_fast 23 = .ok (.tableswitch 75 0 3 #[29, 47, 57, 66], 29) := by decide +kernel
theorem dX11_fast_52 : decode cX11_fast 52 = .ok (.aload_n 0, 1) := by decide +kernel
theorem dX11_fast_53 : decode cX11_fast 53 = .ok (.getfield 40, 3) := by decide +kernel
theorem dX11_fast_56 : decode cX11_fast 56 = .ok (.iload_n 1, 1) := by decide +kernel
theorem dX11_fast_57 : decode cX11_fast 57 = .ok (.iload_n 3, 1) := by decide +kernel
theorem dX11_fast_58 : decode cX11_fast 58 = .ok (.invokevirtual 165, 3) := by decide +kernel
theorem dX11_fast_61 : decode cX11_fast 61 = .ok (.ifCond .eq 7, 3) := by decide +kernel
theorem dX11_fast_64 : decode cX11_fast 64 = .ok (.iconst 1, 1) := by decide +kernel
theorem dX11_fast_65 : decode cX11_fast 65 = .ok (.goto 4, 3) := by decide +kernel
theorem dX11_fast_68 : decode cX11_fast 68 = .ok (.iconst 0, 1) := by decide +kernel
theorem dX11_fast_69 : decode cX11_fast 69 = .ok (.ireturn, 1) := by decide +kernel
theorem dX11_fast_70 : decode cX11_fast 70 = .ok (.aload_n 0, 1) := by decide +kernel
theorem dX11_fast_71 : decode cX11_fast 71 = .ok (.getfield 40, 3) := by decide +kernel
theorem dX11_fast_74 : decode cX11_fast 74 = .ok (.iload_n 1, 1) := by decide +kernel
theorem dX11_fast_75 : decode cX11_fast 75 = .ok (.iload_n 3, 1) := by decide +kernel
theorem dX11_fast_76 : decode cX11_fast 76 = .ok (.invokevirtual 168, 3) := by decide +kernel
theorem dX11_fast_79 : decode cX11_fast 79 = .ok (.ireturn, 1) := by decide +kernel
theorem dX11_fast_80 : decode cX11_fast 80 = .ok (.aload_n 0, 1) := by decide +kernel
theorem dX11_fast_81 : decode cX11_fast 81 = .ok (.getfield 40, 3) := by decide +kernel
theorem dX11_fast_84 : decode cX11_fast 84 = .ok (.iload_n 1, 1) := by decide +kernel
theorem dX11_fast_85 : decode cX11_fast 85 = .ok (.invokevirtual 171, 3) := by decide +kernel
theorem dX11_fast_88 : decode cX11_fast 88 = .ok (.ireturn, 1) := by decide +kernel
theorem dX11_fast_89 : decode cX11_fast 89 = .ok (.aload_n 0, 1) := by decide +kernel
theorem dX11_fast_90 : decode cX11_fast 90 = .ok (.getfield 40, 3) := by decide +kernel
theorem dX11_fast_93 : decode cX11_fast 93 = .ok (.iload_n 1, 1) := by decide +kernel
theorem dX11_fast_94 : decode cX11_fast 94 = .ok (.invokevirtual 174, 3) := by decide +kernel
theorem dX11_fast_97 : decode cX11_fast 97 = .ok (.ireturn, 1) := by decide +kernel
theorem dX11_fast_98 : decode cX11_fast 98 = .ok (.iconst (-1), 1) := by decide +kernel
theorem dX11_fast_99 : decode cX11_fast 99 = .ok (.ireturn, 1) := by decide +kernel
set_option maxRecDepth 20000 in
theorem ggX11_gift_X11_within : GoodIn wsX11_gift wsX11_within := goodIn_sub (List.forall_mem_cons.mpr ⟨List.mem_cons_of_mem _ (List.mem_append_left _ (List.mem_append_left _ (List.mem_of_getElem? (i := 4) rfl))), fun _ h => absurd h List.not_mem_nil⟩) (by decide +kernel)
set_option maxRecDepth 20000 in
theorem gX11_gift_X11_within : GoodIn wsX11_gift (va_wsS RX11 78 yX11_within wsX11_within) := goodIn_app (goodIn_sub (List.forall_mem_cons.mpr ⟨List.mem_cons_of_mem _ (List.mem_append_left _ (List.mem_append_left _ (List.mem_of_getElem? (i := 1) rfl))), List.forall_mem_cons.mpr ⟨List.mem_cons_of_mem _ (List.mem_append_left _ (List.mem_append_left _ (List.mem_of_getElem? (i := 2) rfl))), List.forall_mem_cons.mpr ⟨List.mem_cons_of_mem _ (List.mem_append_left _ (List.mem_append_left _ (List.mem_of_getElem? (i := 3) rfl))), fun _ h => absurd h List.not_mem_nil⟩⟩⟩) (by decide +kernel)) ggX11_gift_X11_within
set_option maxRecDepth 20000 in
theorem ggX11_gift_X11_isDayOfYear : GoodIn wsX11_gift wsX11_isDayOfYear := goodIn_sub (List.forall_mem_cons.mpr ⟨List.mem_cons_of_mem _ (List.mem_append_left _ (List.mem_append_left _ (List.mem_of_getElem? (i := 7) rfl))), List.forall_mem_cons.mpr ⟨List.mem_cons_of_mem _ (List.mem_append_left _ (List.mem_append_left _ (List.mem_of_getElem? (i := 1) rfl))), List.forall_mem_cons.mpr ⟨List.mem_cons_of_mem _ (List.mem_append_left _ (List.mem_append_left _ (List.mem_of_getElem? (i := 2) rfl))), List.forall_mem_cons.mpr ⟨List.mem_cons_of_mem _ (List.mem_append_left _ (List.mem_append_left _ (List.mem_of_getElem? (i := 3) rfl))), List.forall_mem_cons.mpr ⟨List.mem_cons_of_mem _ (List.mem_append_left _ (List.mem_append_left _ (List.mem_of_getElem? (i := 4) rfl))), fun _ h => absurd h List.not_mem_nil⟩⟩⟩⟩⟩) (by decide +kernel)
set_option maxRecDepth 20000 in
theorem gX11_gift_X11_isDayOfYear : GoodIn wsX11_gift (va_wsS RX11 101 yX11_isDayOfYear wsX11_isDayOfYear) := goodIn_app (goodIn_sub (List.forall_mem_cons.mpr ⟨List.mem_cons_of_mem _ (List.mem_append_left _ (List.mem_append_left _ (List.mem_of_getElem? (i := 5) rfl))), List.forall_mem_cons.mpr ⟨List.mem_cons_of_mem _ (List.mem_append_left _ (List.mem_append_left _ (List.mem_of_getElem? (i := 6) rfl))), List.forall_mem_cons.mpr ⟨List.mem_cons_of_mem _ (List.mem_append_left _ (List.mem_append_left _ (List.mem_of_getElem? (i := 3) rfl))), fun _ h => absurd h List.not_mem_nil⟩⟩⟩) (by decide +kernel)) ggX11_gift_X11_isDayOfYear
set_option maxRecDepth 20000 in
theorem ggX11_gift_X4_enter : GoodIn wsX11_gift wsX4_enter := goodIn_sub (List.forall_mem_cons.mpr ⟨List.mem_cons_of_mem _ (List.mem_append_left _ (List.mem_append_left _ (List.mem_of_getElem? (i := 12) rfl))), List.forall_mem_append.mpr ⟨List.forall_mem_cons.mpr ⟨List.mem_cons_of_mem _ (List.mem_append_left _ (List.mem_append_left _ (List.mem_of_getElem? (i := 13) rfl))), List.forall_mem_cons.mpr ⟨List.mem_cons_of_mem _ (List.mem_append_left _ (List.mem_append_left _ (List.mem_of_getElem? (i := 14) rfl))), List.forall_mem_cons.mpr ⟨List.mem_cons_of_mem _ (List.mem_append_left _ (List.mem_append_left _ (List.mem_of_getElem? (i := 15) rfl))), List.forall_mem_cons.mpr ⟨List.mem_cons_of_mem _ (List.mem_append_left _ (List.mem_append_left _ (List.mem_of_getElem? (i := 16) rfl))), fun _ h => absurd h List.not_mem_nil⟩⟩⟩⟩, tl_X11_gift_X4⟩⟩) (by decide +kernel)
set_option maxRecDepth 20000 in
theorem gX11_gift_X4_enter : GoodIn wsX11_gift (wsV RX11 177 RX4 yX4_enter wsX4_enter) := goodIn_app (goodIn_sub (List.forall_mem_cons.mpr ⟨List.mem_cons_of_mem _ (List.mem_append_left _ (List.mem_append_left _ (List.mem_of_getElem? (i := 8) rfl))), List.forall_mem_cons.mpr ⟨List.mem_cons_of_mem _ (List.mem_append_left _ (List.mem_append_left _ (List.mem_of_getElem? (i := 9) rfl))), List.forall_mem_cons.mpr ⟨List.mem_cons_of_mem _ (List.mem_append_left _ (List.mem_append_left _ (List.mem_of_getElem? (i := 10) rfl))), List.forall_mem_cons.mpr ⟨List.mem_cons_of_mem _ (List.mem_append_left _ (List.mem_append_left _ (List.mem_of_getElem? (i := 11) rfl))), fun _ h => absurd h List.not_mem_nil⟩⟩⟩⟩) (by decide +kernel)) ggX11_gift_X4_enter
theorem dX11_gift_0 : decode cX11_gift 0 = .ok (.iload_n 1, 1) := by decide +kernel
theorem dX11_gift_1 : decode cX11_gift 1 = .ok (.ifCond .eq 13, 3) := by decide +kernel
theorem dX11_gift_4 : decode cX11_gift 4 = .ok (.iload_n 2, 1) := by decide +kernel
theorem dX11_gift_5 : decode cX11_gift 5 = .ok (.iconst 0, 1) := by decide +kernel
theorem dX11_gift_6 : decode cX11_gift 6 = .ok (.bipush 6, 2) := by decide +kernel
theorem dX11_gift_8 : decode cX11_gift 8 = .ok (.invokestatic 78, 3) := by decide +kernel
theorem dX11_gift_11 : decode cX11_gift 11 = .ok (.goto 7, 3) := by decide +kernel
theorem dX11_gift_14 : decode cX11_gift 14 = .ok (.iload_n 2, 1) := by decide +kernel
theorem dX11_gift_15 : decode cX11_gift 15 = .ok (.invokestatic 101, 3) := by decide +kernel
theorem dX11_gift_18 : decode cX11_gift 18 = .ok (.istore 4, 2) := by decide +kernel
theorem dX11_gift_20 : decode cX11_gift 20 = .ok (.iload 4, 2) := by decide +kernel
theorem dX11_gift_22 : decode cX11_gift 22 = .ok (.ifCond .eq 16, 3) := by decide +kernel
theorem dX11_gift_25 : decode cX11_gift 25 = .ok (.aload_n 0, 1) := by decide +kernel
theorem dX11_gift_26 : decode cX11_gift 26 = .ok (.getfield 61, 3) := by decide +kernel
theorem dX11_gift_29 : decode cX11_gift 29 = .ok (.iload_n 1, 1) := by decide +kernel
theorem dX11_gift_30 : decode cX11_gift 30 = .ok (.iload_n 2, 1) := by decide +kernel
theorem dX11_gift_31 : decode cX11_gift 31 = .ok (.iload_n 3, 1) := by decide +kernel
theorem dX11_gift_32 : decode cX11_gift 32 = .ok (.invokevirtual 177, 3) := by decide +kernel
theorem dX11_gift_35 : decode cX11_gift 35 = .ok (.goto 4, 3) := by decide +kernel
theorem dX11_gift_38 : decode cX11_gift 38 = .ok (.iconst (-1), 1) := by decide +kernel
theorem dX11_gift_39 : decode cX11_gift 39 = .ok (.ireturn, 1) := by decide +kernel
set_option maxRecDepth 20000 in
theorem ggX11_leave_X4_has : GoodIn wsX11_leave wsX4_has := goodIn_sub (List.forall_mem_cons.mpr ⟨mc_X11_leave_r1 _ (List.mem_of_getElem? (i := 5) rfl), List.forall_mem_append.mpr ⟨List.forall_mem_cons.mpr ⟨mc_X11_leave_r1 _ (List.mem_of_getElem? (i := 6) rfl), fun _ h => absurd h List.not_mem_nil⟩, tl_X11_leave_X4⟩⟩) (by decide +kernel)
set_option maxRecDepth 20000 in
theorem gX11_leave_X4_has : GoodIn wsX11_leave (wsV RX11 180 RX4 yX4_has wsX4_has) := goodIn_app (goodIn_sub (List.forall_mem_cons.mpr ⟨mc_X11_leave_r1 _ (List.mem_of_getElem? (i := 1) rfl), List.forall_mem_cons.mpr ⟨mc_X11_leave_r1 _ (List.mem_of_getElem? (i := 2) rfl), List.forall_mem_cons.mpr ⟨mc_X11_leave_r1 _ (List.mem_of_getElem? (i := 3) rfl), List.forall_mem_cons.mpr ⟨mc_X11_leave_r1 _ (List.mem_of_getElem? (i := 4) rfl), fun _ h => absurd h List.not_mem_nil⟩⟩⟩⟩) (by decide +kernel)) ggX11_leave_X4_has
set_option maxRecDepth 20000 in
theorem ggX11_leave_X11_isSpan : GoodIn wsX11_leave wsX11_isSpan := goodIn_sub (List.forall_mem_cons.mpr ⟨mc_X11_leave_r1 _ (List.mem_of_getElem? (i := 10) rfl), List.forall_mem_cons.mpr ⟨mc_X11_leave_r1 _ (List.mem_of_getElem? (i := 11) rfl), List.forall_mem_cons.mpr ⟨mc_X11_leave_r1 _ (List.mem_of_getElem? (i := 12) rfl), List.forall_mem_cons.mpr ⟨mc_X11_leave_r1 _ (List.mem_of_getElem? (i := 9) rfl), List.forall_mem_cons.mpr ⟨mc_X11_leave_r1 _ (List.mem_of_getElem? (i := 13) rfl), List.forall_mem_cons.mpr ⟨mc_X11_leave_r1 _ (List.mem_of_getElem? (i := 14) rfl), List.forall_mem_cons.mpr ⟨mc_X11_leave_r1 _ (List.mem_of_getElem? (i := 15) rfl), List.forall_mem_cons.mpr ⟨mc_X11_leave_r1 _ (List.mem_of_getElem? (i := 16) rfl), fun _ h => absurd h List.not_mem_nil⟩⟩⟩⟩⟩⟩⟩⟩) (by decide +kernel)
set_option maxRecDepth 20000 in
theorem gX11_leave_X11_isSpan : GoodIn wsX11_leave (va_wsS RX11 93 yX11_isSpan wsX11_isSpan) := goodIn_app (goodIn_sub (List.forall_mem_cons.mpr ⟨mc_X11_leave_r1 _ (List.mem_of_getElem? (i := 7) rfl), List.forall_mem_cons.mpr ⟨mc_X11_leave_r1 _ (List.mem_of_getElem? (i := 8) rfl), List.forall_mem_cons.mpr ⟨mc_X11_leave_r1 _ (List.mem_of_getElem? (i := 9) rfl), fun _ h => absurd h List.not_mem_nil⟩⟩⟩) (by decide +kernel)) ggX11_leave_X11_isSpan
set_option maxRecDepth 20000 in
theorem ggX11_leave_X4_spare : GoodIn wsX11_leave wsX4_spare := goodIn_sub (List.forall_mem_cons.mpr ⟨mc_X11_leave_r1 _ (List.mem_of_getElem? (i := 20) rfl), List.forall_mem_append.mpr ⟨List.forall_mem_cons.mpr ⟨mc_X11_leave_r1 _ (List.mem_of_getElem? (i := 21) rfl), List.forall_mem_cons.mpr ⟨mc_X11_leave_r1 _ (List.mem_of_getElem? (i := 22) rfl), List.forall_mem_cons.mpr ⟨mc_X11_leave_r1 _ (List.mem_of_getElem? (i := 23) rfl), List.forall_mem_cons.mpr ⟨mc_X11_leave_r2 _ (List.mem_of_getElem? (i := 0) rfl), fun _ h => absurd h List.not_mem_nil⟩⟩⟩⟩, tl_X11_leave_X4⟩⟩) (by decide +kernel)
set_option maxRecDepth 20000 in
theorem gX11_leave_X4_spare : GoodIn wsX11_leave (wsV RX11 181 RX4 yX4_spare wsX4_spare) := goodIn_app (goodIn_sub (List.forall_mem_cons.mpr ⟨mc_X11_leave_r1 _ (List.mem_of_getElem? (i := 17) rfl), List.forall_mem_cons.mpr ⟨mc_X11_leave_r1 _ (List.mem_of_getElem? (i := 18) rfl), List.forall_mem_cons.mpr ⟨mc_X11_leave_r1 _ (List.mem_of_getElem? (i := 19) rfl), List.forall_mem_cons.mpr ⟨mc_X11_leave_r1 _ (List.mem_of_getElem? (i := 4) rfl), fun _ h => absurd h List.not_mem_nil⟩⟩⟩⟩) (by decide +kernel)) ggX11_leave_X4_spare
theorem dX11_leave_0 : decode cX11_leave 0 = .ok (.aload_n 0, 1) := by decide +kernel
theorem dX11_leave_1 : decode cX11_leave 1 = .ok (.getfield 61, 3) := by decide +kernel
theorem dX11_leave_4 : decode cX11_leave 4 = .ok (.iload_n 1, 1) := by decide +kernel
theorem dX11_leave_5 : decode cX11_leave 5 = .ok (.invokevirtual 180, 3) := by decide +kernel
theorem dX11_leave_8 : decode cX11_leave 8 = .ok (.ifCond .eq 24, 3) := by decide +kernel
theorem dX11_leave_11 : decode cX11_leave 11 = .ok (.iload_n 2, 1) := by decide +kernel
theorem dX11_leave_12 : decode cX11_leave 12 = .ok (.iload_n 3, 1) := by decide +kernel
theorem dX11_leave_13 : decode cX11_leave 13 = .ok (.invokestatic 93, 3) := by decide +kernel
theorem dX11_leave_16 : decode cX11_leave 16 = .ok (.ifCond .eq 16, 3) := by decide +kernel
theorem dX11_leave_19 : decode cX11_leave 19 = .ok (.aload_n 0, 1) := by decide +kernel
theorem dX11_leave_20 : decode cX11_leave 20 = .ok (.getfield 61, 3) := by decide +kernel
theorem dX11_leave_23 : decode cX11_leave 23 = .ok (.iload_n 1, 1) := by decide +kernel
theorem dX11_leave_24 : decode cX11_leave 24 = .ok (.iload_n 2, 1) := by decide +kernel
theorem dX11_leave_25 : decode cX11_leave 25 = .ok (.iload_n 3, 1) := by decide +kernel
theorem dX11_leave_26 : decode cX11_leave 26 = .ok (.invokevirtual 181, 3) := by decide +kernel
theorem dX11_leave_29 : decode cX11_leave 29 = .ok (.goto 4, 3) := by decide +kernel
theorem dX11_leave_32 : decode cX11_leave 32 = .ok (.iconst (-1), 1) := by decide +kernel
theorem dX11_leave_33 : decode cX11_leave 33 = .ok (.ireturn, 1) := by decide +kernel
set_option maxRecDepth 20000 in
theorem ggX11_giftOf_X4_figure : GoodIn wsX11_giftOf wsX4_figure := goodIn_sub (List.forall_mem_cons.mpr ⟨List.mem_cons_of_mem _ (List.mem_append_left _ (List.mem_append_left _ (List.mem_of_getElem? (i := 5) rfl))), List.forall_mem_append.mpr ⟨List.forall_mem_cons.mpr ⟨List.mem_cons_of_mem _ (List.mem_append_left _ (List.mem_append_left _ (List.mem_of_getElem? (i := 6) rfl))), List.forall_mem_cons.mpr ⟨List.mem_cons_of_mem _ (List.mem_append_left _ (List.mem_append_left _ (List.mem_of_getElem? (i := 7) rfl))), List.forall_mem_cons.mpr ⟨List.mem_cons_of_mem _ (List.mem_append_left _ (List.mem_append_left _ (List.mem_of_getElem? (i := 8) rfl))), List.forall_mem_cons.mpr ⟨List.mem_cons_of_mem _ (List.mem_append_left _ (List.mem_append_left _ (List.mem_of_getElem? (i := 9) rfl))), List.forall_mem_cons.mpr ⟨List.mem_cons_of_mem _ (List.mem_append_left _ (List.mem_append_left _ (List.mem_of_getElem? (i := 10) rfl))), List.forall_mem_cons.mpr ⟨List.mem_cons_of_mem _ (List.mem_append_left _ (List.mem_append_left _ (List.mem_of_getElem? (i := 11) rfl))), List.forall_mem_cons.mpr ⟨List.mem_cons_of_mem _ (List.mem_append_left _ (List.mem_append_left _ (List.mem_of_getElem? (i := 4) rfl))), List.forall_mem_cons.mpr ⟨List.mem_cons_of_mem _ (List.mem_append_left _ (List.mem_append_left _ (List.mem_of_getElem? (i := 12) rfl))), List.forall_mem_cons.mpr ⟨List.mem_cons_of_mem _ (List.mem_append_left _ (List.mem_append_left _ (List.mem_of_getElem? (i := 13) rfl))), fun _ h => absurd h List.not_mem_nil⟩⟩⟩⟩⟩⟩⟩⟩⟩, tl_X11_giftOf_X4⟩⟩) (by decide +kernel)
set_option maxRecDepth 20000 in
theorem gX11_giftOf_X4_figure : GoodIn wsX11_giftOf (wsV RX11 184 RX4 yX4_figure wsX4_figure) := goodIn_app (goodIn_sub (List.forall_mem_cons.mpr ⟨List.mem_cons_of_mem _ (List.mem_append_left _ (List.mem_append_left _ (List.mem_of_getElem? (i := 1) rfl))), List.forall_mem_cons.mpr ⟨List.mem_cons_of_mem _ (List.mem_append_left _ (List.mem_append_left _ (List.mem_of_getElem? (i := 2) rfl))), List.forall_mem_cons.mpr ⟨List.mem_cons_of_mem _ (List.mem_append_left _ (List.mem_append_left _ (List.mem_of_getElem? (i := 3) rfl))), List.forall_mem_cons.mpr ⟨List.mem_cons_of_mem _ (List.mem_append_left _ (List.mem_append_left _ (List.mem_of_getElem? (i := 4) rfl))), fun _ h => absurd h List.not_mem_nil⟩⟩⟩⟩) (by decide +kernel)) ggX11_giftOf_X4_figure
theorem dX11_giftOf_0 : decode cX11_giftOf 0 = .ok (.aload_n 0, 1) := by decide +kernel
theorem dX11_giftOf_1 : decode cX11_giftOf 1 = .ok (.getfield 61, 3) := by decide +kernel
theorem dX11_giftOf_4 : decode cX11_giftOf 4 = .ok (.iload_n 1, 1) := by decide +kernel
theorem dX11_giftOf_5 : decode cX11_giftOf 5 = .ok (.iload_n 2, 1) := by decide +kernel
theorem dX11_giftOf_6 : decode cX11_giftOf 6 = .ok (.invokevirtual 184, 3) := by decide +kernel
theorem dX11_giftOf_9 : decode cX11_giftOf 9 = .ok (.ireturn, 1) := by decide +kernel
set_option maxRecDepth 20000 in
theorem ggX11_store_X11_within : GoodIn wsX11_store wsX11_within := goodIn_sub (List.forall_mem_cons.mpr ⟨List.mem_cons_of_mem _ (List.mem_append_left _ (List.mem_of_getElem? (i := 5) rfl)), fun _ h => absurd h List.not_mem_nil⟩) (by decide +kernel)
set_option maxRecDepth 20000 in
theorem gX11_store_X11_within : GoodIn wsX11_store (va_wsS RX11 78 yX11_within wsX11_within) := goodIn_app (goodIn_sub (List.forall_mem_cons.mpr ⟨List.mem_cons_of_mem _ (List.mem_append_left _ (List.mem_of_getElem? (i := 2) rfl)), List.forall_mem_cons.mpr ⟨List.mem_cons_of_mem _ (List.mem_append_left _ (List.mem_of_getElem? (i := 3) rfl)), List.forall_mem_cons.mpr ⟨List.mem_cons_of_mem _ (List.mem_append_left _ (List.mem_of_getElem? (i := 4) rfl)), fun _ h => absurd h List.not_mem_nil⟩⟩⟩) (by decide +kernel)) ggX11_store_X11_within
theorem dX11_store_0 : decode cX11_store 0 = .ok (.iload_n 1, 1) := by decide +kernel
theorem dX11_store_1 : decode cX11_store 1 = .ok (.iconst 0, 1) := by decide +kernel
theorem dX11_store_2 : decode cX11_store 2 = .ok (.sipush 10000, 3) := by decide +kernel
theorem dX11_store_5 : decode cX11_store 5 = .ok (.invokestatic 78, 3) := by decide +kernel
theorem dX11_store_8 : decode cX11_store 8 = .ok (.ifCond .eq 14, 3) := by decide +kernel
theorem dX11_store_11 : decode cX11_store 11 = .ok (.aload_n 0, 1) := by decide +kernel
theorem dX11_store_12 : decode cX11_store 12 = .ok (.getfield 187, 3) := by decide +kernel
theorem dX11_store_15 : decode cX11_store 15 = .ok (.iload_n 1, 1) := by decide +kernel
theorem dX11_store_16 : decode cX11_store 16 = .ok (.iadd, 1) := by decide +kernel
theorem dX11_store_17 : decode cX11_store 17 = .ok (.ldc 190, 2) := by decide +kernel
theorem dX11_store_19 : decode cX11_store 19 = .ok (.if_icmp .le 5, 3) := by decide +kernel
theorem dX11_store_22 : decode cX11_store 22 = .ok (.iconst (-1), 1) := by decide +kernel
theorem dX11_store_23 : decode cX11_store 23 = .ok (.ireturn, 1) := by decide +kernel
theorem dX11_store_24 : decode cX11_store 24 = .ok (.aload_n 0, 1) := by decide +kernel
theorem dX11_store_25 : decode cX11_store 25 = .ok (.dup, 1) := by decide +kernel
theorem dX11_store_26 : decode cX11_store 26 = .ok (.getfield 187, 3) := by decide +kernel
theorem dX11_store_29 : decode cX11_store 29 = .ok (.iload_n 1, 1) := by decide +kernel
theorem dX11_store_30 : decode cX11_store 30 = .ok (.iadd, 1) := by decide +kernel
theorem dX11_store_31 : decode cX11_store 31 = .ok (.putfield 187, 3) := by decide +kernel
theorem dX11_store_34 : decode cX11_store 34 = .ok (.aload_n 0, 1) := by decide +kernel
theorem dX11_store_35 : decode cX11_store 35 = .ok (.getfield 187, 3) := by decide +kernel
theorem dX11_store_38 : decode cX11_store 38 = .ok (.ireturn, 1) := by decide +kernel
set_option maxRecDepth 20000 in
theorem ggX11_guests_X11_within : GoodIn wsX11_guests wsX11_within := goodIn_sub (List.forall_mem_cons.mpr ⟨List.mem_cons_of_mem _ (List.mem_append_left _ (List.mem_of_getElem? (i := 5) rfl)), fun _ h => absurd h List.not_mem_nil⟩) (by decide +kernel)
set_option maxRecDepth 20000 in
theorem gX11_guests_X11_within : GoodIn wsX11_guests (va_wsS RX11 78 yX11_within wsX11_within) := goodIn_app (goodIn_sub (List.forall_mem_cons.mpr ⟨List.mem_cons_of_mem _ (List.mem_append_left _ (List.mem_of_getElem? (i := 2) rfl)), List.forall_mem_cons.mpr ⟨List.mem_cons_of_mem _ (List.mem_append_left _ (List.mem_of_getElem? (i := 3) rfl)), List.forall_mem_cons.mpr ⟨List.mem_cons_of_mem _ (List.mem_append_left _ (List.mem_of_getElem? (i := 4) rfl)), fun _ h => absurd h List.not_mem_nil⟩⟩⟩) (by decide +kernel)) ggX11_guests_X11_within
theorem dX11_guests_0 : decode cX11_guests 0 = .ok (.iload_n 1, 1) := by decide +kernel
theorem dX11_guests_1 : decode cX11_guests 1 = .ok (.iconst 1, 1) := by decide +kernel
theorem dX11_guests_2 : decode cX11_guests 2 = .ok (.bipush 50, 2) := by decide +kernel
theorem dX11_guests_4 : decode cX11_guests 4 = .ok (.invokestatic 78, 3) := by decide +kernel
theorem dX11_guests_7 : decode cX11_guests 7 = .ok (.ifCond .eq 16, 3) := by decide +kernel
theorem dX11_guests_10 : decode cX11_guests 10 = .ok (.iload_n 2, 1) := by decide +kernel
theorem dX11_guests_11 : decode cX11_guests 11 = .ok (.iconst 0, 1) := by decide +kernel
theorem dX11_guests_12 : decode cX11_guests 12 = .ok (.iconst 5, 1) := by decide +kernel
theorem dX11_guests_13 : decode cX11_guests 13 = .ok (.invokestatic 78, 3) := by decide +kernel
theorem dX11_guests_16 : decode cX11_guests 16 = .ok (.ifCond .eq 7, 3) := by decide +kernel
theorem dX11_guests_19 : decode cX11_guests 19 = .ok (.iconst 1, 1) := by decide +kernel
theorem dX11_guests_20 : decode cX11_guests 20 = .ok (.goto 4, 3) := by decide +kernel
theorem dX11_guests_23 : decode cX11_guests 23 = .ok (.iconst 0, 1) := by decide +kernel
theorem dX11_guests_24 : decode cX11_guests 24 = .ok (.istore_n 3, 1) := by decide +kernel
theorem dX11_guests_25 : decode cX11_guests 25 = .ok (.iload_n 3, 1) := by decide +kernel
theorem dX11_guests_26 : decode cX11_guests 26 = .ok (.ifCond .eq 15, 3) := by decide +kernel
theorem dX11_guests_29 : decode cX11_guests 29 = .ok (.aload_n 0, 1) := by decide +kernel
theorem dX11_guests_30 : decode cX11_guests 30 = .ok (.getfield 191, 3) := by decide +kernel
theorem dX11_guests_33 : decode cX11_guests 33 = .ok (.iload_n 1, 1) := by decide +kernel
theorem dX11_guests_34 : decode cX11_guests 34 = .ok (.iadd, 1) := by decide +kernel
theorem dX11_guests_35 : decode cX11_guests 35 = .ok (.sipush 200, 3) := by decide +kernel
theorem dX11_guests_38 : decode cX11_guests 38 = .ok (.if_icmp .le 5, 3) := by decide +kernel
theorem dX11_guests_41 : decode cX11_guests 41 = .ok (.iconst (-1), 1) := by decide +kernel
theorem dX11_guests_42 : decode cX11_guests 42 = .ok (.ireturn, 1) := by decide +kernel
theorem dX11_guests_43 : decode cX11_guests 43 = .ok (.aload_n 0, 1) := by decide +kernel
theorem dX11_guests_44 : decode cX11_guests 44 = .ok (.dup, 1) := by decide +kernel
theorem dX11_guests_45 : decode cX11_guests 45 = .ok (.getfield 191, 3) := by decide +kernel
theorem dX11_guests_48 : decode cX11_guests 48 = .ok (.iload_n 1, 1) := by decide +kernel
theorem dX11_guests_49 : decode cX11_guests 49 = .ok (.iadd, 1) := by decide +kernel
theorem dX11_guests_50 : decode cX11_guests 50 = .ok (.putfield 191, 3) := by decide +kernel
theorem dX11_guests_53 : decode cX11_guests 53 = .ok (.aload_n 0, 1) := by decide +kernel
theorem dX11_guests_54 : decode cX11_guests 54 = .ok (.dup, 1) := by decide +kernel
theorem dX11_guests_55 : decode cX11_guests 55 = .ok (.getfield 194, 3) := by decide +kernel
theorem dX11_guests_58 : decode cX11_guests 58 = .ok (.iload_n 1, 1) := by decide +kernel
theorem dX11_guests_59 : decode cX11_guests 59 = .ok (.iload_n 2, 1) := by decide +kernel
theorem dX11_guests_60 : decode cX11_guests 60 = .ok (.imul, 1) := by decide +kernel
theorem dX11_guests_61 : decode cX11_guests 61 = .ok (.iadd, 1) := by decide +kernel
theorem dX11_guests_62 : decode cX11_guests 62 = .ok (.putfield 194, 3) := by decide +kernel
theorem dX11_guests_65 : decode cX11_guests 65 = .ok (.aload_n 0, 1) := by decide +kernel
theorem dX11_guests_66 : decode cX11_guests 66 = .ok (.getfield 191, 3) := by decide +kernel
theorem dX11_guests_69 : decode cX11_guests 69 = .ok (.ireturn, 1) := by decide +kernel
set_option maxRecDepth 20000 in
theorem mm_X11_day_X2_share_r1 : ∀ w ∈ wsX2_share_r1, w ∈ wsX11_day := List.forall_mem_cons.mpr ⟨mc_X11_day_r1 _ (List.mem_of_getElem? (i := 19) rfl), List.forall_mem_cons.mpr ⟨mc_X11_day_r1 _ (List.mem_of_getElem? (i := 20) rfl), List.forall_mem_cons.mpr ⟨mc_X11_day_r1 _ (List.mem_of_getElem? (i := 21) rfl), List.forall_mem_cons.mpr ⟨mc_X11_day_r1 _ (List.mem_of_getElem? (i := 22) rfl), List.forall_mem_cons.mpr ⟨mc_X11_day_r1 _ (List.mem_of_getElem? (i := 23) rfl), List.forall_mem_cons.mpr ⟨mc_X11_day_r2 _ (List.mem_of_getElem? (i := 0) rfl), List.forall_mem_cons.mpr ⟨mc_X11_day_r2 _ (List.mem_of_getElem? (i := 1) rfl), List.forall_mem_cons.mpr ⟨mc_X11_day_r2 _ (List.mem_of_getElem? (i := 2) rfl), List.forall_mem_cons.mpr ⟨mc_X11_day_r2 _ (List.mem_of_getElem? (i := 3) rfl), List.forall_mem_cons.mpr ⟨mc_X11_day_r2 _ (List.mem_of_getElem? (i := 4) rfl), List.forall_mem_cons.mpr ⟨mc_X11_day_r2 _ (List.mem_of_getElem? (i := 5) rfl), List.forall_mem_cons.mpr ⟨mc_X11_day_r2 _ (List.mem_of_getElem? (i := 6) rfl), List.forall_mem_cons.mpr ⟨mc_X11_day_r2 _ (List.mem_of_getElem? (i := 7) rfl), List.forall_mem_cons.mpr ⟨mc_X11_day_r2 _ (List.mem_of_getElem? (i := 8) rfl), List.forall_mem_cons.mpr ⟨mc_X11_day_r2 _ (List.mem_of_getElem? (i := 9) rfl), List.forall_mem_cons.mpr ⟨mc_X11_day_r2 _ (List.mem_of_getElem? (i := 10) rfl), List.forall_mem_cons.mpr ⟨mc_X11_day_r2 _ (List.mem_of_getElem? (i := 11) rfl), List.forall_mem_cons.mpr ⟨mc_X11_day_r2 _ (List.mem_of_getElem? (i := 12) rfl), List.forall_mem_cons.mpr ⟨mc_X11_day_r1 _ (List.mem_of_getElem? (i := 7) rfl), List.forall_mem_cons.mpr ⟨mc_X11_day_r2 _ (List.mem_of_getElem? (i := 13) rfl), List.forall_mem_cons.mpr ⟨mc_X11_day_r2 _ (List.mem_of_getElem? (i := 14) rfl), List.forall_mem_cons.mpr ⟨mc_X11_day_r2 _ (List.mem_of_getElem? (i := 15) rfl), List.forall_mem_cons.mpr ⟨mc_X11_day_r2 _ (List.mem_of_getElem? (i := 16) rfl), List.forall_mem_cons.mpr ⟨mc_X11_day_r2 _ (List.mem_of_getElem? (i := 17) rfl), fun _ h => absurd h List.not_mem_nil⟩⟩⟩⟩⟩⟩⟩⟩⟩⟩⟩⟩⟩⟩⟩⟩⟩⟩⟩⟩⟩⟩⟩⟩
set_option maxRecDepth 20000 in
theorem mm_X11_day_X2_share_r2 : ∀ w ∈ wsX2_share_r2, w ∈ wsX11_day := List.forall_mem_cons.mpr ⟨mc_X11_day_r2 _ (List.mem_of_getElem? (i := 18) rfl), List.forall_mem_cons.mpr ⟨mc_X11_day_r2 _ (List.mem_of_getElem? (i := 19) rfl), List.forall_mem_cons.mpr ⟨mc_X11_day_r2 _ (List.mem_of_getElem? (i := 20) rfl), List.forall_mem_cons.mpr ⟨mc_X11_day_r2 _ (List.mem_of_getElem? (i := 21) rfl), List.forall_mem_cons.mpr ⟨mc_X11_day_r1 _ (List.mem_of_getElem? (i := 17) rfl), List.forall_mem_cons.mpr ⟨mc_X11_day_r2 _ (List.mem_of_getElem? (i := 22) rfl), List.forall_mem_cons.mpr ⟨mc_X11_day_r2 _ (List.mem_of_getElem? (i := 23) rfl), List.forall_mem_cons.mpr ⟨mc_X11_day_r3 _ (List.mem_of_getElem? (i := 0) rfl), List.forall_mem_cons.mpr ⟨mc_X11_day_r3 _ (List.mem_of_getElem? (i := 1) rfl), List.forall_mem_cons.mpr ⟨mc_X11_day_r3 _ (List.mem_of_getElem? (i := 2) rfl), List.forall_mem_cons.mpr ⟨mc_X11_day_r3 _ (List.mem_of_getElem? (i := 3) rfl), List.forall_mem_cons.mpr ⟨mc_X11_day_r3 _ (List.mem_of_getElem? (i := 4) rfl), List.forall_mem_cons.mpr ⟨mc_X11_day_r3 _ (List.mem_of_getElem? (i := 5) rfl), List.forall_mem_cons.mpr ⟨mc_X11_day_r3 _ (List.mem_of_getElem? (i := 6) rfl), List.forall_mem_cons.mpr ⟨mc_X11_day_r3 _ (List.mem_of_getElem? (i := 7) rfl), List.forall_mem_cons.mpr ⟨mc_X11_day_r3 _ (List.mem_of_getElem? (i := 8) rfl), List.forall_mem_cons.mpr ⟨mc_X11_day_r3 _ (List.mem_of_getElem? (i := 9) rfl), List.forall_mem_cons.mpr ⟨mc_X11_day_r3 _ (List.mem_of_getElem? (i := 10) rfl), List.forall_mem_cons.mpr ⟨mc_X11_day_r3 _ (List.mem_of_getElem? (i := 11) rfl), List.forall_mem_cons.mpr ⟨mc_X11_day_r3 _ (List.mem_of_getElem? (i := 12) rfl), List.forall_mem_cons.mpr ⟨mc_X11_day_r3 _ (List.mem_of_getElem? (i := 13) rfl), List.forall_mem_cons.mpr ⟨mc_X11_day_r3 _ (List.mem_of_getElem? (i := 14) rfl), List.forall_mem_cons.mpr ⟨mc_X11_day_r3 _ (List.mem_of_getElem? (i := 15) rfl), List.forall_mem_cons.mpr ⟨mc_X11_day_r3 _ (List.mem_of_getElem? (i := 16) rfl), fun _ h => absurd h List.not_mem_nil⟩⟩⟩⟩⟩⟩⟩⟩⟩⟩⟩⟩⟩⟩⟩⟩⟩⟩⟩⟩⟩⟩⟩⟩
set_option maxRecDepth 20000 in
theorem mm_X11_day_X2_share_r3 : ∀ w ∈ wsX2_share_r3, w ∈ wsX11_day := List.forall_mem_cons.mpr ⟨mc_X11_day_r3 _ (List.mem_of_getElem? (i := 17) rfl), List.forall_mem_cons.mpr ⟨mc_X11_day_r3 _ (List.mem_of_getElem? (i := 18) rfl), List.forall_mem_cons.mpr ⟨mc_X11_day_r3 _ (List.mem_of_getElem? (i := 19) rfl), List.forall_mem_cons.mpr ⟨mc_X11_day_r3 _ (List.mem_of_getElem? (i := 20) rfl), List.forall_mem_cons.mpr ⟨mc_X11_day_r3 _ (List.mem_of_getElem? (i := 21) rfl), List.forall_mem_cons.mpr ⟨mc_X11_day_r3 _ (List.mem_of_getElem? (i := 22) rfl), List.forall_mem_cons.mpr ⟨mc_X11_day_r3 _ (List.mem_of_getElem? (i := 23) rfl), List.forall_mem_cons.mpr ⟨mc_X11_day_r4 _ (List.mem_of_getElem? (i := 0) rfl), List.forall_mem_cons.mpr ⟨mc_X11_day_r4 _ (List.mem_of_getElem? (i := 1) rfl), List.forall_mem_cons.mpr ⟨mc_X11_day_r4 _ (List.mem_of_getElem? (i := 2) rfl), List.forall_mem_cons.mpr ⟨mc_X11_day_r4 _ (List.mem_of_getElem? (i := 3) rfl), List.forall_mem_cons.mpr ⟨mc_X11_day_r4 _ (List.mem_of_getElem? (i := 4) rfl), List.forall_mem_cons.mpr ⟨mc_X11_day_r4 _ (List.mem_of_getElem? (i := 5) rfl), List.forall_mem_cons.mpr ⟨mc_X11_day_r4 _ (List.mem_of_getElem? (i := 6) rfl), List.forall_mem_cons.mpr ⟨mc_X11_day_r4 _ (List.mem_of_getElem? (i := 7) rfl), List.forall_mem_cons.mpr ⟨mc_X11_day_r4 _ (List.mem_of_getElem? (i := 8) rfl), List.forall_mem_cons.mpr ⟨mc_X11_day_r4 _ (List.mem_of_getElem? (i := 9) rfl), List.forall_mem_cons.mpr ⟨mc_X11_day_r4 _ (List.mem_of_getElem? (i := 10) rfl), List.forall_mem_cons.mpr ⟨mc_X11_day_r4 _ (List.mem_of_getElem? (i := 11) rfl), List.forall_mem_cons.mpr ⟨mc_X11_day_r4 _ (List.mem_of_getElem? (i := 12) rfl), List.forall_mem_cons.mpr ⟨mc_X11_day_r4 _ (List.mem_of_getElem? (i := 13) rfl), List.forall_mem_cons.mpr ⟨mc_X11_day_r4 _ (List.mem_of_getElem? (i := 14) rfl), List.forall_mem_cons.mpr ⟨mc_X11_day_r4 _ (List.mem_of_getElem? (i := 15) rfl), List.forall_mem_cons.mpr ⟨mc_X11_day_r4 _ (List.mem_of_getElem? (i := 16) rfl), fun _ h => absurd h List.not_mem_nil⟩⟩⟩⟩⟩⟩⟩⟩⟩⟩⟩⟩⟩⟩⟩⟩⟩⟩⟩⟩⟩⟩⟩⟩
set_option maxRecDepth 20000 in
theorem mm_X11_day_X2_share_r4 : ∀ w ∈ wsX2_share_r4, w ∈ wsX11_day := List.forall_mem_cons.mpr ⟨mc_X11_day_r4 _ (List.mem_of_getElem? (i := 17) rfl), List.forall_mem_cons.mpr ⟨mc_X11_day_r4 _ (List.mem_of_getElem? (i := 18) rfl), List.forall_mem_cons.mpr ⟨mc_X11_day_r4 _ (List.mem_of_getElem? (i := 19) rfl), List.forall_mem_cons.mpr ⟨mc_X11_day_r4 _ (List.mem_of_getElem? (i := 20) rfl), List.forall_mem_cons.mpr ⟨mc_X11_day_r4 _ (List.mem_of_getElem? (i := 21) rfl), List.forall_mem_cons.mpr ⟨mc_X11_day_r4 _ (List.mem_of_getElem? (i := 22) rfl), fun _ h => absurd h List.not_mem_nil⟩⟩⟩⟩⟩⟩
set_option maxRecDepth 20000 in
theorem ggX11_day_X2_share : GoodIn wsX11_day wsX2_share := goodIn_sub (List.forall_mem_cons.mpr ⟨mc_X11_day_r1 _ (List.mem_of_getElem? (i := 18) rfl), List.forall_mem_append.mpr ⟨List.forall_mem_append.mpr ⟨List.forall_mem_append.mpr ⟨List.forall_mem_append.mpr ⟨mm_X11_day_X2_share_r1, List.forall_mem_append.mpr ⟨mm_X11_day_X2_share_r2, List.forall_mem_append.mpr ⟨mm_X11_day_X2_share_r3, mm_X11_day_X2_share_r4⟩⟩⟩, tl_X11_day_X2⟩, tl_X11_day_X1⟩, tl_X11_day_X5⟩⟩) (by decide +kernel)
set_option maxRecDepth 20000 in
theorem gX11_day_X2_share : GoodIn wsX11_day (wsV RX11 197 RX2 yX2_share wsX2_share) := goodIn_app (goodIn_sub (List.forall_mem_cons.mpr ⟨mc_X11_day_r1 _ (List.mem_of_getElem? (i := 14) rfl), List.forall_mem_cons.mpr ⟨mc_X11_day_r1 _ (List.mem_of_getElem? (i := 15) rfl), List.forall_mem_cons.mpr ⟨mc_X11_day_r1 _ (List.mem_of_getElem? (i := 16) rfl), List.forall_mem_cons.mpr ⟨mc_X11_day_r1 _ (List.mem_of_getElem? (i := 17) rfl), fun _ h => absurd h List.not_mem_nil⟩⟩⟩⟩) (by decide +kernel)) ggX11_day_X2_share
set_option maxRecDepth 20000 in
theorem ggX11_day_X4_fallDue : GoodIn wsX11_day wsX4_fallDue := goodIn_sub (List.forall_mem_cons.mpr ⟨mc_X11_day_r5 _ (List.mem_of_getElem? (i := 3) rfl), List.forall_mem_append.mpr ⟨List.forall_mem_cons.mpr ⟨mc_X11_day_r5 _ (List.mem_of_getElem? (i := 4) rfl), List.forall_mem_cons.mpr ⟨mc_X11_day_r5 _ (List.mem_of_getElem? (i := 5) rfl), List.forall_mem_cons.mpr ⟨mc_X11_day_r5 _ (List.mem_of_getElem? (i := 6) rfl), List.forall_mem_cons.mpr ⟨mc_X11_day_r5 _ (List.mem_of_getElem? (i := 7) rfl), List.forall_mem_cons.mpr ⟨mc_X11_day_r5 _ (List.mem_of_getElem? (i := 8) rfl), List.forall_mem_cons.mpr ⟨mc_X11_day_r5 _ (List.mem_of_getElem? (i := 9) rfl), List.forall_mem_cons.mpr ⟨mc_X11_day_r5 _ (List.mem_of_getElem? (i := 10) rfl), List.forall_mem_cons.mpr ⟨mc_X11_day_r5 _ (List.mem_of_getElem? (i := 2) rfl), List.forall_mem_cons.mpr ⟨mc_X11_day_r5 _ (List.mem_of_getElem? (i := 11) rfl), List.forall_mem_cons.mpr ⟨mc_X11_day_r5 _ (List.mem_of_getElem? (i := 12) rfl), List.forall_mem_cons.mpr ⟨mc_X11_day_r5 _ (List.mem_of_getElem? (i := 13) rfl), List.forall_mem_cons.mpr ⟨mc_X11_day_r5 _ (List.mem_of_getElem? (i := 14) rfl), List.forall_mem_cons.mpr ⟨mc_X11_day_r5 _ (List.mem_of_getElem? (i := 15) rfl), List.forall_mem_cons.mpr ⟨mc_X11_day_r5 _ (List.mem_of_getElem? (i := 16) rfl), List.forall_mem_cons.mpr ⟨mc_X11_day_r5 _ (List.mem_of_getElem? (i := 17) rfl), List.forall_mem_cons.mpr ⟨mc_X11_day_r5 _ (List.mem_of_getElem? (i := 18) rfl), List.forall_mem_cons.mpr ⟨mc_X11_day_r5 _ (List.mem_of_getElem? (i := 19) rfl), List.forall_mem_cons.mpr ⟨mc_X11_day_r5 _ (List.mem_of_getElem? (i := 20) rfl), List.forall_mem_cons.mpr ⟨mc_X11_day_r5 _ (List.mem_of_getElem? (i := 21) rfl), List.forall_mem_cons.mpr ⟨mc_X11_day_r4 _ (List.mem_of_getElem? (i := 16) rfl), List.forall_mem_cons.mpr ⟨mc_X11_day_r4 _ (List.mem_of_getElem? (i := 17) rfl), List.forall_mem_cons.mpr ⟨mc_X11_day_r4 _ (List.mem_of_getElem? (i := 18) rfl), fun _ h => absurd h List.not_mem_nil⟩⟩⟩⟩⟩⟩⟩⟩⟩⟩⟩⟩⟩⟩⟩⟩⟩⟩⟩⟩⟩⟩, tl_X11_day_X4⟩⟩) (by decide +kernel)
set_option maxRecDepth 20000 in
theorem gX11_day_X4_fallDue : GoodIn wsX11_day (wsV RX11 201 RX4 yX4_fallDue wsX4_fallDue) := goodIn_app (goodIn_sub (List.forall_mem_cons.mpr ⟨mc_X11_day_r4 _ (List.mem_of_getElem? (i := 23) rfl), List.forall_mem_cons.mpr ⟨mc_X11_day_r5 _ (List.mem_of_getElem? (i := 0) rfl), List.forall_mem_cons.mpr ⟨mc_X11_day_r5 _ (List.mem_of_getElem? (i := 1) rfl), List.forall_mem_cons.mpr ⟨mc_X11_day_r5 _ (List.mem_of_getElem? (i := 2) rfl), fun _ h => absurd h List.not_mem_nil⟩⟩⟩⟩) (by decide +kernel)) ggX11_day_X4_fallDue
set_option maxRecDepth 20000 in
theorem ggX11_day_X5_ablePriests : GoodIn wsX11_day wsX5_ablePriests := goodIn_sub (List.forall_mem_cons.mpr ⟨mc_X11_day_r6 _ (List.mem_of_getElem? (i := 1) rfl), List.forall_mem_append.mpr ⟨List.forall_mem_cons.mpr ⟨mc_X11_day_r3 _ (List.mem_of_getElem? (i := 4) rfl), List.forall_mem_cons.mpr ⟨mc_X11_day_r6 _ (List.mem_of_getElem? (i := 2) rfl), List.forall_mem_cons.mpr ⟨mc_X11_day_r6 _ (List.mem_of_getElem? (i := 3) rfl), List.forall_mem_cons.mpr ⟨mc_X11_day_r4 _ (List.mem_of_getElem? (i := 8) rfl), List.forall_mem_cons.mpr ⟨mc_X11_day_r4 _ (List.mem_of_getElem? (i := 9) rfl), List.forall_mem_cons.mpr ⟨mc_X11_day_r3 _ (List.mem_of_getElem? (i := 2) rfl), List.forall_mem_cons.mpr ⟨mc_X11_day_r4 _ (List.mem_of_getElem? (i := 10) rfl), List.forall_mem_cons.mpr ⟨mc_X11_day_r4 _ (List.mem_of_getElem? (i := 11) rfl), List.forall_mem_cons.mpr ⟨mc_X11_day_r4 _ (List.mem_of_getElem? (i := 12) rfl), List.forall_mem_cons.mpr ⟨mc_X11_day_r4 _ (List.mem_of_getElem? (i := 13) rfl), List.forall_mem_cons.mpr ⟨mc_X11_day_r4 _ (List.mem_of_getElem? (i := 14) rfl), List.forall_mem_cons.mpr ⟨mc_X11_day_r4 _ (List.mem_of_getElem? (i := 15) rfl), List.forall_mem_cons.mpr ⟨mc_X11_day_r3 _ (List.mem_of_getElem? (i := 15) rfl), List.forall_mem_cons.mpr ⟨mc_X11_day_r3 _ (List.mem_of_getElem? (i := 16) rfl), List.forall_mem_cons.mpr ⟨mc_X11_day_r3 _ (List.mem_of_getElem? (i := 17) rfl), List.forall_mem_cons.mpr ⟨mc_X11_day_r3 _ (List.mem_of_getElem? (i := 18) rfl), List.forall_mem_cons.mpr ⟨mc_X11_day_r4 _ (List.mem_of_getElem? (i := 16) rfl), List.forall_mem_cons.mpr ⟨mc_X11_day_r4 _ (List.mem_of_getElem? (i := 17) rfl), List.forall_mem_cons.mpr ⟨mc_X11_day_r4 _ (List.mem_of_getElem? (i := 18) rfl), fun _ h => absurd h List.not_mem_nil⟩⟩⟩⟩⟩⟩⟩⟩⟩⟩⟩⟩⟩⟩⟩⟩⟩⟩⟩, tl_X11_day_X5⟩⟩) (by decide +kernel)
set_option maxRecDepth 20000 in
theorem gX11_day_X5_ablePriests : GoodIn wsX11_day (wsV RX11 204 RX5 yX5_ablePriests wsX5_ablePriests) := goodIn_app (goodIn_sub (List.forall_mem_cons.mpr ⟨mc_X11_day_r5 _ (List.mem_of_getElem? (i := 22) rfl), List.forall_mem_cons.mpr ⟨mc_X11_day_r5 _ (List.mem_of_getElem? (i := 23) rfl), List.forall_mem_cons.mpr ⟨mc_X11_day_r6 _ (List.mem_of_getElem? (i := 0) rfl), List.forall_mem_cons.mpr ⟨mc_X11_day_r3 _ (List.mem_of_getElem? (i := 2) rfl), fun _ h => absurd h List.not_mem_nil⟩⟩⟩⟩) (by decide +kernel)) ggX11_day_X5_ablePriests
set_option maxRecDepth 20000 in
theorem ggX11_day_X4_say : GoodIn wsX11_day wsX4_say := goodIn_sub (List.forall_mem_cons.mpr ⟨mc_X11_day_r6 _ (List.mem_of_getElem? (i := 7) rfl), List.forall_mem_append.mpr ⟨List.forall_mem_cons.mpr ⟨mc_X11_day_r5 _ (List.mem_of_getElem? (i := 7) rfl), List.forall_mem_cons.mpr ⟨mc_X11_day_r6 _ (List.mem_of_getElem? (i := 8) rfl), List.forall_mem_cons.mpr ⟨mc_X11_day_r6 _ (List.mem_of_getElem? (i := 9) rfl), List.forall_mem_cons.mpr ⟨mc_X11_day_r6 _ (List.mem_of_getElem? (i := 10) rfl), List.forall_mem_cons.mpr ⟨mc_X11_day_r6 _ (List.mem_of_getElem? (i := 11) rfl), List.forall_mem_cons.mpr ⟨mc_X11_day_r5 _ (List.mem_of_getElem? (i := 2) rfl), List.forall_mem_cons.mpr ⟨mc_X11_day_r6 _ (List.mem_of_getElem? (i := 12) rfl), List.forall_mem_cons.mpr ⟨mc_X11_day_r5 _ (List.mem_of_getElem? (i := 4) rfl), fun _ h => absurd h List.not_mem_nil⟩⟩⟩⟩⟩⟩⟩⟩, tl_X11_day_X4⟩⟩) (by decide +kernel)
set_option maxRecDepth 20000 in
theorem gX11_day_X4_say : GoodIn wsX11_day (wsV RX11 207 RX4 yX4_say wsX4_say) := goodIn_app (goodIn_sub (List.forall_mem_cons.mpr ⟨mc_X11_day_r6 _ (List.mem_of_getElem? (i := 4) rfl), List.forall_mem_cons.mpr ⟨mc_X11_day_r6 _ (List.mem_of_getElem? (i := 5) rfl), List.forall_mem_cons.mpr ⟨mc_X11_day_r6 _ (List.mem_of_getElem? (i := 6) rfl), List.forall_mem_cons.mpr ⟨mc_X11_day_r5 _ (List.mem_of_getElem? (i := 2) rfl), fun _ h => absurd h List.not_mem_nil⟩⟩⟩⟩) (by decide +kernel)) ggX11_day_X4_say
set_option maxRecDepth 20000 in
theorem mm_X11_day_X11_foodNeeded_r1 : ∀ w ∈ wsX11_foodNeeded_r1, w ∈ wsX11_day := List.forall_mem_cons.mpr ⟨mc_X11_day_r6 _ (List.mem_of_getElem? (i := 17) rfl), List.forall_mem_cons.mpr ⟨mc_X11_day_r1 _ (List.mem_of_getElem? (i := 0) rfl), List.forall_mem_cons.mpr ⟨mc_X11_day_r6 _ (List.mem_of_getElem? (i := 18) rfl), List.forall_mem_cons.mpr ⟨mc_X11_day_r1 _ (List.mem_of_getElem? (i := 2) rfl), List.forall_mem_cons.mpr ⟨mc_X11_day_r1 _ (List.mem_of_getElem? (i := 12) rfl), List.forall_mem_cons.mpr ⟨mc_X11_day_r1 _ (List.mem_of_getElem? (i := 13) rfl), List.forall_mem_cons.mpr ⟨mc_X11_day_r6 _ (List.mem_of_getElem? (i := 19) rfl), List.forall_mem_cons.mpr ⟨mc_X11_day_r6 _ (List.mem_of_getElem? (i := 20) rfl), List.forall_mem_cons.mpr ⟨mc_X11_day_r6 _ (List.mem_of_getElem? (i := 21) rfl), List.forall_mem_cons.mpr ⟨mc_X11_day_r6 _ (List.mem_of_getElem? (i := 22) rfl), List.forall_mem_cons.mpr ⟨mc_X11_day_r6 _ (List.mem_of_getElem? (i := 23) rfl), List.forall_mem_cons.mpr ⟨mc_X11_day_r7 _ (List.mem_of_getElem? (i := 0) rfl), List.forall_mem_cons.mpr ⟨mc_X11_day_r7 _ (List.mem_of_getElem? (i := 1) rfl), List.forall_mem_cons.mpr ⟨mc_X11_day_r7 _ (List.mem_of_getElem? (i := 2) rfl), List.forall_mem_cons.mpr ⟨mc_X11_day_r7 _ (List.mem_of_getElem? (i := 3) rfl), List.forall_mem_cons.mpr ⟨mc_X11_day_r7 _ (List.mem_of_getElem? (i := 4) rfl), List.forall_mem_cons.mpr ⟨mc_X11_day_r7 _ (List.mem_of_getElem? (i := 5) rfl), List.forall_mem_cons.mpr ⟨mc_X11_day_r7 _ (List.mem_of_getElem? (i := 6) rfl), List.forall_mem_cons.mpr ⟨mc_X11_day_r7 _ (List.mem_of_getElem? (i := 7) rfl), List.forall_mem_cons.mpr ⟨mc_X11_day_r4 _ (List.mem_of_getElem? (i := 17) rfl), List.forall_mem_cons.mpr ⟨mc_X11_day_r7 _ (List.mem_of_getElem? (i := 8) rfl), List.forall_mem_cons.mpr ⟨mc_X11_day_r7 _ (List.mem_of_getElem? (i := 9) rfl), List.forall_mem_cons.mpr ⟨mc_X11_day_r4 _ (List.mem_of_getElem? (i := 16) rfl), List.forall_mem_cons.mpr ⟨mc_X11_day_r4 _ (List.mem_of_getElem? (i := 18) rfl), fun _ h => absurd h List.not_mem_nil⟩⟩⟩⟩⟩⟩⟩⟩⟩⟩⟩⟩⟩⟩⟩⟩⟩⟩⟩⟩⟩⟩⟩⟩
set_option maxRecDepth 20000 in
theorem mm_X11_day_X11_foodNeeded_r2 : ∀ w ∈ wsX11_foodNeeded_r2, w ∈ wsX11_day := List.forall_mem_cons.mpr ⟨mc_X11_day_r7 _ (List.mem_of_getElem? (i := 10) rfl), List.forall_mem_cons.mpr ⟨mc_X11_day_r7 _ (List.mem_of_getElem? (i := 11) rfl), List.forall_mem_cons.mpr ⟨mc_X11_day_r7 _ (List.mem_of_getElem? (i := 12) rfl), List.forall_mem_cons.mpr ⟨mc_X11_day_r7 _ (List.mem_of_getElem? (i := 13) rfl), List.forall_mem_cons.mpr ⟨mc_X11_day_r7 _ (List.mem_of_getElem? (i := 14) rfl), List.forall_mem_cons.mpr ⟨mc_X11_day_r7 _ (List.mem_of_getElem? (i := 15) rfl), List.forall_mem_cons.mpr ⟨mc_X11_day_r7 _ (List.mem_of_getElem? (i := 16) rfl), List.forall_mem_cons.mpr ⟨mc_X11_day_r7 _ (List.mem_of_getElem? (i := 17) rfl), List.forall_mem_cons.mpr ⟨mc_X11_day_r7 _ (List.mem_of_getElem? (i := 18) rfl), List.forall_mem_cons.mpr ⟨mc_X11_day_r7 _ (List.mem_of_getElem? (i := 19) rfl), List.forall_mem_cons.mpr ⟨mc_X11_day_r7 _ (List.mem_of_getElem? (i := 20) rfl), List.forall_mem_cons.mpr ⟨mc_X11_day_r7 _ (List.mem_of_getElem? (i := 21) rfl), List.forall_mem_cons.mpr ⟨mc_X11_day_r7 _ (List.mem_of_getElem? (i := 22) rfl), List.forall_mem_cons.mpr ⟨mc_X11_day_r7 _ (List.mem_of_getElem? (i := 23) rfl), List.forall_mem_cons.mpr ⟨mc_X11_day_r8 _ (List.mem_of_getElem? (i := 0) rfl), List.forall_mem_cons.mpr ⟨mc_X11_day_r8 _ (List.mem_of_getElem? (i := 1) rfl), List.forall_mem_cons.mpr ⟨mc_X11_day_r8 _ (List.mem_of_getElem? (i := 2) rfl), List.forall_mem_cons.mpr ⟨mc_X11_day_r8 _ (List.mem_of_getElem? (i := 3) rfl), List.forall_mem_cons.mpr ⟨mc_X11_day_r8 _ (List.mem_of_getElem? (i := 4) rfl), List.forall_mem_cons.mpr ⟨mc_X11_day_r8 _ (List.mem_of_getElem? (i := 5) rfl), List.forall_mem_cons.mpr ⟨mc_X11_day_r8 _ (List.mem_of_getElem? (i := 6) rfl), List.forall_mem_cons.mpr ⟨mc_X11_day_r8 _ (List.mem_of_getElem? (i := 7) rfl), List.forall_mem_cons.mpr ⟨mc_X11_day_r8 _ (List.mem_of_getElem? (i := 8) rfl), List.forall_mem_cons.mpr ⟨mc_X11_day_r8 _ (List.mem_of_getElem? (i := 9) rfl), fun _ h => absurd h List.not_mem_nil⟩⟩⟩⟩⟩⟩⟩⟩⟩⟩⟩⟩⟩⟩⟩⟩⟩⟩⟩⟩⟩⟩⟩⟩
set_option maxRecDepth 20000 in
theorem mm_X11_day_X11_foodNeeded_r3 : ∀ w ∈ wsX11_foodNeeded_r3, w ∈ wsX11_day := List.forall_mem_cons.mpr ⟨mc_X11_day_r8 _ (List.mem_of_getElem? (i := 10) rfl), List.forall_mem_cons.mpr ⟨mc_X11_day_r8 _ (List.mem_of_getElem? (i := 11) rfl), List.forall_mem_cons.mpr ⟨mc_X11_day_r8 _ (List.mem_of_getElem? (i := 12) rfl), List.forall_mem_cons.mpr ⟨mc_X11_day_r8 _ (List.mem_of_getElem? (i := 13) rfl), List.forall_mem_cons.mpr ⟨mc_X11_day_r3 _ (List.mem_of_getElem? (i := 0) rfl), List.forall_mem_cons.mpr ⟨mc_X11_day_r3 _ (List.mem_of_getElem? (i := 1) rfl), List.forall_mem_cons.mpr ⟨mc_X11_day_r3 _ (List.mem_of_getElem? (i := 2) rfl), List.forall_mem_cons.mpr ⟨mc_X11_day_r3 _ (List.mem_of_getElem? (i := 3) rfl), List.forall_mem_cons.mpr ⟨mc_X11_day_r3 _ (List.mem_of_getElem? (i := 4) rfl), List.forall_mem_cons.mpr ⟨mc_X11_day_r8 _ (List.mem_of_getElem? (i := 14) rfl), List.forall_mem_cons.mpr ⟨mc_X11_day_r8 _ (List.mem_of_getElem? (i := 15) rfl), List.forall_mem_cons.mpr ⟨mc_X11_day_r8 _ (List.mem_of_getElem? (i := 16) rfl), List.forall_mem_cons.mpr ⟨mc_X11_day_r8 _ (List.mem_of_getElem? (i := 17) rfl), fun _ h => absurd h List.not_mem_nil⟩⟩⟩⟩⟩⟩⟩⟩⟩⟩⟩⟩⟩
set_option maxRecDepth 20000 in
theorem ggX11_day_X11_foodNeeded : GoodIn wsX11_day wsX11_foodNeeded := goodIn_sub (List.forall_mem_cons.mpr ⟨mc_X11_day_r6 _ (List.mem_of_getElem? (i := 16) rfl), List.forall_mem_append.mpr ⟨List.forall_mem_append.mpr ⟨List.forall_mem_append.mpr ⟨List.forall_mem_append.mpr ⟨List.forall_mem_append.mpr ⟨mm_X11_day_X11_foodNeeded_r1, List.forall_mem_append.mpr ⟨mm_X11_day_X11_foodNeeded_r2, mm_X11_day_X11_foodNeeded_r3⟩⟩, tl_X11_day_X11⟩, tl_X11_day_X3⟩, tl_X11_day_X7⟩, tl_X11_day_X5⟩⟩) (by decide +kernel)
set_option maxRecDepth 20000 in
theorem gX11_day_X11_foodNeeded : GoodIn wsX11_day (wsV RX11 210 RX11 yX11_foodNeeded wsX11_foodNeeded) := goodIn_app (goodIn_sub (List.forall_mem_cons.mpr ⟨mc_X11_day_r6 _ (List.mem_of_getElem? (i := 13) rfl), List.forall_mem_cons.mpr ⟨mc_X11_day_r6 _ (List.mem_of_getElem? (i := 14) rfl), List.forall_mem_cons.mpr ⟨mc_X11_day_r6 _ (List.mem_of_getElem? (i := 15) rfl), List.forall_mem_cons.mpr ⟨mc_X11_day_r4 _ (List.mem_of_getElem? (i := 17) rfl), fun _ h => absurd h List.not_mem_nil⟩⟩⟩⟩) (by decide +kernel)) ggX11_day_X11_foodNeeded
set_option maxRecDepth 20000 in
theorem mm_X11_day_X0_candles_r1 : ∀ w ∈ wsX0_candles_r1, w ∈ wsX11_day := List.forall_mem_cons.mpr ⟨mc_X11_day_r8 _ (List.mem_of_getElem? (i := 23) rfl), List.forall_mem_cons.mpr ⟨mc_X11_day_r9 _ (List.mem_of_getElem? (i := 0) rfl), List.forall_mem_cons.mpr ⟨mc_X11_day_r9 _ (List.mem_of_getElem? (i := 1) rfl), List.forall_mem_cons.mpr ⟨mc_X11_day_r9 _ (List.mem_of_getElem? (i := 2) rfl), List.forall_mem_cons.mpr ⟨mc_X11_day_r9 _ (List.mem_of_getElem? (i := 3) rfl), List.forall_mem_cons.mpr ⟨mc_X11_day_r9 _ (List.mem_of_getElem? (i := 4) rfl), List.forall_mem_cons.mpr ⟨mc_X11_day_r9 _ (List.mem_of_getElem? (i := 5) rfl), List.forall_mem_cons.mpr ⟨mc_X11_day_r9 _ (List.mem_of_getElem? (i := 6) rfl), List.forall_mem_cons.mpr ⟨mc_X11_day_r9 _ (List.mem_of_getElem? (i := 7) rfl), List.forall_mem_cons.mpr ⟨mc_X11_day_r9 _ (List.mem_of_getElem? (i := 8) rfl), List.forall_mem_cons.mpr ⟨mc_X11_day_r9 _ (List.mem_of_getElem? (i := 9) rfl), List.forall_mem_cons.mpr ⟨mc_X11_day_r9 _ (List.mem_of_getElem? (i := 10) rfl), List.forall_mem_cons.mpr ⟨mc_X11_day_r9 _ (List.mem_of_getElem? (i := 11) rfl), List.forall_mem_cons.mpr ⟨mc_X11_day_r9 _ (List.mem_of_getElem? (i := 12) rfl), List.forall_mem_cons.mpr ⟨mc_X11_day_r8 _ (List.mem_of_getElem? (i := 21) rfl), List.forall_mem_cons.mpr ⟨mc_X11_day_r9 _ (List.mem_of_getElem? (i := 13) rfl), List.forall_mem_cons.mpr ⟨mc_X11_day_r9 _ (List.mem_of_getElem? (i := 14) rfl), List.forall_mem_cons.mpr ⟨mc_X11_day_r9 _ (List.mem_of_getElem? (i := 15) rfl), List.forall_mem_cons.mpr ⟨mc_X11_day_r9 _ (List.mem_of_getElem? (i := 16) rfl), List.forall_mem_cons.mpr ⟨mc_X11_day_r9 _ (List.mem_of_getElem? (i := 17) rfl), List.forall_mem_cons.mpr ⟨mc_X11_day_r9 _ (List.mem_of_getElem? (i := 18) rfl), List.forall_mem_cons.mpr ⟨mc_X11_day_r9 _ (List.mem_of_getElem? (i := 19) rfl), List.forall_mem_cons.mpr ⟨mc_X11_day_r9 _ (List.mem_of_getElem? (i := 20) rfl), List.forall_mem_cons.mpr ⟨mc_X11_day_r9 _ (List.mem_of_getElem? (i := 21) rfl), fun _ h => absurd h List.not_mem_nil⟩⟩⟩⟩⟩⟩⟩⟩⟩⟩⟩⟩⟩⟩⟩⟩⟩⟩⟩⟩⟩⟩⟩⟩
set_option maxRecDepth 20000 in
theorem mm_X11_day_X0_candles_r2 : ∀ w ∈ wsX0_candles_r2, w ∈ wsX11_day := List.forall_mem_cons.mpr ⟨mc_X11_day_r9 _ (List.mem_of_getElem? (i := 22) rfl), List.forall_mem_cons.mpr ⟨mc_X11_day_r9 _ (List.mem_of_getElem? (i := 23) rfl), List.forall_mem_cons.mpr ⟨mc_X11_day_r10 _ (List.mem_of_getElem? (i := 0) rfl), List.forall_mem_cons.mpr ⟨mc_X11_day_r10 _ (List.mem_of_getElem? (i := 1) rfl), List.forall_mem_cons.mpr ⟨mc_X11_day_r10 _ (List.mem_of_getElem? (i := 2) rfl), List.forall_mem_cons.mpr ⟨mc_X11_day_r10 _ (List.mem_of_getElem? (i := 3) rfl), List.forall_mem_cons.mpr ⟨mc_X11_day_r10 _ (List.mem_of_getElem? (i := 4) rfl), List.forall_mem_cons.mpr ⟨mc_X11_day_r1 _ (List.mem_of_getElem? (i := 6) rfl), List.forall_mem_cons.mpr ⟨mc_X11_day_r1 _ (List.mem_of_getElem? (i := 7) rfl), List.forall_mem_cons.mpr ⟨mc_X11_day_r1 _ (List.mem_of_getElem? (i := 8) rfl), List.forall_mem_cons.mpr ⟨mc_X11_day_r10 _ (List.mem_of_getElem? (i := 5) rfl), List.forall_mem_cons.mpr ⟨mc_X11_day_r2 _ (List.mem_of_getElem? (i := 12) rfl), List.forall_mem_cons.mpr ⟨mc_X11_day_r2 _ (List.mem_of_getElem? (i := 13) rfl), fun _ h => absurd h List.not_mem_nil⟩⟩⟩⟩⟩⟩⟩⟩⟩⟩⟩⟩⟩
set_option maxRecDepth 20000 in
theorem ggX11_day_X0_candles : GoodIn wsX11_day wsX0_candles := goodIn_sub (List.forall_mem_cons.mpr ⟨mc_X11_day_r8 _ (List.mem_of_getElem? (i := 22) rfl), List.forall_mem_append.mpr ⟨List.forall_mem_append.mpr ⟨mm_X11_day_X0_candles_r1, mm_X11_day_X0_candles_r2⟩, tl_X11_day_X0⟩⟩) (by decide +kernel)
set_option maxRecDepth 20000 in
theorem gX11_day_X0_candles : GoodIn wsX11_day (wsV RX11 218 RX0 yX0_candles wsX0_candles) := goodIn_app (goodIn_sub (List.forall_mem_cons.mpr ⟨mc_X11_day_r8 _ (List.mem_of_getElem? (i := 18) rfl), List.forall_mem_cons.mpr ⟨mc_X11_day_r8 _ (List.mem_of_getElem? (i := 19) rfl), List.forall_mem_cons.mpr ⟨mc_X11_day_r8 _ (List.mem_of_getElem? (i := 20) rfl), List.forall_mem_cons.mpr ⟨mc_X11_day_r8 _ (List.mem_of_getElem? (i := 21) rfl), fun _ h => absurd h List.not_mem_nil⟩⟩⟩⟩) (by decide +kernel)) ggX11_day_X0_candles
set_option maxRecDepth 20000 in
theorem ggX11_day_X1_put : GoodIn wsX11_day wsX1_put := goodIn_sub (List.forall_mem_cons.mpr ⟨mc_X11_day_r2 _ (List.mem_of_getElem? (i := 0) rfl), List.forall_mem_append.mpr ⟨List.forall_mem_cons.mpr ⟨mc_X11_day_r2 _ (List.mem_of_getElem? (i := 1) rfl), List.forall_mem_cons.mpr ⟨mc_X11_day_r2 _ (List.mem_of_getElem? (i := 2) rfl), List.forall_mem_cons.mpr ⟨mc_X11_day_r2 _ (List.mem_of_getElem? (i := 3) rfl), List.forall_mem_cons.mpr ⟨mc_X11_day_r2 _ (List.mem_of_getElem? (i := 4) rfl), List.forall_mem_cons.mpr ⟨mc_X11_day_r2 _ (List.mem_of_getElem? (i := 5) rfl), List.forall_mem_cons.mpr ⟨mc_X11_day_r1 _ (List.mem_of_getElem? (i := 23) rfl), List.forall_mem_cons.mpr ⟨mc_X11_day_r2 _ (List.mem_of_getElem? (i := 6) rfl), List.forall_mem_cons.mpr ⟨mc_X11_day_r2 _ (List.mem_of_getElem? (i := 7) rfl), List.forall_mem_cons.mpr ⟨mc_X11_day_r2 _ (List.mem_of_getElem? (i := 8) rfl), List.forall_mem_cons.mpr ⟨mc_X11_day_r2 _ (List.mem_of_getElem? (i := 9) rfl), List.forall_mem_cons.mpr ⟨mc_X11_day_r2 _ (List.mem_of_getElem? (i := 10) rfl), List.forall_mem_cons.mpr ⟨mc_X11_day_r2 _ (List.mem_of_getElem? (i := 11) rfl), List.forall_mem_cons.mpr ⟨mc_X11_day_r2 _ (List.mem_of_getElem? (i := 12) rfl), List.forall_mem_cons.mpr ⟨mc_X11_day_r1 _ (List.mem_of_getElem? (i := 7) rfl), List.forall_mem_cons.mpr ⟨mc_X11_day_r2 _ (List.mem_of_getElem? (i := 13) rfl), List.forall_mem_cons.mpr ⟨mc_X11_day_r2 _ (List.mem_of_getElem? (i := 14) rfl), List.forall_mem_cons.mpr ⟨mc_X11_day_r2 _ (List.mem_of_getElem? (i := 15) rfl), List.forall_mem_cons.mpr ⟨mc_X11_day_r2 _ (List.mem_of_getElem? (i := 16) rfl), List.forall_mem_cons.mpr ⟨mc_X11_day_r2 _ (List.mem_of_getElem? (i := 17) rfl), List.forall_mem_cons.mpr ⟨mc_X11_day_r2 _ (List.mem_of_getElem? (i := 18) rfl), fun _ h => absurd h List.not_mem_nil⟩⟩⟩⟩⟩⟩⟩⟩⟩⟩⟩⟩⟩⟩⟩⟩⟩⟩⟩⟩, tl_X11_day_X1⟩⟩) (by decide +kernel)
set_option maxRecDepth 20000 in
theorem gX11_day_X1_put : GoodIn wsX11_day (wsV RX11 224 RX1 yX1_put wsX1_put) := goodIn_app (goodIn_sub (List.forall_mem_cons.mpr ⟨mc_X11_day_r10 _ (List.mem_of_getElem? (i := 6) rfl), List.forall_mem_cons.mpr ⟨mc_X11_day_r1 _ (List.mem_of_getElem? (i := 21) rfl), List.forall_mem_cons.mpr ⟨mc_X11_day_r1 _ (List.mem_of_getElem? (i := 22) rfl), List.forall_mem_cons.mpr ⟨mc_X11_day_r1 _ (List.mem_of_getElem? (i := 23) rfl), fun _ h => absurd h List.not_mem_nil⟩⟩⟩⟩) (by decide +kernel)) ggX11_day_X1_put
set_option maxRecDepth 20000 in
theorem ggX11_day_X4_owedInAll : GoodIn wsX11_day wsX4_owedInAll := goodIn_sub (List.forall_mem_cons.mpr ⟨mc_X11_day_r10 _ (List.mem_of_getElem? (i := 10) rfl), List.forall_mem_append.mpr ⟨List.forall_mem_cons.mpr ⟨mc_X11_day_r5 _ (List.mem_of_getElem? (i := 7) rfl), List.forall_mem_cons.mpr ⟨mc_X11_day_r10 _ (List.mem_of_getElem? (i := 11) rfl), List.forall_mem_cons.mpr ⟨mc_X11_day_r10 _ (List.mem_of_getElem? (i := 12) rfl), List.forall_mem_cons.mpr ⟨mc_X11_day_r10 _ (List.mem_of_getElem? (i := 13) rfl), List.forall_mem_cons.mpr ⟨mc_X11_day_r5 _ (List.mem_of_getElem? (i := 2) rfl), List.forall_mem_cons.mpr ⟨mc_X11_day_r10 _ (List.mem_of_getElem? (i := 14) rfl), List.forall_mem_cons.mpr ⟨mc_X11_day_r5 _ (List.mem_of_getElem? (i := 4) rfl), fun _ h => absurd h List.not_mem_nil⟩⟩⟩⟩⟩⟩⟩, tl_X11_day_X4⟩⟩) (by decide +kernel)
set_option maxRecDepth 20000 in
theorem gX11_day_X4_owedInAll : GoodIn wsX11_day (wsV RX11 227 RX4 yX4_owedInAll wsX4_owedInAll) := goodIn_app (goodIn_sub (List.forall_mem_cons.mpr ⟨mc_X11_day_r10 _ (List.mem_of_getElem? (i := 7) rfl), List.forall_mem_cons.mpr ⟨mc_X11_day_r10 _ (List.mem_of_getElem? (i := 8) rfl), List.forall_mem_cons.mpr ⟨mc_X11_day_r10 _ (List.mem_of_getElem? (i := 9) rfl), List.forall_mem_cons.mpr ⟨mc_X11_day_r5 _ (List.mem_of_getElem? (i := 2) rfl), fun _ h => absurd h List.not_mem_nil⟩⟩⟩⟩) (by decide +kernel)) ggX11_day_X4_owedInAll
theorem dX11_day_0 : decode cX11_day 0 = .ok (.aload_n 0, 1) := by decide +kernel
theorem dX11_day_1 : decode cX11_day 1 = .ok (.getfield 82, 3) := by decide +kernel
theorem dX11_day_4 : decode cX11_day 4 = .ok (.sipush 1094, 3) := by decide +kernel
theorem dX11_day_7 : decode cX11_day 7 = .ok (.if_icmp .lt 5, 3) := by decide +kernel
theorem dX11_day_10 : decode cX11_day 10 = .ok (.iconst (-1), 1) := by decide +kernel
theorem dX11_day_11 : decode cX11_day 11 = .ok (.ireturn, 1) := by decide +kernel
theorem dX11_day_12 : decode cX11_day 12 = .ok (.aload_n 0, 1) := by decide +kernel
theorem dX11_day_13 : decode cX11_day 13 = .ok (.getfield 54, 3) := by decide +kernel
theorem dX11_day_16 : decode cX11_day 16 = .ok (.aload_n 0, 1) := by decide +kernel
theorem dX11_day_17 : decode cX11_day 17 = .ok (.getfield 47, 3) := by decide +kernel
theorem dX11_day_20 : decode cX11_day 20 = .ok (.aload_n 0, 1) := by decide +kernel
theorem dX11_day_21 : decode cX11_day 21 = .ok (.getfield 82, 3) := by decide +kernel
theorem dX11_day_24 : decode cX11_day 24 = .ok (.invokevirtual 197, 3) := by decide +kernel
theorem dX11_day_27 : decode cX11_day 27 = .ok (.aload_n 0, 1) := by decide +kernel
theorem dX11_day_28 : decode cX11_day 28 = .ok (.getfield 61, 3) := by decide +kernel
theorem dX11_day_31 : decode cX11_day 31 = .ok (.aload_n 0, 1) := by decide +kernel
theorem dX11_day_32 : decode cX11_day 32 = .ok (.getfield 82, 3) := by decide +kernel
theorem dX11_day_35 : decode cX11_day 35 = .ok (.invokevirtual 201, 3) := by decide +kernel
theorem dX11_day_38 : decode cX11_day 38 = .ok (.aload_n 0, 1) := by decide +kernel
theorem dX11_day_39 : decode cX11_day 39 = .ok (.getfield 61, 3) := by decide +kernel
theorem dX11_day_42 : decode cX11_day 42 = .ok (.aload_n 0, 1) := by decide +kernel
theorem dX11_day_43 : decode cX11_day 43 = .ok (.getfield 47, 3) := by decide +kernel
theorem dX11_day_46 : decode cX11_day 46 = .ok (.aload_n 0, 1) := by decide +kernel
theorem dX11_day_47 : decode cX11_day 47 = .ok (.getfield 82, 3) := by decide +kernel
theorem dX11_day_50 : decode cX11_day 50 = .ok (.invokevirtual 204, 3) := by decide +kernel
theorem dX11_day_53 : decode cX11_day 53 = .ok (.invokevirtual 207, 3) := by decide +kernel
theorem dX11_day_56 : decode cX11_day 56 = .ok (.istore_n 1, 1) := by decide +kernel
theorem dX11_day_57 : decode cX11_day 57 = .ok (.aload_n 0, 1) := by decide +kernel
theorem dX11_day_58 : decode cX11_day 58 = .ok (.invokevirtual 210, 3) := by decide +kernel
theorem dX11_day_61 : decode cX11_day 61 = .ok (.istore_n 2, 1) := by decide +kernel
theorem dX11_day_62 : decode cX11_day 62 = .ok (.iload_n 2, 1) := by decide +kernel
theorem dX11_day_63 : decode cX11_day 63 = .ok (.aload_n 0, 1) := by decide +kernel
theorem dX11_day_64 : decode cX11_day 64 = .ok (.getfield 187, 3) := by decide +kernel
theorem dX11_day_67 : decode cX11_day 67 = .ok (.invokestatic 213, 3) := by decide +kernel
theorem dX11_day_70 : decode cX11_day 70 = .ok (.istore_n 3, 1) := by decide +kernel
theorem dX11_day_71 : decode cX11_day 71 = .ok (.aload_n 0, 1) := by decide +kernel
theorem dX11_day_72 : decode cX11_day 72 = .ok (.dup, 1) := by decide +kernel
theorem dX11_day_73 : decode cX11_day 73 = .ok (.getfield 187, 3) := by decide +kernel
theorem dX11_day_76 : decode cX11_day 76 = .ok (.iload_n 3, 1) := by decide +kernel
theorem dX11_day_77 : decode cX11_day 77 = .ok (.isub, 1) := by decide +kernel
theorem dX11_day_78 : decode cX11_day 78 = .ok (.putfield 187, 3) := by decide +kernel
theorem dX11_day_81 : decode cX11_day 81 = .ok (.aload_n 0, 1) := by decide +kernel
theorem dX11_day_82 : decode cX11_day 82 = .ok (.getfield 10, 3) := by decide +kernel
theorem dX11_day_85 : decode cX11_day 85 = .ok (.aload_n 0, 1) := by decide +kernel
theorem dX11_day_86 : decode cX11_day 86 = .ok (.getfield 82, 3) := by decide +kernel
theorem dX11_day_89 : decode cX11_day 89 = .ok (.invokevirtual 218, 3) := by decide +kernel
theorem dX11_day_92 : decode cX11_day 92 = .ok (.istore 4, 2) := by decide +kernel
theorem dX11_day_94 : decode cX11_day 94 = .ok (.aload_n 0, 1) := by decide +kernel
theorem dX11_day_95 : decode cX11_day 95 = .ok (.dup, 1) := by decide +kernel
theorem dX11_day_96 : decode cX11_day 96 = .ok (.getfield 221, 3) := by decide +kernel
theorem dX11_day_99 : decode cX11_day 99 = .ok (.iload 4, 2) := by decide +kernel
theorem dX11_day_101 : decode cX11_day 101 = .ok (.iadd, 1) := by decide +kernel
theorem dX11_day_102 : decode cX11_day 102 = .ok (.putfield 221, 3) := by decide +kernel
theorem dX11_day_105 : decode cX11_day 105 = .ok (.aload_n 0, 1) := by decide +kernel
theorem dX11_day_106 : decode cX11_day 106 = .ok (.getfield 70, 3) := by decide +kernel
theorem dX11_day_109 : decode cX11_day 109 = .ok (.aload_n 0, 1) := by decide +kernel
theorem dX11_day_110 : decode cX11_day 110 = .ok (.getfield 82, 3) := by decide +kernel
theorem dX11_day_113 : decode cX11_day 113 = .ok (.iconst 0, 1) := by decide +kernel
theorem dX11_day_114 : decode cX11_day 114 = .ok (.iload_n 3, 1) := by decide +kernel
theorem dX11_day_115 : decode cX11_day 115 = .ok (.invokevirtual 224, 3) := by decide +kernel
theorem dX11_day_118 : decode cX11_day 118 = .ok (.aload_n 0, 1) := by decide +kernel
theorem dX11_day_119 : decode cX11_day 119 = .ok (.getfield 70, 3) := by decide +kernel
theorem dX11_day_122 : decode cX11_day 122 = .ok (.aload_n 0, 1) := by decide +kernel
theorem dX11_day_123 : decode cX11_day 123 = .ok (.getfield 82, 3) := by decide +kernel
theorem dX11_day_126 : decode cX11_day 126 = .ok (.iconst 1, 1) := by decide +kernel
theorem dX11_day_127 : decode cX11_day 127 = .ok (.iload_n 2, 1) := by decide +kernel
theorem dX11_day_128 : decode cX11_day 128 = .ok (.iload_n 3, 1) := by decide +kernel
theorem dX11_day_129 : decode cX11_day 129 = .ok (.isub, 1) := by decide +kernel
theorem dX11_day_130 : decode cX11_day 130 = .ok (.invokevirtual 224, 3) := by decide +kernel
theorem dX11_day_133 : decode cX11_day 133 = .ok (.aload_n 0, 1) := by decide +kernel
theorem dX11_day_134 : decode cX11_day 134 = .ok (.getfield 70, 3) := by decide +kernel
theorem dX11_day_137 : decode cX11_day 137 = .ok (.aload_n 0, 1) := by decide +kernel
theorem dX11_day_138 : decode cX11_day 138 = .ok (.getfield 82, 3) := by decide +kernel
theorem dX11_day_141 : decode cX11_day 141 = .ok (.iconst 2, 1) := by decide +kernel
theorem dX11_day_142 : decode cX11_day 142 = .ok (.iload 4, 2) := by decide +kernel
theorem dX11_day_144 : decode cX11_day 144 = .ok (.invokevirtual 224, 3) := by decide +kernel
theorem dX11_day_147 : decode cX11_day 147 = .ok (.aload_n 0, 1) := by decide +kernel
theorem dX11_day_148 : decode cX11_day 148 = .ok (.getfield 70, 3) := by decide +kernel
theorem dX11_day_151 : decode cX11_day 151 = .ok (.aload_n 0, 1) := by decide +kernel
theorem dX11_day_152 : decode cX11_day 152 = .ok (.getfield 82, 3) := by decide +kernel
theorem dX11_day_155 : decode cX11_day 155 = .ok (.iconst 3, 1) := by decide +kernel
theorem dX11_day_156 : decode cX11_day 156 = .ok (.iload_n 1, 1) := by decide +kernel
theorem dX11_day_157 : decode cX11_day 157 = .ok (.invokevirtual 224, 3) := by decide +kernel
theorem dX11_day_160 : decode cX11_day 160 = .ok (.aload_n 0, 1) := by decide +kernel
theorem dX11_day_161 : decode cX11_day 161 = .ok (.getfield 70, 3) := by decide +kernel
theorem dX11_day_164 : decode cX11_day 164 = .ok (.aload_n 0, 1) := by decide +kernel
theorem dX11_day_165 : decode cX11_day 165 = .ok (.getfield 82, 3) := by decide +kernel
theorem dX11_day_168 : decode cX11_day 168 = .ok (.iconst 4, 1) := by decide +kernel
theorem dX11_day_169 : decode cX11_day 169 = .ok (.aload_n 0, 1) := by decide +kernel
theorem dX11_day_170 : decode cX11_day 170 = .ok (.getfield 61, 3) := by decide +kernel
theorem dX11_day_173 : decode cX11_day 173 = .ok (.invokevirtual 227, 3) := by decide +kernel
theorem dX11_day_176 : decode cX11_day 176 = .ok (.invokevirtual 224, 3) := by decide +kernel
theorem dX11_day_179 : decode cX11_day 179 = .ok (.aload_n 0, 1) := by decide +kernel
theorem dX11_day_180 : decode cX11_day 180 = .ok (.iconst 0, 1) := by decide +kernel
theorem dX11_day_181 : decode cX11_day 181 = .ok (.putfield 191, 3) := by decide +kernel
theorem dX11_day_184 : decode cX11_day 184 = .ok (.aload_n 0, 1) := by decide +kernel
theorem dX11_day_185 : decode cX11_day 185 = .ok (.iconst 0, 1) := by decide +kernel
theorem dX11_day_186 : decode cX11_day 186 = .ok (.putfield 194, 3) := by decide +kernel
theorem dX11_day_189 : decode cX11_day 189 = .ok (.aload_n 0, 1) := by decide +kernel
theorem dX11_day_190 : decode cX11_day 190 = .ok (.dup, 1) := by decide +kernel
theorem dX11_day_191 : decode cX11_day 191 = .ok (.getfield 82, 3) := by decide +kernel
theorem dX11_day_194 : decode cX11_day 194 = .ok (.iconst 1, 1) := by decide +kernel
theorem dX11_day_195 : decode cX11_day 195 = .ok (.iadd, 1) := by decide +kernel
theorem dX11_day_196 : decode cX11_day 196 = .ok (.putfield 82, 3) := by decide +kernel
theorem dX11_day_199 : decode cX11_day 199 = .ok (.aload_n 0, 1) := by decide +kernel
theorem dX11_day_200 : decode cX11_day 200 = .ok (.getfield 82, 3) := by decide +kernel
theorem dX11_day_203 : decode cX11_day 203 = .ok (.ireturn, 1) := by decide +kernel
set_option maxRecDepth 20000 in
theorem ggX11_turn_X11_isGoneBy : GoodIn wsX11_turn wsX11_isGoneBy := goodIn_sub (List.forall_mem_cons.mpr ⟨mc_X11_turn_r1 _ (List.mem_of_getElem? (i := 5) rfl), List.forall_mem_append.mpr ⟨List.forall_mem_cons.mpr ⟨mc_X11_turn_r1 _ (List.mem_of_getElem? (i := 6) rfl), fun _ h => absurd h List.not_mem_nil⟩, tl_X11_turn_X11⟩⟩) (by decide +kernel)
set_option maxRecDepth 20000 in
theorem gX11_turn_X11_isGoneBy : GoodIn wsX11_turn (wsV RX11 230 RX11 yX11_isGoneBy wsX11_isGoneBy) := goodIn_app (goodIn_sub (List.forall_mem_cons.mpr ⟨mc_X11_turn_r1 _ (List.mem_of_getElem? (i := 1) rfl), List.forall_mem_cons.mpr ⟨mc_X11_turn_r1 _ (List.mem_of_getElem? (i := 2) rfl), List.forall_mem_cons.mpr ⟨mc_X11_turn_r1 _ (List.mem_of_getElem? (i := 3) rfl), List.forall_mem_cons.mpr ⟨mc_X11_turn_r1 _ (List.mem_of_getElem? (i := 4) rfl), fun _ h => absurd h List.not_mem_nil⟩⟩⟩⟩) (by decide +kernel)) ggX11_turn_X11_isGoneBy
set_option maxRecDepth 20000 in
theorem ggX11_turn_X11_isDuty : GoodIn wsX11_turn wsX11_isDuty := goodIn_sub (List.forall_mem_cons.mpr ⟨mc_X11_turn_r1 _ (List.mem_of_getElem? (i := 9) rfl), List.forall_mem_cons.mpr ⟨mc_X11_turn_r1 _ (List.mem_of_getElem? (i := 10) rfl), List.forall_mem_cons.mpr ⟨mc_X11_turn_r1 _ (List.mem_of_getElem? (i := 11) rfl), List.forall_mem_cons.mpr ⟨mc_X11_turn_r1 _ (List.mem_of_getElem? (i := 4) rfl), List.forall_mem_cons.mpr ⟨mc_X11_turn_r1 _ (List.mem_of_getElem? (i := 12) rfl), fun _ h => absurd h List.not_mem_nil⟩⟩⟩⟩⟩) (by decide +kernel)
set_option maxRecDepth 20000 in
theorem gX11_turn_X11_isDuty : GoodIn wsX11_turn (va_wsS RX11 233 yX11_isDuty wsX11_isDuty) := goodIn_app (goodIn_sub (List.forall_mem_cons.mpr ⟨mc_X11_turn_r1 _ (List.mem_of_getElem? (i := 7) rfl), List.forall_mem_cons.mpr ⟨mc_X11_turn_r1 _ (List.mem_of_getElem? (i := 8) rfl), List.forall_mem_cons.mpr ⟨mc_X11_turn_r1 _ (List.mem_of_getElem? (i := 4) rfl), fun _ h => absurd h List.not_mem_nil⟩⟩⟩) (by decide +kernel)) ggX11_turn_X11_isDuty
set_option maxRecDepth 20000 in
theorem ggX11_turn_X2_holder : GoodIn wsX11_turn wsX2_holder := goodIn_sub (List.forall_mem_cons.mpr ⟨mc_X11_turn_r1 _ (List.mem_of_getElem? (i := 17) rfl), List.forall_mem_append.mpr ⟨List.forall_mem_append.mpr ⟨List.forall_mem_cons.mpr ⟨mc_X11_turn_r1 _ (List.mem_of_getElem? (i := 18) rfl), List.forall_mem_cons.mpr ⟨mc_X11_turn_r1 _ (List.mem_of_getElem? (i := 19) rfl), List.forall_mem_cons.mpr ⟨mc_X11_turn_r1 _ (List.mem_of_getElem? (i := 20) rfl), List.forall_mem_cons.mpr ⟨mc_X11_turn_r1 _ (List.mem_of_getElem? (i := 21) rfl), List.forall_mem_cons.mpr ⟨mc_X11_turn_r1 _ (List.mem_of_getElem? (i := 22) rfl), List.forall_mem_cons.mpr ⟨mc_X11_turn_r1 _ (List.mem_of_getElem? (i := 23) rfl), List.forall_mem_cons.mpr ⟨mc_X11_turn_r2 _ (List.mem_of_getElem? (i := 0) rfl), List.forall_mem_cons.mpr ⟨mc_X11_turn_r2 _ (List.mem_of_getElem? (i := 1) rfl), List.forall_mem_cons.mpr ⟨mc_X11_turn_r2 _ (List.mem_of_getElem? (i := 2) rfl), List.forall_mem_cons.mpr ⟨mc_X11_turn_r2 _ (List.mem_of_getElem? (i := 3) rfl), List.forall_mem_cons.mpr ⟨mc_X11_turn_r2 _ (List.mem_of_getElem? (i := 4) rfl), List.forall_mem_cons.mpr ⟨mc_X11_turn_r2 _ (List.mem_of_getElem? (i := 5) rfl), fun _ h => absurd h List.not_mem_nil⟩⟩⟩⟩⟩⟩⟩⟩⟩⟩⟩⟩, tl_X11_turn_X2⟩, tl_X11_turn_X1⟩⟩) (by decide +kernel)
set_option maxRecDepth 20000 in
theorem gX11_turn_X2_holder : GoodIn wsX11_turn (wsV RX11 236 RX2 yX2_holder wsX2_holder) := goodIn_app (goodIn_sub (List.forall_mem_cons.mpr ⟨mc_X11_turn_r1 _ (List.mem_of_getElem? (i := 13) rfl), List.forall_mem_cons.mpr ⟨mc_X11_turn_r1 _ (List.mem_of_getElem? (i := 14) rfl), List.forall_mem_cons.mpr ⟨mc_X11_turn_r1 _ (List.mem_of_getElem? (i := 15) rfl), List.forall_mem_cons.mpr ⟨mc_X11_turn_r1 _ (List.mem_of_getElem? (i := 16) rfl), fun _ h => absurd h List.not_mem_nil⟩⟩⟩⟩) (by decide +kernel)) ggX11_turn_X2_holder
theorem dX11_turn_0 : decode cX11_turn 0 = .ok (.aload_n 0, 1) := by decide +kernel
theorem dX11_turn_1 : decode cX11_turn 1 = .ok (.iload_n 1, 1) := by decide +kernel
theorem dX11_turn_2 : decode cX11_turn 2 = .ok (.invokevirtual 230, 3) := by decide +kernel
theorem dX11_turn_5 : decode cX11_turn 5 = .ok (.ifCond .eq 22, 3) := by decide +kernel
theorem dX11_turn_8 : decode cX11_turn 8 = .ok (.iload_n 2, 1) := by decide +kernel
theorem dX11_turn_9 : decode cX11_turn 9 = .ok (.invokestatic 233, 3) := by decide +kernel
theorem dX11_turn_12 : decode cX11_turn 12 = .ok (.ifCond .eq 15, 3) := by decide +kernel
theorem dX11_turn_15 : decode cX11_turn 15 = .ok (.aload_n 0, 1) := by decide +kernel
theorem dX11_turn_16 : decode cX11_turn 16 = .ok (.getfield 54, 3) := by decide +kernel
theorem dX11_turn_19 : decode cX11_turn 19 = .ok (.iload_n 1, 1) := by decide +kernel
theorem dX11_turn_20 : decode cX11_turn 20 = .ok (.iload_n 2, 1) := by decide +kernel
theorem dX11_turn_21 : decode cX11_turn 21 = .ok (.invokevirtual 236, 3) := by decide +kernel
theorem dX11_turn_24 : decode cX11_turn 24 = .ok (.goto 4, 3) := by decide +kernel
theorem dX11_turn_27 : decode cX11_turn 27 = .ok (.iconst (-1), 1) := by decide +kernel
theorem dX11_turn_28 : decode cX11_turn 28 = .ok (.ireturn, 1) := by decide +kernel
set_option maxRecDepth 20000 in
theorem ggX11_turns_X5_has : GoodIn wsX11_turns wsX5_has := goodIn_sub (List.forall_mem_cons.mpr ⟨mc_X11_turns_r1 _ (List.mem_of_getElem? (i := 6) rfl), List.forall_mem_append.mpr ⟨List.forall_mem_cons.mpr ⟨mc_X11_turns_r1 _ (List.mem_of_getElem? (i := 7) rfl), fun _ h => absurd h List.not_mem_nil⟩, tl_X11_turns_X5⟩⟩) (by decide +kernel)
set_option maxRecDepth 20000 in
theorem gX11_turns_X5_has : GoodIn wsX11_turns (wsV RX11 89 RX5 yX5_has wsX5_has) := goodIn_app (goodIn_sub (List.forall_mem_cons.mpr ⟨mc_X11_turns_r1 _ (List.mem_of_getElem? (i := 2) rfl), List.forall_mem_cons.mpr ⟨mc_X11_turns_r1 _ (List.mem_of_getElem? (i := 3) rfl), List.forall_mem_cons.mpr ⟨mc_X11_turns_r1 _ (List.mem_of_getElem? (i := 4) rfl), List.forall_mem_cons.mpr ⟨mc_X11_turns_r1 _ (List.mem_of_getElem? (i := 5) rfl), fun _ h => absurd h List.not_mem_nil⟩⟩⟩⟩) (by decide +kernel)) ggX11_turns_X5_has
set_option maxRecDepth 20000 in
theorem ggX11_turns_X2_turnsInAll : GoodIn wsX11_turns wsX2_turnsInAll := goodIn_sub (List.forall_mem_cons.mpr ⟨mc_X11_turns_r1 _ (List.mem_of_getElem? (i := 12) rfl), List.forall_mem_append.mpr ⟨List.forall_mem_cons.mpr ⟨mc_X11_turns_r1 _ (List.mem_of_getElem? (i := 13) rfl), List.forall_mem_cons.mpr ⟨mc_X11_turns_r1 _ (List.mem_of_getElem? (i := 14) rfl), List.forall_mem_cons.mpr ⟨mc_X11_turns_r1 _ (List.mem_of_getElem? (i := 15) rfl), List.forall_mem_cons.mpr ⟨mc_X11_turns_r1 _ (List.mem_of_getElem? (i := 11) rfl), List.forall_mem_cons.mpr ⟨mc_X11_turns_r1 _ (List.mem_of_getElem? (i := 16) rfl), List.forall_mem_cons.mpr ⟨mc_X11_turns_r1 _ (List.mem_of_getElem? (i := 17) rfl), fun _ h => absurd h List.not_mem_nil⟩⟩⟩⟩⟩⟩, tl_X11_turns_X2⟩⟩) (by decide +kernel)
set_option maxRecDepth 20000 in
theorem gX11_turns_X2_turnsInAll : GoodIn wsX11_turns (wsV RX11 239 RX2 yX2_turnsInAll wsX2_turnsInAll) := goodIn_app (goodIn_sub (List.forall_mem_cons.mpr ⟨mc_X11_turns_r1 _ (List.mem_of_getElem? (i := 8) rfl), List.forall_mem_cons.mpr ⟨mc_X11_turns_r1 _ (List.mem_of_getElem? (i := 9) rfl), List.forall_mem_cons.mpr ⟨mc_X11_turns_r1 _ (List.mem_of_getElem? (i := 10) rfl), List.forall_mem_cons.mpr ⟨mc_X11_turns_r1 _ (List.mem_of_getElem? (i := 11) rfl), fun _ h => absurd h List.not_mem_nil⟩⟩⟩⟩) (by decide +kernel)) ggX11_turns_X2_turnsInAll
set_option maxRecDepth 20000 in
theorem ggX11_turns_X11_isDuty : GoodIn wsX11_turns wsX11_isDuty := goodIn_sub (List.forall_mem_cons.mpr ⟨mc_X11_turns_r1 _ (List.mem_of_getElem? (i := 21) rfl), List.forall_mem_cons.mpr ⟨mc_X11_turns_r1 _ (List.mem_of_getElem? (i := 22) rfl), List.forall_mem_cons.mpr ⟨mc_X11_turns_r1 _ (List.mem_of_getElem? (i := 23) rfl), List.forall_mem_cons.mpr ⟨mc_X11_turns_r1 _ (List.mem_of_getElem? (i := 20) rfl), List.forall_mem_cons.mpr ⟨mc_X11_turns_r2 _ (List.mem_of_getElem? (i := 0) rfl), fun _ h => absurd h List.not_mem_nil⟩⟩⟩⟩⟩) (by decide +kernel)
set_option maxRecDepth 20000 in
theorem gX11_turns_X11_isDuty : GoodIn wsX11_turns (va_wsS RX11 233 yX11_isDuty wsX11_isDuty) := goodIn_app (goodIn_sub (List.forall_mem_cons.mpr ⟨mc_X11_turns_r1 _ (List.mem_of_getElem? (i := 18) rfl), List.forall_mem_cons.mpr ⟨mc_X11_turns_r1 _ (List.mem_of_getElem? (i := 19) rfl), List.forall_mem_cons.mpr ⟨mc_X11_turns_r1 _ (List.mem_of_getElem? (i := 20) rfl), fun _ h => absurd h List.not_mem_nil⟩⟩⟩) (by decide +kernel)) ggX11_turns_X11_isDuty
set_option maxRecDepth 20000 in
theorem ggX11_turns_X2_turnsTaken : GoodIn wsX11_turns wsX2_turnsTaken := goodIn_sub (List.forall_mem_cons.mpr ⟨mc_X11_turns_r1 _ (List.mem_of_getElem? (i := 16) rfl), List.forall_mem_append.mpr ⟨List.forall_mem_cons.mpr ⟨mc_X11_turns_r1 _ (List.mem_of_getElem? (i := 17) rfl), fun _ h => absurd h List.not_mem_nil⟩, tl_X11_turns_X2⟩⟩) (by decide +kernel)
set_option maxRecDepth 20000 in
theorem gX11_turns_X2_turnsTaken : GoodIn wsX11_turns (wsV RX11 242 RX2 yX2_turnsTaken wsX2_turnsTaken) := goodIn_app (goodIn_sub (List.forall_mem_cons.mpr ⟨mc_X11_turns_r2 _ (List.mem_of_getElem? (i := 1) rfl), List.forall_mem_cons.mpr ⟨mc_X11_turns_r1 _ (List.mem_of_getElem? (i := 14) rfl), List.forall_mem_cons.mpr ⟨mc_X11_turns_r1 _ (List.mem_of_getElem? (i := 15) rfl), List.forall_mem_cons.mpr ⟨mc_X11_turns_r1 _ (List.mem_of_getElem? (i := 11) rfl), fun _ h => absurd h List.not_mem_nil⟩⟩⟩⟩) (by decide +kernel)) ggX11_turns_X2_turnsTaken
theorem dX11_turns_0 : decode cX11_turns 0 = .ok (.aload_n 0, 1) := by decide +kernel
theorem dX11_turns_1 : decode cX11_turns 1 = .ok (.getfield 47, 3) := by decide +kernel
theorem dX11_turns_4 : decode cX11_turns 4 = .ok (.iload_n 1, 1) := by decide +kernel
theorem dX11_turns_5 : decode cX11_turns 5 = .ok (.invokevirtual 89, 3) := by decide +kernel
theorem dX11_turns_8 : decode cX11_turns 8 = .ok (.ifCond .ne 5, 3) := by decide +kernel
theorem dX11_turns_11 : decode cX11_turns 11 = .ok (.iconst (-1), 1) := by decide +kernel
theorem dX11_turns_12 : decode cX11_turns 12 = .ok (.ireturn, 1) := by decide +kernel
theorem dX11_turns_13 : decode cX11_turns 13 = .ok (.iload_n 2, 1) := by decide +kernel
theorem dX11_turns_14 : decode cX11_turns 14 = .ok (.iconst 4, 1) := by decide +kernel
theorem dX11_turns_15 : decode cX11_turns 15 = .ok (.if_icmp .ne 12, 3) := by decide +kernel
theorem dX11_turns_18 : decode cX11_turns 18 = .ok (.aload_n 0, 1) := by decide +kernel
theorem dX11_turns_19 : decode cX11_turns 19 = .ok (.getfield 54, 3) := by decide +kernel
theorem dX11_turns_22 : decode cX11_turns 22 = .ok (.iload_n 1, 1) := by decide +kernel
theorem dX11_turns_23 : decode cX11_turns 23 = .ok (.invokevirtual 239, 3) := by decide +kernel
theorem dX11_turns_26 : decode cX11_turns 26 = .ok (.ireturn, 1) := by decide +kernel
theorem dX11_turns_27 : decode cX11_turns 27 = .ok (.iload_n 2, 1) := by decide +kernel
theorem dX11_turns_28 : decode cX11_turns 28 = .ok (.invokestatic 233, 3) := by decide +kernel
theorem dX11_turns_31 : decode cX11_turns 31 = .ok (.ifCond .eq 15, 3) := by decide +kernel
theorem dX11_turns_34 : decode cX11_turns 34 = .ok (.aload_n 0, 1) := by decide +kernel
theorem dX11_turns_35 : decode cX11_turns 35 = .ok (.getfield 54, 3) := by decide +kernel
theorem dX11_turns_38 : decode cX11_turns 38 = .ok (.iload_n 1, 1) := by decide +kernel
theorem dX11_turns_39 : decode cX11_turns 39 = .ok (.iload_n 2, 1) := by decide +kernel
theorem dX11_turns_40 : decode cX11_turns 40 = .ok (.invokevirtual 242, 3) := by decide +kernel
theorem dX11_turns_43 : decode cX11_turns 43 = .ok (.goto 4, 3) := by decide +kernel
theorem dX11_turns_46 : decode cX11_turns 46 = .ok (.iconst (-1), 1) := by decide +kernel
theorem dX11_turns_47 : decode cX11_turns 47 = .ok (.ireturn, 1) := by decide +kernel
set_option maxRecDepth 20000 in
theorem ggX11_fail_X11_isDuty : GoodIn wsX11_fail wsX11_isDuty := goodIn_sub (List.forall_mem_cons.mpr ⟨mc_X11_fail_r1 _ (List.mem_of_getElem? (i := 6) rfl), List.forall_mem_cons.mpr ⟨mc_X11_fail_r1 _ (List.mem_of_getElem? (i := 7) rfl), List.forall_mem_cons.mpr ⟨mc_X11_fail_r1 _ (List.mem_of_getElem? (i := 8) rfl), List.forall_mem_cons.mpr ⟨mc_X11_fail_r1 _ (List.mem_of_getElem? (i := 5) rfl), List.forall_mem_cons.mpr ⟨mc_X11_fail_r1 _ (List.mem_of_getElem? (i := 9) rfl), fun _ h => absurd h List.not_mem_nil⟩⟩⟩⟩⟩) (by decide +kernel)
set_option maxRecDepth 20000 in
theorem gX11_fail_X11_isDuty : GoodIn wsX11_fail (va_wsS RX11 233 yX11_isDuty wsX11_isDuty) := goodIn_app (goodIn_sub (List.forall_mem_cons.mpr ⟨mc_X11_fail_r1 _ (List.mem_of_getElem? (i := 3) rfl), List.forall_mem_cons.mpr ⟨mc_X11_fail_r1 _ (List.mem_of_getElem? (i := 4) rfl), List.forall_mem_cons.mpr ⟨mc_X11_fail_r1 _ (List.mem_of_getElem? (i := 5) rfl), fun _ h => absurd h List.not_mem_nil⟩⟩⟩) (by decide +kernel)) ggX11_fail_X11_isDuty
set_option maxRecDepth 20000 in
theorem ggX11_fail_X2_holder : GoodIn wsX11_fail wsX2_holder := goodIn_sub (List.forall_mem_cons.mpr ⟨mc_X11_fail_r1 _ (List.mem_of_getElem? (i := 14) rfl), List.forall_mem_append.mpr ⟨List.forall_mem_append.mpr ⟨List.forall_mem_cons.mpr ⟨mc_X11_fail_r1 _ (List.mem_of_getElem? (i := 15) rfl), List.forall_mem_cons.mpr ⟨mc_X11_fail_r1 _ (List.mem_of_getElem? (i := 16) rfl), List.forall_mem_cons.mpr ⟨mc_X11_fail_r1 _ (List.mem_of_getElem? (i := 17) rfl), List.forall_mem_cons.mpr ⟨mc_X11_fail_r1 _ (List.mem_of_getElem? (i := 18) rfl), List.forall_mem_cons.mpr ⟨mc_X11_fail_r1 _ (List.mem_of_getElem? (i := 19) rfl), List.forall_mem_cons.mpr ⟨mc_X11_fail_r1 _ (List.mem_of_getElem? (i := 20) rfl), List.forall_mem_cons.mpr ⟨mc_X11_fail_r1 _ (List.mem_of_getElem? (i := 21) rfl), List.forall_mem_cons.mpr ⟨mc_X11_fail_r1 _ (List.mem_of_getElem? (i := 22) rfl), List.forall_mem_cons.mpr ⟨mc_X11_fail_r1 _ (List.mem_of_getElem? (i := 23) rfl), List.forall_mem_cons.mpr ⟨mc_X11_fail_r2 _ (List.mem_of_getElem? (i := 0) rfl), List.forall_mem_cons.mpr ⟨mc_X11_fail_r2 _ (List.mem_of_getElem? (i := 1) rfl), List.forall_mem_cons.mpr ⟨mc_X11_fail_r2 _ (List.mem_of_getElem? (i := 2) rfl), fun _ h => absurd h List.not_mem_nil⟩⟩⟩⟩⟩⟩⟩⟩⟩⟩⟩⟩, tl_X11_fail_X2⟩, tl_X11_fail_X1⟩⟩) (by decide +kernel)
set_option maxRecDepth 20000 in
theorem gX11_fail_X2_holder : GoodIn wsX11_fail (wsV RX11 236 RX2 yX2_holder wsX2_holder) := goodIn_app (goodIn_sub (List.forall_mem_cons.mpr ⟨mc_X11_fail_r1 _ (List.mem_of_getElem? (i := 10) rfl), List.forall_mem_cons.mpr ⟨mc_X11_fail_r1 _ (List.mem_of_getElem? (i := 11) rfl), List.forall_mem_cons.mpr ⟨mc_X11_fail_r1 _ (List.mem_of_getElem? (i := 12) rfl), List.forall_mem_cons.mpr ⟨mc_X11_fail_r1 _ (List.mem_of_getElem? (i := 13) rfl), fun _ h => absurd h List.not_mem_nil⟩⟩⟩⟩) (by decide +kernel)) ggX11_fail_X2_holder
set_option maxRecDepth 20000 in
theorem mm_X11_fail_X2_replace_r1 : ∀ w ∈ wsX2_replace_r1, w ∈ wsX11_fail := List.forall_mem_cons.mpr ⟨mc_X11_fail_r2 _ (List.mem_of_getElem? (i := 7) rfl), List.forall_mem_cons.mpr ⟨mc_X11_fail_r2 _ (List.mem_of_getElem? (i := 8) rfl), List.forall_mem_cons.mpr ⟨mc_X11_fail_r2 _ (List.mem_of_getElem? (i := 9) rfl), List.forall_mem_cons.mpr ⟨mc_X11_fail_r2 _ (List.mem_of_getElem? (i := 10) rfl), List.forall_mem_cons.mpr ⟨mc_X11_fail_r1 _ (List.mem_of_getElem? (i := 13) rfl), List.forall_mem_cons.mpr ⟨mc_X11_fail_r2 _ (List.mem_of_getElem? (i := 11) rfl), List.forall_mem_cons.mpr ⟨mc_X11_fail_r2 _ (List.mem_of_getElem? (i := 12) rfl), List.forall_mem_cons.mpr ⟨mc_X11_fail_r2 _ (List.mem_of_getElem? (i := 13) rfl), List.forall_mem_cons.mpr ⟨mc_X11_fail_r2 _ (List.mem_of_getElem? (i := 14) rfl), List.forall_mem_cons.mpr ⟨mc_X11_fail_r2 _ (List.mem_of_getElem? (i := 15) rfl), List.forall_mem_cons.mpr ⟨mc_X11_fail_r2 _ (List.mem_of_getElem? (i := 16) rfl), List.forall_mem_cons.mpr ⟨mc_X11_fail_r2 _ (List.mem_of_getElem? (i := 17) rfl), List.forall_mem_cons.mpr ⟨mc_X11_fail_r2 _ (List.mem_of_getElem? (i := 18) rfl), List.forall_mem_cons.mpr ⟨mc_X11_fail_r2 _ (List.mem_of_getElem? (i := 19) rfl), List.forall_mem_cons.mpr ⟨mc_X11_fail_r2 _ (List.mem_of_getElem? (i := 20) rfl), List.forall_mem_cons.mpr ⟨mc_X11_fail_r2 _ (List.mem_of_getElem? (i := 21) rfl), List.forall_mem_cons.mpr ⟨mc_X11_fail_r2 _ (List.mem_of_getElem? (i := 22) rfl), List.forall_mem_cons.mpr ⟨mc_X11_fail_r2 _ (List.mem_of_getElem? (i := 23) rfl), List.forall_mem_cons.mpr ⟨mc_X11_fail_r3 _ (List.mem_of_getElem? (i := 0) rfl), List.forall_mem_cons.mpr ⟨mc_X11_fail_r3 _ (List.mem_of_getElem? (i := 1) rfl), List.forall_mem_cons.mpr ⟨mc_X11_fail_r3 _ (List.mem_of_getElem? (i := 2) rfl), List.forall_mem_cons.mpr ⟨mc_X11_fail_r3 _ (List.mem_of_getElem? (i := 3) rfl), List.forall_mem_cons.mpr ⟨mc_X11_fail_r3 _ (List.mem_of_getElem? (i := 4) rfl), List.forall_mem_cons.mpr ⟨mc_X11_fail_r3 _ (List.mem_of_getElem? (i := 5) rfl), fun _ h => absurd h List.not_mem_nil⟩⟩⟩⟩⟩⟩⟩⟩⟩⟩⟩⟩⟩⟩⟩⟩⟩⟩⟩⟩⟩⟩⟩⟩
set_option maxRecDepth 20000 in
theorem mm_X11_fail_X2_replace_r2 : ∀ w ∈ wsX2_replace_r2, w ∈ wsX11_fail := List.forall_mem_cons.mpr ⟨mc_X11_fail_r3 _ (List.mem_of_getElem? (i := 6) rfl), List.forall_mem_cons.mpr ⟨mc_X11_fail_r3 _ (List.mem_of_getElem? (i := 7) rfl), List.forall_mem_cons.mpr ⟨mc_X11_fail_r3 _ (List.mem_of_getElem? (i := 8) rfl), List.forall_mem_cons.mpr ⟨mc_X11_fail_r3 _ (List.mem_of_getElem? (i := 9) rfl), List.forall_mem_cons.mpr ⟨mc_X11_fail_r3 _ (List.mem_of_getElem? (i := 10) rfl), List.forall_mem_cons.mpr ⟨mc_X11_fail_r3 _ (List.mem_of_getElem? (i := 11) rfl), List.forall_mem_cons.mpr ⟨mc_X11_fail_r1 _ (List.mem_of_getElem? (i := 11) rfl), List.forall_mem_cons.mpr ⟨mc_X11_fail_r1 _ (List.mem_of_getElem? (i := 12) rfl), List.forall_mem_cons.mpr ⟨mc_X11_fail_r1 _ (List.mem_of_getElem? (i := 14) rfl), List.forall_mem_cons.mpr ⟨mc_X11_fail_r1 _ (List.mem_of_getElem? (i := 15) rfl), List.forall_mem_cons.mpr ⟨mc_X11_fail_r1 _ (List.mem_of_getElem? (i := 16) rfl), List.forall_mem_cons.mpr ⟨mc_X11_fail_r1 _ (List.mem_of_getElem? (i := 17) rfl), List.forall_mem_cons.mpr ⟨mc_X11_fail_r1 _ (List.mem_of_getElem? (i := 18) rfl), List.forall_mem_cons.mpr ⟨mc_X11_fail_r1 _ (List.mem_of_getElem? (i := 19) rfl), List.forall_mem_cons.mpr ⟨mc_X11_fail_r1 _ (List.mem_of_getElem? (i := 20) rfl), List.forall_mem_cons.mpr ⟨mc_X11_fail_r1 _ (List.mem_of_getElem? (i := 21) rfl), List.forall_mem_cons.mpr ⟨mc_X11_fail_r1 _ (List.mem_of_getElem? (i := 22) rfl), List.forall_mem_cons.mpr ⟨mc_X11_fail_r1 _ (List.mem_of_getElem? (i := 23) rfl), List.forall_mem_cons.mpr ⟨mc_X11_fail_r2 _ (List.mem_of_getElem? (i := 0) rfl), List.forall_mem_cons.mpr ⟨mc_X11_fail_r2 _ (List.mem_of_getElem? (i := 1) rfl), List.forall_mem_cons.mpr ⟨mc_X11_fail_r2 _ (List.mem_of_getElem? (i := 2) rfl), List.forall_mem_cons.mpr ⟨mc_X11_fail_r3 _ (List.mem_of_getElem? (i := 12) rfl), List.forall_mem_cons.mpr ⟨mc_X11_fail_r3 _ (List.mem_of_getElem? (i := 13) rfl), List.forall_mem_cons.mpr ⟨mc_X11_fail_r3 _ (List.mem_of_getElem? (i := 14) rfl), fun _ h => absurd h List.not_mem_nil⟩⟩⟩⟩⟩⟩⟩⟩⟩⟩⟩⟩⟩⟩⟩⟩⟩⟩⟩⟩⟩⟩⟩⟩
set_option maxRecDepth 20000 in
theorem mm_X11_fail_X2_replace_r3 : ∀ w ∈ wsX2_replace_r3, w ∈ wsX11_fail := List.forall_mem_cons.mpr ⟨mc_X11_fail_r3 _ (List.mem_of_getElem? (i := 15) rfl), List.forall_mem_cons.mpr ⟨mc_X11_fail_r3 _ (List.mem_of_getElem? (i := 16) rfl), List.forall_mem_cons.mpr ⟨mc_X11_fail_r3 _ (List.mem_of_getElem? (i := 17) rfl), List.forall_mem_cons.mpr ⟨mc_X11_fail_r3 _ (List.mem_of_getElem? (i := 18) rfl), List.forall_mem_cons.mpr ⟨mc_X11_fail_r3 _ (List.mem_of_getElem? (i := 19) rfl), List.forall_mem_cons.mpr ⟨mc_X11_fail_r3 _ (List.mem_of_getElem? (i := 20) rfl), List.forall_mem_cons.mpr ⟨mc_X11_fail_r1 _ (List.mem_of_getElem? (i := 8) rfl), List.forall_mem_cons.mpr ⟨mc_X11_fail_r1 _ (List.mem_of_getElem? (i := 5) rfl), List.forall_mem_cons.mpr ⟨mc_X11_fail_r1 _ (List.mem_of_getElem? (i := 9) rfl), List.forall_mem_cons.mpr ⟨mc_X11_fail_r3 _ (List.mem_of_getElem? (i := 21) rfl), List.forall_mem_cons.mpr ⟨mc_X11_fail_r3 _ (List.mem_of_getElem? (i := 22) rfl), List.forall_mem_cons.mpr ⟨mc_X11_fail_r3 _ (List.mem_of_getElem? (i := 23) rfl), List.forall_mem_cons.mpr ⟨mc_X11_fail_r4 _ (List.mem_of_getElem? (i := 0) rfl), List.forall_mem_cons.mpr ⟨mc_X11_fail_r4 _ (List.mem_of_getElem? (i := 1) rfl), List.forall_mem_cons.mpr ⟨mc_X11_fail_r4 _ (List.mem_of_getElem? (i := 2) rfl), List.forall_mem_cons.mpr ⟨mc_X11_fail_r4 _ (List.mem_of_getElem? (i := 3) rfl), List.forall_mem_cons.mpr ⟨mc_X11_fail_r4 _ (List.mem_of_getElem? (i := 4) rfl), List.forall_mem_cons.mpr ⟨mc_X11_fail_r4 _ (List.mem_of_getElem? (i := 5) rfl), List.forall_mem_cons.mpr ⟨mc_X11_fail_r4 _ (List.mem_of_getElem? (i := 6) rfl), List.forall_mem_cons.mpr ⟨mc_X11_fail_r4 _ (List.mem_of_getElem? (i := 7) rfl), List.forall_mem_cons.mpr ⟨mc_X11_fail_r4 _ (List.mem_of_getElem? (i := 8) rfl), List.forall_mem_cons.mpr ⟨mc_X11_fail_r4 _ (List.mem_of_getElem? (i := 9) rfl), List.forall_mem_cons.mpr ⟨mc_X11_fail_r4 _ (List.mem_of_getElem? (i := 10) rfl), List.forall_mem_cons.mpr ⟨mc_X11_fail_r4 _ (List.mem_of_getElem? (i := 11) rfl), fun _ h => absurd h List.not_mem_nil⟩⟩⟩⟩⟩⟩⟩⟩⟩⟩⟩⟩⟩⟩⟩⟩⟩⟩⟩⟩⟩⟩⟩⟩
set_option maxRecDepth 20000 in
theorem mm_X11_fail_X2_replace_r4 : ∀ w ∈ wsX2_replace_r4, w ∈ wsX11_fail := List.forall_mem_cons.mpr ⟨mc_X11_fail_r4 _ (List.mem_of_getElem? (i := 12) rfl), List.forall_mem_cons.mpr ⟨mc_X11_fail_r4 _ (List.mem_of_getElem? (i := 13) rfl), List.forall_mem_cons.mpr ⟨mc_X11_fail_r4 _ (List.mem_of_getElem? (i := 14) rfl), List.forall_mem_cons.mpr ⟨mc_X11_fail_r4 _ (List.mem_of_getElem? (i := 15) rfl), List.forall_mem_cons.mpr ⟨mc_X11_fail_r4 _ (List.mem_of_getElem? (i := 16) rfl), List.forall_mem_cons.mpr ⟨mc_X11_fail_r4 _ (List.mem_of_getElem? (i := 17) rfl), fun _ h => absurd h List.not_mem_nil⟩⟩⟩⟩⟩⟩
set_option maxRecDepth 20000 in
theorem ggX11_fail_X2_replace : GoodIn wsX11_fail wsX2_replace := goodIn_sub (List.forall_mem_cons.mpr ⟨mc_X11_fail_r2 _ (List.mem_of_getElem? (i := 6) rfl), List.forall_mem_append.mpr ⟨List.forall_mem_append.mpr ⟨List.forall_mem_append.mpr ⟨List.forall_mem_append.mpr ⟨mm_X11_fail_X2_replace_r1, List.forall_mem_append.mpr ⟨mm_X11_fail_X2_replace_r2, List.forall_mem_append.mpr ⟨mm_X11_fail_X2_replace_r3, mm_X11_fail_X2_replace_r4⟩⟩⟩, tl_X11_fail_X2⟩, tl_X11_fail_X5⟩, tl_X11_fail_X1⟩⟩) (by decide +kernel)
set_option maxRecDepth 20000 in
theorem gX11_fail_X2_replace : GoodIn wsX11_fail (wsV RX11 245 RX2 yX2_replace wsX2_replace) := goodIn_app (goodIn_sub (List.forall_mem_cons.mpr ⟨mc_X11_fail_r2 _ (List.mem_of_getElem? (i := 3) rfl), List.forall_mem_cons.mpr ⟨mc_X11_fail_r2 _ (List.mem_of_getElem? (i := 4) rfl), List.forall_mem_cons.mpr ⟨mc_X11_fail_r2 _ (List.mem_of_getElem? (i := 5) rfl), List.forall_mem_cons.mpr ⟨mc_X11_fail_r1 _ (List.mem_of_getElem? (i := 13) rfl), fun _ h => absurd h List.not_mem_nil⟩⟩⟩⟩) (by decide +kernel)) ggX11_fail_X2_replace
theorem dX11_fail_0 : decode cX11_fail 0 = .ok (.aload_n 0, 1) := by decide +kernel
theorem dX11_fail_1 : decode cX11_fail 1 = .ok (.getfield 82, 3) := by decide +kernel
theorem dX11_fail_4 : decode cX11_fail 4 = .ok (.ifCond .le 32, 3) := by decide +kernel
theorem dX11_fail_7 : decode cX11_fail 7 = .ok (.iload_n 1, 1) := by decide +kernel
theorem dX11_fail_8 : decode cX11_fail 8 = .ok (.invokestatic 233, 3) := by decide +kernel
theorem dX11_fail_11 : decode cX11_fail 11 = .ok (.ifCond .eq 25, 3) := by decide +kernel
theorem dX11_fail_14 : decode cX11_fail 14 = .ok (.aload_n 0, 1) := by decide +kernel
theorem dX11_fail_15 : decode cX11_fail 15 = .ok (.getfield 54, 3) := by decide +kernel
theorem dX11_fail_18 : decode cX11_fail 18 = .ok (.aload_n 0, 1) := by decide +kernel
theorem dX11_fail_19 : decode cX11_fail 19 = .ok (.getfield 82, 3) := by decide +kernel
theorem dX11_fail_22 : decode cX11_fail 22 = .ok (.iconst 1, 1) := by decide +kernel
theorem dX11_fail_23 : decode cX11_fail 23 = .ok (.isub, 1) := by decide +kernel
theorem dX11_fail_24 : decode cX11_fail 24 = .ok (.iload_n 1, 1) := by decide +kernel
theorem dX11_fail_25 : decode cX11_fail 25 = .ok (.invokevirtual 236, 3) := by decide +kernel
theorem dX11_fail_28 : decode cX11_fail 28 = .ok (.iconst (-1), 1) := by decide +kernel
theorem dX11_fail_29 : decode cX11_fail 29 = .ok (.if_icmp .eq 7, 3) := by decide +kernel
theorem dX11_fail_32 : decode cX11_fail 32 = .ok (.iconst 1, 1) := by decide +kernel
theorem dX11_fail_33 : decode cX11_fail 33 = .ok (.goto 4, 3) := by decide +kernel
theorem dX11_fail_36 : decode cX11_fail 36 = .ok (.iconst 0, 1) := by decide +kernel
theorem dX11_fail_37 : decode cX11_fail 37 = .ok (.istore_n 2, 1) := by decide +kernel
theorem dX11_fail_38 : decode cX11_fail 38 = .ok (.iload_n 2, 1) := by decide +kernel
theorem dX11_fail_39 : decode cX11_fail 39 = .ok (.ifCond .eq 24, 3) := by decide +kernel
theorem dX11_fail_42 : decode cX11_fail 42 = .ok (.aload_n 0, 1) := by decide +kernel
theorem dX11_fail_43 : decode cX11_fail 43 = .ok (.getfield 54, 3) := by decide +kernel
theorem dX11_fail_46 : decode cX11_fail 46 = .ok (.aload_n 0, 1) := by decide +kernel
theorem dX11_fail_47 : decode cX11_fail 47 = .ok (.getfield 47, 3) := by decide +kernel
theorem dX11_fail_50 : decode cX11_fail 50 = .ok (.aload_n 0, 1) := by decide +kernel
theorem dX11_fail_51 : decode cX11_fail 51 = .ok (.getfield 82, 3) := by decide +kernel
theorem dX11_fail_54 : decode cX11_fail 54 = .ok (.iconst 1, 1) := by decide +kernel
theorem dX11_fail_55 : decode cX11_fail 55 = .ok (.isub, 1) := by decide +kernel
theorem dX11_fail_56 : decode cX11_fail 56 = .ok (.iload_n 1, 1) := by decide +kernel
theorem dX11_fail_57 : decode cX11_fail 57 = .ok (.invokevirtual 245, 3) := by decide +kernel
theorem dX11_fail_60 : decode cX11_fail 60 = .ok (.goto 5, 3) := by decide +kernel
theorem dX11_fail_63 : decode cX11_fail 63 = .ok (.bipush (-2), 2) := by decide +kernel
theorem dX11_fail_65 : decode cX11_fail 65 = .ok (.ireturn, 1) := by decide +kernel
set_option maxRecDepth 20000 in
theorem ggX11_dayOf_X11_isGoneBy : GoodIn wsX11_dayOf wsX11_isGoneBy := goodIn_sub (List.forall_mem_cons.mpr ⟨List.mem_cons_of_mem _ (List.mem_append_left _ (List.mem_append_left _ (List.mem_of_getElem? (i := 5) rfl))), List.forall_mem_append.mpr ⟨List.forall_mem_cons.mpr ⟨List.mem_cons_of_mem _ (List.mem_append_left _ (List.mem_append_left _ (List.mem_of_getElem? (i := 6) rfl))), fun _ h => absurd h List.not_mem_nil⟩, tl_X11_dayOf_X11⟩⟩) (by decide +kernel)
set_option maxRecDepth 20000 in
theorem gX11_dayOf_X11_isGoneBy : GoodIn wsX11_dayOf (wsV RX11 230 RX11 yX11_isGoneBy wsX11_isGoneBy) := goodIn_app (goodIn_sub (List.forall_mem_cons.mpr ⟨List.mem_cons_of_mem _ (List.mem_append_left _ (List.mem_append_left _ (List.mem_of_getElem? (i := 1) rfl))), List.forall_mem_cons.mpr ⟨List.mem_cons_of_mem _ (List.mem_append_left _ (List.mem_append_left _ (List.mem_of_getElem? (i := 2) rfl))), List.forall_mem_cons.mpr ⟨List.mem_cons_of_mem _ (List.mem_append_left _ (List.mem_append_left _ (List.mem_of_getElem? (i := 3) rfl))), List.forall_mem_cons.mpr ⟨List.mem_cons_of_mem _ (List.mem_append_left _ (List.mem_append_left _ (List.mem_of_getElem? (i := 4) rfl))), fun _ h => absurd h List.not_mem_nil⟩⟩⟩⟩) (by decide +kernel)) ggX11_dayOf_X11_isGoneBy
set_option maxRecDepth 20000 in
theorem ggX11_dayOf_X1_at : GoodIn wsX11_dayOf wsX1_at := goodIn_sub (List.forall_mem_cons.mpr ⟨List.mem_cons_of_mem _ (List.mem_append_left _ (List.mem_append_left _ (List.mem_of_getElem? (i := 11) rfl))), List.forall_mem_append.mpr ⟨List.forall_mem_cons.mpr ⟨List.mem_cons_of_mem _ (List.mem_append_left _ (List.mem_append_left _ (List.mem_of_getElem? (i := 12) rfl))), List.forall_mem_cons.mpr ⟨List.mem_cons_of_mem _ (List.mem_append_left _ (List.mem_append_left _ (List.mem_of_getElem? (i := 13) rfl))), List.forall_mem_cons.mpr ⟨List.mem_cons_of_mem _ (List.mem_append_left _ (List.mem_append_left _ (List.mem_of_getElem? (i := 14) rfl))), List.forall_mem_cons.mpr ⟨List.mem_cons_of_mem _ (List.mem_append_left _ (List.mem_append_left _ (List.mem_of_getElem? (i := 15) rfl))), List.forall_mem_cons.mpr ⟨List.mem_cons_of_mem _ (List.mem_append_left _ (List.mem_append_left _ (List.mem_of_getElem? (i := 16) rfl))), List.forall_mem_cons.mpr ⟨List.mem_cons_of_mem _ (List.mem_append_left _ (List.mem_append_left _ (List.mem_of_getElem? (i := 10) rfl))), List.forall_mem_cons.mpr ⟨List.mem_cons_of_mem _ (List.mem_append_left _ (List.mem_append_left _ (List.mem_of_getElem? (i := 17) rfl))), fun _ h => absurd h List.not_mem_nil⟩⟩⟩⟩⟩⟩⟩, tl_X11_dayOf_X1⟩⟩) (by decide +kernel)
set_option maxRecDepth 20000 in
theorem gX11_dayOf_X1_at : GoodIn wsX11_dayOf (wsV RX11 249 RX1 yX1_at wsX1_at) := goodIn_app (goodIn_sub (List.forall_mem_cons.mpr ⟨List.mem_cons_of_mem _ (List.mem_append_left _ (List.mem_append_left _ (List.mem_of_getElem? (i := 7) rfl))), List.forall_mem_cons.mpr ⟨List.mem_cons_of_mem _ (List.mem_append_left _ (List.mem_append_left _ (List.mem_of_getElem? (i := 8) rfl))), List.forall_mem_cons.mpr ⟨List.mem_cons_of_mem _ (List.mem_append_left _ (List.mem_append_left _ (List.mem_of_getElem? (i := 9) rfl))), List.forall_mem_cons.mpr ⟨List.mem_cons_of_mem _ (List.mem_append_left _ (List.mem_append_left _ (List.mem_of_getElem? (i := 10) rfl))), fun _ h => absurd h List.not_mem_nil⟩⟩⟩⟩) (by decide +kernel)) ggX11_dayOf_X1_at
theorem dX11_dayOf_0 : decode cX11_dayOf 0 = .ok (.aload_n 0, 1) := by decide +kernel
theorem dX11_dayOf_1 : decode cX11_dayOf 1 = .ok (.iload_n 1, 1) := by decide +kernel
theorem dX11_dayOf_2 : decode cX11_dayOf 2 = .ok (.invokevirtual 230, 3) := by decide +kernel
theorem dX11_dayOf_5 : decode cX11_dayOf 5 = .ok (.ifCond .eq 15, 3) := by decide +kernel
theorem dX11_dayOf_8 : decode cX11_dayOf 8 = .ok (.aload_n 0, 1) := by decide +kernel
theorem dX11_dayOf_9 : decode cX11_dayOf 9 = .ok (.getfield 70, 3) := by decide +kernel
theorem dX11_dayOf_12 : decode cX11_dayOf 12 = .ok (.iload_n 1, 1) := by decide +kernel
theorem dX11_dayOf_13 : decode cX11_dayOf 13 = .ok (.iload_n 2, 1) := by decide +kernel
theorem dX11_dayOf_14 : decode cX11_dayOf 14 = .ok (.invokevirtual 249, 3) := by decide +kernel
theorem dX11_dayOf_17 : decode cX11_dayOf 17 = .ok (.goto 4, 3) := by decide +kernel
theorem dX11_dayOf_20 : decode cX11_dayOf 20 = .ok (.iconst (-1), 1) := by decide +kernel
theorem dX11_dayOf_21 : decode cX11_dayOf 21 = .ok (.ireturn, 1) := by decide +kernel
set_option maxRecDepth 20000 in
theorem ggX11_count_X5_size : GoodIn wsX11_count wsX5_size := goodIn_sub (List.forall_mem_cons.mpr ⟨mc_X11_count_r1 _ (List.mem_of_getElem? (i := 13) rfl), List.forall_mem_append.mpr ⟨List.forall_mem_cons.mpr ⟨mc_X11_count_r1 _ (List.mem_of_getElem? (i := 14) rfl), fun _ h => absurd h List.not_mem_nil⟩, tl_X11_count_X5⟩⟩) (by decide +kernel)
set_option maxRecDepth 20000 in
theorem gX11_count_X5_size : GoodIn wsX11_count (wsV RX11 252 RX5 yX5_size wsX5_size) := goodIn_app (goodIn_sub (List.forall_mem_cons.mpr ⟨mc_X11_count_r1 _ (List.mem_of_getElem? (i := 9) rfl), List.forall_mem_cons.mpr ⟨mc_X11_count_r1 _ (List.mem_of_getElem? (i := 10) rfl), List.forall_mem_cons.mpr ⟨mc_X11_count_r1 _ (List.mem_of_getElem? (i := 11) rfl), List.forall_mem_cons.mpr ⟨mc_X11_count_r1 _ (List.mem_of_getElem? (i := 12) rfl), fun _ h => absurd h List.not_mem_nil⟩⟩⟩⟩) (by decide +kernel)) ggX11_count_X5_size
set_option maxRecDepth 20000 in
theorem ggX11_count_X3_size : GoodIn wsX11_count wsX3_size := goodIn_sub (List.forall_mem_cons.mpr ⟨mc_X11_count_r1 _ (List.mem_of_getElem? (i := 19) rfl), List.forall_mem_append.mpr ⟨List.forall_mem_cons.mpr ⟨mc_X11_count_r1 _ (List.mem_of_getElem? (i := 20) rfl), fun _ h => absurd h List.not_mem_nil⟩, tl_X11_count_X3⟩⟩) (by decide +kernel)
set_option maxRecDepth 20000 in
theorem gX11_count_X3_size : GoodIn wsX11_count (wsV RX11 255 RX3 yX3_size wsX3_size) := goodIn_app (goodIn_sub (List.forall_mem_cons.mpr ⟨mc_X11_count_r1 _ (List.mem_of_getElem? (i := 15) rfl), List.forall_mem_cons.mpr ⟨mc_X11_count_r1 _ (List.mem_of_getElem? (i := 16) rfl), List.forall_mem_cons.mpr ⟨mc_X11_count_r1 _ (List.mem_of_getElem? (i := 17) rfl), List.forall_mem_cons.mpr ⟨mc_X11_count_r1 _ (List.mem_of_getElem? (i := 18) rfl), fun _ h => absurd h List.not_mem_nil⟩⟩⟩⟩) (by decide +kernel)) ggX11_count_X3_size
set_option maxRecDepth 20000 in
theorem ggX11_count_X4_size : GoodIn wsX11_count wsX4_size := goodIn_sub (List.forall_mem_cons.mpr ⟨mc_X11_count_r2 _ (List.mem_of_getElem? (i := 1) rfl), List.forall_mem_append.mpr ⟨List.forall_mem_cons.mpr ⟨mc_X11_count_r2 _ (List.mem_of_getElem? (i := 2) rfl), fun _ h => absurd h List.not_mem_nil⟩, tl_X11_count_X4⟩⟩) (by decide +kernel)
set_option maxRecDepth 20000 in
theorem gX11_count_X4_size : GoodIn wsX11_count (wsV RX11 256 RX4 yX4_size wsX4_size) := goodIn_app (goodIn_sub (List.forall_mem_cons.mpr ⟨mc_X11_count_r1 _ (List.mem_of_getElem? (i := 21) rfl), List.forall_mem_cons.mpr ⟨mc_X11_count_r1 _ (List.mem_of_getElem? (i := 22) rfl), List.forall_mem_cons.mpr ⟨mc_X11_count_r1 _ (List.mem_of_getElem? (i := 23) rfl), List.forall_mem_cons.mpr ⟨mc_X11_count_r2 _ (List.mem_of_getElem? (i := 0) rfl), fun _ h => absurd h List.not_mem_nil⟩⟩⟩⟩) (by decide +kernel)) ggX11_count_X4_size
set_option maxRecDepth 20000 in
theorem ggX11_count_X7_size : GoodIn wsX11_count wsX7_size := goodIn_sub (List.forall_mem_cons.mpr ⟨mc_X11_count_r2 _ (List.mem_of_getElem? (i := 7) rfl), List.forall_mem_append.mpr ⟨List.forall_mem_cons.mpr ⟨mc_X11_count_r2 _ (List.mem_of_getElem? (i := 8) rfl), fun _ h => absurd h List.not_mem_nil⟩, tl_X11_count_X7⟩⟩) (by decide +kernel)
set_option maxRecDepth 20000 in
theorem gX11_count_X7_size : GoodIn wsX11_count (wsV RX11 257 RX7 yX7_size wsX7_size) := goodIn_app (goodIn_sub (List.forall_mem_cons.mpr ⟨mc_X11_count_r2 _ (List.mem_of_getElem? (i := 3) rfl), List.forall_mem_cons.mpr ⟨mc_X11_count_r2 _ (List.mem_of_getElem? (i := 4) rfl), List.forall_mem_cons.mpr ⟨mc_X11_count_r2 _ (List.mem_of_getElem? (i := 5) rfl), List.forall_mem_cons.mpr ⟨mc_X11_count_r2 _ (List.mem_of_getElem? (i := 6) rfl), fun _ h => absurd h List.not_mem_nil⟩⟩⟩⟩) (by decide +kernel)) ggX11_count_X7_size
set_option maxRecDepth 20000 in
theorem ggX11_count_X4_owedInAll : GoodIn wsX11_count wsX4_owedInAll := goodIn_sub (List.forall_mem_cons.mpr ⟨mc_X11_count_r2 _ (List.mem_of_getElem? (i := 12) rfl), List.forall_mem_append.mpr ⟨List.forall_mem_cons.mpr ⟨mc_X11_count_r2 _ (List.mem_of_getElem? (i := 13) rfl), List.forall_mem_cons.mpr ⟨mc_X11_count_r2 _ (List.mem_of_getElem? (i := 14) rfl), List.forall_mem_cons.mpr ⟨mc_X11_count_r2 _ (List.mem_of_getElem? (i := 15) rfl), List.forall_mem_cons.mpr ⟨mc_X11_count_r2 _ (List.mem_of_getElem? (i := 16) rfl), List.forall_mem_cons.mpr ⟨mc_X11_count_r2 _ (List.mem_of_getElem? (i := 0) rfl), List.forall_mem_cons.mpr ⟨mc_X11_count_r2 _ (List.mem_of_getElem? (i := 17) rfl), List.forall_mem_cons.mpr ⟨mc_X11_count_r2 _ (List.mem_of_getElem? (i := 2) rfl), fun _ h => absurd h List.not_mem_nil⟩⟩⟩⟩⟩⟩⟩, tl_X11_count_X4⟩⟩) (by decide +kernel)
set_option maxRecDepth 20000 in
theorem gX11_count_X4_owedInAll : GoodIn wsX11_count (wsV RX11 227 RX4 yX4_owedInAll wsX4_owedInAll) := goodIn_app (goodIn_sub (List.forall_mem_cons.mpr ⟨mc_X11_count_r2 _ (List.mem_of_getElem? (i := 9) rfl), List.forall_mem_cons.mpr ⟨mc_X11_count_r2 _ (List.mem_of_getElem? (i := 10) rfl), List.forall_mem_cons.mpr ⟨mc_X11_count_r2 _ (List.mem_of_getElem? (i := 11) rfl), List.forall_mem_cons.mpr ⟨mc_X11_count_r2 _ (List.mem_of_getElem? (i := 0) rfl), fun _ h => absurd h List.not_mem_nil⟩⟩⟩⟩) (by decide +kernel)) ggX11_count_X4_owedInAll
set_option maxRecDepth 20000 in
theorem ggX11_count_X4_saidInAll : GoodIn wsX11_count wsX4_saidInAll := goodIn_sub (List.forall_mem_cons.mpr ⟨mc_X11_count_r2 _ (List.mem_of_getElem? (i := 21) rfl), List.forall_mem_append.mpr ⟨List.forall_mem_cons.mpr ⟨mc_X11_count_r2 _ (List.mem_of_getElem? (i := 22) rfl), List.forall_mem_cons.mpr ⟨mc_X11_count_r2 _ (List.mem_of_getElem? (i := 14) rfl), List.forall_mem_cons.mpr ⟨mc_X11_count_r2 _ (List.mem_of_getElem? (i := 15) rfl), List.forall_mem_cons.mpr ⟨mc_X11_count_r2 _ (List.mem_of_getElem? (i := 16) rfl), List.forall_mem_cons.mpr ⟨mc_X11_count_r2 _ (List.mem_of_getElem? (i := 0) rfl), List.forall_mem_cons.mpr ⟨mc_X11_count_r2 _ (List.mem_of_getElem? (i := 17) rfl), List.forall_mem_cons.mpr ⟨mc_X11_count_r2 _ (List.mem_of_getElem? (i := 2) rfl), fun _ h => absurd h List.not_mem_nil⟩⟩⟩⟩⟩⟩⟩, tl_X11_count_X4⟩⟩) (by decide +kernel)
set_option maxRecDepth 20000 in
theorem gX11_count_X4_saidInAll : GoodIn wsX11_count (wsV RX11 258 RX4 yX4_saidInAll wsX4_saidInAll) := goodIn_app (goodIn_sub (List.forall_mem_cons.mpr ⟨mc_X11_count_r2 _ (List.mem_of_getElem? (i := 18) rfl), List.forall_mem_cons.mpr ⟨mc_X11_count_r2 _ (List.mem_of_getElem? (i := 19) rfl), List.forall_mem_cons.mpr ⟨mc_X11_count_r2 _ (List.mem_of_getElem? (i := 20) rfl), List.forall_mem_cons.mpr ⟨mc_X11_count_r2 _ (List.mem_of_getElem? (i := 0) rfl), fun _ h => absurd h List.not_mem_nil⟩⟩⟩⟩) (by decide +kernel)) ggX11_count_X4_saidInAll
set_option maxRecDepth 20000 in
theorem ggX11_count_X9_length : GoodIn wsX11_count wsX9_length := goodIn_sub (List.forall_mem_cons.mpr ⟨mc_X11_count_r3 _ (List.mem_of_getElem? (i := 3) rfl), List.forall_mem_append.mpr ⟨List.forall_mem_cons.mpr ⟨mc_X11_count_r3 _ (List.mem_of_getElem? (i := 4) rfl), fun _ h => absurd h List.not_mem_nil⟩, tl_X11_count_X9⟩⟩) (by decide +kernel)
set_option maxRecDepth 20000 in
theorem gX11_count_X9_length : GoodIn wsX11_count (wsV RX11 144 RX9 yX9_length wsX9_length) := goodIn_app (goodIn_sub (List.forall_mem_cons.mpr ⟨mc_X11_count_r2 _ (List.mem_of_getElem? (i := 23) rfl), List.forall_mem_cons.mpr ⟨mc_X11_count_r3 _ (List.mem_of_getElem? (i := 0) rfl), List.forall_mem_cons.mpr ⟨mc_X11_count_r3 _ (List.mem_of_getElem? (i := 1) rfl), List.forall_mem_cons.mpr ⟨mc_X11_count_r3 _ (List.mem_of_getElem? (i := 2) rfl), fun _ h => absurd h List.not_mem_nil⟩⟩⟩⟩) (by decide +kernel)) ggX11_count_X9_length
theorem dX11_count_0 : decode cX11_count 0 = .ok (.iload_n 1, 1) := by decide +kernel
theorem dX11_count_1 : decode cX11_count 1 = .ok (.tableswitch 135 0 10 #[59, 64, 72, 80, 88, 93, 98, 106, 114, 122, 127], 59) := by decide +kernel
theorem dX11_count_60 : decode cX11_count 60 = .ok (.aload_n 0, 1) := by decide +kernel
theorem dX11_count_61 : decode cX11_count 61 = .ok (.getfield 82, 3) := by decide +kernel
theorem dX11_count_64 : decode cX11_count 64 = .ok (.ireturn, 1) := by decide +kernel
theorem dX11_count_65 : decode cX11_count 65 = .ok (.aload_n 0, 1) := by decide +kernel
theorem dX11_count_66 : decode cX11_count 66 = .ok (.getfield 47, 3) := by decide +kernel
theorem dX11_count_69 : decode cX11_count 69 = .ok (.invokevirtual 252, 3) := by decide +kernel
theorem dX11_count_72 : decode cX11_count 72 = .ok (.ireturn, 1) := by decide +kernel
theorem dX11_count_73 : decode cX11_count 73 = .ok (.aload_n 0, 1) := by decide +kernel
theorem dX11_count_74 : decode cX11_count 74 = .ok (.getfield 19, 3) := by decide +kernel
theorem dX11_count_77 : decode cX11_count 77 = .ok (.invokevirtual 255, 3) := by decide +kernel
theorem dX11_count_80 : decode cX11_count 80 = .ok (.ireturn, 1) := by decide +kernel
theorem dX11_count_81 : decode cX11_count 81 = .ok (.aload_n 0, 1) := by decide +kernel
theorem dX11_count_82 : decode cX11_count 82 = .ok (.getfield 61, 3) := by decide +kernel
theorem dX11_count_85 : decode cX11_count 85 = .ok (.invokevirtual 256, 3) := by decide +kernel
theorem dX11_count_88 : decode cX11_count 88 = .ok (.ireturn, 1) := by decide +kernel
theorem dX11_count_89 : decode cX11_count 89 = .ok (.aload_n 0, 1) := by decide +kernel
theorem dX11_count_90 : decode cX11_count 90 = .ok (.getfield 187, 3) := by decide +kernel
theorem dX11_count_93 : decode cX11_count 93 = .ok (.ireturn, 1) := by decide +kernel
theorem dX11_count_94 : decode cX11_count 94 = .ok (.aload_n 0, 1) := by decide +kernel
theorem dX11_count_95 : decode cX11_count 95 = .ok (.getfield 191, 3) := by decide +kernel
theorem dX11_count_98 : decode cX11_count 98 = .ok (.ireturn, 1) := by decide +kernel
theorem dX11_count_99 : decode cX11_count 99 = .ok (.aload_n 0, 1) := by decide +kernel
theorem dX11_count_100 : decode cX11_count 100 = .ok (.getfield 40, 3) := by decide +kernel
theorem dX11_count_103 : decode cX11_count 103 = .ok (.invokevirtual 257, 3) := by decide +kernel
theorem dX11_count_106 : decode cX11_count 106 = .ok (.ireturn, 1) := by decide +kernel
theorem dX11_count_107 : decode cX11_count 107 = .ok (.aload_n 0, 1) := by decide +kernel
theorem dX11_count_108 : decode cX11_count 108 = .ok (.getfield 61, 3) := by decide +kernel
theorem dX11_count_111 : decode cX11_count 111 = .ok (.invokevirtual 227, 3) := by decide +kernel
theorem dX11_count_114 : decode cX11_count 114 = .ok (.ireturn, 1) := by decide +kernel
theorem dX11_count_115 : decode cX11_count 115 = .ok (.aload_n 0, 1) := by decide +kernel
theorem dX11_count_116 : decode cX11_count 116 = .ok (.getfield 61, 3) := by decide +kernel
theorem dX11_count_119 : decode cX11_count 119 = .ok (.invokevirtual 258, 3) := by decide +kernel
theorem dX11_count_122 : decode cX11_count 122 = .ok (.ireturn, 1) := by decide +kernel
theorem dX11_count_123 : decode cX11_count 123 = .ok (.aload_n 0, 1) := by decide +kernel
theorem dX11_count_124 : decode cX11_count 124 = .ok (.getfield 221, 3) := by decide +kernel
theorem dX11_count_127 : decode cX11_count 127 = .ok (.ireturn, 1) := by decide +kernel
theorem dX11_count_128 : decode cX11_count 128 = .ok (.aload_n 0, 1) := by decide +kernel
theorem dX11_count_129 : decode cX11_count 129 = .ok (.getfield 26, 3) := by decide +kernel
theorem dX11_count_132 : decode cX11_count 132 = .ok (.invokevirtual 144, 3) := by decide +kernel
theorem dX11_count_135 : decode cX11_count 135 = .ok (.ireturn, 1) := by decide +kernel
theorem dX11_count_136 : decode cX11_count 136 = .ok (.iconst (-1), 1) := by decide +kernel
theorem dX11_count_137 : decode cX11_count 137 = .ok (.ireturn, 1) := by decide +kernel
set_option maxRecDepth 20000 in
theorem ggX11_foodNeeded_X3_rankHeld : GoodIn wsX11_foodNeeded wsX3_rankHeld := goodIn_sub (List.forall_mem_cons.mpr ⟨mc_X11_foodNeeded_r1 _ (List.mem_of_getElem? (i := 10) rfl), List.forall_mem_append.mpr ⟨List.forall_mem_cons.mpr ⟨mc_X11_foodNeeded_r1 _ (List.mem_of_getElem? (i := 11) rfl), List.forall_mem_cons.mpr ⟨mc_X11_foodNeeded_r1 _ (List.mem_of_getElem? (i := 12) rfl), List.forall_mem_cons.mpr ⟨mc_X11_foodNeeded_r1 _ (List.mem_of_getElem? (i := 13) rfl), List.forall_mem_cons.mpr ⟨mc_X11_foodNeeded_r1 _ (List.mem_of_getElem? (i := 14) rfl), List.forall_mem_cons.mpr ⟨mc_X11_foodNeeded_r1 _ (List.mem_of_getElem? (i := 9) rfl), List.forall_mem_cons.mpr ⟨mc_X11_foodNeeded_r1 _ (List.mem_of_getElem? (i := 15) rfl), List.forall_mem_cons.mpr ⟨mc_X11_foodNeeded_r1 _ (List.mem_of_getElem? (i := 16) rfl), List.forall_mem_cons.mpr ⟨mc_X11_foodNeeded_r1 _ (List.mem_of_getElem? (i := 17) rfl), List.forall_mem_cons.mpr ⟨mc_X11_foodNeeded_r1 _ (List.mem_of_getElem? (i := 18) rfl), List.forall_mem_cons.mpr ⟨mc_X11_foodNeeded_r1 _ (List.mem_of_getElem? (i := 19) rfl), List.forall_mem_cons.mpr ⟨mc_X11_foodNeeded_r1 _ (List.mem_of_getElem? (i := 20) rfl), List.forall_mem_cons.mpr ⟨mc_X11_foodNeeded_r1 _ (List.mem_of_getElem? (i := 21) rfl), List.forall_mem_cons.mpr ⟨mc_X11_foodNeeded_r1 _ (List.mem_of_getElem? (i := 22) rfl), List.forall_mem_cons.mpr ⟨mc_X11_foodNeeded_r1 _ (List.mem_of_getElem? (i := 23) rfl), fun _ h => absurd h List.not_mem_nil⟩⟩⟩⟩⟩⟩⟩⟩⟩⟩⟩⟩⟩⟩, tl_X11_foodNeeded_X3⟩⟩) (by decide +kernel)
set_option maxRecDepth 20000 in
theorem gX11_foodNeeded_X3_rankHeld : GoodIn wsX11_foodNeeded (wsV RX11 162 RX3 yX3_rankHeld wsX3_rankHeld) := goodIn_app (goodIn_sub (List.forall_mem_cons.mpr ⟨mc_X11_foodNeeded_r1 _ (List.mem_of_getElem? (i := 6) rfl), List.forall_mem_cons.mpr ⟨mc_X11_foodNeeded_r1 _ (List.mem_of_getElem? (i := 7) rfl), List.forall_mem_cons.mpr ⟨mc_X11_foodNeeded_r1 _ (List.mem_of_getElem? (i := 8) rfl), List.forall_mem_cons.mpr ⟨mc_X11_foodNeeded_r1 _ (List.mem_of_getElem? (i := 9) rfl), fun _ h => absurd h List.not_mem_nil⟩⟩⟩⟩) (by decide +kernel)) ggX11_foodNeeded_X3_rankHeld
set_option maxRecDepth 20000 in
theorem ggX11_foodNeeded_X7_shareOfHead : GoodIn wsX11_foodNeeded wsX7_shareOfHead := goodIn_sub (List.forall_mem_cons.mpr ⟨mc_X11_foodNeeded_r2 _ (List.mem_of_getElem? (i := 4) rfl), List.forall_mem_append.mpr ⟨List.forall_mem_cons.mpr ⟨mc_X11_foodNeeded_r2 _ (List.mem_of_getElem? (i := 5) rfl), List.forall_mem_cons.mpr ⟨mc_X11_foodNeeded_r2 _ (List.mem_of_getElem? (i := 6) rfl), List.forall_mem_cons.mpr ⟨mc_X11_foodNeeded_r2 _ (List.mem_of_getElem? (i := 7) rfl), List.forall_mem_cons.mpr ⟨mc_X11_foodNeeded_r2 _ (List.mem_of_getElem? (i := 3) rfl), List.forall_mem_cons.mpr ⟨mc_X11_foodNeeded_r2 _ (List.mem_of_getElem? (i := 8) rfl), List.forall_mem_cons.mpr ⟨mc_X11_foodNeeded_r2 _ (List.mem_of_getElem? (i := 9) rfl), List.forall_mem_cons.mpr ⟨mc_X11_foodNeeded_r2 _ (List.mem_of_getElem? (i := 10) rfl), List.forall_mem_cons.mpr ⟨mc_X11_foodNeeded_r2 _ (List.mem_of_getElem? (i := 11) rfl), List.forall_mem_cons.mpr ⟨mc_X11_foodNeeded_r2 _ (List.mem_of_getElem? (i := 12) rfl), List.forall_mem_cons.mpr ⟨mc_X11_foodNeeded_r2 _ (List.mem_of_getElem? (i := 13) rfl), List.forall_mem_cons.mpr ⟨mc_X11_foodNeeded_r2 _ (List.mem_of_getElem? (i := 14) rfl), List.forall_mem_cons.mpr ⟨mc_X11_foodNeeded_r2 _ (List.mem_of_getElem? (i := 15) rfl), List.forall_mem_cons.mpr ⟨mc_X11_foodNeeded_r2 _ (List.mem_of_getElem? (i := 16) rfl), List.forall_mem_cons.mpr ⟨mc_X11_foodNeeded_r2 _ (List.mem_of_getElem? (i := 17) rfl), List.forall_mem_cons.mpr ⟨mc_X11_foodNeeded_r2 _ (List.mem_of_getElem? (i := 18) rfl), List.forall_mem_cons.mpr ⟨mc_X11_foodNeeded_r2 _ (List.mem_of_getElem? (i := 19) rfl), List.forall_mem_cons.mpr ⟨mc_X11_foodNeeded_r2 _ (List.mem_of_getElem? (i := 20) rfl), List.forall_mem_cons.mpr ⟨mc_X11_foodNeeded_r2 _ (List.mem_of_getElem? (i := 21) rfl), List.forall_mem_cons.mpr ⟨mc_X11_foodNeeded_r2 _ (List.mem_of_getElem? (i := 22) rfl), List.forall_mem_cons.mpr ⟨mc_X11_foodNeeded_r2 _ (List.mem_of_getElem? (i := 23) rfl), List.forall_mem_cons.mpr ⟨mc_X11_foodNeeded_r3 _ (List.mem_of_getElem? (i := 0) rfl), List.forall_mem_cons.mpr ⟨mc_X11_foodNeeded_r3 _ (List.mem_of_getElem? (i := 1) rfl), List.forall_mem_cons.mpr ⟨mc_X11_foodNeeded_r3 _ (List.mem_of_getElem? (i := 2) rfl), fun _ h => absurd h List.not_mem_nil⟩⟩⟩⟩⟩⟩⟩⟩⟩⟩⟩⟩⟩⟩⟩⟩⟩⟩⟩⟩⟩⟩⟩, tl_X11_foodNeeded_X7⟩⟩) (by decide +kernel)
set_option maxRecDepth 20000 in
theorem gX11_foodNeeded_X7_shareOfHead : GoodIn wsX11_foodNeeded (wsV RX11 168 RX7 yX7_shareOfHead wsX7_shareOfHead) := goodIn_app (goodIn_sub (List.forall_mem_cons.mpr ⟨mc_X11_foodNeeded_r2 _ (List.mem_of_getElem? (i := 0) rfl), List.forall_mem_cons.mpr ⟨mc_X11_foodNeeded_r2 _ (List.mem_of_getElem? (i := 1) rfl), List.forall_mem_cons.mpr ⟨mc_X11_foodNeeded_r2 _ (List.mem_of_getElem? (i := 2) rfl), List.forall_mem_cons.mpr ⟨mc_X11_foodNeeded_r2 _ (List.mem_of_getElem? (i := 3) rfl), fun _ h => absurd h List.not_mem_nil⟩⟩⟩⟩) (by decide +kernel)) ggX11_foodNeeded_X7_shareOfHead
set_option maxRecDepth 20000 in
theorem ggX11_foodNeeded_X5_size : GoodIn wsX11_foodNeeded wsX5_size := goodIn_sub (List.forall_mem_cons.mpr ⟨mc_X11_foodNeeded_r3 _ (List.mem_of_getElem? (i := 7) rfl), List.forall_mem_append.mpr ⟨List.forall_mem_cons.mpr ⟨mc_X11_foodNeeded_r3 _ (List.mem_of_getElem? (i := 8) rfl), fun _ h => absurd h List.not_mem_nil⟩, tl_X11_foodNeeded_X5⟩⟩) (by decide +kernel)
set_option maxRecDepth 20000 in
theorem gX11_foodNeeded_X5_size : GoodIn wsX11_foodNeeded (wsV RX11 252 RX5 yX5_size wsX5_size) := goodIn_app (goodIn_sub (List.forall_mem_cons.mpr ⟨mc_X11_foodNeeded_r3 _ (List.mem_of_getElem? (i := 3) rfl), List.forall_mem_cons.mpr ⟨mc_X11_foodNeeded_r3 _ (List.mem_of_getElem? (i := 4) rfl), List.forall_mem_cons.mpr ⟨mc_X11_foodNeeded_r3 _ (List.mem_of_getElem? (i := 5) rfl), List.forall_mem_cons.mpr ⟨mc_X11_foodNeeded_r3 _ (List.mem_of_getElem? (i := 6) rfl), fun _ h => absurd h List.not_mem_nil⟩⟩⟩⟩) (by decide +kernel)) ggX11_foodNeeded_X5_size
set_option maxRecDepth 20000 in
theorem ggX11_foodNeeded_X7_shareOfGuest : GoodIn wsX11_foodNeeded wsX7_shareOfGuest := goodIn_sub (List.forall_mem_cons.mpr ⟨mc_X11_foodNeeded_r3 _ (List.mem_of_getElem? (i := 12) rfl), List.forall_mem_append.mpr ⟨List.forall_mem_cons.mpr ⟨mc_X11_foodNeeded_r2 _ (List.mem_of_getElem? (i := 23) rfl), List.forall_mem_cons.mpr ⟨mc_X11_foodNeeded_r3 _ (List.mem_of_getElem? (i := 0) rfl), List.forall_mem_cons.mpr ⟨mc_X11_foodNeeded_r3 _ (List.mem_of_getElem? (i := 1) rfl), List.forall_mem_cons.mpr ⟨mc_X11_foodNeeded_r2 _ (List.mem_of_getElem? (i := 3) rfl), List.forall_mem_cons.mpr ⟨mc_X11_foodNeeded_r3 _ (List.mem_of_getElem? (i := 2) rfl), List.forall_mem_cons.mpr ⟨mc_X11_foodNeeded_r2 _ (List.mem_of_getElem? (i := 9) rfl), List.forall_mem_cons.mpr ⟨mc_X11_foodNeeded_r2 _ (List.mem_of_getElem? (i := 20) rfl), List.forall_mem_cons.mpr ⟨mc_X11_foodNeeded_r2 _ (List.mem_of_getElem? (i := 21) rfl), List.forall_mem_cons.mpr ⟨mc_X11_foodNeeded_r2 _ (List.mem_of_getElem? (i := 22) rfl), List.forall_mem_cons.mpr ⟨mc_X11_foodNeeded_r2 _ (List.mem_of_getElem? (i := 10) rfl), List.forall_mem_cons.mpr ⟨mc_X11_foodNeeded_r2 _ (List.mem_of_getElem? (i := 11) rfl), List.forall_mem_cons.mpr ⟨mc_X11_foodNeeded_r2 _ (List.mem_of_getElem? (i := 12) rfl), List.forall_mem_cons.mpr ⟨mc_X11_foodNeeded_r2 _ (List.mem_of_getElem? (i := 13) rfl), List.forall_mem_cons.mpr ⟨mc_X11_foodNeeded_r2 _ (List.mem_of_getElem? (i := 14) rfl), List.forall_mem_cons.mpr ⟨mc_X11_foodNeeded_r2 _ (List.mem_of_getElem? (i := 15) rfl), fun _ h => absurd h List.not_mem_nil⟩⟩⟩⟩⟩⟩⟩⟩⟩⟩⟩⟩⟩⟩⟩, tl_X11_foodNeeded_X7⟩⟩) (by decide +kernel)
set_option maxRecDepth 20000 in
theorem gX11_foodNeeded_X7_shareOfGuest : GoodIn wsX11_foodNeeded (wsV RX11 171 RX7 yX7_shareOfGuest wsX7_shareOfGuest) := goodIn_app (goodIn_sub (List.forall_mem_cons.mpr ⟨mc_X11_foodNeeded_r3 _ (List.mem_of_getElem? (i := 9) rfl), List.forall_mem_cons.mpr ⟨mc_X11_foodNeeded_r3 _ (List.mem_of_getElem? (i := 10) rfl), List.forall_mem_cons.mpr ⟨mc_X11_foodNeeded_r3 _ (List.mem_of_getElem? (i := 11) rfl), List.forall_mem_cons.mpr ⟨mc_X11_foodNeeded_r2 _ (List.mem_of_getElem? (i := 3) rfl), fun _ h => absurd h List.not_mem_nil⟩⟩⟩⟩) (by decide +kernel)) ggX11_foodNeeded_X7_shareOfGuest
theorem dX11_foodNeeded_0 : decode cX11_foodNeeded 0 = .ok (.aload_n 0, 1) := by decide +kernel
theorem dX11_foodNeeded_1 : decode cX11_foodNeeded 1 = .ok (.getfield 40, 3) := by decide +kernel
theorem dX11_foodNeeded_4 : decode cX11_foodNeeded 4 = .ok (.aload_n 0, 1) := by decide +kernel
theorem dX11_foodNeeded_5 : decode cX11_foodNeeded 5 = .ok (.getfield 82, 3) := by decide +kernel
theorem dX11_foodNeeded_8 : decode cX11_foodNeeded 8 = .ok (.aload_n 0, 1) := by decide +kernel
theorem dX11_foodNeeded_9 : decode cX11_foodNeeded 9 = .ok (.getfield 19, 3) := by decide +kernel
theorem dX11_foodNeeded_12 : decode cX11_foodNeeded 12 = .ok (.aload_n 0, 1) := by decide +kernel
theorem dX11_foodNeeded_13 : decode cX11_foodNeeded 13 = .ok (.getfield 82, 3) := by decide +kernel
theorem dX11_foodNeeded_16 : decode cX11_foodNeeded 16 = .ok (.sipush 365, 3) := by decide +kernel
theorem dX11_foodNeeded_19 : decode cX11_foodNeeded 19 = .ok (.irem, 1) := by decide +kernel
theorem dX11_foodNeeded_20 : decode cX11_foodNeeded 20 = .ok (.invokevirtual 162, 3) := by decide +kernel
theorem dX11_foodNeeded_23 : decode cX11_foodNeeded 23 = .ok (.invokevirtual 168, 3) := by decide +kernel
theorem dX11_foodNeeded_26 : decode cX11_foodNeeded 26 = .ok (.istore_n 1, 1) := by decide +kernel
theorem dX11_foodNeeded_27 : decode cX11_foodNeeded 27 = .ok (.aload_n 0, 1) := by decide +kernel
theorem dX11_foodNeeded_28 : decode cX11_foodNeeded 28 = .ok (.getfield 47, 3) := by decide +kernel
theorem dX11_foodNeeded_31 : decode cX11_foodNeeded 31 = .ok (.invokevirtual 252, 3) := by decide +kernel
theorem dX11_foodNeeded_34 : decode cX11_foodNeeded 34 = .ok (.iload_n 1, 1) := by decide +kernel
theorem dX11_foodNeeded_35 : decode cX11_foodNeeded 35 = .ok (.imul, 1) := by decide +kernel
theorem dX11_foodNeeded_36 : decode cX11_foodNeeded 36 = .ok (.aload_n 0, 1) := by decide +kernel
theorem dX11_foodNeeded_37 : decode cX11_foodNeeded 37 = .ok (.getfield 191, 3) := by decide +kernel
theorem dX11_foodNeeded_40 : decode cX11_foodNeeded 40 = .ok (.aload_n 0, 1) := by decide +kernel
theorem dX11_foodNeeded_41 : decode cX11_foodNeeded 41 = .ok (.getfield 40, 3) := by decide +kernel
theorem dX11_foodNeeded_44 : decode cX11_foodNeeded 44 = .ok (.aload_n 0, 1) := by decide +kernel
theorem dX11_foodNeeded_45 : decode cX11_foodNeeded 45 = .ok (.getfield 82, 3) := by decide +kernel
theorem dX11_foodNeeded_48 : decode cX11_foodNeeded 48 = .ok (.invokevirtual 171, 3) := by decide +kernel
theorem dX11_foodNeeded_51 : decode cX11_foodNeeded 51 = .ok (.imul, 1) := by decide +kernel
theorem dX11_foodNeeded_52 : decode cX11_foodNeeded 52 = .ok (.iadd, 1) := by decide +kernel
theorem dX11_foodNeeded_53 : decode cX11_foodNeeded 53 = .ok (.aload_n 0, 1) := by decide +kernel
theorem dX11_foodNeeded_54 : decode cX11_foodNeeded 54 = .ok (.getfield 194, 3) := by decide +kernel
theorem dX11_foodNeeded_57 : decode cX11_foodNeeded 57 = .ok (.iadd, 1) := by decide +kernel
theorem dX11_foodNeeded_58 : decode cX11_foodNeeded 58 = .ok (.ireturn, 1) := by decide +kernel
theorem dX11_isGoneBy_0 : decode cX11_isGoneBy 0 = .ok (.iload_n 1, 1) := by decide +kernel
theorem dX11_isGoneBy_1 : decode cX11_isGoneBy 1 = .ok (.ifCond .lt 15, 3) := by decide +kernel
theorem dX11_isGoneBy_4 : decode cX11_isGoneBy 4 = .ok (.iload_n 1, 1) := by decide +kernel
theorem dX11_isGoneBy_5 : decode cX11_isGoneBy 5 = .ok (.aload_n 0, 1) := by decide +kernel
theorem dX11_isGoneBy_6 : decode cX11_isGoneBy 6 = .ok (.getfield 82, 3) := by decide +kernel
theorem dX11_isGoneBy_9 : decode cX11_isGoneBy 9 = .ok (.if_icmp .ge 7, 3) := by decide +kernel
theorem dX11_isGoneBy_12 : decode cX11_isGoneBy 12 = .ok (.iconst 1, 1) := by decide +kernel
theorem dX11_isGoneBy_13 : decode cX11_isGoneBy 13 = .ok (.goto 4, 3) := by decide +kernel
theorem dX11_isGoneBy_16 : decode cX11_isGoneBy 16 = .ok (.iconst 0, 1) := by decide +kernel
theorem dX11_isGoneBy_17 : decode cX11_isGoneBy 17 = .ok (.ireturn, 1) := by decide +kernel
theorem dX11_within_0 : decode cX11_within 0 = .ok (.iload_n 0, 1) := by decide +kernel
theorem dX11_within_1 : decode cX11_within 1 = .ok (.iload_n 1, 1) := by decide +kernel
theorem dX11_within_2 : decode cX11_within 2 = .ok (.if_icmp .lt 12, 3) := by decide +kernel
theorem dX11_within_5 : decode cX11_within 5 = .ok (.iload_n 0, 1) := by decide +kernel
theorem dX11_within_6 : decode cX11_within 6 = .ok (.iload_n 2, 1) := by decide +kernel
theorem dX11_within_7 : decode cX11_within 7 = .ok (.if_icmp .gt 7, 3) := by decide +kernel
theorem dX11_within_10 : decode cX11_within 10 = .ok (.iconst 1, 1) := by decide +kernel
theorem dX11_within_11 : decode cX11_within 11 = .ok (.goto 4, 3) := by decide +kernel
theorem dX11_within_14 : decode cX11_within 14 = .ok (.iconst 0, 1) := by decide +kernel
theorem dX11_within_15 : decode cX11_within 15 = .ok (.ireturn, 1) := by decide +kernel
set_option maxRecDepth 20000 in
theorem ggX11_isDay_X11_within : GoodIn wsX11_isDay wsX11_within := goodIn_sub (List.forall_mem_cons.mpr ⟨List.mem_cons_of_mem _ (List.mem_of_getElem? (i := 3) rfl), fun _ h => absurd h List.not_mem_nil⟩) (by decide +kernel)
set_option maxRecDepth 20000 in
theorem gX11_isDay_X11_within : GoodIn wsX11_isDay (va_wsS RX11 78 yX11_within wsX11_within) := goodIn_app (goodIn_sub (List.forall_mem_cons.mpr ⟨List.mem_cons_of_mem _ (List.mem_of_getElem? (i := 0) rfl), List.forall_mem_cons.mpr ⟨List.mem_cons_of_mem _ (List.mem_of_getElem? (i := 1) rfl), List.forall_mem_cons.mpr ⟨List.mem_cons_of_mem _ (List.mem_of_getElem? (i := 2) rfl), fun _ h => absurd h List.not_mem_nil⟩⟩⟩) (by decide +kernel)) ggX11_isDay_X11_within
theorem dX11_isDay_0 : decode cX11_isDay 0 = .ok (.iload_n 0, 1) := by decide +kernel
theorem dX11_isDay_1 : decode cX11_isDay 1 = .ok (.iconst 0, 1) := by decide +kernel
theorem dX11_isDay_2 : decode cX11_isDay 2 = .ok (.sipush 1094, 3) := by decide +kernel
theorem dX11_isDay_5 : decode cX11_isDay 5 = .ok (.invokestatic 78, 3) := by decide +kernel
theorem dX11_isDay_8 : decode cX11_isDay 8 = .ok (.ireturn, 1) := by decide +kernel
set_option maxRecDepth 20000 in
theorem ggX11_isDayOfYear_X11_within : GoodIn wsX11_isDayOfYear wsX11_within := goodIn_sub (List.forall_mem_cons.mpr ⟨List.mem_cons_of_mem _ (List.mem_of_getElem? (i := 3) rfl), fun _ h => absurd h List.not_mem_nil⟩) (by decide +kernel)
set_option maxRecDepth 20000 in
theorem gX11_isDayOfYear_X11_within : GoodIn wsX11_isDayOfYear (va_wsS RX11 78 yX11_within wsX11_within) := goodIn_app (goodIn_sub (List.forall_mem_cons.mpr ⟨List.mem_cons_of_mem _ (List.mem_of_getElem? (i := 0) rfl), List.forall_mem_cons.mpr ⟨List.mem_cons_of_mem _ (List.mem_of_getElem? (i := 1) rfl), List.forall_mem_cons.mpr ⟨List.mem_cons_of_mem _ (List.mem_of_getElem? (i := 2) rfl), fun _ h => absurd h List.not_mem_nil⟩⟩⟩) (by decide +kernel)) ggX11_isDayOfYear_X11_within
theorem dX11_isDayOfYear_0 : decode cX11_isDayOfYear 0 = .ok (.iload_n 0, 1) := by decide +kernel
theorem dX11_isDayOfYear_1 : decode cX11_isDayOfYear 1 = .ok (.iconst 0, 1) := by decide +kernel
theorem dX11_isDayOfYear_2 : decode cX11_isDayOfYear 2 = .ok (.sipush 364, 3) := by decide +kernel
theorem dX11_isDayOfYear_5 : decode cX11_isDayOfYear 5 = .ok (.invokestatic 78, 3) := by decide +kernel
theorem dX11_isDayOfYear_8 : decode cX11_isDayOfYear 8 = .ok (.ireturn, 1) := by decide +kernel
set_option maxRecDepth 20000 in
theorem ggX11_isSpan_X11_isDay : GoodIn wsX11_isSpan wsX11_isDay := goodIn_sub (List.forall_mem_cons.mpr ⟨List.mem_cons_of_mem _ (List.mem_of_getElem? (i := 3) rfl), List.forall_mem_cons.mpr ⟨List.mem_cons_of_mem _ (List.mem_of_getElem? (i := 4) rfl), List.forall_mem_cons.mpr ⟨List.mem_cons_of_mem _ (List.mem_of_getElem? (i := 5) rfl), List.forall_mem_cons.mpr ⟨List.mem_cons_of_mem _ (List.mem_of_getElem? (i := 2) rfl), List.forall_mem_cons.mpr ⟨List.mem_cons_of_mem _ (List.mem_of_getElem? (i := 6) rfl), fun _ h => absurd h List.not_mem_nil⟩⟩⟩⟩⟩) (by decide +kernel)
set_option maxRecDepth 20000 in
theorem gX11_isSpan_X11_isDay : GoodIn wsX11_isSpan (va_wsS RX11 125 yX11_isDay wsX11_isDay) := goodIn_app (goodIn_sub (List.forall_mem_cons.mpr ⟨List.mem_cons_of_mem _ (List.mem_of_getElem? (i := 0) rfl), List.forall_mem_cons.mpr ⟨List.mem_cons_of_mem _ (List.mem_of_getElem? (i := 1) rfl), List.forall_mem_cons.mpr ⟨List.mem_cons_of_mem _ (List.mem_of_getElem? (i := 2) rfl), fun _ h => absurd h List.not_mem_nil⟩⟩⟩) (by decide +kernel)) ggX11_isSpan_X11_isDay
theorem dX11_isSpan_0 : decode cX11_isSpan 0 = .ok (.iload_n 0, 1) := by decide +kernel
theorem dX11_isSpan_1 : decode cX11_isSpan 1 = .ok (.invokestatic 125, 3) := by decide +kernel
theorem dX11_isSpan_4 : decode cX11_isSpan 4 = .ok (.ifCond .eq 19, 3) := by decide +kernel
theorem dX11_isSpan_7 : decode cX11_isSpan 7 = .ok (.iload_n 1, 1) := by decide +kernel
theorem dX11_isSpan_8 : decode cX11_isSpan 8 = .ok (.invokestatic 125, 3) := by decide +kernel
theorem dX11_isSpan_11 : decode cX11_isSpan 11 = .ok (.ifCond .eq 12, 3) := by decide +kernel
theorem dX11_isSpan_14 : decode cX11_isSpan 14 = .ok (.iload_n 0, 1) := by decide +kernel
theorem dX11_isSpan_15 : decode cX11_isSpan 15 = .ok (.iload_n 1, 1) := by decide +kernel
theorem dX11_isSpan_16 : decode cX11_isSpan 16 = .ok (.if_icmp .gt 7, 3) := by decide +kernel
theorem dX11_isSpan_19 : decode cX11_isSpan 19 = .ok (.iconst 1, 1) := by decide +kernel
theorem dX11_isSpan_20 : decode cX11_isSpan 20 = .ok (.goto 4, 3) := by decide +kernel
theorem dX11_isSpan_23 : decode cX11_isSpan 23 = .ok (.iconst 0, 1) := by decide +kernel
theorem dX11_isSpan_24 : decode cX11_isSpan 24 = .ok (.ireturn, 1) := by decide +kernel
set_option maxRecDepth 20000 in
theorem ggX11_isOffice_X11_within : GoodIn wsX11_isOffice wsX11_within := goodIn_sub (List.forall_mem_cons.mpr ⟨List.mem_cons_of_mem _ (List.mem_of_getElem? (i := 3) rfl), fun _ h => absurd h List.not_mem_nil⟩) (by decide +kernel)
set_option maxRecDepth 20000 in
theorem gX11_isOffice_X11_within : GoodIn wsX11_isOffice (va_wsS RX11 78 yX11_within wsX11_within) := goodIn_app (goodIn_sub (List.forall_mem_cons.mpr ⟨List.mem_cons_of_mem _ (List.mem_of_getElem? (i := 0) rfl), List.forall_mem_cons.mpr ⟨List.mem_cons_of_mem _ (List.mem_of_getElem? (i := 1) rfl), List.forall_mem_cons.mpr ⟨List.mem_cons_of_mem _ (List.mem_of_getElem? (i := 2) rfl), fun _ h => absurd h List.not_mem_nil⟩⟩⟩) (by decide +kernel)) ggX11_isOffice_X11_within
theorem dX11_isOffice_0 : decode cX11_isOffice 0 = .ok (.iload_n 0, 1) := by decide +kernel
theorem dX11_isOffice_1 : decode cX11_isOffice 1 = .ok (.iconst 0, 1) := by decide +kernel
theorem dX11_isOffice_2 : decode cX11_isOffice 2 = .ok (.bipush 7, 2) := by decide +kernel
theorem dX11_isOffice_4 : decode cX11_isOffice 4 = .ok (.invokestatic 78, 3) := by decide +kernel
theorem dX11_isOffice_7 : decode cX11_isOffice 7 = .ok (.ireturn, 1) := by decide +kernel
set_option maxRecDepth 20000 in
theorem ggX11_isDuty_X11_within : GoodIn wsX11_isDuty wsX11_within := goodIn_sub (List.forall_mem_cons.mpr ⟨List.mem_cons_of_mem _ (List.mem_of_getElem? (i := 3) rfl), fun _ h => absurd h List.not_mem_nil⟩) (by decide +kernel)
set_option maxRecDepth 20000 in
theorem gX11_isDuty_X11_within : GoodIn wsX11_isDuty (va_wsS RX11 78 yX11_within wsX11_within) := goodIn_app (goodIn_sub (List.forall_mem_cons.mpr ⟨List.mem_cons_of_mem _ (List.mem_of_getElem? (i := 0) rfl), List.forall_mem_cons.mpr ⟨List.mem_cons_of_mem _ (List.mem_of_getElem? (i := 1) rfl), List.forall_mem_cons.mpr ⟨List.mem_cons_of_mem _ (List.mem_of_getElem? (i := 2) rfl), fun _ h => absurd h List.not_mem_nil⟩⟩⟩) (by decide +kernel)) ggX11_isDuty_X11_within
theorem dX11_isDuty_0 : decode cX11_isDuty 0 = .ok (.iload_n 0, 1) := by decide +kernel
theorem dX11_isDuty_1 : decode cX11_isDuty 1 = .ok (.iconst 0, 1) := by decide +kernel
theorem dX11_isDuty_2 : decode cX11_isDuty 2 = .ok (.iconst 3, 1) := by decide +kernel
theorem dX11_isDuty_3 : decode cX11_isDuty 3 = .ok (.invokestatic 78, 3) := by decide +kernel
theorem dX11_isDuty_6 : decode cX11_isDuty 6 = .ok (.ireturn, 1) := by decide +kernel
theorem dX12_init_0 : decode cX12_init 0 = .ok (.aload_n 0, 1) := by decide +kernel
theorem dX12_init_1 : decode cX12_init 1 = .ok (.invokespecial 1, 3) := by decide +kernel
theorem dX12_init_4 : decode cX12_init 4 = .ok (.aload_n 0, 1) := by decide +kernel
theorem dX12_init_5 : decode cX12_init 5 = .ok (.bipush 24, 2) := by decide +kernel
theorem dX12_init_7 : decode cX12_init 7 = .ok (.newarray .boolean, 2) := by decide +kernel
theorem dX12_init_9 : decode cX12_init 9 = .ok (.putfield 7, 3) := by decide +kernel
theorem dX12_init_12 : decode cX12_init 12 = .ok (.aload_n 0, 1) := by decide +kernel
theorem dX12_init_13 : decode cX12_init 13 = .ok (.bipush 24, 2) := by decide +kernel
theorem dX12_init_15 : decode cX12_init 15 = .ok (.newarray .int, 2) := by decide +kernel
theorem dX12_init_17 : decode cX12_init 17 = .ok (.putfield 13, 3) := by decide +kernel
theorem dX12_init_20 : decode cX12_init 20 = .ok (.aload_n 0, 1) := by decide +kernel
theorem dX12_init_21 : decode cX12_init 21 = .ok (.bipush 24, 2) := by decide +kernel
theorem dX12_init_23 : decode cX12_init 23 = .ok (.newarray .int, 2) := by decide +kernel
theorem dX12_init_25 : decode cX12_init 25 = .ok (.putfield 17, 3) := by decide +kernel
theorem dX12_init_28 : decode cX12_init 28 = .ok (.aload_n 0, 1) := by decide +kernel
theorem dX12_init_29 : decode cX12_init 29 = .ok (.bipush 96, 2) := by decide +kernel
theorem dX12_init_31 : decode cX12_init 31 = .ok (.newarray .int, 2) := by decide +kernel
theorem dX12_init_33 : decode cX12_init 33 = .ok (.putfield 20, 3) := by decide +kernel
theorem dX12_init_36 : decode cX12_init 36 = .ok (.aload_n 0, 1) := by decide +kernel
theorem dX12_init_37 : decode cX12_init 37 = .ok (.bipush 60, 2) := by decide +kernel
theorem dX12_init_39 : decode cX12_init 39 = .ok (.newarray .int, 2) := by decide +kernel
theorem dX12_init_41 : decode cX12_init 41 = .ok (.putfield 23, 3) := by decide +kernel
theorem dX12_init_44 : decode cX12_init 44 = .ok (.aload_n 0, 1) := by decide +kernel
theorem dX12_init_45 : decode cX12_init 45 = .ok (.bipush 60, 2) := by decide +kernel

