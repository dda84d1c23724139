set_option maxHeartbeats 16000000 in
set_option maxRecDepth 100000 in
theorem lp_case18 {p : Program} {l : Launch} {e : Env} {s : State} {m : MethodId} {below : List Frame} {meth : Method} {c : Code} {D : va_G} {cI cZ cB : ClassId} {A : Nat → Prop} {b L : Nat} {xs : Nat → Int32} {adK adV : Nat → Nat} {fuel : Nat} (hx : p.tables.exec = Jvm.exec) (hb : c.code = cL_law) (hr_ : meth.sig.returnType = ret) (hml : c.maxLocals = 4) (hown : s.vm.findClass RL = some m.cls) (hts0 : ∀ w ∈ lw_tbl, w.before #[Value.ref b] s = true) (hX : va_X b L xs s s.heap) (hbl : b < s.heap.size) (hlocks : meth.locks = false) (hK : KK D cI cZ cB s) (hZ : SX adK adV A s s.heap) (hA : ∀ q : Nat, s.heap.size ≤ q → A q) (hAs : ∀ q : Nat, A q → s.heap.size ≤ q) (hbA : ¬ A b) (hL : L ≤ 3072) (ih : LoopGoal p l e s m below meth c D cI cZ cB A b L fuel) : CaseGoal p l e s m below meth c D cI cZ cB A b L fuel (fun _ _ _ _ => True) 772 := by
  intros i kc ks xh xa_bells xa_feasts xa_tape xa_reader xa_rules xa_monks xa_duties xa_gifts xa_figures xba_days xba_offices xba_delays xfa_falls xfa_ranks xfa_standsOn xfa_heldOn xfa_holder xfa_standing xta_bytes xqa_tokens xqa_kinds xqa_firsts xqa_seconds xqta_kinds xqta_places xqta_values xra_since xra_sizes xra_kinds xra_firsts xra_seconds xma_priests xma_barred xma_cameOn xma_absent xma_absentFrom xma_absentTo xua_holders xua_taken xuac xuL xga_weekly xga_doubled xga_dueOn xga_owed xga_said xga_spared xga_leaveOf xga_leaveFrom xga_leaveTo xdac xdL yh ya_isPriest ya_bars ya_joined ya_turns ya_awayMonk ya_awayFrom ya_awayTo ya_feastDay ya_rank ya_isWeekly ya_isDouble ya_giftDay ya_giftFrom ya_owed ya_said ya_spared ya_leaveGift ya_leaveFrom ya_leaveTo ya_lateDay ya_lateOffice ya_lateBy ya_guests ya_who ya_used ya_lacks ya_candles ya_masses ya_owing ya_heldOn ya_waits ya_tape ya_text ya_statements ya_taken ya_sort ya_first ya_second xv_today xv_stock xv_guestHeads xv_guestRanks xv_faultPlace xv_candlesInAll xbv_size xfv_size xtv_length xqv_size xqv_next xqv_first xqv_second xqtv_size xqtv_textLength xrv_size xmv_size xmv_rows xgv_size xgv_rows yv_today yv_monks yv_aways yv_gifts yv_leaves yv_lates yv_store yv_allCandles yv_taped yv_size yv_at yv_fault yv_rules yv_wordEnd yv_number xbf_days xbf_offices xbf_delays xff_falls xff_ranks xff_standsOn xff_heldOn xff_holder xff_standing xtf_bytes xqf_kinds xqf_firsts xqf_seconds xqtf_kinds xqtf_places xqtf_values xrf_since xrf_sizes xrf_kinds xrf_firsts xrf_seconds xmf_priests xmf_barred xmf_cameOn xmf_absent xmf_absentFrom xmf_absentTo xufc xuft xgf_weekly xgf_doubled xgf_dueOn xgf_owed xgf_said xgf_spared xgf_leaveOf xgf_leaveFrom xgf_leaveTo xdfc yf_isPriest yf_bars yf_joined yf_turns yf_awayMonk yf_awayFrom yf_awayTo yf_isWeekly yf_isDouble yf_giftDay yf_giftFrom yf_owed yf_said yf_spared yf_leaveGift yf_leaveFrom yf_leaveTo yf_lateDay yf_lateOffice yf_lateBy yf_guests yf_who yf_used yf_lacks yf_candles yf_masses yf_owing yf_heldOn yf_waits yf_tape yf_text yf_statements yf_taken yf_sort yf_first yf_second hmu hi0 hi1 h0_xv_today h1_xv_today h0_xbv_size h1_xbv_size h0_xfv_size h1_xfv_size h0_xtv_length h1_xtv_length h0_xqv_size h1_xqv_size h0_xqtv_size h1_xqtv_size h0_xrv_size h1_xrv_size h0_xmv_size h1_xmv_size h0_xmv_rows h1_xmv_rows h0_xgv_size h1_xgv_size h0_xgv_rows h1_xgv_rows h0_yv_today h1_yv_today h0_yv_monks h1_yv_monks h0_yv_aways h1_yv_aways h0_yv_gifts h1_yv_gifts h0_yv_leaves h1_yv_leaves h0_yv_lates h1_yv_lates h0_yv_taped h1_yv_taped h0_yv_rules h1_yv_rules hr_xv_today hr_xmv_size hr_xmv_rows hr_xgv_size hr_xgv_rows hu0 hu1 hd0 hd1 hu2 hd2 hkc hks hgu hfl hh hs hr hst hw hfe h6 hX_ H locs hP hD hS ls hl
  clear hX_
  have hts : ∀ w ∈ wsL_law, w.before #[Value.ref b] s = true := fun w h => hts0 w (wsL_law_in w h)
  have S : CallFix p m c cL_law 4 s #[Value.ref b] wsL_law RL := ⟨hx, hb, hml, hown, hts⟩
  have kk0 : (0 : Int32).toInt = 0 := by decide
  have kk1 : (1 : Int32).toInt = 1 := by decide
  have kk2 : (2 : Int32).toInt = 2 := by decide
  have kk3 : (3 : Int32).toInt = 3 := by decide
  have kk4 : (4 : Int32).toInt = 4 := by decide
  have kk5 : (5 : Int32).toInt = 5 := by decide
  have kk6 : (6 : Int32).toInt = 6 := by decide
  have kk31 : (31 : Int32).toInt = 31 := by decide
  have kkm1 : (-1 : Int32).toInt = -1 := by decide
  refine lv_aload_n hx hb dL_law_772 rfl (lv_at hl 2 rfl) ?_
  refine lv_aload_n hx hb dL_law_773 rfl (lv_at hl 3 rfl) ?_
  refine lv_iload_n hx hb dL_law_774 rfl (lv_at hl 0 rfl) ?_
  refine lv_iconst (v := 1) hx hb dL_law_775 (by decide) ?_
  refine lv_iadd hx hb dL_law_776 ?_
  refine lv_topi (fun x_1 ex_1 => ?_)
  have tx_1 := ld_1 ex_1 hi0 h6 hL
  refine va_sld hx hb hX hbl hbA hS (ld_in tx_1 hi0 h6 (by decide)) dL_law_777 ?_
  refine lv_topi (fun y_2 ey_2 => ?_)
  have ey_2 : y_2 = xs ((i + 1).toNatClampNeg) := by rw [ey_2, ex_1]
  refine lv_aload_n hx hb dL_law_778 rfl (lv_at hl 3 rfl) ?_
  refine lv_iload_n hx hb dL_law_779 rfl (lv_at hl 0 rfl) ?_
  refine lv_iconst (v := 2) hx hb dL_law_780 (by decide) ?_
  refine lv_iadd hx hb dL_law_781 ?_
  refine lv_topi (fun x_3 ex_3 => ?_)
  have tx_3 := ld_2 ex_3 hi0 h6 hL
  refine va_sld hx hb hX hbl hbA hS (ld_in tx_3 hi0 h6 (by decide)) dL_law_782 ?_
  refine lv_topi (fun y_4 ey_4 => ?_)
  have ey_4 : y_4 = xs ((i + 2).toNatClampNeg) := by rw [ey_4, ex_3]
  have hPc := hP.sub (ws' := [(xh, .inr (10, [.ref xa_bells, .ref xa_feasts, .ref xa_tape, .ref xa_reader, .ref xa_rules, .ref xa_monks, .ref xa_duties, .ref xa_gifts, .ref xa_figures, .int xv_today, .int xv_stock, .int xv_guestHeads, .int xv_guestRanks, .int xv_faultPlace, .int xv_candlesInAll])), (xa_duties, .inr (2, [.ref xua_holders, .ref xua_taken])), (xua_holders, .inr (1, [.int 4, .ref xuac])), (xuac, .inl (cI, xuL, .inl xufc))]) [0, 35, 36, 37] rfl
  refine roV (As := [.int y_2, .int y_4]) (rest := []) S (V_turn  (by first | assumption | omega)) (cwV 2 hts gL_law_X11_turn rfl rfl rfl ⟨rfl, hd_X11_turn⟩ ⟨Nat.le_of_ble_eq_true rfl, Nat.le_of_ble_eq_true rfl⟩) hK hPc (va_recv hK.1 hPc (ci := 10) (q0 := 0) rfl rfl) rfl hl.1 rfl (Nat.le_of_ble_eq_true rfl) dL_law_783 ⟨by show 90 + kc ≤ 600000; exact rm_c (a := 90) (m := 0) hkc h6 hL (by decide), by show 16895 + ks ≤ 7302250; exact rm_s (a := 16895) (m := 0) hks hu1 hd1 (by decide)⟩ (fun r_a hw_a => ?_)
  replace hw_a : True := hw_a
  refine lv_pop hx hb dL_law_786 rfl ?_
  refine lv_aload_n hx hb dL_law_787 rfl (lv_at hl 1 rfl) ?_
  refine lv_aload_n hx hb dL_law_788 rfl (lv_at hl 3 rfl) ?_
  refine lv_iload_n hx hb dL_law_789 rfl (lv_at hl 0 rfl) ?_
  refine lv_iconst (v := 1) hx hb dL_law_790 (by decide) ?_
  refine lv_iadd hx hb dL_law_791 ?_
  refine lv_topi (fun x_5 ex_5 => ?_)
  have tx_5 := ld_1 ex_5 hi0 h6 hL
  refine va_sld hx hb hX hbl hbA hS (ld_in tx_5 hi0 h6 (by decide)) dL_law_792 ?_
  refine lv_topi (fun y_6 ey_6 => ?_)
  have ey_6 : y_6 = xs ((i + 1).toNatClampNeg) := by rw [ey_6, ex_5]
  rw [show y_6 = y_2 from ey_6.trans ey_2.symm]
  refine lv_aload_n hx hb dL_law_793 rfl (lv_at hl 3 rfl) ?_
  refine lv_iload_n hx hb dL_law_794 rfl (lv_at hl 0 rfl) ?_
  refine lv_iconst (v := 2) hx hb dL_law_795 (by decide) ?_
  refine lv_iadd hx hb dL_law_796 ?_
  refine lv_topi (fun x_7 ex_7 => ?_)
  have tx_7 := ld_2 ex_7 hi0 h6 hL
  refine va_sld hx hb hX hbl hbA hS (ld_in tx_7 hi0 h6 (by decide)) dL_law_797 ?_
  refine lv_topi (fun y_8 ey_8 => ?_)
  have ey_8 : y_8 = xs ((i + 2).toNatClampNeg) := by rw [ey_8, ex_7]
  rw [show y_8 = y_4 from ey_8.trans ey_4.symm]
  have hPc := hP.sub (ws' := [(yh, .inr (11, [.int yv_today, .int yv_monks, .int yv_aways, .int xfv_size, .int yv_gifts, .int yv_leaves, .int yv_lates, .int yv_store, .int yv_allCandles, .ref ya_isPriest, .ref ya_bars, .ref ya_joined, .ref ya_turns, .ref ya_awayMonk, .ref ya_awayFrom, .ref ya_awayTo, .ref ya_feastDay, .ref ya_rank, .ref ya_isWeekly, .ref ya_isDouble, .ref ya_giftDay, .ref ya_giftFrom, .ref ya_owed, .ref ya_said, .ref ya_spared, .ref ya_leaveGift, .ref ya_leaveFrom, .ref ya_leaveTo, .ref ya_lateDay, .ref ya_lateOffice, .ref ya_lateBy, .ref ya_guests, .ref ya_who, .ref ya_used, .ref ya_lacks, .ref ya_candles, .ref ya_masses, .ref ya_owing, .ref ya_heldOn, .ref ya_waits, .ref ya_tape, .ref ya_text, .int yv_taped, .int yv_size, .int yv_at, .int yv_fault, .int yv_rules, .ref ya_statements, .ref ya_taken, .ref ya_sort, .ref ya_first, .ref ya_second, .int yv_wordEnd, .int yv_number])), (ya_who, .inl (cI, 4380, .inl yf_who))]) [51, 75] rfl
  refine roV (As := [.int y_2, .int y_4]) (rest := []) S (N_turn  (by first | assumption | omega) (by first | assumption | omega)) (cwV 2 hts gL_law_X12_turn rfl rfl rfl ⟨rfl, hd_X12_turn⟩ ⟨Nat.le_of_ble_eq_true rfl, Nat.le_of_ble_eq_true rfl⟩) hK hPc (va_recv hK.1 hPc (ci := 11) (q0 := 0) rfl rfl) rfl hl.1 rfl (Nat.le_of_ble_eq_true rfl) dL_law_798 ⟨by show 90 + kc ≤ 600000; exact rm_c (a := 90) (m := 0) hkc h6 hL (by decide), by show 16895 + ks ≤ 7302250; exact rm_s (a := 16895) (m := 0) hks hu1 hd1 (by decide)⟩ (fun r_b_ hw_b_ => ?_)
  replace hw_b_ : True := hw_b_
  refine lv_pop hx hb dL_law_801 rfl ?_
  refine lv_goto (tgt := 917) hx hb dL_law_802 (by decide) ?_
  obtain ⟨x_9, ex_9⟩ : ∃ y : Int32, y = i + 6 := ⟨_, rfl⟩
  refine lv_iinc (v := x_9) (lv' := [(3, .int x_9), (2, .ref yh), (1, .ref xh), (0, .ref b)]) hx hb dL_law_917 hl (k := 0) rfl (by rw [ex_9]; rfl) (by decide) rfl (fun ls hl => ?_)
  have tx_9 := ld_6 ex_9 hi0 h6 hL
  refine lv_goto (tgt := 18) hx hb dL_law_920 (by decide) ?_
  exact ih x_9 kc ks xh xa_bells xa_feasts xa_tape xa_reader xa_rules xa_monks xa_duties xa_gifts xa_figures xba_days xba_offices xba_delays xfa_falls xfa_ranks xfa_standsOn xfa_heldOn xfa_holder xfa_standing xta_bytes xqa_tokens xqa_kinds xqa_firsts xqa_seconds xqta_kinds xqta_places xqta_values xra_since xra_sizes xra_kinds xra_firsts xra_seconds xma_priests xma_barred xma_cameOn xma_absent xma_absentFrom xma_absentTo xua_holders xua_taken xuac xuL xga_weekly xga_doubled xga_dueOn xga_owed xga_said xga_spared xga_leaveOf xga_leaveFrom xga_leaveTo xdac xdL yh ya_isPriest ya_bars ya_joined ya_turns ya_awayMonk ya_awayFrom ya_awayTo ya_feastDay ya_rank ya_isWeekly ya_isDouble ya_giftDay ya_giftFrom ya_owed ya_said ya_spared ya_leaveGift ya_leaveFrom ya_leaveTo ya_lateDay ya_lateOffice ya_lateBy ya_guests ya_who ya_used ya_lacks ya_candles ya_masses ya_owing ya_heldOn ya_waits ya_tape ya_text ya_statements ya_taken ya_sort ya_first ya_second xv_today xv_stock xv_guestHeads xv_guestRanks xv_faultPlace xv_candlesInAll xbv_size xfv_size xtv_length xqv_size xqv_next xqv_first xqv_second xqtv_size xqtv_textLength xrv_size xmv_size xmv_rows xgv_size xgv_rows yv_today yv_monks yv_aways yv_gifts yv_leaves yv_lates yv_store yv_allCandles yv_taped yv_size yv_at yv_fault yv_rules yv_wordEnd yv_number xbf_days xbf_offices xbf_delays xff_falls xff_ranks xff_standsOn xff_heldOn xff_holder xff_standing xtf_bytes xqf_kinds xqf_firsts xqf_seconds xqtf_kinds xqtf_places xqtf_values xrf_since xrf_sizes xrf_kinds xrf_firsts xrf_seconds xmf_priests xmf_barred xmf_cameOn xmf_absent xmf_absentFrom xmf_absentTo xufc xuft xgf_weekly xgf_doubled xgf_dueOn xgf_owed xgf_said xgf_spared xgf_leaveOf xgf_leaveFrom xgf_leaveTo xdfc yf_isPriest yf_bars yf_joined yf_turns yf_awayMonk yf_awayFrom yf_awayTo yf_isWeekly yf_isDouble yf_giftDay yf_giftFrom yf_owed yf_said yf_spared yf_leaveGift yf_leaveFrom yf_leaveTo yf_lateDay yf_lateOffice yf_lateBy yf_guests yf_who yf_used yf_lacks yf_candles yf_masses yf_owing yf_heldOn yf_waits yf_tape yf_text yf_statements yf_taken yf_sort yf_first yf_second (st_mu hmu tx_9) (st_0 hi0 tx_9) (st_1 h6 tx_9) h0_xv_today h1_xv_today h0_xbv_size h1_xbv_size h0_xfv_size h1_xfv_size h0_xtv_length h1_xtv_length h0_xqv_size h1_xqv_size h0_xqtv_size h1_xqtv_size h0_xrv_size h1_xrv_size h0_xmv_size h1_xmv_size h0_xmv_rows h1_xmv_rows h0_xgv_size h1_xgv_size h0_xgv_rows h1_xgv_rows h0_yv_today h1_yv_today h0_yv_monks h1_yv_monks h0_yv_aways h1_yv_aways h0_yv_gifts h1_yv_gifts h0_yv_leaves h1_yv_leaves h0_yv_lates h1_yv_lates h0_yv_taped h1_yv_taped h0_yv_rules h1_yv_rules hr_xv_today hr_xmv_size hr_xmv_rows hr_xgv_size hr_xgv_rows hu0 hu1 hd0 hd1 hu2 hd2 (st_k hkc tx_9) hks hgu hfl hh hs hr hst hw hfe _ _ (hP.sub [0, 1, 2, 3, 4, 5, 6, 7, 8, 9, 10, 11, 12, 13, 14, 15, 16, 17, 18, 19, 20, 21, 22, 23, 24, 25, 26, 27, 28, 29, 30, 31, 32, 33, 34, 35, 36, 37, 38, 39, 40, 41, 42, 43, 44, 45, 46, 47, 48, 49, 50, 51, 52, 53, 54, 55, 56, 57, 58, 59, 60, 61, 62, 63, 64, 65, 66, 67, 68, 69, 70, 71, 72, 73, 74, 75, 76, 77, 78, 79, 80, 81, 82, 83, 84, 85, 86, 87, 88, 89] rfl) (hD.sub [0, 1, 2, 3, 4, 5, 6, 7, 8, 9, 10, 11, 12, 13, 14, 15, 16, 17, 18, 19, 20, 21, 22, 23, 24, 25, 26, 27, 28, 29, 30, 31, 32, 33, 34, 35, 36, 37, 38, 39, 40, 41, 42, 43, 44, 45, 46, 47, 48, 49, 50, 51, 52, 53, 54, 55, 56, 57, 58, 59, 60, 61, 62, 63, 64, 65, 66, 67, 68, 69, 70, 71, 72, 73, 74, 75, 76, 77, 78, 79, 80, 81, 82, 83, 84, 85, 86, 87, 88, 89] (by decide +kernel) rfl) hS ls (lv_sub hl [0, 1, 2, 3] rfl)

