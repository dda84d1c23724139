set_option maxHeartbeats 16000000 in
set_option maxRecDepth 100000 in
theorem lp_all {p : Program} {l : Launch} {e : Env} {s : State} {m : MethodId} {below : List Frame} {meth : Method} {c : Code} {D : va_G} {cI cZ cB : ClassId} {A : Nat → Prop} {b L : Nat} {xs : Nat → Int32} {adK adV : Nat → Nat} (hx : p.tables.exec = Jvm.exec) (hb : c.code = cL_law) (hr_ : meth.sig.returnType = ret) (hml : c.maxLocals = 4) (hown : s.vm.findClass RL = some m.cls) (hts0 : ∀ w ∈ lw_tbl, w.before #[Value.ref b] s = true) (hX : va_X b L xs s s.heap) (hbl : b < s.heap.size) (hlocks : meth.locks = false) (hK : KK D cI cZ cB s) (hZ : SX adK adV A s s.heap) (hA : ∀ q : Nat, s.heap.size ≤ q → A q) (hAs : ∀ q : Nat, A q → s.heap.size ≤ q) (hbA : ¬ A b) (hL : L ≤ 3072) (fuel : Nat) : LoopGoal p l e s m below meth c D cI cZ cB A b L fuel := by
  have hts : ∀ w ∈ wsL_law, w.before #[Value.ref b] s = true := fun w h => hts0 w (wsL_law_in w h)
  have S : CallFix p m c cL_law 4 s #[Value.ref b] wsL_law RL := ⟨hx, hb, hml, hown, hts⟩
  have kk0 : (0 : Int32).toInt = 0 := by decide
  have kk1 : (1 : Int32).toInt = 1 := by decide
  have kk2 : (2 : Int32).toInt = 2 := by decide
  have kk3 : (3 : Int32).toInt = 3 := by decide
  have kk4 : (4 : Int32).toInt = 4 := by decide
  have kk5 : (5 : Int32).toInt = 5 := by decide
  have kk6 : (6 : Int32).toInt = 6 := by decide
  have kk31 : (31 : Int32).toInt = 31 := by decide
  have kkm1 : (-1 : Int32).toInt = -1 := by decide
  induction fuel with
  | zero =>
    intro i kc ks xh xa_bells xa_feasts xa_tape xa_reader xa_rules xa_monks xa_duties xa_gifts xa_figures xba_days xba_offices xba_delays xfa_falls xfa_ranks xfa_standsOn xfa_heldOn xfa_holder xfa_standing xta_bytes xqa_tokens xqa_kinds xqa_firsts xqa_seconds xqta_kinds xqta_places xqta_values xra_since xra_sizes xra_kinds xra_firsts xra_seconds xma_priests xma_barred xma_cameOn xma_absent xma_absentFrom xma_absentTo xua_holders xua_taken xuac xuL xga_weekly xga_doubled xga_dueOn xga_owed xga_said xga_spared xga_leaveOf xga_leaveFrom xga_leaveTo xdac xdL yh ya_isPriest ya_bars ya_joined ya_turns ya_awayMonk ya_awayFrom ya_awayTo ya_feastDay ya_rank ya_isWeekly ya_isDouble ya_giftDay ya_giftFrom ya_owed ya_said ya_spared ya_leaveGift ya_leaveFrom ya_leaveTo ya_lateDay ya_lateOffice ya_lateBy ya_guests ya_who ya_used ya_lacks ya_candles ya_masses ya_owing ya_heldOn ya_waits ya_tape ya_text ya_statements ya_taken ya_sort ya_first ya_second xv_today xv_stock xv_guestHeads xv_guestRanks xv_faultPlace xv_candlesInAll xbv_size xfv_size xtv_length xqv_size xqv_next xqv_first xqv_second xqtv_size xqtv_textLength xrv_size xmv_size xmv_rows xgv_size xgv_rows yv_today yv_monks yv_aways yv_gifts yv_leaves yv_lates yv_store yv_allCandles yv_taped yv_size yv_at yv_fault yv_rules yv_wordEnd yv_number xbf_days xbf_offices xbf_delays xff_falls xff_ranks xff_standsOn xff_heldOn xff_holder xff_standing xtf_bytes xqf_kinds xqf_firsts xqf_seconds xqtf_kinds xqtf_places xqtf_values xrf_since xrf_sizes xrf_kinds xrf_firsts xrf_seconds xmf_priests xmf_barred xmf_cameOn xmf_absent xmf_absentFrom xmf_absentTo xufc xuft xgf_weekly xgf_doubled xgf_dueOn xgf_owed xgf_said xgf_spared xgf_leaveOf xgf_leaveFrom xgf_leaveTo xdfc yf_isPriest yf_bars yf_joined yf_turns yf_awayMonk yf_awayFrom yf_awayTo yf_isWeekly yf_isDouble yf_giftDay yf_giftFrom yf_owed yf_said yf_spared yf_leaveGift yf_leaveFrom yf_leaveTo yf_lateDay yf_lateOffice yf_lateBy yf_guests yf_who yf_used yf_lacks yf_candles yf_masses yf_owing yf_heldOn yf_waits yf_tape yf_text yf_statements yf_taken yf_sort yf_first yf_second hmu hi0 hi1 h0_xv_today h1_xv_today h0_xbv_size h1_xbv_size h0_xfv_size h1_xfv_size h0_xtv_length h1_xtv_length h0_xqv_size h1_xqv_size h0_xqtv_size h1_xqtv_size h0_xrv_size h1_xrv_size h0_xmv_size h1_xmv_size h0_xmv_rows h1_xmv_rows h0_xgv_size h1_xgv_size h0_xgv_rows h1_xgv_rows h0_yv_today h1_yv_today h0_yv_monks h1_yv_monks h0_yv_aways h1_yv_aways h0_yv_gifts h1_yv_gifts h0_yv_leaves h1_yv_leaves h0_yv_lates h1_yv_lates h0_yv_taped h1_yv_taped h0_yv_rules h1_yv_rules hr_xv_today hr_xmv_size hr_xmv_rows hr_xgv_size hr_xgv_rows hu0 hu1 hd0 hd1 hu2 hd2 hkc hks hgu hfl hh hs hr hst hw hfe H locs hP hD hS ls hl
    exfalso; omega
  | succ fuel ih =>
    intro i kc ks xh xa_bells xa_feasts xa_tape xa_reader xa_rules xa_monks xa_duties xa_gifts xa_figures xba_days xba_offices xba_delays xfa_falls xfa_ranks xfa_standsOn xfa_heldOn xfa_holder xfa_standing xta_bytes xqa_tokens xqa_kinds xqa_firsts xqa_seconds xqta_kinds xqta_places xqta_values xra_since xra_sizes xra_kinds xra_firsts xra_seconds xma_priests xma_barred xma_cameOn xma_absent xma_absentFrom xma_absentTo xua_holders xua_taken xuac xuL xga_weekly xga_doubled xga_dueOn xga_owed xga_said xga_spared xga_leaveOf xga_leaveFrom xga_leaveTo xdac xdL yh ya_isPriest ya_bars ya_joined ya_turns ya_awayMonk ya_awayFrom ya_awayTo ya_feastDay ya_rank ya_isWeekly ya_isDouble ya_giftDay ya_giftFrom ya_owed ya_said ya_spared ya_leaveGift ya_leaveFrom ya_leaveTo ya_lateDay ya_lateOffice ya_lateBy ya_guests ya_who ya_used ya_lacks ya_candles ya_masses ya_owing ya_heldOn ya_waits ya_tape ya_text ya_statements ya_taken ya_sort ya_first ya_second xv_today xv_stock xv_guestHeads xv_guestRanks xv_faultPlace xv_candlesInAll xbv_size xfv_size xtv_length xqv_size xqv_next xqv_first xqv_second xqtv_size xqtv_textLength xrv_size xmv_size xmv_rows xgv_size xgv_rows yv_today yv_monks yv_aways yv_gifts yv_leaves yv_lates yv_store yv_allCandles yv_taped yv_size yv_at yv_fault yv_rules yv_wordEnd yv_number xbf_days xbf_offices xbf_delays xff_falls xff_ranks xff_standsOn xff_heldOn xff_holder xff_standing xtf_bytes xqf_kinds xqf_firsts xqf_seconds xqtf_kinds xqtf_places xqtf_values xrf_since xrf_sizes xrf_kinds xrf_firsts xrf_seconds xmf_priests xmf_barred xmf_cameOn xmf_absent xmf_absentFrom xmf_absentTo xufc xuft xgf_weekly xgf_doubled xgf_dueOn xgf_owed xgf_said xgf_spared xgf_leaveOf xgf_leaveFrom xgf_leaveTo xdfc yf_isPriest yf_bars yf_joined yf_turns yf_awayMonk yf_awayFrom yf_awayTo yf_isWeekly yf_isDouble yf_giftDay yf_giftFrom yf_owed yf_said yf_spared yf_leaveGift yf_leaveFrom yf_leaveTo yf_lateDay yf_lateOffice yf_lateBy yf_guests yf_who yf_used yf_lacks yf_candles yf_masses yf_owing yf_heldOn yf_waits yf_tape yf_text yf_statements yf_taken yf_sort yf_first yf_second hmu hi0 hi1 h0_xv_today h1_xv_today h0_xbv_size h1_xbv_size h0_xfv_size h1_xfv_size h0_xtv_length h1_xtv_length h0_xqv_size h1_xqv_size h0_xqtv_size h1_xqtv_size h0_xrv_size h1_xrv_size h0_xmv_size h1_xmv_size h0_xmv_rows h1_xmv_rows h0_xgv_size h1_xgv_size h0_xgv_rows h1_xgv_rows h0_yv_today h1_yv_today h0_yv_monks h1_yv_monks h0_yv_aways h1_yv_aways h0_yv_gifts h1_yv_gifts h0_yv_leaves h1_yv_leaves h0_yv_lates h1_yv_lates h0_yv_taped h1_yv_taped h0_yv_rules h1_yv_rules hr_xv_today hr_xmv_size hr_xmv_rows hr_xgv_size hr_xgv_rows hu0 hu1 hd0 hd1 hu2 hd2 hkc hks hgu hfl hh hs hr hst hw hfe H locs hP hD hS ls hl
    refine lv_iload_n hx hb dL_law_18 rfl (lv_at hl 0 rfl) ?_
    refine lv_aload_n hx hb dL_law_19 rfl (lv_at hl 3 rfl) ?_
    refine va_slen hx hb hX hbl hbA hS dL_law_20 ?_
    refine lv_topi (fun x_1 ex_1 => ?_)
    have tx_1 : x_1.toInt = L := by rw [ex_1]; exact nI_toInt (by omega)
    refine lv_bipush (v := 6) hx hb dL_law_21 (by decide) ?_
    refine lv_isub hx hb dL_law_23 ?_
    refine lv_topi (fun x_2 ex_2 => ?_)
    first | have tx_2 := t_sub ex_2 (by omega) (by omega) | skip
    refine lv_icmp_gt (tgt := 923) hx hb dL_law_24 (by decide) (fun c_3 => ?_) (fun c_3 => ?_)
    · have tc_3 := t_lt c_3
      refine lv_iconst (v := 1) hx hb dL_law_923 (by decide) ?_
      refine va_forget (fun q hq => hAs _ (hS.2.2 q hq)) ?_
      refine W.widen (k := 600000) (n := 7302250) (by omega) (by omega) ?_
      exact lw_ret hx hb hr_ hlocks dL_law_924
    · have tc_3 := t_nlt c_3
      refine lv_aload_n hx hb dL_law_27 rfl (lv_at hl 3 rfl) ?_
      refine lv_iload_n hx hb dL_law_28 rfl (lv_at hl 0 rfl) ?_
      refine va_sld hx hb hX hbl hbA hS (t_in (by omega) (by omega)) dL_law_29 ?_
      refine lv_topi (fun y_4 ey_4 => ?_)
      refine lv_bipush (v := 31) hx hb dL_law_30 (by decide) ?_
      refine lv_iand hx hb dL_law_32 ?_
      refine lv_topi (fun x_5 ex_5 => ?_)
      have kqh_6 : (0 : Int32).toInt = 0 := by decide
      by_cases h_6 : x_5 = 0
      · have th_6 := t_eq h_6
        refine lv_tableIn (off := 107) (tgt := 140) hx hb dL_law_33 (by rw [h_6]; decide) (by rw [h_6]; decide) (by rw [h_6]; rfl) (by decide) ?_
        exact lp_case0 hx hb hr_ hml hown hts0 hX hbl hlocks hK hZ hA hAs hbA hL ih hmu hi0 hi1 h0_xv_today h1_xv_today h0_xbv_size h1_xbv_size h0_xfv_size h1_xfv_size h0_xtv_length h1_xtv_length h0_xqv_size h1_xqv_size h0_xqtv_size h1_xqtv_size h0_xrv_size h1_xrv_size h0_xmv_size h1_xmv_size h0_xmv_rows h1_xmv_rows h0_xgv_size h1_xgv_size h0_xgv_rows h1_xgv_rows h0_yv_today h1_yv_today h0_yv_monks h1_yv_monks h0_yv_aways h1_yv_aways h0_yv_gifts h1_yv_gifts h0_yv_leaves h1_yv_leaves h0_yv_lates h1_yv_lates h0_yv_taped h1_yv_taped h0_yv_rules h1_yv_rules hr_xv_today hr_xmv_size hr_xmv_rows hr_xgv_size hr_xgv_rows hu0 hu1 hd0 hd1 hu2 hd2 hkc hks hgu hfl hh hs hr hst hw hfe (by omega) trivial hP hD hS ls (lv_sub hl [0, 1, 2, 3] rfl)
      have th_6 := t_neq h_6
      have kqh_7 : (1 : Int32).toInt = 1 := by decide
      by_cases h_7 : x_5 = 1
      · have th_7 := t_eq h_7
        refine lv_tableIn (off := 156) (tgt := 189) hx hb dL_law_33 (by rw [h_7]; decide) (by rw [h_7]; decide) (by rw [h_7]; rfl) (by decide) ?_
        exact lp_case1 hx hb hr_ hml hown hts0 hX hbl hlocks hK hZ hA hAs hbA hL ih hmu hi0 hi1 h0_xv_today h1_xv_today h0_xbv_size h1_xbv_size h0_xfv_size h1_xfv_size h0_xtv_length h1_xtv_length h0_xqv_size h1_xqv_size h0_xqtv_size h1_xqtv_size h0_xrv_size h1_xrv_size h0_xmv_size h1_xmv_size h0_xmv_rows h1_xmv_rows h0_xgv_size h1_xgv_size h0_xgv_rows h1_xgv_rows h0_yv_today h1_yv_today h0_yv_monks h1_yv_monks h0_yv_aways h1_yv_aways h0_yv_gifts h1_yv_gifts h0_yv_leaves h1_yv_leaves h0_yv_lates h1_yv_lates h0_yv_taped h1_yv_taped h0_yv_rules h1_yv_rules hr_xv_today hr_xmv_size hr_xmv_rows hr_xgv_size hr_xgv_rows hu0 hu1 hd0 hd1 hu2 hd2 hkc hks hgu hfl hh hs hr hst hw hfe (by omega) trivial hP hD hS ls (lv_sub hl [0, 1, 2, 3] rfl)
      have th_7 := t_neq h_7
      have kqh_8 : (2 : Int32).toInt = 2 := by decide
      by_cases h_8 : x_5 = 2
      · have th_8 := t_eq h_8
        refine lv_tableIn (off := 199) (tgt := 232) hx hb dL_law_33 (by rw [h_8]; decide) (by rw [h_8]; decide) (by rw [h_8]; rfl) (by decide) ?_
        exact lp_case2 hx hb hr_ hml hown hts0 hX hbl hlocks hK hZ hA hAs hbA hL ih hmu hi0 hi1 h0_xv_today h1_xv_today h0_xbv_size h1_xbv_size h0_xfv_size h1_xfv_size h0_xtv_length h1_xtv_length h0_xqv_size h1_xqv_size h0_xqtv_size h1_xqtv_size h0_xrv_size h1_xrv_size h0_xmv_size h1_xmv_size h0_xmv_rows h1_xmv_rows h0_xgv_size h1_xgv_size h0_xgv_rows h1_xgv_rows h0_yv_today h1_yv_today h0_yv_monks h1_yv_monks h0_yv_aways h1_yv_aways h0_yv_gifts h1_yv_gifts h0_yv_leaves h1_yv_leaves h0_yv_lates h1_yv_lates h0_yv_taped h1_yv_taped h0_yv_rules h1_yv_rules hr_xv_today hr_xmv_size hr_xmv_rows hr_xgv_size hr_xgv_rows hu0 hu1 hd0 hd1 hu2 hd2 hkc hks hgu hfl hh hs hr hst hw hfe (by omega) trivial hP hD hS ls (lv_sub hl [0, 1, 2, 3] rfl)
      have th_8 := t_neq h_8
      have kqh_9 : (3 : Int32).toInt = 3 := by decide
      by_cases h_9 : x_5 = 3
      · have th_9 := t_eq h_9
        refine lv_tableIn (off := 232) (tgt := 265) hx hb dL_law_33 (by rw [h_9]; decide) (by rw [h_9]; decide) (by rw [h_9]; rfl) (by decide) ?_
        exact lp_case3 hx hb hr_ hml hown hts0 hX hbl hlocks hK hZ hA hAs hbA hL ih hmu hi0 hi1 h0_xv_today h1_xv_today h0_xbv_size h1_xbv_size h0_xfv_size h1_xfv_size h0_xtv_length h1_xtv_length h0_xqv_size h1_xqv_size h0_xqtv_size h1_xqtv_size h0_xrv_size h1_xrv_size h0_xmv_size h1_xmv_size h0_xmv_rows h1_xmv_rows h0_xgv_size h1_xgv_size h0_xgv_rows h1_xgv_rows h0_yv_today h1_yv_today h0_yv_monks h1_yv_monks h0_yv_aways h1_yv_aways h0_yv_gifts h1_yv_gifts h0_yv_leaves h1_yv_leaves h0_yv_lates h1_yv_lates h0_yv_taped h1_yv_taped h0_yv_rules h1_yv_rules hr_xv_today hr_xmv_size hr_xmv_rows hr_xgv_size hr_xgv_rows hu0 hu1 hd0 hd1 hu2 hd2 hkc hks hgu hfl hh hs hr hst hw hfe (by omega) trivial hP hD hS ls (lv_sub hl [0, 1, 2, 3] rfl)
      have th_9 := t_neq h_9
      have kqh_10 : (4 : Int32).toInt = 4 := by decide
      by_cases h_10 : x_5 = 4
      · have th_10 := t_eq h_10
        refine lv_tableIn (off := 255) (tgt := 288) hx hb dL_law_33 (by rw [h_10]; decide) (by rw [h_10]; decide) (by rw [h_10]; rfl) (by decide) ?_
        exact lp_case4 hx hb hr_ hml hown hts0 hX hbl hlocks hK hZ hA hAs hbA hL ih hmu hi0 hi1 h0_xv_today h1_xv_today h0_xbv_size h1_xbv_size h0_xfv_size h1_xfv_size h0_xtv_length h1_xtv_length h0_xqv_size h1_xqv_size h0_xqtv_size h1_xqtv_size h0_xrv_size h1_xrv_size h0_xmv_size h1_xmv_size h0_xmv_rows h1_xmv_rows h0_xgv_size h1_xgv_size h0_xgv_rows h1_xgv_rows h0_yv_today h1_yv_today h0_yv_monks h1_yv_monks h0_yv_aways h1_yv_aways h0_yv_gifts h1_yv_gifts h0_yv_leaves h1_yv_leaves h0_yv_lates h1_yv_lates h0_yv_taped h1_yv_taped h0_yv_rules h1_yv_rules hr_xv_today hr_xmv_size hr_xmv_rows hr_xgv_size hr_xgv_rows hu0 hu1 hd0 hd1 hu2 hd2 hkc hks hgu hfl hh hs hr hst hw hfe (by omega) trivial hP hD hS ls (lv_sub hl [0, 1, 2, 3] rfl)
      have th_10 := t_neq h_10
      have kqh_11 : (5 : Int32).toInt = 5 := by decide
      by_cases h_11 : x_5 = 5
      · have th_11 := t_eq h_11
        refine lv_tableIn (off := 278) (tgt := 311) hx hb dL_law_33 (by rw [h_11]; decide) (by rw [h_11]; decide) (by rw [h_11]; rfl) (by decide) ?_
        exact lp_case5 hx hb hr_ hml hown hts0 hX hbl hlocks hK hZ hA hAs hbA hL ih hmu hi0 hi1 h0_xv_today h1_xv_today h0_xbv_size h1_xbv_size h0_xfv_size h1_xfv_size h0_xtv_length h1_xtv_length h0_xqv_size h1_xqv_size h0_xqtv_size h1_xqtv_size h0_xrv_size h1_xrv_size h0_xmv_size h1_xmv_size h0_xmv_rows h1_xmv_rows h0_xgv_size h1_xgv_size h0_xgv_rows h1_xgv_rows h0_yv_today h1_yv_today h0_yv_monks h1_yv_monks h0_yv_aways h1_yv_aways h0_yv_gifts h1_yv_gifts h0_yv_leaves h1_yv_leaves h0_yv_lates h1_yv_lates h0_yv_taped h1_yv_taped h0_yv_rules h1_yv_rules hr_xv_today hr_xmv_size hr_xmv_rows hr_xgv_size hr_xgv_rows hu0 hu1 hd0 hd1 hu2 hd2 hkc hks hgu hfl hh hs hr hst hw hfe (by omega) trivial hP hD hS ls (lv_sub hl [0, 1, 2, 3] rfl)
      have th_11 := t_neq h_11
      have kqh_12 : (6 : Int32).toInt = 6 := by decide
      by_cases h_12 : x_5 = 6
      · have th_12 := t_eq h_12
        refine lv_tableIn (off := 311) (tgt := 344) hx hb dL_law_33 (by rw [h_12]; decide) (by rw [h_12]; decide) (by rw [h_12]; rfl) (by decide) ?_
        exact lp_case6 hx hb hr_ hml hown hts0 hX hbl hlocks hK hZ hA hAs hbA hL ih hmu hi0 hi1 h0_xv_today h1_xv_today h0_xbv_size h1_xbv_size h0_xfv_size h1_xfv_size h0_xtv_length h1_xtv_length h0_xqv_size h1_xqv_size h0_xqtv_size h1_xqtv_size h0_xrv_size h1_xrv_size h0_xmv_size h1_xmv_size h0_xmv_rows h1_xmv_rows h0_xgv_size h1_xgv_size h0_xgv_rows h1_xgv_rows h0_yv_today h1_yv_today h0_yv_monks h1_yv_monks h0_yv_aways h1_yv_aways h0_yv_gifts h1_yv_gifts h0_yv_leaves h1_yv_leaves h0_yv_lates h1_yv_lates h0_yv_taped h1_yv_taped h0_yv_rules h1_yv_rules hr_xv_today hr_xmv_size hr_xmv_rows hr_xgv_size hr_xgv_rows hu0 hu1 hd0 hd1 hu2 hd2 hkc hks hgu hfl hh hs hr hst hw hfe (by omega) trivial hP hD hS ls (lv_sub hl [0, 1, 2, 3] rfl)
      have th_12 := t_neq h_12
      have kqh_13 : (7 : Int32).toInt = 7 := by decide
      by_cases h_13 : x_5 = 7
      · have th_13 := t_eq h_13
        refine lv_tableIn (off := 344) (tgt := 377) hx hb dL_law_33 (by rw [h_13]; decide) (by rw [h_13]; decide) (by rw [h_13]; rfl) (by decide) ?_
        exact lp_case7 hx hb hr_ hml hown hts0 hX hbl hlocks hK hZ hA hAs hbA hL ih hmu hi0 hi1 h0_xv_today h1_xv_today h0_xbv_size h1_xbv_size h0_xfv_size h1_xfv_size h0_xtv_length h1_xtv_length h0_xqv_size h1_xqv_size h0_xqtv_size h1_xqtv_size h0_xrv_size h1_xrv_size h0_xmv_size h1_xmv_size h0_xmv_rows h1_xmv_rows h0_xgv_size h1_xgv_size h0_xgv_rows h1_xgv_rows h0_yv_today h1_yv_today h0_yv_monks h1_yv_monks h0_yv_aways h1_yv_aways h0_yv_gifts h1_yv_gifts h0_yv_leaves h1_yv_leaves h0_yv_lates h1_yv_lates h0_yv_taped h1_yv_taped h0_yv_rules h1_yv_rules hr_xv_today hr_xmv_size hr_xmv_rows hr_xgv_size hr_xgv_rows hu0 hu1 hd0 hd1 hu2 hd2 hkc hks hgu hfl hh hs hr hst hw hfe (by omega) trivial hP hD hS ls (lv_sub hl [0, 1, 2, 3] rfl)
      have th_13 := t_neq h_13
      have kqh_14 : (8 : Int32).toInt = 8 := by decide
      by_cases h_14 : x_5 = 8
      · have th_14 := t_eq h_14
        refine lv_tableIn (off := 387) (tgt := 420) hx hb dL_law_33 (by rw [h_14]; decide) (by rw [h_14]; decide) (by rw [h_14]; rfl) (by decide) ?_
        exact lp_case8 hx hb hr_ hml hown hts0 hX hbl hlocks hK hZ hA hAs hbA hL ih hmu hi0 hi1 h0_xv_today h1_xv_today h0_xbv_size h1_xbv_size h0_xfv_size h1_xfv_size h0_xtv_length h1_xtv_length h0_xqv_size h1_xqv_size h0_xqtv_size h1_xqtv_size h0_xrv_size h1_xrv_size h0_xmv_size h1_xmv_size h0_xmv_rows h1_xmv_rows h0_xgv_size h1_xgv_size h0_xgv_rows h1_xgv_rows h0_yv_today h1_yv_today h0_yv_monks h1_yv_monks h0_yv_aways h1_yv_aways h0_yv_gifts h1_yv_gifts h0_yv_leaves h1_yv_leaves h0_yv_lates h1_yv_lates h0_yv_taped h1_yv_taped h0_yv_rules h1_yv_rules hr_xv_today hr_xmv_size hr_xmv_rows hr_xgv_size hr_xgv_rows hu0 hu1 hd0 hd1 hu2 hd2 hkc hks hgu hfl hh hs hr hst hw hfe (by omega) trivial hP hD hS ls (lv_sub hl [0, 1, 2, 3] rfl)
      have th_14 := t_neq h_14
      have kqh_15 : (9 : Int32).toInt = 9 := by decide
      by_cases h_15 : x_5 = 9
      · have th_15 := t_eq h_15
        refine lv_tableIn (off := 450) (tgt := 483) hx hb dL_law_33 (by rw [h_15]; decide) (by rw [h_15]; decide) (by rw [h_15]; rfl) (by decide) ?_
        exact lp_case9 hx hb hr_ hml hown hts0 hX hbl hlocks hK hZ hA hAs hbA hL ih hmu hi0 hi1 h0_xv_today h1_xv_today h0_xbv_size h1_xbv_size h0_xfv_size h1_xfv_size h0_xtv_length h1_xtv_length h0_xqv_size h1_xqv_size h0_xqtv_size h1_xqtv_size h0_xrv_size h1_xrv_size h0_xmv_size h1_xmv_size h0_xmv_rows h1_xmv_rows h0_xgv_size h1_xgv_size h0_xgv_rows h1_xgv_rows h0_yv_today h1_yv_today h0_yv_monks h1_yv_monks h0_yv_aways h1_yv_aways h0_yv_gifts h1_yv_gifts h0_yv_leaves h1_yv_leaves h0_yv_lates h1_yv_lates h0_yv_taped h1_yv_taped h0_yv_rules h1_yv_rules hr_xv_today hr_xmv_size hr_xmv_rows hr_xgv_size hr_xgv_rows hu0 hu1 hd0 hd1 hu2 hd2 hkc hks hgu hfl hh hs hr hst hw hfe (by omega) trivial hP hD hS ls (lv_sub hl [0, 1, 2, 3] rfl)
      have th_15 := t_neq h_15
      have kqh_16 : (10 : Int32).toInt = 10 := by decide
      by_cases h_16 : x_5 = 10
      · have th_16 := t_eq h_16
        refine lv_tableIn (off := 473) (tgt := 506) hx hb dL_law_33 (by rw [h_16]; decide) (by rw [h_16]; decide) (by rw [h_16]; rfl) (by decide) ?_
        exact lp_case10 hx hb hr_ hml hown hts0 hX hbl hlocks hK hZ hA hAs hbA hL ih hmu hi0 hi1 h0_xv_today h1_xv_today h0_xbv_size h1_xbv_size h0_xfv_size h1_xfv_size h0_xtv_length h1_xtv_length h0_xqv_size h1_xqv_size h0_xqtv_size h1_xqtv_size h0_xrv_size h1_xrv_size h0_xmv_size h1_xmv_size h0_xmv_rows h1_xmv_rows h0_xgv_size h1_xgv_size h0_xgv_rows h1_xgv_rows h0_yv_today h1_yv_today h0_yv_monks h1_yv_monks h0_yv_aways h1_yv_aways h0_yv_gifts h1_yv_gifts h0_yv_leaves h1_yv_leaves h0_yv_lates h1_yv_lates h0_yv_taped h1_yv_taped h0_yv_rules h1_yv_rules hr_xv_today hr_xmv_size hr_xmv_rows hr_xgv_size hr_xgv_rows hu0 hu1 hd0 hd1 hu2 hd2 hkc hks hgu hfl hh hs hr hst hw hfe (by omega) trivial hP hD hS ls (lv_sub hl [0, 1, 2, 3] rfl)
      have th_16 := t_neq h_16
      have kqh_17 : (11 : Int32).toInt = 11 := by decide
      by_cases h_17 : x_5 = 11
      · have th_17 := t_eq h_17
        refine lv_tableIn (off := 486) (tgt := 519) hx hb dL_law_33 (by rw [h_17]; decide) (by rw [h_17]; decide) (by rw [h_17]; rfl) (by decide) ?_
        exact lp_case11 hx hb hr_ hml hown hts0 hX hbl hlocks hK hZ hA hAs hbA hL ih hmu hi0 hi1 h0_xv_today h1_xv_today h0_xbv_size h1_xbv_size h0_xfv_size h1_xfv_size h0_xtv_length h1_xtv_length h0_xqv_size h1_xqv_size h0_xqtv_size h1_xqtv_size h0_xrv_size h1_xrv_size h0_xmv_size h1_xmv_size h0_xmv_rows h1_xmv_rows h0_xgv_size h1_xgv_size h0_xgv_rows h1_xgv_rows h0_yv_today h1_yv_today h0_yv_monks h1_yv_monks h0_yv_aways h1_yv_aways h0_yv_gifts h1_yv_gifts h0_yv_leaves h1_yv_leaves h0_yv_lates h1_yv_lates h0_yv_taped h1_yv_taped h0_yv_rules h1_yv_rules hr_xv_today hr_xmv_size hr_xmv_rows hr_xgv_size hr_xgv_rows hu0 hu1 hd0 hd1 hu2 hd2 hkc hks hgu hfl hh hs hr hst hw hfe (by omega) trivial hP hD hS ls (lv_sub hl [0, 1, 2, 3] rfl)
      have th_17 := t_neq h_17
      have kqh_18 : (12 : Int32).toInt = 12 := by decide
      by_cases h_18 : x_5 = 12
      · have th_18 := t_eq h_18
        refine lv_tableIn (off := 519) (tgt := 552) hx hb dL_law_33 (by rw [h_18]; decide) (by rw [h_18]; decide) (by rw [h_18]; rfl) (by decide) ?_
        exact lp_case12 hx hb hr_ hml hown hts0 hX hbl hlocks hK hZ hA hAs hbA hL ih hmu hi0 hi1 h0_xv_today h1_xv_today h0_xbv_size h1_xbv_size h0_xfv_size h1_xfv_size h0_xtv_length h1_xtv_length h0_xqv_size h1_xqv_size h0_xqtv_size h1_xqtv_size h0_xrv_size h1_xrv_size h0_xmv_size h1_xmv_size h0_xmv_rows h1_xmv_rows h0_xgv_size h1_xgv_size h0_xgv_rows h1_xgv_rows h0_yv_today h1_yv_today h0_yv_monks h1_yv_monks h0_yv_aways h1_yv_aways h0_yv_gifts h1_yv_gifts h0_yv_leaves h1_yv_leaves h0_yv_lates h1_yv_lates h0_yv_taped h1_yv_taped h0_yv_rules h1_yv_rules hr_xv_today hr_xmv_size hr_xmv_rows hr_xgv_size hr_xgv_rows hu0 hu1 hd0 hd1 hu2 hd2 hkc hks hgu hfl hh hs hr hst hw hfe (by omega) trivial hP hD hS ls (lv_sub hl [0, 1, 2, 3] rfl)
      have th_18 := t_neq h_18
      have kqh_19 : (13 : Int32).toInt = 13 := by decide
      by_cases h_19 : x_5 = 13
      · have th_19 := t_eq h_19
        refine lv_tableIn (off := 594) (tgt := 627) hx hb dL_law_33 (by rw [h_19]; decide) (by rw [h_19]; decide) (by rw [h_19]; rfl) (by decide) ?_
        exact lp_case13 hx hb hr_ hml hown hts0 hX hbl hlocks hK hZ hA hAs hbA hL ih hmu hi0 hi1 h0_xv_today h1_xv_today h0_xbv_size h1_xbv_size h0_xfv_size h1_xfv_size h0_xtv_length h1_xtv_length h0_xqv_size h1_xqv_size h0_xqtv_size h1_xqtv_size h0_xrv_size h1_xrv_size h0_xmv_size h1_xmv_size h0_xmv_rows h1_xmv_rows h0_xgv_size h1_xgv_size h0_xgv_rows h1_xgv_rows h0_yv_today h1_yv_today h0_yv_monks h1_yv_monks h0_yv_aways h1_yv_aways h0_yv_gifts h1_yv_gifts h0_yv_leaves h1_yv_leaves h0_yv_lates h1_yv_lates h0_yv_taped h1_yv_taped h0_yv_rules h1_yv_rules hr_xv_today hr_xmv_size hr_xmv_rows hr_xgv_size hr_xgv_rows hu0 hu1 hd0 hd1 hu2 hd2 hkc hks hgu hfl hh hs hr hst hw hfe (by omega) trivial hP hD hS ls (lv_sub hl [0, 1, 2, 3] rfl)
      have th_19 := t_neq h_19
      have kqh_20 : (14 : Int32).toInt = 14 := by decide
      by_cases h_20 : x_5 = 14
      · have th_20 := t_eq h_20
        refine lv_tableIn (off := 637) (tgt := 670) hx hb dL_law_33 (by rw [h_20]; decide) (by rw [h_20]; decide) (by rw [h_20]; rfl) (by decide) ?_
        exact lp_case14 hx hb hr_ hml hown hts0 hX hbl hlocks hK hZ hA hAs hbA hL ih hmu hi0 hi1 h0_xv_today h1_xv_today h0_xbv_size h1_xbv_size h0_xfv_size h1_xfv_size h0_xtv_length h1_xtv_length h0_xqv_size h1_xqv_size h0_xqtv_size h1_xqtv_size h0_xrv_size h1_xrv_size h0_xmv_size h1_xmv_size h0_xmv_rows h1_xmv_rows h0_xgv_size h1_xgv_size h0_xgv_rows h1_xgv_rows h0_yv_today h1_yv_today h0_yv_monks h1_yv_monks h0_yv_aways h1_yv_aways h0_yv_gifts h1_yv_gifts h0_yv_leaves h1_yv_leaves h0_yv_lates h1_yv_lates h0_yv_taped h1_yv_taped h0_yv_rules h1_yv_rules hr_xv_today hr_xmv_size hr_xmv_rows hr_xgv_size hr_xgv_rows hu0 hu1 hd0 hd1 hu2 hd2 hkc hks hgu hfl hh hs hr hst hw hfe (by omega) trivial hP hD hS ls (lv_sub hl [0, 1, 2, 3] rfl)
      have th_20 := t_neq h_20
      have kqh_21 : (15 : Int32).toInt = 15 := by decide
      by_cases h_21 : x_5 = 15
      · have th_21 := t_eq h_21
        refine lv_tableIn (off := 670) (tgt := 703) hx hb dL_law_33 (by rw [h_21]; decide) (by rw [h_21]; decide) (by rw [h_21]; rfl) (by decide) ?_
        exact lp_case15 hx hb hr_ hml hown hts0 hX hbl hlocks hK hZ hA hAs hbA hL ih hmu hi0 hi1 h0_xv_today h1_xv_today h0_xbv_size h1_xbv_size h0_xfv_size h1_xfv_size h0_xtv_length h1_xtv_length h0_xqv_size h1_xqv_size h0_xqtv_size h1_xqtv_size h0_xrv_size h1_xrv_size h0_xmv_size h1_xmv_size h0_xmv_rows h1_xmv_rows h0_xgv_size h1_xgv_size h0_xgv_rows h1_xgv_rows h0_yv_today h1_yv_today h0_yv_monks h1_yv_monks h0_yv_aways h1_yv_aways h0_yv_gifts h1_yv_gifts h0_yv_leaves h1_yv_leaves h0_yv_lates h1_yv_lates h0_yv_taped h1_yv_taped h0_yv_rules h1_yv_rules hr_xv_today hr_xmv_size hr_xmv_rows hr_xgv_size hr_xgv_rows hu0 hu1 hd0 hd1 hu2 hd2 hkc hks hgu hfl hh hs hr hst hw hfe (by omega) trivial hP hD hS ls (lv_sub hl [0, 1, 2, 3] rfl)
      have th_21 := t_neq h_21
      have kqh_22 : (16 : Int32).toInt = 16 := by decide
      by_cases h_22 : x_5 = 16
      · have th_22 := t_eq h_22
        refine lv_tableIn (off := 693) (tgt := 726) hx hb dL_law_33 (by rw [h_22]; decide) (by rw [h_22]; decide) (by rw [h_22]; rfl) (by decide) ?_
        exact lp_case16 hx hb hr_ hml hown hts0 hX hbl hlocks hK hZ hA hAs hbA hL ih hmu hi0 hi1 h0_xv_today h1_xv_today h0_xbv_size h1_xbv_size h0_xfv_size h1_xfv_size h0_xtv_length h1_xtv_length h0_xqv_size h1_xqv_size h0_xqtv_size h1_xqtv_size h0_xrv_size h1_xrv_size h0_xmv_size h1_xmv_size h0_xmv_rows h1_xmv_rows h0_xgv_size h1_xgv_size h0_xgv_rows h1_xgv_rows h0_yv_today h1_yv_today h0_yv_monks h1_yv_monks h0_yv_aways h1_yv_aways h0_yv_gifts h1_yv_gifts h0_yv_leaves h1_yv_leaves h0_yv_lates h1_yv_lates h0_yv_taped h1_yv_taped h0_yv_rules h1_yv_rules hr_xv_today hr_xmv_size hr_xmv_rows hr_xgv_size hr_xgv_rows hu0 hu1 hd0 hd1 hu2 hd2 hkc hks hgu hfl hh hs hr hst hw hfe (by omega) trivial hP hD hS ls (lv_sub hl [0, 1, 2, 3] rfl)
      have th_22 := t_neq h_22
      have kqh_23 : (17 : Int32).toInt = 17 := by decide
      by_cases h_23 : x_5 = 17
      · have th_23 := t_eq h_23
        refine lv_tableIn (off := 726) (tgt := 759) hx hb dL_law_33 (by rw [h_23]; decide) (by rw [h_23]; decide) (by rw [h_23]; rfl) (by decide) ?_
        exact lp_case17 hx hb hr_ hml hown hts0 hX hbl hlocks hK hZ hA hAs hbA hL ih hmu hi0 hi1 h0_xv_today h1_xv_today h0_xbv_size h1_xbv_size h0_xfv_size h1_xfv_size h0_xtv_length h1_xtv_length h0_xqv_size h1_xqv_size h0_xqtv_size h1_xqtv_size h0_xrv_size h1_xrv_size h0_xmv_size h1_xmv_size h0_xmv_rows h1_xmv_rows h0_xgv_size h1_xgv_size h0_xgv_rows h1_xgv_rows h0_yv_today h1_yv_today h0_yv_monks h1_yv_monks h0_yv_aways h1_yv_aways h0_yv_gifts h1_yv_gifts h0_yv_leaves h1_yv_leaves h0_yv_lates h1_yv_lates h0_yv_taped h1_yv_taped h0_yv_rules h1_yv_rules hr_xv_today hr_xmv_size hr_xmv_rows hr_xgv_size hr_xgv_rows hu0 hu1 hd0 hd1 hu2 hd2 hkc hks hgu hfl hh hs hr hst hw hfe (by omega) trivial hP hD hS ls (lv_sub hl [0, 1, 2, 3] rfl)
      have th_23 := t_neq h_23
      have kqh_24 : (18 : Int32).toInt = 18 := by decide
      by_cases h_24 : x_5 = 18
      · have th_24 := t_eq h_24
        refine lv_tableIn (off := 739) (tgt := 772) hx hb dL_law_33 (by rw [h_24]; decide) (by rw [h_24]; decide) (by rw [h_24]; rfl) (by decide) ?_
        exact lp_case18 hx hb hr_ hml hown hts0 hX hbl hlocks hK hZ hA hAs hbA hL ih hmu hi0 hi1 h0_xv_today h1_xv_today h0_xbv_size h1_xbv_size h0_xfv_size h1_xfv_size h0_xtv_length h1_xtv_length h0_xqv_size h1_xqv_size h0_xqtv_size h1_xqtv_size h0_xrv_size h1_xrv_size h0_xmv_size h1_xmv_size h0_xmv_rows h1_xmv_rows h0_xgv_size h1_xgv_size h0_xgv_rows h1_xgv_rows h0_yv_today h1_yv_today h0_yv_monks h1_yv_monks h0_yv_aways h1_yv_aways h0_yv_gifts h1_yv_gifts h0_yv_leaves h1_yv_leaves h0_yv_lates h1_yv_lates h0_yv_taped h1_yv_taped h0_yv_rules h1_yv_rules hr_xv_today hr_xmv_size hr_xmv_rows hr_xgv_size hr_xgv_rows hu0 hu1 hd0 hd1 hu2 hd2 hkc hks hgu hfl hh hs hr hst hw hfe (by omega) trivial hP hD hS ls (lv_sub hl [0, 1, 2, 3] rfl)
      have th_24 := t_neq h_24
      have kqh_25 : (19 : Int32).toInt = 19 := by decide
      by_cases h_25 : x_5 = 19
      · have th_25 := t_eq h_25
        refine lv_tableIn (off := 772) (tgt := 805) hx hb dL_law_33 (by rw [h_25]; decide) (by rw [h_25]; decide) (by rw [h_25]; rfl) (by decide) ?_
        exact lp_case19 hx hb hr_ hml hown hts0 hX hbl hlocks hK hZ hA hAs hbA hL ih hmu hi0 hi1 h0_xv_today h1_xv_today h0_xbv_size h1_xbv_size h0_xfv_size h1_xfv_size h0_xtv_length h1_xtv_length h0_xqv_size h1_xqv_size h0_xqtv_size h1_xqtv_size h0_xrv_size h1_xrv_size h0_xmv_size h1_xmv_size h0_xmv_rows h1_xmv_rows h0_xgv_size h1_xgv_size h0_xgv_rows h1_xgv_rows h0_yv_today h1_yv_today h0_yv_monks h1_yv_monks h0_yv_aways h1_yv_aways h0_yv_gifts h1_yv_gifts h0_yv_leaves h1_yv_leaves h0_yv_lates h1_yv_lates h0_yv_taped h1_yv_taped h0_yv_rules h1_yv_rules hr_xv_today hr_xmv_size hr_xmv_rows hr_xgv_size hr_xgv_rows hu0 hu1 hd0 hd1 hu2 hd2 hkc hks hgu hfl hh hs hr hst hw hfe (by omega) trivial hP hD hS ls (lv_sub hl [0, 1, 2, 3] rfl)
      have th_25 := t_neq h_25
      have kqh_26 : (20 : Int32).toInt = 20 := by decide
      by_cases h_26 : x_5 = 20
      · have th_26 := t_eq h_26
        refine lv_tableIn (off := 805) (tgt := 838) hx hb dL_law_33 (by rw [h_26]; decide) (by rw [h_26]; decide) (by rw [h_26]; rfl) (by decide) ?_
        exact lp_case20 hx hb hr_ hml hown hts0 hX hbl hlocks hK hZ hA hAs hbA hL ih hmu hi0 hi1 h0_xv_today h1_xv_today h0_xbv_size h1_xbv_size h0_xfv_size h1_xfv_size h0_xtv_length h1_xtv_length h0_xqv_size h1_xqv_size h0_xqtv_size h1_xqtv_size h0_xrv_size h1_xrv_size h0_xmv_size h1_xmv_size h0_xmv_rows h1_xmv_rows h0_xgv_size h1_xgv_size h0_xgv_rows h1_xgv_rows h0_yv_today h1_yv_today h0_yv_monks h1_yv_monks h0_yv_aways h1_yv_aways h0_yv_gifts h1_yv_gifts h0_yv_leaves h1_yv_leaves h0_yv_lates h1_yv_lates h0_yv_taped h1_yv_taped h0_yv_rules h1_yv_rules hr_xv_today hr_xmv_size hr_xmv_rows hr_xgv_size hr_xgv_rows hu0 hu1 hd0 hd1 hu2 hd2 hkc hks hgu hfl hh hs hr hst hw hfe (by omega) trivial hP hD hS ls (lv_sub hl [0, 1, 2, 3] rfl)
      have th_26 := t_neq h_26
      have kqh_27 : (21 : Int32).toInt = 21 := by decide
      by_cases h_27 : x_5 = 21
      · have th_27 := t_eq h_27
        refine lv_tableIn (off := 828) (tgt := 861) hx hb dL_law_33 (by rw [h_27]; decide) (by rw [h_27]; decide) (by rw [h_27]; rfl) (by decide) ?_
        exact lp_case21 hx hb hr_ hml hown hts0 hX hbl hlocks hK hZ hA hAs hbA hL ih hmu hi0 hi1 h0_xv_today h1_xv_today h0_xbv_size h1_xbv_size h0_xfv_size h1_xfv_size h0_xtv_length h1_xtv_length h0_xqv_size h1_xqv_size h0_xqtv_size h1_xqtv_size h0_xrv_size h1_xrv_size h0_xmv_size h1_xmv_size h0_xmv_rows h1_xmv_rows h0_xgv_size h1_xgv_size h0_xgv_rows h1_xgv_rows h0_yv_today h1_yv_today h0_yv_monks h1_yv_monks h0_yv_aways h1_yv_aways h0_yv_gifts h1_yv_gifts h0_yv_leaves h1_yv_leaves h0_yv_lates h1_yv_lates h0_yv_taped h1_yv_taped h0_yv_rules h1_yv_rules hr_xv_today hr_xmv_size hr_xmv_rows hr_xgv_size hr_xgv_rows hu0 hu1 hd0 hd1 hu2 hd2 hkc hks hgu hfl hh hs hr hst hw hfe (by omega) trivial hP hD hS ls (lv_sub hl [0, 1, 2, 3] rfl)
      have th_27 := t_neq h_27
      have kqh_28 : (22 : Int32).toInt = 22 := by decide
      by_cases h_28 : x_5 = 22
      · have th_28 := t_eq h_28
        refine lv_tableIn (off := 861) (tgt := 894) hx hb dL_law_33 (by rw [h_28]; decide) (by rw [h_28]; decide) (by rw [h_28]; rfl) (by decide) ?_
        exact lp_case22 hx hb hr_ hml hown hts0 hX hbl hlocks hK hZ hA hAs hbA hL ih hmu hi0 hi1 h0_xv_today h1_xv_today h0_xbv_size h1_xbv_size h0_xfv_size h1_xfv_size h0_xtv_length h1_xtv_length h0_xqv_size h1_xqv_size h0_xqtv_size h1_xqtv_size h0_xrv_size h1_xrv_size h0_xmv_size h1_xmv_size h0_xmv_rows h1_xmv_rows h0_xgv_size h1_xgv_size h0_xgv_rows h1_xgv_rows h0_yv_today h1_yv_today h0_yv_monks h1_yv_monks h0_yv_aways h1_yv_aways h0_yv_gifts h1_yv_gifts h0_yv_leaves h1_yv_leaves h0_yv_lates h1_yv_lates h0_yv_taped h1_yv_taped h0_yv_rules h1_yv_rules hr_xv_today hr_xmv_size hr_xmv_rows hr_xgv_size hr_xgv_rows hu0 hu1 hd0 hd1 hu2 hd2 hkc hks hgu hfl hh hs hr hst hw hfe (by omega) trivial hP hD hS ls (lv_sub hl [0, 1, 2, 3] rfl)
      have th_28 := t_neq h_28
      refine lv_tableOut (tgt := 917) hx hb dL_law_33 (by omega) (by decide) ?_
      obtain ⟨x_29, ex_29⟩ : ∃ y : Int32, y = i + 6 := ⟨_, rfl⟩
      refine lv_iinc (v := x_29) (lv' := [(3, .int x_29), (2, .ref yh), (1, .ref xh), (0, .ref b)]) hx hb dL_law_917 hl (k := 0) rfl (by rw [ex_29]; rfl) (by decide) rfl (fun ls hl => ?_)
      first | have tx_29 := t_add ex_29 (by omega) (by omega) | skip
      refine lv_goto (tgt := 18) hx hb dL_law_920 (by decide) ?_
      exact ih x_29 kc ks xh xa_bells xa_feasts xa_tape xa_reader xa_rules xa_monks xa_duties xa_gifts xa_figures xba_days xba_offices xba_delays xfa_falls xfa_ranks xfa_standsOn xfa_heldOn xfa_holder xfa_standing xta_bytes xqa_tokens xqa_kinds xqa_firsts xqa_seconds xqta_kinds xqta_places xqta_values xra_since xra_sizes xra_kinds xra_firsts xra_seconds xma_priests xma_barred xma_cameOn xma_absent xma_absentFrom xma_absentTo xua_holders xua_taken xuac xuL xga_weekly xga_doubled xga_dueOn xga_owed xga_said xga_spared xga_leaveOf xga_leaveFrom xga_leaveTo xdac xdL yh ya_isPriest ya_bars ya_joined ya_turns ya_awayMonk ya_awayFrom ya_awayTo ya_feastDay ya_rank ya_isWeekly ya_isDouble ya_giftDay ya_giftFrom ya_owed ya_said ya_spared ya_leaveGift ya_leaveFrom ya_leaveTo ya_lateDay ya_lateOffice ya_lateBy ya_guests ya_who ya_used ya_lacks ya_candles ya_masses ya_owing ya_heldOn ya_waits ya_tape ya_text ya_statements ya_taken ya_sort ya_first ya_second xv_today xv_stock xv_guestHeads xv_guestRanks xv_faultPlace xv_candlesInAll xbv_size xfv_size xtv_length xqv_size xqv_next xqv_first xqv_second xqtv_size xqtv_textLength xrv_size xmv_size xmv_rows xgv_size xgv_rows yv_today yv_monks yv_aways yv_gifts yv_leaves yv_lates yv_store yv_allCandles yv_taped yv_size yv_at yv_fault yv_rules yv_wordEnd yv_number xbf_days xbf_offices xbf_delays xff_falls xff_ranks xff_standsOn xff_heldOn xff_holder xff_standing xtf_bytes xqf_kinds xqf_firsts xqf_seconds xqtf_kinds xqtf_places xqtf_values xrf_since xrf_sizes xrf_kinds xrf_firsts xrf_seconds xmf_priests xmf_barred xmf_cameOn xmf_absent xmf_absentFrom xmf_absentTo xufc xuft xgf_weekly xgf_doubled xgf_dueOn xgf_owed xgf_said xgf_spared xgf_leaveOf xgf_leaveFrom xgf_leaveTo xdfc yf_isPriest yf_bars yf_joined yf_turns yf_awayMonk yf_awayFrom yf_awayTo yf_isWeekly yf_isDouble yf_giftDay yf_giftFrom yf_owed yf_said yf_spared yf_leaveGift yf_leaveFrom yf_leaveTo yf_lateDay yf_lateOffice yf_lateBy yf_guests yf_who yf_used yf_lacks yf_candles yf_masses yf_owing yf_heldOn yf_waits yf_tape yf_text yf_statements yf_taken yf_sort yf_first yf_second (by omega) (by first | assumption | omega) (by first | assumption | omega) h0_xv_today h1_xv_today h0_xbv_size h1_xbv_size h0_xfv_size h1_xfv_size h0_xtv_length h1_xtv_length h0_xqv_size h1_xqv_size h0_xqtv_size h1_xqtv_size h0_xrv_size h1_xrv_size h0_xmv_size h1_xmv_size h0_xmv_rows h1_xmv_rows h0_xgv_size h1_xgv_size h0_xgv_rows h1_xgv_rows h0_yv_today h1_yv_today h0_yv_monks h1_yv_monks h0_yv_aways h1_yv_aways h0_yv_gifts h1_yv_gifts h0_yv_leaves h1_yv_leaves h0_yv_lates h1_yv_lates h0_yv_taped h1_yv_taped h0_yv_rules h1_yv_rules hr_xv_today hr_xmv_size hr_xmv_rows hr_xgv_size hr_xgv_rows hu0 hu1 hd0 hd1 hu2 hd2 (by first | assumption | omega) (by first | assumption | omega) hgu hfl hh hs hr hst hw hfe _ _ (hP.sub [0, 1, 2, 3, 4, 5, 6, 7, 8, 9, 10, 11, 12, 13, 14, 15, 16, 17, 18, 19, 20, 21, 22, 23, 24, 25, 26, 27, 28, 29, 30, 31, 32, 33, 34, 35, 36, 37, 38, 39, 40, 41, 42, 43, 44, 45, 46, 47, 48, 49, 50, 51, 52, 53, 54, 55, 56, 57, 58, 59, 60, 61, 62, 63, 64, 65, 66, 67, 68, 69, 70, 71, 72, 73, 74, 75, 76, 77, 78, 79, 80, 81, 82, 83, 84, 85, 86, 87, 88, 89] rfl) (hD.sub [0, 1, 2, 3, 4, 5, 6, 7, 8, 9, 10, 11, 12, 13, 14, 15, 16, 17, 18, 19, 20, 21, 22, 23, 24, 25, 26, 27, 28, 29, 30, 31, 32, 33, 34, 35, 36, 37, 38, 39, 40, 41, 42, 43, 44, 45, 46, 47, 48, 49, 50, 51, 52, 53, 54, 55, 56, 57, 58, 59, 60, 61, 62, 63, 64, 65, 66, 67, 68, 69, 70, 71, 72, 73, 74, 75, 76, 77, 78, 79, 80, 81, 82, 83, 84, 85, 86, 87, 88, 89] (by decide +kernel) rfl) hS ls (lv_sub hl [0, 1, 2, 3] rfl)

