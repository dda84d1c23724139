theorem in_E_fault_X11 : ∀ w ∈ wsX110, w ∈ wsX11_fault := tl_X11_fault_X11
set_option maxHeartbeats 8000000 in
set_option maxRecDepth 100000 in
theorem E_fault {l : Launch} {D : va_G} {cI cZ cB : ClassId} {h a_bells a_feasts a_tape a_reader a_rules a_monks a_duties a_gifts a_figures : Nat} {v_today v_stock v_guestHeads v_guestRanks v_faultPlace v_candlesInAll : Int32}   : Met l yX11_fault wsX11_fault ({ frames := 0, cells := 0, slots := 0, locals := 0 }) (RO D cI cZ cB [.ref h] [(h, .inr (10, [.ref a_bells, .ref a_feasts, .ref a_tape, .ref a_reader, .ref a_rules, .ref a_monks, .ref a_duties, .ref a_gifts, .ref a_figures, .int v_today, .int v_stock, .int v_guestHeads, .int v_guestRanks, .int v_faultPlace, .int v_candlesInAll]))]) (vp_Si (fun r : Int32 => r = v_faultPlace)) 0 0 (fun _ => False) := by
  refine ro_ret (cc := cX11_fault) (maxL := 1) (ty := .int) (own := RX11) (by decide) rfl rfl (Nat.le_of_ble_eq_true rfl) ?_
  intro p e s m args below meth c Q S hret hP hK ls hl
  obtain ⟨hx, hb, hml, hown, hts⟩ := id S
  have hl : lv_has ls 1 [(0, .ref h)] := hl
  have kk0 : (0 : Int32).toInt = 0 := by decide
  have lk0 := hts (.fieldLink RX11 74 "AbbeyHours" "faultPlace" "I") (List.mem_cons_of_mem _ (List.mem_append_left _ (List.mem_of_getElem? (i := 0) rfl)))
  refine lv_aload_n hx hb dX11_fault_0 rfl (lv_at hl 0 rfl) ?_
  refine va_get (D := D) (ci := 10) (v := .int v_faultPlace) (C := RX11) (T := TX11) (N := 15) hx hb hts in_E_fault_X11 hown hK.1 hP 0 rfl rfl 13 (by decide) lk0 (fun _ h9 => h9) rfl dX11_fault_1 ?_
  exact hret v_faultPlace _ _ (show v_faultPlace = v_faultPlace from rfl) rfl dX11_fault_4

theorem in_M_fault_X12 : ∀ w ∈ wsX120, w ∈ wsX12_fault := tl_X12_fault_X12
set_option maxHeartbeats 8000000 in
set_option maxRecDepth 100000 in
theorem M_fault {l : Launch} {D : va_G} {cI cZ cB : ClassId} {h a_isPriest a_bars a_joined a_turns a_awayMonk a_awayFrom a_awayTo a_feastDay a_rank a_isWeekly a_isDouble a_giftDay a_giftFrom a_owed a_said a_spared a_leaveGift a_leaveFrom a_leaveTo a_lateDay a_lateOffice a_lateBy a_guests a_who a_used a_lacks a_candles a_masses a_owing a_heldOn a_waits a_tape a_text a_statements a_taken a_sort a_first a_second : Nat} {v_today v_monks v_aways v_feasts v_gifts v_leaves v_lates v_store v_allCandles v_taped v_size v_at v_fault v_rules v_wordEnd v_number : Int32}   : Met l yX12_fault wsX12_fault ({ frames := 0, cells := 0, slots := 0, locals := 0 }) (RO D cI cZ cB [.ref h] [(h, .inr (11, [.int v_today, .int v_monks, .int v_aways, .int v_feasts, .int v_gifts, .int v_leaves, .int v_lates, .int v_store, .int v_allCandles, .ref a_isPriest, .ref a_bars, .ref a_joined, .ref a_turns, .ref a_awayMonk, .ref a_awayFrom, .ref a_awayTo, .ref a_feastDay, .ref a_rank, .ref a_isWeekly, .ref a_isDouble, .ref a_giftDay, .ref a_giftFrom, .ref a_owed, .ref a_said, .ref a_spared, .ref a_leaveGift, .ref a_leaveFrom, .ref a_leaveTo, .ref a_lateDay, .ref a_lateOffice, .ref a_lateBy, .ref a_guests, .ref a_who, .ref a_used, .ref a_lacks, .ref a_candles, .ref a_masses, .ref a_owing, .ref a_heldOn, .ref a_waits, .ref a_tape, .ref a_text, .int v_taped, .int v_size, .int v_at, .int v_fault, .int v_rules, .ref a_statements, .ref a_taken, .ref a_sort, .ref a_first, .ref a_second, .int v_wordEnd, .int v_number]))]) (vp_Si (fun r : Int32 => r = v_fault)) 0 0 (fun _ => False) := by
  refine ro_ret (cc := cX12_fault) (maxL := 1) (ty := .int) (own := RX12) (by decide) rfl rfl (Nat.le_of_ble_eq_true rfl) ?_
  intro p e s m args below meth c Q S hret hP hK ls hl
  obtain ⟨hx, hb, hml, hown, hts⟩ := id S
  have hl : lv_has ls 1 [(0, .ref h)] := hl
  have kk0 : (0 : Int32).toInt = 0 := by decide
  have lk0 := hts (.fieldLink RX12 111 "AbbeyHoursModel" "fault" "I") (List.mem_cons_of_mem _ (List.mem_append_left _ (List.mem_of_getElem? (i := 0) rfl)))
  refine lv_aload_n hx hb dX12_fault_0 rfl (lv_at hl 0 rfl) ?_
  refine va_get (D := D) (ci := 11) (v := .int v_fault) (C := RX12) (T := TX12) (N := 54) hx hb hts in_M_fault_X12 hown hK.1 hP 0 rfl rfl 45 (by decide) lk0 (fun _ h9 => h9) rfl dX12_fault_1 ?_
  exact hret v_fault _ _ (show v_fault = v_fault from rfl) rfl dX12_fault_4

