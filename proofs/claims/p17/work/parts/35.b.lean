theorem in_E_store_X11 : ∀ w ∈ wsX110, w ∈ wsX11_store := tl_X11_store_X11
set_option maxHeartbeats 8000000 in
set_option maxRecDepth 100000 in
theorem E_store {l : Launch} {D : va_G} {cI cZ cB : ClassId} {sz : Nat} {h a_bells a_feasts a_tape a_reader a_rules a_monks a_duties a_gifts a_figures : Nat} {v_today v_stock v_guestHeads v_guestRanks v_faultPlace v_candlesInAll : Int32} {x : Int32}  : Met l yX11_store wsX11_store ({ frames := 1, cells := 0, slots := 0, locals := 22 }) (RW D cI cZ cB [.ref h, .int x] sz [(h, .inr (10, [.ref a_bells, .ref a_feasts, .ref a_tape, .ref a_reader, .ref a_rules, .ref a_monks, .ref a_duties, .ref a_gifts, .ref a_figures, .int v_today, .int v_stock, .int v_guestHeads, .int v_guestRanks, .int v_faultPlace, .int v_candlesInAll]))]) (va_Qi (fun (r : Int32) (u : Int32) => (((0 ≤ x.toInt ∧ x.toInt ≤ 10000) ∧ (v_stock + x).toInt ≤ 1000000) ∧ r = v_stock + x ∧ u = v_stock + x) ∨ (¬ ((0 ≤ x.toInt ∧ x.toInt ≤ 10000) ∧ (v_stock + x).toInt ≤ 1000000) ∧ r.toInt = -1 ∧ u = v_stock)) (BW D [(h, .inr (10, [.ref a_bells, .ref a_feasts, .ref a_tape, .ref a_reader, .ref a_rules, .ref a_monks, .ref a_duties, .ref a_gifts, .ref a_figures, .int v_today, .int v_stock, .int v_guestHeads, .int v_guestRanks, .int v_faultPlace, .int v_candlesInAll]))] sz (fun u : Int32 => [(h, .inr (10, [.ref a_bells, .ref a_feasts, .ref a_tape, .ref a_reader, .ref a_rules, .ref a_monks, .ref a_duties, .ref a_gifts, .ref a_figures, .int v_today, .int u, .int v_guestHeads, .int v_guestRanks, .int v_faultPlace, .int v_candlesInAll]))])) (va_A [(h, .inr (10, [.ref a_bells, .ref a_feasts, .ref a_tape, .ref a_reader, .ref a_rules, .ref a_monks, .ref a_duties, .ref a_gifts, .ref a_figures, .int v_today, .int v_stock, .int v_guestHeads, .int v_guestRanks, .int v_faultPlace, .int v_candlesInAll]))] sz)) 0 (0) (va_A [(h, .inr (10, [.ref a_bells, .ref a_feasts, .ref a_tape, .ref a_reader, .ref a_rules, .ref a_monks, .ref a_duties, .ref a_gifts, .ref a_figures, .int v_today, .int v_stock, .int v_guestHeads, .int v_guestRanks, .int v_faultPlace, .int v_candlesInAll]))] sz) := by
  refine rw_ret (cc := cX11_store) (maxL := 2) (ty := .int) (own := RX11) (by decide) rfl rfl (Nat.le_of_ble_eq_true rfl) ?_
  intro p e s m args below meth c Q A S hin hret hP hK hD hA hS ls hl
  obtain ⟨hx, hb, hml, hown, hts⟩ := id S
  have hl : lv_has ls 2 [(0, .ref h), (1, .int x)] := hl
  have kkm1 : (-1 : Int32).toInt = -1 := by decide
  have kk0 : (0 : Int32).toInt = 0 := by decide
  have kk10000 : (10000 : Int32).toInt = 10000 := by decide
  have kk1000000 : (1000000 : Int32).toInt = 1000000 := by decide
  have lk0 := hts (.fieldLink RX11 187 "AbbeyHours" "stock" "I") (List.mem_cons_of_mem _ (List.mem_append_left _ (List.mem_of_getElem? (i := 0) rfl)))
  have lk1 := hts (.constant RX11 190 (1000000)) (List.mem_cons_of_mem _ (List.mem_append_left _ (List.mem_of_getElem? (i := 1) rfl)))
  refine lv_iload_n hx hb dX11_store_0 rfl (lv_at hl 1 rfl) ?_
  refine lv_iconst (v := 0) hx hb dX11_store_1 (by decide) ?_
  refine lv_sipush (v := 10000) hx hb dX11_store_2 (by decide) ?_
  have hPc := hP.sub (ws' := []) [] rfl
  refine roS (As := [.int x, .int 0, .int 10000]) (rest := []) S (w_within  ) (va_cwS 3 hts gX11_store_X11_within rfl rfl rfl hd_X11_within ⟨Nat.le_of_ble_eq_true rfl, Nat.le_of_ble_eq_true rfl⟩) hK hPc rfl hl.1 rfl (Nat.le_of_ble_eq_true rfl) dX11_store_5 ⟨Nat.le_of_ble_eq_true rfl, Nat.le_of_ble_eq_true rfl⟩ (fun r_1 hw_1 => ?_)
  have hw_1 : (r_1.toInt = 1 ∧ (0 : Int32).toInt ≤ x.toInt ∧ x.toInt ≤ (10000 : Int32).toInt) ∨ (r_1.toInt = 0 ∧ (x.toInt < (0 : Int32).toInt ∨ (10000 : Int32).toInt < x.toInt)) := hw_1
  refine lv_if_eq (tgt := 22) hx hb dX11_store_8 (by decide) (fun c_2 => ?_) (fun c_2 => ?_)
  · have tc_2 := t_eq c_2
    refine lv_iconst (v := (-1)) hx hb dX11_store_22 (by decide) ?_
    exact hret (-1) v_stock _ _ _ _ (show (((0 ≤ x.toInt ∧ x.toInt ≤ 10000) ∧ (v_stock + x).toInt ≤ 1000000) ∧ (-1 : Int32) = v_stock + x ∧ v_stock = v_stock + x) ∨ (¬ ((0 ≤ x.toInt ∧ x.toInt ≤ 10000) ∧ (v_stock + x).toInt ≤ 1000000) ∧ (-1 : Int32).toInt = -1 ∧ v_stock = v_stock) from by first | exact Or.inl ⟨by omega, ez2, ez2⟩ | exact Or.inr ⟨by omega, by omega, rfl⟩) rfl (hP.sub [0] rfl) (hD.sub [0] (by decide +kernel) rfl) hS dX11_store_23
  · have tc_2 := t_neq c_2
    refine lv_aload_n hx hb dX11_store_11 rfl (lv_at hl 0 rfl) ?_
    refine va_get (D := D) (ci := 10) (v := .int v_stock) (C := RX11) (T := TX11) (N := 15) hx hb hts in_E_store_X11 hown hK.1 hP 0 rfl rfl 10 (by decide) lk0 (fun _ h9 => h9) rfl dX11_store_12 ?_
    refine lv_iload_n hx hb dX11_store_15 rfl (lv_at hl 1 rfl) ?_
    refine lv_iadd hx hb dX11_store_16 ?_
    refine lv_topi (fun z1 ez1 => ?_)
    have tz1 := t_eq ez1
    refine lv_ldc (v := 1000000) hx hb hown lk1 dX11_store_17 ?_
    refine lv_icmp_le (tgt := 24) hx hb dX11_store_19 (by decide) (fun c_4 => ?_) (fun c_4 => ?_)
    · have tc_4 := t_le c_4
      refine lv_aload_n hx hb dX11_store_24 rfl (lv_at hl 0 rfl) ?_
      refine lv_dup hx hb dX11_store_25 rfl ?_
      refine va_get (D := D) (ci := 10) (v := .int v_stock) (C := RX11) (T := TX11) (N := 15) hx hb hts in_E_store_X11 hown hK.1 hP 0 rfl rfl 10 (by decide) lk0 (fun _ h9 => h9) rfl dX11_store_26 ?_
      refine lv_iload_n hx hb dX11_store_29 rfl (lv_at hl 1 rfl) ?_
      refine lv_iadd hx hb dX11_store_30 ?_
      refine lv_topi (fun z2 ez2 => ?_)
      refine va_put (D := D) (ci := 10) (v := .int z2) (ty := .int) (C := RX11) (T := TX11) (N := 15) hx hb hts in_E_store_X11 tyX11 tyX11_ok nmX11 hown hK.1 hP hD hS 0 rfl rfl 10 (by decide) lk0 (fun _ h9 => h9) rfl (by decide +kernel) rfl rfl (Nat.le_of_ble_eq_true rfl) dX11_store_31 (fun H locs hP hD hS => ?_)
      have hP : va_P D vwCl [(h, .inr (10, [.ref a_bells, .ref a_feasts, .ref a_tape, .ref a_reader, .ref a_rules, .ref a_monks, .ref a_duties, .ref a_gifts, .ref a_figures, .int v_today, .int z2, .int v_guestHeads, .int v_guestRanks, .int v_faultPlace, .int v_candlesInAll]))] H := hP
      have hD := asD hP hD
      refine lv_aload_n hx hb dX11_store_34 rfl (lv_at hl 0 rfl) ?_
      refine va_get (D := D) (ci := 10) (v := .int z2) (C := RX11) (T := TX11) (N := 15) hx hb hts in_E_store_X11 hown hK.1 hP 0 rfl rfl 10 (by decide) lk0 (fun _ h9 => h9) rfl dX11_store_35 ?_
      exact hret z2 z2 _ _ _ _ (show (((0 ≤ x.toInt ∧ x.toInt ≤ 10000) ∧ (v_stock + x).toInt ≤ 1000000) ∧ z2 = v_stock + x ∧ z2 = v_stock + x) ∨ (¬ ((0 ≤ x.toInt ∧ x.toInt ≤ 10000) ∧ (v_stock + x).toInt ≤ 1000000) ∧ z2.toInt = -1 ∧ z2 = v_stock) from by first | exact Or.inl ⟨by omega, ez2, ez2⟩ | exact Or.inr ⟨by omega, by omega, rfl⟩) rfl (hP.sub [0] rfl) (hD.sub [0] (by decide +kernel) rfl) hS dX11_store_38
    · have tc_4 := t_nle c_4
      refine lv_iconst (v := (-1)) hx hb dX11_store_22 (by decide) ?_
      exact hret (-1) v_stock _ _ _ _ (show (((0 ≤ x.toInt ∧ x.toInt ≤ 10000) ∧ (v_stock + x).toInt ≤ 1000000) ∧ (-1 : Int32) = v_stock + x ∧ v_stock = v_stock + x) ∨ (¬ ((0 ≤ x.toInt ∧ x.toInt ≤ 10000) ∧ (v_stock + x).toInt ≤ 1000000) ∧ (-1 : Int32).toInt = -1 ∧ v_stock = v_stock) from by first | exact Or.inl ⟨by omega, ez2, ez2⟩ | exact Or.inr ⟨by omega, by omega, rfl⟩) rfl (hP.sub [0] rfl) (hD.sub [0] (by decide +kernel) rfl) hS dX11_store_23

theorem in_M_store_X12 : ∀ w ∈ wsX120, w ∈ wsX12_store := tl_X12_store_X12
set_option maxHeartbeats 8000000 in
set_option maxRecDepth 100000 in
theorem M_store {l : Launch} {D : va_G} {cI cZ cB : ClassId} {sz : Nat} {h a_isPriest a_bars a_joined a_turns a_awayMonk a_awayFrom a_awayTo a_feastDay a_rank a_isWeekly a_isDouble a_giftDay a_giftFrom a_owed a_said a_spared a_leaveGift a_leaveFrom a_leaveTo a_lateDay a_lateOffice a_lateBy a_guests a_who a_used a_lacks a_candles a_masses a_owing a_heldOn a_waits a_tape a_text a_statements a_taken a_sort a_first a_second : Nat} {v_today v_monks v_aways v_feasts v_gifts v_leaves v_lates v_store v_allCandles v_taped v_size v_at v_fault v_rules v_wordEnd v_number : Int32} {x : Int32}  : Met l yX12_store wsX12_store ({ frames := 1, cells := 0, slots := 0, locals := 22 }) (RW D cI cZ cB [.ref h, .int x] sz [(h, .inr (11, [.int v_today, .int v_monks, .int v_aways, .int v_feasts, .int v_gifts, .int v_leaves, .int v_lates, .int v_store, .int v_allCandles, .ref a_isPriest, .ref a_bars, .ref a_joined, .ref a_turns, .ref a_awayMonk, .ref a_awayFrom, .ref a_awayTo, .ref a_feastDay, .ref a_rank, .ref a_isWeekly, .ref a_isDouble, .ref a_giftDay, .ref a_giftFrom, .ref a_owed, .ref a_said, .ref a_spared, .ref a_leaveGift, .ref a_leaveFrom, .ref a_leaveTo, .ref a_lateDay, .ref a_lateOffice, .ref a_lateBy, .ref a_guests, .ref a_who, .ref a_used, .ref a_lacks, .ref a_candles, .ref a_masses, .ref a_owing, .ref a_heldOn, .ref a_waits, .ref a_tape, .ref a_text, .int v_taped, .int v_size, .int v_at, .int v_fault, .int v_rules, .ref a_statements, .ref a_taken, .ref a_sort, .ref a_first, .ref a_second, .int v_wordEnd, .int v_number]))]) (va_Qi (fun (r : Int32) (u : Int32) => (((0 ≤ x.toInt ∧ x.toInt ≤ 10000) ∧ (v_store + x).toInt ≤ 1000000) ∧ r = v_store + x ∧ u = v_store + x) ∨ (¬ ((0 ≤ x.toInt ∧ x.toInt ≤ 10000) ∧ (v_store + x).toInt ≤ 1000000) ∧ r.toInt = -1 ∧ u = v_store)) (BW D [(h, .inr (11, [.int v_today, .int v_monks, .int v_aways, .int v_feasts, .int v_gifts, .int v_leaves, .int v_lates, .int v_store, .int v_allCandles, .ref a_isPriest, .ref a_bars, .ref a_joined, .ref a_turns, .ref a_awayMonk, .ref a_awayFrom, .ref a_awayTo, .ref a_feastDay, .ref a_rank, .ref a_isWeekly, .ref a_isDouble, .ref a_giftDay, .ref a_giftFrom, .ref a_owed, .ref a_said, .ref a_spared, .ref a_leaveGift, .ref a_leaveFrom, .ref a_leaveTo, .ref a_lateDay, .ref a_lateOffice, .ref a_lateBy, .ref a_guests, .ref a_who, .ref a_used, .ref a_lacks, .ref a_candles, .ref a_masses, .ref a_owing, .ref a_heldOn, .ref a_waits, .ref a_tape, .ref a_text, .int v_taped, .int v_size, .int v_at, .int v_fault, .int v_rules, .ref a_statements, .ref a_taken, .ref a_sort, .ref a_first, .ref a_second, .int v_wordEnd, .int v_number]))] sz (fun u : Int32 => [(h, .inr (11, [.int v_today, .int v_monks, .int v_aways, .int v_feasts, .int v_gifts, .int v_leaves, .int v_lates, .int u, .int v_allCandles, .ref a_isPriest, .ref a_bars, .ref a_joined, .ref a_turns, .ref a_awayMonk, .ref a_awayFrom, .ref a_awayTo, .ref a_feastDay, .ref a_rank, .ref a_isWeekly, .ref a_isDouble, .ref a_giftDay, .ref a_giftFrom, .ref a_owed, .ref a_said, .ref a_spared, .ref a_leaveGift, .ref a_leaveFrom, .ref a_leaveTo, .ref a_lateDay, .ref a_lateOffice, .ref a_lateBy, .ref a_guests, .ref a_who, .ref a_used, .ref a_lacks, .ref a_candles, .ref a_masses, .ref a_owing, .ref a_heldOn, .ref a_waits, .ref a_tape, .ref a_text, .int v_taped, .int v_size, .int v_at, .int v_fault, .int v_rules, .ref a_statements, .ref a_taken, .ref a_sort, .ref a_first, .ref a_second, .int v_wordEnd, .int v_number]))])) (va_A [(h, .inr (11, [.int v_today, .int v_monks, .int v_aways, .int v_feasts, .int v_gifts, .int v_leaves, .int v_lates, .int v_store, .int v_allCandles, .ref a_isPriest, .ref a_bars, .ref a_joined, .ref a_turns, .ref a_awayMonk, .ref a_awayFrom, .ref a_awayTo, .ref a_feastDay, .ref a_rank, .ref a_isWeekly, .ref a_isDouble, .ref a_giftDay, .ref a_giftFrom, .ref a_owed, .ref a_said, .ref a_spared, .ref a_leaveGift, .ref a_leaveFrom, .ref a_leaveTo, .ref a_lateDay, .ref a_lateOffice, .ref a_lateBy, .ref a_guests, .ref a_who, .ref a_used, .ref a_lacks, .ref a_candles, .ref a_masses, .ref a_owing, .ref a_heldOn, .ref a_waits, .ref a_tape, .ref a_text, .int v_taped, .int v_size, .int v_at, .int v_fault, .int v_rules, .ref a_statements, .ref a_taken, .ref a_sort, .ref a_first, .ref a_second, .int v_wordEnd, .int v_number]))] sz)) 0 (0) (va_A [(h, .inr (11, [.int v_today, .int v_monks, .int v_aways, .int v_feasts, .int v_gifts, .int v_leaves, .int v_lates, .int v_store, .int v_allCandles, .ref a_isPriest, .ref a_bars, .ref a_joined, .ref a_turns, .ref a_awayMonk, .ref a_awayFrom, .ref a_awayTo, .ref a_feastDay, .ref a_rank, .ref a_isWeekly, .ref a_isDouble, .ref a_giftDay, .ref a_giftFrom, .ref a_owed, .ref a_said, .ref a_spared, .ref a_leaveGift, .ref a_leaveFrom, .ref a_leaveTo, .ref a_lateDay, .ref a_lateOffice, .ref a_lateBy, .ref a_guests, .ref a_who, .ref a_used, .ref a_lacks, .ref a_candles, .ref a_masses, .ref a_owing, .ref a_heldOn, .ref a_waits, .ref a_tape, .ref a_text, .int v_taped, .int v_size, .int v_at, .int v_fault, .int v_rules, .ref a_statements, .ref a_taken, .ref a_sort, .ref a_first, .ref a_second, .int v_wordEnd, .int v_number]))] sz) := by
  refine rw_ret (cc := cX12_store) (maxL := 2) (ty := .int) (own := RX12) (by decide) rfl rfl (Nat.le_of_ble_eq_true rfl) ?_
  intro p e s m args below meth c Q A S hin hret hP hK hD hA hS ls hl
  obtain ⟨hx, hb, hml, hown, hts⟩ := id S
  have hl : lv_has ls 2 [(0, .ref h), (1, .int x)] := hl
  have kkm1 : (-1 : Int32).toInt = -1 := by decide
  have kk0 : (0 : Int32).toInt = 0 := by decide
  have kk10000 : (10000 : Int32).toInt = 10000 := by decide
  have kk1000000 : (1000000 : Int32).toInt = 1000000 := by decide
  have lk0 := hts (.fieldLink RX12 264 "AbbeyHoursModel" "store" "I") (List.mem_cons_of_mem _ (List.mem_append_left _ (List.mem_of_getElem? (i := 0) rfl)))
  have lk1 := hts (.constant RX12 267 (1000000)) (List.mem_cons_of_mem _ (List.mem_append_left _ (List.mem_of_getElem? (i := 1) rfl)))
  refine lv_iload_n hx hb dX12_store_0 rfl (lv_at hl 1 rfl) ?_
  refine lv_iconst (v := 0) hx hb dX12_store_1 (by decide) ?_
  refine lv_sipush (v := 10000) hx hb dX12_store_2 (by decide) ?_
  have hPc := hP.sub (ws' := []) [] rfl
  refine roS (As := [.int x, .int 0, .int 10000]) (rest := []) S (m_isIn  ) (va_cwS 3 hts gX12_store_X12_isIn rfl rfl rfl hd_X12_isIn ⟨Nat.le_of_ble_eq_true rfl, Nat.le_of_ble_eq_true rfl⟩) hK hPc rfl hl.1 rfl (Nat.le_of_ble_eq_true rfl) dX12_store_5 ⟨Nat.le_of_ble_eq_true rfl, Nat.le_of_ble_eq_true rfl⟩ (fun r_1 hw_1 => ?_)
  have hw_1 : (r_1.toInt = 1 ∧ (0 : Int32).toInt ≤ x.toInt ∧ x.toInt ≤ (10000 : Int32).toInt) ∨ (r_1.toInt = 0 ∧ (x.toInt < (0 : Int32).toInt ∨ (10000 : Int32).toInt < x.toInt)) := hw_1
  refine lv_if_eq (tgt := 23) hx hb dX12_store_8 (by decide) (fun c_2 => ?_) (fun c_2 => ?_)
  · have tc_2 := t_eq c_2
    refine lv_iconst (v := (-1)) hx hb dX12_store_23 (by decide) ?_
    exact hret (-1) v_store _ _ _ _ (show (((0 ≤ x.toInt ∧ x.toInt ≤ 10000) ∧ (v_store + x).toInt ≤ 1000000) ∧ (-1 : Int32) = v_store + x ∧ v_store = v_store + x) ∨ (¬ ((0 ≤ x.toInt ∧ x.toInt ≤ 10000) ∧ (v_store + x).toInt ≤ 1000000) ∧ (-1 : Int32).toInt = -1 ∧ v_store = v_store) from by first | exact Or.inl ⟨by omega, ez2, ez2⟩ | exact Or.inr ⟨by omega, by omega, rfl⟩) rfl (hP.sub [0] rfl) (hD.sub [0] (by decide +kernel) rfl) hS dX12_store_24
  · have tc_2 := t_neq c_2
    refine lv_aload_n hx hb dX12_store_11 rfl (lv_at hl 0 rfl) ?_
    refine va_get (D := D) (ci := 11) (v := .int v_store) (C := RX12) (T := TX12) (N := 54) hx hb hts in_M_store_X12 hown hK.1 hP 0 rfl rfl 7 (by decide) lk0 (fun _ h9 => h9) rfl dX12_store_12 ?_
    refine lv_iload_n hx hb dX12_store_15 rfl (lv_at hl 1 rfl) ?_
    refine lv_iadd hx hb dX12_store_16 ?_
    refine lv_topi (fun z1 ez1 => ?_)
    have tz1 := t_eq ez1
    refine lv_ldcw (v := 1000000) hx hb hown lk1 dX12_store_17 ?_
    refine lv_icmp_le (tgt := 25) hx hb dX12_store_20 (by decide) (fun c_4 => ?_) (fun c_4 => ?_)
    · have tc_4 := t_le c_4
      refine lv_aload_n hx hb dX12_store_25 rfl (lv_at hl 0 rfl) ?_
      refine lv_dup hx hb dX12_store_26 rfl ?_
      refine va_get (D := D) (ci := 11) (v := .int v_store) (C := RX12) (T := TX12) (N := 54) hx hb hts in_M_store_X12 hown hK.1 hP 0 rfl rfl 7 (by decide) lk0 (fun _ h9 => h9) rfl dX12_store_27 ?_
      refine lv_iload_n hx hb dX12_store_30 rfl (lv_at hl 1 rfl) ?_
      refine lv_iadd hx hb dX12_store_31 ?_
      refine lv_topi (fun z2 ez2 => ?_)
      refine va_put (D := D) (ci := 11) (v := .int z2) (ty := .int) (C := RX12) (T := TX12) (N := 54) hx hb hts in_M_store_X12 tyX12 tyX12_ok nmX12 hown hK.1 hP hD hS 0 rfl rfl 7 (by decide) lk0 (fun _ h9 => h9) rfl (by decide +kernel) rfl rfl (Nat.le_of_ble_eq_true rfl) dX12_store_32 (fun H locs hP hD hS => ?_)
      have hP : va_P D vwCl [(h, .inr (11, [.int v_today, .int v_monks, .int v_aways, .int v_feasts, .int v_gifts, .int v_leaves, .int v_lates, .int z2, .int v_allCandles, .ref a_isPriest, .ref a_bars, .ref a_joined, .ref a_turns, .ref a_awayMonk, .ref a_awayFrom, .ref a_awayTo, .ref a_feastDay, .ref a_rank, .ref a_isWeekly, .ref a_isDouble, .ref a_giftDay, .ref a_giftFrom, .ref a_owed, .ref a_said, .ref a_spared, .ref a_leaveGift, .ref a_leaveFrom, .ref a_leaveTo, .ref a_lateDay, .ref a_lateOffice, .ref a_lateBy, .ref a_guests, .ref a_who, .ref a_used, .ref a_lacks, .ref a_candles, .ref a_masses, .ref a_owing, .ref a_heldOn, .ref a_waits, .ref a_tape, .ref a_text, .int v_taped, .int v_size, .int v_at, .int v_fault, .int v_rules, .ref a_statements, .ref a_taken, .ref a_sort, .ref a_first, .ref a_second, .int v_wordEnd, .int v_number]))] H := hP
      have hD := asD hP hD
      refine lv_aload_n hx hb dX12_store_35 rfl (lv_at hl 0 rfl) ?_
      refine va_get (D := D) (ci := 11) (v := .int z2) (C := RX12) (T := TX12) (N := 54) hx hb hts in_M_store_X12 hown hK.1 hP 0 rfl rfl 7 (by decide) lk0 (fun _ h9 => h9) rfl dX12_store_36 ?_
      exact hret z2 z2 _ _ _ _ (show (((0 ≤ x.toInt ∧ x.toInt ≤ 10000) ∧ (v_store + x).toInt ≤ 1000000) ∧ z2 = v_store + x ∧ z2 = v_store + x) ∨ (¬ ((0 ≤ x.toInt ∧ x.toInt ≤ 10000) ∧ (v_store + x).toInt ≤ 1000000) ∧ z2.toInt = -1 ∧ z2 = v_store) from by first | exact Or.inl ⟨by omega, ez2, ez2⟩ | exact Or.inr ⟨by omega, by omega, rfl⟩) rfl (hP.sub [0] rfl) (hD.sub [0] (by decide +kernel) rfl) hS dX12_store_39
    · have tc_4 := t_nle c_4
      refine lv_iconst (v := (-1)) hx hb dX12_store_23 (by decide) ?_
      exact hret (-1) v_store _ _ _ _ (show (((0 ≤ x.toInt ∧ x.toInt ≤ 10000) ∧ (v_store + x).toInt ≤ 1000000) ∧ (-1 : Int32) = v_store + x ∧ v_store = v_store + x) ∨ (¬ ((0 ≤ x.toInt ∧ x.toInt ≤ 10000) ∧ (v_store + x).toInt ≤ 1000000) ∧ (-1 : Int32).toInt = -1 ∧ v_store = v_store) from by first | exact Or.inl ⟨by omega, ez2, ez2⟩ | exact Or.inr ⟨by omega, by omega, rfl⟩) rfl (hP.sub [0] rfl) (hD.sub [0] (by decide +kernel) rfl) hS dX12_store_24

theorem in_E_guests_X11 : ∀ w ∈ wsX110, w ∈ wsX11_guests := tl_X11_guests_X11
set_option maxHeartbeats 8000000 in
set_option maxRecDepth 100000 in
theorem E_guests {l : Launch} {D : va_G} {cI cZ cB : ClassId} {sz : Nat} {h a_bells a_feasts a_tape a_reader a_rules a_monks a_duties a_gifts a_figures : Nat} {v_today v_stock v_guestHeads v_guestRanks v_faultPlace v_candlesInAll : Int32} {x k : Int32}  : Met l yX11_guests wsX11_guests ({ frames := 1, cells := 0, slots := 0, locals := 22 }) (RW D cI cZ cB [.ref h, .int x, .int k] sz [(h, .inr (10, [.ref a_bells, .ref a_feasts, .ref a_tape, .ref a_reader, .ref a_rules, .ref a_monks, .ref a_duties, .ref a_gifts, .ref a_figures, .int v_today, .int v_stock, .int v_guestHeads, .int v_guestRanks, .int v_faultPlace, .int v_candlesInAll]))]) (va_Qi (fun (r : Int32) (u : Int32 × Int32) => (((1 ≤ x.toInt ∧ x.toInt ≤ 50 ∧ 0 ≤ k.toInt ∧ k.toInt ≤ 5) ∧ (v_guestHeads + x).toInt ≤ 200) ∧ r = v_guestHeads + x ∧ u.1 = v_guestHeads + x ∧ u.2 = v_guestRanks + x * k) ∨ (¬ ((1 ≤ x.toInt ∧ x.toInt ≤ 50 ∧ 0 ≤ k.toInt ∧ k.toInt ≤ 5) ∧ (v_guestHeads + x).toInt ≤ 200) ∧ r.toInt = -1 ∧ u.1 = v_guestHeads ∧ u.2 = v_guestRanks)) (BW D [(h, .inr (10, [.ref a_bells, .ref a_feasts, .ref a_tape, .ref a_reader, .ref a_rules, .ref a_monks, .ref a_duties, .ref a_gifts, .ref a_figures, .int v_today, .int v_stock, .int v_guestHeads, .int v_guestRanks, .int v_faultPlace, .int v_candlesInAll]))] sz (fun u : Int32 × Int32 => [(h, .inr (10, [.ref a_bells, .ref a_feasts, .ref a_tape, .ref a_reader, .ref a_rules, .ref a_monks, .ref a_duties, .ref a_gifts, .ref a_figures, .int v_today, .int v_stock, .int u.1, .int u.2, .int v_faultPlace, .int v_candlesInAll]))])) (va_A [(h, .inr (10, [.ref a_bells, .ref a_feasts, .ref a_tape, .ref a_reader, .ref a_rules, .ref a_monks, .ref a_duties, .ref a_gifts, .ref a_figures, .int v_today, .int v_stock, .int v_guestHeads, .int v_guestRanks, .int v_faultPlace, .int v_candlesInAll]))] sz)) 0 (0) (va_A [(h, .inr (10, [.ref a_bells, .ref a_feasts, .ref a_tape, .ref a_reader, .ref a_rules, .ref a_monks, .ref a_duties, .ref a_gifts, .ref a_figures, .int v_today, .int v_stock, .int v_guestHeads, .int v_guestRanks, .int v_faultPlace, .int v_candlesInAll]))] sz) := by
  refine rw_ret (cc := cX11_guests) (maxL := 4) (ty := .int) (own := RX11) (by decide) rfl rfl (Nat.le_of_ble_eq_true rfl) ?_
  intro p e s m args below meth c Q A S hin hret hP hK hD hA hS ls hl
  obtain ⟨hx, hb, hml, hown, hts⟩ := id S
  have hl : lv_has ls 4 [(0, .ref h), (1, .int x), (2, .int k)] := hl
  have kkm1 : (-1 : Int32).toInt = -1 := by decide
  have kk0 : (0 : Int32).toInt = 0 := by decide
  have kk1 : (1 : Int32).toInt = 1 := by decide
  have kk5 : (5 : Int32).toInt = 5 := by decide
  have kk50 : (50 : Int32).toInt = 50 := by decide
  have kk200 : (200 : Int32).toInt = 200 := by decide
  have lk0 := hts (.fieldLink RX11 191 "AbbeyHours" "guestHeads" "I") (List.mem_cons_of_mem _ (List.mem_append_left _ (List.mem_of_getElem? (i := 0) rfl)))
  have lk1 := hts (.fieldLink RX11 194 "AbbeyHours" "guestRanks" "I") (List.mem_cons_of_mem _ (List.mem_append_left _ (List.mem_of_getElem? (i := 1) rfl)))
  refine lv_iload_n hx hb dX11_guests_0 rfl (lv_at hl 1 rfl) ?_
  refine lv_iconst (v := 1) hx hb dX11_guests_1 (by decide) ?_
  refine lv_bipush (v := 50) hx hb dX11_guests_2 (by decide) ?_
  have hPc := hP.sub (ws' := []) [] rfl
  refine roS (As := [.int x, .int 1, .int 50]) (rest := []) S (w_within  ) (va_cwS 3 hts gX11_guests_X11_within rfl rfl rfl hd_X11_within ⟨Nat.le_of_ble_eq_true rfl, Nat.le_of_ble_eq_true rfl⟩) hK hPc rfl hl.1 rfl (Nat.le_of_ble_eq_true rfl) dX11_guests_4 ⟨Nat.le_of_ble_eq_true rfl, Nat.le_of_ble_eq_true rfl⟩ (fun r_1 hw_1 => ?_)
  have hw_1 : (r_1.toInt = 1 ∧ (1 : Int32).toInt ≤ x.toInt ∧ x.toInt ≤ (50 : Int32).toInt) ∨ (r_1.toInt = 0 ∧ (x.toInt < (1 : Int32).toInt ∨ (50 : Int32).toInt < x.toInt)) := hw_1
  refine lv_if_eq (tgt := 23) hx hb dX11_guests_7 (by decide) (fun c_2 => ?_) (fun c_2 => ?_)
  · have tc_2 := t_eq c_2
    refine lv_iconst (v := 0) hx hb dX11_guests_23 (by decide) ?_
    refine lv_istore_n (lv' := [(3, .int 0), (0, .ref h), (1, .int x), (2, .int k)]) hx hb dX11_guests_24 rfl hl (by decide) rfl (fun ls hl => ?_)
    refine lv_iload_n hx hb dX11_guests_25 rfl (lv_at hl 0 rfl) ?_
    refine lv_if_eq (tgt := 41) hx hb dX11_guests_26 (by decide) (fun c_3 => ?_) (fun c_3 => ?_)
    · have tc_3 := t_eq c_3
      refine lv_iconst (v := (-1)) hx hb dX11_guests_41 (by decide) ?_
      exact hret (-1) (v_guestHeads, v_guestRanks) _ _ _ _ (show (((1 ≤ x.toInt ∧ x.toInt ≤ 50 ∧ 0 ≤ k.toInt ∧ k.toInt ≤ 5) ∧ (v_guestHeads + x).toInt ≤ 200) ∧ (-1 : Int32) = v_guestHeads + x ∧ v_guestHeads = v_guestHeads + x ∧ v_guestRanks = v_guestRanks + x * k) ∨ (¬ ((1 ≤ x.toInt ∧ x.toInt ≤ 50 ∧ 0 ≤ k.toInt ∧ k.toInt ≤ 5) ∧ (v_guestHeads + x).toInt ≤ 200) ∧ (-1 : Int32).toInt = -1 ∧ v_guestHeads = v_guestHeads ∧ v_guestRanks = v_guestRanks) from by first | exact Or.inl ⟨by omega, ez2, ez2, by rw [ez4, ez3]⟩ | exact Or.inr ⟨by omega, by omega, rfl, rfl⟩) rfl (hP.sub [0] rfl) (hD.sub [0] (by decide +kernel) rfl) hS dX11_guests_42
    · exact absurd c_3 (by decide)
  · have tc_2 := t_neq c_2
    refine lv_iload_n hx hb dX11_guests_10 rfl (lv_at hl 2 rfl) ?_
    refine lv_iconst (v := 0) hx hb dX11_guests_11 (by decide) ?_
    refine lv_iconst (v := 5) hx hb dX11_guests_12 (by decide) ?_
    have hPc := hP.sub (ws' := []) [] rfl
    refine roS (As := [.int k, .int 0, .int 5]) (rest := []) S (w_within  ) (va_cwS 3 hts gX11_guests_X11_within rfl rfl rfl hd_X11_within ⟨Nat.le_of_ble_eq_true rfl, Nat.le_of_ble_eq_true rfl⟩) hK hPc rfl hl.1 rfl (Nat.le_of_ble_eq_true rfl) dX11_guests_13 ⟨Nat.le_of_ble_eq_true rfl, Nat.le_of_ble_eq_true rfl⟩ (fun r_4 hw_4 => ?_)
    have hw_4 : (r_4.toInt = 1 ∧ (0 : Int32).toInt ≤ k.toInt ∧ k.toInt ≤ (5 : Int32).toInt) ∨ (r_4.toInt = 0 ∧ (k.toInt < (0 : Int32).toInt ∨ (5 : Int32).toInt < k.toInt)) := hw_4
    refine lv_if_eq (tgt := 23) hx hb dX11_guests_16 (by decide) (fun c_5 => ?_) (fun c_5 => ?_)
    · have tc_5 := t_eq c_5
      refine lv_iconst (v := 0) hx hb dX11_guests_23 (by decide) ?_
      refine lv_istore_n (lv' := [(3, .int 0), (0, .ref h), (1, .int x), (2, .int k)]) hx hb dX11_guests_24 rfl hl (by decide) rfl (fun ls hl => ?_)
      refine lv_iload_n hx hb dX11_guests_25 rfl (lv_at hl 0 rfl) ?_
      refine lv_if_eq (tgt := 41) hx hb dX11_guests_26 (by decide) (fun c_6 => ?_) (fun c_6 => ?_)
      · have tc_6 := t_eq c_6
        refine lv_iconst (v := (-1)) hx hb dX11_guests_41 (by decide) ?_
        exact hret (-1) (v_guestHeads, v_guestRanks) _ _ _ _ (show (((1 ≤ x.toInt ∧ x.toInt ≤ 50 ∧ 0 ≤ k.toInt ∧ k.toInt ≤ 5) ∧ (v_guestHeads + x).toInt ≤ 200) ∧ (-1 : Int32) = v_guestHeads + x ∧ v_guestHeads = v_guestHeads + x ∧ v_guestRanks = v_guestRanks + x * k) ∨ (¬ ((1 ≤ x.toInt ∧ x.toInt ≤ 50 ∧ 0 ≤ k.toInt ∧ k.toInt ≤ 5) ∧ (v_guestHeads + x).toInt ≤ 200) ∧ (-1 : Int32).toInt = -1 ∧ v_guestHeads = v_guestHeads ∧ v_guestRanks = v_guestRanks) from by first | exact Or.inl ⟨by omega, ez2, ez2, by rw [ez4, ez3]⟩ | exact Or.inr ⟨by omega, by omega, rfl, rfl⟩) rfl (hP.sub [0] rfl) (hD.sub [0] (by decide +kernel) rfl) hS dX11_guests_42
      · exact absurd c_6 (by decide)
    · have tc_5 := t_neq c_5
      refine lv_iconst (v := 1) hx hb dX11_guests_19 (by decide) ?_
      refine lv_goto (tgt := 24) hx hb dX11_guests_20 (by decide) ?_
      refine lv_istore_n (lv' := [(3, .int 1), (0, .ref h), (1, .int x), (2, .int k)]) hx hb dX11_guests_24 rfl hl (by decide) rfl (fun ls hl => ?_)
      refine lv_iload_n hx hb dX11_guests_25 rfl (lv_at hl 0 rfl) ?_
      refine lv_if_eq (tgt := 41) hx hb dX11_guests_26 (by decide) (fun c_7 => ?_) (fun c_7 => ?_)
      · exact absurd c_7 (by decide)
      · have tc_7 := t_neq c_7
        refine lv_aload_n hx hb dX11_guests_29 rfl (lv_at hl 1 rfl) ?_
        refine va_get (D := D) (ci := 10) (v := .int v_guestHeads) (C := RX11) (T := TX11) (N := 15) hx hb hts in_E_guests_X11 hown hK.1 hP 0 rfl rfl 11 (by decide) lk0 (fun _ h9 => h9) rfl dX11_guests_30 ?_
        refine lv_iload_n hx hb dX11_guests_33 rfl (lv_at hl 2 rfl) ?_
        refine lv_iadd hx hb dX11_guests_34 ?_
        refine lv_topi (fun z1 ez1 => ?_)
        have tz1 := t_eq ez1
        refine lv_sipush (v := 200) hx hb dX11_guests_35 (by decide) ?_
        refine lv_icmp_le (tgt := 43) hx hb dX11_guests_38 (by decide) (fun c_9 => ?_) (fun c_9 => ?_)
        · have tc_9 := t_le c_9
          refine lv_aload_n hx hb dX11_guests_43 rfl (lv_at hl 1 rfl) ?_
          refine lv_dup hx hb dX11_guests_44 rfl ?_
          refine va_get (D := D) (ci := 10) (v := .int v_guestHeads) (C := RX11) (T := TX11) (N := 15) hx hb hts in_E_guests_X11 hown hK.1 hP 0 rfl rfl 11 (by decide) lk0 (fun _ h9 => h9) rfl dX11_guests_45 ?_
          refine lv_iload_n hx hb dX11_guests_48 rfl (lv_at hl 2 rfl) ?_
          refine lv_iadd hx hb dX11_guests_49 ?_
          refine lv_topi (fun z2 ez2 => ?_)
          refine va_put (D := D) (ci := 10) (v := .int z2) (ty := .int) (C := RX11) (T := TX11) (N := 15) hx hb hts in_E_guests_X11 tyX11 tyX11_ok nmX11 hown hK.1 hP hD hS 0 rfl rfl 11 (by decide) lk0 (fun _ h9 => h9) rfl (by decide +kernel) rfl rfl (Nat.le_of_ble_eq_true rfl) dX11_guests_50 (fun H locs hP hD hS => ?_)
          have hP : va_P D vwCl [(h, .inr (10, [.ref a_bells, .ref a_feasts, .ref a_tape, .ref a_reader, .ref a_rules, .ref a_monks, .ref a_duties, .ref a_gifts, .ref a_figures, .int v_today, .int v_stock, .int z2, .int v_guestRanks, .int v_faultPlace, .int v_candlesInAll]))] H := hP
          have hD := asD hP hD
          refine lv_aload_n hx hb dX11_guests_53 rfl (lv_at hl 1 rfl) ?_
          refine lv_dup hx hb dX11_guests_54 rfl ?_
          refine va_get (D := D) (ci := 10) (v := .int v_guestRanks) (C := RX11) (T := TX11) (N := 15) hx hb hts in_E_guests_X11 hown hK.1 hP 0 rfl rfl 12 (by decide) lk1 (fun _ h9 => h9) rfl dX11_guests_55 ?_
          refine lv_iload_n hx hb dX11_guests_58 rfl (lv_at hl 2 rfl) ?_
          refine lv_iload_n hx hb dX11_guests_59 rfl (lv_at hl 3 rfl) ?_
          refine lv_imul hx hb dX11_guests_60 ?_
          refine lv_topi (fun z3 ez3 => ?_)
          refine lv_iadd hx hb dX11_guests_61 ?_
          refine lv_topi (fun z4 ez4 => ?_)
          refine va_put (D := D) (ci := 10) (v := .int z4) (ty := .int) (C := RX11) (T := TX11) (N := 15) hx hb hts in_E_guests_X11 tyX11 tyX11_ok nmX11 hown hK.1 hP hD hS 0 rfl rfl 12 (by decide) lk1 (fun _ h9 => h9) rfl (by decide +kernel) rfl rfl (Nat.le_of_ble_eq_true rfl) dX11_guests_62 (fun H locs hP hD hS => ?_)
          have hP : va_P D vwCl [(h, .inr (10, [.ref a_bells, .ref a_feasts, .ref a_tape, .ref a_reader, .ref a_rules, .ref a_monks, .ref a_duties, .ref a_gifts, .ref a_figures, .int v_today, .int v_stock, .int z2, .int z4, .int v_faultPlace, .int v_candlesInAll]))] H := hP
          have hD := asD hP hD
          refine lv_aload_n hx hb dX11_guests_65 rfl (lv_at hl 1 rfl) ?_
          refine va_get (D := D) (ci := 10) (v := .int z2) (C := RX11) (T := TX11) (N := 15) hx hb hts in_E_guests_X11 hown hK.1 hP 0 rfl rfl 11 (by decide) lk0 (fun _ h9 => h9) rfl dX11_guests_66 ?_
          exact hret z2 (z2, z4) _ _ _ _ (show (((1 ≤ x.toInt ∧ x.toInt ≤ 50 ∧ 0 ≤ k.toInt ∧ k.toInt ≤ 5) ∧ (v_guestHeads + x).toInt ≤ 200) ∧ z2 = v_guestHeads + x ∧ z2 = v_guestHeads + x ∧ z4 = v_guestRanks + x * k) ∨ (¬ ((1 ≤ x.toInt ∧ x.toInt ≤ 50 ∧ 0 ≤ k.toInt ∧ k.toInt ≤ 5) ∧ (v_guestHeads + x).toInt ≤ 200) ∧ z2.toInt = -1 ∧ z2 = v_guestHeads ∧ z4 = v_guestRanks) from by first | exact Or.inl ⟨by omega, ez2, ez2, by rw [ez4, ez3]⟩ | exact Or.inr ⟨by omega, by omega, rfl, rfl⟩) rfl (hP.sub [0] rfl) (hD.sub [0] (by decide +kernel) rfl) hS dX11_guests_69
        · have tc_9 := t_nle c_9
          refine lv_iconst (v := (-1)) hx hb dX11_guests_41 (by decide) ?_
          exact hret (-1) (v_guestHeads, v_guestRanks) _ _ _ _ (show (((1 ≤ x.toInt ∧ x.toInt ≤ 50 ∧ 0 ≤ k.toInt ∧ k.toInt ≤ 5) ∧ (v_guestHeads + x).toInt ≤ 200) ∧ (-1 : Int32) = v_guestHeads + x ∧ v_guestHeads = v_guestHeads + x ∧ v_guestRanks = v_guestRanks + x * k) ∨ (¬ ((1 ≤ x.toInt ∧ x.toInt ≤ 50 ∧ 0 ≤ k.toInt ∧ k.toInt ≤ 5) ∧ (v_guestHeads + x).toInt ≤ 200) ∧ (-1 : Int32).toInt = -1 ∧ v_guestHeads = v_guestHeads ∧ v_guestRanks = v_guestRanks) from by first | exact Or.inl ⟨by omega, ez2, ez2, by rw [ez4, ez3]⟩ | exact Or.inr ⟨by omega, by omega, rfl, rfl⟩) rfl (hP.sub [0] rfl) (hD.sub [0] (by decide +kernel) rfl) hS dX11_guests_42

theorem in_M_guests_X12 : ∀ w ∈ wsX120, w ∈ wsX12_guests := tl_X12_guests_X12
set_option maxHeartbeats 8000000 in
set_option maxRecDepth 100000 in
theorem M_guests {l : Launch} {D : va_G} {cI cZ cB : ClassId} {sz : Nat} {h a_isPriest a_bars a_joined a_turns a_awayMonk a_awayFrom a_awayTo a_feastDay a_rank a_isWeekly a_isDouble a_giftDay a_giftFrom a_owed a_said a_spared a_leaveGift a_leaveFrom a_leaveTo a_lateDay a_lateOffice a_lateBy a_guests a_who a_used a_lacks a_candles a_masses a_owing a_heldOn a_waits a_tape a_text a_statements a_taken a_sort a_first a_second : Nat} {v_today v_monks v_aways v_feasts v_gifts v_leaves v_lates v_store v_allCandles v_taped v_size v_at v_fault v_rules v_wordEnd v_number : Int32} {f_guests : Nat → Int32} {x k : Int32}  : Met l yX12_guests wsX12_guests ({ frames := 1, cells := 0, slots := 0, locals := 22 }) (RW D cI cZ cB [.ref h, .int x, .int k] sz [(h, .inr (11, [.int v_today, .int v_monks, .int v_aways, .int v_feasts, .int v_gifts, .int v_leaves, .int v_lates, .int v_store, .int v_allCandles, .ref a_isPriest, .ref a_bars, .ref a_joined, .ref a_turns, .ref a_awayMonk, .ref a_awayFrom, .ref a_awayTo, .ref a_feastDay, .ref a_rank, .ref a_isWeekly, .ref a_isDouble, .ref a_giftDay, .ref a_giftFrom, .ref a_owed, .ref a_said, .ref a_spared, .ref a_leaveGift, .ref a_leaveFrom, .ref a_leaveTo, .ref a_lateDay, .ref a_lateOffice, .ref a_lateBy, .ref a_guests, .ref a_who, .ref a_used, .ref a_lacks, .ref a_candles, .ref a_masses, .ref a_owing, .ref a_heldOn, .ref a_waits, .ref a_tape, .ref a_text, .int v_taped, .int v_size, .int v_at, .int v_fault, .int v_rules, .ref a_statements, .ref a_taken, .ref a_sort, .ref a_first, .ref a_second, .int v_wordEnd, .int v_number])), (a_guests, .inl (cI, 6, .inl f_guests))]) (va_Qi (fun (r : Int32) (u : (Nat → Int32)) => (((1 ≤ x.toInt ∧ x.toInt ≤ 50 ∧ 0 ≤ k.toInt ∧ k.toInt ≤ 5) ∧ (sum6 f_guests + x).toInt ≤ 200) ∧ r = sum6 f_guests + x ∧ sum6 u = sum6 f_guests + x ∧ rks6 u = rks6 f_guests + x * k) ∨ (¬ ((1 ≤ x.toInt ∧ x.toInt ≤ 50 ∧ 0 ≤ k.toInt ∧ k.toInt ≤ 5) ∧ (sum6 f_guests + x).toInt ≤ 200) ∧ r.toInt = -1 ∧ u = f_guests)) (BW D [(h, .inr (11, [.int v_today, .int v_monks, .int v_aways, .int v_feasts, .int v_gifts, .int v_leaves, .int v_lates, .int v_store, .int v_allCandles, .ref a_isPriest, .ref a_bars, .ref a_joined, .ref a_turns, .ref a_awayMonk, .ref a_awayFrom, .ref a_awayTo, .ref a_feastDay, .ref a_rank, .ref a_isWeekly, .ref a_isDouble, .ref a_giftDay, .ref a_giftFrom, .ref a_owed, .ref a_said, .ref a_spared, .ref a_leaveGift, .ref a_leaveFrom, .ref a_leaveTo, .ref a_lateDay, .ref a_lateOffice, .ref a_lateBy, .ref a_guests, .ref a_who, .ref a_used, .ref a_lacks, .ref a_candles, .ref a_masses, .ref a_owing, .ref a_heldOn, .ref a_waits, .ref a_tape, .ref a_text, .int v_taped, .int v_size, .int v_at, .int v_fault, .int v_rules, .ref a_statements, .ref a_taken, .ref a_sort, .ref a_first, .ref a_second, .int v_wordEnd, .int v_number])), (a_guests, .inl (cI, 6, .inl f_guests))] sz (fun u : (Nat → Int32) => [(h, .inr (11, [.int v_today, .int v_monks, .int v_aways, .int v_feasts, .int v_gifts, .int v_leaves, .int v_lates, .int v_store, .int v_allCandles, .ref a_isPriest, .ref a_bars, .ref a_joined, .ref a_turns, .ref a_awayMonk, .ref a_awayFrom, .ref a_awayTo, .ref a_feastDay, .ref a_rank, .ref a_isWeekly, .ref a_isDouble, .ref a_giftDay, .ref a_giftFrom, .ref a_owed, .ref a_said, .ref a_spared, .ref a_leaveGift, .ref a_leaveFrom, .ref a_leaveTo, .ref a_lateDay, .ref a_lateOffice, .ref a_lateBy, .ref a_guests, .ref a_who, .ref a_used, .ref a_lacks, .ref a_candles, .ref a_masses, .ref a_owing, .ref a_heldOn, .ref a_waits, .ref a_tape, .ref a_text, .int v_taped, .int v_size, .int v_at, .int v_fault, .int v_rules, .ref a_statements, .ref a_taken, .ref a_sort, .ref a_first, .ref a_second, .int v_wordEnd, .int v_number])), (a_guests, .inl (cI, 6, .inl u))])) (va_A [(h, .inr (11, [.int v_today, .int v_monks, .int v_aways, .int v_feasts, .int v_gifts, .int v_leaves, .int v_lates, .int v_store, .int v_allCandles, .ref a_isPriest, .ref a_bars, .ref a_joined, .ref a_turns, .ref a_awayMonk, .ref a_awayFrom, .ref a_awayTo, .ref a_feastDay, .ref a_rank, .ref a_isWeekly, .ref a_isDouble, .ref a_giftDay, .ref a_giftFrom, .ref a_owed, .ref a_said, .ref a_spared, .ref a_leaveGift, .ref a_leaveFrom, .ref a_leaveTo, .ref a_lateDay, .ref a_lateOffice, .ref a_lateBy, .ref a_guests, .ref a_who, .ref a_used, .ref a_lacks, .ref a_candles, .ref a_masses, .ref a_owing, .ref a_heldOn, .ref a_waits, .ref a_tape, .ref a_text, .int v_taped, .int v_size, .int v_at, .int v_fault, .int v_rules, .ref a_statements, .ref a_taken, .ref a_sort, .ref a_first, .ref a_second, .int v_wordEnd, .int v_number])), (a_guests, .inl (cI, 6, .inl f_guests))] sz)) 0 (0) (va_A [(h, .inr (11, [.int v_today, .int v_monks, .int v_aways, .int v_feasts, .int v_gifts, .int v_leaves, .int v_lates, .int v_store, .int v_allCandles, .ref a_isPriest, .ref a_bars, .ref a_joined, .ref a_turns, .ref a_awayMonk, .ref a_awayFrom, .ref a_awayTo, .ref a_feastDay, .ref a_rank, .ref a_isWeekly, .ref a_isDouble, .ref a_giftDay, .ref a_giftFrom, .ref a_owed, .ref a_said, .ref a_spared, .ref a_leaveGift, .ref a_leaveFrom, .ref a_leaveTo, .ref a_lateDay, .ref a_lateOffice, .ref a_lateBy, .ref a_guests, .ref a_who, .ref a_used, .ref a_lacks, .ref a_candles, .ref a_masses, .ref a_owing, .ref a_heldOn, .ref a_waits, .ref a_tape, .ref a_text, .int v_taped, .int v_size, .int v_at, .int v_fault, .int v_rules, .ref a_statements, .ref a_taken, .ref a_sort, .ref a_first, .ref a_second, .int v_wordEnd, .int v_number])), (a_guests, .inl (cI, 6, .inl f_guests))] sz) := by
  refine rw_ret (cc := cX12_guests) (maxL := 3) (ty := .int) (own := RX12) (by decide) rfl rfl (Nat.le_of_ble_eq_true rfl) ?_
  intro p e s m args below meth c Q A S hin hret hP hK hD hA hS ls hl
  obtain ⟨hx, hb, hml, hown, hts⟩ := id S
  have hl : lv_has ls 3 [(0, .ref h), (1, .int x), (2, .int k)] := hl
  have kkm1 : (-1 : Int32).toInt = -1 := by decide
  have kk0 : (0 : Int32).toInt = 0 := by decide
  have kk1 : (1 : Int32).toInt = 1 := by decide
  have kk5 : (5 : Int32).toInt = 5 := by decide
  have kk50 : (50 : Int32).toInt = 50 := by decide
  have kk200 : (200 : Int32).toInt = 200 := by decide
  have lk0 := hts (.fieldLink RX12 77 "AbbeyHoursModel" "guests" "[I") (List.mem_cons_of_mem _ (List.mem_append_left _ (List.mem_of_getElem? (i := 0) rfl)))
  refine lv_iload_n hx hb dX12_guests_0 rfl (lv_at hl 1 rfl) ?_
  refine lv_iconst (v := 1) hx hb dX12_guests_1 (by decide) ?_
  refine lv_bipush (v := 50) hx hb dX12_guests_2 (by decide) ?_
  have hPc := hP.sub (ws' := []) [] rfl
  refine roS (As := [.int x, .int 1, .int 50]) (rest := []) S (m_isIn  ) (va_cwS 3 hts gX12_guests_X12_isIn rfl rfl rfl hd_X12_isIn ⟨Nat.le_of_ble_eq_true rfl, Nat.le_of_ble_eq_true rfl⟩) hK hPc rfl hl.1 rfl (Nat.le_of_ble_eq_true rfl) dX12_guests_4 ⟨Nat.le_of_ble_eq_true rfl, Nat.le_of_ble_eq_true rfl⟩ (fun r_1 hw_1 => ?_)
  have hw_1 : (r_1.toInt = 1 ∧ (1 : Int32).toInt ≤ x.toInt ∧ x.toInt ≤ (50 : Int32).toInt) ∨ (r_1.toInt = 0 ∧ (x.toInt < (1 : Int32).toInt ∨ (50 : Int32).toInt < x.toInt)) := hw_1
  refine lv_if_eq (tgt := 31) hx hb dX12_guests_7 (by decide) (fun c_2 => ?_) (fun c_2 => ?_)
  · have tc_2 := t_eq c_2
    refine lv_iconst (v := (-1)) hx hb dX12_guests_31 (by decide) ?_
    exact hret (-1) f_guests _ _ _ _ (show (((1 ≤ x.toInt ∧ x.toInt ≤ 50 ∧ 0 ≤ k.toInt ∧ k.toInt ≤ 5) ∧ (sum6 f_guests + x).toInt ≤ 200) ∧ (-1 : Int32) = sum6 f_guests + x ∧ sum6 f_guests = sum6 f_guests + x ∧ rks6 f_guests = rks6 f_guests + x * k) ∨ (¬ ((1 ≤ x.toInt ∧ x.toInt ≤ 50 ∧ 0 ≤ k.toInt ∧ k.toInt ≤ 5) ∧ (sum6 f_guests + x).toInt ≤ 200) ∧ (-1 : Int32).toInt = -1 ∧ f_guests = f_guests) from by first | exact Or.inl ⟨by omega, hw_s1, hsg, hsk⟩ | exact Or.inr ⟨by omega, by omega, rfl⟩) rfl (hP.sub [0, 1] rfl) (hD.sub [0, 1] (by decide +kernel) rfl) hS dX12_guests_32
  · have tc_2 := t_neq c_2
    refine lv_iload_n hx hb dX12_guests_10 rfl (lv_at hl 2 rfl) ?_
    refine lv_iconst (v := 0) hx hb dX12_guests_11 (by decide) ?_
    refine lv_iconst (v := 5) hx hb dX12_guests_12 (by decide) ?_
    have hPc := hP.sub (ws' := []) [] rfl
    refine roS (As := [.int k, .int 0, .int 5]) (rest := []) S (m_isIn  ) (va_cwS 3 hts gX12_guests_X12_isIn rfl rfl rfl hd_X12_isIn ⟨Nat.le_of_ble_eq_true rfl, Nat.le_of_ble_eq_true rfl⟩) hK hPc rfl hl.1 rfl (Nat.le_of_ble_eq_true rfl) dX12_guests_13 ⟨Nat.le_of_ble_eq_true rfl, Nat.le_of_ble_eq_true rfl⟩ (fun r_3 hw_3 => ?_)
    have hw_3 : (r_3.toInt = 1 ∧ (0 : Int32).toInt ≤ k.toInt ∧ k.toInt ≤ (5 : Int32).toInt) ∨ (r_3.toInt = 0 ∧ (k.toInt < (0 : Int32).toInt ∨ (5 : Int32).toInt < k.toInt)) := hw_3
    refine lv_if_eq (tgt := 31) hx hb dX12_guests_16 (by decide) (fun c_4 => ?_) (fun c_4 => ?_)
    · have tc_4 := t_eq c_4
      refine lv_iconst (v := (-1)) hx hb dX12_guests_31 (by decide) ?_
      exact hret (-1) f_guests _ _ _ _ (show (((1 ≤ x.toInt ∧ x.toInt ≤ 50 ∧ 0 ≤ k.toInt ∧ k.toInt ≤ 5) ∧ (sum6 f_guests + x).toInt ≤ 200) ∧ (-1 : Int32) = sum6 f_guests + x ∧ sum6 f_guests = sum6 f_guests + x ∧ rks6 f_guests = rks6 f_guests + x * k) ∨ (¬ ((1 ≤ x.toInt ∧ x.toInt ≤ 50 ∧ 0 ≤ k.toInt ∧ k.toInt ≤ 5) ∧ (sum6 f_guests + x).toInt ≤ 200) ∧ (-1 : Int32).toInt = -1 ∧ f_guests = f_guests) from by first | exact Or.inl ⟨by omega, hw_s1, hsg, hsk⟩ | exact Or.inr ⟨by omega, by omega, rfl⟩) rfl (hP.sub [0, 1] rfl) (hD.sub [0, 1] (by decide +kernel) rfl) hS dX12_guests_32
    · have tc_4 := t_neq c_4
      refine lv_aload_n hx hb dX12_guests_19 rfl (lv_at hl 0 rfl) ?_
      have hPc := hP.sub (ws' := [(h, .inr (11, [.int v_today, .int v_monks, .int v_aways, .int v_feasts, .int v_gifts, .int v_leaves, .int v_lates, .int v_store, .int v_allCandles, .ref a_isPriest, .ref a_bars, .ref a_joined, .ref a_turns, .ref a_awayMonk, .ref a_awayFrom, .ref a_awayTo, .ref a_feastDay, .ref a_rank, .ref a_isWeekly, .ref a_isDouble, .ref a_giftDay, .ref a_giftFrom, .ref a_owed, .ref a_said, .ref a_spared, .ref a_leaveGift, .ref a_leaveFrom, .ref a_leaveTo, .ref a_lateDay, .ref a_lateOffice, .ref a_lateBy, .ref a_guests, .ref a_who, .ref a_used, .ref a_lacks, .ref a_candles, .ref a_masses, .ref a_owing, .ref a_heldOn, .ref a_waits, .ref a_tape, .ref a_text, .int v_taped, .int v_size, .int v_at, .int v_fault, .int v_rules, .ref a_statements, .ref a_taken, .ref a_sort, .ref a_first, .ref a_second, .int v_wordEnd, .int v_number])), (a_guests, .inl (cI, 6, .inl f_guests))]) [0, 1] rfl
      refine roV (As := []) (rest := []) S (n_allGuests  ) (cwV 0 hts gX12_guests_X12_allGuests rfl rfl rfl ⟨rfl, hd_X12_allGuests⟩ ⟨Nat.le_of_ble_eq_true rfl, Nat.le_of_ble_eq_true rfl⟩) hK hPc (va_recv hK.1 hPc (ci := 11) (q0 := 0) rfl rfl) rfl hl.1 rfl (Nat.le_of_ble_eq_true rfl) dX12_guests_20 ⟨Nat.le_of_ble_eq_true rfl, Nat.le_of_ble_eq_true rfl⟩ (fun r_s0 hw_s0 => ?_)
      have hw_s0 : r_s0 = sum6 f_guests := hw_s0
      refine lv_iload_n hx hb dX12_guests_23 rfl (lv_at hl 1 rfl) ?_
      refine lv_iadd hx hb dX12_guests_24 ?_
      refine lv_topi (fun z1 ez1 => ?_)
      rw [hw_s0] at ez1
      have tz1 := t_eq ez1
      refine lv_sipush (v := 200) hx hb dX12_guests_25 (by decide) ?_
      refine lv_icmp_le (tgt := 33) hx hb dX12_guests_28 (by decide) (fun c_6 => ?_) (fun c_6 => ?_)
      · have tc_6 := t_le c_6
        refine lv_aload_n hx hb dX12_guests_33 rfl (lv_at hl 0 rfl) ?_
        refine va_get (D := D) (ci := 11) (v := .ref a_guests) (C := RX12) (T := TX12) (N := 54) hx hb hts in_M_guests_X12 hown hK.1 hP 0 rfl rfl 31 (by decide) lk0 (fun _ h9 => h9) rfl dX12_guests_34 ?_
        refine lv_iload_n hx hb dX12_guests_37 rfl (lv_at hl 2 rfl) ?_
        refine lv_dup2_11 hx hb dX12_guests_38 rfl rfl ?_
        refine va_iald hx hb hK.1 hP 1 0 rfl rfl (t_in (by omega) (by omega)) dX12_guests_39 ?_
        refine lv_topi (fun y0 ey0 => ?_)
        refine lv_iload_n hx hb dX12_guests_40 rfl (lv_at hl 1 rfl) ?_
        refine lv_iadd hx hb dX12_guests_41 ?_
        refine lv_topi (fun z0 ez0 => ?_)
        refine va_iast hx hb hK.1 hP hD hS 1 0 rfl rfl (t_in (by omega) (by omega)) dX12_guests_42 (fun H locs hP hD hS => ?_)
        obtain ⟨gg, egg⟩ : ∃ z : Nat → Int32, z = upd f_guests ((k : Int32).toNatClampNeg) z0 := ⟨_, rfl⟩
        rw [← egg] at hP hD
        have hP : va_P D vwCl [(h, .inr (11, [.int v_today, .int v_monks, .int v_aways, .int v_feasts, .int v_gifts, .int v_leaves, .int v_lates, .int v_store, .int v_allCandles, .ref a_isPriest, .ref a_bars, .ref a_joined, .ref a_turns, .ref a_awayMonk, .ref a_awayFrom, .ref a_awayTo, .ref a_feastDay, .ref a_rank, .ref a_isWeekly, .ref a_isDouble, .ref a_giftDay, .ref a_giftFrom, .ref a_owed, .ref a_said, .ref a_spared, .ref a_leaveGift, .ref a_leaveFrom, .ref a_leaveTo, .ref a_lateDay, .ref a_lateOffice, .ref a_lateBy, .ref a_guests, .ref a_who, .ref a_used, .ref a_lacks, .ref a_candles, .ref a_masses, .ref a_owing, .ref a_heldOn, .ref a_waits, .ref a_tape, .ref a_text, .int v_taped, .int v_size, .int v_at, .int v_fault, .int v_rules, .ref a_statements, .ref a_taken, .ref a_sort, .ref a_first, .ref a_second, .int v_wordEnd, .int v_number])), (a_guests, .inl (cI, 6, .inl gg))] H := hP
        have hD := asD hP hD
        refine lv_aload_n hx hb dX12_guests_43 rfl (lv_at hl 0 rfl) ?_
        have hPc := hP.sub (ws' := [(h, .inr (11, [.int v_today, .int v_monks, .int v_aways, .int v_feasts, .int v_gifts, .int v_leaves, .int v_lates, .int v_store, .int v_allCandles, .ref a_isPriest, .ref a_bars, .ref a_joined, .ref a_turns, .ref a_awayMonk, .ref a_awayFrom, .ref a_awayTo, .ref a_feastDay, .ref a_rank, .ref a_isWeekly, .ref a_isDouble, .ref a_giftDay, .ref a_giftFrom, .ref a_owed, .ref a_said, .ref a_spared, .ref a_leaveGift, .ref a_leaveFrom, .ref a_leaveTo, .ref a_lateDay, .ref a_lateOffice, .ref a_lateBy, .ref a_guests, .ref a_who, .ref a_used, .ref a_lacks, .ref a_candles, .ref a_masses, .ref a_owing, .ref a_heldOn, .ref a_waits, .ref a_tape, .ref a_text, .int v_taped, .int v_size, .int v_at, .int v_fault, .int v_rules, .ref a_statements, .ref a_taken, .ref a_sort, .ref a_first, .ref a_second, .int v_wordEnd, .int v_number])), (a_guests, .inl (cI, 6, .inl gg))]) [0, 1] rfl
        refine roV (As := []) (rest := []) S (n_allGuests  ) (cwV 0 hts gX12_guests_X12_allGuests rfl rfl rfl ⟨rfl, hd_X12_allGuests⟩ ⟨Nat.le_of_ble_eq_true rfl, Nat.le_of_ble_eq_true rfl⟩) hK hPc (va_recv hK.1 hPc (ci := 11) (q0 := 0) rfl rfl) rfl hl.1 rfl (Nat.le_of_ble_eq_true rfl) dX12_guests_44 ⟨Nat.le_of_ble_eq_true rfl, Nat.le_of_ble_eq_true rfl⟩ (fun r_s1 hw_s1 => ?_)
        have hw_s1 : r_s1 = sum6 gg := hw_s1
        have hsg : sum6 gg = sum6 f_guests + x := by rw [egg, ez0, ey0]; exact sum6_add _ _ _ (by omega) (by omega)
        have hsk : rks6 gg = rks6 f_guests + x * k := by rw [egg, ez0, ey0]; exact rks6_add _ _ _ (by omega) (by omega)
        rw [hsg] at hw_s1
        exact hret r_s1 gg _ _ _ _ (show (((1 ≤ x.toInt ∧ x.toInt ≤ 50 ∧ 0 ≤ k.toInt ∧ k.toInt ≤ 5) ∧ (sum6 f_guests + x).toInt ≤ 200) ∧ r_s1 = sum6 f_guests + x ∧ sum6 gg = sum6 f_guests + x ∧ rks6 gg = rks6 f_guests + x * k) ∨ (¬ ((1 ≤ x.toInt ∧ x.toInt ≤ 50 ∧ 0 ≤ k.toInt ∧ k.toInt ≤ 5) ∧ (sum6 f_guests + x).toInt ≤ 200) ∧ r_s1.toInt = -1 ∧ gg = f_guests) from by first | exact Or.inl ⟨by omega, hw_s1, hsg, hsk⟩ | exact Or.inr ⟨by omega, by omega, rfl⟩) rfl (hP.sub [0, 1] rfl) (hD.sub [0, 1] (by decide +kernel) rfl) hS dX12_guests_47
      · have tc_6 := t_nle c_6
        refine lv_iconst (v := (-1)) hx hb dX12_guests_31 (by decide) ?_
        exact hret (-1) f_guests _ _ _ _ (show (((1 ≤ x.toInt ∧ x.toInt ≤ 50 ∧ 0 ≤ k.toInt ∧ k.toInt ≤ 5) ∧ (sum6 f_guests + x).toInt ≤ 200) ∧ (-1 : Int32) = sum6 f_guests + x ∧ sum6 f_guests = sum6 f_guests + x ∧ rks6 f_guests = rks6 f_guests + x * k) ∨ (¬ ((1 ≤ x.toInt ∧ x.toInt ≤ 50 ∧ 0 ≤ k.toInt ∧ k.toInt ≤ 5) ∧ (sum6 f_guests + x).toInt ≤ 200) ∧ (-1 : Int32).toInt = -1 ∧ f_guests = f_guests) from by first | exact Or.inl ⟨by omega, hw_s1, hsg, hsk⟩ | exact Or.inr ⟨by omega, by omega, rfl⟩) rfl (hP.sub [0, 1] rfl) (hD.sub [0, 1] (by decide +kernel) rfl) hS dX12_guests_32

theorem in_E_food_X11 : ∀ w ∈ wsX110, w ∈ wsX11_foodNeeded := tl_X11_foodNeeded_X11
set_option maxHeartbeats 8000000 in
set_option maxRecDepth 100000 in
theorem E_food {l : Launch} {D : va_G} {cI cZ cB : ClassId} {h a_bells a_feasts a_tape a_reader a_rules a_monks a_duties a_gifts a_figures ra_since ra_sizes ra_kinds ra_firsts ra_seconds fa_falls fa_ranks fa_standsOn fa_heldOn fa_holder fa_standing ma_priests ma_barred ma_cameOn ma_absent ma_absentFrom ma_absentTo : Nat} {v_today v_stock v_guestHeads v_guestRanks v_faultPlace v_candlesInAll rv_size fv_size mv_size mv_rows : Int32} {rf_since rf_sizes rf_kinds rf_firsts rf_seconds ff_ranks ff_holder : Nat → Int32}  (hfv_size0 : 0 ≤ fv_size.toInt) (hfv_size1 : fv_size.toInt ≤ 40) (hh : 0 < fv_size.toInt → InR ff_holder 365 (-1) fv_size.toInt) (hrv_size0 : 0 ≤ rv_size.toInt) (hrv_size1 : rv_size.toInt ≤ 10) (hs : InR rf_sizes rv_size.toInt 0 17) : Met l yX11_foodNeeded wsX11_foodNeeded ({ frames := 4, cells := 0, slots := 0, locals := 85 }) (RO D cI cZ cB [.ref h] [(h, .inr (10, [.ref a_bells, .ref a_feasts, .ref a_tape, .ref a_reader, .ref a_rules, .ref a_monks, .ref a_duties, .ref a_gifts, .ref a_figures, .int v_today, .int v_stock, .int v_guestHeads, .int v_guestRanks, .int v_faultPlace, .int v_candlesInAll])), (a_rules, .inr (7, [.ref ra_since, .ref ra_sizes, .ref ra_kinds, .ref ra_firsts, .ref ra_seconds, .int rv_size])), (ra_since, .inl (cI, 10, .inl rf_since)), (ra_sizes, .inl (cI, 10, .inl rf_sizes)), (ra_kinds, .inl (cI, 160, .inl rf_kinds)), (ra_firsts, .inl (cI, 160, .inl rf_firsts)), (ra_seconds, .inl (cI, 160, .inl rf_seconds)), (a_feasts, .inr (3, [.ref fa_falls, .ref fa_ranks, .ref fa_standsOn, .ref fa_heldOn, .ref fa_holder, .ref fa_standing, .int fv_size])), (fa_ranks, .inl (cI, 40, .inl ff_ranks)), (fa_holder, .inl (cI, 365, .inl ff_holder)), (a_monks, .inr (5, [.ref ma_priests, .ref ma_barred, .ref ma_cameOn, .ref ma_absent, .ref ma_absentFrom, .ref ma_absentTo, .int mv_size, .int mv_rows]))]) (vp_Si (fun r : Int32 => (∃ rk_ hd_ gu_ : Int32, (∃ hx_ : Int32, HelC fv_size.toInt ff_holder (rmF v_today 365) hx_ ∧ RkR ff_ranks hx_ rk_) ∧ (∃ u_ : Int32, IsPick (okIn rf_since v_today.toInt) keyL rv_size.toInt u_ ∧ HedU (FasU 1 rf_sizes rf_kinds rf_firsts rf_seconds u_ v_today rk_) (CC rf_kinds rf_firsts 3 0) (CC rf_kinds rf_firsts 4 rk_) (CC rf_kinds rf_firsts 6 0) rf_seconds rf_sizes u_ rk_ hd_) ∧ (∃ u_ : Int32, IsPick (okIn rf_since v_today.toInt) keyL rv_size.toInt u_ ∧ GueU (CC rf_kinds rf_firsts 5 0) rf_seconds rf_sizes u_ gu_) ∧ r = mv_size * hd_ + v_guestHeads * gu_ + v_guestRanks))) 0 0 (fun _ => False) := by
  refine ro_ret (cc := cX11_foodNeeded) (maxL := 2) (ty := .int) (own := RX11) (by decide) rfl rfl (Nat.le_of_ble_eq_true rfl) ?_
  intro p e s m args below meth c Q S hret hP hK ls hl
  obtain ⟨hx, hb, hml, hown, hts⟩ := id S
  have hl : lv_has ls 2 [(0, .ref h)] := hl
  have kk0 : (0 : Int32).toInt = 0 := by decide
  have kk365 : (365 : Int32).toInt = 365 := by decide
  have lk0 := hts (.fieldLink RX11 40 "AbbeyHours" "rules" "LAbbeyHours$Rules;") (mc_X11_foodNeeded_r1 _ (List.mem_of_getElem? (i := 0) rfl))
  have lk1 := hts (.fieldLink RX11 82 "AbbeyHours" "today" "I") (mc_X11_foodNeeded_r1 _ (List.mem_of_getElem? (i := 1) rfl))
  have lk2 := hts (.fieldLink RX11 19 "AbbeyHours" "feasts" "LAbbeyHours$Feasts;") (mc_X11_foodNeeded_r1 _ (List.mem_of_getElem? (i := 2) rfl))
  have lk3 := hts (.fieldLink RX11 47 "AbbeyHours" "monks" "LAbbeyHours$Monks;") (mc_X11_foodNeeded_r1 _ (List.mem_of_getElem? (i := 3) rfl))
  have lk4 := hts (.fieldLink RX11 191 "AbbeyHours" "guestHeads" "I") (mc_X11_foodNeeded_r1 _ (List.mem_of_getElem? (i := 4) rfl))
  have lk5 := hts (.fieldLink RX11 194 "AbbeyHours" "guestRanks" "I") (mc_X11_foodNeeded_r1 _ (List.mem_of_getElem? (i := 5) rfl))
  refine lv_aload_n hx hb dX11_foodNeeded_0 rfl (lv_at hl 0 rfl) ?_
  refine va_get (D := D) (ci := 10) (v := .ref a_rules) (C := RX11) (T := TX11) (N := 15) hx hb hts in_E_food_X11 hown hK.1 hP 0 rfl rfl 4 (by decide) lk0 (fun _ h9 => h9) rfl dX11_foodNeeded_1 ?_
  refine lv_aload_n hx hb dX11_foodNeeded_4 rfl (lv_at hl 0 rfl) ?_
  refine va_get (D := D) (ci := 10) (v := .int v_today) (C := RX11) (T := TX11) (N := 15) hx hb hts in_E_food_X11 hown hK.1 hP 0 rfl rfl 9 (by decide) lk1 (fun _ h9 => h9) rfl dX11_foodNeeded_5 ?_
  refine lv_aload_n hx hb dX11_foodNeeded_8 rfl (lv_at hl 0 rfl) ?_
  refine va_get (D := D) (ci := 10) (v := .ref a_feasts) (C := RX11) (T := TX11) (N := 15) hx hb hts in_E_food_X11 hown hK.1 hP 0 rfl rfl 1 (by decide) lk2 (fun _ h9 => h9) rfl dX11_foodNeeded_9 ?_
  refine lv_aload_n hx hb dX11_foodNeeded_12 rfl (lv_at hl 0 rfl) ?_
  refine va_get (D := D) (ci := 10) (v := .int v_today) (C := RX11) (T := TX11) (N := 15) hx hb hts in_E_food_X11 hown hK.1 hP 0 rfl rfl 9 (by decide) lk1 (fun _ h9 => h9) rfl dX11_foodNeeded_13 ?_
  refine lv_sipush (v := 365) hx hb dX11_foodNeeded_16 (by decide) ?_
  refine lv_irem hx hb dX11_foodNeeded_19 (by decide) ?_
  refine lv_topi (fun mm emm => ?_)
  have emr : mm = rmF v_today 365 := emm
  have hPc := hP.sub (ws' := [(a_feasts, .inr (3, [.ref fa_falls, .ref fa_ranks, .ref fa_standsOn, .ref fa_heldOn, .ref fa_holder, .ref fa_standing, .int fv_size])), (fa_ranks, .inl (cI, 40, .inl ff_ranks)), (fa_holder, .inl (cI, 365, .inl ff_holder))]) [7, 8, 9] rfl
  refine roV (As := [.int mm]) (rest := [.int v_today, .ref a_rules]) S (h_rankHeld  (by omega) (by omega) (hh)) (cwV 1 hts gX11_foodNeeded_X3_rankHeld rfl rfl rfl ⟨rfl, hd_X3_rankHeld⟩ ⟨Nat.le_of_ble_eq_true rfl, Nat.le_of_ble_eq_true rfl⟩) hK hPc (va_recv hK.1 hPc (ci := 3) (q0 := 0) rfl rfl) rfl hl.1 rfl (Nat.le_of_ble_eq_true rfl) dX11_foodNeeded_20 ⟨Nat.le_of_ble_eq_true rfl, Nat.le_of_ble_eq_true rfl⟩ (fun r_rk hw_rk => ?_)
  have hw_rk : ∃ hd_ : Int32, HelC fv_size.toInt ff_holder mm hd_ ∧ RkR ff_ranks hd_ r_rk := hw_rk
  rw [emr] at hw_rk
  have hPc := hP.sub (ws' := [(a_rules, .inr (7, [.ref ra_since, .ref ra_sizes, .ref ra_kinds, .ref ra_firsts, .ref ra_seconds, .int rv_size])), (ra_since, .inl (cI, 10, .inl rf_since)), (ra_sizes, .inl (cI, 10, .inl rf_sizes)), (ra_kinds, .inl (cI, 160, .inl rf_kinds)), (ra_firsts, .inl (cI, 160, .inl rf_firsts)), (ra_seconds, .inl (cI, 160, .inl rf_seconds))]) [1, 2, 3, 4, 5, 6] rfl
  refine roV (As := [.int v_today, .int r_rk]) (rest := []) S (r_headE  (by omega) (by omega) (hs)) (cwV 2 hts gX11_foodNeeded_X7_shareOfHead rfl rfl rfl ⟨rfl, hd_X7_shareOfHead⟩ ⟨Nat.le_of_ble_eq_true rfl, Nat.le_of_ble_eq_true rfl⟩) hK hPc (va_recv hK.1 hPc (ci := 7) (q0 := 0) rfl rfl) rfl hl.1 rfl (Nat.le_of_ble_eq_true rfl) dX11_foodNeeded_23 ⟨Nat.le_of_ble_eq_true rfl, Nat.le_of_ble_eq_true rfl⟩ (fun r_hd hw_hd => ?_)
  have hw_hd : ∃ u_ : Int32, IsPick (okIn rf_since v_today.toInt) keyL rv_size.toInt u_ ∧ HedU (FasU 1 rf_sizes rf_kinds rf_firsts rf_seconds u_ v_today r_rk) (CC rf_kinds rf_firsts 3 0) (CC rf_kinds rf_firsts 4 r_rk) (CC rf_kinds rf_firsts 6 0) rf_seconds rf_sizes u_ r_rk r_hd := hw_hd
  refine lv_istore_n (lv' := [(1, .int r_hd), (0, .ref h)]) hx hb dX11_foodNeeded_26 rfl hl (by decide) rfl (fun ls hl => ?_)
  refine lv_aload_n hx hb dX11_foodNeeded_27 rfl (lv_at hl 1 rfl) ?_
  refine va_get (D := D) (ci := 10) (v := .ref a_monks) (C := RX11) (T := TX11) (N := 15) hx hb hts in_E_food_X11 hown hK.1 hP 0 rfl rfl 5 (by decide) lk3 (fun _ h9 => h9) rfl dX11_foodNeeded_28 ?_
  have hPc := hP.sub (ws' := [(a_monks, .inr (5, [.ref ma_priests, .ref ma_barred, .ref ma_cameOn, .ref ma_absent, .ref ma_absentFrom, .ref ma_absentTo, .int mv_size, .int mv_rows]))]) [10] rfl
  refine roV (As := []) (rest := []) S (k_size  ) (cwV 0 hts gX11_foodNeeded_X5_size rfl rfl rfl ⟨rfl, hd_X5_size⟩ ⟨Nat.le_of_ble_eq_true rfl, Nat.le_of_ble_eq_true rfl⟩) hK hPc (va_recv hK.1 hPc (ci := 5) (q0 := 0) rfl rfl) rfl hl.1 rfl (Nat.le_of_ble_eq_true rfl) dX11_foodNeeded_31 ⟨Nat.le_of_ble_eq_true rfl, Nat.le_of_ble_eq_true rfl⟩ (fun r_ms hw_ms => ?_)
  have hw_ms : r_ms = mv_size := hw_ms
  refine lv_iload_n hx hb dX11_foodNeeded_34 rfl (lv_at hl 0 rfl) ?_
  refine lv_imul hx hb dX11_foodNeeded_35 ?_
  refine lv_topi (fun p1 ep1 => ?_)
  refine lv_aload_n hx hb dX11_foodNeeded_36 rfl (lv_at hl 1 rfl) ?_
  refine va_get (D := D) (ci := 10) (v := .int v_guestHeads) (C := RX11) (T := TX11) (N := 15) hx hb hts in_E_food_X11 hown hK.1 hP 0 rfl rfl 11 (by decide) lk4 (fun _ h9 => h9) rfl dX11_foodNeeded_37 ?_
  refine lv_aload_n hx hb dX11_foodNeeded_40 rfl (lv_at hl 1 rfl) ?_
  refine va_get (D := D) (ci := 10) (v := .ref a_rules) (C := RX11) (T := TX11) (N := 15) hx hb hts in_E_food_X11 hown hK.1 hP 0 rfl rfl 4 (by decide) lk0 (fun _ h9 => h9) rfl dX11_foodNeeded_41 ?_
  refine lv_aload_n hx hb dX11_foodNeeded_44 rfl (lv_at hl 1 rfl) ?_
  refine va_get (D := D) (ci := 10) (v := .int v_today) (C := RX11) (T := TX11) (N := 15) hx hb hts in_E_food_X11 hown hK.1 hP 0 rfl rfl 9 (by decide) lk1 (fun _ h9 => h9) rfl dX11_foodNeeded_45 ?_
  have hPc := hP.sub (ws' := [(a_rules, .inr (7, [.ref ra_since, .ref ra_sizes, .ref ra_kinds, .ref ra_firsts, .ref ra_seconds, .int rv_size])), (ra_since, .inl (cI, 10, .inl rf_since)), (ra_sizes, .inl (cI, 10, .inl rf_sizes)), (ra_kinds, .inl (cI, 160, .inl rf_kinds)), (ra_firsts, .inl (cI, 160, .inl rf_firsts)), (ra_seconds, .inl (cI, 160, .inl rf_seconds))]) [1, 2, 3, 4, 5, 6] rfl
  refine roV (As := [.int v_today]) (rest := [.int v_guestHeads, .int p1]) S (r_guestE  (by omega) (by omega) (hs)) (cwV 1 hts gX11_foodNeeded_X7_shareOfGuest rfl rfl rfl ⟨rfl, hd_X7_shareOfGuest⟩ ⟨Nat.le_of_ble_eq_true rfl, Nat.le_of_ble_eq_true rfl⟩) hK hPc (va_recv hK.1 hPc (ci := 7) (q0 := 0) rfl rfl) rfl hl.1 rfl (Nat.le_of_ble_eq_true rfl) dX11_foodNeeded_48 ⟨Nat.le_of_ble_eq_true rfl, Nat.le_of_ble_eq_true rfl⟩ (fun r_gu hw_gu => ?_)
  have hw_gu : ∃ u_ : Int32, IsPick (okIn rf_since v_today.toInt) keyL rv_size.toInt u_ ∧ GueU (CC rf_kinds rf_firsts 5 0) rf_seconds rf_sizes u_ r_gu := hw_gu
  refine lv_imul hx hb dX11_foodNeeded_51 ?_
  refine lv_topi (fun p2 ep2 => ?_)
  refine lv_iadd hx hb dX11_foodNeeded_52 ?_
  refine lv_topi (fun s1 es1 => ?_)
  refine lv_aload_n hx hb dX11_foodNeeded_53 rfl (lv_at hl 1 rfl) ?_
  refine va_get (D := D) (ci := 10) (v := .int v_guestRanks) (C := RX11) (T := TX11) (N := 15) hx hb hts in_E_food_X11 hown hK.1 hP 0 rfl rfl 12 (by decide) lk5 (fun _ h9 => h9) rfl dX11_foodNeeded_54 ?_
  refine lv_iadd hx hb dX11_foodNeeded_57 ?_
  refine lv_topi (fun s2 es2 => ?_)
  exact hret s2 _ _ (show (∃ rk_ hd_ gu_ : Int32, (∃ hx_ : Int32, HelC fv_size.toInt ff_holder (rmF v_today 365) hx_ ∧ RkR ff_ranks hx_ rk_) ∧ (∃ u_ : Int32, IsPick (okIn rf_since v_today.toInt) keyL rv_size.toInt u_ ∧ HedU (FasU 1 rf_sizes rf_kinds rf_firsts rf_seconds u_ v_today rk_) (CC rf_kinds rf_firsts 3 0) (CC rf_kinds rf_firsts 4 rk_) (CC rf_kinds rf_firsts 6 0) rf_seconds rf_sizes u_ rk_ hd_) ∧ (∃ u_ : Int32, IsPick (okIn rf_since v_today.toInt) keyL rv_size.toInt u_ ∧ GueU (CC rf_kinds rf_firsts 5 0) rf_seconds rf_sizes u_ gu_) ∧ s2 = mv_size * hd_ + v_guestHeads * gu_ + v_guestRanks) from ⟨r_rk, r_hd, r_gu, hw_rk, hw_hd, hw_gu, by rw [es2, es1, ep1, ep2, hw_ms]⟩) rfl dX11_foodNeeded_58

