theorem in_N_fault_X12 : ∀ w ∈ wsX120, w ∈ wsX12_fault := tl_X12_fault_X12
set_option maxHeartbeats 8000000 in
set_option maxRecDepth 100000 in
theorem N_fault {l : Launch} {D : va_G} {cI cZ cB : ClassId} {h a_isPriest a_bars a_joined a_turns a_awayMonk a_awayFrom a_awayTo a_feastDay a_rank a_isWeekly a_isDouble a_giftDay a_giftFrom a_owed a_said a_spared a_leaveGift a_leaveFrom a_leaveTo a_lateDay a_lateOffice a_lateBy a_guests a_who a_used a_lacks a_candles a_masses a_owing a_heldOn a_waits a_tape a_text a_statements a_taken a_sort a_first a_second : Nat} {v_today v_monks v_aways v_feasts v_gifts v_leaves v_lates v_store v_allCandles v_taped v_size v_at v_fault v_rules v_wordEnd v_number : Int32}   : Met l yX12_fault wsX12_fault ({ frames := 0, cells := 0, slots := 0, locals := 0 }) (RO D cI cZ cB [.ref h] [(h, .inr (11, [.int v_today, .int v_monks, .int v_aways, .int v_feasts, .int v_gifts, .int v_leaves, .int v_lates, .int v_store, .int v_allCandles, .ref a_isPriest, .ref a_bars, .ref a_joined, .ref a_turns, .ref a_awayMonk, .ref a_awayFrom, .ref a_awayTo, .ref a_feastDay, .ref a_rank, .ref a_isWeekly, .ref a_isDouble, .ref a_giftDay, .ref a_giftFrom, .ref a_owed, .ref a_said, .ref a_spared, .ref a_leaveGift, .ref a_leaveFrom, .ref a_leaveTo, .ref a_lateDay, .ref a_lateOffice, .ref a_lateBy, .ref a_guests, .ref a_who, .ref a_used, .ref a_lacks, .ref a_candles, .ref a_masses, .ref a_owing, .ref a_heldOn, .ref a_waits, .ref a_tape, .ref a_text, .int v_taped, .int v_size, .int v_at, .int v_fault, .int v_rules, .ref a_statements, .ref a_taken, .ref a_sort, .ref a_first, .ref a_second, .int v_wordEnd, .int v_number]))]) (vp_Si (fun r : Int32 => True)) 0 0 (fun _ => False) := by
  refine ro_ret (cc := cX12_fault) (maxL := 1) (ty := .int) (own := RX12) (by decide) rfl rfl (Nat.le_of_ble_eq_true rfl) ?_
  intro p e s m args below meth c Q S hret hP hK ls hl
  obtain ⟨hx, hb, hml, hown, hts⟩ := id S
  have hl : lv_has ls 1 [(0, .ref h)] := hl
  have kk0 : (0 : Int32).toInt = 0 := by decide
  have lk0 := hts (.fieldLink RX12 111 "AbbeyHoursModel" "fault" "I") (List.mem_cons_of_mem _ (List.mem_append_left _ (List.mem_of_getElem? (i := 0) rfl)))
  refine lv_aload_n hx hb dX12_fault_0 rfl (lv_at hl 0 rfl) ?_
  refine va_get (D := D) (ci := 11) (v := .int v_fault) (C := RX12) (T := TX12) (N := 54) hx hb hts in_N_fault_X12 hown hK.1 hP 0 rfl rfl 45 (by decide) lk0 (fun _ h9 => h9) rfl dX12_fault_1 ?_
  exact hret v_fault _ _ (show True from trivial) rfl dX12_fault_4

set_option maxHeartbeats 8000000 in
set_option maxRecDepth 100000 in
theorem N_fast {l : Launch} {D : va_G} {cI cZ cB : ClassId} {sz : Nat} {h a_isPriest a_bars a_joined a_turns a_awayMonk a_awayFrom a_awayTo a_feastDay a_rank a_isWeekly a_isDouble a_giftDay a_giftFrom a_owed a_said a_spared a_leaveGift a_leaveFrom a_leaveTo a_lateDay a_lateOffice a_lateBy a_guests a_who a_used a_lacks a_candles a_masses a_owing a_heldOn a_waits a_tape a_text a_statements a_taken a_sort a_first a_second : Nat} {v_today v_monks v_aways v_feasts v_gifts v_leaves v_lates v_store v_allCandles v_taped v_size v_at v_fault v_rules v_wordEnd v_number : Int32} {f_feastDay f_rank f_heldOn f_waits f_statements f_taken f_sort f_first f_second : Nat → Int32} {d w : Int32} (h0_feasts : 0 ≤ v_feasts.toInt) (h1_feasts : v_feasts.toInt ≤ 40) (h0_rules : 0 ≤ v_rules.toInt) (h1_rules : v_rules.toInt ≤ 10) (hs : InR f_statements v_rules.toInt 0 17) : Met l yX12_fast wsX12_fast ({ frames := 5, cells := 0, slots := 0, locals := 117 }) (RW D cI cZ cB [.ref h, .int d, .int w] sz [(h, .inr (11, [.int v_today, .int v_monks, .int v_aways, .int v_feasts, .int v_gifts, .int v_leaves, .int v_lates, .int v_store, .int v_allCandles, .ref a_isPriest, .ref a_bars, .ref a_joined, .ref a_turns, .ref a_awayMonk, .ref a_awayFrom, .ref a_awayTo, .ref a_feastDay, .ref a_rank, .ref a_isWeekly, .ref a_isDouble, .ref a_giftDay, .ref a_giftFrom, .ref a_owed, .ref a_said, .ref a_spared, .ref a_leaveGift, .ref a_leaveFrom, .ref a_leaveTo, .ref a_lateDay, .ref a_lateOffice, .ref a_lateBy, .ref a_guests, .ref a_who, .ref a_used, .ref a_lacks, .ref a_candles, .ref a_masses, .ref a_owing, .ref a_heldOn, .ref a_waits, .ref a_tape, .ref a_text, .int v_taped, .int v_size, .int v_at, .int v_fault, .int v_rules, .ref a_statements, .ref a_taken, .ref a_sort, .ref a_first, .ref a_second, .int v_wordEnd, .int v_number])), (a_feastDay, .inl (cI, 40, .inl f_feastDay)), (a_rank, .inl (cI, 40, .inl f_rank)), (a_heldOn, .inl (cI, 365, .inl f_heldOn)), (a_waits, .inl (cZ, 40, .inl f_waits)), (a_statements, .inl (cI, 11, .inl f_statements)), (a_taken, .inl (cI, 11, .inl f_taken)), (a_sort, .inl (cI, 176, .inl f_sort)), (a_first, .inl (cI, 176, .inl f_first)), (a_second, .inl (cI, 176, .inl f_second))]) (va_Qi (fun (r : Int32) (u : (Nat → Int32) × (Nat → Int32)) => True) (BW D [(h, .inr (11, [.int v_today, .int v_monks, .int v_aways, .int v_feasts, .int v_gifts, .int v_leaves, .int v_lates, .int v_store, .int v_allCandles, .ref a_isPriest, .ref a_bars, .ref a_joined, .ref a_turns, .ref a_awayMonk, .ref a_awayFrom, .ref a_awayTo, .ref a_feastDay, .ref a_rank, .ref a_isWeekly, .ref a_isDouble, .ref a_giftDay, .ref a_giftFrom, .ref a_owed, .ref a_said, .ref a_spared, .ref a_leaveGift, .ref a_leaveFrom, .ref a_leaveTo, .ref a_lateDay, .ref a_lateOffice, .ref a_lateBy, .ref a_guests, .ref a_who, .ref a_used, .ref a_lacks, .ref a_candles, .ref a_masses, .ref a_owing, .ref a_heldOn, .ref a_waits, .ref a_tape, .ref a_text, .int v_taped, .int v_size, .int v_at, .int v_fault, .int v_rules, .ref a_statements, .ref a_taken, .ref a_sort, .ref a_first, .ref a_second, .int v_wordEnd, .int v_number])), (a_feastDay, .inl (cI, 40, .inl f_feastDay)), (a_rank, .inl (cI, 40, .inl f_rank)), (a_heldOn, .inl (cI, 365, .inl f_heldOn)), (a_waits, .inl (cZ, 40, .inl f_waits)), (a_statements, .inl (cI, 11, .inl f_statements)), (a_taken, .inl (cI, 11, .inl f_taken)), (a_sort, .inl (cI, 176, .inl f_sort)), (a_first, .inl (cI, 176, .inl f_first)), (a_second, .inl (cI, 176, .inl f_second))] sz (fun u : (Nat → Int32) × (Nat → Int32) => [(h, .inr (11, [.int v_today, .int v_monks, .int v_aways, .int v_feasts, .int v_gifts, .int v_leaves, .int v_lates, .int v_store, .int v_allCandles, .ref a_isPriest, .ref a_bars, .ref a_joined, .ref a_turns, .ref a_awayMonk, .ref a_awayFrom, .ref a_awayTo, .ref a_feastDay, .ref a_rank, .ref a_isWeekly, .ref a_isDouble, .ref a_giftDay, .ref a_giftFrom, .ref a_owed, .ref a_said, .ref a_spared, .ref a_leaveGift, .ref a_leaveFrom, .ref a_leaveTo, .ref a_lateDay, .ref a_lateOffice, .ref a_lateBy, .ref a_guests, .ref a_who, .ref a_used, .ref a_lacks, .ref a_candles, .ref a_masses, .ref a_owing, .ref a_heldOn, .ref a_waits, .ref a_tape, .ref a_text, .int v_taped, .int v_size, .int v_at, .int v_fault, .int v_rules, .ref a_statements, .ref a_taken, .ref a_sort, .ref a_first, .ref a_second, .int v_wordEnd, .int v_number])), (a_feastDay, .inl (cI, 40, .inl f_feastDay)), (a_rank, .inl (cI, 40, .inl f_rank)), (a_heldOn, .inl (cI, 365, .inl u.1)), (a_waits, .inl (cZ, 40, .inl u.2)), (a_statements, .inl (cI, 11, .inl f_statements)), (a_taken, .inl (cI, 11, .inl f_taken)), (a_sort, .inl (cI, 176, .inl f_sort)), (a_first, .inl (cI, 176, .inl f_first)), (a_second, .inl (cI, 176, .inl f_second))])) (va_A [(h, .inr (11, [.int v_today, .int v_monks, .int v_aways, .int v_feasts, .int v_gifts, .int v_leaves, .int v_lates, .int v_store, .int v_allCandles, .ref a_isPriest, .ref a_bars, .ref a_joined, .ref a_turns, .ref a_awayMonk, .ref a_awayFrom, .ref a_awayTo, .ref a_feastDay, .ref a_rank, .ref a_isWeekly, .ref a_isDouble, .ref a_giftDay, .ref a_giftFrom, .ref a_owed, .ref a_said, .ref a_spared, .ref a_leaveGift, .ref a_leaveFrom, .ref a_leaveTo, .ref a_lateDay, .ref a_lateOffice, .ref a_lateBy, .ref a_guests, .ref a_who, .ref a_used, .ref a_lacks, .ref a_candles, .ref a_masses, .ref a_owing, .ref a_heldOn, .ref a_waits, .ref a_tape, .ref a_text, .int v_taped, .int v_size, .int v_at, .int v_fault, .int v_rules, .ref a_statements, .ref a_taken, .ref a_sort, .ref a_first, .ref a_second, .int v_wordEnd, .int v_number])), (a_feastDay, .inl (cI, 40, .inl f_feastDay)), (a_rank, .inl (cI, 40, .inl f_rank)), (a_heldOn, .inl (cI, 365, .inl f_heldOn)), (a_waits, .inl (cZ, 40, .inl f_waits)), (a_statements, .inl (cI, 11, .inl f_statements)), (a_taken, .inl (cI, 11, .inl f_taken)), (a_sort, .inl (cI, 176, .inl f_sort)), (a_first, .inl (cI, 176, .inl f_first)), (a_second, .inl (cI, 176, .inl f_second))] sz)) 0 0 (va_A [(h, .inr (11, [.int v_today, .int v_monks, .int v_aways, .int v_feasts, .int v_gifts, .int v_leaves, .int v_lates, .int v_store, .int v_allCandles, .ref a_isPriest, .ref a_bars, .ref a_joined, .ref a_turns, .ref a_awayMonk, .ref a_awayFrom, .ref a_awayTo, .ref a_feastDay, .ref a_rank, .ref a_isWeekly, .ref a_isDouble, .ref a_giftDay, .ref a_giftFrom, .ref a_owed, .ref a_said, .ref a_spared, .ref a_leaveGift, .ref a_leaveFrom, .ref a_leaveTo, .ref a_lateDay, .ref a_lateOffice, .ref a_lateBy, .ref a_guests, .ref a_who, .ref a_used, .ref a_lacks, .ref a_candles, .ref a_masses, .ref a_owing, .ref a_heldOn, .ref a_waits, .ref a_tape, .ref a_text, .int v_taped, .int v_size, .int v_at, .int v_fault, .int v_rules, .ref a_statements, .ref a_taken, .ref a_sort, .ref a_first, .ref a_second, .int v_wordEnd, .int v_number])), (a_feastDay, .inl (cI, 40, .inl f_feastDay)), (a_rank, .inl (cI, 40, .inl f_rank)), (a_heldOn, .inl (cI, 365, .inl f_heldOn)), (a_waits, .inl (cZ, 40, .inl f_waits)), (a_statements, .inl (cI, 11, .inl f_statements)), (a_taken, .inl (cI, 11, .inl f_taken)), (a_sort, .inl (cI, 176, .inl f_sort)), (a_first, .inl (cI, 176, .inl f_first)), (a_second, .inl (cI, 176, .inl f_second))] sz) := by
  refine rw_ret (cc := cX12_fast) (maxL := 3) (ty := .int) (own := RX12) (by decide) rfl rfl (Nat.le_of_ble_eq_true rfl) ?_
  intro p e s m args below meth c Q A S hin hret hP hK hD hA hS ls hl
  obtain ⟨hx, hb, hml, hown, hts⟩ := id S
  have hl : lv_has ls 3 [(0, .ref h), (1, .int d), (2, .int w)] := hl
  have kkm1 : (-1 : Int32).toInt = -1 := by decide
  have kk0 : (0 : Int32).toInt = 0 := by decide
  have kk1 : (1 : Int32).toInt = 1 := by decide
  have kk2 : (2 : Int32).toInt = 2 := by decide
  have kk3 : (3 : Int32).toInt = 3 := by decide
  refine lv_iload_n hx hb dX12_fast_0 rfl (lv_at hl 1 rfl) ?_
  have hPc := hP.sub (ws' := []) [] rfl
  refine roS (As := [.int d]) (rest := []) S (m_isDay  ) (va_cwS 1 hts gX12_fast_X12_isDay rfl rfl rfl hd_X12_isDay ⟨Nat.le_of_ble_eq_true rfl, Nat.le_of_ble_eq_true rfl⟩) hK hPc rfl hl.1 rfl (Nat.le_of_ble_eq_true rfl) dX12_fast_1 ⟨Nat.le_of_ble_eq_true rfl, Nat.le_of_ble_eq_true rfl⟩ (fun r_1 hw_1 => ?_)
  have hw_1 : (r_1.toInt = 1 ∧ 0 ≤ d.toInt ∧ d.toInt ≤ 1094) ∨ (r_1.toInt = 0 ∧ (d.toInt < 0 ∨ 1094 < d.toInt)) := hw_1
  refine lv_if_eq (tgt := 16) hx hb dX12_fast_4 (by decide) (fun c_2 => ?_) (fun c_2 => ?_)
  · have tc_2 := t_eq c_2
    refine lv_iconst (v := (-1)) hx hb dX12_fast_16 (by decide) ?_
    exact hret (-1) (f_heldOn, f_waits) _ _ _ _ (show True from trivial) rfl (hP.sub [0, 1, 2, 3, 4, 5, 6, 7, 8, 9] rfl) (hD.sub [0, 1, 2, 3, 4, 5, 6, 7, 8, 9] (by decide +kernel) rfl) hS dX12_fast_17
  · have tc_2 := t_neq c_2
    refine lv_iload_n hx hb dX12_fast_7 rfl (lv_at hl 2 rfl) ?_
    refine lv_iconst (v := 0) hx hb dX12_fast_8 (by decide) ?_
    refine lv_iconst (v := 3) hx hb dX12_fast_9 (by decide) ?_
    have hPc := hP.sub (ws' := []) [] rfl
    refine roS (As := [.int w, .int 0, .int 3]) (rest := []) S (m_isIn  ) (va_cwS 3 hts gX12_fast_X12_isIn rfl rfl rfl hd_X12_isIn ⟨Nat.le_of_ble_eq_true rfl, Nat.le_of_ble_eq_true rfl⟩) hK hPc rfl hl.1 rfl (Nat.le_of_ble_eq_true rfl) dX12_fast_10 ⟨Nat.le_of_ble_eq_true rfl, Nat.le_of_ble_eq_true rfl⟩ (fun r_3 hw_3 => ?_)
    have hw_3 : (r_3.toInt = 1 ∧ (0 : Int32).toInt ≤ w.toInt ∧ w.toInt ≤ (3 : Int32).toInt) ∨ (r_3.toInt = 0 ∧ (w.toInt < (0 : Int32).toInt ∨ (3 : Int32).toInt < w.toInt)) := hw_3
    refine lv_if_ne (tgt := 18) hx hb dX12_fast_13 (by decide) (fun c_4 => ?_) (fun c_4 => ?_)
    · have tc_4 := t_neq c_4
      refine lv_iload_n hx hb dX12_fast_18 rfl (lv_at hl 2 rfl) ?_
      refine lv_if_ne (tgt := 38) hx hb dX12_fast_19 (by decide) (fun c_5 => ?_) (fun c_5 => ?_)
      · have tc_5 := t_neq c_5
        refine lv_iload_n hx hb dX12_fast_38 rfl (lv_at hl 2 rfl) ?_
        refine lv_iconst (v := 1) hx hb dX12_fast_39 (by decide) ?_
        refine lv_icmp_ne (tgt := 51) hx hb dX12_fast_40 (by decide) (fun c_6 => ?_) (fun c_6 => ?_)
        · have tc_6 := t_neq c_6
          refine lv_iload_n hx hb dX12_fast_51 rfl (lv_at hl 2 rfl) ?_
          refine lv_iconst (v := 2) hx hb dX12_fast_52 (by decide) ?_
          refine lv_icmp_ne (tgt := 64) hx hb dX12_fast_53 (by decide) (fun c_7 => ?_) (fun c_7 => ?_)
          · have tc_7 := t_neq c_7
            refine lv_aload_n hx hb dX12_fast_64 rfl (lv_at hl 0 rfl) ?_
            refine lv_iload_n hx hb dX12_fast_65 rfl (lv_at hl 1 rfl) ?_
            have hPc := hP.sub (ws' := [(h, .inr (11, [.int v_today, .int v_monks, .int v_aways, .int v_feasts, .int v_gifts, .int v_leaves, .int v_lates, .int v_store, .int v_allCandles, .ref a_isPriest, .ref a_bars, .ref a_joined, .ref a_turns, .ref a_awayMonk, .ref a_awayFrom, .ref a_awayTo, .ref a_feastDay, .ref a_rank, .ref a_isWeekly, .ref a_isDouble, .ref a_giftDay, .ref a_giftFrom, .ref a_owed, .ref a_said, .ref a_spared, .ref a_leaveGift, .ref a_leaveFrom, .ref a_leaveTo, .ref a_lateDay, .ref a_lateOffice, .ref a_lateBy, .ref a_guests, .ref a_who, .ref a_used, .ref a_lacks, .ref a_candles, .ref a_masses, .ref a_owing, .ref a_heldOn, .ref a_waits, .ref a_tape, .ref a_text, .int v_taped, .int v_size, .int v_at, .int v_fault, .int v_rules, .ref a_statements, .ref a_taken, .ref a_sort, .ref a_first, .ref a_second, .int v_wordEnd, .int v_number])), (a_taken, .inl (cI, 11, .inl f_taken))]) [0, 6] rfl
            refine roV (As := [.int d]) (rest := []) S (n_inForce  (by omega) (by omega)) (cwV 1 hts gX12_fast_X12_inForce rfl rfl rfl ⟨rfl, hd_X12_inForce⟩ ⟨Nat.le_of_ble_eq_true rfl, Nat.le_of_ble_eq_true rfl⟩) hK hPc (va_recv hK.1 hPc (ci := 11) (q0 := 0) rfl rfl) rfl hl.1 rfl (Nat.le_of_ble_eq_true rfl) dX12_fast_66 ⟨Nat.le_of_ble_eq_true rfl, Nat.le_of_ble_eq_true rfl⟩ (fun r_8 hw_8 => ?_)
            have hw_8 : r_8.toInt = -1 ∨ (0 ≤ r_8.toInt ∧ r_8.toInt < v_rules.toInt) := hw_8
            exact hret r_8 (f_heldOn, f_waits) _ _ _ _ (show True from trivial) rfl (hP.sub [0, 1, 2, 3, 4, 5, 6, 7, 8, 9] rfl) (hD.sub [0, 1, 2, 3, 4, 5, 6, 7, 8, 9] (by decide +kernel) rfl) hS dX12_fast_69
          · have tc_7 := t_eq c_7
            refine lv_aload_n hx hb dX12_fast_56 rfl (lv_at hl 0 rfl) ?_
            refine lv_iload_n hx hb dX12_fast_57 rfl (lv_at hl 1 rfl) ?_
            have hPc := hP.sub (ws' := [(h, .inr (11, [.int v_today, .int v_monks, .int v_aways, .int v_feasts, .int v_gifts, .int v_leaves, .int v_lates, .int v_store, .int v_allCandles, .ref a_isPriest, .ref a_bars, .ref a_joined, .ref a_turns, .ref a_awayMonk, .ref a_awayFrom, .ref a_awayTo, .ref a_feastDay, .ref a_rank, .ref a_isWeekly, .ref a_isDouble, .ref a_giftDay, .ref a_giftFrom, .ref a_owed, .ref a_said, .ref a_spared, .ref a_leaveGift, .ref a_leaveFrom, .ref a_leaveTo, .ref a_lateDay, .ref a_lateOffice, .ref a_lateBy, .ref a_guests, .ref a_who, .ref a_used, .ref a_lacks, .ref a_candles, .ref a_masses, .ref a_owing, .ref a_heldOn, .ref a_waits, .ref a_tape, .ref a_text, .int v_taped, .int v_size, .int v_at, .int v_fault, .int v_rules, .ref a_statements, .ref a_taken, .ref a_sort, .ref a_first, .ref a_second, .int v_wordEnd, .int v_number])), (a_statements, .inl (cI, 11, .inl f_statements)), (a_taken, .inl (cI, 11, .inl f_taken)), (a_sort, .inl (cI, 176, .inl f_sort)), (a_first, .inl (cI, 176, .inl f_first)), (a_second, .inl (cI, 176, .inl f_second))]) [0, 5, 6, 7, 8, 9] rfl
            refine roV (As := [.int d]) (rest := []) S (n_guestFeed  (by omega) (by omega) (hs)) (cwV 1 hts gX12_fast_X12_guestFeed rfl rfl rfl ⟨rfl, hd_X12_guestFeed⟩ ⟨Nat.le_of_ble_eq_true rfl, Nat.le_of_ble_eq_true rfl⟩) hK hPc (va_recv hK.1 hPc (ci := 11) (q0 := 0) rfl rfl) rfl hl.1 rfl (Nat.le_of_ble_eq_true rfl) dX12_fast_58 ⟨Nat.le_of_ble_eq_true rfl, Nat.le_of_ble_eq_true rfl⟩ (fun r_9 hw_9 => ?_)
            have hw_9 : True := hw_9
            refine lv_goto (tgt := 69) hx hb dX12_fast_61 (by decide) ?_
            exact hret r_9 (f_heldOn, f_waits) _ _ _ _ (show True from trivial) rfl (hP.sub [0, 1, 2, 3, 4, 5, 6, 7, 8, 9] rfl) (hD.sub [0, 1, 2, 3, 4, 5, 6, 7, 8, 9] (by decide +kernel) rfl) hS dX12_fast_69
        · have tc_6 := t_eq c_6
          refine lv_aload_n hx hb dX12_fast_43 rfl (lv_at hl 0 rfl) ?_
          refine lv_iload_n hx hb dX12_fast_44 rfl (lv_at hl 1 rfl) ?_
          have hPc := hP.sub (ws' := [(h, .inr (11, [.int v_today, .int v_monks, .int v_aways, .int v_feasts, .int v_gifts, .int v_leaves, .int v_lates, .int v_store, .int v_allCandles, .ref a_isPriest, .ref a_bars, .ref a_joined, .ref a_turns, .ref a_awayMonk, .ref a_awayFrom, .ref a_awayTo, .ref a_feastDay, .ref a_rank, .ref a_isWeekly, .ref a_isDouble, .ref a_giftDay, .ref a_giftFrom, .ref a_owed, .ref a_said, .ref a_spared, .ref a_leaveGift, .ref a_leaveFrom, .ref a_leaveTo, .ref a_lateDay, .ref a_lateOffice, .ref a_lateBy, .ref a_guests, .ref a_who, .ref a_used, .ref a_lacks, .ref a_candles, .ref a_masses, .ref a_owing, .ref a_heldOn, .ref a_waits, .ref a_tape, .ref a_text, .int v_taped, .int v_size, .int v_at, .int v_fault, .int v_rules, .ref a_statements, .ref a_taken, .ref a_sort, .ref a_first, .ref a_second, .int v_wordEnd, .int v_number])), (a_feastDay, .inl (cI, 40, .inl f_feastDay)), (a_rank, .inl (cI, 40, .inl f_rank)), (a_heldOn, .inl (cI, 365, .inl f_heldOn)), (a_waits, .inl (cZ, 40, .inl f_waits)), (a_statements, .inl (cI, 11, .inl f_statements)), (a_taken, .inl (cI, 11, .inl f_taken)), (a_sort, .inl (cI, 176, .inl f_sort)), (a_first, .inl (cI, 176, .inl f_first)), (a_second, .inl (cI, 176, .inl f_second))]) [0, 1, 2, 3, 4, 5, 6, 7, 8, 9] rfl
          refine rwV (As := [.int d]) (rest := []) (wc := [(h, .inr (11, [.int v_today, .int v_monks, .int v_aways, .int v_feasts, .int v_gifts, .int v_leaves, .int v_lates, .int v_store, .int v_allCandles, .ref a_isPriest, .ref a_bars, .ref a_joined, .ref a_turns, .ref a_awayMonk, .ref a_awayFrom, .ref a_awayTo, .ref a_feastDay, .ref a_rank, .ref a_isWeekly, .ref a_isDouble, .ref a_giftDay, .ref a_giftFrom, .ref a_owed, .ref a_said, .ref a_spared, .ref a_leaveGift, .ref a_leaveFrom, .ref a_leaveTo, .ref a_lateDay, .ref a_lateOffice, .ref a_lateBy, .ref a_guests, .ref a_who, .ref a_used, .ref a_lacks, .ref a_candles, .ref a_masses, .ref a_owing, .ref a_heldOn, .ref a_waits, .ref a_tape, .ref a_text, .int v_taped, .int v_size, .int v_at, .int v_fault, .int v_rules, .ref a_statements, .ref a_taken, .ref a_sort, .ref a_first, .ref a_second, .int v_wordEnd, .int v_number])), (a_feastDay, .inl (cI, 40, .inl f_feastDay)), (a_rank, .inl (cI, 40, .inl f_rank)), (a_heldOn, .inl (cI, 365, .inl f_heldOn)), (a_waits, .inl (cZ, 40, .inl f_waits)), (a_statements, .inl (cI, 11, .inl f_statements)), (a_taken, .inl (cI, 11, .inl f_taken)), (a_sort, .inl (cI, 176, .inl f_sort)), (a_first, .inl (cI, 176, .inl f_first)), (a_second, .inl (cI, 176, .inl f_second))]) (wr := []) S (n_headFeed  (by omega) (by omega) (by omega) (by omega) (hs)) (cwV 1 hts gX12_fast_X12_headFeed rfl rfl rfl ⟨rfl, hd_X12_headFeed⟩ ⟨Nat.le_of_ble_eq_true rfl, Nat.le_of_ble_eq_true rfl⟩) hK hP hD hS hA [0, 1, 2, 3, 4, 5, 6, 7, 8, 9] [] rfl rfl (by decide +kernel) (by decide +kernel) (by decide +kernel) (va_recv hK.1 hPc (ci := 11) (q0 := 0) rfl rfl) rfl hl.1 rfl (Nat.le_of_ble_eq_true rfl) dX12_fast_45 ⟨Nat.le_of_ble_eq_true rfl, Nat.le_of_ble_eq_true rfl⟩ (fun r_10 u_10 H locs hw_10 hP hD hS => ?_)
          obtain ⟨g1_10, g2_10⟩ := u_10
          have hw_10 : True := hw_10
          have hP : va_P D vwCl [(h, .inr (11, [.int v_today, .int v_monks, .int v_aways, .int v_feasts, .int v_gifts, .int v_leaves, .int v_lates, .int v_store, .int v_allCandles, .ref a_isPriest, .ref a_bars, .ref a_joined, .ref a_turns, .ref a_awayMonk, .ref a_awayFrom, .ref a_awayTo, .ref a_feastDay, .ref a_rank, .ref a_isWeekly, .ref a_isDouble, .ref a_giftDay, .ref a_giftFrom, .ref a_owed, .ref a_said, .ref a_spared, .ref a_leaveGift, .ref a_leaveFrom, .ref a_leaveTo, .ref a_lateDay, .ref a_lateOffice, .ref a_lateBy, .ref a_guests, .ref a_who, .ref a_used, .ref a_lacks, .ref a_candles, .ref a_masses, .ref a_owing, .ref a_heldOn, .ref a_waits, .ref a_tape, .ref a_text, .int v_taped, .int v_size, .int v_at, .int v_fault, .int v_rules, .ref a_statements, .ref a_taken, .ref a_sort, .ref a_first, .ref a_second, .int v_wordEnd, .int v_number])), (a_feastDay, .inl (cI, 40, .inl f_feastDay)), (a_rank, .inl (cI, 40, .inl f_rank)), (a_heldOn, .inl (cI, 365, .inl g1_10)), (a_waits, .inl (cZ, 40, .inl g2_10)), (a_statements, .inl (cI, 11, .inl f_statements)), (a_taken, .inl (cI, 11, .inl f_taken)), (a_sort, .inl (cI, 176, .inl f_sort)), (a_first, .inl (cI, 176, .inl f_first)), (a_second, .inl (cI, 176, .inl f_second))] H := hP
          have hD := asD hP hD
          refine lv_goto (tgt := 69) hx hb dX12_fast_48 (by decide) ?_
          exact hret r_10 (g1_10, g2_10) _ _ _ _ (show True from trivial) rfl (hP.sub [0, 1, 2, 3, 4, 5, 6, 7, 8, 9] rfl) (hD.sub [0, 1, 2, 3, 4, 5, 6, 7, 8, 9] (by decide +kernel) rfl) hS dX12_fast_69
      · have tc_5 := t_eq c_5
        refine lv_aload_n hx hb dX12_fast_22 rfl (lv_at hl 0 rfl) ?_
        refine lv_iload_n hx hb dX12_fast_23 rfl (lv_at hl 1 rfl) ?_
        have hPc := hP.sub (ws' := [(h, .inr (11, [.int v_today, .int v_monks, .int v_aways, .int v_feasts, .int v_gifts, .int v_leaves, .int v_lates, .int v_store, .int v_allCandles, .ref a_isPriest, .ref a_bars, .ref a_joined, .ref a_turns, .ref a_awayMonk, .ref a_awayFrom, .ref a_awayTo, .ref a_feastDay, .ref a_rank, .ref a_isWeekly, .ref a_isDouble, .ref a_giftDay, .ref a_giftFrom, .ref a_owed, .ref a_said, .ref a_spared, .ref a_leaveGift, .ref a_leaveFrom, .ref a_leaveTo, .ref a_lateDay, .ref a_lateOffice, .ref a_lateBy, .ref a_guests, .ref a_who, .ref a_used, .ref a_lacks, .ref a_candles, .ref a_masses, .ref a_owing, .ref a_heldOn, .ref a_waits, .ref a_tape, .ref a_text, .int v_taped, .int v_size, .int v_at, .int v_fault, .int v_rules, .ref a_statements, .ref a_taken, .ref a_sort, .ref a_first, .ref a_second, .int v_wordEnd, .int v_number])), (a_feastDay, .inl (cI, 40, .inl f_feastDay)), (a_rank, .inl (cI, 40, .inl f_rank)), (a_heldOn, .inl (cI, 365, .inl f_heldOn)), (a_waits, .inl (cZ, 40, .inl f_waits)), (a_statements, .inl (cI, 11, .inl f_statements)), (a_taken, .inl (cI, 11, .inl f_taken)), (a_sort, .inl (cI, 176, .inl f_sort)), (a_first, .inl (cI, 176, .inl f_first)), (a_second, .inl (cI, 176, .inl f_second))]) [0, 1, 2, 3, 4, 5, 6, 7, 8, 9] rfl
        refine rwV (As := [.int d]) (rest := []) (wc := [(h, .inr (11, [.int v_today, .int v_monks, .int v_aways, .int v_feasts, .int v_gifts, .int v_leaves, .int v_lates, .int v_store, .int v_allCandles, .ref a_isPriest, .ref a_bars, .ref a_joined, .ref a_turns, .ref a_awayMonk, .ref a_awayFrom, .ref a_awayTo, .ref a_feastDay, .ref a_rank, .ref a_isWeekly, .ref a_isDouble, .ref a_giftDay, .ref a_giftFrom, .ref a_owed, .ref a_said, .ref a_spared, .ref a_leaveGift, .ref a_leaveFrom, .ref a_leaveTo, .ref a_lateDay, .ref a_lateOffice, .ref a_lateBy, .ref a_guests, .ref a_who, .ref a_used, .ref a_lacks, .ref a_candles, .ref a_masses, .ref a_owing, .ref a_heldOn, .ref a_waits, .ref a_tape, .ref a_text, .int v_taped, .int v_size, .int v_at, .int v_fault, .int v_rules, .ref a_statements, .ref a_taken, .ref a_sort, .ref a_first, .ref a_second, .int v_wordEnd, .int v_number])), (a_feastDay, .inl (cI, 40, .inl f_feastDay)), (a_rank, .inl (cI, 40, .inl f_rank)), (a_heldOn, .inl (cI, 365, .inl f_heldOn)), (a_waits, .inl (cZ, 40, .inl f_waits)), (a_statements, .inl (cI, 11, .inl f_statements)), (a_taken, .inl (cI, 11, .inl f_taken)), (a_sort, .inl (cI, 176, .inl f_sort)), (a_first, .inl (cI, 176, .inl f_first)), (a_second, .inl (cI, 176, .inl f_second))]) (wr := []) S (n_isFast  (by omega) (by omega) (by omega) (by omega) (hs)) (cwV 1 hts gX12_fast_X12_isFast rfl rfl rfl ⟨rfl, hd_X12_isFast⟩ ⟨Nat.le_of_ble_eq_true rfl, Nat.le_of_ble_eq_true rfl⟩) hK hP hD hS hA [0, 1, 2, 3, 4, 5, 6, 7, 8, 9] [] rfl rfl (by decide +kernel) (by decide +kernel) (by decide +kernel) (va_recv hK.1 hPc (ci := 11) (q0 := 0) rfl rfl) rfl hl.1 rfl (Nat.le_of_ble_eq_true rfl) dX12_fast_24 ⟨Nat.le_of_ble_eq_true rfl, Nat.le_of_ble_eq_true rfl⟩ (fun r_11 u_11 H locs hw_11 hP hD hS => ?_)
        obtain ⟨g1_11, g2_11⟩ := u_11
        have hw_11 : (r_11.toInt = 0 ∨ r_11.toInt = 1) := hw_11
        have hP : va_P D vwCl [(h, .inr (11, [.int v_today, .int v_monks, .int v_aways, .int v_feasts, .int v_gifts, .int v_leaves, .int v_lates, .int v_store, .int v_allCandles, .ref a_isPriest, .ref a_bars, .ref a_joined, .ref a_turns, .ref a_awayMonk, .ref a_awayFrom, .ref a_awayTo, .ref a_feastDay, .ref a_rank, .ref a_isWeekly, .ref a_isDouble, .ref a_giftDay, .ref a_giftFrom, .ref a_owed, .ref a_said, .ref a_spared, .ref a_leaveGift, .ref a_leaveFrom, .ref a_leaveTo, .ref a_lateDay, .ref a_lateOffice, .ref a_lateBy, .ref a_guests, .ref a_who, .ref a_used, .ref a_lacks, .ref a_candles, .ref a_masses, .ref a_owing, .ref a_heldOn, .ref a_waits, .ref a_tape, .ref a_text, .int v_taped, .int v_size, .int v_at, .int v_fault, .int v_rules, .ref a_statements, .ref a_taken, .ref a_sort, .ref a_first, .ref a_second, .int v_wordEnd, .int v_number])), (a_feastDay, .inl (cI, 40, .inl f_feastDay)), (a_rank, .inl (cI, 40, .inl f_rank)), (a_heldOn, .inl (cI, 365, .inl g1_11)), (a_waits, .inl (cZ, 40, .inl g2_11)), (a_statements, .inl (cI, 11, .inl f_statements)), (a_taken, .inl (cI, 11, .inl f_taken)), (a_sort, .inl (cI, 176, .inl f_sort)), (a_first, .inl (cI, 176, .inl f_first)), (a_second, .inl (cI, 176, .inl f_second))] H := hP
        have hD := asD hP hD
        refine lv_if_eq (tgt := 34) hx hb dX12_fast_27 (by decide) (fun c_12 => ?_) (fun c_12 => ?_)
        · have tc_12 := t_eq c_12
          refine lv_iconst (v := 0) hx hb dX12_fast_34 (by decide) ?_
          refine lv_goto (tgt := 69) hx hb dX12_fast_35 (by decide) ?_
          exact hret 0 (g1_11, g2_11) _ _ _ _ (show True from trivial) rfl (hP.sub [0, 1, 2, 3, 4, 5, 6, 7, 8, 9] rfl) (hD.sub [0, 1, 2, 3, 4, 5, 6, 7, 8, 9] (by decide +kernel) rfl) hS dX12_fast_69
        · have tc_12 := t_neq c_12
          refine lv_iconst (v := 1) hx hb dX12_fast_30 (by decide) ?_
          refine lv_goto (tgt := 69) hx hb dX12_fast_31 (by decide) ?_
          exact hret 1 (g1_11, g2_11) _ _ _ _ (show True from trivial) rfl (hP.sub [0, 1, 2, 3, 4, 5, 6, 7, 8, 9] rfl) (hD.sub [0, 1, 2, 3, 4, 5, 6, 7, 8, 9] (by decide +kernel) rfl) hS dX12_fast_69
    · have tc_4 := t_eq c_4
      refine lv_iconst (v := (-1)) hx hb dX12_fast_16 (by decide) ?_
      exact hret (-1) (f_heldOn, f_waits) _ _ _ _ (show True from trivial) rfl (hP.sub [0, 1, 2, 3, 4, 5, 6, 7, 8, 9] rfl) (hD.sub [0, 1, 2, 3, 4, 5, 6, 7, 8, 9] (by decide +kernel) rfl) hS dX12_fast_17

theorem in_N_gift_X12 : ∀ w ∈ wsX120, w ∈ wsX12_gift := tl_X12_gift_X12
set_option maxHeartbeats 8000000 in
set_option maxRecDepth 100000 in
theorem N_gift {l : Launch} {D : va_G} {cI cZ cB : ClassId} {sz : Nat} {h a_isPriest a_bars a_joined a_turns a_awayMonk a_awayFrom a_awayTo a_feastDay a_rank a_isWeekly a_isDouble a_giftDay a_giftFrom a_owed a_said a_spared a_leaveGift a_leaveFrom a_leaveTo a_lateDay a_lateOffice a_lateBy a_guests a_who a_used a_lacks a_candles a_masses a_owing a_heldOn a_waits a_tape a_text a_statements a_taken a_sort a_first a_second : Nat} {v_today v_monks v_aways v_feasts v_gifts v_leaves v_lates v_store v_allCandles v_taped v_size v_at v_fault v_rules v_wordEnd v_number : Int32} {f_isWeekly f_isDouble f_giftDay f_giftFrom : Nat → Int32} {a n b : Int32} (h0_gifts : 0 ≤ v_gifts.toInt) (h1_gifts : v_gifts.toInt ≤ 40) : Met l yX12_gift wsX12_gift ({ frames := 1, cells := 0, slots := 0, locals := 22 }) (RW D cI cZ cB [.ref h, .int a, .int n, .int b] sz [(h, .inr (11, [.int v_today, .int v_monks, .int v_aways, .int v_feasts, .int v_gifts, .int v_leaves, .int v_lates, .int v_store, .int v_allCandles, .ref a_isPriest, .ref a_bars, .ref a_joined, .ref a_turns, .ref a_awayMonk, .ref a_awayFrom, .ref a_awayTo, .ref a_feastDay, .ref a_rank, .ref a_isWeekly, .ref a_isDouble, .ref a_giftDay, .ref a_giftFrom, .ref a_owed, .ref a_said, .ref a_spared, .ref a_leaveGift, .ref a_leaveFrom, .ref a_leaveTo, .ref a_lateDay, .ref a_lateOffice, .ref a_lateBy, .ref a_guests, .ref a_who, .ref a_used, .ref a_lacks, .ref a_candles, .ref a_masses, .ref a_owing, .ref a_heldOn, .ref a_waits, .ref a_tape, .ref a_text, .int v_taped, .int v_size, .int v_at, .int v_fault, .int v_rules, .ref a_statements, .ref a_taken, .ref a_sort, .ref a_first, .ref a_second, .int v_wordEnd, .int v_number])), (a_isWeekly, .inl (cZ, 40, .inl f_isWeekly)), (a_isDouble, .inl (cZ, 40, .inl f_isDouble)), (a_giftDay, .inl (cI, 40, .inl f_giftDay)), (a_giftFrom, .inl (cI, 40, .inl f_giftFrom))]) (va_Qi (fun (r : Int32) (u : Int32 × (Nat → Int32) × (Nat → Int32) × (Nat → Int32) × (Nat → Int32)) => ((((a.toInt ≠ 0 ∧ 0 ≤ n.toInt ∧ n.toInt ≤ 6) ∨ (a.toInt = 0 ∧ 0 ≤ n.toInt ∧ n.toInt ≤ 364)) ∧ v_gifts.toInt < 40) ∧ r.toInt = v_gifts.toInt ∧ u.1.toInt = v_gifts.toInt + 1) ∨ (¬ (((a.toInt ≠ 0 ∧ 0 ≤ n.toInt ∧ n.toInt ≤ 6) ∨ (a.toInt = 0 ∧ 0 ≤ n.toInt ∧ n.toInt ≤ 364)) ∧ v_gifts.toInt < 40) ∧ r.toInt = -1 ∧ u.1 = v_gifts)) (BW D [(h, .inr (11, [.int v_today, .int v_monks, .int v_aways, .int v_feasts, .int v_gifts, .int v_leaves, .int v_lates, .int v_store, .int v_allCandles, .ref a_isPriest, .ref a_bars, .ref a_joined, .ref a_turns, .ref a_awayMonk, .ref a_awayFrom, .ref a_awayTo, .ref a_feastDay, .ref a_rank, .ref a_isWeekly, .ref a_isDouble, .ref a_giftDay, .ref a_giftFrom, .ref a_owed, .ref a_said, .ref a_spared, .ref a_leaveGift, .ref a_leaveFrom, .ref a_leaveTo, .ref a_lateDay, .ref a_lateOffice, .ref a_lateBy, .ref a_guests, .ref a_who, .ref a_used, .ref a_lacks, .ref a_candles, .ref a_masses, .ref a_owing, .ref a_heldOn, .ref a_waits, .ref a_tape, .ref a_text, .int v_taped, .int v_size, .int v_at, .int v_fault, .int v_rules, .ref a_statements, .ref a_taken, .ref a_sort, .ref a_first, .ref a_second, .int v_wordEnd, .int v_number])), (a_isWeekly, .inl (cZ, 40, .inl f_isWeekly)), (a_isDouble, .inl (cZ, 40, .inl f_isDouble)), (a_giftDay, .inl (cI, 40, .inl f_giftDay)), (a_giftFrom, .inl (cI, 40, .inl f_giftFrom))] sz (fun u : Int32 × (Nat → Int32) × (Nat → Int32) × (Nat → Int32) × (Nat → Int32) => [(h, .inr (11, [.int v_today, .int v_monks, .int v_aways, .int v_feasts, .int u.1, .int v_leaves, .int v_lates, .int v_store, .int v_allCandles, .ref a_isPriest, .ref a_bars, .ref a_joined, .ref a_turns, .ref a_awayMonk, .ref a_awayFrom, .ref a_awayTo, .ref a_feastDay, .ref a_rank, .ref a_isWeekly, .ref a_isDouble, .ref a_giftDay, .ref a_giftFrom, .ref a_owed, .ref a_said, .ref a_spared, .ref a_leaveGift, .ref a_leaveFrom, .ref a_leaveTo, .ref a_lateDay, .ref a_lateOffice, .ref a_lateBy, .ref a_guests, .ref a_who, .ref a_used, .ref a_lacks, .ref a_candles, .ref a_masses, .ref a_owing, .ref a_heldOn, .ref a_waits, .ref a_tape, .ref a_text, .int v_taped, .int v_size, .int v_at, .int v_fault, .int v_rules, .ref a_statements, .ref a_taken, .ref a_sort, .ref a_first, .ref a_second, .int v_wordEnd, .int v_number])), (a_isWeekly, .inl (cZ, 40, .inl u.2.1)), (a_isDouble, .inl (cZ, 40, .inl u.2.2.2.1)), (a_giftDay, .inl (cI, 40, .inl u.2.2.1)), (a_giftFrom, .inl (cI, 40, .inl u.2.2.2.2))])) (va_A [(h, .inr (11, [.int v_today, .int v_monks, .int v_aways, .int v_feasts, .int v_gifts, .int v_leaves, .int v_lates, .int v_store, .int v_allCandles, .ref a_isPriest, .ref a_bars, .ref a_joined, .ref a_turns, .ref a_awayMonk, .ref a_awayFrom, .ref a_awayTo, .ref a_feastDay, .ref a_rank, .ref a_isWeekly, .ref a_isDouble, .ref a_giftDay, .ref a_giftFrom, .ref a_owed, .ref a_said, .ref a_spared, .ref a_leaveGift, .ref a_leaveFrom, .ref a_leaveTo, .ref a_lateDay, .ref a_lateOffice, .ref a_lateBy, .ref a_guests, .ref a_who, .ref a_used, .ref a_lacks, .ref a_candles, .ref a_masses, .ref a_owing, .ref a_heldOn, .ref a_waits, .ref a_tape, .ref a_text, .int v_taped, .int v_size, .int v_at, .int v_fault, .int v_rules, .ref a_statements, .ref a_taken, .ref a_sort, .ref a_first, .ref a_second, .int v_wordEnd, .int v_number])), (a_isWeekly, .inl (cZ, 40, .inl f_isWeekly)), (a_isDouble, .inl (cZ, 40, .inl f_isDouble)), (a_giftDay, .inl (cI, 40, .inl f_giftDay)), (a_giftFrom, .inl (cI, 40, .inl f_giftFrom))] sz)) 0 0 (va_A [(h, .inr (11, [.int v_today, .int v_monks, .int v_aways, .int v_feasts, .int v_gifts, .int v_leaves, .int v_lates, .int v_store, .int v_allCandles, .ref a_isPriest, .ref a_bars, .ref a_joined, .ref a_turns, .ref a_awayMonk, .ref a_awayFrom, .ref a_awayTo, .ref a_feastDay, .ref a_rank, .ref a_isWeekly, .ref a_isDouble, .ref a_giftDay, .ref a_giftFrom, .ref a_owed, .ref a_said, .ref a_spared, .ref a_leaveGift, .ref a_leaveFrom, .ref a_leaveTo, .ref a_lateDay, .ref a_lateOffice, .ref a_lateBy, .ref a_guests, .ref a_who, .ref a_used, .ref a_lacks, .ref a_candles, .ref a_masses, .ref a_owing, .ref a_heldOn, .ref a_waits, .ref a_tape, .ref a_text, .int v_taped, .int v_size, .int v_at, .int v_fault, .int v_rules, .ref a_statements, .ref a_taken, .ref a_sort, .ref a_first, .ref a_second, .int v_wordEnd, .int v_number])), (a_isWeekly, .inl (cZ, 40, .inl f_isWeekly)), (a_isDouble, .inl (cZ, 40, .inl f_isDouble)), (a_giftDay, .inl (cI, 40, .inl f_giftDay)), (a_giftFrom, .inl (cI, 40, .inl f_giftFrom))] sz) := by
  refine rw_ret (cc := cX12_gift) (maxL := 4) (ty := .int) (own := RX12) (by decide) rfl rfl (Nat.le_of_ble_eq_true rfl) ?_
  intro p e s m args below meth c Q A S hin hret hP hK hD hA hS ls hl
  obtain ⟨hx, hb, hml, hown, hts⟩ := id S
  have hl : lv_has ls 4 [(0, .ref h), (1, .int a), (2, .int n), (3, .int b)] := hl
  have kkm1 : (-1 : Int32).toInt = -1 := by decide
  have kk0 : (0 : Int32).toInt = 0 := by decide
  have kk1 : (1 : Int32).toInt = 1 := by decide
  have kk6 : (6 : Int32).toInt = 6 := by decide
  have kk40 : (40 : Int32).toInt = 40 := by decide
  have kk364 : (364 : Int32).toInt = 364 := by decide
  have lk0 := hts (.fieldLink RX12 137 "AbbeyHoursModel" "gifts" "I") (List.mem_cons_of_mem _ (List.mem_append_left _ (List.mem_of_getElem? (i := 0) rfl)))
  have lk1 := hts (.fieldLink RX12 38 "AbbeyHoursModel" "isWeekly" "[Z") (List.mem_cons_of_mem _ (List.mem_append_left _ (List.mem_of_getElem? (i := 1) rfl)))
  have lk2 := hts (.fieldLink RX12 44 "AbbeyHoursModel" "giftDay" "[I") (List.mem_cons_of_mem _ (List.mem_append_left _ (List.mem_of_getElem? (i := 2) rfl)))
  have lk3 := hts (.fieldLink RX12 41 "AbbeyHoursModel" "isDouble" "[Z") (List.mem_cons_of_mem _ (List.mem_append_left _ (List.mem_of_getElem? (i := 3) rfl)))
  have lk4 := hts (.fieldLink RX12 47 "AbbeyHoursModel" "giftFrom" "[I") (List.mem_cons_of_mem _ (List.mem_append_left _ (List.mem_of_getElem? (i := 4) rfl)))
  have lk5 := hts (.fieldLink RX12 140 "AbbeyHoursModel" "today" "I") (List.mem_cons_of_mem _ (List.mem_append_left _ (List.mem_of_getElem? (i := 5) rfl)))
  refine lv_iload_n hx hb dX12_gift_0 rfl (lv_at hl 2 rfl) ?_
  refine lv_iconst (v := 0) hx hb dX12_gift_1 (by decide) ?_
  refine lv_iload_n hx hb dX12_gift_2 rfl (lv_at hl 1 rfl) ?_
  refine lv_if_eq (tgt := 11) hx hb dX12_gift_3 (by decide) (fun c_1 => ?_) (fun c_1 => ?_)
  · have tc_1 := t_eq c_1
    refine lv_sipush (v := 364) hx hb dX12_gift_11 (by decide) ?_
    have hPc := hP.sub (ws' := []) [] rfl
    refine roS (As := [.int n, .int 0, .int 364]) (rest := []) S (m_isIn  ) (va_cwS 3 hts gX12_gift_X12_isIn rfl rfl rfl hd_X12_isIn ⟨Nat.le_of_ble_eq_true rfl, Nat.le_of_ble_eq_true rfl⟩) hK hPc rfl hl.1 rfl (Nat.le_of_ble_eq_true rfl) dX12_gift_14 ⟨Nat.le_of_ble_eq_true rfl, Nat.le_of_ble_eq_true rfl⟩ (fun r_2 hw_2 => ?_)
    have hw_2 : (r_2.toInt = 1 ∧ (0 : Int32).toInt ≤ n.toInt ∧ n.toInt ≤ (364 : Int32).toInt) ∨ (r_2.toInt = 0 ∧ (n.toInt < (0 : Int32).toInt ∨ (364 : Int32).toInt < n.toInt)) := hw_2
    refine lv_if_eq (tgt := 29) hx hb dX12_gift_17 (by decide) (fun c_3 => ?_) (fun c_3 => ?_)
    · have tc_3 := t_eq c_3
      refine lv_iconst (v := (-1)) hx hb dX12_gift_29 (by decide) ?_
      exact hret (-1) (v_gifts, f_isWeekly, f_giftDay, f_isDouble, f_giftFrom) _ _ _ _ (show ((((a.toInt ≠ 0 ∧ 0 ≤ n.toInt ∧ n.toInt ≤ 6) ∨ (a.toInt = 0 ∧ 0 ≤ n.toInt ∧ n.toInt ≤ 364)) ∧ v_gifts.toInt < 40) ∧ (-1 : Int32).toInt = v_gifts.toInt ∧ v_gifts.toInt = v_gifts.toInt + 1) ∨ (¬ (((a.toInt ≠ 0 ∧ 0 ≤ n.toInt ∧ n.toInt ≤ 6) ∨ (a.toInt = 0 ∧ 0 ≤ n.toInt ∧ n.toInt ≤ 364)) ∧ v_gifts.toInt < 40) ∧ (-1 : Int32).toInt = -1 ∧ v_gifts = v_gifts) from by first | exact Or.inl ⟨by omega, by omega, by omega⟩ | exact Or.inr ⟨by omega, by omega, rfl⟩) rfl (hP.sub [0, 1, 2, 3, 4] rfl) (hD.sub [0, 1, 2, 3, 4] (by decide +kernel) rfl) hS dX12_gift_30
    · have tc_3 := t_neq c_3
      refine lv_aload_n hx hb dX12_gift_20 rfl (lv_at hl 0 rfl) ?_
      refine va_get (D := D) (ci := 11) (v := .int v_gifts) (C := RX12) (T := TX12) (N := 54) hx hb hts in_N_gift_X12 hown hK.1 hP 0 rfl rfl 4 (by decide) lk0 (fun _ h9 => h9) rfl dX12_gift_21 ?_
      refine lv_bipush (v := 40) hx hb dX12_gift_24 (by decide) ?_
      refine lv_icmp_ne (tgt := 31) hx hb dX12_gift_26 (by decide) (fun c_4 => ?_) (fun c_4 => ?_)
      · have tc_4 := t_neq c_4
        refine lv_aload_n hx hb dX12_gift_31 rfl (lv_at hl 0 rfl) ?_
        refine va_get (D := D) (ci := 11) (v := .ref a_isWeekly) (C := RX12) (T := TX12) (N := 54) hx hb hts in_N_gift_X12 hown hK.1 hP 0 rfl rfl 18 (by decide) lk1 (fun _ h9 => h9) rfl dX12_gift_32 ?_
        refine lv_aload_n hx hb dX12_gift_35 rfl (lv_at hl 0 rfl) ?_
        refine va_get (D := D) (ci := 11) (v := .int v_gifts) (C := RX12) (T := TX12) (N := 54) hx hb hts in_N_gift_X12 hown hK.1 hP 0 rfl rfl 4 (by decide) lk0 (fun _ h9 => h9) rfl dX12_gift_36 ?_
        refine lv_iload_n hx hb dX12_gift_39 rfl (lv_at hl 1 rfl) ?_
        refine va_zast hx hb hK.1 hP hD hS 1 1 rfl rfl (t_in (by omega) (by omega)) dX12_gift_40 (fun H locs hP hD hS => ?_)
        obtain ⟨g_5, eg_5⟩ : ∃ z : Nat → Int32, z = upd f_isWeekly ((v_gifts : Int32).toNatClampNeg) (vp_nar .boolean a) := ⟨_, rfl⟩
        rw [← eg_5] at hP hD
        have hP : va_P D vwCl [(h, .inr (11, [.int v_today, .int v_monks, .int v_aways, .int v_feasts, .int v_gifts, .int v_leaves, .int v_lates, .int v_store, .int v_allCandles, .ref a_isPriest, .ref a_bars, .ref a_joined, .ref a_turns, .ref a_awayMonk, .ref a_awayFrom, .ref a_awayTo, .ref a_feastDay, .ref a_rank, .ref a_isWeekly, .ref a_isDouble, .ref a_giftDay, .ref a_giftFrom, .ref a_owed, .ref a_said, .ref a_spared, .ref a_leaveGift, .ref a_leaveFrom, .ref a_leaveTo, .ref a_lateDay, .ref a_lateOffice, .ref a_lateBy, .ref a_guests, .ref a_who, .ref a_used, .ref a_lacks, .ref a_candles, .ref a_masses, .ref a_owing, .ref a_heldOn, .ref a_waits, .ref a_tape, .ref a_text, .int v_taped, .int v_size, .int v_at, .int v_fault, .int v_rules, .ref a_statements, .ref a_taken, .ref a_sort, .ref a_first, .ref a_second, .int v_wordEnd, .int v_number])), (a_isWeekly, .inl (cZ, 40, .inl g_5)), (a_isDouble, .inl (cZ, 40, .inl f_isDouble)), (a_giftDay, .inl (cI, 40, .inl f_giftDay)), (a_giftFrom, .inl (cI, 40, .inl f_giftFrom))] H := hP
        have hD := asD hP hD
        refine lv_aload_n hx hb dX12_gift_41 rfl (lv_at hl 0 rfl) ?_
        refine va_get (D := D) (ci := 11) (v := .ref a_giftDay) (C := RX12) (T := TX12) (N := 54) hx hb hts in_N_gift_X12 hown hK.1 hP 0 rfl rfl 20 (by decide) lk2 (fun _ h9 => h9) rfl dX12_gift_42 ?_
        refine lv_aload_n hx hb dX12_gift_45 rfl (lv_at hl 0 rfl) ?_
        refine va_get (D := D) (ci := 11) (v := .int v_gifts) (C := RX12) (T := TX12) (N := 54) hx hb hts in_N_gift_X12 hown hK.1 hP 0 rfl rfl 4 (by decide) lk0 (fun _ h9 => h9) rfl dX12_gift_46 ?_
        refine lv_iload_n hx hb dX12_gift_49 rfl (lv_at hl 2 rfl) ?_
        refine va_iast hx hb hK.1 hP hD hS 3 0 rfl rfl (t_in (by omega) (by omega)) dX12_gift_50 (fun H locs hP hD hS => ?_)
        obtain ⟨g_6, eg_6⟩ : ∃ z : Nat → Int32, z = upd f_giftDay ((v_gifts : Int32).toNatClampNeg) n := ⟨_, rfl⟩
        rw [← eg_6] at hP hD
        have hP : va_P D vwCl [(h, .inr (11, [.int v_today, .int v_monks, .int v_aways, .int v_feasts, .int v_gifts, .int v_leaves, .int v_lates, .int v_store, .int v_allCandles, .ref a_isPriest, .ref a_bars, .ref a_joined, .ref a_turns, .ref a_awayMonk, .ref a_awayFrom, .ref a_awayTo, .ref a_feastDay, .ref a_rank, .ref a_isWeekly, .ref a_isDouble, .ref a_giftDay, .ref a_giftFrom, .ref a_owed, .ref a_said, .ref a_spared, .ref a_leaveGift, .ref a_leaveFrom, .ref a_leaveTo, .ref a_lateDay, .ref a_lateOffice, .ref a_lateBy, .ref a_guests, .ref a_who, .ref a_used, .ref a_lacks, .ref a_candles, .ref a_masses, .ref a_owing, .ref a_heldOn, .ref a_waits, .ref a_tape, .ref a_text, .int v_taped, .int v_size, .int v_at, .int v_fault, .int v_rules, .ref a_statements, .ref a_taken, .ref a_sort, .ref a_first, .ref a_second, .int v_wordEnd, .int v_number])), (a_isWeekly, .inl (cZ, 40, .inl g_5)), (a_isDouble, .inl (cZ, 40, .inl f_isDouble)), (a_giftDay, .inl (cI, 40, .inl g_6)), (a_giftFrom, .inl (cI, 40, .inl f_giftFrom))] H := hP
        have hD := asD hP hD
        refine lv_aload_n hx hb dX12_gift_51 rfl (lv_at hl 0 rfl) ?_
        refine va_get (D := D) (ci := 11) (v := .ref a_isDouble) (C := RX12) (T := TX12) (N := 54) hx hb hts in_N_gift_X12 hown hK.1 hP 0 rfl rfl 19 (by decide) lk3 (fun _ h9 => h9) rfl dX12_gift_52 ?_
        refine lv_aload_n hx hb dX12_gift_55 rfl (lv_at hl 0 rfl) ?_
        refine va_get (D := D) (ci := 11) (v := .int v_gifts) (C := RX12) (T := TX12) (N := 54) hx hb hts in_N_gift_X12 hown hK.1 hP 0 rfl rfl 4 (by decide) lk0 (fun _ h9 => h9) rfl dX12_gift_56 ?_
        refine lv_iload_n hx hb dX12_gift_59 rfl (lv_at hl 3 rfl) ?_
        refine va_zast hx hb hK.1 hP hD hS 2 1 rfl rfl (t_in (by omega) (by omega)) dX12_gift_60 (fun H locs hP hD hS => ?_)
        obtain ⟨g_7, eg_7⟩ : ∃ z : Nat → Int32, z = upd f_isDouble ((v_gifts : Int32).toNatClampNeg) (vp_nar .boolean b) := ⟨_, rfl⟩
        rw [← eg_7] at hP hD
        have hP : va_P D vwCl [(h, .inr (11, [.int v_today, .int v_monks, .int v_aways, .int v_feasts, .int v_gifts, .int v_leaves, .int v_lates, .int v_store, .int v_allCandles, .ref a_isPriest, .ref a_bars, .ref a_joined, .ref a_turns, .ref a_awayMonk, .ref a_awayFrom, .ref a_awayTo, .ref a_feastDay, .ref a_rank, .ref a_isWeekly, .ref a_isDouble, .ref a_giftDay, .ref a_giftFrom, .ref a_owed, .ref a_said, .ref a_spared, .ref a_leaveGift, .ref a_leaveFrom, .ref a_leaveTo, .ref a_lateDay, .ref a_lateOffice, .ref a_lateBy, .ref a_guests, .ref a_who, .ref a_used, .ref a_lacks, .ref a_candles, .ref a_masses, .ref a_owing, .ref a_heldOn, .ref a_waits, .ref a_tape, .ref a_text, .int v_taped, .int v_size, .int v_at, .int v_fault, .int v_rules, .ref a_statements, .ref a_taken, .ref a_sort, .ref a_first, .ref a_second, .int v_wordEnd, .int v_number])), (a_isWeekly, .inl (cZ, 40, .inl g_5)), (a_isDouble, .inl (cZ, 40, .inl g_7)), (a_giftDay, .inl (cI, 40, .inl g_6)), (a_giftFrom, .inl (cI, 40, .inl f_giftFrom))] H := hP
        have hD := asD hP hD
        refine lv_aload_n hx hb dX12_gift_61 rfl (lv_at hl 0 rfl) ?_
        refine va_get (D := D) (ci := 11) (v := .ref a_giftFrom) (C := RX12) (T := TX12) (N := 54) hx hb hts in_N_gift_X12 hown hK.1 hP 0 rfl rfl 21 (by decide) lk4 (fun _ h9 => h9) rfl dX12_gift_62 ?_
        refine lv_aload_n hx hb dX12_gift_65 rfl (lv_at hl 0 rfl) ?_
        refine va_get (D := D) (ci := 11) (v := .int v_gifts) (C := RX12) (T := TX12) (N := 54) hx hb hts in_N_gift_X12 hown hK.1 hP 0 rfl rfl 4 (by decide) lk0 (fun _ h9 => h9) rfl dX12_gift_66 ?_
        refine lv_aload_n hx hb dX12_gift_69 rfl (lv_at hl 0 rfl) ?_
        refine va_get (D := D) (ci := 11) (v := .int v_today) (C := RX12) (T := TX12) (N := 54) hx hb hts in_N_gift_X12 hown hK.1 hP 0 rfl rfl 0 (by decide) lk5 (fun _ h9 => h9) rfl dX12_gift_70 ?_
        refine va_iast hx hb hK.1 hP hD hS 4 0 rfl rfl (t_in (by omega) (by omega)) dX12_gift_73 (fun H locs hP hD hS => ?_)
        obtain ⟨g_8, eg_8⟩ : ∃ z : Nat → Int32, z = upd f_giftFrom ((v_gifts : Int32).toNatClampNeg) v_today := ⟨_, rfl⟩
        rw [← eg_8] at hP hD
        have hP : va_P D vwCl [(h, .inr (11, [.int v_today, .int v_monks, .int v_aways, .int v_feasts, .int v_gifts, .int v_leaves, .int v_lates, .int v_store, .int v_allCandles, .ref a_isPriest, .ref a_bars, .ref a_joined, .ref a_turns, .ref a_awayMonk, .ref a_awayFrom, .ref a_awayTo, .ref a_feastDay, .ref a_rank, .ref a_isWeekly, .ref a_isDouble, .ref a_giftDay, .ref a_giftFrom, .ref a_owed, .ref a_said, .ref a_spared, .ref a_leaveGift, .ref a_leaveFrom, .ref a_leaveTo, .ref a_lateDay, .ref a_lateOffice, .ref a_lateBy, .ref a_guests, .ref a_who, .ref a_used, .ref a_lacks, .ref a_candles, .ref a_masses, .ref a_owing, .ref a_heldOn, .ref a_waits, .ref a_tape, .ref a_text, .int v_taped, .int v_size, .int v_at, .int v_fault, .int v_rules, .ref a_statements, .ref a_taken, .ref a_sort, .ref a_first, .ref a_second, .int v_wordEnd, .int v_number])), (a_isWeekly, .inl (cZ, 40, .inl g_5)), (a_isDouble, .inl (cZ, 40, .inl g_7)), (a_giftDay, .inl (cI, 40, .inl g_6)), (a_giftFrom, .inl (cI, 40, .inl g_8))] H := hP
        have hD := asD hP hD
        refine lv_aload_n hx hb dX12_gift_74 rfl (lv_at hl 0 rfl) ?_
        refine lv_dup hx hb dX12_gift_75 rfl ?_
        refine va_get (D := D) (ci := 11) (v := .int v_gifts) (C := RX12) (T := TX12) (N := 54) hx hb hts in_N_gift_X12 hown hK.1 hP 0 rfl rfl 4 (by decide) lk0 (fun _ h9 => h9) rfl dX12_gift_76 ?_
        refine lv_iconst (v := 1) hx hb dX12_gift_79 (by decide) ?_
        refine lv_iadd hx hb dX12_gift_80 ?_
        refine lv_topi (fun x_9 ex_9 => ?_)
        first | have tx_9 := t_add ex_9 (by omega) (by omega) | skip
        refine va_put (D := D) (ci := 11) (v := .int x_9) (ty := .int) (C := RX12) (T := TX12) (N := 54) hx hb hts in_N_gift_X12 tyX12 tyX12_ok nmX12 hown hK.1 hP hD hS 0 rfl rfl 4 (by decide) lk0 (fun _ h9 => h9) rfl (by decide +kernel) rfl rfl (Nat.le_of_ble_eq_true rfl) dX12_gift_81 (fun H locs hP hD hS => ?_)
        have hP : va_P D vwCl [(h, .inr (11, [.int v_today, .int v_monks, .int v_aways, .int v_feasts, .int x_9, .int v_leaves, .int v_lates, .int v_store, .int v_allCandles, .ref a_isPriest, .ref a_bars, .ref a_joined, .ref a_turns, .ref a_awayMonk, .ref a_awayFrom, .ref a_awayTo, .ref a_feastDay, .ref a_rank, .ref a_isWeekly, .ref a_isDouble, .ref a_giftDay, .ref a_giftFrom, .ref a_owed, .ref a_said, .ref a_spared, .ref a_leaveGift, .ref a_leaveFrom, .ref a_leaveTo, .ref a_lateDay, .ref a_lateOffice, .ref a_lateBy, .ref a_guests, .ref a_who, .ref a_used, .ref a_lacks, .ref a_candles, .ref a_masses, .ref a_owing, .ref a_heldOn, .ref a_waits, .ref a_tape, .ref a_text, .int v_taped, .int v_size, .int v_at, .int v_fault, .int v_rules, .ref a_statements, .ref a_taken, .ref a_sort, .ref a_first, .ref a_second, .int v_wordEnd, .int v_number])), (a_isWeekly, .inl (cZ, 40, .inl g_5)), (a_isDouble, .inl (cZ, 40, .inl g_7)), (a_giftDay, .inl (cI, 40, .inl g_6)), (a_giftFrom, .inl (cI, 40, .inl g_8))] H := hP
        have hD := asD hP hD
        refine lv_aload_n hx hb dX12_gift_84 rfl (lv_at hl 0 rfl) ?_
        refine va_get (D := D) (ci := 11) (v := .int x_9) (C := RX12) (T := TX12) (N := 54) hx hb hts in_N_gift_X12 hown hK.1 hP 0 rfl rfl 4 (by decide) lk0 (fun _ h9 => h9) rfl dX12_gift_85 ?_
        refine lv_iconst (v := 1) hx hb dX12_gift_88 (by decide) ?_
        refine lv_isub hx hb dX12_gift_89 ?_
        refine lv_topi (fun x_10 ex_10 => ?_)
        first | have tx_10 := t_sub ex_10 (by omega) (by omega) | skip
        exact hret x_10 (x_9, g_5, g_6, g_7, g_8) _ _ _ _ (show ((((a.toInt ≠ 0 ∧ 0 ≤ n.toInt ∧ n.toInt ≤ 6) ∨ (a.toInt = 0 ∧ 0 ≤ n.toInt ∧ n.toInt ≤ 364)) ∧ v_gifts.toInt < 40) ∧ x_10.toInt = v_gifts.toInt ∧ x_9.toInt = v_gifts.toInt + 1) ∨ (¬ (((a.toInt ≠ 0 ∧ 0 ≤ n.toInt ∧ n.toInt ≤ 6) ∨ (a.toInt = 0 ∧ 0 ≤ n.toInt ∧ n.toInt ≤ 364)) ∧ v_gifts.toInt < 40) ∧ x_10.toInt = -1 ∧ x_9 = v_gifts) from by first | exact Or.inl ⟨by omega, by omega, by omega⟩ | exact Or.inr ⟨by omega, by omega, rfl⟩) rfl (hP.sub [0, 1, 2, 3, 4] rfl) (hD.sub [0, 1, 2, 3, 4] (by decide +kernel) rfl) hS dX12_gift_90
      · have tc_4 := t_eq c_4
        refine lv_iconst (v := (-1)) hx hb dX12_gift_29 (by decide) ?_
        exact hret (-1) (v_gifts, f_isWeekly, f_giftDay, f_isDouble, f_giftFrom) _ _ _ _ (show ((((a.toInt ≠ 0 ∧ 0 ≤ n.toInt ∧ n.toInt ≤ 6) ∨ (a.toInt = 0 ∧ 0 ≤ n.toInt ∧ n.toInt ≤ 364)) ∧ v_gifts.toInt < 40) ∧ (-1 : Int32).toInt = v_gifts.toInt ∧ v_gifts.toInt = v_gifts.toInt + 1) ∨ (¬ (((a.toInt ≠ 0 ∧ 0 ≤ n.toInt ∧ n.toInt ≤ 6) ∨ (a.toInt = 0 ∧ 0 ≤ n.toInt ∧ n.toInt ≤ 364)) ∧ v_gifts.toInt < 40) ∧ (-1 : Int32).toInt = -1 ∧ v_gifts = v_gifts) from by first | exact Or.inl ⟨by omega, by omega, by omega⟩ | exact Or.inr ⟨by omega, by omega, rfl⟩) rfl (hP.sub [0, 1, 2, 3, 4] rfl) (hD.sub [0, 1, 2, 3, 4] (by decide +kernel) rfl) hS dX12_gift_30
  · have tc_1 := t_neq c_1
    refine lv_bipush (v := 6) hx hb dX12_gift_6 (by decide) ?_
    refine lv_goto (tgt := 14) hx hb dX12_gift_8 (by decide) ?_
    have hPc := hP.sub (ws' := []) [] rfl
    refine roS (As := [.int n, .int 0, .int 6]) (rest := []) S (m_isIn  ) (va_cwS 3 hts gX12_gift_X12_isIn rfl rfl rfl hd_X12_isIn ⟨Nat.le_of_ble_eq_true rfl, Nat.le_of_ble_eq_true rfl⟩) hK hPc rfl hl.1 rfl (Nat.le_of_ble_eq_true rfl) dX12_gift_14 ⟨Nat.le_of_ble_eq_true rfl, Nat.le_of_ble_eq_true rfl⟩ (fun r_11 hw_11 => ?_)
    have hw_11 : (r_11.toInt = 1 ∧ (0 : Int32).toInt ≤ n.toInt ∧ n.toInt ≤ (6 : Int32).toInt) ∨ (r_11.toInt = 0 ∧ (n.toInt < (0 : Int32).toInt ∨ (6 : Int32).toInt < n.toInt)) := hw_11
    refine lv_if_eq (tgt := 29) hx hb dX12_gift_17 (by decide) (fun c_12 => ?_) (fun c_12 => ?_)
    · have tc_12 := t_eq c_12
      refine lv_iconst (v := (-1)) hx hb dX12_gift_29 (by decide) ?_
      exact hret (-1) (v_gifts, f_isWeekly, f_giftDay, f_isDouble, f_giftFrom) _ _ _ _ (show ((((a.toInt ≠ 0 ∧ 0 ≤ n.toInt ∧ n.toInt ≤ 6) ∨ (a.toInt = 0 ∧ 0 ≤ n.toInt ∧ n.toInt ≤ 364)) ∧ v_gifts.toInt < 40) ∧ (-1 : Int32).toInt = v_gifts.toInt ∧ v_gifts.toInt = v_gifts.toInt + 1) ∨ (¬ (((a.toInt ≠ 0 ∧ 0 ≤ n.toInt ∧ n.toInt ≤ 6) ∨ (a.toInt = 0 ∧ 0 ≤ n.toInt ∧ n.toInt ≤ 364)) ∧ v_gifts.toInt < 40) ∧ (-1 : Int32).toInt = -1 ∧ v_gifts = v_gifts) from by first | exact Or.inl ⟨by omega, by omega, by omega⟩ | exact Or.inr ⟨by omega, by omega, rfl⟩) rfl (hP.sub [0, 1, 2, 3, 4] rfl) (hD.sub [0, 1, 2, 3, 4] (by decide +kernel) rfl) hS dX12_gift_30
    · have tc_12 := t_neq c_12
      refine lv_aload_n hx hb dX12_gift_20 rfl (lv_at hl 0 rfl) ?_
      refine va_get (D := D) (ci := 11) (v := .int v_gifts) (C := RX12) (T := TX12) (N := 54) hx hb hts in_N_gift_X12 hown hK.1 hP 0 rfl rfl 4 (by decide) lk0 (fun _ h9 => h9) rfl dX12_gift_21 ?_
      refine lv_bipush (v := 40) hx hb dX12_gift_24 (by decide) ?_
      refine lv_icmp_ne (tgt := 31) hx hb dX12_gift_26 (by decide) (fun c_13 => ?_) (fun c_13 => ?_)
      · have tc_13 := t_neq c_13
        refine lv_aload_n hx hb dX12_gift_31 rfl (lv_at hl 0 rfl) ?_
        refine va_get (D := D) (ci := 11) (v := .ref a_isWeekly) (C := RX12) (T := TX12) (N := 54) hx hb hts in_N_gift_X12 hown hK.1 hP 0 rfl rfl 18 (by decide) lk1 (fun _ h9 => h9) rfl dX12_gift_32 ?_
        refine lv_aload_n hx hb dX12_gift_35 rfl (lv_at hl 0 rfl) ?_
        refine va_get (D := D) (ci := 11) (v := .int v_gifts) (C := RX12) (T := TX12) (N := 54) hx hb hts in_N_gift_X12 hown hK.1 hP 0 rfl rfl 4 (by decide) lk0 (fun _ h9 => h9) rfl dX12_gift_36 ?_
        refine lv_iload_n hx hb dX12_gift_39 rfl (lv_at hl 1 rfl) ?_
        refine va_zast hx hb hK.1 hP hD hS 1 1 rfl rfl (t_in (by omega) (by omega)) dX12_gift_40 (fun H locs hP hD hS => ?_)
        obtain ⟨g_14, eg_14⟩ : ∃ z : Nat → Int32, z = upd f_isWeekly ((v_gifts : Int32).toNatClampNeg) (vp_nar .boolean a) := ⟨_, rfl⟩
        rw [← eg_14] at hP hD
        have hP : va_P D vwCl [(h, .inr (11, [.int v_today, .int v_monks, .int v_aways, .int v_feasts, .int v_gifts, .int v_leaves, .int v_lates, .int v_store, .int v_allCandles, .ref a_isPriest, .ref a_bars, .ref a_joined, .ref a_turns, .ref a_awayMonk, .ref a_awayFrom, .ref a_awayTo, .ref a_feastDay, .ref a_rank, .ref a_isWeekly, .ref a_isDouble, .ref a_giftDay, .ref a_giftFrom, .ref a_owed, .ref a_said, .ref a_spared, .ref a_leaveGift, .ref a_leaveFrom, .ref a_leaveTo, .ref a_lateDay, .ref a_lateOffice, .ref a_lateBy, .ref a_guests, .ref a_who, .ref a_used, .ref a_lacks, .ref a_candles, .ref a_masses, .ref a_owing, .ref a_heldOn, .ref a_waits, .ref a_tape, .ref a_text, .int v_taped, .int v_size, .int v_at, .int v_fault, .int v_rules, .ref a_statements, .ref a_taken, .ref a_sort, .ref a_first, .ref a_second, .int v_wordEnd, .int v_number])), (a_isWeekly, .inl (cZ, 40, .inl g_14)), (a_isDouble, .inl (cZ, 40, .inl f_isDouble)), (a_giftDay, .inl (cI, 40, .inl f_giftDay)), (a_giftFrom, .inl (cI, 40, .inl f_giftFrom))] H := hP
        have hD := asD hP hD
        refine lv_aload_n hx hb dX12_gift_41 rfl (lv_at hl 0 rfl) ?_
        refine va_get (D := D) (ci := 11) (v := .ref a_giftDay) (C := RX12) (T := TX12) (N := 54) hx hb hts in_N_gift_X12 hown hK.1 hP 0 rfl rfl 20 (by decide) lk2 (fun _ h9 => h9) rfl dX12_gift_42 ?_
        refine lv_aload_n hx hb dX12_gift_45 rfl (lv_at hl 0 rfl) ?_
        refine va_get (D := D) (ci := 11) (v := .int v_gifts) (C := RX12) (T := TX12) (N := 54) hx hb hts in_N_gift_X12 hown hK.1 hP 0 rfl rfl 4 (by decide) lk0 (fun _ h9 => h9) rfl dX12_gift_46 ?_
        refine lv_iload_n hx hb dX12_gift_49 rfl (lv_at hl 2 rfl) ?_
        refine va_iast hx hb hK.1 hP hD hS 3 0 rfl rfl (t_in (by omega) (by omega)) dX12_gift_50 (fun H locs hP hD hS => ?_)
        obtain ⟨g_15, eg_15⟩ : ∃ z : Nat → Int32, z = upd f_giftDay ((v_gifts : Int32).toNatClampNeg) n := ⟨_, rfl⟩
        rw [← eg_15] at hP hD
        have hP : va_P D vwCl [(h, .inr (11, [.int v_today, .int v_monks, .int v_aways, .int v_feasts, .int v_gifts, .int v_leaves, .int v_lates, .int v_store, .int v_allCandles, .ref a_isPriest, .ref a_bars, .ref a_joined, .ref a_turns, .ref a_awayMonk, .ref a_awayFrom, .ref a_awayTo, .ref a_feastDay, .ref a_rank, .ref a_isWeekly, .ref a_isDouble, .ref a_giftDay, .ref a_giftFrom, .ref a_owed, .ref a_said, .ref a_spared, .ref a_leaveGift, .ref a_leaveFrom, .ref a_leaveTo, .ref a_lateDay, .ref a_lateOffice, .ref a_lateBy, .ref a_guests, .ref a_who, .ref a_used, .ref a_lacks, .ref a_candles, .ref a_masses, .ref a_owing, .ref a_heldOn, .ref a_waits, .ref a_tape, .ref a_text, .int v_taped, .int v_size, .int v_at, .int v_fault, .int v_rules, .ref a_statements, .ref a_taken, .ref a_sort, .ref a_first, .ref a_second, .int v_wordEnd, .int v_number])), (a_isWeekly, .inl (cZ, 40, .inl g_14)), (a_isDouble, .inl (cZ, 40, .inl f_isDouble)), (a_giftDay, .inl (cI, 40, .inl g_15)), (a_giftFrom, .inl (cI, 40, .inl f_giftFrom))] H := hP
        have hD := asD hP hD
        refine lv_aload_n hx hb dX12_gift_51 rfl (lv_at hl 0 rfl) ?_
        refine va_get (D := D) (ci := 11) (v := .ref a_isDouble) (C := RX12) (T := TX12) (N := 54) hx hb hts in_N_gift_X12 hown hK.1 hP 0 rfl rfl 19 (by decide) lk3 (fun _ h9 => h9) rfl dX12_gift_52 ?_
        refine lv_aload_n hx hb dX12_gift_55 rfl (lv_at hl 0 rfl) ?_
        refine va_get (D := D) (ci := 11) (v := .int v_gifts) (C := RX12) (T := TX12) (N := 54) hx hb hts in_N_gift_X12 hown hK.1 hP 0 rfl rfl 4 (by decide) lk0 (fun _ h9 => h9) rfl dX12_gift_56 ?_
        refine lv_iload_n hx hb dX12_gift_59 rfl (lv_at hl 3 rfl) ?_
        refine va_zast hx hb hK.1 hP hD hS 2 1 rfl rfl (t_in (by omega) (by omega)) dX12_gift_60 (fun H locs hP hD hS => ?_)
        obtain ⟨g_16, eg_16⟩ : ∃ z : Nat → Int32, z = upd f_isDouble ((v_gifts : Int32).toNatClampNeg) (vp_nar .boolean b) := ⟨_, rfl⟩
        rw [← eg_16] at hP hD
        have hP : va_P D vwCl [(h, .inr (11, [.int v_today, .int v_monks, .int v_aways, .int v_feasts, .int v_gifts, .int v_leaves, .int v_lates, .int v_store, .int v_allCandles, .ref a_isPriest, .ref a_bars, .ref a_joined, .ref a_turns, .ref a_awayMonk, .ref a_awayFrom, .ref a_awayTo, .ref a_feastDay, .ref a_rank, .ref a_isWeekly, .ref a_isDouble, .ref a_giftDay, .ref a_giftFrom, .ref a_owed, .ref a_said, .ref a_spared, .ref a_leaveGift, .ref a_leaveFrom, .ref a_leaveTo, .ref a_lateDay, .ref a_lateOffice, .ref a_lateBy, .ref a_guests, .ref a_who, .ref a_used, .ref a_lacks, .ref a_candles, .ref a_masses, .ref a_owing, .ref a_heldOn, .ref a_waits, .ref a_tape, .ref a_text, .int v_taped, .int v_size, .int v_at, .int v_fault, .int v_rules, .ref a_statements, .ref a_taken, .ref a_sort, .ref a_first, .ref a_second, .int v_wordEnd, .int v_number])), (a_isWeekly, .inl (cZ, 40, .inl g_14)), (a_isDouble, .inl (cZ, 40, .inl g_16)), (a_giftDay, .inl (cI, 40, .inl g_15)), (a_giftFrom, .inl (cI, 40, .inl f_giftFrom))] H := hP
        have hD := asD hP hD
        refine lv_aload_n hx hb dX12_gift_61 rfl (lv_at hl 0 rfl) ?_
        refine va_get (D := D) (ci := 11) (v := .ref a_giftFrom) (C := RX12) (T := TX12) (N := 54) hx hb hts in_N_gift_X12 hown hK.1 hP 0 rfl rfl 21 (by decide) lk4 (fun _ h9 => h9) rfl dX12_gift_62 ?_
        refine lv_aload_n hx hb dX12_gift_65 rfl (lv_at hl 0 rfl) ?_
        refine va_get (D := D) (ci := 11) (v := .int v_gifts) (C := RX12) (T := TX12) (N := 54) hx hb hts in_N_gift_X12 hown hK.1 hP 0 rfl rfl 4 (by decide) lk0 (fun _ h9 => h9) rfl dX12_gift_66 ?_
        refine lv_aload_n hx hb dX12_gift_69 rfl (lv_at hl 0 rfl) ?_
        refine va_get (D := D) (ci := 11) (v := .int v_today) (C := RX12) (T := TX12) (N := 54) hx hb hts in_N_gift_X12 hown hK.1 hP 0 rfl rfl 0 (by decide) lk5 (fun _ h9 => h9) rfl dX12_gift_70 ?_
        refine va_iast hx hb hK.1 hP hD hS 4 0 rfl rfl (t_in (by omega) (by omega)) dX12_gift_73 (fun H locs hP hD hS => ?_)
        obtain ⟨g_17, eg_17⟩ : ∃ z : Nat → Int32, z = upd f_giftFrom ((v_gifts : Int32).toNatClampNeg) v_today := ⟨_, rfl⟩
        rw [← eg_17] at hP hD
        have hP : va_P D vwCl [(h, .inr (11, [.int v_today, .int v_monks, .int v_aways, .int v_feasts, .int v_gifts, .int v_leaves, .int v_lates, .int v_store, .int v_allCandles, .ref a_isPriest, .ref a_bars, .ref a_joined, .ref a_turns, .ref a_awayMonk, .ref a_awayFrom, .ref a_awayTo, .ref a_feastDay, .ref a_rank, .ref a_isWeekly, .ref a_isDouble, .ref a_giftDay, .ref a_giftFrom, .ref a_owed, .ref a_said, .ref a_spared, .ref a_leaveGift, .ref a_leaveFrom, .ref a_leaveTo, .ref a_lateDay, .ref a_lateOffice, .ref a_lateBy, .ref a_guests, .ref a_who, .ref a_used, .ref a_lacks, .ref a_candles, .ref a_masses, .ref a_owing, .ref a_heldOn, .ref a_waits, .ref a_tape, .ref a_text, .int v_taped, .int v_size, .int v_at, .int v_fault, .int v_rules, .ref a_statements, .ref a_taken, .ref a_sort, .ref a_first, .ref a_second, .int v_wordEnd, .int v_number])), (a_isWeekly, .inl (cZ, 40, .inl g_14)), (a_isDouble, .inl (cZ, 40, .inl g_16)), (a_giftDay, .inl (cI, 40, .inl g_15)), (a_giftFrom, .inl (cI, 40, .inl g_17))] H := hP
        have hD := asD hP hD
        refine lv_aload_n hx hb dX12_gift_74 rfl (lv_at hl 0 rfl) ?_
        refine lv_dup hx hb dX12_gift_75 rfl ?_
        refine va_get (D := D) (ci := 11) (v := .int v_gifts) (C := RX12) (T := TX12) (N := 54) hx hb hts in_N_gift_X12 hown hK.1 hP 0 rfl rfl 4 (by decide) lk0 (fun _ h9 => h9) rfl dX12_gift_76 ?_
        refine lv_iconst (v := 1) hx hb dX12_gift_79 (by decide) ?_
        refine lv_iadd hx hb dX12_gift_80 ?_
        refine lv_topi (fun x_18 ex_18 => ?_)
        first | have tx_18 := t_add ex_18 (by omega) (by omega) | skip
        refine va_put (D := D) (ci := 11) (v := .int x_18) (ty := .int) (C := RX12) (T := TX12) (N := 54) hx hb hts in_N_gift_X12 tyX12 tyX12_ok nmX12 hown hK.1 hP hD hS 0 rfl rfl 4 (by decide) lk0 (fun _ h9 => h9) rfl (by decide +kernel) rfl rfl (Nat.le_of_ble_eq_true rfl) dX12_gift_81 (fun H locs hP hD hS => ?_)
        have hP : va_P D vwCl [(h, .inr (11, [.int v_today, .int v_monks, .int v_aways, .int v_feasts, .int x_18, .int v_leaves, .int v_lates, .int v_store, .int v_allCandles, .ref a_isPriest, .ref a_bars, .ref a_joined, .ref a_turns, .ref a_awayMonk, .ref a_awayFrom, .ref a_awayTo, .ref a_feastDay, .ref a_rank, .ref a_isWeekly, .ref a_isDouble, .ref a_giftDay, .ref a_giftFrom, .ref a_owed, .ref a_said, .ref a_spared, .ref a_leaveGift, .ref a_leaveFrom, .ref a_leaveTo, .ref a_lateDay, .ref a_lateOffice, .ref a_lateBy, .ref a_guests, .ref a_who, .ref a_used, .ref a_lacks, .ref a_candles, .ref a_masses, .ref a_owing, .ref a_heldOn, .ref a_waits, .ref a_tape, .ref a_text, .int v_taped, .int v_size, .int v_at, .int v_fault, .int v_rules, .ref a_statements, .ref a_taken, .ref a_sort, .ref a_first, .ref a_second, .int v_wordEnd, .int v_number])), (a_isWeekly, .inl (cZ, 40, .inl g_14)), (a_isDouble, .inl (cZ, 40, .inl g_16)), (a_giftDay, .inl (cI, 40, .inl g_15)), (a_giftFrom, .inl (cI, 40, .inl g_17))] H := hP
        have hD := asD hP hD
        refine lv_aload_n hx hb dX12_gift_84 rfl (lv_at hl 0 rfl) ?_
        refine va_get (D := D) (ci := 11) (v := .int x_18) (C := RX12) (T := TX12) (N := 54) hx hb hts in_N_gift_X12 hown hK.1 hP 0 rfl rfl 4 (by decide) lk0 (fun _ h9 => h9) rfl dX12_gift_85 ?_
        refine lv_iconst (v := 1) hx hb dX12_gift_88 (by decide) ?_
        refine lv_isub hx hb dX12_gift_89 ?_
        refine lv_topi (fun x_19 ex_19 => ?_)
        first | have tx_19 := t_sub ex_19 (by omega) (by omega) | skip
        exact hret x_19 (x_18, g_14, g_15, g_16, g_17) _ _ _ _ (show ((((a.toInt ≠ 0 ∧ 0 ≤ n.toInt ∧ n.toInt ≤ 6) ∨ (a.toInt = 0 ∧ 0 ≤ n.toInt ∧ n.toInt ≤ 364)) ∧ v_gifts.toInt < 40) ∧ x_19.toInt = v_gifts.toInt ∧ x_18.toInt = v_gifts.toInt + 1) ∨ (¬ (((a.toInt ≠ 0 ∧ 0 ≤ n.toInt ∧ n.toInt ≤ 6) ∨ (a.toInt = 0 ∧ 0 ≤ n.toInt ∧ n.toInt ≤ 364)) ∧ v_gifts.toInt < 40) ∧ x_19.toInt = -1 ∧ x_18 = v_gifts) from by first | exact Or.inl ⟨by omega, by omega, by omega⟩ | exact Or.inr ⟨by omega, by omega, rfl⟩) rfl (hP.sub [0, 1, 2, 3, 4] rfl) (hD.sub [0, 1, 2, 3, 4] (by decide +kernel) rfl) hS dX12_gift_90
      · have tc_13 := t_eq c_13
        refine lv_iconst (v := (-1)) hx hb dX12_gift_29 (by decide) ?_
        exact hret (-1) (v_gifts, f_isWeekly, f_giftDay, f_isDouble, f_giftFrom) _ _ _ _ (show ((((a.toInt ≠ 0 ∧ 0 ≤ n.toInt ∧ n.toInt ≤ 6) ∨ (a.toInt = 0 ∧ 0 ≤ n.toInt ∧ n.toInt ≤ 364)) ∧ v_gifts.toInt < 40) ∧ (-1 : Int32).toInt = v_gifts.toInt ∧ v_gifts.toInt = v_gifts.toInt + 1) ∨ (¬ (((a.toInt ≠ 0 ∧ 0 ≤ n.toInt ∧ n.toInt ≤ 6) ∨ (a.toInt = 0 ∧ 0 ≤ n.toInt ∧ n.toInt ≤ 364)) ∧ v_gifts.toInt < 40) ∧ (-1 : Int32).toInt = -1 ∧ v_gifts = v_gifts) from by first | exact Or.inl ⟨by omega, by omega, by omega⟩ | exact Or.inr ⟨by omega, by omega, rfl⟩) rfl (hP.sub [0, 1, 2, 3, 4] rfl) (hD.sub [0, 1, 2, 3, 4] (by decide +kernel) rfl) hS dX12_gift_30

theorem in_N_leave_X12 : ∀ w ∈ wsX120, w ∈ wsX12_leave := tl_X12_leave_X12
set_option maxHeartbeats 8000000 in
set_option maxRecDepth 100000 in
theorem N_leave {l : Launch} {D : va_G} {cI cZ cB : ClassId} {sz : Nat} {h a_isPriest a_bars a_joined a_turns a_awayMonk a_awayFrom a_awayTo a_feastDay a_rank a_isWeekly a_isDouble a_giftDay a_giftFrom a_owed a_said a_spared a_leaveGift a_leaveFrom a_leaveTo a_lateDay a_lateOffice a_lateBy a_guests a_who a_used a_lacks a_candles a_masses a_owing a_heldOn a_waits a_tape a_text a_statements a_taken a_sort a_first a_second : Nat} {v_today v_monks v_aways v_feasts v_gifts v_leaves v_lates v_store v_allCandles v_taped v_size v_at v_fault v_rules v_wordEnd v_number : Int32} {f_leaveGift f_leaveFrom f_leaveTo : Nat → Int32} {i a b : Int32} (h0_gifts : 0 ≤ v_gifts.toInt) (h1_gifts : v_gifts.toInt ≤ 40) (h0_leaves : 0 ≤ v_leaves.toInt) (h1_leaves : v_leaves.toInt ≤ 40) : Met l yX12_leave wsX12_leave ({ frames := 2, cells := 0, slots := 0, locals := 43 }) (RW D cI cZ cB [.ref h, .int i, .int a, .int b] sz [(h, .inr (11, [.int v_today, .int v_monks, .int v_aways, .int v_feasts, .int v_gifts, .int v_leaves, .int v_lates, .int v_store, .int v_allCandles, .ref a_isPriest, .ref a_bars, .ref a_joined, .ref a_turns, .ref a_awayMonk, .ref a_awayFrom, .ref a_awayTo, .ref a_feastDay, .ref a_rank, .ref a_isWeekly, .ref a_isDouble, .ref a_giftDay, .ref a_giftFrom, .ref a_owed, .ref a_said, .ref a_spared, .ref a_leaveGift, .ref a_leaveFrom, .ref a_leaveTo, .ref a_lateDay, .ref a_lateOffice, .ref a_lateBy, .ref a_guests, .ref a_who, .ref a_used, .ref a_lacks, .ref a_candles, .ref a_masses, .ref a_owing, .ref a_heldOn, .ref a_waits, .ref a_tape, .ref a_text, .int v_taped, .int v_size, .int v_at, .int v_fault, .int v_rules, .ref a_statements, .ref a_taken, .ref a_sort, .ref a_first, .ref a_second, .int v_wordEnd, .int v_number])), (a_leaveGift, .inl (cI, 40, .inl f_leaveGift)), (a_leaveFrom, .inl (cI, 40, .inl f_leaveFrom)), (a_leaveTo, .inl (cI, 40, .inl f_leaveTo))]) (va_Qi (fun (r : Int32) (u : Int32 × (Nat → Int32) × (Nat → Int32) × (Nat → Int32)) => (((0 ≤ i.toInt ∧ i.toInt < v_gifts.toInt ∧ 0 ≤ a.toInt ∧ a.toInt ≤ b.toInt ∧ b.toInt ≤ 1094) ∧ v_leaves.toInt < 40) ∧ r.toInt = v_leaves.toInt + 1 ∧ u.1.toInt = v_leaves.toInt + 1) ∨ (¬ ((0 ≤ i.toInt ∧ i.toInt < v_gifts.toInt ∧ 0 ≤ a.toInt ∧ a.toInt ≤ b.toInt ∧ b.toInt ≤ 1094) ∧ v_leaves.toInt < 40) ∧ r.toInt = -1 ∧ u.1 = v_leaves)) (BW D [(h, .inr (11, [.int v_today, .int v_monks, .int v_aways, .int v_feasts, .int v_gifts, .int v_leaves, .int v_lates, .int v_store, .int v_allCandles, .ref a_isPriest, .ref a_bars, .ref a_joined, .ref a_turns, .ref a_awayMonk, .ref a_awayFrom, .ref a_awayTo, .ref a_feastDay, .ref a_rank, .ref a_isWeekly, .ref a_isDouble, .ref a_giftDay, .ref a_giftFrom, .ref a_owed, .ref a_said, .ref a_spared, .ref a_leaveGift, .ref a_leaveFrom, .ref a_leaveTo, .ref a_lateDay, .ref a_lateOffice, .ref a_lateBy, .ref a_guests, .ref a_who, .ref a_used, .ref a_lacks, .ref a_candles, .ref a_masses, .ref a_owing, .ref a_heldOn, .ref a_waits, .ref a_tape, .ref a_text, .int v_taped, .int v_size, .int v_at, .int v_fault, .int v_rules, .ref a_statements, .ref a_taken, .ref a_sort, .ref a_first, .ref a_second, .int v_wordEnd, .int v_number])), (a_leaveGift, .inl (cI, 40, .inl f_leaveGift)), (a_leaveFrom, .inl (cI, 40, .inl f_leaveFrom)), (a_leaveTo, .inl (cI, 40, .inl f_leaveTo))] sz (fun u : Int32 × (Nat → Int32) × (Nat → Int32) × (Nat → Int32) => [(h, .inr (11, [.int v_today, .int v_monks, .int v_aways, .int v_feasts, .int v_gifts, .int u.1, .int v_lates, .int v_store, .int v_allCandles, .ref a_isPriest, .ref a_bars, .ref a_joined, .ref a_turns, .ref a_awayMonk, .ref a_awayFrom, .ref a_awayTo, .ref a_feastDay, .ref a_rank, .ref a_isWeekly, .ref a_isDouble, .ref a_giftDay, .ref a_giftFrom, .ref a_owed, .ref a_said, .ref a_spared, .ref a_leaveGift, .ref a_leaveFrom, .ref a_leaveTo, .ref a_lateDay, .ref a_lateOffice, .ref a_lateBy, .ref a_guests, .ref a_who, .ref a_used, .ref a_lacks, .ref a_candles, .ref a_masses, .ref a_owing, .ref a_heldOn, .ref a_waits, .ref a_tape, .ref a_text, .int v_taped, .int v_size, .int v_at, .int v_fault, .int v_rules, .ref a_statements, .ref a_taken, .ref a_sort, .ref a_first, .ref a_second, .int v_wordEnd, .int v_number])), (a_leaveGift, .inl (cI, 40, .inl u.2.1)), (a_leaveFrom, .inl (cI, 40, .inl u.2.2.1)), (a_leaveTo, .inl (cI, 40, .inl u.2.2.2))])) (va_A [(h, .inr (11, [.int v_today, .int v_monks, .int v_aways, .int v_feasts, .int v_gifts, .int v_leaves, .int v_lates, .int v_store, .int v_allCandles, .ref a_isPriest, .ref a_bars, .ref a_joined, .ref a_turns, .ref a_awayMonk, .ref a_awayFrom, .ref a_awayTo, .ref a_feastDay, .ref a_rank, .ref a_isWeekly, .ref a_isDouble, .ref a_giftDay, .ref a_giftFrom, .ref a_owed, .ref a_said, .ref a_spared, .ref a_leaveGift, .ref a_leaveFrom, .ref a_leaveTo, .ref a_lateDay, .ref a_lateOffice, .ref a_lateBy, .ref a_guests, .ref a_who, .ref a_used, .ref a_lacks, .ref a_candles, .ref a_masses, .ref a_owing, .ref a_heldOn, .ref a_waits, .ref a_tape, .ref a_text, .int v_taped, .int v_size, .int v_at, .int v_fault, .int v_rules, .ref a_statements, .ref a_taken, .ref a_sort, .ref a_first, .ref a_second, .int v_wordEnd, .int v_number])), (a_leaveGift, .inl (cI, 40, .inl f_leaveGift)), (a_leaveFrom, .inl (cI, 40, .inl f_leaveFrom)), (a_leaveTo, .inl (cI, 40, .inl f_leaveTo))] sz)) 0 0 (va_A [(h, .inr (11, [.int v_today, .int v_monks, .int v_aways, .int v_feasts, .int v_gifts, .int v_leaves, .int v_lates, .int v_store, .int v_allCandles, .ref a_isPriest, .ref a_bars, .ref a_joined, .ref a_turns, .ref a_awayMonk, .ref a_awayFrom, .ref a_awayTo, .ref a_feastDay, .ref a_rank, .ref a_isWeekly, .ref a_isDouble, .ref a_giftDay, .ref a_giftFrom, .ref a_owed, .ref a_said, .ref a_spared, .ref a_leaveGift, .ref a_leaveFrom, .ref a_leaveTo, .ref a_lateDay, .ref a_lateOffice, .ref a_lateBy, .ref a_guests, .ref a_who, .ref a_used, .ref a_lacks, .ref a_candles, .ref a_masses, .ref a_owing, .ref a_heldOn, .ref a_waits, .ref a_tape, .ref a_text, .int v_taped, .int v_size, .int v_at, .int v_fault, .int v_rules, .ref a_statements, .ref a_taken, .ref a_sort, .ref a_first, .ref a_second, .int v_wordEnd, .int v_number])), (a_leaveGift, .inl (cI, 40, .inl f_leaveGift)), (a_leaveFrom, .inl (cI, 40, .inl f_leaveFrom)), (a_leaveTo, .inl (cI, 40, .inl f_leaveTo))] sz) := by
  refine rw_ret (cc := cX12_leave) (maxL := 4) (ty := .int) (own := RX12) (by decide) rfl rfl (Nat.le_of_ble_eq_true rfl) ?_
  intro p e s m args below meth c Q A S hin hret hP hK hD hA hS ls hl
  obtain ⟨hx, hb, hml, hown, hts⟩ := id S
  have hl : lv_has ls 4 [(0, .ref h), (1, .int i), (2, .int a), (3, .int b)] := hl
  have kkm1 : (-1 : Int32).toInt = -1 := by decide
  have kk0 : (0 : Int32).toInt = 0 := by decide
  have kk1 : (1 : Int32).toInt = 1 := by decide
  have kk40 : (40 : Int32).toInt = 40 := by decide
  have lk0 := hts (.fieldLink RX12 261 "AbbeyHoursModel" "leaves" "I") (List.mem_cons_of_mem _ (List.mem_append_left _ (List.mem_of_getElem? (i := 0) rfl)))
  have lk1 := hts (.fieldLink RX12 59 "AbbeyHoursModel" "leaveGift" "[I") (List.mem_cons_of_mem _ (List.mem_append_left _ (List.mem_of_getElem? (i := 1) rfl)))
  have lk2 := hts (.fieldLink RX12 62 "AbbeyHoursModel" "leaveFrom" "[I") (List.mem_cons_of_mem _ (List.mem_append_left _ (List.mem_of_getElem? (i := 2) rfl)))
  have lk3 := hts (.fieldLink RX12 65 "AbbeyHoursModel" "leaveTo" "[I") (List.mem_cons_of_mem _ (List.mem_append_left _ (List.mem_of_getElem? (i := 3) rfl)))
  refine lv_aload_n hx hb dX12_leave_0 rfl (lv_at hl 0 rfl) ?_
  refine lv_iload_n hx hb dX12_leave_1 rfl (lv_at hl 1 rfl) ?_
  have hPc := hP.sub (ws' := [(h, .inr (11, [.int v_today, .int v_monks, .int v_aways, .int v_feasts, .int v_gifts, .int v_leaves, .int v_lates, .int v_store, .int v_allCandles, .ref a_isPriest, .ref a_bars, .ref a_joined, .ref a_turns, .ref a_awayMonk, .ref a_awayFrom, .ref a_awayTo, .ref a_feastDay, .ref a_rank, .ref a_isWeekly, .ref a_isDouble, .ref a_giftDay, .ref a_giftFrom, .ref a_owed, .ref a_said, .ref a_spared, .ref a_leaveGift, .ref a_leaveFrom, .ref a_leaveTo, .ref a_lateDay, .ref a_lateOffice, .ref a_lateBy, .ref a_guests, .ref a_who, .ref a_used, .ref a_lacks, .ref a_candles, .ref a_masses, .ref a_owing, .ref a_heldOn, .ref a_waits, .ref a_tape, .ref a_text, .int v_taped, .int v_size, .int v_at, .int v_fault, .int v_rules, .ref a_statements, .ref a_taken, .ref a_sort, .ref a_first, .ref a_second, .int v_wordEnd, .int v_number]))]) [0] rfl
  refine roV (As := [.int i]) (rest := []) S (n_isGift  (by omega) (by omega)) (cwV 1 hts gX12_leave_X12_isGift rfl rfl rfl ⟨rfl, hd_X12_isGift⟩ ⟨Nat.le_of_ble_eq_true rfl, Nat.le_of_ble_eq_true rfl⟩) hK hPc (va_recv hK.1 hPc (ci := 11) (q0 := 0) rfl rfl) rfl hl.1 rfl (Nat.le_of_ble_eq_true rfl) dX12_leave_2 ⟨Nat.le_of_ble_eq_true rfl, Nat.le_of_ble_eq_true rfl⟩ (fun r_1 hw_1 => ?_)
  have hw_1 : (r_1.toInt = 1 ∧ 0 ≤ i.toInt ∧ i.toInt < v_gifts.toInt) ∨ (r_1.toInt = 0 ∧ (i.toInt < 0 ∨ v_gifts.toInt ≤ i.toInt)) := hw_1
  refine lv_if_eq (tgt := 33) hx hb dX12_leave_5 (by decide) (fun c_2 => ?_) (fun c_2 => ?_)
  · have tc_2 := t_eq c_2
    refine lv_iconst (v := (-1)) hx hb dX12_leave_33 (by decide) ?_
    exact hret (-1) (v_leaves, f_leaveGift, f_leaveFrom, f_leaveTo) _ _ _ _ (show (((0 ≤ i.toInt ∧ i.toInt < v_gifts.toInt ∧ 0 ≤ a.toInt ∧ a.toInt ≤ b.toInt ∧ b.toInt ≤ 1094) ∧ v_leaves.toInt < 40) ∧ (-1 : Int32).toInt = v_leaves.toInt + 1 ∧ v_leaves.toInt = v_leaves.toInt + 1) ∨ (¬ ((0 ≤ i.toInt ∧ i.toInt < v_gifts.toInt ∧ 0 ≤ a.toInt ∧ a.toInt ≤ b.toInt ∧ b.toInt ≤ 1094) ∧ v_leaves.toInt < 40) ∧ (-1 : Int32).toInt = -1 ∧ v_leaves = v_leaves) from by first | exact Or.inl ⟨by omega, by omega, by omega⟩ | exact Or.inr ⟨by omega, by omega, rfl⟩) rfl (hP.sub [0, 1, 2, 3] rfl) (hD.sub [0, 1, 2, 3] (by decide +kernel) rfl) hS dX12_leave_34
  · have tc_2 := t_neq c_2
    refine lv_iload_n hx hb dX12_leave_8 rfl (lv_at hl 2 rfl) ?_
    refine lv_if_lt (tgt := 33) hx hb dX12_leave_9 (by decide) (fun c_3 => ?_) (fun c_3 => ?_)
    · have tc_3 := t_lt c_3
      refine lv_iconst (v := (-1)) hx hb dX12_leave_33 (by decide) ?_
      exact hret (-1) (v_leaves, f_leaveGift, f_leaveFrom, f_leaveTo) _ _ _ _ (show (((0 ≤ i.toInt ∧ i.toInt < v_gifts.toInt ∧ 0 ≤ a.toInt ∧ a.toInt ≤ b.toInt ∧ b.toInt ≤ 1094) ∧ v_leaves.toInt < 40) ∧ (-1 : Int32).toInt = v_leaves.toInt + 1 ∧ v_leaves.toInt = v_leaves.toInt + 1) ∨ (¬ ((0 ≤ i.toInt ∧ i.toInt < v_gifts.toInt ∧ 0 ≤ a.toInt ∧ a.toInt ≤ b.toInt ∧ b.toInt ≤ 1094) ∧ v_leaves.toInt < 40) ∧ (-1 : Int32).toInt = -1 ∧ v_leaves = v_leaves) from by first | exact Or.inl ⟨by omega, by omega, by omega⟩ | exact Or.inr ⟨by omega, by omega, rfl⟩) rfl (hP.sub [0, 1, 2, 3] rfl) (hD.sub [0, 1, 2, 3] (by decide +kernel) rfl) hS dX12_leave_34
    · have tc_3 := t_nlt c_3
      refine lv_iload_n hx hb dX12_leave_12 rfl (lv_at hl 2 rfl) ?_
      refine lv_iload_n hx hb dX12_leave_13 rfl (lv_at hl 3 rfl) ?_
      refine lv_icmp_gt (tgt := 33) hx hb dX12_leave_14 (by decide) (fun c_4 => ?_) (fun c_4 => ?_)
      · have tc_4 := t_lt c_4
        refine lv_iconst (v := (-1)) hx hb dX12_leave_33 (by decide) ?_
        exact hret (-1) (v_leaves, f_leaveGift, f_leaveFrom, f_leaveTo) _ _ _ _ (show (((0 ≤ i.toInt ∧ i.toInt < v_gifts.toInt ∧ 0 ≤ a.toInt ∧ a.toInt ≤ b.toInt ∧ b.toInt ≤ 1094) ∧ v_leaves.toInt < 40) ∧ (-1 : Int32).toInt = v_leaves.toInt + 1 ∧ v_leaves.toInt = v_leaves.toInt + 1) ∨ (¬ ((0 ≤ i.toInt ∧ i.toInt < v_gifts.toInt ∧ 0 ≤ a.toInt ∧ a.toInt ≤ b.toInt ∧ b.toInt ≤ 1094) ∧ v_leaves.toInt < 40) ∧ (-1 : Int32).toInt = -1 ∧ v_leaves = v_leaves) from by first | exact Or.inl ⟨by omega, by omega, by omega⟩ | exact Or.inr ⟨by omega, by omega, rfl⟩) rfl (hP.sub [0, 1, 2, 3] rfl) (hD.sub [0, 1, 2, 3] (by decide +kernel) rfl) hS dX12_leave_34
      · have tc_4 := t_nlt c_4
        refine lv_iload_n hx hb dX12_leave_17 rfl (lv_at hl 3 rfl) ?_
        have hPc := hP.sub (ws' := []) [] rfl
        refine roS (As := [.int b]) (rest := []) S (m_isDay  ) (va_cwS 1 hts gX12_leave_X12_isDay rfl rfl rfl hd_X12_isDay ⟨Nat.le_of_ble_eq_true rfl, Nat.le_of_ble_eq_true rfl⟩) hK hPc rfl hl.1 rfl (Nat.le_of_ble_eq_true rfl) dX12_leave_18 ⟨Nat.le_of_ble_eq_true rfl, Nat.le_of_ble_eq_true rfl⟩ (fun r_5 hw_5 => ?_)
        have hw_5 : (r_5.toInt = 1 ∧ 0 ≤ b.toInt ∧ b.toInt ≤ 1094) ∨ (r_5.toInt = 0 ∧ (b.toInt < 0 ∨ 1094 < b.toInt)) := hw_5
        refine lv_if_eq (tgt := 33) hx hb dX12_leave_21 (by decide) (fun c_6 => ?_) (fun c_6 => ?_)
        · have tc_6 := t_eq c_6
          refine lv_iconst (v := (-1)) hx hb dX12_leave_33 (by decide) ?_
          exact hret (-1) (v_leaves, f_leaveGift, f_leaveFrom, f_leaveTo) _ _ _ _ (show (((0 ≤ i.toInt ∧ i.toInt < v_gifts.toInt ∧ 0 ≤ a.toInt ∧ a.toInt ≤ b.toInt ∧ b.toInt ≤ 1094) ∧ v_leaves.toInt < 40) ∧ (-1 : Int32).toInt = v_leaves.toInt + 1 ∧ v_leaves.toInt = v_leaves.toInt + 1) ∨ (¬ ((0 ≤ i.toInt ∧ i.toInt < v_gifts.toInt ∧ 0 ≤ a.toInt ∧ a.toInt ≤ b.toInt ∧ b.toInt ≤ 1094) ∧ v_leaves.toInt < 40) ∧ (-1 : Int32).toInt = -1 ∧ v_leaves = v_leaves) from by first | exact Or.inl ⟨by omega, by omega, by omega⟩ | exact Or.inr ⟨by omega, by omega, rfl⟩) rfl (hP.sub [0, 1, 2, 3] rfl) (hD.sub [0, 1, 2, 3] (by decide +kernel) rfl) hS dX12_leave_34
        · have tc_6 := t_neq c_6
          refine lv_aload_n hx hb dX12_leave_24 rfl (lv_at hl 0 rfl) ?_
          refine va_get (D := D) (ci := 11) (v := .int v_leaves) (C := RX12) (T := TX12) (N := 54) hx hb hts in_N_leave_X12 hown hK.1 hP 0 rfl rfl 5 (by decide) lk0 (fun _ h9 => h9) rfl dX12_leave_25 ?_
          refine lv_bipush (v := 40) hx hb dX12_leave_28 (by decide) ?_
          refine lv_icmp_ne (tgt := 35) hx hb dX12_leave_30 (by decide) (fun c_7 => ?_) (fun c_7 => ?_)
          · have tc_7 := t_neq c_7
            refine lv_aload_n hx hb dX12_leave_35 rfl (lv_at hl 0 rfl) ?_
            refine va_get (D := D) (ci := 11) (v := .ref a_leaveGift) (C := RX12) (T := TX12) (N := 54) hx hb hts in_N_leave_X12 hown hK.1 hP 0 rfl rfl 25 (by decide) lk1 (fun _ h9 => h9) rfl dX12_leave_36 ?_
            refine lv_aload_n hx hb dX12_leave_39 rfl (lv_at hl 0 rfl) ?_
            refine va_get (D := D) (ci := 11) (v := .int v_leaves) (C := RX12) (T := TX12) (N := 54) hx hb hts in_N_leave_X12 hown hK.1 hP 0 rfl rfl 5 (by decide) lk0 (fun _ h9 => h9) rfl dX12_leave_40 ?_
            refine lv_iload_n hx hb dX12_leave_43 rfl (lv_at hl 1 rfl) ?_
            refine va_iast hx hb hK.1 hP hD hS 1 0 rfl rfl (t_in (by omega) (by omega)) dX12_leave_44 (fun H locs hP hD hS => ?_)
            obtain ⟨g_8, eg_8⟩ : ∃ z : Nat → Int32, z = upd f_leaveGift ((v_leaves : Int32).toNatClampNeg) i := ⟨_, rfl⟩
            rw [← eg_8] at hP hD
            have hP : va_P D vwCl [(h, .inr (11, [.int v_today, .int v_monks, .int v_aways, .int v_feasts, .int v_gifts, .int v_leaves, .int v_lates, .int v_store, .int v_allCandles, .ref a_isPriest, .ref a_bars, .ref a_joined, .ref a_turns, .ref a_awayMonk, .ref a_awayFrom, .ref a_awayTo, .ref a_feastDay, .ref a_rank, .ref a_isWeekly, .ref a_isDouble, .ref a_giftDay, .ref a_giftFrom, .ref a_owed, .ref a_said, .ref a_spared, .ref a_leaveGift, .ref a_leaveFrom, .ref a_leaveTo, .ref a_lateDay, .ref a_lateOffice, .ref a_lateBy, .ref a_guests, .ref a_who, .ref a_used, .ref a_lacks, .ref a_candles, .ref a_masses, .ref a_owing, .ref a_heldOn, .ref a_waits, .ref a_tape, .ref a_text, .int v_taped, .int v_size, .int v_at, .int v_fault, .int v_rules, .ref a_statements, .ref a_taken, .ref a_sort, .ref a_first, .ref a_second, .int v_wordEnd, .int v_number])), (a_leaveGift, .inl (cI, 40, .inl g_8)), (a_leaveFrom, .inl (cI, 40, .inl f_leaveFrom)), (a_leaveTo, .inl (cI, 40, .inl f_leaveTo))] H := hP
            have hD := asD hP hD
            refine lv_aload_n hx hb dX12_leave_45 rfl (lv_at hl 0 rfl) ?_
            refine va_get (D := D) (ci := 11) (v := .ref a_leaveFrom) (C := RX12) (T := TX12) (N := 54) hx hb hts in_N_leave_X12 hown hK.1 hP 0 rfl rfl 26 (by decide) lk2 (fun _ h9 => h9) rfl dX12_leave_46 ?_
            refine lv_aload_n hx hb dX12_leave_49 rfl (lv_at hl 0 rfl) ?_
            refine va_get (D := D) (ci := 11) (v := .int v_leaves) (C := RX12) (T := TX12) (N := 54) hx hb hts in_N_leave_X12 hown hK.1 hP 0 rfl rfl 5 (by decide) lk0 (fun _ h9 => h9) rfl dX12_leave_50 ?_
            refine lv_iload_n hx hb dX12_leave_53 rfl (lv_at hl 2 rfl) ?_
            refine va_iast hx hb hK.1 hP hD hS 2 0 rfl rfl (t_in (by omega) (by omega)) dX12_leave_54 (fun H locs hP hD hS => ?_)
            obtain ⟨g_9, eg_9⟩ : ∃ z : Nat → Int32, z = upd f_leaveFrom ((v_leaves : Int32).toNatClampNeg) a := ⟨_, rfl⟩
            rw [← eg_9] at hP hD
            have hP : va_P D vwCl [(h, .inr (11, [.int v_today, .int v_monks, .int v_aways, .int v_feasts, .int v_gifts, .int v_leaves, .int v_lates, .int v_store, .int v_allCandles, .ref a_isPriest, .ref a_bars, .ref a_joined, .ref a_turns, .ref a_awayMonk, .ref a_awayFrom, .ref a_awayTo, .ref a_feastDay, .ref a_rank, .ref a_isWeekly, .ref a_isDouble, .ref a_giftDay, .ref a_giftFrom, .ref a_owed, .ref a_said, .ref a_spared, .ref a_leaveGift, .ref a_leaveFrom, .ref a_leaveTo, .ref a_lateDay, .ref a_lateOffice, .ref a_lateBy, .ref a_guests, .ref a_who, .ref a_used, .ref a_lacks, .ref a_candles, .ref a_masses, .ref a_owing, .ref a_heldOn, .ref a_waits, .ref a_tape, .ref a_text, .int v_taped, .int v_size, .int v_at, .int v_fault, .int v_rules, .ref a_statements, .ref a_taken, .ref a_sort, .ref a_first, .ref a_second, .int v_wordEnd, .int v_number])), (a_leaveGift, .inl (cI, 40, .inl g_8)), (a_leaveFrom, .inl (cI, 40, .inl g_9)), (a_leaveTo, .inl (cI, 40, .inl f_leaveTo))] H := hP
            have hD := asD hP hD
            refine lv_aload_n hx hb dX12_leave_55 rfl (lv_at hl 0 rfl) ?_
            refine va_get (D := D) (ci := 11) (v := .ref a_leaveTo) (C := RX12) (T := TX12) (N := 54) hx hb hts in_N_leave_X12 hown hK.1 hP 0 rfl rfl 27 (by decide) lk3 (fun _ h9 => h9) rfl dX12_leave_56 ?_
            refine lv_aload_n hx hb dX12_leave_59 rfl (lv_at hl 0 rfl) ?_
            refine va_get (D := D) (ci := 11) (v := .int v_leaves) (C := RX12) (T := TX12) (N := 54) hx hb hts in_N_leave_X12 hown hK.1 hP 0 rfl rfl 5 (by decide) lk0 (fun _ h9 => h9) rfl dX12_leave_60 ?_
            refine lv_iload_n hx hb dX12_leave_63 rfl (lv_at hl 3 rfl) ?_
            refine va_iast hx hb hK.1 hP hD hS 3 0 rfl rfl (t_in (by omega) (by omega)) dX12_leave_64 (fun H locs hP hD hS => ?_)
            obtain ⟨g_10, eg_10⟩ : ∃ z : Nat → Int32, z = upd f_leaveTo ((v_leaves : Int32).toNatClampNeg) b := ⟨_, rfl⟩
            rw [← eg_10] at hP hD
            have hP : va_P D vwCl [(h, .inr (11, [.int v_today, .int v_monks, .int v_aways, .int v_feasts, .int v_gifts, .int v_leaves, .int v_lates, .int v_store, .int v_allCandles, .ref a_isPriest, .ref a_bars, .ref a_joined, .ref a_turns, .ref a_awayMonk, .ref a_awayFrom, .ref a_awayTo, .ref a_feastDay, .ref a_rank, .ref a_isWeekly, .ref a_isDouble, .ref a_giftDay, .ref a_giftFrom, .ref a_owed, .ref a_said, .ref a_spared, .ref a_leaveGift, .ref a_leaveFrom, .ref a_leaveTo, .ref a_lateDay, .ref a_lateOffice, .ref a_lateBy, .ref a_guests, .ref a_who, .ref a_used, .ref a_lacks, .ref a_candles, .ref a_masses, .ref a_owing, .ref a_heldOn, .ref a_waits, .ref a_tape, .ref a_text, .int v_taped, .int v_size, .int v_at, .int v_fault, .int v_rules, .ref a_statements, .ref a_taken, .ref a_sort, .ref a_first, .ref a_second, .int v_wordEnd, .int v_number])), (a_leaveGift, .inl (cI, 40, .inl g_8)), (a_leaveFrom, .inl (cI, 40, .inl g_9)), (a_leaveTo, .inl (cI, 40, .inl g_10))] H := hP
            have hD := asD hP hD
            refine lv_aload_n hx hb dX12_leave_65 rfl (lv_at hl 0 rfl) ?_
            refine lv_dup hx hb dX12_leave_66 rfl ?_
            refine va_get (D := D) (ci := 11) (v := .int v_leaves) (C := RX12) (T := TX12) (N := 54) hx hb hts in_N_leave_X12 hown hK.1 hP 0 rfl rfl 5 (by decide) lk0 (fun _ h9 => h9) rfl dX12_leave_67 ?_
            refine lv_iconst (v := 1) hx hb dX12_leave_70 (by decide) ?_
            refine lv_iadd hx hb dX12_leave_71 ?_
            refine lv_topi (fun x_11 ex_11 => ?_)
            first | have tx_11 := t_add ex_11 (by omega) (by omega) | skip
            refine va_put (D := D) (ci := 11) (v := .int x_11) (ty := .int) (C := RX12) (T := TX12) (N := 54) hx hb hts in_N_leave_X12 tyX12 tyX12_ok nmX12 hown hK.1 hP hD hS 0 rfl rfl 5 (by decide) lk0 (fun _ h9 => h9) rfl (by decide +kernel) rfl rfl (Nat.le_of_ble_eq_true rfl) dX12_leave_72 (fun H locs hP hD hS => ?_)
            have hP : va_P D vwCl [(h, .inr (11, [.int v_today, .int v_monks, .int v_aways, .int v_feasts, .int v_gifts, .int x_11, .int v_lates, .int v_store, .int v_allCandles, .ref a_isPriest, .ref a_bars, .ref a_joined, .ref a_turns, .ref a_awayMonk, .ref a_awayFrom, .ref a_awayTo, .ref a_feastDay, .ref a_rank, .ref a_isWeekly, .ref a_isDouble, .ref a_giftDay, .ref a_giftFrom, .ref a_owed, .ref a_said, .ref a_spared, .ref a_leaveGift, .ref a_leaveFrom, .ref a_leaveTo, .ref a_lateDay, .ref a_lateOffice, .ref a_lateBy, .ref a_guests, .ref a_who, .ref a_used, .ref a_lacks, .ref a_candles, .ref a_masses, .ref a_owing, .ref a_heldOn, .ref a_waits, .ref a_tape, .ref a_text, .int v_taped, .int v_size, .int v_at, .int v_fault, .int v_rules, .ref a_statements, .ref a_taken, .ref a_sort, .ref a_first, .ref a_second, .int v_wordEnd, .int v_number])), (a_leaveGift, .inl (cI, 40, .inl g_8)), (a_leaveFrom, .inl (cI, 40, .inl g_9)), (a_leaveTo, .inl (cI, 40, .inl g_10))] H := hP
            have hD := asD hP hD
            refine lv_aload_n hx hb dX12_leave_75 rfl (lv_at hl 0 rfl) ?_
            refine va_get (D := D) (ci := 11) (v := .int x_11) (C := RX12) (T := TX12) (N := 54) hx hb hts in_N_leave_X12 hown hK.1 hP 0 rfl rfl 5 (by decide) lk0 (fun _ h9 => h9) rfl dX12_leave_76 ?_
            exact hret x_11 (x_11, g_8, g_9, g_10) _ _ _ _ (show (((0 ≤ i.toInt ∧ i.toInt < v_gifts.toInt ∧ 0 ≤ a.toInt ∧ a.toInt ≤ b.toInt ∧ b.toInt ≤ 1094) ∧ v_leaves.toInt < 40) ∧ x_11.toInt = v_leaves.toInt + 1 ∧ x_11.toInt = v_leaves.toInt + 1) ∨ (¬ ((0 ≤ i.toInt ∧ i.toInt < v_gifts.toInt ∧ 0 ≤ a.toInt ∧ a.toInt ≤ b.toInt ∧ b.toInt ≤ 1094) ∧ v_leaves.toInt < 40) ∧ x_11.toInt = -1 ∧ x_11 = v_leaves) from by first | exact Or.inl ⟨by omega, by omega, by omega⟩ | exact Or.inr ⟨by omega, by omega, rfl⟩) rfl (hP.sub [0, 1, 2, 3] rfl) (hD.sub [0, 1, 2, 3] (by decide +kernel) rfl) hS dX12_leave_79
          · have tc_7 := t_eq c_7
            refine lv_iconst (v := (-1)) hx hb dX12_leave_33 (by decide) ?_
            exact hret (-1) (v_leaves, f_leaveGift, f_leaveFrom, f_leaveTo) _ _ _ _ (show (((0 ≤ i.toInt ∧ i.toInt < v_gifts.toInt ∧ 0 ≤ a.toInt ∧ a.toInt ≤ b.toInt ∧ b.toInt ≤ 1094) ∧ v_leaves.toInt < 40) ∧ (-1 : Int32).toInt = v_leaves.toInt + 1 ∧ v_leaves.toInt = v_leaves.toInt + 1) ∨ (¬ ((0 ≤ i.toInt ∧ i.toInt < v_gifts.toInt ∧ 0 ≤ a.toInt ∧ a.toInt ≤ b.toInt ∧ b.toInt ≤ 1094) ∧ v_leaves.toInt < 40) ∧ (-1 : Int32).toInt = -1 ∧ v_leaves = v_leaves) from by first | exact Or.inl ⟨by omega, by omega, by omega⟩ | exact Or.inr ⟨by omega, by omega, rfl⟩) rfl (hP.sub [0, 1, 2, 3] rfl) (hD.sub [0, 1, 2, 3] (by decide +kernel) rfl) hS dX12_leave_34

theorem in_N_giftOf_X12 : ∀ w ∈ wsX120, w ∈ wsX12_giftOf := tl_X12_giftOf_X12
set_option maxHeartbeats 8000000 in
set_option maxRecDepth 100000 in
theorem N_giftOf {l : Launch} {D : va_G} {cI cZ cB : ClassId} {h a_isPriest a_bars a_joined a_turns a_awayMonk a_awayFrom a_awayTo a_feastDay a_rank a_isWeekly a_isDouble a_giftDay a_giftFrom a_owed a_said a_spared a_leaveGift a_leaveFrom a_leaveTo a_lateDay a_lateOffice a_lateBy a_guests a_who a_used a_lacks a_candles a_masses a_owing a_heldOn a_waits a_tape a_text a_statements a_taken a_sort a_first a_second : Nat} {v_today v_monks v_aways v_feasts v_gifts v_leaves v_lates v_store v_allCandles v_taped v_size v_at v_fault v_rules v_wordEnd v_number : Int32} {f_owed f_said f_spared : Nat → Int32} {i w : Int32} (h0_gifts : 0 ≤ v_gifts.toInt) (h1_gifts : v_gifts.toInt ≤ 40) : Met l yX12_giftOf wsX12_giftOf ({ frames := 2, cells := 0, slots := 0, locals := 43 }) (RO D cI cZ cB [.ref h, .int i, .int w] [(h, .inr (11, [.int v_today, .int v_monks, .int v_aways, .int v_feasts, .int v_gifts, .int v_leaves, .int v_lates, .int v_store, .int v_allCandles, .ref a_isPriest, .ref a_bars, .ref a_joined, .ref a_turns, .ref a_awayMonk, .ref a_awayFrom, .ref a_awayTo, .ref a_feastDay, .ref a_rank, .ref a_isWeekly, .ref a_isDouble, .ref a_giftDay, .ref a_giftFrom, .ref a_owed, .ref a_said, .ref a_spared, .ref a_leaveGift, .ref a_leaveFrom, .ref a_leaveTo, .ref a_lateDay, .ref a_lateOffice, .ref a_lateBy, .ref a_guests, .ref a_who, .ref a_used, .ref a_lacks, .ref a_candles, .ref a_masses, .ref a_owing, .ref a_heldOn, .ref a_waits, .ref a_tape, .ref a_text, .int v_taped, .int v_size, .int v_at, .int v_fault, .int v_rules, .ref a_statements, .ref a_taken, .ref a_sort, .ref a_first, .ref a_second, .int v_wordEnd, .int v_number])), (a_owed, .inl (cI, 40, .inl f_owed)), (a_said, .inl (cI, 40, .inl f_said)), (a_spared, .inl (cI, 40, .inl f_spared))]) (vp_Si (fun r : Int32 => True)) 0 0 (fun _ => False) := by
  refine ro_ret (cc := cX12_giftOf) (maxL := 3) (ty := .int) (own := RX12) (by decide) rfl rfl (Nat.le_of_ble_eq_true rfl) ?_
  intro p e s m args below meth c Q S hret hP hK ls hl
  obtain ⟨hx, hb, hml, hown, hts⟩ := id S
  have hl : lv_has ls 3 [(0, .ref h), (1, .int i), (2, .int w)] := hl
  have kkm1 : (-1 : Int32).toInt = -1 := by decide
  have kk0 : (0 : Int32).toInt = 0 := by decide
  have kk1 : (1 : Int32).toInt = 1 := by decide
  have kk2 : (2 : Int32).toInt = 2 := by decide
  have lk0 := hts (.fieldLink RX12 56 "AbbeyHoursModel" "spared" "[I") (List.mem_cons_of_mem _ (List.mem_append_left _ (List.mem_of_getElem? (i := 2) rfl)))
  have lk1 := hts (.fieldLink RX12 53 "AbbeyHoursModel" "said" "[I") (List.mem_cons_of_mem _ (List.mem_append_left _ (List.mem_of_getElem? (i := 1) rfl)))
  have lk2 := hts (.fieldLink RX12 50 "AbbeyHoursModel" "owed" "[I") (List.mem_cons_of_mem _ (List.mem_append_left _ (List.mem_of_getElem? (i := 0) rfl)))
  refine lv_aload_n hx hb dX12_giftOf_0 rfl (lv_at hl 0 rfl) ?_
  refine lv_iload_n hx hb dX12_giftOf_1 rfl (lv_at hl 1 rfl) ?_
  have hPc := hP.sub (ws' := [(h, .inr (11, [.int v_today, .int v_monks, .int v_aways, .int v_feasts, .int v_gifts, .int v_leaves, .int v_lates, .int v_store, .int v_allCandles, .ref a_isPriest, .ref a_bars, .ref a_joined, .ref a_turns, .ref a_awayMonk, .ref a_awayFrom, .ref a_awayTo, .ref a_feastDay, .ref a_rank, .ref a_isWeekly, .ref a_isDouble, .ref a_giftDay, .ref a_giftFrom, .ref a_owed, .ref a_said, .ref a_spared, .ref a_leaveGift, .ref a_leaveFrom, .ref a_leaveTo, .ref a_lateDay, .ref a_lateOffice, .ref a_lateBy, .ref a_guests, .ref a_who, .ref a_used, .ref a_lacks, .ref a_candles, .ref a_masses, .ref a_owing, .ref a_heldOn, .ref a_waits, .ref a_tape, .ref a_text, .int v_taped, .int v_size, .int v_at, .int v_fault, .int v_rules, .ref a_statements, .ref a_taken, .ref a_sort, .ref a_first, .ref a_second, .int v_wordEnd, .int v_number]))]) [0] rfl
  refine roV (As := [.int i]) (rest := []) S (n_isGift  (by omega) (by omega)) (cwV 1 hts gX12_giftOf_X12_isGift rfl rfl rfl ⟨rfl, hd_X12_isGift⟩ ⟨Nat.le_of_ble_eq_true rfl, Nat.le_of_ble_eq_true rfl⟩) hK hPc (va_recv hK.1 hPc (ci := 11) (q0 := 0) rfl rfl) rfl hl.1 rfl (Nat.le_of_ble_eq_true rfl) dX12_giftOf_2 ⟨Nat.le_of_ble_eq_true rfl, Nat.le_of_ble_eq_true rfl⟩ (fun r_1 hw_1 => ?_)
  have hw_1 : (r_1.toInt = 1 ∧ 0 ≤ i.toInt ∧ i.toInt < v_gifts.toInt) ∨ (r_1.toInt = 0 ∧ (i.toInt < 0 ∨ v_gifts.toInt ≤ i.toInt)) := hw_1
  refine lv_if_ne (tgt := 12) hx hb dX12_giftOf_5 (by decide) (fun c_2 => ?_) (fun c_2 => ?_)
  · have tc_2 := t_neq c_2
    refine lv_iload_n hx hb dX12_giftOf_12 rfl (lv_at hl 2 rfl) ?_
    refine lv_if_ne (tgt := 25) hx hb dX12_giftOf_13 (by decide) (fun c_3 => ?_) (fun c_3 => ?_)
    · have tc_3 := t_neq c_3
      refine lv_iload_n hx hb dX12_giftOf_25 rfl (lv_at hl 2 rfl) ?_
      refine lv_iconst (v := 1) hx hb dX12_giftOf_26 (by decide) ?_
      refine lv_icmp_ne (tgt := 39) hx hb dX12_giftOf_27 (by decide) (fun c_4 => ?_) (fun c_4 => ?_)
      · have tc_4 := t_neq c_4
        refine lv_iload_n hx hb dX12_giftOf_39 rfl (lv_at hl 2 rfl) ?_
        refine lv_iconst (v := 2) hx hb dX12_giftOf_40 (by decide) ?_
        refine lv_icmp_ne (tgt := 53) hx hb dX12_giftOf_41 (by decide) (fun c_5 => ?_) (fun c_5 => ?_)
        · have tc_5 := t_neq c_5
          refine lv_iconst (v := (-1)) hx hb dX12_giftOf_53 (by decide) ?_
          exact hret (-1) _ _ (show True from trivial) rfl dX12_giftOf_54
        · have tc_5 := t_eq c_5
          refine lv_aload_n hx hb dX12_giftOf_44 rfl (lv_at hl 0 rfl) ?_
          refine va_get (D := D) (ci := 11) (v := .ref a_spared) (C := RX12) (T := TX12) (N := 54) hx hb hts in_N_giftOf_X12 hown hK.1 hP 0 rfl rfl 24 (by decide) lk0 (fun _ h9 => h9) rfl dX12_giftOf_45 ?_
          refine lv_iload_n hx hb dX12_giftOf_48 rfl (lv_at hl 1 rfl) ?_
          refine va_iald hx hb hK.1 hP 3 0 rfl rfl (t_in (by omega) (by omega)) dX12_giftOf_49 ?_
          refine lv_topi (fun y_6 ey_6 => ?_)
          refine lv_goto (tgt := 54) hx hb dX12_giftOf_50 (by decide) ?_
          exact hret y_6 _ _ (show True from trivial) rfl dX12_giftOf_54
      · have tc_4 := t_eq c_4
        refine lv_aload_n hx hb dX12_giftOf_30 rfl (lv_at hl 0 rfl) ?_
        refine va_get (D := D) (ci := 11) (v := .ref a_said) (C := RX12) (T := TX12) (N := 54) hx hb hts in_N_giftOf_X12 hown hK.1 hP 0 rfl rfl 23 (by decide) lk1 (fun _ h9 => h9) rfl dX12_giftOf_31 ?_
        refine lv_iload_n hx hb dX12_giftOf_34 rfl (lv_at hl 1 rfl) ?_
        refine va_iald hx hb hK.1 hP 2 0 rfl rfl (t_in (by omega) (by omega)) dX12_giftOf_35 ?_
        refine lv_topi (fun y_7 ey_7 => ?_)
        refine lv_goto (tgt := 54) hx hb dX12_giftOf_36 (by decide) ?_
        exact hret y_7 _ _ (show True from trivial) rfl dX12_giftOf_54
    · have tc_3 := t_eq c_3
      refine lv_aload_n hx hb dX12_giftOf_16 rfl (lv_at hl 0 rfl) ?_
      refine va_get (D := D) (ci := 11) (v := .ref a_owed) (C := RX12) (T := TX12) (N := 54) hx hb hts in_N_giftOf_X12 hown hK.1 hP 0 rfl rfl 22 (by decide) lk2 (fun _ h9 => h9) rfl dX12_giftOf_17 ?_
      refine lv_iload_n hx hb dX12_giftOf_20 rfl (lv_at hl 1 rfl) ?_
      refine va_iald hx hb hK.1 hP 1 0 rfl rfl (t_in (by omega) (by omega)) dX12_giftOf_21 ?_
      refine lv_topi (fun y_8 ey_8 => ?_)
      refine lv_goto (tgt := 54) hx hb dX12_giftOf_22 (by decide) ?_
      exact hret y_8 _ _ (show True from trivial) rfl dX12_giftOf_54
  · have tc_2 := t_eq c_2
    refine lv_iconst (v := (-1)) hx hb dX12_giftOf_8 (by decide) ?_
    refine lv_goto (tgt := 54) hx hb dX12_giftOf_9 (by decide) ?_
    exact hret (-1) _ _ (show True from trivial) rfl dX12_giftOf_54

theorem in_N_store_X12 : ∀ w ∈ wsX120, w ∈ wsX12_store := tl_X12_store_X12
set_option maxHeartbeats 8000000 in
set_option maxRecDepth 100000 in
theorem N_store {l : Launch} {D : va_G} {cI cZ cB : ClassId} {sz : Nat} {h a_isPriest a_bars a_joined a_turns a_awayMonk a_awayFrom a_awayTo a_feastDay a_rank a_isWeekly a_isDouble a_giftDay a_giftFrom a_owed a_said a_spared a_leaveGift a_leaveFrom a_leaveTo a_lateDay a_lateOffice a_lateBy a_guests a_who a_used a_lacks a_candles a_masses a_owing a_heldOn a_waits a_tape a_text a_statements a_taken a_sort a_first a_second : Nat} {v_today v_monks v_aways v_feasts v_gifts v_leaves v_lates v_store v_allCandles v_taped v_size v_at v_fault v_rules v_wordEnd v_number : Int32} {x : Int32}  : Met l yX12_store wsX12_store ({ frames := 1, cells := 0, slots := 0, locals := 22 }) (RW D cI cZ cB [.ref h, .int x] sz [(h, .inr (11, [.int v_today, .int v_monks, .int v_aways, .int v_feasts, .int v_gifts, .int v_leaves, .int v_lates, .int v_store, .int v_allCandles, .ref a_isPriest, .ref a_bars, .ref a_joined, .ref a_turns, .ref a_awayMonk, .ref a_awayFrom, .ref a_awayTo, .ref a_feastDay, .ref a_rank, .ref a_isWeekly, .ref a_isDouble, .ref a_giftDay, .ref a_giftFrom, .ref a_owed, .ref a_said, .ref a_spared, .ref a_leaveGift, .ref a_leaveFrom, .ref a_leaveTo, .ref a_lateDay, .ref a_lateOffice, .ref a_lateBy, .ref a_guests, .ref a_who, .ref a_used, .ref a_lacks, .ref a_candles, .ref a_masses, .ref a_owing, .ref a_heldOn, .ref a_waits, .ref a_tape, .ref a_text, .int v_taped, .int v_size, .int v_at, .int v_fault, .int v_rules, .ref a_statements, .ref a_taken, .ref a_sort, .ref a_first, .ref a_second, .int v_wordEnd, .int v_number]))]) (va_Qi (fun (r : Int32) (u : Int32) => True) (BW D [(h, .inr (11, [.int v_today, .int v_monks, .int v_aways, .int v_feasts, .int v_gifts, .int v_leaves, .int v_lates, .int v_store, .int v_allCandles, .ref a_isPriest, .ref a_bars, .ref a_joined, .ref a_turns, .ref a_awayMonk, .ref a_awayFrom, .ref a_awayTo, .ref a_feastDay, .ref a_rank, .ref a_isWeekly, .ref a_isDouble, .ref a_giftDay, .ref a_giftFrom, .ref a_owed, .ref a_said, .ref a_spared, .ref a_leaveGift, .ref a_leaveFrom, .ref a_leaveTo, .ref a_lateDay, .ref a_lateOffice, .ref a_lateBy, .ref a_guests, .ref a_who, .ref a_used, .ref a_lacks, .ref a_candles, .ref a_masses, .ref a_owing, .ref a_heldOn, .ref a_waits, .ref a_tape, .ref a_text, .int v_taped, .int v_size, .int v_at, .int v_fault, .int v_rules, .ref a_statements, .ref a_taken, .ref a_sort, .ref a_first, .ref a_second, .int v_wordEnd, .int v_number]))] sz (fun u : Int32 => [(h, .inr (11, [.int v_today, .int v_monks, .int v_aways, .int v_feasts, .int v_gifts, .int v_leaves, .int v_lates, .int u, .int v_allCandles, .ref a_isPriest, .ref a_bars, .ref a_joined, .ref a_turns, .ref a_awayMonk, .ref a_awayFrom, .ref a_awayTo, .ref a_feastDay, .ref a_rank, .ref a_isWeekly, .ref a_isDouble, .ref a_giftDay, .ref a_giftFrom, .ref a_owed, .ref a_said, .ref a_spared, .ref a_leaveGift, .ref a_leaveFrom, .ref a_leaveTo, .ref a_lateDay, .ref a_lateOffice, .ref a_lateBy, .ref a_guests, .ref a_who, .ref a_used, .ref a_lacks, .ref a_candles, .ref a_masses, .ref a_owing, .ref a_heldOn, .ref a_waits, .ref a_tape, .ref a_text, .int v_taped, .int v_size, .int v_at, .int v_fault, .int v_rules, .ref a_statements, .ref a_taken, .ref a_sort, .ref a_first, .ref a_second, .int v_wordEnd, .int v_number]))])) (va_A [(h, .inr (11, [.int v_today, .int v_monks, .int v_aways, .int v_feasts, .int v_gifts, .int v_leaves, .int v_lates, .int v_store, .int v_allCandles, .ref a_isPriest, .ref a_bars, .ref a_joined, .ref a_turns, .ref a_awayMonk, .ref a_awayFrom, .ref a_awayTo, .ref a_feastDay, .ref a_rank, .ref a_isWeekly, .ref a_isDouble, .ref a_giftDay, .ref a_giftFrom, .ref a_owed, .ref a_said, .ref a_spared, .ref a_leaveGift, .ref a_leaveFrom, .ref a_leaveTo, .ref a_lateDay, .ref a_lateOffice, .ref a_lateBy, .ref a_guests, .ref a_who, .ref a_used, .ref a_lacks, .ref a_candles, .ref a_masses, .ref a_owing, .ref a_heldOn, .ref a_waits, .ref a_tape, .ref a_text, .int v_taped, .int v_size, .int v_at, .int v_fault, .int v_rules, .ref a_statements, .ref a_taken, .ref a_sort, .ref a_first, .ref a_second, .int v_wordEnd, .int v_number]))] sz)) 0 0 (va_A [(h, .inr (11, [.int v_today, .int v_monks, .int v_aways, .int v_feasts, .int v_gifts, .int v_leaves, .int v_lates, .int v_store, .int v_allCandles, .ref a_isPriest, .ref a_bars, .ref a_joined, .ref a_turns, .ref a_awayMonk, .ref a_awayFrom, .ref a_awayTo, .ref a_feastDay, .ref a_rank, .ref a_isWeekly, .ref a_isDouble, .ref a_giftDay, .ref a_giftFrom, .ref a_owed, .ref a_said, .ref a_spared, .ref a_leaveGift, .ref a_leaveFrom, .ref a_leaveTo, .ref a_lateDay, .ref a_lateOffice, .ref a_lateBy, .ref a_guests, .ref a_who, .ref a_used, .ref a_lacks, .ref a_candles, .ref a_masses, .ref a_owing, .ref a_heldOn, .ref a_waits, .ref a_tape, .ref a_text, .int v_taped, .int v_size, .int v_at, .int v_fault, .int v_rules, .ref a_statements, .ref a_taken, .ref a_sort, .ref a_first, .ref a_second, .int v_wordEnd, .int v_number]))] sz) := by
  refine rw_ret (cc := cX12_store) (maxL := 2) (ty := .int) (own := RX12) (by decide) rfl rfl (Nat.le_of_ble_eq_true rfl) ?_
  intro p e s m args below meth c Q A S hin hret hP hK hD hA hS ls hl
  obtain ⟨hx, hb, hml, hown, hts⟩ := id S
  have hl : lv_has ls 2 [(0, .ref h), (1, .int x)] := hl
  have kkm1 : (-1 : Int32).toInt = -1 := by decide
  have kk0 : (0 : Int32).toInt = 0 := by decide
  have kk10000 : (10000 : Int32).toInt = 10000 := by decide
  have kk1000000 : (1000000 : Int32).toInt = 1000000 := by decide
  have lk0 := hts (.fieldLink RX12 264 "AbbeyHoursModel" "store" "I") (List.mem_cons_of_mem _ (List.mem_append_left _ (List.mem_of_getElem? (i := 0) rfl)))
  have lk1 := hts (.constant RX12 267 (1000000)) (List.mem_cons_of_mem _ (List.mem_append_left _ (List.mem_of_getElem? (i := 1) rfl)))
  refine lv_iload_n hx hb dX12_store_0 rfl (lv_at hl 1 rfl) ?_
  refine lv_iconst (v := 0) hx hb dX12_store_1 (by decide) ?_
  refine lv_sipush (v := 10000) hx hb dX12_store_2 (by decide) ?_
  have hPc := hP.sub (ws' := []) [] rfl
  refine roS (As := [.int x, .int 0, .int 10000]) (rest := []) S (m_isIn  ) (va_cwS 3 hts gX12_store_X12_isIn rfl rfl rfl hd_X12_isIn ⟨Nat.le_of_ble_eq_true rfl, Nat.le_of_ble_eq_true rfl⟩) hK hPc rfl hl.1 rfl (Nat.le_of_ble_eq_true rfl) dX12_store_5 ⟨Nat.le_of_ble_eq_true rfl, Nat.le_of_ble_eq_true rfl⟩ (fun r_1 hw_1 => ?_)
  have hw_1 : (r_1.toInt = 1 ∧ (0 : Int32).toInt ≤ x.toInt ∧ x.toInt ≤ (10000 : Int32).toInt) ∨ (r_1.toInt = 0 ∧ (x.toInt < (0 : Int32).toInt ∨ (10000 : Int32).toInt < x.toInt)) := hw_1
  refine lv_if_eq (tgt := 23) hx hb dX12_store_8 (by decide) (fun c_2 => ?_) (fun c_2 => ?_)
  · have tc_2 := t_eq c_2
    refine lv_iconst (v := (-1)) hx hb dX12_store_23 (by decide) ?_
    exact hret (-1) v_store _ _ _ _ (show True from trivial) rfl (hP.sub [0] rfl) (hD.sub [0] (by decide +kernel) rfl) hS dX12_store_24
  · have tc_2 := t_neq c_2
    refine lv_aload_n hx hb dX12_store_11 rfl (lv_at hl 0 rfl) ?_
    refine va_get (D := D) (ci := 11) (v := .int v_store) (C := RX12) (T := TX12) (N := 54) hx hb hts in_N_store_X12 hown hK.1 hP 0 rfl rfl 7 (by decide) lk0 (fun _ h9 => h9) rfl dX12_store_12 ?_
    refine lv_iload_n hx hb dX12_store_15 rfl (lv_at hl 1 rfl) ?_
    refine lv_iadd hx hb dX12_store_16 ?_
    refine lv_topi (fun x_3 ex_3 => ?_)
    refine lv_ldcw (v := 1000000) hx hb hown lk1 dX12_store_17 ?_
    refine lv_icmp_le (tgt := 25) hx hb dX12_store_20 (by decide) (fun c_4 => ?_) (fun c_4 => ?_)
    · have tc_4 := t_le c_4
      refine lv_aload_n hx hb dX12_store_25 rfl (lv_at hl 0 rfl) ?_
      refine lv_dup hx hb dX12_store_26 rfl ?_
      refine va_get (D := D) (ci := 11) (v := .int v_store) (C := RX12) (T := TX12) (N := 54) hx hb hts in_N_store_X12 hown hK.1 hP 0 rfl rfl 7 (by decide) lk0 (fun _ h9 => h9) rfl dX12_store_27 ?_
      refine lv_iload_n hx hb dX12_store_30 rfl (lv_at hl 1 rfl) ?_
      refine lv_iadd hx hb dX12_store_31 ?_
      refine lv_topi (fun x_5 ex_5 => ?_)
      refine va_put (D := D) (ci := 11) (v := .int x_5) (ty := .int) (C := RX12) (T := TX12) (N := 54) hx hb hts in_N_store_X12 tyX12 tyX12_ok nmX12 hown hK.1 hP hD hS 0 rfl rfl 7 (by decide) lk0 (fun _ h9 => h9) rfl (by decide +kernel) rfl rfl (Nat.le_of_ble_eq_true rfl) dX12_store_32 (fun H locs hP hD hS => ?_)
      have hP : va_P D vwCl [(h, .inr (11, [.int v_today, .int v_monks, .int v_aways, .int v_feasts, .int v_gifts, .int v_leaves, .int v_lates, .int x_5, .int v_allCandles, .ref a_isPriest, .ref a_bars, .ref a_joined, .ref a_turns, .ref a_awayMonk, .ref a_awayFrom, .ref a_awayTo, .ref a_feastDay, .ref a_rank, .ref a_isWeekly, .ref a_isDouble, .ref a_giftDay, .ref a_giftFrom, .ref a_owed, .ref a_said, .ref a_spared, .ref a_leaveGift, .ref a_leaveFrom, .ref a_leaveTo, .ref a_lateDay, .ref a_lateOffice, .ref a_lateBy, .ref a_guests, .ref a_who, .ref a_used, .ref a_lacks, .ref a_candles, .ref a_masses, .ref a_owing, .ref a_heldOn, .ref a_waits, .ref a_tape, .ref a_text, .int v_taped, .int v_size, .int v_at, .int v_fault, .int v_rules, .ref a_statements, .ref a_taken, .ref a_sort, .ref a_first, .ref a_second, .int v_wordEnd, .int v_number]))] H := hP
      have hD := asD hP hD
      refine lv_aload_n hx hb dX12_store_35 rfl (lv_at hl 0 rfl) ?_
      refine va_get (D := D) (ci := 11) (v := .int x_5) (C := RX12) (T := TX12) (N := 54) hx hb hts in_N_store_X12 hown hK.1 hP 0 rfl rfl 7 (by decide) lk0 (fun _ h9 => h9) rfl dX12_store_36 ?_
      exact hret x_5 x_5 _ _ _ _ (show True from trivial) rfl (hP.sub [0] rfl) (hD.sub [0] (by decide +kernel) rfl) hS dX12_store_39
    · have tc_4 := t_nle c_4
      refine lv_iconst (v := (-1)) hx hb dX12_store_23 (by decide) ?_
      exact hret (-1) v_store _ _ _ _ (show True from trivial) rfl (hP.sub [0] rfl) (hD.sub [0] (by decide +kernel) rfl) hS dX12_store_24

theorem in_N_turn_X12 : ∀ w ∈ wsX120, w ∈ wsX12_turn := tl_X12_turn_X12
set_option maxHeartbeats 8000000 in
set_option maxRecDepth 100000 in
theorem N_turn {l : Launch} {D : va_G} {cI cZ cB : ClassId} {h a_isPriest a_bars a_joined a_turns a_awayMonk a_awayFrom a_awayTo a_feastDay a_rank a_isWeekly a_isDouble a_giftDay a_giftFrom a_owed a_said a_spared a_leaveGift a_leaveFrom a_leaveTo a_lateDay a_lateOffice a_lateBy a_guests a_who a_used a_lacks a_candles a_masses a_owing a_heldOn a_waits a_tape a_text a_statements a_taken a_sort a_first a_second : Nat} {v_today v_monks v_aways v_feasts v_gifts v_leaves v_lates v_store v_allCandles v_taped v_size v_at v_fault v_rules v_wordEnd v_number : Int32} {f_who : Nat → Int32} {d k : Int32} (h0_today : 0 ≤ v_today.toInt) (h1_today : v_today.toInt ≤ 1094) : Met l yX12_turn wsX12_turn ({ frames := 2, cells := 0, slots := 0, locals := 43 }) (RO D cI cZ cB [.ref h, .int d, .int k] [(h, .inr (11, [.int v_today, .int v_monks, .int v_aways, .int v_feasts, .int v_gifts, .int v_leaves, .int v_lates, .int v_store, .int v_allCandles, .ref a_isPriest, .ref a_bars, .ref a_joined, .ref a_turns, .ref a_awayMonk, .ref a_awayFrom, .ref a_awayTo, .ref a_feastDay, .ref a_rank, .ref a_isWeekly, .ref a_isDouble, .ref a_giftDay, .ref a_giftFrom, .ref a_owed, .ref a_said, .ref a_spared, .ref a_leaveGift, .ref a_leaveFrom, .ref a_leaveTo, .ref a_lateDay, .ref a_lateOffice, .ref a_lateBy, .ref a_guests, .ref a_who, .ref a_used, .ref a_lacks, .ref a_candles, .ref a_masses, .ref a_owing, .ref a_heldOn, .ref a_waits, .ref a_tape, .ref a_text, .int v_taped, .int v_size, .int v_at, .int v_fault, .int v_rules, .ref a_statements, .ref a_taken, .ref a_sort, .ref a_first, .ref a_second, .int v_wordEnd, .int v_number])), (a_who, .inl (cI, 4380, .inl f_who))]) (vp_Si (fun r : Int32 => True)) 0 0 (fun _ => False) := by
  refine ro_ret (cc := cX12_turn) (maxL := 3) (ty := .int) (own := RX12) (by decide) rfl rfl (Nat.le_of_ble_eq_true rfl) ?_
  intro p e s m args below meth c Q S hret hP hK ls hl
  obtain ⟨hx, hb, hml, hown, hts⟩ := id S
  have hl : lv_has ls 3 [(0, .ref h), (1, .int d), (2, .int k)] := hl
  have kkm1 : (-1 : Int32).toInt = -1 := by decide
  have kk0 : (0 : Int32).toInt = 0 := by decide
  have kk3 : (3 : Int32).toInt = 3 := by decide
  have kk4 : (4 : Int32).toInt = 4 := by decide
  have lk0 := hts (.fieldLink RX12 80 "AbbeyHoursModel" "who" "[I") (List.mem_cons_of_mem _ (List.mem_append_left _ (List.mem_of_getElem? (i := 0) rfl)))
  refine lv_aload_n hx hb dX12_turn_0 rfl (lv_at hl 0 rfl) ?_
  refine lv_iload_n hx hb dX12_turn_1 rfl (lv_at hl 1 rfl) ?_
  have hPc := hP.sub (ws' := [(h, .inr (11, [.int v_today, .int v_monks, .int v_aways, .int v_feasts, .int v_gifts, .int v_leaves, .int v_lates, .int v_store, .int v_allCandles, .ref a_isPriest, .ref a_bars, .ref a_joined, .ref a_turns, .ref a_awayMonk, .ref a_awayFrom, .ref a_awayTo, .ref a_feastDay, .ref a_rank, .ref a_isWeekly, .ref a_isDouble, .ref a_giftDay, .ref a_giftFrom, .ref a_owed, .ref a_said, .ref a_spared, .ref a_leaveGift, .ref a_leaveFrom, .ref a_leaveTo, .ref a_lateDay, .ref a_lateOffice, .ref a_lateBy, .ref a_guests, .ref a_who, .ref a_used, .ref a_lacks, .ref a_candles, .ref a_masses, .ref a_owing, .ref a_heldOn, .ref a_waits, .ref a_tape, .ref a_text, .int v_taped, .int v_size, .int v_at, .int v_fault, .int v_rules, .ref a_statements, .ref a_taken, .ref a_sort, .ref a_first, .ref a_second, .int v_wordEnd, .int v_number]))]) [0] rfl
  refine roV (As := [.int d]) (rest := []) S (n_hasGone  (by omega) (by omega)) (cwV 1 hts gX12_turn_X12_hasGone rfl rfl rfl ⟨rfl, hd_X12_hasGone⟩ ⟨Nat.le_of_ble_eq_true rfl, Nat.le_of_ble_eq_true rfl⟩) hK hPc (va_recv hK.1 hPc (ci := 11) (q0 := 0) rfl rfl) rfl hl.1 rfl (Nat.le_of_ble_eq_true rfl) dX12_turn_2 ⟨Nat.le_of_ble_eq_true rfl, Nat.le_of_ble_eq_true rfl⟩ (fun r_1 hw_1 => ?_)
  have hw_1 : (r_1.toInt = 1 ∧ 0 ≤ d.toInt ∧ d.toInt < v_today.toInt) ∨ (r_1.toInt = 0 ∧ (d.toInt < 0 ∨ v_today.toInt ≤ d.toInt)) := hw_1
  refine lv_if_eq (tgt := 30) hx hb dX12_turn_5 (by decide) (fun c_2 => ?_) (fun c_2 => ?_)
  · have tc_2 := t_eq c_2
    refine lv_iconst (v := (-1)) hx hb dX12_turn_30 (by decide) ?_
    exact hret (-1) _ _ (show True from trivial) rfl dX12_turn_31
  · have tc_2 := t_neq c_2
    refine lv_iload_n hx hb dX12_turn_8 rfl (lv_at hl 2 rfl) ?_
    refine lv_iconst (v := 0) hx hb dX12_turn_9 (by decide) ?_
    refine lv_iconst (v := 3) hx hb dX12_turn_10 (by decide) ?_
    have hPc := hP.sub (ws' := []) [] rfl
    refine roS (As := [.int k, .int 0, .int 3]) (rest := []) S (m_isIn  ) (va_cwS 3 hts gX12_turn_X12_isIn rfl rfl rfl hd_X12_isIn ⟨Nat.le_of_ble_eq_true rfl, Nat.le_of_ble_eq_true rfl⟩) hK hPc rfl hl.1 rfl (Nat.le_of_ble_eq_true rfl) dX12_turn_11 ⟨Nat.le_of_ble_eq_true rfl, Nat.le_of_ble_eq_true rfl⟩ (fun r_3 hw_3 => ?_)
    have hw_3 : (r_3.toInt = 1 ∧ (0 : Int32).toInt ≤ k.toInt ∧ k.toInt ≤ (3 : Int32).toInt) ∨ (r_3.toInt = 0 ∧ (k.toInt < (0 : Int32).toInt ∨ (3 : Int32).toInt < k.toInt)) := hw_3
    refine lv_if_eq (tgt := 30) hx hb dX12_turn_14 (by decide) (fun c_4 => ?_) (fun c_4 => ?_)
    · have tc_4 := t_eq c_4
      refine lv_iconst (v := (-1)) hx hb dX12_turn_30 (by decide) ?_
      exact hret (-1) _ _ (show True from trivial) rfl dX12_turn_31
    · have tc_4 := t_neq c_4
      refine lv_aload_n hx hb dX12_turn_17 rfl (lv_at hl 0 rfl) ?_
      refine va_get (D := D) (ci := 11) (v := .ref a_who) (C := RX12) (T := TX12) (N := 54) hx hb hts in_N_turn_X12 hown hK.1 hP 0 rfl rfl 32 (by decide) lk0 (fun _ h9 => h9) rfl dX12_turn_18 ?_
      refine lv_iconst (v := 4) hx hb dX12_turn_21 (by decide) ?_
      refine lv_iload_n hx hb dX12_turn_22 rfl (lv_at hl 1 rfl) ?_
      refine lv_imul hx hb dX12_turn_23 ?_
      refine lv_topi (fun x_5 ex_5 => ?_)
      first | have tx_5 := t_mulL kk4 ex_5 (by omega) (by omega) | skip
      refine lv_iload_n hx hb dX12_turn_24 rfl (lv_at hl 2 rfl) ?_
      refine lv_iadd hx hb dX12_turn_25 ?_
      refine lv_topi (fun x_6 ex_6 => ?_)
      first | have tx_6 := t_add ex_6 (by omega) (by omega) | skip
      refine va_iald hx hb hK.1 hP 1 0 rfl rfl (t_in (by omega) (by omega)) dX12_turn_26 ?_
      refine lv_topi (fun y_7 ey_7 => ?_)
      refine lv_goto (tgt := 31) hx hb dX12_turn_27 (by decide) ?_
      exact hret y_7 _ _ (show True from trivial) rfl dX12_turn_31

theorem in_N_turns_X12 : ∀ w ∈ wsX120, w ∈ wsX12_turns := tl_X12_turns_X12
set_option maxHeartbeats 8000000 in
set_option maxRecDepth 100000 in
theorem N_turns {l : Launch} {D : va_G} {cI cZ cB : ClassId} {h a_isPriest a_bars a_joined a_turns a_awayMonk a_awayFrom a_awayTo a_feastDay a_rank a_isWeekly a_isDouble a_giftDay a_giftFrom a_owed a_said a_spared a_leaveGift a_leaveFrom a_leaveTo a_lateDay a_lateOffice a_lateBy a_guests a_who a_used a_lacks a_candles a_masses a_owing a_heldOn a_waits a_tape a_text a_statements a_taken a_sort a_first a_second : Nat} {v_today v_monks v_aways v_feasts v_gifts v_leaves v_lates v_store v_allCandles v_taped v_size v_at v_fault v_rules v_wordEnd v_number : Int32} {f_turns : Nat → Int32} {i k : Int32} (h0_monks : 0 ≤ v_monks.toInt) (h1_monks : v_monks.toInt ≤ 24) : Met l yX12_turns wsX12_turns ({ frames := 2, cells := 0, slots := 0, locals := 43 }) (RO D cI cZ cB [.ref h, .int i, .int k] [(h, .inr (11, [.int v_today, .int v_monks, .int v_aways, .int v_feasts, .int v_gifts, .int v_leaves, .int v_lates, .int v_store, .int v_allCandles, .ref a_isPriest, .ref a_bars, .ref a_joined, .ref a_turns, .ref a_awayMonk, .ref a_awayFrom, .ref a_awayTo, .ref a_feastDay, .ref a_rank, .ref a_isWeekly, .ref a_isDouble, .ref a_giftDay, .ref a_giftFrom, .ref a_owed, .ref a_said, .ref a_spared, .ref a_leaveGift, .ref a_leaveFrom, .ref a_leaveTo, .ref a_lateDay, .ref a_lateOffice, .ref a_lateBy, .ref a_guests, .ref a_who, .ref a_used, .ref a_lacks, .ref a_candles, .ref a_masses, .ref a_owing, .ref a_heldOn, .ref a_waits, .ref a_tape, .ref a_text, .int v_taped, .int v_size, .int v_at, .int v_fault, .int v_rules, .ref a_statements, .ref a_taken, .ref a_sort, .ref a_first, .ref a_second, .int v_wordEnd, .int v_number])), (a_turns, .inl (cI, 96, .inl f_turns))]) (vp_Si (fun r : Int32 => True)) 0 0 (fun _ => False) := by
  refine ro_ret (cc := cX12_turns) (maxL := 5) (ty := .int) (own := RX12) (by decide) rfl rfl (Nat.le_of_ble_eq_true rfl) ?_
  intro p e s m args below meth c Q S hret hP hK ls hl
  obtain ⟨hx, hb, hml, hown, hts⟩ := id S
  have hl : lv_has ls 5 [(0, .ref h), (1, .int i), (2, .int k)] := hl
  have kkm1 : (-1 : Int32).toInt = -1 := by decide
  have kk0 : (0 : Int32).toInt = 0 := by decide
  have kk1 : (1 : Int32).toInt = 1 := by decide
  have kk4 : (4 : Int32).toInt = 4 := by decide
  have lk0 := hts (.fieldLink RX12 20 "AbbeyHoursModel" "turns" "[I") (List.mem_cons_of_mem _ (List.mem_append_left _ (List.mem_of_getElem? (i := 0) rfl)))
  refine lv_aload_n hx hb dX12_turns_0 rfl (lv_at hl 0 rfl) ?_
  refine lv_iload_n hx hb dX12_turns_1 rfl (lv_at hl 1 rfl) ?_
  have hPc := hP.sub (ws' := [(h, .inr (11, [.int v_today, .int v_monks, .int v_aways, .int v_feasts, .int v_gifts, .int v_leaves, .int v_lates, .int v_store, .int v_allCandles, .ref a_isPriest, .ref a_bars, .ref a_joined, .ref a_turns, .ref a_awayMonk, .ref a_awayFrom, .ref a_awayTo, .ref a_feastDay, .ref a_rank, .ref a_isWeekly, .ref a_isDouble, .ref a_giftDay, .ref a_giftFrom, .ref a_owed, .ref a_said, .ref a_spared, .ref a_leaveGift, .ref a_leaveFrom, .ref a_leaveTo, .ref a_lateDay, .ref a_lateOffice, .ref a_lateBy, .ref a_guests, .ref a_who, .ref a_used, .ref a_lacks, .ref a_candles, .ref a_masses, .ref a_owing, .ref a_heldOn, .ref a_waits, .ref a_tape, .ref a_text, .int v_taped, .int v_size, .int v_at, .int v_fault, .int v_rules, .ref a_statements, .ref a_taken, .ref a_sort, .ref a_first, .ref a_second, .int v_wordEnd, .int v_number]))]) [0] rfl
  refine roV (As := [.int i]) (rest := []) S (n_isMonk  (by omega) (by omega)) (cwV 1 hts gX12_turns_X12_isMonk rfl rfl rfl ⟨rfl, hd_X12_isMonk⟩ ⟨Nat.le_of_ble_eq_true rfl, Nat.le_of_ble_eq_true rfl⟩) hK hPc (va_recv hK.1 hPc (ci := 11) (q0 := 0) rfl rfl) rfl hl.1 rfl (Nat.le_of_ble_eq_true rfl) dX12_turns_2 ⟨Nat.le_of_ble_eq_true rfl, Nat.le_of_ble_eq_true rfl⟩ (fun r_1 hw_1 => ?_)
  have hw_1 : (r_1.toInt = 1 ∧ 0 ≤ i.toInt ∧ i.toInt < v_monks.toInt) ∨ (r_1.toInt = 0 ∧ (i.toInt < 0 ∨ v_monks.toInt ≤ i.toInt)) := hw_1
  refine lv_if_eq (tgt := 17) hx hb dX12_turns_5 (by decide) (fun c_2 => ?_) (fun c_2 => ?_)
  · have tc_2 := t_eq c_2
    refine lv_iconst (v := (-1)) hx hb dX12_turns_17 (by decide) ?_
    exact hret (-1) _ _ (show True from trivial) rfl dX12_turns_18
  · have tc_2 := t_neq c_2
    refine lv_iload_n hx hb dX12_turns_8 rfl (lv_at hl 2 rfl) ?_
    refine lv_iconst (v := 0) hx hb dX12_turns_9 (by decide) ?_
    refine lv_iconst (v := 4) hx hb dX12_turns_10 (by decide) ?_
    have hPc := hP.sub (ws' := []) [] rfl
    refine roS (As := [.int k, .int 0, .int 4]) (rest := []) S (m_isIn  ) (va_cwS 3 hts gX12_turns_X12_isIn rfl rfl rfl hd_X12_isIn ⟨Nat.le_of_ble_eq_true rfl, Nat.le_of_ble_eq_true rfl⟩) hK hPc rfl hl.1 rfl (Nat.le_of_ble_eq_true rfl) dX12_turns_11 ⟨Nat.le_of_ble_eq_true rfl, Nat.le_of_ble_eq_true rfl⟩ (fun r_3 hw_3 => ?_)
    have hw_3 : (r_3.toInt = 1 ∧ (0 : Int32).toInt ≤ k.toInt ∧ k.toInt ≤ (4 : Int32).toInt) ∨ (r_3.toInt = 0 ∧ (k.toInt < (0 : Int32).toInt ∨ (4 : Int32).toInt < k.toInt)) := hw_3
    refine lv_if_ne (tgt := 19) hx hb dX12_turns_14 (by decide) (fun c_4 => ?_) (fun c_4 => ?_)
    · have tc_4 := t_neq c_4
      refine lv_iload_n hx hb dX12_turns_19 rfl (lv_at hl 2 rfl) ?_
      refine lv_iconst (v := 4) hx hb dX12_turns_20 (by decide) ?_
      refine lv_icmp_ge (tgt := 35) hx hb dX12_turns_21 (by decide) (fun c_5 => ?_) (fun c_5 => ?_)
      · have tc_5 := t_le c_5
        refine lv_iconst (v := 0) hx hb dX12_turns_35 (by decide) ?_
        refine lv_istore_n (lv' := [(3, .int 0), (0, .ref h), (1, .int i), (2, .int k)]) hx hb dX12_turns_36 rfl hl (by decide) rfl (fun ls hl => ?_)
        refine lv_iconst (v := 0) hx hb dX12_turns_37 (by decide) ?_
        refine lv_istore (lv' := [(4, .int 0), (3, .int 0), (0, .ref h), (1, .int i), (2, .int k)]) hx hb dX12_turns_38 hl (by decide) rfl (fun ls hl => ?_)
        have loop40 : ∀ (fuel : Nat) (a : Int32) (j : Int32), 4 - j.toInt < (fuel : Int) → (0 ≤ j.toInt) → (j.toInt ≤ 4) → ∀ ls : Array Slot, lv_has ls 5 [(4, .int j), (3, .int a), (0, .ref h), (1, .int i), (2, .int k)] → W p l e ({ frames := 2, cells := 0, slots := 0, locals := 43 } : Room) s m args below meth c s.heap [] 0 0 Q (F0 m 40 ls []) := by
          intro fuel
          induction fuel with
          | zero =>
            intro a j hmu hj0 hj1 ls hl
            exfalso; omega
          | succ fuel ih40 =>
            intro a j hmu hj0 hj1 ls hl
            refine lv_iload hx hb dX12_turns_40 (lv_at hl 0 rfl) ?_
            refine lv_iconst (v := 4) hx hb dX12_turns_42 (by decide) ?_
            refine lv_icmp_ge (tgt := 66) hx hb dX12_turns_43 (by decide) (fun c_6 => ?_) (fun c_6 => ?_)
            · have tc_6 := t_le c_6
              refine lv_iload_n hx hb dX12_turns_66 rfl (lv_at hl 1 rfl) ?_
              exact hret a _ _ (show True from trivial) rfl dX12_turns_67
            · have tc_6 := t_nle c_6
              refine lv_iload_n hx hb dX12_turns_46 rfl (lv_at hl 1 rfl) ?_
              refine lv_aload_n hx hb dX12_turns_47 rfl (lv_at hl 2 rfl) ?_
              refine va_get (D := D) (ci := 11) (v := .ref a_turns) (C := RX12) (T := TX12) (N := 54) hx hb hts in_N_turns_X12 hown hK.1 hP 0 rfl rfl 12 (by decide) lk0 (fun _ h9 => h9) rfl dX12_turns_48 ?_
              refine lv_iconst (v := 4) hx hb dX12_turns_51 (by decide) ?_
              refine lv_iload_n hx hb dX12_turns_52 rfl (lv_at hl 3 rfl) ?_
              refine lv_imul hx hb dX12_turns_53 ?_
              refine lv_topi (fun x_7 ex_7 => ?_)
              first | have tx_7 := t_mulL kk4 ex_7 (by omega) (by omega) | skip
              refine lv_iload hx hb dX12_turns_54 (lv_at hl 0 rfl) ?_
              refine lv_iadd hx hb dX12_turns_56 ?_
              refine lv_topi (fun x_8 ex_8 => ?_)
              first | have tx_8 := t_add ex_8 (by omega) (by omega) | skip
              refine va_iald hx hb hK.1 hP 1 0 rfl rfl (t_in (by omega) (by omega)) dX12_turns_57 ?_
              refine lv_topi (fun y_9 ey_9 => ?_)
              refine lv_iadd hx hb dX12_turns_58 ?_
              refine lv_topi (fun x_10 ex_10 => ?_)
              refine lv_istore_n (lv' := [(3, .int x_10), (4, .int j), (0, .ref h), (1, .int i), (2, .int k)]) hx hb dX12_turns_59 rfl hl (by decide) rfl (fun ls hl => ?_)
              obtain ⟨x_11, ex_11⟩ : ∃ y : Int32, y = j + 1 := ⟨_, rfl⟩
              refine lv_iinc (v := x_11) (lv' := [(4, .int x_11), (3, .int x_10), (0, .ref h), (1, .int i), (2, .int k)]) hx hb dX12_turns_60 hl (k := 1) rfl (by rw [ex_11]; rfl) (by decide) rfl (fun ls hl => ?_)
              first | have tx_11 := t_add ex_11 (by omega) (by omega) | skip
              refine lv_goto (tgt := 40) hx hb dX12_turns_63 (by decide) ?_
              exact ih40 x_10 x_11 (by omega) (by omega) (by omega) ls (lv_sub hl [0, 1, 2, 3, 4] rfl)
        exact loop40 ((4 - (0 : Int32).toInt).toNat + 1) 0 0 (by omega) (by omega) (by omega) ls (lv_sub hl [0, 1, 2, 3, 4] rfl)
      · have tc_5 := t_nle c_5
        refine lv_aload_n hx hb dX12_turns_24 rfl (lv_at hl 0 rfl) ?_
        refine va_get (D := D) (ci := 11) (v := .ref a_turns) (C := RX12) (T := TX12) (N := 54) hx hb hts in_N_turns_X12 hown hK.1 hP 0 rfl rfl 12 (by decide) lk0 (fun _ h9 => h9) rfl dX12_turns_25 ?_
        refine lv_iconst (v := 4) hx hb dX12_turns_28 (by decide) ?_
        refine lv_iload_n hx hb dX12_turns_29 rfl (lv_at hl 1 rfl) ?_
        refine lv_imul hx hb dX12_turns_30 ?_
        refine lv_topi (fun x_12 ex_12 => ?_)
        first | have tx_12 := t_mulL kk4 ex_12 (by omega) (by omega) | skip
        refine lv_iload_n hx hb dX12_turns_31 rfl (lv_at hl 2 rfl) ?_
        refine lv_iadd hx hb dX12_turns_32 ?_
        refine lv_topi (fun x_13 ex_13 => ?_)
        first | have tx_13 := t_add ex_13 (by omega) (by omega) | skip
        refine va_iald hx hb hK.1 hP 1 0 rfl rfl (t_in (by omega) (by omega)) dX12_turns_33 ?_
        refine lv_topi (fun y_14 ey_14 => ?_)
        exact hret y_14 _ _ (show True from trivial) rfl dX12_turns_34
    · have tc_4 := t_eq c_4
      refine lv_iconst (v := (-1)) hx hb dX12_turns_17 (by decide) ?_
      exact hret (-1) _ _ (show True from trivial) rfl dX12_turns_18

theorem in_N_fail_X12 : ∀ w ∈ wsX120, w ∈ wsX12_fail := tl_X12_fail_X12
set_option maxHeartbeats 8000000 in
set_option maxRecDepth 100000 in
theorem N_fail {l : Launch} {D : va_G} {cI cZ cB : ClassId} {sz : Nat} {h a_isPriest a_bars a_joined a_turns a_awayMonk a_awayFrom a_awayTo a_feastDay a_rank a_isWeekly a_isDouble a_giftDay a_giftFrom a_owed a_said a_spared a_leaveGift a_leaveFrom a_leaveTo a_lateDay a_lateOffice a_lateBy a_guests a_who a_used a_lacks a_candles a_masses a_owing a_heldOn a_waits a_tape a_text a_statements a_taken a_sort a_first a_second : Nat} {v_today v_monks v_aways v_feasts v_gifts v_leaves v_lates v_store v_allCandles v_taped v_size v_at v_fault v_rules v_wordEnd v_number : Int32} {f_bars f_joined f_turns f_awayMonk f_awayFrom f_awayTo f_who : Nat → Int32} {k : Int32} (h0_monks : 0 ≤ v_monks.toInt) (h1_monks : v_monks.toInt ≤ 24) (h0_aways : 0 ≤ v_aways.toInt) (h1_aways : v_aways.toInt ≤ 60) (h0_today : 0 ≤ v_today.toInt) (h1_today : v_today.toInt ≤ 1094) (hw : InR f_who 4380 (-1) 24) : Met l yX12_fail wsX12_fail ({ frames := 3, cells := 0, slots := 0, locals := 71 }) (RW D cI cZ cB [.ref h, .int k] sz [(h, .inr (11, [.int v_today, .int v_monks, .int v_aways, .int v_feasts, .int v_gifts, .int v_leaves, .int v_lates, .int v_store, .int v_allCandles, .ref a_isPriest, .ref a_bars, .ref a_joined, .ref a_turns, .ref a_awayMonk, .ref a_awayFrom, .ref a_awayTo, .ref a_feastDay, .ref a_rank, .ref a_isWeekly, .ref a_isDouble, .ref a_giftDay, .ref a_giftFrom, .ref a_owed, .ref a_said, .ref a_spared, .ref a_leaveGift, .ref a_leaveFrom, .ref a_leaveTo, .ref a_lateDay, .ref a_lateOffice, .ref a_lateBy, .ref a_guests, .ref a_who, .ref a_used, .ref a_lacks, .ref a_candles, .ref a_masses, .ref a_owing, .ref a_heldOn, .ref a_waits, .ref a_tape, .ref a_text, .int v_taped, .int v_size, .int v_at, .int v_fault, .int v_rules, .ref a_statements, .ref a_taken, .ref a_sort, .ref a_first, .ref a_second, .int v_wordEnd, .int v_number])), (a_bars, .inl (cI, 24, .inl f_bars)), (a_joined, .inl (cI, 24, .inl f_joined)), (a_turns, .inl (cI, 96, .inl f_turns)), (a_awayMonk, .inl (cI, 60, .inl f_awayMonk)), (a_awayFrom, .inl (cI, 60, .inl f_awayFrom)), (a_awayTo, .inl (cI, 60, .inl f_awayTo)), (a_who, .inl (cI, 4380, .inl f_who))]) (va_Qi (fun (r : Int32) (u : (Nat → Int32) × (Nat → Int32)) => InR u.1 4380 (-1) 24) (BW D [(h, .inr (11, [.int v_today, .int v_monks, .int v_aways, .int v_feasts, .int v_gifts, .int v_leaves, .int v_lates, .int v_store, .int v_allCandles, .ref a_isPriest, .ref a_bars, .ref a_joined, .ref a_turns, .ref a_awayMonk, .ref a_awayFrom, .ref a_awayTo, .ref a_feastDay, .ref a_rank, .ref a_isWeekly, .ref a_isDouble, .ref a_giftDay, .ref a_giftFrom, .ref a_owed, .ref a_said, .ref a_spared, .ref a_leaveGift, .ref a_leaveFrom, .ref a_leaveTo, .ref a_lateDay, .ref a_lateOffice, .ref a_lateBy, .ref a_guests, .ref a_who, .ref a_used, .ref a_lacks, .ref a_candles, .ref a_masses, .ref a_owing, .ref a_heldOn, .ref a_waits, .ref a_tape, .ref a_text, .int v_taped, .int v_size, .int v_at, .int v_fault, .int v_rules, .ref a_statements, .ref a_taken, .ref a_sort, .ref a_first, .ref a_second, .int v_wordEnd, .int v_number])), (a_bars, .inl (cI, 24, .inl f_bars)), (a_joined, .inl (cI, 24, .inl f_joined)), (a_turns, .inl (cI, 96, .inl f_turns)), (a_awayMonk, .inl (cI, 60, .inl f_awayMonk)), (a_awayFrom, .inl (cI, 60, .inl f_awayFrom)), (a_awayTo, .inl (cI, 60, .inl f_awayTo)), (a_who, .inl (cI, 4380, .inl f_who))] sz (fun u : (Nat → Int32) × (Nat → Int32) => [(h, .inr (11, [.int v_today, .int v_monks, .int v_aways, .int v_feasts, .int v_gifts, .int v_leaves, .int v_lates, .int v_store, .int v_allCandles, .ref a_isPriest, .ref a_bars, .ref a_joined, .ref a_turns, .ref a_awayMonk, .ref a_awayFrom, .ref a_awayTo, .ref a_feastDay, .ref a_rank, .ref a_isWeekly, .ref a_isDouble, .ref a_giftDay, .ref a_giftFrom, .ref a_owed, .ref a_said, .ref a_spared, .ref a_leaveGift, .ref a_leaveFrom, .ref a_leaveTo, .ref a_lateDay, .ref a_lateOffice, .ref a_lateBy, .ref a_guests, .ref a_who, .ref a_used, .ref a_lacks, .ref a_candles, .ref a_masses, .ref a_owing, .ref a_heldOn, .ref a_waits, .ref a_tape, .ref a_text, .int v_taped, .int v_size, .int v_at, .int v_fault, .int v_rules, .ref a_statements, .ref a_taken, .ref a_sort, .ref a_first, .ref a_second, .int v_wordEnd, .int v_number])), (a_bars, .inl (cI, 24, .inl f_bars)), (a_joined, .inl (cI, 24, .inl f_joined)), (a_turns, .inl (cI, 96, .inl u.2)), (a_awayMonk, .inl (cI, 60, .inl f_awayMonk)), (a_awayFrom, .inl (cI, 60, .inl f_awayFrom)), (a_awayTo, .inl (cI, 60, .inl f_awayTo)), (a_who, .inl (cI, 4380, .inl u.1))])) (va_A [(h, .inr (11, [.int v_today, .int v_monks, .int v_aways, .int v_feasts, .int v_gifts, .int v_leaves, .int v_lates, .int v_store, .int v_allCandles, .ref a_isPriest, .ref a_bars, .ref a_joined, .ref a_turns, .ref a_awayMonk, .ref a_awayFrom, .ref a_awayTo, .ref a_feastDay, .ref a_rank, .ref a_isWeekly, .ref a_isDouble, .ref a_giftDay, .ref a_giftFrom, .ref a_owed, .ref a_said, .ref a_spared, .ref a_leaveGift, .ref a_leaveFrom, .ref a_leaveTo, .ref a_lateDay, .ref a_lateOffice, .ref a_lateBy, .ref a_guests, .ref a_who, .ref a_used, .ref a_lacks, .ref a_candles, .ref a_masses, .ref a_owing, .ref a_heldOn, .ref a_waits, .ref a_tape, .ref a_text, .int v_taped, .int v_size, .int v_at, .int v_fault, .int v_rules, .ref a_statements, .ref a_taken, .ref a_sort, .ref a_first, .ref a_second, .int v_wordEnd, .int v_number])), (a_bars, .inl (cI, 24, .inl f_bars)), (a_joined, .inl (cI, 24, .inl f_joined)), (a_turns, .inl (cI, 96, .inl f_turns)), (a_awayMonk, .inl (cI, 60, .inl f_awayMonk)), (a_awayFrom, .inl (cI, 60, .inl f_awayFrom)), (a_awayTo, .inl (cI, 60, .inl f_awayTo)), (a_who, .inl (cI, 4380, .inl f_who))] sz)) 0 0 (va_A [(h, .inr (11, [.int v_today, .int v_monks, .int v_aways, .int v_feasts, .int v_gifts, .int v_leaves, .int v_lates, .int v_store, .int v_allCandles, .ref a_isPriest, .ref a_bars, .ref a_joined, .ref a_turns, .ref a_awayMonk, .ref a_awayFrom, .ref a_awayTo, .ref a_feastDay, .ref a_rank, .ref a_isWeekly, .ref a_isDouble, .ref a_giftDay, .ref a_giftFrom, .ref a_owed, .ref a_said, .ref a_spared, .ref a_leaveGift, .ref a_leaveFrom, .ref a_leaveTo, .ref a_lateDay, .ref a_lateOffice, .ref a_lateBy, .ref a_guests, .ref a_who, .ref a_used, .ref a_lacks, .ref a_candles, .ref a_masses, .ref a_owing, .ref a_heldOn, .ref a_waits, .ref a_tape, .ref a_text, .int v_taped, .int v_size, .int v_at, .int v_fault, .int v_rules, .ref a_statements, .ref a_taken, .ref a_sort, .ref a_first, .ref a_second, .int v_wordEnd, .int v_number])), (a_bars, .inl (cI, 24, .inl f_bars)), (a_joined, .inl (cI, 24, .inl f_joined)), (a_turns, .inl (cI, 96, .inl f_turns)), (a_awayMonk, .inl (cI, 60, .inl f_awayMonk)), (a_awayFrom, .inl (cI, 60, .inl f_awayFrom)), (a_awayTo, .inl (cI, 60, .inl f_awayTo)), (a_who, .inl (cI, 4380, .inl f_who))] sz) := by
  refine rw_ret (cc := cX12_fail) (maxL := 5) (ty := .int) (own := RX12) (by decide) rfl rfl (Nat.le_of_ble_eq_true rfl) ?_
  intro p e s m args below meth c Q A S hin hret hP hK hD hA hS ls hl
  obtain ⟨hx, hb, hml, hown, hts⟩ := id S
  have hl : lv_has ls 5 [(0, .ref h), (1, .int k)] := hl
  have kkm2 : (-2 : Int32).toInt = -2 := by decide
  have kkm1 : (-1 : Int32).toInt = -1 := by decide
  have kk0 : (0 : Int32).toInt = 0 := by decide
  have kk1 : (1 : Int32).toInt = 1 := by decide
  have kk3 : (3 : Int32).toInt = 3 := by decide
  have kk4 : (4 : Int32).toInt = 4 := by decide
  have lk0 := hts (.fieldLink RX12 140 "AbbeyHoursModel" "today" "I") (mc_X12_fail_r1 _ (List.mem_of_getElem? (i := 0) rfl))
  have lk1 := hts (.fieldLink RX12 80 "AbbeyHoursModel" "who" "[I") (mc_X12_fail_r1 _ (List.mem_of_getElem? (i := 1) rfl))
  have lk2 := hts (.fieldLink RX12 20 "AbbeyHoursModel" "turns" "[I") (mc_X12_fail_r1 _ (List.mem_of_getElem? (i := 2) rfl))
  refine lv_aload_n hx hb dX12_fail_0 rfl (lv_at hl 0 rfl) ?_
  refine va_get (D := D) (ci := 11) (v := .int v_today) (C := RX12) (T := TX12) (N := 54) hx hb hts in_N_fail_X12 hown hK.1 hP 0 rfl rfl 0 (by decide) lk0 (fun _ h9 => h9) rfl dX12_fail_1 ?_
  refine lv_iconst (v := 1) hx hb dX12_fail_4 (by decide) ?_
  refine lv_isub hx hb dX12_fail_5 ?_
  refine lv_topi (fun x_1 ex_1 => ?_)
  first | have tx_1 := t_sub ex_1 (by omega) (by omega) | skip
  refine lv_istore_n (lv' := [(2, .int x_1), (0, .ref h), (1, .int k)]) hx hb dX12_fail_6 rfl hl (by decide) rfl (fun ls hl => ?_)
  refine lv_iload_n hx hb dX12_fail_7 rfl (lv_at hl 0 rfl) ?_
  refine lv_if_lt (tgt := 34) hx hb dX12_fail_8 (by decide) (fun c_2 => ?_) (fun c_2 => ?_)
  · have tc_2 := t_lt c_2
    refine lv_bipush (v := (-2)) hx hb dX12_fail_34 (by decide) ?_
    exact hret (-2) (f_who, f_turns) _ _ _ _ (show InR f_who 4380 (-1) 24 from hw) rfl (hP.sub [0, 1, 2, 3, 4, 5, 6, 7] rfl) (hD.sub [0, 1, 2, 3, 4, 5, 6, 7] (by decide +kernel) rfl) hS dX12_fail_36
  · have tc_2 := t_nlt c_2
    refine lv_iload_n hx hb dX12_fail_11 rfl (lv_at hl 2 rfl) ?_
    refine lv_iconst (v := 0) hx hb dX12_fail_12 (by decide) ?_
    refine lv_iconst (v := 3) hx hb dX12_fail_13 (by decide) ?_
    have hPc := hP.sub (ws' := []) [] rfl
    refine roS (As := [.int k, .int 0, .int 3]) (rest := []) S (m_isIn  ) (va_cwS 3 hts gX12_fail_X12_isIn rfl rfl rfl hd_X12_isIn ⟨Nat.le_of_ble_eq_true rfl, Nat.le_of_ble_eq_true rfl⟩) hK hPc rfl hl.1 rfl (Nat.le_of_ble_eq_true rfl) dX12_fail_14 ⟨Nat.le_of_ble_eq_true rfl, Nat.le_of_ble_eq_true rfl⟩ (fun r_3 hw_3 => ?_)
    have hw_3 : (r_3.toInt = 1 ∧ (0 : Int32).toInt ≤ k.toInt ∧ k.toInt ≤ (3 : Int32).toInt) ∨ (r_3.toInt = 0 ∧ (k.toInt < (0 : Int32).toInt ∨ (3 : Int32).toInt < k.toInt)) := hw_3
    refine lv_if_eq (tgt := 34) hx hb dX12_fail_17 (by decide) (fun c_4 => ?_) (fun c_4 => ?_)
    · have tc_4 := t_eq c_4
      refine lv_bipush (v := (-2)) hx hb dX12_fail_34 (by decide) ?_
      exact hret (-2) (f_who, f_turns) _ _ _ _ (show InR f_who 4380 (-1) 24 from hw) rfl (hP.sub [0, 1, 2, 3, 4, 5, 6, 7] rfl) (hD.sub [0, 1, 2, 3, 4, 5, 6, 7] (by decide +kernel) rfl) hS dX12_fail_36
    · have tc_4 := t_neq c_4
      refine lv_aload_n hx hb dX12_fail_20 rfl (lv_at hl 1 rfl) ?_
      refine va_get (D := D) (ci := 11) (v := .ref a_who) (C := RX12) (T := TX12) (N := 54) hx hb hts in_N_fail_X12 hown hK.1 hP 0 rfl rfl 32 (by decide) lk1 (fun _ h9 => h9) rfl dX12_fail_21 ?_
      refine lv_iconst (v := 4) hx hb dX12_fail_24 (by decide) ?_
      refine lv_iload_n hx hb dX12_fail_25 rfl (lv_at hl 0 rfl) ?_
      refine lv_imul hx hb dX12_fail_26 ?_
      refine lv_topi (fun m1 em1 => ?_)
      first | have tm1 := t_mulL kk4 em1 (by omega) (by omega) | skip
      refine lv_iload_n hx hb dX12_fail_27 rfl (lv_at hl 2 rfl) ?_
      refine lv_iadd hx hb dX12_fail_28 ?_
      refine lv_topi (fun i1 ei1 => ?_)
      first | have ti1 := t_add ei1 (by omega) (by omega) | skip
      refine va_iald hx hb hK.1 hP 7 0 rfl rfl (t_in (by omega) (by omega)) dX12_fail_29 ?_
      refine lv_topi (fun y1 ey1 => ?_)
      refine lv_iconst (v := (-1)) hx hb dX12_fail_30 (by decide) ?_
      refine lv_icmp_ne (tgt := 37) hx hb dX12_fail_31 (by decide) (fun c_8 => ?_) (fun c_8 => ?_)
      · have tc_8 := t_neq c_8
        refine lv_aload_n hx hb dX12_fail_37 rfl (lv_at hl 1 rfl) ?_
        refine va_get (D := D) (ci := 11) (v := .ref a_who) (C := RX12) (T := TX12) (N := 54) hx hb hts in_N_fail_X12 hown hK.1 hP 0 rfl rfl 32 (by decide) lk1 (fun _ h9 => h9) rfl dX12_fail_38 ?_
        refine lv_iconst (v := 4) hx hb dX12_fail_41 (by decide) ?_
        refine lv_iload_n hx hb dX12_fail_42 rfl (lv_at hl 0 rfl) ?_
        refine lv_imul hx hb dX12_fail_43 ?_
        refine lv_topi (fun m2 em2 => ?_)
        first | have tm2 := t_mulL kk4 em2 (by omega) (by omega) | skip
        refine lv_iload_n hx hb dX12_fail_44 rfl (lv_at hl 2 rfl) ?_
        refine lv_iadd hx hb dX12_fail_45 ?_
        refine lv_topi (fun i2 ei2 => ?_)
        first | have ti2 := t_add ei2 (by omega) (by omega) | skip
        refine va_iald hx hb hK.1 hP 7 0 rfl rfl (t_in (by omega) (by omega)) dX12_fail_46 ?_
        refine lv_topi (fun y2 ey2 => ?_)
        have hq : -1 ≤ y2.toInt ∧ y2.toInt < 24 := by rw [ey2]; exact hw.get (by omega) (by omega)
        have hii : i2 = i1 := by rw [ei2, ei1, em2, em1]
        have hy12 := t_eq (show y2 = y1 by rw [ey2, ey1, hii])
        refine lv_istore_n (lv' := [(3, .int y2), (2, .int x_1), (0, .ref h), (1, .int k)]) hx hb dX12_fail_47 rfl hl (by decide) rfl (fun ls hl => ?_)
        refine lv_aload_n hx hb dX12_fail_48 rfl (lv_at hl 2 rfl) ?_
        refine va_get (D := D) (ci := 11) (v := .ref a_turns) (C := RX12) (T := TX12) (N := 54) hx hb hts in_N_fail_X12 hown hK.1 hP 0 rfl rfl 12 (by decide) lk2 (fun _ h9 => h9) rfl dX12_fail_49 ?_
        refine lv_iconst (v := 4) hx hb dX12_fail_52 (by decide) ?_
        refine lv_iload_n hx hb dX12_fail_53 rfl (lv_at hl 0 rfl) ?_
        refine lv_imul hx hb dX12_fail_54 ?_
        refine lv_topi (fun x_12 ex_12 => ?_)
        first | have tx_12 := t_mulL kk4 ex_12 (by omega) (by omega) | skip
        refine lv_iload_n hx hb dX12_fail_55 rfl (lv_at hl 3 rfl) ?_
        refine lv_iadd hx hb dX12_fail_56 ?_
        refine lv_topi (fun x_13 ex_13 => ?_)
        first | have tx_13 := t_add ex_13 (by omega) (by omega) | skip
        refine lv_dup2_11 hx hb dX12_fail_57 rfl rfl ?_
        refine va_iald hx hb hK.1 hP 3 0 rfl rfl (t_in (by omega) (by omega)) dX12_fail_58 ?_
        refine lv_topi (fun y_14 ey_14 => ?_)
        refine lv_iconst (v := 1) hx hb dX12_fail_59 (by decide) ?_
        refine lv_isub hx hb dX12_fail_60 ?_
        refine lv_topi (fun x_15 ex_15 => ?_)
        refine va_iast hx hb hK.1 hP hD hS 3 0 rfl rfl (t_in (by omega) (by omega)) dX12_fail_61 (fun H locs hP hD hS => ?_)
        obtain ⟨g_16, eg_16⟩ : ∃ z : Nat → Int32, z = upd f_turns ((x_13 : Int32).toNatClampNeg) x_15 := ⟨_, rfl⟩
        rw [← eg_16] at hP hD
        have hP : va_P D vwCl [(h, .inr (11, [.int v_today, .int v_monks, .int v_aways, .int v_feasts, .int v_gifts, .int v_leaves, .int v_lates, .int v_store, .int v_allCandles, .ref a_isPriest, .ref a_bars, .ref a_joined, .ref a_turns, .ref a_awayMonk, .ref a_awayFrom, .ref a_awayTo, .ref a_feastDay, .ref a_rank, .ref a_isWeekly, .ref a_isDouble, .ref a_giftDay, .ref a_giftFrom, .ref a_owed, .ref a_said, .ref a_spared, .ref a_leaveGift, .ref a_leaveFrom, .ref a_leaveTo, .ref a_lateDay, .ref a_lateOffice, .ref a_lateBy, .ref a_guests, .ref a_who, .ref a_used, .ref a_lacks, .ref a_candles, .ref a_masses, .ref a_owing, .ref a_heldOn, .ref a_waits, .ref a_tape, .ref a_text, .int v_taped, .int v_size, .int v_at, .int v_fault, .int v_rules, .ref a_statements, .ref a_taken, .ref a_sort, .ref a_first, .ref a_second, .int v_wordEnd, .int v_number])), (a_bars, .inl (cI, 24, .inl f_bars)), (a_joined, .inl (cI, 24, .inl f_joined)), (a_turns, .inl (cI, 96, .inl g_16)), (a_awayMonk, .inl (cI, 60, .inl f_awayMonk)), (a_awayFrom, .inl (cI, 60, .inl f_awayFrom)), (a_awayTo, .inl (cI, 60, .inl f_awayTo)), (a_who, .inl (cI, 4380, .inl f_who))] H := hP
        have hD := asD hP hD
        refine lv_aload_n hx hb dX12_fail_62 rfl (lv_at hl 2 rfl) ?_
        refine va_get (D := D) (ci := 11) (v := .ref a_who) (C := RX12) (T := TX12) (N := 54) hx hb hts in_N_fail_X12 hown hK.1 hP 0 rfl rfl 32 (by decide) lk1 (fun _ h9 => h9) rfl dX12_fail_63 ?_
        refine lv_iconst (v := 4) hx hb dX12_fail_66 (by decide) ?_
        refine lv_iload_n hx hb dX12_fail_67 rfl (lv_at hl 1 rfl) ?_
        refine lv_imul hx hb dX12_fail_68 ?_
        refine lv_topi (fun x_17 ex_17 => ?_)
        first | have tx_17 := t_mulL kk4 ex_17 (by omega) (by omega) | skip
        refine lv_iload_n hx hb dX12_fail_69 rfl (lv_at hl 3 rfl) ?_
        refine lv_iadd hx hb dX12_fail_70 ?_
        refine lv_topi (fun x_18 ex_18 => ?_)
        first | have tx_18 := t_add ex_18 (by omega) (by omega) | skip
        refine lv_iconst (v := (-1)) hx hb dX12_fail_71 (by decide) ?_
        refine va_iast hx hb hK.1 hP hD hS 7 0 rfl rfl (t_in (by omega) (by omega)) dX12_fail_72 (fun H locs hP hD hS => ?_)
        obtain ⟨gw, egw⟩ : ∃ z : Nat → Int32, z = upd f_who ((x_18 : Int32).toNatClampNeg) (-1) := ⟨_, rfl⟩
        rw [← egw] at hP hD
        have hP : va_P D vwCl [(h, .inr (11, [.int v_today, .int v_monks, .int v_aways, .int v_feasts, .int v_gifts, .int v_leaves, .int v_lates, .int v_store, .int v_allCandles, .ref a_isPriest, .ref a_bars, .ref a_joined, .ref a_turns, .ref a_awayMonk, .ref a_awayFrom, .ref a_awayTo, .ref a_feastDay, .ref a_rank, .ref a_isWeekly, .ref a_isDouble, .ref a_giftDay, .ref a_giftFrom, .ref a_owed, .ref a_said, .ref a_spared, .ref a_leaveGift, .ref a_leaveFrom, .ref a_leaveTo, .ref a_lateDay, .ref a_lateOffice, .ref a_lateBy, .ref a_guests, .ref a_who, .ref a_used, .ref a_lacks, .ref a_candles, .ref a_masses, .ref a_owing, .ref a_heldOn, .ref a_waits, .ref a_tape, .ref a_text, .int v_taped, .int v_size, .int v_at, .int v_fault, .int v_rules, .ref a_statements, .ref a_taken, .ref a_sort, .ref a_first, .ref a_second, .int v_wordEnd, .int v_number])), (a_bars, .inl (cI, 24, .inl f_bars)), (a_joined, .inl (cI, 24, .inl f_joined)), (a_turns, .inl (cI, 96, .inl g_16)), (a_awayMonk, .inl (cI, 60, .inl f_awayMonk)), (a_awayFrom, .inl (cI, 60, .inl f_awayFrom)), (a_awayTo, .inl (cI, 60, .inl f_awayTo)), (a_who, .inl (cI, 4380, .inl gw))] H := hP
        have hD := asD hP hD
        have hw2 : InR gw 4380 (-1) 24 := by rw [egw]; exact hw.put (by omega) (by omega)
        refine lv_aload_n hx hb dX12_fail_73 rfl (lv_at hl 2 rfl) ?_
        refine lv_iload_n hx hb dX12_fail_74 rfl (lv_at hl 3 rfl) ?_
        refine lv_iload_n hx hb dX12_fail_75 rfl (lv_at hl 1 rfl) ?_
        refine lv_iload_n hx hb dX12_fail_76 rfl (lv_at hl 0 rfl) ?_
        have hPc := hP.sub (ws' := [(h, .inr (11, [.int v_today, .int v_monks, .int v_aways, .int v_feasts, .int v_gifts, .int v_leaves, .int v_lates, .int v_store, .int v_allCandles, .ref a_isPriest, .ref a_bars, .ref a_joined, .ref a_turns, .ref a_awayMonk, .ref a_awayFrom, .ref a_awayTo, .ref a_feastDay, .ref a_rank, .ref a_isWeekly, .ref a_isDouble, .ref a_giftDay, .ref a_giftFrom, .ref a_owed, .ref a_said, .ref a_spared, .ref a_leaveGift, .ref a_leaveFrom, .ref a_leaveTo, .ref a_lateDay, .ref a_lateOffice, .ref a_lateBy, .ref a_guests, .ref a_who, .ref a_used, .ref a_lacks, .ref a_candles, .ref a_masses, .ref a_owing, .ref a_heldOn, .ref a_waits, .ref a_tape, .ref a_text, .int v_taped, .int v_size, .int v_at, .int v_fault, .int v_rules, .ref a_statements, .ref a_taken, .ref a_sort, .ref a_first, .ref a_second, .int v_wordEnd, .int v_number])), (a_bars, .inl (cI, 24, .inl f_bars)), (a_joined, .inl (cI, 24, .inl f_joined)), (a_turns, .inl (cI, 96, .inl g_16)), (a_awayMonk, .inl (cI, 60, .inl f_awayMonk)), (a_awayFrom, .inl (cI, 60, .inl f_awayFrom)), (a_awayTo, .inl (cI, 60, .inl f_awayTo)), (a_who, .inl (cI, 4380, .inl gw))]) [0, 1, 2, 3, 4, 5, 6, 7] rfl
        refine roV (As := [.int k, .int x_1, .int y2]) (rest := []) S (n_nextFor  (by omega) (by omega) (by omega) (by omega) (by omega) (by omega) (by omega) (by omega)) (cwV 3 hts gX12_fail_X12_nextFor rfl rfl rfl ⟨rfl, hd_X12_nextFor⟩ ⟨Nat.le_of_ble_eq_true rfl, Nat.le_of_ble_eq_true rfl⟩) hK hPc (va_recv hK.1 hPc (ci := 11) (q0 := 0) rfl rfl) rfl hl.1 rfl (Nat.le_of_ble_eq_true rfl) dX12_fail_77 ⟨Nat.le_of_ble_eq_true rfl, Nat.le_of_ble_eq_true rfl⟩ (fun r_20 hw_20 => ?_)
        have hw_20 : r_20.toInt = -1 ∨ (0 ≤ r_20.toInt ∧ r_20.toInt < v_monks.toInt) := hw_20
        refine lv_istore (lv' := [(4, .int r_20), (3, .int y2), (2, .int x_1), (0, .ref h), (1, .int k)]) hx hb dX12_fail_80 hl (by decide) rfl (fun ls hl => ?_)
        refine lv_aload_n hx hb dX12_fail_82 rfl (lv_at hl 3 rfl) ?_
        refine lv_iload hx hb dX12_fail_83 (lv_at hl 0 rfl) ?_
        refine lv_iload_n hx hb dX12_fail_85 rfl (lv_at hl 4 rfl) ?_
        refine lv_iload_n hx hb dX12_fail_86 rfl (lv_at hl 2 rfl) ?_
        have hPc := hP.sub (ws' := [(h, .inr (11, [.int v_today, .int v_monks, .int v_aways, .int v_feasts, .int v_gifts, .int v_leaves, .int v_lates, .int v_store, .int v_allCandles, .ref a_isPriest, .ref a_bars, .ref a_joined, .ref a_turns, .ref a_awayMonk, .ref a_awayFrom, .ref a_awayTo, .ref a_feastDay, .ref a_rank, .ref a_isWeekly, .ref a_isDouble, .ref a_giftDay, .ref a_giftFrom, .ref a_owed, .ref a_said, .ref a_spared, .ref a_leaveGift, .ref a_leaveFrom, .ref a_leaveTo, .ref a_lateDay, .ref a_lateOffice, .ref a_lateBy, .ref a_guests, .ref a_who, .ref a_used, .ref a_lacks, .ref a_candles, .ref a_masses, .ref a_owing, .ref a_heldOn, .ref a_waits, .ref a_tape, .ref a_text, .int v_taped, .int v_size, .int v_at, .int v_fault, .int v_rules, .ref a_statements, .ref a_taken, .ref a_sort, .ref a_first, .ref a_second, .int v_wordEnd, .int v_number])), (a_turns, .inl (cI, 96, .inl g_16)), (a_who, .inl (cI, 4380, .inl gw))]) [0, 3, 7] rfl
        refine rwVv (As := [.int r_20, .int k, .int x_1]) (rest := []) (wc := [(h, .inr (11, [.int v_today, .int v_monks, .int v_aways, .int v_feasts, .int v_gifts, .int v_leaves, .int v_lates, .int v_store, .int v_allCandles, .ref a_isPriest, .ref a_bars, .ref a_joined, .ref a_turns, .ref a_awayMonk, .ref a_awayFrom, .ref a_awayTo, .ref a_feastDay, .ref a_rank, .ref a_isWeekly, .ref a_isDouble, .ref a_giftDay, .ref a_giftFrom, .ref a_owed, .ref a_said, .ref a_spared, .ref a_leaveGift, .ref a_leaveFrom, .ref a_leaveTo, .ref a_lateDay, .ref a_lateOffice, .ref a_lateBy, .ref a_guests, .ref a_who, .ref a_used, .ref a_lacks, .ref a_candles, .ref a_masses, .ref a_owing, .ref a_heldOn, .ref a_waits, .ref a_tape, .ref a_text, .int v_taped, .int v_size, .int v_at, .int v_fault, .int v_rules, .ref a_statements, .ref a_taken, .ref a_sort, .ref a_first, .ref a_second, .int v_wordEnd, .int v_number])), (a_turns, .inl (cI, 96, .inl g_16)), (a_who, .inl (cI, 4380, .inl gw))]) (wr := [(a_bars, .inl (cI, 24, .inl f_bars)), (a_joined, .inl (cI, 24, .inl f_joined)), (a_awayMonk, .inl (cI, 60, .inl f_awayMonk)), (a_awayFrom, .inl (cI, 60, .inl f_awayFrom)), (a_awayTo, .inl (cI, 60, .inl f_awayTo))]) S (n_has  (by omega) (by omega) (by omega) (by omega) (by omega) (hw2)) (cwV 3 hts gX12_fail_X12_has rfl rfl rfl ⟨rfl, hd_X12_has⟩ ⟨Nat.le_of_ble_eq_true rfl, Nat.le_of_ble_eq_true rfl⟩) hK hP hD hS hA [0, 3, 7] [1, 2, 4, 5, 6] rfl rfl (by decide +kernel) (by decide +kernel) (by decide +kernel) (va_recv hK.1 hPc (ci := 11) (q0 := 0) rfl rfl) rfl hl.1 rfl (Nat.le_of_ble_eq_true rfl) dX12_fail_87 ⟨Nat.le_of_ble_eq_true rfl, Nat.le_of_ble_eq_true rfl⟩ (fun u_ha H locs hw_ha hP hD hS => ?_)
        obtain ⟨f1_ha, f2_ha⟩ := u_ha
        have hw_ha : InR f1_ha 4380 (-1) 24 := hw_ha
        have hP : va_P D vwCl [(a_bars, .inl (cI, 24, .inl f_bars)), (a_joined, .inl (cI, 24, .inl f_joined)), (a_awayMonk, .inl (cI, 60, .inl f_awayMonk)), (a_awayFrom, .inl (cI, 60, .inl f_awayFrom)), (a_awayTo, .inl (cI, 60, .inl f_awayTo)), (h, .inr (11, [.int v_today, .int v_monks, .int v_aways, .int v_feasts, .int v_gifts, .int v_leaves, .int v_lates, .int v_store, .int v_allCandles, .ref a_isPriest, .ref a_bars, .ref a_joined, .ref a_turns, .ref a_awayMonk, .ref a_awayFrom, .ref a_awayTo, .ref a_feastDay, .ref a_rank, .ref a_isWeekly, .ref a_isDouble, .ref a_giftDay, .ref a_giftFrom, .ref a_owed, .ref a_said, .ref a_spared, .ref a_leaveGift, .ref a_leaveFrom, .ref a_leaveTo, .ref a_lateDay, .ref a_lateOffice, .ref a_lateBy, .ref a_guests, .ref a_who, .ref a_used, .ref a_lacks, .ref a_candles, .ref a_masses, .ref a_owing, .ref a_heldOn, .ref a_waits, .ref a_tape, .ref a_text, .int v_taped, .int v_size, .int v_at, .int v_fault, .int v_rules, .ref a_statements, .ref a_taken, .ref a_sort, .ref a_first, .ref a_second, .int v_wordEnd, .int v_number])), (a_turns, .inl (cI, 96, .inl f2_ha)), (a_who, .inl (cI, 4380, .inl f1_ha))] H := hP
        have hD := asD hP hD
        refine lv_iload hx hb dX12_fail_90 (lv_at hl 0 rfl) ?_
        exact hret r_20 (f1_ha, f2_ha) _ _ _ _ (show InR f1_ha 4380 (-1) 24 from hw_ha) rfl (hP.sub [5, 0, 1, 6, 2, 3, 4, 7] rfl) (hD.sub [5, 0, 1, 6, 2, 3, 4, 7] (by decide +kernel) rfl) hS dX12_fail_92
      · have tc_8 := t_eq c_8
        refine lv_bipush (v := (-2)) hx hb dX12_fail_34 (by decide) ?_
        exact hret (-2) (f_who, f_turns) _ _ _ _ (show InR f_who 4380 (-1) 24 from hw) rfl (hP.sub [0, 1, 2, 3, 4, 5, 6, 7] rfl) (hD.sub [0, 1, 2, 3, 4, 5, 6, 7] (by decide +kernel) rfl) hS dX12_fail_36

theorem in_N_dayOf_X12 : ∀ w ∈ wsX120, w ∈ wsX12_dayOf := tl_X12_dayOf_X12
set_option maxHeartbeats 8000000 in
set_option maxRecDepth 100000 in
theorem N_dayOf {l : Launch} {D : va_G} {cI cZ cB : ClassId} {h a_isPriest a_bars a_joined a_turns a_awayMonk a_awayFrom a_awayTo a_feastDay a_rank a_isWeekly a_isDouble a_giftDay a_giftFrom a_owed a_said a_spared a_leaveGift a_leaveFrom a_leaveTo a_lateDay a_lateOffice a_lateBy a_guests a_who a_used a_lacks a_candles a_masses a_owing a_heldOn a_waits a_tape a_text a_statements a_taken a_sort a_first a_second : Nat} {v_today v_monks v_aways v_feasts v_gifts v_leaves v_lates v_store v_allCandles v_taped v_size v_at v_fault v_rules v_wordEnd v_number : Int32} {f_used f_lacks f_candles f_masses f_owing : Nat → Int32} {d w : Int32} (h0_today : 0 ≤ v_today.toInt) (h1_today : v_today.toInt ≤ 1094) : Met l yX12_dayOf wsX12_dayOf ({ frames := 2, cells := 0, slots := 0, locals := 43 }) (RO D cI cZ cB [.ref h, .int d, .int w] [(h, .inr (11, [.int v_today, .int v_monks, .int v_aways, .int v_feasts, .int v_gifts, .int v_leaves, .int v_lates, .int v_store, .int v_allCandles, .ref a_isPriest, .ref a_bars, .ref a_joined, .ref a_turns, .ref a_awayMonk, .ref a_awayFrom, .ref a_awayTo, .ref a_feastDay, .ref a_rank, .ref a_isWeekly, .ref a_isDouble, .ref a_giftDay, .ref a_giftFrom, .ref a_owed, .ref a_said, .ref a_spared, .ref a_leaveGift, .ref a_leaveFrom, .ref a_leaveTo, .ref a_lateDay, .ref a_lateOffice, .ref a_lateBy, .ref a_guests, .ref a_who, .ref a_used, .ref a_lacks, .ref a_candles, .ref a_masses, .ref a_owing, .ref a_heldOn, .ref a_waits, .ref a_tape, .ref a_text, .int v_taped, .int v_size, .int v_at, .int v_fault, .int v_rules, .ref a_statements, .ref a_taken, .ref a_sort, .ref a_first, .ref a_second, .int v_wordEnd, .int v_number])), (a_used, .inl (cI, 1095, .inl f_used)), (a_lacks, .inl (cI, 1095, .inl f_lacks)), (a_candles, .inl (cI, 1095, .inl f_candles)), (a_masses, .inl (cI, 1095, .inl f_masses)), (a_owing, .inl (cI, 1095, .inl f_owing))]) (vp_Si (fun r : Int32 => True)) 0 0 (fun _ => False) := by
  refine ro_ret (cc := cX12_dayOf) (maxL := 3) (ty := .int) (own := RX12) (by decide) rfl rfl (Nat.le_of_ble_eq_true rfl) ?_
  intro p e s m args below meth c Q S hret hP hK ls hl
  obtain ⟨hx, hb, hml, hown, hts⟩ := id S
  have hl : lv_has ls 3 [(0, .ref h), (1, .int d), (2, .int w)] := hl
  have kkm1 : (-1 : Int32).toInt = -1 := by decide
  have kk0 : (0 : Int32).toInt = 0 := by decide
  have kk1 : (1 : Int32).toInt = 1 := by decide
  have kk2 : (2 : Int32).toInt = 2 := by decide
  have kk3 : (3 : Int32).toInt = 3 := by decide
  have kk4 : (4 : Int32).toInt = 4 := by decide
  have lk0 := hts (.fieldLink RX12 95 "AbbeyHoursModel" "owing" "[I") (List.mem_cons_of_mem _ (List.mem_append_left _ (List.mem_of_getElem? (i := 4) rfl)))
  have lk1 := hts (.fieldLink RX12 92 "AbbeyHoursModel" "masses" "[I") (List.mem_cons_of_mem _ (List.mem_append_left _ (List.mem_of_getElem? (i := 3) rfl)))
  have lk2 := hts (.fieldLink RX12 89 "AbbeyHoursModel" "candles" "[I") (List.mem_cons_of_mem _ (List.mem_append_left _ (List.mem_of_getElem? (i := 2) rfl)))
  have lk3 := hts (.fieldLink RX12 86 "AbbeyHoursModel" "lacks" "[I") (List.mem_cons_of_mem _ (List.mem_append_left _ (List.mem_of_getElem? (i := 1) rfl)))
  have lk4 := hts (.fieldLink RX12 83 "AbbeyHoursModel" "used" "[I") (List.mem_cons_of_mem _ (List.mem_append_left _ (List.mem_of_getElem? (i := 0) rfl)))
  refine lv_aload_n hx hb dX12_dayOf_0 rfl (lv_at hl 0 rfl) ?_
  refine lv_iload_n hx hb dX12_dayOf_1 rfl (lv_at hl 1 rfl) ?_
  have hPc := hP.sub (ws' := [(h, .inr (11, [.int v_today, .int v_monks, .int v_aways, .int v_feasts, .int v_gifts, .int v_leaves, .int v_lates, .int v_store, .int v_allCandles, .ref a_isPriest, .ref a_bars, .ref a_joined, .ref a_turns, .ref a_awayMonk, .ref a_awayFrom, .ref a_awayTo, .ref a_feastDay, .ref a_rank, .ref a_isWeekly, .ref a_isDouble, .ref a_giftDay, .ref a_giftFrom, .ref a_owed, .ref a_said, .ref a_spared, .ref a_leaveGift, .ref a_leaveFrom, .ref a_leaveTo, .ref a_lateDay, .ref a_lateOffice, .ref a_lateBy, .ref a_guests, .ref a_who, .ref a_used, .ref a_lacks, .ref a_candles, .ref a_masses, .ref a_owing, .ref a_heldOn, .ref a_waits, .ref a_tape, .ref a_text, .int v_taped, .int v_size, .int v_at, .int v_fault, .int v_rules, .ref a_statements, .ref a_taken, .ref a_sort, .ref a_first, .ref a_second, .int v_wordEnd, .int v_number]))]) [0] rfl
  refine roV (As := [.int d]) (rest := []) S (n_hasGone  (by omega) (by omega)) (cwV 1 hts gX12_dayOf_X12_hasGone rfl rfl rfl ⟨rfl, hd_X12_hasGone⟩ ⟨Nat.le_of_ble_eq_true rfl, Nat.le_of_ble_eq_true rfl⟩) hK hPc (va_recv hK.1 hPc (ci := 11) (q0 := 0) rfl rfl) rfl hl.1 rfl (Nat.le_of_ble_eq_true rfl) dX12_dayOf_2 ⟨Nat.le_of_ble_eq_true rfl, Nat.le_of_ble_eq_true rfl⟩ (fun r_1 hw_1 => ?_)
  have hw_1 : (r_1.toInt = 1 ∧ 0 ≤ d.toInt ∧ d.toInt < v_today.toInt) ∨ (r_1.toInt = 0 ∧ (d.toInt < 0 ∨ v_today.toInt ≤ d.toInt)) := hw_1
  refine lv_if_ne (tgt := 10) hx hb dX12_dayOf_5 (by decide) (fun c_2 => ?_) (fun c_2 => ?_)
  · have tc_2 := t_neq c_2
    refine lv_iload_n hx hb dX12_dayOf_10 rfl (lv_at hl 2 rfl) ?_
    refine lv_if_ne (tgt := 23) hx hb dX12_dayOf_11 (by decide) (fun c_3 => ?_) (fun c_3 => ?_)
    · have tc_3 := t_neq c_3
      refine lv_iload_n hx hb dX12_dayOf_23 rfl (lv_at hl 2 rfl) ?_
      refine lv_iconst (v := 1) hx hb dX12_dayOf_24 (by decide) ?_
      refine lv_icmp_ne (tgt := 37) hx hb dX12_dayOf_25 (by decide) (fun c_4 => ?_) (fun c_4 => ?_)
      · have tc_4 := t_neq c_4
        refine lv_iload_n hx hb dX12_dayOf_37 rfl (lv_at hl 2 rfl) ?_
        refine lv_iconst (v := 2) hx hb dX12_dayOf_38 (by decide) ?_
        refine lv_icmp_ne (tgt := 51) hx hb dX12_dayOf_39 (by decide) (fun c_5 => ?_) (fun c_5 => ?_)
        · have tc_5 := t_neq c_5
          refine lv_iload_n hx hb dX12_dayOf_51 rfl (lv_at hl 2 rfl) ?_
          refine lv_iconst (v := 3) hx hb dX12_dayOf_52 (by decide) ?_
          refine lv_icmp_ne (tgt := 65) hx hb dX12_dayOf_53 (by decide) (fun c_6 => ?_) (fun c_6 => ?_)
          · have tc_6 := t_neq c_6
            refine lv_iload_n hx hb dX12_dayOf_65 rfl (lv_at hl 2 rfl) ?_
            refine lv_iconst (v := 4) hx hb dX12_dayOf_66 (by decide) ?_
            refine lv_icmp_ne (tgt := 79) hx hb dX12_dayOf_67 (by decide) (fun c_7 => ?_) (fun c_7 => ?_)
            · have tc_7 := t_neq c_7
              refine lv_iconst (v := (-1)) hx hb dX12_dayOf_79 (by decide) ?_
              exact hret (-1) _ _ (show True from trivial) rfl dX12_dayOf_80
            · have tc_7 := t_eq c_7
              refine lv_aload_n hx hb dX12_dayOf_70 rfl (lv_at hl 0 rfl) ?_
              refine va_get (D := D) (ci := 11) (v := .ref a_owing) (C := RX12) (T := TX12) (N := 54) hx hb hts in_N_dayOf_X12 hown hK.1 hP 0 rfl rfl 37 (by decide) lk0 (fun _ h9 => h9) rfl dX12_dayOf_71 ?_
              refine lv_iload_n hx hb dX12_dayOf_74 rfl (lv_at hl 1 rfl) ?_
              refine va_iald hx hb hK.1 hP 5 0 rfl rfl (t_in (by omega) (by omega)) dX12_dayOf_75 ?_
              refine lv_topi (fun y_8 ey_8 => ?_)
              refine lv_goto (tgt := 80) hx hb dX12_dayOf_76 (by decide) ?_
              exact hret y_8 _ _ (show True from trivial) rfl dX12_dayOf_80
          · have tc_6 := t_eq c_6
            refine lv_aload_n hx hb dX12_dayOf_56 rfl (lv_at hl 0 rfl) ?_
            refine va_get (D := D) (ci := 11) (v := .ref a_masses) (C := RX12) (T := TX12) (N := 54) hx hb hts in_N_dayOf_X12 hown hK.1 hP 0 rfl rfl 36 (by decide) lk1 (fun _ h9 => h9) rfl dX12_dayOf_57 ?_
            refine lv_iload_n hx hb dX12_dayOf_60 rfl (lv_at hl 1 rfl) ?_
            refine va_iald hx hb hK.1 hP 4 0 rfl rfl (t_in (by omega) (by omega)) dX12_dayOf_61 ?_
            refine lv_topi (fun y_9 ey_9 => ?_)
            refine lv_goto (tgt := 80) hx hb dX12_dayOf_62 (by decide) ?_
            exact hret y_9 _ _ (show True from trivial) rfl dX12_dayOf_80
        · have tc_5 := t_eq c_5
          refine lv_aload_n hx hb dX12_dayOf_42 rfl (lv_at hl 0 rfl) ?_
          refine va_get (D := D) (ci := 11) (v := .ref a_candles) (C := RX12) (T := TX12) (N := 54) hx hb hts in_N_dayOf_X12 hown hK.1 hP 0 rfl rfl 35 (by decide) lk2 (fun _ h9 => h9) rfl dX12_dayOf_43 ?_
          refine lv_iload_n hx hb dX12_dayOf_46 rfl (lv_at hl 1 rfl) ?_
          refine va_iald hx hb hK.1 hP 3 0 rfl rfl (t_in (by omega) (by omega)) dX12_dayOf_47 ?_
          refine lv_topi (fun y_10 ey_10 => ?_)
          refine lv_goto (tgt := 80) hx hb dX12_dayOf_48 (by decide) ?_
          exact hret y_10 _ _ (show True from trivial) rfl dX12_dayOf_80
      · have tc_4 := t_eq c_4
        refine lv_aload_n hx hb dX12_dayOf_28 rfl (lv_at hl 0 rfl) ?_
        refine va_get (D := D) (ci := 11) (v := .ref a_lacks) (C := RX12) (T := TX12) (N := 54) hx hb hts in_N_dayOf_X12 hown hK.1 hP 0 rfl rfl 34 (by decide) lk3 (fun _ h9 => h9) rfl dX12_dayOf_29 ?_
        refine lv_iload_n hx hb dX12_dayOf_32 rfl (lv_at hl 1 rfl) ?_
        refine va_iald hx hb hK.1 hP 2 0 rfl rfl (t_in (by omega) (by omega)) dX12_dayOf_33 ?_
        refine lv_topi (fun y_11 ey_11 => ?_)
        refine lv_goto (tgt := 80) hx hb dX12_dayOf_34 (by decide) ?_
        exact hret y_11 _ _ (show True from trivial) rfl dX12_dayOf_80
    · have tc_3 := t_eq c_3
      refine lv_aload_n hx hb dX12_dayOf_14 rfl (lv_at hl 0 rfl) ?_
      refine va_get (D := D) (ci := 11) (v := .ref a_used) (C := RX12) (T := TX12) (N := 54) hx hb hts in_N_dayOf_X12 hown hK.1 hP 0 rfl rfl 33 (by decide) lk4 (fun _ h9 => h9) rfl dX12_dayOf_15 ?_
      refine lv_iload_n hx hb dX12_dayOf_18 rfl (lv_at hl 1 rfl) ?_
      refine va_iald hx hb hK.1 hP 1 0 rfl rfl (t_in (by omega) (by omega)) dX12_dayOf_19 ?_
      refine lv_topi (fun y_12 ey_12 => ?_)
      refine lv_goto (tgt := 80) hx hb dX12_dayOf_20 (by decide) ?_
      exact hret y_12 _ _ (show True from trivial) rfl dX12_dayOf_80
  · have tc_2 := t_eq c_2
    refine lv_iconst (v := (-1)) hx hb dX12_dayOf_8 (by decide) ?_
    exact hret (-1) _ _ (show True from trivial) rfl dX12_dayOf_9

theorem in_n_allGuests_X12 : ∀ w ∈ wsX120, w ∈ wsX12_allGuests := tl_X12_allGuests_X12
set_option maxHeartbeats 8000000 in
set_option maxRecDepth 100000 in
theorem n_allGuests {l : Launch} {D : va_G} {cI cZ cB : ClassId} {h a_isPriest a_bars a_joined a_turns a_awayMonk a_awayFrom a_awayTo a_feastDay a_rank a_isWeekly a_isDouble a_giftDay a_giftFrom a_owed a_said a_spared a_leaveGift a_leaveFrom a_leaveTo a_lateDay a_lateOffice a_lateBy a_guests a_who a_used a_lacks a_candles a_masses a_owing a_heldOn a_waits a_tape a_text a_statements a_taken a_sort a_first a_second : Nat} {v_today v_monks v_aways v_feasts v_gifts v_leaves v_lates v_store v_allCandles v_taped v_size v_at v_fault v_rules v_wordEnd v_number : Int32} {f_guests : Nat → Int32}   : Met l yX12_allGuests wsX12_allGuests ({ frames := 0, cells := 0, slots := 0, locals := 0 }) (RO D cI cZ cB [.ref h] [(h, .inr (11, [.int v_today, .int v_monks, .int v_aways, .int v_feasts, .int v_gifts, .int v_leaves, .int v_lates, .int v_store, .int v_allCandles, .ref a_isPriest, .ref a_bars, .ref a_joined, .ref a_turns, .ref a_awayMonk, .ref a_awayFrom, .ref a_awayTo, .ref a_feastDay, .ref a_rank, .ref a_isWeekly, .ref a_isDouble, .ref a_giftDay, .ref a_giftFrom, .ref a_owed, .ref a_said, .ref a_spared, .ref a_leaveGift, .ref a_leaveFrom, .ref a_leaveTo, .ref a_lateDay, .ref a_lateOffice, .ref a_lateBy, .ref a_guests, .ref a_who, .ref a_used, .ref a_lacks, .ref a_candles, .ref a_masses, .ref a_owing, .ref a_heldOn, .ref a_waits, .ref a_tape, .ref a_text, .int v_taped, .int v_size, .int v_at, .int v_fault, .int v_rules, .ref a_statements, .ref a_taken, .ref a_sort, .ref a_first, .ref a_second, .int v_wordEnd, .int v_number])), (a_guests, .inl (cI, 6, .inl f_guests))]) (vp_Si (fun r : Int32 => r = sum6 f_guests)) 0 0 (fun _ => False) := by
  refine ro_ret (cc := cX12_allGuests) (maxL := 3) (ty := .int) (own := RX12) (by decide) rfl rfl (Nat.le_of_ble_eq_true rfl) ?_
  intro p e s m args below meth c Q S hret hP hK ls hl
  obtain ⟨hx, hb, hml, hown, hts⟩ := id S
  have hl : lv_has ls 3 [(0, .ref h)] := hl
  have kk0 : (0 : Int32).toInt = 0 := by decide
  have kk1 : (1 : Int32).toInt = 1 := by decide
  have kk2 : (2 : Int32).toInt = 2 := by decide
  have kk3 : (3 : Int32).toInt = 3 := by decide
  have kk4 : (4 : Int32).toInt = 4 := by decide
  have kk5 : (5 : Int32).toInt = 5 := by decide
  have kk6 : (6 : Int32).toInt = 6 := by decide
  have lk0 := hts (.fieldLink RX12 77 "AbbeyHoursModel" "guests" "[I") (List.mem_cons_of_mem _ (List.mem_append_left _ (List.mem_of_getElem? (i := 0) rfl)))
  refine lv_iconst (v := 0) hx hb dX12_allGuests_0 (by decide) ?_
  refine lv_istore_n (lv' := [(1, .int 0), (0, .ref h)]) hx hb dX12_allGuests_1 rfl hl (by decide) rfl (fun ls hl => ?_)
  refine lv_iconst (v := 0) hx hb dX12_allGuests_2 (by decide) ?_
  refine lv_istore_n (lv' := [(2, .int 0), (1, .int 0), (0, .ref h)]) hx hb dX12_allGuests_3 rfl hl (by decide) rfl (fun ls hl => ?_)
  refine lv_iload_n hx hb dX12_allGuests_4 rfl (lv_at hl 0 rfl) ?_
  refine lv_bipush (v := 6) hx hb dX12_allGuests_5 (by decide) ?_
  refine lv_icmp_ge (tgt := 25) hx hb dX12_allGuests_7 (by decide) (fun c_1 => ?_) (fun c_1 => ?_)
  · exact absurd c_1 (by decide)
  · have tc_1 := t_nle c_1
    refine lv_iload_n hx hb dX12_allGuests_10 rfl (lv_at hl 1 rfl) ?_
    refine lv_aload_n hx hb dX12_allGuests_11 rfl (lv_at hl 2 rfl) ?_
    refine va_get (D := D) (ci := 11) (v := .ref a_guests) (C := RX12) (T := TX12) (N := 54) hx hb hts in_n_allGuests_X12 hown hK.1 hP 0 rfl rfl 31 (by decide) lk0 (fun _ h9 => h9) rfl dX12_allGuests_12 ?_
    refine lv_iload_n hx hb dX12_allGuests_15 rfl (lv_at hl 0 rfl) ?_
    refine va_iald hx hb hK.1 hP 1 0 rfl rfl (t_in (by omega) (by omega)) dX12_allGuests_16 ?_
    refine lv_topi (fun y_2 ey_2 => ?_)
    refine lv_iadd hx hb dX12_allGuests_17 ?_
    refine lv_topi (fun x_3 ex_3 => ?_)
    refine lv_istore_n (lv' := [(1, .int x_3), (2, .int 0), (0, .ref h)]) hx hb dX12_allGuests_18 rfl hl (by decide) rfl (fun ls hl => ?_)
    obtain ⟨x_4, ex_4⟩ : ∃ y : Int32, y = 0 + 1 := ⟨_, rfl⟩
    obtain rfl : x_4 = 1 := by rw [ex_4]; decide
    refine lv_iinc (v := 1) (lv' := [(2, .int 1), (1, .int x_3), (0, .ref h)]) hx hb dX12_allGuests_19 hl (k := 1) rfl (by decide) (by decide) rfl (fun ls hl => ?_)
    refine lv_goto (tgt := 4) hx hb dX12_allGuests_22 (by decide) ?_
    refine lv_iload_n hx hb dX12_allGuests_4 rfl (lv_at hl 0 rfl) ?_
    refine lv_bipush (v := 6) hx hb dX12_allGuests_5 (by decide) ?_
    refine lv_icmp_ge (tgt := 25) hx hb dX12_allGuests_7 (by decide) (fun c_5 => ?_) (fun c_5 => ?_)
    · exact absurd c_5 (by decide)
    · have tc_5 := t_nle c_5
      refine lv_iload_n hx hb dX12_allGuests_10 rfl (lv_at hl 1 rfl) ?_
      refine lv_aload_n hx hb dX12_allGuests_11 rfl (lv_at hl 2 rfl) ?_
      refine va_get (D := D) (ci := 11) (v := .ref a_guests) (C := RX12) (T := TX12) (N := 54) hx hb hts in_n_allGuests_X12 hown hK.1 hP 0 rfl rfl 31 (by decide) lk0 (fun _ h9 => h9) rfl dX12_allGuests_12 ?_
      refine lv_iload_n hx hb dX12_allGuests_15 rfl (lv_at hl 0 rfl) ?_
      refine va_iald hx hb hK.1 hP 1 0 rfl rfl (t_in (by omega) (by omega)) dX12_allGuests_16 ?_
      refine lv_topi (fun y_6 ey_6 => ?_)
      refine lv_iadd hx hb dX12_allGuests_17 ?_
      refine lv_topi (fun x_7 ex_7 => ?_)
      refine lv_istore_n (lv' := [(1, .int x_7), (2, .int 1), (0, .ref h)]) hx hb dX12_allGuests_18 rfl hl (by decide) rfl (fun ls hl => ?_)
      obtain ⟨x_8, ex_8⟩ : ∃ y : Int32, y = 1 + 1 := ⟨_, rfl⟩
      obtain rfl : x_8 = 2 := by rw [ex_8]; decide
      refine lv_iinc (v := 2) (lv' := [(2, .int 2), (1, .int x_7), (0, .ref h)]) hx hb dX12_allGuests_19 hl (k := 1) rfl (by decide) (by decide) rfl (fun ls hl => ?_)
      refine lv_goto (tgt := 4) hx hb dX12_allGuests_22 (by decide) ?_
      refine lv_iload_n hx hb dX12_allGuests_4 rfl (lv_at hl 0 rfl) ?_
      refine lv_bipush (v := 6) hx hb dX12_allGuests_5 (by decide) ?_
      refine lv_icmp_ge (tgt := 25) hx hb dX12_allGuests_7 (by decide) (fun c_9 => ?_) (fun c_9 => ?_)
      · exact absurd c_9 (by decide)
      · have tc_9 := t_nle c_9
        refine lv_iload_n hx hb dX12_allGuests_10 rfl (lv_at hl 1 rfl) ?_
        refine lv_aload_n hx hb dX12_allGuests_11 rfl (lv_at hl 2 rfl) ?_
        refine va_get (D := D) (ci := 11) (v := .ref a_guests) (C := RX12) (T := TX12) (N := 54) hx hb hts in_n_allGuests_X12 hown hK.1 hP 0 rfl rfl 31 (by decide) lk0 (fun _ h9 => h9) rfl dX12_allGuests_12 ?_
        refine lv_iload_n hx hb dX12_allGuests_15 rfl (lv_at hl 0 rfl) ?_
        refine va_iald hx hb hK.1 hP 1 0 rfl rfl (t_in (by omega) (by omega)) dX12_allGuests_16 ?_
        refine lv_topi (fun y_10 ey_10 => ?_)
        refine lv_iadd hx hb dX12_allGuests_17 ?_
        refine lv_topi (fun x_11 ex_11 => ?_)
        refine lv_istore_n (lv' := [(1, .int x_11), (2, .int 2), (0, .ref h)]) hx hb dX12_allGuests_18 rfl hl (by decide) rfl (fun ls hl => ?_)
        obtain ⟨x_12, ex_12⟩ : ∃ y : Int32, y = 2 + 1 := ⟨_, rfl⟩
        obtain rfl : x_12 = 3 := by rw [ex_12]; decide
        refine lv_iinc (v := 3) (lv' := [(2, .int 3), (1, .int x_11), (0, .ref h)]) hx hb dX12_allGuests_19 hl (k := 1) rfl (by decide) (by decide) rfl (fun ls hl => ?_)
        refine lv_goto (tgt := 4) hx hb dX12_allGuests_22 (by decide) ?_
        refine lv_iload_n hx hb dX12_allGuests_4 rfl (lv_at hl 0 rfl) ?_
        refine lv_bipush (v := 6) hx hb dX12_allGuests_5 (by decide) ?_
        refine lv_icmp_ge (tgt := 25) hx hb dX12_allGuests_7 (by decide) (fun c_13 => ?_) (fun c_13 => ?_)
        · exact absurd c_13 (by decide)
        · have tc_13 := t_nle c_13
          refine lv_iload_n hx hb dX12_allGuests_10 rfl (lv_at hl 1 rfl) ?_
          refine lv_aload_n hx hb dX12_allGuests_11 rfl (lv_at hl 2 rfl) ?_
          refine va_get (D := D) (ci := 11) (v := .ref a_guests) (C := RX12) (T := TX12) (N := 54) hx hb hts in_n_allGuests_X12 hown hK.1 hP 0 rfl rfl 31 (by decide) lk0 (fun _ h9 => h9) rfl dX12_allGuests_12 ?_
          refine lv_iload_n hx hb dX12_allGuests_15 rfl (lv_at hl 0 rfl) ?_
          refine va_iald hx hb hK.1 hP 1 0 rfl rfl (t_in (by omega) (by omega)) dX12_allGuests_16 ?_
          refine lv_topi (fun y_14 ey_14 => ?_)
          refine lv_iadd hx hb dX12_allGuests_17 ?_
          refine lv_topi (fun x_15 ex_15 => ?_)
          refine lv_istore_n (lv' := [(1, .int x_15), (2, .int 3), (0, .ref h)]) hx hb dX12_allGuests_18 rfl hl (by decide) rfl (fun ls hl => ?_)
          obtain ⟨x_16, ex_16⟩ : ∃ y : Int32, y = 3 + 1 := ⟨_, rfl⟩
          obtain rfl : x_16 = 4 := by rw [ex_16]; decide
          refine lv_iinc (v := 4) (lv' := [(2, .int 4), (1, .int x_15), (0, .ref h)]) hx hb dX12_allGuests_19 hl (k := 1) rfl (by decide) (by decide) rfl (fun ls hl => ?_)
          refine lv_goto (tgt := 4) hx hb dX12_allGuests_22 (by decide) ?_
          refine lv_iload_n hx hb dX12_allGuests_4 rfl (lv_at hl 0 rfl) ?_
          refine lv_bipush (v := 6) hx hb dX12_allGuests_5 (by decide) ?_
          refine lv_icmp_ge (tgt := 25) hx hb dX12_allGuests_7 (by decide) (fun c_17 => ?_) (fun c_17 => ?_)
          · exact absurd c_17 (by decide)
          · have tc_17 := t_nle c_17
            refine lv_iload_n hx hb dX12_allGuests_10 rfl (lv_at hl 1 rfl) ?_
            refine lv_aload_n hx hb dX12_allGuests_11 rfl (lv_at hl 2 rfl) ?_
            refine va_get (D := D) (ci := 11) (v := .ref a_guests) (C := RX12) (T := TX12) (N := 54) hx hb hts in_n_allGuests_X12 hown hK.1 hP 0 rfl rfl 31 (by decide) lk0 (fun _ h9 => h9) rfl dX12_allGuests_12 ?_
            refine lv_iload_n hx hb dX12_allGuests_15 rfl (lv_at hl 0 rfl) ?_
            refine va_iald hx hb hK.1 hP 1 0 rfl rfl (t_in (by omega) (by omega)) dX12_allGuests_16 ?_
            refine lv_topi (fun y_18 ey_18 => ?_)
            refine lv_iadd hx hb dX12_allGuests_17 ?_
            refine lv_topi (fun x_19 ex_19 => ?_)
            refine lv_istore_n (lv' := [(1, .int x_19), (2, .int 4), (0, .ref h)]) hx hb dX12_allGuests_18 rfl hl (by decide) rfl (fun ls hl => ?_)
            obtain ⟨x_20, ex_20⟩ : ∃ y : Int32, y = 4 + 1 := ⟨_, rfl⟩
            obtain rfl : x_20 = 5 := by rw [ex_20]; decide
            refine lv_iinc (v := 5) (lv' := [(2, .int 5), (1, .int x_19), (0, .ref h)]) hx hb dX12_allGuests_19 hl (k := 1) rfl (by decide) (by decide) rfl (fun ls hl => ?_)
            refine lv_goto (tgt := 4) hx hb dX12_allGuests_22 (by decide) ?_
            refine lv_iload_n hx hb dX12_allGuests_4 rfl (lv_at hl 0 rfl) ?_
            refine lv_bipush (v := 6) hx hb dX12_allGuests_5 (by decide) ?_
            refine lv_icmp_ge (tgt := 25) hx hb dX12_allGuests_7 (by decide) (fun c_21 => ?_) (fun c_21 => ?_)
            · exact absurd c_21 (by decide)
            · have tc_21 := t_nle c_21
              refine lv_iload_n hx hb dX12_allGuests_10 rfl (lv_at hl 1 rfl) ?_
              refine lv_aload_n hx hb dX12_allGuests_11 rfl (lv_at hl 2 rfl) ?_
              refine va_get (D := D) (ci := 11) (v := .ref a_guests) (C := RX12) (T := TX12) (N := 54) hx hb hts in_n_allGuests_X12 hown hK.1 hP 0 rfl rfl 31 (by decide) lk0 (fun _ h9 => h9) rfl dX12_allGuests_12 ?_
              refine lv_iload_n hx hb dX12_allGuests_15 rfl (lv_at hl 0 rfl) ?_
              refine va_iald hx hb hK.1 hP 1 0 rfl rfl (t_in (by omega) (by omega)) dX12_allGuests_16 ?_
              refine lv_topi (fun y_22 ey_22 => ?_)
              refine lv_iadd hx hb dX12_allGuests_17 ?_
              refine lv_topi (fun x_23 ex_23 => ?_)
              refine lv_istore_n (lv' := [(1, .int x_23), (2, .int 5), (0, .ref h)]) hx hb dX12_allGuests_18 rfl hl (by decide) rfl (fun ls hl => ?_)
              obtain ⟨x_24, ex_24⟩ : ∃ y : Int32, y = 5 + 1 := ⟨_, rfl⟩
              obtain rfl : x_24 = 6 := by rw [ex_24]; decide
              refine lv_iinc (v := 6) (lv' := [(2, .int 6), (1, .int x_23), (0, .ref h)]) hx hb dX12_allGuests_19 hl (k := 1) rfl (by decide) (by decide) rfl (fun ls hl => ?_)
              refine lv_goto (tgt := 4) hx hb dX12_allGuests_22 (by decide) ?_
              refine lv_iload_n hx hb dX12_allGuests_4 rfl (lv_at hl 0 rfl) ?_
              refine lv_bipush (v := 6) hx hb dX12_allGuests_5 (by decide) ?_
              refine lv_icmp_ge (tgt := 25) hx hb dX12_allGuests_7 (by decide) (fun c_25 => ?_) (fun c_25 => ?_)
              · have tc_25 := t_le c_25
                refine lv_iload_n hx hb dX12_allGuests_25 rfl (lv_at hl 1 rfl) ?_
                exact hret x_23 _ _ (show x_23 = sum6 f_guests from by subst_vars; rfl) rfl dX12_allGuests_26
              · exact absurd c_25 (by decide)

theorem in_N_guests_X12 : ∀ w ∈ wsX120, w ∈ wsX12_guests := tl_X12_guests_X12
set_option maxHeartbeats 8000000 in
set_option maxRecDepth 100000 in
theorem N_guests {l : Launch} {D : va_G} {cI cZ cB : ClassId} {sz : Nat} {h a_isPriest a_bars a_joined a_turns a_awayMonk a_awayFrom a_awayTo a_feastDay a_rank a_isWeekly a_isDouble a_giftDay a_giftFrom a_owed a_said a_spared a_leaveGift a_leaveFrom a_leaveTo a_lateDay a_lateOffice a_lateBy a_guests a_who a_used a_lacks a_candles a_masses a_owing a_heldOn a_waits a_tape a_text a_statements a_taken a_sort a_first a_second : Nat} {v_today v_monks v_aways v_feasts v_gifts v_leaves v_lates v_store v_allCandles v_taped v_size v_at v_fault v_rules v_wordEnd v_number : Int32} {f_guests : Nat → Int32} {x k : Int32}  : Met l yX12_guests wsX12_guests ({ frames := 1, cells := 0, slots := 0, locals := 22 }) (RW D cI cZ cB [.ref h, .int x, .int k] sz [(h, .inr (11, [.int v_today, .int v_monks, .int v_aways, .int v_feasts, .int v_gifts, .int v_leaves, .int v_lates, .int v_store, .int v_allCandles, .ref a_isPriest, .ref a_bars, .ref a_joined, .ref a_turns, .ref a_awayMonk, .ref a_awayFrom, .ref a_awayTo, .ref a_feastDay, .ref a_rank, .ref a_isWeekly, .ref a_isDouble, .ref a_giftDay, .ref a_giftFrom, .ref a_owed, .ref a_said, .ref a_spared, .ref a_leaveGift, .ref a_leaveFrom, .ref a_leaveTo, .ref a_lateDay, .ref a_lateOffice, .ref a_lateBy, .ref a_guests, .ref a_who, .ref a_used, .ref a_lacks, .ref a_candles, .ref a_masses, .ref a_owing, .ref a_heldOn, .ref a_waits, .ref a_tape, .ref a_text, .int v_taped, .int v_size, .int v_at, .int v_fault, .int v_rules, .ref a_statements, .ref a_taken, .ref a_sort, .ref a_first, .ref a_second, .int v_wordEnd, .int v_number])), (a_guests, .inl (cI, 6, .inl f_guests))]) (va_Qi (fun (r : Int32) (u : (Nat → Int32)) => (((1 ≤ x.toInt ∧ x.toInt ≤ 50 ∧ 0 ≤ k.toInt ∧ k.toInt ≤ 5) ∧ (sum6 f_guests + x).toInt ≤ 200) ∧ r = sum6 f_guests + x ∧ sum6 u = sum6 f_guests + x) ∨ (¬ ((1 ≤ x.toInt ∧ x.toInt ≤ 50 ∧ 0 ≤ k.toInt ∧ k.toInt ≤ 5) ∧ (sum6 f_guests + x).toInt ≤ 200) ∧ r.toInt = -1 ∧ u = f_guests)) (BW D [(h, .inr (11, [.int v_today, .int v_monks, .int v_aways, .int v_feasts, .int v_gifts, .int v_leaves, .int v_lates, .int v_store, .int v_allCandles, .ref a_isPriest, .ref a_bars, .ref a_joined, .ref a_turns, .ref a_awayMonk, .ref a_awayFrom, .ref a_awayTo, .ref a_feastDay, .ref a_rank, .ref a_isWeekly, .ref a_isDouble, .ref a_giftDay, .ref a_giftFrom, .ref a_owed, .ref a_said, .ref a_spared, .ref a_leaveGift, .ref a_leaveFrom, .ref a_leaveTo, .ref a_lateDay, .ref a_lateOffice, .ref a_lateBy, .ref a_guests, .ref a_who, .ref a_used, .ref a_lacks, .ref a_candles, .ref a_masses, .ref a_owing, .ref a_heldOn, .ref a_waits, .ref a_tape, .ref a_text, .int v_taped, .int v_size, .int v_at, .int v_fault, .int v_rules, .ref a_statements, .ref a_taken, .ref a_sort, .ref a_first, .ref a_second, .int v_wordEnd, .int v_number])), (a_guests, .inl (cI, 6, .inl f_guests))] sz (fun u : (Nat → Int32) => [(h, .inr (11, [.int v_today, .int v_monks, .int v_aways, .int v_feasts, .int v_gifts, .int v_leaves, .int v_lates, .int v_store, .int v_allCandles, .ref a_isPriest, .ref a_bars, .ref a_joined, .ref a_turns, .ref a_awayMonk, .ref a_awayFrom, .ref a_awayTo, .ref a_feastDay, .ref a_rank, .ref a_isWeekly, .ref a_isDouble, .ref a_giftDay, .ref a_giftFrom, .ref a_owed, .ref a_said, .ref a_spared, .ref a_leaveGift, .ref a_leaveFrom, .ref a_leaveTo, .ref a_lateDay, .ref a_lateOffice, .ref a_lateBy, .ref a_guests, .ref a_who, .ref a_used, .ref a_lacks, .ref a_candles, .ref a_masses, .ref a_owing, .ref a_heldOn, .ref a_waits, .ref a_tape, .ref a_text, .int v_taped, .int v_size, .int v_at, .int v_fault, .int v_rules, .ref a_statements, .ref a_taken, .ref a_sort, .ref a_first, .ref a_second, .int v_wordEnd, .int v_number])), (a_guests, .inl (cI, 6, .inl u))])) (va_A [(h, .inr (11, [.int v_today, .int v_monks, .int v_aways, .int v_feasts, .int v_gifts, .int v_leaves, .int v_lates, .int v_store, .int v_allCandles, .ref a_isPriest, .ref a_bars, .ref a_joined, .ref a_turns, .ref a_awayMonk, .ref a_awayFrom, .ref a_awayTo, .ref a_feastDay, .ref a_rank, .ref a_isWeekly, .ref a_isDouble, .ref a_giftDay, .ref a_giftFrom, .ref a_owed, .ref a_said, .ref a_spared, .ref a_leaveGift, .ref a_leaveFrom, .ref a_leaveTo, .ref a_lateDay, .ref a_lateOffice, .ref a_lateBy, .ref a_guests, .ref a_who, .ref a_used, .ref a_lacks, .ref a_candles, .ref a_masses, .ref a_owing, .ref a_heldOn, .ref a_waits, .ref a_tape, .ref a_text, .int v_taped, .int v_size, .int v_at, .int v_fault, .int v_rules, .ref a_statements, .ref a_taken, .ref a_sort, .ref a_first, .ref a_second, .int v_wordEnd, .int v_number])), (a_guests, .inl (cI, 6, .inl f_guests))] sz)) 0 0 (va_A [(h, .inr (11, [.int v_today, .int v_monks, .int v_aways, .int v_feasts, .int v_gifts, .int v_leaves, .int v_lates, .int v_store, .int v_allCandles, .ref a_isPriest, .ref a_bars, .ref a_joined, .ref a_turns, .ref a_awayMonk, .ref a_awayFrom, .ref a_awayTo, .ref a_feastDay, .ref a_rank, .ref a_isWeekly, .ref a_isDouble, .ref a_giftDay, .ref a_giftFrom, .ref a_owed, .ref a_said, .ref a_spared, .ref a_leaveGift, .ref a_leaveFrom, .ref a_leaveTo, .ref a_lateDay, .ref a_lateOffice, .ref a_lateBy, .ref a_guests, .ref a_who, .ref a_used, .ref a_lacks, .ref a_candles, .ref a_masses, .ref a_owing, .ref a_heldOn, .ref a_waits, .ref a_tape, .ref a_text, .int v_taped, .int v_size, .int v_at, .int v_fault, .int v_rules, .ref a_statements, .ref a_taken, .ref a_sort, .ref a_first, .ref a_second, .int v_wordEnd, .int v_number])), (a_guests, .inl (cI, 6, .inl f_guests))] sz) := by
  refine rw_ret (cc := cX12_guests) (maxL := 3) (ty := .int) (own := RX12) (by decide) rfl rfl (Nat.le_of_ble_eq_true rfl) ?_
  intro p e s m args below meth c Q A S hin hret hP hK hD hA hS ls hl
  obtain ⟨hx, hb, hml, hown, hts⟩ := id S
  have hl : lv_has ls 3 [(0, .ref h), (1, .int x), (2, .int k)] := hl
  have kkm1 : (-1 : Int32).toInt = -1 := by decide
  have kk0 : (0 : Int32).toInt = 0 := by decide
  have kk1 : (1 : Int32).toInt = 1 := by decide
  have kk5 : (5 : Int32).toInt = 5 := by decide
  have kk50 : (50 : Int32).toInt = 50 := by decide
  have kk200 : (200 : Int32).toInt = 200 := by decide
  have lk0 := hts (.fieldLink RX12 77 "AbbeyHoursModel" "guests" "[I") (List.mem_cons_of_mem _ (List.mem_append_left _ (List.mem_of_getElem? (i := 0) rfl)))
  refine lv_iload_n hx hb dX12_guests_0 rfl (lv_at hl 1 rfl) ?_
  refine lv_iconst (v := 1) hx hb dX12_guests_1 (by decide) ?_
  refine lv_bipush (v := 50) hx hb dX12_guests_2 (by decide) ?_
  have hPc := hP.sub (ws' := []) [] rfl
  refine roS (As := [.int x, .int 1, .int 50]) (rest := []) S (m_isIn  ) (va_cwS 3 hts gX12_guests_X12_isIn rfl rfl rfl hd_X12_isIn ⟨Nat.le_of_ble_eq_true rfl, Nat.le_of_ble_eq_true rfl⟩) hK hPc rfl hl.1 rfl (Nat.le_of_ble_eq_true rfl) dX12_guests_4 ⟨Nat.le_of_ble_eq_true rfl, Nat.le_of_ble_eq_true rfl⟩ (fun r_1 hw_1 => ?_)
  have hw_1 : (r_1.toInt = 1 ∧ (1 : Int32).toInt ≤ x.toInt ∧ x.toInt ≤ (50 : Int32).toInt) ∨ (r_1.toInt = 0 ∧ (x.toInt < (1 : Int32).toInt ∨ (50 : Int32).toInt < x.toInt)) := hw_1
  refine lv_if_eq (tgt := 31) hx hb dX12_guests_7 (by decide) (fun c_2 => ?_) (fun c_2 => ?_)
  · have tc_2 := t_eq c_2
    refine lv_iconst (v := (-1)) hx hb dX12_guests_31 (by decide) ?_
    exact hret (-1) f_guests _ _ _ _ (show (((1 ≤ x.toInt ∧ x.toInt ≤ 50 ∧ 0 ≤ k.toInt ∧ k.toInt ≤ 5) ∧ (sum6 f_guests + x).toInt ≤ 200) ∧ (-1 : Int32) = sum6 f_guests + x ∧ sum6 f_guests = sum6 f_guests + x) ∨ (¬ ((1 ≤ x.toInt ∧ x.toInt ≤ 50 ∧ 0 ≤ k.toInt ∧ k.toInt ≤ 5) ∧ (sum6 f_guests + x).toInt ≤ 200) ∧ (-1 : Int32).toInt = -1 ∧ f_guests = f_guests) from by first | exact Or.inl ⟨by omega, hw_s1, hsg⟩ | exact Or.inr ⟨by omega, by omega, rfl⟩) rfl (hP.sub [0, 1] rfl) (hD.sub [0, 1] (by decide +kernel) rfl) hS dX12_guests_32
  · have tc_2 := t_neq c_2
    refine lv_iload_n hx hb dX12_guests_10 rfl (lv_at hl 2 rfl) ?_
    refine lv_iconst (v := 0) hx hb dX12_guests_11 (by decide) ?_
    refine lv_iconst (v := 5) hx hb dX12_guests_12 (by decide) ?_
    have hPc := hP.sub (ws' := []) [] rfl
    refine roS (As := [.int k, .int 0, .int 5]) (rest := []) S (m_isIn  ) (va_cwS 3 hts gX12_guests_X12_isIn rfl rfl rfl hd_X12_isIn ⟨Nat.le_of_ble_eq_true rfl, Nat.le_of_ble_eq_true rfl⟩) hK hPc rfl hl.1 rfl (Nat.le_of_ble_eq_true rfl) dX12_guests_13 ⟨Nat.le_of_ble_eq_true rfl, Nat.le_of_ble_eq_true rfl⟩ (fun r_3 hw_3 => ?_)
    have hw_3 : (r_3.toInt = 1 ∧ (0 : Int32).toInt ≤ k.toInt ∧ k.toInt ≤ (5 : Int32).toInt) ∨ (r_3.toInt = 0 ∧ (k.toInt < (0 : Int32).toInt ∨ (5 : Int32).toInt < k.toInt)) := hw_3
    refine lv_if_eq (tgt := 31) hx hb dX12_guests_16 (by decide) (fun c_4 => ?_) (fun c_4 => ?_)
    · have tc_4 := t_eq c_4
      refine lv_iconst (v := (-1)) hx hb dX12_guests_31 (by decide) ?_
      exact hret (-1) f_guests _ _ _ _ (show (((1 ≤ x.toInt ∧ x.toInt ≤ 50 ∧ 0 ≤ k.toInt ∧ k.toInt ≤ 5) ∧ (sum6 f_guests + x).toInt ≤ 200) ∧ (-1 : Int32) = sum6 f_guests + x ∧ sum6 f_guests = sum6 f_guests + x) ∨ (¬ ((1 ≤ x.toInt ∧ x.toInt ≤ 50 ∧ 0 ≤ k.toInt ∧ k.toInt ≤ 5) ∧ (sum6 f_guests + x).toInt ≤ 200) ∧ (-1 : Int32).toInt = -1 ∧ f_guests = f_guests) from by first | exact Or.inl ⟨by omega, hw_s1, hsg⟩ | exact Or.inr ⟨by omega, by omega, rfl⟩) rfl (hP.sub [0, 1] rfl) (hD.sub [0, 1] (by decide +kernel) rfl) hS dX12_guests_32
    · have tc_4 := t_neq c_4
      refine lv_aload_n hx hb dX12_guests_19 rfl (lv_at hl 0 rfl) ?_
      have hPc := hP.sub (ws' := [(h, .inr (11, [.int v_today, .int v_monks, .int v_aways, .int v_feasts, .int v_gifts, .int v_leaves, .int v_lates, .int v_store, .int v_allCandles, .ref a_isPriest, .ref a_bars, .ref a_joined, .ref a_turns, .ref a_awayMonk, .ref a_awayFrom, .ref a_awayTo, .ref a_feastDay, .ref a_rank, .ref a_isWeekly, .ref a_isDouble, .ref a_giftDay, .ref a_giftFrom, .ref a_owed, .ref a_said, .ref a_spared, .ref a_leaveGift, .ref a_leaveFrom, .ref a_leaveTo, .ref a_lateDay, .ref a_lateOffice, .ref a_lateBy, .ref a_guests, .ref a_who, .ref a_used, .ref a_lacks, .ref a_candles, .ref a_masses, .ref a_owing, .ref a_heldOn, .ref a_waits, .ref a_tape, .ref a_text, .int v_taped, .int v_size, .int v_at, .int v_fault, .int v_rules, .ref a_statements, .ref a_taken, .ref a_sort, .ref a_first, .ref a_second, .int v_wordEnd, .int v_number])), (a_guests, .inl (cI, 6, .inl f_guests))]) [0, 1] rfl
      refine roV (As := []) (rest := []) S (n_allGuests  ) (cwV 0 hts gX12_guests_X12_allGuests rfl rfl rfl ⟨rfl, hd_X12_allGuests⟩ ⟨Nat.le_of_ble_eq_true rfl, Nat.le_of_ble_eq_true rfl⟩) hK hPc (va_recv hK.1 hPc (ci := 11) (q0 := 0) rfl rfl) rfl hl.1 rfl (Nat.le_of_ble_eq_true rfl) dX12_guests_20 ⟨Nat.le_of_ble_eq_true rfl, Nat.le_of_ble_eq_true rfl⟩ (fun r_s0 hw_s0 => ?_)
      have hw_s0 : r_s0 = sum6 f_guests := hw_s0
      refine lv_iload_n hx hb dX12_guests_23 rfl (lv_at hl 1 rfl) ?_
      refine lv_iadd hx hb dX12_guests_24 ?_
      refine lv_topi (fun z1 ez1 => ?_)
      rw [hw_s0] at ez1
      have tz1 := t_eq ez1
      refine lv_sipush (v := 200) hx hb dX12_guests_25 (by decide) ?_
      refine lv_icmp_le (tgt := 33) hx hb dX12_guests_28 (by decide) (fun c_6 => ?_) (fun c_6 => ?_)
      · have tc_6 := t_le c_6
        refine lv_aload_n hx hb dX12_guests_33 rfl (lv_at hl 0 rfl) ?_
        refine va_get (D := D) (ci := 11) (v := .ref a_guests) (C := RX12) (T := TX12) (N := 54) hx hb hts in_N_guests_X12 hown hK.1 hP 0 rfl rfl 31 (by decide) lk0 (fun _ h9 => h9) rfl dX12_guests_34 ?_
        refine lv_iload_n hx hb dX12_guests_37 rfl (lv_at hl 2 rfl) ?_
        refine lv_dup2_11 hx hb dX12_guests_38 rfl rfl ?_
        refine va_iald hx hb hK.1 hP 1 0 rfl rfl (t_in (by omega) (by omega)) dX12_guests_39 ?_
        refine lv_topi (fun y0 ey0 => ?_)
        refine lv_iload_n hx hb dX12_guests_40 rfl (lv_at hl 1 rfl) ?_
        refine lv_iadd hx hb dX12_guests_41 ?_
        refine lv_topi (fun z0 ez0 => ?_)
        refine va_iast hx hb hK.1 hP hD hS 1 0 rfl rfl (t_in (by omega) (by omega)) dX12_guests_42 (fun H locs hP hD hS => ?_)
        obtain ⟨gg, egg⟩ : ∃ z : Nat → Int32, z = upd f_guests ((k : Int32).toNatClampNeg) z0 := ⟨_, rfl⟩
        rw [← egg] at hP hD
        have hP : va_P D vwCl [(h, .inr (11, [.int v_today, .int v_monks, .int v_aways, .int v_feasts, .int v_gifts, .int v_leaves, .int v_lates, .int v_store, .int v_allCandles, .ref a_isPriest, .ref a_bars, .ref a_joined, .ref a_turns, .ref a_awayMonk, .ref a_awayFrom, .ref a_awayTo, .ref a_feastDay, .ref a_rank, .ref a_isWeekly, .ref a_isDouble, .ref a_giftDay, .ref a_giftFrom, .ref a_owed, .ref a_said, .ref a_spared, .ref a_leaveGift, .ref a_leaveFrom, .ref a_leaveTo, .ref a_lateDay, .ref a_lateOffice, .ref a_lateBy, .ref a_guests, .ref a_who, .ref a_used, .ref a_lacks, .ref a_candles, .ref a_masses, .ref a_owing, .ref a_heldOn, .ref a_waits, .ref a_tape, .ref a_text, .int v_taped, .int v_size, .int v_at, .int v_fault, .int v_rules, .ref a_statements, .ref a_taken, .ref a_sort, .ref a_first, .ref a_second, .int v_wordEnd, .int v_number])), (a_guests, .inl (cI, 6, .inl gg))] H := hP
        have hD := asD hP hD
        refine lv_aload_n hx hb dX12_guests_43 rfl (lv_at hl 0 rfl) ?_
        have hPc := hP.sub (ws' := [(h, .inr (11, [.int v_today, .int v_monks, .int v_aways, .int v_feasts, .int v_gifts, .int v_leaves, .int v_lates, .int v_store, .int v_allCandles, .ref a_isPriest, .ref a_bars, .ref a_joined, .ref a_turns, .ref a_awayMonk, .ref a_awayFrom, .ref a_awayTo, .ref a_feastDay, .ref a_rank, .ref a_isWeekly, .ref a_isDouble, .ref a_giftDay, .ref a_giftFrom, .ref a_owed, .ref a_said, .ref a_spared, .ref a_leaveGift, .ref a_leaveFrom, .ref a_leaveTo, .ref a_lateDay, .ref a_lateOffice, .ref a_lateBy, .ref a_guests, .ref a_who, .ref a_used, .ref a_lacks, .ref a_candles, .ref a_masses, .ref a_owing, .ref a_heldOn, .ref a_waits, .ref a_tape, .ref a_text, .int v_taped, .int v_size, .int v_at, .int v_fault, .int v_rules, .ref a_statements, .ref a_taken, .ref a_sort, .ref a_first, .ref a_second, .int v_wordEnd, .int v_number])), (a_guests, .inl (cI, 6, .inl gg))]) [0, 1] rfl
        refine roV (As := []) (rest := []) S (n_allGuests  ) (cwV 0 hts gX12_guests_X12_allGuests rfl rfl rfl ⟨rfl, hd_X12_allGuests⟩ ⟨Nat.le_of_ble_eq_true rfl, Nat.le_of_ble_eq_true rfl⟩) hK hPc (va_recv hK.1 hPc (ci := 11) (q0 := 0) rfl rfl) rfl hl.1 rfl (Nat.le_of_ble_eq_true rfl) dX12_guests_44 ⟨Nat.le_of_ble_eq_true rfl, Nat.le_of_ble_eq_true rfl⟩ (fun r_s1 hw_s1 => ?_)
        have hw_s1 : r_s1 = sum6 gg := hw_s1
        have hsg : sum6 gg = sum6 f_guests + x := by rw [egg, ez0, ey0]; exact sum6_add _ _ _ (by omega) (by omega)
        rw [hsg] at hw_s1
        exact hret r_s1 gg _ _ _ _ (show (((1 ≤ x.toInt ∧ x.toInt ≤ 50 ∧ 0 ≤ k.toInt ∧ k.toInt ≤ 5) ∧ (sum6 f_guests + x).toInt ≤ 200) ∧ r_s1 = sum6 f_guests + x ∧ sum6 gg = sum6 f_guests + x) ∨ (¬ ((1 ≤ x.toInt ∧ x.toInt ≤ 50 ∧ 0 ≤ k.toInt ∧ k.toInt ≤ 5) ∧ (sum6 f_guests + x).toInt ≤ 200) ∧ r_s1.toInt = -1 ∧ gg = f_guests) from by first | exact Or.inl ⟨by omega, hw_s1, hsg⟩ | exact Or.inr ⟨by omega, by omega, rfl⟩) rfl (hP.sub [0, 1] rfl) (hD.sub [0, 1] (by decide +kernel) rfl) hS dX12_guests_47
      · have tc_6 := t_nle c_6
        refine lv_iconst (v := (-1)) hx hb dX12_guests_31 (by decide) ?_
        exact hret (-1) f_guests _ _ _ _ (show (((1 ≤ x.toInt ∧ x.toInt ≤ 50 ∧ 0 ≤ k.toInt ∧ k.toInt ≤ 5) ∧ (sum6 f_guests + x).toInt ≤ 200) ∧ (-1 : Int32) = sum6 f_guests + x ∧ sum6 f_guests = sum6 f_guests + x) ∨ (¬ ((1 ≤ x.toInt ∧ x.toInt ≤ 50 ∧ 0 ≤ k.toInt ∧ k.toInt ≤ 5) ∧ (sum6 f_guests + x).toInt ≤ 200) ∧ (-1 : Int32).toInt = -1 ∧ f_guests = f_guests) from by first | exact Or.inl ⟨by omega, hw_s1, hsg⟩ | exact Or.inr ⟨by omega, by omega, rfl⟩) rfl (hP.sub [0, 1] rfl) (hD.sub [0, 1] (by decide +kernel) rfl) hS dX12_guests_32

theorem in_N_count_X12 : ∀ w ∈ wsX120, w ∈ wsX12_count := tl_X12_count_X12
set_option maxHeartbeats 8000000 in
set_option maxRecDepth 100000 in
theorem N_count {l : Launch} {D : va_G} {cI cZ cB : ClassId} {h a_isPriest a_bars a_joined a_turns a_awayMonk a_awayFrom a_awayTo a_feastDay a_rank a_isWeekly a_isDouble a_giftDay a_giftFrom a_owed a_said a_spared a_leaveGift a_leaveFrom a_leaveTo a_lateDay a_lateOffice a_lateBy a_guests a_who a_used a_lacks a_candles a_masses a_owing a_heldOn a_waits a_tape a_text a_statements a_taken a_sort a_first a_second : Nat} {v_today v_monks v_aways v_feasts v_gifts v_leaves v_lates v_store v_allCandles v_taped v_size v_at v_fault v_rules v_wordEnd v_number : Int32} {f_owed f_said f_guests : Nat → Int32} {w : Int32} (h0_gifts : 0 ≤ v_gifts.toInt) (h1_gifts : v_gifts.toInt ≤ 40) : Met l yX12_count wsX12_count ({ frames := 1, cells := 0, slots := 0, locals := 22 }) (RO D cI cZ cB [.ref h, .int w] [(h, .inr (11, [.int v_today, .int v_monks, .int v_aways, .int v_feasts, .int v_gifts, .int v_leaves, .int v_lates, .int v_store, .int v_allCandles, .ref a_isPriest, .ref a_bars, .ref a_joined, .ref a_turns, .ref a_awayMonk, .ref a_awayFrom, .ref a_awayTo, .ref a_feastDay, .ref a_rank, .ref a_isWeekly, .ref a_isDouble, .ref a_giftDay, .ref a_giftFrom, .ref a_owed, .ref a_said, .ref a_spared, .ref a_leaveGift, .ref a_leaveFrom, .ref a_leaveTo, .ref a_lateDay, .ref a_lateOffice, .ref a_lateBy, .ref a_guests, .ref a_who, .ref a_used, .ref a_lacks, .ref a_candles, .ref a_masses, .ref a_owing, .ref a_heldOn, .ref a_waits, .ref a_tape, .ref a_text, .int v_taped, .int v_size, .int v_at, .int v_fault, .int v_rules, .ref a_statements, .ref a_taken, .ref a_sort, .ref a_first, .ref a_second, .int v_wordEnd, .int v_number])), (a_owed, .inl (cI, 40, .inl f_owed)), (a_said, .inl (cI, 40, .inl f_said)), (a_guests, .inl (cI, 6, .inl f_guests))]) (vp_Si (fun r : Int32 => True)) 0 0 (fun _ => False) := by
  refine ro_ret (cc := cX12_count) (maxL := 4) (ty := .int) (own := RX12) (by decide) rfl rfl (Nat.le_of_ble_eq_true rfl) ?_
  intro p e s m args below meth c Q S hret hP hK ls hl
  obtain ⟨hx, hb, hml, hown, hts⟩ := id S
  have hl : lv_has ls 4 [(0, .ref h), (1, .int w)] := hl
  have kkm1 : (-1 : Int32).toInt = -1 := by decide
  have kk0 : (0 : Int32).toInt = 0 := by decide
  have kk1 : (1 : Int32).toInt = 1 := by decide
  have lk0 := hts (.fieldLink RX12 140 "AbbeyHoursModel" "today" "I") (List.mem_cons_of_mem _ (List.mem_append_left _ (List.mem_of_getElem? (i := 0) rfl)))
  have lk1 := hts (.fieldLink RX12 134 "AbbeyHoursModel" "monks" "I") (List.mem_cons_of_mem _ (List.mem_append_left _ (List.mem_of_getElem? (i := 1) rfl)))
  have lk2 := hts (.fieldLink RX12 153 "AbbeyHoursModel" "feasts" "I") (List.mem_cons_of_mem _ (List.mem_append_left _ (List.mem_of_getElem? (i := 2) rfl)))
  have lk3 := hts (.fieldLink RX12 137 "AbbeyHoursModel" "gifts" "I") (List.mem_cons_of_mem _ (List.mem_append_left _ (List.mem_of_getElem? (i := 3) rfl)))
  have lk4 := hts (.fieldLink RX12 264 "AbbeyHoursModel" "store" "I") (List.mem_cons_of_mem _ (List.mem_append_left _ (List.mem_of_getElem? (i := 4) rfl)))
  have lk5 := hts (.fieldLink RX12 233 "AbbeyHoursModel" "rules" "I") (List.mem_cons_of_mem _ (List.mem_append_left _ (List.mem_of_getElem? (i := 5) rfl)))
  have lk6 := hts (.fieldLink RX12 50 "AbbeyHoursModel" "owed" "[I") (List.mem_cons_of_mem _ (List.mem_append_left _ (List.mem_of_getElem? (i := 6) rfl)))
  have lk7 := hts (.fieldLink RX12 53 "AbbeyHoursModel" "said" "[I") (List.mem_cons_of_mem _ (List.mem_append_left _ (List.mem_of_getElem? (i := 7) rfl)))
  have lk8 := hts (.fieldLink RX12 297 "AbbeyHoursModel" "allCandles" "I") (List.mem_cons_of_mem _ (List.mem_append_left _ (List.mem_of_getElem? (i := 8) rfl)))
  have lk9 := hts (.fieldLink RX12 185 "AbbeyHoursModel" "taped" "I") (List.mem_cons_of_mem _ (List.mem_append_left _ (List.mem_of_getElem? (i := 9) rfl)))
  refine lv_iconst (v := 0) hx hb dX12_count_0 (by decide) ?_
  refine lv_istore_n (lv' := [(2, .int 0), (0, .ref h), (1, .int w)]) hx hb dX12_count_1 rfl hl (by decide) rfl (fun ls hl => ?_)
  refine lv_iload_n hx hb dX12_count_2 rfl (lv_at hl 2 rfl) ?_
  have kqh_1 : (0 : Int32).toInt = 0 := by decide
  by_cases h_1 : w = 0
  · have th_1 := t_eq h_1
    refine lv_tableIn (off := 57) (tgt := 60) hx hb dX12_count_3 (by rw [h_1]; decide) (by rw [h_1]; decide) (by rw [h_1]; rfl) (by decide) ?_
    refine lv_aload_n hx hb dX12_count_60 rfl (lv_at hl 1 rfl) ?_
    refine va_get (D := D) (ci := 11) (v := .int v_today) (C := RX12) (T := TX12) (N := 54) hx hb hts in_N_count_X12 hown hK.1 hP 0 rfl rfl 0 (by decide) lk0 (fun _ h9 => h9) rfl dX12_count_61 ?_
    exact hret v_today _ _ (show True from trivial) rfl dX12_count_64
  have th_1 := t_neq h_1
  have kqh_2 : (1 : Int32).toInt = 1 := by decide
  by_cases h_2 : w = 1
  · have th_2 := t_eq h_2
    refine lv_tableIn (off := 62) (tgt := 65) hx hb dX12_count_3 (by rw [h_2]; decide) (by rw [h_2]; decide) (by rw [h_2]; rfl) (by decide) ?_
    refine lv_aload_n hx hb dX12_count_65 rfl (lv_at hl 1 rfl) ?_
    refine va_get (D := D) (ci := 11) (v := .int v_monks) (C := RX12) (T := TX12) (N := 54) hx hb hts in_N_count_X12 hown hK.1 hP 0 rfl rfl 1 (by decide) lk1 (fun _ h9 => h9) rfl dX12_count_66 ?_
    exact hret v_monks _ _ (show True from trivial) rfl dX12_count_69
  have th_2 := t_neq h_2
  have kqh_3 : (2 : Int32).toInt = 2 := by decide
  by_cases h_3 : w = 2
  · have th_3 := t_eq h_3
    refine lv_tableIn (off := 67) (tgt := 70) hx hb dX12_count_3 (by rw [h_3]; decide) (by rw [h_3]; decide) (by rw [h_3]; rfl) (by decide) ?_
    refine lv_aload_n hx hb dX12_count_70 rfl (lv_at hl 1 rfl) ?_
    refine va_get (D := D) (ci := 11) (v := .int v_feasts) (C := RX12) (T := TX12) (N := 54) hx hb hts in_N_count_X12 hown hK.1 hP 0 rfl rfl 3 (by decide) lk2 (fun _ h9 => h9) rfl dX12_count_71 ?_
    exact hret v_feasts _ _ (show True from trivial) rfl dX12_count_74
  have th_3 := t_neq h_3
  have kqh_4 : (3 : Int32).toInt = 3 := by decide
  by_cases h_4 : w = 3
  · have th_4 := t_eq h_4
    refine lv_tableIn (off := 72) (tgt := 75) hx hb dX12_count_3 (by rw [h_4]; decide) (by rw [h_4]; decide) (by rw [h_4]; rfl) (by decide) ?_
    refine lv_aload_n hx hb dX12_count_75 rfl (lv_at hl 1 rfl) ?_
    refine va_get (D := D) (ci := 11) (v := .int v_gifts) (C := RX12) (T := TX12) (N := 54) hx hb hts in_N_count_X12 hown hK.1 hP 0 rfl rfl 4 (by decide) lk3 (fun _ h9 => h9) rfl dX12_count_76 ?_
    exact hret v_gifts _ _ (show True from trivial) rfl dX12_count_79
  have th_4 := t_neq h_4
  have kqh_5 : (4 : Int32).toInt = 4 := by decide
  by_cases h_5 : w = 4
  · have th_5 := t_eq h_5
    refine lv_tableIn (off := 77) (tgt := 80) hx hb dX12_count_3 (by rw [h_5]; decide) (by rw [h_5]; decide) (by rw [h_5]; rfl) (by decide) ?_
    refine lv_aload_n hx hb dX12_count_80 rfl (lv_at hl 1 rfl) ?_
    refine va_get (D := D) (ci := 11) (v := .int v_store) (C := RX12) (T := TX12) (N := 54) hx hb hts in_N_count_X12 hown hK.1 hP 0 rfl rfl 7 (by decide) lk4 (fun _ h9 => h9) rfl dX12_count_81 ?_
    exact hret v_store _ _ (show True from trivial) rfl dX12_count_84
  have th_5 := t_neq h_5
  have kqh_6 : (5 : Int32).toInt = 5 := by decide
  by_cases h_6 : w = 5
  · have th_6 := t_eq h_6
    refine lv_tableIn (off := 82) (tgt := 85) hx hb dX12_count_3 (by rw [h_6]; decide) (by rw [h_6]; decide) (by rw [h_6]; rfl) (by decide) ?_
    refine lv_aload_n hx hb dX12_count_85 rfl (lv_at hl 1 rfl) ?_
    have hPc := hP.sub (ws' := [(h, .inr (11, [.int v_today, .int v_monks, .int v_aways, .int v_feasts, .int v_gifts, .int v_leaves, .int v_lates, .int v_store, .int v_allCandles, .ref a_isPriest, .ref a_bars, .ref a_joined, .ref a_turns, .ref a_awayMonk, .ref a_awayFrom, .ref a_awayTo, .ref a_feastDay, .ref a_rank, .ref a_isWeekly, .ref a_isDouble, .ref a_giftDay, .ref a_giftFrom, .ref a_owed, .ref a_said, .ref a_spared, .ref a_leaveGift, .ref a_leaveFrom, .ref a_leaveTo, .ref a_lateDay, .ref a_lateOffice, .ref a_lateBy, .ref a_guests, .ref a_who, .ref a_used, .ref a_lacks, .ref a_candles, .ref a_masses, .ref a_owing, .ref a_heldOn, .ref a_waits, .ref a_tape, .ref a_text, .int v_taped, .int v_size, .int v_at, .int v_fault, .int v_rules, .ref a_statements, .ref a_taken, .ref a_sort, .ref a_first, .ref a_second, .int v_wordEnd, .int v_number])), (a_guests, .inl (cI, 6, .inl f_guests))]) [0, 3] rfl
    refine roV (As := []) (rest := []) S (n_allGuests  ) (cwV 0 hts gX12_count_X12_allGuests rfl rfl rfl ⟨rfl, hd_X12_allGuests⟩ ⟨Nat.le_of_ble_eq_true rfl, Nat.le_of_ble_eq_true rfl⟩) hK hPc (va_recv hK.1 hPc (ci := 11) (q0 := 0) rfl rfl) rfl hl.1 rfl (Nat.le_of_ble_eq_true rfl) dX12_count_86 ⟨Nat.le_of_ble_eq_true rfl, Nat.le_of_ble_eq_true rfl⟩ (fun r_7 hw_7 => ?_)
    have hw_7 : r_7 = sum6 f_guests := hw_7
    exact hret r_7 _ _ (show True from trivial) rfl dX12_count_89
  have th_6 := t_neq h_6
  have kqh_8 : (6 : Int32).toInt = 6 := by decide
  by_cases h_8 : w = 6
  · have th_8 := t_eq h_8
    refine lv_tableIn (off := 87) (tgt := 90) hx hb dX12_count_3 (by rw [h_8]; decide) (by rw [h_8]; decide) (by rw [h_8]; rfl) (by decide) ?_
    refine lv_aload_n hx hb dX12_count_90 rfl (lv_at hl 1 rfl) ?_
    refine va_get (D := D) (ci := 11) (v := .int v_rules) (C := RX12) (T := TX12) (N := 54) hx hb hts in_N_count_X12 hown hK.1 hP 0 rfl rfl 46 (by decide) lk5 (fun _ h9 => h9) rfl dX12_count_91 ?_
    exact hret v_rules _ _ (show True from trivial) rfl dX12_count_94
  have th_8 := t_neq h_8
  have kqh_9 : (7 : Int32).toInt = 7 := by decide
  by_cases h_9 : w = 7
  · have th_9 := t_eq h_9
    refine lv_tableIn (off := 92) (tgt := 95) hx hb dX12_count_3 (by rw [h_9]; decide) (by rw [h_9]; decide) (by rw [h_9]; rfl) (by decide) ?_
    refine lv_iconst (v := 0) hx hb dX12_count_95 (by decide) ?_
    refine lv_istore_n (lv' := [(3, .int 0), (2, .int 0), (0, .ref h), (1, .int w)]) hx hb dX12_count_96 rfl hl (by decide) rfl (fun ls hl => ?_)
    have loop97 : ∀ (fuel : Nat) (a : Int32) (j : Int32), v_gifts.toInt - j.toInt < (fuel : Int) → (0 ≤ j.toInt) → (j.toInt ≤ v_gifts.toInt) → ∀ ls : Array Slot, lv_has ls 4 [(3, .int j), (2, .int a), (0, .ref h), (1, .int w)] → W p l e ({ frames := 1, cells := 0, slots := 0, locals := 22 } : Room) s m args below meth c s.heap [] 0 0 Q (F0 m 97 ls []) := by
      intro fuel
      induction fuel with
      | zero =>
        intro a j hmu hj0 hj1 ls hl
        exfalso; omega
      | succ fuel ih97 =>
        intro a j hmu hj0 hj1 ls hl
        refine lv_iload_n hx hb dX12_count_97 rfl (lv_at hl 0 rfl) ?_
        refine lv_aload_n hx hb dX12_count_98 rfl (lv_at hl 2 rfl) ?_
        refine va_get (D := D) (ci := 11) (v := .int v_gifts) (C := RX12) (T := TX12) (N := 54) hx hb hts in_N_count_X12 hown hK.1 hP 0 rfl rfl 4 (by decide) lk3 (fun _ h9 => h9) rfl dX12_count_99 ?_
        refine lv_icmp_ge (tgt := 120) hx hb dX12_count_102 (by decide) (fun c_10 => ?_) (fun c_10 => ?_)
        · have tc_10 := t_le c_10
          refine lv_iload_n hx hb dX12_count_120 rfl (lv_at hl 1 rfl) ?_
          exact hret a _ _ (show True from trivial) rfl dX12_count_121
        · have tc_10 := t_nle c_10
          refine lv_iload_n hx hb dX12_count_105 rfl (lv_at hl 1 rfl) ?_
          refine lv_aload_n hx hb dX12_count_106 rfl (lv_at hl 2 rfl) ?_
          refine va_get (D := D) (ci := 11) (v := .ref a_owed) (C := RX12) (T := TX12) (N := 54) hx hb hts in_N_count_X12 hown hK.1 hP 0 rfl rfl 22 (by decide) lk6 (fun _ h9 => h9) rfl dX12_count_107 ?_
          refine lv_iload_n hx hb dX12_count_110 rfl (lv_at hl 0 rfl) ?_
          refine va_iald hx hb hK.1 hP 1 0 rfl rfl (t_in (by omega) (by omega)) dX12_count_111 ?_
          refine lv_topi (fun y_11 ey_11 => ?_)
          refine lv_iadd hx hb dX12_count_112 ?_
          refine lv_topi (fun x_12 ex_12 => ?_)
          refine lv_istore_n (lv' := [(2, .int x_12), (3, .int j), (0, .ref h), (1, .int w)]) hx hb dX12_count_113 rfl hl (by decide) rfl (fun ls hl => ?_)
          obtain ⟨x_13, ex_13⟩ : ∃ y : Int32, y = j + 1 := ⟨_, rfl⟩
          refine lv_iinc (v := x_13) (lv' := [(3, .int x_13), (2, .int x_12), (0, .ref h), (1, .int w)]) hx hb dX12_count_114 hl (k := 1) rfl (by rw [ex_13]; rfl) (by decide) rfl (fun ls hl => ?_)
          first | have tx_13 := t_add ex_13 (by omega) (by omega) | skip
          refine lv_goto (tgt := 97) hx hb dX12_count_117 (by decide) ?_
          exact ih97 x_12 x_13 (by omega) (by omega) (by omega) ls (lv_sub hl [0, 1, 2, 3] rfl)
    exact loop97 ((v_gifts.toInt - (0 : Int32).toInt).toNat + 1) 0 0 (by omega) (by omega) (by omega) ls (lv_sub hl [0, 1, 2, 3] rfl)
  have th_9 := t_neq h_9
  have kqh_14 : (8 : Int32).toInt = 8 := by decide
  by_cases h_14 : w = 8
  · have th_14 := t_eq h_14
    refine lv_tableIn (off := 119) (tgt := 122) hx hb dX12_count_3 (by rw [h_14]; decide) (by rw [h_14]; decide) (by rw [h_14]; rfl) (by decide) ?_
    refine lv_iconst (v := 0) hx hb dX12_count_122 (by decide) ?_
    refine lv_istore_n (lv' := [(3, .int 0), (2, .int 0), (0, .ref h), (1, .int w)]) hx hb dX12_count_123 rfl hl (by decide) rfl (fun ls hl => ?_)
    have loop124 : ∀ (fuel : Nat) (a : Int32) (j : Int32), v_gifts.toInt - j.toInt < (fuel : Int) → (0 ≤ j.toInt) → (j.toInt ≤ v_gifts.toInt) → ∀ ls : Array Slot, lv_has ls 4 [(3, .int j), (2, .int a), (0, .ref h), (1, .int w)] → W p l e ({ frames := 1, cells := 0, slots := 0, locals := 22 } : Room) s m args below meth c s.heap [] 0 0 Q (F0 m 124 ls []) := by
      intro fuel
      induction fuel with
      | zero =>
        intro a j hmu hj0 hj1 ls hl
        exfalso; omega
      | succ fuel ih124 =>
        intro a j hmu hj0 hj1 ls hl
        refine lv_iload_n hx hb dX12_count_124 rfl (lv_at hl 0 rfl) ?_
        refine lv_aload_n hx hb dX12_count_125 rfl (lv_at hl 2 rfl) ?_
        refine va_get (D := D) (ci := 11) (v := .int v_gifts) (C := RX12) (T := TX12) (N := 54) hx hb hts in_N_count_X12 hown hK.1 hP 0 rfl rfl 4 (by decide) lk3 (fun _ h9 => h9) rfl dX12_count_126 ?_
        refine lv_icmp_ge (tgt := 147) hx hb dX12_count_129 (by decide) (fun c_15 => ?_) (fun c_15 => ?_)
        · have tc_15 := t_le c_15
          refine lv_iload_n hx hb dX12_count_147 rfl (lv_at hl 1 rfl) ?_
          exact hret a _ _ (show True from trivial) rfl dX12_count_148
        · have tc_15 := t_nle c_15
          refine lv_iload_n hx hb dX12_count_132 rfl (lv_at hl 1 rfl) ?_
          refine lv_aload_n hx hb dX12_count_133 rfl (lv_at hl 2 rfl) ?_
          refine va_get (D := D) (ci := 11) (v := .ref a_said) (C := RX12) (T := TX12) (N := 54) hx hb hts in_N_count_X12 hown hK.1 hP 0 rfl rfl 23 (by decide) lk7 (fun _ h9 => h9) rfl dX12_count_134 ?_
          refine lv_iload_n hx hb dX12_count_137 rfl (lv_at hl 0 rfl) ?_
          refine va_iald hx hb hK.1 hP 2 0 rfl rfl (t_in (by omega) (by omega)) dX12_count_138 ?_
          refine lv_topi (fun y_16 ey_16 => ?_)
          refine lv_iadd hx hb dX12_count_139 ?_
          refine lv_topi (fun x_17 ex_17 => ?_)
          refine lv_istore_n (lv' := [(2, .int x_17), (3, .int j), (0, .ref h), (1, .int w)]) hx hb dX12_count_140 rfl hl (by decide) rfl (fun ls hl => ?_)
          obtain ⟨x_18, ex_18⟩ : ∃ y : Int32, y = j + 1 := ⟨_, rfl⟩
          refine lv_iinc (v := x_18) (lv' := [(3, .int x_18), (2, .int x_17), (0, .ref h), (1, .int w)]) hx hb dX12_count_141 hl (k := 1) rfl (by rw [ex_18]; rfl) (by decide) rfl (fun ls hl => ?_)
          first | have tx_18 := t_add ex_18 (by omega) (by omega) | skip
          refine lv_goto (tgt := 124) hx hb dX12_count_144 (by decide) ?_
          exact ih124 x_17 x_18 (by omega) (by omega) (by omega) ls (lv_sub hl [0, 1, 2, 3] rfl)
    exact loop124 ((v_gifts.toInt - (0 : Int32).toInt).toNat + 1) 0 0 (by omega) (by omega) (by omega) ls (lv_sub hl [0, 1, 2, 3] rfl)
  have th_14 := t_neq h_14
  have kqh_19 : (9 : Int32).toInt = 9 := by decide
  by_cases h_19 : w = 9
  · have th_19 := t_eq h_19
    refine lv_tableIn (off := 146) (tgt := 149) hx hb dX12_count_3 (by rw [h_19]; decide) (by rw [h_19]; decide) (by rw [h_19]; rfl) (by decide) ?_
    refine lv_aload_n hx hb dX12_count_149 rfl (lv_at hl 1 rfl) ?_
    refine va_get (D := D) (ci := 11) (v := .int v_allCandles) (C := RX12) (T := TX12) (N := 54) hx hb hts in_N_count_X12 hown hK.1 hP 0 rfl rfl 8 (by decide) lk8 (fun _ h9 => h9) rfl dX12_count_150 ?_
    exact hret v_allCandles _ _ (show True from trivial) rfl dX12_count_153
  have th_19 := t_neq h_19
  have kqh_20 : (10 : Int32).toInt = 10 := by decide
  by_cases h_20 : w = 10
  · have th_20 := t_eq h_20
    refine lv_tableIn (off := 151) (tgt := 154) hx hb dX12_count_3 (by rw [h_20]; decide) (by rw [h_20]; decide) (by rw [h_20]; rfl) (by decide) ?_
    refine lv_aload_n hx hb dX12_count_154 rfl (lv_at hl 1 rfl) ?_
    refine va_get (D := D) (ci := 11) (v := .int v_taped) (C := RX12) (T := TX12) (N := 54) hx hb hts in_N_count_X12 hown hK.1 hP 0 rfl rfl 42 (by decide) lk9 (fun _ h9 => h9) rfl dX12_count_155 ?_
    exact hret v_taped _ _ (show True from trivial) rfl dX12_count_158
  have th_20 := t_neq h_20
  refine lv_tableOut (tgt := 159) hx hb dX12_count_3 (by omega) (by decide) ?_
  refine lv_iconst (v := (-1)) hx hb dX12_count_159 (by decide) ?_
  exact hret (-1) _ _ (show True from trivial) rfl dX12_count_160

