theorem in_n_rankOn_X12 : ∀ w ∈ wsX120, w ∈ wsX12_rankOn := tl_X12_rankOn_X12
set_option maxHeartbeats 8000000 in
set_option maxRecDepth 100000 in
theorem n_rankOn {l : Launch} {D : va_G} {cI cZ cB : ClassId} {sz : Nat} {h a_isPriest a_bars a_joined a_turns a_awayMonk a_awayFrom a_awayTo a_feastDay a_rank a_isWeekly a_isDouble a_giftDay a_giftFrom a_owed a_said a_spared a_leaveGift a_leaveFrom a_leaveTo a_lateDay a_lateOffice a_lateBy a_guests a_who a_used a_lacks a_candles a_masses a_owing a_heldOn a_waits a_tape a_text a_statements a_taken a_sort a_first a_second : Nat} {v_today v_monks v_aways v_feasts v_gifts v_leaves v_lates v_store v_allCandles v_taped v_size v_at v_fault v_rules v_wordEnd v_number : Int32} {f_feastDay f_rank f_heldOn f_waits : Nat → Int32} {d : Int32} (h0_feasts : 0 ≤ v_feasts.toInt) (h1_feasts : v_feasts.toInt ≤ 40) : Met l yX12_rankOn wsX12_rankOn ({ frames := 2, cells := 0, slots := 0, locals := 45 }) (RW D cI cZ cB [.ref h, .int d] sz [(h, .inr (11, [.int v_today, .int v_monks, .int v_aways, .int v_feasts, .int v_gifts, .int v_leaves, .int v_lates, .int v_store, .int v_allCandles, .ref a_isPriest, .ref a_bars, .ref a_joined, .ref a_turns, .ref a_awayMonk, .ref a_awayFrom, .ref a_awayTo, .ref a_feastDay, .ref a_rank, .ref a_isWeekly, .ref a_isDouble, .ref a_giftDay, .ref a_giftFrom, .ref a_owed, .ref a_said, .ref a_spared, .ref a_leaveGift, .ref a_leaveFrom, .ref a_leaveTo, .ref a_lateDay, .ref a_lateOffice, .ref a_lateBy, .ref a_guests, .ref a_who, .ref a_used, .ref a_lacks, .ref a_candles, .ref a_masses, .ref a_owing, .ref a_heldOn, .ref a_waits, .ref a_tape, .ref a_text, .int v_taped, .int v_size, .int v_at, .int v_fault, .int v_rules, .ref a_statements, .ref a_taken, .ref a_sort, .ref a_first, .ref a_second, .int v_wordEnd, .int v_number])), (a_feastDay, .inl (cI, 40, .inl f_feastDay)), (a_rank, .inl (cI, 40, .inl f_rank)), (a_heldOn, .inl (cI, 365, .inl f_heldOn)), (a_waits, .inl (cZ, 40, .inl f_waits))]) (va_Qi (fun (r : Int32) (u : (Nat → Int32) × (Nat → Int32)) => True) (BW D [(h, .inr (11, [.int v_today, .int v_monks, .int v_aways, .int v_feasts, .int v_gifts, .int v_leaves, .int v_lates, .int v_store, .int v_allCandles, .ref a_isPriest, .ref a_bars, .ref a_joined, .ref a_turns, .ref a_awayMonk, .ref a_awayFrom, .ref a_awayTo, .ref a_feastDay, .ref a_rank, .ref a_isWeekly, .ref a_isDouble, .ref a_giftDay, .ref a_giftFrom, .ref a_owed, .ref a_said, .ref a_spared, .ref a_leaveGift, .ref a_leaveFrom, .ref a_leaveTo, .ref a_lateDay, .ref a_lateOffice, .ref a_lateBy, .ref a_guests, .ref a_who, .ref a_used, .ref a_lacks, .ref a_candles, .ref a_masses, .ref a_owing, .ref a_heldOn, .ref a_waits, .ref a_tape, .ref a_text, .int v_taped, .int v_size, .int v_at, .int v_fault, .int v_rules, .ref a_statements, .ref a_taken, .ref a_sort, .ref a_first, .ref a_second, .int v_wordEnd, .int v_number])), (a_feastDay, .inl (cI, 40, .inl f_feastDay)), (a_rank, .inl (cI, 40, .inl f_rank)), (a_heldOn, .inl (cI, 365, .inl f_heldOn)), (a_waits, .inl (cZ, 40, .inl f_waits))] sz (fun u : (Nat → Int32) × (Nat → Int32) => [(h, .inr (11, [.int v_today, .int v_monks, .int v_aways, .int v_feasts, .int v_gifts, .int v_leaves, .int v_lates, .int v_store, .int v_allCandles, .ref a_isPriest, .ref a_bars, .ref a_joined, .ref a_turns, .ref a_awayMonk, .ref a_awayFrom, .ref a_awayTo, .ref a_feastDay, .ref a_rank, .ref a_isWeekly, .ref a_isDouble, .ref a_giftDay, .ref a_giftFrom, .ref a_owed, .ref a_said, .ref a_spared, .ref a_leaveGift, .ref a_leaveFrom, .ref a_leaveTo, .ref a_lateDay, .ref a_lateOffice, .ref a_lateBy, .ref a_guests, .ref a_who, .ref a_used, .ref a_lacks, .ref a_candles, .ref a_masses, .ref a_owing, .ref a_heldOn, .ref a_waits, .ref a_tape, .ref a_text, .int v_taped, .int v_size, .int v_at, .int v_fault, .int v_rules, .ref a_statements, .ref a_taken, .ref a_sort, .ref a_first, .ref a_second, .int v_wordEnd, .int v_number])), (a_feastDay, .inl (cI, 40, .inl f_feastDay)), (a_rank, .inl (cI, 40, .inl f_rank)), (a_heldOn, .inl (cI, 365, .inl u.1)), (a_waits, .inl (cZ, 40, .inl u.2))])) (va_A [(h, .inr (11, [.int v_today, .int v_monks, .int v_aways, .int v_feasts, .int v_gifts, .int v_leaves, .int v_lates, .int v_store, .int v_allCandles, .ref a_isPriest, .ref a_bars, .ref a_joined, .ref a_turns, .ref a_awayMonk, .ref a_awayFrom, .ref a_awayTo, .ref a_feastDay, .ref a_rank, .ref a_isWeekly, .ref a_isDouble, .ref a_giftDay, .ref a_giftFrom, .ref a_owed, .ref a_said, .ref a_spared, .ref a_leaveGift, .ref a_leaveFrom, .ref a_leaveTo, .ref a_lateDay, .ref a_lateOffice, .ref a_lateBy, .ref a_guests, .ref a_who, .ref a_used, .ref a_lacks, .ref a_candles, .ref a_masses, .ref a_owing, .ref a_heldOn, .ref a_waits, .ref a_tape, .ref a_text, .int v_taped, .int v_size, .int v_at, .int v_fault, .int v_rules, .ref a_statements, .ref a_taken, .ref a_sort, .ref a_first, .ref a_second, .int v_wordEnd, .int v_number])), (a_feastDay, .inl (cI, 40, .inl f_feastDay)), (a_rank, .inl (cI, 40, .inl f_rank)), (a_heldOn, .inl (cI, 365, .inl f_heldOn)), (a_waits, .inl (cZ, 40, .inl f_waits))] sz)) 0 0 (va_A [(h, .inr (11, [.int v_today, .int v_monks, .int v_aways, .int v_feasts, .int v_gifts, .int v_leaves, .int v_lates, .int v_store, .int v_allCandles, .ref a_isPriest, .ref a_bars, .ref a_joined, .ref a_turns, .ref a_awayMonk, .ref a_awayFrom, .ref a_awayTo, .ref a_feastDay, .ref a_rank, .ref a_isWeekly, .ref a_isDouble, .ref a_giftDay, .ref a_giftFrom, .ref a_owed, .ref a_said, .ref a_spared, .ref a_leaveGift, .ref a_leaveFrom, .ref a_leaveTo, .ref a_lateDay, .ref a_lateOffice, .ref a_lateBy, .ref a_guests, .ref a_who, .ref a_used, .ref a_lacks, .ref a_candles, .ref a_masses, .ref a_owing, .ref a_heldOn, .ref a_waits, .ref a_tape, .ref a_text, .int v_taped, .int v_size, .int v_at, .int v_fault, .int v_rules, .ref a_statements, .ref a_taken, .ref a_sort, .ref a_first, .ref a_second, .int v_wordEnd, .int v_number])), (a_feastDay, .inl (cI, 40, .inl f_feastDay)), (a_rank, .inl (cI, 40, .inl f_rank)), (a_heldOn, .inl (cI, 365, .inl f_heldOn)), (a_waits, .inl (cZ, 40, .inl f_waits))] sz) := by
  refine rw_ret (cc := cX12_rankOn) (maxL := 3) (ty := .int) (own := RX12) (by decide) rfl rfl (Nat.le_of_ble_eq_true rfl) ?_
  intro p e s m args below meth c Q A S hin hret hP hK hD hA hS ls hl
  obtain ⟨hx, hb, hml, hown, hts⟩ := id S
  have hl : lv_has ls 3 [(0, .ref h), (1, .int d)] := hl
  have kkm1 : (-1 : Int32).toInt = -1 := by decide
  have kk0 : (0 : Int32).toInt = 0 := by decide
  have kk365 : (365 : Int32).toInt = 365 := by decide
  have lk0 := hts (.fieldLink RX12 35 "AbbeyHoursModel" "rank" "[I") (List.mem_cons_of_mem _ (List.mem_append_left _ (List.mem_of_getElem? (i := 0) rfl)))
  refine lv_aload_n hx hb dX12_rankOn_0 rfl (lv_at hl 0 rfl) ?_
  refine lv_iload_n hx hb dX12_rankOn_1 rfl (lv_at hl 1 rfl) ?_
  refine lv_sipush (v := 365) hx hb dX12_rankOn_2 (by decide) ?_
  refine lv_irem hx hb dX12_rankOn_5 (by decide) ?_
  refine lv_topi (fun x_1 ex_1 => ?_)
  have hPc := hP.sub (ws' := [(h, .inr (11, [.int v_today, .int v_monks, .int v_aways, .int v_feasts, .int v_gifts, .int v_leaves, .int v_lates, .int v_store, .int v_allCandles, .ref a_isPriest, .ref a_bars, .ref a_joined, .ref a_turns, .ref a_awayMonk, .ref a_awayFrom, .ref a_awayTo, .ref a_feastDay, .ref a_rank, .ref a_isWeekly, .ref a_isDouble, .ref a_giftDay, .ref a_giftFrom, .ref a_owed, .ref a_said, .ref a_spared, .ref a_leaveGift, .ref a_leaveFrom, .ref a_leaveTo, .ref a_lateDay, .ref a_lateOffice, .ref a_lateBy, .ref a_guests, .ref a_who, .ref a_used, .ref a_lacks, .ref a_candles, .ref a_masses, .ref a_owing, .ref a_heldOn, .ref a_waits, .ref a_tape, .ref a_text, .int v_taped, .int v_size, .int v_at, .int v_fault, .int v_rules, .ref a_statements, .ref a_taken, .ref a_sort, .ref a_first, .ref a_second, .int v_wordEnd, .int v_number])), (a_feastDay, .inl (cI, 40, .inl f_feastDay)), (a_rank, .inl (cI, 40, .inl f_rank)), (a_heldOn, .inl (cI, 365, .inl f_heldOn)), (a_waits, .inl (cZ, 40, .inl f_waits))]) [0, 1, 2, 3, 4] rfl
  refine rwV (As := [.int x_1]) (rest := []) (wc := [(h, .inr (11, [.int v_today, .int v_monks, .int v_aways, .int v_feasts, .int v_gifts, .int v_leaves, .int v_lates, .int v_store, .int v_allCandles, .ref a_isPriest, .ref a_bars, .ref a_joined, .ref a_turns, .ref a_awayMonk, .ref a_awayFrom, .ref a_awayTo, .ref a_feastDay, .ref a_rank, .ref a_isWeekly, .ref a_isDouble, .ref a_giftDay, .ref a_giftFrom, .ref a_owed, .ref a_said, .ref a_spared, .ref a_leaveGift, .ref a_leaveFrom, .ref a_leaveTo, .ref a_lateDay, .ref a_lateOffice, .ref a_lateBy, .ref a_guests, .ref a_who, .ref a_used, .ref a_lacks, .ref a_candles, .ref a_masses, .ref a_owing, .ref a_heldOn, .ref a_waits, .ref a_tape, .ref a_text, .int v_taped, .int v_size, .int v_at, .int v_fault, .int v_rules, .ref a_statements, .ref a_taken, .ref a_sort, .ref a_first, .ref a_second, .int v_wordEnd, .int v_number])), (a_feastDay, .inl (cI, 40, .inl f_feastDay)), (a_rank, .inl (cI, 40, .inl f_rank)), (a_heldOn, .inl (cI, 365, .inl f_heldOn)), (a_waits, .inl (cZ, 40, .inl f_waits))]) (wr := []) S (n_held  (by omega) (by omega)) (cwV 1 hts gX12_rankOn_X12_held rfl rfl rfl ⟨rfl, hd_X12_held⟩ ⟨Nat.le_of_ble_eq_true rfl, Nat.le_of_ble_eq_true rfl⟩) hK hP hD hS hA [0, 1, 2, 3, 4] [] rfl rfl (by decide +kernel) (by decide +kernel) (by decide +kernel) (va_recv hK.1 hPc (ci := 11) (q0 := 0) rfl rfl) rfl hl.1 rfl (Nat.le_of_ble_eq_true rfl) dX12_rankOn_6 ⟨Nat.le_of_ble_eq_true rfl, Nat.le_of_ble_eq_true rfl⟩ (fun r_2 u_2 H locs hw_2 hP hD hS => ?_)
  obtain ⟨g1_2, g2_2⟩ := u_2
  have hw_2 : -1 ≤ r_2.toInt ∧ (r_2.toInt < v_feasts.toInt ∨ r_2.toInt = -1) := hw_2
  have hP : va_P D vwCl [(h, .inr (11, [.int v_today, .int v_monks, .int v_aways, .int v_feasts, .int v_gifts, .int v_leaves, .int v_lates, .int v_store, .int v_allCandles, .ref a_isPriest, .ref a_bars, .ref a_joined, .ref a_turns, .ref a_awayMonk, .ref a_awayFrom, .ref a_awayTo, .ref a_feastDay, .ref a_rank, .ref a_isWeekly, .ref a_isDouble, .ref a_giftDay, .ref a_giftFrom, .ref a_owed, .ref a_said, .ref a_spared, .ref a_leaveGift, .ref a_leaveFrom, .ref a_leaveTo, .ref a_lateDay, .ref a_lateOffice, .ref a_lateBy, .ref a_guests, .ref a_who, .ref a_used, .ref a_lacks, .ref a_candles, .ref a_masses, .ref a_owing, .ref a_heldOn, .ref a_waits, .ref a_tape, .ref a_text, .int v_taped, .int v_size, .int v_at, .int v_fault, .int v_rules, .ref a_statements, .ref a_taken, .ref a_sort, .ref a_first, .ref a_second, .int v_wordEnd, .int v_number])), (a_feastDay, .inl (cI, 40, .inl f_feastDay)), (a_rank, .inl (cI, 40, .inl f_rank)), (a_heldOn, .inl (cI, 365, .inl g1_2)), (a_waits, .inl (cZ, 40, .inl g2_2))] H := hP
  have hD := asD hP hD
  refine lv_istore_n (lv' := [(2, .int r_2), (0, .ref h), (1, .int d)]) hx hb dX12_rankOn_9 rfl hl (by decide) rfl (fun ls hl => ?_)
  refine lv_iload_n hx hb dX12_rankOn_10 rfl (lv_at hl 0 rfl) ?_
  refine lv_iconst (v := (-1)) hx hb dX12_rankOn_11 (by decide) ?_
  refine lv_icmp_ne (tgt := 19) hx hb dX12_rankOn_12 (by decide) (fun c_3 => ?_) (fun c_3 => ?_)
  · have tc_3 := t_neq c_3
    refine lv_aload_n hx hb dX12_rankOn_19 rfl (lv_at hl 1 rfl) ?_
    refine va_get (D := D) (ci := 11) (v := .ref a_rank) (C := RX12) (T := TX12) (N := 54) hx hb hts in_n_rankOn_X12 hown hK.1 hP 0 rfl rfl 17 (by decide) lk0 (fun _ h9 => h9) rfl dX12_rankOn_20 ?_
    refine lv_iload_n hx hb dX12_rankOn_23 rfl (lv_at hl 0 rfl) ?_
    refine va_iald hx hb hK.1 hP 2 0 rfl rfl (t_in (by omega) (by omega)) dX12_rankOn_24 ?_
    refine lv_topi (fun y_4 ey_4 => ?_)
    exact hret y_4 (g1_2, g2_2) _ _ _ _ (show True from trivial) rfl (hP.sub [0, 1, 2, 3, 4] rfl) (hD.sub [0, 1, 2, 3, 4] (by decide +kernel) rfl) hS dX12_rankOn_25
  · have tc_3 := t_eq c_3
    refine lv_iconst (v := 0) hx hb dX12_rankOn_15 (by decide) ?_
    refine lv_goto (tgt := 25) hx hb dX12_rankOn_16 (by decide) ?_
    exact hret 0 (g1_2, g2_2) _ _ _ _ (show True from trivial) rfl (hP.sub [0, 1, 2, 3, 4] rfl) (hD.sub [0, 1, 2, 3, 4] (by decide +kernel) rfl) hS dX12_rankOn_25

theorem in_n_lateRow_X12 : ∀ w ∈ wsX120, w ∈ wsX12_lateRow := tl_X12_lateRow_X12
set_option maxHeartbeats 8000000 in
set_option maxRecDepth 100000 in
theorem n_lateRow {l : Launch} {D : va_G} {cI cZ cB : ClassId} {h a_isPriest a_bars a_joined a_turns a_awayMonk a_awayFrom a_awayTo a_feastDay a_rank a_isWeekly a_isDouble a_giftDay a_giftFrom a_owed a_said a_spared a_leaveGift a_leaveFrom a_leaveTo a_lateDay a_lateOffice a_lateBy a_guests a_who a_used a_lacks a_candles a_masses a_owing a_heldOn a_waits a_tape a_text a_statements a_taken a_sort a_first a_second : Nat} {v_today v_monks v_aways v_feasts v_gifts v_leaves v_lates v_store v_allCandles v_taped v_size v_at v_fault v_rules v_wordEnd v_number : Int32} {f_lateDay f_lateOffice : Nat → Int32} {d k : Int32} (h0_lates : 0 ≤ v_lates.toInt) (h1_lates : v_lates.toInt ≤ 100) : Met l yX12_lateRow wsX12_lateRow ({ frames := 0, cells := 0, slots := 0, locals := 0 }) (RO D cI cZ cB [.ref h, .int d, .int k] [(h, .inr (11, [.int v_today, .int v_monks, .int v_aways, .int v_feasts, .int v_gifts, .int v_leaves, .int v_lates, .int v_store, .int v_allCandles, .ref a_isPriest, .ref a_bars, .ref a_joined, .ref a_turns, .ref a_awayMonk, .ref a_awayFrom, .ref a_awayTo, .ref a_feastDay, .ref a_rank, .ref a_isWeekly, .ref a_isDouble, .ref a_giftDay, .ref a_giftFrom, .ref a_owed, .ref a_said, .ref a_spared, .ref a_leaveGift, .ref a_leaveFrom, .ref a_leaveTo, .ref a_lateDay, .ref a_lateOffice, .ref a_lateBy, .ref a_guests, .ref a_who, .ref a_used, .ref a_lacks, .ref a_candles, .ref a_masses, .ref a_owing, .ref a_heldOn, .ref a_waits, .ref a_tape, .ref a_text, .int v_taped, .int v_size, .int v_at, .int v_fault, .int v_rules, .ref a_statements, .ref a_taken, .ref a_sort, .ref a_first, .ref a_second, .int v_wordEnd, .int v_number])), (a_lateDay, .inl (cI, 100, .inl f_lateDay)), (a_lateOffice, .inl (cI, 100, .inl f_lateOffice))]) (vp_Si (fun r : Int32 => r.toInt = -1 ∨ (0 ≤ r.toInt ∧ r.toInt < v_lates.toInt))) 0 0 (fun _ => False) := by
  refine ro_ret (cc := cX12_lateRow) (maxL := 4) (ty := .int) (own := RX12) (by decide) rfl rfl (Nat.le_of_ble_eq_true rfl) ?_
  intro p e s m args below meth c Q S hret hP hK ls hl
  obtain ⟨hx, hb, hml, hown, hts⟩ := id S
  have hl : lv_has ls 4 [(0, .ref h), (1, .int d), (2, .int k)] := hl
  have kkm1 : (-1 : Int32).toInt = -1 := by decide
  have kk0 : (0 : Int32).toInt = 0 := by decide
  have kk1 : (1 : Int32).toInt = 1 := by decide
  have lk0 := hts (.fieldLink RX12 172 "AbbeyHoursModel" "lates" "I") (List.mem_cons_of_mem _ (List.mem_append_left _ (List.mem_of_getElem? (i := 0) rfl)))
  have lk1 := hts (.fieldLink RX12 68 "AbbeyHoursModel" "lateDay" "[I") (List.mem_cons_of_mem _ (List.mem_append_left _ (List.mem_of_getElem? (i := 1) rfl)))
  have lk2 := hts (.fieldLink RX12 71 "AbbeyHoursModel" "lateOffice" "[I") (List.mem_cons_of_mem _ (List.mem_append_left _ (List.mem_of_getElem? (i := 2) rfl)))
  refine lv_iconst (v := 0) hx hb dX12_lateRow_0 (by decide) ?_
  refine lv_istore_n (lv' := [(3, .int 0), (0, .ref h), (1, .int d), (2, .int k)]) hx hb dX12_lateRow_1 rfl hl (by decide) rfl (fun ls hl => ?_)
  have loop2 : ∀ (fuel : Nat) (j : Int32), v_lates.toInt - j.toInt < (fuel : Int) → (0 ≤ j.toInt) → (j.toInt ≤ v_lates.toInt) → ∀ ls : Array Slot, lv_has ls 4 [(3, .int j), (0, .ref h), (1, .int d), (2, .int k)] → W p l e ({ frames := 0, cells := 0, slots := 0, locals := 0 } : Room) s m args below meth c s.heap [] 0 0 Q (F0 m 2 ls []) := by
    intro fuel
    induction fuel with
    | zero =>
      intro j hmu hi0 hi1 ls hl
      exfalso; omega
    | succ fuel ih2 =>
      intro j hmu hi0 hi1 ls hl
      refine lv_iload_n hx hb dX12_lateRow_2 rfl (lv_at hl 0 rfl) ?_
      refine lv_aload_n hx hb dX12_lateRow_3 rfl (lv_at hl 1 rfl) ?_
      refine va_get (D := D) (ci := 11) (v := .int v_lates) (C := RX12) (T := TX12) (N := 54) hx hb hts in_n_lateRow_X12 hown hK.1 hP 0 rfl rfl 6 (by decide) lk0 (fun _ h9 => h9) rfl dX12_lateRow_4 ?_
      refine lv_icmp_ge (tgt := 38) hx hb dX12_lateRow_7 (by decide) (fun c_1 => ?_) (fun c_1 => ?_)
      · have tc_1 := t_le c_1
        refine lv_iconst (v := (-1)) hx hb dX12_lateRow_38 (by decide) ?_
        exact hret (-1) _ _ (show (-1 : Int32).toInt = -1 ∨ (0 ≤ (-1 : Int32).toInt ∧ (-1 : Int32).toInt < v_lates.toInt) from by omega) rfl dX12_lateRow_39
      · have tc_1 := t_nle c_1
        refine lv_aload_n hx hb dX12_lateRow_10 rfl (lv_at hl 1 rfl) ?_
        refine va_get (D := D) (ci := 11) (v := .ref a_lateDay) (C := RX12) (T := TX12) (N := 54) hx hb hts in_n_lateRow_X12 hown hK.1 hP 0 rfl rfl 28 (by decide) lk1 (fun _ h9 => h9) rfl dX12_lateRow_11 ?_
        refine lv_iload_n hx hb dX12_lateRow_14 rfl (lv_at hl 0 rfl) ?_
        refine va_iald hx hb hK.1 hP 1 0 rfl rfl (t_in (by omega) (by omega)) dX12_lateRow_15 ?_
        refine lv_topi (fun y_2 ey_2 => ?_)
        refine lv_iload_n hx hb dX12_lateRow_16 rfl (lv_at hl 2 rfl) ?_
        refine lv_icmp_ne (tgt := 32) hx hb dX12_lateRow_17 (by decide) (fun c_3 => ?_) (fun c_3 => ?_)
        · have tc_3 := t_neq c_3
          obtain ⟨x_4, ex_4⟩ : ∃ y : Int32, y = j + 1 := ⟨_, rfl⟩
          refine lv_iinc (v := x_4) (lv' := [(3, .int x_4), (0, .ref h), (1, .int d), (2, .int k)]) hx hb dX12_lateRow_32 hl (k := 0) rfl (by rw [ex_4]; rfl) (by decide) rfl (fun ls hl => ?_)
          first | have tx_4 := t_add ex_4 (by omega) (by omega) | skip
          refine lv_goto (tgt := 2) hx hb dX12_lateRow_35 (by decide) ?_
          exact ih2 x_4 (by omega) (by omega) (by omega) ls (lv_sub hl [0, 1, 2, 3] rfl)
        · have tc_3 := t_eq c_3
          refine lv_aload_n hx hb dX12_lateRow_20 rfl (lv_at hl 1 rfl) ?_
          refine va_get (D := D) (ci := 11) (v := .ref a_lateOffice) (C := RX12) (T := TX12) (N := 54) hx hb hts in_n_lateRow_X12 hown hK.1 hP 0 rfl rfl 29 (by decide) lk2 (fun _ h9 => h9) rfl dX12_lateRow_21 ?_
          refine lv_iload_n hx hb dX12_lateRow_24 rfl (lv_at hl 0 rfl) ?_
          refine va_iald hx hb hK.1 hP 2 0 rfl rfl (t_in (by omega) (by omega)) dX12_lateRow_25 ?_
          refine lv_topi (fun y_5 ey_5 => ?_)
          refine lv_iload_n hx hb dX12_lateRow_26 rfl (lv_at hl 3 rfl) ?_
          refine lv_icmp_ne (tgt := 32) hx hb dX12_lateRow_27 (by decide) (fun c_6 => ?_) (fun c_6 => ?_)
          · have tc_6 := t_neq c_6
            obtain ⟨x_7, ex_7⟩ : ∃ y : Int32, y = j + 1 := ⟨_, rfl⟩
            refine lv_iinc (v := x_7) (lv' := [(3, .int x_7), (0, .ref h), (1, .int d), (2, .int k)]) hx hb dX12_lateRow_32 hl (k := 0) rfl (by rw [ex_7]; rfl) (by decide) rfl (fun ls hl => ?_)
            first | have tx_7 := t_add ex_7 (by omega) (by omega) | skip
            refine lv_goto (tgt := 2) hx hb dX12_lateRow_35 (by decide) ?_
            exact ih2 x_7 (by omega) (by omega) (by omega) ls (lv_sub hl [0, 1, 2, 3] rfl)
          · have tc_6 := t_eq c_6
            refine lv_iload_n hx hb dX12_lateRow_30 rfl (lv_at hl 0 rfl) ?_
            exact hret j _ _ (show j.toInt = -1 ∨ (0 ≤ j.toInt ∧ j.toInt < v_lates.toInt) from by omega) rfl dX12_lateRow_31
  exact loop2 ((v_lates.toInt - (0 : Int32).toInt).toNat + 1) 0 (by omega) (by omega) (by omega) ls (lv_sub hl [0, 1, 2, 3] rfl)

theorem in_n_begins_X12 : ∀ w ∈ wsX120, w ∈ wsX12_begins := tl_X12_begins_X12
set_option maxHeartbeats 8000000 in
set_option maxRecDepth 100000 in
theorem n_begins {l : Launch} {D : va_G} {cI cZ cB : ClassId} {h a_isPriest a_bars a_joined a_turns a_awayMonk a_awayFrom a_awayTo a_feastDay a_rank a_isWeekly a_isDouble a_giftDay a_giftFrom a_owed a_said a_spared a_leaveGift a_leaveFrom a_leaveTo a_lateDay a_lateOffice a_lateBy a_guests a_who a_used a_lacks a_candles a_masses a_owing a_heldOn a_waits a_tape a_text a_statements a_taken a_sort a_first a_second : Nat} {v_today v_monks v_aways v_feasts v_gifts v_leaves v_lates v_store v_allCandles v_taped v_size v_at v_fault v_rules v_wordEnd v_number : Int32} {f_lateDay f_lateOffice f_lateBy : Nat → Int32} {d k : Int32} (h0_lates : 0 ≤ v_lates.toInt) (h1_lates : v_lates.toInt ≤ 100) : Met l yX12_begins wsX12_begins ({ frames := 4, cells := 0, slots := 0, locals := 84 }) (RO D cI cZ cB [.ref h, .int d, .int k] [(h, .inr (11, [.int v_today, .int v_monks, .int v_aways, .int v_feasts, .int v_gifts, .int v_leaves, .int v_lates, .int v_store, .int v_allCandles, .ref a_isPriest, .ref a_bars, .ref a_joined, .ref a_turns, .ref a_awayMonk, .ref a_awayFrom, .ref a_awayTo, .ref a_feastDay, .ref a_rank, .ref a_isWeekly, .ref a_isDouble, .ref a_giftDay, .ref a_giftFrom, .ref a_owed, .ref a_said, .ref a_spared, .ref a_leaveGift, .ref a_leaveFrom, .ref a_leaveTo, .ref a_lateDay, .ref a_lateOffice, .ref a_lateBy, .ref a_guests, .ref a_who, .ref a_used, .ref a_lacks, .ref a_candles, .ref a_masses, .ref a_owing, .ref a_heldOn, .ref a_waits, .ref a_tape, .ref a_text, .int v_taped, .int v_size, .int v_at, .int v_fault, .int v_rules, .ref a_statements, .ref a_taken, .ref a_sort, .ref a_first, .ref a_second, .int v_wordEnd, .int v_number])), (a_lateDay, .inl (cI, 100, .inl f_lateDay)), (a_lateOffice, .inl (cI, 100, .inl f_lateOffice)), (a_lateBy, .inl (cI, 100, .inl f_lateBy))]) (vp_Si (fun r : Int32 => True)) 0 0 (fun _ => False) := by
  refine ro_ret (cc := cX12_begins) (maxL := 4) (ty := .int) (own := RX12) (by decide) rfl rfl (Nat.le_of_ble_eq_true rfl) ?_
  intro p e s m args below meth c Q S hret hP hK ls hl
  obtain ⟨hx, hb, hml, hown, hts⟩ := id S
  have hl : lv_has ls 4 [(0, .ref h), (1, .int d), (2, .int k)] := hl
  have kkm1 : (-1 : Int32).toInt = -1 := by decide
  have kk0 : (0 : Int32).toInt = 0 := by decide
  have lk0 := hts (.fieldLink RX12 74 "AbbeyHoursModel" "lateBy" "[I") (List.mem_cons_of_mem _ (List.mem_append_left _ (List.mem_of_getElem? (i := 0) rfl)))
  refine lv_aload_n hx hb dX12_begins_0 rfl (lv_at hl 0 rfl) ?_
  refine lv_iload_n hx hb dX12_begins_1 rfl (lv_at hl 1 rfl) ?_
  refine lv_iload_n hx hb dX12_begins_2 rfl (lv_at hl 2 rfl) ?_
  have hPc := hP.sub (ws' := [(h, .inr (11, [.int v_today, .int v_monks, .int v_aways, .int v_feasts, .int v_gifts, .int v_leaves, .int v_lates, .int v_store, .int v_allCandles, .ref a_isPriest, .ref a_bars, .ref a_joined, .ref a_turns, .ref a_awayMonk, .ref a_awayFrom, .ref a_awayTo, .ref a_feastDay, .ref a_rank, .ref a_isWeekly, .ref a_isDouble, .ref a_giftDay, .ref a_giftFrom, .ref a_owed, .ref a_said, .ref a_spared, .ref a_leaveGift, .ref a_leaveFrom, .ref a_leaveTo, .ref a_lateDay, .ref a_lateOffice, .ref a_lateBy, .ref a_guests, .ref a_who, .ref a_used, .ref a_lacks, .ref a_candles, .ref a_masses, .ref a_owing, .ref a_heldOn, .ref a_waits, .ref a_tape, .ref a_text, .int v_taped, .int v_size, .int v_at, .int v_fault, .int v_rules, .ref a_statements, .ref a_taken, .ref a_sort, .ref a_first, .ref a_second, .int v_wordEnd, .int v_number])), (a_lateDay, .inl (cI, 100, .inl f_lateDay)), (a_lateOffice, .inl (cI, 100, .inl f_lateOffice))]) [0, 1, 2] rfl
  refine roV (As := [.int d, .int k]) (rest := []) S (n_lateRow  (by omega) (by omega)) (cwV 2 hts gX12_begins_X12_lateRow rfl rfl rfl ⟨rfl, hd_X12_lateRow⟩ ⟨Nat.le_of_ble_eq_true rfl, Nat.le_of_ble_eq_true rfl⟩) hK hPc (va_recv hK.1 hPc (ci := 11) (q0 := 0) rfl rfl) rfl hl.1 rfl (Nat.le_of_ble_eq_true rfl) dX12_begins_3 ⟨Nat.le_of_ble_eq_true rfl, Nat.le_of_ble_eq_true rfl⟩ (fun r_1 hw_1 => ?_)
  have hw_1 : r_1.toInt = -1 ∨ (0 ≤ r_1.toInt ∧ r_1.toInt < v_lates.toInt) := hw_1
  refine lv_istore_n (lv' := [(3, .int r_1), (0, .ref h), (1, .int d), (2, .int k)]) hx hb dX12_begins_6 rfl hl (by decide) rfl (fun ls hl => ?_)
  refine lv_iload_n hx hb dX12_begins_7 rfl (lv_at hl 2 rfl) ?_
  refine lv_iload_n hx hb dX12_begins_8 rfl (lv_at hl 3 rfl) ?_
  have hPc := hP.sub (ws' := []) [] rfl
  refine roS (As := [.int d, .int k]) (rest := []) S (m_plain  ) (va_cwS 2 hts gX12_begins_X12_plain rfl rfl rfl hd_X12_plain ⟨Nat.le_of_ble_eq_true rfl, Nat.le_of_ble_eq_true rfl⟩) hK hPc rfl hl.1 rfl (Nat.le_of_ble_eq_true rfl) dX12_begins_9 ⟨Nat.le_of_ble_eq_true rfl, Nat.le_of_ble_eq_true rfl⟩ (fun r_2 hw_2 => ?_)
  have hw_2 : r_2 = sunP (rem365 d) k := hw_2
  refine lv_iload_n hx hb dX12_begins_12 rfl (lv_at hl 0 rfl) ?_
  refine lv_iconst (v := (-1)) hx hb dX12_begins_13 (by decide) ?_
  refine lv_icmp_ne (tgt := 21) hx hb dX12_begins_14 (by decide) (fun c_3 => ?_) (fun c_3 => ?_)
  · have tc_3 := t_neq c_3
    refine lv_aload_n hx hb dX12_begins_21 rfl (lv_at hl 1 rfl) ?_
    refine va_get (D := D) (ci := 11) (v := .ref a_lateBy) (C := RX12) (T := TX12) (N := 54) hx hb hts in_n_begins_X12 hown hK.1 hP 0 rfl rfl 30 (by decide) lk0 (fun _ h9 => h9) rfl dX12_begins_22 ?_
    refine lv_iload_n hx hb dX12_begins_25 rfl (lv_at hl 0 rfl) ?_
    refine va_iald hx hb hK.1 hP 3 0 rfl rfl (t_in (by omega) (by omega)) dX12_begins_26 ?_
    refine lv_topi (fun y_4 ey_4 => ?_)
    refine lv_iadd hx hb dX12_begins_27 ?_
    refine lv_topi (fun x_5 ex_5 => ?_)
    exact hret x_5 _ _ (show True from trivial) rfl dX12_begins_28
  · have tc_3 := t_eq c_3
    refine lv_iconst (v := 0) hx hb dX12_begins_17 (by decide) ?_
    refine lv_goto (tgt := 27) hx hb dX12_begins_18 (by decide) ?_
    refine lv_iadd hx hb dX12_begins_27 ?_
    refine lv_topi (fun x_6 ex_6 => ?_)
    exact hret x_6 _ _ (show True from trivial) rfl dX12_begins_28

theorem in_n_inForce_X12 : ∀ w ∈ wsX120, w ∈ wsX12_inForce := tl_X12_inForce_X12
set_option maxHeartbeats 8000000 in
set_option maxRecDepth 100000 in
theorem n_inForce {l : Launch} {D : va_G} {cI cZ cB : ClassId} {h a_isPriest a_bars a_joined a_turns a_awayMonk a_awayFrom a_awayTo a_feastDay a_rank a_isWeekly a_isDouble a_giftDay a_giftFrom a_owed a_said a_spared a_leaveGift a_leaveFrom a_leaveTo a_lateDay a_lateOffice a_lateBy a_guests a_who a_used a_lacks a_candles a_masses a_owing a_heldOn a_waits a_tape a_text a_statements a_taken a_sort a_first a_second : Nat} {v_today v_monks v_aways v_feasts v_gifts v_leaves v_lates v_store v_allCandles v_taped v_size v_at v_fault v_rules v_wordEnd v_number : Int32} {f_taken : Nat → Int32} {d : Int32} (h0_rules : 0 ≤ v_rules.toInt) (h1_rules : v_rules.toInt ≤ 10) : Met l yX12_inForce wsX12_inForce ({ frames := 0, cells := 0, slots := 0, locals := 0 }) (RO D cI cZ cB [.ref h, .int d] [(h, .inr (11, [.int v_today, .int v_monks, .int v_aways, .int v_feasts, .int v_gifts, .int v_leaves, .int v_lates, .int v_store, .int v_allCandles, .ref a_isPriest, .ref a_bars, .ref a_joined, .ref a_turns, .ref a_awayMonk, .ref a_awayFrom, .ref a_awayTo, .ref a_feastDay, .ref a_rank, .ref a_isWeekly, .ref a_isDouble, .ref a_giftDay, .ref a_giftFrom, .ref a_owed, .ref a_said, .ref a_spared, .ref a_leaveGift, .ref a_leaveFrom, .ref a_leaveTo, .ref a_lateDay, .ref a_lateOffice, .ref a_lateBy, .ref a_guests, .ref a_who, .ref a_used, .ref a_lacks, .ref a_candles, .ref a_masses, .ref a_owing, .ref a_heldOn, .ref a_waits, .ref a_tape, .ref a_text, .int v_taped, .int v_size, .int v_at, .int v_fault, .int v_rules, .ref a_statements, .ref a_taken, .ref a_sort, .ref a_first, .ref a_second, .int v_wordEnd, .int v_number])), (a_taken, .inl (cI, 11, .inl f_taken))]) (vp_Si (fun r : Int32 => r.toInt = -1 ∨ (0 ≤ r.toInt ∧ r.toInt < v_rules.toInt))) 0 0 (fun _ => False) := by
  refine ro_ret (cc := cX12_inForce) (maxL := 4) (ty := .int) (own := RX12) (by decide) rfl rfl (Nat.le_of_ble_eq_true rfl) ?_
  intro p e s m args below meth c Q S hret hP hK ls hl
  obtain ⟨hx, hb, hml, hown, hts⟩ := id S
  have hl : lv_has ls 4 [(0, .ref h), (1, .int d)] := hl
  have kkm1 : (-1 : Int32).toInt = -1 := by decide
  have kk0 : (0 : Int32).toInt = 0 := by decide
  have kk1 : (1 : Int32).toInt = 1 := by decide
  have lk0 := hts (.fieldLink RX12 233 "AbbeyHoursModel" "rules" "I") (List.mem_cons_of_mem _ (List.mem_append_left _ (List.mem_of_getElem? (i := 0) rfl)))
  have lk1 := hts (.fieldLink RX12 118 "AbbeyHoursModel" "taken" "[I") (List.mem_cons_of_mem _ (List.mem_append_left _ (List.mem_of_getElem? (i := 1) rfl)))
  refine lv_iconst (v := (-1)) hx hb dX12_inForce_0 (by decide) ?_
  refine lv_istore_n (lv' := [(2, .int (-1)), (0, .ref h), (1, .int d)]) hx hb dX12_inForce_1 rfl hl (by decide) rfl (fun ls hl => ?_)
  refine lv_iconst (v := 0) hx hb dX12_inForce_2 (by decide) ?_
  refine lv_istore_n (lv' := [(3, .int 0), (2, .int (-1)), (0, .ref h), (1, .int d)]) hx hb dX12_inForce_3 rfl hl (by decide) rfl (fun ls hl => ?_)
  have loop4 : ∀ (fuel : Nat) (a : Int32) (j : Int32), v_rules.toInt - j.toInt < (fuel : Int) → (0 ≤ j.toInt) → (j.toInt ≤ v_rules.toInt) → (a.toInt = -1 ∨ (0 ≤ a.toInt ∧ a.toInt < v_rules.toInt)) → ∀ ls : Array Slot, lv_has ls 4 [(3, .int j), (2, .int a), (0, .ref h), (1, .int d)] → W p l e ({ frames := 0, cells := 0, slots := 0, locals := 0 } : Room) s m args below meth c s.heap [] 0 0 Q (F0 m 4 ls []) := by
    intro fuel
    induction fuel with
    | zero =>
      intro a j hmu hj0 hj1 ha ls hl
      exfalso; omega
    | succ fuel ih4 =>
      intro a j hmu hj0 hj1 ha ls hl
      refine lv_iload_n hx hb dX12_inForce_4 rfl (lv_at hl 0 rfl) ?_
      refine lv_aload_n hx hb dX12_inForce_5 rfl (lv_at hl 2 rfl) ?_
      refine va_get (D := D) (ci := 11) (v := .int v_rules) (C := RX12) (T := TX12) (N := 54) hx hb hts in_n_inForce_X12 hown hK.1 hP 0 rfl rfl 46 (by decide) lk0 (fun _ h9 => h9) rfl dX12_inForce_6 ?_
      refine lv_icmp_ge (tgt := 30) hx hb dX12_inForce_9 (by decide) (fun c_1 => ?_) (fun c_1 => ?_)
      · have tc_1 := t_le c_1
        refine lv_iload_n hx hb dX12_inForce_30 rfl (lv_at hl 1 rfl) ?_
        exact hret a _ _ (show a.toInt = -1 ∨ (0 ≤ a.toInt ∧ a.toInt < v_rules.toInt) from by omega) rfl dX12_inForce_31
      · have tc_1 := t_nle c_1
        refine lv_aload_n hx hb dX12_inForce_12 rfl (lv_at hl 2 rfl) ?_
        refine va_get (D := D) (ci := 11) (v := .ref a_taken) (C := RX12) (T := TX12) (N := 54) hx hb hts in_n_inForce_X12 hown hK.1 hP 0 rfl rfl 48 (by decide) lk1 (fun _ h9 => h9) rfl dX12_inForce_13 ?_
        refine lv_iload_n hx hb dX12_inForce_16 rfl (lv_at hl 0 rfl) ?_
        refine va_iald hx hb hK.1 hP 1 0 rfl rfl (t_in (by omega) (by omega)) dX12_inForce_17 ?_
        refine lv_topi (fun y_2 ey_2 => ?_)
        refine lv_iload_n hx hb dX12_inForce_18 rfl (lv_at hl 3 rfl) ?_
        refine lv_icmp_gt (tgt := 24) hx hb dX12_inForce_19 (by decide) (fun c_3 => ?_) (fun c_3 => ?_)
        · have tc_3 := t_lt c_3
          obtain ⟨x_4, ex_4⟩ : ∃ y : Int32, y = j + 1 := ⟨_, rfl⟩
          refine lv_iinc (v := x_4) (lv' := [(3, .int x_4), (2, .int a), (0, .ref h), (1, .int d)]) hx hb dX12_inForce_24 hl (k := 0) rfl (by rw [ex_4]; rfl) (by decide) rfl (fun ls hl => ?_)
          first | have tx_4 := t_add ex_4 (by omega) (by omega) | skip
          refine lv_goto (tgt := 4) hx hb dX12_inForce_27 (by decide) ?_
          exact ih4 a x_4 (by omega) (by omega) (by omega) (by omega) ls (lv_sub hl [0, 1, 2, 3] rfl)
        · have tc_3 := t_nlt c_3
          refine lv_iload_n hx hb dX12_inForce_22 rfl (lv_at hl 0 rfl) ?_
          refine lv_istore_n (lv' := [(2, .int j), (3, .int j), (0, .ref h), (1, .int d)]) hx hb dX12_inForce_23 rfl hl (by decide) rfl (fun ls hl => ?_)
          obtain ⟨x_5, ex_5⟩ : ∃ y : Int32, y = j + 1 := ⟨_, rfl⟩
          refine lv_iinc (v := x_5) (lv' := [(3, .int x_5), (2, .int j), (0, .ref h), (1, .int d)]) hx hb dX12_inForce_24 hl (k := 1) rfl (by rw [ex_5]; rfl) (by decide) rfl (fun ls hl => ?_)
          first | have tx_5 := t_add ex_5 (by omega) (by omega) | skip
          refine lv_goto (tgt := 4) hx hb dX12_inForce_27 (by decide) ?_
          exact ih4 j x_5 (by omega) (by omega) (by omega) (by omega) ls (lv_sub hl [0, 1, 2, 3] rfl)
  exact loop4 ((v_rules.toInt - (0 : Int32).toInt).toNat + 1) (-1) 0 (by omega) (by omega) (by omega) (by omega) ls (lv_sub hl [0, 1, 2, 3] rfl)

theorem in_n_lastOf_X12 : ∀ w ∈ wsX120, w ∈ wsX12_lastOf := tl_X12_lastOf_X12
set_option maxHeartbeats 8000000 in
set_option maxRecDepth 100000 in
theorem n_lastOf {l : Launch} {D : va_G} {cI cZ cB : ClassId} {h a_isPriest a_bars a_joined a_turns a_awayMonk a_awayFrom a_awayTo a_feastDay a_rank a_isWeekly a_isDouble a_giftDay a_giftFrom a_owed a_said a_spared a_leaveGift a_leaveFrom a_leaveTo a_lateDay a_lateOffice a_lateBy a_guests a_who a_used a_lacks a_candles a_masses a_owing a_heldOn a_waits a_tape a_text a_statements a_taken a_sort a_first a_second : Nat} {v_today v_monks v_aways v_feasts v_gifts v_leaves v_lates v_store v_allCandles v_taped v_size v_at v_fault v_rules v_wordEnd v_number : Int32} {f_statements f_sort f_first f_second : Nat → Int32} {i k x : Int32} (h0_rules : 0 ≤ v_rules.toInt) (h1_rules : v_rules.toInt ≤ 10) (hs : InR f_statements v_rules.toInt 0 17) (hi : i.toInt = -1 ∨ (0 ≤ i.toInt ∧ i.toInt < v_rules.toInt)) : Met l yX12_lastOf wsX12_lastOf ({ frames := 0, cells := 0, slots := 0, locals := 0 }) (RO D cI cZ cB [.ref h, .int i, .int k, .int x] [(h, .inr (11, [.int v_today, .int v_monks, .int v_aways, .int v_feasts, .int v_gifts, .int v_leaves, .int v_lates, .int v_store, .int v_allCandles, .ref a_isPriest, .ref a_bars, .ref a_joined, .ref a_turns, .ref a_awayMonk, .ref a_awayFrom, .ref a_awayTo, .ref a_feastDay, .ref a_rank, .ref a_isWeekly, .ref a_isDouble, .ref a_giftDay, .ref a_giftFrom, .ref a_owed, .ref a_said, .ref a_spared, .ref a_leaveGift, .ref a_leaveFrom, .ref a_leaveTo, .ref a_lateDay, .ref a_lateOffice, .ref a_lateBy, .ref a_guests, .ref a_who, .ref a_used, .ref a_lacks, .ref a_candles, .ref a_masses, .ref a_owing, .ref a_heldOn, .ref a_waits, .ref a_tape, .ref a_text, .int v_taped, .int v_size, .int v_at, .int v_fault, .int v_rules, .ref a_statements, .ref a_taken, .ref a_sort, .ref a_first, .ref a_second, .int v_wordEnd, .int v_number])), (a_statements, .inl (cI, 11, .inl f_statements)), (a_sort, .inl (cI, 176, .inl f_sort)), (a_first, .inl (cI, 176, .inl f_first)), (a_second, .inl (cI, 176, .inl f_second))]) (vp_Si (fun r : Int32 => True)) 0 0 (fun _ => False) := by
  refine ro_ret (cc := cX12_lastOf) (maxL := 6) (ty := .int) (own := RX12) (by decide) rfl rfl (Nat.le_of_ble_eq_true rfl) ?_
  intro p e s m args below meth c Q S hret hP hK ls hl
  obtain ⟨hx, hb, hml, hown, hts⟩ := id S
  have hl : lv_has ls 6 [(0, .ref h), (1, .int i), (2, .int k), (3, .int x)] := hl
  have kkm1 : (-1 : Int32).toInt = -1 := by decide
  have kk0 : (0 : Int32).toInt = 0 := by decide
  have kk1 : (1 : Int32).toInt = 1 := by decide
  have kk3 : (3 : Int32).toInt = 3 := by decide
  have kk16 : (16 : Int32).toInt = 16 := by decide
  have lk0 := hts (.fieldLink RX12 115 "AbbeyHoursModel" "statements" "[I") (List.mem_cons_of_mem _ (List.mem_append_left _ (List.mem_of_getElem? (i := 0) rfl)))
  have lk1 := hts (.fieldLink RX12 121 "AbbeyHoursModel" "sort" "[I") (List.mem_cons_of_mem _ (List.mem_append_left _ (List.mem_of_getElem? (i := 1) rfl)))
  have lk2 := hts (.fieldLink RX12 127 "AbbeyHoursModel" "second" "[I") (List.mem_cons_of_mem _ (List.mem_append_left _ (List.mem_of_getElem? (i := 3) rfl)))
  have lk3 := hts (.fieldLink RX12 124 "AbbeyHoursModel" "first" "[I") (List.mem_cons_of_mem _ (List.mem_append_left _ (List.mem_of_getElem? (i := 2) rfl)))
  refine lv_iconst (v := (-1)) hx hb dX12_lastOf_0 (by decide) ?_
  refine lv_istore (lv' := [(4, .int (-1)), (0, .ref h), (1, .int i), (2, .int k), (3, .int x)]) hx hb dX12_lastOf_1 hl (by decide) rfl (fun ls hl => ?_)
  refine lv_bipush (v := 16) hx hb dX12_lastOf_3 (by decide) ?_
  refine lv_iload_n hx hb dX12_lastOf_5 rfl (lv_at hl 2 rfl) ?_
  refine lv_imul hx hb dX12_lastOf_6 ?_
  refine lv_topi (fun x_1 ex_1 => ?_)
  first | have tx_1 := t_mulL kk16 ex_1 (by omega) (by omega) | skip
  refine lv_istore (lv' := [(5, .int x_1), (4, .int (-1)), (0, .ref h), (1, .int i), (2, .int k), (3, .int x)]) hx hb dX12_lastOf_7 hl (by decide) rfl (fun ls hl => ?_)
  have loop9 : ∀ (fuel : Nat) (a : Int32) (j : Int32), 16 * i.toInt + 17 - j.toInt < (fuel : Int) → (16 * i.toInt ≤ j.toInt) → (j.toInt ≤ 16 * i.toInt + 16) → ∀ ls : Array Slot, lv_has ls 6 [(5, .int j), (4, .int a), (0, .ref h), (1, .int i), (2, .int k), (3, .int x)] → W p l e ({ frames := 0, cells := 0, slots := 0, locals := 0 } : Room) s m args below meth c s.heap [] 0 0 Q (F0 m 9 ls []) := by
    intro fuel
    induction fuel with
    | zero =>
      intro a j hmu hj0 hj1 ls hl
      exfalso; omega
    | succ fuel ih9 =>
      intro a j hmu hj0 hj1 ls hl
      refine lv_iload_n hx hb dX12_lastOf_9 rfl (lv_at hl 3 rfl) ?_
      refine lv_iconst (v := (-1)) hx hb dX12_lastOf_10 (by decide) ?_
      refine lv_icmp_eq (tgt := 72) hx hb dX12_lastOf_11 (by decide) (fun c_2 => ?_) (fun c_2 => ?_)
      · have tc_2 := t_eq c_2
        refine lv_iload hx hb dX12_lastOf_72 (lv_at hl 1 rfl) ?_
        exact hret a _ _ (show True from trivial) rfl dX12_lastOf_74
      · have tc_2 := t_neq c_2
        refine lv_iload hx hb dX12_lastOf_14 (lv_at hl 0 rfl) ?_
        refine lv_bipush (v := 16) hx hb dX12_lastOf_16 (by decide) ?_
        refine lv_iload_n hx hb dX12_lastOf_18 rfl (lv_at hl 3 rfl) ?_
        refine lv_imul hx hb dX12_lastOf_19 ?_
        refine lv_topi (fun x_3 ex_3 => ?_)
        first | have tx_3 := t_mulL kk16 ex_3 (by omega) (by omega) | skip
        refine lv_aload_n hx hb dX12_lastOf_20 rfl (lv_at hl 2 rfl) ?_
        refine va_get (D := D) (ci := 11) (v := .ref a_statements) (C := RX12) (T := TX12) (N := 54) hx hb hts in_n_lastOf_X12 hown hK.1 hP 0 rfl rfl 47 (by decide) lk0 (fun _ h9 => h9) rfl dX12_lastOf_21 ?_
        refine lv_iload_n hx hb dX12_lastOf_24 rfl (lv_at hl 3 rfl) ?_
        refine va_iald hx hb hK.1 hP 1 0 rfl rfl (t_in (by omega) (by omega)) dX12_lastOf_25 ?_
        refine lv_topi (fun y_4 ey_4 => ?_)
        have hq := hs.get (i := i) (by omega) (by omega)
        rw [← ey_4] at hq
        refine lv_iadd hx hb dX12_lastOf_26 ?_
        refine lv_topi (fun x_5 ex_5 => ?_)
        first | have tx_5 := t_add ex_5 (by omega) (by omega) | skip
        refine lv_icmp_ge (tgt := 72) hx hb dX12_lastOf_27 (by decide) (fun c_6 => ?_) (fun c_6 => ?_)
        · have tc_6 := t_le c_6
          refine lv_iload hx hb dX12_lastOf_72 (lv_at hl 1 rfl) ?_
          exact hret a _ _ (show True from trivial) rfl dX12_lastOf_74
        · have tc_6 := t_nle c_6
          refine lv_aload_n hx hb dX12_lastOf_30 rfl (lv_at hl 2 rfl) ?_
          refine va_get (D := D) (ci := 11) (v := .ref a_sort) (C := RX12) (T := TX12) (N := 54) hx hb hts in_n_lastOf_X12 hown hK.1 hP 0 rfl rfl 49 (by decide) lk1 (fun _ h9 => h9) rfl dX12_lastOf_31 ?_
          refine lv_iload hx hb dX12_lastOf_34 (lv_at hl 0 rfl) ?_
          refine va_iald hx hb hK.1 hP 2 0 rfl rfl (t_in (by omega) (by omega)) dX12_lastOf_36 ?_
          refine lv_topi (fun y_7 ey_7 => ?_)
          refine lv_iload_n hx hb dX12_lastOf_37 rfl (lv_at hl 4 rfl) ?_
          refine lv_icmp_ne (tgt := 66) hx hb dX12_lastOf_38 (by decide) (fun c_8 => ?_) (fun c_8 => ?_)
          · have tc_8 := t_neq c_8
            obtain ⟨x_9, ex_9⟩ : ∃ y : Int32, y = j + 1 := ⟨_, rfl⟩
            refine lv_iinc (v := x_9) (lv' := [(5, .int x_9), (4, .int a), (0, .ref h), (1, .int i), (2, .int k), (3, .int x)]) hx hb dX12_lastOf_66 hl (k := 0) rfl (by rw [ex_9]; rfl) (by decide) rfl (fun ls hl => ?_)
            first | have tx_9 := t_add ex_9 (by omega) (by omega) | skip
            refine lv_goto (tgt := 9) hx hb dX12_lastOf_69 (by decide) ?_
            exact ih9 a x_9 (by omega) (by omega) (by omega) ls (lv_sub hl [0, 1, 2, 3, 4, 5] rfl)
          · have tc_8 := t_eq c_8
            refine lv_iload_n hx hb dX12_lastOf_41 rfl (lv_at hl 4 rfl) ?_
            refine lv_iconst (v := 3) hx hb dX12_lastOf_42 (by decide) ?_
            refine lv_icmp_ne (tgt := 57) hx hb dX12_lastOf_43 (by decide) (fun c_10 => ?_) (fun c_10 => ?_)
            · have tc_10 := t_neq c_10
              refine lv_aload_n hx hb dX12_lastOf_57 rfl (lv_at hl 2 rfl) ?_
              refine va_get (D := D) (ci := 11) (v := .ref a_second) (C := RX12) (T := TX12) (N := 54) hx hb hts in_n_lastOf_X12 hown hK.1 hP 0 rfl rfl 51 (by decide) lk2 (fun _ h9 => h9) rfl dX12_lastOf_58 ?_
              refine lv_iload hx hb dX12_lastOf_61 (lv_at hl 0 rfl) ?_
              refine va_iald hx hb hK.1 hP 4 0 rfl rfl (t_in (by omega) (by omega)) dX12_lastOf_63 ?_
              refine lv_topi (fun y_11 ey_11 => ?_)
              refine lv_istore (lv' := [(4, .int y_11), (5, .int j), (0, .ref h), (1, .int i), (2, .int k), (3, .int x)]) hx hb dX12_lastOf_64 hl (by decide) rfl (fun ls hl => ?_)
              obtain ⟨x_12, ex_12⟩ : ∃ y : Int32, y = j + 1 := ⟨_, rfl⟩
              refine lv_iinc (v := x_12) (lv' := [(5, .int x_12), (4, .int y_11), (0, .ref h), (1, .int i), (2, .int k), (3, .int x)]) hx hb dX12_lastOf_66 hl (k := 1) rfl (by rw [ex_12]; rfl) (by decide) rfl (fun ls hl => ?_)
              first | have tx_12 := t_add ex_12 (by omega) (by omega) | skip
              refine lv_goto (tgt := 9) hx hb dX12_lastOf_69 (by decide) ?_
              exact ih9 y_11 x_12 (by omega) (by omega) (by omega) ls (lv_sub hl [0, 1, 2, 3, 4, 5] rfl)
            · have tc_10 := t_eq c_10
              refine lv_aload_n hx hb dX12_lastOf_46 rfl (lv_at hl 2 rfl) ?_
              refine va_get (D := D) (ci := 11) (v := .ref a_first) (C := RX12) (T := TX12) (N := 54) hx hb hts in_n_lastOf_X12 hown hK.1 hP 0 rfl rfl 50 (by decide) lk3 (fun _ h9 => h9) rfl dX12_lastOf_47 ?_
              refine lv_iload hx hb dX12_lastOf_50 (lv_at hl 0 rfl) ?_
              refine va_iald hx hb hK.1 hP 3 0 rfl rfl (t_in (by omega) (by omega)) dX12_lastOf_52 ?_
              refine lv_topi (fun y_13 ey_13 => ?_)
              refine lv_iload_n hx hb dX12_lastOf_53 rfl (lv_at hl 5 rfl) ?_
              refine lv_icmp_ne (tgt := 66) hx hb dX12_lastOf_54 (by decide) (fun c_14 => ?_) (fun c_14 => ?_)
              · have tc_14 := t_neq c_14
                obtain ⟨x_15, ex_15⟩ : ∃ y : Int32, y = j + 1 := ⟨_, rfl⟩
                refine lv_iinc (v := x_15) (lv' := [(5, .int x_15), (4, .int a), (0, .ref h), (1, .int i), (2, .int k), (3, .int x)]) hx hb dX12_lastOf_66 hl (k := 0) rfl (by rw [ex_15]; rfl) (by decide) rfl (fun ls hl => ?_)
                first | have tx_15 := t_add ex_15 (by omega) (by omega) | skip
                refine lv_goto (tgt := 9) hx hb dX12_lastOf_69 (by decide) ?_
                exact ih9 a x_15 (by omega) (by omega) (by omega) ls (lv_sub hl [0, 1, 2, 3, 4, 5] rfl)
              · have tc_14 := t_eq c_14
                refine lv_aload_n hx hb dX12_lastOf_57 rfl (lv_at hl 2 rfl) ?_
                refine va_get (D := D) (ci := 11) (v := .ref a_second) (C := RX12) (T := TX12) (N := 54) hx hb hts in_n_lastOf_X12 hown hK.1 hP 0 rfl rfl 51 (by decide) lk2 (fun _ h9 => h9) rfl dX12_lastOf_58 ?_
                refine lv_iload hx hb dX12_lastOf_61 (lv_at hl 0 rfl) ?_
                refine va_iald hx hb hK.1 hP 4 0 rfl rfl (t_in (by omega) (by omega)) dX12_lastOf_63 ?_
                refine lv_topi (fun y_16 ey_16 => ?_)
                refine lv_istore (lv' := [(4, .int y_16), (5, .int j), (0, .ref h), (1, .int i), (2, .int k), (3, .int x)]) hx hb dX12_lastOf_64 hl (by decide) rfl (fun ls hl => ?_)
                obtain ⟨x_17, ex_17⟩ : ∃ y : Int32, y = j + 1 := ⟨_, rfl⟩
                refine lv_iinc (v := x_17) (lv' := [(5, .int x_17), (4, .int y_16), (0, .ref h), (1, .int i), (2, .int k), (3, .int x)]) hx hb dX12_lastOf_66 hl (k := 1) rfl (by rw [ex_17]; rfl) (by decide) rfl (fun ls hl => ?_)
                first | have tx_17 := t_add ex_17 (by omega) (by omega) | skip
                refine lv_goto (tgt := 9) hx hb dX12_lastOf_69 (by decide) ?_
                exact ih9 y_16 x_17 (by omega) (by omega) (by omega) ls (lv_sub hl [0, 1, 2, 3, 4, 5] rfl)
  exact loop9 ((16 * i.toInt + 17 - x_1.toInt).toNat + 1) (-1) x_1 (by omega) (by omega) (by omega) ls (lv_sub hl [0, 1, 2, 3, 4, 5] rfl)

theorem in_n_isFast_X12 : ∀ w ∈ wsX120, w ∈ wsX12_isFast := tl_X12_isFast_X12
set_option maxHeartbeats 8000000 in
set_option maxRecDepth 100000 in
theorem n_isFast {l : Launch} {D : va_G} {cI cZ cB : ClassId} {sz : Nat} {h a_isPriest a_bars a_joined a_turns a_awayMonk a_awayFrom a_awayTo a_feastDay a_rank a_isWeekly a_isDouble a_giftDay a_giftFrom a_owed a_said a_spared a_leaveGift a_leaveFrom a_leaveTo a_lateDay a_lateOffice a_lateBy a_guests a_who a_used a_lacks a_candles a_masses a_owing a_heldOn a_waits a_tape a_text a_statements a_taken a_sort a_first a_second : Nat} {v_today v_monks v_aways v_feasts v_gifts v_leaves v_lates v_store v_allCandles v_taped v_size v_at v_fault v_rules v_wordEnd v_number : Int32} {f_feastDay f_rank f_heldOn f_waits f_statements f_taken f_sort f_first f_second : Nat → Int32} {d : Int32} (h0_feasts : 0 ≤ v_feasts.toInt) (h1_feasts : v_feasts.toInt ≤ 40) (h0_rules : 0 ≤ v_rules.toInt) (h1_rules : v_rules.toInt ≤ 10) (hs : InR f_statements v_rules.toInt 0 17) : Met l yX12_isFast wsX12_isFast ({ frames := 3, cells := 0, slots := 0, locals := 67 }) (RW D cI cZ cB [.ref h, .int d] sz [(h, .inr (11, [.int v_today, .int v_monks, .int v_aways, .int v_feasts, .int v_gifts, .int v_leaves, .int v_lates, .int v_store, .int v_allCandles, .ref a_isPriest, .ref a_bars, .ref a_joined, .ref a_turns, .ref a_awayMonk, .ref a_awayFrom, .ref a_awayTo, .ref a_feastDay, .ref a_rank, .ref a_isWeekly, .ref a_isDouble, .ref a_giftDay, .ref a_giftFrom, .ref a_owed, .ref a_said, .ref a_spared, .ref a_leaveGift, .ref a_leaveFrom, .ref a_leaveTo, .ref a_lateDay, .ref a_lateOffice, .ref a_lateBy, .ref a_guests, .ref a_who, .ref a_used, .ref a_lacks, .ref a_candles, .ref a_masses, .ref a_owing, .ref a_heldOn, .ref a_waits, .ref a_tape, .ref a_text, .int v_taped, .int v_size, .int v_at, .int v_fault, .int v_rules, .ref a_statements, .ref a_taken, .ref a_sort, .ref a_first, .ref a_second, .int v_wordEnd, .int v_number])), (a_feastDay, .inl (cI, 40, .inl f_feastDay)), (a_rank, .inl (cI, 40, .inl f_rank)), (a_heldOn, .inl (cI, 365, .inl f_heldOn)), (a_waits, .inl (cZ, 40, .inl f_waits)), (a_statements, .inl (cI, 11, .inl f_statements)), (a_taken, .inl (cI, 11, .inl f_taken)), (a_sort, .inl (cI, 176, .inl f_sort)), (a_first, .inl (cI, 176, .inl f_first)), (a_second, .inl (cI, 176, .inl f_second))]) (va_Qi (fun (r : Int32) (u : (Nat → Int32) × (Nat → Int32)) => (r.toInt = 0 ∨ r.toInt = 1)) (BW D [(h, .inr (11, [.int v_today, .int v_monks, .int v_aways, .int v_feasts, .int v_gifts, .int v_leaves, .int v_lates, .int v_store, .int v_allCandles, .ref a_isPriest, .ref a_bars, .ref a_joined, .ref a_turns, .ref a_awayMonk, .ref a_awayFrom, .ref a_awayTo, .ref a_feastDay, .ref a_rank, .ref a_isWeekly, .ref a_isDouble, .ref a_giftDay, .ref a_giftFrom, .ref a_owed, .ref a_said, .ref a_spared, .ref a_leaveGift, .ref a_leaveFrom, .ref a_leaveTo, .ref a_lateDay, .ref a_lateOffice, .ref a_lateBy, .ref a_guests, .ref a_who, .ref a_used, .ref a_lacks, .ref a_candles, .ref a_masses, .ref a_owing, .ref a_heldOn, .ref a_waits, .ref a_tape, .ref a_text, .int v_taped, .int v_size, .int v_at, .int v_fault, .int v_rules, .ref a_statements, .ref a_taken, .ref a_sort, .ref a_first, .ref a_second, .int v_wordEnd, .int v_number])), (a_feastDay, .inl (cI, 40, .inl f_feastDay)), (a_rank, .inl (cI, 40, .inl f_rank)), (a_heldOn, .inl (cI, 365, .inl f_heldOn)), (a_waits, .inl (cZ, 40, .inl f_waits)), (a_statements, .inl (cI, 11, .inl f_statements)), (a_taken, .inl (cI, 11, .inl f_taken)), (a_sort, .inl (cI, 176, .inl f_sort)), (a_first, .inl (cI, 176, .inl f_first)), (a_second, .inl (cI, 176, .inl f_second))] sz (fun u : (Nat → Int32) × (Nat → Int32) => [(h, .inr (11, [.int v_today, .int v_monks, .int v_aways, .int v_feasts, .int v_gifts, .int v_leaves, .int v_lates, .int v_store, .int v_allCandles, .ref a_isPriest, .ref a_bars, .ref a_joined, .ref a_turns, .ref a_awayMonk, .ref a_awayFrom, .ref a_awayTo, .ref a_feastDay, .ref a_rank, .ref a_isWeekly, .ref a_isDouble, .ref a_giftDay, .ref a_giftFrom, .ref a_owed, .ref a_said, .ref a_spared, .ref a_leaveGift, .ref a_leaveFrom, .ref a_leaveTo, .ref a_lateDay, .ref a_lateOffice, .ref a_lateBy, .ref a_guests, .ref a_who, .ref a_used, .ref a_lacks, .ref a_candles, .ref a_masses, .ref a_owing, .ref a_heldOn, .ref a_waits, .ref a_tape, .ref a_text, .int v_taped, .int v_size, .int v_at, .int v_fault, .int v_rules, .ref a_statements, .ref a_taken, .ref a_sort, .ref a_first, .ref a_second, .int v_wordEnd, .int v_number])), (a_feastDay, .inl (cI, 40, .inl f_feastDay)), (a_rank, .inl (cI, 40, .inl f_rank)), (a_heldOn, .inl (cI, 365, .inl u.1)), (a_waits, .inl (cZ, 40, .inl u.2)), (a_statements, .inl (cI, 11, .inl f_statements)), (a_taken, .inl (cI, 11, .inl f_taken)), (a_sort, .inl (cI, 176, .inl f_sort)), (a_first, .inl (cI, 176, .inl f_first)), (a_second, .inl (cI, 176, .inl f_second))])) (va_A [(h, .inr (11, [.int v_today, .int v_monks, .int v_aways, .int v_feasts, .int v_gifts, .int v_leaves, .int v_lates, .int v_store, .int v_allCandles, .ref a_isPriest, .ref a_bars, .ref a_joined, .ref a_turns, .ref a_awayMonk, .ref a_awayFrom, .ref a_awayTo, .ref a_feastDay, .ref a_rank, .ref a_isWeekly, .ref a_isDouble, .ref a_giftDay, .ref a_giftFrom, .ref a_owed, .ref a_said, .ref a_spared, .ref a_leaveGift, .ref a_leaveFrom, .ref a_leaveTo, .ref a_lateDay, .ref a_lateOffice, .ref a_lateBy, .ref a_guests, .ref a_who, .ref a_used, .ref a_lacks, .ref a_candles, .ref a_masses, .ref a_owing, .ref a_heldOn, .ref a_waits, .ref a_tape, .ref a_text, .int v_taped, .int v_size, .int v_at, .int v_fault, .int v_rules, .ref a_statements, .ref a_taken, .ref a_sort, .ref a_first, .ref a_second, .int v_wordEnd, .int v_number])), (a_feastDay, .inl (cI, 40, .inl f_feastDay)), (a_rank, .inl (cI, 40, .inl f_rank)), (a_heldOn, .inl (cI, 365, .inl f_heldOn)), (a_waits, .inl (cZ, 40, .inl f_waits)), (a_statements, .inl (cI, 11, .inl f_statements)), (a_taken, .inl (cI, 11, .inl f_taken)), (a_sort, .inl (cI, 176, .inl f_sort)), (a_first, .inl (cI, 176, .inl f_first)), (a_second, .inl (cI, 176, .inl f_second))] sz)) 0 0 (va_A [(h, .inr (11, [.int v_today, .int v_monks, .int v_aways, .int v_feasts, .int v_gifts, .int v_leaves, .int v_lates, .int v_store, .int v_allCandles, .ref a_isPriest, .ref a_bars, .ref a_joined, .ref a_turns, .ref a_awayMonk, .ref a_awayFrom, .ref a_awayTo, .ref a_feastDay, .ref a_rank, .ref a_isWeekly, .ref a_isDouble, .ref a_giftDay, .ref a_giftFrom, .ref a_owed, .ref a_said, .ref a_spared, .ref a_leaveGift, .ref a_leaveFrom, .ref a_leaveTo, .ref a_lateDay, .ref a_lateOffice, .ref a_lateBy, .ref a_guests, .ref a_who, .ref a_used, .ref a_lacks, .ref a_candles, .ref a_masses, .ref a_owing, .ref a_heldOn, .ref a_waits, .ref a_tape, .ref a_text, .int v_taped, .int v_size, .int v_at, .int v_fault, .int v_rules, .ref a_statements, .ref a_taken, .ref a_sort, .ref a_first, .ref a_second, .int v_wordEnd, .int v_number])), (a_feastDay, .inl (cI, 40, .inl f_feastDay)), (a_rank, .inl (cI, 40, .inl f_rank)), (a_heldOn, .inl (cI, 365, .inl f_heldOn)), (a_waits, .inl (cZ, 40, .inl f_waits)), (a_statements, .inl (cI, 11, .inl f_statements)), (a_taken, .inl (cI, 11, .inl f_taken)), (a_sort, .inl (cI, 176, .inl f_sort)), (a_first, .inl (cI, 176, .inl f_first)), (a_second, .inl (cI, 176, .inl f_second))] sz) := by
  refine rw_ret (cc := cX12_isFast) (maxL := 8) (ty := .boolean) (own := RX12) (by decide) rfl rfl (Nat.le_of_ble_eq_true rfl) ?_
  intro p e s m args below meth c Q A S hin hret hP hK hD hA hS ls hl
  obtain ⟨hx, hb, hml, hown, hts⟩ := id S
  have hl : lv_has ls 8 [(0, .ref h), (1, .int d)] := hl
  have kkm1 : (-1 : Int32).toInt = -1 := by decide
  have kk0 : (0 : Int32).toInt = 0 := by decide
  have kk1 : (1 : Int32).toInt = 1 := by decide
  have kk3 : (3 : Int32).toInt = 3 := by decide
  have kk7 : (7 : Int32).toInt = 7 := by decide
  have kk16 : (16 : Int32).toInt = 16 := by decide
  have kk365 : (365 : Int32).toInt = 365 := by decide
  have lk0 := hts (.fieldLink RX12 115 "AbbeyHoursModel" "statements" "[I") (mc_X12_isFast_r1 _ (List.mem_of_getElem? (i := 0) rfl))
  have lk1 := hts (.fieldLink RX12 124 "AbbeyHoursModel" "first" "[I") (mc_X12_isFast_r1 _ (List.mem_of_getElem? (i := 1) rfl))
  have lk2 := hts (.fieldLink RX12 127 "AbbeyHoursModel" "second" "[I") (mc_X12_isFast_r1 _ (List.mem_of_getElem? (i := 2) rfl))
  have lk3 := hts (.fieldLink RX12 121 "AbbeyHoursModel" "sort" "[I") (mc_X12_isFast_r1 _ (List.mem_of_getElem? (i := 3) rfl))
  refine lv_aload_n hx hb dX12_isFast_0 rfl (lv_at hl 0 rfl) ?_
  refine lv_iload_n hx hb dX12_isFast_1 rfl (lv_at hl 1 rfl) ?_
  have hPc := hP.sub (ws' := [(h, .inr (11, [.int v_today, .int v_monks, .int v_aways, .int v_feasts, .int v_gifts, .int v_leaves, .int v_lates, .int v_store, .int v_allCandles, .ref a_isPriest, .ref a_bars, .ref a_joined, .ref a_turns, .ref a_awayMonk, .ref a_awayFrom, .ref a_awayTo, .ref a_feastDay, .ref a_rank, .ref a_isWeekly, .ref a_isDouble, .ref a_giftDay, .ref a_giftFrom, .ref a_owed, .ref a_said, .ref a_spared, .ref a_leaveGift, .ref a_leaveFrom, .ref a_leaveTo, .ref a_lateDay, .ref a_lateOffice, .ref a_lateBy, .ref a_guests, .ref a_who, .ref a_used, .ref a_lacks, .ref a_candles, .ref a_masses, .ref a_owing, .ref a_heldOn, .ref a_waits, .ref a_tape, .ref a_text, .int v_taped, .int v_size, .int v_at, .int v_fault, .int v_rules, .ref a_statements, .ref a_taken, .ref a_sort, .ref a_first, .ref a_second, .int v_wordEnd, .int v_number])), (a_taken, .inl (cI, 11, .inl f_taken))]) [0, 6] rfl
  refine roV (As := [.int d]) (rest := []) S (n_inForce  (by omega) (by omega)) (cwV 1 hts gX12_isFast_X12_inForce rfl rfl rfl ⟨rfl, hd_X12_inForce⟩ ⟨Nat.le_of_ble_eq_true rfl, Nat.le_of_ble_eq_true rfl⟩) hK hPc (va_recv hK.1 hPc (ci := 11) (q0 := 0) rfl rfl) rfl hl.1 rfl (Nat.le_of_ble_eq_true rfl) dX12_isFast_2 ⟨Nat.le_of_ble_eq_true rfl, Nat.le_of_ble_eq_true rfl⟩ (fun r_ru hw_ru => ?_)
  have hw_ru : r_ru.toInt = -1 ∨ (0 ≤ r_ru.toInt ∧ r_ru.toInt < v_rules.toInt) := hw_ru
  refine lv_istore_n (lv' := [(2, .int r_ru), (0, .ref h), (1, .int d)]) hx hb dX12_isFast_5 rfl hl (by decide) rfl (fun ls hl => ?_)
  refine lv_iload_n hx hb dX12_isFast_6 rfl (lv_at hl 0 rfl) ?_
  refine lv_iconst (v := (-1)) hx hb dX12_isFast_7 (by decide) ?_
  refine lv_icmp_eq (tgt := 20) hx hb dX12_isFast_8 (by decide) (fun c_1 => ?_) (fun c_1 => ?_)
  · have tc_1 := t_eq c_1
    refine lv_iconst (v := 0) hx hb dX12_isFast_20 (by decide) ?_
    exact hret 0 (f_heldOn, f_waits) _ _ _ _ (show ((0 : Int32).toInt = 0 ∨ (0 : Int32).toInt = 1) from by omega) rfl (hP.sub [0, 1, 2, 3, 4, 5, 6, 7, 8, 9] rfl) (hD.sub [0, 1, 2, 3, 4, 5, 6, 7, 8, 9] (by decide +kernel) rfl) hS dX12_isFast_21
  · have tc_1 := t_neq c_1
    refine lv_aload_n hx hb dX12_isFast_11 rfl (lv_at hl 1 rfl) ?_
    refine lv_iload_n hx hb dX12_isFast_12 rfl (lv_at hl 2 rfl) ?_
    have hPc := hP.sub (ws' := [(h, .inr (11, [.int v_today, .int v_monks, .int v_aways, .int v_feasts, .int v_gifts, .int v_leaves, .int v_lates, .int v_store, .int v_allCandles, .ref a_isPriest, .ref a_bars, .ref a_joined, .ref a_turns, .ref a_awayMonk, .ref a_awayFrom, .ref a_awayTo, .ref a_feastDay, .ref a_rank, .ref a_isWeekly, .ref a_isDouble, .ref a_giftDay, .ref a_giftFrom, .ref a_owed, .ref a_said, .ref a_spared, .ref a_leaveGift, .ref a_leaveFrom, .ref a_leaveTo, .ref a_lateDay, .ref a_lateOffice, .ref a_lateBy, .ref a_guests, .ref a_who, .ref a_used, .ref a_lacks, .ref a_candles, .ref a_masses, .ref a_owing, .ref a_heldOn, .ref a_waits, .ref a_tape, .ref a_text, .int v_taped, .int v_size, .int v_at, .int v_fault, .int v_rules, .ref a_statements, .ref a_taken, .ref a_sort, .ref a_first, .ref a_second, .int v_wordEnd, .int v_number])), (a_feastDay, .inl (cI, 40, .inl f_feastDay)), (a_rank, .inl (cI, 40, .inl f_rank)), (a_heldOn, .inl (cI, 365, .inl f_heldOn)), (a_waits, .inl (cZ, 40, .inl f_waits))]) [0, 1, 2, 3, 4] rfl
    refine rwV (As := [.int d]) (rest := []) (wc := [(h, .inr (11, [.int v_today, .int v_monks, .int v_aways, .int v_feasts, .int v_gifts, .int v_leaves, .int v_lates, .int v_store, .int v_allCandles, .ref a_isPriest, .ref a_bars, .ref a_joined, .ref a_turns, .ref a_awayMonk, .ref a_awayFrom, .ref a_awayTo, .ref a_feastDay, .ref a_rank, .ref a_isWeekly, .ref a_isDouble, .ref a_giftDay, .ref a_giftFrom, .ref a_owed, .ref a_said, .ref a_spared, .ref a_leaveGift, .ref a_leaveFrom, .ref a_leaveTo, .ref a_lateDay, .ref a_lateOffice, .ref a_lateBy, .ref a_guests, .ref a_who, .ref a_used, .ref a_lacks, .ref a_candles, .ref a_masses, .ref a_owing, .ref a_heldOn, .ref a_waits, .ref a_tape, .ref a_text, .int v_taped, .int v_size, .int v_at, .int v_fault, .int v_rules, .ref a_statements, .ref a_taken, .ref a_sort, .ref a_first, .ref a_second, .int v_wordEnd, .int v_number])), (a_feastDay, .inl (cI, 40, .inl f_feastDay)), (a_rank, .inl (cI, 40, .inl f_rank)), (a_heldOn, .inl (cI, 365, .inl f_heldOn)), (a_waits, .inl (cZ, 40, .inl f_waits))]) (wr := [(a_statements, .inl (cI, 11, .inl f_statements)), (a_taken, .inl (cI, 11, .inl f_taken)), (a_sort, .inl (cI, 176, .inl f_sort)), (a_first, .inl (cI, 176, .inl f_first)), (a_second, .inl (cI, 176, .inl f_second))]) S (n_rankOn  (by omega) (by omega)) (cwV 1 hts gX12_isFast_X12_rankOn rfl rfl rfl ⟨rfl, hd_X12_rankOn⟩ ⟨Nat.le_of_ble_eq_true rfl, Nat.le_of_ble_eq_true rfl⟩) hK hP hD hS hA [0, 1, 2, 3, 4] [5, 6, 7, 8, 9] rfl rfl (by decide +kernel) (by decide +kernel) (by decide +kernel) (va_recv hK.1 hPc (ci := 11) (q0 := 0) rfl rfl) rfl hl.1 rfl (Nat.le_of_ble_eq_true rfl) dX12_isFast_13 ⟨Nat.le_of_ble_eq_true rfl, Nat.le_of_ble_eq_true rfl⟩ (fun r_2 u_2 H locs hw_2 hP hD hS => ?_)
    obtain ⟨g1_2, g2_2⟩ := u_2
    have hw_2 : True := hw_2
    have hP : va_P D vwCl [(a_statements, .inl (cI, 11, .inl f_statements)), (a_taken, .inl (cI, 11, .inl f_taken)), (a_sort, .inl (cI, 176, .inl f_sort)), (a_first, .inl (cI, 176, .inl f_first)), (a_second, .inl (cI, 176, .inl f_second)), (h, .inr (11, [.int v_today, .int v_monks, .int v_aways, .int v_feasts, .int v_gifts, .int v_leaves, .int v_lates, .int v_store, .int v_allCandles, .ref a_isPriest, .ref a_bars, .ref a_joined, .ref a_turns, .ref a_awayMonk, .ref a_awayFrom, .ref a_awayTo, .ref a_feastDay, .ref a_rank, .ref a_isWeekly, .ref a_isDouble, .ref a_giftDay, .ref a_giftFrom, .ref a_owed, .ref a_said, .ref a_spared, .ref a_leaveGift, .ref a_leaveFrom, .ref a_leaveTo, .ref a_lateDay, .ref a_lateOffice, .ref a_lateBy, .ref a_guests, .ref a_who, .ref a_used, .ref a_lacks, .ref a_candles, .ref a_masses, .ref a_owing, .ref a_heldOn, .ref a_waits, .ref a_tape, .ref a_text, .int v_taped, .int v_size, .int v_at, .int v_fault, .int v_rules, .ref a_statements, .ref a_taken, .ref a_sort, .ref a_first, .ref a_second, .int v_wordEnd, .int v_number])), (a_feastDay, .inl (cI, 40, .inl f_feastDay)), (a_rank, .inl (cI, 40, .inl f_rank)), (a_heldOn, .inl (cI, 365, .inl g1_2)), (a_waits, .inl (cZ, 40, .inl g2_2))] H := hP
    have hD := asD hP hD
    refine lv_iconst (v := 3) hx hb dX12_isFast_16 (by decide) ?_
    refine lv_icmp_lt (tgt := 22) hx hb dX12_isFast_17 (by decide) (fun c_3 => ?_) (fun c_3 => ?_)
    · have tc_3 := t_lt c_3
      refine lv_iload_n hx hb dX12_isFast_22 rfl (lv_at hl 2 rfl) ?_
      refine lv_sipush (v := 365) hx hb dX12_isFast_23 (by decide) ?_
      refine lv_irem hx hb dX12_isFast_26 (by decide) ?_
      refine lv_topi (fun x_4 ex_4 => ?_)
      refine lv_istore_n (lv' := [(3, .int x_4), (2, .int r_ru), (0, .ref h), (1, .int d)]) hx hb dX12_isFast_27 rfl hl (by decide) rfl (fun ls hl => ?_)
      refine lv_iconst (v := 0) hx hb dX12_isFast_28 (by decide) ?_
      refine lv_istore (lv' := [(4, .int 0), (3, .int x_4), (2, .int r_ru), (0, .ref h), (1, .int d)]) hx hb dX12_isFast_29 hl (by decide) rfl (fun ls hl => ?_)
      refine lv_bipush (v := 16) hx hb dX12_isFast_31 (by decide) ?_
      refine lv_iload_n hx hb dX12_isFast_33 rfl (lv_at hl 2 rfl) ?_
      refine lv_imul hx hb dX12_isFast_34 ?_
      refine lv_topi (fun x_5 ex_5 => ?_)
      first | have tx_5 := t_mulL kk16 ex_5 (by omega) (by omega) | skip
      refine lv_istore (lv' := [(5, .int x_5), (4, .int 0), (3, .int x_4), (2, .int r_ru), (0, .ref h), (1, .int d)]) hx hb dX12_isFast_35 hl (by decide) rfl (fun ls hl => ?_)
      have loop37 : ∀ (fuel : Nat) (a : Int32) (j : Int32), 16 * r_ru.toInt + 17 - j.toInt < (fuel : Int) → (16 * r_ru.toInt ≤ j.toInt) → (j.toInt ≤ 16 * r_ru.toInt + 16) → (a.toInt = 0 ∨ a.toInt = 1) → ∀ (H : Heap) (locs : List Loc), va_P D vwCl [(a_statements, .inl (cI, 11, .inl f_statements)), (a_taken, .inl (cI, 11, .inl f_taken)), (a_sort, .inl (cI, 176, .inl f_sort)), (a_first, .inl (cI, 176, .inl f_first)), (a_second, .inl (cI, 176, .inl f_second)), (h, .inr (11, [.int v_today, .int v_monks, .int v_aways, .int v_feasts, .int v_gifts, .int v_leaves, .int v_lates, .int v_store, .int v_allCandles, .ref a_isPriest, .ref a_bars, .ref a_joined, .ref a_turns, .ref a_awayMonk, .ref a_awayFrom, .ref a_awayTo, .ref a_feastDay, .ref a_rank, .ref a_isWeekly, .ref a_isDouble, .ref a_giftDay, .ref a_giftFrom, .ref a_owed, .ref a_said, .ref a_spared, .ref a_leaveGift, .ref a_leaveFrom, .ref a_leaveTo, .ref a_lateDay, .ref a_lateOffice, .ref a_lateBy, .ref a_guests, .ref a_who, .ref a_used, .ref a_lacks, .ref a_candles, .ref a_masses, .ref a_owing, .ref a_heldOn, .ref a_waits, .ref a_tape, .ref a_text, .int v_taped, .int v_size, .int v_at, .int v_fault, .int v_rules, .ref a_statements, .ref a_taken, .ref a_sort, .ref a_first, .ref a_second, .int v_wordEnd, .int v_number])), (a_feastDay, .inl (cI, 40, .inl f_feastDay)), (a_rank, .inl (cI, 40, .inl f_rank)), (a_heldOn, .inl (cI, 365, .inl g1_2)), (a_waits, .inl (cZ, 40, .inl g2_2))] H → va_D A [(a_statements, .inl (cI, 11, .inl f_statements)), (a_taken, .inl (cI, 11, .inl f_taken)), (a_sort, .inl (cI, 176, .inl f_sort)), (a_first, .inl (cI, 176, .inl f_first)), (a_second, .inl (cI, 176, .inl f_second)), (h, .inr (11, [.int v_today, .int v_monks, .int v_aways, .int v_feasts, .int v_gifts, .int v_leaves, .int v_lates, .int v_store, .int v_allCandles, .ref a_isPriest, .ref a_bars, .ref a_joined, .ref a_turns, .ref a_awayMonk, .ref a_awayFrom, .ref a_awayTo, .ref a_feastDay, .ref a_rank, .ref a_isWeekly, .ref a_isDouble, .ref a_giftDay, .ref a_giftFrom, .ref a_owed, .ref a_said, .ref a_spared, .ref a_leaveGift, .ref a_leaveFrom, .ref a_leaveTo, .ref a_lateDay, .ref a_lateOffice, .ref a_lateBy, .ref a_guests, .ref a_who, .ref a_used, .ref a_lacks, .ref a_candles, .ref a_masses, .ref a_owing, .ref a_heldOn, .ref a_waits, .ref a_tape, .ref a_text, .int v_taped, .int v_size, .int v_at, .int v_fault, .int v_rules, .ref a_statements, .ref a_taken, .ref a_sort, .ref a_first, .ref a_second, .int v_wordEnd, .int v_number])), (a_feastDay, .inl (cI, 40, .inl f_feastDay)), (a_rank, .inl (cI, 40, .inl f_rank)), (a_heldOn, .inl (cI, 365, .inl g1_2)), (a_waits, .inl (cZ, 40, .inl g2_2))] → va_S A s.heap H locs → ∀ ls : Array Slot, lv_has ls 8 [(5, .int j), (4, .int a), (3, .int x_4), (2, .int r_ru), (0, .ref h), (1, .int d)] → W p l e ({ frames := 3, cells := 0, slots := 0, locals := 67 } : Room) s m args below meth c H locs 0 0 Q (F0 m 37 ls []) := by
        intro fuel
        induction fuel with
        | zero =>
          intro a j hmu hj0 hj1 ha H locs hP hD hS ls hl
          exfalso; omega
        | succ fuel ih37 =>
          intro a j hmu hj0 hj1 ha H locs hP hD hS ls hl
          refine lv_iload hx hb dX12_isFast_37 (lv_at hl 0 rfl) ?_
          refine lv_bipush (v := 16) hx hb dX12_isFast_39 (by decide) ?_
          refine lv_iload_n hx hb dX12_isFast_41 rfl (lv_at hl 3 rfl) ?_
          refine lv_imul hx hb dX12_isFast_42 ?_
          refine lv_topi (fun x_6 ex_6 => ?_)
          first | have tx_6 := t_mulL kk16 ex_6 (by omega) (by omega) | skip
          refine lv_aload_n hx hb dX12_isFast_43 rfl (lv_at hl 4 rfl) ?_
          refine va_get (D := D) (ci := 11) (v := .ref a_statements) (C := RX12) (T := TX12) (N := 54) hx hb hts in_n_isFast_X12 hown hK.1 hP 5 rfl rfl 47 (by decide) lk0 (fun _ h9 => h9) rfl dX12_isFast_44 ?_
          refine lv_iload_n hx hb dX12_isFast_47 rfl (lv_at hl 3 rfl) ?_
          refine va_iald hx hb hK.1 hP 0 0 rfl rfl (t_in (by omega) (by omega)) dX12_isFast_48 ?_
          refine lv_topi (fun y_7 ey_7 => ?_)
          have hq := hs.get (i := r_ru) (by omega) (by omega)
          rw [← ey_7] at hq
          refine lv_iadd hx hb dX12_isFast_49 ?_
          refine lv_topi (fun x_8 ex_8 => ?_)
          first | have tx_8 := t_add ex_8 (by omega) (by omega) | skip
          refine lv_icmp_ge (tgt := 164) hx hb dX12_isFast_50 (by decide) (fun c_9 => ?_) (fun c_9 => ?_)
          · have tc_9 := t_le c_9
            refine lv_iload hx hb dX12_isFast_164 (lv_at hl 1 rfl) ?_
            exact hret a (g1_2, g2_2) _ _ _ _ (show (a.toInt = 0 ∨ a.toInt = 1) from by omega) (zb (by omega)) (hP.sub [5, 6, 7, 8, 9, 0, 1, 2, 3, 4] rfl) (hD.sub [5, 6, 7, 8, 9, 0, 1, 2, 3, 4] (by decide +kernel) rfl) hS dX12_isFast_166
          · have tc_9 := t_nle c_9
            refine lv_aload_n hx hb dX12_isFast_53 rfl (lv_at hl 4 rfl) ?_
            refine va_get (D := D) (ci := 11) (v := .ref a_first) (C := RX12) (T := TX12) (N := 54) hx hb hts in_n_isFast_X12 hown hK.1 hP 5 rfl rfl 50 (by decide) lk1 (fun _ h9 => h9) rfl dX12_isFast_54 ?_
            refine lv_iload hx hb dX12_isFast_57 (lv_at hl 0 rfl) ?_
            refine va_iald hx hb hK.1 hP 3 0 rfl rfl (t_in (by omega) (by omega)) dX12_isFast_59 ?_
            refine lv_topi (fun y_10 ey_10 => ?_)
            refine lv_istore (lv' := [(6, .int y_10), (5, .int j), (4, .int a), (3, .int x_4), (2, .int r_ru), (0, .ref h), (1, .int d)]) hx hb dX12_isFast_60 hl (by decide) rfl (fun ls hl => ?_)
            refine lv_aload_n hx hb dX12_isFast_62 rfl (lv_at hl 5 rfl) ?_
            refine va_get (D := D) (ci := 11) (v := .ref a_second) (C := RX12) (T := TX12) (N := 54) hx hb hts in_n_isFast_X12 hown hK.1 hP 5 rfl rfl 51 (by decide) lk2 (fun _ h9 => h9) rfl dX12_isFast_63 ?_
            refine lv_iload hx hb dX12_isFast_66 (lv_at hl 1 rfl) ?_
            refine va_iald hx hb hK.1 hP 4 0 rfl rfl (t_in (by omega) (by omega)) dX12_isFast_68 ?_
            refine lv_topi (fun y_11 ey_11 => ?_)
            refine lv_istore (lv' := [(7, .int y_11), (6, .int y_10), (5, .int j), (4, .int a), (3, .int x_4), (2, .int r_ru), (0, .ref h), (1, .int d)]) hx hb dX12_isFast_69 hl (by decide) rfl (fun ls hl => ?_)
            refine lv_aload_n hx hb dX12_isFast_71 rfl (lv_at hl 6 rfl) ?_
            refine va_get (D := D) (ci := 11) (v := .ref a_sort) (C := RX12) (T := TX12) (N := 54) hx hb hts in_n_isFast_X12 hown hK.1 hP 5 rfl rfl 49 (by decide) lk3 (fun _ h9 => h9) rfl dX12_isFast_72 ?_
            refine lv_iload hx hb dX12_isFast_75 (lv_at hl 2 rfl) ?_
            refine va_iald hx hb hK.1 hP 2 0 rfl rfl (t_in (by omega) (by omega)) dX12_isFast_77 ?_
            refine lv_topi (fun y_12 ey_12 => ?_)
            refine lv_if_ne (tgt := 102) hx hb dX12_isFast_78 (by decide) (fun c_13 => ?_) (fun c_13 => ?_)
            · have tc_13 := t_neq c_13
              refine lv_aload_n hx hb dX12_isFast_102 rfl (lv_at hl 6 rfl) ?_
              refine va_get (D := D) (ci := 11) (v := .ref a_sort) (C := RX12) (T := TX12) (N := 54) hx hb hts in_n_isFast_X12 hown hK.1 hP 5 rfl rfl 49 (by decide) lk3 (fun _ h9 => h9) rfl dX12_isFast_103 ?_
              refine lv_iload hx hb dX12_isFast_106 (lv_at hl 2 rfl) ?_
              refine va_iald hx hb hK.1 hP 2 0 rfl rfl (t_in (by omega) (by omega)) dX12_isFast_108 ?_
              refine lv_topi (fun y_14 ey_14 => ?_)
              refine lv_iconst (v := 1) hx hb dX12_isFast_109 (by decide) ?_
              refine lv_icmp_ne (tgt := 158) hx hb dX12_isFast_110 (by decide) (fun c_15 => ?_) (fun c_15 => ?_)
              · have tc_15 := t_neq c_15
                obtain ⟨x_16, ex_16⟩ : ∃ y : Int32, y = j + 1 := ⟨_, rfl⟩
                refine lv_iinc (v := x_16) (lv' := [(5, .int x_16), (7, .int y_11), (6, .int y_10), (4, .int a), (3, .int x_4), (2, .int r_ru), (0, .ref h), (1, .int d)]) hx hb dX12_isFast_158 hl (k := 2) rfl (by rw [ex_16]; rfl) (by decide) rfl (fun ls hl => ?_)
                first | have tx_16 := t_add ex_16 (by omega) (by omega) | skip
                refine lv_goto (tgt := 37) hx hb dX12_isFast_161 (by decide) ?_
                exact ih37 a x_16 (by omega) (by omega) (by omega) (by omega) _ _ hP hD hS ls (lv_sub hl [0, 3, 4, 5, 6, 7] rfl)
              · have tc_15 := t_eq c_15
                refine lv_iload hx hb dX12_isFast_113 (lv_at hl 3 rfl) ?_
                refine lv_if_ne (tgt := 151) hx hb dX12_isFast_115 (by decide) (fun c_17 => ?_) (fun c_17 => ?_)
                · have tc_17 := t_neq c_17
                  refine lv_iconst (v := 1) hx hb dX12_isFast_151 (by decide) ?_
                  refine lv_goto (tgt := 156) hx hb dX12_isFast_152 (by decide) ?_
                  refine lv_istore (lv' := [(4, .int 1), (7, .int y_11), (6, .int y_10), (5, .int j), (3, .int x_4), (2, .int r_ru), (0, .ref h), (1, .int d)]) hx hb dX12_isFast_156 hl (by decide) rfl (fun ls hl => ?_)
                  obtain ⟨x_18, ex_18⟩ : ∃ y : Int32, y = j + 1 := ⟨_, rfl⟩
                  refine lv_iinc (v := x_18) (lv' := [(5, .int x_18), (4, .int 1), (7, .int y_11), (6, .int y_10), (3, .int x_4), (2, .int r_ru), (0, .ref h), (1, .int d)]) hx hb dX12_isFast_158 hl (k := 3) rfl (by rw [ex_18]; rfl) (by decide) rfl (fun ls hl => ?_)
                  first | have tx_18 := t_add ex_18 (by omega) (by omega) | skip
                  refine lv_goto (tgt := 37) hx hb dX12_isFast_161 (by decide) ?_
                  exact ih37 1 x_18 (by omega) (by omega) (by omega) (by omega) _ _ hP hD hS ls (lv_sub hl [0, 1, 4, 5, 6, 7] rfl)
                · have tc_17 := t_eq c_17
                  refine lv_iload hx hb dX12_isFast_118 (lv_at hl 1 rfl) ?_
                  refine lv_iload hx hb dX12_isFast_120 (lv_at hl 0 rfl) ?_
                  refine lv_icmp_gt (tgt := 139) hx hb dX12_isFast_122 (by decide) (fun c_19 => ?_) (fun c_19 => ?_)
                  · have tc_19 := t_lt c_19
                    refine lv_iload_n hx hb dX12_isFast_139 rfl (lv_at hl 4 rfl) ?_
                    refine lv_iload hx hb dX12_isFast_140 (lv_at hl 1 rfl) ?_
                    refine lv_icmp_ge (tgt := 151) hx hb dX12_isFast_142 (by decide) (fun c_20 => ?_) (fun c_20 => ?_)
                    · have tc_20 := t_le c_20
                      refine lv_iconst (v := 1) hx hb dX12_isFast_151 (by decide) ?_
                      refine lv_goto (tgt := 156) hx hb dX12_isFast_152 (by decide) ?_
                      refine lv_istore (lv' := [(4, .int 1), (7, .int y_11), (6, .int y_10), (5, .int j), (3, .int x_4), (2, .int r_ru), (0, .ref h), (1, .int d)]) hx hb dX12_isFast_156 hl (by decide) rfl (fun ls hl => ?_)
                      obtain ⟨x_21, ex_21⟩ : ∃ y : Int32, y = j + 1 := ⟨_, rfl⟩
                      refine lv_iinc (v := x_21) (lv' := [(5, .int x_21), (4, .int 1), (7, .int y_11), (6, .int y_10), (3, .int x_4), (2, .int r_ru), (0, .ref h), (1, .int d)]) hx hb dX12_isFast_158 hl (k := 3) rfl (by rw [ex_21]; rfl) (by decide) rfl (fun ls hl => ?_)
                      first | have tx_21 := t_add ex_21 (by omega) (by omega) | skip
                      refine lv_goto (tgt := 37) hx hb dX12_isFast_161 (by decide) ?_
                      exact ih37 1 x_21 (by omega) (by omega) (by omega) (by omega) _ _ hP hD hS ls (lv_sub hl [0, 1, 4, 5, 6, 7] rfl)
                    · have tc_20 := t_nle c_20
                      refine lv_iload_n hx hb dX12_isFast_145 rfl (lv_at hl 4 rfl) ?_
                      refine lv_iload hx hb dX12_isFast_146 (lv_at hl 0 rfl) ?_
                      refine lv_icmp_gt (tgt := 155) hx hb dX12_isFast_148 (by decide) (fun c_22 => ?_) (fun c_22 => ?_)
                      · have tc_22 := t_lt c_22
                        refine lv_iconst (v := 0) hx hb dX12_isFast_155 (by decide) ?_
                        refine lv_istore (lv' := [(4, .int 0), (7, .int y_11), (6, .int y_10), (5, .int j), (3, .int x_4), (2, .int r_ru), (0, .ref h), (1, .int d)]) hx hb dX12_isFast_156 hl (by decide) rfl (fun ls hl => ?_)
                        obtain ⟨x_23, ex_23⟩ : ∃ y : Int32, y = j + 1 := ⟨_, rfl⟩
                        refine lv_iinc (v := x_23) (lv' := [(5, .int x_23), (4, .int 0), (7, .int y_11), (6, .int y_10), (3, .int x_4), (2, .int r_ru), (0, .ref h), (1, .int d)]) hx hb dX12_isFast_158 hl (k := 3) rfl (by rw [ex_23]; rfl) (by decide) rfl (fun ls hl => ?_)
                        first | have tx_23 := t_add ex_23 (by omega) (by omega) | skip
                        refine lv_goto (tgt := 37) hx hb dX12_isFast_161 (by decide) ?_
                        exact ih37 0 x_23 (by omega) (by omega) (by omega) (by omega) _ _ hP hD hS ls (lv_sub hl [0, 1, 4, 5, 6, 7] rfl)
                      · have tc_22 := t_nlt c_22
                        refine lv_iconst (v := 1) hx hb dX12_isFast_151 (by decide) ?_
                        refine lv_goto (tgt := 156) hx hb dX12_isFast_152 (by decide) ?_
                        refine lv_istore (lv' := [(4, .int 1), (7, .int y_11), (6, .int y_10), (5, .int j), (3, .int x_4), (2, .int r_ru), (0, .ref h), (1, .int d)]) hx hb dX12_isFast_156 hl (by decide) rfl (fun ls hl => ?_)
                        obtain ⟨x_24, ex_24⟩ : ∃ y : Int32, y = j + 1 := ⟨_, rfl⟩
                        refine lv_iinc (v := x_24) (lv' := [(5, .int x_24), (4, .int 1), (7, .int y_11), (6, .int y_10), (3, .int x_4), (2, .int r_ru), (0, .ref h), (1, .int d)]) hx hb dX12_isFast_158 hl (k := 3) rfl (by rw [ex_24]; rfl) (by decide) rfl (fun ls hl => ?_)
                        first | have tx_24 := t_add ex_24 (by omega) (by omega) | skip
                        refine lv_goto (tgt := 37) hx hb dX12_isFast_161 (by decide) ?_
                        exact ih37 1 x_24 (by omega) (by omega) (by omega) (by omega) _ _ hP hD hS ls (lv_sub hl [0, 1, 4, 5, 6, 7] rfl)
                  · have tc_19 := t_nlt c_19
                    refine lv_iload_n hx hb dX12_isFast_125 rfl (lv_at hl 4 rfl) ?_
                    refine lv_iload hx hb dX12_isFast_126 (lv_at hl 1 rfl) ?_
                    refine lv_iload hx hb dX12_isFast_128 (lv_at hl 0 rfl) ?_
                    have hPc := hP.sub (ws' := []) [] rfl
                    refine roS (As := [.int x_4, .int y_10, .int y_11]) (rest := []) S (m_isIn  ) (va_cwS 3 hts gX12_isFast_X12_isIn rfl rfl rfl hd_X12_isIn ⟨Nat.le_of_ble_eq_true rfl, Nat.le_of_ble_eq_true rfl⟩) hK hPc rfl hl.1 rfl (Nat.le_of_ble_eq_true rfl) dX12_isFast_130 ⟨Nat.le_of_ble_eq_true rfl, Nat.le_of_ble_eq_true rfl⟩ (fun r_25 hw_25 => ?_)
                    have hw_25 : (r_25.toInt = 1 ∧ y_10.toInt ≤ x_4.toInt ∧ x_4.toInt ≤ y_11.toInt) ∨ (r_25.toInt = 0 ∧ (x_4.toInt < y_10.toInt ∨ y_11.toInt < x_4.toInt)) := hw_25
                    refine lv_if_eq (tgt := 155) hx hb dX12_isFast_133 (by decide) (fun c_26 => ?_) (fun c_26 => ?_)
                    · have tc_26 := t_eq c_26
                      refine lv_iconst (v := 0) hx hb dX12_isFast_155 (by decide) ?_
                      refine lv_istore (lv' := [(4, .int 0), (7, .int y_11), (6, .int y_10), (5, .int j), (3, .int x_4), (2, .int r_ru), (0, .ref h), (1, .int d)]) hx hb dX12_isFast_156 hl (by decide) rfl (fun ls hl => ?_)
                      obtain ⟨x_27, ex_27⟩ : ∃ y : Int32, y = j + 1 := ⟨_, rfl⟩
                      refine lv_iinc (v := x_27) (lv' := [(5, .int x_27), (4, .int 0), (7, .int y_11), (6, .int y_10), (3, .int x_4), (2, .int r_ru), (0, .ref h), (1, .int d)]) hx hb dX12_isFast_158 hl (k := 3) rfl (by rw [ex_27]; rfl) (by decide) rfl (fun ls hl => ?_)
                      first | have tx_27 := t_add ex_27 (by omega) (by omega) | skip
                      refine lv_goto (tgt := 37) hx hb dX12_isFast_161 (by decide) ?_
                      exact ih37 0 x_27 (by omega) (by omega) (by omega) (by omega) _ _ hP hD hS ls (lv_sub hl [0, 1, 4, 5, 6, 7] rfl)
                    · have tc_26 := t_neq c_26
                      refine lv_goto (tgt := 151) hx hb dX12_isFast_136 (by decide) ?_
                      refine lv_iconst (v := 1) hx hb dX12_isFast_151 (by decide) ?_
                      refine lv_goto (tgt := 156) hx hb dX12_isFast_152 (by decide) ?_
                      refine lv_istore (lv' := [(4, .int 1), (7, .int y_11), (6, .int y_10), (5, .int j), (3, .int x_4), (2, .int r_ru), (0, .ref h), (1, .int d)]) hx hb dX12_isFast_156 hl (by decide) rfl (fun ls hl => ?_)
                      obtain ⟨x_28, ex_28⟩ : ∃ y : Int32, y = j + 1 := ⟨_, rfl⟩
                      refine lv_iinc (v := x_28) (lv' := [(5, .int x_28), (4, .int 1), (7, .int y_11), (6, .int y_10), (3, .int x_4), (2, .int r_ru), (0, .ref h), (1, .int d)]) hx hb dX12_isFast_158 hl (k := 3) rfl (by rw [ex_28]; rfl) (by decide) rfl (fun ls hl => ?_)
                      first | have tx_28 := t_add ex_28 (by omega) (by omega) | skip
                      refine lv_goto (tgt := 37) hx hb dX12_isFast_161 (by decide) ?_
                      exact ih37 1 x_28 (by omega) (by omega) (by omega) (by omega) _ _ hP hD hS ls (lv_sub hl [0, 1, 4, 5, 6, 7] rfl)
            · have tc_13 := t_eq c_13
              refine lv_iload hx hb dX12_isFast_81 (lv_at hl 3 rfl) ?_
              refine lv_if_ne (tgt := 95) hx hb dX12_isFast_83 (by decide) (fun c_29 => ?_) (fun c_29 => ?_)
              · have tc_29 := t_neq c_29
                refine lv_iconst (v := 1) hx hb dX12_isFast_95 (by decide) ?_
                refine lv_goto (tgt := 100) hx hb dX12_isFast_96 (by decide) ?_
                refine lv_istore (lv' := [(4, .int 1), (7, .int y_11), (6, .int y_10), (5, .int j), (3, .int x_4), (2, .int r_ru), (0, .ref h), (1, .int d)]) hx hb dX12_isFast_100 hl (by decide) rfl (fun ls hl => ?_)
                refine lv_aload_n hx hb dX12_isFast_102 rfl (lv_at hl 6 rfl) ?_
                refine va_get (D := D) (ci := 11) (v := .ref a_sort) (C := RX12) (T := TX12) (N := 54) hx hb hts in_n_isFast_X12 hown hK.1 hP 5 rfl rfl 49 (by decide) lk3 (fun _ h9 => h9) rfl dX12_isFast_103 ?_
                refine lv_iload hx hb dX12_isFast_106 (lv_at hl 3 rfl) ?_
                refine va_iald hx hb hK.1 hP 2 0 rfl rfl (t_in (by omega) (by omega)) dX12_isFast_108 ?_
                refine lv_topi (fun y_30 ey_30 => ?_)
                refine lv_iconst (v := 1) hx hb dX12_isFast_109 (by decide) ?_
                refine lv_icmp_ne (tgt := 158) hx hb dX12_isFast_110 (by decide) (fun c_31 => ?_) (fun c_31 => ?_)
                · have tc_31 := t_neq c_31
                  obtain ⟨x_32, ex_32⟩ : ∃ y : Int32, y = j + 1 := ⟨_, rfl⟩
                  refine lv_iinc (v := x_32) (lv' := [(5, .int x_32), (4, .int 1), (7, .int y_11), (6, .int y_10), (3, .int x_4), (2, .int r_ru), (0, .ref h), (1, .int d)]) hx hb dX12_isFast_158 hl (k := 3) rfl (by rw [ex_32]; rfl) (by decide) rfl (fun ls hl => ?_)
                  first | have tx_32 := t_add ex_32 (by omega) (by omega) | skip
                  refine lv_goto (tgt := 37) hx hb dX12_isFast_161 (by decide) ?_
                  exact ih37 1 x_32 (by omega) (by omega) (by omega) (by omega) _ _ hP hD hS ls (lv_sub hl [0, 1, 4, 5, 6, 7] rfl)
                · have tc_31 := t_eq c_31
                  refine lv_iload hx hb dX12_isFast_113 (lv_at hl 0 rfl) ?_
                  refine lv_if_ne (tgt := 151) hx hb dX12_isFast_115 (by decide) (fun c_33 => ?_) (fun c_33 => ?_)
                  · have tc_33 := t_neq c_33
                    refine lv_iconst (v := 1) hx hb dX12_isFast_151 (by decide) ?_
                    refine lv_goto (tgt := 156) hx hb dX12_isFast_152 (by decide) ?_
                    refine lv_istore (lv' := [(4, .int 1), (7, .int y_11), (6, .int y_10), (5, .int j), (3, .int x_4), (2, .int r_ru), (0, .ref h), (1, .int d)]) hx hb dX12_isFast_156 hl (by decide) rfl (fun ls hl => ?_)
                    obtain ⟨x_34, ex_34⟩ : ∃ y : Int32, y = j + 1 := ⟨_, rfl⟩
                    refine lv_iinc (v := x_34) (lv' := [(5, .int x_34), (4, .int 1), (7, .int y_11), (6, .int y_10), (3, .int x_4), (2, .int r_ru), (0, .ref h), (1, .int d)]) hx hb dX12_isFast_158 hl (k := 3) rfl (by rw [ex_34]; rfl) (by decide) rfl (fun ls hl => ?_)
                    first | have tx_34 := t_add ex_34 (by omega) (by omega) | skip
                    refine lv_goto (tgt := 37) hx hb dX12_isFast_161 (by decide) ?_
                    exact ih37 1 x_34 (by omega) (by omega) (by omega) (by omega) _ _ hP hD hS ls (lv_sub hl [0, 1, 4, 5, 6, 7] rfl)
                  · exact absurd c_33 (by decide)
              · have tc_29 := t_eq c_29
                refine lv_iload hx hb dX12_isFast_86 (lv_at hl 1 rfl) ?_
                refine lv_iload_n hx hb dX12_isFast_88 rfl (lv_at hl 7 rfl) ?_
                refine lv_bipush (v := 7) hx hb dX12_isFast_89 (by decide) ?_
                refine lv_irem hx hb dX12_isFast_91 (by decide) ?_
                refine lv_topi (fun x_35 ex_35 => ?_)
                refine lv_icmp_ne (tgt := 99) hx hb dX12_isFast_92 (by decide) (fun c_36 => ?_) (fun c_36 => ?_)
                · have tc_36 := t_neq c_36
                  refine lv_iconst (v := 0) hx hb dX12_isFast_99 (by decide) ?_
                  refine lv_istore (lv' := [(4, .int 0), (7, .int y_11), (6, .int y_10), (5, .int j), (3, .int x_4), (2, .int r_ru), (0, .ref h), (1, .int d)]) hx hb dX12_isFast_100 hl (by decide) rfl (fun ls hl => ?_)
                  refine lv_aload_n hx hb dX12_isFast_102 rfl (lv_at hl 6 rfl) ?_
                  refine va_get (D := D) (ci := 11) (v := .ref a_sort) (C := RX12) (T := TX12) (N := 54) hx hb hts in_n_isFast_X12 hown hK.1 hP 5 rfl rfl 49 (by decide) lk3 (fun _ h9 => h9) rfl dX12_isFast_103 ?_
                  refine lv_iload hx hb dX12_isFast_106 (lv_at hl 3 rfl) ?_
                  refine va_iald hx hb hK.1 hP 2 0 rfl rfl (t_in (by omega) (by omega)) dX12_isFast_108 ?_
                  refine lv_topi (fun y_37 ey_37 => ?_)
                  refine lv_iconst (v := 1) hx hb dX12_isFast_109 (by decide) ?_
                  refine lv_icmp_ne (tgt := 158) hx hb dX12_isFast_110 (by decide) (fun c_38 => ?_) (fun c_38 => ?_)
                  · have tc_38 := t_neq c_38
                    obtain ⟨x_39, ex_39⟩ : ∃ y : Int32, y = j + 1 := ⟨_, rfl⟩
                    refine lv_iinc (v := x_39) (lv' := [(5, .int x_39), (4, .int 0), (7, .int y_11), (6, .int y_10), (3, .int x_4), (2, .int r_ru), (0, .ref h), (1, .int d)]) hx hb dX12_isFast_158 hl (k := 3) rfl (by rw [ex_39]; rfl) (by decide) rfl (fun ls hl => ?_)
                    first | have tx_39 := t_add ex_39 (by omega) (by omega) | skip
                    refine lv_goto (tgt := 37) hx hb dX12_isFast_161 (by decide) ?_
                    exact ih37 0 x_39 (by omega) (by omega) (by omega) (by omega) _ _ hP hD hS ls (lv_sub hl [0, 1, 4, 5, 6, 7] rfl)
                  · have tc_38 := t_eq c_38
                    refine lv_iload hx hb dX12_isFast_113 (lv_at hl 0 rfl) ?_
                    refine lv_if_ne (tgt := 151) hx hb dX12_isFast_115 (by decide) (fun c_40 => ?_) (fun c_40 => ?_)
                    · exact absurd c_40 (by decide)
                    · have tc_40 := t_eq c_40
                      refine lv_iload hx hb dX12_isFast_118 (lv_at hl 2 rfl) ?_
                      refine lv_iload hx hb dX12_isFast_120 (lv_at hl 1 rfl) ?_
                      refine lv_icmp_gt (tgt := 139) hx hb dX12_isFast_122 (by decide) (fun c_41 => ?_) (fun c_41 => ?_)
                      · have tc_41 := t_lt c_41
                        refine lv_iload_n hx hb dX12_isFast_139 rfl (lv_at hl 4 rfl) ?_
                        refine lv_iload hx hb dX12_isFast_140 (lv_at hl 2 rfl) ?_
                        refine lv_icmp_ge (tgt := 151) hx hb dX12_isFast_142 (by decide) (fun c_42 => ?_) (fun c_42 => ?_)
                        · have tc_42 := t_le c_42
                          refine lv_iconst (v := 1) hx hb dX12_isFast_151 (by decide) ?_
                          refine lv_goto (tgt := 156) hx hb dX12_isFast_152 (by decide) ?_
                          refine lv_istore (lv' := [(4, .int 1), (7, .int y_11), (6, .int y_10), (5, .int j), (3, .int x_4), (2, .int r_ru), (0, .ref h), (1, .int d)]) hx hb dX12_isFast_156 hl (by decide) rfl (fun ls hl => ?_)
                          obtain ⟨x_43, ex_43⟩ : ∃ y : Int32, y = j + 1 := ⟨_, rfl⟩
                          refine lv_iinc (v := x_43) (lv' := [(5, .int x_43), (4, .int 1), (7, .int y_11), (6, .int y_10), (3, .int x_4), (2, .int r_ru), (0, .ref h), (1, .int d)]) hx hb dX12_isFast_158 hl (k := 3) rfl (by rw [ex_43]; rfl) (by decide) rfl (fun ls hl => ?_)
                          first | have tx_43 := t_add ex_43 (by omega) (by omega) | skip
                          refine lv_goto (tgt := 37) hx hb dX12_isFast_161 (by decide) ?_
                          exact ih37 1 x_43 (by omega) (by omega) (by omega) (by omega) _ _ hP hD hS ls (lv_sub hl [0, 1, 4, 5, 6, 7] rfl)
                        · have tc_42 := t_nle c_42
                          refine lv_iload_n hx hb dX12_isFast_145 rfl (lv_at hl 4 rfl) ?_
                          refine lv_iload hx hb dX12_isFast_146 (lv_at hl 1 rfl) ?_
                          refine lv_icmp_gt (tgt := 155) hx hb dX12_isFast_148 (by decide) (fun c_44 => ?_) (fun c_44 => ?_)
                          · have tc_44 := t_lt c_44
                            refine lv_iconst (v := 0) hx hb dX12_isFast_155 (by decide) ?_
                            refine lv_istore (lv' := [(4, .int 0), (7, .int y_11), (6, .int y_10), (5, .int j), (3, .int x_4), (2, .int r_ru), (0, .ref h), (1, .int d)]) hx hb dX12_isFast_156 hl (by decide) rfl (fun ls hl => ?_)
                            obtain ⟨x_45, ex_45⟩ : ∃ y : Int32, y = j + 1 := ⟨_, rfl⟩
                            refine lv_iinc (v := x_45) (lv' := [(5, .int x_45), (4, .int 0), (7, .int y_11), (6, .int y_10), (3, .int x_4), (2, .int r_ru), (0, .ref h), (1, .int d)]) hx hb dX12_isFast_158 hl (k := 3) rfl (by rw [ex_45]; rfl) (by decide) rfl (fun ls hl => ?_)
                            first | have tx_45 := t_add ex_45 (by omega) (by omega) | skip
                            refine lv_goto (tgt := 37) hx hb dX12_isFast_161 (by decide) ?_
                            exact ih37 0 x_45 (by omega) (by omega) (by omega) (by omega) _ _ hP hD hS ls (lv_sub hl [0, 1, 4, 5, 6, 7] rfl)
                          · have tc_44 := t_nlt c_44
                            refine lv_iconst (v := 1) hx hb dX12_isFast_151 (by decide) ?_
                            refine lv_goto (tgt := 156) hx hb dX12_isFast_152 (by decide) ?_
                            refine lv_istore (lv' := [(4, .int 1), (7, .int y_11), (6, .int y_10), (5, .int j), (3, .int x_4), (2, .int r_ru), (0, .ref h), (1, .int d)]) hx hb dX12_isFast_156 hl (by decide) rfl (fun ls hl => ?_)
                            obtain ⟨x_46, ex_46⟩ : ∃ y : Int32, y = j + 1 := ⟨_, rfl⟩
                            refine lv_iinc (v := x_46) (lv' := [(5, .int x_46), (4, .int 1), (7, .int y_11), (6, .int y_10), (3, .int x_4), (2, .int r_ru), (0, .ref h), (1, .int d)]) hx hb dX12_isFast_158 hl (k := 3) rfl (by rw [ex_46]; rfl) (by decide) rfl (fun ls hl => ?_)
                            first | have tx_46 := t_add ex_46 (by omega) (by omega) | skip
                            refine lv_goto (tgt := 37) hx hb dX12_isFast_161 (by decide) ?_
                            exact ih37 1 x_46 (by omega) (by omega) (by omega) (by omega) _ _ hP hD hS ls (lv_sub hl [0, 1, 4, 5, 6, 7] rfl)
                      · have tc_41 := t_nlt c_41
                        refine lv_iload_n hx hb dX12_isFast_125 rfl (lv_at hl 4 rfl) ?_
                        refine lv_iload hx hb dX12_isFast_126 (lv_at hl 2 rfl) ?_
                        refine lv_iload hx hb dX12_isFast_128 (lv_at hl 1 rfl) ?_
                        have hPc := hP.sub (ws' := []) [] rfl
                        refine roS (As := [.int x_4, .int y_10, .int y_11]) (rest := []) S (m_isIn  ) (va_cwS 3 hts gX12_isFast_X12_isIn rfl rfl rfl hd_X12_isIn ⟨Nat.le_of_ble_eq_true rfl, Nat.le_of_ble_eq_true rfl⟩) hK hPc rfl hl.1 rfl (Nat.le_of_ble_eq_true rfl) dX12_isFast_130 ⟨Nat.le_of_ble_eq_true rfl, Nat.le_of_ble_eq_true rfl⟩ (fun r_47 hw_47 => ?_)
                        have hw_47 : (r_47.toInt = 1 ∧ y_10.toInt ≤ x_4.toInt ∧ x_4.toInt ≤ y_11.toInt) ∨ (r_47.toInt = 0 ∧ (x_4.toInt < y_10.toInt ∨ y_11.toInt < x_4.toInt)) := hw_47
                        refine lv_if_eq (tgt := 155) hx hb dX12_isFast_133 (by decide) (fun c_48 => ?_) (fun c_48 => ?_)
                        · have tc_48 := t_eq c_48
                          refine lv_iconst (v := 0) hx hb dX12_isFast_155 (by decide) ?_
                          refine lv_istore (lv' := [(4, .int 0), (7, .int y_11), (6, .int y_10), (5, .int j), (3, .int x_4), (2, .int r_ru), (0, .ref h), (1, .int d)]) hx hb dX12_isFast_156 hl (by decide) rfl (fun ls hl => ?_)
                          obtain ⟨x_49, ex_49⟩ : ∃ y : Int32, y = j + 1 := ⟨_, rfl⟩
                          refine lv_iinc (v := x_49) (lv' := [(5, .int x_49), (4, .int 0), (7, .int y_11), (6, .int y_10), (3, .int x_4), (2, .int r_ru), (0, .ref h), (1, .int d)]) hx hb dX12_isFast_158 hl (k := 3) rfl (by rw [ex_49]; rfl) (by decide) rfl (fun ls hl => ?_)
                          first | have tx_49 := t_add ex_49 (by omega) (by omega) | skip
                          refine lv_goto (tgt := 37) hx hb dX12_isFast_161 (by decide) ?_
                          exact ih37 0 x_49 (by omega) (by omega) (by omega) (by omega) _ _ hP hD hS ls (lv_sub hl [0, 1, 4, 5, 6, 7] rfl)
                        · have tc_48 := t_neq c_48
                          refine lv_goto (tgt := 151) hx hb dX12_isFast_136 (by decide) ?_
                          refine lv_iconst (v := 1) hx hb dX12_isFast_151 (by decide) ?_
                          refine lv_goto (tgt := 156) hx hb dX12_isFast_152 (by decide) ?_
                          refine lv_istore (lv' := [(4, .int 1), (7, .int y_11), (6, .int y_10), (5, .int j), (3, .int x_4), (2, .int r_ru), (0, .ref h), (1, .int d)]) hx hb dX12_isFast_156 hl (by decide) rfl (fun ls hl => ?_)
                          obtain ⟨x_50, ex_50⟩ : ∃ y : Int32, y = j + 1 := ⟨_, rfl⟩
                          refine lv_iinc (v := x_50) (lv' := [(5, .int x_50), (4, .int 1), (7, .int y_11), (6, .int y_10), (3, .int x_4), (2, .int r_ru), (0, .ref h), (1, .int d)]) hx hb dX12_isFast_158 hl (k := 3) rfl (by rw [ex_50]; rfl) (by decide) rfl (fun ls hl => ?_)
                          first | have tx_50 := t_add ex_50 (by omega) (by omega) | skip
                          refine lv_goto (tgt := 37) hx hb dX12_isFast_161 (by decide) ?_
                          exact ih37 1 x_50 (by omega) (by omega) (by omega) (by omega) _ _ hP hD hS ls (lv_sub hl [0, 1, 4, 5, 6, 7] rfl)
                · have tc_36 := t_eq c_36
                  refine lv_iconst (v := 1) hx hb dX12_isFast_95 (by decide) ?_
                  refine lv_goto (tgt := 100) hx hb dX12_isFast_96 (by decide) ?_
                  refine lv_istore (lv' := [(4, .int 1), (7, .int y_11), (6, .int y_10), (5, .int j), (3, .int x_4), (2, .int r_ru), (0, .ref h), (1, .int d)]) hx hb dX12_isFast_100 hl (by decide) rfl (fun ls hl => ?_)
                  refine lv_aload_n hx hb dX12_isFast_102 rfl (lv_at hl 6 rfl) ?_
                  refine va_get (D := D) (ci := 11) (v := .ref a_sort) (C := RX12) (T := TX12) (N := 54) hx hb hts in_n_isFast_X12 hown hK.1 hP 5 rfl rfl 49 (by decide) lk3 (fun _ h9 => h9) rfl dX12_isFast_103 ?_
                  refine lv_iload hx hb dX12_isFast_106 (lv_at hl 3 rfl) ?_
                  refine va_iald hx hb hK.1 hP 2 0 rfl rfl (t_in (by omega) (by omega)) dX12_isFast_108 ?_
                  refine lv_topi (fun y_51 ey_51 => ?_)
                  refine lv_iconst (v := 1) hx hb dX12_isFast_109 (by decide) ?_
                  refine lv_icmp_ne (tgt := 158) hx hb dX12_isFast_110 (by decide) (fun c_52 => ?_) (fun c_52 => ?_)
                  · have tc_52 := t_neq c_52
                    obtain ⟨x_53, ex_53⟩ : ∃ y : Int32, y = j + 1 := ⟨_, rfl⟩
                    refine lv_iinc (v := x_53) (lv' := [(5, .int x_53), (4, .int 1), (7, .int y_11), (6, .int y_10), (3, .int x_4), (2, .int r_ru), (0, .ref h), (1, .int d)]) hx hb dX12_isFast_158 hl (k := 3) rfl (by rw [ex_53]; rfl) (by decide) rfl (fun ls hl => ?_)
                    first | have tx_53 := t_add ex_53 (by omega) (by omega) | skip
                    refine lv_goto (tgt := 37) hx hb dX12_isFast_161 (by decide) ?_
                    exact ih37 1 x_53 (by omega) (by omega) (by omega) (by omega) _ _ hP hD hS ls (lv_sub hl [0, 1, 4, 5, 6, 7] rfl)
                  · have tc_52 := t_eq c_52
                    refine lv_iload hx hb dX12_isFast_113 (lv_at hl 0 rfl) ?_
                    refine lv_if_ne (tgt := 151) hx hb dX12_isFast_115 (by decide) (fun c_54 => ?_) (fun c_54 => ?_)
                    · have tc_54 := t_neq c_54
                      refine lv_iconst (v := 1) hx hb dX12_isFast_151 (by decide) ?_
                      refine lv_goto (tgt := 156) hx hb dX12_isFast_152 (by decide) ?_
                      refine lv_istore (lv' := [(4, .int 1), (7, .int y_11), (6, .int y_10), (5, .int j), (3, .int x_4), (2, .int r_ru), (0, .ref h), (1, .int d)]) hx hb dX12_isFast_156 hl (by decide) rfl (fun ls hl => ?_)
                      obtain ⟨x_55, ex_55⟩ : ∃ y : Int32, y = j + 1 := ⟨_, rfl⟩
                      refine lv_iinc (v := x_55) (lv' := [(5, .int x_55), (4, .int 1), (7, .int y_11), (6, .int y_10), (3, .int x_4), (2, .int r_ru), (0, .ref h), (1, .int d)]) hx hb dX12_isFast_158 hl (k := 3) rfl (by rw [ex_55]; rfl) (by decide) rfl (fun ls hl => ?_)
                      first | have tx_55 := t_add ex_55 (by omega) (by omega) | skip
                      refine lv_goto (tgt := 37) hx hb dX12_isFast_161 (by decide) ?_
                      exact ih37 1 x_55 (by omega) (by omega) (by omega) (by omega) _ _ hP hD hS ls (lv_sub hl [0, 1, 4, 5, 6, 7] rfl)
                    · exact absurd c_54 (by decide)
      exact loop37 ((16 * r_ru.toInt + 17 - x_5.toInt).toNat + 1) 0 x_5 (by omega) (by omega) (by omega) (by omega) _ _ hP hD hS ls (lv_sub hl [0, 1, 2, 3, 4, 5] rfl)
    · have tc_3 := t_nlt c_3
      refine lv_iconst (v := 0) hx hb dX12_isFast_20 (by decide) ?_
      exact hret 0 (g1_2, g2_2) _ _ _ _ (show ((0 : Int32).toInt = 0 ∨ (0 : Int32).toInt = 1) from by omega) rfl (hP.sub [5, 6, 7, 8, 9, 0, 1, 2, 3, 4] rfl) (hD.sub [5, 6, 7, 8, 9, 0, 1, 2, 3, 4] (by decide +kernel) rfl) hS dX12_isFast_21

set_option maxHeartbeats 8000000 in
set_option maxRecDepth 100000 in
theorem n_headFeed {l : Launch} {D : va_G} {cI cZ cB : ClassId} {sz : Nat} {h a_isPriest a_bars a_joined a_turns a_awayMonk a_awayFrom a_awayTo a_feastDay a_rank a_isWeekly a_isDouble a_giftDay a_giftFrom a_owed a_said a_spared a_leaveGift a_leaveFrom a_leaveTo a_lateDay a_lateOffice a_lateBy a_guests a_who a_used a_lacks a_candles a_masses a_owing a_heldOn a_waits a_tape a_text a_statements a_taken a_sort a_first a_second : Nat} {v_today v_monks v_aways v_feasts v_gifts v_leaves v_lates v_store v_allCandles v_taped v_size v_at v_fault v_rules v_wordEnd v_number : Int32} {f_feastDay f_rank f_heldOn f_waits f_statements f_taken f_sort f_first f_second : Nat → Int32} {d : Int32} (h0_feasts : 0 ≤ v_feasts.toInt) (h1_feasts : v_feasts.toInt ≤ 40) (h0_rules : 0 ≤ v_rules.toInt) (h1_rules : v_rules.toInt ≤ 10) (hs : InR f_statements v_rules.toInt 0 17) : Met l yX12_headFeed wsX12_headFeed ({ frames := 4, cells := 0, slots := 0, locals := 94 }) (RW D cI cZ cB [.ref h, .int d] sz [(h, .inr (11, [.int v_today, .int v_monks, .int v_aways, .int v_feasts, .int v_gifts, .int v_leaves, .int v_lates, .int v_store, .int v_allCandles, .ref a_isPriest, .ref a_bars, .ref a_joined, .ref a_turns, .ref a_awayMonk, .ref a_awayFrom, .ref a_awayTo, .ref a_feastDay, .ref a_rank, .ref a_isWeekly, .ref a_isDouble, .ref a_giftDay, .ref a_giftFrom, .ref a_owed, .ref a_said, .ref a_spared, .ref a_leaveGift, .ref a_leaveFrom, .ref a_leaveTo, .ref a_lateDay, .ref a_lateOffice, .ref a_lateBy, .ref a_guests, .ref a_who, .ref a_used, .ref a_lacks, .ref a_candles, .ref a_masses, .ref a_owing, .ref a_heldOn, .ref a_waits, .ref a_tape, .ref a_text, .int v_taped, .int v_size, .int v_at, .int v_fault, .int v_rules, .ref a_statements, .ref a_taken, .ref a_sort, .ref a_first, .ref a_second, .int v_wordEnd, .int v_number])), (a_feastDay, .inl (cI, 40, .inl f_feastDay)), (a_rank, .inl (cI, 40, .inl f_rank)), (a_heldOn, .inl (cI, 365, .inl f_heldOn)), (a_waits, .inl (cZ, 40, .inl f_waits)), (a_statements, .inl (cI, 11, .inl f_statements)), (a_taken, .inl (cI, 11, .inl f_taken)), (a_sort, .inl (cI, 176, .inl f_sort)), (a_first, .inl (cI, 176, .inl f_first)), (a_second, .inl (cI, 176, .inl f_second))]) (va_Qi (fun (r : Int32) (u : (Nat → Int32) × (Nat → Int32)) => True) (BW D [(h, .inr (11, [.int v_today, .int v_monks, .int v_aways, .int v_feasts, .int v_gifts, .int v_leaves, .int v_lates, .int v_store, .int v_allCandles, .ref a_isPriest, .ref a_bars, .ref a_joined, .ref a_turns, .ref a_awayMonk, .ref a_awayFrom, .ref a_awayTo, .ref a_feastDay, .ref a_rank, .ref a_isWeekly, .ref a_isDouble, .ref a_giftDay, .ref a_giftFrom, .ref a_owed, .ref a_said, .ref a_spared, .ref a_leaveGift, .ref a_leaveFrom, .ref a_leaveTo, .ref a_lateDay, .ref a_lateOffice, .ref a_lateBy, .ref a_guests, .ref a_who, .ref a_used, .ref a_lacks, .ref a_candles, .ref a_masses, .ref a_owing, .ref a_heldOn, .ref a_waits, .ref a_tape, .ref a_text, .int v_taped, .int v_size, .int v_at, .int v_fault, .int v_rules, .ref a_statements, .ref a_taken, .ref a_sort, .ref a_first, .ref a_second, .int v_wordEnd, .int v_number])), (a_feastDay, .inl (cI, 40, .inl f_feastDay)), (a_rank, .inl (cI, 40, .inl f_rank)), (a_heldOn, .inl (cI, 365, .inl f_heldOn)), (a_waits, .inl (cZ, 40, .inl f_waits)), (a_statements, .inl (cI, 11, .inl f_statements)), (a_taken, .inl (cI, 11, .inl f_taken)), (a_sort, .inl (cI, 176, .inl f_sort)), (a_first, .inl (cI, 176, .inl f_first)), (a_second, .inl (cI, 176, .inl f_second))] sz (fun u : (Nat → Int32) × (Nat → Int32) => [(h, .inr (11, [.int v_today, .int v_monks, .int v_aways, .int v_feasts, .int v_gifts, .int v_leaves, .int v_lates, .int v_store, .int v_allCandles, .ref a_isPriest, .ref a_bars, .ref a_joined, .ref a_turns, .ref a_awayMonk, .ref a_awayFrom, .ref a_awayTo, .ref a_feastDay, .ref a_rank, .ref a_isWeekly, .ref a_isDouble, .ref a_giftDay, .ref a_giftFrom, .ref a_owed, .ref a_said, .ref a_spared, .ref a_leaveGift, .ref a_leaveFrom, .ref a_leaveTo, .ref a_lateDay, .ref a_lateOffice, .ref a_lateBy, .ref a_guests, .ref a_who, .ref a_used, .ref a_lacks, .ref a_candles, .ref a_masses, .ref a_owing, .ref a_heldOn, .ref a_waits, .ref a_tape, .ref a_text, .int v_taped, .int v_size, .int v_at, .int v_fault, .int v_rules, .ref a_statements, .ref a_taken, .ref a_sort, .ref a_first, .ref a_second, .int v_wordEnd, .int v_number])), (a_feastDay, .inl (cI, 40, .inl f_feastDay)), (a_rank, .inl (cI, 40, .inl f_rank)), (a_heldOn, .inl (cI, 365, .inl u.1)), (a_waits, .inl (cZ, 40, .inl u.2)), (a_statements, .inl (cI, 11, .inl f_statements)), (a_taken, .inl (cI, 11, .inl f_taken)), (a_sort, .inl (cI, 176, .inl f_sort)), (a_first, .inl (cI, 176, .inl f_first)), (a_second, .inl (cI, 176, .inl f_second))])) (va_A [(h, .inr (11, [.int v_today, .int v_monks, .int v_aways, .int v_feasts, .int v_gifts, .int v_leaves, .int v_lates, .int v_store, .int v_allCandles, .ref a_isPriest, .ref a_bars, .ref a_joined, .ref a_turns, .ref a_awayMonk, .ref a_awayFrom, .ref a_awayTo, .ref a_feastDay, .ref a_rank, .ref a_isWeekly, .ref a_isDouble, .ref a_giftDay, .ref a_giftFrom, .ref a_owed, .ref a_said, .ref a_spared, .ref a_leaveGift, .ref a_leaveFrom, .ref a_leaveTo, .ref a_lateDay, .ref a_lateOffice, .ref a_lateBy, .ref a_guests, .ref a_who, .ref a_used, .ref a_lacks, .ref a_candles, .ref a_masses, .ref a_owing, .ref a_heldOn, .ref a_waits, .ref a_tape, .ref a_text, .int v_taped, .int v_size, .int v_at, .int v_fault, .int v_rules, .ref a_statements, .ref a_taken, .ref a_sort, .ref a_first, .ref a_second, .int v_wordEnd, .int v_number])), (a_feastDay, .inl (cI, 40, .inl f_feastDay)), (a_rank, .inl (cI, 40, .inl f_rank)), (a_heldOn, .inl (cI, 365, .inl f_heldOn)), (a_waits, .inl (cZ, 40, .inl f_waits)), (a_statements, .inl (cI, 11, .inl f_statements)), (a_taken, .inl (cI, 11, .inl f_taken)), (a_sort, .inl (cI, 176, .inl f_sort)), (a_first, .inl (cI, 176, .inl f_first)), (a_second, .inl (cI, 176, .inl f_second))] sz)) 0 0 (va_A [(h, .inr (11, [.int v_today, .int v_monks, .int v_aways, .int v_feasts, .int v_gifts, .int v_leaves, .int v_lates, .int v_store, .int v_allCandles, .ref a_isPriest, .ref a_bars, .ref a_joined, .ref a_turns, .ref a_awayMonk, .ref a_awayFrom, .ref a_awayTo, .ref a_feastDay, .ref a_rank, .ref a_isWeekly, .ref a_isDouble, .ref a_giftDay, .ref a_giftFrom, .ref a_owed, .ref a_said, .ref a_spared, .ref a_leaveGift, .ref a_leaveFrom, .ref a_leaveTo, .ref a_lateDay, .ref a_lateOffice, .ref a_lateBy, .ref a_guests, .ref a_who, .ref a_used, .ref a_lacks, .ref a_candles, .ref a_masses, .ref a_owing, .ref a_heldOn, .ref a_waits, .ref a_tape, .ref a_text, .int v_taped, .int v_size, .int v_at, .int v_fault, .int v_rules, .ref a_statements, .ref a_taken, .ref a_sort, .ref a_first, .ref a_second, .int v_wordEnd, .int v_number])), (a_feastDay, .inl (cI, 40, .inl f_feastDay)), (a_rank, .inl (cI, 40, .inl f_rank)), (a_heldOn, .inl (cI, 365, .inl f_heldOn)), (a_waits, .inl (cZ, 40, .inl f_waits)), (a_statements, .inl (cI, 11, .inl f_statements)), (a_taken, .inl (cI, 11, .inl f_taken)), (a_sort, .inl (cI, 176, .inl f_sort)), (a_first, .inl (cI, 176, .inl f_first)), (a_second, .inl (cI, 176, .inl f_second))] sz) := by
  refine rw_ret (cc := cX12_headFeed) (maxL := 4) (ty := .int) (own := RX12) (by decide) rfl rfl (Nat.le_of_ble_eq_true rfl) ?_
  intro p e s m args below meth c Q A S hin hret hP hK hD hA hS ls hl
  obtain ⟨hx, hb, hml, hown, hts⟩ := id S
  have hl : lv_has ls 4 [(0, .ref h), (1, .int d)] := hl
  have kkm1 : (-1 : Int32).toInt = -1 := by decide
  have kk0 : (0 : Int32).toInt = 0 := by decide
  have kk2 : (2 : Int32).toInt = 2 := by decide
  have kk3 : (3 : Int32).toInt = 3 := by decide
  have kk5 : (5 : Int32).toInt = 5 := by decide
  refine lv_aload_n hx hb dX12_headFeed_0 rfl (lv_at hl 0 rfl) ?_
  refine lv_iload_n hx hb dX12_headFeed_1 rfl (lv_at hl 1 rfl) ?_
  have hPc := hP.sub (ws' := [(h, .inr (11, [.int v_today, .int v_monks, .int v_aways, .int v_feasts, .int v_gifts, .int v_leaves, .int v_lates, .int v_store, .int v_allCandles, .ref a_isPriest, .ref a_bars, .ref a_joined, .ref a_turns, .ref a_awayMonk, .ref a_awayFrom, .ref a_awayTo, .ref a_feastDay, .ref a_rank, .ref a_isWeekly, .ref a_isDouble, .ref a_giftDay, .ref a_giftFrom, .ref a_owed, .ref a_said, .ref a_spared, .ref a_leaveGift, .ref a_leaveFrom, .ref a_leaveTo, .ref a_lateDay, .ref a_lateOffice, .ref a_lateBy, .ref a_guests, .ref a_who, .ref a_used, .ref a_lacks, .ref a_candles, .ref a_masses, .ref a_owing, .ref a_heldOn, .ref a_waits, .ref a_tape, .ref a_text, .int v_taped, .int v_size, .int v_at, .int v_fault, .int v_rules, .ref a_statements, .ref a_taken, .ref a_sort, .ref a_first, .ref a_second, .int v_wordEnd, .int v_number])), (a_taken, .inl (cI, 11, .inl f_taken))]) [0, 6] rfl
  refine roV (As := [.int d]) (rest := []) S (n_inForce  (by omega) (by omega)) (cwV 1 hts gX12_headFeed_X12_inForce rfl rfl rfl ⟨rfl, hd_X12_inForce⟩ ⟨Nat.le_of_ble_eq_true rfl, Nat.le_of_ble_eq_true rfl⟩) hK hPc (va_recv hK.1 hPc (ci := 11) (q0 := 0) rfl rfl) rfl hl.1 rfl (Nat.le_of_ble_eq_true rfl) dX12_headFeed_2 ⟨Nat.le_of_ble_eq_true rfl, Nat.le_of_ble_eq_true rfl⟩ (fun r_1 hw_1 => ?_)
  have hw_1 : r_1.toInt = -1 ∨ (0 ≤ r_1.toInt ∧ r_1.toInt < v_rules.toInt) := hw_1
  refine lv_istore_n (lv' := [(2, .int r_1), (0, .ref h), (1, .int d)]) hx hb dX12_headFeed_5 rfl hl (by decide) rfl (fun ls hl => ?_)
  refine lv_aload_n hx hb dX12_headFeed_6 rfl (lv_at hl 1 rfl) ?_
  refine lv_iload_n hx hb dX12_headFeed_7 rfl (lv_at hl 2 rfl) ?_
  have hPc := hP.sub (ws' := [(h, .inr (11, [.int v_today, .int v_monks, .int v_aways, .int v_feasts, .int v_gifts, .int v_leaves, .int v_lates, .int v_store, .int v_allCandles, .ref a_isPriest, .ref a_bars, .ref a_joined, .ref a_turns, .ref a_awayMonk, .ref a_awayFrom, .ref a_awayTo, .ref a_feastDay, .ref a_rank, .ref a_isWeekly, .ref a_isDouble, .ref a_giftDay, .ref a_giftFrom, .ref a_owed, .ref a_said, .ref a_spared, .ref a_leaveGift, .ref a_leaveFrom, .ref a_leaveTo, .ref a_lateDay, .ref a_lateOffice, .ref a_lateBy, .ref a_guests, .ref a_who, .ref a_used, .ref a_lacks, .ref a_candles, .ref a_masses, .ref a_owing, .ref a_heldOn, .ref a_waits, .ref a_tape, .ref a_text, .int v_taped, .int v_size, .int v_at, .int v_fault, .int v_rules, .ref a_statements, .ref a_taken, .ref a_sort, .ref a_first, .ref a_second, .int v_wordEnd, .int v_number])), (a_feastDay, .inl (cI, 40, .inl f_feastDay)), (a_rank, .inl (cI, 40, .inl f_rank)), (a_heldOn, .inl (cI, 365, .inl f_heldOn)), (a_waits, .inl (cZ, 40, .inl f_waits)), (a_statements, .inl (cI, 11, .inl f_statements)), (a_taken, .inl (cI, 11, .inl f_taken)), (a_sort, .inl (cI, 176, .inl f_sort)), (a_first, .inl (cI, 176, .inl f_first)), (a_second, .inl (cI, 176, .inl f_second))]) [0, 1, 2, 3, 4, 5, 6, 7, 8, 9] rfl
  refine rwV (As := [.int d]) (rest := []) (wc := [(h, .inr (11, [.int v_today, .int v_monks, .int v_aways, .int v_feasts, .int v_gifts, .int v_leaves, .int v_lates, .int v_store, .int v_allCandles, .ref a_isPriest, .ref a_bars, .ref a_joined, .ref a_turns, .ref a_awayMonk, .ref a_awayFrom, .ref a_awayTo, .ref a_feastDay, .ref a_rank, .ref a_isWeekly, .ref a_isDouble, .ref a_giftDay, .ref a_giftFrom, .ref a_owed, .ref a_said, .ref a_spared, .ref a_leaveGift, .ref a_leaveFrom, .ref a_leaveTo, .ref a_lateDay, .ref a_lateOffice, .ref a_lateBy, .ref a_guests, .ref a_who, .ref a_used, .ref a_lacks, .ref a_candles, .ref a_masses, .ref a_owing, .ref a_heldOn, .ref a_waits, .ref a_tape, .ref a_text, .int v_taped, .int v_size, .int v_at, .int v_fault, .int v_rules, .ref a_statements, .ref a_taken, .ref a_sort, .ref a_first, .ref a_second, .int v_wordEnd, .int v_number])), (a_feastDay, .inl (cI, 40, .inl f_feastDay)), (a_rank, .inl (cI, 40, .inl f_rank)), (a_heldOn, .inl (cI, 365, .inl f_heldOn)), (a_waits, .inl (cZ, 40, .inl f_waits)), (a_statements, .inl (cI, 11, .inl f_statements)), (a_taken, .inl (cI, 11, .inl f_taken)), (a_sort, .inl (cI, 176, .inl f_sort)), (a_first, .inl (cI, 176, .inl f_first)), (a_second, .inl (cI, 176, .inl f_second))]) (wr := []) S (n_isFast  (by omega) (by omega) (by omega) (by omega) (hs)) (cwV 1 hts gX12_headFeed_X12_isFast rfl rfl rfl ⟨rfl, hd_X12_isFast⟩ ⟨Nat.le_of_ble_eq_true rfl, Nat.le_of_ble_eq_true rfl⟩) hK hP hD hS hA [0, 1, 2, 3, 4, 5, 6, 7, 8, 9] [] rfl rfl (by decide +kernel) (by decide +kernel) (by decide +kernel) (va_recv hK.1 hPc (ci := 11) (q0 := 0) rfl rfl) rfl hl.1 rfl (Nat.le_of_ble_eq_true rfl) dX12_headFeed_8 ⟨Nat.le_of_ble_eq_true rfl, Nat.le_of_ble_eq_true rfl⟩ (fun r_2 u_2 H locs hw_2 hP hD hS => ?_)
  obtain ⟨g1_2, g2_2⟩ := u_2
  have hw_2 : (r_2.toInt = 0 ∨ r_2.toInt = 1) := hw_2
  have hP : va_P D vwCl [(h, .inr (11, [.int v_today, .int v_monks, .int v_aways, .int v_feasts, .int v_gifts, .int v_leaves, .int v_lates, .int v_store, .int v_allCandles, .ref a_isPriest, .ref a_bars, .ref a_joined, .ref a_turns, .ref a_awayMonk, .ref a_awayFrom, .ref a_awayTo, .ref a_feastDay, .ref a_rank, .ref a_isWeekly, .ref a_isDouble, .ref a_giftDay, .ref a_giftFrom, .ref a_owed, .ref a_said, .ref a_spared, .ref a_leaveGift, .ref a_leaveFrom, .ref a_leaveTo, .ref a_lateDay, .ref a_lateOffice, .ref a_lateBy, .ref a_guests, .ref a_who, .ref a_used, .ref a_lacks, .ref a_candles, .ref a_masses, .ref a_owing, .ref a_heldOn, .ref a_waits, .ref a_tape, .ref a_text, .int v_taped, .int v_size, .int v_at, .int v_fault, .int v_rules, .ref a_statements, .ref a_taken, .ref a_sort, .ref a_first, .ref a_second, .int v_wordEnd, .int v_number])), (a_feastDay, .inl (cI, 40, .inl f_feastDay)), (a_rank, .inl (cI, 40, .inl f_rank)), (a_heldOn, .inl (cI, 365, .inl g1_2)), (a_waits, .inl (cZ, 40, .inl g2_2)), (a_statements, .inl (cI, 11, .inl f_statements)), (a_taken, .inl (cI, 11, .inl f_taken)), (a_sort, .inl (cI, 176, .inl f_sort)), (a_first, .inl (cI, 176, .inl f_first)), (a_second, .inl (cI, 176, .inl f_second))] H := hP
  have hD := asD hP hD
  refine lv_if_eq (tgt := 24) hx hb dX12_headFeed_11 (by decide) (fun c_3 => ?_) (fun c_3 => ?_)
  · have tc_3 := t_eq c_3
    refine lv_iconst (v := (-1)) hx hb dX12_headFeed_24 (by decide) ?_
    refine lv_istore_n (lv' := [(3, .int (-1)), (2, .int r_1), (0, .ref h), (1, .int d)]) hx hb dX12_headFeed_25 rfl hl (by decide) rfl (fun ls hl => ?_)
    refine lv_iload_n hx hb dX12_headFeed_26 rfl (lv_at hl 0 rfl) ?_
    refine lv_iconst (v := (-1)) hx hb dX12_headFeed_27 (by decide) ?_
    refine lv_icmp_ne (tgt := 51) hx hb dX12_headFeed_28 (by decide) (fun c_4 => ?_) (fun c_4 => ?_)
    · exact absurd c_4 (by decide)
    · have tc_4 := t_eq c_4
      refine lv_aload_n hx hb dX12_headFeed_31 rfl (lv_at hl 2 rfl) ?_
      refine lv_iload_n hx hb dX12_headFeed_32 rfl (lv_at hl 3 rfl) ?_
      have hPc := hP.sub (ws' := [(h, .inr (11, [.int v_today, .int v_monks, .int v_aways, .int v_feasts, .int v_gifts, .int v_leaves, .int v_lates, .int v_store, .int v_allCandles, .ref a_isPriest, .ref a_bars, .ref a_joined, .ref a_turns, .ref a_awayMonk, .ref a_awayFrom, .ref a_awayTo, .ref a_feastDay, .ref a_rank, .ref a_isWeekly, .ref a_isDouble, .ref a_giftDay, .ref a_giftFrom, .ref a_owed, .ref a_said, .ref a_spared, .ref a_leaveGift, .ref a_leaveFrom, .ref a_leaveTo, .ref a_lateDay, .ref a_lateOffice, .ref a_lateBy, .ref a_guests, .ref a_who, .ref a_used, .ref a_lacks, .ref a_candles, .ref a_masses, .ref a_owing, .ref a_heldOn, .ref a_waits, .ref a_tape, .ref a_text, .int v_taped, .int v_size, .int v_at, .int v_fault, .int v_rules, .ref a_statements, .ref a_taken, .ref a_sort, .ref a_first, .ref a_second, .int v_wordEnd, .int v_number])), (a_feastDay, .inl (cI, 40, .inl f_feastDay)), (a_rank, .inl (cI, 40, .inl f_rank)), (a_heldOn, .inl (cI, 365, .inl g1_2)), (a_waits, .inl (cZ, 40, .inl g2_2))]) [0, 1, 2, 3, 4] rfl
      refine rwV (As := [.int d]) (rest := []) (wc := [(h, .inr (11, [.int v_today, .int v_monks, .int v_aways, .int v_feasts, .int v_gifts, .int v_leaves, .int v_lates, .int v_store, .int v_allCandles, .ref a_isPriest, .ref a_bars, .ref a_joined, .ref a_turns, .ref a_awayMonk, .ref a_awayFrom, .ref a_awayTo, .ref a_feastDay, .ref a_rank, .ref a_isWeekly, .ref a_isDouble, .ref a_giftDay, .ref a_giftFrom, .ref a_owed, .ref a_said, .ref a_spared, .ref a_leaveGift, .ref a_leaveFrom, .ref a_leaveTo, .ref a_lateDay, .ref a_lateOffice, .ref a_lateBy, .ref a_guests, .ref a_who, .ref a_used, .ref a_lacks, .ref a_candles, .ref a_masses, .ref a_owing, .ref a_heldOn, .ref a_waits, .ref a_tape, .ref a_text, .int v_taped, .int v_size, .int v_at, .int v_fault, .int v_rules, .ref a_statements, .ref a_taken, .ref a_sort, .ref a_first, .ref a_second, .int v_wordEnd, .int v_number])), (a_feastDay, .inl (cI, 40, .inl f_feastDay)), (a_rank, .inl (cI, 40, .inl f_rank)), (a_heldOn, .inl (cI, 365, .inl g1_2)), (a_waits, .inl (cZ, 40, .inl g2_2))]) (wr := [(a_statements, .inl (cI, 11, .inl f_statements)), (a_taken, .inl (cI, 11, .inl f_taken)), (a_sort, .inl (cI, 176, .inl f_sort)), (a_first, .inl (cI, 176, .inl f_first)), (a_second, .inl (cI, 176, .inl f_second))]) S (n_rankOn  (by omega) (by omega)) (cwV 1 hts gX12_headFeed_X12_rankOn rfl rfl rfl ⟨rfl, hd_X12_rankOn⟩ ⟨Nat.le_of_ble_eq_true rfl, Nat.le_of_ble_eq_true rfl⟩) hK hP hD hS hA [0, 1, 2, 3, 4] [5, 6, 7, 8, 9] rfl rfl (by decide +kernel) (by decide +kernel) (by decide +kernel) (va_recv hK.1 hPc (ci := 11) (q0 := 0) rfl rfl) rfl hl.1 rfl (Nat.le_of_ble_eq_true rfl) dX12_headFeed_33 ⟨Nat.le_of_ble_eq_true rfl, Nat.le_of_ble_eq_true rfl⟩ (fun r_5 u_5 H locs hw_5 hP hD hS => ?_)
      obtain ⟨g1_5, g2_5⟩ := u_5
      have hw_5 : True := hw_5
      have hP : va_P D vwCl [(a_statements, .inl (cI, 11, .inl f_statements)), (a_taken, .inl (cI, 11, .inl f_taken)), (a_sort, .inl (cI, 176, .inl f_sort)), (a_first, .inl (cI, 176, .inl f_first)), (a_second, .inl (cI, 176, .inl f_second)), (h, .inr (11, [.int v_today, .int v_monks, .int v_aways, .int v_feasts, .int v_gifts, .int v_leaves, .int v_lates, .int v_store, .int v_allCandles, .ref a_isPriest, .ref a_bars, .ref a_joined, .ref a_turns, .ref a_awayMonk, .ref a_awayFrom, .ref a_awayTo, .ref a_feastDay, .ref a_rank, .ref a_isWeekly, .ref a_isDouble, .ref a_giftDay, .ref a_giftFrom, .ref a_owed, .ref a_said, .ref a_spared, .ref a_leaveGift, .ref a_leaveFrom, .ref a_leaveTo, .ref a_lateDay, .ref a_lateOffice, .ref a_lateBy, .ref a_guests, .ref a_who, .ref a_used, .ref a_lacks, .ref a_candles, .ref a_masses, .ref a_owing, .ref a_heldOn, .ref a_waits, .ref a_tape, .ref a_text, .int v_taped, .int v_size, .int v_at, .int v_fault, .int v_rules, .ref a_statements, .ref a_taken, .ref a_sort, .ref a_first, .ref a_second, .int v_wordEnd, .int v_number])), (a_feastDay, .inl (cI, 40, .inl f_feastDay)), (a_rank, .inl (cI, 40, .inl f_rank)), (a_heldOn, .inl (cI, 365, .inl g1_5)), (a_waits, .inl (cZ, 40, .inl g2_5))] H := hP
      have hD := asD hP hD
      refine lv_if_le (tgt := 51) hx hb dX12_headFeed_36 (by decide) (fun c_6 => ?_) (fun c_6 => ?_)
      · have tc_6 := t_le c_6
        refine lv_iload_n hx hb dX12_headFeed_51 rfl (lv_at hl 0 rfl) ?_
        refine lv_iconst (v := (-1)) hx hb dX12_headFeed_52 (by decide) ?_
        refine lv_icmp_ne (tgt := 64) hx hb dX12_headFeed_53 (by decide) (fun c_7 => ?_) (fun c_7 => ?_)
        · exact absurd c_7 (by decide)
        · have tc_7 := t_eq c_7
          refine lv_aload_n hx hb dX12_headFeed_56 rfl (lv_at hl 2 rfl) ?_
          refine lv_iload_n hx hb dX12_headFeed_57 rfl (lv_at hl 1 rfl) ?_
          refine lv_iconst (v := 5) hx hb dX12_headFeed_58 (by decide) ?_
          refine lv_iconst (v := 0) hx hb dX12_headFeed_59 (by decide) ?_
          have hPc := hP.sub (ws' := [(h, .inr (11, [.int v_today, .int v_monks, .int v_aways, .int v_feasts, .int v_gifts, .int v_leaves, .int v_lates, .int v_store, .int v_allCandles, .ref a_isPriest, .ref a_bars, .ref a_joined, .ref a_turns, .ref a_awayMonk, .ref a_awayFrom, .ref a_awayTo, .ref a_feastDay, .ref a_rank, .ref a_isWeekly, .ref a_isDouble, .ref a_giftDay, .ref a_giftFrom, .ref a_owed, .ref a_said, .ref a_spared, .ref a_leaveGift, .ref a_leaveFrom, .ref a_leaveTo, .ref a_lateDay, .ref a_lateOffice, .ref a_lateBy, .ref a_guests, .ref a_who, .ref a_used, .ref a_lacks, .ref a_candles, .ref a_masses, .ref a_owing, .ref a_heldOn, .ref a_waits, .ref a_tape, .ref a_text, .int v_taped, .int v_size, .int v_at, .int v_fault, .int v_rules, .ref a_statements, .ref a_taken, .ref a_sort, .ref a_first, .ref a_second, .int v_wordEnd, .int v_number])), (a_statements, .inl (cI, 11, .inl f_statements)), (a_sort, .inl (cI, 176, .inl f_sort)), (a_first, .inl (cI, 176, .inl f_first)), (a_second, .inl (cI, 176, .inl f_second))]) [5, 0, 2, 3, 4] rfl
          refine roV (As := [.int r_1, .int 5, .int 0]) (rest := []) S (n_lastOf  (by omega) (by omega) (hs) (by omega)) (cwV 3 hts gX12_headFeed_X12_lastOf rfl rfl rfl ⟨rfl, hd_X12_lastOf⟩ ⟨Nat.le_of_ble_eq_true rfl, Nat.le_of_ble_eq_true rfl⟩) hK hPc (va_recv hK.1 hPc (ci := 11) (q0 := 0) rfl rfl) rfl hl.1 rfl (Nat.le_of_ble_eq_true rfl) dX12_headFeed_60 ⟨Nat.le_of_ble_eq_true rfl, Nat.le_of_ble_eq_true rfl⟩ (fun r_8 hw_8 => ?_)
          have hw_8 : True := hw_8
          refine lv_istore_n (lv' := [(3, .int r_8), (2, .int r_1), (0, .ref h), (1, .int d)]) hx hb dX12_headFeed_63 rfl hl (by decide) rfl (fun ls hl => ?_)
          refine lv_iload_n hx hb dX12_headFeed_64 rfl (lv_at hl 0 rfl) ?_
          refine lv_iconst (v := (-1)) hx hb dX12_headFeed_65 (by decide) ?_
          refine lv_icmp_ne (tgt := 73) hx hb dX12_headFeed_66 (by decide) (fun c_9 => ?_) (fun c_9 => ?_)
          · have tc_9 := t_neq c_9
            refine lv_iload_n hx hb dX12_headFeed_73 rfl (lv_at hl 0 rfl) ?_
            exact hret r_8 (g1_5, g2_5) _ _ _ _ (show True from trivial) rfl (hP.sub [5, 6, 7, 8, 9, 0, 1, 2, 3, 4] rfl) (hD.sub [5, 6, 7, 8, 9, 0, 1, 2, 3, 4] (by decide +kernel) rfl) hS dX12_headFeed_74
          · have tc_9 := t_eq c_9
            refine lv_iconst (v := 2) hx hb dX12_headFeed_69 (by decide) ?_
            refine lv_goto (tgt := 74) hx hb dX12_headFeed_70 (by decide) ?_
            exact hret 2 (g1_5, g2_5) _ _ _ _ (show True from trivial) rfl (hP.sub [5, 6, 7, 8, 9, 0, 1, 2, 3, 4] rfl) (hD.sub [5, 6, 7, 8, 9, 0, 1, 2, 3, 4] (by decide +kernel) rfl) hS dX12_headFeed_74
      · have tc_6 := t_nle c_6
        refine lv_aload_n hx hb dX12_headFeed_39 rfl (lv_at hl 2 rfl) ?_
        refine lv_iload_n hx hb dX12_headFeed_40 rfl (lv_at hl 1 rfl) ?_
        refine lv_iconst (v := 3) hx hb dX12_headFeed_41 (by decide) ?_
        refine lv_aload_n hx hb dX12_headFeed_42 rfl (lv_at hl 2 rfl) ?_
        refine lv_iload_n hx hb dX12_headFeed_43 rfl (lv_at hl 3 rfl) ?_
        have hPc := hP.sub (ws' := [(h, .inr (11, [.int v_today, .int v_monks, .int v_aways, .int v_feasts, .int v_gifts, .int v_leaves, .int v_lates, .int v_store, .int v_allCandles, .ref a_isPriest, .ref a_bars, .ref a_joined, .ref a_turns, .ref a_awayMonk, .ref a_awayFrom, .ref a_awayTo, .ref a_feastDay, .ref a_rank, .ref a_isWeekly, .ref a_isDouble, .ref a_giftDay, .ref a_giftFrom, .ref a_owed, .ref a_said, .ref a_spared, .ref a_leaveGift, .ref a_leaveFrom, .ref a_leaveTo, .ref a_lateDay, .ref a_lateOffice, .ref a_lateBy, .ref a_guests, .ref a_who, .ref a_used, .ref a_lacks, .ref a_candles, .ref a_masses, .ref a_owing, .ref a_heldOn, .ref a_waits, .ref a_tape, .ref a_text, .int v_taped, .int v_size, .int v_at, .int v_fault, .int v_rules, .ref a_statements, .ref a_taken, .ref a_sort, .ref a_first, .ref a_second, .int v_wordEnd, .int v_number])), (a_feastDay, .inl (cI, 40, .inl f_feastDay)), (a_rank, .inl (cI, 40, .inl f_rank)), (a_heldOn, .inl (cI, 365, .inl g1_5)), (a_waits, .inl (cZ, 40, .inl g2_5))]) [5, 6, 7, 8, 9] rfl
        refine rwV (As := [.int d]) (rest := [.int 3, .int r_1, .ref h]) (wc := [(h, .inr (11, [.int v_today, .int v_monks, .int v_aways, .int v_feasts, .int v_gifts, .int v_leaves, .int v_lates, .int v_store, .int v_allCandles, .ref a_isPriest, .ref a_bars, .ref a_joined, .ref a_turns, .ref a_awayMonk, .ref a_awayFrom, .ref a_awayTo, .ref a_feastDay, .ref a_rank, .ref a_isWeekly, .ref a_isDouble, .ref a_giftDay, .ref a_giftFrom, .ref a_owed, .ref a_said, .ref a_spared, .ref a_leaveGift, .ref a_leaveFrom, .ref a_leaveTo, .ref a_lateDay, .ref a_lateOffice, .ref a_lateBy, .ref a_guests, .ref a_who, .ref a_used, .ref a_lacks, .ref a_candles, .ref a_masses, .ref a_owing, .ref a_heldOn, .ref a_waits, .ref a_tape, .ref a_text, .int v_taped, .int v_size, .int v_at, .int v_fault, .int v_rules, .ref a_statements, .ref a_taken, .ref a_sort, .ref a_first, .ref a_second, .int v_wordEnd, .int v_number])), (a_feastDay, .inl (cI, 40, .inl f_feastDay)), (a_rank, .inl (cI, 40, .inl f_rank)), (a_heldOn, .inl (cI, 365, .inl g1_5)), (a_waits, .inl (cZ, 40, .inl g2_5))]) (wr := [(a_statements, .inl (cI, 11, .inl f_statements)), (a_taken, .inl (cI, 11, .inl f_taken)), (a_sort, .inl (cI, 176, .inl f_sort)), (a_first, .inl (cI, 176, .inl f_first)), (a_second, .inl (cI, 176, .inl f_second))]) S (n_rankOn  (by omega) (by omega)) (cwV 1 hts gX12_headFeed_X12_rankOn rfl rfl rfl ⟨rfl, hd_X12_rankOn⟩ ⟨Nat.le_of_ble_eq_true rfl, Nat.le_of_ble_eq_true rfl⟩) hK hP hD hS hA [5, 6, 7, 8, 9] [0, 1, 2, 3, 4] rfl rfl (by decide +kernel) (by decide +kernel) (by decide +kernel) (va_recv hK.1 hPc (ci := 11) (q0 := 0) rfl rfl) rfl hl.1 rfl (Nat.le_of_ble_eq_true rfl) dX12_headFeed_44 ⟨Nat.le_of_ble_eq_true rfl, Nat.le_of_ble_eq_true rfl⟩ (fun r_10 u_10 H locs hw_10 hP hD hS => ?_)
        obtain ⟨g1_10, g2_10⟩ := u_10
        have hw_10 : True := hw_10
        have hP : va_P D vwCl [(a_statements, .inl (cI, 11, .inl f_statements)), (a_taken, .inl (cI, 11, .inl f_taken)), (a_sort, .inl (cI, 176, .inl f_sort)), (a_first, .inl (cI, 176, .inl f_first)), (a_second, .inl (cI, 176, .inl f_second)), (h, .inr (11, [.int v_today, .int v_monks, .int v_aways, .int v_feasts, .int v_gifts, .int v_leaves, .int v_lates, .int v_store, .int v_allCandles, .ref a_isPriest, .ref a_bars, .ref a_joined, .ref a_turns, .ref a_awayMonk, .ref a_awayFrom, .ref a_awayTo, .ref a_feastDay, .ref a_rank, .ref a_isWeekly, .ref a_isDouble, .ref a_giftDay, .ref a_giftFrom, .ref a_owed, .ref a_said, .ref a_spared, .ref a_leaveGift, .ref a_leaveFrom, .ref a_leaveTo, .ref a_lateDay, .ref a_lateOffice, .ref a_lateBy, .ref a_guests, .ref a_who, .ref a_used, .ref a_lacks, .ref a_candles, .ref a_masses, .ref a_owing, .ref a_heldOn, .ref a_waits, .ref a_tape, .ref a_text, .int v_taped, .int v_size, .int v_at, .int v_fault, .int v_rules, .ref a_statements, .ref a_taken, .ref a_sort, .ref a_first, .ref a_second, .int v_wordEnd, .int v_number])), (a_feastDay, .inl (cI, 40, .inl f_feastDay)), (a_rank, .inl (cI, 40, .inl f_rank)), (a_heldOn, .inl (cI, 365, .inl g1_10)), (a_waits, .inl (cZ, 40, .inl g2_10))] H := hP
        have hD := asD hP hD
        have hPc := hP.sub (ws' := [(h, .inr (11, [.int v_today, .int v_monks, .int v_aways, .int v_feasts, .int v_gifts, .int v_leaves, .int v_lates, .int v_store, .int v_allCandles, .ref a_isPriest, .ref a_bars, .ref a_joined, .ref a_turns, .ref a_awayMonk, .ref a_awayFrom, .ref a_awayTo, .ref a_feastDay, .ref a_rank, .ref a_isWeekly, .ref a_isDouble, .ref a_giftDay, .ref a_giftFrom, .ref a_owed, .ref a_said, .ref a_spared, .ref a_leaveGift, .ref a_leaveFrom, .ref a_leaveTo, .ref a_lateDay, .ref a_lateOffice, .ref a_lateBy, .ref a_guests, .ref a_who, .ref a_used, .ref a_lacks, .ref a_candles, .ref a_masses, .ref a_owing, .ref a_heldOn, .ref a_waits, .ref a_tape, .ref a_text, .int v_taped, .int v_size, .int v_at, .int v_fault, .int v_rules, .ref a_statements, .ref a_taken, .ref a_sort, .ref a_first, .ref a_second, .int v_wordEnd, .int v_number])), (a_statements, .inl (cI, 11, .inl f_statements)), (a_sort, .inl (cI, 176, .inl f_sort)), (a_first, .inl (cI, 176, .inl f_first)), (a_second, .inl (cI, 176, .inl f_second))]) [5, 0, 2, 3, 4] rfl
        refine roV (As := [.int r_1, .int 3, .int r_10]) (rest := []) S (n_lastOf  (by omega) (by omega) (hs) (by omega)) (cwV 3 hts gX12_headFeed_X12_lastOf rfl rfl rfl ⟨rfl, hd_X12_lastOf⟩ ⟨Nat.le_of_ble_eq_true rfl, Nat.le_of_ble_eq_true rfl⟩) hK hPc (va_recv hK.1 hPc (ci := 11) (q0 := 0) rfl rfl) rfl hl.1 rfl (Nat.le_of_ble_eq_true rfl) dX12_headFeed_47 ⟨Nat.le_of_ble_eq_true rfl, Nat.le_of_ble_eq_true rfl⟩ (fun r_11 hw_11 => ?_)
        have hw_11 : True := hw_11
        refine lv_istore_n (lv' := [(3, .int r_11), (2, .int r_1), (0, .ref h), (1, .int d)]) hx hb dX12_headFeed_50 rfl hl (by decide) rfl (fun ls hl => ?_)
        refine lv_iload_n hx hb dX12_headFeed_51 rfl (lv_at hl 0 rfl) ?_
        refine lv_iconst (v := (-1)) hx hb dX12_headFeed_52 (by decide) ?_
        refine lv_icmp_ne (tgt := 64) hx hb dX12_headFeed_53 (by decide) (fun c_12 => ?_) (fun c_12 => ?_)
        · have tc_12 := t_neq c_12
          refine lv_iload_n hx hb dX12_headFeed_64 rfl (lv_at hl 0 rfl) ?_
          refine lv_iconst (v := (-1)) hx hb dX12_headFeed_65 (by decide) ?_
          refine lv_icmp_ne (tgt := 73) hx hb dX12_headFeed_66 (by decide) (fun c_13 => ?_) (fun c_13 => ?_)
          · have tc_13 := t_neq c_13
            refine lv_iload_n hx hb dX12_headFeed_73 rfl (lv_at hl 0 rfl) ?_
            exact hret r_11 (g1_10, g2_10) _ _ _ _ (show True from trivial) rfl (hP.sub [5, 6, 7, 8, 9, 0, 1, 2, 3, 4] rfl) (hD.sub [5, 6, 7, 8, 9, 0, 1, 2, 3, 4] (by decide +kernel) rfl) hS dX12_headFeed_74
          · have tc_13 := t_eq c_13
            refine lv_iconst (v := 2) hx hb dX12_headFeed_69 (by decide) ?_
            refine lv_goto (tgt := 74) hx hb dX12_headFeed_70 (by decide) ?_
            exact hret 2 (g1_10, g2_10) _ _ _ _ (show True from trivial) rfl (hP.sub [5, 6, 7, 8, 9, 0, 1, 2, 3, 4] rfl) (hD.sub [5, 6, 7, 8, 9, 0, 1, 2, 3, 4] (by decide +kernel) rfl) hS dX12_headFeed_74
        · have tc_12 := t_eq c_12
          refine lv_aload_n hx hb dX12_headFeed_56 rfl (lv_at hl 2 rfl) ?_
          refine lv_iload_n hx hb dX12_headFeed_57 rfl (lv_at hl 1 rfl) ?_
          refine lv_iconst (v := 5) hx hb dX12_headFeed_58 (by decide) ?_
          refine lv_iconst (v := 0) hx hb dX12_headFeed_59 (by decide) ?_
          have hPc := hP.sub (ws' := [(h, .inr (11, [.int v_today, .int v_monks, .int v_aways, .int v_feasts, .int v_gifts, .int v_leaves, .int v_lates, .int v_store, .int v_allCandles, .ref a_isPriest, .ref a_bars, .ref a_joined, .ref a_turns, .ref a_awayMonk, .ref a_awayFrom, .ref a_awayTo, .ref a_feastDay, .ref a_rank, .ref a_isWeekly, .ref a_isDouble, .ref a_giftDay, .ref a_giftFrom, .ref a_owed, .ref a_said, .ref a_spared, .ref a_leaveGift, .ref a_leaveFrom, .ref a_leaveTo, .ref a_lateDay, .ref a_lateOffice, .ref a_lateBy, .ref a_guests, .ref a_who, .ref a_used, .ref a_lacks, .ref a_candles, .ref a_masses, .ref a_owing, .ref a_heldOn, .ref a_waits, .ref a_tape, .ref a_text, .int v_taped, .int v_size, .int v_at, .int v_fault, .int v_rules, .ref a_statements, .ref a_taken, .ref a_sort, .ref a_first, .ref a_second, .int v_wordEnd, .int v_number])), (a_statements, .inl (cI, 11, .inl f_statements)), (a_sort, .inl (cI, 176, .inl f_sort)), (a_first, .inl (cI, 176, .inl f_first)), (a_second, .inl (cI, 176, .inl f_second))]) [5, 0, 2, 3, 4] rfl
          refine roV (As := [.int r_1, .int 5, .int 0]) (rest := []) S (n_lastOf  (by omega) (by omega) (hs) (by omega)) (cwV 3 hts gX12_headFeed_X12_lastOf rfl rfl rfl ⟨rfl, hd_X12_lastOf⟩ ⟨Nat.le_of_ble_eq_true rfl, Nat.le_of_ble_eq_true rfl⟩) hK hPc (va_recv hK.1 hPc (ci := 11) (q0 := 0) rfl rfl) rfl hl.1 rfl (Nat.le_of_ble_eq_true rfl) dX12_headFeed_60 ⟨Nat.le_of_ble_eq_true rfl, Nat.le_of_ble_eq_true rfl⟩ (fun r_14 hw_14 => ?_)
          have hw_14 : True := hw_14
          refine lv_istore_n (lv' := [(3, .int r_14), (2, .int r_1), (0, .ref h), (1, .int d)]) hx hb dX12_headFeed_63 rfl hl (by decide) rfl (fun ls hl => ?_)
          refine lv_iload_n hx hb dX12_headFeed_64 rfl (lv_at hl 0 rfl) ?_
          refine lv_iconst (v := (-1)) hx hb dX12_headFeed_65 (by decide) ?_
          refine lv_icmp_ne (tgt := 73) hx hb dX12_headFeed_66 (by decide) (fun c_15 => ?_) (fun c_15 => ?_)
          · have tc_15 := t_neq c_15
            refine lv_iload_n hx hb dX12_headFeed_73 rfl (lv_at hl 0 rfl) ?_
            exact hret r_14 (g1_10, g2_10) _ _ _ _ (show True from trivial) rfl (hP.sub [5, 6, 7, 8, 9, 0, 1, 2, 3, 4] rfl) (hD.sub [5, 6, 7, 8, 9, 0, 1, 2, 3, 4] (by decide +kernel) rfl) hS dX12_headFeed_74
          · have tc_15 := t_eq c_15
            refine lv_iconst (v := 2) hx hb dX12_headFeed_69 (by decide) ?_
            refine lv_goto (tgt := 74) hx hb dX12_headFeed_70 (by decide) ?_
            exact hret 2 (g1_10, g2_10) _ _ _ _ (show True from trivial) rfl (hP.sub [5, 6, 7, 8, 9, 0, 1, 2, 3, 4] rfl) (hD.sub [5, 6, 7, 8, 9, 0, 1, 2, 3, 4] (by decide +kernel) rfl) hS dX12_headFeed_74
  · have tc_3 := t_neq c_3
    refine lv_aload_n hx hb dX12_headFeed_14 rfl (lv_at hl 1 rfl) ?_
    refine lv_iload_n hx hb dX12_headFeed_15 rfl (lv_at hl 0 rfl) ?_
    refine lv_iconst (v := 2) hx hb dX12_headFeed_16 (by decide) ?_
    refine lv_iconst (v := 0) hx hb dX12_headFeed_17 (by decide) ?_
    have hPc := hP.sub (ws' := [(h, .inr (11, [.int v_today, .int v_monks, .int v_aways, .int v_feasts, .int v_gifts, .int v_leaves, .int v_lates, .int v_store, .int v_allCandles, .ref a_isPriest, .ref a_bars, .ref a_joined, .ref a_turns, .ref a_awayMonk, .ref a_awayFrom, .ref a_awayTo, .ref a_feastDay, .ref a_rank, .ref a_isWeekly, .ref a_isDouble, .ref a_giftDay, .ref a_giftFrom, .ref a_owed, .ref a_said, .ref a_spared, .ref a_leaveGift, .ref a_leaveFrom, .ref a_leaveTo, .ref a_lateDay, .ref a_lateOffice, .ref a_lateBy, .ref a_guests, .ref a_who, .ref a_used, .ref a_lacks, .ref a_candles, .ref a_masses, .ref a_owing, .ref a_heldOn, .ref a_waits, .ref a_tape, .ref a_text, .int v_taped, .int v_size, .int v_at, .int v_fault, .int v_rules, .ref a_statements, .ref a_taken, .ref a_sort, .ref a_first, .ref a_second, .int v_wordEnd, .int v_number])), (a_statements, .inl (cI, 11, .inl f_statements)), (a_sort, .inl (cI, 176, .inl f_sort)), (a_first, .inl (cI, 176, .inl f_first)), (a_second, .inl (cI, 176, .inl f_second))]) [0, 5, 7, 8, 9] rfl
    refine roV (As := [.int r_1, .int 2, .int 0]) (rest := []) S (n_lastOf  (by omega) (by omega) (hs) (by omega)) (cwV 3 hts gX12_headFeed_X12_lastOf rfl rfl rfl ⟨rfl, hd_X12_lastOf⟩ ⟨Nat.le_of_ble_eq_true rfl, Nat.le_of_ble_eq_true rfl⟩) hK hPc (va_recv hK.1 hPc (ci := 11) (q0 := 0) rfl rfl) rfl hl.1 rfl (Nat.le_of_ble_eq_true rfl) dX12_headFeed_18 ⟨Nat.le_of_ble_eq_true rfl, Nat.le_of_ble_eq_true rfl⟩ (fun r_16 hw_16 => ?_)
    have hw_16 : True := hw_16
    refine lv_goto (tgt := 25) hx hb dX12_headFeed_21 (by decide) ?_
    refine lv_istore_n (lv' := [(3, .int r_16), (2, .int r_1), (0, .ref h), (1, .int d)]) hx hb dX12_headFeed_25 rfl hl (by decide) rfl (fun ls hl => ?_)
    refine lv_iload_n hx hb dX12_headFeed_26 rfl (lv_at hl 0 rfl) ?_
    refine lv_iconst (v := (-1)) hx hb dX12_headFeed_27 (by decide) ?_
    refine lv_icmp_ne (tgt := 51) hx hb dX12_headFeed_28 (by decide) (fun c_17 => ?_) (fun c_17 => ?_)
    · have tc_17 := t_neq c_17
      refine lv_iload_n hx hb dX12_headFeed_51 rfl (lv_at hl 0 rfl) ?_
      refine lv_iconst (v := (-1)) hx hb dX12_headFeed_52 (by decide) ?_
      refine lv_icmp_ne (tgt := 64) hx hb dX12_headFeed_53 (by decide) (fun c_18 => ?_) (fun c_18 => ?_)
      · have tc_18 := t_neq c_18
        refine lv_iload_n hx hb dX12_headFeed_64 rfl (lv_at hl 0 rfl) ?_
        refine lv_iconst (v := (-1)) hx hb dX12_headFeed_65 (by decide) ?_
        refine lv_icmp_ne (tgt := 73) hx hb dX12_headFeed_66 (by decide) (fun c_19 => ?_) (fun c_19 => ?_)
        · have tc_19 := t_neq c_19
          refine lv_iload_n hx hb dX12_headFeed_73 rfl (lv_at hl 0 rfl) ?_
          exact hret r_16 (g1_2, g2_2) _ _ _ _ (show True from trivial) rfl (hP.sub [0, 1, 2, 3, 4, 5, 6, 7, 8, 9] rfl) (hD.sub [0, 1, 2, 3, 4, 5, 6, 7, 8, 9] (by decide +kernel) rfl) hS dX12_headFeed_74
        · have tc_19 := t_eq c_19
          refine lv_iconst (v := 2) hx hb dX12_headFeed_69 (by decide) ?_
          refine lv_goto (tgt := 74) hx hb dX12_headFeed_70 (by decide) ?_
          exact hret 2 (g1_2, g2_2) _ _ _ _ (show True from trivial) rfl (hP.sub [0, 1, 2, 3, 4, 5, 6, 7, 8, 9] rfl) (hD.sub [0, 1, 2, 3, 4, 5, 6, 7, 8, 9] (by decide +kernel) rfl) hS dX12_headFeed_74
      · have tc_18 := t_eq c_18
        refine lv_aload_n hx hb dX12_headFeed_56 rfl (lv_at hl 2 rfl) ?_
        refine lv_iload_n hx hb dX12_headFeed_57 rfl (lv_at hl 1 rfl) ?_
        refine lv_iconst (v := 5) hx hb dX12_headFeed_58 (by decide) ?_
        refine lv_iconst (v := 0) hx hb dX12_headFeed_59 (by decide) ?_
        have hPc := hP.sub (ws' := [(h, .inr (11, [.int v_today, .int v_monks, .int v_aways, .int v_feasts, .int v_gifts, .int v_leaves, .int v_lates, .int v_store, .int v_allCandles, .ref a_isPriest, .ref a_bars, .ref a_joined, .ref a_turns, .ref a_awayMonk, .ref a_awayFrom, .ref a_awayTo, .ref a_feastDay, .ref a_rank, .ref a_isWeekly, .ref a_isDouble, .ref a_giftDay, .ref a_giftFrom, .ref a_owed, .ref a_said, .ref a_spared, .ref a_leaveGift, .ref a_leaveFrom, .ref a_leaveTo, .ref a_lateDay, .ref a_lateOffice, .ref a_lateBy, .ref a_guests, .ref a_who, .ref a_used, .ref a_lacks, .ref a_candles, .ref a_masses, .ref a_owing, .ref a_heldOn, .ref a_waits, .ref a_tape, .ref a_text, .int v_taped, .int v_size, .int v_at, .int v_fault, .int v_rules, .ref a_statements, .ref a_taken, .ref a_sort, .ref a_first, .ref a_second, .int v_wordEnd, .int v_number])), (a_statements, .inl (cI, 11, .inl f_statements)), (a_sort, .inl (cI, 176, .inl f_sort)), (a_first, .inl (cI, 176, .inl f_first)), (a_second, .inl (cI, 176, .inl f_second))]) [0, 5, 7, 8, 9] rfl
        refine roV (As := [.int r_1, .int 5, .int 0]) (rest := []) S (n_lastOf  (by omega) (by omega) (hs) (by omega)) (cwV 3 hts gX12_headFeed_X12_lastOf rfl rfl rfl ⟨rfl, hd_X12_lastOf⟩ ⟨Nat.le_of_ble_eq_true rfl, Nat.le_of_ble_eq_true rfl⟩) hK hPc (va_recv hK.1 hPc (ci := 11) (q0 := 0) rfl rfl) rfl hl.1 rfl (Nat.le_of_ble_eq_true rfl) dX12_headFeed_60 ⟨Nat.le_of_ble_eq_true rfl, Nat.le_of_ble_eq_true rfl⟩ (fun r_20 hw_20 => ?_)
        have hw_20 : True := hw_20
        refine lv_istore_n (lv' := [(3, .int r_20), (2, .int r_1), (0, .ref h), (1, .int d)]) hx hb dX12_headFeed_63 rfl hl (by decide) rfl (fun ls hl => ?_)
        refine lv_iload_n hx hb dX12_headFeed_64 rfl (lv_at hl 0 rfl) ?_
        refine lv_iconst (v := (-1)) hx hb dX12_headFeed_65 (by decide) ?_
        refine lv_icmp_ne (tgt := 73) hx hb dX12_headFeed_66 (by decide) (fun c_21 => ?_) (fun c_21 => ?_)
        · have tc_21 := t_neq c_21
          refine lv_iload_n hx hb dX12_headFeed_73 rfl (lv_at hl 0 rfl) ?_
          exact hret r_20 (g1_2, g2_2) _ _ _ _ (show True from trivial) rfl (hP.sub [0, 1, 2, 3, 4, 5, 6, 7, 8, 9] rfl) (hD.sub [0, 1, 2, 3, 4, 5, 6, 7, 8, 9] (by decide +kernel) rfl) hS dX12_headFeed_74
        · have tc_21 := t_eq c_21
          refine lv_iconst (v := 2) hx hb dX12_headFeed_69 (by decide) ?_
          refine lv_goto (tgt := 74) hx hb dX12_headFeed_70 (by decide) ?_
          exact hret 2 (g1_2, g2_2) _ _ _ _ (show True from trivial) rfl (hP.sub [0, 1, 2, 3, 4, 5, 6, 7, 8, 9] rfl) (hD.sub [0, 1, 2, 3, 4, 5, 6, 7, 8, 9] (by decide +kernel) rfl) hS dX12_headFeed_74
    · have tc_17 := t_eq c_17
      refine lv_aload_n hx hb dX12_headFeed_31 rfl (lv_at hl 2 rfl) ?_
      refine lv_iload_n hx hb dX12_headFeed_32 rfl (lv_at hl 3 rfl) ?_
      have hPc := hP.sub (ws' := [(h, .inr (11, [.int v_today, .int v_monks, .int v_aways, .int v_feasts, .int v_gifts, .int v_leaves, .int v_lates, .int v_store, .int v_allCandles, .ref a_isPriest, .ref a_bars, .ref a_joined, .ref a_turns, .ref a_awayMonk, .ref a_awayFrom, .ref a_awayTo, .ref a_feastDay, .ref a_rank, .ref a_isWeekly, .ref a_isDouble, .ref a_giftDay, .ref a_giftFrom, .ref a_owed, .ref a_said, .ref a_spared, .ref a_leaveGift, .ref a_leaveFrom, .ref a_leaveTo, .ref a_lateDay, .ref a_lateOffice, .ref a_lateBy, .ref a_guests, .ref a_who, .ref a_used, .ref a_lacks, .ref a_candles, .ref a_masses, .ref a_owing, .ref a_heldOn, .ref a_waits, .ref a_tape, .ref a_text, .int v_taped, .int v_size, .int v_at, .int v_fault, .int v_rules, .ref a_statements, .ref a_taken, .ref a_sort, .ref a_first, .ref a_second, .int v_wordEnd, .int v_number])), (a_feastDay, .inl (cI, 40, .inl f_feastDay)), (a_rank, .inl (cI, 40, .inl f_rank)), (a_heldOn, .inl (cI, 365, .inl g1_2)), (a_waits, .inl (cZ, 40, .inl g2_2))]) [0, 1, 2, 3, 4] rfl
      refine rwV (As := [.int d]) (rest := []) (wc := [(h, .inr (11, [.int v_today, .int v_monks, .int v_aways, .int v_feasts, .int v_gifts, .int v_leaves, .int v_lates, .int v_store, .int v_allCandles, .ref a_isPriest, .ref a_bars, .ref a_joined, .ref a_turns, .ref a_awayMonk, .ref a_awayFrom, .ref a_awayTo, .ref a_feastDay, .ref a_rank, .ref a_isWeekly, .ref a_isDouble, .ref a_giftDay, .ref a_giftFrom, .ref a_owed, .ref a_said, .ref a_spared, .ref a_leaveGift, .ref a_leaveFrom, .ref a_leaveTo, .ref a_lateDay, .ref a_lateOffice, .ref a_lateBy, .ref a_guests, .ref a_who, .ref a_used, .ref a_lacks, .ref a_candles, .ref a_masses, .ref a_owing, .ref a_heldOn, .ref a_waits, .ref a_tape, .ref a_text, .int v_taped, .int v_size, .int v_at, .int v_fault, .int v_rules, .ref a_statements, .ref a_taken, .ref a_sort, .ref a_first, .ref a_second, .int v_wordEnd, .int v_number])), (a_feastDay, .inl (cI, 40, .inl f_feastDay)), (a_rank, .inl (cI, 40, .inl f_rank)), (a_heldOn, .inl (cI, 365, .inl g1_2)), (a_waits, .inl (cZ, 40, .inl g2_2))]) (wr := [(a_statements, .inl (cI, 11, .inl f_statements)), (a_taken, .inl (cI, 11, .inl f_taken)), (a_sort, .inl (cI, 176, .inl f_sort)), (a_first, .inl (cI, 176, .inl f_first)), (a_second, .inl (cI, 176, .inl f_second))]) S (n_rankOn  (by omega) (by omega)) (cwV 1 hts gX12_headFeed_X12_rankOn rfl rfl rfl ⟨rfl, hd_X12_rankOn⟩ ⟨Nat.le_of_ble_eq_true rfl, Nat.le_of_ble_eq_true rfl⟩) hK hP hD hS hA [0, 1, 2, 3, 4] [5, 6, 7, 8, 9] rfl rfl (by decide +kernel) (by decide +kernel) (by decide +kernel) (va_recv hK.1 hPc (ci := 11) (q0 := 0) rfl rfl) rfl hl.1 rfl (Nat.le_of_ble_eq_true rfl) dX12_headFeed_33 ⟨Nat.le_of_ble_eq_true rfl, Nat.le_of_ble_eq_true rfl⟩ (fun r_22 u_22 H locs hw_22 hP hD hS => ?_)
      obtain ⟨g1_22, g2_22⟩ := u_22
      have hw_22 : True := hw_22
      have hP : va_P D vwCl [(a_statements, .inl (cI, 11, .inl f_statements)), (a_taken, .inl (cI, 11, .inl f_taken)), (a_sort, .inl (cI, 176, .inl f_sort)), (a_first, .inl (cI, 176, .inl f_first)), (a_second, .inl (cI, 176, .inl f_second)), (h, .inr (11, [.int v_today, .int v_monks, .int v_aways, .int v_feasts, .int v_gifts, .int v_leaves, .int v_lates, .int v_store, .int v_allCandles, .ref a_isPriest, .ref a_bars, .ref a_joined, .ref a_turns, .ref a_awayMonk, .ref a_awayFrom, .ref a_awayTo, .ref a_feastDay, .ref a_rank, .ref a_isWeekly, .ref a_isDouble, .ref a_giftDay, .ref a_giftFrom, .ref a_owed, .ref a_said, .ref a_spared, .ref a_leaveGift, .ref a_leaveFrom, .ref a_leaveTo, .ref a_lateDay, .ref a_lateOffice, .ref a_lateBy, .ref a_guests, .ref a_who, .ref a_used, .ref a_lacks, .ref a_candles, .ref a_masses, .ref a_owing, .ref a_heldOn, .ref a_waits, .ref a_tape, .ref a_text, .int v_taped, .int v_size, .int v_at, .int v_fault, .int v_rules, .ref a_statements, .ref a_taken, .ref a_sort, .ref a_first, .ref a_second, .int v_wordEnd, .int v_number])), (a_feastDay, .inl (cI, 40, .inl f_feastDay)), (a_rank, .inl (cI, 40, .inl f_rank)), (a_heldOn, .inl (cI, 365, .inl g1_22)), (a_waits, .inl (cZ, 40, .inl g2_22))] H := hP
      have hD := asD hP hD
      refine lv_if_le (tgt := 51) hx hb dX12_headFeed_36 (by decide) (fun c_23 => ?_) (fun c_23 => ?_)
      · have tc_23 := t_le c_23
        refine lv_iload_n hx hb dX12_headFeed_51 rfl (lv_at hl 0 rfl) ?_
        refine lv_iconst (v := (-1)) hx hb dX12_headFeed_52 (by decide) ?_
        refine lv_icmp_ne (tgt := 64) hx hb dX12_headFeed_53 (by decide) (fun c_24 => ?_) (fun c_24 => ?_)
        · have tc_24 := t_neq c_24
          refine lv_iload_n hx hb dX12_headFeed_64 rfl (lv_at hl 0 rfl) ?_
          refine lv_iconst (v := (-1)) hx hb dX12_headFeed_65 (by decide) ?_
          refine lv_icmp_ne (tgt := 73) hx hb dX12_headFeed_66 (by decide) (fun c_25 => ?_) (fun c_25 => ?_)
          · have tc_25 := t_neq c_25
            refine lv_iload_n hx hb dX12_headFeed_73 rfl (lv_at hl 0 rfl) ?_
            exact hret r_16 (g1_22, g2_22) _ _ _ _ (show True from trivial) rfl (hP.sub [5, 6, 7, 8, 9, 0, 1, 2, 3, 4] rfl) (hD.sub [5, 6, 7, 8, 9, 0, 1, 2, 3, 4] (by decide +kernel) rfl) hS dX12_headFeed_74
          · have tc_25 := t_eq c_25
            refine lv_iconst (v := 2) hx hb dX12_headFeed_69 (by decide) ?_
            refine lv_goto (tgt := 74) hx hb dX12_headFeed_70 (by decide) ?_
            exact hret 2 (g1_22, g2_22) _ _ _ _ (show True from trivial) rfl (hP.sub [5, 6, 7, 8, 9, 0, 1, 2, 3, 4] rfl) (hD.sub [5, 6, 7, 8, 9, 0, 1, 2, 3, 4] (by decide +kernel) rfl) hS dX12_headFeed_74
        · have tc_24 := t_eq c_24
          refine lv_aload_n hx hb dX12_headFeed_56 rfl (lv_at hl 2 rfl) ?_
          refine lv_iload_n hx hb dX12_headFeed_57 rfl (lv_at hl 1 rfl) ?_
          refine lv_iconst (v := 5) hx hb dX12_headFeed_58 (by decide) ?_
          refine lv_iconst (v := 0) hx hb dX12_headFeed_59 (by decide) ?_
          have hPc := hP.sub (ws' := [(h, .inr (11, [.int v_today, .int v_monks, .int v_aways, .int v_feasts, .int v_gifts, .int v_leaves, .int v_lates, .int v_store, .int v_allCandles, .ref a_isPriest, .ref a_bars, .ref a_joined, .ref a_turns, .ref a_awayMonk, .ref a_awayFrom, .ref a_awayTo, .ref a_feastDay, .ref a_rank, .ref a_isWeekly, .ref a_isDouble, .ref a_giftDay, .ref a_giftFrom, .ref a_owed, .ref a_said, .ref a_spared, .ref a_leaveGift, .ref a_leaveFrom, .ref a_leaveTo, .ref a_lateDay, .ref a_lateOffice, .ref a_lateBy, .ref a_guests, .ref a_who, .ref a_used, .ref a_lacks, .ref a_candles, .ref a_masses, .ref a_owing, .ref a_heldOn, .ref a_waits, .ref a_tape, .ref a_text, .int v_taped, .int v_size, .int v_at, .int v_fault, .int v_rules, .ref a_statements, .ref a_taken, .ref a_sort, .ref a_first, .ref a_second, .int v_wordEnd, .int v_number])), (a_statements, .inl (cI, 11, .inl f_statements)), (a_sort, .inl (cI, 176, .inl f_sort)), (a_first, .inl (cI, 176, .inl f_first)), (a_second, .inl (cI, 176, .inl f_second))]) [5, 0, 2, 3, 4] rfl
          refine roV (As := [.int r_1, .int 5, .int 0]) (rest := []) S (n_lastOf  (by omega) (by omega) (hs) (by omega)) (cwV 3 hts gX12_headFeed_X12_lastOf rfl rfl rfl ⟨rfl, hd_X12_lastOf⟩ ⟨Nat.le_of_ble_eq_true rfl, Nat.le_of_ble_eq_true rfl⟩) hK hPc (va_recv hK.1 hPc (ci := 11) (q0 := 0) rfl rfl) rfl hl.1 rfl (Nat.le_of_ble_eq_true rfl) dX12_headFeed_60 ⟨Nat.le_of_ble_eq_true rfl, Nat.le_of_ble_eq_true rfl⟩ (fun r_26 hw_26 => ?_)
          have hw_26 : True := hw_26
          refine lv_istore_n (lv' := [(3, .int r_26), (2, .int r_1), (0, .ref h), (1, .int d)]) hx hb dX12_headFeed_63 rfl hl (by decide) rfl (fun ls hl => ?_)
          refine lv_iload_n hx hb dX12_headFeed_64 rfl (lv_at hl 0 rfl) ?_
          refine lv_iconst (v := (-1)) hx hb dX12_headFeed_65 (by decide) ?_
          refine lv_icmp_ne (tgt := 73) hx hb dX12_headFeed_66 (by decide) (fun c_27 => ?_) (fun c_27 => ?_)
          · have tc_27 := t_neq c_27
            refine lv_iload_n hx hb dX12_headFeed_73 rfl (lv_at hl 0 rfl) ?_
            exact hret r_26 (g1_22, g2_22) _ _ _ _ (show True from trivial) rfl (hP.sub [5, 6, 7, 8, 9, 0, 1, 2, 3, 4] rfl) (hD.sub [5, 6, 7, 8, 9, 0, 1, 2, 3, 4] (by decide +kernel) rfl) hS dX12_headFeed_74
          · have tc_27 := t_eq c_27
            refine lv_iconst (v := 2) hx hb dX12_headFeed_69 (by decide) ?_
            refine lv_goto (tgt := 74) hx hb dX12_headFeed_70 (by decide) ?_
            exact hret 2 (g1_22, g2_22) _ _ _ _ (show True from trivial) rfl (hP.sub [5, 6, 7, 8, 9, 0, 1, 2, 3, 4] rfl) (hD.sub [5, 6, 7, 8, 9, 0, 1, 2, 3, 4] (by decide +kernel) rfl) hS dX12_headFeed_74
      · have tc_23 := t_nle c_23
        refine lv_aload_n hx hb dX12_headFeed_39 rfl (lv_at hl 2 rfl) ?_
        refine lv_iload_n hx hb dX12_headFeed_40 rfl (lv_at hl 1 rfl) ?_
        refine lv_iconst (v := 3) hx hb dX12_headFeed_41 (by decide) ?_
        refine lv_aload_n hx hb dX12_headFeed_42 rfl (lv_at hl 2 rfl) ?_
        refine lv_iload_n hx hb dX12_headFeed_43 rfl (lv_at hl 3 rfl) ?_
        have hPc := hP.sub (ws' := [(h, .inr (11, [.int v_today, .int v_monks, .int v_aways, .int v_feasts, .int v_gifts, .int v_leaves, .int v_lates, .int v_store, .int v_allCandles, .ref a_isPriest, .ref a_bars, .ref a_joined, .ref a_turns, .ref a_awayMonk, .ref a_awayFrom, .ref a_awayTo, .ref a_feastDay, .ref a_rank, .ref a_isWeekly, .ref a_isDouble, .ref a_giftDay, .ref a_giftFrom, .ref a_owed, .ref a_said, .ref a_spared, .ref a_leaveGift, .ref a_leaveFrom, .ref a_leaveTo, .ref a_lateDay, .ref a_lateOffice, .ref a_lateBy, .ref a_guests, .ref a_who, .ref a_used, .ref a_lacks, .ref a_candles, .ref a_masses, .ref a_owing, .ref a_heldOn, .ref a_waits, .ref a_tape, .ref a_text, .int v_taped, .int v_size, .int v_at, .int v_fault, .int v_rules, .ref a_statements, .ref a_taken, .ref a_sort, .ref a_first, .ref a_second, .int v_wordEnd, .int v_number])), (a_feastDay, .inl (cI, 40, .inl f_feastDay)), (a_rank, .inl (cI, 40, .inl f_rank)), (a_heldOn, .inl (cI, 365, .inl g1_22)), (a_waits, .inl (cZ, 40, .inl g2_22))]) [5, 6, 7, 8, 9] rfl
        refine rwV (As := [.int d]) (rest := [.int 3, .int r_1, .ref h]) (wc := [(h, .inr (11, [.int v_today, .int v_monks, .int v_aways, .int v_feasts, .int v_gifts, .int v_leaves, .int v_lates, .int v_store, .int v_allCandles, .ref a_isPriest, .ref a_bars, .ref a_joined, .ref a_turns, .ref a_awayMonk, .ref a_awayFrom, .ref a_awayTo, .ref a_feastDay, .ref a_rank, .ref a_isWeekly, .ref a_isDouble, .ref a_giftDay, .ref a_giftFrom, .ref a_owed, .ref a_said, .ref a_spared, .ref a_leaveGift, .ref a_leaveFrom, .ref a_leaveTo, .ref a_lateDay, .ref a_lateOffice, .ref a_lateBy, .ref a_guests, .ref a_who, .ref a_used, .ref a_lacks, .ref a_candles, .ref a_masses, .ref a_owing, .ref a_heldOn, .ref a_waits, .ref a_tape, .ref a_text, .int v_taped, .int v_size, .int v_at, .int v_fault, .int v_rules, .ref a_statements, .ref a_taken, .ref a_sort, .ref a_first, .ref a_second, .int v_wordEnd, .int v_number])), (a_feastDay, .inl (cI, 40, .inl f_feastDay)), (a_rank, .inl (cI, 40, .inl f_rank)), (a_heldOn, .inl (cI, 365, .inl g1_22)), (a_waits, .inl (cZ, 40, .inl g2_22))]) (wr := [(a_statements, .inl (cI, 11, .inl f_statements)), (a_taken, .inl (cI, 11, .inl f_taken)), (a_sort, .inl (cI, 176, .inl f_sort)), (a_first, .inl (cI, 176, .inl f_first)), (a_second, .inl (cI, 176, .inl f_second))]) S (n_rankOn  (by omega) (by omega)) (cwV 1 hts gX12_headFeed_X12_rankOn rfl rfl rfl ⟨rfl, hd_X12_rankOn⟩ ⟨Nat.le_of_ble_eq_true rfl, Nat.le_of_ble_eq_true rfl⟩) hK hP hD hS hA [5, 6, 7, 8, 9] [0, 1, 2, 3, 4] rfl rfl (by decide +kernel) (by decide +kernel) (by decide +kernel) (va_recv hK.1 hPc (ci := 11) (q0 := 0) rfl rfl) rfl hl.1 rfl (Nat.le_of_ble_eq_true rfl) dX12_headFeed_44 ⟨Nat.le_of_ble_eq_true rfl, Nat.le_of_ble_eq_true rfl⟩ (fun r_28 u_28 H locs hw_28 hP hD hS => ?_)
        obtain ⟨g1_28, g2_28⟩ := u_28
        have hw_28 : True := hw_28
        have hP : va_P D vwCl [(a_statements, .inl (cI, 11, .inl f_statements)), (a_taken, .inl (cI, 11, .inl f_taken)), (a_sort, .inl (cI, 176, .inl f_sort)), (a_first, .inl (cI, 176, .inl f_first)), (a_second, .inl (cI, 176, .inl f_second)), (h, .inr (11, [.int v_today, .int v_monks, .int v_aways, .int v_feasts, .int v_gifts, .int v_leaves, .int v_lates, .int v_store, .int v_allCandles, .ref a_isPriest, .ref a_bars, .ref a_joined, .ref a_turns, .ref a_awayMonk, .ref a_awayFrom, .ref a_awayTo, .ref a_feastDay, .ref a_rank, .ref a_isWeekly, .ref a_isDouble, .ref a_giftDay, .ref a_giftFrom, .ref a_owed, .ref a_said, .ref a_spared, .ref a_leaveGift, .ref a_leaveFrom, .ref a_leaveTo, .ref a_lateDay, .ref a_lateOffice, .ref a_lateBy, .ref a_guests, .ref a_who, .ref a_used, .ref a_lacks, .ref a_candles, .ref a_masses, .ref a_owing, .ref a_heldOn, .ref a_waits, .ref a_tape, .ref a_text, .int v_taped, .int v_size, .int v_at, .int v_fault, .int v_rules, .ref a_statements, .ref a_taken, .ref a_sort, .ref a_first, .ref a_second, .int v_wordEnd, .int v_number])), (a_feastDay, .inl (cI, 40, .inl f_feastDay)), (a_rank, .inl (cI, 40, .inl f_rank)), (a_heldOn, .inl (cI, 365, .inl g1_28)), (a_waits, .inl (cZ, 40, .inl g2_28))] H := hP
        have hD := asD hP hD
        have hPc := hP.sub (ws' := [(h, .inr (11, [.int v_today, .int v_monks, .int v_aways, .int v_feasts, .int v_gifts, .int v_leaves, .int v_lates, .int v_store, .int v_allCandles, .ref a_isPriest, .ref a_bars, .ref a_joined, .ref a_turns, .ref a_awayMonk, .ref a_awayFrom, .ref a_awayTo, .ref a_feastDay, .ref a_rank, .ref a_isWeekly, .ref a_isDouble, .ref a_giftDay, .ref a_giftFrom, .ref a_owed, .ref a_said, .ref a_spared, .ref a_leaveGift, .ref a_leaveFrom, .ref a_leaveTo, .ref a_lateDay, .ref a_lateOffice, .ref a_lateBy, .ref a_guests, .ref a_who, .ref a_used, .ref a_lacks, .ref a_candles, .ref a_masses, .ref a_owing, .ref a_heldOn, .ref a_waits, .ref a_tape, .ref a_text, .int v_taped, .int v_size, .int v_at, .int v_fault, .int v_rules, .ref a_statements, .ref a_taken, .ref a_sort, .ref a_first, .ref a_second, .int v_wordEnd, .int v_number])), (a_statements, .inl (cI, 11, .inl f_statements)), (a_sort, .inl (cI, 176, .inl f_sort)), (a_first, .inl (cI, 176, .inl f_first)), (a_second, .inl (cI, 176, .inl f_second))]) [5, 0, 2, 3, 4] rfl
        refine roV (As := [.int r_1, .int 3, .int r_28]) (rest := []) S (n_lastOf  (by omega) (by omega) (hs) (by omega)) (cwV 3 hts gX12_headFeed_X12_lastOf rfl rfl rfl ⟨rfl, hd_X12_lastOf⟩ ⟨Nat.le_of_ble_eq_true rfl, Nat.le_of_ble_eq_true rfl⟩) hK hPc (va_recv hK.1 hPc (ci := 11) (q0 := 0) rfl rfl) rfl hl.1 rfl (Nat.le_of_ble_eq_true rfl) dX12_headFeed_47 ⟨Nat.le_of_ble_eq_true rfl, Nat.le_of_ble_eq_true rfl⟩ (fun r_29 hw_29 => ?_)
        have hw_29 : True := hw_29
        refine lv_istore_n (lv' := [(3, .int r_29), (2, .int r_1), (0, .ref h), (1, .int d)]) hx hb dX12_headFeed_50 rfl hl (by decide) rfl (fun ls hl => ?_)
        refine lv_iload_n hx hb dX12_headFeed_51 rfl (lv_at hl 0 rfl) ?_
        refine lv_iconst (v := (-1)) hx hb dX12_headFeed_52 (by decide) ?_
        refine lv_icmp_ne (tgt := 64) hx hb dX12_headFeed_53 (by decide) (fun c_30 => ?_) (fun c_30 => ?_)
        · have tc_30 := t_neq c_30
          refine lv_iload_n hx hb dX12_headFeed_64 rfl (lv_at hl 0 rfl) ?_
          refine lv_iconst (v := (-1)) hx hb dX12_headFeed_65 (by decide) ?_
          refine lv_icmp_ne (tgt := 73) hx hb dX12_headFeed_66 (by decide) (fun c_31 => ?_) (fun c_31 => ?_)
          · have tc_31 := t_neq c_31
            refine lv_iload_n hx hb dX12_headFeed_73 rfl (lv_at hl 0 rfl) ?_
            exact hret r_29 (g1_28, g2_28) _ _ _ _ (show True from trivial) rfl (hP.sub [5, 6, 7, 8, 9, 0, 1, 2, 3, 4] rfl) (hD.sub [5, 6, 7, 8, 9, 0, 1, 2, 3, 4] (by decide +kernel) rfl) hS dX12_headFeed_74
          · have tc_31 := t_eq c_31
            refine lv_iconst (v := 2) hx hb dX12_headFeed_69 (by decide) ?_
            refine lv_goto (tgt := 74) hx hb dX12_headFeed_70 (by decide) ?_
            exact hret 2 (g1_28, g2_28) _ _ _ _ (show True from trivial) rfl (hP.sub [5, 6, 7, 8, 9, 0, 1, 2, 3, 4] rfl) (hD.sub [5, 6, 7, 8, 9, 0, 1, 2, 3, 4] (by decide +kernel) rfl) hS dX12_headFeed_74
        · have tc_30 := t_eq c_30
          refine lv_aload_n hx hb dX12_headFeed_56 rfl (lv_at hl 2 rfl) ?_
          refine lv_iload_n hx hb dX12_headFeed_57 rfl (lv_at hl 1 rfl) ?_
          refine lv_iconst (v := 5) hx hb dX12_headFeed_58 (by decide) ?_
          refine lv_iconst (v := 0) hx hb dX12_headFeed_59 (by decide) ?_
          have hPc := hP.sub (ws' := [(h, .inr (11, [.int v_today, .int v_monks, .int v_aways, .int v_feasts, .int v_gifts, .int v_leaves, .int v_lates, .int v_store, .int v_allCandles, .ref a_isPriest, .ref a_bars, .ref a_joined, .ref a_turns, .ref a_awayMonk, .ref a_awayFrom, .ref a_awayTo, .ref a_feastDay, .ref a_rank, .ref a_isWeekly, .ref a_isDouble, .ref a_giftDay, .ref a_giftFrom, .ref a_owed, .ref a_said, .ref a_spared, .ref a_leaveGift, .ref a_leaveFrom, .ref a_leaveTo, .ref a_lateDay, .ref a_lateOffice, .ref a_lateBy, .ref a_guests, .ref a_who, .ref a_used, .ref a_lacks, .ref a_candles, .ref a_masses, .ref a_owing, .ref a_heldOn, .ref a_waits, .ref a_tape, .ref a_text, .int v_taped, .int v_size, .int v_at, .int v_fault, .int v_rules, .ref a_statements, .ref a_taken, .ref a_sort, .ref a_first, .ref a_second, .int v_wordEnd, .int v_number])), (a_statements, .inl (cI, 11, .inl f_statements)), (a_sort, .inl (cI, 176, .inl f_sort)), (a_first, .inl (cI, 176, .inl f_first)), (a_second, .inl (cI, 176, .inl f_second))]) [5, 0, 2, 3, 4] rfl
          refine roV (As := [.int r_1, .int 5, .int 0]) (rest := []) S (n_lastOf  (by omega) (by omega) (hs) (by omega)) (cwV 3 hts gX12_headFeed_X12_lastOf rfl rfl rfl ⟨rfl, hd_X12_lastOf⟩ ⟨Nat.le_of_ble_eq_true rfl, Nat.le_of_ble_eq_true rfl⟩) hK hPc (va_recv hK.1 hPc (ci := 11) (q0 := 0) rfl rfl) rfl hl.1 rfl (Nat.le_of_ble_eq_true rfl) dX12_headFeed_60 ⟨Nat.le_of_ble_eq_true rfl, Nat.le_of_ble_eq_true rfl⟩ (fun r_32 hw_32 => ?_)
          have hw_32 : True := hw_32
          refine lv_istore_n (lv' := [(3, .int r_32), (2, .int r_1), (0, .ref h), (1, .int d)]) hx hb dX12_headFeed_63 rfl hl (by decide) rfl (fun ls hl => ?_)
          refine lv_iload_n hx hb dX12_headFeed_64 rfl (lv_at hl 0 rfl) ?_
          refine lv_iconst (v := (-1)) hx hb dX12_headFeed_65 (by decide) ?_
          refine lv_icmp_ne (tgt := 73) hx hb dX12_headFeed_66 (by decide) (fun c_33 => ?_) (fun c_33 => ?_)
          · have tc_33 := t_neq c_33
            refine lv_iload_n hx hb dX12_headFeed_73 rfl (lv_at hl 0 rfl) ?_
            exact hret r_32 (g1_28, g2_28) _ _ _ _ (show True from trivial) rfl (hP.sub [5, 6, 7, 8, 9, 0, 1, 2, 3, 4] rfl) (hD.sub [5, 6, 7, 8, 9, 0, 1, 2, 3, 4] (by decide +kernel) rfl) hS dX12_headFeed_74
          · have tc_33 := t_eq c_33
            refine lv_iconst (v := 2) hx hb dX12_headFeed_69 (by decide) ?_
            refine lv_goto (tgt := 74) hx hb dX12_headFeed_70 (by decide) ?_
            exact hret 2 (g1_28, g2_28) _ _ _ _ (show True from trivial) rfl (hP.sub [5, 6, 7, 8, 9, 0, 1, 2, 3, 4] rfl) (hD.sub [5, 6, 7, 8, 9, 0, 1, 2, 3, 4] (by decide +kernel) rfl) hS dX12_headFeed_74

set_option maxHeartbeats 8000000 in
set_option maxRecDepth 100000 in
theorem n_guestFeed {l : Launch} {D : va_G} {cI cZ cB : ClassId} {h a_isPriest a_bars a_joined a_turns a_awayMonk a_awayFrom a_awayTo a_feastDay a_rank a_isWeekly a_isDouble a_giftDay a_giftFrom a_owed a_said a_spared a_leaveGift a_leaveFrom a_leaveTo a_lateDay a_lateOffice a_lateBy a_guests a_who a_used a_lacks a_candles a_masses a_owing a_heldOn a_waits a_tape a_text a_statements a_taken a_sort a_first a_second : Nat} {v_today v_monks v_aways v_feasts v_gifts v_leaves v_lates v_store v_allCandles v_taped v_size v_at v_fault v_rules v_wordEnd v_number : Int32} {f_statements f_taken f_sort f_first f_second : Nat → Int32} {d : Int32} (h0_rules : 0 ≤ v_rules.toInt) (h1_rules : v_rules.toInt ≤ 10) (hs : InR f_statements v_rules.toInt 0 17) : Met l yX12_guestFeed wsX12_guestFeed ({ frames := 1, cells := 0, slots := 0, locals := 25 }) (RO D cI cZ cB [.ref h, .int d] [(h, .inr (11, [.int v_today, .int v_monks, .int v_aways, .int v_feasts, .int v_gifts, .int v_leaves, .int v_lates, .int v_store, .int v_allCandles, .ref a_isPriest, .ref a_bars, .ref a_joined, .ref a_turns, .ref a_awayMonk, .ref a_awayFrom, .ref a_awayTo, .ref a_feastDay, .ref a_rank, .ref a_isWeekly, .ref a_isDouble, .ref a_giftDay, .ref a_giftFrom, .ref a_owed, .ref a_said, .ref a_spared, .ref a_leaveGift, .ref a_leaveFrom, .ref a_leaveTo, .ref a_lateDay, .ref a_lateOffice, .ref a_lateBy, .ref a_guests, .ref a_who, .ref a_used, .ref a_lacks, .ref a_candles, .ref a_masses, .ref a_owing, .ref a_heldOn, .ref a_waits, .ref a_tape, .ref a_text, .int v_taped, .int v_size, .int v_at, .int v_fault, .int v_rules, .ref a_statements, .ref a_taken, .ref a_sort, .ref a_first, .ref a_second, .int v_wordEnd, .int v_number])), (a_statements, .inl (cI, 11, .inl f_statements)), (a_taken, .inl (cI, 11, .inl f_taken)), (a_sort, .inl (cI, 176, .inl f_sort)), (a_first, .inl (cI, 176, .inl f_first)), (a_second, .inl (cI, 176, .inl f_second))]) (vp_Si (fun r : Int32 => True)) 0 0 (fun _ => False) := by
  refine ro_ret (cc := cX12_guestFeed) (maxL := 3) (ty := .int) (own := RX12) (by decide) rfl rfl (Nat.le_of_ble_eq_true rfl) ?_
  intro p e s m args below meth c Q S hret hP hK ls hl
  obtain ⟨hx, hb, hml, hown, hts⟩ := id S
  have hl : lv_has ls 3 [(0, .ref h), (1, .int d)] := hl
  have kkm1 : (-1 : Int32).toInt = -1 := by decide
  have kk0 : (0 : Int32).toInt = 0 := by decide
  have kk3 : (3 : Int32).toInt = 3 := by decide
  have kk4 : (4 : Int32).toInt = 4 := by decide
  refine lv_aload_n hx hb dX12_guestFeed_0 rfl (lv_at hl 0 rfl) ?_
  refine lv_aload_n hx hb dX12_guestFeed_1 rfl (lv_at hl 0 rfl) ?_
  refine lv_iload_n hx hb dX12_guestFeed_2 rfl (lv_at hl 1 rfl) ?_
  have hPc := hP.sub (ws' := [(h, .inr (11, [.int v_today, .int v_monks, .int v_aways, .int v_feasts, .int v_gifts, .int v_leaves, .int v_lates, .int v_store, .int v_allCandles, .ref a_isPriest, .ref a_bars, .ref a_joined, .ref a_turns, .ref a_awayMonk, .ref a_awayFrom, .ref a_awayTo, .ref a_feastDay, .ref a_rank, .ref a_isWeekly, .ref a_isDouble, .ref a_giftDay, .ref a_giftFrom, .ref a_owed, .ref a_said, .ref a_spared, .ref a_leaveGift, .ref a_leaveFrom, .ref a_leaveTo, .ref a_lateDay, .ref a_lateOffice, .ref a_lateBy, .ref a_guests, .ref a_who, .ref a_used, .ref a_lacks, .ref a_candles, .ref a_masses, .ref a_owing, .ref a_heldOn, .ref a_waits, .ref a_tape, .ref a_text, .int v_taped, .int v_size, .int v_at, .int v_fault, .int v_rules, .ref a_statements, .ref a_taken, .ref a_sort, .ref a_first, .ref a_second, .int v_wordEnd, .int v_number])), (a_taken, .inl (cI, 11, .inl f_taken))]) [0, 2] rfl
  refine roV (As := [.int d]) (rest := [.ref h]) S (n_inForce  (by omega) (by omega)) (cwV 1 hts gX12_guestFeed_X12_inForce rfl rfl rfl ⟨rfl, hd_X12_inForce⟩ ⟨Nat.le_of_ble_eq_true rfl, Nat.le_of_ble_eq_true rfl⟩) hK hPc (va_recv hK.1 hPc (ci := 11) (q0 := 0) rfl rfl) rfl hl.1 rfl (Nat.le_of_ble_eq_true rfl) dX12_guestFeed_3 ⟨Nat.le_of_ble_eq_true rfl, Nat.le_of_ble_eq_true rfl⟩ (fun r_1 hw_1 => ?_)
  have hw_1 : r_1.toInt = -1 ∨ (0 ≤ r_1.toInt ∧ r_1.toInt < v_rules.toInt) := hw_1
  refine lv_iconst (v := 4) hx hb dX12_guestFeed_6 (by decide) ?_
  refine lv_iconst (v := 0) hx hb dX12_guestFeed_7 (by decide) ?_
  have hPc := hP.sub (ws' := [(h, .inr (11, [.int v_today, .int v_monks, .int v_aways, .int v_feasts, .int v_gifts, .int v_leaves, .int v_lates, .int v_store, .int v_allCandles, .ref a_isPriest, .ref a_bars, .ref a_joined, .ref a_turns, .ref a_awayMonk, .ref a_awayFrom, .ref a_awayTo, .ref a_feastDay, .ref a_rank, .ref a_isWeekly, .ref a_isDouble, .ref a_giftDay, .ref a_giftFrom, .ref a_owed, .ref a_said, .ref a_spared, .ref a_leaveGift, .ref a_leaveFrom, .ref a_leaveTo, .ref a_lateDay, .ref a_lateOffice, .ref a_lateBy, .ref a_guests, .ref a_who, .ref a_used, .ref a_lacks, .ref a_candles, .ref a_masses, .ref a_owing, .ref a_heldOn, .ref a_waits, .ref a_tape, .ref a_text, .int v_taped, .int v_size, .int v_at, .int v_fault, .int v_rules, .ref a_statements, .ref a_taken, .ref a_sort, .ref a_first, .ref a_second, .int v_wordEnd, .int v_number])), (a_statements, .inl (cI, 11, .inl f_statements)), (a_sort, .inl (cI, 176, .inl f_sort)), (a_first, .inl (cI, 176, .inl f_first)), (a_second, .inl (cI, 176, .inl f_second))]) [0, 1, 3, 4, 5] rfl
  refine roV (As := [.int r_1, .int 4, .int 0]) (rest := []) S (n_lastOf  (by omega) (by omega) (hs) (by omega)) (cwV 3 hts gX12_guestFeed_X12_lastOf rfl rfl rfl ⟨rfl, hd_X12_lastOf⟩ ⟨Nat.le_of_ble_eq_true rfl, Nat.le_of_ble_eq_true rfl⟩) hK hPc (va_recv hK.1 hPc (ci := 11) (q0 := 0) rfl rfl) rfl hl.1 rfl (Nat.le_of_ble_eq_true rfl) dX12_guestFeed_8 ⟨Nat.le_of_ble_eq_true rfl, Nat.le_of_ble_eq_true rfl⟩ (fun r_2 hw_2 => ?_)
  have hw_2 : True := hw_2
  refine lv_istore_n (lv' := [(2, .int r_2), (0, .ref h), (1, .int d)]) hx hb dX12_guestFeed_11 rfl hl (by decide) rfl (fun ls hl => ?_)
  refine lv_iload_n hx hb dX12_guestFeed_12 rfl (lv_at hl 0 rfl) ?_
  refine lv_iconst (v := (-1)) hx hb dX12_guestFeed_13 (by decide) ?_
  refine lv_icmp_ne (tgt := 21) hx hb dX12_guestFeed_14 (by decide) (fun c_3 => ?_) (fun c_3 => ?_)
  · have tc_3 := t_neq c_3
    refine lv_iload_n hx hb dX12_guestFeed_21 rfl (lv_at hl 0 rfl) ?_
    exact hret r_2 _ _ (show True from trivial) rfl dX12_guestFeed_22
  · have tc_3 := t_eq c_3
    refine lv_iconst (v := 3) hx hb dX12_guestFeed_17 (by decide) ?_
    refine lv_goto (tgt := 22) hx hb dX12_guestFeed_18 (by decide) ?_
    exact hret 3 _ _ (show True from trivial) rfl dX12_guestFeed_22

