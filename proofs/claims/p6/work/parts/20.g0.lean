theorem in_n_isMonk_X12 : ∀ w ∈ wsX120, w ∈ wsX12_isMonk := tl_X12_isMonk_X12
set_option maxHeartbeats 8000000 in
set_option maxRecDepth 100000 in
theorem n_isMonk {l : Launch} {D : va_G} {cI cZ cB : ClassId} {h a_isPriest a_bars a_joined a_turns a_awayMonk a_awayFrom a_awayTo a_feastDay a_rank a_isWeekly a_isDouble a_giftDay a_giftFrom a_owed a_said a_spared a_leaveGift a_leaveFrom a_leaveTo a_lateDay a_lateOffice a_lateBy a_guests a_who a_used a_lacks a_candles a_masses a_owing a_heldOn a_waits a_tape a_text a_statements a_taken a_sort a_first a_second : Nat} {v_today v_monks v_aways v_feasts v_gifts v_leaves v_lates v_store v_allCandles v_taped v_size v_at v_fault v_rules v_wordEnd v_number : Int32} {i : Int32} (h0_monks : 0 ≤ v_monks.toInt) (h1_monks : v_monks.toInt ≤ 24) : Met l yX12_isMonk wsX12_isMonk ({ frames := 1, cells := 0, slots := 0, locals := 22 }) (RO D cI cZ cB [.ref h, .int i] [(h, .inr (11, [.int v_today, .int v_monks, .int v_aways, .int v_feasts, .int v_gifts, .int v_leaves, .int v_lates, .int v_store, .int v_allCandles, .ref a_isPriest, .ref a_bars, .ref a_joined, .ref a_turns, .ref a_awayMonk, .ref a_awayFrom, .ref a_awayTo, .ref a_feastDay, .ref a_rank, .ref a_isWeekly, .ref a_isDouble, .ref a_giftDay, .ref a_giftFrom, .ref a_owed, .ref a_said, .ref a_spared, .ref a_leaveGift, .ref a_leaveFrom, .ref a_leaveTo, .ref a_lateDay, .ref a_lateOffice, .ref a_lateBy, .ref a_guests, .ref a_who, .ref a_used, .ref a_lacks, .ref a_candles, .ref a_masses, .ref a_owing, .ref a_heldOn, .ref a_waits, .ref a_tape, .ref a_text, .int v_taped, .int v_size, .int v_at, .int v_fault, .int v_rules, .ref a_statements, .ref a_taken, .ref a_sort, .ref a_first, .ref a_second, .int v_wordEnd, .int v_number]))]) (vp_Si (fun r : Int32 => (r.toInt = 1 ∧ 0 ≤ i.toInt ∧ i.toInt < v_monks.toInt) ∨ (r.toInt = 0 ∧ (i.toInt < 0 ∨ v_monks.toInt ≤ i.toInt)))) 0 0 (fun _ => False) := by
  refine ro_ret (cc := cX12_isMonk) (maxL := 2) (ty := .boolean) (own := RX12) (by decide) rfl rfl (Nat.le_of_ble_eq_true rfl) ?_
  intro p e s m args below meth c Q S hret hP hK ls hl
  obtain ⟨hx, hb, hml, hown, hts⟩ := id S
  have hl : lv_has ls 2 [(0, .ref h), (1, .int i)] := hl
  have kk0 : (0 : Int32).toInt = 0 := by decide
  have kk1 : (1 : Int32).toInt = 1 := by decide
  have lk0 := hts (.fieldLink RX12 134 "AbbeyHoursModel" "monks" "I") (List.mem_cons_of_mem _ (List.mem_append_left _ (List.mem_of_getElem? (i := 0) rfl)))
  refine lv_iload_n hx hb dX12_isMonk_0 rfl (lv_at hl 1 rfl) ?_
  refine lv_iconst (v := 0) hx hb dX12_isMonk_1 (by decide) ?_
  refine lv_aload_n hx hb dX12_isMonk_2 rfl (lv_at hl 0 rfl) ?_
  refine va_get (D := D) (ci := 11) (v := .int v_monks) (C := RX12) (T := TX12) (N := 54) hx hb hts in_n_isMonk_X12 hown hK.1 hP 0 rfl rfl 1 (by decide) lk0 (fun _ h9 => h9) rfl dX12_isMonk_3 ?_
  refine lv_iconst (v := 1) hx hb dX12_isMonk_6 (by decide) ?_
  refine lv_isub hx hb dX12_isMonk_7 ?_
  refine lv_topi (fun x_1 ex_1 => ?_)
  first | have tx_1 := t_sub ex_1 (by omega) (by omega) | skip
  have hPc := hP.sub (ws' := []) [] rfl
  refine roS (As := [.int i, .int 0, .int x_1]) (rest := []) S (m_isIn  ) (va_cwS 3 hts gX12_isMonk_X12_isIn rfl rfl rfl hd_X12_isIn ⟨Nat.le_of_ble_eq_true rfl, Nat.le_of_ble_eq_true rfl⟩) hK hPc rfl hl.1 rfl (Nat.le_of_ble_eq_true rfl) dX12_isMonk_8 ⟨Nat.le_of_ble_eq_true rfl, Nat.le_of_ble_eq_true rfl⟩ (fun r_2 hw_2 => ?_)
  have hw_2 : (r_2.toInt = 1 ∧ (0 : Int32).toInt ≤ i.toInt ∧ i.toInt ≤ x_1.toInt) ∨ (r_2.toInt = 0 ∧ (i.toInt < (0 : Int32).toInt ∨ x_1.toInt < i.toInt)) := hw_2
  exact hret r_2 _ _ (show (r_2.toInt = 1 ∧ 0 ≤ i.toInt ∧ i.toInt < v_monks.toInt) ∨ (r_2.toInt = 0 ∧ (i.toInt < 0 ∨ v_monks.toInt ≤ i.toInt)) from by omega) (zb (by omega)) dX12_isMonk_11

theorem in_n_isGift_X12 : ∀ w ∈ wsX120, w ∈ wsX12_isGift := tl_X12_isGift_X12
set_option maxHeartbeats 8000000 in
set_option maxRecDepth 100000 in
theorem n_isGift {l : Launch} {D : va_G} {cI cZ cB : ClassId} {h a_isPriest a_bars a_joined a_turns a_awayMonk a_awayFrom a_awayTo a_feastDay a_rank a_isWeekly a_isDouble a_giftDay a_giftFrom a_owed a_said a_spared a_leaveGift a_leaveFrom a_leaveTo a_lateDay a_lateOffice a_lateBy a_guests a_who a_used a_lacks a_candles a_masses a_owing a_heldOn a_waits a_tape a_text a_statements a_taken a_sort a_first a_second : Nat} {v_today v_monks v_aways v_feasts v_gifts v_leaves v_lates v_store v_allCandles v_taped v_size v_at v_fault v_rules v_wordEnd v_number : Int32} {i : Int32} (h0_gifts : 0 ≤ v_gifts.toInt) (h1_gifts : v_gifts.toInt ≤ 40) : Met l yX12_isGift wsX12_isGift ({ frames := 1, cells := 0, slots := 0, locals := 22 }) (RO D cI cZ cB [.ref h, .int i] [(h, .inr (11, [.int v_today, .int v_monks, .int v_aways, .int v_feasts, .int v_gifts, .int v_leaves, .int v_lates, .int v_store, .int v_allCandles, .ref a_isPriest, .ref a_bars, .ref a_joined, .ref a_turns, .ref a_awayMonk, .ref a_awayFrom, .ref a_awayTo, .ref a_feastDay, .ref a_rank, .ref a_isWeekly, .ref a_isDouble, .ref a_giftDay, .ref a_giftFrom, .ref a_owed, .ref a_said, .ref a_spared, .ref a_leaveGift, .ref a_leaveFrom, .ref a_leaveTo, .ref a_lateDay, .ref a_lateOffice, .ref a_lateBy, .ref a_guests, .ref a_who, .ref a_used, .ref a_lacks, .ref a_candles, .ref a_masses, .ref a_owing, .ref a_heldOn, .ref a_waits, .ref a_tape, .ref a_text, .int v_taped, .int v_size, .int v_at, .int v_fault, .int v_rules, .ref a_statements, .ref a_taken, .ref a_sort, .ref a_first, .ref a_second, .int v_wordEnd, .int v_number]))]) (vp_Si (fun r : Int32 => (r.toInt = 1 ∧ 0 ≤ i.toInt ∧ i.toInt < v_gifts.toInt) ∨ (r.toInt = 0 ∧ (i.toInt < 0 ∨ v_gifts.toInt ≤ i.toInt)))) 0 0 (fun _ => False) := by
  refine ro_ret (cc := cX12_isGift) (maxL := 2) (ty := .boolean) (own := RX12) (by decide) rfl rfl (Nat.le_of_ble_eq_true rfl) ?_
  intro p e s m args below meth c Q S hret hP hK ls hl
  obtain ⟨hx, hb, hml, hown, hts⟩ := id S
  have hl : lv_has ls 2 [(0, .ref h), (1, .int i)] := hl
  have kk0 : (0 : Int32).toInt = 0 := by decide
  have kk1 : (1 : Int32).toInt = 1 := by decide
  have lk0 := hts (.fieldLink RX12 137 "AbbeyHoursModel" "gifts" "I") (List.mem_cons_of_mem _ (List.mem_append_left _ (List.mem_of_getElem? (i := 0) rfl)))
  refine lv_iload_n hx hb dX12_isGift_0 rfl (lv_at hl 1 rfl) ?_
  refine lv_iconst (v := 0) hx hb dX12_isGift_1 (by decide) ?_
  refine lv_aload_n hx hb dX12_isGift_2 rfl (lv_at hl 0 rfl) ?_
  refine va_get (D := D) (ci := 11) (v := .int v_gifts) (C := RX12) (T := TX12) (N := 54) hx hb hts in_n_isGift_X12 hown hK.1 hP 0 rfl rfl 4 (by decide) lk0 (fun _ h9 => h9) rfl dX12_isGift_3 ?_
  refine lv_iconst (v := 1) hx hb dX12_isGift_6 (by decide) ?_
  refine lv_isub hx hb dX12_isGift_7 ?_
  refine lv_topi (fun x_1 ex_1 => ?_)
  first | have tx_1 := t_sub ex_1 (by omega) (by omega) | skip
  have hPc := hP.sub (ws' := []) [] rfl
  refine roS (As := [.int i, .int 0, .int x_1]) (rest := []) S (m_isIn  ) (va_cwS 3 hts gX12_isGift_X12_isIn rfl rfl rfl hd_X12_isIn ⟨Nat.le_of_ble_eq_true rfl, Nat.le_of_ble_eq_true rfl⟩) hK hPc rfl hl.1 rfl (Nat.le_of_ble_eq_true rfl) dX12_isGift_8 ⟨Nat.le_of_ble_eq_true rfl, Nat.le_of_ble_eq_true rfl⟩ (fun r_2 hw_2 => ?_)
  have hw_2 : (r_2.toInt = 1 ∧ (0 : Int32).toInt ≤ i.toInt ∧ i.toInt ≤ x_1.toInt) ∨ (r_2.toInt = 0 ∧ (i.toInt < (0 : Int32).toInt ∨ x_1.toInt < i.toInt)) := hw_2
  exact hret r_2 _ _ (show (r_2.toInt = 1 ∧ 0 ≤ i.toInt ∧ i.toInt < v_gifts.toInt) ∨ (r_2.toInt = 0 ∧ (i.toInt < 0 ∨ v_gifts.toInt ≤ i.toInt)) from by omega) (zb (by omega)) dX12_isGift_11

theorem in_n_hasGone_X12 : ∀ w ∈ wsX120, w ∈ wsX12_hasGone := tl_X12_hasGone_X12
set_option maxHeartbeats 8000000 in
set_option maxRecDepth 100000 in
theorem n_hasGone {l : Launch} {D : va_G} {cI cZ cB : ClassId} {h a_isPriest a_bars a_joined a_turns a_awayMonk a_awayFrom a_awayTo a_feastDay a_rank a_isWeekly a_isDouble a_giftDay a_giftFrom a_owed a_said a_spared a_leaveGift a_leaveFrom a_leaveTo a_lateDay a_lateOffice a_lateBy a_guests a_who a_used a_lacks a_candles a_masses a_owing a_heldOn a_waits a_tape a_text a_statements a_taken a_sort a_first a_second : Nat} {v_today v_monks v_aways v_feasts v_gifts v_leaves v_lates v_store v_allCandles v_taped v_size v_at v_fault v_rules v_wordEnd v_number : Int32} {i : Int32} (h0_today : 0 ≤ v_today.toInt) (h1_today : v_today.toInt ≤ 1094) : Met l yX12_hasGone wsX12_hasGone ({ frames := 1, cells := 0, slots := 0, locals := 22 }) (RO D cI cZ cB [.ref h, .int i] [(h, .inr (11, [.int v_today, .int v_monks, .int v_aways, .int v_feasts, .int v_gifts, .int v_leaves, .int v_lates, .int v_store, .int v_allCandles, .ref a_isPriest, .ref a_bars, .ref a_joined, .ref a_turns, .ref a_awayMonk, .ref a_awayFrom, .ref a_awayTo, .ref a_feastDay, .ref a_rank, .ref a_isWeekly, .ref a_isDouble, .ref a_giftDay, .ref a_giftFrom, .ref a_owed, .ref a_said, .ref a_spared, .ref a_leaveGift, .ref a_leaveFrom, .ref a_leaveTo, .ref a_lateDay, .ref a_lateOffice, .ref a_lateBy, .ref a_guests, .ref a_who, .ref a_used, .ref a_lacks, .ref a_candles, .ref a_masses, .ref a_owing, .ref a_heldOn, .ref a_waits, .ref a_tape, .ref a_text, .int v_taped, .int v_size, .int v_at, .int v_fault, .int v_rules, .ref a_statements, .ref a_taken, .ref a_sort, .ref a_first, .ref a_second, .int v_wordEnd, .int v_number]))]) (vp_Si (fun r : Int32 => (r.toInt = 1 ∧ 0 ≤ i.toInt ∧ i.toInt < v_today.toInt) ∨ (r.toInt = 0 ∧ (i.toInt < 0 ∨ v_today.toInt ≤ i.toInt)))) 0 0 (fun _ => False) := by
  refine ro_ret (cc := cX12_hasGone) (maxL := 2) (ty := .boolean) (own := RX12) (by decide) rfl rfl (Nat.le_of_ble_eq_true rfl) ?_
  intro p e s m args below meth c Q S hret hP hK ls hl
  obtain ⟨hx, hb, hml, hown, hts⟩ := id S
  have hl : lv_has ls 2 [(0, .ref h), (1, .int i)] := hl
  have kk0 : (0 : Int32).toInt = 0 := by decide
  have kk1 : (1 : Int32).toInt = 1 := by decide
  have lk0 := hts (.fieldLink RX12 140 "AbbeyHoursModel" "today" "I") (List.mem_cons_of_mem _ (List.mem_append_left _ (List.mem_of_getElem? (i := 0) rfl)))
  refine lv_iload_n hx hb dX12_hasGone_0 rfl (lv_at hl 1 rfl) ?_
  refine lv_iconst (v := 0) hx hb dX12_hasGone_1 (by decide) ?_
  refine lv_aload_n hx hb dX12_hasGone_2 rfl (lv_at hl 0 rfl) ?_
  refine va_get (D := D) (ci := 11) (v := .int v_today) (C := RX12) (T := TX12) (N := 54) hx hb hts in_n_hasGone_X12 hown hK.1 hP 0 rfl rfl 0 (by decide) lk0 (fun _ h9 => h9) rfl dX12_hasGone_3 ?_
  refine lv_iconst (v := 1) hx hb dX12_hasGone_6 (by decide) ?_
  refine lv_isub hx hb dX12_hasGone_7 ?_
  refine lv_topi (fun x_1 ex_1 => ?_)
  first | have tx_1 := t_sub ex_1 (by omega) (by omega) | skip
  have hPc := hP.sub (ws' := []) [] rfl
  refine roS (As := [.int i, .int 0, .int x_1]) (rest := []) S (m_isIn  ) (va_cwS 3 hts gX12_hasGone_X12_isIn rfl rfl rfl hd_X12_isIn ⟨Nat.le_of_ble_eq_true rfl, Nat.le_of_ble_eq_true rfl⟩) hK hPc rfl hl.1 rfl (Nat.le_of_ble_eq_true rfl) dX12_hasGone_8 ⟨Nat.le_of_ble_eq_true rfl, Nat.le_of_ble_eq_true rfl⟩ (fun r_2 hw_2 => ?_)
  have hw_2 : (r_2.toInt = 1 ∧ (0 : Int32).toInt ≤ i.toInt ∧ i.toInt ≤ x_1.toInt) ∨ (r_2.toInt = 0 ∧ (i.toInt < (0 : Int32).toInt ∨ x_1.toInt < i.toInt)) := hw_2
  exact hret r_2 _ _ (show (r_2.toInt = 1 ∧ 0 ≤ i.toInt ∧ i.toInt < v_today.toInt) ∨ (r_2.toInt = 0 ∧ (i.toInt < 0 ∨ v_today.toInt ≤ i.toInt)) from by omega) (zb (by omega)) dX12_hasGone_11

theorem in_n_isAble_X12 : ∀ w ∈ wsX120, w ∈ wsX12_isAble := tl_X12_isAble_X12
set_option maxHeartbeats 8000000 in
set_option maxRecDepth 100000 in
theorem n_isAble {l : Launch} {D : va_G} {cI cZ cB : ClassId} {h a_isPriest a_bars a_joined a_turns a_awayMonk a_awayFrom a_awayTo a_feastDay a_rank a_isWeekly a_isDouble a_giftDay a_giftFrom a_owed a_said a_spared a_leaveGift a_leaveFrom a_leaveTo a_lateDay a_lateOffice a_lateBy a_guests a_who a_used a_lacks a_candles a_masses a_owing a_heldOn a_waits a_tape a_text a_statements a_taken a_sort a_first a_second : Nat} {v_today v_monks v_aways v_feasts v_gifts v_leaves v_lates v_store v_allCandles v_taped v_size v_at v_fault v_rules v_wordEnd v_number : Int32} {f_joined f_awayMonk f_awayFrom f_awayTo : Nat → Int32} {i d : Int32} (h0_aways : 0 ≤ v_aways.toInt) (h1_aways : v_aways.toInt ≤ 60) (hi0 : 0 ≤ i.toInt) (hi1 : i.toInt < 24) : Met l yX12_isAble wsX12_isAble ({ frames := 1, cells := 0, slots := 0, locals := 22 }) (RO D cI cZ cB [.ref h, .int i, .int d] [(h, .inr (11, [.int v_today, .int v_monks, .int v_aways, .int v_feasts, .int v_gifts, .int v_leaves, .int v_lates, .int v_store, .int v_allCandles, .ref a_isPriest, .ref a_bars, .ref a_joined, .ref a_turns, .ref a_awayMonk, .ref a_awayFrom, .ref a_awayTo, .ref a_feastDay, .ref a_rank, .ref a_isWeekly, .ref a_isDouble, .ref a_giftDay, .ref a_giftFrom, .ref a_owed, .ref a_said, .ref a_spared, .ref a_leaveGift, .ref a_leaveFrom, .ref a_leaveTo, .ref a_lateDay, .ref a_lateOffice, .ref a_lateBy, .ref a_guests, .ref a_who, .ref a_used, .ref a_lacks, .ref a_candles, .ref a_masses, .ref a_owing, .ref a_heldOn, .ref a_waits, .ref a_tape, .ref a_text, .int v_taped, .int v_size, .int v_at, .int v_fault, .int v_rules, .ref a_statements, .ref a_taken, .ref a_sort, .ref a_first, .ref a_second, .int v_wordEnd, .int v_number])), (a_joined, .inl (cI, 24, .inl f_joined)), (a_awayMonk, .inl (cI, 60, .inl f_awayMonk)), (a_awayFrom, .inl (cI, 60, .inl f_awayFrom)), (a_awayTo, .inl (cI, 60, .inl f_awayTo))]) (vp_Si (fun r : Int32 => (r.toInt = 0 ∨ r.toInt = 1))) 0 0 (fun _ => False) := by
  refine ro_ret (cc := cX12_isAble) (maxL := 5) (ty := .boolean) (own := RX12) (by decide) rfl rfl (Nat.le_of_ble_eq_true rfl) ?_
  intro p e s m args below meth c Q S hret hP hK ls hl
  obtain ⟨hx, hb, hml, hown, hts⟩ := id S
  have hl : lv_has ls 5 [(0, .ref h), (1, .int i), (2, .int d)] := hl
  have kk0 : (0 : Int32).toInt = 0 := by decide
  have kk1 : (1 : Int32).toInt = 1 := by decide
  have lk0 := hts (.fieldLink RX12 17 "AbbeyHoursModel" "joined" "[I") (List.mem_cons_of_mem _ (List.mem_append_left _ (List.mem_of_getElem? (i := 0) rfl)))
  have lk1 := hts (.fieldLink RX12 150 "AbbeyHoursModel" "aways" "I") (List.mem_cons_of_mem _ (List.mem_append_left _ (List.mem_of_getElem? (i := 1) rfl)))
  have lk2 := hts (.fieldLink RX12 23 "AbbeyHoursModel" "awayMonk" "[I") (List.mem_cons_of_mem _ (List.mem_append_left _ (List.mem_of_getElem? (i := 2) rfl)))
  have lk3 := hts (.fieldLink RX12 26 "AbbeyHoursModel" "awayFrom" "[I") (List.mem_cons_of_mem _ (List.mem_append_left _ (List.mem_of_getElem? (i := 3) rfl)))
  have lk4 := hts (.fieldLink RX12 29 "AbbeyHoursModel" "awayTo" "[I") (List.mem_cons_of_mem _ (List.mem_append_left _ (List.mem_of_getElem? (i := 4) rfl)))
  refine lv_aload_n hx hb dX12_isAble_0 rfl (lv_at hl 0 rfl) ?_
  refine va_get (D := D) (ci := 11) (v := .ref a_joined) (C := RX12) (T := TX12) (N := 54) hx hb hts in_n_isAble_X12 hown hK.1 hP 0 rfl rfl 11 (by decide) lk0 (fun _ h9 => h9) rfl dX12_isAble_1 ?_
  refine lv_iload_n hx hb dX12_isAble_4 rfl (lv_at hl 1 rfl) ?_
  refine va_iald hx hb hK.1 hP 1 0 rfl rfl (t_in (by omega) (by omega)) dX12_isAble_5 ?_
  refine lv_topi (fun y_1 ey_1 => ?_)
  refine lv_iload_n hx hb dX12_isAble_6 rfl (lv_at hl 2 rfl) ?_
  refine lv_icmp_gt (tgt := 14) hx hb dX12_isAble_7 (by decide) (fun c_2 => ?_) (fun c_2 => ?_)
  · have tc_2 := t_lt c_2
    refine lv_iconst (v := 0) hx hb dX12_isAble_14 (by decide) ?_
    refine lv_istore_n (lv' := [(3, .int 0), (0, .ref h), (1, .int i), (2, .int d)]) hx hb dX12_isAble_15 rfl hl (by decide) rfl (fun ls hl => ?_)
    refine lv_iconst (v := 0) hx hb dX12_isAble_16 (by decide) ?_
    refine lv_istore (lv' := [(4, .int 0), (3, .int 0), (0, .ref h), (1, .int i), (2, .int d)]) hx hb dX12_isAble_17 hl (by decide) rfl (fun ls hl => ?_)
    have loop19 : ∀ (fuel : Nat) (a : Int32) (j : Int32), v_aways.toInt - j.toInt < (fuel : Int) → (0 ≤ j.toInt) → (j.toInt ≤ v_aways.toInt) → (a.toInt = 0 ∨ a.toInt = 1) → ∀ ls : Array Slot, lv_has ls 5 [(4, .int j), (3, .int a), (0, .ref h), (1, .int i), (2, .int d)] → W p l e ({ frames := 1, cells := 0, slots := 0, locals := 22 } : Room) s m args below meth c s.heap [] 0 0 Q (F0 m 19 ls []) := by
      intro fuel
      induction fuel with
      | zero =>
        intro a j hmu hj0 hj1 ha ls hl
        exfalso; omega
      | succ fuel ih19 =>
        intro a j hmu hj0 hj1 ha ls hl
        refine lv_iload hx hb dX12_isAble_19 (lv_at hl 0 rfl) ?_
        refine lv_aload_n hx hb dX12_isAble_21 rfl (lv_at hl 2 rfl) ?_
        refine va_get (D := D) (ci := 11) (v := .int v_aways) (C := RX12) (T := TX12) (N := 54) hx hb hts in_n_isAble_X12 hown hK.1 hP 0 rfl rfl 2 (by decide) lk1 (fun _ h9 => h9) rfl dX12_isAble_22 ?_
        refine lv_icmp_ge (tgt := 76) hx hb dX12_isAble_25 (by decide) (fun c_3 => ?_) (fun c_3 => ?_)
        · have tc_3 := t_le c_3
          refine lv_iload_n hx hb dX12_isAble_76 rfl (lv_at hl 1 rfl) ?_
          exact hret a _ _ (show (a.toInt = 0 ∨ a.toInt = 1) from by omega) (zb (by omega)) dX12_isAble_77
        · have tc_3 := t_nle c_3
          refine lv_iload_n hx hb dX12_isAble_28 rfl (lv_at hl 1 rfl) ?_
          refine lv_if_eq (tgt := 68) hx hb dX12_isAble_29 (by decide) (fun c_4 => ?_) (fun c_4 => ?_)
          · have tc_4 := t_eq c_4
            refine lv_iconst (v := 0) hx hb dX12_isAble_68 (by decide) ?_
            refine lv_istore_n (lv' := [(3, .int 0), (4, .int j), (0, .ref h), (1, .int i), (2, .int d)]) hx hb dX12_isAble_69 rfl hl (by decide) rfl (fun ls hl => ?_)
            obtain ⟨x_5, ex_5⟩ : ∃ y : Int32, y = j + 1 := ⟨_, rfl⟩
            refine lv_iinc (v := x_5) (lv' := [(4, .int x_5), (3, .int 0), (0, .ref h), (1, .int i), (2, .int d)]) hx hb dX12_isAble_70 hl (k := 1) rfl (by rw [ex_5]; rfl) (by decide) rfl (fun ls hl => ?_)
            first | have tx_5 := t_add ex_5 (by omega) (by omega) | skip
            refine lv_goto (tgt := 19) hx hb dX12_isAble_73 (by decide) ?_
            exact ih19 0 x_5 (by omega) (by omega) (by omega) (by omega) ls (lv_sub hl [0, 1, 2, 3, 4] rfl)
          · have tc_4 := t_neq c_4
            refine lv_aload_n hx hb dX12_isAble_32 rfl (lv_at hl 2 rfl) ?_
            refine va_get (D := D) (ci := 11) (v := .ref a_awayMonk) (C := RX12) (T := TX12) (N := 54) hx hb hts in_n_isAble_X12 hown hK.1 hP 0 rfl rfl 13 (by decide) lk2 (fun _ h9 => h9) rfl dX12_isAble_33 ?_
            refine lv_iload hx hb dX12_isAble_36 (lv_at hl 0 rfl) ?_
            refine va_iald hx hb hK.1 hP 2 0 rfl rfl (t_in (by omega) (by omega)) dX12_isAble_38 ?_
            refine lv_topi (fun y_6 ey_6 => ?_)
            refine lv_iload_n hx hb dX12_isAble_39 rfl (lv_at hl 3 rfl) ?_
            refine lv_icmp_ne (tgt := 64) hx hb dX12_isAble_40 (by decide) (fun c_7 => ?_) (fun c_7 => ?_)
            · have tc_7 := t_neq c_7
              refine lv_iconst (v := 1) hx hb dX12_isAble_64 (by decide) ?_
              refine lv_goto (tgt := 69) hx hb dX12_isAble_65 (by decide) ?_
              refine lv_istore_n (lv' := [(3, .int 1), (4, .int j), (0, .ref h), (1, .int i), (2, .int d)]) hx hb dX12_isAble_69 rfl hl (by decide) rfl (fun ls hl => ?_)
              obtain ⟨x_8, ex_8⟩ : ∃ y : Int32, y = j + 1 := ⟨_, rfl⟩
              refine lv_iinc (v := x_8) (lv' := [(4, .int x_8), (3, .int 1), (0, .ref h), (1, .int i), (2, .int d)]) hx hb dX12_isAble_70 hl (k := 1) rfl (by rw [ex_8]; rfl) (by decide) rfl (fun ls hl => ?_)
              first | have tx_8 := t_add ex_8 (by omega) (by omega) | skip
              refine lv_goto (tgt := 19) hx hb dX12_isAble_73 (by decide) ?_
              exact ih19 1 x_8 (by omega) (by omega) (by omega) (by omega) ls (lv_sub hl [0, 1, 2, 3, 4] rfl)
            · have tc_7 := t_eq c_7
              refine lv_iload_n hx hb dX12_isAble_43 rfl (lv_at hl 4 rfl) ?_
              refine lv_aload_n hx hb dX12_isAble_44 rfl (lv_at hl 2 rfl) ?_
              refine va_get (D := D) (ci := 11) (v := .ref a_awayFrom) (C := RX12) (T := TX12) (N := 54) hx hb hts in_n_isAble_X12 hown hK.1 hP 0 rfl rfl 14 (by decide) lk3 (fun _ h9 => h9) rfl dX12_isAble_45 ?_
              refine lv_iload hx hb dX12_isAble_48 (lv_at hl 0 rfl) ?_
              refine va_iald hx hb hK.1 hP 3 0 rfl rfl (t_in (by omega) (by omega)) dX12_isAble_50 ?_
              refine lv_topi (fun y_9 ey_9 => ?_)
              refine lv_aload_n hx hb dX12_isAble_51 rfl (lv_at hl 2 rfl) ?_
              refine va_get (D := D) (ci := 11) (v := .ref a_awayTo) (C := RX12) (T := TX12) (N := 54) hx hb hts in_n_isAble_X12 hown hK.1 hP 0 rfl rfl 15 (by decide) lk4 (fun _ h9 => h9) rfl dX12_isAble_52 ?_
              refine lv_iload hx hb dX12_isAble_55 (lv_at hl 0 rfl) ?_
              refine va_iald hx hb hK.1 hP 4 0 rfl rfl (t_in (by omega) (by omega)) dX12_isAble_57 ?_
              refine lv_topi (fun y_10 ey_10 => ?_)
              have hPc := hP.sub (ws' := []) [] rfl
              refine roS (As := [.int d, .int y_9, .int y_10]) (rest := []) S (m_isIn  ) (va_cwS 3 hts gX12_isAble_X12_isIn rfl rfl rfl hd_X12_isIn ⟨Nat.le_of_ble_eq_true rfl, Nat.le_of_ble_eq_true rfl⟩) hK hPc rfl hl.1 rfl (Nat.le_of_ble_eq_true rfl) dX12_isAble_58 ⟨Nat.le_of_ble_eq_true rfl, Nat.le_of_ble_eq_true rfl⟩ (fun r_11 hw_11 => ?_)
              have hw_11 : (r_11.toInt = 1 ∧ y_9.toInt ≤ d.toInt ∧ d.toInt ≤ y_10.toInt) ∨ (r_11.toInt = 0 ∧ (d.toInt < y_9.toInt ∨ y_10.toInt < d.toInt)) := hw_11
              refine lv_if_ne (tgt := 68) hx hb dX12_isAble_61 (by decide) (fun c_12 => ?_) (fun c_12 => ?_)
              · have tc_12 := t_neq c_12
                refine lv_iconst (v := 0) hx hb dX12_isAble_68 (by decide) ?_
                refine lv_istore_n (lv' := [(3, .int 0), (4, .int j), (0, .ref h), (1, .int i), (2, .int d)]) hx hb dX12_isAble_69 rfl hl (by decide) rfl (fun ls hl => ?_)
                obtain ⟨x_13, ex_13⟩ : ∃ y : Int32, y = j + 1 := ⟨_, rfl⟩
                refine lv_iinc (v := x_13) (lv' := [(4, .int x_13), (3, .int 0), (0, .ref h), (1, .int i), (2, .int d)]) hx hb dX12_isAble_70 hl (k := 1) rfl (by rw [ex_13]; rfl) (by decide) rfl (fun ls hl => ?_)
                first | have tx_13 := t_add ex_13 (by omega) (by omega) | skip
                refine lv_goto (tgt := 19) hx hb dX12_isAble_73 (by decide) ?_
                exact ih19 0 x_13 (by omega) (by omega) (by omega) (by omega) ls (lv_sub hl [0, 1, 2, 3, 4] rfl)
              · have tc_12 := t_eq c_12
                refine lv_iconst (v := 1) hx hb dX12_isAble_64 (by decide) ?_
                refine lv_goto (tgt := 69) hx hb dX12_isAble_65 (by decide) ?_
                refine lv_istore_n (lv' := [(3, .int 1), (4, .int j), (0, .ref h), (1, .int i), (2, .int d)]) hx hb dX12_isAble_69 rfl hl (by decide) rfl (fun ls hl => ?_)
                obtain ⟨x_14, ex_14⟩ : ∃ y : Int32, y = j + 1 := ⟨_, rfl⟩
                refine lv_iinc (v := x_14) (lv' := [(4, .int x_14), (3, .int 1), (0, .ref h), (1, .int i), (2, .int d)]) hx hb dX12_isAble_70 hl (k := 1) rfl (by rw [ex_14]; rfl) (by decide) rfl (fun ls hl => ?_)
                first | have tx_14 := t_add ex_14 (by omega) (by omega) | skip
                refine lv_goto (tgt := 19) hx hb dX12_isAble_73 (by decide) ?_
                exact ih19 1 x_14 (by omega) (by omega) (by omega) (by omega) ls (lv_sub hl [0, 1, 2, 3, 4] rfl)
    exact loop19 ((v_aways.toInt - (0 : Int32).toInt).toNat + 1) 0 0 (by omega) (by omega) (by omega) (by omega) ls (lv_sub hl [0, 1, 2, 3, 4] rfl)
  · have tc_2 := t_nlt c_2
    refine lv_iconst (v := 1) hx hb dX12_isAble_10 (by decide) ?_
    refine lv_goto (tgt := 15) hx hb dX12_isAble_11 (by decide) ?_
    refine lv_istore_n (lv' := [(3, .int 1), (0, .ref h), (1, .int i), (2, .int d)]) hx hb dX12_isAble_15 rfl hl (by decide) rfl (fun ls hl => ?_)
    refine lv_iconst (v := 0) hx hb dX12_isAble_16 (by decide) ?_
    refine lv_istore (lv' := [(4, .int 0), (3, .int 1), (0, .ref h), (1, .int i), (2, .int d)]) hx hb dX12_isAble_17 hl (by decide) rfl (fun ls hl => ?_)
    have loop19 : ∀ (fuel : Nat) (a : Int32) (j : Int32), v_aways.toInt - j.toInt < (fuel : Int) → (0 ≤ j.toInt) → (j.toInt ≤ v_aways.toInt) → (a.toInt = 0 ∨ a.toInt = 1) → ∀ ls : Array Slot, lv_has ls 5 [(4, .int j), (3, .int a), (0, .ref h), (1, .int i), (2, .int d)] → W p l e ({ frames := 1, cells := 0, slots := 0, locals := 22 } : Room) s m args below meth c s.heap [] 0 0 Q (F0 m 19 ls []) := by
      intro fuel
      induction fuel with
      | zero =>
        intro a j hmu hj0 hj1 ha ls hl
        exfalso; omega
      | succ fuel ih19 =>
        intro a j hmu hj0 hj1 ha ls hl
        refine lv_iload hx hb dX12_isAble_19 (lv_at hl 0 rfl) ?_
        refine lv_aload_n hx hb dX12_isAble_21 rfl (lv_at hl 2 rfl) ?_
        refine va_get (D := D) (ci := 11) (v := .int v_aways) (C := RX12) (T := TX12) (N := 54) hx hb hts in_n_isAble_X12 hown hK.1 hP 0 rfl rfl 2 (by decide) lk1 (fun _ h9 => h9) rfl dX12_isAble_22 ?_
        refine lv_icmp_ge (tgt := 76) hx hb dX12_isAble_25 (by decide) (fun c_15 => ?_) (fun c_15 => ?_)
        · have tc_15 := t_le c_15
          refine lv_iload_n hx hb dX12_isAble_76 rfl (lv_at hl 1 rfl) ?_
          exact hret a _ _ (show (a.toInt = 0 ∨ a.toInt = 1) from by omega) (zb (by omega)) dX12_isAble_77
        · have tc_15 := t_nle c_15
          refine lv_iload_n hx hb dX12_isAble_28 rfl (lv_at hl 1 rfl) ?_
          refine lv_if_eq (tgt := 68) hx hb dX12_isAble_29 (by decide) (fun c_16 => ?_) (fun c_16 => ?_)
          · have tc_16 := t_eq c_16
            refine lv_iconst (v := 0) hx hb dX12_isAble_68 (by decide) ?_
            refine lv_istore_n (lv' := [(3, .int 0), (4, .int j), (0, .ref h), (1, .int i), (2, .int d)]) hx hb dX12_isAble_69 rfl hl (by decide) rfl (fun ls hl => ?_)
            obtain ⟨x_17, ex_17⟩ : ∃ y : Int32, y = j + 1 := ⟨_, rfl⟩
            refine lv_iinc (v := x_17) (lv' := [(4, .int x_17), (3, .int 0), (0, .ref h), (1, .int i), (2, .int d)]) hx hb dX12_isAble_70 hl (k := 1) rfl (by rw [ex_17]; rfl) (by decide) rfl (fun ls hl => ?_)
            first | have tx_17 := t_add ex_17 (by omega) (by omega) | skip
            refine lv_goto (tgt := 19) hx hb dX12_isAble_73 (by decide) ?_
            exact ih19 0 x_17 (by omega) (by omega) (by omega) (by omega) ls (lv_sub hl [0, 1, 2, 3, 4] rfl)
          · have tc_16 := t_neq c_16
            refine lv_aload_n hx hb dX12_isAble_32 rfl (lv_at hl 2 rfl) ?_
            refine va_get (D := D) (ci := 11) (v := .ref a_awayMonk) (C := RX12) (T := TX12) (N := 54) hx hb hts in_n_isAble_X12 hown hK.1 hP 0 rfl rfl 13 (by decide) lk2 (fun _ h9 => h9) rfl dX12_isAble_33 ?_
            refine lv_iload hx hb dX12_isAble_36 (lv_at hl 0 rfl) ?_
            refine va_iald hx hb hK.1 hP 2 0 rfl rfl (t_in (by omega) (by omega)) dX12_isAble_38 ?_
            refine lv_topi (fun y_18 ey_18 => ?_)
            refine lv_iload_n hx hb dX12_isAble_39 rfl (lv_at hl 3 rfl) ?_
            refine lv_icmp_ne (tgt := 64) hx hb dX12_isAble_40 (by decide) (fun c_19 => ?_) (fun c_19 => ?_)
            · have tc_19 := t_neq c_19
              refine lv_iconst (v := 1) hx hb dX12_isAble_64 (by decide) ?_
              refine lv_goto (tgt := 69) hx hb dX12_isAble_65 (by decide) ?_
              refine lv_istore_n (lv' := [(3, .int 1), (4, .int j), (0, .ref h), (1, .int i), (2, .int d)]) hx hb dX12_isAble_69 rfl hl (by decide) rfl (fun ls hl => ?_)
              obtain ⟨x_20, ex_20⟩ : ∃ y : Int32, y = j + 1 := ⟨_, rfl⟩
              refine lv_iinc (v := x_20) (lv' := [(4, .int x_20), (3, .int 1), (0, .ref h), (1, .int i), (2, .int d)]) hx hb dX12_isAble_70 hl (k := 1) rfl (by rw [ex_20]; rfl) (by decide) rfl (fun ls hl => ?_)
              first | have tx_20 := t_add ex_20 (by omega) (by omega) | skip
              refine lv_goto (tgt := 19) hx hb dX12_isAble_73 (by decide) ?_
              exact ih19 1 x_20 (by omega) (by omega) (by omega) (by omega) ls (lv_sub hl [0, 1, 2, 3, 4] rfl)
            · have tc_19 := t_eq c_19
              refine lv_iload_n hx hb dX12_isAble_43 rfl (lv_at hl 4 rfl) ?_
              refine lv_aload_n hx hb dX12_isAble_44 rfl (lv_at hl 2 rfl) ?_
              refine va_get (D := D) (ci := 11) (v := .ref a_awayFrom) (C := RX12) (T := TX12) (N := 54) hx hb hts in_n_isAble_X12 hown hK.1 hP 0 rfl rfl 14 (by decide) lk3 (fun _ h9 => h9) rfl dX12_isAble_45 ?_
              refine lv_iload hx hb dX12_isAble_48 (lv_at hl 0 rfl) ?_
              refine va_iald hx hb hK.1 hP 3 0 rfl rfl (t_in (by omega) (by omega)) dX12_isAble_50 ?_
              refine lv_topi (fun y_21 ey_21 => ?_)
              refine lv_aload_n hx hb dX12_isAble_51 rfl (lv_at hl 2 rfl) ?_
              refine va_get (D := D) (ci := 11) (v := .ref a_awayTo) (C := RX12) (T := TX12) (N := 54) hx hb hts in_n_isAble_X12 hown hK.1 hP 0 rfl rfl 15 (by decide) lk4 (fun _ h9 => h9) rfl dX12_isAble_52 ?_
              refine lv_iload hx hb dX12_isAble_55 (lv_at hl 0 rfl) ?_
              refine va_iald hx hb hK.1 hP 4 0 rfl rfl (t_in (by omega) (by omega)) dX12_isAble_57 ?_
              refine lv_topi (fun y_22 ey_22 => ?_)
              have hPc := hP.sub (ws' := []) [] rfl
              refine roS (As := [.int d, .int y_21, .int y_22]) (rest := []) S (m_isIn  ) (va_cwS 3 hts gX12_isAble_X12_isIn rfl rfl rfl hd_X12_isIn ⟨Nat.le_of_ble_eq_true rfl, Nat.le_of_ble_eq_true rfl⟩) hK hPc rfl hl.1 rfl (Nat.le_of_ble_eq_true rfl) dX12_isAble_58 ⟨Nat.le_of_ble_eq_true rfl, Nat.le_of_ble_eq_true rfl⟩ (fun r_23 hw_23 => ?_)
              have hw_23 : (r_23.toInt = 1 ∧ y_21.toInt ≤ d.toInt ∧ d.toInt ≤ y_22.toInt) ∨ (r_23.toInt = 0 ∧ (d.toInt < y_21.toInt ∨ y_22.toInt < d.toInt)) := hw_23
              refine lv_if_ne (tgt := 68) hx hb dX12_isAble_61 (by decide) (fun c_24 => ?_) (fun c_24 => ?_)
              · have tc_24 := t_neq c_24
                refine lv_iconst (v := 0) hx hb dX12_isAble_68 (by decide) ?_
                refine lv_istore_n (lv' := [(3, .int 0), (4, .int j), (0, .ref h), (1, .int i), (2, .int d)]) hx hb dX12_isAble_69 rfl hl (by decide) rfl (fun ls hl => ?_)
                obtain ⟨x_25, ex_25⟩ : ∃ y : Int32, y = j + 1 := ⟨_, rfl⟩
                refine lv_iinc (v := x_25) (lv' := [(4, .int x_25), (3, .int 0), (0, .ref h), (1, .int i), (2, .int d)]) hx hb dX12_isAble_70 hl (k := 1) rfl (by rw [ex_25]; rfl) (by decide) rfl (fun ls hl => ?_)
                first | have tx_25 := t_add ex_25 (by omega) (by omega) | skip
                refine lv_goto (tgt := 19) hx hb dX12_isAble_73 (by decide) ?_
                exact ih19 0 x_25 (by omega) (by omega) (by omega) (by omega) ls (lv_sub hl [0, 1, 2, 3, 4] rfl)
              · have tc_24 := t_eq c_24
                refine lv_iconst (v := 1) hx hb dX12_isAble_64 (by decide) ?_
                refine lv_goto (tgt := 69) hx hb dX12_isAble_65 (by decide) ?_
                refine lv_istore_n (lv' := [(3, .int 1), (4, .int j), (0, .ref h), (1, .int i), (2, .int d)]) hx hb dX12_isAble_69 rfl hl (by decide) rfl (fun ls hl => ?_)
                obtain ⟨x_26, ex_26⟩ : ∃ y : Int32, y = j + 1 := ⟨_, rfl⟩
                refine lv_iinc (v := x_26) (lv' := [(4, .int x_26), (3, .int 1), (0, .ref h), (1, .int i), (2, .int d)]) hx hb dX12_isAble_70 hl (k := 1) rfl (by rw [ex_26]; rfl) (by decide) rfl (fun ls hl => ?_)
                first | have tx_26 := t_add ex_26 (by omega) (by omega) | skip
                refine lv_goto (tgt := 19) hx hb dX12_isAble_73 (by decide) ?_
                exact ih19 1 x_26 (by omega) (by omega) (by omega) (by omega) ls (lv_sub hl [0, 1, 2, 3, 4] rfl)
    exact loop19 ((v_aways.toInt - (0 : Int32).toInt).toNat + 1) 1 0 (by omega) (by omega) (by omega) (by omega) ls (lv_sub hl [0, 1, 2, 3, 4] rfl)

theorem in_n_hasDuty_X12 : ∀ w ∈ wsX120, w ∈ wsX12_hasDuty := tl_X12_hasDuty_X12
set_option maxHeartbeats 8000000 in
set_option maxRecDepth 100000 in
theorem n_hasDuty {l : Launch} {D : va_G} {cI cZ cB : ClassId} {h a_isPriest a_bars a_joined a_turns a_awayMonk a_awayFrom a_awayTo a_feastDay a_rank a_isWeekly a_isDouble a_giftDay a_giftFrom a_owed a_said a_spared a_leaveGift a_leaveFrom a_leaveTo a_lateDay a_lateOffice a_lateBy a_guests a_who a_used a_lacks a_candles a_masses a_owing a_heldOn a_waits a_tape a_text a_statements a_taken a_sort a_first a_second : Nat} {v_today v_monks v_aways v_feasts v_gifts v_leaves v_lates v_store v_allCandles v_taped v_size v_at v_fault v_rules v_wordEnd v_number : Int32} {f_who : Nat → Int32} {i d : Int32} (hd0 : 0 ≤ d.toInt) (hd1 : d.toInt ≤ 1094) : Met l yX12_hasDuty wsX12_hasDuty ({ frames := 0, cells := 0, slots := 0, locals := 0 }) (RO D cI cZ cB [.ref h, .int i, .int d] [(h, .inr (11, [.int v_today, .int v_monks, .int v_aways, .int v_feasts, .int v_gifts, .int v_leaves, .int v_lates, .int v_store, .int v_allCandles, .ref a_isPriest, .ref a_bars, .ref a_joined, .ref a_turns, .ref a_awayMonk, .ref a_awayFrom, .ref a_awayTo, .ref a_feastDay, .ref a_rank, .ref a_isWeekly, .ref a_isDouble, .ref a_giftDay, .ref a_giftFrom, .ref a_owed, .ref a_said, .ref a_spared, .ref a_leaveGift, .ref a_leaveFrom, .ref a_leaveTo, .ref a_lateDay, .ref a_lateOffice, .ref a_lateBy, .ref a_guests, .ref a_who, .ref a_used, .ref a_lacks, .ref a_candles, .ref a_masses, .ref a_owing, .ref a_heldOn, .ref a_waits, .ref a_tape, .ref a_text, .int v_taped, .int v_size, .int v_at, .int v_fault, .int v_rules, .ref a_statements, .ref a_taken, .ref a_sort, .ref a_first, .ref a_second, .int v_wordEnd, .int v_number])), (a_who, .inl (cI, 4380, .inl f_who))]) (vp_Si (fun r : Int32 => (r.toInt = 0 ∨ r.toInt = 1))) 0 0 (fun _ => False) := by
  refine ro_ret (cc := cX12_hasDuty) (maxL := 5) (ty := .boolean) (own := RX12) (by decide) rfl rfl (Nat.le_of_ble_eq_true rfl) ?_
  intro p e s m args below meth c Q S hret hP hK ls hl
  obtain ⟨hx, hb, hml, hown, hts⟩ := id S
  have hl : lv_has ls 5 [(0, .ref h), (1, .int i), (2, .int d)] := hl
  have kk0 : (0 : Int32).toInt = 0 := by decide
  have kk1 : (1 : Int32).toInt = 1 := by decide
  have kk4 : (4 : Int32).toInt = 4 := by decide
  have lk0 := hts (.fieldLink RX12 80 "AbbeyHoursModel" "who" "[I") (List.mem_cons_of_mem _ (List.mem_append_left _ (List.mem_of_getElem? (i := 0) rfl)))
  refine lv_iconst (v := 0) hx hb dX12_hasDuty_0 (by decide) ?_
  refine lv_istore_n (lv' := [(3, .int 0), (0, .ref h), (1, .int i), (2, .int d)]) hx hb dX12_hasDuty_1 rfl hl (by decide) rfl (fun ls hl => ?_)
  refine lv_iconst (v := 0) hx hb dX12_hasDuty_2 (by decide) ?_
  refine lv_istore (lv' := [(4, .int 0), (3, .int 0), (0, .ref h), (1, .int i), (2, .int d)]) hx hb dX12_hasDuty_3 hl (by decide) rfl (fun ls hl => ?_)
  have loop5 : ∀ (fuel : Nat) (a : Int32) (j : Int32), 4 - j.toInt < (fuel : Int) → (0 ≤ j.toInt) → (j.toInt ≤ 4) → (a.toInt = 0 ∨ a.toInt = 1) → ∀ ls : Array Slot, lv_has ls 5 [(4, .int j), (3, .int a), (0, .ref h), (1, .int i), (2, .int d)] → W p l e ({ frames := 0, cells := 0, slots := 0, locals := 0 } : Room) s m args below meth c s.heap [] 0 0 Q (F0 m 5 ls []) := by
    intro fuel
    induction fuel with
    | zero =>
      intro a j hmu hj0 hj1 ha ls hl
      exfalso; omega
    | succ fuel ih5 =>
      intro a j hmu hj0 hj1 ha ls hl
      refine lv_iload hx hb dX12_hasDuty_5 (lv_at hl 0 rfl) ?_
      refine lv_iconst (v := 4) hx hb dX12_hasDuty_7 (by decide) ?_
      refine lv_icmp_ge (tgt := 42) hx hb dX12_hasDuty_8 (by decide) (fun c_1 => ?_) (fun c_1 => ?_)
      · have tc_1 := t_le c_1
        refine lv_iload_n hx hb dX12_hasDuty_42 rfl (lv_at hl 1 rfl) ?_
        exact hret a _ _ (show (a.toInt = 0 ∨ a.toInt = 1) from by omega) (zb (by omega)) dX12_hasDuty_43
      · have tc_1 := t_nle c_1
        refine lv_iload_n hx hb dX12_hasDuty_11 rfl (lv_at hl 1 rfl) ?_
        refine lv_if_ne (tgt := 30) hx hb dX12_hasDuty_12 (by decide) (fun c_2 => ?_) (fun c_2 => ?_)
        · have tc_2 := t_neq c_2
          refine lv_iconst (v := 1) hx hb dX12_hasDuty_30 (by decide) ?_
          refine lv_goto (tgt := 35) hx hb dX12_hasDuty_31 (by decide) ?_
          refine lv_istore_n (lv' := [(3, .int 1), (4, .int j), (0, .ref h), (1, .int i), (2, .int d)]) hx hb dX12_hasDuty_35 rfl hl (by decide) rfl (fun ls hl => ?_)
          obtain ⟨x_3, ex_3⟩ : ∃ y : Int32, y = j + 1 := ⟨_, rfl⟩
          refine lv_iinc (v := x_3) (lv' := [(4, .int x_3), (3, .int 1), (0, .ref h), (1, .int i), (2, .int d)]) hx hb dX12_hasDuty_36 hl (k := 1) rfl (by rw [ex_3]; rfl) (by decide) rfl (fun ls hl => ?_)
          first | have tx_3 := t_add ex_3 (by omega) (by omega) | skip
          refine lv_goto (tgt := 5) hx hb dX12_hasDuty_39 (by decide) ?_
          exact ih5 1 x_3 (by omega) (by omega) (by omega) (by omega) ls (lv_sub hl [0, 1, 2, 3, 4] rfl)
        · have tc_2 := t_eq c_2
          refine lv_aload_n hx hb dX12_hasDuty_15 rfl (lv_at hl 2 rfl) ?_
          refine va_get (D := D) (ci := 11) (v := .ref a_who) (C := RX12) (T := TX12) (N := 54) hx hb hts in_n_hasDuty_X12 hown hK.1 hP 0 rfl rfl 32 (by decide) lk0 (fun _ h9 => h9) rfl dX12_hasDuty_16 ?_
          refine lv_iconst (v := 4) hx hb dX12_hasDuty_19 (by decide) ?_
          refine lv_iload_n hx hb dX12_hasDuty_20 rfl (lv_at hl 4 rfl) ?_
          refine lv_imul hx hb dX12_hasDuty_21 ?_
          refine lv_topi (fun x_4 ex_4 => ?_)
          first | have tx_4 := t_mulL kk4 ex_4 (by omega) (by omega) | skip
          refine lv_iload hx hb dX12_hasDuty_22 (lv_at hl 0 rfl) ?_
          refine lv_iadd hx hb dX12_hasDuty_24 ?_
          refine lv_topi (fun x_5 ex_5 => ?_)
          first | have tx_5 := t_add ex_5 (by omega) (by omega) | skip
          refine va_iald hx hb hK.1 hP 1 0 rfl rfl (t_in (by omega) (by omega)) dX12_hasDuty_25 ?_
          refine lv_topi (fun y_6 ey_6 => ?_)
          refine lv_iload_n hx hb dX12_hasDuty_26 rfl (lv_at hl 3 rfl) ?_
          refine lv_icmp_ne (tgt := 34) hx hb dX12_hasDuty_27 (by decide) (fun c_7 => ?_) (fun c_7 => ?_)
          · have tc_7 := t_neq c_7
            refine lv_iconst (v := 0) hx hb dX12_hasDuty_34 (by decide) ?_
            refine lv_istore_n (lv' := [(3, .int 0), (4, .int j), (0, .ref h), (1, .int i), (2, .int d)]) hx hb dX12_hasDuty_35 rfl hl (by decide) rfl (fun ls hl => ?_)
            obtain ⟨x_8, ex_8⟩ : ∃ y : Int32, y = j + 1 := ⟨_, rfl⟩
            refine lv_iinc (v := x_8) (lv' := [(4, .int x_8), (3, .int 0), (0, .ref h), (1, .int i), (2, .int d)]) hx hb dX12_hasDuty_36 hl (k := 1) rfl (by rw [ex_8]; rfl) (by decide) rfl (fun ls hl => ?_)
            first | have tx_8 := t_add ex_8 (by omega) (by omega) | skip
            refine lv_goto (tgt := 5) hx hb dX12_hasDuty_39 (by decide) ?_
            exact ih5 0 x_8 (by omega) (by omega) (by omega) (by omega) ls (lv_sub hl [0, 1, 2, 3, 4] rfl)
          · have tc_7 := t_eq c_7
            refine lv_iconst (v := 1) hx hb dX12_hasDuty_30 (by decide) ?_
            refine lv_goto (tgt := 35) hx hb dX12_hasDuty_31 (by decide) ?_
            refine lv_istore_n (lv' := [(3, .int 1), (4, .int j), (0, .ref h), (1, .int i), (2, .int d)]) hx hb dX12_hasDuty_35 rfl hl (by decide) rfl (fun ls hl => ?_)
            obtain ⟨x_9, ex_9⟩ : ∃ y : Int32, y = j + 1 := ⟨_, rfl⟩
            refine lv_iinc (v := x_9) (lv' := [(4, .int x_9), (3, .int 1), (0, .ref h), (1, .int i), (2, .int d)]) hx hb dX12_hasDuty_36 hl (k := 1) rfl (by rw [ex_9]; rfl) (by decide) rfl (fun ls hl => ?_)
            first | have tx_9 := t_add ex_9 (by omega) (by omega) | skip
            refine lv_goto (tgt := 5) hx hb dX12_hasDuty_39 (by decide) ?_
            exact ih5 1 x_9 (by omega) (by omega) (by omega) (by omega) ls (lv_sub hl [0, 1, 2, 3, 4] rfl)
  exact loop5 ((4 - (0 : Int32).toInt).toNat + 1) 0 0 (by omega) (by omega) (by omega) (by omega) ls (lv_sub hl [0, 1, 2, 3, 4] rfl)

theorem in_n_nextFor_X12 : ∀ w ∈ wsX120, w ∈ wsX12_nextFor := tl_X12_nextFor_X12
set_option maxHeartbeats 8000000 in
set_option maxRecDepth 100000 in
theorem n_nextFor {l : Launch} {D : va_G} {cI cZ cB : ClassId} {h a_isPriest a_bars a_joined a_turns a_awayMonk a_awayFrom a_awayTo a_feastDay a_rank a_isWeekly a_isDouble a_giftDay a_giftFrom a_owed a_said a_spared a_leaveGift a_leaveFrom a_leaveTo a_lateDay a_lateOffice a_lateBy a_guests a_who a_used a_lacks a_candles a_masses a_owing a_heldOn a_waits a_tape a_text a_statements a_taken a_sort a_first a_second : Nat} {v_today v_monks v_aways v_feasts v_gifts v_leaves v_lates v_store v_allCandles v_taped v_size v_at v_fault v_rules v_wordEnd v_number : Int32} {f_bars f_joined f_turns f_awayMonk f_awayFrom f_awayTo f_who : Nat → Int32} {k d b : Int32} (h0_monks : 0 ≤ v_monks.toInt) (h1_monks : v_monks.toInt ≤ 24) (h0_aways : 0 ≤ v_aways.toInt) (h1_aways : v_aways.toInt ≤ 60) (hd0 : 0 ≤ d.toInt) (hd1 : d.toInt ≤ 1094) (hk0 : 0 ≤ k.toInt) (hk1 : k.toInt < 4) : Met l yX12_nextFor wsX12_nextFor ({ frames := 2, cells := 0, slots := 0, locals := 46 }) (RO D cI cZ cB [.ref h, .int k, .int d, .int b] [(h, .inr (11, [.int v_today, .int v_monks, .int v_aways, .int v_feasts, .int v_gifts, .int v_leaves, .int v_lates, .int v_store, .int v_allCandles, .ref a_isPriest, .ref a_bars, .ref a_joined, .ref a_turns, .ref a_awayMonk, .ref a_awayFrom, .ref a_awayTo, .ref a_feastDay, .ref a_rank, .ref a_isWeekly, .ref a_isDouble, .ref a_giftDay, .ref a_giftFrom, .ref a_owed, .ref a_said, .ref a_spared, .ref a_leaveGift, .ref a_leaveFrom, .ref a_leaveTo, .ref a_lateDay, .ref a_lateOffice, .ref a_lateBy, .ref a_guests, .ref a_who, .ref a_used, .ref a_lacks, .ref a_candles, .ref a_masses, .ref a_owing, .ref a_heldOn, .ref a_waits, .ref a_tape, .ref a_text, .int v_taped, .int v_size, .int v_at, .int v_fault, .int v_rules, .ref a_statements, .ref a_taken, .ref a_sort, .ref a_first, .ref a_second, .int v_wordEnd, .int v_number])), (a_bars, .inl (cI, 24, .inl f_bars)), (a_joined, .inl (cI, 24, .inl f_joined)), (a_turns, .inl (cI, 96, .inl f_turns)), (a_awayMonk, .inl (cI, 60, .inl f_awayMonk)), (a_awayFrom, .inl (cI, 60, .inl f_awayFrom)), (a_awayTo, .inl (cI, 60, .inl f_awayTo)), (a_who, .inl (cI, 4380, .inl f_who))]) (vp_Si (fun r : Int32 => r.toInt = -1 ∨ (0 ≤ r.toInt ∧ r.toInt < v_monks.toInt))) 0 0 (fun _ => False) := by
  refine ro_ret (cc := cX12_nextFor) (maxL := 6) (ty := .int) (own := RX12) (by decide) rfl rfl (Nat.le_of_ble_eq_true rfl) ?_
  intro p e s m args below meth c Q S hret hP hK ls hl
  obtain ⟨hx, hb, hml, hown, hts⟩ := id S
  have hl : lv_has ls 6 [(0, .ref h), (1, .int k), (2, .int d), (3, .int b)] := hl
  have kkm1 : (-1 : Int32).toInt = -1 := by decide
  have kk0 : (0 : Int32).toInt = 0 := by decide
  have kk1 : (1 : Int32).toInt = 1 := by decide
  have kk4 : (4 : Int32).toInt = 4 := by decide
  have lk0 := hts (.fieldLink RX12 134 "AbbeyHoursModel" "monks" "I") (List.mem_cons_of_mem _ (List.mem_append_left _ (List.mem_of_getElem? (i := 0) rfl)))
  have lk1 := hts (.fieldLink RX12 13 "AbbeyHoursModel" "bars" "[I") (List.mem_cons_of_mem _ (List.mem_append_left _ (List.mem_of_getElem? (i := 1) rfl)))
  have lk2 := hts (.fieldLink RX12 20 "AbbeyHoursModel" "turns" "[I") (List.mem_cons_of_mem _ (List.mem_append_left _ (List.mem_of_getElem? (i := 2) rfl)))
  refine lv_iconst (v := (-1)) hx hb dX12_nextFor_0 (by decide) ?_
  refine lv_istore (lv' := [(4, .int (-1)), (0, .ref h), (1, .int k), (2, .int d), (3, .int b)]) hx hb dX12_nextFor_1 hl (by decide) rfl (fun ls hl => ?_)
  refine lv_iconst (v := 0) hx hb dX12_nextFor_3 (by decide) ?_
  refine lv_istore (lv' := [(5, .int 0), (4, .int (-1)), (0, .ref h), (1, .int k), (2, .int d), (3, .int b)]) hx hb dX12_nextFor_4 hl (by decide) rfl (fun ls hl => ?_)
  have loop6 : ∀ (fuel : Nat) (a : Int32) (j : Int32), v_monks.toInt - j.toInt < (fuel : Int) → (0 ≤ j.toInt) → (j.toInt ≤ v_monks.toInt) → (a.toInt = -1 ∨ (0 ≤ a.toInt ∧ a.toInt < v_monks.toInt)) → ∀ ls : Array Slot, lv_has ls 6 [(5, .int j), (4, .int a), (0, .ref h), (1, .int k), (2, .int d), (3, .int b)] → W p l e ({ frames := 2, cells := 0, slots := 0, locals := 46 } : Room) s m args below meth c s.heap [] 0 0 Q (F0 m 6 ls []) := by
    intro fuel
    induction fuel with
    | zero =>
      intro a j hmu hj0 hj1 ha ls hl
      exfalso; omega
    | succ fuel ih6 =>
      intro a j hmu hj0 hj1 ha ls hl
      refine lv_iload hx hb dX12_nextFor_6 (lv_at hl 0 rfl) ?_
      refine lv_aload_n hx hb dX12_nextFor_8 rfl (lv_at hl 2 rfl) ?_
      refine va_get (D := D) (ci := 11) (v := .int v_monks) (C := RX12) (T := TX12) (N := 54) hx hb hts in_n_nextFor_X12 hown hK.1 hP 0 rfl rfl 1 (by decide) lk0 (fun _ h9 => h9) rfl dX12_nextFor_9 ?_
      refine lv_icmp_ge (tgt := 100) hx hb dX12_nextFor_12 (by decide) (fun c_1 => ?_) (fun c_1 => ?_)
      · have tc_1 := t_le c_1
        refine lv_iload hx hb dX12_nextFor_100 (lv_at hl 1 rfl) ?_
        exact hret a _ _ (show a.toInt = -1 ∨ (0 ≤ a.toInt ∧ a.toInt < v_monks.toInt) from by omega) rfl dX12_nextFor_102
      · have tc_1 := t_nle c_1
        refine lv_iload hx hb dX12_nextFor_15 (lv_at hl 0 rfl) ?_
        refine lv_iload_n hx hb dX12_nextFor_17 rfl (lv_at hl 5 rfl) ?_
        refine lv_icmp_eq (tgt := 94) hx hb dX12_nextFor_18 (by decide) (fun c_2 => ?_) (fun c_2 => ?_)
        · have tc_2 := t_eq c_2
          obtain ⟨x_3, ex_3⟩ : ∃ y : Int32, y = j + 1 := ⟨_, rfl⟩
          refine lv_iinc (v := x_3) (lv' := [(5, .int x_3), (4, .int a), (0, .ref h), (1, .int k), (2, .int d), (3, .int b)]) hx hb dX12_nextFor_94 hl (k := 0) rfl (by rw [ex_3]; rfl) (by decide) rfl (fun ls hl => ?_)
          first | have tx_3 := t_add ex_3 (by omega) (by omega) | skip
          refine lv_goto (tgt := 6) hx hb dX12_nextFor_97 (by decide) ?_
          exact ih6 a x_3 (by omega) (by omega) (by omega) (by omega) ls (lv_sub hl [0, 1, 2, 3, 4, 5] rfl)
        · have tc_2 := t_neq c_2
          refine lv_aload_n hx hb dX12_nextFor_21 rfl (lv_at hl 2 rfl) ?_
          refine va_get (D := D) (ci := 11) (v := .ref a_bars) (C := RX12) (T := TX12) (N := 54) hx hb hts in_n_nextFor_X12 hown hK.1 hP 0 rfl rfl 10 (by decide) lk1 (fun _ h9 => h9) rfl dX12_nextFor_22 ?_
          refine lv_iload hx hb dX12_nextFor_25 (lv_at hl 0 rfl) ?_
          refine va_iald hx hb hK.1 hP 1 0 rfl rfl (t_in (by omega) (by omega)) dX12_nextFor_27 ?_
          refine lv_topi (fun y_4 ey_4 => ?_)
          refine lv_iload_n hx hb dX12_nextFor_28 rfl (lv_at hl 3 rfl) ?_
          refine lv_ishr hx hb dX12_nextFor_29 ?_
          refine lv_topi (fun x_5 ex_5 => ?_)
          refine lv_iconst (v := 1) hx hb dX12_nextFor_30 (by decide) ?_
          refine lv_iand hx hb dX12_nextFor_31 ?_
          refine lv_topi (fun x_6 ex_6 => ?_)
          refine lv_iconst (v := 1) hx hb dX12_nextFor_32 (by decide) ?_
          refine lv_icmp_eq (tgt := 94) hx hb dX12_nextFor_33 (by decide) (fun c_7 => ?_) (fun c_7 => ?_)
          · have tc_7 := t_eq c_7
            obtain ⟨x_8, ex_8⟩ : ∃ y : Int32, y = j + 1 := ⟨_, rfl⟩
            refine lv_iinc (v := x_8) (lv' := [(5, .int x_8), (4, .int a), (0, .ref h), (1, .int k), (2, .int d), (3, .int b)]) hx hb dX12_nextFor_94 hl (k := 0) rfl (by rw [ex_8]; rfl) (by decide) rfl (fun ls hl => ?_)
            first | have tx_8 := t_add ex_8 (by omega) (by omega) | skip
            refine lv_goto (tgt := 6) hx hb dX12_nextFor_97 (by decide) ?_
            exact ih6 a x_8 (by omega) (by omega) (by omega) (by omega) ls (lv_sub hl [0, 1, 2, 3, 4, 5] rfl)
          · have tc_7 := t_neq c_7
            refine lv_aload_n hx hb dX12_nextFor_36 rfl (lv_at hl 2 rfl) ?_
            refine lv_iload hx hb dX12_nextFor_37 (lv_at hl 0 rfl) ?_
            refine lv_iload_n hx hb dX12_nextFor_39 rfl (lv_at hl 4 rfl) ?_
            have hPc := hP.sub (ws' := [(h, .inr (11, [.int v_today, .int v_monks, .int v_aways, .int v_feasts, .int v_gifts, .int v_leaves, .int v_lates, .int v_store, .int v_allCandles, .ref a_isPriest, .ref a_bars, .ref a_joined, .ref a_turns, .ref a_awayMonk, .ref a_awayFrom, .ref a_awayTo, .ref a_feastDay, .ref a_rank, .ref a_isWeekly, .ref a_isDouble, .ref a_giftDay, .ref a_giftFrom, .ref a_owed, .ref a_said, .ref a_spared, .ref a_leaveGift, .ref a_leaveFrom, .ref a_leaveTo, .ref a_lateDay, .ref a_lateOffice, .ref a_lateBy, .ref a_guests, .ref a_who, .ref a_used, .ref a_lacks, .ref a_candles, .ref a_masses, .ref a_owing, .ref a_heldOn, .ref a_waits, .ref a_tape, .ref a_text, .int v_taped, .int v_size, .int v_at, .int v_fault, .int v_rules, .ref a_statements, .ref a_taken, .ref a_sort, .ref a_first, .ref a_second, .int v_wordEnd, .int v_number])), (a_joined, .inl (cI, 24, .inl f_joined)), (a_awayMonk, .inl (cI, 60, .inl f_awayMonk)), (a_awayFrom, .inl (cI, 60, .inl f_awayFrom)), (a_awayTo, .inl (cI, 60, .inl f_awayTo))]) [0, 2, 4, 5, 6] rfl
            refine roV (As := [.int j, .int d]) (rest := []) S (n_isAble  (by omega) (by omega) (by omega) (by omega)) (cwV 2 hts gX12_nextFor_X12_isAble rfl rfl rfl ⟨rfl, hd_X12_isAble⟩ ⟨Nat.le_of_ble_eq_true rfl, Nat.le_of_ble_eq_true rfl⟩) hK hPc (va_recv hK.1 hPc (ci := 11) (q0 := 0) rfl rfl) rfl hl.1 rfl (Nat.le_of_ble_eq_true rfl) dX12_nextFor_40 ⟨Nat.le_of_ble_eq_true rfl, Nat.le_of_ble_eq_true rfl⟩ (fun r_9 hw_9 => ?_)
            have hw_9 : (r_9.toInt = 0 ∨ r_9.toInt = 1) := hw_9
            refine lv_if_eq (tgt := 94) hx hb dX12_nextFor_43 (by decide) (fun c_10 => ?_) (fun c_10 => ?_)
            · have tc_10 := t_eq c_10
              obtain ⟨x_11, ex_11⟩ : ∃ y : Int32, y = j + 1 := ⟨_, rfl⟩
              refine lv_iinc (v := x_11) (lv' := [(5, .int x_11), (4, .int a), (0, .ref h), (1, .int k), (2, .int d), (3, .int b)]) hx hb dX12_nextFor_94 hl (k := 0) rfl (by rw [ex_11]; rfl) (by decide) rfl (fun ls hl => ?_)
              first | have tx_11 := t_add ex_11 (by omega) (by omega) | skip
              refine lv_goto (tgt := 6) hx hb dX12_nextFor_97 (by decide) ?_
              exact ih6 a x_11 (by omega) (by omega) (by omega) (by omega) ls (lv_sub hl [0, 1, 2, 3, 4, 5] rfl)
            · have tc_10 := t_neq c_10
              refine lv_aload_n hx hb dX12_nextFor_46 rfl (lv_at hl 2 rfl) ?_
              refine lv_iload hx hb dX12_nextFor_47 (lv_at hl 0 rfl) ?_
              refine lv_iload_n hx hb dX12_nextFor_49 rfl (lv_at hl 4 rfl) ?_
              have hPc := hP.sub (ws' := [(h, .inr (11, [.int v_today, .int v_monks, .int v_aways, .int v_feasts, .int v_gifts, .int v_leaves, .int v_lates, .int v_store, .int v_allCandles, .ref a_isPriest, .ref a_bars, .ref a_joined, .ref a_turns, .ref a_awayMonk, .ref a_awayFrom, .ref a_awayTo, .ref a_feastDay, .ref a_rank, .ref a_isWeekly, .ref a_isDouble, .ref a_giftDay, .ref a_giftFrom, .ref a_owed, .ref a_said, .ref a_spared, .ref a_leaveGift, .ref a_leaveFrom, .ref a_leaveTo, .ref a_lateDay, .ref a_lateOffice, .ref a_lateBy, .ref a_guests, .ref a_who, .ref a_used, .ref a_lacks, .ref a_candles, .ref a_masses, .ref a_owing, .ref a_heldOn, .ref a_waits, .ref a_tape, .ref a_text, .int v_taped, .int v_size, .int v_at, .int v_fault, .int v_rules, .ref a_statements, .ref a_taken, .ref a_sort, .ref a_first, .ref a_second, .int v_wordEnd, .int v_number])), (a_who, .inl (cI, 4380, .inl f_who))]) [0, 7] rfl
              refine roV (As := [.int j, .int d]) (rest := []) S (n_hasDuty  (by omega) (by omega)) (cwV 2 hts gX12_nextFor_X12_hasDuty rfl rfl rfl ⟨rfl, hd_X12_hasDuty⟩ ⟨Nat.le_of_ble_eq_true rfl, Nat.le_of_ble_eq_true rfl⟩) hK hPc (va_recv hK.1 hPc (ci := 11) (q0 := 0) rfl rfl) rfl hl.1 rfl (Nat.le_of_ble_eq_true rfl) dX12_nextFor_50 ⟨Nat.le_of_ble_eq_true rfl, Nat.le_of_ble_eq_true rfl⟩ (fun r_12 hw_12 => ?_)
              have hw_12 : (r_12.toInt = 0 ∨ r_12.toInt = 1) := hw_12
              refine lv_if_eq (tgt := 59) hx hb dX12_nextFor_53 (by decide) (fun c_13 => ?_) (fun c_13 => ?_)
              · have tc_13 := t_eq c_13
                refine lv_iload hx hb dX12_nextFor_59 (lv_at hl 1 rfl) ?_
                refine lv_iconst (v := (-1)) hx hb dX12_nextFor_61 (by decide) ?_
                refine lv_icmp_eq (tgt := 90) hx hb dX12_nextFor_62 (by decide) (fun c_14 => ?_) (fun c_14 => ?_)
                · have tc_14 := t_eq c_14
                  refine lv_iload hx hb dX12_nextFor_90 (lv_at hl 0 rfl) ?_
                  refine lv_istore (lv' := [(4, .int j), (5, .int j), (0, .ref h), (1, .int k), (2, .int d), (3, .int b)]) hx hb dX12_nextFor_92 hl (by decide) rfl (fun ls hl => ?_)
                  obtain ⟨x_15, ex_15⟩ : ∃ y : Int32, y = j + 1 := ⟨_, rfl⟩
                  refine lv_iinc (v := x_15) (lv' := [(5, .int x_15), (4, .int j), (0, .ref h), (1, .int k), (2, .int d), (3, .int b)]) hx hb dX12_nextFor_94 hl (k := 1) rfl (by rw [ex_15]; rfl) (by decide) rfl (fun ls hl => ?_)
                  first | have tx_15 := t_add ex_15 (by omega) (by omega) | skip
                  refine lv_goto (tgt := 6) hx hb dX12_nextFor_97 (by decide) ?_
                  exact ih6 j x_15 (by omega) (by omega) (by omega) (by omega) ls (lv_sub hl [0, 1, 2, 3, 4, 5] rfl)
                · have tc_14 := t_neq c_14
                  refine lv_aload_n hx hb dX12_nextFor_65 rfl (lv_at hl 2 rfl) ?_
                  refine va_get (D := D) (ci := 11) (v := .ref a_turns) (C := RX12) (T := TX12) (N := 54) hx hb hts in_n_nextFor_X12 hown hK.1 hP 0 rfl rfl 12 (by decide) lk2 (fun _ h9 => h9) rfl dX12_nextFor_66 ?_
                  refine lv_iconst (v := 4) hx hb dX12_nextFor_69 (by decide) ?_
                  refine lv_iload hx hb dX12_nextFor_70 (lv_at hl 0 rfl) ?_
                  refine lv_imul hx hb dX12_nextFor_72 ?_
                  refine lv_topi (fun x_16 ex_16 => ?_)
                  first | have tx_16 := t_mulL kk4 ex_16 (by omega) (by omega) | skip
                  refine lv_iload_n hx hb dX12_nextFor_73 rfl (lv_at hl 3 rfl) ?_
                  refine lv_iadd hx hb dX12_nextFor_74 ?_
                  refine lv_topi (fun x_17 ex_17 => ?_)
                  first | have tx_17 := t_add ex_17 (by omega) (by omega) | skip
                  refine va_iald hx hb hK.1 hP 3 0 rfl rfl (t_in (by omega) (by omega)) dX12_nextFor_75 ?_
                  refine lv_topi (fun y_18 ey_18 => ?_)
                  refine lv_aload_n hx hb dX12_nextFor_76 rfl (lv_at hl 2 rfl) ?_
                  refine va_get (D := D) (ci := 11) (v := .ref a_turns) (C := RX12) (T := TX12) (N := 54) hx hb hts in_n_nextFor_X12 hown hK.1 hP 0 rfl rfl 12 (by decide) lk2 (fun _ h9 => h9) rfl dX12_nextFor_77 ?_
                  refine lv_iconst (v := 4) hx hb dX12_nextFor_80 (by decide) ?_
                  refine lv_iload hx hb dX12_nextFor_81 (lv_at hl 1 rfl) ?_
                  refine lv_imul hx hb dX12_nextFor_83 ?_
                  refine lv_topi (fun x_19 ex_19 => ?_)
                  first | have tx_19 := t_mulL kk4 ex_19 (by omega) (by omega) | skip
                  refine lv_iload_n hx hb dX12_nextFor_84 rfl (lv_at hl 3 rfl) ?_
                  refine lv_iadd hx hb dX12_nextFor_85 ?_
                  refine lv_topi (fun x_20 ex_20 => ?_)
                  first | have tx_20 := t_add ex_20 (by omega) (by omega) | skip
                  refine va_iald hx hb hK.1 hP 3 0 rfl rfl (t_in (by omega) (by omega)) dX12_nextFor_86 ?_
                  refine lv_topi (fun y_21 ey_21 => ?_)
                  refine lv_icmp_ge (tgt := 94) hx hb dX12_nextFor_87 (by decide) (fun c_22 => ?_) (fun c_22 => ?_)
                  · have tc_22 := t_le c_22
                    obtain ⟨x_23, ex_23⟩ : ∃ y : Int32, y = j + 1 := ⟨_, rfl⟩
                    refine lv_iinc (v := x_23) (lv' := [(5, .int x_23), (4, .int a), (0, .ref h), (1, .int k), (2, .int d), (3, .int b)]) hx hb dX12_nextFor_94 hl (k := 0) rfl (by rw [ex_23]; rfl) (by decide) rfl (fun ls hl => ?_)
                    first | have tx_23 := t_add ex_23 (by omega) (by omega) | skip
                    refine lv_goto (tgt := 6) hx hb dX12_nextFor_97 (by decide) ?_
                    exact ih6 a x_23 (by omega) (by omega) (by omega) (by omega) ls (lv_sub hl [0, 1, 2, 3, 4, 5] rfl)
                  · have tc_22 := t_nle c_22
                    refine lv_iload hx hb dX12_nextFor_90 (lv_at hl 0 rfl) ?_
                    refine lv_istore (lv' := [(4, .int j), (5, .int j), (0, .ref h), (1, .int k), (2, .int d), (3, .int b)]) hx hb dX12_nextFor_92 hl (by decide) rfl (fun ls hl => ?_)
                    obtain ⟨x_24, ex_24⟩ : ∃ y : Int32, y = j + 1 := ⟨_, rfl⟩
                    refine lv_iinc (v := x_24) (lv' := [(5, .int x_24), (4, .int j), (0, .ref h), (1, .int k), (2, .int d), (3, .int b)]) hx hb dX12_nextFor_94 hl (k := 1) rfl (by rw [ex_24]; rfl) (by decide) rfl (fun ls hl => ?_)
                    first | have tx_24 := t_add ex_24 (by omega) (by omega) | skip
                    refine lv_goto (tgt := 6) hx hb dX12_nextFor_97 (by decide) ?_
                    exact ih6 j x_24 (by omega) (by omega) (by omega) (by omega) ls (lv_sub hl [0, 1, 2, 3, 4, 5] rfl)
              · have tc_13 := t_neq c_13
                refine lv_goto (tgt := 94) hx hb dX12_nextFor_56 (by decide) ?_
                obtain ⟨x_25, ex_25⟩ : ∃ y : Int32, y = j + 1 := ⟨_, rfl⟩
                refine lv_iinc (v := x_25) (lv' := [(5, .int x_25), (4, .int a), (0, .ref h), (1, .int k), (2, .int d), (3, .int b)]) hx hb dX12_nextFor_94 hl (k := 0) rfl (by rw [ex_25]; rfl) (by decide) rfl (fun ls hl => ?_)
                first | have tx_25 := t_add ex_25 (by omega) (by omega) | skip
                refine lv_goto (tgt := 6) hx hb dX12_nextFor_97 (by decide) ?_
                exact ih6 a x_25 (by omega) (by omega) (by omega) (by omega) ls (lv_sub hl [0, 1, 2, 3, 4, 5] rfl)
  exact loop6 ((v_monks.toInt - (0 : Int32).toInt).toNat + 1) (-1) 0 (by omega) (by omega) (by omega) (by omega) ls (lv_sub hl [0, 1, 2, 3, 4, 5] rfl)

theorem in_n_has_X12 : ∀ w ∈ wsX120, w ∈ wsX12_has := tl_X12_has_X12
set_option maxHeartbeats 8000000 in
set_option maxRecDepth 100000 in
theorem n_has {l : Launch} {D : va_G} {cI cZ cB : ClassId} {sz : Nat} {h a_isPriest a_bars a_joined a_turns a_awayMonk a_awayFrom a_awayTo a_feastDay a_rank a_isWeekly a_isDouble a_giftDay a_giftFrom a_owed a_said a_spared a_leaveGift a_leaveFrom a_leaveTo a_lateDay a_lateOffice a_lateBy a_guests a_who a_used a_lacks a_candles a_masses a_owing a_heldOn a_waits a_tape a_text a_statements a_taken a_sort a_first a_second : Nat} {v_today v_monks v_aways v_feasts v_gifts v_leaves v_lates v_store v_allCandles v_taped v_size v_at v_fault v_rules v_wordEnd v_number : Int32} {f_turns f_who : Nat → Int32} {i k d : Int32} (hi : i.toInt = -1 ∨ (0 ≤ i.toInt ∧ i.toInt < 24)) (hk0 : 0 ≤ k.toInt) (hk1 : k.toInt < 4) (hd0 : 0 ≤ d.toInt) (hd1 : d.toInt ≤ 1094) (hw : InR f_who 4380 (-1) 24) : Met l yX12_has wsX12_has ({ frames := 0, cells := 0, slots := 0, locals := 0 }) (RW D cI cZ cB [.ref h, .int i, .int k, .int d] sz [(h, .inr (11, [.int v_today, .int v_monks, .int v_aways, .int v_feasts, .int v_gifts, .int v_leaves, .int v_lates, .int v_store, .int v_allCandles, .ref a_isPriest, .ref a_bars, .ref a_joined, .ref a_turns, .ref a_awayMonk, .ref a_awayFrom, .ref a_awayTo, .ref a_feastDay, .ref a_rank, .ref a_isWeekly, .ref a_isDouble, .ref a_giftDay, .ref a_giftFrom, .ref a_owed, .ref a_said, .ref a_spared, .ref a_leaveGift, .ref a_leaveFrom, .ref a_leaveTo, .ref a_lateDay, .ref a_lateOffice, .ref a_lateBy, .ref a_guests, .ref a_who, .ref a_used, .ref a_lacks, .ref a_candles, .ref a_masses, .ref a_owing, .ref a_heldOn, .ref a_waits, .ref a_tape, .ref a_text, .int v_taped, .int v_size, .int v_at, .int v_fault, .int v_rules, .ref a_statements, .ref a_taken, .ref a_sort, .ref a_first, .ref a_second, .int v_wordEnd, .int v_number])), (a_turns, .inl (cI, 96, .inl f_turns)), (a_who, .inl (cI, 4380, .inl f_who))]) (va_Qv (fun u : (Nat → Int32) × (Nat → Int32) => InR u.1 4380 (-1) 24) (BW D [(h, .inr (11, [.int v_today, .int v_monks, .int v_aways, .int v_feasts, .int v_gifts, .int v_leaves, .int v_lates, .int v_store, .int v_allCandles, .ref a_isPriest, .ref a_bars, .ref a_joined, .ref a_turns, .ref a_awayMonk, .ref a_awayFrom, .ref a_awayTo, .ref a_feastDay, .ref a_rank, .ref a_isWeekly, .ref a_isDouble, .ref a_giftDay, .ref a_giftFrom, .ref a_owed, .ref a_said, .ref a_spared, .ref a_leaveGift, .ref a_leaveFrom, .ref a_leaveTo, .ref a_lateDay, .ref a_lateOffice, .ref a_lateBy, .ref a_guests, .ref a_who, .ref a_used, .ref a_lacks, .ref a_candles, .ref a_masses, .ref a_owing, .ref a_heldOn, .ref a_waits, .ref a_tape, .ref a_text, .int v_taped, .int v_size, .int v_at, .int v_fault, .int v_rules, .ref a_statements, .ref a_taken, .ref a_sort, .ref a_first, .ref a_second, .int v_wordEnd, .int v_number])), (a_turns, .inl (cI, 96, .inl f_turns)), (a_who, .inl (cI, 4380, .inl f_who))] sz (fun u : (Nat → Int32) × (Nat → Int32) => [(h, .inr (11, [.int v_today, .int v_monks, .int v_aways, .int v_feasts, .int v_gifts, .int v_leaves, .int v_lates, .int v_store, .int v_allCandles, .ref a_isPriest, .ref a_bars, .ref a_joined, .ref a_turns, .ref a_awayMonk, .ref a_awayFrom, .ref a_awayTo, .ref a_feastDay, .ref a_rank, .ref a_isWeekly, .ref a_isDouble, .ref a_giftDay, .ref a_giftFrom, .ref a_owed, .ref a_said, .ref a_spared, .ref a_leaveGift, .ref a_leaveFrom, .ref a_leaveTo, .ref a_lateDay, .ref a_lateOffice, .ref a_lateBy, .ref a_guests, .ref a_who, .ref a_used, .ref a_lacks, .ref a_candles, .ref a_masses, .ref a_owing, .ref a_heldOn, .ref a_waits, .ref a_tape, .ref a_text, .int v_taped, .int v_size, .int v_at, .int v_fault, .int v_rules, .ref a_statements, .ref a_taken, .ref a_sort, .ref a_first, .ref a_second, .int v_wordEnd, .int v_number])), (a_turns, .inl (cI, 96, .inl u.2)), (a_who, .inl (cI, 4380, .inl u.1))])) (va_A [(h, .inr (11, [.int v_today, .int v_monks, .int v_aways, .int v_feasts, .int v_gifts, .int v_leaves, .int v_lates, .int v_store, .int v_allCandles, .ref a_isPriest, .ref a_bars, .ref a_joined, .ref a_turns, .ref a_awayMonk, .ref a_awayFrom, .ref a_awayTo, .ref a_feastDay, .ref a_rank, .ref a_isWeekly, .ref a_isDouble, .ref a_giftDay, .ref a_giftFrom, .ref a_owed, .ref a_said, .ref a_spared, .ref a_leaveGift, .ref a_leaveFrom, .ref a_leaveTo, .ref a_lateDay, .ref a_lateOffice, .ref a_lateBy, .ref a_guests, .ref a_who, .ref a_used, .ref a_lacks, .ref a_candles, .ref a_masses, .ref a_owing, .ref a_heldOn, .ref a_waits, .ref a_tape, .ref a_text, .int v_taped, .int v_size, .int v_at, .int v_fault, .int v_rules, .ref a_statements, .ref a_taken, .ref a_sort, .ref a_first, .ref a_second, .int v_wordEnd, .int v_number])), (a_turns, .inl (cI, 96, .inl f_turns)), (a_who, .inl (cI, 4380, .inl f_who))] sz)) 0 0 (va_A [(h, .inr (11, [.int v_today, .int v_monks, .int v_aways, .int v_feasts, .int v_gifts, .int v_leaves, .int v_lates, .int v_store, .int v_allCandles, .ref a_isPriest, .ref a_bars, .ref a_joined, .ref a_turns, .ref a_awayMonk, .ref a_awayFrom, .ref a_awayTo, .ref a_feastDay, .ref a_rank, .ref a_isWeekly, .ref a_isDouble, .ref a_giftDay, .ref a_giftFrom, .ref a_owed, .ref a_said, .ref a_spared, .ref a_leaveGift, .ref a_leaveFrom, .ref a_leaveTo, .ref a_lateDay, .ref a_lateOffice, .ref a_lateBy, .ref a_guests, .ref a_who, .ref a_used, .ref a_lacks, .ref a_candles, .ref a_masses, .ref a_owing, .ref a_heldOn, .ref a_waits, .ref a_tape, .ref a_text, .int v_taped, .int v_size, .int v_at, .int v_fault, .int v_rules, .ref a_statements, .ref a_taken, .ref a_sort, .ref a_first, .ref a_second, .int v_wordEnd, .int v_number])), (a_turns, .inl (cI, 96, .inl f_turns)), (a_who, .inl (cI, 4380, .inl f_who))] sz) := by
  refine rw_retv (cc := cX12_has) (maxL := 4) (own := RX12) (by decide) rfl rfl (Nat.le_of_ble_eq_true rfl) ?_
  intro p e s m args below meth c Q A S hin hret hP hK hD hA hS ls hl
  obtain ⟨hx, hb, hml, hown, hts⟩ := id S
  have hl : lv_has ls 4 [(0, .ref h), (1, .int i), (2, .int k), (3, .int d)] := hl
  have kkm1 : (-1 : Int32).toInt = -1 := by decide
  have kk0 : (0 : Int32).toInt = 0 := by decide
  have kk1 : (1 : Int32).toInt = 1 := by decide
  have kk4 : (4 : Int32).toInt = 4 := by decide
  have lk0 := hts (.fieldLink RX12 80 "AbbeyHoursModel" "who" "[I") (List.mem_cons_of_mem _ (List.mem_append_left _ (List.mem_of_getElem? (i := 0) rfl)))
  have lk1 := hts (.fieldLink RX12 20 "AbbeyHoursModel" "turns" "[I") (List.mem_cons_of_mem _ (List.mem_append_left _ (List.mem_of_getElem? (i := 1) rfl)))
  refine lv_aload_n hx hb dX12_has_0 rfl (lv_at hl 0 rfl) ?_
  refine va_get (D := D) (ci := 11) (v := .ref a_who) (C := RX12) (T := TX12) (N := 54) hx hb hts in_n_has_X12 hown hK.1 hP 0 rfl rfl 32 (by decide) lk0 (fun _ h9 => h9) rfl dX12_has_1 ?_
  refine lv_iconst (v := 4) hx hb dX12_has_4 (by decide) ?_
  refine lv_iload_n hx hb dX12_has_5 rfl (lv_at hl 3 rfl) ?_
  refine lv_imul hx hb dX12_has_6 ?_
  refine lv_topi (fun x_1 ex_1 => ?_)
  first | have tx_1 := t_mulL kk4 ex_1 (by omega) (by omega) | skip
  refine lv_iload_n hx hb dX12_has_7 rfl (lv_at hl 2 rfl) ?_
  refine lv_iadd hx hb dX12_has_8 ?_
  refine lv_topi (fun x_2 ex_2 => ?_)
  first | have tx_2 := t_add ex_2 (by omega) (by omega) | skip
  refine lv_iload_n hx hb dX12_has_9 rfl (lv_at hl 1 rfl) ?_
  refine va_iast hx hb hK.1 hP hD hS 2 0 rfl rfl (t_in (by omega) (by omega)) dX12_has_10 (fun H locs hP hD hS => ?_)
  obtain ⟨gw, egw⟩ : ∃ z : Nat → Int32, z = upd f_who ((x_2 : Int32).toNatClampNeg) i := ⟨_, rfl⟩
  rw [← egw] at hP hD
  have hP : va_P D vwCl [(h, .inr (11, [.int v_today, .int v_monks, .int v_aways, .int v_feasts, .int v_gifts, .int v_leaves, .int v_lates, .int v_store, .int v_allCandles, .ref a_isPriest, .ref a_bars, .ref a_joined, .ref a_turns, .ref a_awayMonk, .ref a_awayFrom, .ref a_awayTo, .ref a_feastDay, .ref a_rank, .ref a_isWeekly, .ref a_isDouble, .ref a_giftDay, .ref a_giftFrom, .ref a_owed, .ref a_said, .ref a_spared, .ref a_leaveGift, .ref a_leaveFrom, .ref a_leaveTo, .ref a_lateDay, .ref a_lateOffice, .ref a_lateBy, .ref a_guests, .ref a_who, .ref a_used, .ref a_lacks, .ref a_candles, .ref a_masses, .ref a_owing, .ref a_heldOn, .ref a_waits, .ref a_tape, .ref a_text, .int v_taped, .int v_size, .int v_at, .int v_fault, .int v_rules, .ref a_statements, .ref a_taken, .ref a_sort, .ref a_first, .ref a_second, .int v_wordEnd, .int v_number])), (a_turns, .inl (cI, 96, .inl f_turns)), (a_who, .inl (cI, 4380, .inl gw))] H := hP
  have hD := asD hP hD
  refine lv_iload_n hx hb dX12_has_11 rfl (lv_at hl 1 rfl) ?_
  refine lv_iconst (v := (-1)) hx hb dX12_has_12 (by decide) ?_
  refine lv_icmp_eq (tgt := 30) hx hb dX12_has_13 (by decide) (fun c_4 => ?_) (fun c_4 => ?_)
  · have tc_4 := t_eq c_4
    exact hret (gw, f_turns) _ _ _ _ (show InR gw 4380 (-1) 24 from by rw [egw]; exact hw.put (by omega) (by omega)) (hP.sub [0, 1, 2] rfl) (hD.sub [0, 1, 2] (by decide +kernel) rfl) hS dX12_has_30
  · have tc_4 := t_neq c_4
    refine lv_aload_n hx hb dX12_has_16 rfl (lv_at hl 0 rfl) ?_
    refine va_get (D := D) (ci := 11) (v := .ref a_turns) (C := RX12) (T := TX12) (N := 54) hx hb hts in_n_has_X12 hown hK.1 hP 0 rfl rfl 12 (by decide) lk1 (fun _ h9 => h9) rfl dX12_has_17 ?_
    refine lv_iconst (v := 4) hx hb dX12_has_20 (by decide) ?_
    refine lv_iload_n hx hb dX12_has_21 rfl (lv_at hl 1 rfl) ?_
    refine lv_imul hx hb dX12_has_22 ?_
    refine lv_topi (fun x_5 ex_5 => ?_)
    first | have tx_5 := t_mulL kk4 ex_5 (by omega) (by omega) | skip
    refine lv_iload_n hx hb dX12_has_23 rfl (lv_at hl 2 rfl) ?_
    refine lv_iadd hx hb dX12_has_24 ?_
    refine lv_topi (fun x_6 ex_6 => ?_)
    first | have tx_6 := t_add ex_6 (by omega) (by omega) | skip
    refine lv_dup2_11 hx hb dX12_has_25 rfl rfl ?_
    refine va_iald hx hb hK.1 hP 1 0 rfl rfl (t_in (by omega) (by omega)) dX12_has_26 ?_
    refine lv_topi (fun y_7 ey_7 => ?_)
    refine lv_iconst (v := 1) hx hb dX12_has_27 (by decide) ?_
    refine lv_iadd hx hb dX12_has_28 ?_
    refine lv_topi (fun x_8 ex_8 => ?_)
    refine va_iast hx hb hK.1 hP hD hS 1 0 rfl rfl (t_in (by omega) (by omega)) dX12_has_29 (fun H locs hP hD hS => ?_)
    obtain ⟨g_9, eg_9⟩ : ∃ z : Nat → Int32, z = upd f_turns ((x_6 : Int32).toNatClampNeg) x_8 := ⟨_, rfl⟩
    rw [← eg_9] at hP hD
    have hP : va_P D vwCl [(h, .inr (11, [.int v_today, .int v_monks, .int v_aways, .int v_feasts, .int v_gifts, .int v_leaves, .int v_lates, .int v_store, .int v_allCandles, .ref a_isPriest, .ref a_bars, .ref a_joined, .ref a_turns, .ref a_awayMonk, .ref a_awayFrom, .ref a_awayTo, .ref a_feastDay, .ref a_rank, .ref a_isWeekly, .ref a_isDouble, .ref a_giftDay, .ref a_giftFrom, .ref a_owed, .ref a_said, .ref a_spared, .ref a_leaveGift, .ref a_leaveFrom, .ref a_leaveTo, .ref a_lateDay, .ref a_lateOffice, .ref a_lateBy, .ref a_guests, .ref a_who, .ref a_used, .ref a_lacks, .ref a_candles, .ref a_masses, .ref a_owing, .ref a_heldOn, .ref a_waits, .ref a_tape, .ref a_text, .int v_taped, .int v_size, .int v_at, .int v_fault, .int v_rules, .ref a_statements, .ref a_taken, .ref a_sort, .ref a_first, .ref a_second, .int v_wordEnd, .int v_number])), (a_turns, .inl (cI, 96, .inl g_9)), (a_who, .inl (cI, 4380, .inl gw))] H := hP
    have hD := asD hP hD
    exact hret (gw, g_9) _ _ _ _ (show InR gw 4380 (-1) 24 from by rw [egw]; exact hw.put (by omega) (by omega)) (hP.sub [0, 1, 2] rfl) (hD.sub [0, 1, 2] (by decide +kernel) rfl) hS dX12_has_30

theorem in_n_owes_X12 : ∀ w ∈ wsX120, w ∈ wsX12_owes := tl_X12_owes_X12
set_option maxHeartbeats 8000000 in
set_option maxRecDepth 100000 in
theorem n_owes {l : Launch} {D : va_G} {cI cZ cB : ClassId} {sz : Nat} {h a_isPriest a_bars a_joined a_turns a_awayMonk a_awayFrom a_awayTo a_feastDay a_rank a_isWeekly a_isDouble a_giftDay a_giftFrom a_owed a_said a_spared a_leaveGift a_leaveFrom a_leaveTo a_lateDay a_lateOffice a_lateBy a_guests a_who a_used a_lacks a_candles a_masses a_owing a_heldOn a_waits a_tape a_text a_statements a_taken a_sort a_first a_second : Nat} {v_today v_monks v_aways v_feasts v_gifts v_leaves v_lates v_store v_allCandles v_taped v_size v_at v_fault v_rules v_wordEnd v_number : Int32} {f_isWeekly f_isDouble f_giftDay f_giftFrom f_owed f_spared f_leaveGift f_leaveFrom f_leaveTo : Nat → Int32} {d : Int32} (h0_gifts : 0 ≤ v_gifts.toInt) (h1_gifts : v_gifts.toInt ≤ 40) (h0_leaves : 0 ≤ v_leaves.toInt) (h1_leaves : v_leaves.toInt ≤ 40) : Met l yX12_owes wsX12_owes ({ frames := 1, cells := 0, slots := 0, locals := 22 }) (RW D cI cZ cB [.ref h, .int d] sz [(h, .inr (11, [.int v_today, .int v_monks, .int v_aways, .int v_feasts, .int v_gifts, .int v_leaves, .int v_lates, .int v_store, .int v_allCandles, .ref a_isPriest, .ref a_bars, .ref a_joined, .ref a_turns, .ref a_awayMonk, .ref a_awayFrom, .ref a_awayTo, .ref a_feastDay, .ref a_rank, .ref a_isWeekly, .ref a_isDouble, .ref a_giftDay, .ref a_giftFrom, .ref a_owed, .ref a_said, .ref a_spared, .ref a_leaveGift, .ref a_leaveFrom, .ref a_leaveTo, .ref a_lateDay, .ref a_lateOffice, .ref a_lateBy, .ref a_guests, .ref a_who, .ref a_used, .ref a_lacks, .ref a_candles, .ref a_masses, .ref a_owing, .ref a_heldOn, .ref a_waits, .ref a_tape, .ref a_text, .int v_taped, .int v_size, .int v_at, .int v_fault, .int v_rules, .ref a_statements, .ref a_taken, .ref a_sort, .ref a_first, .ref a_second, .int v_wordEnd, .int v_number])), (a_isWeekly, .inl (cZ, 40, .inl f_isWeekly)), (a_isDouble, .inl (cZ, 40, .inl f_isDouble)), (a_giftDay, .inl (cI, 40, .inl f_giftDay)), (a_giftFrom, .inl (cI, 40, .inl f_giftFrom)), (a_owed, .inl (cI, 40, .inl f_owed)), (a_spared, .inl (cI, 40, .inl f_spared)), (a_leaveGift, .inl (cI, 40, .inl f_leaveGift)), (a_leaveFrom, .inl (cI, 40, .inl f_leaveFrom)), (a_leaveTo, .inl (cI, 40, .inl f_leaveTo))]) (va_Qv (fun u : (Nat → Int32) × (Nat → Int32) => True) (BW D [(h, .inr (11, [.int v_today, .int v_monks, .int v_aways, .int v_feasts, .int v_gifts, .int v_leaves, .int v_lates, .int v_store, .int v_allCandles, .ref a_isPriest, .ref a_bars, .ref a_joined, .ref a_turns, .ref a_awayMonk, .ref a_awayFrom, .ref a_awayTo, .ref a_feastDay, .ref a_rank, .ref a_isWeekly, .ref a_isDouble, .ref a_giftDay, .ref a_giftFrom, .ref a_owed, .ref a_said, .ref a_spared, .ref a_leaveGift, .ref a_leaveFrom, .ref a_leaveTo, .ref a_lateDay, .ref a_lateOffice, .ref a_lateBy, .ref a_guests, .ref a_who, .ref a_used, .ref a_lacks, .ref a_candles, .ref a_masses, .ref a_owing, .ref a_heldOn, .ref a_waits, .ref a_tape, .ref a_text, .int v_taped, .int v_size, .int v_at, .int v_fault, .int v_rules, .ref a_statements, .ref a_taken, .ref a_sort, .ref a_first, .ref a_second, .int v_wordEnd, .int v_number])), (a_isWeekly, .inl (cZ, 40, .inl f_isWeekly)), (a_isDouble, .inl (cZ, 40, .inl f_isDouble)), (a_giftDay, .inl (cI, 40, .inl f_giftDay)), (a_giftFrom, .inl (cI, 40, .inl f_giftFrom)), (a_owed, .inl (cI, 40, .inl f_owed)), (a_spared, .inl (cI, 40, .inl f_spared)), (a_leaveGift, .inl (cI, 40, .inl f_leaveGift)), (a_leaveFrom, .inl (cI, 40, .inl f_leaveFrom)), (a_leaveTo, .inl (cI, 40, .inl f_leaveTo))] sz (fun u : (Nat → Int32) × (Nat → Int32) => [(h, .inr (11, [.int v_today, .int v_monks, .int v_aways, .int v_feasts, .int v_gifts, .int v_leaves, .int v_lates, .int v_store, .int v_allCandles, .ref a_isPriest, .ref a_bars, .ref a_joined, .ref a_turns, .ref a_awayMonk, .ref a_awayFrom, .ref a_awayTo, .ref a_feastDay, .ref a_rank, .ref a_isWeekly, .ref a_isDouble, .ref a_giftDay, .ref a_giftFrom, .ref a_owed, .ref a_said, .ref a_spared, .ref a_leaveGift, .ref a_leaveFrom, .ref a_leaveTo, .ref a_lateDay, .ref a_lateOffice, .ref a_lateBy, .ref a_guests, .ref a_who, .ref a_used, .ref a_lacks, .ref a_candles, .ref a_masses, .ref a_owing, .ref a_heldOn, .ref a_waits, .ref a_tape, .ref a_text, .int v_taped, .int v_size, .int v_at, .int v_fault, .int v_rules, .ref a_statements, .ref a_taken, .ref a_sort, .ref a_first, .ref a_second, .int v_wordEnd, .int v_number])), (a_isWeekly, .inl (cZ, 40, .inl f_isWeekly)), (a_isDouble, .inl (cZ, 40, .inl f_isDouble)), (a_giftDay, .inl (cI, 40, .inl f_giftDay)), (a_giftFrom, .inl (cI, 40, .inl f_giftFrom)), (a_owed, .inl (cI, 40, .inl u.1)), (a_spared, .inl (cI, 40, .inl u.2)), (a_leaveGift, .inl (cI, 40, .inl f_leaveGift)), (a_leaveFrom, .inl (cI, 40, .inl f_leaveFrom)), (a_leaveTo, .inl (cI, 40, .inl f_leaveTo))])) (va_A [(h, .inr (11, [.int v_today, .int v_monks, .int v_aways, .int v_feasts, .int v_gifts, .int v_leaves, .int v_lates, .int v_store, .int v_allCandles, .ref a_isPriest, .ref a_bars, .ref a_joined, .ref a_turns, .ref a_awayMonk, .ref a_awayFrom, .ref a_awayTo, .ref a_feastDay, .ref a_rank, .ref a_isWeekly, .ref a_isDouble, .ref a_giftDay, .ref a_giftFrom, .ref a_owed, .ref a_said, .ref a_spared, .ref a_leaveGift, .ref a_leaveFrom, .ref a_leaveTo, .ref a_lateDay, .ref a_lateOffice, .ref a_lateBy, .ref a_guests, .ref a_who, .ref a_used, .ref a_lacks, .ref a_candles, .ref a_masses, .ref a_owing, .ref a_heldOn, .ref a_waits, .ref a_tape, .ref a_text, .int v_taped, .int v_size, .int v_at, .int v_fault, .int v_rules, .ref a_statements, .ref a_taken, .ref a_sort, .ref a_first, .ref a_second, .int v_wordEnd, .int v_number])), (a_isWeekly, .inl (cZ, 40, .inl f_isWeekly)), (a_isDouble, .inl (cZ, 40, .inl f_isDouble)), (a_giftDay, .inl (cI, 40, .inl f_giftDay)), (a_giftFrom, .inl (cI, 40, .inl f_giftFrom)), (a_owed, .inl (cI, 40, .inl f_owed)), (a_spared, .inl (cI, 40, .inl f_spared)), (a_leaveGift, .inl (cI, 40, .inl f_leaveGift)), (a_leaveFrom, .inl (cI, 40, .inl f_leaveFrom)), (a_leaveTo, .inl (cI, 40, .inl f_leaveTo))] sz)) 0 0 (va_A [(h, .inr (11, [.int v_today, .int v_monks, .int v_aways, .int v_feasts, .int v_gifts, .int v_leaves, .int v_lates, .int v_store, .int v_allCandles, .ref a_isPriest, .ref a_bars, .ref a_joined, .ref a_turns, .ref a_awayMonk, .ref a_awayFrom, .ref a_awayTo, .ref a_feastDay, .ref a_rank, .ref a_isWeekly, .ref a_isDouble, .ref a_giftDay, .ref a_giftFrom, .ref a_owed, .ref a_said, .ref a_spared, .ref a_leaveGift, .ref a_leaveFrom, .ref a_leaveTo, .ref a_lateDay, .ref a_lateOffice, .ref a_lateBy, .ref a_guests, .ref a_who, .ref a_used, .ref a_lacks, .ref a_candles, .ref a_masses, .ref a_owing, .ref a_heldOn, .ref a_waits, .ref a_tape, .ref a_text, .int v_taped, .int v_size, .int v_at, .int v_fault, .int v_rules, .ref a_statements, .ref a_taken, .ref a_sort, .ref a_first, .ref a_second, .int v_wordEnd, .int v_number])), (a_isWeekly, .inl (cZ, 40, .inl f_isWeekly)), (a_isDouble, .inl (cZ, 40, .inl f_isDouble)), (a_giftDay, .inl (cI, 40, .inl f_giftDay)), (a_giftFrom, .inl (cI, 40, .inl f_giftFrom)), (a_owed, .inl (cI, 40, .inl f_owed)), (a_spared, .inl (cI, 40, .inl f_spared)), (a_leaveGift, .inl (cI, 40, .inl f_leaveGift)), (a_leaveFrom, .inl (cI, 40, .inl f_leaveFrom)), (a_leaveTo, .inl (cI, 40, .inl f_leaveTo))] sz) := by
  refine rw_retv (cc := cX12_owes) (maxL := 6) (own := RX12) (by decide) rfl rfl (Nat.le_of_ble_eq_true rfl) ?_
  intro p e s m args below meth c Q A S hin hret hP hK hD hA hS ls hl
  obtain ⟨hx, hb, hml, hown, hts⟩ := id S
  have hl : lv_has ls 6 [(0, .ref h), (1, .int d)] := hl
  have kk0 : (0 : Int32).toInt = 0 := by decide
  have kk1 : (1 : Int32).toInt = 1 := by decide
  have kk2 : (2 : Int32).toInt = 2 := by decide
  have kk7 : (7 : Int32).toInt = 7 := by decide
  have kk365 : (365 : Int32).toInt = 365 := by decide
  have lk0 := hts (.fieldLink RX12 137 "AbbeyHoursModel" "gifts" "I") (List.mem_cons_of_mem _ (List.mem_append_left _ (List.mem_of_getElem? (i := 0) rfl)))
  have lk1 := hts (.fieldLink RX12 47 "AbbeyHoursModel" "giftFrom" "[I") (List.mem_cons_of_mem _ (List.mem_append_left _ (List.mem_of_getElem? (i := 1) rfl)))
  have lk2 := hts (.fieldLink RX12 44 "AbbeyHoursModel" "giftDay" "[I") (List.mem_cons_of_mem _ (List.mem_append_left _ (List.mem_of_getElem? (i := 2) rfl)))
  have lk3 := hts (.fieldLink RX12 38 "AbbeyHoursModel" "isWeekly" "[Z") (List.mem_cons_of_mem _ (List.mem_append_left _ (List.mem_of_getElem? (i := 3) rfl)))
  have lk4 := hts (.fieldLink RX12 261 "AbbeyHoursModel" "leaves" "I") (List.mem_cons_of_mem _ (List.mem_append_left _ (List.mem_of_getElem? (i := 4) rfl)))
  have lk5 := hts (.fieldLink RX12 41 "AbbeyHoursModel" "isDouble" "[Z") (List.mem_cons_of_mem _ (List.mem_append_left _ (List.mem_of_getElem? (i := 8) rfl)))
  have lk6 := hts (.fieldLink RX12 50 "AbbeyHoursModel" "owed" "[I") (List.mem_cons_of_mem _ (List.mem_append_left _ (List.mem_of_getElem? (i := 10) rfl)))
  have lk7 := hts (.fieldLink RX12 56 "AbbeyHoursModel" "spared" "[I") (List.mem_cons_of_mem _ (List.mem_append_left _ (List.mem_of_getElem? (i := 9) rfl)))
  have lk8 := hts (.fieldLink RX12 59 "AbbeyHoursModel" "leaveGift" "[I") (List.mem_cons_of_mem _ (List.mem_append_left _ (List.mem_of_getElem? (i := 5) rfl)))
  have lk9 := hts (.fieldLink RX12 62 "AbbeyHoursModel" "leaveFrom" "[I") (List.mem_cons_of_mem _ (List.mem_append_left _ (List.mem_of_getElem? (i := 6) rfl)))
  have lk10 := hts (.fieldLink RX12 65 "AbbeyHoursModel" "leaveTo" "[I") (List.mem_cons_of_mem _ (List.mem_append_left _ (List.mem_of_getElem? (i := 7) rfl)))
  refine lv_iconst (v := 0) hx hb dX12_owes_0 (by decide) ?_
  refine lv_istore_n (lv' := [(2, .int 0), (0, .ref h), (1, .int d)]) hx hb dX12_owes_1 rfl hl (by decide) rfl (fun ls hl => ?_)
  have loop2 : ∀ (fuel : Nat) (j : Int32) (fo : Nat → Int32) (fs : Nat → Int32), v_gifts.toInt - j.toInt < (fuel : Int) → (0 ≤ j.toInt) → (j.toInt ≤ v_gifts.toInt) → ∀ (H : Heap) (locs : List Loc), va_P D vwCl [(h, .inr (11, [.int v_today, .int v_monks, .int v_aways, .int v_feasts, .int v_gifts, .int v_leaves, .int v_lates, .int v_store, .int v_allCandles, .ref a_isPriest, .ref a_bars, .ref a_joined, .ref a_turns, .ref a_awayMonk, .ref a_awayFrom, .ref a_awayTo, .ref a_feastDay, .ref a_rank, .ref a_isWeekly, .ref a_isDouble, .ref a_giftDay, .ref a_giftFrom, .ref a_owed, .ref a_said, .ref a_spared, .ref a_leaveGift, .ref a_leaveFrom, .ref a_leaveTo, .ref a_lateDay, .ref a_lateOffice, .ref a_lateBy, .ref a_guests, .ref a_who, .ref a_used, .ref a_lacks, .ref a_candles, .ref a_masses, .ref a_owing, .ref a_heldOn, .ref a_waits, .ref a_tape, .ref a_text, .int v_taped, .int v_size, .int v_at, .int v_fault, .int v_rules, .ref a_statements, .ref a_taken, .ref a_sort, .ref a_first, .ref a_second, .int v_wordEnd, .int v_number])), (a_isWeekly, .inl (cZ, 40, .inl f_isWeekly)), (a_isDouble, .inl (cZ, 40, .inl f_isDouble)), (a_giftDay, .inl (cI, 40, .inl f_giftDay)), (a_giftFrom, .inl (cI, 40, .inl f_giftFrom)), (a_owed, .inl (cI, 40, .inl fo)), (a_spared, .inl (cI, 40, .inl fs)), (a_leaveGift, .inl (cI, 40, .inl f_leaveGift)), (a_leaveFrom, .inl (cI, 40, .inl f_leaveFrom)), (a_leaveTo, .inl (cI, 40, .inl f_leaveTo))] H → va_D A [(h, .inr (11, [.int v_today, .int v_monks, .int v_aways, .int v_feasts, .int v_gifts, .int v_leaves, .int v_lates, .int v_store, .int v_allCandles, .ref a_isPriest, .ref a_bars, .ref a_joined, .ref a_turns, .ref a_awayMonk, .ref a_awayFrom, .ref a_awayTo, .ref a_feastDay, .ref a_rank, .ref a_isWeekly, .ref a_isDouble, .ref a_giftDay, .ref a_giftFrom, .ref a_owed, .ref a_said, .ref a_spared, .ref a_leaveGift, .ref a_leaveFrom, .ref a_leaveTo, .ref a_lateDay, .ref a_lateOffice, .ref a_lateBy, .ref a_guests, .ref a_who, .ref a_used, .ref a_lacks, .ref a_candles, .ref a_masses, .ref a_owing, .ref a_heldOn, .ref a_waits, .ref a_tape, .ref a_text, .int v_taped, .int v_size, .int v_at, .int v_fault, .int v_rules, .ref a_statements, .ref a_taken, .ref a_sort, .ref a_first, .ref a_second, .int v_wordEnd, .int v_number])), (a_isWeekly, .inl (cZ, 40, .inl f_isWeekly)), (a_isDouble, .inl (cZ, 40, .inl f_isDouble)), (a_giftDay, .inl (cI, 40, .inl f_giftDay)), (a_giftFrom, .inl (cI, 40, .inl f_giftFrom)), (a_owed, .inl (cI, 40, .inl fo)), (a_spared, .inl (cI, 40, .inl fs)), (a_leaveGift, .inl (cI, 40, .inl f_leaveGift)), (a_leaveFrom, .inl (cI, 40, .inl f_leaveFrom)), (a_leaveTo, .inl (cI, 40, .inl f_leaveTo))] → va_S A s.heap H locs → ∀ ls : Array Slot, lv_has ls 6 [(2, .int j), (0, .ref h), (1, .int d)] → W p l e ({ frames := 1, cells := 0, slots := 0, locals := 22 } : Room) s m args below meth c H locs 0 0 Q (F0 m 2 ls []) := by
    intro fuel
    induction fuel with
    | zero =>
      intro j fo fs hmu hj0 hj1 H locs hP hD hS ls hl
      exfalso; omega
    | succ fuel ih2 =>
      intro j fo fs hmu hj0 hj1 H locs hP hD hS ls hl
      refine lv_iload_n hx hb dX12_owes_2 rfl (lv_at hl 0 rfl) ?_
      refine lv_aload_n hx hb dX12_owes_3 rfl (lv_at hl 1 rfl) ?_
      refine va_get (D := D) (ci := 11) (v := .int v_gifts) (C := RX12) (T := TX12) (N := 54) hx hb hts in_n_owes_X12 hown hK.1 hP 0 rfl rfl 4 (by decide) lk0 (fun _ h9 => h9) rfl dX12_owes_4 ?_
      refine lv_icmp_ge (tgt := 180) hx hb dX12_owes_7 (by decide) (fun c_1 => ?_) (fun c_1 => ?_)
      · have tc_1 := t_le c_1
        exact hret (fo, fs) _ _ _ _ (show True from trivial) (hP.sub [0, 1, 2, 3, 4, 5, 6, 7, 8, 9] rfl) (hD.sub [0, 1, 2, 3, 4, 5, 6, 7, 8, 9] (by decide +kernel) rfl) hS dX12_owes_180
      · have tc_1 := t_nle c_1
        refine lv_aload_n hx hb dX12_owes_10 rfl (lv_at hl 1 rfl) ?_
        refine va_get (D := D) (ci := 11) (v := .ref a_giftFrom) (C := RX12) (T := TX12) (N := 54) hx hb hts in_n_owes_X12 hown hK.1 hP 0 rfl rfl 21 (by decide) lk1 (fun _ h9 => h9) rfl dX12_owes_11 ?_
        refine lv_iload_n hx hb dX12_owes_14 rfl (lv_at hl 0 rfl) ?_
        refine va_iald hx hb hK.1 hP 4 0 rfl rfl (t_in (by omega) (by omega)) dX12_owes_15 ?_
        refine lv_topi (fun y_2 ey_2 => ?_)
        refine lv_iload_n hx hb dX12_owes_16 rfl (lv_at hl 2 rfl) ?_
        refine lv_icmp_gt (tgt := 54) hx hb dX12_owes_17 (by decide) (fun c_3 => ?_) (fun c_3 => ?_)
        · have tc_3 := t_lt c_3
          refine lv_iconst (v := 0) hx hb dX12_owes_54 (by decide) ?_
          refine lv_istore_n (lv' := [(3, .int 0), (2, .int j), (0, .ref h), (1, .int d)]) hx hb dX12_owes_55 rfl hl (by decide) rfl (fun ls hl => ?_)
          refine lv_iload_n hx hb dX12_owes_56 rfl (lv_at hl 0 rfl) ?_
          refine lv_if_ne (tgt := 63) hx hb dX12_owes_57 (by decide) (fun c_4 => ?_) (fun c_4 => ?_)
          · exact absurd c_4 (by decide)
          · have tc_4 := t_eq c_4
            refine lv_goto (tgt := 174) hx hb dX12_owes_60 (by decide) ?_
            obtain ⟨x_5, ex_5⟩ : ∃ y : Int32, y = j + 1 := ⟨_, rfl⟩
            refine lv_iinc (v := x_5) (lv' := [(2, .int x_5), (3, .int 0), (0, .ref h), (1, .int d)]) hx hb dX12_owes_174 hl (k := 1) rfl (by rw [ex_5]; rfl) (by decide) rfl (fun ls hl => ?_)
            first | have tx_5 := t_add ex_5 (by omega) (by omega) | skip
            refine lv_goto (tgt := 2) hx hb dX12_owes_177 (by decide) ?_
            exact ih2 x_5 fo fs (by omega) (by omega) (by omega) _ _ hP hD hS ls (lv_sub hl [0, 2, 3] rfl)
        · have tc_3 := t_nlt c_3
          refine lv_aload_n hx hb dX12_owes_20 rfl (lv_at hl 1 rfl) ?_
          refine va_get (D := D) (ci := 11) (v := .ref a_giftDay) (C := RX12) (T := TX12) (N := 54) hx hb hts in_n_owes_X12 hown hK.1 hP 0 rfl rfl 20 (by decide) lk2 (fun _ h9 => h9) rfl dX12_owes_21 ?_
          refine lv_iload_n hx hb dX12_owes_24 rfl (lv_at hl 0 rfl) ?_
          refine va_iald hx hb hK.1 hP 3 0 rfl rfl (t_in (by omega) (by omega)) dX12_owes_25 ?_
          refine lv_topi (fun y_6 ey_6 => ?_)
          refine lv_aload_n hx hb dX12_owes_26 rfl (lv_at hl 1 rfl) ?_
          refine va_get (D := D) (ci := 11) (v := .ref a_isWeekly) (C := RX12) (T := TX12) (N := 54) hx hb hts in_n_owes_X12 hown hK.1 hP 0 rfl rfl 18 (by decide) lk3 (fun _ h9 => h9) rfl dX12_owes_27 ?_
          refine lv_iload_n hx hb dX12_owes_30 rfl (lv_at hl 0 rfl) ?_
          refine va_zald hx hb hK.1 hP 1 1 rfl rfl (t_in (by omega) (by omega)) dX12_owes_31 ?_
          refine lv_topi (fun y_7 ey_7 => ?_)
          refine lv_if_eq (tgt := 42) hx hb dX12_owes_32 (by decide) (fun c_8 => ?_) (fun c_8 => ?_)
          · have tc_8 := t_eq c_8
            refine lv_iload_n hx hb dX12_owes_42 rfl (lv_at hl 2 rfl) ?_
            refine lv_sipush (v := 365) hx hb dX12_owes_43 (by decide) ?_
            refine lv_irem hx hb dX12_owes_46 (by decide) ?_
            refine lv_topi (fun x_9 ex_9 => ?_)
            refine lv_icmp_ne (tgt := 54) hx hb dX12_owes_47 (by decide) (fun c_10 => ?_) (fun c_10 => ?_)
            · have tc_10 := t_neq c_10
              refine lv_iconst (v := 0) hx hb dX12_owes_54 (by decide) ?_
              refine lv_istore_n (lv' := [(3, .int 0), (2, .int j), (0, .ref h), (1, .int d)]) hx hb dX12_owes_55 rfl hl (by decide) rfl (fun ls hl => ?_)
              refine lv_iload_n hx hb dX12_owes_56 rfl (lv_at hl 0 rfl) ?_
              refine lv_if_ne (tgt := 63) hx hb dX12_owes_57 (by decide) (fun c_11 => ?_) (fun c_11 => ?_)
              · exact absurd c_11 (by decide)
              · have tc_11 := t_eq c_11
                refine lv_goto (tgt := 174) hx hb dX12_owes_60 (by decide) ?_
                obtain ⟨x_12, ex_12⟩ : ∃ y : Int32, y = j + 1 := ⟨_, rfl⟩
                refine lv_iinc (v := x_12) (lv' := [(2, .int x_12), (3, .int 0), (0, .ref h), (1, .int d)]) hx hb dX12_owes_174 hl (k := 1) rfl (by rw [ex_12]; rfl) (by decide) rfl (fun ls hl => ?_)
                first | have tx_12 := t_add ex_12 (by omega) (by omega) | skip
                refine lv_goto (tgt := 2) hx hb dX12_owes_177 (by decide) ?_
                exact ih2 x_12 fo fs (by omega) (by omega) (by omega) _ _ hP hD hS ls (lv_sub hl [0, 2, 3] rfl)
            · have tc_10 := t_eq c_10
              refine lv_iconst (v := 1) hx hb dX12_owes_50 (by decide) ?_
              refine lv_goto (tgt := 55) hx hb dX12_owes_51 (by decide) ?_
              refine lv_istore_n (lv' := [(3, .int 1), (2, .int j), (0, .ref h), (1, .int d)]) hx hb dX12_owes_55 rfl hl (by decide) rfl (fun ls hl => ?_)
              refine lv_iload_n hx hb dX12_owes_56 rfl (lv_at hl 0 rfl) ?_
              refine lv_if_ne (tgt := 63) hx hb dX12_owes_57 (by decide) (fun c_13 => ?_) (fun c_13 => ?_)
              · have tc_13 := t_neq c_13
                refine lv_iconst (v := 0) hx hb dX12_owes_63 (by decide) ?_
                refine lv_istore (lv' := [(4, .int 0), (3, .int 1), (2, .int j), (0, .ref h), (1, .int d)]) hx hb dX12_owes_64 hl (by decide) rfl (fun ls hl => ?_)
                refine lv_iconst (v := 0) hx hb dX12_owes_66 (by decide) ?_
                refine lv_istore (lv' := [(5, .int 0), (4, .int 0), (3, .int 1), (2, .int j), (0, .ref h), (1, .int d)]) hx hb dX12_owes_67 hl (by decide) rfl (fun ls hl => ?_)
                have loop69 : ∀ (fuel : Nat) (a : Int32) (q : Int32), v_leaves.toInt - q.toInt < (fuel : Int) → (0 ≤ q.toInt) → (q.toInt ≤ v_leaves.toInt) → ∀ (H : Heap) (locs : List Loc), va_P D vwCl [(h, .inr (11, [.int v_today, .int v_monks, .int v_aways, .int v_feasts, .int v_gifts, .int v_leaves, .int v_lates, .int v_store, .int v_allCandles, .ref a_isPriest, .ref a_bars, .ref a_joined, .ref a_turns, .ref a_awayMonk, .ref a_awayFrom, .ref a_awayTo, .ref a_feastDay, .ref a_rank, .ref a_isWeekly, .ref a_isDouble, .ref a_giftDay, .ref a_giftFrom, .ref a_owed, .ref a_said, .ref a_spared, .ref a_leaveGift, .ref a_leaveFrom, .ref a_leaveTo, .ref a_lateDay, .ref a_lateOffice, .ref a_lateBy, .ref a_guests, .ref a_who, .ref a_used, .ref a_lacks, .ref a_candles, .ref a_masses, .ref a_owing, .ref a_heldOn, .ref a_waits, .ref a_tape, .ref a_text, .int v_taped, .int v_size, .int v_at, .int v_fault, .int v_rules, .ref a_statements, .ref a_taken, .ref a_sort, .ref a_first, .ref a_second, .int v_wordEnd, .int v_number])), (a_isWeekly, .inl (cZ, 40, .inl f_isWeekly)), (a_isDouble, .inl (cZ, 40, .inl f_isDouble)), (a_giftDay, .inl (cI, 40, .inl f_giftDay)), (a_giftFrom, .inl (cI, 40, .inl f_giftFrom)), (a_owed, .inl (cI, 40, .inl fo)), (a_spared, .inl (cI, 40, .inl fs)), (a_leaveGift, .inl (cI, 40, .inl f_leaveGift)), (a_leaveFrom, .inl (cI, 40, .inl f_leaveFrom)), (a_leaveTo, .inl (cI, 40, .inl f_leaveTo))] H → va_D A [(h, .inr (11, [.int v_today, .int v_monks, .int v_aways, .int v_feasts, .int v_gifts, .int v_leaves, .int v_lates, .int v_store, .int v_allCandles, .ref a_isPriest, .ref a_bars, .ref a_joined, .ref a_turns, .ref a_awayMonk, .ref a_awayFrom, .ref a_awayTo, .ref a_feastDay, .ref a_rank, .ref a_isWeekly, .ref a_isDouble, .ref a_giftDay, .ref a_giftFrom, .ref a_owed, .ref a_said, .ref a_spared, .ref a_leaveGift, .ref a_leaveFrom, .ref a_leaveTo, .ref a_lateDay, .ref a_lateOffice, .ref a_lateBy, .ref a_guests, .ref a_who, .ref a_used, .ref a_lacks, .ref a_candles, .ref a_masses, .ref a_owing, .ref a_heldOn, .ref a_waits, .ref a_tape, .ref a_text, .int v_taped, .int v_size, .int v_at, .int v_fault, .int v_rules, .ref a_statements, .ref a_taken, .ref a_sort, .ref a_first, .ref a_second, .int v_wordEnd, .int v_number])), (a_isWeekly, .inl (cZ, 40, .inl f_isWeekly)), (a_isDouble, .inl (cZ, 40, .inl f_isDouble)), (a_giftDay, .inl (cI, 40, .inl f_giftDay)), (a_giftFrom, .inl (cI, 40, .inl f_giftFrom)), (a_owed, .inl (cI, 40, .inl fo)), (a_spared, .inl (cI, 40, .inl fs)), (a_leaveGift, .inl (cI, 40, .inl f_leaveGift)), (a_leaveFrom, .inl (cI, 40, .inl f_leaveFrom)), (a_leaveTo, .inl (cI, 40, .inl f_leaveTo))] → va_S A s.heap H locs → ∀ ls : Array Slot, lv_has ls 6 [(5, .int q), (4, .int a), (3, .int 1), (2, .int j), (0, .ref h), (1, .int d)] → W p l e ({ frames := 1, cells := 0, slots := 0, locals := 22 } : Room) s m args below meth c H locs 0 0 Q (F0 m 69 ls []) := by
                  intro fuel
                  induction fuel with
                  | zero =>
                    intro a q hmu hq0 hq1 H locs hP hD hS ls hl
                    exfalso; omega
                  | succ fuel ih69 =>
                    intro a q hmu hq0 hq1 H locs hP hD hS ls hl
                    refine lv_iload hx hb dX12_owes_69 (lv_at hl 0 rfl) ?_
                    refine lv_aload_n hx hb dX12_owes_71 rfl (lv_at hl 4 rfl) ?_
                    refine va_get (D := D) (ci := 11) (v := .int v_leaves) (C := RX12) (T := TX12) (N := 54) hx hb hts in_n_owes_X12 hown hK.1 hP 0 rfl rfl 5 (by decide) lk4 (fun _ h9 => h9) rfl dX12_owes_72 ?_
                    refine lv_icmp_ge (tgt := 128) hx hb dX12_owes_75 (by decide) (fun c_14 => ?_) (fun c_14 => ?_)
                    · have tc_14 := t_le c_14
                      refine lv_aload_n hx hb dX12_owes_128 rfl (lv_at hl 4 rfl) ?_
                      refine va_get (D := D) (ci := 11) (v := .ref a_isDouble) (C := RX12) (T := TX12) (N := 54) hx hb hts in_n_owes_X12 hown hK.1 hP 0 rfl rfl 19 (by decide) lk5 (fun _ h9 => h9) rfl dX12_owes_129 ?_
                      refine lv_iload_n hx hb dX12_owes_132 rfl (lv_at hl 3 rfl) ?_
                      refine va_zald hx hb hK.1 hP 2 1 rfl rfl (t_in (by omega) (by omega)) dX12_owes_133 ?_
                      refine lv_topi (fun y_15 ey_15 => ?_)
                      refine lv_if_eq (tgt := 141) hx hb dX12_owes_134 (by decide) (fun c_16 => ?_) (fun c_16 => ?_)
                      · have tc_16 := t_eq c_16
                        refine lv_iconst (v := 1) hx hb dX12_owes_141 (by decide) ?_
                        refine lv_istore (lv' := [(5, .int 1), (4, .int a), (3, .int 1), (2, .int j), (0, .ref h), (1, .int d)]) hx hb dX12_owes_142 hl (by decide) rfl (fun ls hl => ?_)
                        refine lv_iload hx hb dX12_owes_144 (lv_at hl 1 rfl) ?_
                        refine lv_if_eq (tgt := 163) hx hb dX12_owes_146 (by decide) (fun c_17 => ?_) (fun c_17 => ?_)
                        · have tc_17 := t_eq c_17
                          refine lv_aload_n hx hb dX12_owes_163 rfl (lv_at hl 4 rfl) ?_
                          refine va_get (D := D) (ci := 11) (v := .ref a_owed) (C := RX12) (T := TX12) (N := 54) hx hb hts in_n_owes_X12 hown hK.1 hP 0 rfl rfl 22 (by decide) lk6 (fun _ h9 => h9) rfl dX12_owes_164 ?_
                          refine lv_iload_n hx hb dX12_owes_167 rfl (lv_at hl 3 rfl) ?_
                          refine lv_dup2_11 hx hb dX12_owes_168 rfl rfl ?_
                          refine va_iald hx hb hK.1 hP 5 0 rfl rfl (t_in (by omega) (by omega)) dX12_owes_169 ?_
                          refine lv_topi (fun y_18 ey_18 => ?_)
                          refine lv_iload hx hb dX12_owes_170 (lv_at hl 0 rfl) ?_
                          refine lv_iadd hx hb dX12_owes_172 ?_
                          refine lv_topi (fun x_19 ex_19 => ?_)
                          refine va_iast hx hb hK.1 hP hD hS 5 0 rfl rfl (t_in (by omega) (by omega)) dX12_owes_173 (fun H locs hP hD hS => ?_)
                          obtain ⟨g_20, eg_20⟩ : ∃ z : Nat → Int32, z = upd fo ((j : Int32).toNatClampNeg) x_19 := ⟨_, rfl⟩
                          rw [← eg_20] at hP hD
                          have hP : va_P D vwCl [(h, .inr (11, [.int v_today, .int v_monks, .int v_aways, .int v_feasts, .int v_gifts, .int v_leaves, .int v_lates, .int v_store, .int v_allCandles, .ref a_isPriest, .ref a_bars, .ref a_joined, .ref a_turns, .ref a_awayMonk, .ref a_awayFrom, .ref a_awayTo, .ref a_feastDay, .ref a_rank, .ref a_isWeekly, .ref a_isDouble, .ref a_giftDay, .ref a_giftFrom, .ref a_owed, .ref a_said, .ref a_spared, .ref a_leaveGift, .ref a_leaveFrom, .ref a_leaveTo, .ref a_lateDay, .ref a_lateOffice, .ref a_lateBy, .ref a_guests, .ref a_who, .ref a_used, .ref a_lacks, .ref a_candles, .ref a_masses, .ref a_owing, .ref a_heldOn, .ref a_waits, .ref a_tape, .ref a_text, .int v_taped, .int v_size, .int v_at, .int v_fault, .int v_rules, .ref a_statements, .ref a_taken, .ref a_sort, .ref a_first, .ref a_second, .int v_wordEnd, .int v_number])), (a_isWeekly, .inl (cZ, 40, .inl f_isWeekly)), (a_isDouble, .inl (cZ, 40, .inl f_isDouble)), (a_giftDay, .inl (cI, 40, .inl f_giftDay)), (a_giftFrom, .inl (cI, 40, .inl f_giftFrom)), (a_owed, .inl (cI, 40, .inl g_20)), (a_spared, .inl (cI, 40, .inl fs)), (a_leaveGift, .inl (cI, 40, .inl f_leaveGift)), (a_leaveFrom, .inl (cI, 40, .inl f_leaveFrom)), (a_leaveTo, .inl (cI, 40, .inl f_leaveTo))] H := hP
                          have hD := asD hP hD
                          obtain ⟨x_21, ex_21⟩ : ∃ y : Int32, y = j + 1 := ⟨_, rfl⟩
                          refine lv_iinc (v := x_21) (lv' := [(2, .int x_21), (5, .int 1), (4, .int a), (3, .int 1), (0, .ref h), (1, .int d)]) hx hb dX12_owes_174 hl (k := 3) rfl (by rw [ex_21]; rfl) (by decide) rfl (fun ls hl => ?_)
                          first | have tx_21 := t_add ex_21 (by omega) (by omega) | skip
                          refine lv_goto (tgt := 2) hx hb dX12_owes_177 (by decide) ?_
                          exact ih2 x_21 g_20 fs (by omega) (by omega) (by omega) _ _ hP hD hS ls (lv_sub hl [0, 4, 5] rfl)
                        · have tc_17 := t_neq c_17
                          refine lv_aload_n hx hb dX12_owes_149 rfl (lv_at hl 4 rfl) ?_
                          refine va_get (D := D) (ci := 11) (v := .ref a_spared) (C := RX12) (T := TX12) (N := 54) hx hb hts in_n_owes_X12 hown hK.1 hP 0 rfl rfl 24 (by decide) lk7 (fun _ h9 => h9) rfl dX12_owes_150 ?_
                          refine lv_iload_n hx hb dX12_owes_153 rfl (lv_at hl 3 rfl) ?_
                          refine lv_dup2_11 hx hb dX12_owes_154 rfl rfl ?_
                          refine va_iald hx hb hK.1 hP 6 0 rfl rfl (t_in (by omega) (by omega)) dX12_owes_155 ?_
                          refine lv_topi (fun y_22 ey_22 => ?_)
                          refine lv_iload hx hb dX12_owes_156 (lv_at hl 0 rfl) ?_
                          refine lv_iadd hx hb dX12_owes_158 ?_
                          refine lv_topi (fun x_23 ex_23 => ?_)
                          refine va_iast hx hb hK.1 hP hD hS 6 0 rfl rfl (t_in (by omega) (by omega)) dX12_owes_159 (fun H locs hP hD hS => ?_)
                          obtain ⟨g_24, eg_24⟩ : ∃ z : Nat → Int32, z = upd fs ((j : Int32).toNatClampNeg) x_23 := ⟨_, rfl⟩
                          rw [← eg_24] at hP hD
                          have hP : va_P D vwCl [(h, .inr (11, [.int v_today, .int v_monks, .int v_aways, .int v_feasts, .int v_gifts, .int v_leaves, .int v_lates, .int v_store, .int v_allCandles, .ref a_isPriest, .ref a_bars, .ref a_joined, .ref a_turns, .ref a_awayMonk, .ref a_awayFrom, .ref a_awayTo, .ref a_feastDay, .ref a_rank, .ref a_isWeekly, .ref a_isDouble, .ref a_giftDay, .ref a_giftFrom, .ref a_owed, .ref a_said, .ref a_spared, .ref a_leaveGift, .ref a_leaveFrom, .ref a_leaveTo, .ref a_lateDay, .ref a_lateOffice, .ref a_lateBy, .ref a_guests, .ref a_who, .ref a_used, .ref a_lacks, .ref a_candles, .ref a_masses, .ref a_owing, .ref a_heldOn, .ref a_waits, .ref a_tape, .ref a_text, .int v_taped, .int v_size, .int v_at, .int v_fault, .int v_rules, .ref a_statements, .ref a_taken, .ref a_sort, .ref a_first, .ref a_second, .int v_wordEnd, .int v_number])), (a_isWeekly, .inl (cZ, 40, .inl f_isWeekly)), (a_isDouble, .inl (cZ, 40, .inl f_isDouble)), (a_giftDay, .inl (cI, 40, .inl f_giftDay)), (a_giftFrom, .inl (cI, 40, .inl f_giftFrom)), (a_owed, .inl (cI, 40, .inl fo)), (a_spared, .inl (cI, 40, .inl g_24)), (a_leaveGift, .inl (cI, 40, .inl f_leaveGift)), (a_leaveFrom, .inl (cI, 40, .inl f_leaveFrom)), (a_leaveTo, .inl (cI, 40, .inl f_leaveTo))] H := hP
                          have hD := asD hP hD
                          refine lv_goto (tgt := 174) hx hb dX12_owes_160 (by decide) ?_
                          obtain ⟨x_25, ex_25⟩ : ∃ y : Int32, y = j + 1 := ⟨_, rfl⟩
                          refine lv_iinc (v := x_25) (lv' := [(2, .int x_25), (5, .int 1), (4, .int a), (3, .int 1), (0, .ref h), (1, .int d)]) hx hb dX12_owes_174 hl (k := 3) rfl (by rw [ex_25]; rfl) (by decide) rfl (fun ls hl => ?_)
                          first | have tx_25 := t_add ex_25 (by omega) (by omega) | skip
                          refine lv_goto (tgt := 2) hx hb dX12_owes_177 (by decide) ?_
                          exact ih2 x_25 fo g_24 (by omega) (by omega) (by omega) _ _ hP hD hS ls (lv_sub hl [0, 4, 5] rfl)
                      · have tc_16 := t_neq c_16
                        refine lv_iconst (v := 2) hx hb dX12_owes_137 (by decide) ?_
                        refine lv_goto (tgt := 142) hx hb dX12_owes_138 (by decide) ?_
                        refine lv_istore (lv' := [(5, .int 2), (4, .int a), (3, .int 1), (2, .int j), (0, .ref h), (1, .int d)]) hx hb dX12_owes_142 hl (by decide) rfl (fun ls hl => ?_)
                        refine lv_iload hx hb dX12_owes_144 (lv_at hl 1 rfl) ?_
                        refine lv_if_eq (tgt := 163) hx hb dX12_owes_146 (by decide) (fun c_26 => ?_) (fun c_26 => ?_)
                        · have tc_26 := t_eq c_26
                          refine lv_aload_n hx hb dX12_owes_163 rfl (lv_at hl 4 rfl) ?_
                          refine va_get (D := D) (ci := 11) (v := .ref a_owed) (C := RX12) (T := TX12) (N := 54) hx hb hts in_n_owes_X12 hown hK.1 hP 0 rfl rfl 22 (by decide) lk6 (fun _ h9 => h9) rfl dX12_owes_164 ?_
                          refine lv_iload_n hx hb dX12_owes_167 rfl (lv_at hl 3 rfl) ?_
                          refine lv_dup2_11 hx hb dX12_owes_168 rfl rfl ?_
                          refine va_iald hx hb hK.1 hP 5 0 rfl rfl (t_in (by omega) (by omega)) dX12_owes_169 ?_
                          refine lv_topi (fun y_27 ey_27 => ?_)
                          refine lv_iload hx hb dX12_owes_170 (lv_at hl 0 rfl) ?_
                          refine lv_iadd hx hb dX12_owes_172 ?_
                          refine lv_topi (fun x_28 ex_28 => ?_)
                          refine va_iast hx hb hK.1 hP hD hS 5 0 rfl rfl (t_in (by omega) (by omega)) dX12_owes_173 (fun H locs hP hD hS => ?_)
                          obtain ⟨g_29, eg_29⟩ : ∃ z : Nat → Int32, z = upd fo ((j : Int32).toNatClampNeg) x_28 := ⟨_, rfl⟩
                          rw [← eg_29] at hP hD
                          have hP : va_P D vwCl [(h, .inr (11, [.int v_today, .int v_monks, .int v_aways, .int v_feasts, .int v_gifts, .int v_leaves, .int v_lates, .int v_store, .int v_allCandles, .ref a_isPriest, .ref a_bars, .ref a_joined, .ref a_turns, .ref a_awayMonk, .ref a_awayFrom, .ref a_awayTo, .ref a_feastDay, .ref a_rank, .ref a_isWeekly, .ref a_isDouble, .ref a_giftDay, .ref a_giftFrom, .ref a_owed, .ref a_said, .ref a_spared, .ref a_leaveGift, .ref a_leaveFrom, .ref a_leaveTo, .ref a_lateDay, .ref a_lateOffice, .ref a_lateBy, .ref a_guests, .ref a_who, .ref a_used, .ref a_lacks, .ref a_candles, .ref a_masses, .ref a_owing, .ref a_heldOn, .ref a_waits, .ref a_tape, .ref a_text, .int v_taped, .int v_size, .int v_at, .int v_fault, .int v_rules, .ref a_statements, .ref a_taken, .ref a_sort, .ref a_first, .ref a_second, .int v_wordEnd, .int v_number])), (a_isWeekly, .inl (cZ, 40, .inl f_isWeekly)), (a_isDouble, .inl (cZ, 40, .inl f_isDouble)), (a_giftDay, .inl (cI, 40, .inl f_giftDay)), (a_giftFrom, .inl (cI, 40, .inl f_giftFrom)), (a_owed, .inl (cI, 40, .inl g_29)), (a_spared, .inl (cI, 40, .inl fs)), (a_leaveGift, .inl (cI, 40, .inl f_leaveGift)), (a_leaveFrom, .inl (cI, 40, .inl f_leaveFrom)), (a_leaveTo, .inl (cI, 40, .inl f_leaveTo))] H := hP
                          have hD := asD hP hD
                          obtain ⟨x_30, ex_30⟩ : ∃ y : Int32, y = j + 1 := ⟨_, rfl⟩
                          refine lv_iinc (v := x_30) (lv' := [(2, .int x_30), (5, .int 2), (4, .int a), (3, .int 1), (0, .ref h), (1, .int d)]) hx hb dX12_owes_174 hl (k := 3) rfl (by rw [ex_30]; rfl) (by decide) rfl (fun ls hl => ?_)
                          first | have tx_30 := t_add ex_30 (by omega) (by omega) | skip
                          refine lv_goto (tgt := 2) hx hb dX12_owes_177 (by decide) ?_
                          exact ih2 x_30 g_29 fs (by omega) (by omega) (by omega) _ _ hP hD hS ls (lv_sub hl [0, 4, 5] rfl)
                        · have tc_26 := t_neq c_26
                          refine lv_aload_n hx hb dX12_owes_149 rfl (lv_at hl 4 rfl) ?_
                          refine va_get (D := D) (ci := 11) (v := .ref a_spared) (C := RX12) (T := TX12) (N := 54) hx hb hts in_n_owes_X12 hown hK.1 hP 0 rfl rfl 24 (by decide) lk7 (fun _ h9 => h9) rfl dX12_owes_150 ?_
                          refine lv_iload_n hx hb dX12_owes_153 rfl (lv_at hl 3 rfl) ?_
                          refine lv_dup2_11 hx hb dX12_owes_154 rfl rfl ?_
                          refine va_iald hx hb hK.1 hP 6 0 rfl rfl (t_in (by omega) (by omega)) dX12_owes_155 ?_
                          refine lv_topi (fun y_31 ey_31 => ?_)
                          refine lv_iload hx hb dX12_owes_156 (lv_at hl 0 rfl) ?_
                          refine lv_iadd hx hb dX12_owes_158 ?_
                          refine lv_topi (fun x_32 ex_32 => ?_)
                          refine va_iast hx hb hK.1 hP hD hS 6 0 rfl rfl (t_in (by omega) (by omega)) dX12_owes_159 (fun H locs hP hD hS => ?_)
                          obtain ⟨g_33, eg_33⟩ : ∃ z : Nat → Int32, z = upd fs ((j : Int32).toNatClampNeg) x_32 := ⟨_, rfl⟩
                          rw [← eg_33] at hP hD
                          have hP : va_P D vwCl [(h, .inr (11, [.int v_today, .int v_monks, .int v_aways, .int v_feasts, .int v_gifts, .int v_leaves, .int v_lates, .int v_store, .int v_allCandles, .ref a_isPriest, .ref a_bars, .ref a_joined, .ref a_turns, .ref a_awayMonk, .ref a_awayFrom, .ref a_awayTo, .ref a_feastDay, .ref a_rank, .ref a_isWeekly, .ref a_isDouble, .ref a_giftDay, .ref a_giftFrom, .ref a_owed, .ref a_said, .ref a_spared, .ref a_leaveGift, .ref a_leaveFrom, .ref a_leaveTo, .ref a_lateDay, .ref a_lateOffice, .ref a_lateBy, .ref a_guests, .ref a_who, .ref a_used, .ref a_lacks, .ref a_candles, .ref a_masses, .ref a_owing, .ref a_heldOn, .ref a_waits, .ref a_tape, .ref a_text, .int v_taped, .int v_size, .int v_at, .int v_fault, .int v_rules, .ref a_statements, .ref a_taken, .ref a_sort, .ref a_first, .ref a_second, .int v_wordEnd, .int v_number])), (a_isWeekly, .inl (cZ, 40, .inl f_isWeekly)), (a_isDouble, .inl (cZ, 40, .inl f_isDouble)), (a_giftDay, .inl (cI, 40, .inl f_giftDay)), (a_giftFrom, .inl (cI, 40, .inl f_giftFrom)), (a_owed, .inl (cI, 40, .inl fo)), (a_spared, .inl (cI, 40, .inl g_33)), (a_leaveGift, .inl (cI, 40, .inl f_leaveGift)), (a_leaveFrom, .inl (cI, 40, .inl f_leaveFrom)), (a_leaveTo, .inl (cI, 40, .inl f_leaveTo))] H := hP
                          have hD := asD hP hD
                          refine lv_goto (tgt := 174) hx hb dX12_owes_160 (by decide) ?_
                          obtain ⟨x_34, ex_34⟩ : ∃ y : Int32, y = j + 1 := ⟨_, rfl⟩
                          refine lv_iinc (v := x_34) (lv' := [(2, .int x_34), (5, .int 2), (4, .int a), (3, .int 1), (0, .ref h), (1, .int d)]) hx hb dX12_owes_174 hl (k := 3) rfl (by rw [ex_34]; rfl) (by decide) rfl (fun ls hl => ?_)
                          first | have tx_34 := t_add ex_34 (by omega) (by omega) | skip
                          refine lv_goto (tgt := 2) hx hb dX12_owes_177 (by decide) ?_
                          exact ih2 x_34 fo g_33 (by omega) (by omega) (by omega) _ _ hP hD hS ls (lv_sub hl [0, 4, 5] rfl)
                    · have tc_14 := t_nle c_14
                      refine lv_iload hx hb dX12_owes_78 (lv_at hl 1 rfl) ?_
                      refine lv_if_ne (tgt := 115) hx hb dX12_owes_80 (by decide) (fun c_35 => ?_) (fun c_35 => ?_)
                      · have tc_35 := t_neq c_35
                        refine lv_iconst (v := 1) hx hb dX12_owes_115 (by decide) ?_
                        refine lv_goto (tgt := 120) hx hb dX12_owes_116 (by decide) ?_
                        refine lv_istore (lv' := [(4, .int 1), (5, .int q), (3, .int 1), (2, .int j), (0, .ref h), (1, .int d)]) hx hb dX12_owes_120 hl (by decide) rfl (fun ls hl => ?_)
                        obtain ⟨x_36, ex_36⟩ : ∃ y : Int32, y = q + 1 := ⟨_, rfl⟩
                        refine lv_iinc (v := x_36) (lv' := [(5, .int x_36), (4, .int 1), (3, .int 1), (2, .int j), (0, .ref h), (1, .int d)]) hx hb dX12_owes_122 hl (k := 1) rfl (by rw [ex_36]; rfl) (by decide) rfl (fun ls hl => ?_)
                        first | have tx_36 := t_add ex_36 (by omega) (by omega) | skip
                        refine lv_goto (tgt := 69) hx hb dX12_owes_125 (by decide) ?_
                        exact ih69 1 x_36 (by omega) (by omega) (by omega) _ _ hP hD hS ls (lv_sub hl [0, 1, 2, 3, 4, 5] rfl)
                      · have tc_35 := t_eq c_35
                        refine lv_aload_n hx hb dX12_owes_83 rfl (lv_at hl 4 rfl) ?_
                        refine va_get (D := D) (ci := 11) (v := .ref a_leaveGift) (C := RX12) (T := TX12) (N := 54) hx hb hts in_n_owes_X12 hown hK.1 hP 0 rfl rfl 25 (by decide) lk8 (fun _ h9 => h9) rfl dX12_owes_84 ?_
                        refine lv_iload hx hb dX12_owes_87 (lv_at hl 0 rfl) ?_
                        refine va_iald hx hb hK.1 hP 7 0 rfl rfl (t_in (by omega) (by omega)) dX12_owes_89 ?_
                        refine lv_topi (fun y_37 ey_37 => ?_)
                        refine lv_iload_n hx hb dX12_owes_90 rfl (lv_at hl 3 rfl) ?_
                        refine lv_icmp_ne (tgt := 119) hx hb dX12_owes_91 (by decide) (fun c_38 => ?_) (fun c_38 => ?_)
                        · have tc_38 := t_neq c_38
                          refine lv_iconst (v := 0) hx hb dX12_owes_119 (by decide) ?_
                          refine lv_istore (lv' := [(4, .int 0), (5, .int q), (3, .int 1), (2, .int j), (0, .ref h), (1, .int d)]) hx hb dX12_owes_120 hl (by decide) rfl (fun ls hl => ?_)
                          obtain ⟨x_39, ex_39⟩ : ∃ y : Int32, y = q + 1 := ⟨_, rfl⟩
                          refine lv_iinc (v := x_39) (lv' := [(5, .int x_39), (4, .int 0), (3, .int 1), (2, .int j), (0, .ref h), (1, .int d)]) hx hb dX12_owes_122 hl (k := 1) rfl (by rw [ex_39]; rfl) (by decide) rfl (fun ls hl => ?_)
                          first | have tx_39 := t_add ex_39 (by omega) (by omega) | skip
                          refine lv_goto (tgt := 69) hx hb dX12_owes_125 (by decide) ?_
                          exact ih69 0 x_39 (by omega) (by omega) (by omega) _ _ hP hD hS ls (lv_sub hl [0, 1, 2, 3, 4, 5] rfl)
                        · have tc_38 := t_eq c_38
                          refine lv_iload_n hx hb dX12_owes_94 rfl (lv_at hl 5 rfl) ?_
                          refine lv_aload_n hx hb dX12_owes_95 rfl (lv_at hl 4 rfl) ?_
                          refine va_get (D := D) (ci := 11) (v := .ref a_leaveFrom) (C := RX12) (T := TX12) (N := 54) hx hb hts in_n_owes_X12 hown hK.1 hP 0 rfl rfl 26 (by decide) lk9 (fun _ h9 => h9) rfl dX12_owes_96 ?_
                          refine lv_iload hx hb dX12_owes_99 (lv_at hl 0 rfl) ?_
                          refine va_iald hx hb hK.1 hP 8 0 rfl rfl (t_in (by omega) (by omega)) dX12_owes_101 ?_
                          refine lv_topi (fun y_40 ey_40 => ?_)
                          refine lv_aload_n hx hb dX12_owes_102 rfl (lv_at hl 4 rfl) ?_
                          refine va_get (D := D) (ci := 11) (v := .ref a_leaveTo) (C := RX12) (T := TX12) (N := 54) hx hb hts in_n_owes_X12 hown hK.1 hP 0 rfl rfl 27 (by decide) lk10 (fun _ h9 => h9) rfl dX12_owes_103 ?_
                          refine lv_iload hx hb dX12_owes_106 (lv_at hl 0 rfl) ?_
                          refine va_iald hx hb hK.1 hP 9 0 rfl rfl (t_in (by omega) (by omega)) dX12_owes_108 ?_
                          refine lv_topi (fun y_41 ey_41 => ?_)
                          have hPc := hP.sub (ws' := []) [] rfl
                          refine roS (As := [.int d, .int y_40, .int y_41]) (rest := []) S (m_isIn  ) (va_cwS 3 hts gX12_owes_X12_isIn rfl rfl rfl hd_X12_isIn ⟨Nat.le_of_ble_eq_true rfl, Nat.le_of_ble_eq_true rfl⟩) hK hPc rfl hl.1 rfl (Nat.le_of_ble_eq_true rfl) dX12_owes_109 ⟨Nat.le_of_ble_eq_true rfl, Nat.le_of_ble_eq_true rfl⟩ (fun r_42 hw_42 => ?_)
                          have hw_42 : (r_42.toInt = 1 ∧ y_40.toInt ≤ d.toInt ∧ d.toInt ≤ y_41.toInt) ∨ (r_42.toInt = 0 ∧ (d.toInt < y_40.toInt ∨ y_41.toInt < d.toInt)) := hw_42
                          refine lv_if_eq (tgt := 119) hx hb dX12_owes_112 (by decide) (fun c_43 => ?_) (fun c_43 => ?_)
                          · have tc_43 := t_eq c_43
                            refine lv_iconst (v := 0) hx hb dX12_owes_119 (by decide) ?_
                            refine lv_istore (lv' := [(4, .int 0), (5, .int q), (3, .int 1), (2, .int j), (0, .ref h), (1, .int d)]) hx hb dX12_owes_120 hl (by decide) rfl (fun ls hl => ?_)
                            obtain ⟨x_44, ex_44⟩ : ∃ y : Int32, y = q + 1 := ⟨_, rfl⟩
                            refine lv_iinc (v := x_44) (lv' := [(5, .int x_44), (4, .int 0), (3, .int 1), (2, .int j), (0, .ref h), (1, .int d)]) hx hb dX12_owes_122 hl (k := 1) rfl (by rw [ex_44]; rfl) (by decide) rfl (fun ls hl => ?_)
                            first | have tx_44 := t_add ex_44 (by omega) (by omega) | skip
                            refine lv_goto (tgt := 69) hx hb dX12_owes_125 (by decide) ?_
                            exact ih69 0 x_44 (by omega) (by omega) (by omega) _ _ hP hD hS ls (lv_sub hl [0, 1, 2, 3, 4, 5] rfl)
                          · have tc_43 := t_neq c_43
                            refine lv_iconst (v := 1) hx hb dX12_owes_115 (by decide) ?_
                            refine lv_goto (tgt := 120) hx hb dX12_owes_116 (by decide) ?_
                            refine lv_istore (lv' := [(4, .int 1), (5, .int q), (3, .int 1), (2, .int j), (0, .ref h), (1, .int d)]) hx hb dX12_owes_120 hl (by decide) rfl (fun ls hl => ?_)
                            obtain ⟨x_45, ex_45⟩ : ∃ y : Int32, y = q + 1 := ⟨_, rfl⟩
                            refine lv_iinc (v := x_45) (lv' := [(5, .int x_45), (4, .int 1), (3, .int 1), (2, .int j), (0, .ref h), (1, .int d)]) hx hb dX12_owes_122 hl (k := 1) rfl (by rw [ex_45]; rfl) (by decide) rfl (fun ls hl => ?_)
                            first | have tx_45 := t_add ex_45 (by omega) (by omega) | skip
                            refine lv_goto (tgt := 69) hx hb dX12_owes_125 (by decide) ?_
                            exact ih69 1 x_45 (by omega) (by omega) (by omega) _ _ hP hD hS ls (lv_sub hl [0, 1, 2, 3, 4, 5] rfl)
                exact loop69 ((v_leaves.toInt - (0 : Int32).toInt).toNat + 1) 0 0 (by omega) (by omega) (by omega) _ _ hP hD hS ls (lv_sub hl [0, 1, 2, 3, 4, 5] rfl)
              · exact absurd c_13 (by decide)
          · have tc_8 := t_neq c_8
            refine lv_iload_n hx hb dX12_owes_35 rfl (lv_at hl 2 rfl) ?_
            refine lv_bipush (v := 7) hx hb dX12_owes_36 (by decide) ?_
            refine lv_irem hx hb dX12_owes_38 (by decide) ?_
            refine lv_topi (fun x_46 ex_46 => ?_)
            refine lv_goto (tgt := 47) hx hb dX12_owes_39 (by decide) ?_
            refine lv_icmp_ne (tgt := 54) hx hb dX12_owes_47 (by decide) (fun c_47 => ?_) (fun c_47 => ?_)
            · have tc_47 := t_neq c_47
              refine lv_iconst (v := 0) hx hb dX12_owes_54 (by decide) ?_
              refine lv_istore_n (lv' := [(3, .int 0), (2, .int j), (0, .ref h), (1, .int d)]) hx hb dX12_owes_55 rfl hl (by decide) rfl (fun ls hl => ?_)
              refine lv_iload_n hx hb dX12_owes_56 rfl (lv_at hl 0 rfl) ?_
              refine lv_if_ne (tgt := 63) hx hb dX12_owes_57 (by decide) (fun c_48 => ?_) (fun c_48 => ?_)
              · exact absurd c_48 (by decide)
              · have tc_48 := t_eq c_48
                refine lv_goto (tgt := 174) hx hb dX12_owes_60 (by decide) ?_
                obtain ⟨x_49, ex_49⟩ : ∃ y : Int32, y = j + 1 := ⟨_, rfl⟩
                refine lv_iinc (v := x_49) (lv' := [(2, .int x_49), (3, .int 0), (0, .ref h), (1, .int d)]) hx hb dX12_owes_174 hl (k := 1) rfl (by rw [ex_49]; rfl) (by decide) rfl (fun ls hl => ?_)
                first | have tx_49 := t_add ex_49 (by omega) (by omega) | skip
                refine lv_goto (tgt := 2) hx hb dX12_owes_177 (by decide) ?_
                exact ih2 x_49 fo fs (by omega) (by omega) (by omega) _ _ hP hD hS ls (lv_sub hl [0, 2, 3] rfl)
            · have tc_47 := t_eq c_47
              refine lv_iconst (v := 1) hx hb dX12_owes_50 (by decide) ?_
              refine lv_goto (tgt := 55) hx hb dX12_owes_51 (by decide) ?_
              refine lv_istore_n (lv' := [(3, .int 1), (2, .int j), (0, .ref h), (1, .int d)]) hx hb dX12_owes_55 rfl hl (by decide) rfl (fun ls hl => ?_)
              refine lv_iload_n hx hb dX12_owes_56 rfl (lv_at hl 0 rfl) ?_
              refine lv_if_ne (tgt := 63) hx hb dX12_owes_57 (by decide) (fun c_50 => ?_) (fun c_50 => ?_)
              · have tc_50 := t_neq c_50
                refine lv_iconst (v := 0) hx hb dX12_owes_63 (by decide) ?_
                refine lv_istore (lv' := [(4, .int 0), (3, .int 1), (2, .int j), (0, .ref h), (1, .int d)]) hx hb dX12_owes_64 hl (by decide) rfl (fun ls hl => ?_)
                refine lv_iconst (v := 0) hx hb dX12_owes_66 (by decide) ?_
                refine lv_istore (lv' := [(5, .int 0), (4, .int 0), (3, .int 1), (2, .int j), (0, .ref h), (1, .int d)]) hx hb dX12_owes_67 hl (by decide) rfl (fun ls hl => ?_)
                have loop69 : ∀ (fuel : Nat) (a : Int32) (q : Int32), v_leaves.toInt - q.toInt < (fuel : Int) → (0 ≤ q.toInt) → (q.toInt ≤ v_leaves.toInt) → ∀ (H : Heap) (locs : List Loc), va_P D vwCl [(h, .inr (11, [.int v_today, .int v_monks, .int v_aways, .int v_feasts, .int v_gifts, .int v_leaves, .int v_lates, .int v_store, .int v_allCandles, .ref a_isPriest, .ref a_bars, .ref a_joined, .ref a_turns, .ref a_awayMonk, .ref a_awayFrom, .ref a_awayTo, .ref a_feastDay, .ref a_rank, .ref a_isWeekly, .ref a_isDouble, .ref a_giftDay, .ref a_giftFrom, .ref a_owed, .ref a_said, .ref a_spared, .ref a_leaveGift, .ref a_leaveFrom, .ref a_leaveTo, .ref a_lateDay, .ref a_lateOffice, .ref a_lateBy, .ref a_guests, .ref a_who, .ref a_used, .ref a_lacks, .ref a_candles, .ref a_masses, .ref a_owing, .ref a_heldOn, .ref a_waits, .ref a_tape, .ref a_text, .int v_taped, .int v_size, .int v_at, .int v_fault, .int v_rules, .ref a_statements, .ref a_taken, .ref a_sort, .ref a_first, .ref a_second, .int v_wordEnd, .int v_number])), (a_isWeekly, .inl (cZ, 40, .inl f_isWeekly)), (a_isDouble, .inl (cZ, 40, .inl f_isDouble)), (a_giftDay, .inl (cI, 40, .inl f_giftDay)), (a_giftFrom, .inl (cI, 40, .inl f_giftFrom)), (a_owed, .inl (cI, 40, .inl fo)), (a_spared, .inl (cI, 40, .inl fs)), (a_leaveGift, .inl (cI, 40, .inl f_leaveGift)), (a_leaveFrom, .inl (cI, 40, .inl f_leaveFrom)), (a_leaveTo, .inl (cI, 40, .inl f_leaveTo))] H → va_D A [(h, .inr (11, [.int v_today, .int v_monks, .int v_aways, .int v_feasts, .int v_gifts, .int v_leaves, .int v_lates, .int v_store, .int v_allCandles, .ref a_isPriest, .ref a_bars, .ref a_joined, .ref a_turns, .ref a_awayMonk, .ref a_awayFrom, .ref a_awayTo, .ref a_feastDay, .ref a_rank, .ref a_isWeekly, .ref a_isDouble, .ref a_giftDay, .ref a_giftFrom, .ref a_owed, .ref a_said, .ref a_spared, .ref a_leaveGift, .ref a_leaveFrom, .ref a_leaveTo, .ref a_lateDay, .ref a_lateOffice, .ref a_lateBy, .ref a_guests, .ref a_who, .ref a_used, .ref a_lacks, .ref a_candles, .ref a_masses, .ref a_owing, .ref a_heldOn, .ref a_waits, .ref a_tape, .ref a_text, .int v_taped, .int v_size, .int v_at, .int v_fault, .int v_rules, .ref a_statements, .ref a_taken, .ref a_sort, .ref a_first, .ref a_second, .int v_wordEnd, .int v_number])), (a_isWeekly, .inl (cZ, 40, .inl f_isWeekly)), (a_isDouble, .inl (cZ, 40, .inl f_isDouble)), (a_giftDay, .inl (cI, 40, .inl f_giftDay)), (a_giftFrom, .inl (cI, 40, .inl f_giftFrom)), (a_owed, .inl (cI, 40, .inl fo)), (a_spared, .inl (cI, 40, .inl fs)), (a_leaveGift, .inl (cI, 40, .inl f_leaveGift)), (a_leaveFrom, .inl (cI, 40, .inl f_leaveFrom)), (a_leaveTo, .inl (cI, 40, .inl f_leaveTo))] → va_S A s.heap H locs → ∀ ls : Array Slot, lv_has ls 6 [(5, .int q), (4, .int a), (3, .int 1), (2, .int j), (0, .ref h), (1, .int d)] → W p l e ({ frames := 1, cells := 0, slots := 0, locals := 22 } : Room) s m args below meth c H locs 0 0 Q (F0 m 69 ls []) := by
                  intro fuel
                  induction fuel with
                  | zero =>
                    intro a q hmu hq0 hq1 H locs hP hD hS ls hl
                    exfalso; omega
                  | succ fuel ih69 =>
                    intro a q hmu hq0 hq1 H locs hP hD hS ls hl
                    refine lv_iload hx hb dX12_owes_69 (lv_at hl 0 rfl) ?_
                    refine lv_aload_n hx hb dX12_owes_71 rfl (lv_at hl 4 rfl) ?_
                    refine va_get (D := D) (ci := 11) (v := .int v_leaves) (C := RX12) (T := TX12) (N := 54) hx hb hts in_n_owes_X12 hown hK.1 hP 0 rfl rfl 5 (by decide) lk4 (fun _ h9 => h9) rfl dX12_owes_72 ?_
                    refine lv_icmp_ge (tgt := 128) hx hb dX12_owes_75 (by decide) (fun c_51 => ?_) (fun c_51 => ?_)
                    · have tc_51 := t_le c_51
                      refine lv_aload_n hx hb dX12_owes_128 rfl (lv_at hl 4 rfl) ?_
                      refine va_get (D := D) (ci := 11) (v := .ref a_isDouble) (C := RX12) (T := TX12) (N := 54) hx hb hts in_n_owes_X12 hown hK.1 hP 0 rfl rfl 19 (by decide) lk5 (fun _ h9 => h9) rfl dX12_owes_129 ?_
                      refine lv_iload_n hx hb dX12_owes_132 rfl (lv_at hl 3 rfl) ?_
                      refine va_zald hx hb hK.1 hP 2 1 rfl rfl (t_in (by omega) (by omega)) dX12_owes_133 ?_
                      refine lv_topi (fun y_52 ey_52 => ?_)
                      refine lv_if_eq (tgt := 141) hx hb dX12_owes_134 (by decide) (fun c_53 => ?_) (fun c_53 => ?_)
                      · have tc_53 := t_eq c_53
                        refine lv_iconst (v := 1) hx hb dX12_owes_141 (by decide) ?_
                        refine lv_istore (lv' := [(5, .int 1), (4, .int a), (3, .int 1), (2, .int j), (0, .ref h), (1, .int d)]) hx hb dX12_owes_142 hl (by decide) rfl (fun ls hl => ?_)
                        refine lv_iload hx hb dX12_owes_144 (lv_at hl 1 rfl) ?_
                        refine lv_if_eq (tgt := 163) hx hb dX12_owes_146 (by decide) (fun c_54 => ?_) (fun c_54 => ?_)
                        · have tc_54 := t_eq c_54
                          refine lv_aload_n hx hb dX12_owes_163 rfl (lv_at hl 4 rfl) ?_
                          refine va_get (D := D) (ci := 11) (v := .ref a_owed) (C := RX12) (T := TX12) (N := 54) hx hb hts in_n_owes_X12 hown hK.1 hP 0 rfl rfl 22 (by decide) lk6 (fun _ h9 => h9) rfl dX12_owes_164 ?_
                          refine lv_iload_n hx hb dX12_owes_167 rfl (lv_at hl 3 rfl) ?_
                          refine lv_dup2_11 hx hb dX12_owes_168 rfl rfl ?_
                          refine va_iald hx hb hK.1 hP 5 0 rfl rfl (t_in (by omega) (by omega)) dX12_owes_169 ?_
                          refine lv_topi (fun y_55 ey_55 => ?_)
                          refine lv_iload hx hb dX12_owes_170 (lv_at hl 0 rfl) ?_
                          refine lv_iadd hx hb dX12_owes_172 ?_
                          refine lv_topi (fun x_56 ex_56 => ?_)
                          refine va_iast hx hb hK.1 hP hD hS 5 0 rfl rfl (t_in (by omega) (by omega)) dX12_owes_173 (fun H locs hP hD hS => ?_)
                          obtain ⟨g_57, eg_57⟩ : ∃ z : Nat → Int32, z = upd fo ((j : Int32).toNatClampNeg) x_56 := ⟨_, rfl⟩
                          rw [← eg_57] at hP hD
                          have hP : va_P D vwCl [(h, .inr (11, [.int v_today, .int v_monks, .int v_aways, .int v_feasts, .int v_gifts, .int v_leaves, .int v_lates, .int v_store, .int v_allCandles, .ref a_isPriest, .ref a_bars, .ref a_joined, .ref a_turns, .ref a_awayMonk, .ref a_awayFrom, .ref a_awayTo, .ref a_feastDay, .ref a_rank, .ref a_isWeekly, .ref a_isDouble, .ref a_giftDay, .ref a_giftFrom, .ref a_owed, .ref a_said, .ref a_spared, .ref a_leaveGift, .ref a_leaveFrom, .ref a_leaveTo, .ref a_lateDay, .ref a_lateOffice, .ref a_lateBy, .ref a_guests, .ref a_who, .ref a_used, .ref a_lacks, .ref a_candles, .ref a_masses, .ref a_owing, .ref a_heldOn, .ref a_waits, .ref a_tape, .ref a_text, .int v_taped, .int v_size, .int v_at, .int v_fault, .int v_rules, .ref a_statements, .ref a_taken, .ref a_sort, .ref a_first, .ref a_second, .int v_wordEnd, .int v_number])), (a_isWeekly, .inl (cZ, 40, .inl f_isWeekly)), (a_isDouble, .inl (cZ, 40, .inl f_isDouble)), (a_giftDay, .inl (cI, 40, .inl f_giftDay)), (a_giftFrom, .inl (cI, 40, .inl f_giftFrom)), (a_owed, .inl (cI, 40, .inl g_57)), (a_spared, .inl (cI, 40, .inl fs)), (a_leaveGift, .inl (cI, 40, .inl f_leaveGift)), (a_leaveFrom, .inl (cI, 40, .inl f_leaveFrom)), (a_leaveTo, .inl (cI, 40, .inl f_leaveTo))] H := hP
                          have hD := asD hP hD
                          obtain ⟨x_58, ex_58⟩ : ∃ y : Int32, y = j + 1 := ⟨_, rfl⟩
                          refine lv_iinc (v := x_58) (lv' := [(2, .int x_58), (5, .int 1), (4, .int a), (3, .int 1), (0, .ref h), (1, .int d)]) hx hb dX12_owes_174 hl (k := 3) rfl (by rw [ex_58]; rfl) (by decide) rfl (fun ls hl => ?_)
                          first | have tx_58 := t_add ex_58 (by omega) (by omega) | skip
                          refine lv_goto (tgt := 2) hx hb dX12_owes_177 (by decide) ?_
                          exact ih2 x_58 g_57 fs (by omega) (by omega) (by omega) _ _ hP hD hS ls (lv_sub hl [0, 4, 5] rfl)
                        · have tc_54 := t_neq c_54
                          refine lv_aload_n hx hb dX12_owes_149 rfl (lv_at hl 4 rfl) ?_
                          refine va_get (D := D) (ci := 11) (v := .ref a_spared) (C := RX12) (T := TX12) (N := 54) hx hb hts in_n_owes_X12 hown hK.1 hP 0 rfl rfl 24 (by decide) lk7 (fun _ h9 => h9) rfl dX12_owes_150 ?_
                          refine lv_iload_n hx hb dX12_owes_153 rfl (lv_at hl 3 rfl) ?_
                          refine lv_dup2_11 hx hb dX12_owes_154 rfl rfl ?_
                          refine va_iald hx hb hK.1 hP 6 0 rfl rfl (t_in (by omega) (by omega)) dX12_owes_155 ?_
                          refine lv_topi (fun y_59 ey_59 => ?_)
                          refine lv_iload hx hb dX12_owes_156 (lv_at hl 0 rfl) ?_
                          refine lv_iadd hx hb dX12_owes_158 ?_
                          refine lv_topi (fun x_60 ex_60 => ?_)
                          refine va_iast hx hb hK.1 hP hD hS 6 0 rfl rfl (t_in (by omega) (by omega)) dX12_owes_159 (fun H locs hP hD hS => ?_)
                          obtain ⟨g_61, eg_61⟩ : ∃ z : Nat → Int32, z = upd fs ((j : Int32).toNatClampNeg) x_60 := ⟨_, rfl⟩
                          rw [← eg_61] at hP hD
                          have hP : va_P D vwCl [(h, .inr (11, [.int v_today, .int v_monks, .int v_aways, .int v_feasts, .int v_gifts, .int v_leaves, .int v_lates, .int v_store, .int v_allCandles, .ref a_isPriest, .ref a_bars, .ref a_joined, .ref a_turns, .ref a_awayMonk, .ref a_awayFrom, .ref a_awayTo, .ref a_feastDay, .ref a_rank, .ref a_isWeekly, .ref a_isDouble, .ref a_giftDay, .ref a_giftFrom, .ref a_owed, .ref a_said, .ref a_spared, .ref a_leaveGift, .ref a_leaveFrom, .ref a_leaveTo, .ref a_lateDay, .ref a_lateOffice, .ref a_lateBy, .ref a_guests, .ref a_who, .ref a_used, .ref a_lacks, .ref a_candles, .ref a_masses, .ref a_owing, .ref a_heldOn, .ref a_waits, .ref a_tape, .ref a_text, .int v_taped, .int v_size, .int v_at, .int v_fault, .int v_rules, .ref a_statements, .ref a_taken, .ref a_sort, .ref a_first, .ref a_second, .int v_wordEnd, .int v_number])), (a_isWeekly, .inl (cZ, 40, .inl f_isWeekly)), (a_isDouble, .inl (cZ, 40, .inl f_isDouble)), (a_giftDay, .inl (cI, 40, .inl f_giftDay)), (a_giftFrom, .inl (cI, 40, .inl f_giftFrom)), (a_owed, .inl (cI, 40, .inl fo)), (a_spared, .inl (cI, 40, .inl g_61)), (a_leaveGift, .inl (cI, 40, .inl f_leaveGift)), (a_leaveFrom, .inl (cI, 40, .inl f_leaveFrom)), (a_leaveTo, .inl (cI, 40, .inl f_leaveTo))] H := hP
                          have hD := asD hP hD
                          refine lv_goto (tgt := 174) hx hb dX12_owes_160 (by decide) ?_
                          obtain ⟨x_62, ex_62⟩ : ∃ y : Int32, y = j + 1 := ⟨_, rfl⟩
                          refine lv_iinc (v := x_62) (lv' := [(2, .int x_62), (5, .int 1), (4, .int a), (3, .int 1), (0, .ref h), (1, .int d)]) hx hb dX12_owes_174 hl (k := 3) rfl (by rw [ex_62]; rfl) (by decide) rfl (fun ls hl => ?_)
                          first | have tx_62 := t_add ex_62 (by omega) (by omega) | skip
                          refine lv_goto (tgt := 2) hx hb dX12_owes_177 (by decide) ?_
                          exact ih2 x_62 fo g_61 (by omega) (by omega) (by omega) _ _ hP hD hS ls (lv_sub hl [0, 4, 5] rfl)
                      · have tc_53 := t_neq c_53
                        refine lv_iconst (v := 2) hx hb dX12_owes_137 (by decide) ?_
                        refine lv_goto (tgt := 142) hx hb dX12_owes_138 (by decide) ?_
                        refine lv_istore (lv' := [(5, .int 2), (4, .int a), (3, .int 1), (2, .int j), (0, .ref h), (1, .int d)]) hx hb dX12_owes_142 hl (by decide) rfl (fun ls hl => ?_)
                        refine lv_iload hx hb dX12_owes_144 (lv_at hl 1 rfl) ?_
                        refine lv_if_eq (tgt := 163) hx hb dX12_owes_146 (by decide) (fun c_63 => ?_) (fun c_63 => ?_)
                        · have tc_63 := t_eq c_63
                          refine lv_aload_n hx hb dX12_owes_163 rfl (lv_at hl 4 rfl) ?_
                          refine va_get (D := D) (ci := 11) (v := .ref a_owed) (C := RX12) (T := TX12) (N := 54) hx hb hts in_n_owes_X12 hown hK.1 hP 0 rfl rfl 22 (by decide) lk6 (fun _ h9 => h9) rfl dX12_owes_164 ?_
                          refine lv_iload_n hx hb dX12_owes_167 rfl (lv_at hl 3 rfl) ?_
                          refine lv_dup2_11 hx hb dX12_owes_168 rfl rfl ?_
                          refine va_iald hx hb hK.1 hP 5 0 rfl rfl (t_in (by omega) (by omega)) dX12_owes_169 ?_
                          refine lv_topi (fun y_64 ey_64 => ?_)
                          refine lv_iload hx hb dX12_owes_170 (lv_at hl 0 rfl) ?_
                          refine lv_iadd hx hb dX12_owes_172 ?_
                          refine lv_topi (fun x_65 ex_65 => ?_)
                          refine va_iast hx hb hK.1 hP hD hS 5 0 rfl rfl (t_in (by omega) (by omega)) dX12_owes_173 (fun H locs hP hD hS => ?_)
                          obtain ⟨g_66, eg_66⟩ : ∃ z : Nat → Int32, z = upd fo ((j : Int32).toNatClampNeg) x_65 := ⟨_, rfl⟩
                          rw [← eg_66] at hP hD
                          have hP : va_P D vwCl [(h, .inr (11, [.int v_today, .int v_monks, .int v_aways, .int v_feasts, .int v_gifts, .int v_leaves, .int v_lates, .int v_store, .int v_allCandles, .ref a_isPriest, .ref a_bars, .ref a_joined, .ref a_turns, .ref a_awayMonk, .ref a_awayFrom, .ref a_awayTo, .ref a_feastDay, .ref a_rank, .ref a_isWeekly, .ref a_isDouble, .ref a_giftDay, .ref a_giftFrom, .ref a_owed, .ref a_said, .ref a_spared, .ref a_leaveGift, .ref a_leaveFrom, .ref a_leaveTo, .ref a_lateDay, .ref a_lateOffice, .ref a_lateBy, .ref a_guests, .ref a_who, .ref a_used, .ref a_lacks, .ref a_candles, .ref a_masses, .ref a_owing, .ref a_heldOn, .ref a_waits, .ref a_tape, .ref a_text, .int v_taped, .int v_size, .int v_at, .int v_fault, .int v_rules, .ref a_statements, .ref a_taken, .ref a_sort, .ref a_first, .ref a_second, .int v_wordEnd, .int v_number])), (a_isWeekly, .inl (cZ, 40, .inl f_isWeekly)), (a_isDouble, .inl (cZ, 40, .inl f_isDouble)), (a_giftDay, .inl (cI, 40, .inl f_giftDay)), (a_giftFrom, .inl (cI, 40, .inl f_giftFrom)), (a_owed, .inl (cI, 40, .inl g_66)), (a_spared, .inl (cI, 40, .inl fs)), (a_leaveGift, .inl (cI, 40, .inl f_leaveGift)), (a_leaveFrom, .inl (cI, 40, .inl f_leaveFrom)), (a_leaveTo, .inl (cI, 40, .inl f_leaveTo))] H := hP
                          have hD := asD hP hD
                          obtain ⟨x_67, ex_67⟩ : ∃ y : Int32, y = j + 1 := ⟨_, rfl⟩
                          refine lv_iinc (v := x_67) (lv' := [(2, .int x_67), (5, .int 2), (4, .int a), (3, .int 1), (0, .ref h), (1, .int d)]) hx hb dX12_owes_174 hl (k := 3) rfl (by rw [ex_67]; rfl) (by decide) rfl (fun ls hl => ?_)
                          first | have tx_67 := t_add ex_67 (by omega) (by omega) | skip
                          refine lv_goto (tgt := 2) hx hb dX12_owes_177 (by decide) ?_
                          exact ih2 x_67 g_66 fs (by omega) (by omega) (by omega) _ _ hP hD hS ls (lv_sub hl [0, 4, 5] rfl)
                        · have tc_63 := t_neq c_63
                          refine lv_aload_n hx hb dX12_owes_149 rfl (lv_at hl 4 rfl) ?_
                          refine va_get (D := D) (ci := 11) (v := .ref a_spared) (C := RX12) (T := TX12) (N := 54) hx hb hts in_n_owes_X12 hown hK.1 hP 0 rfl rfl 24 (by decide) lk7 (fun _ h9 => h9) rfl dX12_owes_150 ?_
                          refine lv_iload_n hx hb dX12_owes_153 rfl (lv_at hl 3 rfl) ?_
                          refine lv_dup2_11 hx hb dX12_owes_154 rfl rfl ?_
                          refine va_iald hx hb hK.1 hP 6 0 rfl rfl (t_in (by omega) (by omega)) dX12_owes_155 ?_
                          refine lv_topi (fun y_68 ey_68 => ?_)
                          refine lv_iload hx hb dX12_owes_156 (lv_at hl 0 rfl) ?_
                          refine lv_iadd hx hb dX12_owes_158 ?_
                          refine lv_topi (fun x_69 ex_69 => ?_)
                          refine va_iast hx hb hK.1 hP hD hS 6 0 rfl rfl (t_in (by omega) (by omega)) dX12_owes_159 (fun H locs hP hD hS => ?_)
                          obtain ⟨g_70, eg_70⟩ : ∃ z : Nat → Int32, z = upd fs ((j : Int32).toNatClampNeg) x_69 := ⟨_, rfl⟩
                          rw [← eg_70] at hP hD
                          have hP : va_P D vwCl [(h, .inr (11, [.int v_today, .int v_monks, .int v_aways, .int v_feasts, .int v_gifts, .int v_leaves, .int v_lates, .int v_store, .int v_allCandles, .ref a_isPriest, .ref a_bars, .ref a_joined, .ref a_turns, .ref a_awayMonk, .ref a_awayFrom, .ref a_awayTo, .ref a_feastDay, .ref a_rank, .ref a_isWeekly, .ref a_isDouble, .ref a_giftDay, .ref a_giftFrom, .ref a_owed, .ref a_said, .ref a_spared, .ref a_leaveGift, .ref a_leaveFrom, .ref a_leaveTo, .ref a_lateDay, .ref a_lateOffice, .ref a_lateBy, .ref a_guests, .ref a_who, .ref a_used, .ref a_lacks, .ref a_candles, .ref a_masses, .ref a_owing, .ref a_heldOn, .ref a_waits, .ref a_tape, .ref a_text, .int v_taped, .int v_size, .int v_at, .int v_fault, .int v_rules, .ref a_statements, .ref a_taken, .ref a_sort, .ref a_first, .ref a_second, .int v_wordEnd, .int v_number])), (a_isWeekly, .inl (cZ, 40, .inl f_isWeekly)), (a_isDouble, .inl (cZ, 40, .inl f_isDouble)), (a_giftDay, .inl (cI, 40, .inl f_giftDay)), (a_giftFrom, .inl (cI, 40, .inl f_giftFrom)), (a_owed, .inl (cI, 40, .inl fo)), (a_spared, .inl (cI, 40, .inl g_70)), (a_leaveGift, .inl (cI, 40, .inl f_leaveGift)), (a_leaveFrom, .inl (cI, 40, .inl f_leaveFrom)), (a_leaveTo, .inl (cI, 40, .inl f_leaveTo))] H := hP
                          have hD := asD hP hD
                          refine lv_goto (tgt := 174) hx hb dX12_owes_160 (by decide) ?_
                          obtain ⟨x_71, ex_71⟩ : ∃ y : Int32, y = j + 1 := ⟨_, rfl⟩
                          refine lv_iinc (v := x_71) (lv' := [(2, .int x_71), (5, .int 2), (4, .int a), (3, .int 1), (0, .ref h), (1, .int d)]) hx hb dX12_owes_174 hl (k := 3) rfl (by rw [ex_71]; rfl) (by decide) rfl (fun ls hl => ?_)
                          first | have tx_71 := t_add ex_71 (by omega) (by omega) | skip
                          refine lv_goto (tgt := 2) hx hb dX12_owes_177 (by decide) ?_
                          exact ih2 x_71 fo g_70 (by omega) (by omega) (by omega) _ _ hP hD hS ls (lv_sub hl [0, 4, 5] rfl)
                    · have tc_51 := t_nle c_51
                      refine lv_iload hx hb dX12_owes_78 (lv_at hl 1 rfl) ?_
                      refine lv_if_ne (tgt := 115) hx hb dX12_owes_80 (by decide) (fun c_72 => ?_) (fun c_72 => ?_)
                      · have tc_72 := t_neq c_72
                        refine lv_iconst (v := 1) hx hb dX12_owes_115 (by decide) ?_
                        refine lv_goto (tgt := 120) hx hb dX12_owes_116 (by decide) ?_
                        refine lv_istore (lv' := [(4, .int 1), (5, .int q), (3, .int 1), (2, .int j), (0, .ref h), (1, .int d)]) hx hb dX12_owes_120 hl (by decide) rfl (fun ls hl => ?_)
                        obtain ⟨x_73, ex_73⟩ : ∃ y : Int32, y = q + 1 := ⟨_, rfl⟩
                        refine lv_iinc (v := x_73) (lv' := [(5, .int x_73), (4, .int 1), (3, .int 1), (2, .int j), (0, .ref h), (1, .int d)]) hx hb dX12_owes_122 hl (k := 1) rfl (by rw [ex_73]; rfl) (by decide) rfl (fun ls hl => ?_)
                        first | have tx_73 := t_add ex_73 (by omega) (by omega) | skip
                        refine lv_goto (tgt := 69) hx hb dX12_owes_125 (by decide) ?_
                        exact ih69 1 x_73 (by omega) (by omega) (by omega) _ _ hP hD hS ls (lv_sub hl [0, 1, 2, 3, 4, 5] rfl)
                      · have tc_72 := t_eq c_72
                        refine lv_aload_n hx hb dX12_owes_83 rfl (lv_at hl 4 rfl) ?_
                        refine va_get (D := D) (ci := 11) (v := .ref a_leaveGift) (C := RX12) (T := TX12) (N := 54) hx hb hts in_n_owes_X12 hown hK.1 hP 0 rfl rfl 25 (by decide) lk8 (fun _ h9 => h9) rfl dX12_owes_84 ?_
                        refine lv_iload hx hb dX12_owes_87 (lv_at hl 0 rfl) ?_
                        refine va_iald hx hb hK.1 hP 7 0 rfl rfl (t_in (by omega) (by omega)) dX12_owes_89 ?_
                        refine lv_topi (fun y_74 ey_74 => ?_)
                        refine lv_iload_n hx hb dX12_owes_90 rfl (lv_at hl 3 rfl) ?_
                        refine lv_icmp_ne (tgt := 119) hx hb dX12_owes_91 (by decide) (fun c_75 => ?_) (fun c_75 => ?_)
                        · have tc_75 := t_neq c_75
                          refine lv_iconst (v := 0) hx hb dX12_owes_119 (by decide) ?_
                          refine lv_istore (lv' := [(4, .int 0), (5, .int q), (3, .int 1), (2, .int j), (0, .ref h), (1, .int d)]) hx hb dX12_owes_120 hl (by decide) rfl (fun ls hl => ?_)
                          obtain ⟨x_76, ex_76⟩ : ∃ y : Int32, y = q + 1 := ⟨_, rfl⟩
                          refine lv_iinc (v := x_76) (lv' := [(5, .int x_76), (4, .int 0), (3, .int 1), (2, .int j), (0, .ref h), (1, .int d)]) hx hb dX12_owes_122 hl (k := 1) rfl (by rw [ex_76]; rfl) (by decide) rfl (fun ls hl => ?_)
                          first | have tx_76 := t_add ex_76 (by omega) (by omega) | skip
                          refine lv_goto (tgt := 69) hx hb dX12_owes_125 (by decide) ?_
                          exact ih69 0 x_76 (by omega) (by omega) (by omega) _ _ hP hD hS ls (lv_sub hl [0, 1, 2, 3, 4, 5] rfl)
                        · have tc_75 := t_eq c_75
                          refine lv_iload_n hx hb dX12_owes_94 rfl (lv_at hl 5 rfl) ?_
                          refine lv_aload_n hx hb dX12_owes_95 rfl (lv_at hl 4 rfl) ?_
                          refine va_get (D := D) (ci := 11) (v := .ref a_leaveFrom) (C := RX12) (T := TX12) (N := 54) hx hb hts in_n_owes_X12 hown hK.1 hP 0 rfl rfl 26 (by decide) lk9 (fun _ h9 => h9) rfl dX12_owes_96 ?_
                          refine lv_iload hx hb dX12_owes_99 (lv_at hl 0 rfl) ?_
                          refine va_iald hx hb hK.1 hP 8 0 rfl rfl (t_in (by omega) (by omega)) dX12_owes_101 ?_
                          refine lv_topi (fun y_77 ey_77 => ?_)
                          refine lv_aload_n hx hb dX12_owes_102 rfl (lv_at hl 4 rfl) ?_
                          refine va_get (D := D) (ci := 11) (v := .ref a_leaveTo) (C := RX12) (T := TX12) (N := 54) hx hb hts in_n_owes_X12 hown hK.1 hP 0 rfl rfl 27 (by decide) lk10 (fun _ h9 => h9) rfl dX12_owes_103 ?_
                          refine lv_iload hx hb dX12_owes_106 (lv_at hl 0 rfl) ?_
                          refine va_iald hx hb hK.1 hP 9 0 rfl rfl (t_in (by omega) (by omega)) dX12_owes_108 ?_
                          refine lv_topi (fun y_78 ey_78 => ?_)
                          have hPc := hP.sub (ws' := []) [] rfl
                          refine roS (As := [.int d, .int y_77, .int y_78]) (rest := []) S (m_isIn  ) (va_cwS 3 hts gX12_owes_X12_isIn rfl rfl rfl hd_X12_isIn ⟨Nat.le_of_ble_eq_true rfl, Nat.le_of_ble_eq_true rfl⟩) hK hPc rfl hl.1 rfl (Nat.le_of_ble_eq_true rfl) dX12_owes_109 ⟨Nat.le_of_ble_eq_true rfl, Nat.le_of_ble_eq_true rfl⟩ (fun r_79 hw_79 => ?_)
                          have hw_79 : (r_79.toInt = 1 ∧ y_77.toInt ≤ d.toInt ∧ d.toInt ≤ y_78.toInt) ∨ (r_79.toInt = 0 ∧ (d.toInt < y_77.toInt ∨ y_78.toInt < d.toInt)) := hw_79
                          refine lv_if_eq (tgt := 119) hx hb dX12_owes_112 (by decide) (fun c_80 => ?_) (fun c_80 => ?_)
                          · have tc_80 := t_eq c_80
                            refine lv_iconst (v := 0) hx hb dX12_owes_119 (by decide) ?_
                            refine lv_istore (lv' := [(4, .int 0), (5, .int q), (3, .int 1), (2, .int j), (0, .ref h), (1, .int d)]) hx hb dX12_owes_120 hl (by decide) rfl (fun ls hl => ?_)
                            obtain ⟨x_81, ex_81⟩ : ∃ y : Int32, y = q + 1 := ⟨_, rfl⟩
                            refine lv_iinc (v := x_81) (lv' := [(5, .int x_81), (4, .int 0), (3, .int 1), (2, .int j), (0, .ref h), (1, .int d)]) hx hb dX12_owes_122 hl (k := 1) rfl (by rw [ex_81]; rfl) (by decide) rfl (fun ls hl => ?_)
                            first | have tx_81 := t_add ex_81 (by omega) (by omega) | skip
                            refine lv_goto (tgt := 69) hx hb dX12_owes_125 (by decide) ?_
                            exact ih69 0 x_81 (by omega) (by omega) (by omega) _ _ hP hD hS ls (lv_sub hl [0, 1, 2, 3, 4, 5] rfl)
                          · have tc_80 := t_neq c_80
                            refine lv_iconst (v := 1) hx hb dX12_owes_115 (by decide) ?_
                            refine lv_goto (tgt := 120) hx hb dX12_owes_116 (by decide) ?_
                            refine lv_istore (lv' := [(4, .int 1), (5, .int q), (3, .int 1), (2, .int j), (0, .ref h), (1, .int d)]) hx hb dX12_owes_120 hl (by decide) rfl (fun ls hl => ?_)
                            obtain ⟨x_82, ex_82⟩ : ∃ y : Int32, y = q + 1 := ⟨_, rfl⟩
                            refine lv_iinc (v := x_82) (lv' := [(5, .int x_82), (4, .int 1), (3, .int 1), (2, .int j), (0, .ref h), (1, .int d)]) hx hb dX12_owes_122 hl (k := 1) rfl (by rw [ex_82]; rfl) (by decide) rfl (fun ls hl => ?_)
                            first | have tx_82 := t_add ex_82 (by omega) (by omega) | skip
                            refine lv_goto (tgt := 69) hx hb dX12_owes_125 (by decide) ?_
                            exact ih69 1 x_82 (by omega) (by omega) (by omega) _ _ hP hD hS ls (lv_sub hl [0, 1, 2, 3, 4, 5] rfl)
                exact loop69 ((v_leaves.toInt - (0 : Int32).toInt).toNat + 1) 0 0 (by omega) (by omega) (by omega) _ _ hP hD hS ls (lv_sub hl [0, 1, 2, 3, 4, 5] rfl)
              · exact absurd c_50 (by decide)
  exact loop2 ((v_gifts.toInt - (0 : Int32).toInt).toNat + 1) 0 f_owed f_spared (by omega) (by omega) (by omega) _ _ hP hD hS ls (lv_sub hl [0, 1, 2] rfl)

theorem in_n_says_X12 : ∀ w ∈ wsX120, w ∈ wsX12_says := tl_X12_says_X12
set_option maxHeartbeats 8000000 in
set_option maxRecDepth 100000 in
theorem n_says {l : Launch} {D : va_G} {cI cZ cB : ClassId} {sz : Nat} {h a_isPriest a_bars a_joined a_turns a_awayMonk a_awayFrom a_awayTo a_feastDay a_rank a_isWeekly a_isDouble a_giftDay a_giftFrom a_owed a_said a_spared a_leaveGift a_leaveFrom a_leaveTo a_lateDay a_lateOffice a_lateBy a_guests a_who a_used a_lacks a_candles a_masses a_owing a_heldOn a_waits a_tape a_text a_statements a_taken a_sort a_first a_second : Nat} {v_today v_monks v_aways v_feasts v_gifts v_leaves v_lates v_store v_allCandles v_taped v_size v_at v_fault v_rules v_wordEnd v_number : Int32} {f_owed f_said f_masses : Nat → Int32} {d : Int32} (h0_gifts : 0 ≤ v_gifts.toInt) (h1_gifts : v_gifts.toInt ≤ 40) (hd0 : 0 ≤ d.toInt) (hd1 : d.toInt ≤ 1094) : Met l yX12_says wsX12_says ({ frames := 0, cells := 0, slots := 0, locals := 0 }) (RW D cI cZ cB [.ref h, .int d] sz [(h, .inr (11, [.int v_today, .int v_monks, .int v_aways, .int v_feasts, .int v_gifts, .int v_leaves, .int v_lates, .int v_store, .int v_allCandles, .ref a_isPriest, .ref a_bars, .ref a_joined, .ref a_turns, .ref a_awayMonk, .ref a_awayFrom, .ref a_awayTo, .ref a_feastDay, .ref a_rank, .ref a_isWeekly, .ref a_isDouble, .ref a_giftDay, .ref a_giftFrom, .ref a_owed, .ref a_said, .ref a_spared, .ref a_leaveGift, .ref a_leaveFrom, .ref a_leaveTo, .ref a_lateDay, .ref a_lateOffice, .ref a_lateBy, .ref a_guests, .ref a_who, .ref a_used, .ref a_lacks, .ref a_candles, .ref a_masses, .ref a_owing, .ref a_heldOn, .ref a_waits, .ref a_tape, .ref a_text, .int v_taped, .int v_size, .int v_at, .int v_fault, .int v_rules, .ref a_statements, .ref a_taken, .ref a_sort, .ref a_first, .ref a_second, .int v_wordEnd, .int v_number])), (a_owed, .inl (cI, 40, .inl f_owed)), (a_said, .inl (cI, 40, .inl f_said)), (a_masses, .inl (cI, 1095, .inl f_masses))]) (va_Qv (fun u : (Nat → Int32) × (Nat → Int32) × (Nat → Int32) => True) (BW D [(h, .inr (11, [.int v_today, .int v_monks, .int v_aways, .int v_feasts, .int v_gifts, .int v_leaves, .int v_lates, .int v_store, .int v_allCandles, .ref a_isPriest, .ref a_bars, .ref a_joined, .ref a_turns, .ref a_awayMonk, .ref a_awayFrom, .ref a_awayTo, .ref a_feastDay, .ref a_rank, .ref a_isWeekly, .ref a_isDouble, .ref a_giftDay, .ref a_giftFrom, .ref a_owed, .ref a_said, .ref a_spared, .ref a_leaveGift, .ref a_leaveFrom, .ref a_leaveTo, .ref a_lateDay, .ref a_lateOffice, .ref a_lateBy, .ref a_guests, .ref a_who, .ref a_used, .ref a_lacks, .ref a_candles, .ref a_masses, .ref a_owing, .ref a_heldOn, .ref a_waits, .ref a_tape, .ref a_text, .int v_taped, .int v_size, .int v_at, .int v_fault, .int v_rules, .ref a_statements, .ref a_taken, .ref a_sort, .ref a_first, .ref a_second, .int v_wordEnd, .int v_number])), (a_owed, .inl (cI, 40, .inl f_owed)), (a_said, .inl (cI, 40, .inl f_said)), (a_masses, .inl (cI, 1095, .inl f_masses))] sz (fun u : (Nat → Int32) × (Nat → Int32) × (Nat → Int32) => [(h, .inr (11, [.int v_today, .int v_monks, .int v_aways, .int v_feasts, .int v_gifts, .int v_leaves, .int v_lates, .int v_store, .int v_allCandles, .ref a_isPriest, .ref a_bars, .ref a_joined, .ref a_turns, .ref a_awayMonk, .ref a_awayFrom, .ref a_awayTo, .ref a_feastDay, .ref a_rank, .ref a_isWeekly, .ref a_isDouble, .ref a_giftDay, .ref a_giftFrom, .ref a_owed, .ref a_said, .ref a_spared, .ref a_leaveGift, .ref a_leaveFrom, .ref a_leaveTo, .ref a_lateDay, .ref a_lateOffice, .ref a_lateBy, .ref a_guests, .ref a_who, .ref a_used, .ref a_lacks, .ref a_candles, .ref a_masses, .ref a_owing, .ref a_heldOn, .ref a_waits, .ref a_tape, .ref a_text, .int v_taped, .int v_size, .int v_at, .int v_fault, .int v_rules, .ref a_statements, .ref a_taken, .ref a_sort, .ref a_first, .ref a_second, .int v_wordEnd, .int v_number])), (a_owed, .inl (cI, 40, .inl u.1)), (a_said, .inl (cI, 40, .inl u.2.1)), (a_masses, .inl (cI, 1095, .inl u.2.2))])) (va_A [(h, .inr (11, [.int v_today, .int v_monks, .int v_aways, .int v_feasts, .int v_gifts, .int v_leaves, .int v_lates, .int v_store, .int v_allCandles, .ref a_isPriest, .ref a_bars, .ref a_joined, .ref a_turns, .ref a_awayMonk, .ref a_awayFrom, .ref a_awayTo, .ref a_feastDay, .ref a_rank, .ref a_isWeekly, .ref a_isDouble, .ref a_giftDay, .ref a_giftFrom, .ref a_owed, .ref a_said, .ref a_spared, .ref a_leaveGift, .ref a_leaveFrom, .ref a_leaveTo, .ref a_lateDay, .ref a_lateOffice, .ref a_lateBy, .ref a_guests, .ref a_who, .ref a_used, .ref a_lacks, .ref a_candles, .ref a_masses, .ref a_owing, .ref a_heldOn, .ref a_waits, .ref a_tape, .ref a_text, .int v_taped, .int v_size, .int v_at, .int v_fault, .int v_rules, .ref a_statements, .ref a_taken, .ref a_sort, .ref a_first, .ref a_second, .int v_wordEnd, .int v_number])), (a_owed, .inl (cI, 40, .inl f_owed)), (a_said, .inl (cI, 40, .inl f_said)), (a_masses, .inl (cI, 1095, .inl f_masses))] sz)) 0 0 (va_A [(h, .inr (11, [.int v_today, .int v_monks, .int v_aways, .int v_feasts, .int v_gifts, .int v_leaves, .int v_lates, .int v_store, .int v_allCandles, .ref a_isPriest, .ref a_bars, .ref a_joined, .ref a_turns, .ref a_awayMonk, .ref a_awayFrom, .ref a_awayTo, .ref a_feastDay, .ref a_rank, .ref a_isWeekly, .ref a_isDouble, .ref a_giftDay, .ref a_giftFrom, .ref a_owed, .ref a_said, .ref a_spared, .ref a_leaveGift, .ref a_leaveFrom, .ref a_leaveTo, .ref a_lateDay, .ref a_lateOffice, .ref a_lateBy, .ref a_guests, .ref a_who, .ref a_used, .ref a_lacks, .ref a_candles, .ref a_masses, .ref a_owing, .ref a_heldOn, .ref a_waits, .ref a_tape, .ref a_text, .int v_taped, .int v_size, .int v_at, .int v_fault, .int v_rules, .ref a_statements, .ref a_taken, .ref a_sort, .ref a_first, .ref a_second, .int v_wordEnd, .int v_number])), (a_owed, .inl (cI, 40, .inl f_owed)), (a_said, .inl (cI, 40, .inl f_said)), (a_masses, .inl (cI, 1095, .inl f_masses))] sz) := by
  refine rw_retv (cc := cX12_says) (maxL := 4) (own := RX12) (by decide) rfl rfl (Nat.le_of_ble_eq_true rfl) ?_
  intro p e s m args below meth c Q A S hin hret hP hK hD hA hS ls hl
  obtain ⟨hx, hb, hml, hown, hts⟩ := id S
  have hl : lv_has ls 4 [(0, .ref h), (1, .int d)] := hl
  have kkm1 : (-1 : Int32).toInt = -1 := by decide
  have kk0 : (0 : Int32).toInt = 0 := by decide
  have kk1 : (1 : Int32).toInt = 1 := by decide
  have lk0 := hts (.fieldLink RX12 137 "AbbeyHoursModel" "gifts" "I") (List.mem_cons_of_mem _ (List.mem_append_left _ (List.mem_of_getElem? (i := 0) rfl)))
  have lk1 := hts (.fieldLink RX12 50 "AbbeyHoursModel" "owed" "[I") (List.mem_cons_of_mem _ (List.mem_append_left _ (List.mem_of_getElem? (i := 1) rfl)))
  have lk2 := hts (.fieldLink RX12 53 "AbbeyHoursModel" "said" "[I") (List.mem_cons_of_mem _ (List.mem_append_left _ (List.mem_of_getElem? (i := 2) rfl)))
  have lk3 := hts (.fieldLink RX12 92 "AbbeyHoursModel" "masses" "[I") (List.mem_cons_of_mem _ (List.mem_append_left _ (List.mem_of_getElem? (i := 3) rfl)))
  refine lv_iconst (v := (-1)) hx hb dX12_says_0 (by decide) ?_
  refine lv_istore_n (lv' := [(2, .int (-1)), (0, .ref h), (1, .int d)]) hx hb dX12_says_1 rfl hl (by decide) rfl (fun ls hl => ?_)
  refine lv_iconst (v := 0) hx hb dX12_says_2 (by decide) ?_
  refine lv_istore_n (lv' := [(3, .int 0), (2, .int (-1)), (0, .ref h), (1, .int d)]) hx hb dX12_says_3 rfl hl (by decide) rfl (fun ls hl => ?_)
  have loop4 : ∀ (fuel : Nat) (a : Int32) (j : Int32), v_gifts.toInt - j.toInt < (fuel : Int) → (0 ≤ j.toInt) → (j.toInt ≤ v_gifts.toInt) → (a.toInt = -1 ∨ (0 ≤ a.toInt ∧ a.toInt < v_gifts.toInt)) → ∀ (H : Heap) (locs : List Loc), va_P D vwCl [(h, .inr (11, [.int v_today, .int v_monks, .int v_aways, .int v_feasts, .int v_gifts, .int v_leaves, .int v_lates, .int v_store, .int v_allCandles, .ref a_isPriest, .ref a_bars, .ref a_joined, .ref a_turns, .ref a_awayMonk, .ref a_awayFrom, .ref a_awayTo, .ref a_feastDay, .ref a_rank, .ref a_isWeekly, .ref a_isDouble, .ref a_giftDay, .ref a_giftFrom, .ref a_owed, .ref a_said, .ref a_spared, .ref a_leaveGift, .ref a_leaveFrom, .ref a_leaveTo, .ref a_lateDay, .ref a_lateOffice, .ref a_lateBy, .ref a_guests, .ref a_who, .ref a_used, .ref a_lacks, .ref a_candles, .ref a_masses, .ref a_owing, .ref a_heldOn, .ref a_waits, .ref a_tape, .ref a_text, .int v_taped, .int v_size, .int v_at, .int v_fault, .int v_rules, .ref a_statements, .ref a_taken, .ref a_sort, .ref a_first, .ref a_second, .int v_wordEnd, .int v_number])), (a_owed, .inl (cI, 40, .inl f_owed)), (a_said, .inl (cI, 40, .inl f_said)), (a_masses, .inl (cI, 1095, .inl f_masses))] H → va_D A [(h, .inr (11, [.int v_today, .int v_monks, .int v_aways, .int v_feasts, .int v_gifts, .int v_leaves, .int v_lates, .int v_store, .int v_allCandles, .ref a_isPriest, .ref a_bars, .ref a_joined, .ref a_turns, .ref a_awayMonk, .ref a_awayFrom, .ref a_awayTo, .ref a_feastDay, .ref a_rank, .ref a_isWeekly, .ref a_isDouble, .ref a_giftDay, .ref a_giftFrom, .ref a_owed, .ref a_said, .ref a_spared, .ref a_leaveGift, .ref a_leaveFrom, .ref a_leaveTo, .ref a_lateDay, .ref a_lateOffice, .ref a_lateBy, .ref a_guests, .ref a_who, .ref a_used, .ref a_lacks, .ref a_candles, .ref a_masses, .ref a_owing, .ref a_heldOn, .ref a_waits, .ref a_tape, .ref a_text, .int v_taped, .int v_size, .int v_at, .int v_fault, .int v_rules, .ref a_statements, .ref a_taken, .ref a_sort, .ref a_first, .ref a_second, .int v_wordEnd, .int v_number])), (a_owed, .inl (cI, 40, .inl f_owed)), (a_said, .inl (cI, 40, .inl f_said)), (a_masses, .inl (cI, 1095, .inl f_masses))] → va_S A s.heap H locs → ∀ ls : Array Slot, lv_has ls 4 [(3, .int j), (2, .int a), (0, .ref h), (1, .int d)] → W p l e ({ frames := 0, cells := 0, slots := 0, locals := 0 } : Room) s m args below meth c H locs 0 0 Q (F0 m 4 ls []) := by
    intro fuel
    induction fuel with
    | zero =>
      intro a j hmu hj0 hj1 ha H locs hP hD hS ls hl
      exfalso; omega
    | succ fuel ih4 =>
      intro a j hmu hj0 hj1 ha H locs hP hD hS ls hl
      refine lv_iload_n hx hb dX12_says_4 rfl (lv_at hl 0 rfl) ?_
      refine lv_aload_n hx hb dX12_says_5 rfl (lv_at hl 2 rfl) ?_
      refine va_get (D := D) (ci := 11) (v := .int v_gifts) (C := RX12) (T := TX12) (N := 54) hx hb hts in_n_says_X12 hown hK.1 hP 0 rfl rfl 4 (by decide) lk0 (fun _ h9 => h9) rfl dX12_says_6 ?_
      refine lv_icmp_ge (tgt := 49) hx hb dX12_says_9 (by decide) (fun c_1 => ?_) (fun c_1 => ?_)
      · have tc_1 := t_le c_1
        refine lv_iload_n hx hb dX12_says_49 rfl (lv_at hl 1 rfl) ?_
        refine lv_iconst (v := (-1)) hx hb dX12_says_50 (by decide) ?_
        refine lv_icmp_ne (tgt := 55) hx hb dX12_says_51 (by decide) (fun c_2 => ?_) (fun c_2 => ?_)
        · have tc_2 := t_neq c_2
          refine lv_aload_n hx hb dX12_says_55 rfl (lv_at hl 2 rfl) ?_
          refine va_get (D := D) (ci := 11) (v := .ref a_owed) (C := RX12) (T := TX12) (N := 54) hx hb hts in_n_says_X12 hown hK.1 hP 0 rfl rfl 22 (by decide) lk1 (fun _ h9 => h9) rfl dX12_says_56 ?_
          refine lv_iload_n hx hb dX12_says_59 rfl (lv_at hl 1 rfl) ?_
          refine lv_dup2_11 hx hb dX12_says_60 rfl rfl ?_
          refine va_iald hx hb hK.1 hP 1 0 rfl rfl (t_in (by omega) (by omega)) dX12_says_61 ?_
          refine lv_topi (fun y_3 ey_3 => ?_)
          refine lv_iconst (v := 1) hx hb dX12_says_62 (by decide) ?_
          refine lv_isub hx hb dX12_says_63 ?_
          refine lv_topi (fun x_4 ex_4 => ?_)
          refine va_iast hx hb hK.1 hP hD hS 1 0 rfl rfl (t_in (by omega) (by omega)) dX12_says_64 (fun H locs hP hD hS => ?_)
          obtain ⟨g_5, eg_5⟩ : ∃ z : Nat → Int32, z = upd f_owed ((a : Int32).toNatClampNeg) x_4 := ⟨_, rfl⟩
          rw [← eg_5] at hP hD
          have hP : va_P D vwCl [(h, .inr (11, [.int v_today, .int v_monks, .int v_aways, .int v_feasts, .int v_gifts, .int v_leaves, .int v_lates, .int v_store, .int v_allCandles, .ref a_isPriest, .ref a_bars, .ref a_joined, .ref a_turns, .ref a_awayMonk, .ref a_awayFrom, .ref a_awayTo, .ref a_feastDay, .ref a_rank, .ref a_isWeekly, .ref a_isDouble, .ref a_giftDay, .ref a_giftFrom, .ref a_owed, .ref a_said, .ref a_spared, .ref a_leaveGift, .ref a_leaveFrom, .ref a_leaveTo, .ref a_lateDay, .ref a_lateOffice, .ref a_lateBy, .ref a_guests, .ref a_who, .ref a_used, .ref a_lacks, .ref a_candles, .ref a_masses, .ref a_owing, .ref a_heldOn, .ref a_waits, .ref a_tape, .ref a_text, .int v_taped, .int v_size, .int v_at, .int v_fault, .int v_rules, .ref a_statements, .ref a_taken, .ref a_sort, .ref a_first, .ref a_second, .int v_wordEnd, .int v_number])), (a_owed, .inl (cI, 40, .inl g_5)), (a_said, .inl (cI, 40, .inl f_said)), (a_masses, .inl (cI, 1095, .inl f_masses))] H := hP
          have hD := asD hP hD
          refine lv_aload_n hx hb dX12_says_65 rfl (lv_at hl 2 rfl) ?_
          refine va_get (D := D) (ci := 11) (v := .ref a_said) (C := RX12) (T := TX12) (N := 54) hx hb hts in_n_says_X12 hown hK.1 hP 0 rfl rfl 23 (by decide) lk2 (fun _ h9 => h9) rfl dX12_says_66 ?_
          refine lv_iload_n hx hb dX12_says_69 rfl (lv_at hl 1 rfl) ?_
          refine lv_dup2_11 hx hb dX12_says_70 rfl rfl ?_
          refine va_iald hx hb hK.1 hP 2 0 rfl rfl (t_in (by omega) (by omega)) dX12_says_71 ?_
          refine lv_topi (fun y_6 ey_6 => ?_)
          refine lv_iconst (v := 1) hx hb dX12_says_72 (by decide) ?_
          refine lv_iadd hx hb dX12_says_73 ?_
          refine lv_topi (fun x_7 ex_7 => ?_)
          refine va_iast hx hb hK.1 hP hD hS 2 0 rfl rfl (t_in (by omega) (by omega)) dX12_says_74 (fun H locs hP hD hS => ?_)
          obtain ⟨g_8, eg_8⟩ : ∃ z : Nat → Int32, z = upd f_said ((a : Int32).toNatClampNeg) x_7 := ⟨_, rfl⟩
          rw [← eg_8] at hP hD
          have hP : va_P D vwCl [(h, .inr (11, [.int v_today, .int v_monks, .int v_aways, .int v_feasts, .int v_gifts, .int v_leaves, .int v_lates, .int v_store, .int v_allCandles, .ref a_isPriest, .ref a_bars, .ref a_joined, .ref a_turns, .ref a_awayMonk, .ref a_awayFrom, .ref a_awayTo, .ref a_feastDay, .ref a_rank, .ref a_isWeekly, .ref a_isDouble, .ref a_giftDay, .ref a_giftFrom, .ref a_owed, .ref a_said, .ref a_spared, .ref a_leaveGift, .ref a_leaveFrom, .ref a_leaveTo, .ref a_lateDay, .ref a_lateOffice, .ref a_lateBy, .ref a_guests, .ref a_who, .ref a_used, .ref a_lacks, .ref a_candles, .ref a_masses, .ref a_owing, .ref a_heldOn, .ref a_waits, .ref a_tape, .ref a_text, .int v_taped, .int v_size, .int v_at, .int v_fault, .int v_rules, .ref a_statements, .ref a_taken, .ref a_sort, .ref a_first, .ref a_second, .int v_wordEnd, .int v_number])), (a_owed, .inl (cI, 40, .inl g_5)), (a_said, .inl (cI, 40, .inl g_8)), (a_masses, .inl (cI, 1095, .inl f_masses))] H := hP
          have hD := asD hP hD
          refine lv_aload_n hx hb dX12_says_75 rfl (lv_at hl 2 rfl) ?_
          refine va_get (D := D) (ci := 11) (v := .ref a_masses) (C := RX12) (T := TX12) (N := 54) hx hb hts in_n_says_X12 hown hK.1 hP 0 rfl rfl 36 (by decide) lk3 (fun _ h9 => h9) rfl dX12_says_76 ?_
          refine lv_iload_n hx hb dX12_says_79 rfl (lv_at hl 3 rfl) ?_
          refine lv_dup2_11 hx hb dX12_says_80 rfl rfl ?_
          refine va_iald hx hb hK.1 hP 3 0 rfl rfl (t_in (by omega) (by omega)) dX12_says_81 ?_
          refine lv_topi (fun y_9 ey_9 => ?_)
          refine lv_iconst (v := 1) hx hb dX12_says_82 (by decide) ?_
          refine lv_iadd hx hb dX12_says_83 ?_
          refine lv_topi (fun x_10 ex_10 => ?_)
          refine va_iast hx hb hK.1 hP hD hS 3 0 rfl rfl (t_in (by omega) (by omega)) dX12_says_84 (fun H locs hP hD hS => ?_)
          obtain ⟨g_11, eg_11⟩ : ∃ z : Nat → Int32, z = upd f_masses ((d : Int32).toNatClampNeg) x_10 := ⟨_, rfl⟩
          rw [← eg_11] at hP hD
          have hP : va_P D vwCl [(h, .inr (11, [.int v_today, .int v_monks, .int v_aways, .int v_feasts, .int v_gifts, .int v_leaves, .int v_lates, .int v_store, .int v_allCandles, .ref a_isPriest, .ref a_bars, .ref a_joined, .ref a_turns, .ref a_awayMonk, .ref a_awayFrom, .ref a_awayTo, .ref a_feastDay, .ref a_rank, .ref a_isWeekly, .ref a_isDouble, .ref a_giftDay, .ref a_giftFrom, .ref a_owed, .ref a_said, .ref a_spared, .ref a_leaveGift, .ref a_leaveFrom, .ref a_leaveTo, .ref a_lateDay, .ref a_lateOffice, .ref a_lateBy, .ref a_guests, .ref a_who, .ref a_used, .ref a_lacks, .ref a_candles, .ref a_masses, .ref a_owing, .ref a_heldOn, .ref a_waits, .ref a_tape, .ref a_text, .int v_taped, .int v_size, .int v_at, .int v_fault, .int v_rules, .ref a_statements, .ref a_taken, .ref a_sort, .ref a_first, .ref a_second, .int v_wordEnd, .int v_number])), (a_owed, .inl (cI, 40, .inl g_5)), (a_said, .inl (cI, 40, .inl g_8)), (a_masses, .inl (cI, 1095, .inl g_11))] H := hP
          have hD := asD hP hD
          exact hret (g_5, g_8, g_11) _ _ _ _ (show True from trivial) (hP.sub [0, 1, 2, 3] rfl) (hD.sub [0, 1, 2, 3] (by decide +kernel) rfl) hS dX12_says_85
        · have tc_2 := t_eq c_2
          exact hret (f_owed, f_said, f_masses) _ _ _ _ (show True from trivial) (hP.sub [0, 1, 2, 3] rfl) (hD.sub [0, 1, 2, 3] (by decide +kernel) rfl) hS dX12_says_54
      · have tc_1 := t_nle c_1
        refine lv_aload_n hx hb dX12_says_12 rfl (lv_at hl 2 rfl) ?_
        refine va_get (D := D) (ci := 11) (v := .ref a_owed) (C := RX12) (T := TX12) (N := 54) hx hb hts in_n_says_X12 hown hK.1 hP 0 rfl rfl 22 (by decide) lk1 (fun _ h9 => h9) rfl dX12_says_13 ?_
        refine lv_iload_n hx hb dX12_says_16 rfl (lv_at hl 0 rfl) ?_
        refine va_iald hx hb hK.1 hP 1 0 rfl rfl (t_in (by omega) (by omega)) dX12_says_17 ?_
        refine lv_topi (fun y_12 ey_12 => ?_)
        refine lv_if_le (tgt := 43) hx hb dX12_says_18 (by decide) (fun c_13 => ?_) (fun c_13 => ?_)
        · have tc_13 := t_le c_13
          obtain ⟨x_14, ex_14⟩ : ∃ y : Int32, y = j + 1 := ⟨_, rfl⟩
          refine lv_iinc (v := x_14) (lv' := [(3, .int x_14), (2, .int a), (0, .ref h), (1, .int d)]) hx hb dX12_says_43 hl (k := 0) rfl (by rw [ex_14]; rfl) (by decide) rfl (fun ls hl => ?_)
          first | have tx_14 := t_add ex_14 (by omega) (by omega) | skip
          refine lv_goto (tgt := 4) hx hb dX12_says_46 (by decide) ?_
          exact ih4 a x_14 (by omega) (by omega) (by omega) (by omega) _ _ hP hD hS ls (lv_sub hl [0, 1, 2, 3] rfl)
        · have tc_13 := t_nle c_13
          refine lv_iload_n hx hb dX12_says_21 rfl (lv_at hl 1 rfl) ?_
          refine lv_iconst (v := (-1)) hx hb dX12_says_22 (by decide) ?_
          refine lv_icmp_eq (tgt := 41) hx hb dX12_says_23 (by decide) (fun c_15 => ?_) (fun c_15 => ?_)
          · have tc_15 := t_eq c_15
            refine lv_iload_n hx hb dX12_says_41 rfl (lv_at hl 0 rfl) ?_
            refine lv_istore_n (lv' := [(2, .int j), (3, .int j), (0, .ref h), (1, .int d)]) hx hb dX12_says_42 rfl hl (by decide) rfl (fun ls hl => ?_)
            obtain ⟨x_16, ex_16⟩ : ∃ y : Int32, y = j + 1 := ⟨_, rfl⟩
            refine lv_iinc (v := x_16) (lv' := [(3, .int x_16), (2, .int j), (0, .ref h), (1, .int d)]) hx hb dX12_says_43 hl (k := 1) rfl (by rw [ex_16]; rfl) (by decide) rfl (fun ls hl => ?_)
            first | have tx_16 := t_add ex_16 (by omega) (by omega) | skip
            refine lv_goto (tgt := 4) hx hb dX12_says_46 (by decide) ?_
            exact ih4 j x_16 (by omega) (by omega) (by omega) (by omega) _ _ hP hD hS ls (lv_sub hl [0, 1, 2, 3] rfl)
          · have tc_15 := t_neq c_15
            refine lv_aload_n hx hb dX12_says_26 rfl (lv_at hl 2 rfl) ?_
            refine va_get (D := D) (ci := 11) (v := .ref a_owed) (C := RX12) (T := TX12) (N := 54) hx hb hts in_n_says_X12 hown hK.1 hP 0 rfl rfl 22 (by decide) lk1 (fun _ h9 => h9) rfl dX12_says_27 ?_
            refine lv_iload_n hx hb dX12_says_30 rfl (lv_at hl 0 rfl) ?_
            refine va_iald hx hb hK.1 hP 1 0 rfl rfl (t_in (by omega) (by omega)) dX12_says_31 ?_
            refine lv_topi (fun y_17 ey_17 => ?_)
            refine lv_aload_n hx hb dX12_says_32 rfl (lv_at hl 2 rfl) ?_
            refine va_get (D := D) (ci := 11) (v := .ref a_owed) (C := RX12) (T := TX12) (N := 54) hx hb hts in_n_says_X12 hown hK.1 hP 0 rfl rfl 22 (by decide) lk1 (fun _ h9 => h9) rfl dX12_says_33 ?_
            refine lv_iload_n hx hb dX12_says_36 rfl (lv_at hl 1 rfl) ?_
            refine va_iald hx hb hK.1 hP 1 0 rfl rfl (t_in (by omega) (by omega)) dX12_says_37 ?_
            refine lv_topi (fun y_18 ey_18 => ?_)
            refine lv_icmp_le (tgt := 43) hx hb dX12_says_38 (by decide) (fun c_19 => ?_) (fun c_19 => ?_)
            · have tc_19 := t_le c_19
              obtain ⟨x_20, ex_20⟩ : ∃ y : Int32, y = j + 1 := ⟨_, rfl⟩
              refine lv_iinc (v := x_20) (lv' := [(3, .int x_20), (2, .int a), (0, .ref h), (1, .int d)]) hx hb dX12_says_43 hl (k := 0) rfl (by rw [ex_20]; rfl) (by decide) rfl (fun ls hl => ?_)
              first | have tx_20 := t_add ex_20 (by omega) (by omega) | skip
              refine lv_goto (tgt := 4) hx hb dX12_says_46 (by decide) ?_
              exact ih4 a x_20 (by omega) (by omega) (by omega) (by omega) _ _ hP hD hS ls (lv_sub hl [0, 1, 2, 3] rfl)
            · have tc_19 := t_nle c_19
              refine lv_iload_n hx hb dX12_says_41 rfl (lv_at hl 0 rfl) ?_
              refine lv_istore_n (lv' := [(2, .int j), (3, .int j), (0, .ref h), (1, .int d)]) hx hb dX12_says_42 rfl hl (by decide) rfl (fun ls hl => ?_)
              obtain ⟨x_21, ex_21⟩ : ∃ y : Int32, y = j + 1 := ⟨_, rfl⟩
              refine lv_iinc (v := x_21) (lv' := [(3, .int x_21), (2, .int j), (0, .ref h), (1, .int d)]) hx hb dX12_says_43 hl (k := 1) rfl (by rw [ex_21]; rfl) (by decide) rfl (fun ls hl => ?_)
              first | have tx_21 := t_add ex_21 (by omega) (by omega) | skip
              refine lv_goto (tgt := 4) hx hb dX12_says_46 (by decide) ?_
              exact ih4 j x_21 (by omega) (by omega) (by omega) (by omega) _ _ hP hD hS ls (lv_sub hl [0, 1, 2, 3] rfl)
  exact loop4 ((v_gifts.toInt - (0 : Int32).toInt).toNat + 1) (-1) 0 (by omega) (by omega) (by omega) (by omega) _ _ hP hD hS ls (lv_sub hl [0, 1, 2, 3] rfl)

theorem in_n_holdsAll_X12 : ∀ w ∈ wsX120, w ∈ wsX12_holdsAll := tl_X12_holdsAll_X12
set_option maxHeartbeats 8000000 in
set_option maxRecDepth 100000 in
theorem n_holdsAll {l : Launch} {D : va_G} {cI cZ cB : ClassId} {sz : Nat} {h a_isPriest a_bars a_joined a_turns a_awayMonk a_awayFrom a_awayTo a_feastDay a_rank a_isWeekly a_isDouble a_giftDay a_giftFrom a_owed a_said a_spared a_leaveGift a_leaveFrom a_leaveTo a_lateDay a_lateOffice a_lateBy a_guests a_who a_used a_lacks a_candles a_masses a_owing a_heldOn a_waits a_tape a_text a_statements a_taken a_sort a_first a_second : Nat} {v_today v_monks v_aways v_feasts v_gifts v_leaves v_lates v_store v_allCandles v_taped v_size v_at v_fault v_rules v_wordEnd v_number : Int32} {f_feastDay f_rank f_heldOn f_waits : Nat → Int32}  (h0_feasts : 0 ≤ v_feasts.toInt) (h1_feasts : v_feasts.toInt ≤ 40) : Met l yX12_holdsAll wsX12_holdsAll ({ frames := 0, cells := 0, slots := 0, locals := 0 }) (RW D cI cZ cB [.ref h] sz [(h, .inr (11, [.int v_today, .int v_monks, .int v_aways, .int v_feasts, .int v_gifts, .int v_leaves, .int v_lates, .int v_store, .int v_allCandles, .ref a_isPriest, .ref a_bars, .ref a_joined, .ref a_turns, .ref a_awayMonk, .ref a_awayFrom, .ref a_awayTo, .ref a_feastDay, .ref a_rank, .ref a_isWeekly, .ref a_isDouble, .ref a_giftDay, .ref a_giftFrom, .ref a_owed, .ref a_said, .ref a_spared, .ref a_leaveGift, .ref a_leaveFrom, .ref a_leaveTo, .ref a_lateDay, .ref a_lateOffice, .ref a_lateBy, .ref a_guests, .ref a_who, .ref a_used, .ref a_lacks, .ref a_candles, .ref a_masses, .ref a_owing, .ref a_heldOn, .ref a_waits, .ref a_tape, .ref a_text, .int v_taped, .int v_size, .int v_at, .int v_fault, .int v_rules, .ref a_statements, .ref a_taken, .ref a_sort, .ref a_first, .ref a_second, .int v_wordEnd, .int v_number])), (a_feastDay, .inl (cI, 40, .inl f_feastDay)), (a_rank, .inl (cI, 40, .inl f_rank)), (a_heldOn, .inl (cI, 365, .inl f_heldOn)), (a_waits, .inl (cZ, 40, .inl f_waits))]) (va_Qv (fun u : (Nat → Int32) × (Nat → Int32) => InR u.1 365 (-1) v_feasts.toInt) (BW D [(h, .inr (11, [.int v_today, .int v_monks, .int v_aways, .int v_feasts, .int v_gifts, .int v_leaves, .int v_lates, .int v_store, .int v_allCandles, .ref a_isPriest, .ref a_bars, .ref a_joined, .ref a_turns, .ref a_awayMonk, .ref a_awayFrom, .ref a_awayTo, .ref a_feastDay, .ref a_rank, .ref a_isWeekly, .ref a_isDouble, .ref a_giftDay, .ref a_giftFrom, .ref a_owed, .ref a_said, .ref a_spared, .ref a_leaveGift, .ref a_leaveFrom, .ref a_leaveTo, .ref a_lateDay, .ref a_lateOffice, .ref a_lateBy, .ref a_guests, .ref a_who, .ref a_used, .ref a_lacks, .ref a_candles, .ref a_masses, .ref a_owing, .ref a_heldOn, .ref a_waits, .ref a_tape, .ref a_text, .int v_taped, .int v_size, .int v_at, .int v_fault, .int v_rules, .ref a_statements, .ref a_taken, .ref a_sort, .ref a_first, .ref a_second, .int v_wordEnd, .int v_number])), (a_feastDay, .inl (cI, 40, .inl f_feastDay)), (a_rank, .inl (cI, 40, .inl f_rank)), (a_heldOn, .inl (cI, 365, .inl f_heldOn)), (a_waits, .inl (cZ, 40, .inl f_waits))] sz (fun u : (Nat → Int32) × (Nat → Int32) => [(h, .inr (11, [.int v_today, .int v_monks, .int v_aways, .int v_feasts, .int v_gifts, .int v_leaves, .int v_lates, .int v_store, .int v_allCandles, .ref a_isPriest, .ref a_bars, .ref a_joined, .ref a_turns, .ref a_awayMonk, .ref a_awayFrom, .ref a_awayTo, .ref a_feastDay, .ref a_rank, .ref a_isWeekly, .ref a_isDouble, .ref a_giftDay, .ref a_giftFrom, .ref a_owed, .ref a_said, .ref a_spared, .ref a_leaveGift, .ref a_leaveFrom, .ref a_leaveTo, .ref a_lateDay, .ref a_lateOffice, .ref a_lateBy, .ref a_guests, .ref a_who, .ref a_used, .ref a_lacks, .ref a_candles, .ref a_masses, .ref a_owing, .ref a_heldOn, .ref a_waits, .ref a_tape, .ref a_text, .int v_taped, .int v_size, .int v_at, .int v_fault, .int v_rules, .ref a_statements, .ref a_taken, .ref a_sort, .ref a_first, .ref a_second, .int v_wordEnd, .int v_number])), (a_feastDay, .inl (cI, 40, .inl f_feastDay)), (a_rank, .inl (cI, 40, .inl f_rank)), (a_heldOn, .inl (cI, 365, .inl u.1)), (a_waits, .inl (cZ, 40, .inl u.2))])) (va_A [(h, .inr (11, [.int v_today, .int v_monks, .int v_aways, .int v_feasts, .int v_gifts, .int v_leaves, .int v_lates, .int v_store, .int v_allCandles, .ref a_isPriest, .ref a_bars, .ref a_joined, .ref a_turns, .ref a_awayMonk, .ref a_awayFrom, .ref a_awayTo, .ref a_feastDay, .ref a_rank, .ref a_isWeekly, .ref a_isDouble, .ref a_giftDay, .ref a_giftFrom, .ref a_owed, .ref a_said, .ref a_spared, .ref a_leaveGift, .ref a_leaveFrom, .ref a_leaveTo, .ref a_lateDay, .ref a_lateOffice, .ref a_lateBy, .ref a_guests, .ref a_who, .ref a_used, .ref a_lacks, .ref a_candles, .ref a_masses, .ref a_owing, .ref a_heldOn, .ref a_waits, .ref a_tape, .ref a_text, .int v_taped, .int v_size, .int v_at, .int v_fault, .int v_rules, .ref a_statements, .ref a_taken, .ref a_sort, .ref a_first, .ref a_second, .int v_wordEnd, .int v_number])), (a_feastDay, .inl (cI, 40, .inl f_feastDay)), (a_rank, .inl (cI, 40, .inl f_rank)), (a_heldOn, .inl (cI, 365, .inl f_heldOn)), (a_waits, .inl (cZ, 40, .inl f_waits))] sz)) 0 0 (va_A [(h, .inr (11, [.int v_today, .int v_monks, .int v_aways, .int v_feasts, .int v_gifts, .int v_leaves, .int v_lates, .int v_store, .int v_allCandles, .ref a_isPriest, .ref a_bars, .ref a_joined, .ref a_turns, .ref a_awayMonk, .ref a_awayFrom, .ref a_awayTo, .ref a_feastDay, .ref a_rank, .ref a_isWeekly, .ref a_isDouble, .ref a_giftDay, .ref a_giftFrom, .ref a_owed, .ref a_said, .ref a_spared, .ref a_leaveGift, .ref a_leaveFrom, .ref a_leaveTo, .ref a_lateDay, .ref a_lateOffice, .ref a_lateBy, .ref a_guests, .ref a_who, .ref a_used, .ref a_lacks, .ref a_candles, .ref a_masses, .ref a_owing, .ref a_heldOn, .ref a_waits, .ref a_tape, .ref a_text, .int v_taped, .int v_size, .int v_at, .int v_fault, .int v_rules, .ref a_statements, .ref a_taken, .ref a_sort, .ref a_first, .ref a_second, .int v_wordEnd, .int v_number])), (a_feastDay, .inl (cI, 40, .inl f_feastDay)), (a_rank, .inl (cI, 40, .inl f_rank)), (a_heldOn, .inl (cI, 365, .inl f_heldOn)), (a_waits, .inl (cZ, 40, .inl f_waits))] sz) := by
  refine rw_retv (cc := cX12_holdsAll) (maxL := 5) (own := RX12) (by decide) rfl rfl (Nat.le_of_ble_eq_true rfl) ?_
  intro p e s m args below meth c Q A S hin hret hP hK hD hA hS ls hl
  obtain ⟨hx, hb, hml, hown, hts⟩ := id S
  have hl : lv_has ls 5 [(0, .ref h)] := hl
  have kkm1 : (-1 : Int32).toInt = -1 := by decide
  have kk0 : (0 : Int32).toInt = 0 := by decide
  have kk1 : (1 : Int32).toInt = 1 := by decide
  have kk365 : (365 : Int32).toInt = 365 := by decide
  have lk0 := hts (.fieldLink RX12 153 "AbbeyHoursModel" "feasts" "I") (List.mem_cons_of_mem _ (List.mem_append_left _ (List.mem_of_getElem? (i := 0) rfl)))
  have lk1 := hts (.fieldLink RX12 98 "AbbeyHoursModel" "heldOn" "[I") (List.mem_cons_of_mem _ (List.mem_append_left _ (List.mem_of_getElem? (i := 4) rfl)))
  have lk2 := hts (.fieldLink RX12 101 "AbbeyHoursModel" "waits" "[Z") (List.mem_cons_of_mem _ (List.mem_append_left _ (List.mem_of_getElem? (i := 1) rfl)))
  have lk3 := hts (.fieldLink RX12 35 "AbbeyHoursModel" "rank" "[I") (List.mem_cons_of_mem _ (List.mem_append_left _ (List.mem_of_getElem? (i := 3) rfl)))
  have lk4 := hts (.fieldLink RX12 32 "AbbeyHoursModel" "feastDay" "[I") (List.mem_cons_of_mem _ (List.mem_append_left _ (List.mem_of_getElem? (i := 2) rfl)))
  refine lv_iconst (v := 0) hx hb dX12_holdsAll_0 (by decide) ?_
  refine lv_istore_n (lv' := [(1, .int 0), (0, .ref h)]) hx hb dX12_holdsAll_1 rfl hl (by decide) rfl (fun ls hl => ?_)
  have loop2 : ∀ (fuel : Nat) (j : Int32) (fw : Nat → Int32), v_feasts.toInt - j.toInt < (fuel : Int) → (0 ≤ j.toInt) → (j.toInt ≤ v_feasts.toInt) → ∀ (H : Heap) (locs : List Loc), va_P D vwCl [(h, .inr (11, [.int v_today, .int v_monks, .int v_aways, .int v_feasts, .int v_gifts, .int v_leaves, .int v_lates, .int v_store, .int v_allCandles, .ref a_isPriest, .ref a_bars, .ref a_joined, .ref a_turns, .ref a_awayMonk, .ref a_awayFrom, .ref a_awayTo, .ref a_feastDay, .ref a_rank, .ref a_isWeekly, .ref a_isDouble, .ref a_giftDay, .ref a_giftFrom, .ref a_owed, .ref a_said, .ref a_spared, .ref a_leaveGift, .ref a_leaveFrom, .ref a_leaveTo, .ref a_lateDay, .ref a_lateOffice, .ref a_lateBy, .ref a_guests, .ref a_who, .ref a_used, .ref a_lacks, .ref a_candles, .ref a_masses, .ref a_owing, .ref a_heldOn, .ref a_waits, .ref a_tape, .ref a_text, .int v_taped, .int v_size, .int v_at, .int v_fault, .int v_rules, .ref a_statements, .ref a_taken, .ref a_sort, .ref a_first, .ref a_second, .int v_wordEnd, .int v_number])), (a_feastDay, .inl (cI, 40, .inl f_feastDay)), (a_rank, .inl (cI, 40, .inl f_rank)), (a_heldOn, .inl (cI, 365, .inl f_heldOn)), (a_waits, .inl (cZ, 40, .inl fw))] H → va_D A [(h, .inr (11, [.int v_today, .int v_monks, .int v_aways, .int v_feasts, .int v_gifts, .int v_leaves, .int v_lates, .int v_store, .int v_allCandles, .ref a_isPriest, .ref a_bars, .ref a_joined, .ref a_turns, .ref a_awayMonk, .ref a_awayFrom, .ref a_awayTo, .ref a_feastDay, .ref a_rank, .ref a_isWeekly, .ref a_isDouble, .ref a_giftDay, .ref a_giftFrom, .ref a_owed, .ref a_said, .ref a_spared, .ref a_leaveGift, .ref a_leaveFrom, .ref a_leaveTo, .ref a_lateDay, .ref a_lateOffice, .ref a_lateBy, .ref a_guests, .ref a_who, .ref a_used, .ref a_lacks, .ref a_candles, .ref a_masses, .ref a_owing, .ref a_heldOn, .ref a_waits, .ref a_tape, .ref a_text, .int v_taped, .int v_size, .int v_at, .int v_fault, .int v_rules, .ref a_statements, .ref a_taken, .ref a_sort, .ref a_first, .ref a_second, .int v_wordEnd, .int v_number])), (a_feastDay, .inl (cI, 40, .inl f_feastDay)), (a_rank, .inl (cI, 40, .inl f_rank)), (a_heldOn, .inl (cI, 365, .inl f_heldOn)), (a_waits, .inl (cZ, 40, .inl fw))] → va_S A s.heap H locs → ∀ ls : Array Slot, lv_has ls 5 [(1, .int j), (0, .ref h)] → W p l e ({ frames := 0, cells := 0, slots := 0, locals := 0 } : Room) s m args below meth c H locs 0 0 Q (F0 m 2 ls []) := by
    intro fuel
    induction fuel with
    | zero =>
      intro j fw hmu hj0 hj1 H locs hP hD hS ls hl
      exfalso; omega
    | succ fuel ih2 =>
      intro j fw hmu hj0 hj1 H locs hP hD hS ls hl
      refine lv_iload_n hx hb dX12_holdsAll_2 rfl (lv_at hl 0 rfl) ?_
      refine lv_aload_n hx hb dX12_holdsAll_3 rfl (lv_at hl 1 rfl) ?_
      refine va_get (D := D) (ci := 11) (v := .int v_feasts) (C := RX12) (T := TX12) (N := 54) hx hb hts in_n_holdsAll_X12 hown hK.1 hP 0 rfl rfl 3 (by decide) lk0 (fun _ h9 => h9) rfl dX12_holdsAll_4 ?_
      refine lv_icmp_ge (tgt := 23) hx hb dX12_holdsAll_7 (by decide) (fun c_1 => ?_) (fun c_1 => ?_)
      · have tc_1 := t_le c_1
        refine lv_iconst (v := 0) hx hb dX12_holdsAll_23 (by decide) ?_
        refine lv_istore_n (lv' := [(1, .int 0), (0, .ref h)]) hx hb dX12_holdsAll_24 rfl hl (by decide) rfl (fun ls hl => ?_)
        have loop25 : ∀ (fuel : Nat) (dd : Int32) (fr : Nat → Int32) (fw2 : Nat → Int32), 365 - dd.toInt < (fuel : Int) → (0 ≤ dd.toInt) → (dd.toInt ≤ 365) → (InR fr dd.toInt (-1) v_feasts.toInt) → ∀ (H : Heap) (locs : List Loc), va_P D vwCl [(h, .inr (11, [.int v_today, .int v_monks, .int v_aways, .int v_feasts, .int v_gifts, .int v_leaves, .int v_lates, .int v_store, .int v_allCandles, .ref a_isPriest, .ref a_bars, .ref a_joined, .ref a_turns, .ref a_awayMonk, .ref a_awayFrom, .ref a_awayTo, .ref a_feastDay, .ref a_rank, .ref a_isWeekly, .ref a_isDouble, .ref a_giftDay, .ref a_giftFrom, .ref a_owed, .ref a_said, .ref a_spared, .ref a_leaveGift, .ref a_leaveFrom, .ref a_leaveTo, .ref a_lateDay, .ref a_lateOffice, .ref a_lateBy, .ref a_guests, .ref a_who, .ref a_used, .ref a_lacks, .ref a_candles, .ref a_masses, .ref a_owing, .ref a_heldOn, .ref a_waits, .ref a_tape, .ref a_text, .int v_taped, .int v_size, .int v_at, .int v_fault, .int v_rules, .ref a_statements, .ref a_taken, .ref a_sort, .ref a_first, .ref a_second, .int v_wordEnd, .int v_number])), (a_feastDay, .inl (cI, 40, .inl f_feastDay)), (a_rank, .inl (cI, 40, .inl f_rank)), (a_heldOn, .inl (cI, 365, .inl fr)), (a_waits, .inl (cZ, 40, .inl fw2))] H → va_D A [(h, .inr (11, [.int v_today, .int v_monks, .int v_aways, .int v_feasts, .int v_gifts, .int v_leaves, .int v_lates, .int v_store, .int v_allCandles, .ref a_isPriest, .ref a_bars, .ref a_joined, .ref a_turns, .ref a_awayMonk, .ref a_awayFrom, .ref a_awayTo, .ref a_feastDay, .ref a_rank, .ref a_isWeekly, .ref a_isDouble, .ref a_giftDay, .ref a_giftFrom, .ref a_owed, .ref a_said, .ref a_spared, .ref a_leaveGift, .ref a_leaveFrom, .ref a_leaveTo, .ref a_lateDay, .ref a_lateOffice, .ref a_lateBy, .ref a_guests, .ref a_who, .ref a_used, .ref a_lacks, .ref a_candles, .ref a_masses, .ref a_owing, .ref a_heldOn, .ref a_waits, .ref a_tape, .ref a_text, .int v_taped, .int v_size, .int v_at, .int v_fault, .int v_rules, .ref a_statements, .ref a_taken, .ref a_sort, .ref a_first, .ref a_second, .int v_wordEnd, .int v_number])), (a_feastDay, .inl (cI, 40, .inl f_feastDay)), (a_rank, .inl (cI, 40, .inl f_rank)), (a_heldOn, .inl (cI, 365, .inl fr)), (a_waits, .inl (cZ, 40, .inl fw2))] → va_S A s.heap H locs → ∀ ls : Array Slot, lv_has ls 5 [(1, .int dd), (0, .ref h)] → W p l e ({ frames := 0, cells := 0, slots := 0, locals := 0 } : Room) s m args below meth c H locs 0 0 Q (F0 m 25 ls []) := by
          intro fuel
          induction fuel with
          | zero =>
            intro dd fr fw2 hmu hd0 hd1 hr H locs hP hD hS ls hl
            exfalso; omega
          | succ fuel ih25 =>
            intro dd fr fw2 hmu hd0 hd1 hr H locs hP hD hS ls hl
            refine lv_iload_n hx hb dX12_holdsAll_25 rfl (lv_at hl 0 rfl) ?_
            refine lv_sipush (v := 365) hx hb dX12_holdsAll_26 (by decide) ?_
            refine lv_icmp_ge (tgt := 227) hx hb dX12_holdsAll_29 (by decide) (fun c_2 => ?_) (fun c_2 => ?_)
            · have tc_2 := t_le c_2
              exact hret (fr, fw2) _ _ _ _ (show InR fr 365 (-1) v_feasts.toInt from hr.mono (by omega) (by omega) (by omega)) (hP.sub [0, 1, 2, 3, 4] rfl) (hD.sub [0, 1, 2, 3, 4] (by decide +kernel) rfl) hS dX12_holdsAll_227
            · have tc_2 := t_nle c_2
              refine lv_iconst (v := (-1)) hx hb dX12_holdsAll_32 (by decide) ?_
              refine lv_istore_n (lv' := [(2, .int (-1)), (1, .int dd), (0, .ref h)]) hx hb dX12_holdsAll_33 rfl hl (by decide) rfl (fun ls hl => ?_)
              refine lv_iconst (v := 0) hx hb dX12_holdsAll_34 (by decide) ?_
              refine lv_istore_n (lv' := [(3, .int 0), (2, .int (-1)), (1, .int dd), (0, .ref h)]) hx hb dX12_holdsAll_35 rfl hl (by decide) rfl (fun ls hl => ?_)
              have loop36 : ∀ (fuel : Nat) (a : Int32) (j : Int32), v_feasts.toInt - j.toInt < (fuel : Int) → (0 ≤ j.toInt) → (j.toInt ≤ v_feasts.toInt) → (a.toInt = -1 ∨ (0 ≤ a.toInt ∧ a.toInt < v_feasts.toInt)) → ∀ (H : Heap) (locs : List Loc), va_P D vwCl [(h, .inr (11, [.int v_today, .int v_monks, .int v_aways, .int v_feasts, .int v_gifts, .int v_leaves, .int v_lates, .int v_store, .int v_allCandles, .ref a_isPriest, .ref a_bars, .ref a_joined, .ref a_turns, .ref a_awayMonk, .ref a_awayFrom, .ref a_awayTo, .ref a_feastDay, .ref a_rank, .ref a_isWeekly, .ref a_isDouble, .ref a_giftDay, .ref a_giftFrom, .ref a_owed, .ref a_said, .ref a_spared, .ref a_leaveGift, .ref a_leaveFrom, .ref a_leaveTo, .ref a_lateDay, .ref a_lateOffice, .ref a_lateBy, .ref a_guests, .ref a_who, .ref a_used, .ref a_lacks, .ref a_candles, .ref a_masses, .ref a_owing, .ref a_heldOn, .ref a_waits, .ref a_tape, .ref a_text, .int v_taped, .int v_size, .int v_at, .int v_fault, .int v_rules, .ref a_statements, .ref a_taken, .ref a_sort, .ref a_first, .ref a_second, .int v_wordEnd, .int v_number])), (a_feastDay, .inl (cI, 40, .inl f_feastDay)), (a_rank, .inl (cI, 40, .inl f_rank)), (a_heldOn, .inl (cI, 365, .inl fr)), (a_waits, .inl (cZ, 40, .inl fw2))] H → va_D A [(h, .inr (11, [.int v_today, .int v_monks, .int v_aways, .int v_feasts, .int v_gifts, .int v_leaves, .int v_lates, .int v_store, .int v_allCandles, .ref a_isPriest, .ref a_bars, .ref a_joined, .ref a_turns, .ref a_awayMonk, .ref a_awayFrom, .ref a_awayTo, .ref a_feastDay, .ref a_rank, .ref a_isWeekly, .ref a_isDouble, .ref a_giftDay, .ref a_giftFrom, .ref a_owed, .ref a_said, .ref a_spared, .ref a_leaveGift, .ref a_leaveFrom, .ref a_leaveTo, .ref a_lateDay, .ref a_lateOffice, .ref a_lateBy, .ref a_guests, .ref a_who, .ref a_used, .ref a_lacks, .ref a_candles, .ref a_masses, .ref a_owing, .ref a_heldOn, .ref a_waits, .ref a_tape, .ref a_text, .int v_taped, .int v_size, .int v_at, .int v_fault, .int v_rules, .ref a_statements, .ref a_taken, .ref a_sort, .ref a_first, .ref a_second, .int v_wordEnd, .int v_number])), (a_feastDay, .inl (cI, 40, .inl f_feastDay)), (a_rank, .inl (cI, 40, .inl f_rank)), (a_heldOn, .inl (cI, 365, .inl fr)), (a_waits, .inl (cZ, 40, .inl fw2))] → va_S A s.heap H locs → ∀ ls : Array Slot, lv_has ls 5 [(3, .int j), (2, .int a), (1, .int dd), (0, .ref h)] → W p l e ({ frames := 0, cells := 0, slots := 0, locals := 0 } : Room) s m args below meth c H locs 0 0 Q (F0 m 36 ls []) := by
                intro fuel
                induction fuel with
                | zero =>
                  intro a j hmu hj0 hj1 ha H locs hP hD hS ls hl
                  exfalso; omega
                | succ fuel ih36 =>
                  intro a j hmu hj0 hj1 ha H locs hP hD hS ls hl
                  refine lv_iload_n hx hb dX12_holdsAll_36 rfl (lv_at hl 0 rfl) ?_
                  refine lv_aload_n hx hb dX12_holdsAll_37 rfl (lv_at hl 3 rfl) ?_
                  refine va_get (D := D) (ci := 11) (v := .int v_feasts) (C := RX12) (T := TX12) (N := 54) hx hb hts in_n_holdsAll_X12 hown hK.1 hP 0 rfl rfl 3 (by decide) lk0 (fun _ h9 => h9) rfl dX12_holdsAll_38 ?_
                  refine lv_icmp_ge (tgt := 153) hx hb dX12_holdsAll_41 (by decide) (fun c_3 => ?_) (fun c_3 => ?_)
                  · have tc_3 := t_le c_3
                    refine lv_aload_n hx hb dX12_holdsAll_153 rfl (lv_at hl 3 rfl) ?_
                    refine va_get (D := D) (ci := 11) (v := .ref a_heldOn) (C := RX12) (T := TX12) (N := 54) hx hb hts in_n_holdsAll_X12 hown hK.1 hP 0 rfl rfl 38 (by decide) lk1 (fun _ h9 => h9) rfl dX12_holdsAll_154 ?_
                    refine lv_iload_n hx hb dX12_holdsAll_157 rfl (lv_at hl 2 rfl) ?_
                    refine lv_iload_n hx hb dX12_holdsAll_158 rfl (lv_at hl 1 rfl) ?_
                    refine va_iast hx hb hK.1 hP hD hS 3 0 rfl rfl (t_in (by omega) (by omega)) dX12_holdsAll_159 (fun H locs hP hD hS => ?_)
                    obtain ⟨gh, egh⟩ : ∃ z : Nat → Int32, z = upd fr ((dd : Int32).toNatClampNeg) a := ⟨_, rfl⟩
                    rw [← egh] at hP hD
                    have hP : va_P D vwCl [(h, .inr (11, [.int v_today, .int v_monks, .int v_aways, .int v_feasts, .int v_gifts, .int v_leaves, .int v_lates, .int v_store, .int v_allCandles, .ref a_isPriest, .ref a_bars, .ref a_joined, .ref a_turns, .ref a_awayMonk, .ref a_awayFrom, .ref a_awayTo, .ref a_feastDay, .ref a_rank, .ref a_isWeekly, .ref a_isDouble, .ref a_giftDay, .ref a_giftFrom, .ref a_owed, .ref a_said, .ref a_spared, .ref a_leaveGift, .ref a_leaveFrom, .ref a_leaveTo, .ref a_lateDay, .ref a_lateOffice, .ref a_lateBy, .ref a_guests, .ref a_who, .ref a_used, .ref a_lacks, .ref a_candles, .ref a_masses, .ref a_owing, .ref a_heldOn, .ref a_waits, .ref a_tape, .ref a_text, .int v_taped, .int v_size, .int v_at, .int v_fault, .int v_rules, .ref a_statements, .ref a_taken, .ref a_sort, .ref a_first, .ref a_second, .int v_wordEnd, .int v_number])), (a_feastDay, .inl (cI, 40, .inl f_feastDay)), (a_rank, .inl (cI, 40, .inl f_rank)), (a_heldOn, .inl (cI, 365, .inl gh)), (a_waits, .inl (cZ, 40, .inl fw2))] H := hP
                    have hD := asD hP hD
                    refine lv_iconst (v := 0) hx hb dX12_holdsAll_160 (by decide) ?_
                    refine lv_istore_n (lv' := [(3, .int 0), (2, .int a), (1, .int dd), (0, .ref h)]) hx hb dX12_holdsAll_161 rfl hl (by decide) rfl (fun ls hl => ?_)
                    have loop162 : ∀ (fuel : Nat) (j : Int32) (fw3 : Nat → Int32), v_feasts.toInt - j.toInt < (fuel : Int) → (0 ≤ j.toInt) → (j.toInt ≤ v_feasts.toInt) → ∀ (H : Heap) (locs : List Loc), va_P D vwCl [(h, .inr (11, [.int v_today, .int v_monks, .int v_aways, .int v_feasts, .int v_gifts, .int v_leaves, .int v_lates, .int v_store, .int v_allCandles, .ref a_isPriest, .ref a_bars, .ref a_joined, .ref a_turns, .ref a_awayMonk, .ref a_awayFrom, .ref a_awayTo, .ref a_feastDay, .ref a_rank, .ref a_isWeekly, .ref a_isDouble, .ref a_giftDay, .ref a_giftFrom, .ref a_owed, .ref a_said, .ref a_spared, .ref a_leaveGift, .ref a_leaveFrom, .ref a_leaveTo, .ref a_lateDay, .ref a_lateOffice, .ref a_lateBy, .ref a_guests, .ref a_who, .ref a_used, .ref a_lacks, .ref a_candles, .ref a_masses, .ref a_owing, .ref a_heldOn, .ref a_waits, .ref a_tape, .ref a_text, .int v_taped, .int v_size, .int v_at, .int v_fault, .int v_rules, .ref a_statements, .ref a_taken, .ref a_sort, .ref a_first, .ref a_second, .int v_wordEnd, .int v_number])), (a_feastDay, .inl (cI, 40, .inl f_feastDay)), (a_rank, .inl (cI, 40, .inl f_rank)), (a_heldOn, .inl (cI, 365, .inl gh)), (a_waits, .inl (cZ, 40, .inl fw3))] H → va_D A [(h, .inr (11, [.int v_today, .int v_monks, .int v_aways, .int v_feasts, .int v_gifts, .int v_leaves, .int v_lates, .int v_store, .int v_allCandles, .ref a_isPriest, .ref a_bars, .ref a_joined, .ref a_turns, .ref a_awayMonk, .ref a_awayFrom, .ref a_awayTo, .ref a_feastDay, .ref a_rank, .ref a_isWeekly, .ref a_isDouble, .ref a_giftDay, .ref a_giftFrom, .ref a_owed, .ref a_said, .ref a_spared, .ref a_leaveGift, .ref a_leaveFrom, .ref a_leaveTo, .ref a_lateDay, .ref a_lateOffice, .ref a_lateBy, .ref a_guests, .ref a_who, .ref a_used, .ref a_lacks, .ref a_candles, .ref a_masses, .ref a_owing, .ref a_heldOn, .ref a_waits, .ref a_tape, .ref a_text, .int v_taped, .int v_size, .int v_at, .int v_fault, .int v_rules, .ref a_statements, .ref a_taken, .ref a_sort, .ref a_first, .ref a_second, .int v_wordEnd, .int v_number])), (a_feastDay, .inl (cI, 40, .inl f_feastDay)), (a_rank, .inl (cI, 40, .inl f_rank)), (a_heldOn, .inl (cI, 365, .inl gh)), (a_waits, .inl (cZ, 40, .inl fw3))] → va_S A s.heap H locs → ∀ ls : Array Slot, lv_has ls 5 [(3, .int j), (2, .int a), (1, .int dd), (0, .ref h)] → W p l e ({ frames := 0, cells := 0, slots := 0, locals := 0 } : Room) s m args below meth c H locs 0 0 Q (F0 m 162 ls []) := by
                      intro fuel
                      induction fuel with
                      | zero =>
                        intro j fw3 hmu hj0 hj1 H locs hP hD hS ls hl
                        exfalso; omega
                      | succ fuel ih162 =>
                        intro j fw3 hmu hj0 hj1 H locs hP hD hS ls hl
                        refine lv_iload_n hx hb dX12_holdsAll_162 rfl (lv_at hl 0 rfl) ?_
                        refine lv_aload_n hx hb dX12_holdsAll_163 rfl (lv_at hl 3 rfl) ?_
                        refine va_get (D := D) (ci := 11) (v := .int v_feasts) (C := RX12) (T := TX12) (N := 54) hx hb hts in_n_holdsAll_X12 hown hK.1 hP 0 rfl rfl 3 (by decide) lk0 (fun _ h9 => h9) rfl dX12_holdsAll_164 ?_
                        refine lv_icmp_ge (tgt := 221) hx hb dX12_holdsAll_167 (by decide) (fun c_5 => ?_) (fun c_5 => ?_)
                        · have tc_5 := t_le c_5
                          obtain ⟨x_6, ex_6⟩ : ∃ y : Int32, y = dd + 1 := ⟨_, rfl⟩
                          refine lv_iinc (v := x_6) (lv' := [(1, .int x_6), (3, .int j), (2, .int a), (0, .ref h)]) hx hb dX12_holdsAll_221 hl (k := 2) rfl (by rw [ex_6]; rfl) (by decide) rfl (fun ls hl => ?_)
                          first | have tx_6 := t_add ex_6 (by omega) (by omega) | skip
                          refine lv_goto (tgt := 25) hx hb dX12_holdsAll_224 (by decide) ?_
                          exact ih25 x_6 gh fw3 (by omega) (by omega) (by omega) (by rw [egh]; exact hr.ext (by omega) (by omega) (by omega) (by omega)) _ _ hP hD hS ls (lv_sub hl [0, 3] rfl)
                        · have tc_5 := t_nle c_5
                          refine lv_aload_n hx hb dX12_holdsAll_170 rfl (lv_at hl 3 rfl) ?_
                          refine va_get (D := D) (ci := 11) (v := .ref a_waits) (C := RX12) (T := TX12) (N := 54) hx hb hts in_n_holdsAll_X12 hown hK.1 hP 0 rfl rfl 39 (by decide) lk2 (fun _ h9 => h9) rfl dX12_holdsAll_171 ?_
                          refine lv_iload_n hx hb dX12_holdsAll_174 rfl (lv_at hl 0 rfl) ?_
                          refine lv_aload_n hx hb dX12_holdsAll_175 rfl (lv_at hl 3 rfl) ?_
                          refine va_get (D := D) (ci := 11) (v := .ref a_waits) (C := RX12) (T := TX12) (N := 54) hx hb hts in_n_holdsAll_X12 hown hK.1 hP 0 rfl rfl 39 (by decide) lk2 (fun _ h9 => h9) rfl dX12_holdsAll_176 ?_
                          refine lv_iload_n hx hb dX12_holdsAll_179 rfl (lv_at hl 0 rfl) ?_
                          refine va_zald hx hb hK.1 hP 4 1 rfl rfl (t_in (by omega) (by omega)) dX12_holdsAll_180 ?_
                          refine lv_topi (fun y_7 ey_7 => ?_)
                          refine lv_if_ne (tgt := 194) hx hb dX12_holdsAll_181 (by decide) (fun c_8 => ?_) (fun c_8 => ?_)
                          · have tc_8 := t_neq c_8
                            refine lv_iload_n hx hb dX12_holdsAll_194 rfl (lv_at hl 0 rfl) ?_
                            refine lv_iload_n hx hb dX12_holdsAll_195 rfl (lv_at hl 1 rfl) ?_
                            refine lv_icmp_eq (tgt := 213) hx hb dX12_holdsAll_196 (by decide) (fun c_9 => ?_) (fun c_9 => ?_)
                            · have tc_9 := t_eq c_9
                              refine lv_iconst (v := 0) hx hb dX12_holdsAll_213 (by decide) ?_
                              refine va_zast hx hb hK.1 hP hD hS 4 1 rfl rfl (t_in (by omega) (by omega)) dX12_holdsAll_214 (fun H locs hP hD hS => ?_)
                              obtain ⟨g_10, eg_10⟩ : ∃ z : Nat → Int32, z = upd fw3 ((j : Int32).toNatClampNeg) (vp_nar .boolean 0) := ⟨_, rfl⟩
                              rw [← eg_10] at hP hD
                              have hP : va_P D vwCl [(h, .inr (11, [.int v_today, .int v_monks, .int v_aways, .int v_feasts, .int v_gifts, .int v_leaves, .int v_lates, .int v_store, .int v_allCandles, .ref a_isPriest, .ref a_bars, .ref a_joined, .ref a_turns, .ref a_awayMonk, .ref a_awayFrom, .ref a_awayTo, .ref a_feastDay, .ref a_rank, .ref a_isWeekly, .ref a_isDouble, .ref a_giftDay, .ref a_giftFrom, .ref a_owed, .ref a_said, .ref a_spared, .ref a_leaveGift, .ref a_leaveFrom, .ref a_leaveTo, .ref a_lateDay, .ref a_lateOffice, .ref a_lateBy, .ref a_guests, .ref a_who, .ref a_used, .ref a_lacks, .ref a_candles, .ref a_masses, .ref a_owing, .ref a_heldOn, .ref a_waits, .ref a_tape, .ref a_text, .int v_taped, .int v_size, .int v_at, .int v_fault, .int v_rules, .ref a_statements, .ref a_taken, .ref a_sort, .ref a_first, .ref a_second, .int v_wordEnd, .int v_number])), (a_feastDay, .inl (cI, 40, .inl f_feastDay)), (a_rank, .inl (cI, 40, .inl f_rank)), (a_heldOn, .inl (cI, 365, .inl gh)), (a_waits, .inl (cZ, 40, .inl g_10))] H := hP
                              have hD := asD hP hD
                              obtain ⟨x_11, ex_11⟩ : ∃ y : Int32, y = j + 1 := ⟨_, rfl⟩
                              refine lv_iinc (v := x_11) (lv' := [(3, .int x_11), (2, .int a), (1, .int dd), (0, .ref h)]) hx hb dX12_holdsAll_215 hl (k := 0) rfl (by rw [ex_11]; rfl) (by decide) rfl (fun ls hl => ?_)
                              first | have tx_11 := t_add ex_11 (by omega) (by omega) | skip
                              refine lv_goto (tgt := 162) hx hb dX12_holdsAll_218 (by decide) ?_
                              exact ih162 x_11 g_10 (by omega) (by omega) (by omega) _ _ hP hD hS ls (lv_sub hl [0, 1, 2, 3] rfl)
                            · have tc_9 := t_neq c_9
                              refine lv_aload_n hx hb dX12_holdsAll_199 rfl (lv_at hl 3 rfl) ?_
                              refine va_get (D := D) (ci := 11) (v := .ref a_rank) (C := RX12) (T := TX12) (N := 54) hx hb hts in_n_holdsAll_X12 hown hK.1 hP 0 rfl rfl 17 (by decide) lk3 (fun _ h9 => h9) rfl dX12_holdsAll_200 ?_
                              refine lv_iload_n hx hb dX12_holdsAll_203 rfl (lv_at hl 0 rfl) ?_
                              refine va_iald hx hb hK.1 hP 2 0 rfl rfl (t_in (by omega) (by omega)) dX12_holdsAll_204 ?_
                              refine lv_topi (fun y_12 ey_12 => ?_)
                              refine lv_iconst (v := 1) hx hb dX12_holdsAll_205 (by decide) ?_
                              refine lv_icmp_le (tgt := 213) hx hb dX12_holdsAll_206 (by decide) (fun c_13 => ?_) (fun c_13 => ?_)
                              · have tc_13 := t_le c_13
                                refine lv_iconst (v := 0) hx hb dX12_holdsAll_213 (by decide) ?_
                                refine va_zast hx hb hK.1 hP hD hS 4 1 rfl rfl (t_in (by omega) (by omega)) dX12_holdsAll_214 (fun H locs hP hD hS => ?_)
                                obtain ⟨g_14, eg_14⟩ : ∃ z : Nat → Int32, z = upd fw3 ((j : Int32).toNatClampNeg) (vp_nar .boolean 0) := ⟨_, rfl⟩
                                rw [← eg_14] at hP hD
                                have hP : va_P D vwCl [(h, .inr (11, [.int v_today, .int v_monks, .int v_aways, .int v_feasts, .int v_gifts, .int v_leaves, .int v_lates, .int v_store, .int v_allCandles, .ref a_isPriest, .ref a_bars, .ref a_joined, .ref a_turns, .ref a_awayMonk, .ref a_awayFrom, .ref a_awayTo, .ref a_feastDay, .ref a_rank, .ref a_isWeekly, .ref a_isDouble, .ref a_giftDay, .ref a_giftFrom, .ref a_owed, .ref a_said, .ref a_spared, .ref a_leaveGift, .ref a_leaveFrom, .ref a_leaveTo, .ref a_lateDay, .ref a_lateOffice, .ref a_lateBy, .ref a_guests, .ref a_who, .ref a_used, .ref a_lacks, .ref a_candles, .ref a_masses, .ref a_owing, .ref a_heldOn, .ref a_waits, .ref a_tape, .ref a_text, .int v_taped, .int v_size, .int v_at, .int v_fault, .int v_rules, .ref a_statements, .ref a_taken, .ref a_sort, .ref a_first, .ref a_second, .int v_wordEnd, .int v_number])), (a_feastDay, .inl (cI, 40, .inl f_feastDay)), (a_rank, .inl (cI, 40, .inl f_rank)), (a_heldOn, .inl (cI, 365, .inl gh)), (a_waits, .inl (cZ, 40, .inl g_14))] H := hP
                                have hD := asD hP hD
                                obtain ⟨x_15, ex_15⟩ : ∃ y : Int32, y = j + 1 := ⟨_, rfl⟩
                                refine lv_iinc (v := x_15) (lv' := [(3, .int x_15), (2, .int a), (1, .int dd), (0, .ref h)]) hx hb dX12_holdsAll_215 hl (k := 0) rfl (by rw [ex_15]; rfl) (by decide) rfl (fun ls hl => ?_)
                                first | have tx_15 := t_add ex_15 (by omega) (by omega) | skip
                                refine lv_goto (tgt := 162) hx hb dX12_holdsAll_218 (by decide) ?_
                                exact ih162 x_15 g_14 (by omega) (by omega) (by omega) _ _ hP hD hS ls (lv_sub hl [0, 1, 2, 3] rfl)
                              · have tc_13 := t_nle c_13
                                refine lv_iconst (v := 1) hx hb dX12_holdsAll_209 (by decide) ?_
                                refine lv_goto (tgt := 214) hx hb dX12_holdsAll_210 (by decide) ?_
                                refine va_zast hx hb hK.1 hP hD hS 4 1 rfl rfl (t_in (by omega) (by omega)) dX12_holdsAll_214 (fun H locs hP hD hS => ?_)
                                obtain ⟨g_16, eg_16⟩ : ∃ z : Nat → Int32, z = upd fw3 ((j : Int32).toNatClampNeg) (vp_nar .boolean 1) := ⟨_, rfl⟩
                                rw [← eg_16] at hP hD
                                have hP : va_P D vwCl [(h, .inr (11, [.int v_today, .int v_monks, .int v_aways, .int v_feasts, .int v_gifts, .int v_leaves, .int v_lates, .int v_store, .int v_allCandles, .ref a_isPriest, .ref a_bars, .ref a_joined, .ref a_turns, .ref a_awayMonk, .ref a_awayFrom, .ref a_awayTo, .ref a_feastDay, .ref a_rank, .ref a_isWeekly, .ref a_isDouble, .ref a_giftDay, .ref a_giftFrom, .ref a_owed, .ref a_said, .ref a_spared, .ref a_leaveGift, .ref a_leaveFrom, .ref a_leaveTo, .ref a_lateDay, .ref a_lateOffice, .ref a_lateBy, .ref a_guests, .ref a_who, .ref a_used, .ref a_lacks, .ref a_candles, .ref a_masses, .ref a_owing, .ref a_heldOn, .ref a_waits, .ref a_tape, .ref a_text, .int v_taped, .int v_size, .int v_at, .int v_fault, .int v_rules, .ref a_statements, .ref a_taken, .ref a_sort, .ref a_first, .ref a_second, .int v_wordEnd, .int v_number])), (a_feastDay, .inl (cI, 40, .inl f_feastDay)), (a_rank, .inl (cI, 40, .inl f_rank)), (a_heldOn, .inl (cI, 365, .inl gh)), (a_waits, .inl (cZ, 40, .inl g_16))] H := hP
                                have hD := asD hP hD
                                obtain ⟨x_17, ex_17⟩ : ∃ y : Int32, y = j + 1 := ⟨_, rfl⟩
                                refine lv_iinc (v := x_17) (lv' := [(3, .int x_17), (2, .int a), (1, .int dd), (0, .ref h)]) hx hb dX12_holdsAll_215 hl (k := 0) rfl (by rw [ex_17]; rfl) (by decide) rfl (fun ls hl => ?_)
                                first | have tx_17 := t_add ex_17 (by omega) (by omega) | skip
                                refine lv_goto (tgt := 162) hx hb dX12_holdsAll_218 (by decide) ?_
                                exact ih162 x_17 g_16 (by omega) (by omega) (by omega) _ _ hP hD hS ls (lv_sub hl [0, 1, 2, 3] rfl)
                          · have tc_8 := t_eq c_8
                            refine lv_aload_n hx hb dX12_holdsAll_184 rfl (lv_at hl 3 rfl) ?_
                            refine va_get (D := D) (ci := 11) (v := .ref a_feastDay) (C := RX12) (T := TX12) (N := 54) hx hb hts in_n_holdsAll_X12 hown hK.1 hP 0 rfl rfl 16 (by decide) lk4 (fun _ h9 => h9) rfl dX12_holdsAll_185 ?_
                            refine lv_iload_n hx hb dX12_holdsAll_188 rfl (lv_at hl 0 rfl) ?_
                            refine va_iald hx hb hK.1 hP 1 0 rfl rfl (t_in (by omega) (by omega)) dX12_holdsAll_189 ?_
                            refine lv_topi (fun y_18 ey_18 => ?_)
                            refine lv_iload_n hx hb dX12_holdsAll_190 rfl (lv_at hl 2 rfl) ?_
                            refine lv_icmp_ne (tgt := 213) hx hb dX12_holdsAll_191 (by decide) (fun c_19 => ?_) (fun c_19 => ?_)
                            · have tc_19 := t_neq c_19
                              refine lv_iconst (v := 0) hx hb dX12_holdsAll_213 (by decide) ?_
                              refine va_zast hx hb hK.1 hP hD hS 4 1 rfl rfl (t_in (by omega) (by omega)) dX12_holdsAll_214 (fun H locs hP hD hS => ?_)
                              obtain ⟨g_20, eg_20⟩ : ∃ z : Nat → Int32, z = upd fw3 ((j : Int32).toNatClampNeg) (vp_nar .boolean 0) := ⟨_, rfl⟩
                              rw [← eg_20] at hP hD
                              have hP : va_P D vwCl [(h, .inr (11, [.int v_today, .int v_monks, .int v_aways, .int v_feasts, .int v_gifts, .int v_leaves, .int v_lates, .int v_store, .int v_allCandles, .ref a_isPriest, .ref a_bars, .ref a_joined, .ref a_turns, .ref a_awayMonk, .ref a_awayFrom, .ref a_awayTo, .ref a_feastDay, .ref a_rank, .ref a_isWeekly, .ref a_isDouble, .ref a_giftDay, .ref a_giftFrom, .ref a_owed, .ref a_said, .ref a_spared, .ref a_leaveGift, .ref a_leaveFrom, .ref a_leaveTo, .ref a_lateDay, .ref a_lateOffice, .ref a_lateBy, .ref a_guests, .ref a_who, .ref a_used, .ref a_lacks, .ref a_candles, .ref a_masses, .ref a_owing, .ref a_heldOn, .ref a_waits, .ref a_tape, .ref a_text, .int v_taped, .int v_size, .int v_at, .int v_fault, .int v_rules, .ref a_statements, .ref a_taken, .ref a_sort, .ref a_first, .ref a_second, .int v_wordEnd, .int v_number])), (a_feastDay, .inl (cI, 40, .inl f_feastDay)), (a_rank, .inl (cI, 40, .inl f_rank)), (a_heldOn, .inl (cI, 365, .inl gh)), (a_waits, .inl (cZ, 40, .inl g_20))] H := hP
                              have hD := asD hP hD
                              obtain ⟨x_21, ex_21⟩ : ∃ y : Int32, y = j + 1 := ⟨_, rfl⟩
                              refine lv_iinc (v := x_21) (lv' := [(3, .int x_21), (2, .int a), (1, .int dd), (0, .ref h)]) hx hb dX12_holdsAll_215 hl (k := 0) rfl (by rw [ex_21]; rfl) (by decide) rfl (fun ls hl => ?_)
                              first | have tx_21 := t_add ex_21 (by omega) (by omega) | skip
                              refine lv_goto (tgt := 162) hx hb dX12_holdsAll_218 (by decide) ?_
                              exact ih162 x_21 g_20 (by omega) (by omega) (by omega) _ _ hP hD hS ls (lv_sub hl [0, 1, 2, 3] rfl)
                            · have tc_19 := t_eq c_19
                              refine lv_iload_n hx hb dX12_holdsAll_194 rfl (lv_at hl 0 rfl) ?_
                              refine lv_iload_n hx hb dX12_holdsAll_195 rfl (lv_at hl 1 rfl) ?_
                              refine lv_icmp_eq (tgt := 213) hx hb dX12_holdsAll_196 (by decide) (fun c_22 => ?_) (fun c_22 => ?_)
                              · have tc_22 := t_eq c_22
                                refine lv_iconst (v := 0) hx hb dX12_holdsAll_213 (by decide) ?_
                                refine va_zast hx hb hK.1 hP hD hS 4 1 rfl rfl (t_in (by omega) (by omega)) dX12_holdsAll_214 (fun H locs hP hD hS => ?_)
                                obtain ⟨g_23, eg_23⟩ : ∃ z : Nat → Int32, z = upd fw3 ((j : Int32).toNatClampNeg) (vp_nar .boolean 0) := ⟨_, rfl⟩
                                rw [← eg_23] at hP hD
                                have hP : va_P D vwCl [(h, .inr (11, [.int v_today, .int v_monks, .int v_aways, .int v_feasts, .int v_gifts, .int v_leaves, .int v_lates, .int v_store, .int v_allCandles, .ref a_isPriest, .ref a_bars, .ref a_joined, .ref a_turns, .ref a_awayMonk, .ref a_awayFrom, .ref a_awayTo, .ref a_feastDay, .ref a_rank, .ref a_isWeekly, .ref a_isDouble, .ref a_giftDay, .ref a_giftFrom, .ref a_owed, .ref a_said, .ref a_spared, .ref a_leaveGift, .ref a_leaveFrom, .ref a_leaveTo, .ref a_lateDay, .ref a_lateOffice, .ref a_lateBy, .ref a_guests, .ref a_who, .ref a_used, .ref a_lacks, .ref a_candles, .ref a_masses, .ref a_owing, .ref a_heldOn, .ref a_waits, .ref a_tape, .ref a_text, .int v_taped, .int v_size, .int v_at, .int v_fault, .int v_rules, .ref a_statements, .ref a_taken, .ref a_sort, .ref a_first, .ref a_second, .int v_wordEnd, .int v_number])), (a_feastDay, .inl (cI, 40, .inl f_feastDay)), (a_rank, .inl (cI, 40, .inl f_rank)), (a_heldOn, .inl (cI, 365, .inl gh)), (a_waits, .inl (cZ, 40, .inl g_23))] H := hP
                                have hD := asD hP hD
                                obtain ⟨x_24, ex_24⟩ : ∃ y : Int32, y = j + 1 := ⟨_, rfl⟩
                                refine lv_iinc (v := x_24) (lv' := [(3, .int x_24), (2, .int a), (1, .int dd), (0, .ref h)]) hx hb dX12_holdsAll_215 hl (k := 0) rfl (by rw [ex_24]; rfl) (by decide) rfl (fun ls hl => ?_)
                                first | have tx_24 := t_add ex_24 (by omega) (by omega) | skip
                                refine lv_goto (tgt := 162) hx hb dX12_holdsAll_218 (by decide) ?_
                                exact ih162 x_24 g_23 (by omega) (by omega) (by omega) _ _ hP hD hS ls (lv_sub hl [0, 1, 2, 3] rfl)
                              · have tc_22 := t_neq c_22
                                refine lv_aload_n hx hb dX12_holdsAll_199 rfl (lv_at hl 3 rfl) ?_
                                refine va_get (D := D) (ci := 11) (v := .ref a_rank) (C := RX12) (T := TX12) (N := 54) hx hb hts in_n_holdsAll_X12 hown hK.1 hP 0 rfl rfl 17 (by decide) lk3 (fun _ h9 => h9) rfl dX12_holdsAll_200 ?_
                                refine lv_iload_n hx hb dX12_holdsAll_203 rfl (lv_at hl 0 rfl) ?_
                                refine va_iald hx hb hK.1 hP 2 0 rfl rfl (t_in (by omega) (by omega)) dX12_holdsAll_204 ?_
                                refine lv_topi (fun y_25 ey_25 => ?_)
                                refine lv_iconst (v := 1) hx hb dX12_holdsAll_205 (by decide) ?_
                                refine lv_icmp_le (tgt := 213) hx hb dX12_holdsAll_206 (by decide) (fun c_26 => ?_) (fun c_26 => ?_)
                                · have tc_26 := t_le c_26
                                  refine lv_iconst (v := 0) hx hb dX12_holdsAll_213 (by decide) ?_
                                  refine va_zast hx hb hK.1 hP hD hS 4 1 rfl rfl (t_in (by omega) (by omega)) dX12_holdsAll_214 (fun H locs hP hD hS => ?_)
                                  obtain ⟨g_27, eg_27⟩ : ∃ z : Nat → Int32, z = upd fw3 ((j : Int32).toNatClampNeg) (vp_nar .boolean 0) := ⟨_, rfl⟩
                                  rw [← eg_27] at hP hD
                                  have hP : va_P D vwCl [(h, .inr (11, [.int v_today, .int v_monks, .int v_aways, .int v_feasts, .int v_gifts, .int v_leaves, .int v_lates, .int v_store, .int v_allCandles, .ref a_isPriest, .ref a_bars, .ref a_joined, .ref a_turns, .ref a_awayMonk, .ref a_awayFrom, .ref a_awayTo, .ref a_feastDay, .ref a_rank, .ref a_isWeekly, .ref a_isDouble, .ref a_giftDay, .ref a_giftFrom, .ref a_owed, .ref a_said, .ref a_spared, .ref a_leaveGift, .ref a_leaveFrom, .ref a_leaveTo, .ref a_lateDay, .ref a_lateOffice, .ref a_lateBy, .ref a_guests, .ref a_who, .ref a_used, .ref a_lacks, .ref a_candles, .ref a_masses, .ref a_owing, .ref a_heldOn, .ref a_waits, .ref a_tape, .ref a_text, .int v_taped, .int v_size, .int v_at, .int v_fault, .int v_rules, .ref a_statements, .ref a_taken, .ref a_sort, .ref a_first, .ref a_second, .int v_wordEnd, .int v_number])), (a_feastDay, .inl (cI, 40, .inl f_feastDay)), (a_rank, .inl (cI, 40, .inl f_rank)), (a_heldOn, .inl (cI, 365, .inl gh)), (a_waits, .inl (cZ, 40, .inl g_27))] H := hP
                                  have hD := asD hP hD
                                  obtain ⟨x_28, ex_28⟩ : ∃ y : Int32, y = j + 1 := ⟨_, rfl⟩
                                  refine lv_iinc (v := x_28) (lv' := [(3, .int x_28), (2, .int a), (1, .int dd), (0, .ref h)]) hx hb dX12_holdsAll_215 hl (k := 0) rfl (by rw [ex_28]; rfl) (by decide) rfl (fun ls hl => ?_)
                                  first | have tx_28 := t_add ex_28 (by omega) (by omega) | skip
                                  refine lv_goto (tgt := 162) hx hb dX12_holdsAll_218 (by decide) ?_
                                  exact ih162 x_28 g_27 (by omega) (by omega) (by omega) _ _ hP hD hS ls (lv_sub hl [0, 1, 2, 3] rfl)
                                · have tc_26 := t_nle c_26
                                  refine lv_iconst (v := 1) hx hb dX12_holdsAll_209 (by decide) ?_
                                  refine lv_goto (tgt := 214) hx hb dX12_holdsAll_210 (by decide) ?_
                                  refine va_zast hx hb hK.1 hP hD hS 4 1 rfl rfl (t_in (by omega) (by omega)) dX12_holdsAll_214 (fun H locs hP hD hS => ?_)
                                  obtain ⟨g_29, eg_29⟩ : ∃ z : Nat → Int32, z = upd fw3 ((j : Int32).toNatClampNeg) (vp_nar .boolean 1) := ⟨_, rfl⟩
                                  rw [← eg_29] at hP hD
                                  have hP : va_P D vwCl [(h, .inr (11, [.int v_today, .int v_monks, .int v_aways, .int v_feasts, .int v_gifts, .int v_leaves, .int v_lates, .int v_store, .int v_allCandles, .ref a_isPriest, .ref a_bars, .ref a_joined, .ref a_turns, .ref a_awayMonk, .ref a_awayFrom, .ref a_awayTo, .ref a_feastDay, .ref a_rank, .ref a_isWeekly, .ref a_isDouble, .ref a_giftDay, .ref a_giftFrom, .ref a_owed, .ref a_said, .ref a_spared, .ref a_leaveGift, .ref a_leaveFrom, .ref a_leaveTo, .ref a_lateDay, .ref a_lateOffice, .ref a_lateBy, .ref a_guests, .ref a_who, .ref a_used, .ref a_lacks, .ref a_candles, .ref a_masses, .ref a_owing, .ref a_heldOn, .ref a_waits, .ref a_tape, .ref a_text, .int v_taped, .int v_size, .int v_at, .int v_fault, .int v_rules, .ref a_statements, .ref a_taken, .ref a_sort, .ref a_first, .ref a_second, .int v_wordEnd, .int v_number])), (a_feastDay, .inl (cI, 40, .inl f_feastDay)), (a_rank, .inl (cI, 40, .inl f_rank)), (a_heldOn, .inl (cI, 365, .inl gh)), (a_waits, .inl (cZ, 40, .inl g_29))] H := hP
                                  have hD := asD hP hD
                                  obtain ⟨x_30, ex_30⟩ : ∃ y : Int32, y = j + 1 := ⟨_, rfl⟩
                                  refine lv_iinc (v := x_30) (lv' := [(3, .int x_30), (2, .int a), (1, .int dd), (0, .ref h)]) hx hb dX12_holdsAll_215 hl (k := 0) rfl (by rw [ex_30]; rfl) (by decide) rfl (fun ls hl => ?_)
                                  first | have tx_30 := t_add ex_30 (by omega) (by omega) | skip
                                  refine lv_goto (tgt := 162) hx hb dX12_holdsAll_218 (by decide) ?_
                                  exact ih162 x_30 g_29 (by omega) (by omega) (by omega) _ _ hP hD hS ls (lv_sub hl [0, 1, 2, 3] rfl)
                    exact loop162 ((v_feasts.toInt - (0 : Int32).toInt).toNat + 1) 0 fw2 (by omega) (by omega) (by omega) _ _ hP hD hS ls (lv_sub hl [0, 1, 2, 3] rfl)
                  · have tc_3 := t_nle c_3
                    refine lv_aload_n hx hb dX12_holdsAll_44 rfl (lv_at hl 3 rfl) ?_
                    refine va_get (D := D) (ci := 11) (v := .ref a_waits) (C := RX12) (T := TX12) (N := 54) hx hb hts in_n_holdsAll_X12 hown hK.1 hP 0 rfl rfl 39 (by decide) lk2 (fun _ h9 => h9) rfl dX12_holdsAll_45 ?_
                    refine lv_iload_n hx hb dX12_holdsAll_48 rfl (lv_at hl 0 rfl) ?_
                    refine va_zald hx hb hK.1 hP 4 1 rfl rfl (t_in (by omega) (by omega)) dX12_holdsAll_49 ?_
                    refine lv_topi (fun y_31 ey_31 => ?_)
                    refine lv_if_ne (tgt := 66) hx hb dX12_holdsAll_50 (by decide) (fun c_32 => ?_) (fun c_32 => ?_)
                    · have tc_32 := t_neq c_32
                      refine lv_iload_n hx hb dX12_holdsAll_66 rfl (lv_at hl 1 rfl) ?_
                      refine lv_iconst (v := (-1)) hx hb dX12_holdsAll_67 (by decide) ?_
                      refine lv_icmp_eq (tgt := 86) hx hb dX12_holdsAll_68 (by decide) (fun c_33 => ?_) (fun c_33 => ?_)
                      · have tc_33 := t_eq c_33
                        refine lv_iconst (v := 1) hx hb dX12_holdsAll_86 (by decide) ?_
                        refine lv_goto (tgt := 91) hx hb dX12_holdsAll_87 (by decide) ?_
                        refine lv_istore (lv' := [(4, .int 1), (3, .int j), (2, .int a), (1, .int dd), (0, .ref h)]) hx hb dX12_holdsAll_91 hl (by decide) rfl (fun ls hl => ?_)
                        refine lv_iload_n hx hb dX12_holdsAll_93 rfl (lv_at hl 2 rfl) ?_
                        refine lv_iconst (v := (-1)) hx hb dX12_holdsAll_94 (by decide) ?_
                        refine lv_icmp_eq (tgt := 140) hx hb dX12_holdsAll_95 (by decide) (fun c_34 => ?_) (fun c_34 => ?_)
                        · have tc_34 := t_eq c_34
                          refine lv_iload hx hb dX12_holdsAll_140 (lv_at hl 0 rfl) ?_
                          refine lv_if_eq (tgt := 147) hx hb dX12_holdsAll_142 (by decide) (fun c_35 => ?_) (fun c_35 => ?_)
                          · exact absurd c_35 (by decide)
                          · have tc_35 := t_neq c_35
                            refine lv_iload_n hx hb dX12_holdsAll_145 rfl (lv_at hl 1 rfl) ?_
                            refine lv_istore_n (lv' := [(2, .int j), (4, .int 1), (3, .int j), (1, .int dd), (0, .ref h)]) hx hb dX12_holdsAll_146 rfl hl (by decide) rfl (fun ls hl => ?_)
                            obtain ⟨x_36, ex_36⟩ : ∃ y : Int32, y = j + 1 := ⟨_, rfl⟩
                            refine lv_iinc (v := x_36) (lv' := [(3, .int x_36), (2, .int j), (4, .int 1), (1, .int dd), (0, .ref h)]) hx hb dX12_holdsAll_147 hl (k := 2) rfl (by rw [ex_36]; rfl) (by decide) rfl (fun ls hl => ?_)
                            first | have tx_36 := t_add ex_36 (by omega) (by omega) | skip
                            refine lv_goto (tgt := 36) hx hb dX12_holdsAll_150 (by decide) ?_
                            exact ih36 j x_36 (by omega) (by omega) (by omega) (by omega) _ _ hP hD hS ls (lv_sub hl [0, 1, 3, 4] rfl)
                        · have tc_34 := t_neq c_34
                          refine lv_aload_n hx hb dX12_holdsAll_98 rfl (lv_at hl 4 rfl) ?_
                          refine va_get (D := D) (ci := 11) (v := .ref a_rank) (C := RX12) (T := TX12) (N := 54) hx hb hts in_n_holdsAll_X12 hown hK.1 hP 0 rfl rfl 17 (by decide) lk3 (fun _ h9 => h9) rfl dX12_holdsAll_99 ?_
                          refine lv_iload_n hx hb dX12_holdsAll_102 rfl (lv_at hl 1 rfl) ?_
                          refine va_iald hx hb hK.1 hP 2 0 rfl rfl (t_in (by omega) (by omega)) dX12_holdsAll_103 ?_
                          refine lv_topi (fun y_37 ey_37 => ?_)
                          refine lv_aload_n hx hb dX12_holdsAll_104 rfl (lv_at hl 4 rfl) ?_
                          refine va_get (D := D) (ci := 11) (v := .ref a_rank) (C := RX12) (T := TX12) (N := 54) hx hb hts in_n_holdsAll_X12 hown hK.1 hP 0 rfl rfl 17 (by decide) lk3 (fun _ h9 => h9) rfl dX12_holdsAll_105 ?_
                          refine lv_iload_n hx hb dX12_holdsAll_108 rfl (lv_at hl 2 rfl) ?_
                          refine va_iald hx hb hK.1 hP 2 0 rfl rfl (t_in (by omega) (by omega)) dX12_holdsAll_109 ?_
                          refine lv_topi (fun y_38 ey_38 => ?_)
                          refine lv_icmp_ne (tgt := 140) hx hb dX12_holdsAll_110 (by decide) (fun c_39 => ?_) (fun c_39 => ?_)
                          · have tc_39 := t_neq c_39
                            refine lv_iload hx hb dX12_holdsAll_140 (lv_at hl 0 rfl) ?_
                            refine lv_if_eq (tgt := 147) hx hb dX12_holdsAll_142 (by decide) (fun c_40 => ?_) (fun c_40 => ?_)
                            · exact absurd c_40 (by decide)
                            · have tc_40 := t_neq c_40
                              refine lv_iload_n hx hb dX12_holdsAll_145 rfl (lv_at hl 1 rfl) ?_
                              refine lv_istore_n (lv' := [(2, .int j), (4, .int 1), (3, .int j), (1, .int dd), (0, .ref h)]) hx hb dX12_holdsAll_146 rfl hl (by decide) rfl (fun ls hl => ?_)
                              obtain ⟨x_41, ex_41⟩ : ∃ y : Int32, y = j + 1 := ⟨_, rfl⟩
                              refine lv_iinc (v := x_41) (lv' := [(3, .int x_41), (2, .int j), (4, .int 1), (1, .int dd), (0, .ref h)]) hx hb dX12_holdsAll_147 hl (k := 2) rfl (by rw [ex_41]; rfl) (by decide) rfl (fun ls hl => ?_)
                              first | have tx_41 := t_add ex_41 (by omega) (by omega) | skip
                              refine lv_goto (tgt := 36) hx hb dX12_holdsAll_150 (by decide) ?_
                              exact ih36 j x_41 (by omega) (by omega) (by omega) (by omega) _ _ hP hD hS ls (lv_sub hl [0, 1, 3, 4] rfl)
                          · have tc_39 := t_eq c_39
                            refine lv_aload_n hx hb dX12_holdsAll_113 rfl (lv_at hl 4 rfl) ?_
                            refine va_get (D := D) (ci := 11) (v := .ref a_feastDay) (C := RX12) (T := TX12) (N := 54) hx hb hts in_n_holdsAll_X12 hown hK.1 hP 0 rfl rfl 16 (by decide) lk4 (fun _ h9 => h9) rfl dX12_holdsAll_114 ?_
                            refine lv_iload_n hx hb dX12_holdsAll_117 rfl (lv_at hl 1 rfl) ?_
                            refine va_iald hx hb hK.1 hP 1 0 rfl rfl (t_in (by omega) (by omega)) dX12_holdsAll_118 ?_
                            refine lv_topi (fun y_42 ey_42 => ?_)
                            refine lv_iload_n hx hb dX12_holdsAll_119 rfl (lv_at hl 3 rfl) ?_
                            refine lv_icmp_ne (tgt := 137) hx hb dX12_holdsAll_120 (by decide) (fun c_43 => ?_) (fun c_43 => ?_)
                            · have tc_43 := t_neq c_43
                              refine lv_iconst (v := 0) hx hb dX12_holdsAll_137 (by decide) ?_
                              refine lv_istore (lv' := [(4, .int 0), (3, .int j), (2, .int a), (1, .int dd), (0, .ref h)]) hx hb dX12_holdsAll_138 hl (by decide) rfl (fun ls hl => ?_)
                              refine lv_iload hx hb dX12_holdsAll_140 (lv_at hl 0 rfl) ?_
                              refine lv_if_eq (tgt := 147) hx hb dX12_holdsAll_142 (by decide) (fun c_44 => ?_) (fun c_44 => ?_)
                              · have tc_44 := t_eq c_44
                                obtain ⟨x_45, ex_45⟩ : ∃ y : Int32, y = j + 1 := ⟨_, rfl⟩
                                refine lv_iinc (v := x_45) (lv' := [(3, .int x_45), (4, .int 0), (2, .int a), (1, .int dd), (0, .ref h)]) hx hb dX12_holdsAll_147 hl (k := 1) rfl (by rw [ex_45]; rfl) (by decide) rfl (fun ls hl => ?_)
                                first | have tx_45 := t_add ex_45 (by omega) (by omega) | skip
                                refine lv_goto (tgt := 36) hx hb dX12_holdsAll_150 (by decide) ?_
                                exact ih36 a x_45 (by omega) (by omega) (by omega) (by omega) _ _ hP hD hS ls (lv_sub hl [0, 2, 3, 4] rfl)
                              · exact absurd c_44 (by decide)
                            · have tc_43 := t_eq c_43
                              refine lv_aload_n hx hb dX12_holdsAll_123 rfl (lv_at hl 4 rfl) ?_
                              refine va_get (D := D) (ci := 11) (v := .ref a_feastDay) (C := RX12) (T := TX12) (N := 54) hx hb hts in_n_holdsAll_X12 hown hK.1 hP 0 rfl rfl 16 (by decide) lk4 (fun _ h9 => h9) rfl dX12_holdsAll_124 ?_
                              refine lv_iload_n hx hb dX12_holdsAll_127 rfl (lv_at hl 2 rfl) ?_
                              refine va_iald hx hb hK.1 hP 1 0 rfl rfl (t_in (by omega) (by omega)) dX12_holdsAll_128 ?_
                              refine lv_topi (fun y_46 ey_46 => ?_)
                              refine lv_iload_n hx hb dX12_holdsAll_129 rfl (lv_at hl 3 rfl) ?_
                              refine lv_icmp_eq (tgt := 137) hx hb dX12_holdsAll_130 (by decide) (fun c_47 => ?_) (fun c_47 => ?_)
                              · have tc_47 := t_eq c_47
                                refine lv_iconst (v := 0) hx hb dX12_holdsAll_137 (by decide) ?_
                                refine lv_istore (lv' := [(4, .int 0), (3, .int j), (2, .int a), (1, .int dd), (0, .ref h)]) hx hb dX12_holdsAll_138 hl (by decide) rfl (fun ls hl => ?_)
                                refine lv_iload hx hb dX12_holdsAll_140 (lv_at hl 0 rfl) ?_
                                refine lv_if_eq (tgt := 147) hx hb dX12_holdsAll_142 (by decide) (fun c_48 => ?_) (fun c_48 => ?_)
                                · have tc_48 := t_eq c_48
                                  obtain ⟨x_49, ex_49⟩ : ∃ y : Int32, y = j + 1 := ⟨_, rfl⟩
                                  refine lv_iinc (v := x_49) (lv' := [(3, .int x_49), (4, .int 0), (2, .int a), (1, .int dd), (0, .ref h)]) hx hb dX12_holdsAll_147 hl (k := 1) rfl (by rw [ex_49]; rfl) (by decide) rfl (fun ls hl => ?_)
                                  first | have tx_49 := t_add ex_49 (by omega) (by omega) | skip
                                  refine lv_goto (tgt := 36) hx hb dX12_holdsAll_150 (by decide) ?_
                                  exact ih36 a x_49 (by omega) (by omega) (by omega) (by omega) _ _ hP hD hS ls (lv_sub hl [0, 2, 3, 4] rfl)
                                · exact absurd c_48 (by decide)
                              · have tc_47 := t_neq c_47
                                refine lv_iconst (v := 1) hx hb dX12_holdsAll_133 (by decide) ?_
                                refine lv_goto (tgt := 138) hx hb dX12_holdsAll_134 (by decide) ?_
                                refine lv_istore (lv' := [(4, .int 1), (3, .int j), (2, .int a), (1, .int dd), (0, .ref h)]) hx hb dX12_holdsAll_138 hl (by decide) rfl (fun ls hl => ?_)
                                refine lv_iload hx hb dX12_holdsAll_140 (lv_at hl 0 rfl) ?_
                                refine lv_if_eq (tgt := 147) hx hb dX12_holdsAll_142 (by decide) (fun c_50 => ?_) (fun c_50 => ?_)
                                · exact absurd c_50 (by decide)
                                · have tc_50 := t_neq c_50
                                  refine lv_iload_n hx hb dX12_holdsAll_145 rfl (lv_at hl 1 rfl) ?_
                                  refine lv_istore_n (lv' := [(2, .int j), (4, .int 1), (3, .int j), (1, .int dd), (0, .ref h)]) hx hb dX12_holdsAll_146 rfl hl (by decide) rfl (fun ls hl => ?_)
                                  obtain ⟨x_51, ex_51⟩ : ∃ y : Int32, y = j + 1 := ⟨_, rfl⟩
                                  refine lv_iinc (v := x_51) (lv' := [(3, .int x_51), (2, .int j), (4, .int 1), (1, .int dd), (0, .ref h)]) hx hb dX12_holdsAll_147 hl (k := 2) rfl (by rw [ex_51]; rfl) (by decide) rfl (fun ls hl => ?_)
                                  first | have tx_51 := t_add ex_51 (by omega) (by omega) | skip
                                  refine lv_goto (tgt := 36) hx hb dX12_holdsAll_150 (by decide) ?_
                                  exact ih36 j x_51 (by omega) (by omega) (by omega) (by omega) _ _ hP hD hS ls (lv_sub hl [0, 1, 3, 4] rfl)
                      · have tc_33 := t_neq c_33
                        refine lv_aload_n hx hb dX12_holdsAll_71 rfl (lv_at hl 3 rfl) ?_
                        refine va_get (D := D) (ci := 11) (v := .ref a_rank) (C := RX12) (T := TX12) (N := 54) hx hb hts in_n_holdsAll_X12 hown hK.1 hP 0 rfl rfl 17 (by decide) lk3 (fun _ h9 => h9) rfl dX12_holdsAll_72 ?_
                        refine lv_iload_n hx hb dX12_holdsAll_75 rfl (lv_at hl 0 rfl) ?_
                        refine va_iald hx hb hK.1 hP 2 0 rfl rfl (t_in (by omega) (by omega)) dX12_holdsAll_76 ?_
                        refine lv_topi (fun y_52 ey_52 => ?_)
                        refine lv_aload_n hx hb dX12_holdsAll_77 rfl (lv_at hl 3 rfl) ?_
                        refine va_get (D := D) (ci := 11) (v := .ref a_rank) (C := RX12) (T := TX12) (N := 54) hx hb hts in_n_holdsAll_X12 hown hK.1 hP 0 rfl rfl 17 (by decide) lk3 (fun _ h9 => h9) rfl dX12_holdsAll_78 ?_
                        refine lv_iload_n hx hb dX12_holdsAll_81 rfl (lv_at hl 1 rfl) ?_
                        refine va_iald hx hb hK.1 hP 2 0 rfl rfl (t_in (by omega) (by omega)) dX12_holdsAll_82 ?_
                        refine lv_topi (fun y_53 ey_53 => ?_)
                        refine lv_icmp_le (tgt := 90) hx hb dX12_holdsAll_83 (by decide) (fun c_54 => ?_) (fun c_54 => ?_)
                        · have tc_54 := t_le c_54
                          refine lv_iconst (v := 0) hx hb dX12_holdsAll_90 (by decide) ?_
                          refine lv_istore (lv' := [(4, .int 0), (3, .int j), (2, .int a), (1, .int dd), (0, .ref h)]) hx hb dX12_holdsAll_91 hl (by decide) rfl (fun ls hl => ?_)
                          refine lv_iload_n hx hb dX12_holdsAll_93 rfl (lv_at hl 2 rfl) ?_
                          refine lv_iconst (v := (-1)) hx hb dX12_holdsAll_94 (by decide) ?_
                          refine lv_icmp_eq (tgt := 140) hx hb dX12_holdsAll_95 (by decide) (fun c_55 => ?_) (fun c_55 => ?_)
                          · have tc_55 := t_eq c_55
                            refine lv_iload hx hb dX12_holdsAll_140 (lv_at hl 0 rfl) ?_
                            refine lv_if_eq (tgt := 147) hx hb dX12_holdsAll_142 (by decide) (fun c_56 => ?_) (fun c_56 => ?_)
                            · have tc_56 := t_eq c_56
                              obtain ⟨x_57, ex_57⟩ : ∃ y : Int32, y = j + 1 := ⟨_, rfl⟩
                              refine lv_iinc (v := x_57) (lv' := [(3, .int x_57), (4, .int 0), (2, .int a), (1, .int dd), (0, .ref h)]) hx hb dX12_holdsAll_147 hl (k := 1) rfl (by rw [ex_57]; rfl) (by decide) rfl (fun ls hl => ?_)
                              first | have tx_57 := t_add ex_57 (by omega) (by omega) | skip
                              refine lv_goto (tgt := 36) hx hb dX12_holdsAll_150 (by decide) ?_
                              exact ih36 a x_57 (by omega) (by omega) (by omega) (by omega) _ _ hP hD hS ls (lv_sub hl [0, 2, 3, 4] rfl)
                            · exact absurd c_56 (by decide)
                          · have tc_55 := t_neq c_55
                            refine lv_aload_n hx hb dX12_holdsAll_98 rfl (lv_at hl 4 rfl) ?_
                            refine va_get (D := D) (ci := 11) (v := .ref a_rank) (C := RX12) (T := TX12) (N := 54) hx hb hts in_n_holdsAll_X12 hown hK.1 hP 0 rfl rfl 17 (by decide) lk3 (fun _ h9 => h9) rfl dX12_holdsAll_99 ?_
                            refine lv_iload_n hx hb dX12_holdsAll_102 rfl (lv_at hl 1 rfl) ?_
                            refine va_iald hx hb hK.1 hP 2 0 rfl rfl (t_in (by omega) (by omega)) dX12_holdsAll_103 ?_
                            refine lv_topi (fun y_58 ey_58 => ?_)
                            refine lv_aload_n hx hb dX12_holdsAll_104 rfl (lv_at hl 4 rfl) ?_
                            refine va_get (D := D) (ci := 11) (v := .ref a_rank) (C := RX12) (T := TX12) (N := 54) hx hb hts in_n_holdsAll_X12 hown hK.1 hP 0 rfl rfl 17 (by decide) lk3 (fun _ h9 => h9) rfl dX12_holdsAll_105 ?_
                            refine lv_iload_n hx hb dX12_holdsAll_108 rfl (lv_at hl 2 rfl) ?_
                            refine va_iald hx hb hK.1 hP 2 0 rfl rfl (t_in (by omega) (by omega)) dX12_holdsAll_109 ?_
                            refine lv_topi (fun y_59 ey_59 => ?_)
                            refine lv_icmp_ne (tgt := 140) hx hb dX12_holdsAll_110 (by decide) (fun c_60 => ?_) (fun c_60 => ?_)
                            · have tc_60 := t_neq c_60
                              refine lv_iload hx hb dX12_holdsAll_140 (lv_at hl 0 rfl) ?_
                              refine lv_if_eq (tgt := 147) hx hb dX12_holdsAll_142 (by decide) (fun c_61 => ?_) (fun c_61 => ?_)
                              · have tc_61 := t_eq c_61
                                obtain ⟨x_62, ex_62⟩ : ∃ y : Int32, y = j + 1 := ⟨_, rfl⟩
                                refine lv_iinc (v := x_62) (lv' := [(3, .int x_62), (4, .int 0), (2, .int a), (1, .int dd), (0, .ref h)]) hx hb dX12_holdsAll_147 hl (k := 1) rfl (by rw [ex_62]; rfl) (by decide) rfl (fun ls hl => ?_)
                                first | have tx_62 := t_add ex_62 (by omega) (by omega) | skip
                                refine lv_goto (tgt := 36) hx hb dX12_holdsAll_150 (by decide) ?_
                                exact ih36 a x_62 (by omega) (by omega) (by omega) (by omega) _ _ hP hD hS ls (lv_sub hl [0, 2, 3, 4] rfl)
                              · exact absurd c_61 (by decide)
                            · have tc_60 := t_eq c_60
                              refine lv_aload_n hx hb dX12_holdsAll_113 rfl (lv_at hl 4 rfl) ?_
                              refine va_get (D := D) (ci := 11) (v := .ref a_feastDay) (C := RX12) (T := TX12) (N := 54) hx hb hts in_n_holdsAll_X12 hown hK.1 hP 0 rfl rfl 16 (by decide) lk4 (fun _ h9 => h9) rfl dX12_holdsAll_114 ?_
                              refine lv_iload_n hx hb dX12_holdsAll_117 rfl (lv_at hl 1 rfl) ?_
                              refine va_iald hx hb hK.1 hP 1 0 rfl rfl (t_in (by omega) (by omega)) dX12_holdsAll_118 ?_
                              refine lv_topi (fun y_63 ey_63 => ?_)
                              refine lv_iload_n hx hb dX12_holdsAll_119 rfl (lv_at hl 3 rfl) ?_
                              refine lv_icmp_ne (tgt := 137) hx hb dX12_holdsAll_120 (by decide) (fun c_64 => ?_) (fun c_64 => ?_)
                              · have tc_64 := t_neq c_64
                                refine lv_iconst (v := 0) hx hb dX12_holdsAll_137 (by decide) ?_
                                refine lv_istore (lv' := [(4, .int 0), (3, .int j), (2, .int a), (1, .int dd), (0, .ref h)]) hx hb dX12_holdsAll_138 hl (by decide) rfl (fun ls hl => ?_)
                                refine lv_iload hx hb dX12_holdsAll_140 (lv_at hl 0 rfl) ?_
                                refine lv_if_eq (tgt := 147) hx hb dX12_holdsAll_142 (by decide) (fun c_65 => ?_) (fun c_65 => ?_)
                                · have tc_65 := t_eq c_65
                                  obtain ⟨x_66, ex_66⟩ : ∃ y : Int32, y = j + 1 := ⟨_, rfl⟩
                                  refine lv_iinc (v := x_66) (lv' := [(3, .int x_66), (4, .int 0), (2, .int a), (1, .int dd), (0, .ref h)]) hx hb dX12_holdsAll_147 hl (k := 1) rfl (by rw [ex_66]; rfl) (by decide) rfl (fun ls hl => ?_)
                                  first | have tx_66 := t_add ex_66 (by omega) (by omega) | skip
                                  refine lv_goto (tgt := 36) hx hb dX12_holdsAll_150 (by decide) ?_
                                  exact ih36 a x_66 (by omega) (by omega) (by omega) (by omega) _ _ hP hD hS ls (lv_sub hl [0, 2, 3, 4] rfl)
                                · exact absurd c_65 (by decide)
                              · have tc_64 := t_eq c_64
                                refine lv_aload_n hx hb dX12_holdsAll_123 rfl (lv_at hl 4 rfl) ?_
                                refine va_get (D := D) (ci := 11) (v := .ref a_feastDay) (C := RX12) (T := TX12) (N := 54) hx hb hts in_n_holdsAll_X12 hown hK.1 hP 0 rfl rfl 16 (by decide) lk4 (fun _ h9 => h9) rfl dX12_holdsAll_124 ?_
                                refine lv_iload_n hx hb dX12_holdsAll_127 rfl (lv_at hl 2 rfl) ?_
                                refine va_iald hx hb hK.1 hP 1 0 rfl rfl (t_in (by omega) (by omega)) dX12_holdsAll_128 ?_
                                refine lv_topi (fun y_67 ey_67 => ?_)
                                refine lv_iload_n hx hb dX12_holdsAll_129 rfl (lv_at hl 3 rfl) ?_
                                refine lv_icmp_eq (tgt := 137) hx hb dX12_holdsAll_130 (by decide) (fun c_68 => ?_) (fun c_68 => ?_)
                                · have tc_68 := t_eq c_68
                                  refine lv_iconst (v := 0) hx hb dX12_holdsAll_137 (by decide) ?_
                                  refine lv_istore (lv' := [(4, .int 0), (3, .int j), (2, .int a), (1, .int dd), (0, .ref h)]) hx hb dX12_holdsAll_138 hl (by decide) rfl (fun ls hl => ?_)
                                  refine lv_iload hx hb dX12_holdsAll_140 (lv_at hl 0 rfl) ?_
                                  refine lv_if_eq (tgt := 147) hx hb dX12_holdsAll_142 (by decide) (fun c_69 => ?_) (fun c_69 => ?_)
                                  · have tc_69 := t_eq c_69
                                    obtain ⟨x_70, ex_70⟩ : ∃ y : Int32, y = j + 1 := ⟨_, rfl⟩
                                    refine lv_iinc (v := x_70) (lv' := [(3, .int x_70), (4, .int 0), (2, .int a), (1, .int dd), (0, .ref h)]) hx hb dX12_holdsAll_147 hl (k := 1) rfl (by rw [ex_70]; rfl) (by decide) rfl (fun ls hl => ?_)
                                    first | have tx_70 := t_add ex_70 (by omega) (by omega) | skip
                                    refine lv_goto (tgt := 36) hx hb dX12_holdsAll_150 (by decide) ?_
                                    exact ih36 a x_70 (by omega) (by omega) (by omega) (by omega) _ _ hP hD hS ls (lv_sub hl [0, 2, 3, 4] rfl)
                                  · exact absurd c_69 (by decide)
                                · have tc_68 := t_neq c_68
                                  refine lv_iconst (v := 1) hx hb dX12_holdsAll_133 (by decide) ?_
                                  refine lv_goto (tgt := 138) hx hb dX12_holdsAll_134 (by decide) ?_
                                  refine lv_istore (lv' := [(4, .int 1), (3, .int j), (2, .int a), (1, .int dd), (0, .ref h)]) hx hb dX12_holdsAll_138 hl (by decide) rfl (fun ls hl => ?_)
                                  refine lv_iload hx hb dX12_holdsAll_140 (lv_at hl 0 rfl) ?_
                                  refine lv_if_eq (tgt := 147) hx hb dX12_holdsAll_142 (by decide) (fun c_71 => ?_) (fun c_71 => ?_)
                                  · exact absurd c_71 (by decide)
                                  · have tc_71 := t_neq c_71
                                    refine lv_iload_n hx hb dX12_holdsAll_145 rfl (lv_at hl 1 rfl) ?_
                                    refine lv_istore_n (lv' := [(2, .int j), (4, .int 1), (3, .int j), (1, .int dd), (0, .ref h)]) hx hb dX12_holdsAll_146 rfl hl (by decide) rfl (fun ls hl => ?_)
                                    obtain ⟨x_72, ex_72⟩ : ∃ y : Int32, y = j + 1 := ⟨_, rfl⟩
                                    refine lv_iinc (v := x_72) (lv' := [(3, .int x_72), (2, .int j), (4, .int 1), (1, .int dd), (0, .ref h)]) hx hb dX12_holdsAll_147 hl (k := 2) rfl (by rw [ex_72]; rfl) (by decide) rfl (fun ls hl => ?_)
                                    first | have tx_72 := t_add ex_72 (by omega) (by omega) | skip
                                    refine lv_goto (tgt := 36) hx hb dX12_holdsAll_150 (by decide) ?_
                                    exact ih36 j x_72 (by omega) (by omega) (by omega) (by omega) _ _ hP hD hS ls (lv_sub hl [0, 1, 3, 4] rfl)
                        · have tc_54 := t_nle c_54
                          refine lv_iconst (v := 1) hx hb dX12_holdsAll_86 (by decide) ?_
                          refine lv_goto (tgt := 91) hx hb dX12_holdsAll_87 (by decide) ?_
                          refine lv_istore (lv' := [(4, .int 1), (3, .int j), (2, .int a), (1, .int dd), (0, .ref h)]) hx hb dX12_holdsAll_91 hl (by decide) rfl (fun ls hl => ?_)
                          refine lv_iload_n hx hb dX12_holdsAll_93 rfl (lv_at hl 2 rfl) ?_
                          refine lv_iconst (v := (-1)) hx hb dX12_holdsAll_94 (by decide) ?_
                          refine lv_icmp_eq (tgt := 140) hx hb dX12_holdsAll_95 (by decide) (fun c_73 => ?_) (fun c_73 => ?_)
                          · have tc_73 := t_eq c_73
                            refine lv_iload hx hb dX12_holdsAll_140 (lv_at hl 0 rfl) ?_
                            refine lv_if_eq (tgt := 147) hx hb dX12_holdsAll_142 (by decide) (fun c_74 => ?_) (fun c_74 => ?_)
                            · exact absurd c_74 (by decide)
                            · have tc_74 := t_neq c_74
                              refine lv_iload_n hx hb dX12_holdsAll_145 rfl (lv_at hl 1 rfl) ?_
                              refine lv_istore_n (lv' := [(2, .int j), (4, .int 1), (3, .int j), (1, .int dd), (0, .ref h)]) hx hb dX12_holdsAll_146 rfl hl (by decide) rfl (fun ls hl => ?_)
                              obtain ⟨x_75, ex_75⟩ : ∃ y : Int32, y = j + 1 := ⟨_, rfl⟩
                              refine lv_iinc (v := x_75) (lv' := [(3, .int x_75), (2, .int j), (4, .int 1), (1, .int dd), (0, .ref h)]) hx hb dX12_holdsAll_147 hl (k := 2) rfl (by rw [ex_75]; rfl) (by decide) rfl (fun ls hl => ?_)
                              first | have tx_75 := t_add ex_75 (by omega) (by omega) | skip
                              refine lv_goto (tgt := 36) hx hb dX12_holdsAll_150 (by decide) ?_
                              exact ih36 j x_75 (by omega) (by omega) (by omega) (by omega) _ _ hP hD hS ls (lv_sub hl [0, 1, 3, 4] rfl)
                          · have tc_73 := t_neq c_73
                            refine lv_aload_n hx hb dX12_holdsAll_98 rfl (lv_at hl 4 rfl) ?_
                            refine va_get (D := D) (ci := 11) (v := .ref a_rank) (C := RX12) (T := TX12) (N := 54) hx hb hts in_n_holdsAll_X12 hown hK.1 hP 0 rfl rfl 17 (by decide) lk3 (fun _ h9 => h9) rfl dX12_holdsAll_99 ?_
                            refine lv_iload_n hx hb dX12_holdsAll_102 rfl (lv_at hl 1 rfl) ?_
                            refine va_iald hx hb hK.1 hP 2 0 rfl rfl (t_in (by omega) (by omega)) dX12_holdsAll_103 ?_
                            refine lv_topi (fun y_76 ey_76 => ?_)
                            refine lv_aload_n hx hb dX12_holdsAll_104 rfl (lv_at hl 4 rfl) ?_
                            refine va_get (D := D) (ci := 11) (v := .ref a_rank) (C := RX12) (T := TX12) (N := 54) hx hb hts in_n_holdsAll_X12 hown hK.1 hP 0 rfl rfl 17 (by decide) lk3 (fun _ h9 => h9) rfl dX12_holdsAll_105 ?_
                            refine lv_iload_n hx hb dX12_holdsAll_108 rfl (lv_at hl 2 rfl) ?_
                            refine va_iald hx hb hK.1 hP 2 0 rfl rfl (t_in (by omega) (by omega)) dX12_holdsAll_109 ?_
                            refine lv_topi (fun y_77 ey_77 => ?_)
                            refine lv_icmp_ne (tgt := 140) hx hb dX12_holdsAll_110 (by decide) (fun c_78 => ?_) (fun c_78 => ?_)
                            · have tc_78 := t_neq c_78
                              refine lv_iload hx hb dX12_holdsAll_140 (lv_at hl 0 rfl) ?_
                              refine lv_if_eq (tgt := 147) hx hb dX12_holdsAll_142 (by decide) (fun c_79 => ?_) (fun c_79 => ?_)
                              · exact absurd c_79 (by decide)
                              · have tc_79 := t_neq c_79
                                refine lv_iload_n hx hb dX12_holdsAll_145 rfl (lv_at hl 1 rfl) ?_
                                refine lv_istore_n (lv' := [(2, .int j), (4, .int 1), (3, .int j), (1, .int dd), (0, .ref h)]) hx hb dX12_holdsAll_146 rfl hl (by decide) rfl (fun ls hl => ?_)
                                obtain ⟨x_80, ex_80⟩ : ∃ y : Int32, y = j + 1 := ⟨_, rfl⟩
                                refine lv_iinc (v := x_80) (lv' := [(3, .int x_80), (2, .int j), (4, .int 1), (1, .int dd), (0, .ref h)]) hx hb dX12_holdsAll_147 hl (k := 2) rfl (by rw [ex_80]; rfl) (by decide) rfl (fun ls hl => ?_)
                                first | have tx_80 := t_add ex_80 (by omega) (by omega) | skip
                                refine lv_goto (tgt := 36) hx hb dX12_holdsAll_150 (by decide) ?_
                                exact ih36 j x_80 (by omega) (by omega) (by omega) (by omega) _ _ hP hD hS ls (lv_sub hl [0, 1, 3, 4] rfl)
                            · have tc_78 := t_eq c_78
                              refine lv_aload_n hx hb dX12_holdsAll_113 rfl (lv_at hl 4 rfl) ?_
                              refine va_get (D := D) (ci := 11) (v := .ref a_feastDay) (C := RX12) (T := TX12) (N := 54) hx hb hts in_n_holdsAll_X12 hown hK.1 hP 0 rfl rfl 16 (by decide) lk4 (fun _ h9 => h9) rfl dX12_holdsAll_114 ?_
                              refine lv_iload_n hx hb dX12_holdsAll_117 rfl (lv_at hl 1 rfl) ?_
                              refine va_iald hx hb hK.1 hP 1 0 rfl rfl (t_in (by omega) (by omega)) dX12_holdsAll_118 ?_
                              refine lv_topi (fun y_81 ey_81 => ?_)
                              refine lv_iload_n hx hb dX12_holdsAll_119 rfl (lv_at hl 3 rfl) ?_
                              refine lv_icmp_ne (tgt := 137) hx hb dX12_holdsAll_120 (by decide) (fun c_82 => ?_) (fun c_82 => ?_)
                              · have tc_82 := t_neq c_82
                                refine lv_iconst (v := 0) hx hb dX12_holdsAll_137 (by decide) ?_
                                refine lv_istore (lv' := [(4, .int 0), (3, .int j), (2, .int a), (1, .int dd), (0, .ref h)]) hx hb dX12_holdsAll_138 hl (by decide) rfl (fun ls hl => ?_)
                                refine lv_iload hx hb dX12_holdsAll_140 (lv_at hl 0 rfl) ?_
                                refine lv_if_eq (tgt := 147) hx hb dX12_holdsAll_142 (by decide) (fun c_83 => ?_) (fun c_83 => ?_)
                                · have tc_83 := t_eq c_83
                                  obtain ⟨x_84, ex_84⟩ : ∃ y : Int32, y = j + 1 := ⟨_, rfl⟩
                                  refine lv_iinc (v := x_84) (lv' := [(3, .int x_84), (4, .int 0), (2, .int a), (1, .int dd), (0, .ref h)]) hx hb dX12_holdsAll_147 hl (k := 1) rfl (by rw [ex_84]; rfl) (by decide) rfl (fun ls hl => ?_)
                                  first | have tx_84 := t_add ex_84 (by omega) (by omega) | skip
                                  refine lv_goto (tgt := 36) hx hb dX12_holdsAll_150 (by decide) ?_
                                  exact ih36 a x_84 (by omega) (by omega) (by omega) (by omega) _ _ hP hD hS ls (lv_sub hl [0, 2, 3, 4] rfl)
                                · exact absurd c_83 (by decide)
                              · have tc_82 := t_eq c_82
                                refine lv_aload_n hx hb dX12_holdsAll_123 rfl (lv_at hl 4 rfl) ?_
                                refine va_get (D := D) (ci := 11) (v := .ref a_feastDay) (C := RX12) (T := TX12) (N := 54) hx hb hts in_n_holdsAll_X12 hown hK.1 hP 0 rfl rfl 16 (by decide) lk4 (fun _ h9 => h9) rfl dX12_holdsAll_124 ?_
                                refine lv_iload_n hx hb dX12_holdsAll_127 rfl (lv_at hl 2 rfl) ?_
                                refine va_iald hx hb hK.1 hP 1 0 rfl rfl (t_in (by omega) (by omega)) dX12_holdsAll_128 ?_
                                refine lv_topi (fun y_85 ey_85 => ?_)
                                refine lv_iload_n hx hb dX12_holdsAll_129 rfl (lv_at hl 3 rfl) ?_
                                refine lv_icmp_eq (tgt := 137) hx hb dX12_holdsAll_130 (by decide) (fun c_86 => ?_) (fun c_86 => ?_)
                                · have tc_86 := t_eq c_86
                                  refine lv_iconst (v := 0) hx hb dX12_holdsAll_137 (by decide) ?_
                                  refine lv_istore (lv' := [(4, .int 0), (3, .int j), (2, .int a), (1, .int dd), (0, .ref h)]) hx hb dX12_holdsAll_138 hl (by decide) rfl (fun ls hl => ?_)
                                  refine lv_iload hx hb dX12_holdsAll_140 (lv_at hl 0 rfl) ?_
                                  refine lv_if_eq (tgt := 147) hx hb dX12_holdsAll_142 (by decide) (fun c_87 => ?_) (fun c_87 => ?_)
                                  · have tc_87 := t_eq c_87
                                    obtain ⟨x_88, ex_88⟩ : ∃ y : Int32, y = j + 1 := ⟨_, rfl⟩
                                    refine lv_iinc (v := x_88) (lv' := [(3, .int x_88), (4, .int 0), (2, .int a), (1, .int dd), (0, .ref h)]) hx hb dX12_holdsAll_147 hl (k := 1) rfl (by rw [ex_88]; rfl) (by decide) rfl (fun ls hl => ?_)
                                    first | have tx_88 := t_add ex_88 (by omega) (by omega) | skip
                                    refine lv_goto (tgt := 36) hx hb dX12_holdsAll_150 (by decide) ?_
                                    exact ih36 a x_88 (by omega) (by omega) (by omega) (by omega) _ _ hP hD hS ls (lv_sub hl [0, 2, 3, 4] rfl)
                                  · exact absurd c_87 (by decide)
                                · have tc_86 := t_neq c_86
                                  refine lv_iconst (v := 1) hx hb dX12_holdsAll_133 (by decide) ?_
                                  refine lv_goto (tgt := 138) hx hb dX12_holdsAll_134 (by decide) ?_
                                  refine lv_istore (lv' := [(4, .int 1), (3, .int j), (2, .int a), (1, .int dd), (0, .ref h)]) hx hb dX12_holdsAll_138 hl (by decide) rfl (fun ls hl => ?_)
                                  refine lv_iload hx hb dX12_holdsAll_140 (lv_at hl 0 rfl) ?_
                                  refine lv_if_eq (tgt := 147) hx hb dX12_holdsAll_142 (by decide) (fun c_89 => ?_) (fun c_89 => ?_)
                                  · exact absurd c_89 (by decide)
                                  · have tc_89 := t_neq c_89
                                    refine lv_iload_n hx hb dX12_holdsAll_145 rfl (lv_at hl 1 rfl) ?_
                                    refine lv_istore_n (lv' := [(2, .int j), (4, .int 1), (3, .int j), (1, .int dd), (0, .ref h)]) hx hb dX12_holdsAll_146 rfl hl (by decide) rfl (fun ls hl => ?_)
                                    obtain ⟨x_90, ex_90⟩ : ∃ y : Int32, y = j + 1 := ⟨_, rfl⟩
                                    refine lv_iinc (v := x_90) (lv' := [(3, .int x_90), (2, .int j), (4, .int 1), (1, .int dd), (0, .ref h)]) hx hb dX12_holdsAll_147 hl (k := 2) rfl (by rw [ex_90]; rfl) (by decide) rfl (fun ls hl => ?_)
                                    first | have tx_90 := t_add ex_90 (by omega) (by omega) | skip
                                    refine lv_goto (tgt := 36) hx hb dX12_holdsAll_150 (by decide) ?_
                                    exact ih36 j x_90 (by omega) (by omega) (by omega) (by omega) _ _ hP hD hS ls (lv_sub hl [0, 1, 3, 4] rfl)
                    · have tc_32 := t_eq c_32
                      refine lv_aload_n hx hb dX12_holdsAll_53 rfl (lv_at hl 3 rfl) ?_
                      refine va_get (D := D) (ci := 11) (v := .ref a_feastDay) (C := RX12) (T := TX12) (N := 54) hx hb hts in_n_holdsAll_X12 hown hK.1 hP 0 rfl rfl 16 (by decide) lk4 (fun _ h9 => h9) rfl dX12_holdsAll_54 ?_
                      refine lv_iload_n hx hb dX12_holdsAll_57 rfl (lv_at hl 0 rfl) ?_
                      refine va_iald hx hb hK.1 hP 1 0 rfl rfl (t_in (by omega) (by omega)) dX12_holdsAll_58 ?_
                      refine lv_topi (fun y_91 ey_91 => ?_)
                      refine lv_iload_n hx hb dX12_holdsAll_59 rfl (lv_at hl 2 rfl) ?_
                      refine lv_icmp_eq (tgt := 66) hx hb dX12_holdsAll_60 (by decide) (fun c_92 => ?_) (fun c_92 => ?_)
                      · have tc_92 := t_eq c_92
                        refine lv_iload_n hx hb dX12_holdsAll_66 rfl (lv_at hl 1 rfl) ?_
                        refine lv_iconst (v := (-1)) hx hb dX12_holdsAll_67 (by decide) ?_
                        refine lv_icmp_eq (tgt := 86) hx hb dX12_holdsAll_68 (by decide) (fun c_93 => ?_) (fun c_93 => ?_)
                        · have tc_93 := t_eq c_93
                          refine lv_iconst (v := 1) hx hb dX12_holdsAll_86 (by decide) ?_
                          refine lv_goto (tgt := 91) hx hb dX12_holdsAll_87 (by decide) ?_
                          refine lv_istore (lv' := [(4, .int 1), (3, .int j), (2, .int a), (1, .int dd), (0, .ref h)]) hx hb dX12_holdsAll_91 hl (by decide) rfl (fun ls hl => ?_)
                          refine lv_iload_n hx hb dX12_holdsAll_93 rfl (lv_at hl 2 rfl) ?_
                          refine lv_iconst (v := (-1)) hx hb dX12_holdsAll_94 (by decide) ?_
                          refine lv_icmp_eq (tgt := 140) hx hb dX12_holdsAll_95 (by decide) (fun c_94 => ?_) (fun c_94 => ?_)
                          · have tc_94 := t_eq c_94
                            refine lv_iload hx hb dX12_holdsAll_140 (lv_at hl 0 rfl) ?_
                            refine lv_if_eq (tgt := 147) hx hb dX12_holdsAll_142 (by decide) (fun c_95 => ?_) (fun c_95 => ?_)
                            · exact absurd c_95 (by decide)
                            · have tc_95 := t_neq c_95
                              refine lv_iload_n hx hb dX12_holdsAll_145 rfl (lv_at hl 1 rfl) ?_
                              refine lv_istore_n (lv' := [(2, .int j), (4, .int 1), (3, .int j), (1, .int dd), (0, .ref h)]) hx hb dX12_holdsAll_146 rfl hl (by decide) rfl (fun ls hl => ?_)
                              obtain ⟨x_96, ex_96⟩ : ∃ y : Int32, y = j + 1 := ⟨_, rfl⟩
                              refine lv_iinc (v := x_96) (lv' := [(3, .int x_96), (2, .int j), (4, .int 1), (1, .int dd), (0, .ref h)]) hx hb dX12_holdsAll_147 hl (k := 2) rfl (by rw [ex_96]; rfl) (by decide) rfl (fun ls hl => ?_)
                              first | have tx_96 := t_add ex_96 (by omega) (by omega) | skip
                              refine lv_goto (tgt := 36) hx hb dX12_holdsAll_150 (by decide) ?_
                              exact ih36 j x_96 (by omega) (by omega) (by omega) (by omega) _ _ hP hD hS ls (lv_sub hl [0, 1, 3, 4] rfl)
                          · have tc_94 := t_neq c_94
                            refine lv_aload_n hx hb dX12_holdsAll_98 rfl (lv_at hl 4 rfl) ?_
                            refine va_get (D := D) (ci := 11) (v := .ref a_rank) (C := RX12) (T := TX12) (N := 54) hx hb hts in_n_holdsAll_X12 hown hK.1 hP 0 rfl rfl 17 (by decide) lk3 (fun _ h9 => h9) rfl dX12_holdsAll_99 ?_
                            refine lv_iload_n hx hb dX12_holdsAll_102 rfl (lv_at hl 1 rfl) ?_
                            refine va_iald hx hb hK.1 hP 2 0 rfl rfl (t_in (by omega) (by omega)) dX12_holdsAll_103 ?_
                            refine lv_topi (fun y_97 ey_97 => ?_)
                            refine lv_aload_n hx hb dX12_holdsAll_104 rfl (lv_at hl 4 rfl) ?_
                            refine va_get (D := D) (ci := 11) (v := .ref a_rank) (C := RX12) (T := TX12) (N := 54) hx hb hts in_n_holdsAll_X12 hown hK.1 hP 0 rfl rfl 17 (by decide) lk3 (fun _ h9 => h9) rfl dX12_holdsAll_105 ?_
                            refine lv_iload_n hx hb dX12_holdsAll_108 rfl (lv_at hl 2 rfl) ?_
                            refine va_iald hx hb hK.1 hP 2 0 rfl rfl (t_in (by omega) (by omega)) dX12_holdsAll_109 ?_
                            refine lv_topi (fun y_98 ey_98 => ?_)
                            refine lv_icmp_ne (tgt := 140) hx hb dX12_holdsAll_110 (by decide) (fun c_99 => ?_) (fun c_99 => ?_)
                            · have tc_99 := t_neq c_99
                              refine lv_iload hx hb dX12_holdsAll_140 (lv_at hl 0 rfl) ?_
                              refine lv_if_eq (tgt := 147) hx hb dX12_holdsAll_142 (by decide) (fun c_100 => ?_) (fun c_100 => ?_)
                              · exact absurd c_100 (by decide)
                              · have tc_100 := t_neq c_100
                                refine lv_iload_n hx hb dX12_holdsAll_145 rfl (lv_at hl 1 rfl) ?_
                                refine lv_istore_n (lv' := [(2, .int j), (4, .int 1), (3, .int j), (1, .int dd), (0, .ref h)]) hx hb dX12_holdsAll_146 rfl hl (by decide) rfl (fun ls hl => ?_)
                                obtain ⟨x_101, ex_101⟩ : ∃ y : Int32, y = j + 1 := ⟨_, rfl⟩
                                refine lv_iinc (v := x_101) (lv' := [(3, .int x_101), (2, .int j), (4, .int 1), (1, .int dd), (0, .ref h)]) hx hb dX12_holdsAll_147 hl (k := 2) rfl (by rw [ex_101]; rfl) (by decide) rfl (fun ls hl => ?_)
                                first | have tx_101 := t_add ex_101 (by omega) (by omega) | skip
                                refine lv_goto (tgt := 36) hx hb dX12_holdsAll_150 (by decide) ?_
                                exact ih36 j x_101 (by omega) (by omega) (by omega) (by omega) _ _ hP hD hS ls (lv_sub hl [0, 1, 3, 4] rfl)
                            · have tc_99 := t_eq c_99
                              refine lv_aload_n hx hb dX12_holdsAll_113 rfl (lv_at hl 4 rfl) ?_
                              refine va_get (D := D) (ci := 11) (v := .ref a_feastDay) (C := RX12) (T := TX12) (N := 54) hx hb hts in_n_holdsAll_X12 hown hK.1 hP 0 rfl rfl 16 (by decide) lk4 (fun _ h9 => h9) rfl dX12_holdsAll_114 ?_
                              refine lv_iload_n hx hb dX12_holdsAll_117 rfl (lv_at hl 1 rfl) ?_
                              refine va_iald hx hb hK.1 hP 1 0 rfl rfl (t_in (by omega) (by omega)) dX12_holdsAll_118 ?_
                              refine lv_topi (fun y_102 ey_102 => ?_)
                              refine lv_iload_n hx hb dX12_holdsAll_119 rfl (lv_at hl 3 rfl) ?_
                              refine lv_icmp_ne (tgt := 137) hx hb dX12_holdsAll_120 (by decide) (fun c_103 => ?_) (fun c_103 => ?_)
                              · have tc_103 := t_neq c_103
                                refine lv_iconst (v := 0) hx hb dX12_holdsAll_137 (by decide) ?_
                                refine lv_istore (lv' := [(4, .int 0), (3, .int j), (2, .int a), (1, .int dd), (0, .ref h)]) hx hb dX12_holdsAll_138 hl (by decide) rfl (fun ls hl => ?_)
                                refine lv_iload hx hb dX12_holdsAll_140 (lv_at hl 0 rfl) ?_
                                refine lv_if_eq (tgt := 147) hx hb dX12_holdsAll_142 (by decide) (fun c_104 => ?_) (fun c_104 => ?_)
                                · have tc_104 := t_eq c_104
                                  obtain ⟨x_105, ex_105⟩ : ∃ y : Int32, y = j + 1 := ⟨_, rfl⟩
                                  refine lv_iinc (v := x_105) (lv' := [(3, .int x_105), (4, .int 0), (2, .int a), (1, .int dd), (0, .ref h)]) hx hb dX12_holdsAll_147 hl (k := 1) rfl (by rw [ex_105]; rfl) (by decide) rfl (fun ls hl => ?_)
                                  first | have tx_105 := t_add ex_105 (by omega) (by omega) | skip
                                  refine lv_goto (tgt := 36) hx hb dX12_holdsAll_150 (by decide) ?_
                                  exact ih36 a x_105 (by omega) (by omega) (by omega) (by omega) _ _ hP hD hS ls (lv_sub hl [0, 2, 3, 4] rfl)
                                · exact absurd c_104 (by decide)
                              · have tc_103 := t_eq c_103
                                refine lv_aload_n hx hb dX12_holdsAll_123 rfl (lv_at hl 4 rfl) ?_
                                refine va_get (D := D) (ci := 11) (v := .ref a_feastDay) (C := RX12) (T := TX12) (N := 54) hx hb hts in_n_holdsAll_X12 hown hK.1 hP 0 rfl rfl 16 (by decide) lk4 (fun _ h9 => h9) rfl dX12_holdsAll_124 ?_
                                refine lv_iload_n hx hb dX12_holdsAll_127 rfl (lv_at hl 2 rfl) ?_
                                refine va_iald hx hb hK.1 hP 1 0 rfl rfl (t_in (by omega) (by omega)) dX12_holdsAll_128 ?_
                                refine lv_topi (fun y_106 ey_106 => ?_)
                                refine lv_iload_n hx hb dX12_holdsAll_129 rfl (lv_at hl 3 rfl) ?_
                                refine lv_icmp_eq (tgt := 137) hx hb dX12_holdsAll_130 (by decide) (fun c_107 => ?_) (fun c_107 => ?_)
                                · have tc_107 := t_eq c_107
                                  refine lv_iconst (v := 0) hx hb dX12_holdsAll_137 (by decide) ?_
                                  refine lv_istore (lv' := [(4, .int 0), (3, .int j), (2, .int a), (1, .int dd), (0, .ref h)]) hx hb dX12_holdsAll_138 hl (by decide) rfl (fun ls hl => ?_)
                                  refine lv_iload hx hb dX12_holdsAll_140 (lv_at hl 0 rfl) ?_
                                  refine lv_if_eq (tgt := 147) hx hb dX12_holdsAll_142 (by decide) (fun c_108 => ?_) (fun c_108 => ?_)
                                  · have tc_108 := t_eq c_108
                                    obtain ⟨x_109, ex_109⟩ : ∃ y : Int32, y = j + 1 := ⟨_, rfl⟩
                                    refine lv_iinc (v := x_109) (lv' := [(3, .int x_109), (4, .int 0), (2, .int a), (1, .int dd), (0, .ref h)]) hx hb dX12_holdsAll_147 hl (k := 1) rfl (by rw [ex_109]; rfl) (by decide) rfl (fun ls hl => ?_)
                                    first | have tx_109 := t_add ex_109 (by omega) (by omega) | skip
                                    refine lv_goto (tgt := 36) hx hb dX12_holdsAll_150 (by decide) ?_
                                    exact ih36 a x_109 (by omega) (by omega) (by omega) (by omega) _ _ hP hD hS ls (lv_sub hl [0, 2, 3, 4] rfl)
                                  · exact absurd c_108 (by decide)
                                · have tc_107 := t_neq c_107
                                  refine lv_iconst (v := 1) hx hb dX12_holdsAll_133 (by decide) ?_
                                  refine lv_goto (tgt := 138) hx hb dX12_holdsAll_134 (by decide) ?_
                                  refine lv_istore (lv' := [(4, .int 1), (3, .int j), (2, .int a), (1, .int dd), (0, .ref h)]) hx hb dX12_holdsAll_138 hl (by decide) rfl (fun ls hl => ?_)
                                  refine lv_iload hx hb dX12_holdsAll_140 (lv_at hl 0 rfl) ?_
                                  refine lv_if_eq (tgt := 147) hx hb dX12_holdsAll_142 (by decide) (fun c_110 => ?_) (fun c_110 => ?_)
                                  · exact absurd c_110 (by decide)
                                  · have tc_110 := t_neq c_110
                                    refine lv_iload_n hx hb dX12_holdsAll_145 rfl (lv_at hl 1 rfl) ?_
                                    refine lv_istore_n (lv' := [(2, .int j), (4, .int 1), (3, .int j), (1, .int dd), (0, .ref h)]) hx hb dX12_holdsAll_146 rfl hl (by decide) rfl (fun ls hl => ?_)
                                    obtain ⟨x_111, ex_111⟩ : ∃ y : Int32, y = j + 1 := ⟨_, rfl⟩
                                    refine lv_iinc (v := x_111) (lv' := [(3, .int x_111), (2, .int j), (4, .int 1), (1, .int dd), (0, .ref h)]) hx hb dX12_holdsAll_147 hl (k := 2) rfl (by rw [ex_111]; rfl) (by decide) rfl (fun ls hl => ?_)
                                    first | have tx_111 := t_add ex_111 (by omega) (by omega) | skip
                                    refine lv_goto (tgt := 36) hx hb dX12_holdsAll_150 (by decide) ?_
                                    exact ih36 j x_111 (by omega) (by omega) (by omega) (by omega) _ _ hP hD hS ls (lv_sub hl [0, 1, 3, 4] rfl)
                        · have tc_93 := t_neq c_93
                          refine lv_aload_n hx hb dX12_holdsAll_71 rfl (lv_at hl 3 rfl) ?_
                          refine va_get (D := D) (ci := 11) (v := .ref a_rank) (C := RX12) (T := TX12) (N := 54) hx hb hts in_n_holdsAll_X12 hown hK.1 hP 0 rfl rfl 17 (by decide) lk3 (fun _ h9 => h9) rfl dX12_holdsAll_72 ?_
                          refine lv_iload_n hx hb dX12_holdsAll_75 rfl (lv_at hl 0 rfl) ?_
                          refine va_iald hx hb hK.1 hP 2 0 rfl rfl (t_in (by omega) (by omega)) dX12_holdsAll_76 ?_
                          refine lv_topi (fun y_112 ey_112 => ?_)
                          refine lv_aload_n hx hb dX12_holdsAll_77 rfl (lv_at hl 3 rfl) ?_
                          refine va_get (D := D) (ci := 11) (v := .ref a_rank) (C := RX12) (T := TX12) (N := 54) hx hb hts in_n_holdsAll_X12 hown hK.1 hP 0 rfl rfl 17 (by decide) lk3 (fun _ h9 => h9) rfl dX12_holdsAll_78 ?_
                          refine lv_iload_n hx hb dX12_holdsAll_81 rfl (lv_at hl 1 rfl) ?_
                          refine va_iald hx hb hK.1 hP 2 0 rfl rfl (t_in (by omega) (by omega)) dX12_holdsAll_82 ?_
                          refine lv_topi (fun y_113 ey_113 => ?_)
                          refine lv_icmp_le (tgt := 90) hx hb dX12_holdsAll_83 (by decide) (fun c_114 => ?_) (fun c_114 => ?_)
                          · have tc_114 := t_le c_114
                            refine lv_iconst (v := 0) hx hb dX12_holdsAll_90 (by decide) ?_
                            refine lv_istore (lv' := [(4, .int 0), (3, .int j), (2, .int a), (1, .int dd), (0, .ref h)]) hx hb dX12_holdsAll_91 hl (by decide) rfl (fun ls hl => ?_)
                            refine lv_iload_n hx hb dX12_holdsAll_93 rfl (lv_at hl 2 rfl) ?_
                            refine lv_iconst (v := (-1)) hx hb dX12_holdsAll_94 (by decide) ?_
                            refine lv_icmp_eq (tgt := 140) hx hb dX12_holdsAll_95 (by decide) (fun c_115 => ?_) (fun c_115 => ?_)
                            · have tc_115 := t_eq c_115
                              refine lv_iload hx hb dX12_holdsAll_140 (lv_at hl 0 rfl) ?_
                              refine lv_if_eq (tgt := 147) hx hb dX12_holdsAll_142 (by decide) (fun c_116 => ?_) (fun c_116 => ?_)
                              · have tc_116 := t_eq c_116
                                obtain ⟨x_117, ex_117⟩ : ∃ y : Int32, y = j + 1 := ⟨_, rfl⟩
                                refine lv_iinc (v := x_117) (lv' := [(3, .int x_117), (4, .int 0), (2, .int a), (1, .int dd), (0, .ref h)]) hx hb dX12_holdsAll_147 hl (k := 1) rfl (by rw [ex_117]; rfl) (by decide) rfl (fun ls hl => ?_)
                                first | have tx_117 := t_add ex_117 (by omega) (by omega) | skip
                                refine lv_goto (tgt := 36) hx hb dX12_holdsAll_150 (by decide) ?_
                                exact ih36 a x_117 (by omega) (by omega) (by omega) (by omega) _ _ hP hD hS ls (lv_sub hl [0, 2, 3, 4] rfl)
                              · exact absurd c_116 (by decide)
                            · have tc_115 := t_neq c_115
                              refine lv_aload_n hx hb dX12_holdsAll_98 rfl (lv_at hl 4 rfl) ?_
                              refine va_get (D := D) (ci := 11) (v := .ref a_rank) (C := RX12) (T := TX12) (N := 54) hx hb hts in_n_holdsAll_X12 hown hK.1 hP 0 rfl rfl 17 (by decide) lk3 (fun _ h9 => h9) rfl dX12_holdsAll_99 ?_
                              refine lv_iload_n hx hb dX12_holdsAll_102 rfl (lv_at hl 1 rfl) ?_
                              refine va_iald hx hb hK.1 hP 2 0 rfl rfl (t_in (by omega) (by omega)) dX12_holdsAll_103 ?_
                              refine lv_topi (fun y_118 ey_118 => ?_)
                              refine lv_aload_n hx hb dX12_holdsAll_104 rfl (lv_at hl 4 rfl) ?_
                              refine va_get (D := D) (ci := 11) (v := .ref a_rank) (C := RX12) (T := TX12) (N := 54) hx hb hts in_n_holdsAll_X12 hown hK.1 hP 0 rfl rfl 17 (by decide) lk3 (fun _ h9 => h9) rfl dX12_holdsAll_105 ?_
                              refine lv_iload_n hx hb dX12_holdsAll_108 rfl (lv_at hl 2 rfl) ?_
                              refine va_iald hx hb hK.1 hP 2 0 rfl rfl (t_in (by omega) (by omega)) dX12_holdsAll_109 ?_
                              refine lv_topi (fun y_119 ey_119 => ?_)
                              refine lv_icmp_ne (tgt := 140) hx hb dX12_holdsAll_110 (by decide) (fun c_120 => ?_) (fun c_120 => ?_)
                              · have tc_120 := t_neq c_120
                                refine lv_iload hx hb dX12_holdsAll_140 (lv_at hl 0 rfl) ?_
                                refine lv_if_eq (tgt := 147) hx hb dX12_holdsAll_142 (by decide) (fun c_121 => ?_) (fun c_121 => ?_)
                                · have tc_121 := t_eq c_121
                                  obtain ⟨x_122, ex_122⟩ : ∃ y : Int32, y = j + 1 := ⟨_, rfl⟩
                                  refine lv_iinc (v := x_122) (lv' := [(3, .int x_122), (4, .int 0), (2, .int a), (1, .int dd), (0, .ref h)]) hx hb dX12_holdsAll_147 hl (k := 1) rfl (by rw [ex_122]; rfl) (by decide) rfl (fun ls hl => ?_)
                                  first | have tx_122 := t_add ex_122 (by omega) (by omega) | skip
                                  refine lv_goto (tgt := 36) hx hb dX12_holdsAll_150 (by decide) ?_
                                  exact ih36 a x_122 (by omega) (by omega) (by omega) (by omega) _ _ hP hD hS ls (lv_sub hl [0, 2, 3, 4] rfl)
                                · exact absurd c_121 (by decide)
                              · have tc_120 := t_eq c_120
                                refine lv_aload_n hx hb dX12_holdsAll_113 rfl (lv_at hl 4 rfl) ?_
                                refine va_get (D := D) (ci := 11) (v := .ref a_feastDay) (C := RX12) (T := TX12) (N := 54) hx hb hts in_n_holdsAll_X12 hown hK.1 hP 0 rfl rfl 16 (by decide) lk4 (fun _ h9 => h9) rfl dX12_holdsAll_114 ?_
                                refine lv_iload_n hx hb dX12_holdsAll_117 rfl (lv_at hl 1 rfl) ?_
                                refine va_iald hx hb hK.1 hP 1 0 rfl rfl (t_in (by omega) (by omega)) dX12_holdsAll_118 ?_
                                refine lv_topi (fun y_123 ey_123 => ?_)
                                refine lv_iload_n hx hb dX12_holdsAll_119 rfl (lv_at hl 3 rfl) ?_
                                refine lv_icmp_ne (tgt := 137) hx hb dX12_holdsAll_120 (by decide) (fun c_124 => ?_) (fun c_124 => ?_)
                                · have tc_124 := t_neq c_124
                                  refine lv_iconst (v := 0) hx hb dX12_holdsAll_137 (by decide) ?_
                                  refine lv_istore (lv' := [(4, .int 0), (3, .int j), (2, .int a), (1, .int dd), (0, .ref h)]) hx hb dX12_holdsAll_138 hl (by decide) rfl (fun ls hl => ?_)
                                  refine lv_iload hx hb dX12_holdsAll_140 (lv_at hl 0 rfl) ?_
                                  refine lv_if_eq (tgt := 147) hx hb dX12_holdsAll_142 (by decide) (fun c_125 => ?_) (fun c_125 => ?_)
                                  · have tc_125 := t_eq c_125
                                    obtain ⟨x_126, ex_126⟩ : ∃ y : Int32, y = j + 1 := ⟨_, rfl⟩
                                    refine lv_iinc (v := x_126) (lv' := [(3, .int x_126), (4, .int 0), (2, .int a), (1, .int dd), (0, .ref h)]) hx hb dX12_holdsAll_147 hl (k := 1) rfl (by rw [ex_126]; rfl) (by decide) rfl (fun ls hl => ?_)
                                    first | have tx_126 := t_add ex_126 (by omega) (by omega) | skip
                                    refine lv_goto (tgt := 36) hx hb dX12_holdsAll_150 (by decide) ?_
                                    exact ih36 a x_126 (by omega) (by omega) (by omega) (by omega) _ _ hP hD hS ls (lv_sub hl [0, 2, 3, 4] rfl)
                                  · exact absurd c_125 (by decide)
                                · have tc_124 := t_eq c_124
                                  refine lv_aload_n hx hb dX12_holdsAll_123 rfl (lv_at hl 4 rfl) ?_
                                  refine va_get (D := D) (ci := 11) (v := .ref a_feastDay) (C := RX12) (T := TX12) (N := 54) hx hb hts in_n_holdsAll_X12 hown hK.1 hP 0 rfl rfl 16 (by decide) lk4 (fun _ h9 => h9) rfl dX12_holdsAll_124 ?_
                                  refine lv_iload_n hx hb dX12_holdsAll_127 rfl (lv_at hl 2 rfl) ?_
                                  refine va_iald hx hb hK.1 hP 1 0 rfl rfl (t_in (by omega) (by omega)) dX12_holdsAll_128 ?_
                                  refine lv_topi (fun y_127 ey_127 => ?_)
                                  refine lv_iload_n hx hb dX12_holdsAll_129 rfl (lv_at hl 3 rfl) ?_
                                  refine lv_icmp_eq (tgt := 137) hx hb dX12_holdsAll_130 (by decide) (fun c_128 => ?_) (fun c_128 => ?_)
                                  · have tc_128 := t_eq c_128
                                    refine lv_iconst (v := 0) hx hb dX12_holdsAll_137 (by decide) ?_
                                    refine lv_istore (lv' := [(4, .int 0), (3, .int j), (2, .int a), (1, .int dd), (0, .ref h)]) hx hb dX12_holdsAll_138 hl (by decide) rfl (fun ls hl => ?_)
                                    refine lv_iload hx hb dX12_holdsAll_140 (lv_at hl 0 rfl) ?_
                                    refine lv_if_eq (tgt := 147) hx hb dX12_holdsAll_142 (by decide) (fun c_129 => ?_) (fun c_129 => ?_)
                                    · have tc_129 := t_eq c_129
                                      obtain ⟨x_130, ex_130⟩ : ∃ y : Int32, y = j + 1 := ⟨_, rfl⟩
                                      refine lv_iinc (v := x_130) (lv' := [(3, .int x_130), (4, .int 0), (2, .int a), (1, .int dd), (0, .ref h)]) hx hb dX12_holdsAll_147 hl (k := 1) rfl (by rw [ex_130]; rfl) (by decide) rfl (fun ls hl => ?_)
                                      first | have tx_130 := t_add ex_130 (by omega) (by omega) | skip
                                      refine lv_goto (tgt := 36) hx hb dX12_holdsAll_150 (by decide) ?_
                                      exact ih36 a x_130 (by omega) (by omega) (by omega) (by omega) _ _ hP hD hS ls (lv_sub hl [0, 2, 3, 4] rfl)
                                    · exact absurd c_129 (by decide)
                                  · have tc_128 := t_neq c_128
                                    refine lv_iconst (v := 1) hx hb dX12_holdsAll_133 (by decide) ?_
                                    refine lv_goto (tgt := 138) hx hb dX12_holdsAll_134 (by decide) ?_
                                    refine lv_istore (lv' := [(4, .int 1), (3, .int j), (2, .int a), (1, .int dd), (0, .ref h)]) hx hb dX12_holdsAll_138 hl (by decide) rfl (fun ls hl => ?_)
                                    refine lv_iload hx hb dX12_holdsAll_140 (lv_at hl 0 rfl) ?_
                                    refine lv_if_eq (tgt := 147) hx hb dX12_holdsAll_142 (by decide) (fun c_131 => ?_) (fun c_131 => ?_)
                                    · exact absurd c_131 (by decide)
                                    · have tc_131 := t_neq c_131
                                      refine lv_iload_n hx hb dX12_holdsAll_145 rfl (lv_at hl 1 rfl) ?_
                                      refine lv_istore_n (lv' := [(2, .int j), (4, .int 1), (3, .int j), (1, .int dd), (0, .ref h)]) hx hb dX12_holdsAll_146 rfl hl (by decide) rfl (fun ls hl => ?_)
                                      obtain ⟨x_132, ex_132⟩ : ∃ y : Int32, y = j + 1 := ⟨_, rfl⟩
                                      refine lv_iinc (v := x_132) (lv' := [(3, .int x_132), (2, .int j), (4, .int 1), (1, .int dd), (0, .ref h)]) hx hb dX12_holdsAll_147 hl (k := 2) rfl (by rw [ex_132]; rfl) (by decide) rfl (fun ls hl => ?_)
                                      first | have tx_132 := t_add ex_132 (by omega) (by omega) | skip
                                      refine lv_goto (tgt := 36) hx hb dX12_holdsAll_150 (by decide) ?_
                                      exact ih36 j x_132 (by omega) (by omega) (by omega) (by omega) _ _ hP hD hS ls (lv_sub hl [0, 1, 3, 4] rfl)
                          · have tc_114 := t_nle c_114
                            refine lv_iconst (v := 1) hx hb dX12_holdsAll_86 (by decide) ?_
                            refine lv_goto (tgt := 91) hx hb dX12_holdsAll_87 (by decide) ?_
                            refine lv_istore (lv' := [(4, .int 1), (3, .int j), (2, .int a), (1, .int dd), (0, .ref h)]) hx hb dX12_holdsAll_91 hl (by decide) rfl (fun ls hl => ?_)
                            refine lv_iload_n hx hb dX12_holdsAll_93 rfl (lv_at hl 2 rfl) ?_
                            refine lv_iconst (v := (-1)) hx hb dX12_holdsAll_94 (by decide) ?_
                            refine lv_icmp_eq (tgt := 140) hx hb dX12_holdsAll_95 (by decide) (fun c_133 => ?_) (fun c_133 => ?_)
                            · have tc_133 := t_eq c_133
                              refine lv_iload hx hb dX12_holdsAll_140 (lv_at hl 0 rfl) ?_
                              refine lv_if_eq (tgt := 147) hx hb dX12_holdsAll_142 (by decide) (fun c_134 => ?_) (fun c_134 => ?_)
                              · exact absurd c_134 (by decide)
                              · have tc_134 := t_neq c_134
                                refine lv_iload_n hx hb dX12_holdsAll_145 rfl (lv_at hl 1 rfl) ?_
                                refine lv_istore_n (lv' := [(2, .int j), (4, .int 1), (3, .int j), (1, .int dd), (0, .ref h)]) hx hb dX12_holdsAll_146 rfl hl (by decide) rfl (fun ls hl => ?_)
                                obtain ⟨x_135, ex_135⟩ : ∃ y : Int32, y = j + 1 := ⟨_, rfl⟩
                                refine lv_iinc (v := x_135) (lv' := [(3, .int x_135), (2, .int j), (4, .int 1), (1, .int dd), (0, .ref h)]) hx hb dX12_holdsAll_147 hl (k := 2) rfl (by rw [ex_135]; rfl) (by decide) rfl (fun ls hl => ?_)
                                first | have tx_135 := t_add ex_135 (by omega) (by omega) | skip
                                refine lv_goto (tgt := 36) hx hb dX12_holdsAll_150 (by decide) ?_
                                exact ih36 j x_135 (by omega) (by omega) (by omega) (by omega) _ _ hP hD hS ls (lv_sub hl [0, 1, 3, 4] rfl)
                            · have tc_133 := t_neq c_133
                              refine lv_aload_n hx hb dX12_holdsAll_98 rfl (lv_at hl 4 rfl) ?_
                              refine va_get (D := D) (ci := 11) (v := .ref a_rank) (C := RX12) (T := TX12) (N := 54) hx hb hts in_n_holdsAll_X12 hown hK.1 hP 0 rfl rfl 17 (by decide) lk3 (fun _ h9 => h9) rfl dX12_holdsAll_99 ?_
                              refine lv_iload_n hx hb dX12_holdsAll_102 rfl (lv_at hl 1 rfl) ?_
                              refine va_iald hx hb hK.1 hP 2 0 rfl rfl (t_in (by omega) (by omega)) dX12_holdsAll_103 ?_
                              refine lv_topi (fun y_136 ey_136 => ?_)
                              refine lv_aload_n hx hb dX12_holdsAll_104 rfl (lv_at hl 4 rfl) ?_
                              refine va_get (D := D) (ci := 11) (v := .ref a_rank) (C := RX12) (T := TX12) (N := 54) hx hb hts in_n_holdsAll_X12 hown hK.1 hP 0 rfl rfl 17 (by decide) lk3 (fun _ h9 => h9) rfl dX12_holdsAll_105 ?_
                              refine lv_iload_n hx hb dX12_holdsAll_108 rfl (lv_at hl 2 rfl) ?_
                              refine va_iald hx hb hK.1 hP 2 0 rfl rfl (t_in (by omega) (by omega)) dX12_holdsAll_109 ?_
                              refine lv_topi (fun y_137 ey_137 => ?_)
                              refine lv_icmp_ne (tgt := 140) hx hb dX12_holdsAll_110 (by decide) (fun c_138 => ?_) (fun c_138 => ?_)
                              · have tc_138 := t_neq c_138
                                refine lv_iload hx hb dX12_holdsAll_140 (lv_at hl 0 rfl) ?_
                                refine lv_if_eq (tgt := 147) hx hb dX12_holdsAll_142 (by decide) (fun c_139 => ?_) (fun c_139 => ?_)
                                · exact absurd c_139 (by decide)
                                · have tc_139 := t_neq c_139
                                  refine lv_iload_n hx hb dX12_holdsAll_145 rfl (lv_at hl 1 rfl) ?_
                                  refine lv_istore_n (lv' := [(2, .int j), (4, .int 1), (3, .int j), (1, .int dd), (0, .ref h)]) hx hb dX12_holdsAll_146 rfl hl (by decide) rfl (fun ls hl => ?_)
                                  obtain ⟨x_140, ex_140⟩ : ∃ y : Int32, y = j + 1 := ⟨_, rfl⟩
                                  refine lv_iinc (v := x_140) (lv' := [(3, .int x_140), (2, .int j), (4, .int 1), (1, .int dd), (0, .ref h)]) hx hb dX12_holdsAll_147 hl (k := 2) rfl (by rw [ex_140]; rfl) (by decide) rfl (fun ls hl => ?_)
                                  first | have tx_140 := t_add ex_140 (by omega) (by omega) | skip
                                  refine lv_goto (tgt := 36) hx hb dX12_holdsAll_150 (by decide) ?_
                                  exact ih36 j x_140 (by omega) (by omega) (by omega) (by omega) _ _ hP hD hS ls (lv_sub hl [0, 1, 3, 4] rfl)
                              · have tc_138 := t_eq c_138
                                refine lv_aload_n hx hb dX12_holdsAll_113 rfl (lv_at hl 4 rfl) ?_
                                refine va_get (D := D) (ci := 11) (v := .ref a_feastDay) (C := RX12) (T := TX12) (N := 54) hx hb hts in_n_holdsAll_X12 hown hK.1 hP 0 rfl rfl 16 (by decide) lk4 (fun _ h9 => h9) rfl dX12_holdsAll_114 ?_
                                refine lv_iload_n hx hb dX12_holdsAll_117 rfl (lv_at hl 1 rfl) ?_
                                refine va_iald hx hb hK.1 hP 1 0 rfl rfl (t_in (by omega) (by omega)) dX12_holdsAll_118 ?_
                                refine lv_topi (fun y_141 ey_141 => ?_)
                                refine lv_iload_n hx hb dX12_holdsAll_119 rfl (lv_at hl 3 rfl) ?_
                                refine lv_icmp_ne (tgt := 137) hx hb dX12_holdsAll_120 (by decide) (fun c_142 => ?_) (fun c_142 => ?_)
                                · have tc_142 := t_neq c_142
                                  refine lv_iconst (v := 0) hx hb dX12_holdsAll_137 (by decide) ?_
                                  refine lv_istore (lv' := [(4, .int 0), (3, .int j), (2, .int a), (1, .int dd), (0, .ref h)]) hx hb dX12_holdsAll_138 hl (by decide) rfl (fun ls hl => ?_)
                                  refine lv_iload hx hb dX12_holdsAll_140 (lv_at hl 0 rfl) ?_
                                  refine lv_if_eq (tgt := 147) hx hb dX12_holdsAll_142 (by decide) (fun c_143 => ?_) (fun c_143 => ?_)
                                  · have tc_143 := t_eq c_143
                                    obtain ⟨x_144, ex_144⟩ : ∃ y : Int32, y = j + 1 := ⟨_, rfl⟩
                                    refine lv_iinc (v := x_144) (lv' := [(3, .int x_144), (4, .int 0), (2, .int a), (1, .int dd), (0, .ref h)]) hx hb dX12_holdsAll_147 hl (k := 1) rfl (by rw [ex_144]; rfl) (by decide) rfl (fun ls hl => ?_)
                                    first | have tx_144 := t_add ex_144 (by omega) (by omega) | skip
                                    refine lv_goto (tgt := 36) hx hb dX12_holdsAll_150 (by decide) ?_
                                    exact ih36 a x_144 (by omega) (by omega) (by omega) (by omega) _ _ hP hD hS ls (lv_sub hl [0, 2, 3, 4] rfl)
                                  · exact absurd c_143 (by decide)
                                · have tc_142 := t_eq c_142
                                  refine lv_aload_n hx hb dX12_holdsAll_123 rfl (lv_at hl 4 rfl) ?_
                                  refine va_get (D := D) (ci := 11) (v := .ref a_feastDay) (C := RX12) (T := TX12) (N := 54) hx hb hts in_n_holdsAll_X12 hown hK.1 hP 0 rfl rfl 16 (by decide) lk4 (fun _ h9 => h9) rfl dX12_holdsAll_124 ?_
                                  refine lv_iload_n hx hb dX12_holdsAll_127 rfl (lv_at hl 2 rfl) ?_
                                  refine va_iald hx hb hK.1 hP 1 0 rfl rfl (t_in (by omega) (by omega)) dX12_holdsAll_128 ?_
                                  refine lv_topi (fun y_145 ey_145 => ?_)
                                  refine lv_iload_n hx hb dX12_holdsAll_129 rfl (lv_at hl 3 rfl) ?_
                                  refine lv_icmp_eq (tgt := 137) hx hb dX12_holdsAll_130 (by decide) (fun c_146 => ?_) (fun c_146 => ?_)
                                  · have tc_146 := t_eq c_146
                                    refine lv_iconst (v := 0) hx hb dX12_holdsAll_137 (by decide) ?_
                                    refine lv_istore (lv' := [(4, .int 0), (3, .int j), (2, .int a), (1, .int dd), (0, .ref h)]) hx hb dX12_holdsAll_138 hl (by decide) rfl (fun ls hl => ?_)
                                    refine lv_iload hx hb dX12_holdsAll_140 (lv_at hl 0 rfl) ?_
                                    refine lv_if_eq (tgt := 147) hx hb dX12_holdsAll_142 (by decide) (fun c_147 => ?_) (fun c_147 => ?_)
                                    · have tc_147 := t_eq c_147
                                      obtain ⟨x_148, ex_148⟩ : ∃ y : Int32, y = j + 1 := ⟨_, rfl⟩
                                      refine lv_iinc (v := x_148) (lv' := [(3, .int x_148), (4, .int 0), (2, .int a), (1, .int dd), (0, .ref h)]) hx hb dX12_holdsAll_147 hl (k := 1) rfl (by rw [ex_148]; rfl) (by decide) rfl (fun ls hl => ?_)
                                      first | have tx_148 := t_add ex_148 (by omega) (by omega) | skip
                                      refine lv_goto (tgt := 36) hx hb dX12_holdsAll_150 (by decide) ?_
                                      exact ih36 a x_148 (by omega) (by omega) (by omega) (by omega) _ _ hP hD hS ls (lv_sub hl [0, 2, 3, 4] rfl)
                                    · exact absurd c_147 (by decide)
                                  · have tc_146 := t_neq c_146
                                    refine lv_iconst (v := 1) hx hb dX12_holdsAll_133 (by decide) ?_
                                    refine lv_goto (tgt := 138) hx hb dX12_holdsAll_134 (by decide) ?_
                                    refine lv_istore (lv' := [(4, .int 1), (3, .int j), (2, .int a), (1, .int dd), (0, .ref h)]) hx hb dX12_holdsAll_138 hl (by decide) rfl (fun ls hl => ?_)
                                    refine lv_iload hx hb dX12_holdsAll_140 (lv_at hl 0 rfl) ?_
                                    refine lv_if_eq (tgt := 147) hx hb dX12_holdsAll_142 (by decide) (fun c_149 => ?_) (fun c_149 => ?_)
                                    · exact absurd c_149 (by decide)
                                    · have tc_149 := t_neq c_149
                                      refine lv_iload_n hx hb dX12_holdsAll_145 rfl (lv_at hl 1 rfl) ?_
                                      refine lv_istore_n (lv' := [(2, .int j), (4, .int 1), (3, .int j), (1, .int dd), (0, .ref h)]) hx hb dX12_holdsAll_146 rfl hl (by decide) rfl (fun ls hl => ?_)
                                      obtain ⟨x_150, ex_150⟩ : ∃ y : Int32, y = j + 1 := ⟨_, rfl⟩
                                      refine lv_iinc (v := x_150) (lv' := [(3, .int x_150), (2, .int j), (4, .int 1), (1, .int dd), (0, .ref h)]) hx hb dX12_holdsAll_147 hl (k := 2) rfl (by rw [ex_150]; rfl) (by decide) rfl (fun ls hl => ?_)
                                      first | have tx_150 := t_add ex_150 (by omega) (by omega) | skip
                                      refine lv_goto (tgt := 36) hx hb dX12_holdsAll_150 (by decide) ?_
                                      exact ih36 j x_150 (by omega) (by omega) (by omega) (by omega) _ _ hP hD hS ls (lv_sub hl [0, 1, 3, 4] rfl)
                      · have tc_92 := t_neq c_92
                        refine lv_goto (tgt := 147) hx hb dX12_holdsAll_63 (by decide) ?_
                        obtain ⟨x_151, ex_151⟩ : ∃ y : Int32, y = j + 1 := ⟨_, rfl⟩
                        refine lv_iinc (v := x_151) (lv' := [(3, .int x_151), (2, .int a), (1, .int dd), (0, .ref h)]) hx hb dX12_holdsAll_147 hl (k := 0) rfl (by rw [ex_151]; rfl) (by decide) rfl (fun ls hl => ?_)
                        first | have tx_151 := t_add ex_151 (by omega) (by omega) | skip
                        refine lv_goto (tgt := 36) hx hb dX12_holdsAll_150 (by decide) ?_
                        exact ih36 a x_151 (by omega) (by omega) (by omega) (by omega) _ _ hP hD hS ls (lv_sub hl [0, 1, 2, 3] rfl)
              exact loop36 ((v_feasts.toInt - (0 : Int32).toInt).toNat + 1) (-1) 0 (by omega) (by omega) (by omega) (by omega) _ _ hP hD hS ls (lv_sub hl [0, 1, 2, 3] rfl)
        exact loop25 ((365 - (0 : Int32).toInt).toNat + 1) 0 f_heldOn fw (by omega) (by omega) (by omega) (by rw [kk0]; exact InR.zero) _ _ hP hD hS ls (lv_sub hl [0, 1] rfl)
      · have tc_1 := t_nle c_1
        refine lv_aload_n hx hb dX12_holdsAll_10 rfl (lv_at hl 1 rfl) ?_
        refine va_get (D := D) (ci := 11) (v := .ref a_waits) (C := RX12) (T := TX12) (N := 54) hx hb hts in_n_holdsAll_X12 hown hK.1 hP 0 rfl rfl 39 (by decide) lk2 (fun _ h9 => h9) rfl dX12_holdsAll_11 ?_
        refine lv_iload_n hx hb dX12_holdsAll_14 rfl (lv_at hl 0 rfl) ?_
        refine lv_iconst (v := 0) hx hb dX12_holdsAll_15 (by decide) ?_
        refine va_zast hx hb hK.1 hP hD hS 4 1 rfl rfl (t_in (by omega) (by omega)) dX12_holdsAll_16 (fun H locs hP hD hS => ?_)
        obtain ⟨g_152, eg_152⟩ : ∃ z : Nat → Int32, z = upd fw ((j : Int32).toNatClampNeg) (vp_nar .boolean 0) := ⟨_, rfl⟩
        rw [← eg_152] at hP hD
        have hP : va_P D vwCl [(h, .inr (11, [.int v_today, .int v_monks, .int v_aways, .int v_feasts, .int v_gifts, .int v_leaves, .int v_lates, .int v_store, .int v_allCandles, .ref a_isPriest, .ref a_bars, .ref a_joined, .ref a_turns, .ref a_awayMonk, .ref a_awayFrom, .ref a_awayTo, .ref a_feastDay, .ref a_rank, .ref a_isWeekly, .ref a_isDouble, .ref a_giftDay, .ref a_giftFrom, .ref a_owed, .ref a_said, .ref a_spared, .ref a_leaveGift, .ref a_leaveFrom, .ref a_leaveTo, .ref a_lateDay, .ref a_lateOffice, .ref a_lateBy, .ref a_guests, .ref a_who, .ref a_used, .ref a_lacks, .ref a_candles, .ref a_masses, .ref a_owing, .ref a_heldOn, .ref a_waits, .ref a_tape, .ref a_text, .int v_taped, .int v_size, .int v_at, .int v_fault, .int v_rules, .ref a_statements, .ref a_taken, .ref a_sort, .ref a_first, .ref a_second, .int v_wordEnd, .int v_number])), (a_feastDay, .inl (cI, 40, .inl f_feastDay)), (a_rank, .inl (cI, 40, .inl f_rank)), (a_heldOn, .inl (cI, 365, .inl f_heldOn)), (a_waits, .inl (cZ, 40, .inl g_152))] H := hP
        have hD := asD hP hD
        obtain ⟨x_153, ex_153⟩ : ∃ y : Int32, y = j + 1 := ⟨_, rfl⟩
        refine lv_iinc (v := x_153) (lv' := [(1, .int x_153), (0, .ref h)]) hx hb dX12_holdsAll_17 hl (k := 0) rfl (by rw [ex_153]; rfl) (by decide) rfl (fun ls hl => ?_)
        first | have tx_153 := t_add ex_153 (by omega) (by omega) | skip
        refine lv_goto (tgt := 2) hx hb dX12_holdsAll_20 (by decide) ?_
        exact ih2 x_153 g_152 (by omega) (by omega) (by omega) _ _ hP hD hS ls (lv_sub hl [0, 1] rfl)
  exact loop2 ((v_feasts.toInt - (0 : Int32).toInt).toNat + 1) 0 f_waits (by omega) (by omega) (by omega) _ _ hP hD hS ls (lv_sub hl [0, 1] rfl)

theorem in_n_held_X12 : ∀ w ∈ wsX120, w ∈ wsX12_held := tl_X12_held_X12
set_option maxHeartbeats 8000000 in
set_option maxRecDepth 100000 in
theorem n_held {l : Launch} {D : va_G} {cI cZ cB : ClassId} {sz : Nat} {h a_isPriest a_bars a_joined a_turns a_awayMonk a_awayFrom a_awayTo a_feastDay a_rank a_isWeekly a_isDouble a_giftDay a_giftFrom a_owed a_said a_spared a_leaveGift a_leaveFrom a_leaveTo a_lateDay a_lateOffice a_lateBy a_guests a_who a_used a_lacks a_candles a_masses a_owing a_heldOn a_waits a_tape a_text a_statements a_taken a_sort a_first a_second : Nat} {v_today v_monks v_aways v_feasts v_gifts v_leaves v_lates v_store v_allCandles v_taped v_size v_at v_fault v_rules v_wordEnd v_number : Int32} {f_feastDay f_rank f_heldOn f_waits : Nat → Int32} {d : Int32} (h0_feasts : 0 ≤ v_feasts.toInt) (h1_feasts : v_feasts.toInt ≤ 40) : Met l yX12_held wsX12_held ({ frames := 1, cells := 0, slots := 0, locals := 24 }) (RW D cI cZ cB [.ref h, .int d] sz [(h, .inr (11, [.int v_today, .int v_monks, .int v_aways, .int v_feasts, .int v_gifts, .int v_leaves, .int v_lates, .int v_store, .int v_allCandles, .ref a_isPriest, .ref a_bars, .ref a_joined, .ref a_turns, .ref a_awayMonk, .ref a_awayFrom, .ref a_awayTo, .ref a_feastDay, .ref a_rank, .ref a_isWeekly, .ref a_isDouble, .ref a_giftDay, .ref a_giftFrom, .ref a_owed, .ref a_said, .ref a_spared, .ref a_leaveGift, .ref a_leaveFrom, .ref a_leaveTo, .ref a_lateDay, .ref a_lateOffice, .ref a_lateBy, .ref a_guests, .ref a_who, .ref a_used, .ref a_lacks, .ref a_candles, .ref a_masses, .ref a_owing, .ref a_heldOn, .ref a_waits, .ref a_tape, .ref a_text, .int v_taped, .int v_size, .int v_at, .int v_fault, .int v_rules, .ref a_statements, .ref a_taken, .ref a_sort, .ref a_first, .ref a_second, .int v_wordEnd, .int v_number])), (a_feastDay, .inl (cI, 40, .inl f_feastDay)), (a_rank, .inl (cI, 40, .inl f_rank)), (a_heldOn, .inl (cI, 365, .inl f_heldOn)), (a_waits, .inl (cZ, 40, .inl f_waits))]) (va_Qi (fun (r : Int32) (u : (Nat → Int32) × (Nat → Int32)) => -1 ≤ r.toInt ∧ (r.toInt < v_feasts.toInt ∨ r.toInt = -1)) (BW D [(h, .inr (11, [.int v_today, .int v_monks, .int v_aways, .int v_feasts, .int v_gifts, .int v_leaves, .int v_lates, .int v_store, .int v_allCandles, .ref a_isPriest, .ref a_bars, .ref a_joined, .ref a_turns, .ref a_awayMonk, .ref a_awayFrom, .ref a_awayTo, .ref a_feastDay, .ref a_rank, .ref a_isWeekly, .ref a_isDouble, .ref a_giftDay, .ref a_giftFrom, .ref a_owed, .ref a_said, .ref a_spared, .ref a_leaveGift, .ref a_leaveFrom, .ref a_leaveTo, .ref a_lateDay, .ref a_lateOffice, .ref a_lateBy, .ref a_guests, .ref a_who, .ref a_used, .ref a_lacks, .ref a_candles, .ref a_masses, .ref a_owing, .ref a_heldOn, .ref a_waits, .ref a_tape, .ref a_text, .int v_taped, .int v_size, .int v_at, .int v_fault, .int v_rules, .ref a_statements, .ref a_taken, .ref a_sort, .ref a_first, .ref a_second, .int v_wordEnd, .int v_number])), (a_feastDay, .inl (cI, 40, .inl f_feastDay)), (a_rank, .inl (cI, 40, .inl f_rank)), (a_heldOn, .inl (cI, 365, .inl f_heldOn)), (a_waits, .inl (cZ, 40, .inl f_waits))] sz (fun u : (Nat → Int32) × (Nat → Int32) => [(h, .inr (11, [.int v_today, .int v_monks, .int v_aways, .int v_feasts, .int v_gifts, .int v_leaves, .int v_lates, .int v_store, .int v_allCandles, .ref a_isPriest, .ref a_bars, .ref a_joined, .ref a_turns, .ref a_awayMonk, .ref a_awayFrom, .ref a_awayTo, .ref a_feastDay, .ref a_rank, .ref a_isWeekly, .ref a_isDouble, .ref a_giftDay, .ref a_giftFrom, .ref a_owed, .ref a_said, .ref a_spared, .ref a_leaveGift, .ref a_leaveFrom, .ref a_leaveTo, .ref a_lateDay, .ref a_lateOffice, .ref a_lateBy, .ref a_guests, .ref a_who, .ref a_used, .ref a_lacks, .ref a_candles, .ref a_masses, .ref a_owing, .ref a_heldOn, .ref a_waits, .ref a_tape, .ref a_text, .int v_taped, .int v_size, .int v_at, .int v_fault, .int v_rules, .ref a_statements, .ref a_taken, .ref a_sort, .ref a_first, .ref a_second, .int v_wordEnd, .int v_number])), (a_feastDay, .inl (cI, 40, .inl f_feastDay)), (a_rank, .inl (cI, 40, .inl f_rank)), (a_heldOn, .inl (cI, 365, .inl u.1)), (a_waits, .inl (cZ, 40, .inl u.2))])) (va_A [(h, .inr (11, [.int v_today, .int v_monks, .int v_aways, .int v_feasts, .int v_gifts, .int v_leaves, .int v_lates, .int v_store, .int v_allCandles, .ref a_isPriest, .ref a_bars, .ref a_joined, .ref a_turns, .ref a_awayMonk, .ref a_awayFrom, .ref a_awayTo, .ref a_feastDay, .ref a_rank, .ref a_isWeekly, .ref a_isDouble, .ref a_giftDay, .ref a_giftFrom, .ref a_owed, .ref a_said, .ref a_spared, .ref a_leaveGift, .ref a_leaveFrom, .ref a_leaveTo, .ref a_lateDay, .ref a_lateOffice, .ref a_lateBy, .ref a_guests, .ref a_who, .ref a_used, .ref a_lacks, .ref a_candles, .ref a_masses, .ref a_owing, .ref a_heldOn, .ref a_waits, .ref a_tape, .ref a_text, .int v_taped, .int v_size, .int v_at, .int v_fault, .int v_rules, .ref a_statements, .ref a_taken, .ref a_sort, .ref a_first, .ref a_second, .int v_wordEnd, .int v_number])), (a_feastDay, .inl (cI, 40, .inl f_feastDay)), (a_rank, .inl (cI, 40, .inl f_rank)), (a_heldOn, .inl (cI, 365, .inl f_heldOn)), (a_waits, .inl (cZ, 40, .inl f_waits))] sz)) 0 0 (va_A [(h, .inr (11, [.int v_today, .int v_monks, .int v_aways, .int v_feasts, .int v_gifts, .int v_leaves, .int v_lates, .int v_store, .int v_allCandles, .ref a_isPriest, .ref a_bars, .ref a_joined, .ref a_turns, .ref a_awayMonk, .ref a_awayFrom, .ref a_awayTo, .ref a_feastDay, .ref a_rank, .ref a_isWeekly, .ref a_isDouble, .ref a_giftDay, .ref a_giftFrom, .ref a_owed, .ref a_said, .ref a_spared, .ref a_leaveGift, .ref a_leaveFrom, .ref a_leaveTo, .ref a_lateDay, .ref a_lateOffice, .ref a_lateBy, .ref a_guests, .ref a_who, .ref a_used, .ref a_lacks, .ref a_candles, .ref a_masses, .ref a_owing, .ref a_heldOn, .ref a_waits, .ref a_tape, .ref a_text, .int v_taped, .int v_size, .int v_at, .int v_fault, .int v_rules, .ref a_statements, .ref a_taken, .ref a_sort, .ref a_first, .ref a_second, .int v_wordEnd, .int v_number])), (a_feastDay, .inl (cI, 40, .inl f_feastDay)), (a_rank, .inl (cI, 40, .inl f_rank)), (a_heldOn, .inl (cI, 365, .inl f_heldOn)), (a_waits, .inl (cZ, 40, .inl f_waits))] sz) := by
  refine rw_ret (cc := cX12_held) (maxL := 2) (ty := .int) (own := RX12) (by decide) rfl rfl (Nat.le_of_ble_eq_true rfl) ?_
  intro p e s m args below meth c Q A S hin hret hP hK hD hA hS ls hl
  obtain ⟨hx, hb, hml, hown, hts⟩ := id S
  have hl : lv_has ls 2 [(0, .ref h), (1, .int d)] := hl
  have kkm1 : (-1 : Int32).toInt = -1 := by decide
  have kk0 : (0 : Int32).toInt = 0 := by decide
  have kk364 : (364 : Int32).toInt = 364 := by decide
  have lk0 := hts (.fieldLink RX12 98 "AbbeyHoursModel" "heldOn" "[I") (List.mem_cons_of_mem _ (List.mem_append_left _ (List.mem_of_getElem? (i := 0) rfl)))
  refine lv_iload_n hx hb dX12_held_0 rfl (lv_at hl 1 rfl) ?_
  refine lv_iconst (v := 0) hx hb dX12_held_1 (by decide) ?_
  refine lv_sipush (v := 364) hx hb dX12_held_2 (by decide) ?_
  have hPc := hP.sub (ws' := []) [] rfl
  refine roS (As := [.int d, .int 0, .int 364]) (rest := []) S (m_isIn  ) (va_cwS 3 hts gX12_held_X12_isIn rfl rfl rfl hd_X12_isIn ⟨Nat.le_of_ble_eq_true rfl, Nat.le_of_ble_eq_true rfl⟩) hK hPc rfl hl.1 rfl (Nat.le_of_ble_eq_true rfl) dX12_held_5 ⟨Nat.le_of_ble_eq_true rfl, Nat.le_of_ble_eq_true rfl⟩ (fun r_1 hw_1 => ?_)
  have hw_1 : (r_1.toInt = 1 ∧ (0 : Int32).toInt ≤ d.toInt ∧ d.toInt ≤ (364 : Int32).toInt) ∨ (r_1.toInt = 0 ∧ (d.toInt < (0 : Int32).toInt ∨ (364 : Int32).toInt < d.toInt)) := hw_1
  refine lv_if_ne (tgt := 13) hx hb dX12_held_8 (by decide) (fun c_2 => ?_) (fun c_2 => ?_)
  · have tc_2 := t_neq c_2
    refine lv_aload_n hx hb dX12_held_13 rfl (lv_at hl 0 rfl) ?_
    have hPc := hP.sub (ws' := [(h, .inr (11, [.int v_today, .int v_monks, .int v_aways, .int v_feasts, .int v_gifts, .int v_leaves, .int v_lates, .int v_store, .int v_allCandles, .ref a_isPriest, .ref a_bars, .ref a_joined, .ref a_turns, .ref a_awayMonk, .ref a_awayFrom, .ref a_awayTo, .ref a_feastDay, .ref a_rank, .ref a_isWeekly, .ref a_isDouble, .ref a_giftDay, .ref a_giftFrom, .ref a_owed, .ref a_said, .ref a_spared, .ref a_leaveGift, .ref a_leaveFrom, .ref a_leaveTo, .ref a_lateDay, .ref a_lateOffice, .ref a_lateBy, .ref a_guests, .ref a_who, .ref a_used, .ref a_lacks, .ref a_candles, .ref a_masses, .ref a_owing, .ref a_heldOn, .ref a_waits, .ref a_tape, .ref a_text, .int v_taped, .int v_size, .int v_at, .int v_fault, .int v_rules, .ref a_statements, .ref a_taken, .ref a_sort, .ref a_first, .ref a_second, .int v_wordEnd, .int v_number])), (a_feastDay, .inl (cI, 40, .inl f_feastDay)), (a_rank, .inl (cI, 40, .inl f_rank)), (a_heldOn, .inl (cI, 365, .inl f_heldOn)), (a_waits, .inl (cZ, 40, .inl f_waits))]) [0, 1, 2, 3, 4] rfl
    refine rwVv (As := []) (rest := []) (wc := [(h, .inr (11, [.int v_today, .int v_monks, .int v_aways, .int v_feasts, .int v_gifts, .int v_leaves, .int v_lates, .int v_store, .int v_allCandles, .ref a_isPriest, .ref a_bars, .ref a_joined, .ref a_turns, .ref a_awayMonk, .ref a_awayFrom, .ref a_awayTo, .ref a_feastDay, .ref a_rank, .ref a_isWeekly, .ref a_isDouble, .ref a_giftDay, .ref a_giftFrom, .ref a_owed, .ref a_said, .ref a_spared, .ref a_leaveGift, .ref a_leaveFrom, .ref a_leaveTo, .ref a_lateDay, .ref a_lateOffice, .ref a_lateBy, .ref a_guests, .ref a_who, .ref a_used, .ref a_lacks, .ref a_candles, .ref a_masses, .ref a_owing, .ref a_heldOn, .ref a_waits, .ref a_tape, .ref a_text, .int v_taped, .int v_size, .int v_at, .int v_fault, .int v_rules, .ref a_statements, .ref a_taken, .ref a_sort, .ref a_first, .ref a_second, .int v_wordEnd, .int v_number])), (a_feastDay, .inl (cI, 40, .inl f_feastDay)), (a_rank, .inl (cI, 40, .inl f_rank)), (a_heldOn, .inl (cI, 365, .inl f_heldOn)), (a_waits, .inl (cZ, 40, .inl f_waits))]) (wr := []) S (n_holdsAll  (by omega) (by omega)) (cwV 0 hts gX12_held_X12_holdsAll rfl rfl rfl ⟨rfl, hd_X12_holdsAll⟩ ⟨Nat.le_of_ble_eq_true rfl, Nat.le_of_ble_eq_true rfl⟩) hK hP hD hS hA [0, 1, 2, 3, 4] [] rfl rfl (by decide +kernel) (by decide +kernel) (by decide +kernel) (va_recv hK.1 hPc (ci := 11) (q0 := 0) rfl rfl) rfl hl.1 rfl (Nat.le_of_ble_eq_true rfl) dX12_held_14 ⟨Nat.le_of_ble_eq_true rfl, Nat.le_of_ble_eq_true rfl⟩ (fun u_ha H locs hw_ha hP hD hS => ?_)
    obtain ⟨g1_ha, g2_ha⟩ := u_ha
    have hw_ha : InR g1_ha 365 (-1) v_feasts.toInt := hw_ha
    have hP : va_P D vwCl [(h, .inr (11, [.int v_today, .int v_monks, .int v_aways, .int v_feasts, .int v_gifts, .int v_leaves, .int v_lates, .int v_store, .int v_allCandles, .ref a_isPriest, .ref a_bars, .ref a_joined, .ref a_turns, .ref a_awayMonk, .ref a_awayFrom, .ref a_awayTo, .ref a_feastDay, .ref a_rank, .ref a_isWeekly, .ref a_isDouble, .ref a_giftDay, .ref a_giftFrom, .ref a_owed, .ref a_said, .ref a_spared, .ref a_leaveGift, .ref a_leaveFrom, .ref a_leaveTo, .ref a_lateDay, .ref a_lateOffice, .ref a_lateBy, .ref a_guests, .ref a_who, .ref a_used, .ref a_lacks, .ref a_candles, .ref a_masses, .ref a_owing, .ref a_heldOn, .ref a_waits, .ref a_tape, .ref a_text, .int v_taped, .int v_size, .int v_at, .int v_fault, .int v_rules, .ref a_statements, .ref a_taken, .ref a_sort, .ref a_first, .ref a_second, .int v_wordEnd, .int v_number])), (a_feastDay, .inl (cI, 40, .inl f_feastDay)), (a_rank, .inl (cI, 40, .inl f_rank)), (a_heldOn, .inl (cI, 365, .inl g1_ha)), (a_waits, .inl (cZ, 40, .inl g2_ha))] H := hP
    have hD := asD hP hD
    refine lv_aload_n hx hb dX12_held_17 rfl (lv_at hl 0 rfl) ?_
    refine va_get (D := D) (ci := 11) (v := .ref a_heldOn) (C := RX12) (T := TX12) (N := 54) hx hb hts in_n_held_X12 hown hK.1 hP 0 rfl rfl 38 (by decide) lk0 (fun _ h9 => h9) rfl dX12_held_18 ?_
    refine lv_iload_n hx hb dX12_held_21 rfl (lv_at hl 1 rfl) ?_
    refine va_iald hx hb hK.1 hP 3 0 rfl rfl (t_in (by omega) (by omega)) dX12_held_22 ?_
    refine lv_topi (fun y ey => ?_)
    have hq := hw_ha.get (i := d) (by omega) (by omega)
    rw [← ey] at hq
    exact hret y (g1_ha, g2_ha) _ _ _ _ (show -1 ≤ y.toInt ∧ (y.toInt < v_feasts.toInt ∨ y.toInt = -1) from by omega) rfl (hP.sub [0, 1, 2, 3, 4] rfl) (hD.sub [0, 1, 2, 3, 4] (by decide +kernel) rfl) hS dX12_held_23
  · have tc_2 := t_eq c_2
    refine lv_iconst (v := (-1)) hx hb dX12_held_11 (by decide) ?_
    exact hret (-1) (f_heldOn, f_waits) _ _ _ _ (show -1 ≤ (-1 : Int32).toInt ∧ ((-1 : Int32).toInt < v_feasts.toInt ∨ (-1 : Int32).toInt = -1) from by omega) rfl (hP.sub [0, 1, 2, 3, 4] rfl) (hD.sub [0, 1, 2, 3, 4] (by decide +kernel) rfl) hS dX12_held_12

