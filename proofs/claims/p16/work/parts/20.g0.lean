theorem in_n_isMonk_X12 : ∀ w ∈ wsX120, w ∈ wsX12_isMonk := tl_X12_isMonk_X12
set_option maxHeartbeats 8000000 in
set_option maxRecDepth 100000 in
theorem n_isMonk {l : Launch} {D : va_G} {cI cZ cB : ClassId} {h a_isPriest a_bars a_joined a_turns a_awayMonk a_awayFrom a_awayTo a_feastDay a_rank a_isWeekly a_isDouble a_giftDay a_giftFrom a_owed a_said a_spared a_leaveGift a_leaveFrom a_leaveTo a_lateDay a_lateOffice a_lateBy a_guests a_who a_used a_lacks a_candles a_masses a_owing a_heldOn a_waits a_tape a_text a_statements a_taken a_sort a_first a_second : Nat} {v_today v_monks v_aways v_feasts v_gifts v_leaves v_lates v_store v_allCandles v_taped v_size v_at v_fault v_rules v_wordEnd v_number : Int32} {i : Int32} (h0_monks : 0 ≤ v_monks.toInt) (h1_monks : v_monks.toInt ≤ 24) : Met l yX12_isMonk wsX12_isMonk ({ frames := 1, cells := 0, slots := 0, locals := 22 }) (RO D cI cZ cB [.ref h, .int i] [(h, .inr (11, [.int v_today, .int v_monks, .int v_aways, .int v_feasts, .int v_gifts, .int v_leaves, .int v_lates, .int v_store, .int v_allCandles, .ref a_isPriest, .ref a_bars, .ref a_joined, .ref a_turns, .ref a_awayMonk, .ref a_awayFrom, .ref a_awayTo, .ref a_feastDay, .ref a_rank, .ref a_isWeekly, .ref a_isDouble, .ref a_giftDay, .ref a_giftFrom, .ref a_owed, .ref a_said, .ref a_spared, .ref a_leaveGift, .ref a_leaveFrom, .ref a_leaveTo, .ref a_lateDay, .ref a_lateOffice, .ref a_lateBy, .ref a_guests, .ref a_who, .ref a_used, .ref a_lacks, .ref a_candles, .ref a_masses, .ref a_owing, .ref a_heldOn, .ref a_waits, .ref a_tape, .ref a_text, .int v_taped, .int v_size, .int v_at, .int v_fault, .int v_rules, .ref a_statements, .ref a_taken, .ref a_sort, .ref a_first, .ref a_second, .int v_wordEnd, .int v_number]))]) (vp_Si (fun r : Int32 => (r.toInt = 1 ∧ 0 ≤ i.toInt ∧ i.toInt < v_monks.toInt) ∨ (r.toInt = 0 ∧ (i.toInt < 0 ∨ v_monks.toInt ≤ i.toInt)))) 0 0 (fun _ => False) := by
  refine ro_ret (cc := cX12_isMonk) (maxL := 2) (ty := .boolean) (own := RX12) (by decide) rfl rfl (Nat.le_of_ble_eq_true rfl) ?_
  intro p e s m args below meth c Q S hret hP hK ls hl
  obtain ⟨hx, hb, hml, hown, hts⟩ := id S
  have hl : lv_has ls 2 [(0, .ref h), (1, .int i)] := hl
  have kk0 : (0 : Int32).toInt = 0 := by decide
  have kk1 : (1 : Int32).toInt = 1 := by decide
  have lk0 := hts (.fieldLink RX12 134 "AbbeyHoursModel" "monks" "I") (List.mem_cons_of_mem _ (List.mem_append_left _ (List.mem_of_getElem? (i := 0) rfl)))
  refine lv_iload_n hx hb dX12_isMonk_0 rfl (lv_at hl 1 rfl) ?_
  refine lv_iconst (v := 0) hx hb dX12_isMonk_1 (by decide) ?_
  refine lv_aload_n hx hb dX12_isMonk_2 rfl (lv_at hl 0 rfl) ?_
  refine va_get (D := D) (ci := 11) (v := .int v_monks) (C := RX12) (T := TX12) (N := 54) hx hb hts in_n_isMonk_X12 hown hK.1 hP 0 rfl rfl 1 (by decide) lk0 (fun _ h9 => h9) rfl dX12_isMonk_3 ?_
  refine lv_iconst (v := 1) hx hb dX12_isMonk_6 (by decide) ?_
  refine lv_isub hx hb dX12_isMonk_7 ?_
  refine lv_topi (fun x_1 ex_1 => ?_)
  first | have tx_1 := t_sub ex_1 (by omega) (by omega) | skip
  have hPc := hP.sub (ws' := []) [] rfl
  refine roS (As := [.int i, .int 0, .int x_1]) (rest := []) S (m_isIn  ) (va_cwS 3 hts gX12_isMonk_X12_isIn rfl rfl rfl hd_X12_isIn ⟨Nat.le_of_ble_eq_true rfl, Nat.le_of_ble_eq_true rfl⟩) hK hPc rfl hl.1 rfl (Nat.le_of_ble_eq_true rfl) dX12_isMonk_8 ⟨Nat.le_of_ble_eq_true rfl, Nat.le_of_ble_eq_true rfl⟩ (fun r_2 hw_2 => ?_)
  have hw_2 : (r_2.toInt = 1 ∧ (0 : Int32).toInt ≤ i.toInt ∧ i.toInt ≤ x_1.toInt) ∨ (r_2.toInt = 0 ∧ (i.toInt < (0 : Int32).toInt ∨ x_1.toInt < i.toInt)) := hw_2
  exact hret r_2 _ _ (show (r_2.toInt = 1 ∧ 0 ≤ i.toInt ∧ i.toInt < v_monks.toInt) ∨ (r_2.toInt = 0 ∧ (i.toInt < 0 ∨ v_monks.toInt ≤ i.toInt)) from by omega) (zb (by omega)) dX12_isMonk_11

theorem in_n_isGift_X12 : ∀ w ∈ wsX120, w ∈ wsX12_isGift := tl_X12_isGift_X12
set_option maxHeartbeats 8000000 in
set_option maxRecDepth 100000 in
theorem n_isGift {l : Launch} {D : va_G} {cI cZ cB : ClassId} {h a_isPriest a_bars a_joined a_turns a_awayMonk a_awayFrom a_awayTo a_feastDay a_rank a_isWeekly a_isDouble a_giftDay a_giftFrom a_owed a_said a_spared a_leaveGift a_leaveFrom a_leaveTo a_lateDay a_lateOffice a_lateBy a_guests a_who a_used a_lacks a_candles a_masses a_owing a_heldOn a_waits a_tape a_text a_statements a_taken a_sort a_first a_second : Nat} {v_today v_monks v_aways v_feasts v_gifts v_leaves v_lates v_store v_allCandles v_taped v_size v_at v_fault v_rules v_wordEnd v_number : Int32} {i : Int32} (h0_gifts : 0 ≤ v_gifts.toInt) (h1_gifts : v_gifts.toInt ≤ 40) : Met l yX12_isGift wsX12_isGift ({ frames := 1, cells := 0, slots := 0, locals := 22 }) (RO D cI cZ cB [.ref h, .int i] [(h, .inr (11, [.int v_today, .int v_monks, .int v_aways, .int v_feasts, .int v_gifts, .int v_leaves, .int v_lates, .int v_store, .int v_allCandles, .ref a_isPriest, .ref a_bars, .ref a_joined, .ref a_turns, .ref a_awayMonk, .ref a_awayFrom, .ref a_awayTo, .ref a_feastDay, .ref a_rank, .ref a_isWeekly, .ref a_isDouble, .ref a_giftDay, .ref a_giftFrom, .ref a_owed, .ref a_said, .ref a_spared, .ref a_leaveGift, .ref a_leaveFrom, .ref a_leaveTo, .ref a_lateDay, .ref a_lateOffice, .ref a_lateBy, .ref a_guests, .ref a_who, .ref a_used, .ref a_lacks, .ref a_candles, .ref a_masses, .ref a_owing, .ref a_heldOn, .ref a_waits, .ref a_tape, .ref a_text, .int v_taped, .int v_size, .int v_at, .int v_fault, .int v_rules, .ref a_statements, .ref a_taken, .ref a_sort, .ref a_first, .ref a_second, .int v_wordEnd, .int v_number]))]) (vp_Si (fun r : Int32 => (r.toInt = 1 ∧ 0 ≤ i.toInt ∧ i.toInt < v_gifts.toInt) ∨ (r.toInt = 0 ∧ (i.toInt < 0 ∨ v_gifts.toInt ≤ i.toInt)))) 0 0 (fun _ => False) := by
  refine ro_ret (cc := cX12_isGift) (maxL := 2) (ty := .boolean) (own := RX12) (by decide) rfl rfl (Nat.le_of_ble_eq_true rfl) ?_
  intro p e s m args below meth c Q S hret hP hK ls hl
  obtain ⟨hx, hb, hml, hown, hts⟩ := id S
  have hl : lv_has ls 2 [(0, .ref h), (1, .int i)] := hl
  have kk0 : (0 : Int32).toInt = 0 := by decide
  have kk1 : (1 : Int32).toInt = 1 := by decide
  have lk0 := hts (.fieldLink RX12 137 "AbbeyHoursModel" "gifts" "I") (List.mem_cons_of_mem _ (List.mem_append_left _ (List.mem_of_getElem? (i := 0) rfl)))
  refine lv_iload_n hx hb dX12_isGift_0 rfl (lv_at hl 1 rfl) ?_
  refine lv_iconst (v := 0) hx hb dX12_isGift_1 (by decide) ?_
  refine lv_aload_n hx hb dX12_isGift_2 rfl (lv_at hl 0 rfl) ?_
  refine va_get (D := D) (ci := 11) (v := .int v_gifts) (C := RX12) (T := TX12) (N := 54) hx hb hts in_n_isGift_X12 hown hK.1 hP 0 rfl rfl 4 (by decide) lk0 (fun _ h9 => h9) rfl dX12_isGift_3 ?_
  refine lv_iconst (v := 1) hx hb dX12_isGift_6 (by decide) ?_
  refine lv_isub hx hb dX12_isGift_7 ?_
  refine lv_topi (fun x_1 ex_1 => ?_)
  first | have tx_1 := t_sub ex_1 (by omega) (by omega) | skip
  have hPc := hP.sub (ws' := []) [] rfl
  refine roS (As := [.int i, .int 0, .int x_1]) (rest := []) S (m_isIn  ) (va_cwS 3 hts gX12_isGift_X12_isIn rfl rfl rfl hd_X12_isIn ⟨Nat.le_of_ble_eq_true rfl, Nat.le_of_ble_eq_true rfl⟩) hK hPc rfl hl.1 rfl (Nat.le_of_ble_eq_true rfl) dX12_isGift_8 ⟨Nat.le_of_ble_eq_true rfl, Nat.le_of_ble_eq_true rfl⟩ (fun r_2 hw_2 => ?_)
  have hw_2 : (r_2.toInt = 1 ∧ (0 : Int32).toInt ≤ i.toInt ∧ i.toInt ≤ x_1.toInt) ∨ (r_2.toInt = 0 ∧ (i.toInt < (0 : Int32).toInt ∨ x_1.toInt < i.toInt)) := hw_2
  exact hret r_2 _ _ (show (r_2.toInt = 1 ∧ 0 ≤ i.toInt ∧ i.toInt < v_gifts.toInt) ∨ (r_2.toInt = 0 ∧ (i.toInt < 0 ∨ v_gifts.toInt ≤ i.toInt)) from by omega) (zb (by omega)) dX12_isGift_11

theorem in_n_hasGone_X12 : ∀ w ∈ wsX120, w ∈ wsX12_hasGone := tl_X12_hasGone_X12
set_option maxHeartbeats 8000000 in
set_option maxRecDepth 100000 in
theorem n_hasGone {l : Launch} {D : va_G} {cI cZ cB : ClassId} {h a_isPriest a_bars a_joined a_turns a_awayMonk a_awayFrom a_awayTo a_feastDay a_rank a_isWeekly a_isDouble a_giftDay a_giftFrom a_owed a_said a_spared a_leaveGift a_leaveFrom a_leaveTo a_lateDay a_lateOffice a_lateBy a_guests a_who a_used a_lacks a_candles a_masses a_owing a_heldOn a_waits a_tape a_text a_statements a_taken a_sort a_first a_second : Nat} {v_today v_monks v_aways v_feasts v_gifts v_leaves v_lates v_store v_allCandles v_taped v_size v_at v_fault v_rules v_wordEnd v_number : Int32} {i : Int32} (h0_today : 0 ≤ v_today.toInt) (h1_today : v_today.toInt ≤ 1094) : Met l yX12_hasGone wsX12_hasGone ({ frames := 1, cells := 0, slots := 0, locals := 22 }) (RO D cI cZ cB [.ref h, .int i] [(h, .inr (11, [.int v_today, .int v_monks, .int v_aways, .int v_feasts, .int v_gifts, .int v_leaves, .int v_lates, .int v_store, .int v_allCandles, .ref a_isPriest, .ref a_bars, .ref a_joined, .ref a_turns, .ref a_awayMonk, .ref a_awayFrom, .ref a_awayTo, .ref a_feastDay, .ref a_rank, .ref a_isWeekly, .ref a_isDouble, .ref a_giftDay, .ref a_giftFrom, .ref a_owed, .ref a_said, .ref a_spared, .ref a_leaveGift, .ref a_leaveFrom, .ref a_leaveTo, .ref a_lateDay, .ref a_lateOffice, .ref a_lateBy, .ref a_guests, .ref a_who, .ref a_used, .ref a_lacks, .ref a_candles, .ref a_masses, .ref a_owing, .ref a_heldOn, .ref a_waits, .ref a_tape, .ref a_text, .int v_taped, .int v_size, .int v_at, .int v_fault, .int v_rules, .ref a_statements, .ref a_taken, .ref a_sort, .ref a_first, .ref a_second, .int v_wordEnd, .int v_number]))]) (vp_Si (fun r : Int32 => (r.toInt = 1 ∧ 0 ≤ i.toInt ∧ i.toInt < v_today.toInt) ∨ (r.toInt = 0 ∧ (i.toInt < 0 ∨ v_today.toInt ≤ i.toInt)))) 0 0 (fun _ => False) := by
  refine ro_ret (cc := cX12_hasGone) (maxL := 2) (ty := .boolean) (own := RX12) (by decide) rfl rfl (Nat.le_of_ble_eq_true rfl) ?_
  intro p e s m args below meth c Q S hret hP hK ls hl
  obtain ⟨hx, hb, hml, hown, hts⟩ := id S
  have hl : lv_has ls 2 [(0, .ref h), (1, .int i)] := hl
  have kk0 : (0 : Int32).toInt = 0 := by decide
  have kk1 : (1 : Int32).toInt = 1 := by decide
  have lk0 := hts (.fieldLink RX12 140 "AbbeyHoursModel" "today" "I") (List.mem_cons_of_mem _ (List.mem_append_left _ (List.mem_of_getElem? (i := 0) rfl)))
  refine lv_iload_n hx hb dX12_hasGone_0 rfl (lv_at hl 1 rfl) ?_
  refine lv_iconst (v := 0) hx hb dX12_hasGone_1 (by decide) ?_
  refine lv_aload_n hx hb dX12_hasGone_2 rfl (lv_at hl 0 rfl) ?_
  refine va_get (D := D) (ci := 11) (v := .int v_today) (C := RX12) (T := TX12) (N := 54) hx hb hts in_n_hasGone_X12 hown hK.1 hP 0 rfl rfl 0 (by decide) lk0 (fun _ h9 => h9) rfl dX12_hasGone_3 ?_
  refine lv_iconst (v := 1) hx hb dX12_hasGone_6 (by decide) ?_
  refine lv_isub hx hb dX12_hasGone_7 ?_
  refine lv_topi (fun x_1 ex_1 => ?_)
  first | have tx_1 := t_sub ex_1 (by omega) (by omega) | skip
  have hPc := hP.sub (ws' := []) [] rfl
  refine roS (As := [.int i, .int 0, .int x_1]) (rest := []) S (m_isIn  ) (va_cwS 3 hts gX12_hasGone_X12_isIn rfl rfl rfl hd_X12_isIn ⟨Nat.le_of_ble_eq_true rfl, Nat.le_of_ble_eq_true rfl⟩) hK hPc rfl hl.1 rfl (Nat.le_of_ble_eq_true rfl) dX12_hasGone_8 ⟨Nat.le_of_ble_eq_true rfl, Nat.le_of_ble_eq_true rfl⟩ (fun r_2 hw_2 => ?_)
  have hw_2 : (r_2.toInt = 1 ∧ (0 : Int32).toInt ≤ i.toInt ∧ i.toInt ≤ x_1.toInt) ∨ (r_2.toInt = 0 ∧ (i.toInt < (0 : Int32).toInt ∨ x_1.toInt < i.toInt)) := hw_2
  exact hret r_2 _ _ (show (r_2.toInt = 1 ∧ 0 ≤ i.toInt ∧ i.toInt < v_today.toInt) ∨ (r_2.toInt = 0 ∧ (i.toInt < 0 ∨ v_today.toInt ≤ i.toInt)) from by omega) (zb (by omega)) dX12_hasGone_11

theorem in_n_holdsAll_X12 : ∀ w ∈ wsX120, w ∈ wsX12_holdsAll := tl_X12_holdsAll_X12
set_option maxHeartbeats 8000000 in
set_option maxRecDepth 100000 in
theorem n_holdsAll {l : Launch} {D : va_G} {cI cZ cB : ClassId} {sz : Nat} {h a_isPriest a_bars a_joined a_turns a_awayMonk a_awayFrom a_awayTo a_feastDay a_rank a_isWeekly a_isDouble a_giftDay a_giftFrom a_owed a_said a_spared a_leaveGift a_leaveFrom a_leaveTo a_lateDay a_lateOffice a_lateBy a_guests a_who a_used a_lacks a_candles a_masses a_owing a_heldOn a_waits a_tape a_text a_statements a_taken a_sort a_first a_second : Nat} {v_today v_monks v_aways v_feasts v_gifts v_leaves v_lates v_store v_allCandles v_taped v_size v_at v_fault v_rules v_wordEnd v_number : Int32} {f_feastDay f_rank f_heldOn f_waits : Nat → Int32}  (h0_feasts : 0 ≤ v_feasts.toInt) (h1_feasts : v_feasts.toInt ≤ 40) : Met l yX12_holdsAll wsX12_holdsAll ({ frames := 0, cells := 0, slots := 0, locals := 0 }) (RW D cI cZ cB [.ref h] sz [(h, .inr (11, [.int v_today, .int v_monks, .int v_aways, .int v_feasts, .int v_gifts, .int v_leaves, .int v_lates, .int v_store, .int v_allCandles, .ref a_isPriest, .ref a_bars, .ref a_joined, .ref a_turns, .ref a_awayMonk, .ref a_awayFrom, .ref a_awayTo, .ref a_feastDay, .ref a_rank, .ref a_isWeekly, .ref a_isDouble, .ref a_giftDay, .ref a_giftFrom, .ref a_owed, .ref a_said, .ref a_spared, .ref a_leaveGift, .ref a_leaveFrom, .ref a_leaveTo, .ref a_lateDay, .ref a_lateOffice, .ref a_lateBy, .ref a_guests, .ref a_who, .ref a_used, .ref a_lacks, .ref a_candles, .ref a_masses, .ref a_owing, .ref a_heldOn, .ref a_waits, .ref a_tape, .ref a_text, .int v_taped, .int v_size, .int v_at, .int v_fault, .int v_rules, .ref a_statements, .ref a_taken, .ref a_sort, .ref a_first, .ref a_second, .int v_wordEnd, .int v_number])), (a_feastDay, .inl (cI, 40, .inl f_feastDay)), (a_rank, .inl (cI, 40, .inl f_rank)), (a_heldOn, .inl (cI, 365, .inl f_heldOn)), (a_waits, .inl (cZ, 40, .inl f_waits))]) (va_Qv (fun u : (Nat → Int32) × (Nat → Int32) => InR u.1 365 (-1) v_feasts.toInt) (BW D [(h, .inr (11, [.int v_today, .int v_monks, .int v_aways, .int v_feasts, .int v_gifts, .int v_leaves, .int v_lates, .int v_store, .int v_allCandles, .ref a_isPriest, .ref a_bars, .ref a_joined, .ref a_turns, .ref a_awayMonk, .ref a_awayFrom, .ref a_awayTo, .ref a_feastDay, .ref a_rank, .ref a_isWeekly, .ref a_isDouble, .ref a_giftDay, .ref a_giftFrom, .ref a_owed, .ref a_said, .ref a_spared, .ref a_leaveGift, .ref a_leaveFrom, .ref a_leaveTo, .ref a_lateDay, .ref a_lateOffice, .ref a_lateBy, .ref a_guests, .ref a_who, .ref a_used, .ref a_lacks, .ref a_candles, .ref a_masses, .ref a_owing, .ref a_heldOn, .ref a_waits, .ref a_tape, .ref a_text, .int v_taped, .int v_size, .int v_at, .int v_fault, .int v_rules, .ref a_statements, .ref a_taken, .ref a_sort, .ref a_first, .ref a_second, .int v_wordEnd, .int v_number])), (a_feastDay, .inl (cI, 40, .inl f_feastDay)), (a_rank, .inl (cI, 40, .inl f_rank)), (a_heldOn, .inl (cI, 365, .inl f_heldOn)), (a_waits, .inl (cZ, 40, .inl f_waits))] sz (fun u : (Nat → Int32) × (Nat → Int32) => [(h, .inr (11, [.int v_today, .int v_monks, .int v_aways, .int v_feasts, .int v_gifts, .int v_leaves, .int v_lates, .int v_store, .int v_allCandles, .ref a_isPriest, .ref a_bars, .ref a_joined, .ref a_turns, .ref a_awayMonk, .ref a_awayFrom, .ref a_awayTo, .ref a_feastDay, .ref a_rank, .ref a_isWeekly, .ref a_isDouble, .ref a_giftDay, .ref a_giftFrom, .ref a_owed, .ref a_said, .ref a_spared, .ref a_leaveGift, .ref a_leaveFrom, .ref a_leaveTo, .ref a_lateDay, .ref a_lateOffice, .ref a_lateBy, .ref a_guests, .ref a_who, .ref a_used, .ref a_lacks, .ref a_candles, .ref a_masses, .ref a_owing, .ref a_heldOn, .ref a_waits, .ref a_tape, .ref a_text, .int v_taped, .int v_size, .int v_at, .int v_fault, .int v_rules, .ref a_statements, .ref a_taken, .ref a_sort, .ref a_first, .ref a_second, .int v_wordEnd, .int v_number])), (a_feastDay, .inl (cI, 40, .inl f_feastDay)), (a_rank, .inl (cI, 40, .inl f_rank)), (a_heldOn, .inl (cI, 365, .inl u.1)), (a_waits, .inl (cZ, 40, .inl u.2))])) (va_A [(h, .inr (11, [.int v_today, .int v_monks, .int v_aways, .int v_feasts, .int v_gifts, .int v_leaves, .int v_lates, .int v_store, .int v_allCandles, .ref a_isPriest, .ref a_bars, .ref a_joined, .ref a_turns, .ref a_awayMonk, .ref a_awayFrom, .ref a_awayTo, .ref a_feastDay, .ref a_rank, .ref a_isWeekly, .ref a_isDouble, .ref a_giftDay, .ref a_giftFrom, .ref a_owed, .ref a_said, .ref a_spared, .ref a_leaveGift, .ref a_leaveFrom, .ref a_leaveTo, .ref a_lateDay, .ref a_lateOffice, .ref a_lateBy, .ref a_guests, .ref a_who, .ref a_used, .ref a_lacks, .ref a_candles, .ref a_masses, .ref a_owing, .ref a_heldOn, .ref a_waits, .ref a_tape, .ref a_text, .int v_taped, .int v_size, .int v_at, .int v_fault, .int v_rules, .ref a_statements, .ref a_taken, .ref a_sort, .ref a_first, .ref a_second, .int v_wordEnd, .int v_number])), (a_feastDay, .inl (cI, 40, .inl f_feastDay)), (a_rank, .inl (cI, 40, .inl f_rank)), (a_heldOn, .inl (cI, 365, .inl f_heldOn)), (a_waits, .inl (cZ, 40, .inl f_waits))] sz)) 0 0 (va_A [(h, .inr (11, [.int v_today, .int v_monks, .int v_aways, .int v_feasts, .int v_gifts, .int v_leaves, .int v_lates, .int v_store, .int v_allCandles, .ref a_isPriest, .ref a_bars, .ref a_joined, .ref a_turns, .ref a_awayMonk, .ref a_awayFrom, .ref a_awayTo, .ref a_feastDay, .ref a_rank, .ref a_isWeekly, .ref a_isDouble, .ref a_giftDay, .ref a_giftFrom, .ref a_owed, .ref a_said, .ref a_spared, .ref a_leaveGift, .ref a_leaveFrom, .ref a_leaveTo, .ref a_lateDay, .ref a_lateOffice, .ref a_lateBy, .ref a_guests, .ref a_who, .ref a_used, .ref a_lacks, .ref a_candles, .ref a_masses, .ref a_owing, .ref a_heldOn, .ref a_waits, .ref a_tape, .ref a_text, .int v_taped, .int v_size, .int v_at, .int v_fault, .int v_rules, .ref a_statements, .ref a_taken, .ref a_sort, .ref a_first, .ref a_second, .int v_wordEnd, .int v_number])), (a_feastDay, .inl (cI, 40, .inl f_feastDay)), (a_rank, .inl (cI, 40, .inl f_rank)), (a_heldOn, .inl (cI, 365, .inl f_heldOn)), (a_waits, .inl (cZ, 40, .inl f_waits))] sz) := by
  refine rw_retv (cc := cX12_holdsAll) (maxL := 5) (own := RX12) (by decide) rfl rfl (Nat.le_of_ble_eq_true rfl) ?_
  intro p e s m args below meth c Q A S hin hret hP hK hD hA hS ls hl
  obtain ⟨hx, hb, hml, hown, hts⟩ := id S
  have hl : lv_has ls 5 [(0, .ref h)] := hl
  have kkm1 : (-1 : Int32).toInt = -1 := by decide
  have kk0 : (0 : Int32).toInt = 0 := by decide
  have kk1 : (1 : Int32).toInt = 1 := by decide
  have kk365 : (365 : Int32).toInt = 365 := by decide
  have lk0 := hts (.fieldLink RX12 153 "AbbeyHoursModel" "feasts" "I") (List.mem_cons_of_mem _ (List.mem_append_left _ (List.mem_of_getElem? (i := 0) rfl)))
  have lk1 := hts (.fieldLink RX12 98 "AbbeyHoursModel" "heldOn" "[I") (List.mem_cons_of_mem _ (List.mem_append_left _ (List.mem_of_getElem? (i := 4) rfl)))
  have lk2 := hts (.fieldLink RX12 101 "AbbeyHoursModel" "waits" "[Z") (List.mem_cons_of_mem _ (List.mem_append_left _ (List.mem_of_getElem? (i := 1) rfl)))
  have lk3 := hts (.fieldLink RX12 35 "AbbeyHoursModel" "rank" "[I") (List.mem_cons_of_mem _ (List.mem_append_left _ (List.mem_of_getElem? (i := 3) rfl)))
  have lk4 := hts (.fieldLink RX12 32 "AbbeyHoursModel" "feastDay" "[I") (List.mem_cons_of_mem _ (List.mem_append_left _ (List.mem_of_getElem? (i := 2) rfl)))
  refine lv_iconst (v := 0) hx hb dX12_holdsAll_0 (by decide) ?_
  refine lv_istore_n (lv' := [(1, .int 0), (0, .ref h)]) hx hb dX12_holdsAll_1 rfl hl (by decide) rfl (fun ls hl => ?_)
  have loop2 : ∀ (fuel : Nat) (j : Int32) (fw : Nat → Int32), v_feasts.toInt - j.toInt < (fuel : Int) → (0 ≤ j.toInt) → (j.toInt ≤ v_feasts.toInt) → ∀ (H : Heap) (locs : List Loc), va_P D vwCl [(h, .inr (11, [.int v_today, .int v_monks, .int v_aways, .int v_feasts, .int v_gifts, .int v_leaves, .int v_lates, .int v_store, .int v_allCandles, .ref a_isPriest, .ref a_bars, .ref a_joined, .ref a_turns, .ref a_awayMonk, .ref a_awayFrom, .ref a_awayTo, .ref a_feastDay, .ref a_rank, .ref a_isWeekly, .ref a_isDouble, .ref a_giftDay, .ref a_giftFrom, .ref a_owed, .ref a_said, .ref a_spared, .ref a_leaveGift, .ref a_leaveFrom, .ref a_leaveTo, .ref a_lateDay, .ref a_lateOffice, .ref a_lateBy, .ref a_guests, .ref a_who, .ref a_used, .ref a_lacks, .ref a_candles, .ref a_masses, .ref a_owing, .ref a_heldOn, .ref a_waits, .ref a_tape, .ref a_text, .int v_taped, .int v_size, .int v_at, .int v_fault, .int v_rules, .ref a_statements, .ref a_taken, .ref a_sort, .ref a_first, .ref a_second, .int v_wordEnd, .int v_number])), (a_feastDay, .inl (cI, 40, .inl f_feastDay)), (a_rank, .inl (cI, 40, .inl f_rank)), (a_heldOn, .inl (cI, 365, .inl f_heldOn)), (a_waits, .inl (cZ, 40, .inl fw))] H → va_D A [(h, .inr (11, [.int v_today, .int v_monks, .int v_aways, .int v_feasts, .int v_gifts, .int v_leaves, .int v_lates, .int v_store, .int v_allCandles, .ref a_isPriest, .ref a_bars, .ref a_joined, .ref a_turns, .ref a_awayMonk, .ref a_awayFrom, .ref a_awayTo, .ref a_feastDay, .ref a_rank, .ref a_isWeekly, .ref a_isDouble, .ref a_giftDay, .ref a_giftFrom, .ref a_owed, .ref a_said, .ref a_spared, .ref a_leaveGift, .ref a_leaveFrom, .ref a_leaveTo, .ref a_lateDay, .ref a_lateOffice, .ref a_lateBy, .ref a_guests, .ref a_who, .ref a_used, .ref a_lacks, .ref a_candles, .ref a_masses, .ref a_owing, .ref a_heldOn, .ref a_waits, .ref a_tape, .ref a_text, .int v_taped, .int v_size, .int v_at, .int v_fault, .int v_rules, .ref a_statements, .ref a_taken, .ref a_sort, .ref a_first, .ref a_second, .int v_wordEnd, .int v_number])), (a_feastDay, .inl (cI, 40, .inl f_feastDay)), (a_rank, .inl (cI, 40, .inl f_rank)), (a_heldOn, .inl (cI, 365, .inl f_heldOn)), (a_waits, .inl (cZ, 40, .inl fw))] → va_S A s.heap H locs → ∀ ls : Array Slot, lv_has ls 5 [(1, .int j), (0, .ref h)] → W p l e ({ frames := 0, cells := 0, slots := 0, locals := 0 } : Room) s m args below meth c H locs 0 0 Q (F0 m 2 ls []) := by
    intro fuel
    induction fuel with
    | zero =>
      intro j fw hmu hj0 hj1 H locs hP hD hS ls hl
      exfalso; omega
    | succ fuel ih2 =>
      intro j fw hmu hj0 hj1 H locs hP hD hS ls hl
      refine lv_iload_n hx hb dX12_holdsAll_2 rfl (lv_at hl 0 rfl) ?_
      refine lv_aload_n hx hb dX12_holdsAll_3 rfl (lv_at hl 1 rfl) ?_
      refine va_get (D := D) (ci := 11) (v := .int v_feasts) (C := RX12) (T := TX12) (N := 54) hx hb hts in_n_holdsAll_X12 hown hK.1 hP 0 rfl rfl 3 (by decide) lk0 (fun _ h9 => h9) rfl dX12_holdsAll_4 ?_
      refine lv_icmp_ge (tgt := 23) hx hb dX12_holdsAll_7 (by decide) (fun c_1 => ?_) (fun c_1 => ?_)
      · have tc_1 := t_le c_1
        refine lv_iconst (v := 0) hx hb dX12_holdsAll_23 (by decide) ?_
        refine lv_istore_n (lv' := [(1, .int 0), (0, .ref h)]) hx hb dX12_holdsAll_24 rfl hl (by decide) rfl (fun ls hl => ?_)
        have loop25 : ∀ (fuel : Nat) (dd : Int32) (fr : Nat → Int32) (fw2 : Nat → Int32), 365 - dd.toInt < (fuel : Int) → (0 ≤ dd.toInt) → (dd.toInt ≤ 365) → (InR fr dd.toInt (-1) v_feasts.toInt) → ∀ (H : Heap) (locs : List Loc), va_P D vwCl [(h, .inr (11, [.int v_today, .int v_monks, .int v_aways, .int v_feasts, .int v_gifts, .int v_leaves, .int v_lates, .int v_store, .int v_allCandles, .ref a_isPriest, .ref a_bars, .ref a_joined, .ref a_turns, .ref a_awayMonk, .ref a_awayFrom, .ref a_awayTo, .ref a_feastDay, .ref a_rank, .ref a_isWeekly, .ref a_isDouble, .ref a_giftDay, .ref a_giftFrom, .ref a_owed, .ref a_said, .ref a_spared, .ref a_leaveGift, .ref a_leaveFrom, .ref a_leaveTo, .ref a_lateDay, .ref a_lateOffice, .ref a_lateBy, .ref a_guests, .ref a_who, .ref a_used, .ref a_lacks, .ref a_candles, .ref a_masses, .ref a_owing, .ref a_heldOn, .ref a_waits, .ref a_tape, .ref a_text, .int v_taped, .int v_size, .int v_at, .int v_fault, .int v_rules, .ref a_statements, .ref a_taken, .ref a_sort, .ref a_first, .ref a_second, .int v_wordEnd, .int v_number])), (a_feastDay, .inl (cI, 40, .inl f_feastDay)), (a_rank, .inl (cI, 40, .inl f_rank)), (a_heldOn, .inl (cI, 365, .inl fr)), (a_waits, .inl (cZ, 40, .inl fw2))] H → va_D A [(h, .inr (11, [.int v_today, .int v_monks, .int v_aways, .int v_feasts, .int v_gifts, .int v_leaves, .int v_lates, .int v_store, .int v_allCandles, .ref a_isPriest, .ref a_bars, .ref a_joined, .ref a_turns, .ref a_awayMonk, .ref a_awayFrom, .ref a_awayTo, .ref a_feastDay, .ref a_rank, .ref a_isWeekly, .ref a_isDouble, .ref a_giftDay, .ref a_giftFrom, .ref a_owed, .ref a_said, .ref a_spared, .ref a_leaveGift, .ref a_leaveFrom, .ref a_leaveTo, .ref a_lateDay, .ref a_lateOffice, .ref a_lateBy, .ref a_guests, .ref a_who, .ref a_used, .ref a_lacks, .ref a_candles, .ref a_masses, .ref a_owing, .ref a_heldOn, .ref a_waits, .ref a_tape, .ref a_text, .int v_taped, .int v_size, .int v_at, .int v_fault, .int v_rules, .ref a_statements, .ref a_taken, .ref a_sort, .ref a_first, .ref a_second, .int v_wordEnd, .int v_number])), (a_feastDay, .inl (cI, 40, .inl f_feastDay)), (a_rank, .inl (cI, 40, .inl f_rank)), (a_heldOn, .inl (cI, 365, .inl fr)), (a_waits, .inl (cZ, 40, .inl fw2))] → va_S A s.heap H locs → ∀ ls : Array Slot, lv_has ls 5 [(1, .int dd), (0, .ref h)] → W p l e ({ frames := 0, cells := 0, slots := 0, locals := 0 } : Room) s m args below meth c H locs 0 0 Q (F0 m 25 ls []) := by
          intro fuel
          induction fuel with
          | zero =>
            intro dd fr fw2 hmu hd0 hd1 hr H locs hP hD hS ls hl
            exfalso; omega
          | succ fuel ih25 =>
            intro dd fr fw2 hmu hd0 hd1 hr H locs hP hD hS ls hl
            refine lv_iload_n hx hb dX12_holdsAll_25 rfl (lv_at hl 0 rfl) ?_
            refine lv_sipush (v := 365) hx hb dX12_holdsAll_26 (by decide) ?_
            refine lv_icmp_ge (tgt := 227) hx hb dX12_holdsAll_29 (by decide) (fun c_2 => ?_) (fun c_2 => ?_)
            · have tc_2 := t_le c_2
              exact hret (fr, fw2) _ _ _ _ (show InR fr 365 (-1) v_feasts.toInt from hr.mono (by omega) (by omega) (by omega)) (hP.sub [0, 1, 2, 3, 4] rfl) (hD.sub [0, 1, 2, 3, 4] (by decide +kernel) rfl) hS dX12_holdsAll_227
            · have tc_2 := t_nle c_2
              refine lv_iconst (v := (-1)) hx hb dX12_holdsAll_32 (by decide) ?_
              refine lv_istore_n (lv' := [(2, .int (-1)), (1, .int dd), (0, .ref h)]) hx hb dX12_holdsAll_33 rfl hl (by decide) rfl (fun ls hl => ?_)
              refine lv_iconst (v := 0) hx hb dX12_holdsAll_34 (by decide) ?_
              refine lv_istore_n (lv' := [(3, .int 0), (2, .int (-1)), (1, .int dd), (0, .ref h)]) hx hb dX12_holdsAll_35 rfl hl (by decide) rfl (fun ls hl => ?_)
              have loop36 : ∀ (fuel : Nat) (a : Int32) (j : Int32), v_feasts.toInt - j.toInt < (fuel : Int) → (0 ≤ j.toInt) → (j.toInt ≤ v_feasts.toInt) → (a.toInt = -1 ∨ (0 ≤ a.toInt ∧ a.toInt < v_feasts.toInt)) → ∀ (H : Heap) (locs : List Loc), va_P D vwCl [(h, .inr (11, [.int v_today, .int v_monks, .int v_aways, .int v_feasts, .int v_gifts, .int v_leaves, .int v_lates, .int v_store, .int v_allCandles, .ref a_isPriest, .ref a_bars, .ref a_joined, .ref a_turns, .ref a_awayMonk, .ref a_awayFrom, .ref a_awayTo, .ref a_feastDay, .ref a_rank, .ref a_isWeekly, .ref a_isDouble, .ref a_giftDay, .ref a_giftFrom, .ref a_owed, .ref a_said, .ref a_spared, .ref a_leaveGift, .ref a_leaveFrom, .ref a_leaveTo, .ref a_lateDay, .ref a_lateOffice, .ref a_lateBy, .ref a_guests, .ref a_who, .ref a_used, .ref a_lacks, .ref a_candles, .ref a_masses, .ref a_owing, .ref a_heldOn, .ref a_waits, .ref a_tape, .ref a_text, .int v_taped, .int v_size, .int v_at, .int v_fault, .int v_rules, .ref a_statements, .ref a_taken, .ref a_sort, .ref a_first, .ref a_second, .int v_wordEnd, .int v_number])), (a_feastDay, .inl (cI, 40, .inl f_feastDay)), (a_rank, .inl (cI, 40, .inl f_rank)), (a_heldOn, .inl (cI, 365, .inl fr)), (a_waits, .inl (cZ, 40, .inl fw2))] H → va_D A [(h, .inr (11, [.int v_today, .int v_monks, .int v_aways, .int v_feasts, .int v_gifts, .int v_leaves, .int v_lates, .int v_store, .int v_allCandles, .ref a_isPriest, .ref a_bars, .ref a_joined, .ref a_turns, .ref a_awayMonk, .ref a_awayFrom, .ref a_awayTo, .ref a_feastDay, .ref a_rank, .ref a_isWeekly, .ref a_isDouble, .ref a_giftDay, .ref a_giftFrom, .ref a_owed, .ref a_said, .ref a_spared, .ref a_leaveGift, .ref a_leaveFrom, .ref a_leaveTo, .ref a_lateDay, .ref a_lateOffice, .ref a_lateBy, .ref a_guests, .ref a_who, .ref a_used, .ref a_lacks, .ref a_candles, .ref a_masses, .ref a_owing, .ref a_heldOn, .ref a_waits, .ref a_tape, .ref a_text, .int v_taped, .int v_size, .int v_at, .int v_fault, .int v_rules, .ref a_statements, .ref a_taken, .ref a_sort, .ref a_first, .ref a_second, .int v_wordEnd, .int v_number])), (a_feastDay, .inl (cI, 40, .inl f_feastDay)), (a_rank, .inl (cI, 40, .inl f_rank)), (a_heldOn, .inl (cI, 365, .inl fr)), (a_waits, .inl (cZ, 40, .inl fw2))] → va_S A s.heap H locs → ∀ ls : Array Slot, lv_has ls 5 [(3, .int j), (2, .int a), (1, .int dd), (0, .ref h)] → W p l e ({ frames := 0, cells := 0, slots := 0, locals := 0 } : Room) s m args below meth c H locs 0 0 Q (F0 m 36 ls []) := by
                intro fuel
                induction fuel with
                | zero =>
                  intro a j hmu hj0 hj1 ha H locs hP hD hS ls hl
                  exfalso; omega
                | succ fuel ih36 =>
                  intro a j hmu hj0 hj1 ha H locs hP hD hS ls hl
                  refine lv_iload_n hx hb dX12_holdsAll_36 rfl (lv_at hl 0 rfl) ?_
                  refine lv_aload_n hx hb dX12_holdsAll_37 rfl (lv_at hl 3 rfl) ?_
                  refine va_get (D := D) (ci := 11) (v := .int v_feasts) (C := RX12) (T := TX12) (N := 54) hx hb hts in_n_holdsAll_X12 hown hK.1 hP 0 rfl rfl 3 (by decide) lk0 (fun _ h9 => h9) rfl dX12_holdsAll_38 ?_
                  refine lv_icmp_ge (tgt := 153) hx hb dX12_holdsAll_41 (by decide) (fun c_3 => ?_) (fun c_3 => ?_)
                  · have tc_3 := t_le c_3
                    refine lv_aload_n hx hb dX12_holdsAll_153 rfl (lv_at hl 3 rfl) ?_
                    refine va_get (D := D) (ci := 11) (v := .ref a_heldOn) (C := RX12) (T := TX12) (N := 54) hx hb hts in_n_holdsAll_X12 hown hK.1 hP 0 rfl rfl 38 (by decide) lk1 (fun _ h9 => h9) rfl dX12_holdsAll_154 ?_
                    refine lv_iload_n hx hb dX12_holdsAll_157 rfl (lv_at hl 2 rfl) ?_
                    refine lv_iload_n hx hb dX12_holdsAll_158 rfl (lv_at hl 1 rfl) ?_
                    refine va_iast hx hb hK.1 hP hD hS 3 0 rfl rfl (t_in (by omega) (by omega)) dX12_holdsAll_159 (fun H locs hP hD hS => ?_)
                    obtain ⟨gh, egh⟩ : ∃ z : Nat → Int32, z = upd fr ((dd : Int32).toNatClampNeg) a := ⟨_, rfl⟩
                    rw [← egh] at hP hD
                    have hP : va_P D vwCl [(h, .inr (11, [.int v_today, .int v_monks, .int v_aways, .int v_feasts, .int v_gifts, .int v_leaves, .int v_lates, .int v_store, .int v_allCandles, .ref a_isPriest, .ref a_bars, .ref a_joined, .ref a_turns, .ref a_awayMonk, .ref a_awayFrom, .ref a_awayTo, .ref a_feastDay, .ref a_rank, .ref a_isWeekly, .ref a_isDouble, .ref a_giftDay, .ref a_giftFrom, .ref a_owed, .ref a_said, .ref a_spared, .ref a_leaveGift, .ref a_leaveFrom, .ref a_leaveTo, .ref a_lateDay, .ref a_lateOffice, .ref a_lateBy, .ref a_guests, .ref a_who, .ref a_used, .ref a_lacks, .ref a_candles, .ref a_masses, .ref a_owing, .ref a_heldOn, .ref a_waits, .ref a_tape, .ref a_text, .int v_taped, .int v_size, .int v_at, .int v_fault, .int v_rules, .ref a_statements, .ref a_taken, .ref a_sort, .ref a_first, .ref a_second, .int v_wordEnd, .int v_number])), (a_feastDay, .inl (cI, 40, .inl f_feastDay)), (a_rank, .inl (cI, 40, .inl f_rank)), (a_heldOn, .inl (cI, 365, .inl gh)), (a_waits, .inl (cZ, 40, .inl fw2))] H := hP
                    have hD : va_D A [(h, .inr (11, [.int v_today, .int v_monks, .int v_aways, .int v_feasts, .int v_gifts, .int v_leaves, .int v_lates, .int v_store, .int v_allCandles, .ref a_isPriest, .ref a_bars, .ref a_joined, .ref a_turns, .ref a_awayMonk, .ref a_awayFrom, .ref a_awayTo, .ref a_feastDay, .ref a_rank, .ref a_isWeekly, .ref a_isDouble, .ref a_giftDay, .ref a_giftFrom, .ref a_owed, .ref a_said, .ref a_spared, .ref a_leaveGift, .ref a_leaveFrom, .ref a_leaveTo, .ref a_lateDay, .ref a_lateOffice, .ref a_lateBy, .ref a_guests, .ref a_who, .ref a_used, .ref a_lacks, .ref a_candles, .ref a_masses, .ref a_owing, .ref a_heldOn, .ref a_waits, .ref a_tape, .ref a_text, .int v_taped, .int v_size, .int v_at, .int v_fault, .int v_rules, .ref a_statements, .ref a_taken, .ref a_sort, .ref a_first, .ref a_second, .int v_wordEnd, .int v_number])), (a_feastDay, .inl (cI, 40, .inl f_feastDay)), (a_rank, .inl (cI, 40, .inl f_rank)), (a_heldOn, .inl (cI, 365, .inl gh)), (a_waits, .inl (cZ, 40, .inl fw2))] := hD
                    refine lv_iconst (v := 0) hx hb dX12_holdsAll_160 (by decide) ?_
                    refine lv_istore_n (lv' := [(3, .int 0), (2, .int a), (1, .int dd), (0, .ref h)]) hx hb dX12_holdsAll_161 rfl hl (by decide) rfl (fun ls hl => ?_)
                    have loop162 : ∀ (fuel : Nat) (j : Int32) (fw3 : Nat → Int32), v_feasts.toInt - j.toInt < (fuel : Int) → (0 ≤ j.toInt) → (j.toInt ≤ v_feasts.toInt) → ∀ (H : Heap) (locs : List Loc), va_P D vwCl [(h, .inr (11, [.int v_today, .int v_monks, .int v_aways, .int v_feasts, .int v_gifts, .int v_leaves, .int v_lates, .int v_store, .int v_allCandles, .ref a_isPriest, .ref a_bars, .ref a_joined, .ref a_turns, .ref a_awayMonk, .ref a_awayFrom, .ref a_awayTo, .ref a_feastDay, .ref a_rank, .ref a_isWeekly, .ref a_isDouble, .ref a_giftDay, .ref a_giftFrom, .ref a_owed, .ref a_said, .ref a_spared, .ref a_leaveGift, .ref a_leaveFrom, .ref a_leaveTo, .ref a_lateDay, .ref a_lateOffice, .ref a_lateBy, .ref a_guests, .ref a_who, .ref a_used, .ref a_lacks, .ref a_candles, .ref a_masses, .ref a_owing, .ref a_heldOn, .ref a_waits, .ref a_tape, .ref a_text, .int v_taped, .int v_size, .int v_at, .int v_fault, .int v_rules, .ref a_statements, .ref a_taken, .ref a_sort, .ref a_first, .ref a_second, .int v_wordEnd, .int v_number])), (a_feastDay, .inl (cI, 40, .inl f_feastDay)), (a_rank, .inl (cI, 40, .inl f_rank)), (a_heldOn, .inl (cI, 365, .inl gh)), (a_waits, .inl (cZ, 40, .inl fw3))] H → va_D A [(h, .inr (11, [.int v_today, .int v_monks, .int v_aways, .int v_feasts, .int v_gifts, .int v_leaves, .int v_lates, .int v_store, .int v_allCandles, .ref a_isPriest, .ref a_bars, .ref a_joined, .ref a_turns, .ref a_awayMonk, .ref a_awayFrom, .ref a_awayTo, .ref a_feastDay, .ref a_rank, .ref a_isWeekly, .ref a_isDouble, .ref a_giftDay, .ref a_giftFrom, .ref a_owed, .ref a_said, .ref a_spared, .ref a_leaveGift, .ref a_leaveFrom, .ref a_leaveTo, .ref a_lateDay, .ref a_lateOffice, .ref a_lateBy, .ref a_guests, .ref a_who, .ref a_used, .ref a_lacks, .ref a_candles, .ref a_masses, .ref a_owing, .ref a_heldOn, .ref a_waits, .ref a_tape, .ref a_text, .int v_taped, .int v_size, .int v_at, .int v_fault, .int v_rules, .ref a_statements, .ref a_taken, .ref a_sort, .ref a_first, .ref a_second, .int v_wordEnd, .int v_number])), (a_feastDay, .inl (cI, 40, .inl f_feastDay)), (a_rank, .inl (cI, 40, .inl f_rank)), (a_heldOn, .inl (cI, 365, .inl gh)), (a_waits, .inl (cZ, 40, .inl fw3))] → va_S A s.heap H locs → ∀ ls : Array Slot, lv_has ls 5 [(3, .int j), (2, .int a), (1, .int dd), (0, .ref h)] → W p l e ({ frames := 0, cells := 0, slots := 0, locals := 0 } : Room) s m args below meth c H locs 0 0 Q (F0 m 162 ls []) := by
                      intro fuel
                      induction fuel with
                      | zero =>
                        intro j fw3 hmu hj0 hj1 H locs hP hD hS ls hl
                        exfalso; omega
                      | succ fuel ih162 =>
                        intro j fw3 hmu hj0 hj1 H locs hP hD hS ls hl
                        refine lv_iload_n hx hb dX12_holdsAll_162 rfl (lv_at hl 0 rfl) ?_
                        refine lv_aload_n hx hb dX12_holdsAll_163 rfl (lv_at hl 3 rfl) ?_
                        refine va_get (D := D) (ci := 11) (v := .int v_feasts) (C := RX12) (T := TX12) (N := 54) hx hb hts in_n_holdsAll_X12 hown hK.1 hP 0 rfl rfl 3 (by decide) lk0 (fun _ h9 => h9) rfl dX12_holdsAll_164 ?_
                        refine lv_icmp_ge (tgt := 221) hx hb dX12_holdsAll_167 (by decide) (fun c_5 => ?_) (fun c_5 => ?_)
                        · have tc_5 := t_le c_5
                          obtain ⟨x_6, ex_6⟩ : ∃ y : Int32, y = dd + 1 := ⟨_, rfl⟩
                          refine lv_iinc (v := x_6) (lv' := [(1, .int x_6), (3, .int j), (2, .int a), (0, .ref h)]) hx hb dX12_holdsAll_221 hl (k := 2) rfl (by rw [ex_6]; rfl) (by decide) rfl (fun ls hl => ?_)
                          first | have tx_6 := t_add ex_6 (by omega) (by omega) | skip
                          refine lv_goto (tgt := 25) hx hb dX12_holdsAll_224 (by decide) ?_
                          exact ih25 x_6 gh fw3 (by omega) (by omega) (by omega) (by rw [egh]; exact hr.ext (by omega) (by omega) (by omega) (by omega)) _ _ hP hD hS ls (lv_sub hl [0, 3] rfl)
                        · have tc_5 := t_nle c_5
                          refine lv_aload_n hx hb dX12_holdsAll_170 rfl (lv_at hl 3 rfl) ?_
                          refine va_get (D := D) (ci := 11) (v := .ref a_waits) (C := RX12) (T := TX12) (N := 54) hx hb hts in_n_holdsAll_X12 hown hK.1 hP 0 rfl rfl 39 (by decide) lk2 (fun _ h9 => h9) rfl dX12_holdsAll_171 ?_
                          refine lv_iload_n hx hb dX12_holdsAll_174 rfl (lv_at hl 0 rfl) ?_
                          refine lv_aload_n hx hb dX12_holdsAll_175 rfl (lv_at hl 3 rfl) ?_
                          refine va_get (D := D) (ci := 11) (v := .ref a_waits) (C := RX12) (T := TX12) (N := 54) hx hb hts in_n_holdsAll_X12 hown hK.1 hP 0 rfl rfl 39 (by decide) lk2 (fun _ h9 => h9) rfl dX12_holdsAll_176 ?_
                          refine lv_iload_n hx hb dX12_holdsAll_179 rfl (lv_at hl 0 rfl) ?_
                          refine va_zald hx hb hK.1 hP 4 1 rfl rfl (t_in (by omega) (by omega)) dX12_holdsAll_180 ?_
                          refine lv_topi (fun y_7 ey_7 => ?_)
                          refine lv_if_ne (tgt := 194) hx hb dX12_holdsAll_181 (by decide) (fun c_8 => ?_) (fun c_8 => ?_)
                          · have tc_8 := t_neq c_8
                            refine lv_iload_n hx hb dX12_holdsAll_194 rfl (lv_at hl 0 rfl) ?_
                            refine lv_iload_n hx hb dX12_holdsAll_195 rfl (lv_at hl 1 rfl) ?_
                            refine lv_icmp_eq (tgt := 213) hx hb dX12_holdsAll_196 (by decide) (fun c_9 => ?_) (fun c_9 => ?_)
                            · have tc_9 := t_eq c_9
                              refine lv_iconst (v := 0) hx hb dX12_holdsAll_213 (by decide) ?_
                              refine va_zast hx hb hK.1 hP hD hS 4 1 rfl rfl (t_in (by omega) (by omega)) dX12_holdsAll_214 (fun H locs hP hD hS => ?_)
                              obtain ⟨g_10, eg_10⟩ : ∃ z : Nat → Int32, z = upd fw3 ((j : Int32).toNatClampNeg) (vp_nar .boolean 0) := ⟨_, rfl⟩
                              rw [← eg_10] at hP hD
                              have hP : va_P D vwCl [(h, .inr (11, [.int v_today, .int v_monks, .int v_aways, .int v_feasts, .int v_gifts, .int v_leaves, .int v_lates, .int v_store, .int v_allCandles, .ref a_isPriest, .ref a_bars, .ref a_joined, .ref a_turns, .ref a_awayMonk, .ref a_awayFrom, .ref a_awayTo, .ref a_feastDay, .ref a_rank, .ref a_isWeekly, .ref a_isDouble, .ref a_giftDay, .ref a_giftFrom, .ref a_owed, .ref a_said, .ref a_spared, .ref a_leaveGift, .ref a_leaveFrom, .ref a_leaveTo, .ref a_lateDay, .ref a_lateOffice, .ref a_lateBy, .ref a_guests, .ref a_who, .ref a_used, .ref a_lacks, .ref a_candles, .ref a_masses, .ref a_owing, .ref a_heldOn, .ref a_waits, .ref a_tape, .ref a_text, .int v_taped, .int v_size, .int v_at, .int v_fault, .int v_rules, .ref a_statements, .ref a_taken, .ref a_sort, .ref a_first, .ref a_second, .int v_wordEnd, .int v_number])), (a_feastDay, .inl (cI, 40, .inl f_feastDay)), (a_rank, .inl (cI, 40, .inl f_rank)), (a_heldOn, .inl (cI, 365, .inl gh)), (a_waits, .inl (cZ, 40, .inl g_10))] H := hP
                              have hD : va_D A [(h, .inr (11, [.int v_today, .int v_monks, .int v_aways, .int v_feasts, .int v_gifts, .int v_leaves, .int v_lates, .int v_store, .int v_allCandles, .ref a_isPriest, .ref a_bars, .ref a_joined, .ref a_turns, .ref a_awayMonk, .ref a_awayFrom, .ref a_awayTo, .ref a_feastDay, .ref a_rank, .ref a_isWeekly, .ref a_isDouble, .ref a_giftDay, .ref a_giftFrom, .ref a_owed, .ref a_said, .ref a_spared, .ref a_leaveGift, .ref a_leaveFrom, .ref a_leaveTo, .ref a_lateDay, .ref a_lateOffice, .ref a_lateBy, .ref a_guests, .ref a_who, .ref a_used, .ref a_lacks, .ref a_candles, .ref a_masses, .ref a_owing, .ref a_heldOn, .ref a_waits, .ref a_tape, .ref a_text, .int v_taped, .int v_size, .int v_at, .int v_fault, .int v_rules, .ref a_statements, .ref a_taken, .ref a_sort, .ref a_first, .ref a_second, .int v_wordEnd, .int v_number])), (a_feastDay, .inl (cI, 40, .inl f_feastDay)), (a_rank, .inl (cI, 40, .inl f_rank)), (a_heldOn, .inl (cI, 365, .inl gh)), (a_waits, .inl (cZ, 40, .inl g_10))] := hD
                              obtain ⟨x_11, ex_11⟩ : ∃ y : Int32, y = j + 1 := ⟨_, rfl⟩
                              refine lv_iinc (v := x_11) (lv' := [(3, .int x_11), (2, .int a), (1, .int dd), (0, .ref h)]) hx hb dX12_holdsAll_215 hl (k := 0) rfl (by rw [ex_11]; rfl) (by decide) rfl (fun ls hl => ?_)
                              first | have tx_11 := t_add ex_11 (by omega) (by omega) | skip
                              refine lv_goto (tgt := 162) hx hb dX12_holdsAll_218 (by decide) ?_
                              exact ih162 x_11 g_10 (by omega) (by omega) (by omega) _ _ hP hD hS ls (lv_sub hl [0, 1, 2, 3] rfl)
                            · have tc_9 := t_neq c_9
                              refine lv_aload_n hx hb dX12_holdsAll_199 rfl (lv_at hl 3 rfl) ?_
                              refine va_get (D := D) (ci := 11) (v := .ref a_rank) (C := RX12) (T := TX12) (N := 54) hx hb hts in_n_holdsAll_X12 hown hK.1 hP 0 rfl rfl 17 (by decide) lk3 (fun _ h9 => h9) rfl dX12_holdsAll_200 ?_
                              refine lv_iload_n hx hb dX12_holdsAll_203 rfl (lv_at hl 0 rfl) ?_
                              refine va_iald hx hb hK.1 hP 2 0 rfl rfl (t_in (by omega) (by omega)) dX12_holdsAll_204 ?_
                              refine lv_topi (fun y_12 ey_12 => ?_)
                              refine lv_iconst (v := 1) hx hb dX12_holdsAll_205 (by decide) ?_
                              refine lv_icmp_le (tgt := 213) hx hb dX12_holdsAll_206 (by decide) (fun c_13 => ?_) (fun c_13 => ?_)
                              · have tc_13 := t_le c_13
                                refine lv_iconst (v := 0) hx hb dX12_holdsAll_213 (by decide) ?_
                                refine va_zast hx hb hK.1 hP hD hS 4 1 rfl rfl (t_in (by omega) (by omega)) dX12_holdsAll_214 (fun H locs hP hD hS => ?_)
                                obtain ⟨g_14, eg_14⟩ : ∃ z : Nat → Int32, z = upd fw3 ((j : Int32).toNatClampNeg) (vp_nar .boolean 0) := ⟨_, rfl⟩
                                rw [← eg_14] at hP hD
                                have hP : va_P D vwCl [(h, .inr (11, [.int v_today, .int v_monks, .int v_aways, .int v_feasts, .int v_gifts, .int v_leaves, .int v_lates, .int v_store, .int v_allCandles, .ref a_isPriest, .ref a_bars, .ref a_joined, .ref a_turns, .ref a_awayMonk, .ref a_awayFrom, .ref a_awayTo, .ref a_feastDay, .ref a_rank, .ref a_isWeekly, .ref a_isDouble, .ref a_giftDay, .ref a_giftFrom, .ref a_owed, .ref a_said, .ref a_spared, .ref a_leaveGift, .ref a_leaveFrom, .ref a_leaveTo, .ref a_lateDay, .ref a_lateOffice, .ref a_lateBy, .ref a_guests, .ref a_who, .ref a_used, .ref a_lacks, .ref a_candles, .ref a_masses, .ref a_owing, .ref a_heldOn, .ref a_waits, .ref a_tape, .ref a_text, .int v_taped, .int v_size, .int v_at, .int v_fault, .int v_rules, .ref a_statements, .ref a_taken, .ref a_sort, .ref a_first, .ref a_second, .int v_wordEnd, .int v_number])), (a_feastDay, .inl (cI, 40, .inl f_feastDay)), (a_rank, .inl (cI, 40, .inl f_rank)), (a_heldOn, .inl (cI, 365, .inl gh)), (a_waits, .inl (cZ, 40, .inl g_14))] H := hP
                                have hD : va_D A [(h, .inr (11, [.int v_today, .int v_monks, .int v_aways, .int v_feasts, .int v_gifts, .int v_leaves, .int v_lates, .int v_store, .int v_allCandles, .ref a_isPriest, .ref a_bars, .ref a_joined, .ref a_turns, .ref a_awayMonk, .ref a_awayFrom, .ref a_awayTo, .ref a_feastDay, .ref a_rank, .ref a_isWeekly, .ref a_isDouble, .ref a_giftDay, .ref a_giftFrom, .ref a_owed, .ref a_said, .ref a_spared, .ref a_leaveGift, .ref a_leaveFrom, .ref a_leaveTo, .ref a_lateDay, .ref a_lateOffice, .ref a_lateBy, .ref a_guests, .ref a_who, .ref a_used, .ref a_lacks, .ref a_candles, .ref a_masses, .ref a_owing, .ref a_heldOn, .ref a_waits, .ref a_tape, .ref a_text, .int v_taped, .int v_size, .int v_at, .int v_fault, .int v_rules, .ref a_statements, .ref a_taken, .ref a_sort, .ref a_first, .ref a_second, .int v_wordEnd, .int v_number])), (a_feastDay, .inl (cI, 40, .inl f_feastDay)), (a_rank, .inl (cI, 40, .inl f_rank)), (a_heldOn, .inl (cI, 365, .inl gh)), (a_waits, .inl (cZ, 40, .inl g_14))] := hD
                                obtain ⟨x_15, ex_15⟩ : ∃ y : Int32, y = j + 1 := ⟨_, rfl⟩
                                refine lv_iinc (v := x_15) (lv' := [(3, .int x_15), (2, .int a), (1, .int dd), (0, .ref h)]) hx hb dX12_holdsAll_215 hl (k := 0) rfl (by rw [ex_15]; rfl) (by decide) rfl (fun ls hl => ?_)
                                first | have tx_15 := t_add ex_15 (by omega) (by omega) | skip
                                refine lv_goto (tgt := 162) hx hb dX12_holdsAll_218 (by decide) ?_
                                exact ih162 x_15 g_14 (by omega) (by omega) (by omega) _ _ hP hD hS ls (lv_sub hl [0, 1, 2, 3] rfl)
                              · have tc_13 := t_nle c_13
                                refine lv_iconst (v := 1) hx hb dX12_holdsAll_209 (by decide) ?_
                                refine lv_goto (tgt := 214) hx hb dX12_holdsAll_210 (by decide) ?_
                                refine va_zast hx hb hK.1 hP hD hS 4 1 rfl rfl (t_in (by omega) (by omega)) dX12_holdsAll_214 (fun H locs hP hD hS => ?_)
                                obtain ⟨g_16, eg_16⟩ : ∃ z : Nat → Int32, z = upd fw3 ((j : Int32).toNatClampNeg) (vp_nar .boolean 1) := ⟨_, rfl⟩
                                rw [← eg_16] at hP hD
                                have hP : va_P D vwCl [(h, .inr (11, [.int v_today, .int v_monks, .int v_aways, .int v_feasts, .int v_gifts, .int v_leaves, .int v_lates, .int v_store, .int v_allCandles, .ref a_isPriest, .ref a_bars, .ref a_joined, .ref a_turns, .ref a_awayMonk, .ref a_awayFrom, .ref a_awayTo, .ref a_feastDay, .ref a_rank, .ref a_isWeekly, .ref a_isDouble, .ref a_giftDay, .ref a_giftFrom, .ref a_owed, .ref a_said, .ref a_spared, .ref a_leaveGift, .ref a_leaveFrom, .ref a_leaveTo, .ref a_lateDay, .ref a_lateOffice, .ref a_lateBy, .ref a_guests, .ref a_who, .ref a_used, .ref a_lacks, .ref a_candles, .ref a_masses, .ref a_owing, .ref a_heldOn, .ref a_waits, .ref a_tape, .ref a_text, .int v_taped, .int v_size, .int v_at, .int v_fault, .int v_rules, .ref a_statements, .ref a_taken, .ref a_sort, .ref a_first, .ref a_second, .int v_wordEnd, .int v_number])), (a_feastDay, .inl (cI, 40, .inl f_feastDay)), (a_rank, .inl (cI, 40, .inl f_rank)), (a_heldOn, .inl (cI, 365, .inl gh)), (a_waits, .inl (cZ, 40, .inl g_16))] H := hP
                                have hD : va_D A [(h, .inr (11, [.int v_today, .int v_monks, .int v_aways, .int v_feasts, .int v_gifts, .int v_leaves, .int v_lates, .int v_store, .int v_allCandles, .ref a_isPriest, .ref a_bars, .ref a_joined, .ref a_turns, .ref a_awayMonk, .ref a_awayFrom, .ref a_awayTo, .ref a_feastDay, .ref a_rank, .ref a_isWeekly, .ref a_isDouble, .ref a_giftDay, .ref a_giftFrom, .ref a_owed, .ref a_said, .ref a_spared, .ref a_leaveGift, .ref a_leaveFrom, .ref a_leaveTo, .ref a_lateDay, .ref a_lateOffice, .ref a_lateBy, .ref a_guests, .ref a_who, .ref a_used, .ref a_lacks, .ref a_candles, .ref a_masses, .ref a_owing, .ref a_heldOn, .ref a_waits, .ref a_tape, .ref a_text, .int v_taped, .int v_size, .int v_at, .int v_fault, .int v_rules, .ref a_statements, .ref a_taken, .ref a_sort, .ref a_first, .ref a_second, .int v_wordEnd, .int v_number])), (a_feastDay, .inl (cI, 40, .inl f_feastDay)), (a_rank, .inl (cI, 40, .inl f_rank)), (a_heldOn, .inl (cI, 365, .inl gh)), (a_waits, .inl (cZ, 40, .inl g_16))] := hD
                                obtain ⟨x_17, ex_17⟩ : ∃ y : Int32, y = j + 1 := ⟨_, rfl⟩
                                refine lv_iinc (v := x_17) (lv' := [(3, .int x_17), (2, .int a), (1, .int dd), (0, .ref h)]) hx hb dX12_holdsAll_215 hl (k := 0) rfl (by rw [ex_17]; rfl) (by decide) rfl (fun ls hl => ?_)
                                first | have tx_17 := t_add ex_17 (by omega) (by omega) | skip
                                refine lv_goto (tgt := 162) hx hb dX12_holdsAll_218 (by decide) ?_
                                exact ih162 x_17 g_16 (by omega) (by omega) (by omega) _ _ hP hD hS ls (lv_sub hl [0, 1, 2, 3] rfl)
                          · have tc_8 := t_eq c_8
                            refine lv_aload_n hx hb dX12_holdsAll_184 rfl (lv_at hl 3 rfl) ?_
                            refine va_get (D := D) (ci := 11) (v := .ref a_feastDay) (C := RX12) (T := TX12) (N := 54) hx hb hts in_n_holdsAll_X12 hown hK.1 hP 0 rfl rfl 16 (by decide) lk4 (fun _ h9 => h9) rfl dX12_holdsAll_185 ?_
                            refine lv_iload_n hx hb dX12_holdsAll_188 rfl (lv_at hl 0 rfl) ?_
                            refine va_iald hx hb hK.1 hP 1 0 rfl rfl (t_in (by omega) (by omega)) dX12_holdsAll_189 ?_
                            refine lv_topi (fun y_18 ey_18 => ?_)
                            refine lv_iload_n hx hb dX12_holdsAll_190 rfl (lv_at hl 2 rfl) ?_
                            refine lv_icmp_ne (tgt := 213) hx hb dX12_holdsAll_191 (by decide) (fun c_19 => ?_) (fun c_19 => ?_)
                            · have tc_19 := t_neq c_19
                              refine lv_iconst (v := 0) hx hb dX12_holdsAll_213 (by decide) ?_
                              refine va_zast hx hb hK.1 hP hD hS 4 1 rfl rfl (t_in (by omega) (by omega)) dX12_holdsAll_214 (fun H locs hP hD hS => ?_)
                              obtain ⟨g_20, eg_20⟩ : ∃ z : Nat → Int32, z = upd fw3 ((j : Int32).toNatClampNeg) (vp_nar .boolean 0) := ⟨_, rfl⟩
                              rw [← eg_20] at hP hD
                              have hP : va_P D vwCl [(h, .inr (11, [.int v_today, .int v_monks, .int v_aways, .int v_feasts, .int v_gifts, .int v_leaves, .int v_lates, .int v_store, .int v_allCandles, .ref a_isPriest, .ref a_bars, .ref a_joined, .ref a_turns, .ref a_awayMonk, .ref a_awayFrom, .ref a_awayTo, .ref a_feastDay, .ref a_rank, .ref a_isWeekly, .ref a_isDouble, .ref a_giftDay, .ref a_giftFrom, .ref a_owed, .ref a_said, .ref a_spared, .ref a_leaveGift, .ref a_leaveFrom, .ref a_leaveTo, .ref a_lateDay, .ref a_lateOffice, .ref a_lateBy, .ref a_guests, .ref a_who, .ref a_used, .ref a_lacks, .ref a_candles, .ref a_masses, .ref a_owing, .ref a_heldOn, .ref a_waits, .ref a_tape, .ref a_text, .int v_taped, .int v_size, .int v_at, .int v_fault, .int v_rules, .ref a_statements, .ref a_taken, .ref a_sort, .ref a_first, .ref a_second, .int v_wordEnd, .int v_number])), (a_feastDay, .inl (cI, 40, .inl f_feastDay)), (a_rank, .inl (cI, 40, .inl f_rank)), (a_heldOn, .inl (cI, 365, .inl gh)), (a_waits, .inl (cZ, 40, .inl g_20))] H := hP
                              have hD : va_D A [(h, .inr (11, [.int v_today, .int v_monks, .int v_aways, .int v_feasts, .int v_gifts, .int v_leaves, .int v_lates, .int v_store, .int v_allCandles, .ref a_isPriest, .ref a_bars, .ref a_joined, .ref a_turns, .ref a_awayMonk, .ref a_awayFrom, .ref a_awayTo, .ref a_feastDay, .ref a_rank, .ref a_isWeekly, .ref a_isDouble, .ref a_giftDay, .ref a_giftFrom, .ref a_owed, .ref a_said, .ref a_spared, .ref a_leaveGift, .ref a_leaveFrom, .ref a_leaveTo, .ref a_lateDay, .ref a_lateOffice, .ref a_lateBy, .ref a_guests, .ref a_who, .ref a_used, .ref a_lacks, .ref a_candles, .ref a_masses, .ref a_owing, .ref a_heldOn, .ref a_waits, .ref a_tape, .ref a_text, .int v_taped, .int v_size, .int v_at, .int v_fault, .int v_rules, .ref a_statements, .ref a_taken, .ref a_sort, .ref a_first, .ref a_second, .int v_wordEnd, .int v_number])), (a_feastDay, .inl (cI, 40, .inl f_feastDay)), (a_rank, .inl (cI, 40, .inl f_rank)), (a_heldOn, .inl (cI, 365, .inl gh)), (a_waits, .inl (cZ, 40, .inl g_20))] := hD
                              obtain ⟨x_21, ex_21⟩ : ∃ y : Int32, y = j + 1 := ⟨_, rfl⟩
                              refine lv_iinc (v := x_21) (lv' := [(3, .int x_21), (2, .int a), (1, .int dd), (0, .ref h)]) hx hb dX12_holdsAll_215 hl (k := 0) rfl (by rw [ex_21]; rfl) (by decide) rfl (fun ls hl => ?_)
                              first | have tx_21 := t_add ex_21 (by omega) (by omega) | skip
                              refine lv_goto (tgt := 162) hx hb dX12_holdsAll_218 (by decide) ?_
                              exact ih162 x_21 g_20 (by omega) (by omega) (by omega) _ _ hP hD hS ls (lv_sub hl [0, 1, 2, 3] rfl)
                            · have tc_19 := t_eq c_19
                              refine lv_iload_n hx hb dX12_holdsAll_194 rfl (lv_at hl 0 rfl) ?_
                              refine lv_iload_n hx hb dX12_holdsAll_195 rfl (lv_at hl 1 rfl) ?_
                              refine lv_icmp_eq (tgt := 213) hx hb dX12_holdsAll_196 (by decide) (fun c_22 => ?_) (fun c_22 => ?_)
                              · have tc_22 := t_eq c_22
                                refine lv_iconst (v := 0) hx hb dX12_holdsAll_213 (by decide) ?_
                                refine va_zast hx hb hK.1 hP hD hS 4 1 rfl rfl (t_in (by omega) (by omega)) dX12_holdsAll_214 (fun H locs hP hD hS => ?_)
                                obtain ⟨g_23, eg_23⟩ : ∃ z : Nat → Int32, z = upd fw3 ((j : Int32).toNatClampNeg) (vp_nar .boolean 0) := ⟨_, rfl⟩
                                rw [← eg_23] at hP hD
                                have hP : va_P D vwCl [(h, .inr (11, [.int v_today, .int v_monks, .int v_aways, .int v_feasts, .int v_gifts, .int v_leaves, .int v_lates, .int v_store, .int v_allCandles, .ref a_isPriest, .ref a_bars, .ref a_joined, .ref a_turns, .ref a_awayMonk, .ref a_awayFrom, .ref a_awayTo, .ref a_feastDay, .ref a_rank, .ref a_isWeekly, .ref a_isDouble, .ref a_giftDay, .ref a_giftFrom, .ref a_owed, .ref a_said, .ref a_spared, .ref a_leaveGift, .ref a_leaveFrom, .ref a_leaveTo, .ref a_lateDay, .ref a_lateOffice, .ref a_lateBy, .ref a_guests, .ref a_who, .ref a_used, .ref a_lacks, .ref a_candles, .ref a_masses, .ref a_owing, .ref a_heldOn, .ref a_waits, .ref a_tape, .ref a_text, .int v_taped, .int v_size, .int v_at, .int v_fault, .int v_rules, .ref a_statements, .ref a_taken, .ref a_sort, .ref a_first, .ref a_second, .int v_wordEnd, .int v_number])), (a_feastDay, .inl (cI, 40, .inl f_feastDay)), (a_rank, .inl (cI, 40, .inl f_rank)), (a_heldOn, .inl (cI, 365, .inl gh)), (a_waits, .inl (cZ, 40, .inl g_23))] H := hP
                                have hD : va_D A [(h, .inr (11, [.int v_today, .int v_monks, .int v_aways, .int v_feasts, .int v_gifts, .int v_leaves, .int v_lates, .int v_store, .int v_allCandles, .ref a_isPriest, .ref a_bars, .ref a_joined, .ref a_turns, .ref a_awayMonk, .ref a_awayFrom, .ref a_awayTo, .ref a_feastDay, .ref a_rank, .ref a_isWeekly, .ref a_isDouble, .ref a_giftDay, .ref a_giftFrom, .ref a_owed, .ref a_said, .ref a_spared, .ref a_leaveGift, .ref a_leaveFrom, .ref a_leaveTo, .ref a_lateDay, .ref a_lateOffice, .ref a_lateBy, .ref a_guests, .ref a_who, .ref a_used, .ref a_lacks, .ref a_candles, .ref a_masses, .ref a_owing, .ref a_heldOn, .ref a_waits, .ref a_tape, .ref a_text, .int v_taped, .int v_size, .int v_at, .int v_fault, .int v_rules, .ref a_statements, .ref a_taken, .ref a_sort, .ref a_first, .ref a_second, .int v_wordEnd, .int v_number])), (a_feastDay, .inl (cI, 40, .inl f_feastDay)), (a_rank, .inl (cI, 40, .inl f_rank)), (a_heldOn, .inl (cI, 365, .inl gh)), (a_waits, .inl (cZ, 40, .inl g_23))] := hD
                                obtain ⟨x_24, ex_24⟩ : ∃ y : Int32, y = j + 1 := ⟨_, rfl⟩
                                refine lv_iinc (v := x_24) (lv' := [(3, .int x_24), (2, .int a), (1, .int dd), (0, .ref h)]) hx hb dX12_holdsAll_215 hl (k := 0) rfl (by rw [ex_24]; rfl) (by decide) rfl (fun ls hl => ?_)
                                first | have tx_24 := t_add ex_24 (by omega) (by omega) | skip
                                refine lv_goto (tgt := 162) hx hb dX12_holdsAll_218 (by decide) ?_
                                exact ih162 x_24 g_23 (by omega) (by omega) (by omega) _ _ hP hD hS ls (lv_sub hl [0, 1, 2, 3] rfl)
                              · have tc_22 := t_neq c_22
                                refine lv_aload_n hx hb dX12_holdsAll_199 rfl (lv_at hl 3 rfl) ?_
                                refine va_get (D := D) (ci := 11) (v := .ref a_rank) (C := RX12) (T := TX12) (N := 54) hx hb hts in_n_holdsAll_X12 hown hK.1 hP 0 rfl rfl 17 (by decide) lk3 (fun _ h9 => h9) rfl dX12_holdsAll_200 ?_
                                refine lv_iload_n hx hb dX12_holdsAll_203 rfl (lv_at hl 0 rfl) ?_
                                refine va_iald hx hb hK.1 hP 2 0 rfl rfl (t_in (by omega) (by omega)) dX12_holdsAll_204 ?_
                                refine lv_topi (fun y_25 ey_25 => ?_)
                                refine lv_iconst (v := 1) hx hb dX12_holdsAll_205 (by decide) ?_
                                refine lv_icmp_le (tgt := 213) hx hb dX12_holdsAll_206 (by decide) (fun c_26 => ?_) (fun c_26 => ?_)
                                · have tc_26 := t_le c_26
                                  refine lv_iconst (v := 0) hx hb dX12_holdsAll_213 (by decide) ?_
                                  refine va_zast hx hb hK.1 hP hD hS 4 1 rfl rfl (t_in (by omega) (by omega)) dX12_holdsAll_214 (fun H locs hP hD hS => ?_)
                                  obtain ⟨g_27, eg_27⟩ : ∃ z : Nat → Int32, z = upd fw3 ((j : Int32).toNatClampNeg) (vp_nar .boolean 0) := ⟨_, rfl⟩
                                  rw [← eg_27] at hP hD
                                  have hP : va_P D vwCl [(h, .inr (11, [.int v_today, .int v_monks, .int v_aways, .int v_feasts, .int v_gifts, .int v_leaves, .int v_lates, .int v_store, .int v_allCandles, .ref a_isPriest, .ref a_bars, .ref a_joined, .ref a_turns, .ref a_awayMonk, .ref a_awayFrom, .ref a_awayTo, .ref a_feastDay, .ref a_rank, .ref a_isWeekly, .ref a_isDouble, .ref a_giftDay, .ref a_giftFrom, .ref a_owed, .ref a_said, .ref a_spared, .ref a_leaveGift, .ref a_leaveFrom, .ref a_leaveTo, .ref a_lateDay, .ref a_lateOffice, .ref a_lateBy, .ref a_guests, .ref a_who, .ref a_used, .ref a_lacks, .ref a_candles, .ref a_masses, .ref a_owing, .ref a_heldOn, .ref a_waits, .ref a_tape, .ref a_text, .int v_taped, .int v_size, .int v_at, .int v_fault, .int v_rules, .ref a_statements, .ref a_taken, .ref a_sort, .ref a_first, .ref a_second, .int v_wordEnd, .int v_number])), (a_feastDay, .inl (cI, 40, .inl f_feastDay)), (a_rank, .inl (cI, 40, .inl f_rank)), (a_heldOn, .inl (cI, 365, .inl gh)), (a_waits, .inl (cZ, 40, .inl g_27))] H := hP
                                  have hD : va_D A [(h, .inr (11, [.int v_today, .int v_monks, .int v_aways, .int v_feasts, .int v_gifts, .int v_leaves, .int v_lates, .int v_store, .int v_allCandles, .ref a_isPriest, .ref a_bars, .ref a_joined, .ref a_turns, .ref a_awayMonk, .ref a_awayFrom, .ref a_awayTo, .ref a_feastDay, .ref a_rank, .ref a_isWeekly, .ref a_isDouble, .ref a_giftDay, .ref a_giftFrom, .ref a_owed, .ref a_said, .ref a_spared, .ref a_leaveGift, .ref a_leaveFrom, .ref a_leaveTo, .ref a_lateDay, .ref a_lateOffice, .ref a_lateBy, .ref a_guests, .ref a_who, .ref a_used, .ref a_lacks, .ref a_candles, .ref a_masses, .ref a_owing, .ref a_heldOn, .ref a_waits, .ref a_tape, .ref a_text, .int v_taped, .int v_size, .int v_at, .int v_fault, .int v_rules, .ref a_statements, .ref a_taken, .ref a_sort, .ref a_first, .ref a_second, .int v_wordEnd, .int v_number])), (a_feastDay, .inl (cI, 40, .inl f_feastDay)), (a_rank, .inl (cI, 40, .inl f_rank)), (a_heldOn, .inl (cI, 365, .inl gh)), (a_waits, .inl (cZ, 40, .inl g_27))] := hD
                                  obtain ⟨x_28, ex_28⟩ : ∃ y : Int32, y = j + 1 := ⟨_, rfl⟩
                                  refine lv_iinc (v := x_28) (lv' := [(3, .int x_28), (2, .int a), (1, .int dd), (0, .ref h)]) hx hb dX12_holdsAll_215 hl (k := 0) rfl (by rw [ex_28]; rfl) (by decide) rfl (fun ls hl => ?_)
                                  first | have tx_28 := t_add ex_28 (by omega) (by omega) | skip
                                  refine lv_goto (tgt := 162) hx hb dX12_holdsAll_218 (by decide) ?_
                                  exact ih162 x_28 g_27 (by omega) (by omega) (by omega) _ _ hP hD hS ls (lv_sub hl [0, 1, 2, 3] rfl)
                                · have tc_26 := t_nle c_26
                                  refine lv_iconst (v := 1) hx hb dX12_holdsAll_209 (by decide) ?_
                                  refine lv_goto (tgt := 214) hx hb dX12_holdsAll_210 (by decide) ?_
                                  refine va_zast hx hb hK.1 hP hD hS 4 1 rfl rfl (t_in (by omega) (by omega)) dX12_holdsAll_214 (fun H locs hP hD hS => ?_)
                                  obtain ⟨g_29, eg_29⟩ : ∃ z : Nat → Int32, z = upd fw3 ((j : Int32).toNatClampNeg) (vp_nar .boolean 1) := ⟨_, rfl⟩
                                  rw [← eg_29] at hP hD
                                  have hP : va_P D vwCl [(h, .inr (11, [.int v_today, .int v_monks, .int v_aways, .int v_feasts, .int v_gifts, .int v_leaves, .int v_lates, .int v_store, .int v_allCandles, .ref a_isPriest, .ref a_bars, .ref a_joined, .ref a_turns, .ref a_awayMonk, .ref a_awayFrom, .ref a_awayTo, .ref a_feastDay, .ref a_rank, .ref a_isWeekly, .ref a_isDouble, .ref a_giftDay, .ref a_giftFrom, .ref a_owed, .ref a_said, .ref a_spared, .ref a_leaveGift, .ref a_leaveFrom, .ref a_leaveTo, .ref a_lateDay, .ref a_lateOffice, .ref a_lateBy, .ref a_guests, .ref a_who, .ref a_used, .ref a_lacks, .ref a_candles, .ref a_masses, .ref a_owing, .ref a_heldOn, .ref a_waits, .ref a_tape, .ref a_text, .int v_taped, .int v_size, .int v_at, .int v_fault, .int v_rules, .ref a_statements, .ref a_taken, .ref a_sort, .ref a_first, .ref a_second, .int v_wordEnd, .int v_number])), (a_feastDay, .inl (cI, 40, .inl f_feastDay)), (a_rank, .inl (cI, 40, .inl f_rank)), (a_heldOn, .inl (cI, 365, .inl gh)), (a_waits, .inl (cZ, 40, .inl g_29))] H := hP
                                  have hD : va_D A [(h, .inr (11, [.int v_today, .int v_monks, .int v_aways, .int v_feasts, .int v_gifts, .int v_leaves, .int v_lates, .int v_store, .int v_allCandles, .ref a_isPriest, .ref a_bars, .ref a_joined, .ref a_turns, .ref a_awayMonk, .ref a_awayFrom, .ref a_awayTo, .ref a_feastDay, .ref a_rank, .ref a_isWeekly, .ref a_isDouble, .ref a_giftDay, .ref a_giftFrom, .ref a_owed, .ref a_said, .ref a_spared, .ref a_leaveGift, .ref a_leaveFrom, .ref a_leaveTo, .ref a_lateDay, .ref a_lateOffice, .ref a_lateBy, .ref a_guests, .ref a_who, .ref a_used, .ref a_lacks, .ref a_candles, .ref a_masses, .ref a_owing, .ref a_heldOn, .ref a_waits, .ref a_tape, .ref a_text, .int v_taped, .int v_size, .int v_at, .int v_fault, .int v_rules, .ref a_statements, .ref a_taken, .ref a_sort, .ref a_first, .ref a_second, .int v_wordEnd, .int v_number])), (a_feastDay, .inl (cI, 40, .inl f_feastDay)), (a_rank, .inl (cI, 40, .inl f_rank)), (a_heldOn, .inl (cI, 365, .inl gh)), (a_waits, .inl (cZ, 40, .inl g_29))] := hD
                                  obtain ⟨x_30, ex_30⟩ : ∃ y : Int32, y = j + 1 := ⟨_, rfl⟩
                                  refine lv_iinc (v := x_30) (lv' := [(3, .int x_30), (2, .int a), (1, .int dd), (0, .ref h)]) hx hb dX12_holdsAll_215 hl (k := 0) rfl (by rw [ex_30]; rfl) (by decide) rfl (fun ls hl => ?_)
                                  first | have tx_30 := t_add ex_30 (by omega) (by omega) | skip
                                  refine lv_goto (tgt := 162) hx hb dX12_holdsAll_218 (by decide) ?_
                                  exact ih162 x_30 g_29 (by omega) (by omega) (by omega) _ _ hP hD hS ls (lv_sub hl [0, 1, 2, 3] rfl)
                    exact loop162 ((v_feasts.toInt - (0 : Int32).toInt).toNat + 1) 0 fw2 (by omega) (by omega) (by omega) _ _ hP hD hS ls (lv_sub hl [0, 1, 2, 3] rfl)
                  · have tc_3 := t_nle c_3
                    refine lv_aload_n hx hb dX12_holdsAll_44 rfl (lv_at hl 3 rfl) ?_
                    refine va_get (D := D) (ci := 11) (v := .ref a_waits) (C := RX12) (T := TX12) (N := 54) hx hb hts in_n_holdsAll_X12 hown hK.1 hP 0 rfl rfl 39 (by decide) lk2 (fun _ h9 => h9) rfl dX12_holdsAll_45 ?_
                    refine lv_iload_n hx hb dX12_holdsAll_48 rfl (lv_at hl 0 rfl) ?_
                    refine va_zald hx hb hK.1 hP 4 1 rfl rfl (t_in (by omega) (by omega)) dX12_holdsAll_49 ?_
                    refine lv_topi (fun y_31 ey_31 => ?_)
                    refine lv_if_ne (tgt := 66) hx hb dX12_holdsAll_50 (by decide) (fun c_32 => ?_) (fun c_32 => ?_)
                    · have tc_32 := t_neq c_32
                      refine lv_iload_n hx hb dX12_holdsAll_66 rfl (lv_at hl 1 rfl) ?_
                      refine lv_iconst (v := (-1)) hx hb dX12_holdsAll_67 (by decide) ?_
                      refine lv_icmp_eq (tgt := 86) hx hb dX12_holdsAll_68 (by decide) (fun c_33 => ?_) (fun c_33 => ?_)
                      · have tc_33 := t_eq c_33
                        refine lv_iconst (v := 1) hx hb dX12_holdsAll_86 (by decide) ?_
                        refine lv_goto (tgt := 91) hx hb dX12_holdsAll_87 (by decide) ?_
                        refine lv_istore (lv' := [(4, .int 1), (3, .int j), (2, .int a), (1, .int dd), (0, .ref h)]) hx hb dX12_holdsAll_91 hl (by decide) rfl (fun ls hl => ?_)
                        refine lv_iload_n hx hb dX12_holdsAll_93 rfl (lv_at hl 2 rfl) ?_
                        refine lv_iconst (v := (-1)) hx hb dX12_holdsAll_94 (by decide) ?_
                        refine lv_icmp_eq (tgt := 140) hx hb dX12_holdsAll_95 (by decide) (fun c_34 => ?_) (fun c_34 => ?_)
                        · have tc_34 := t_eq c_34
                          refine lv_iload hx hb dX12_holdsAll_140 (lv_at hl 0 rfl) ?_
                          refine lv_if_eq (tgt := 147) hx hb dX12_holdsAll_142 (by decide) (fun c_35 => ?_) (fun c_35 => ?_)
                          · exact absurd c_35 (by decide)
                          · have tc_35 := t_neq c_35
                            refine lv_iload_n hx hb dX12_holdsAll_145 rfl (lv_at hl 1 rfl) ?_
                            refine lv_istore_n (lv' := [(2, .int j), (4, .int 1), (3, .int j), (1, .int dd), (0, .ref h)]) hx hb dX12_holdsAll_146 rfl hl (by decide) rfl (fun ls hl => ?_)
                            obtain ⟨x_36, ex_36⟩ : ∃ y : Int32, y = j + 1 := ⟨_, rfl⟩
                            refine lv_iinc (v := x_36) (lv' := [(3, .int x_36), (2, .int j), (4, .int 1), (1, .int dd), (0, .ref h)]) hx hb dX12_holdsAll_147 hl (k := 2) rfl (by rw [ex_36]; rfl) (by decide) rfl (fun ls hl => ?_)
                            first | have tx_36 := t_add ex_36 (by omega) (by omega) | skip
                            refine lv_goto (tgt := 36) hx hb dX12_holdsAll_150 (by decide) ?_
                            exact ih36 j x_36 (by omega) (by omega) (by omega) (by omega) _ _ hP hD hS ls (lv_sub hl [0, 1, 3, 4] rfl)
                        · have tc_34 := t_neq c_34
                          refine lv_aload_n hx hb dX12_holdsAll_98 rfl (lv_at hl 4 rfl) ?_
                          refine va_get (D := D) (ci := 11) (v := .ref a_rank) (C := RX12) (T := TX12) (N := 54) hx hb hts in_n_holdsAll_X12 hown hK.1 hP 0 rfl rfl 17 (by decide) lk3 (fun _ h9 => h9) rfl dX12_holdsAll_99 ?_
                          refine lv_iload_n hx hb dX12_holdsAll_102 rfl (lv_at hl 1 rfl) ?_
                          refine va_iald hx hb hK.1 hP 2 0 rfl rfl (t_in (by omega) (by omega)) dX12_holdsAll_103 ?_
                          refine lv_topi (fun y_37 ey_37 => ?_)
                          refine lv_aload_n hx hb dX12_holdsAll_104 rfl (lv_at hl 4 rfl) ?_
                          refine va_get (D := D) (ci := 11) (v := .ref a_rank) (C := RX12) (T := TX12) (N := 54) hx hb hts in_n_holdsAll_X12 hown hK.1 hP 0 rfl rfl 17 (by decide) lk3 (fun _ h9 => h9) rfl dX12_holdsAll_105 ?_
                          refine lv_iload_n hx hb dX12_holdsAll_108 rfl (lv_at hl 2 rfl) ?_
                          refine va_iald hx hb hK.1 hP 2 0 rfl rfl (t_in (by omega) (by omega)) dX12_holdsAll_109 ?_
                          refine lv_topi (fun y_38 ey_38 => ?_)
                          refine lv_icmp_ne (tgt := 140) hx hb dX12_holdsAll_110 (by decide) (fun c_39 => ?_) (fun c_39 => ?_)
                          · have tc_39 := t_neq c_39
                            refine lv_iload hx hb dX12_holdsAll_140 (lv_at hl 0 rfl) ?_
                            refine lv_if_eq (tgt := 147) hx hb dX12_holdsAll_142 (by decide) (fun c_40 => ?_) (fun c_40 => ?_)
                            · exact absurd c_40 (by decide)
                            · have tc_40 := t_neq c_40
                              refine lv_iload_n hx hb dX12_holdsAll_145 rfl (lv_at hl 1 rfl) ?_
                              refine lv_istore_n (lv' := [(2, .int j), (4, .int 1), (3, .int j), (1, .int dd), (0, .ref h)]) hx hb dX12_holdsAll_146 rfl hl (by decide) rfl (fun ls hl => ?_)
                              obtain ⟨x_41, ex_41⟩ : ∃ y : Int32, y = j + 1 := ⟨_, rfl⟩
                              refine lv_iinc (v := x_41) (lv' := [(3, .int x_41), (2, .int j), (4, .int 1), (1, .int dd), (0, .ref h)]) hx hb dX12_holdsAll_147 hl (k := 2) rfl (by rw [ex_41]; rfl) (by decide) rfl (fun ls hl => ?_)
                              first | have tx_41 := t_add ex_41 (by omega) (by omega) | skip
                              refine lv_goto (tgt := 36) hx hb dX12_holdsAll_150 (by decide) ?_
                              exact ih36 j x_41 (by omega) (by omega) (by omega) (by omega) _ _ hP hD hS ls (lv_sub hl [0, 1, 3, 4] rfl)
                          · have tc_39 := t_eq c_39
                            refine lv_aload_n hx hb dX12_holdsAll_113 rfl (lv_at hl 4 rfl) ?_
                            refine va_get (D := D) (ci := 11) (v := .ref a_feastDay) (C := RX12) (T := TX12) (N := 54) hx hb hts in_n_holdsAll_X12 hown hK.1 hP 0 rfl rfl 16 (by decide) lk4 (fun _ h9 => h9) rfl dX12_holdsAll_114 ?_
                            refine lv_iload_n hx hb dX12_holdsAll_117 rfl (lv_at hl 1 rfl) ?_
                            refine va_iald hx hb hK.1 hP 1 0 rfl rfl (t_in (by omega) (by omega)) dX12_holdsAll_118 ?_
                            refine lv_topi (fun y_42 ey_42 => ?_)
                            refine lv_iload_n hx hb dX12_holdsAll_119 rfl (lv_at hl 3 rfl) ?_
                            refine lv_icmp_ne (tgt := 137) hx hb dX12_holdsAll_120 (by decide) (fun c_43 => ?_) (fun c_43 => ?_)
                            · have tc_43 := t_neq c_43
                              refine lv_iconst (v := 0) hx hb dX12_holdsAll_137 (by decide) ?_
                              refine lv_istore (lv' := [(4, .int 0), (3, .int j), (2, .int a), (1, .int dd), (0, .ref h)]) hx hb dX12_holdsAll_138 hl (by decide) rfl (fun ls hl => ?_)
                              refine lv_iload hx hb dX12_holdsAll_140 (lv_at hl 0 rfl) ?_
                              refine lv_if_eq (tgt := 147) hx hb dX12_holdsAll_142 (by decide) (fun c_44 => ?_) (fun c_44 => ?_)
                              · have tc_44 := t_eq c_44
                                obtain ⟨x_45, ex_45⟩ : ∃ y : Int32, y = j + 1 := ⟨_, rfl⟩
                                refine lv_iinc (v := x_45) (lv' := [(3, .int x_45), (4, .int 0), (2, .int a), (1, .int dd), (0, .ref h)]) hx hb dX12_holdsAll_147 hl (k := 1) rfl (by rw [ex_45]; rfl) (by decide) rfl (fun ls hl => ?_)
                                first | have tx_45 := t_add ex_45 (by omega) (by omega) | skip
                                refine lv_goto (tgt := 36) hx hb dX12_holdsAll_150 (by decide) ?_
                                exact ih36 a x_45 (by omega) (by omega) (by omega) (by omega) _ _ hP hD hS ls (lv_sub hl [0, 2, 3, 4] rfl)
                              · exact absurd c_44 (by decide)
                            · have tc_43 := t_eq c_43
                              refine lv_aload_n hx hb dX12_holdsAll_123 rfl (lv_at hl 4 rfl) ?_
                              refine va_get (D := D) (ci := 11) (v := .ref a_feastDay) (C := RX12) (T := TX12) (N := 54) hx hb hts in_n_holdsAll_X12 hown hK.1 hP 0 rfl rfl 16 (by decide) lk4 (fun _ h9 => h9) rfl dX12_holdsAll_124 ?_
                              refine lv_iload_n hx hb dX12_holdsAll_127 rfl (lv_at hl 2 rfl) ?_
                              refine va_iald hx hb hK.1 hP 1 0 rfl rfl (t_in (by omega) (by omega)) dX12_holdsAll_128 ?_
                              refine lv_topi (fun y_46 ey_46 => ?_)
                              refine lv_iload_n hx hb dX12_holdsAll_129 rfl (lv_at hl 3 rfl) ?_
                              refine lv_icmp_eq (tgt := 137) hx hb dX12_holdsAll_130 (by decide) (fun c_47 => ?_) (fun c_47 => ?_)
                              · have tc_47 := t_eq c_47
                                refine lv_iconst (v := 0) hx hb dX12_holdsAll_137 (by decide) ?_
                                refine lv_istore (lv' := [(4, .int 0), (3, .int j), (2, .int a), (1, .int dd), (0, .ref h)]) hx hb dX12_holdsAll_138 hl (by decide) rfl (fun ls hl => ?_)
                                refine lv_iload hx hb dX12_holdsAll_140 (lv_at hl 0 rfl) ?_
                                refine lv_if_eq (tgt := 147) hx hb dX12_holdsAll_142 (by decide) (fun c_48 => ?_) (fun c_48 => ?_)
                                · have tc_48 := t_eq c_48
                                  obtain ⟨x_49, ex_49⟩ : ∃ y : Int32, y = j + 1 := ⟨_, rfl⟩
                                  refine lv_iinc (v := x_49) (lv' := [(3, .int x_49), (4, .int 0), (2, .int a), (1, .int dd), (0, .ref h)]) hx hb dX12_holdsAll_147 hl (k := 1) rfl (by rw [ex_49]; rfl) (by decide) rfl (fun ls hl => ?_)
                                  first | have tx_49 := t_add ex_49 (by omega) (by omega) | skip
                                  refine lv_goto (tgt := 36) hx hb dX12_holdsAll_150 (by decide) ?_
                                  exact ih36 a x_49 (by omega) (by omega) (by omega) (by omega) _ _ hP hD hS ls (lv_sub hl [0, 2, 3, 4] rfl)
                                · exact absurd c_48 (by decide)
                              · have tc_47 := t_neq c_47
                                refine lv_iconst (v := 1) hx hb dX12_holdsAll_133 (by decide) ?_
                                refine lv_goto (tgt := 138) hx hb dX12_holdsAll_134 (by decide) ?_
                                refine lv_istore (lv' := [(4, .int 1), (3, .int j), (2, .int a), (1, .int dd), (0, .ref h)]) hx hb dX12_holdsAll_138 hl (by decide) rfl (fun ls hl => ?_)
                                refine lv_iload hx hb dX12_holdsAll_140 (lv_at hl 0 rfl) ?_
                                refine lv_if_eq (tgt := 147) hx hb dX12_holdsAll_142 (by decide) (fun c_50 => ?_) (fun c_50 => ?_)
                                · exact absurd c_50 (by decide)
                                · have tc_50 := t_neq c_50
                                  refine lv_iload_n hx hb dX12_holdsAll_145 rfl (lv_at hl 1 rfl) ?_
                                  refine lv_istore_n (lv' := [(2, .int j), (4, .int 1), (3, .int j), (1, .int dd), (0, .ref h)]) hx hb dX12_holdsAll_146 rfl hl (by decide) rfl (fun ls hl => ?_)
                                  obtain ⟨x_51, ex_51⟩ : ∃ y : Int32, y = j + 1 := ⟨_, rfl⟩
                                  refine lv_iinc (v := x_51) (lv' := [(3, .int x_51), (2, .int j), (4, .int 1), (1, .int dd), (0, .ref h)]) hx hb dX12_holdsAll_147 hl (k := 2) rfl (by rw [ex_51]; rfl) (by decide) rfl (fun ls hl => ?_)
                                  first | have tx_51 := t_add ex_51 (by omega) (by omega) | skip
                                  refine lv_goto (tgt := 36) hx hb dX12_holdsAll_150 (by decide) ?_
                                  exact ih36 j x_51 (by omega) (by omega) (by omega) (by omega) _ _ hP hD hS ls (lv_sub hl [0, 1, 3, 4] rfl)
                      · have tc_33 := t_neq c_33
                        refine lv_aload_n hx hb dX12_holdsAll_71 rfl (lv_at hl 3 rfl) ?_
                        refine va_get (D := D) (ci := 11) (v := .ref a_rank) (C := RX12) (T := TX12) (N := 54) hx hb hts in_n_holdsAll_X12 hown hK.1 hP 0 rfl rfl 17 (by decide) lk3 (fun _ h9 => h9) rfl dX12_holdsAll_72 ?_
                        refine lv_iload_n hx hb dX12_holdsAll_75 rfl (lv_at hl 0 rfl) ?_
                        refine va_iald hx hb hK.1 hP 2 0 rfl rfl (t_in (by omega) (by omega)) dX12_holdsAll_76 ?_
                        refine lv_topi (fun y_52 ey_52 => ?_)
                        refine lv_aload_n hx hb dX12_holdsAll_77 rfl (lv_at hl 3 rfl) ?_
                        refine va_get (D := D) (ci := 11) (v := .ref a_rank) (C := RX12) (T := TX12) (N := 54) hx hb hts in_n_holdsAll_X12 hown hK.1 hP 0 rfl rfl 17 (by decide) lk3 (fun _ h9 => h9) rfl dX12_holdsAll_78 ?_
                        refine lv_iload_n hx hb dX12_holdsAll_81 rfl (lv_at hl 1 rfl) ?_
                        refine va_iald hx hb hK.1 hP 2 0 rfl rfl (t_in (by omega) (by omega)) dX12_holdsAll_82 ?_
                        refine lv_topi (fun y_53 ey_53 => ?_)
                        refine lv_icmp_le (tgt := 90) hx hb dX12_holdsAll_83 (by decide) (fun c_54 => ?_) (fun c_54 => ?_)
                        · have tc_54 := t_le c_54
                          refine lv_iconst (v := 0) hx hb dX12_holdsAll_90 (by decide) ?_
                          refine lv_istore (lv' := [(4, .int 0), (3, .int j), (2, .int a), (1, .int dd), (0, .ref h)]) hx hb dX12_holdsAll_91 hl (by decide) rfl (fun ls hl => ?_)
                          refine lv_iload_n hx hb dX12_holdsAll_93 rfl (lv_at hl 2 rfl) ?_
                          refine lv_iconst (v := (-1)) hx hb dX12_holdsAll_94 (by decide) ?_
                          refine lv_icmp_eq (tgt := 140) hx hb dX12_holdsAll_95 (by decide) (fun c_55 => ?_) (fun c_55 => ?_)
                          · have tc_55 := t_eq c_55
                            refine lv_iload hx hb dX12_holdsAll_140 (lv_at hl 0 rfl) ?_
                            refine lv_if_eq (tgt := 147) hx hb dX12_holdsAll_142 (by decide) (fun c_56 => ?_) (fun c_56 => ?_)
                            · have tc_56 := t_eq c_56
                              obtain ⟨x_57, ex_57⟩ : ∃ y : Int32, y = j + 1 := ⟨_, rfl⟩
                              refine lv_iinc (v := x_57) (lv' := [(3, .int x_57), (4, .int 0), (2, .int a), (1, .int dd), (0, .ref h)]) hx hb dX12_holdsAll_147 hl (k := 1) rfl (by rw [ex_57]; rfl) (by decide) rfl (fun ls hl => ?_)
                              first | have tx_57 := t_add ex_57 (by omega) (by omega) | skip
                              refine lv_goto (tgt := 36) hx hb dX12_holdsAll_150 (by decide) ?_
                              exact ih36 a x_57 (by omega) (by omega) (by omega) (by omega) _ _ hP hD hS ls (lv_sub hl [0, 2, 3, 4] rfl)
                            · exact absurd c_56 (by decide)
                          · have tc_55 := t_neq c_55
                            refine lv_aload_n hx hb dX12_holdsAll_98 rfl (lv_at hl 4 rfl) ?_
                            refine va_get (D := D) (ci := 11) (v := .ref a_rank) (C := RX12) (T := TX12) (N := 54) hx hb hts in_n_holdsAll_X12 hown hK.1 hP 0 rfl rfl 17 (by decide) lk3 (fun _ h9 => h9) rfl dX12_holdsAll_99 ?_
                            refine lv_iload_n hx hb dX12_holdsAll_102 rfl (lv_at hl 1 rfl) ?_
                            refine va_iald hx hb hK.1 hP 2 0 rfl rfl (t_in (by omega) (by omega)) dX12_holdsAll_103 ?_
                            refine lv_topi (fun y_58 ey_58 => ?_)
                            refine lv_aload_n hx hb dX12_holdsAll_104 rfl (lv_at hl 4 rfl) ?_
                            refine va_get (D := D) (ci := 11) (v := .ref a_rank) (C := RX12) (T := TX12) (N := 54) hx hb hts in_n_holdsAll_X12 hown hK.1 hP 0 rfl rfl 17 (by decide) lk3 (fun _ h9 => h9) rfl dX12_holdsAll_105 ?_
                            refine lv_iload_n hx hb dX12_holdsAll_108 rfl (lv_at hl 2 rfl) ?_
                            refine va_iald hx hb hK.1 hP 2 0 rfl rfl (t_in (by omega) (by omega)) dX12_holdsAll_109 ?_
                            refine lv_topi (fun y_59 ey_59 => ?_)
                            refine lv_icmp_ne (tgt := 140) hx hb dX12_holdsAll_110 (by decide) (fun c_60 => ?_) (fun c_60 => ?_)
                            · have tc_60 := t_neq c_60
                              refine lv_iload hx hb dX12_holdsAll_140 (lv_at hl 0 rfl) ?_
                              refine lv_if_eq (tgt := 147) hx hb dX12_holdsAll_142 (by decide) (fun c_61 => ?_) (fun c_61 => ?_)
                              · have tc_61 := t_eq c_61
                                obtain ⟨x_62, ex_62⟩ : ∃ y : Int32, y = j + 1 := ⟨_, rfl⟩
                                refine lv_iinc (v := x_62) (lv' := [(3, .int x_62), (4, .int 0), (2, .int a), (1, .int dd), (0, .ref h)]) hx hb dX12_holdsAll_147 hl (k := 1) rfl (by rw [ex_62]; rfl) (by decide) rfl (fun ls hl => ?_)
                                first | have tx_62 := t_add ex_62 (by omega) (by omega) | skip
                                refine lv_goto (tgt := 36) hx hb dX12_holdsAll_150 (by decide) ?_
                                exact ih36 a x_62 (by omega) (by omega) (by omega) (by omega) _ _ hP hD hS ls (lv_sub hl [0, 2, 3, 4] rfl)
                              · exact absurd c_61 (by decide)
                            · have tc_60 := t_eq c_60
                              refine lv_aload_n hx hb dX12_holdsAll_113 rfl (lv_at hl 4 rfl) ?_
                              refine va_get (D := D) (ci := 11) (v := .ref a_feastDay) (C := RX12) (T := TX12) (N := 54) hx hb hts in_n_holdsAll_X12 hown hK.1 hP 0 rfl rfl 16 (by decide) lk4 (fun _ h9 => h9) rfl dX12_holdsAll_114 ?_
                              refine lv_iload_n hx hb dX12_holdsAll_117 rfl (lv_at hl 1 rfl) ?_
                              refine va_iald hx hb hK.1 hP 1 0 rfl rfl (t_in (by omega) (by omega)) dX12_holdsAll_118 ?_
                              refine lv_topi (fun y_63 ey_63 => ?_)
                              refine lv_iload_n hx hb dX12_holdsAll_119 rfl (lv_at hl 3 rfl) ?_
                              refine lv_icmp_ne (tgt := 137) hx hb dX12_holdsAll_120 (by decide) (fun c_64 => ?_) (fun c_64 => ?_)
                              · have tc_64 := t_neq c_64
                                refine lv_iconst (v := 0) hx hb dX12_holdsAll_137 (by decide) ?_
                                refine lv_istore (lv' := [(4, .int 0), (3, .int j), (2, .int a), (1, .int dd), (0, .ref h)]) hx hb dX12_holdsAll_138 hl (by decide) rfl (fun ls hl => ?_)
                                refine lv_iload hx hb dX12_holdsAll_140 (lv_at hl 0 rfl) ?_
                                refine lv_if_eq (tgt := 147) hx hb dX12_holdsAll_142 (by decide) (fun c_65 => ?_) (fun c_65 => ?_)
                                · have tc_65 := t_eq c_65
                                  obtain ⟨x_66, ex_66⟩ : ∃ y : Int32, y = j + 1 := ⟨_, rfl⟩
                                  refine lv_iinc (v := x_66) (lv' := [(3, .int x_66), (4, .int 0), (2, .int a), (1, .int dd), (0, .ref h)]) hx hb dX12_holdsAll_147 hl (k := 1) rfl (by rw [ex_66]; rfl) (by decide) rfl (fun ls hl => ?_)
                                  first | have tx_66 := t_add ex_66 (by omega) (by omega) | skip
                                  refine lv_goto (tgt := 36) hx hb dX12_holdsAll_150 (by decide) ?_
                                  exact ih36 a x_66 (by omega) (by omega) (by omega) (by omega) _ _ hP hD hS ls (lv_sub hl [0, 2, 3, 4] rfl)
                                · exact absurd c_65 (by decide)
                              · have tc_64 := t_eq c_64
                                refine lv_aload_n hx hb dX12_holdsAll_123 rfl (lv_at hl 4 rfl) ?_
                                refine va_get (D := D) (ci := 11) (v := .ref a_feastDay) (C := RX12) (T := TX12) (N := 54) hx hb hts in_n_holdsAll_X12 hown hK.1 hP 0 rfl rfl 16 (by decide) lk4 (fun _ h9 => h9) rfl dX12_holdsAll_124 ?_
                                refine lv_iload_n hx hb dX12_holdsAll_127 rfl (lv_at hl 2 rfl) ?_
                                refine va_iald hx hb hK.1 hP 1 0 rfl rfl (t_in (by omega) (by omega)) dX12_holdsAll_128 ?_
                                refine lv_topi (fun y_67 ey_67 => ?_)
                                refine lv_iload_n hx hb dX12_holdsAll_129 rfl (lv_at hl 3 rfl) ?_
                                refine lv_icmp_eq (tgt := 137) hx hb dX12_holdsAll_130 (by decide) (fun c_68 => ?_) (fun c_68 => ?_)
                                · have tc_68 := t_eq c_68
                                  refine lv_iconst (v := 0) hx hb dX12_holdsAll_137 (by decide) ?_
                                  refine lv_istore (lv' := [(4, .int 0), (3, .int j), (2, .int a), (1, .int dd), (0, .ref h)]) hx hb dX12_holdsAll_138 hl (by decide) rfl (fun ls hl => ?_)
                                  refine lv_iload hx hb dX12_holdsAll_140 (lv_at hl 0 rfl) ?_
                                  refine lv_if_eq (tgt := 147) hx hb dX12_holdsAll_142 (by decide) (fun c_69 => ?_) (fun c_69 => ?_)
                                  · have tc_69 := t_eq c_69
                                    obtain ⟨x_70, ex_70⟩ : ∃ y : Int32, y = j + 1 := ⟨_, rfl⟩
                                    refine lv_iinc (v := x_70) (lv' := [(3, .int x_70), (4, .int 0), (2, .int a), (1, .int dd), (0, .ref h)]) hx hb dX12_holdsAll_147 hl (k := 1) rfl (by rw [ex_70]; rfl) (by decide) rfl (fun ls hl => ?_)
                                    first | have tx_70 := t_add ex_70 (by omega) (by omega) | skip
                                    refine lv_goto (tgt := 36) hx hb dX12_holdsAll_150 (by decide) ?_
                                    exact ih36 a x_70 (by omega) (by omega) (by omega) (by omega) _ _ hP hD hS ls (lv_sub hl [0, 2, 3, 4] rfl)
                                  · exact absurd c_69 (by decide)
                                · have tc_68 := t_neq c_68
                                  refine lv_iconst (v := 1) hx hb dX12_holdsAll_133 (by decide) ?_
                                  refine lv_goto (tgt := 138) hx hb dX12_holdsAll_134 (by decide) ?_
                                  refine lv_istore (lv' := [(4, .int 1), (3, .int j), (2, .int a), (1, .int dd), (0, .ref h)]) hx hb dX12_holdsAll_138 hl (by decide) rfl (fun ls hl => ?_)
                                  refine lv_iload hx hb dX12_holdsAll_140 (lv_at hl 0 rfl) ?_
                                  refine lv_if_eq (tgt := 147) hx hb dX12_holdsAll_142 (by decide) (fun c_71 => ?_) (fun c_71 => ?_)
                                  · exact absurd c_71 (by decide)
                                  · have tc_71 := t_neq c_71
                                    refine lv_iload_n hx hb dX12_holdsAll_145 rfl (lv_at hl 1 rfl) ?_
                                    refine lv_istore_n (lv' := [(2, .int j), (4, .int 1), (3, .int j), (1, .int dd), (0, .ref h)]) hx hb dX12_holdsAll_146 rfl hl (by decide) rfl (fun ls hl => ?_)
                                    obtain ⟨x_72, ex_72⟩ : ∃ y : Int32, y = j + 1 := ⟨_, rfl⟩
                                    refine lv_iinc (v := x_72) (lv' := [(3, .int x_72), (2, .int j), (4, .int 1), (1, .int dd), (0, .ref h)]) hx hb dX12_holdsAll_147 hl (k := 2) rfl (by rw [ex_72]; rfl) (by decide) rfl (fun ls hl => ?_)
                                    first | have tx_72 := t_add ex_72 (by omega) (by omega) | skip
                                    refine lv_goto (tgt := 36) hx hb dX12_holdsAll_150 (by decide) ?_
                                    exact ih36 j x_72 (by omega) (by omega) (by omega) (by omega) _ _ hP hD hS ls (lv_sub hl [0, 1, 3, 4] rfl)
                        · have tc_54 := t_nle c_54
                          refine lv_iconst (v := 1) hx hb dX12_holdsAll_86 (by decide) ?_
                          refine lv_goto (tgt := 91) hx hb dX12_holdsAll_87 (by decide) ?_
                          refine lv_istore (lv' := [(4, .int 1), (3, .int j), (2, .int a), (1, .int dd), (0, .ref h)]) hx hb dX12_holdsAll_91 hl (by decide) rfl (fun ls hl => ?_)
                          refine lv_iload_n hx hb dX12_holdsAll_93 rfl (lv_at hl 2 rfl) ?_
                          refine lv_iconst (v := (-1)) hx hb dX12_holdsAll_94 (by decide) ?_
                          refine lv_icmp_eq (tgt := 140) hx hb dX12_holdsAll_95 (by decide) (fun c_73 => ?_) (fun c_73 => ?_)
                          · have tc_73 := t_eq c_73
                            refine lv_iload hx hb dX12_holdsAll_140 (lv_at hl 0 rfl) ?_
                            refine lv_if_eq (tgt := 147) hx hb dX12_holdsAll_142 (by decide) (fun c_74 => ?_) (fun c_74 => ?_)
                            · exact absurd c_74 (by decide)
                            · have tc_74 := t_neq c_74
                              refine lv_iload_n hx hb dX12_holdsAll_145 rfl (lv_at hl 1 rfl) ?_
                              refine lv_istore_n (lv' := [(2, .int j), (4, .int 1), (3, .int j), (1, .int dd), (0, .ref h)]) hx hb dX12_holdsAll_146 rfl hl (by decide) rfl (fun ls hl => ?_)
                              obtain ⟨x_75, ex_75⟩ : ∃ y : Int32, y = j + 1 := ⟨_, rfl⟩
                              refine lv_iinc (v := x_75) (lv' := [(3, .int x_75), (2, .int j), (4, .int 1), (1, .int dd), (0, .ref h)]) hx hb dX12_holdsAll_147 hl (k := 2) rfl (by rw [ex_75]; rfl) (by decide) rfl (fun ls hl => ?_)
                              first | have tx_75 := t_add ex_75 (by omega) (by omega) | skip
                              refine lv_goto (tgt := 36) hx hb dX12_holdsAll_150 (by decide) ?_
                              exact ih36 j x_75 (by omega) (by omega) (by omega) (by omega) _ _ hP hD hS ls (lv_sub hl [0, 1, 3, 4] rfl)
                          · have tc_73 := t_neq c_73
                            refine lv_aload_n hx hb dX12_holdsAll_98 rfl (lv_at hl 4 rfl) ?_
                            refine va_get (D := D) (ci := 11) (v := .ref a_rank) (C := RX12) (T := TX12) (N := 54) hx hb hts in_n_holdsAll_X12 hown hK.1 hP 0 rfl rfl 17 (by decide) lk3 (fun _ h9 => h9) rfl dX12_holdsAll_99 ?_
                            refine lv_iload_n hx hb dX12_holdsAll_102 rfl (lv_at hl 1 rfl) ?_
                            refine va_iald hx hb hK.1 hP 2 0 rfl rfl (t_in (by omega) (by omega)) dX12_holdsAll_103 ?_
                            refine lv_topi (fun y_76 ey_76 => ?_)
                            refine lv_aload_n hx hb dX12_holdsAll_104 rfl (lv_at hl 4 rfl) ?_
                            refine va_get (D := D) (ci := 11) (v := .ref a_rank) (C := RX12) (T := TX12) (N := 54) hx hb hts in_n_holdsAll_X12 hown hK.1 hP 0 rfl rfl 17 (by decide) lk3 (fun _ h9 => h9) rfl dX12_holdsAll_105 ?_
                            refine lv_iload_n hx hb dX12_holdsAll_108 rfl (lv_at hl 2 rfl) ?_
                            refine va_iald hx hb hK.1 hP 2 0 rfl rfl (t_in (by omega) (by omega)) dX12_holdsAll_109 ?_
                            refine lv_topi (fun y_77 ey_77 => ?_)
                            refine lv_icmp_ne (tgt := 140) hx hb dX12_holdsAll_110 (by decide) (fun c_78 => ?_) (fun c_78 => ?_)
                            · have tc_78 := t_neq c_78
                              refine lv_iload hx hb dX12_holdsAll_140 (lv_at hl 0 rfl) ?_
                              refine lv_if_eq (tgt := 147) hx hb dX12_holdsAll_142 (by decide) (fun c_79 => ?_) (fun c_79 => ?_)
                              · exact absurd c_79 (by decide)
                              · have tc_79 := t_neq c_79
                                refine lv_iload_n hx hb dX12_holdsAll_145 rfl (lv_at hl 1 rfl) ?_
                                refine lv_istore_n (lv' := [(2, .int j), (4, .int 1), (3, .int j), (1, .int dd), (0, .ref h)]) hx hb dX12_holdsAll_146 rfl hl (by decide) rfl (fun ls hl => ?_)
                                obtain ⟨x_80, ex_80⟩ : ∃ y : Int32, y = j + 1 := ⟨_, rfl⟩
                                refine lv_iinc (v := x_80) (lv' := [(3, .int x_80), (2, .int j), (4, .int 1), (1, .int dd), (0, .ref h)]) hx hb dX12_holdsAll_147 hl (k := 2) rfl (by rw [ex_80]; rfl) (by decide) rfl (fun ls hl => ?_)
                                first | have tx_80 := t_add ex_80 (by omega) (by omega) | skip
                                refine lv_goto (tgt := 36) hx hb dX12_holdsAll_150 (by decide) ?_
                                exact ih36 j x_80 (by omega) (by omega) (by omega) (by omega) _ _ hP hD hS ls (lv_sub hl [0, 1, 3, 4] rfl)
                            · have tc_78 := t_eq c_78
                              refine lv_aload_n hx hb dX12_holdsAll_113 rfl (lv_at hl 4 rfl) ?_
                              refine va_get (D := D) (ci := 11) (v := .ref a_feastDay) (C := RX12) (T := TX12) (N := 54) hx hb hts in_n_holdsAll_X12 hown hK.1 hP 0 rfl rfl 16 (by decide) lk4 (fun _ h9 => h9) rfl dX12_holdsAll_114 ?_
                              refine lv_iload_n hx hb dX12_holdsAll_117 rfl (lv_at hl 1 rfl) ?_
                              refine va_iald hx hb hK.1 hP 1 0 rfl rfl (t_in (by omega) (by omega)) dX12_holdsAll_118 ?_
                              refine lv_topi (fun y_81 ey_81 => ?_)
                              refine lv_iload_n hx hb dX12_holdsAll_119 rfl (lv_at hl 3 rfl) ?_
                              refine lv_icmp_ne (tgt := 137) hx hb dX12_holdsAll_120 (by decide) (fun c_82 => ?_) (fun c_82 => ?_)
                              · have tc_82 := t_neq c_82
                                refine lv_iconst (v := 0) hx hb dX12_holdsAll_137 (by decide) ?_
                                refine lv_istore (lv' := [(4, .int 0), (3, .int j), (2, .int a), (1, .int dd), (0, .ref h)]) hx hb dX12_holdsAll_138 hl (by decide) rfl (fun ls hl => ?_)
                                refine lv_iload hx hb dX12_holdsAll_140 (lv_at hl 0 rfl) ?_
                                refine lv_if_eq (tgt := 147) hx hb dX12_holdsAll_142 (by decide) (fun c_83 => ?_) (fun c_83 => ?_)
                                · have tc_83 := t_eq c_83
                                  obtain ⟨x_84, ex_84⟩ : ∃ y : Int32, y = j + 1 := ⟨_, rfl⟩
                                  refine lv_iinc (v := x_84) (lv' := [(3, .int x_84), (4, .int 0), (2, .int a), (1, .int dd), (0, .ref h)]) hx hb dX12_holdsAll_147 hl (k := 1) rfl (by rw [ex_84]; rfl) (by decide) rfl (fun ls hl => ?_)
                                  first | have tx_84 := t_add ex_84 (by omega) (by omega) | skip
                                  refine lv_goto (tgt := 36) hx hb dX12_holdsAll_150 (by decide) ?_
                                  exact ih36 a x_84 (by omega) (by omega) (by omega) (by omega) _ _ hP hD hS ls (lv_sub hl [0, 2, 3, 4] rfl)
                                · exact absurd c_83 (by decide)
                              · have tc_82 := t_eq c_82
                                refine lv_aload_n hx hb dX12_holdsAll_123 rfl (lv_at hl 4 rfl) ?_
                                refine va_get (D := D) (ci := 11) (v := .ref a_feastDay) (C := RX12) (T := TX12) (N := 54) hx hb hts in_n_holdsAll_X12 hown hK.1 hP 0 rfl rfl 16 (by decide) lk4 (fun _ h9 => h9) rfl dX12_holdsAll_124 ?_
                                refine lv_iload_n hx hb dX12_holdsAll_127 rfl (lv_at hl 2 rfl) ?_
                                refine va_iald hx hb hK.1 hP 1 0 rfl rfl (t_in (by omega) (by omega)) dX12_holdsAll_128 ?_
                                refine lv_topi (fun y_85 ey_85 => ?_)
                                refine lv_iload_n hx hb dX12_holdsAll_129 rfl (lv_at hl 3 rfl) ?_
                                refine lv_icmp_eq (tgt := 137) hx hb dX12_holdsAll_130 (by decide) (fun c_86 => ?_) (fun c_86 => ?_)
                                · have tc_86 := t_eq c_86
                                  refine lv_iconst (v := 0) hx hb dX12_holdsAll_137 (by decide) ?_
                                  refine lv_istore (lv' := [(4, .int 0), (3, .int j), (2, .int a), (1, .int dd), (0, .ref h)]) hx hb dX12_holdsAll_138 hl (by decide) rfl (fun ls hl => ?_)
                                  refine lv_iload hx hb dX12_holdsAll_140 (lv_at hl 0 rfl) ?_
                                  refine lv_if_eq (tgt := 147) hx hb dX12_holdsAll_142 (by decide) (fun c_87 => ?_) (fun c_87 => ?_)
                                  · have tc_87 := t_eq c_87
                                    obtain ⟨x_88, ex_88⟩ : ∃ y : Int32, y = j + 1 := ⟨_, rfl⟩
                                    refine lv_iinc (v := x_88) (lv' := [(3, .int x_88), (4, .int 0), (2, .int a), (1, .int dd), (0, .ref h)]) hx hb dX12_holdsAll_147 hl (k := 1) rfl (by rw [ex_88]; rfl) (by decide) rfl (fun ls hl => ?_)
                                    first | have tx_88 := t_add ex_88 (by omega) (by omega) | skip
                                    refine lv_goto (tgt := 36) hx hb dX12_holdsAll_150 (by decide) ?_
                                    exact ih36 a x_88 (by omega) (by omega) (by omega) (by omega) _ _ hP hD hS ls (lv_sub hl [0, 2, 3, 4] rfl)
                                  · exact absurd c_87 (by decide)
                                · have tc_86 := t_neq c_86
                                  refine lv_iconst (v := 1) hx hb dX12_holdsAll_133 (by decide) ?_
                                  refine lv_goto (tgt := 138) hx hb dX12_holdsAll_134 (by decide) ?_
                                  refine lv_istore (lv' := [(4, .int 1), (3, .int j), (2, .int a), (1, .int dd), (0, .ref h)]) hx hb dX12_holdsAll_138 hl (by decide) rfl (fun ls hl => ?_)
                                  refine lv_iload hx hb dX12_holdsAll_140 (lv_at hl 0 rfl) ?_
                                  refine lv_if_eq (tgt := 147) hx hb dX12_holdsAll_142 (by decide) (fun c_89 => ?_) (fun c_89 => ?_)
                                  · exact absurd c_89 (by decide)
                                  · have tc_89 := t_neq c_89
                                    refine lv_iload_n hx hb dX12_holdsAll_145 rfl (lv_at hl 1 rfl) ?_
                                    refine lv_istore_n (lv' := [(2, .int j), (4, .int 1), (3, .int j), (1, .int dd), (0, .ref h)]) hx hb dX12_holdsAll_146 rfl hl (by decide) rfl (fun ls hl => ?_)
                                    obtain ⟨x_90, ex_90⟩ : ∃ y : Int32, y = j + 1 := ⟨_, rfl⟩
                                    refine lv_iinc (v := x_90) (lv' := [(3, .int x_90), (2, .int j), (4, .int 1), (1, .int dd), (0, .ref h)]) hx hb dX12_holdsAll_147 hl (k := 2) rfl (by rw [ex_90]; rfl) (by decide) rfl (fun ls hl => ?_)
                                    first | have tx_90 := t_add ex_90 (by omega) (by omega) | skip
                                    refine lv_goto (tgt := 36) hx hb dX12_holdsAll_150 (by decide) ?_
                                    exact ih36 j x_90 (by omega) (by omega) (by omega) (by omega) _ _ hP hD hS ls (lv_sub hl [0, 1, 3, 4] rfl)
                    · have tc_32 := t_eq c_32
                      refine lv_aload_n hx hb dX12_holdsAll_53 rfl (lv_at hl 3 rfl) ?_
                      refine va_get (D := D) (ci := 11) (v := .ref a_feastDay) (C := RX12) (T := TX12) (N := 54) hx hb hts in_n_holdsAll_X12 hown hK.1 hP 0 rfl rfl 16 (by decide) lk4 (fun _ h9 => h9) rfl dX12_holdsAll_54 ?_
                      refine lv_iload_n hx hb dX12_holdsAll_57 rfl (lv_at hl 0 rfl) ?_
                      refine va_iald hx hb hK.1 hP 1 0 rfl rfl (t_in (by omega) (by omega)) dX12_holdsAll_58 ?_
                      refine lv_topi (fun y_91 ey_91 => ?_)
                      refine lv_iload_n hx hb dX12_holdsAll_59 rfl (lv_at hl 2 rfl) ?_
                      refine lv_icmp_eq (tgt := 66) hx hb dX12_holdsAll_60 (by decide) (fun c_92 => ?_) (fun c_92 => ?_)
                      · have tc_92 := t_eq c_92
                        refine lv_iload_n hx hb dX12_holdsAll_66 rfl (lv_at hl 1 rfl) ?_
                        refine lv_iconst (v := (-1)) hx hb dX12_holdsAll_67 (by decide) ?_
                        refine lv_icmp_eq (tgt := 86) hx hb dX12_holdsAll_68 (by decide) (fun c_93 => ?_) (fun c_93 => ?_)
                        · have tc_93 := t_eq c_93
                          refine lv_iconst (v := 1) hx hb dX12_holdsAll_86 (by decide) ?_
                          refine lv_goto (tgt := 91) hx hb dX12_holdsAll_87 (by decide) ?_
                          refine lv_istore (lv' := [(4, .int 1), (3, .int j), (2, .int a), (1, .int dd), (0, .ref h)]) hx hb dX12_holdsAll_91 hl (by decide) rfl (fun ls hl => ?_)
                          refine lv_iload_n hx hb dX12_holdsAll_93 rfl (lv_at hl 2 rfl) ?_
                          refine lv_iconst (v := (-1)) hx hb dX12_holdsAll_94 (by decide) ?_
                          refine lv_icmp_eq (tgt := 140) hx hb dX12_holdsAll_95 (by decide) (fun c_94 => ?_) (fun c_94 => ?_)
                          · have tc_94 := t_eq c_94
                            refine lv_iload hx hb dX12_holdsAll_140 (lv_at hl 0 rfl) ?_
                            refine lv_if_eq (tgt := 147) hx hb dX12_holdsAll_142 (by decide) (fun c_95 => ?_) (fun c_95 => ?_)
                            · exact absurd c_95 (by decide)
                            · have tc_95 := t_neq c_95
                              refine lv_iload_n hx hb dX12_holdsAll_145 rfl (lv_at hl 1 rfl) ?_
                              refine lv_istore_n (lv' := [(2, .int j), (4, .int 1), (3, .int j), (1, .int dd), (0, .ref h)]) hx hb dX12_holdsAll_146 rfl hl (by decide) rfl (fun ls hl => ?_)
                              obtain ⟨x_96, ex_96⟩ : ∃ y : Int32, y = j + 1 := ⟨_, rfl⟩
                              refine lv_iinc (v := x_96) (lv' := [(3, .int x_96), (2, .int j), (4, .int 1), (1, .int dd), (0, .ref h)]) hx hb dX12_holdsAll_147 hl (k := 2) rfl (by rw [ex_96]; rfl) (by decide) rfl (fun ls hl => ?_)
                              first | have tx_96 := t_add ex_96 (by omega) (by omega) | skip
                              refine lv_goto (tgt := 36) hx hb dX12_holdsAll_150 (by decide) ?_
                              exact ih36 j x_96 (by omega) (by omega) (by omega) (by omega) _ _ hP hD hS ls (lv_sub hl [0, 1, 3, 4] rfl)
                          · have tc_94 := t_neq c_94
                            refine lv_aload_n hx hb dX12_holdsAll_98 rfl (lv_at hl 4 rfl) ?_
                            refine va_get (D := D) (ci := 11) (v := .ref a_rank) (C := RX12) (T := TX12) (N := 54) hx hb hts in_n_holdsAll_X12 hown hK.1 hP 0 rfl rfl 17 (by decide) lk3 (fun _ h9 => h9) rfl dX12_holdsAll_99 ?_
                            refine lv_iload_n hx hb dX12_holdsAll_102 rfl (lv_at hl 1 rfl) ?_
                            refine va_iald hx hb hK.1 hP 2 0 rfl rfl (t_in (by omega) (by omega)) dX12_holdsAll_103 ?_
                            refine lv_topi (fun y_97 ey_97 => ?_)
                            refine lv_aload_n hx hb dX12_holdsAll_104 rfl (lv_at hl 4 rfl) ?_
                            refine va_get (D := D) (ci := 11) (v := .ref a_rank) (C := RX12) (T := TX12) (N := 54) hx hb hts in_n_holdsAll_X12 hown hK.1 hP 0 rfl rfl 17 (by decide) lk3 (fun _ h9 => h9) rfl dX12_holdsAll_105 ?_
                            refine lv_iload_n hx hb dX12_holdsAll_108 rfl (lv_at hl 2 rfl) ?_
                            refine va_iald hx hb hK.1 hP 2 0 rfl rfl (t_in (by omega) (by omega)) dX12_holdsAll_109 ?_
                            refine lv_topi (fun y_98 ey_98 => ?_)
                            refine lv_icmp_ne (tgt := 140) hx hb dX12_holdsAll_110 (by decide) (fun c_99 => ?_) (fun c_99 => ?_)
                            · have tc_99 := t_neq c_99
                              refine lv_iload hx hb dX12_holdsAll_140 (lv_at hl 0 rfl) ?_
                              refine lv_if_eq (tgt := 147) hx hb dX12_holdsAll_142 (by decide) (fun c_100 => ?_) (fun c_100 => ?_)
                              · exact absurd c_100 (by decide)
                              · have tc_100 := t_neq c_100
                                refine lv_iload_n hx hb dX12_holdsAll_145 rfl (lv_at hl 1 rfl) ?_
                                refine lv_istore_n (lv' := [(2, .int j), (4, .int 1), (3, .int j), (1, .int dd), (0, .ref h)]) hx hb dX12_holdsAll_146 rfl hl (by decide) rfl (fun ls hl => ?_)
                                obtain ⟨x_101, ex_101⟩ : ∃ y : Int32, y = j + 1 := ⟨_, rfl⟩
                                refine lv_iinc (v := x_101) (lv' := [(3, .int x_101), (2, .int j), (4, .int 1), (1, .int dd), (0, .ref h)]) hx hb dX12_holdsAll_147 hl (k := 2) rfl (by rw [ex_101]; rfl) (by decide) rfl (fun ls hl => ?_)
                                first | have tx_101 := t_add ex_101 (by omega) (by omega) | skip
                                refine lv_goto (tgt := 36) hx hb dX12_holdsAll_150 (by decide) ?_
                                exact ih36 j x_101 (by omega) (by omega) (by omega) (by omega) _ _ hP hD hS ls (lv_sub hl [0, 1, 3, 4] rfl)
                            · have tc_99 := t_eq c_99
                              refine lv_aload_n hx hb dX12_holdsAll_113 rfl (lv_at hl 4 rfl) ?_
                              refine va_get (D := D) (ci := 11) (v := .ref a_feastDay) (C := RX12) (T := TX12) (N := 54) hx hb hts in_n_holdsAll_X12 hown hK.1 hP 0 rfl rfl 16 (by decide) lk4 (fun _ h9 => h9) rfl dX12_holdsAll_114 ?_
                              refine lv_iload_n hx hb dX12_holdsAll_117 rfl (lv_at hl 1 rfl) ?_
                              refine va_iald hx hb hK.1 hP 1 0 rfl rfl (t_in (by omega) (by omega)) dX12_holdsAll_118 ?_
                              refine lv_topi (fun y_102 ey_102 => ?_)
                              refine lv_iload_n hx hb dX12_holdsAll_119 rfl (lv_at hl 3 rfl) ?_
                              refine lv_icmp_ne (tgt := 137) hx hb dX12_holdsAll_120 (by decide) (fun c_103 => ?_) (fun c_103 => ?_)
                              · have tc_103 := t_neq c_103
                                refine lv_iconst (v := 0) hx hb dX12_holdsAll_137 (by decide) ?_
                                refine lv_istore (lv' := [(4, .int 0), (3, .int j), (2, .int a), (1, .int dd), (0, .ref h)]) hx hb dX12_holdsAll_138 hl (by decide) rfl (fun ls hl => ?_)
                                refine lv_iload hx hb dX12_holdsAll_140 (lv_at hl 0 rfl) ?_
                                refine lv_if_eq (tgt := 147) hx hb dX12_holdsAll_142 (by decide) (fun c_104 => ?_) (fun c_104 => ?_)
                                · have tc_104 := t_eq c_104
                                  obtain ⟨x_105, ex_105⟩ : ∃ y : Int32, y = j + 1 := ⟨_, rfl⟩
                                  refine lv_iinc (v := x_105) (lv' := [(3, .int x_105), (4, .int 0), (2, .int a), (1, .int dd), (0, .ref h)]) hx hb dX12_holdsAll_147 hl (k := 1) rfl (by rw [ex_105]; rfl) (by decide) rfl (fun ls hl => ?_)
                                  first | have tx_105 := t_add ex_105 (by omega) (by omega) | skip
                                  refine lv_goto (tgt := 36) hx hb dX12_holdsAll_150 (by decide) ?_
                                  exact ih36 a x_105 (by omega) (by omega) (by omega) (by omega) _ _ hP hD hS ls (lv_sub hl [0, 2, 3, 4] rfl)
                                · exact absurd c_104 (by decide)
                              · have tc_103 := t_eq c_103
                                refine lv_aload_n hx hb dX12_holdsAll_123 rfl (lv_at hl 4 rfl) ?_
                                refine va_get (D := D) (ci := 11) (v := .ref a_feastDay) (C := RX12) (T := TX12) (N := 54) hx hb hts in_n_holdsAll_X12 hown hK.1 hP 0 rfl rfl 16 (by decide) lk4 (fun _ h9 => h9) rfl dX12_holdsAll_124 ?_
                                refine lv_iload_n hx hb dX12_holdsAll_127 rfl (lv_at hl 2 rfl) ?_
                                refine va_iald hx hb hK.1 hP 1 0 rfl rfl (t_in (by omega) (by omega)) dX12_holdsAll_128 ?_
                                refine lv_topi (fun y_106 ey_106 => ?_)
                                refine lv_iload_n hx hb dX12_holdsAll_129 rfl (lv_at hl 3 rfl) ?_
                                refine lv_icmp_eq (tgt := 137) hx hb dX12_holdsAll_130 (by decide) (fun c_107 => ?_) (fun c_107 => ?_)
                                · have tc_107 := t_eq c_107
                                  refine lv_iconst (v := 0) hx hb dX12_holdsAll_137 (by decide) ?_
                                  refine lv_istore (lv' := [(4, .int 0), (3, .int j), (2, .int a), (1, .int dd), (0, .ref h)]) hx hb dX12_holdsAll_138 hl (by decide) rfl (fun ls hl => ?_)
                                  refine lv_iload hx hb dX12_holdsAll_140 (lv_at hl 0 rfl) ?_
                                  refine lv_if_eq (tgt := 147) hx hb dX12_holdsAll_142 (by decide) (fun c_108 => ?_) (fun c_108 => ?_)
                                  · have tc_108 := t_eq c_108
                                    obtain ⟨x_109, ex_109⟩ : ∃ y : Int32, y = j + 1 := ⟨_, rfl⟩
                                    refine lv_iinc (v := x_109) (lv' := [(3, .int x_109), (4, .int 0), (2, .int a), (1, .int dd), (0, .ref h)]) hx hb dX12_holdsAll_147 hl (k := 1) rfl (by rw [ex_109]; rfl) (by decide) rfl (fun ls hl => ?_)
                                    first | have tx_109 := t_add ex_109 (by omega) (by omega) | skip
                                    refine lv_goto (tgt := 36) hx hb dX12_holdsAll_150 (by decide) ?_
                                    exact ih36 a x_109 (by omega) (by omega) (by omega) (by omega) _ _ hP hD hS ls (lv_sub hl [0, 2, 3, 4] rfl)
                                  · exact absurd c_108 (by decide)
                                · have tc_107 := t_neq c_107
                                  refine lv_iconst (v := 1) hx hb dX12_holdsAll_133 (by decide) ?_
                                  refine lv_goto (tgt := 138) hx hb dX12_holdsAll_134 (by decide) ?_
                                  refine lv_istore (lv' := [(4, .int 1), (3, .int j), (2, .int a), (1, .int dd), (0, .ref h)]) hx hb dX12_holdsAll_138 hl (by decide) rfl (fun ls hl => ?_)
                                  refine lv_iload hx hb dX12_holdsAll_140 (lv_at hl 0 rfl) ?_
                                  refine lv_if_eq (tgt := 147) hx hb dX12_holdsAll_142 (by decide) (fun c_110 => ?_) (fun c_110 => ?_)
                                  · exact absurd c_110 (by decide)
                                  · have tc_110 := t_neq c_110
                                    refine lv_iload_n hx hb dX12_holdsAll_145 rfl (lv_at hl 1 rfl) ?_
                                    refine lv_istore_n (lv' := [(2, .int j), (4, .int 1), (3, .int j), (1, .int dd), (0, .ref h)]) hx hb dX12_holdsAll_146 rfl hl (by decide) rfl (fun ls hl => ?_)
                                    obtain ⟨x_111, ex_111⟩ : ∃ y : Int32, y = j + 1 := ⟨_, rfl⟩
                                    refine lv_iinc (v := x_111) (lv' := [(3, .int x_111), (2, .int j), (4, .int 1), (1, .int dd), (0, .ref h)]) hx hb dX12_holdsAll_147 hl (k := 2) rfl (by rw [ex_111]; rfl) (by decide) rfl (fun ls hl => ?_)
                                    first | have tx_111 := t_add ex_111 (by omega) (by omega) | skip
                                    refine lv_goto (tgt := 36) hx hb dX12_holdsAll_150 (by decide) ?_
                                    exact ih36 j x_111 (by omega) (by omega) (by omega) (by omega) _ _ hP hD hS ls (lv_sub hl [0, 1, 3, 4] rfl)
                        · have tc_93 := t_neq c_93
                          refine lv_aload_n hx hb dX12_holdsAll_71 rfl (lv_at hl 3 rfl) ?_
                          refine va_get (D := D) (ci := 11) (v := .ref a_rank) (C := RX12) (T := TX12) (N := 54) hx hb hts in_n_holdsAll_X12 hown hK.1 hP 0 rfl rfl 17 (by decide) lk3 (fun _ h9 => h9) rfl dX12_holdsAll_72 ?_
                          refine lv_iload_n hx hb dX12_holdsAll_75 rfl (lv_at hl 0 rfl) ?_
                          refine va_iald hx hb hK.1 hP 2 0 rfl rfl (t_in (by omega) (by omega)) dX12_holdsAll_76 ?_
                          refine lv_topi (fun y_112 ey_112 => ?_)
                          refine lv_aload_n hx hb dX12_holdsAll_77 rfl (lv_at hl 3 rfl) ?_
                          refine va_get (D := D) (ci := 11) (v := .ref a_rank) (C := RX12) (T := TX12) (N := 54) hx hb hts in_n_holdsAll_X12 hown hK.1 hP 0 rfl rfl 17 (by decide) lk3 (fun _ h9 => h9) rfl dX12_holdsAll_78 ?_
                          refine lv_iload_n hx hb dX12_holdsAll_81 rfl (lv_at hl 1 rfl) ?_
                          refine va_iald hx hb hK.1 hP 2 0 rfl rfl (t_in (by omega) (by omega)) dX12_holdsAll_82 ?_
                          refine lv_topi (fun y_113 ey_113 => ?_)
                          refine lv_icmp_le (tgt := 90) hx hb dX12_holdsAll_83 (by decide) (fun c_114 => ?_) (fun c_114 => ?_)
                          · have tc_114 := t_le c_114
                            refine lv_iconst (v := 0) hx hb dX12_holdsAll_90 (by decide) ?_
                            refine lv_istore (lv' := [(4, .int 0), (3, .int j), (2, .int a), (1, .int dd), (0, .ref h)]) hx hb dX12_holdsAll_91 hl (by decide) rfl (fun ls hl => ?_)
                            refine lv_iload_n hx hb dX12_holdsAll_93 rfl (lv_at hl 2 rfl) ?_
                            refine lv_iconst (v := (-1)) hx hb dX12_holdsAll_94 (by decide) ?_
                            refine lv_icmp_eq (tgt := 140) hx hb dX12_holdsAll_95 (by decide) (fun c_115 => ?_) (fun c_115 => ?_)
                            · have tc_115 := t_eq c_115
                              refine lv_iload hx hb dX12_holdsAll_140 (lv_at hl 0 rfl) ?_
                              refine lv_if_eq (tgt := 147) hx hb dX12_holdsAll_142 (by decide) (fun c_116 => ?_) (fun c_116 => ?_)
                              · have tc_116 := t_eq c_116
                                obtain ⟨x_117, ex_117⟩ : ∃ y : Int32, y = j + 1 := ⟨_, rfl⟩
                                refine lv_iinc (v := x_117) (lv' := [(3, .int x_117), (4, .int 0), (2, .int a), (1, .int dd), (0, .ref h)]) hx hb dX12_holdsAll_147 hl (k := 1) rfl (by rw [ex_117]; rfl) (by decide) rfl (fun ls hl => ?_)
                                first | have tx_117 := t_add ex_117 (by omega) (by omega) | skip
                                refine lv_goto (tgt := 36) hx hb dX12_holdsAll_150 (by decide) ?_
                                exact ih36 a x_117 (by omega) (by omega) (by omega) (by omega) _ _ hP hD hS ls (lv_sub hl [0, 2, 3, 4] rfl)
                              · exact absurd c_116 (by decide)
                            · have tc_115 := t_neq c_115
                              refine lv_aload_n hx hb dX12_holdsAll_98 rfl (lv_at hl 4 rfl) ?_
                              refine va_get (D := D) (ci := 11) (v := .ref a_rank) (C := RX12) (T := TX12) (N := 54) hx hb hts in_n_holdsAll_X12 hown hK.1 hP 0 rfl rfl 17 (by decide) lk3 (fun _ h9 => h9) rfl dX12_holdsAll_99 ?_
                              refine lv_iload_n hx hb dX12_holdsAll_102 rfl (lv_at hl 1 rfl) ?_
                              refine va_iald hx hb hK.1 hP 2 0 rfl rfl (t_in (by omega) (by omega)) dX12_holdsAll_103 ?_
                              refine lv_topi (fun y_118 ey_118 => ?_)
                              refine lv_aload_n hx hb dX12_holdsAll_104 rfl (lv_at hl 4 rfl) ?_
                              refine va_get (D := D) (ci := 11) (v := .ref a_rank) (C := RX12) (T := TX12) (N := 54) hx hb hts in_n_holdsAll_X12 hown hK.1 hP 0 rfl rfl 17 (by decide) lk3 (fun _ h9 => h9) rfl dX12_holdsAll_105 ?_
                              refine lv_iload_n hx hb dX12_holdsAll_108 rfl (lv_at hl 2 rfl) ?_
                              refine va_iald hx hb hK.1 hP 2 0 rfl rfl (t_in (by omega) (by omega)) dX12_holdsAll_109 ?_
                              refine lv_topi (fun y_119 ey_119 => ?_)
                              refine lv_icmp_ne (tgt := 140) hx hb dX12_holdsAll_110 (by decide) (fun c_120 => ?_) (fun c_120 => ?_)
                              · have tc_120 := t_neq c_120
                                refine lv_iload hx hb dX12_holdsAll_140 (lv_at hl 0 rfl) ?_
                                refine lv_if_eq (tgt := 147) hx hb dX12_holdsAll_142 (by decide) (fun c_121 => ?_) (fun c_121 => ?_)
                                · have tc_121 := t_eq c_121
                                  obtain ⟨x_122, ex_122⟩ : ∃ y : Int32, y = j + 1 := ⟨_, rfl⟩
                                  refine lv_iinc (v := x_122) (lv' := [(3, .int x_122), (4, .int 0), (2, .int a), (1, .int dd), (0, .ref h)]) hx hb dX12_holdsAll_147 hl (k := 1) rfl (by rw [ex_122]; rfl) (by decide) rfl (fun ls hl => ?_)
                                  first | have tx_122 := t_add ex_122 (by omega) (by omega) | skip
                                  refine lv_goto (tgt := 36) hx hb dX12_holdsAll_150 (by decide) ?_
                                  exact ih36 a x_122 (by omega) (by omega) (by omega) (by omega) _ _ hP hD hS ls (lv_sub hl [0, 2, 3, 4] rfl)
                                · exact absurd c_121 (by decide)
                              · have tc_120 := t_eq c_120
                                refine lv_aload_n hx hb dX12_holdsAll_113 rfl (lv_at hl 4 rfl) ?_
                                refine va_get (D := D) (ci := 11) (v := .ref a_feastDay) (C := RX12) (T := TX12) (N := 54) hx hb hts in_n_holdsAll_X12 hown hK.1 hP 0 rfl rfl 16 (by decide) lk4 (fun _ h9 => h9) rfl dX12_holdsAll_114 ?_
                                refine lv_iload_n hx hb dX12_holdsAll_117 rfl (lv_at hl 1 rfl) ?_
                                refine va_iald hx hb hK.1 hP 1 0 rfl rfl (t_in (by omega) (by omega)) dX12_holdsAll_118 ?_
                                refine lv_topi (fun y_123 ey_123 => ?_)
                                refine lv_iload_n hx hb dX12_holdsAll_119 rfl (lv_at hl 3 rfl) ?_
                                refine lv_icmp_ne (tgt := 137) hx hb dX12_holdsAll_120 (by decide) (fun c_124 => ?_) (fun c_124 => ?_)
                                · have tc_124 := t_neq c_124
                                  refine lv_iconst (v := 0) hx hb dX12_holdsAll_137 (by decide) ?_
                                  refine lv_istore (lv' := [(4, .int 0), (3, .int j), (2, .int a), (1, .int dd), (0, .ref h)]) hx hb dX12_holdsAll_138 hl (by decide) rfl (fun ls hl => ?_)
                                  refine lv_iload hx hb dX12_holdsAll_140 (lv_at hl 0 rfl) ?_
                                  refine lv_if_eq (tgt := 147) hx hb dX12_holdsAll_142 (by decide) (fun c_125 => ?_) (fun c_125 => ?_)
                                  · have tc_125 := t_eq c_125
                                    obtain ⟨x_126, ex_126⟩ : ∃ y : Int32, y = j + 1 := ⟨_, rfl⟩
                                    refine lv_iinc (v := x_126) (lv' := [(3, .int x_126), (4, .int 0), (2, .int a), (1, .int dd), (0, .ref h)]) hx hb dX12_holdsAll_147 hl (k := 1) rfl (by rw [ex_126]; rfl) (by decide) rfl (fun ls hl => ?_)
                                    first | have tx_126 := t_add ex_126 (by omega) (by omega) | skip
                                    refine lv_goto (tgt := 36) hx hb dX12_holdsAll_150 (by decide) ?_
                                    exact ih36 a x_126 (by omega) (by omega) (by omega) (by omega) _ _ hP hD hS ls (lv_sub hl [0, 2, 3, 4] rfl)
                                  · exact absurd c_125 (by decide)
                                · have tc_124 := t_eq c_124
                                  refine lv_aload_n hx hb dX12_holdsAll_123 rfl (lv_at hl 4 rfl) ?_
                                  refine va_get (D := D) (ci := 11) (v := .ref a_feastDay) (C := RX12) (T := TX12) (N := 54) hx hb hts in_n_holdsAll_X12 hown hK.1 hP 0 rfl rfl 16 (by decide) lk4 (fun _ h9 => h9) rfl dX12_holdsAll_124 ?_
                                  refine lv_iload_n hx hb dX12_holdsAll_127 rfl (lv_at hl 2 rfl) ?_
                                  refine va_iald hx hb hK.1 hP 1 0 rfl rfl (t_in (by omega) (by omega)) dX12_holdsAll_128 ?_
                                  refine lv_topi (fun y_127 ey_127 => ?_)
                                  refine lv_iload_n hx hb dX12_holdsAll_129 rfl (lv_at hl 3 rfl) ?_
                                  refine lv_icmp_eq (tgt := 137) hx hb dX12_holdsAll_130 (by decide) (fun c_128 => ?_) (fun c_128 => ?_)
                                  · have tc_128 := t_eq c_128
                                    refine lv_iconst (v := 0) hx hb dX12_holdsAll_137 (by decide) ?_
                                    refine lv_istore (lv' := [(4, .int 0), (3, .int j), (2, .int a), (1, .int dd), (0, .ref h)]) hx hb dX12_holdsAll_138 hl (by decide) rfl (fun ls hl => ?_)
                                    refine lv_iload hx hb dX12_holdsAll_140 (lv_at hl 0 rfl) ?_
                                    refine lv_if_eq (tgt := 147) hx hb dX12_holdsAll_142 (by decide) (fun c_129 => ?_) (fun c_129 => ?_)
                                    · have tc_129 := t_eq c_129
                                      obtain ⟨x_130, ex_130⟩ : ∃ y : Int32, y = j + 1 := ⟨_, rfl⟩
                                      refine lv_iinc (v := x_130) (lv' := [(3, .int x_130), (4, .int 0), (2, .int a), (1, .int dd), (0, .ref h)]) hx hb dX12_holdsAll_147 hl (k := 1) rfl (by rw [ex_130]; rfl) (by decide) rfl (fun ls hl => ?_)
                                      first | have tx_130 := t_add ex_130 (by omega) (by omega) | skip
                                      refine lv_goto (tgt := 36) hx hb dX12_holdsAll_150 (by decide) ?_
                                      exact ih36 a x_130 (by omega) (by omega) (by omega) (by omega) _ _ hP hD hS ls (lv_sub hl [0, 2, 3, 4] rfl)
                                    · exact absurd c_129 (by decide)
                                  · have tc_128 := t_neq c_128
                                    refine lv_iconst (v := 1) hx hb dX12_holdsAll_133 (by decide) ?_
                                    refine lv_goto (tgt := 138) hx hb dX12_holdsAll_134 (by decide) ?_
                                    refine lv_istore (lv' := [(4, .int 1), (3, .int j), (2, .int a), (1, .int dd), (0, .ref h)]) hx hb dX12_holdsAll_138 hl (by decide) rfl (fun ls hl => ?_)
                                    refine lv_iload hx hb dX12_holdsAll_140 (lv_at hl 0 rfl) ?_
                                    refine lv_if_eq (tgt := 147) hx hb dX12_holdsAll_142 (by decide) (fun c_131 => ?_) (fun c_131 => ?_)
                                    · exact absurd c_131 (by decide)
                                    · have tc_131 := t_neq c_131
                                      refine lv_iload_n hx hb dX12_holdsAll_145 rfl (lv_at hl 1 rfl) ?_
                                      refine lv_istore_n (lv' := [(2, .int j), (4, .int 1), (3, .int j), (1, .int dd), (0, .ref h)]) hx hb dX12_holdsAll_146 rfl hl (by decide) rfl (fun ls hl => ?_)
                                      obtain ⟨x_132, ex_132⟩ : ∃ y : Int32, y = j + 1 := ⟨_, rfl⟩
                                      refine lv_iinc (v := x_132) (lv' := [(3, .int x_132), (2, .int j), (4, .int 1), (1, .int dd), (0, .ref h)]) hx hb dX12_holdsAll_147 hl (k := 2) rfl (by rw [ex_132]; rfl) (by decide) rfl (fun ls hl => ?_)
                                      first | have tx_132 := t_add ex_132 (by omega) (by omega) | skip
                                      refine lv_goto (tgt := 36) hx hb dX12_holdsAll_150 (by decide) ?_
                                      exact ih36 j x_132 (by omega) (by omega) (by omega) (by omega) _ _ hP hD hS ls (lv_sub hl [0, 1, 3, 4] rfl)
                          · have tc_114 := t_nle c_114
                            refine lv_iconst (v := 1) hx hb dX12_holdsAll_86 (by decide) ?_
                            refine lv_goto (tgt := 91) hx hb dX12_holdsAll_87 (by decide) ?_
                            refine lv_istore (lv' := [(4, .int 1), (3, .int j), (2, .int a), (1, .int dd), (0, .ref h)]) hx hb dX12_holdsAll_91 hl (by decide) rfl (fun ls hl => ?_)
                            refine lv_iload_n hx hb dX12_holdsAll_93 rfl (lv_at hl 2 rfl) ?_
                            refine lv_iconst (v := (-1)) hx hb dX12_holdsAll_94 (by decide) ?_
                            refine lv_icmp_eq (tgt := 140) hx hb dX12_holdsAll_95 (by decide) (fun c_133 => ?_) (fun c_133 => ?_)
                            · have tc_133 := t_eq c_133
                              refine lv_iload hx hb dX12_holdsAll_140 (lv_at hl 0 rfl) ?_
                              refine lv_if_eq (tgt := 147) hx hb dX12_holdsAll_142 (by decide) (fun c_134 => ?_) (fun c_134 => ?_)
                              · exact absurd c_134 (by decide)
                              · have tc_134 := t_neq c_134
                                refine lv_iload_n hx hb dX12_holdsAll_145 rfl (lv_at hl 1 rfl) ?_
                                refine lv_istore_n (lv' := [(2, .int j), (4, .int 1), (3, .int j), (1, .int dd), (0, .ref h)]) hx hb dX12_holdsAll_146 rfl hl (by decide) rfl (fun ls hl => ?_)
                                obtain ⟨x_135, ex_135⟩ : ∃ y : Int32, y = j + 1 := ⟨_, rfl⟩
                                refine lv_iinc (v := x_135) (lv' := [(3, .int x_135), (2, .int j), (4, .int 1), (1, .int dd), (0, .ref h)]) hx hb dX12_holdsAll_147 hl (k := 2) rfl (by rw [ex_135]; rfl) (by decide) rfl (fun ls hl => ?_)
                                first | have tx_135 := t_add ex_135 (by omega) (by omega) | skip
                                refine lv_goto (tgt := 36) hx hb dX12_holdsAll_150 (by decide) ?_
                                exact ih36 j x_135 (by omega) (by omega) (by omega) (by omega) _ _ hP hD hS ls (lv_sub hl [0, 1, 3, 4] rfl)
                            · have tc_133 := t_neq c_133
                              refine lv_aload_n hx hb dX12_holdsAll_98 rfl (lv_at hl 4 rfl) ?_
                              refine va_get (D := D) (ci := 11) (v := .ref a_rank) (C := RX12) (T := TX12) (N := 54) hx hb hts in_n_holdsAll_X12 hown hK.1 hP 0 rfl rfl 17 (by decide) lk3 (fun _ h9 => h9) rfl dX12_holdsAll_99 ?_
                              refine lv_iload_n hx hb dX12_holdsAll_102 rfl (lv_at hl 1 rfl) ?_
                              refine va_iald hx hb hK.1 hP 2 0 rfl rfl (t_in (by omega) (by omega)) dX12_holdsAll_103 ?_
                              refine lv_topi (fun y_136 ey_136 => ?_)
                              refine lv_aload_n hx hb dX12_holdsAll_104 rfl (lv_at hl 4 rfl) ?_
                              refine va_get (D := D) (ci := 11) (v := .ref a_rank) (C := RX12) (T := TX12) (N := 54) hx hb hts in_n_holdsAll_X12 hown hK.1 hP 0 rfl rfl 17 (by decide) lk3 (fun _ h9 => h9) rfl dX12_holdsAll_105 ?_
                              refine lv_iload_n hx hb dX12_holdsAll_108 rfl (lv_at hl 2 rfl) ?_
                              refine va_iald hx hb hK.1 hP 2 0 rfl rfl (t_in (by omega) (by omega)) dX12_holdsAll_109 ?_
                              refine lv_topi (fun y_137 ey_137 => ?_)
                              refine lv_icmp_ne (tgt := 140) hx hb dX12_holdsAll_110 (by decide) (fun c_138 => ?_) (fun c_138 => ?_)
                              · have tc_138 := t_neq c_138
                                refine lv_iload hx hb dX12_holdsAll_140 (lv_at hl 0 rfl) ?_
                                refine lv_if_eq (tgt := 147) hx hb dX12_holdsAll_142 (by decide) (fun c_139 => ?_) (fun c_139 => ?_)
                                · exact absurd c_139 (by decide)
                                · have tc_139 := t_neq c_139
                                  refine lv_iload_n hx hb dX12_holdsAll_145 rfl (lv_at hl 1 rfl) ?_
                                  refine lv_istore_n (lv' := [(2, .int j), (4, .int 1), (3, .int j), (1, .int dd), (0, .ref h)]) hx hb dX12_holdsAll_146 rfl hl (by decide) rfl (fun ls hl => ?_)
                                  obtain ⟨x_140, ex_140⟩ : ∃ y : Int32, y = j + 1 := ⟨_, rfl⟩
                                  refine lv_iinc (v := x_140) (lv' := [(3, .int x_140), (2, .int j), (4, .int 1), (1, .int dd), (0, .ref h)]) hx hb dX12_holdsAll_147 hl (k := 2) rfl (by rw [ex_140]; rfl) (by decide) rfl (fun ls hl => ?_)
                                  first | have tx_140 := t_add ex_140 (by omega) (by omega) | skip
                                  refine lv_goto (tgt := 36) hx hb dX12_holdsAll_150 (by decide) ?_
                                  exact ih36 j x_140 (by omega) (by omega) (by omega) (by omega) _ _ hP hD hS ls (lv_sub hl [0, 1, 3, 4] rfl)
                              · have tc_138 := t_eq c_138
                                refine lv_aload_n hx hb dX12_holdsAll_113 rfl (lv_at hl 4 rfl) ?_
                                refine va_get (D := D) (ci := 11) (v := .ref a_feastDay) (C := RX12) (T := TX12) (N := 54) hx hb hts in_n_holdsAll_X12 hown hK.1 hP 0 rfl rfl 16 (by decide) lk4 (fun _ h9 => h9) rfl dX12_holdsAll_114 ?_
                                refine lv_iload_n hx hb dX12_holdsAll_117 rfl (lv_at hl 1 rfl) ?_
                                refine va_iald hx hb hK.1 hP 1 0 rfl rfl (t_in (by omega) (by omega)) dX12_holdsAll_118 ?_
                                refine lv_topi (fun y_141 ey_141 => ?_)
                                refine lv_iload_n hx hb dX12_holdsAll_119 rfl (lv_at hl 3 rfl) ?_
                                refine lv_icmp_ne (tgt := 137) hx hb dX12_holdsAll_120 (by decide) (fun c_142 => ?_) (fun c_142 => ?_)
                                · have tc_142 := t_neq c_142
                                  refine lv_iconst (v := 0) hx hb dX12_holdsAll_137 (by decide) ?_
                                  refine lv_istore (lv' := [(4, .int 0), (3, .int j), (2, .int a), (1, .int dd), (0, .ref h)]) hx hb dX12_holdsAll_138 hl (by decide) rfl (fun ls hl => ?_)
                                  refine lv_iload hx hb dX12_holdsAll_140 (lv_at hl 0 rfl) ?_
                                  refine lv_if_eq (tgt := 147) hx hb dX12_holdsAll_142 (by decide) (fun c_143 => ?_) (fun c_143 => ?_)
                                  · have tc_143 := t_eq c_143
                                    obtain ⟨x_144, ex_144⟩ : ∃ y : Int32, y = j + 1 := ⟨_, rfl⟩
                                    refine lv_iinc (v := x_144) (lv' := [(3, .int x_144), (4, .int 0), (2, .int a), (1, .int dd), (0, .ref h)]) hx hb dX12_holdsAll_147 hl (k := 1) rfl (by rw [ex_144]; rfl) (by decide) rfl (fun ls hl => ?_)
                                    first | have tx_144 := t_add ex_144 (by omega) (by omega) | skip
                                    refine lv_goto (tgt := 36) hx hb dX12_holdsAll_150 (by decide) ?_
                                    exact ih36 a x_144 (by omega) (by omega) (by omega) (by omega) _ _ hP hD hS ls (lv_sub hl [0, 2, 3, 4] rfl)
                                  · exact absurd c_143 (by decide)
                                · have tc_142 := t_eq c_142
                                  refine lv_aload_n hx hb dX12_holdsAll_123 rfl (lv_at hl 4 rfl) ?_
                                  refine va_get (D := D) (ci := 11) (v := .ref a_feastDay) (C := RX12) (T := TX12) (N := 54) hx hb hts in_n_holdsAll_X12 hown hK.1 hP 0 rfl rfl 16 (by decide) lk4 (fun _ h9 => h9) rfl dX12_holdsAll_124 ?_
                                  refine lv_iload_n hx hb dX12_holdsAll_127 rfl (lv_at hl 2 rfl) ?_
                                  refine va_iald hx hb hK.1 hP 1 0 rfl rfl (t_in (by omega) (by omega)) dX12_holdsAll_128 ?_
                                  refine lv_topi (fun y_145 ey_145 => ?_)
                                  refine lv_iload_n hx hb dX12_holdsAll_129 rfl (lv_at hl 3 rfl) ?_
                                  refine lv_icmp_eq (tgt := 137) hx hb dX12_holdsAll_130 (by decide) (fun c_146 => ?_) (fun c_146 => ?_)
                                  · have tc_146 := t_eq c_146
                                    refine lv_iconst (v := 0) hx hb dX12_holdsAll_137 (by decide) ?_
                                    refine lv_istore (lv' := [(4, .int 0), (3, .int j), (2, .int a), (1, .int dd), (0, .ref h)]) hx hb dX12_holdsAll_138 hl (by decide) rfl (fun ls hl => ?_)
                                    refine lv_iload hx hb dX12_holdsAll_140 (lv_at hl 0 rfl) ?_
                                    refine lv_if_eq (tgt := 147) hx hb dX12_holdsAll_142 (by decide) (fun c_147 => ?_) (fun c_147 => ?_)
                                    · have tc_147 := t_eq c_147
                                      obtain ⟨x_148, ex_148⟩ : ∃ y : Int32, y = j + 1 := ⟨_, rfl⟩
                                      refine lv_iinc (v := x_148) (lv' := [(3, .int x_148), (4, .int 0), (2, .int a), (1, .int dd), (0, .ref h)]) hx hb dX12_holdsAll_147 hl (k := 1) rfl (by rw [ex_148]; rfl) (by decide) rfl (fun ls hl => ?_)
                                      first | have tx_148 := t_add ex_148 (by omega) (by omega) | skip
                                      refine lv_goto (tgt := 36) hx hb dX12_holdsAll_150 (by decide) ?_
                                      exact ih36 a x_148 (by omega) (by omega) (by omega) (by omega) _ _ hP hD hS ls (lv_sub hl [0, 2, 3, 4] rfl)
                                    · exact absurd c_147 (by decide)
                                  · have tc_146 := t_neq c_146
                                    refine lv_iconst (v := 1) hx hb dX12_holdsAll_133 (by decide) ?_
                                    refine lv_goto (tgt := 138) hx hb dX12_holdsAll_134 (by decide) ?_
                                    refine lv_istore (lv' := [(4, .int 1), (3, .int j), (2, .int a), (1, .int dd), (0, .ref h)]) hx hb dX12_holdsAll_138 hl (by decide) rfl (fun ls hl => ?_)
                                    refine lv_iload hx hb dX12_holdsAll_140 (lv_at hl 0 rfl) ?_
                                    refine lv_if_eq (tgt := 147) hx hb dX12_holdsAll_142 (by decide) (fun c_149 => ?_) (fun c_149 => ?_)
                                    · exact absurd c_149 (by decide)
                                    · have tc_149 := t_neq c_149
                                      refine lv_iload_n hx hb dX12_holdsAll_145 rfl (lv_at hl 1 rfl) ?_
                                      refine lv_istore_n (lv' := [(2, .int j), (4, .int 1), (3, .int j), (1, .int dd), (0, .ref h)]) hx hb dX12_holdsAll_146 rfl hl (by decide) rfl (fun ls hl => ?_)
                                      obtain ⟨x_150, ex_150⟩ : ∃ y : Int32, y = j + 1 := ⟨_, rfl⟩
                                      refine lv_iinc (v := x_150) (lv' := [(3, .int x_150), (2, .int j), (4, .int 1), (1, .int dd), (0, .ref h)]) hx hb dX12_holdsAll_147 hl (k := 2) rfl (by rw [ex_150]; rfl) (by decide) rfl (fun ls hl => ?_)
                                      first | have tx_150 := t_add ex_150 (by omega) (by omega) | skip
                                      refine lv_goto (tgt := 36) hx hb dX12_holdsAll_150 (by decide) ?_
                                      exact ih36 j x_150 (by omega) (by omega) (by omega) (by omega) _ _ hP hD hS ls (lv_sub hl [0, 1, 3, 4] rfl)
                      · have tc_92 := t_neq c_92
                        refine lv_goto (tgt := 147) hx hb dX12_holdsAll_63 (by decide) ?_
                        obtain ⟨x_151, ex_151⟩ : ∃ y : Int32, y = j + 1 := ⟨_, rfl⟩
                        refine lv_iinc (v := x_151) (lv' := [(3, .int x_151), (2, .int a), (1, .int dd), (0, .ref h)]) hx hb dX12_holdsAll_147 hl (k := 0) rfl (by rw [ex_151]; rfl) (by decide) rfl (fun ls hl => ?_)
                        first | have tx_151 := t_add ex_151 (by omega) (by omega) | skip
                        refine lv_goto (tgt := 36) hx hb dX12_holdsAll_150 (by decide) ?_
                        exact ih36 a x_151 (by omega) (by omega) (by omega) (by omega) _ _ hP hD hS ls (lv_sub hl [0, 1, 2, 3] rfl)
              exact loop36 ((v_feasts.toInt - (0 : Int32).toInt).toNat + 1) (-1) 0 (by omega) (by omega) (by omega) (by omega) _ _ hP hD hS ls (lv_sub hl [0, 1, 2, 3] rfl)
        exact loop25 ((365 - (0 : Int32).toInt).toNat + 1) 0 f_heldOn fw (by omega) (by omega) (by omega) (by rw [kk0]; exact InR.zero) _ _ hP hD hS ls (lv_sub hl [0, 1] rfl)
      · have tc_1 := t_nle c_1
        refine lv_aload_n hx hb dX12_holdsAll_10 rfl (lv_at hl 1 rfl) ?_
        refine va_get (D := D) (ci := 11) (v := .ref a_waits) (C := RX12) (T := TX12) (N := 54) hx hb hts in_n_holdsAll_X12 hown hK.1 hP 0 rfl rfl 39 (by decide) lk2 (fun _ h9 => h9) rfl dX12_holdsAll_11 ?_
        refine lv_iload_n hx hb dX12_holdsAll_14 rfl (lv_at hl 0 rfl) ?_
        refine lv_iconst (v := 0) hx hb dX12_holdsAll_15 (by decide) ?_
        refine va_zast hx hb hK.1 hP hD hS 4 1 rfl rfl (t_in (by omega) (by omega)) dX12_holdsAll_16 (fun H locs hP hD hS => ?_)
        obtain ⟨g_152, eg_152⟩ : ∃ z : Nat → Int32, z = upd fw ((j : Int32).toNatClampNeg) (vp_nar .boolean 0) := ⟨_, rfl⟩
        rw [← eg_152] at hP hD
        have hP : va_P D vwCl [(h, .inr (11, [.int v_today, .int v_monks, .int v_aways, .int v_feasts, .int v_gifts, .int v_leaves, .int v_lates, .int v_store, .int v_allCandles, .ref a_isPriest, .ref a_bars, .ref a_joined, .ref a_turns, .ref a_awayMonk, .ref a_awayFrom, .ref a_awayTo, .ref a_feastDay, .ref a_rank, .ref a_isWeekly, .ref a_isDouble, .ref a_giftDay, .ref a_giftFrom, .ref a_owed, .ref a_said, .ref a_spared, .ref a_leaveGift, .ref a_leaveFrom, .ref a_leaveTo, .ref a_lateDay, .ref a_lateOffice, .ref a_lateBy, .ref a_guests, .ref a_who, .ref a_used, .ref a_lacks, .ref a_candles, .ref a_masses, .ref a_owing, .ref a_heldOn, .ref a_waits, .ref a_tape, .ref a_text, .int v_taped, .int v_size, .int v_at, .int v_fault, .int v_rules, .ref a_statements, .ref a_taken, .ref a_sort, .ref a_first, .ref a_second, .int v_wordEnd, .int v_number])), (a_feastDay, .inl (cI, 40, .inl f_feastDay)), (a_rank, .inl (cI, 40, .inl f_rank)), (a_heldOn, .inl (cI, 365, .inl f_heldOn)), (a_waits, .inl (cZ, 40, .inl g_152))] H := hP
        have hD : va_D A [(h, .inr (11, [.int v_today, .int v_monks, .int v_aways, .int v_feasts, .int v_gifts, .int v_leaves, .int v_lates, .int v_store, .int v_allCandles, .ref a_isPriest, .ref a_bars, .ref a_joined, .ref a_turns, .ref a_awayMonk, .ref a_awayFrom, .ref a_awayTo, .ref a_feastDay, .ref a_rank, .ref a_isWeekly, .ref a_isDouble, .ref a_giftDay, .ref a_giftFrom, .ref a_owed, .ref a_said, .ref a_spared, .ref a_leaveGift, .ref a_leaveFrom, .ref a_leaveTo, .ref a_lateDay, .ref a_lateOffice, .ref a_lateBy, .ref a_guests, .ref a_who, .ref a_used, .ref a_lacks, .ref a_candles, .ref a_masses, .ref a_owing, .ref a_heldOn, .ref a_waits, .ref a_tape, .ref a_text, .int v_taped, .int v_size, .int v_at, .int v_fault, .int v_rules, .ref a_statements, .ref a_taken, .ref a_sort, .ref a_first, .ref a_second, .int v_wordEnd, .int v_number])), (a_feastDay, .inl (cI, 40, .inl f_feastDay)), (a_rank, .inl (cI, 40, .inl f_rank)), (a_heldOn, .inl (cI, 365, .inl f_heldOn)), (a_waits, .inl (cZ, 40, .inl g_152))] := hD
        obtain ⟨x_153, ex_153⟩ : ∃ y : Int32, y = j + 1 := ⟨_, rfl⟩
        refine lv_iinc (v := x_153) (lv' := [(1, .int x_153), (0, .ref h)]) hx hb dX12_holdsAll_17 hl (k := 0) rfl (by rw [ex_153]; rfl) (by decide) rfl (fun ls hl => ?_)
        first | have tx_153 := t_add ex_153 (by omega) (by omega) | skip
        refine lv_goto (tgt := 2) hx hb dX12_holdsAll_20 (by decide) ?_
        exact ih2 x_153 g_152 (by omega) (by omega) (by omega) _ _ hP hD hS ls (lv_sub hl [0, 1] rfl)
  exact loop2 ((v_feasts.toInt - (0 : Int32).toInt).toNat + 1) 0 f_waits (by omega) (by omega) (by omega) _ _ hP hD hS ls (lv_sub hl [0, 1] rfl)

theorem in_n_held_X12 : ∀ w ∈ wsX120, w ∈ wsX12_held := tl_X12_held_X12
set_option maxHeartbeats 8000000 in
set_option maxRecDepth 100000 in
theorem n_held {l : Launch} {D : va_G} {cI cZ cB : ClassId} {sz : Nat} {h a_isPriest a_bars a_joined a_turns a_awayMonk a_awayFrom a_awayTo a_feastDay a_rank a_isWeekly a_isDouble a_giftDay a_giftFrom a_owed a_said a_spared a_leaveGift a_leaveFrom a_leaveTo a_lateDay a_lateOffice a_lateBy a_guests a_who a_used a_lacks a_candles a_masses a_owing a_heldOn a_waits a_tape a_text a_statements a_taken a_sort a_first a_second : Nat} {v_today v_monks v_aways v_feasts v_gifts v_leaves v_lates v_store v_allCandles v_taped v_size v_at v_fault v_rules v_wordEnd v_number : Int32} {f_feastDay f_rank f_heldOn f_waits : Nat → Int32} {d : Int32} (h0_feasts : 0 ≤ v_feasts.toInt) (h1_feasts : v_feasts.toInt ≤ 40) : Met l yX12_held wsX12_held ({ frames := 1, cells := 0, slots := 0, locals := 24 }) (RW D cI cZ cB [.ref h, .int d] sz [(h, .inr (11, [.int v_today, .int v_monks, .int v_aways, .int v_feasts, .int v_gifts, .int v_leaves, .int v_lates, .int v_store, .int v_allCandles, .ref a_isPriest, .ref a_bars, .ref a_joined, .ref a_turns, .ref a_awayMonk, .ref a_awayFrom, .ref a_awayTo, .ref a_feastDay, .ref a_rank, .ref a_isWeekly, .ref a_isDouble, .ref a_giftDay, .ref a_giftFrom, .ref a_owed, .ref a_said, .ref a_spared, .ref a_leaveGift, .ref a_leaveFrom, .ref a_leaveTo, .ref a_lateDay, .ref a_lateOffice, .ref a_lateBy, .ref a_guests, .ref a_who, .ref a_used, .ref a_lacks, .ref a_candles, .ref a_masses, .ref a_owing, .ref a_heldOn, .ref a_waits, .ref a_tape, .ref a_text, .int v_taped, .int v_size, .int v_at, .int v_fault, .int v_rules, .ref a_statements, .ref a_taken, .ref a_sort, .ref a_first, .ref a_second, .int v_wordEnd, .int v_number])), (a_feastDay, .inl (cI, 40, .inl f_feastDay)), (a_rank, .inl (cI, 40, .inl f_rank)), (a_heldOn, .inl (cI, 365, .inl f_heldOn)), (a_waits, .inl (cZ, 40, .inl f_waits))]) (va_Qi (fun (r : Int32) (u : (Nat → Int32) × (Nat → Int32)) => -1 ≤ r.toInt ∧ (r.toInt < v_feasts.toInt ∨ r.toInt = -1)) (BW D [(h, .inr (11, [.int v_today, .int v_monks, .int v_aways, .int v_feasts, .int v_gifts, .int v_leaves, .int v_lates, .int v_store, .int v_allCandles, .ref a_isPriest, .ref a_bars, .ref a_joined, .ref a_turns, .ref a_awayMonk, .ref a_awayFrom, .ref a_awayTo, .ref a_feastDay, .ref a_rank, .ref a_isWeekly, .ref a_isDouble, .ref a_giftDay, .ref a_giftFrom, .ref a_owed, .ref a_said, .ref a_spared, .ref a_leaveGift, .ref a_leaveFrom, .ref a_leaveTo, .ref a_lateDay, .ref a_lateOffice, .ref a_lateBy, .ref a_guests, .ref a_who, .ref a_used, .ref a_lacks, .ref a_candles, .ref a_masses, .ref a_owing, .ref a_heldOn, .ref a_waits, .ref a_tape, .ref a_text, .int v_taped, .int v_size, .int v_at, .int v_fault, .int v_rules, .ref a_statements, .ref a_taken, .ref a_sort, .ref a_first, .ref a_second, .int v_wordEnd, .int v_number])), (a_feastDay, .inl (cI, 40, .inl f_feastDay)), (a_rank, .inl (cI, 40, .inl f_rank)), (a_heldOn, .inl (cI, 365, .inl f_heldOn)), (a_waits, .inl (cZ, 40, .inl f_waits))] sz (fun u : (Nat → Int32) × (Nat → Int32) => [(h, .inr (11, [.int v_today, .int v_monks, .int v_aways, .int v_feasts, .int v_gifts, .int v_leaves, .int v_lates, .int v_store, .int v_allCandles, .ref a_isPriest, .ref a_bars, .ref a_joined, .ref a_turns, .ref a_awayMonk, .ref a_awayFrom, .ref a_awayTo, .ref a_feastDay, .ref a_rank, .ref a_isWeekly, .ref a_isDouble, .ref a_giftDay, .ref a_giftFrom, .ref a_owed, .ref a_said, .ref a_spared, .ref a_leaveGift, .ref a_leaveFrom, .ref a_leaveTo, .ref a_lateDay, .ref a_lateOffice, .ref a_lateBy, .ref a_guests, .ref a_who, .ref a_used, .ref a_lacks, .ref a_candles, .ref a_masses, .ref a_owing, .ref a_heldOn, .ref a_waits, .ref a_tape, .ref a_text, .int v_taped, .int v_size, .int v_at, .int v_fault, .int v_rules, .ref a_statements, .ref a_taken, .ref a_sort, .ref a_first, .ref a_second, .int v_wordEnd, .int v_number])), (a_feastDay, .inl (cI, 40, .inl f_feastDay)), (a_rank, .inl (cI, 40, .inl f_rank)), (a_heldOn, .inl (cI, 365, .inl u.1)), (a_waits, .inl (cZ, 40, .inl u.2))])) (va_A [(h, .inr (11, [.int v_today, .int v_monks, .int v_aways, .int v_feasts, .int v_gifts, .int v_leaves, .int v_lates, .int v_store, .int v_allCandles, .ref a_isPriest, .ref a_bars, .ref a_joined, .ref a_turns, .ref a_awayMonk, .ref a_awayFrom, .ref a_awayTo, .ref a_feastDay, .ref a_rank, .ref a_isWeekly, .ref a_isDouble, .ref a_giftDay, .ref a_giftFrom, .ref a_owed, .ref a_said, .ref a_spared, .ref a_leaveGift, .ref a_leaveFrom, .ref a_leaveTo, .ref a_lateDay, .ref a_lateOffice, .ref a_lateBy, .ref a_guests, .ref a_who, .ref a_used, .ref a_lacks, .ref a_candles, .ref a_masses, .ref a_owing, .ref a_heldOn, .ref a_waits, .ref a_tape, .ref a_text, .int v_taped, .int v_size, .int v_at, .int v_fault, .int v_rules, .ref a_statements, .ref a_taken, .ref a_sort, .ref a_first, .ref a_second, .int v_wordEnd, .int v_number])), (a_feastDay, .inl (cI, 40, .inl f_feastDay)), (a_rank, .inl (cI, 40, .inl f_rank)), (a_heldOn, .inl (cI, 365, .inl f_heldOn)), (a_waits, .inl (cZ, 40, .inl f_waits))] sz)) 0 0 (va_A [(h, .inr (11, [.int v_today, .int v_monks, .int v_aways, .int v_feasts, .int v_gifts, .int v_leaves, .int v_lates, .int v_store, .int v_allCandles, .ref a_isPriest, .ref a_bars, .ref a_joined, .ref a_turns, .ref a_awayMonk, .ref a_awayFrom, .ref a_awayTo, .ref a_feastDay, .ref a_rank, .ref a_isWeekly, .ref a_isDouble, .ref a_giftDay, .ref a_giftFrom, .ref a_owed, .ref a_said, .ref a_spared, .ref a_leaveGift, .ref a_leaveFrom, .ref a_leaveTo, .ref a_lateDay, .ref a_lateOffice, .ref a_lateBy, .ref a_guests, .ref a_who, .ref a_used, .ref a_lacks, .ref a_candles, .ref a_masses, .ref a_owing, .ref a_heldOn, .ref a_waits, .ref a_tape, .ref a_text, .int v_taped, .int v_size, .int v_at, .int v_fault, .int v_rules, .ref a_statements, .ref a_taken, .ref a_sort, .ref a_first, .ref a_second, .int v_wordEnd, .int v_number])), (a_feastDay, .inl (cI, 40, .inl f_feastDay)), (a_rank, .inl (cI, 40, .inl f_rank)), (a_heldOn, .inl (cI, 365, .inl f_heldOn)), (a_waits, .inl (cZ, 40, .inl f_waits))] sz) := by
  refine rw_ret (cc := cX12_held) (maxL := 2) (ty := .int) (own := RX12) (by decide) rfl rfl (Nat.le_of_ble_eq_true rfl) ?_
  intro p e s m args below meth c Q A S hin hret hP hK hD hA hS ls hl
  obtain ⟨hx, hb, hml, hown, hts⟩ := id S
  have hl : lv_has ls 2 [(0, .ref h), (1, .int d)] := hl
  have kkm1 : (-1 : Int32).toInt = -1 := by decide
  have kk0 : (0 : Int32).toInt = 0 := by decide
  have kk364 : (364 : Int32).toInt = 364 := by decide
  have lk0 := hts (.fieldLink RX12 98 "AbbeyHoursModel" "heldOn" "[I") (List.mem_cons_of_mem _ (List.mem_append_left _ (List.mem_of_getElem? (i := 0) rfl)))
  refine lv_iload_n hx hb dX12_held_0 rfl (lv_at hl 1 rfl) ?_
  refine lv_iconst (v := 0) hx hb dX12_held_1 (by decide) ?_
  refine lv_sipush (v := 364) hx hb dX12_held_2 (by decide) ?_
  have hPc := hP.sub (ws' := []) [] rfl
  refine roS (As := [.int d, .int 0, .int 364]) (rest := []) S (m_isIn  ) (va_cwS 3 hts gX12_held_X12_isIn rfl rfl rfl hd_X12_isIn ⟨Nat.le_of_ble_eq_true rfl, Nat.le_of_ble_eq_true rfl⟩) hK hPc rfl hl.1 rfl (Nat.le_of_ble_eq_true rfl) dX12_held_5 ⟨Nat.le_of_ble_eq_true rfl, Nat.le_of_ble_eq_true rfl⟩ (fun r_1 hw_1 => ?_)
  have hw_1 : (r_1.toInt = 1 ∧ (0 : Int32).toInt ≤ d.toInt ∧ d.toInt ≤ (364 : Int32).toInt) ∨ (r_1.toInt = 0 ∧ (d.toInt < (0 : Int32).toInt ∨ (364 : Int32).toInt < d.toInt)) := hw_1
  refine lv_if_ne (tgt := 13) hx hb dX12_held_8 (by decide) (fun c_2 => ?_) (fun c_2 => ?_)
  · have tc_2 := t_neq c_2
    refine lv_aload_n hx hb dX12_held_13 rfl (lv_at hl 0 rfl) ?_
    have hPc := hP.sub (ws' := [(h, .inr (11, [.int v_today, .int v_monks, .int v_aways, .int v_feasts, .int v_gifts, .int v_leaves, .int v_lates, .int v_store, .int v_allCandles, .ref a_isPriest, .ref a_bars, .ref a_joined, .ref a_turns, .ref a_awayMonk, .ref a_awayFrom, .ref a_awayTo, .ref a_feastDay, .ref a_rank, .ref a_isWeekly, .ref a_isDouble, .ref a_giftDay, .ref a_giftFrom, .ref a_owed, .ref a_said, .ref a_spared, .ref a_leaveGift, .ref a_leaveFrom, .ref a_leaveTo, .ref a_lateDay, .ref a_lateOffice, .ref a_lateBy, .ref a_guests, .ref a_who, .ref a_used, .ref a_lacks, .ref a_candles, .ref a_masses, .ref a_owing, .ref a_heldOn, .ref a_waits, .ref a_tape, .ref a_text, .int v_taped, .int v_size, .int v_at, .int v_fault, .int v_rules, .ref a_statements, .ref a_taken, .ref a_sort, .ref a_first, .ref a_second, .int v_wordEnd, .int v_number])), (a_feastDay, .inl (cI, 40, .inl f_feastDay)), (a_rank, .inl (cI, 40, .inl f_rank)), (a_heldOn, .inl (cI, 365, .inl f_heldOn)), (a_waits, .inl (cZ, 40, .inl f_waits))]) [0, 1, 2, 3, 4] rfl
    refine rwVv (As := []) (rest := []) (wc := [(h, .inr (11, [.int v_today, .int v_monks, .int v_aways, .int v_feasts, .int v_gifts, .int v_leaves, .int v_lates, .int v_store, .int v_allCandles, .ref a_isPriest, .ref a_bars, .ref a_joined, .ref a_turns, .ref a_awayMonk, .ref a_awayFrom, .ref a_awayTo, .ref a_feastDay, .ref a_rank, .ref a_isWeekly, .ref a_isDouble, .ref a_giftDay, .ref a_giftFrom, .ref a_owed, .ref a_said, .ref a_spared, .ref a_leaveGift, .ref a_leaveFrom, .ref a_leaveTo, .ref a_lateDay, .ref a_lateOffice, .ref a_lateBy, .ref a_guests, .ref a_who, .ref a_used, .ref a_lacks, .ref a_candles, .ref a_masses, .ref a_owing, .ref a_heldOn, .ref a_waits, .ref a_tape, .ref a_text, .int v_taped, .int v_size, .int v_at, .int v_fault, .int v_rules, .ref a_statements, .ref a_taken, .ref a_sort, .ref a_first, .ref a_second, .int v_wordEnd, .int v_number])), (a_feastDay, .inl (cI, 40, .inl f_feastDay)), (a_rank, .inl (cI, 40, .inl f_rank)), (a_heldOn, .inl (cI, 365, .inl f_heldOn)), (a_waits, .inl (cZ, 40, .inl f_waits))]) (wr := []) S (n_holdsAll  (by omega) (by omega)) (cwV 0 hts gX12_held_X12_holdsAll rfl rfl rfl ⟨rfl, hd_X12_holdsAll⟩ ⟨Nat.le_of_ble_eq_true rfl, Nat.le_of_ble_eq_true rfl⟩) hK hP hD hS hA [0, 1, 2, 3, 4] [] rfl rfl (by decide +kernel) (by decide +kernel) (by decide +kernel) (va_recv hK.1 hPc (ci := 11) (q0 := 0) rfl rfl) rfl hl.1 rfl (Nat.le_of_ble_eq_true rfl) dX12_held_14 ⟨Nat.le_of_ble_eq_true rfl, Nat.le_of_ble_eq_true rfl⟩ (fun u_ha H locs hw_ha hP hD hS => ?_)
    obtain ⟨g1_ha, g2_ha⟩ := u_ha
    have hw_ha : InR g1_ha 365 (-1) v_feasts.toInt := hw_ha
    have hP : va_P D vwCl [(h, .inr (11, [.int v_today, .int v_monks, .int v_aways, .int v_feasts, .int v_gifts, .int v_leaves, .int v_lates, .int v_store, .int v_allCandles, .ref a_isPriest, .ref a_bars, .ref a_joined, .ref a_turns, .ref a_awayMonk, .ref a_awayFrom, .ref a_awayTo, .ref a_feastDay, .ref a_rank, .ref a_isWeekly, .ref a_isDouble, .ref a_giftDay, .ref a_giftFrom, .ref a_owed, .ref a_said, .ref a_spared, .ref a_leaveGift, .ref a_leaveFrom, .ref a_leaveTo, .ref a_lateDay, .ref a_lateOffice, .ref a_lateBy, .ref a_guests, .ref a_who, .ref a_used, .ref a_lacks, .ref a_candles, .ref a_masses, .ref a_owing, .ref a_heldOn, .ref a_waits, .ref a_tape, .ref a_text, .int v_taped, .int v_size, .int v_at, .int v_fault, .int v_rules, .ref a_statements, .ref a_taken, .ref a_sort, .ref a_first, .ref a_second, .int v_wordEnd, .int v_number])), (a_feastDay, .inl (cI, 40, .inl f_feastDay)), (a_rank, .inl (cI, 40, .inl f_rank)), (a_heldOn, .inl (cI, 365, .inl g1_ha)), (a_waits, .inl (cZ, 40, .inl g2_ha))] H := hP
    have hD : va_D A [(h, .inr (11, [.int v_today, .int v_monks, .int v_aways, .int v_feasts, .int v_gifts, .int v_leaves, .int v_lates, .int v_store, .int v_allCandles, .ref a_isPriest, .ref a_bars, .ref a_joined, .ref a_turns, .ref a_awayMonk, .ref a_awayFrom, .ref a_awayTo, .ref a_feastDay, .ref a_rank, .ref a_isWeekly, .ref a_isDouble, .ref a_giftDay, .ref a_giftFrom, .ref a_owed, .ref a_said, .ref a_spared, .ref a_leaveGift, .ref a_leaveFrom, .ref a_leaveTo, .ref a_lateDay, .ref a_lateOffice, .ref a_lateBy, .ref a_guests, .ref a_who, .ref a_used, .ref a_lacks, .ref a_candles, .ref a_masses, .ref a_owing, .ref a_heldOn, .ref a_waits, .ref a_tape, .ref a_text, .int v_taped, .int v_size, .int v_at, .int v_fault, .int v_rules, .ref a_statements, .ref a_taken, .ref a_sort, .ref a_first, .ref a_second, .int v_wordEnd, .int v_number])), (a_feastDay, .inl (cI, 40, .inl f_feastDay)), (a_rank, .inl (cI, 40, .inl f_rank)), (a_heldOn, .inl (cI, 365, .inl g1_ha)), (a_waits, .inl (cZ, 40, .inl g2_ha))] := hD
    refine lv_aload_n hx hb dX12_held_17 rfl (lv_at hl 0 rfl) ?_
    refine va_get (D := D) (ci := 11) (v := .ref a_heldOn) (C := RX12) (T := TX12) (N := 54) hx hb hts in_n_held_X12 hown hK.1 hP 0 rfl rfl 38 (by decide) lk0 (fun _ h9 => h9) rfl dX12_held_18 ?_
    refine lv_iload_n hx hb dX12_held_21 rfl (lv_at hl 1 rfl) ?_
    refine va_iald hx hb hK.1 hP 3 0 rfl rfl (t_in (by omega) (by omega)) dX12_held_22 ?_
    refine lv_topi (fun y ey => ?_)
    have hq := hw_ha.get (i := d) (by omega) (by omega)
    rw [← ey] at hq
    exact hret y (g1_ha, g2_ha) _ _ _ _ (show -1 ≤ y.toInt ∧ (y.toInt < v_feasts.toInt ∨ y.toInt = -1) from by omega) rfl (hP.sub [0, 1, 2, 3, 4] rfl) (hD.sub [0, 1, 2, 3, 4] (by decide +kernel) rfl) hS dX12_held_23
  · have tc_2 := t_eq c_2
    refine lv_iconst (v := (-1)) hx hb dX12_held_11 (by decide) ?_
    exact hret (-1) (f_heldOn, f_waits) _ _ _ _ (show -1 ≤ (-1 : Int32).toInt ∧ ((-1 : Int32).toInt < v_feasts.toInt ∨ (-1 : Int32).toInt = -1) from by omega) rfl (hP.sub [0, 1, 2, 3, 4] rfl) (hD.sub [0, 1, 2, 3, 4] (by decide +kernel) rfl) hS dX12_held_12

