theorem in_m_isMonk_X12 : ∀ w ∈ wsX120, w ∈ wsX12_isMonk := by decide +kernel
set_option maxHeartbeats 8000000 in
set_option maxRecDepth 100000 in
theorem m_isMonk {l : Launch} {D : va_G} {cI cZ cB : ClassId} {h a_isPriest a_bars a_joined a_turns a_awayMonk a_awayFrom a_awayTo a_feastDay a_rank a_isWeekly a_isDouble a_giftDay a_giftFrom a_owed a_said a_spared a_leaveGift a_leaveFrom a_leaveTo a_lateDay a_lateOffice a_lateBy a_guests a_who a_used a_lacks a_candles a_masses a_owing a_heldOn a_waits a_tape a_text a_statements a_taken a_sort a_first a_second : Nat} {i : Int32}  : Met l yX12_isMonk wsX12_isMonk ({ frames := 1, cells := 0, slots := 0, locals := 22 }) (RO D cI cZ cB [.ref h, .int i] [(h, .inr (11, [.int 0, .int 0, .int 0, .int 0, .int 0, .int 0, .int 0, .int 0, .int 0, .ref a_isPriest, .ref a_bars, .ref a_joined, .ref a_turns, .ref a_awayMonk, .ref a_awayFrom, .ref a_awayTo, .ref a_feastDay, .ref a_rank, .ref a_isWeekly, .ref a_isDouble, .ref a_giftDay, .ref a_giftFrom, .ref a_owed, .ref a_said, .ref a_spared, .ref a_leaveGift, .ref a_leaveFrom, .ref a_leaveTo, .ref a_lateDay, .ref a_lateOffice, .ref a_lateBy, .ref a_guests, .ref a_who, .ref a_used, .ref a_lacks, .ref a_candles, .ref a_masses, .ref a_owing, .ref a_heldOn, .ref a_waits, .ref a_tape, .ref a_text, .int 0, .int 0, .int 0, .int (-1), .int 0, .ref a_statements, .ref a_taken, .ref a_sort, .ref a_first, .ref a_second, .int 0, .int 0]))]) (vp_Si (fun r : Int32 => r.toInt = 0)) 0 0 (fun _ => False) := by
  refine ro_ret (cc := cX12_isMonk) (maxL := 2) (ty := .boolean) (own := RX12) (by decide) rfl rfl (Nat.le_of_ble_eq_true rfl) ?_
  intro p e s m args below meth c Q S hret hP hK ls hl
  obtain ⟨hx, hb, hml, hown, hts⟩ := id S
  have hl : lv_has ls 2 [(0, .ref h), (1, .int i)] := hl
  have kk0 : (0 : Int32).toInt = 0 := by decide
  have kk1 : (1 : Int32).toInt = 1 := by decide
  have lk0 := hts (.fieldLink RX12 134 "AbbeyHoursModel" "monks" "I") (by decide +kernel)
  refine lv_iload_n hx hb dX12_isMonk_0 rfl (lv_at hl 1 rfl) ?_
  refine lv_iconst (v := 0) hx hb dX12_isMonk_1 (by decide) ?_
  refine lv_aload_n hx hb dX12_isMonk_2 rfl (lv_at hl 0 rfl) ?_
  refine va_get (D := D) (ci := 11) (v := .int 0) (C := RX12) (T := TX12) (N := 54) hx hb hts in_m_isMonk_X12 hown hK.1 hP 0 rfl rfl 1 (by decide) lk0 (fun _ h9 => h9) rfl dX12_isMonk_3 ?_
  refine lv_iconst (v := 1) hx hb dX12_isMonk_6 (by decide) ?_
  refine lv_isub hx hb dX12_isMonk_7 ?_
  refine lv_topi (fun x_1 ex_1 => ?_)
  first | have tx_1 := t_sub ex_1 (by omega) (by omega) | skip
  have hPc := hP.sub (ws' := []) [] rfl
  refine roS (As := [.int i, .int 0, .int x_1]) (rest := []) S (m_isIn  ) (va_cwS 3 hts gX12_isMonk_X12_isIn rfl rfl rfl (by decide +kernel) ⟨Nat.le_of_ble_eq_true rfl, Nat.le_of_ble_eq_true rfl⟩) hK hPc rfl hl.1 rfl (Nat.le_of_ble_eq_true rfl) dX12_isMonk_8 ⟨Nat.le_of_ble_eq_true rfl, Nat.le_of_ble_eq_true rfl⟩ (fun r_2 hw_2 => ?_)
  have hw_2 : (r_2.toInt = 1 ∧ (0 : Int32).toInt ≤ i.toInt ∧ i.toInt ≤ x_1.toInt) ∨ (r_2.toInt = 0 ∧ (i.toInt < (0 : Int32).toInt ∨ x_1.toInt < i.toInt)) := hw_2
  exact hret r_2 _ _ (show r_2.toInt = 0 from by omega) (zb (by omega)) dX12_isMonk_11

theorem in_m_isGift_X12 : ∀ w ∈ wsX120, w ∈ wsX12_isGift := by decide +kernel
set_option maxHeartbeats 8000000 in
set_option maxRecDepth 100000 in
theorem m_isGift {l : Launch} {D : va_G} {cI cZ cB : ClassId} {h a_isPriest a_bars a_joined a_turns a_awayMonk a_awayFrom a_awayTo a_feastDay a_rank a_isWeekly a_isDouble a_giftDay a_giftFrom a_owed a_said a_spared a_leaveGift a_leaveFrom a_leaveTo a_lateDay a_lateOffice a_lateBy a_guests a_who a_used a_lacks a_candles a_masses a_owing a_heldOn a_waits a_tape a_text a_statements a_taken a_sort a_first a_second : Nat} {i : Int32}  : Met l yX12_isGift wsX12_isGift ({ frames := 1, cells := 0, slots := 0, locals := 22 }) (RO D cI cZ cB [.ref h, .int i] [(h, .inr (11, [.int 0, .int 0, .int 0, .int 0, .int 0, .int 0, .int 0, .int 0, .int 0, .ref a_isPriest, .ref a_bars, .ref a_joined, .ref a_turns, .ref a_awayMonk, .ref a_awayFrom, .ref a_awayTo, .ref a_feastDay, .ref a_rank, .ref a_isWeekly, .ref a_isDouble, .ref a_giftDay, .ref a_giftFrom, .ref a_owed, .ref a_said, .ref a_spared, .ref a_leaveGift, .ref a_leaveFrom, .ref a_leaveTo, .ref a_lateDay, .ref a_lateOffice, .ref a_lateBy, .ref a_guests, .ref a_who, .ref a_used, .ref a_lacks, .ref a_candles, .ref a_masses, .ref a_owing, .ref a_heldOn, .ref a_waits, .ref a_tape, .ref a_text, .int 0, .int 0, .int 0, .int (-1), .int 0, .ref a_statements, .ref a_taken, .ref a_sort, .ref a_first, .ref a_second, .int 0, .int 0]))]) (vp_Si (fun r : Int32 => r.toInt = 0)) 0 0 (fun _ => False) := by
  refine ro_ret (cc := cX12_isGift) (maxL := 2) (ty := .boolean) (own := RX12) (by decide) rfl rfl (Nat.le_of_ble_eq_true rfl) ?_
  intro p e s m args below meth c Q S hret hP hK ls hl
  obtain ⟨hx, hb, hml, hown, hts⟩ := id S
  have hl : lv_has ls 2 [(0, .ref h), (1, .int i)] := hl
  have kk0 : (0 : Int32).toInt = 0 := by decide
  have kk1 : (1 : Int32).toInt = 1 := by decide
  have lk0 := hts (.fieldLink RX12 137 "AbbeyHoursModel" "gifts" "I") (by decide +kernel)
  refine lv_iload_n hx hb dX12_isGift_0 rfl (lv_at hl 1 rfl) ?_
  refine lv_iconst (v := 0) hx hb dX12_isGift_1 (by decide) ?_
  refine lv_aload_n hx hb dX12_isGift_2 rfl (lv_at hl 0 rfl) ?_
  refine va_get (D := D) (ci := 11) (v := .int 0) (C := RX12) (T := TX12) (N := 54) hx hb hts in_m_isGift_X12 hown hK.1 hP 0 rfl rfl 4 (by decide) lk0 (fun _ h9 => h9) rfl dX12_isGift_3 ?_
  refine lv_iconst (v := 1) hx hb dX12_isGift_6 (by decide) ?_
  refine lv_isub hx hb dX12_isGift_7 ?_
  refine lv_topi (fun x_1 ex_1 => ?_)
  first | have tx_1 := t_sub ex_1 (by omega) (by omega) | skip
  have hPc := hP.sub (ws' := []) [] rfl
  refine roS (As := [.int i, .int 0, .int x_1]) (rest := []) S (m_isIn  ) (va_cwS 3 hts gX12_isGift_X12_isIn rfl rfl rfl (by decide +kernel) ⟨Nat.le_of_ble_eq_true rfl, Nat.le_of_ble_eq_true rfl⟩) hK hPc rfl hl.1 rfl (Nat.le_of_ble_eq_true rfl) dX12_isGift_8 ⟨Nat.le_of_ble_eq_true rfl, Nat.le_of_ble_eq_true rfl⟩ (fun r_2 hw_2 => ?_)
  have hw_2 : (r_2.toInt = 1 ∧ (0 : Int32).toInt ≤ i.toInt ∧ i.toInt ≤ x_1.toInt) ∨ (r_2.toInt = 0 ∧ (i.toInt < (0 : Int32).toInt ∨ x_1.toInt < i.toInt)) := hw_2
  exact hret r_2 _ _ (show r_2.toInt = 0 from by omega) (zb (by omega)) dX12_isGift_11

theorem in_m_hasGone_X12 : ∀ w ∈ wsX120, w ∈ wsX12_hasGone := by decide +kernel
set_option maxHeartbeats 8000000 in
set_option maxRecDepth 100000 in
theorem m_hasGone {l : Launch} {D : va_G} {cI cZ cB : ClassId} {h a_isPriest a_bars a_joined a_turns a_awayMonk a_awayFrom a_awayTo a_feastDay a_rank a_isWeekly a_isDouble a_giftDay a_giftFrom a_owed a_said a_spared a_leaveGift a_leaveFrom a_leaveTo a_lateDay a_lateOffice a_lateBy a_guests a_who a_used a_lacks a_candles a_masses a_owing a_heldOn a_waits a_tape a_text a_statements a_taken a_sort a_first a_second : Nat} {i : Int32}  : Met l yX12_hasGone wsX12_hasGone ({ frames := 1, cells := 0, slots := 0, locals := 22 }) (RO D cI cZ cB [.ref h, .int i] [(h, .inr (11, [.int 0, .int 0, .int 0, .int 0, .int 0, .int 0, .int 0, .int 0, .int 0, .ref a_isPriest, .ref a_bars, .ref a_joined, .ref a_turns, .ref a_awayMonk, .ref a_awayFrom, .ref a_awayTo, .ref a_feastDay, .ref a_rank, .ref a_isWeekly, .ref a_isDouble, .ref a_giftDay, .ref a_giftFrom, .ref a_owed, .ref a_said, .ref a_spared, .ref a_leaveGift, .ref a_leaveFrom, .ref a_leaveTo, .ref a_lateDay, .ref a_lateOffice, .ref a_lateBy, .ref a_guests, .ref a_who, .ref a_used, .ref a_lacks, .ref a_candles, .ref a_masses, .ref a_owing, .ref a_heldOn, .ref a_waits, .ref a_tape, .ref a_text, .int 0, .int 0, .int 0, .int (-1), .int 0, .ref a_statements, .ref a_taken, .ref a_sort, .ref a_first, .ref a_second, .int 0, .int 0]))]) (vp_Si (fun r : Int32 => r.toInt = 0)) 0 0 (fun _ => False) := by
  refine ro_ret (cc := cX12_hasGone) (maxL := 2) (ty := .boolean) (own := RX12) (by decide) rfl rfl (Nat.le_of_ble_eq_true rfl) ?_
  intro p e s m args below meth c Q S hret hP hK ls hl
  obtain ⟨hx, hb, hml, hown, hts⟩ := id S
  have hl : lv_has ls 2 [(0, .ref h), (1, .int i)] := hl
  have kk0 : (0 : Int32).toInt = 0 := by decide
  have kk1 : (1 : Int32).toInt = 1 := by decide
  have lk0 := hts (.fieldLink RX12 140 "AbbeyHoursModel" "today" "I") (by decide +kernel)
  refine lv_iload_n hx hb dX12_hasGone_0 rfl (lv_at hl 1 rfl) ?_
  refine lv_iconst (v := 0) hx hb dX12_hasGone_1 (by decide) ?_
  refine lv_aload_n hx hb dX12_hasGone_2 rfl (lv_at hl 0 rfl) ?_
  refine va_get (D := D) (ci := 11) (v := .int 0) (C := RX12) (T := TX12) (N := 54) hx hb hts in_m_hasGone_X12 hown hK.1 hP 0 rfl rfl 0 (by decide) lk0 (fun _ h9 => h9) rfl dX12_hasGone_3 ?_
  refine lv_iconst (v := 1) hx hb dX12_hasGone_6 (by decide) ?_
  refine lv_isub hx hb dX12_hasGone_7 ?_
  refine lv_topi (fun x_1 ex_1 => ?_)
  first | have tx_1 := t_sub ex_1 (by omega) (by omega) | skip
  have hPc := hP.sub (ws' := []) [] rfl
  refine roS (As := [.int i, .int 0, .int x_1]) (rest := []) S (m_isIn  ) (va_cwS 3 hts gX12_hasGone_X12_isIn rfl rfl rfl (by decide +kernel) ⟨Nat.le_of_ble_eq_true rfl, Nat.le_of_ble_eq_true rfl⟩) hK hPc rfl hl.1 rfl (Nat.le_of_ble_eq_true rfl) dX12_hasGone_8 ⟨Nat.le_of_ble_eq_true rfl, Nat.le_of_ble_eq_true rfl⟩ (fun r_2 hw_2 => ?_)
  have hw_2 : (r_2.toInt = 1 ∧ (0 : Int32).toInt ≤ i.toInt ∧ i.toInt ≤ x_1.toInt) ∨ (r_2.toInt = 0 ∧ (i.toInt < (0 : Int32).toInt ∨ x_1.toInt < i.toInt)) := hw_2
  exact hret r_2 _ _ (show r_2.toInt = 0 from by omega) (zb (by omega)) dX12_hasGone_11

theorem in_m_holdsAll_X12 : ∀ w ∈ wsX120, w ∈ wsX12_holdsAll := by decide +kernel
set_option maxHeartbeats 8000000 in
set_option maxRecDepth 100000 in
theorem m_holdsAll {l : Launch} {D : va_G} {cI cZ cB : ClassId} {sz : Nat} {h a_isPriest a_bars a_joined a_turns a_awayMonk a_awayFrom a_awayTo a_feastDay a_rank a_isWeekly a_isDouble a_giftDay a_giftFrom a_owed a_said a_spared a_leaveGift a_leaveFrom a_leaveTo a_lateDay a_lateOffice a_lateBy a_guests a_who a_used a_lacks a_candles a_masses a_owing a_heldOn a_waits a_tape a_text a_statements a_taken a_sort a_first a_second : Nat} {f_heldOn : Nat → Int32}   : Met l yX12_holdsAll wsX12_holdsAll ({ frames := 0, cells := 0, slots := 0, locals := 0 }) (RW D cI cZ cB [.ref h] sz [(h, .inr (11, [.int 0, .int 0, .int 0, .int 0, .int 0, .int 0, .int 0, .int 0, .int 0, .ref a_isPriest, .ref a_bars, .ref a_joined, .ref a_turns, .ref a_awayMonk, .ref a_awayFrom, .ref a_awayTo, .ref a_feastDay, .ref a_rank, .ref a_isWeekly, .ref a_isDouble, .ref a_giftDay, .ref a_giftFrom, .ref a_owed, .ref a_said, .ref a_spared, .ref a_leaveGift, .ref a_leaveFrom, .ref a_leaveTo, .ref a_lateDay, .ref a_lateOffice, .ref a_lateBy, .ref a_guests, .ref a_who, .ref a_used, .ref a_lacks, .ref a_candles, .ref a_masses, .ref a_owing, .ref a_heldOn, .ref a_waits, .ref a_tape, .ref a_text, .int 0, .int 0, .int 0, .int (-1), .int 0, .ref a_statements, .ref a_taken, .ref a_sort, .ref a_first, .ref a_second, .int 0, .int 0])), (a_heldOn, .inl (cI, 365, .inl f_heldOn))]) (va_Qv (fun u : (Nat → Int32) => InR u 365 (-1) 0) (BW D [(h, .inr (11, [.int 0, .int 0, .int 0, .int 0, .int 0, .int 0, .int 0, .int 0, .int 0, .ref a_isPriest, .ref a_bars, .ref a_joined, .ref a_turns, .ref a_awayMonk, .ref a_awayFrom, .ref a_awayTo, .ref a_feastDay, .ref a_rank, .ref a_isWeekly, .ref a_isDouble, .ref a_giftDay, .ref a_giftFrom, .ref a_owed, .ref a_said, .ref a_spared, .ref a_leaveGift, .ref a_leaveFrom, .ref a_leaveTo, .ref a_lateDay, .ref a_lateOffice, .ref a_lateBy, .ref a_guests, .ref a_who, .ref a_used, .ref a_lacks, .ref a_candles, .ref a_masses, .ref a_owing, .ref a_heldOn, .ref a_waits, .ref a_tape, .ref a_text, .int 0, .int 0, .int 0, .int (-1), .int 0, .ref a_statements, .ref a_taken, .ref a_sort, .ref a_first, .ref a_second, .int 0, .int 0])), (a_heldOn, .inl (cI, 365, .inl f_heldOn))] sz (fun u : (Nat → Int32) => [(h, .inr (11, [.int 0, .int 0, .int 0, .int 0, .int 0, .int 0, .int 0, .int 0, .int 0, .ref a_isPriest, .ref a_bars, .ref a_joined, .ref a_turns, .ref a_awayMonk, .ref a_awayFrom, .ref a_awayTo, .ref a_feastDay, .ref a_rank, .ref a_isWeekly, .ref a_isDouble, .ref a_giftDay, .ref a_giftFrom, .ref a_owed, .ref a_said, .ref a_spared, .ref a_leaveGift, .ref a_leaveFrom, .ref a_leaveTo, .ref a_lateDay, .ref a_lateOffice, .ref a_lateBy, .ref a_guests, .ref a_who, .ref a_used, .ref a_lacks, .ref a_candles, .ref a_masses, .ref a_owing, .ref a_heldOn, .ref a_waits, .ref a_tape, .ref a_text, .int 0, .int 0, .int 0, .int (-1), .int 0, .ref a_statements, .ref a_taken, .ref a_sort, .ref a_first, .ref a_second, .int 0, .int 0])), (a_heldOn, .inl (cI, 365, .inl u))])) (va_A [(h, .inr (11, [.int 0, .int 0, .int 0, .int 0, .int 0, .int 0, .int 0, .int 0, .int 0, .ref a_isPriest, .ref a_bars, .ref a_joined, .ref a_turns, .ref a_awayMonk, .ref a_awayFrom, .ref a_awayTo, .ref a_feastDay, .ref a_rank, .ref a_isWeekly, .ref a_isDouble, .ref a_giftDay, .ref a_giftFrom, .ref a_owed, .ref a_said, .ref a_spared, .ref a_leaveGift, .ref a_leaveFrom, .ref a_leaveTo, .ref a_lateDay, .ref a_lateOffice, .ref a_lateBy, .ref a_guests, .ref a_who, .ref a_used, .ref a_lacks, .ref a_candles, .ref a_masses, .ref a_owing, .ref a_heldOn, .ref a_waits, .ref a_tape, .ref a_text, .int 0, .int 0, .int 0, .int (-1), .int 0, .ref a_statements, .ref a_taken, .ref a_sort, .ref a_first, .ref a_second, .int 0, .int 0])), (a_heldOn, .inl (cI, 365, .inl f_heldOn))] sz)) 0 0 (va_A [(h, .inr (11, [.int 0, .int 0, .int 0, .int 0, .int 0, .int 0, .int 0, .int 0, .int 0, .ref a_isPriest, .ref a_bars, .ref a_joined, .ref a_turns, .ref a_awayMonk, .ref a_awayFrom, .ref a_awayTo, .ref a_feastDay, .ref a_rank, .ref a_isWeekly, .ref a_isDouble, .ref a_giftDay, .ref a_giftFrom, .ref a_owed, .ref a_said, .ref a_spared, .ref a_leaveGift, .ref a_leaveFrom, .ref a_leaveTo, .ref a_lateDay, .ref a_lateOffice, .ref a_lateBy, .ref a_guests, .ref a_who, .ref a_used, .ref a_lacks, .ref a_candles, .ref a_masses, .ref a_owing, .ref a_heldOn, .ref a_waits, .ref a_tape, .ref a_text, .int 0, .int 0, .int 0, .int (-1), .int 0, .ref a_statements, .ref a_taken, .ref a_sort, .ref a_first, .ref a_second, .int 0, .int 0])), (a_heldOn, .inl (cI, 365, .inl f_heldOn))] sz) := by
  refine rw_retv (cc := cX12_holdsAll) (maxL := 5) (own := RX12) (by decide) rfl rfl (Nat.le_of_ble_eq_true rfl) ?_
  intro p e s m args below meth c Q A S hin hret hP hK hD hA hS ls hl
  obtain ⟨hx, hb, hml, hown, hts⟩ := id S
  have hl : lv_has ls 5 [(0, .ref h)] := hl
  have kkm1 : (-1 : Int32).toInt = -1 := by decide
  have kk0 : (0 : Int32).toInt = 0 := by decide
  have kk1 : (1 : Int32).toInt = 1 := by decide
  have kk365 : (365 : Int32).toInt = 365 := by decide
  have lk0 := hts (.fieldLink RX12 153 "AbbeyHoursModel" "feasts" "I") (by decide +kernel)
  have lk1 := hts (.fieldLink RX12 98 "AbbeyHoursModel" "heldOn" "[I") (by decide +kernel)
  refine lv_iconst (v := 0) hx hb dX12_holdsAll_0 (by decide) ?_
  refine lv_istore_n (lv' := [(1, .int 0), (0, .ref h)]) hx hb dX12_holdsAll_1 rfl hl (by decide) rfl (fun ls hl => ?_)
  refine lv_iload_n hx hb dX12_holdsAll_2 rfl (lv_at hl 0 rfl) ?_
  refine lv_aload_n hx hb dX12_holdsAll_3 rfl (lv_at hl 1 rfl) ?_
  refine va_get (D := D) (ci := 11) (v := .int 0) (C := RX12) (T := TX12) (N := 54) hx hb hts in_m_holdsAll_X12 hown hK.1 hP 0 rfl rfl 3 (by decide) lk0 (fun _ h9 => h9) rfl dX12_holdsAll_4 ?_
  refine lv_icmp_ge (tgt := 23) hx hb dX12_holdsAll_7 (by decide) (fun c_1 => ?_) (fun c_1 => ?_)
  · have tc_1 := t_le c_1
    refine lv_iconst (v := 0) hx hb dX12_holdsAll_23 (by decide) ?_
    refine lv_istore_n (lv' := [(1, .int 0), (0, .ref h)]) hx hb dX12_holdsAll_24 rfl hl (by decide) rfl (fun ls hl => ?_)
    have loop25 : ∀ (fuel : Nat) (j : Int32) (fr : Nat → Int32), 365 - j.toInt < (fuel : Int) → (0 ≤ j.toInt) → (j.toInt ≤ 365) → (InR fr j.toInt (-1) 0) → ∀ (H : Heap) (locs : List Loc), va_P D vwCl [(h, .inr (11, [.int 0, .int 0, .int 0, .int 0, .int 0, .int 0, .int 0, .int 0, .int 0, .ref a_isPriest, .ref a_bars, .ref a_joined, .ref a_turns, .ref a_awayMonk, .ref a_awayFrom, .ref a_awayTo, .ref a_feastDay, .ref a_rank, .ref a_isWeekly, .ref a_isDouble, .ref a_giftDay, .ref a_giftFrom, .ref a_owed, .ref a_said, .ref a_spared, .ref a_leaveGift, .ref a_leaveFrom, .ref a_leaveTo, .ref a_lateDay, .ref a_lateOffice, .ref a_lateBy, .ref a_guests, .ref a_who, .ref a_used, .ref a_lacks, .ref a_candles, .ref a_masses, .ref a_owing, .ref a_heldOn, .ref a_waits, .ref a_tape, .ref a_text, .int 0, .int 0, .int 0, .int (-1), .int 0, .ref a_statements, .ref a_taken, .ref a_sort, .ref a_first, .ref a_second, .int 0, .int 0])), (a_heldOn, .inl (cI, 365, .inl fr))] H → va_D A [(h, .inr (11, [.int 0, .int 0, .int 0, .int 0, .int 0, .int 0, .int 0, .int 0, .int 0, .ref a_isPriest, .ref a_bars, .ref a_joined, .ref a_turns, .ref a_awayMonk, .ref a_awayFrom, .ref a_awayTo, .ref a_feastDay, .ref a_rank, .ref a_isWeekly, .ref a_isDouble, .ref a_giftDay, .ref a_giftFrom, .ref a_owed, .ref a_said, .ref a_spared, .ref a_leaveGift, .ref a_leaveFrom, .ref a_leaveTo, .ref a_lateDay, .ref a_lateOffice, .ref a_lateBy, .ref a_guests, .ref a_who, .ref a_used, .ref a_lacks, .ref a_candles, .ref a_masses, .ref a_owing, .ref a_heldOn, .ref a_waits, .ref a_tape, .ref a_text, .int 0, .int 0, .int 0, .int (-1), .int 0, .ref a_statements, .ref a_taken, .ref a_sort, .ref a_first, .ref a_second, .int 0, .int 0])), (a_heldOn, .inl (cI, 365, .inl fr))] → va_S A s.heap H locs → ∀ ls : Array Slot, lv_has ls 5 [(1, .int j), (0, .ref h)] → W p l e ({ frames := 0, cells := 0, slots := 0, locals := 0 } : Room) s m args below meth c H locs 0 0 Q (F0 m 25 ls []) := by
      intro fuel
      induction fuel with
      | zero =>
        intro j fr hmu hj0 hj1 hr H locs hP hD hS ls hl
        exfalso; omega
      | succ fuel ih25 =>
        intro j fr hmu hj0 hj1 hr H locs hP hD hS ls hl
        refine lv_iload_n hx hb dX12_holdsAll_25 rfl (lv_at hl 0 rfl) ?_
        refine lv_sipush (v := 365) hx hb dX12_holdsAll_26 (by decide) ?_
        refine lv_icmp_ge (tgt := 227) hx hb dX12_holdsAll_29 (by decide) (fun c_2 => ?_) (fun c_2 => ?_)
        · have tc_2 := t_le c_2
          exact hret fr _ _ _ _ (show InR fr 365 (-1) 0 from hr.mono (by omega) (by omega) (by omega)) (hP.sub [0, 1] rfl) (hD.sub [0, 1] (by decide) rfl) hS dX12_holdsAll_227
        · have tc_2 := t_nle c_2
          refine lv_iconst (v := (-1)) hx hb dX12_holdsAll_32 (by decide) ?_
          refine lv_istore_n (lv' := [(2, .int (-1)), (1, .int j), (0, .ref h)]) hx hb dX12_holdsAll_33 rfl hl (by decide) rfl (fun ls hl => ?_)
          refine lv_iconst (v := 0) hx hb dX12_holdsAll_34 (by decide) ?_
          refine lv_istore_n (lv' := [(3, .int 0), (2, .int (-1)), (1, .int j), (0, .ref h)]) hx hb dX12_holdsAll_35 rfl hl (by decide) rfl (fun ls hl => ?_)
          refine lv_iload_n hx hb dX12_holdsAll_36 rfl (lv_at hl 0 rfl) ?_
          refine lv_aload_n hx hb dX12_holdsAll_37 rfl (lv_at hl 3 rfl) ?_
          refine va_get (D := D) (ci := 11) (v := .int 0) (C := RX12) (T := TX12) (N := 54) hx hb hts in_m_holdsAll_X12 hown hK.1 hP 0 rfl rfl 3 (by decide) lk0 (fun _ h9 => h9) rfl dX12_holdsAll_38 ?_
          refine lv_icmp_ge (tgt := 153) hx hb dX12_holdsAll_41 (by decide) (fun c_3 => ?_) (fun c_3 => ?_)
          · have tc_3 := t_le c_3
            refine lv_aload_n hx hb dX12_holdsAll_153 rfl (lv_at hl 3 rfl) ?_
            refine va_get (D := D) (ci := 11) (v := .ref a_heldOn) (C := RX12) (T := TX12) (N := 54) hx hb hts in_m_holdsAll_X12 hown hK.1 hP 0 rfl rfl 38 (by decide) lk1 (fun _ h9 => h9) rfl dX12_holdsAll_154 ?_
            refine lv_iload_n hx hb dX12_holdsAll_157 rfl (lv_at hl 2 rfl) ?_
            refine lv_iload_n hx hb dX12_holdsAll_158 rfl (lv_at hl 1 rfl) ?_
            refine va_iast hx hb hK.1 hP hD hS 1 0 rfl rfl (t_in (by omega) (by omega)) dX12_holdsAll_159 (fun H locs hP hD hS => ?_)
            obtain ⟨gh, egh⟩ : ∃ z : Nat → Int32, z = upd fr ((j : Int32).toNatClampNeg) (-1) := ⟨_, rfl⟩
            rw [← egh] at hP hD
            have hP : va_P D vwCl [(h, .inr (11, [.int 0, .int 0, .int 0, .int 0, .int 0, .int 0, .int 0, .int 0, .int 0, .ref a_isPriest, .ref a_bars, .ref a_joined, .ref a_turns, .ref a_awayMonk, .ref a_awayFrom, .ref a_awayTo, .ref a_feastDay, .ref a_rank, .ref a_isWeekly, .ref a_isDouble, .ref a_giftDay, .ref a_giftFrom, .ref a_owed, .ref a_said, .ref a_spared, .ref a_leaveGift, .ref a_leaveFrom, .ref a_leaveTo, .ref a_lateDay, .ref a_lateOffice, .ref a_lateBy, .ref a_guests, .ref a_who, .ref a_used, .ref a_lacks, .ref a_candles, .ref a_masses, .ref a_owing, .ref a_heldOn, .ref a_waits, .ref a_tape, .ref a_text, .int 0, .int 0, .int 0, .int (-1), .int 0, .ref a_statements, .ref a_taken, .ref a_sort, .ref a_first, .ref a_second, .int 0, .int 0])), (a_heldOn, .inl (cI, 365, .inl gh))] H := hP
            have hD : va_D A [(h, .inr (11, [.int 0, .int 0, .int 0, .int 0, .int 0, .int 0, .int 0, .int 0, .int 0, .ref a_isPriest, .ref a_bars, .ref a_joined, .ref a_turns, .ref a_awayMonk, .ref a_awayFrom, .ref a_awayTo, .ref a_feastDay, .ref a_rank, .ref a_isWeekly, .ref a_isDouble, .ref a_giftDay, .ref a_giftFrom, .ref a_owed, .ref a_said, .ref a_spared, .ref a_leaveGift, .ref a_leaveFrom, .ref a_leaveTo, .ref a_lateDay, .ref a_lateOffice, .ref a_lateBy, .ref a_guests, .ref a_who, .ref a_used, .ref a_lacks, .ref a_candles, .ref a_masses, .ref a_owing, .ref a_heldOn, .ref a_waits, .ref a_tape, .ref a_text, .int 0, .int 0, .int 0, .int (-1), .int 0, .ref a_statements, .ref a_taken, .ref a_sort, .ref a_first, .ref a_second, .int 0, .int 0])), (a_heldOn, .inl (cI, 365, .inl gh))] := hD
            refine lv_iconst (v := 0) hx hb dX12_holdsAll_160 (by decide) ?_
            refine lv_istore_n (lv' := [(3, .int 0), (2, .int (-1)), (1, .int j), (0, .ref h)]) hx hb dX12_holdsAll_161 rfl hl (by decide) rfl (fun ls hl => ?_)
            refine lv_iload_n hx hb dX12_holdsAll_162 rfl (lv_at hl 0 rfl) ?_
            refine lv_aload_n hx hb dX12_holdsAll_163 rfl (lv_at hl 3 rfl) ?_
            refine va_get (D := D) (ci := 11) (v := .int 0) (C := RX12) (T := TX12) (N := 54) hx hb hts in_m_holdsAll_X12 hown hK.1 hP 0 rfl rfl 3 (by decide) lk0 (fun _ h9 => h9) rfl dX12_holdsAll_164 ?_
            refine lv_icmp_ge (tgt := 221) hx hb dX12_holdsAll_167 (by decide) (fun c_5 => ?_) (fun c_5 => ?_)
            · have tc_5 := t_le c_5
              obtain ⟨x_6, ex_6⟩ : ∃ y : Int32, y = j + 1 := ⟨_, rfl⟩
              refine lv_iinc (v := x_6) (lv' := [(1, .int x_6), (3, .int 0), (2, .int (-1)), (0, .ref h)]) hx hb dX12_holdsAll_221 hl (k := 2) rfl (by rw [ex_6]; rfl) (by decide) rfl (fun ls hl => ?_)
              first | have tx_6 := t_add ex_6 (by omega) (by omega) | skip
              refine lv_goto (tgt := 25) hx hb dX12_holdsAll_224 (by decide) ?_
              exact ih25 x_6 gh (by omega) (by omega) (by omega) (by rw [egh]; exact hr.ext (by omega) (by omega) (by omega) (by omega)) _ _ hP hD hS ls (lv_sub hl [0, 3] rfl)
            · exact absurd c_5 (by decide)
          · exact absurd c_3 (by decide)
    exact loop25 ((365 - (0 : Int32).toInt).toNat + 1) 0 f_heldOn (by omega) (by omega) (by omega) (by rw [kk0]; exact InR.zero) _ _ hP hD hS ls (lv_sub hl [0, 1] rfl)
  · exact absurd c_1 (by decide)

theorem in_m_held_X12 : ∀ w ∈ wsX120, w ∈ wsX12_held := by decide +kernel
set_option maxHeartbeats 8000000 in
set_option maxRecDepth 100000 in
theorem m_held {l : Launch} {D : va_G} {cI cZ cB : ClassId} {sz : Nat} {h a_isPriest a_bars a_joined a_turns a_awayMonk a_awayFrom a_awayTo a_feastDay a_rank a_isWeekly a_isDouble a_giftDay a_giftFrom a_owed a_said a_spared a_leaveGift a_leaveFrom a_leaveTo a_lateDay a_lateOffice a_lateBy a_guests a_who a_used a_lacks a_candles a_masses a_owing a_heldOn a_waits a_tape a_text a_statements a_taken a_sort a_first a_second : Nat} {f_heldOn : Nat → Int32} {d : Int32}  : Met l yX12_held wsX12_held ({ frames := 1, cells := 0, slots := 0, locals := 24 }) (RW D cI cZ cB [.ref h, .int d] sz [(h, .inr (11, [.int 0, .int 0, .int 0, .int 0, .int 0, .int 0, .int 0, .int 0, .int 0, .ref a_isPriest, .ref a_bars, .ref a_joined, .ref a_turns, .ref a_awayMonk, .ref a_awayFrom, .ref a_awayTo, .ref a_feastDay, .ref a_rank, .ref a_isWeekly, .ref a_isDouble, .ref a_giftDay, .ref a_giftFrom, .ref a_owed, .ref a_said, .ref a_spared, .ref a_leaveGift, .ref a_leaveFrom, .ref a_leaveTo, .ref a_lateDay, .ref a_lateOffice, .ref a_lateBy, .ref a_guests, .ref a_who, .ref a_used, .ref a_lacks, .ref a_candles, .ref a_masses, .ref a_owing, .ref a_heldOn, .ref a_waits, .ref a_tape, .ref a_text, .int 0, .int 0, .int 0, .int (-1), .int 0, .ref a_statements, .ref a_taken, .ref a_sort, .ref a_first, .ref a_second, .int 0, .int 0])), (a_heldOn, .inl (cI, 365, .inl f_heldOn))]) (va_Qi (fun (r : Int32) (u : (Nat → Int32)) => r.toInt = -1) (BW D [(h, .inr (11, [.int 0, .int 0, .int 0, .int 0, .int 0, .int 0, .int 0, .int 0, .int 0, .ref a_isPriest, .ref a_bars, .ref a_joined, .ref a_turns, .ref a_awayMonk, .ref a_awayFrom, .ref a_awayTo, .ref a_feastDay, .ref a_rank, .ref a_isWeekly, .ref a_isDouble, .ref a_giftDay, .ref a_giftFrom, .ref a_owed, .ref a_said, .ref a_spared, .ref a_leaveGift, .ref a_leaveFrom, .ref a_leaveTo, .ref a_lateDay, .ref a_lateOffice, .ref a_lateBy, .ref a_guests, .ref a_who, .ref a_used, .ref a_lacks, .ref a_candles, .ref a_masses, .ref a_owing, .ref a_heldOn, .ref a_waits, .ref a_tape, .ref a_text, .int 0, .int 0, .int 0, .int (-1), .int 0, .ref a_statements, .ref a_taken, .ref a_sort, .ref a_first, .ref a_second, .int 0, .int 0])), (a_heldOn, .inl (cI, 365, .inl f_heldOn))] sz (fun u : (Nat → Int32) => [(h, .inr (11, [.int 0, .int 0, .int 0, .int 0, .int 0, .int 0, .int 0, .int 0, .int 0, .ref a_isPriest, .ref a_bars, .ref a_joined, .ref a_turns, .ref a_awayMonk, .ref a_awayFrom, .ref a_awayTo, .ref a_feastDay, .ref a_rank, .ref a_isWeekly, .ref a_isDouble, .ref a_giftDay, .ref a_giftFrom, .ref a_owed, .ref a_said, .ref a_spared, .ref a_leaveGift, .ref a_leaveFrom, .ref a_leaveTo, .ref a_lateDay, .ref a_lateOffice, .ref a_lateBy, .ref a_guests, .ref a_who, .ref a_used, .ref a_lacks, .ref a_candles, .ref a_masses, .ref a_owing, .ref a_heldOn, .ref a_waits, .ref a_tape, .ref a_text, .int 0, .int 0, .int 0, .int (-1), .int 0, .ref a_statements, .ref a_taken, .ref a_sort, .ref a_first, .ref a_second, .int 0, .int 0])), (a_heldOn, .inl (cI, 365, .inl u))])) (va_A [(h, .inr (11, [.int 0, .int 0, .int 0, .int 0, .int 0, .int 0, .int 0, .int 0, .int 0, .ref a_isPriest, .ref a_bars, .ref a_joined, .ref a_turns, .ref a_awayMonk, .ref a_awayFrom, .ref a_awayTo, .ref a_feastDay, .ref a_rank, .ref a_isWeekly, .ref a_isDouble, .ref a_giftDay, .ref a_giftFrom, .ref a_owed, .ref a_said, .ref a_spared, .ref a_leaveGift, .ref a_leaveFrom, .ref a_leaveTo, .ref a_lateDay, .ref a_lateOffice, .ref a_lateBy, .ref a_guests, .ref a_who, .ref a_used, .ref a_lacks, .ref a_candles, .ref a_masses, .ref a_owing, .ref a_heldOn, .ref a_waits, .ref a_tape, .ref a_text, .int 0, .int 0, .int 0, .int (-1), .int 0, .ref a_statements, .ref a_taken, .ref a_sort, .ref a_first, .ref a_second, .int 0, .int 0])), (a_heldOn, .inl (cI, 365, .inl f_heldOn))] sz)) 0 0 (va_A [(h, .inr (11, [.int 0, .int 0, .int 0, .int 0, .int 0, .int 0, .int 0, .int 0, .int 0, .ref a_isPriest, .ref a_bars, .ref a_joined, .ref a_turns, .ref a_awayMonk, .ref a_awayFrom, .ref a_awayTo, .ref a_feastDay, .ref a_rank, .ref a_isWeekly, .ref a_isDouble, .ref a_giftDay, .ref a_giftFrom, .ref a_owed, .ref a_said, .ref a_spared, .ref a_leaveGift, .ref a_leaveFrom, .ref a_leaveTo, .ref a_lateDay, .ref a_lateOffice, .ref a_lateBy, .ref a_guests, .ref a_who, .ref a_used, .ref a_lacks, .ref a_candles, .ref a_masses, .ref a_owing, .ref a_heldOn, .ref a_waits, .ref a_tape, .ref a_text, .int 0, .int 0, .int 0, .int (-1), .int 0, .ref a_statements, .ref a_taken, .ref a_sort, .ref a_first, .ref a_second, .int 0, .int 0])), (a_heldOn, .inl (cI, 365, .inl f_heldOn))] sz) := by
  refine rw_ret (cc := cX12_held) (maxL := 2) (ty := .int) (own := RX12) (by decide) rfl rfl (Nat.le_of_ble_eq_true rfl) ?_
  intro p e s m args below meth c Q A S hin hret hP hK hD hA hS ls hl
  obtain ⟨hx, hb, hml, hown, hts⟩ := id S
  have hl : lv_has ls 2 [(0, .ref h), (1, .int d)] := hl
  have kkm1 : (-1 : Int32).toInt = -1 := by decide
  have kk0 : (0 : Int32).toInt = 0 := by decide
  have kk364 : (364 : Int32).toInt = 364 := by decide
  have lk0 := hts (.fieldLink RX12 98 "AbbeyHoursModel" "heldOn" "[I") (by decide +kernel)
  refine lv_iload_n hx hb dX12_held_0 rfl (lv_at hl 1 rfl) ?_
  refine lv_iconst (v := 0) hx hb dX12_held_1 (by decide) ?_
  refine lv_sipush (v := 364) hx hb dX12_held_2 (by decide) ?_
  have hPc := hP.sub (ws' := []) [] rfl
  refine roS (As := [.int d, .int 0, .int 364]) (rest := []) S (m_isIn  ) (va_cwS 3 hts gX12_held_X12_isIn rfl rfl rfl (by decide +kernel) ⟨Nat.le_of_ble_eq_true rfl, Nat.le_of_ble_eq_true rfl⟩) hK hPc rfl hl.1 rfl (Nat.le_of_ble_eq_true rfl) dX12_held_5 ⟨Nat.le_of_ble_eq_true rfl, Nat.le_of_ble_eq_true rfl⟩ (fun r_1 hw_1 => ?_)
  have hw_1 : (r_1.toInt = 1 ∧ (0 : Int32).toInt ≤ d.toInt ∧ d.toInt ≤ (364 : Int32).toInt) ∨ (r_1.toInt = 0 ∧ (d.toInt < (0 : Int32).toInt ∨ (364 : Int32).toInt < d.toInt)) := hw_1
  refine lv_if_ne (tgt := 13) hx hb dX12_held_8 (by decide) (fun c_2 => ?_) (fun c_2 => ?_)
  · have tc_2 := t_neq c_2
    refine lv_aload_n hx hb dX12_held_13 rfl (lv_at hl 0 rfl) ?_
    have hPc := hP.sub (ws' := [(h, .inr (11, [.int 0, .int 0, .int 0, .int 0, .int 0, .int 0, .int 0, .int 0, .int 0, .ref a_isPriest, .ref a_bars, .ref a_joined, .ref a_turns, .ref a_awayMonk, .ref a_awayFrom, .ref a_awayTo, .ref a_feastDay, .ref a_rank, .ref a_isWeekly, .ref a_isDouble, .ref a_giftDay, .ref a_giftFrom, .ref a_owed, .ref a_said, .ref a_spared, .ref a_leaveGift, .ref a_leaveFrom, .ref a_leaveTo, .ref a_lateDay, .ref a_lateOffice, .ref a_lateBy, .ref a_guests, .ref a_who, .ref a_used, .ref a_lacks, .ref a_candles, .ref a_masses, .ref a_owing, .ref a_heldOn, .ref a_waits, .ref a_tape, .ref a_text, .int 0, .int 0, .int 0, .int (-1), .int 0, .ref a_statements, .ref a_taken, .ref a_sort, .ref a_first, .ref a_second, .int 0, .int 0])), (a_heldOn, .inl (cI, 365, .inl f_heldOn))]) [0, 1] rfl
    refine rwVv (As := []) (rest := []) (wc := [(h, .inr (11, [.int 0, .int 0, .int 0, .int 0, .int 0, .int 0, .int 0, .int 0, .int 0, .ref a_isPriest, .ref a_bars, .ref a_joined, .ref a_turns, .ref a_awayMonk, .ref a_awayFrom, .ref a_awayTo, .ref a_feastDay, .ref a_rank, .ref a_isWeekly, .ref a_isDouble, .ref a_giftDay, .ref a_giftFrom, .ref a_owed, .ref a_said, .ref a_spared, .ref a_leaveGift, .ref a_leaveFrom, .ref a_leaveTo, .ref a_lateDay, .ref a_lateOffice, .ref a_lateBy, .ref a_guests, .ref a_who, .ref a_used, .ref a_lacks, .ref a_candles, .ref a_masses, .ref a_owing, .ref a_heldOn, .ref a_waits, .ref a_tape, .ref a_text, .int 0, .int 0, .int 0, .int (-1), .int 0, .ref a_statements, .ref a_taken, .ref a_sort, .ref a_first, .ref a_second, .int 0, .int 0])), (a_heldOn, .inl (cI, 365, .inl f_heldOn))]) (wr := []) S (m_holdsAll  ) (cwV 0 hts gX12_held_X12_holdsAll rfl rfl rfl (by decide +kernel) ⟨Nat.le_of_ble_eq_true rfl, Nat.le_of_ble_eq_true rfl⟩) hK hP hD hS hA [0, 1] [] rfl rfl (by decide) (by decide) (by decide) (va_recv hK.1 hPc (ci := 11) (q0 := 0) rfl rfl) rfl hl.1 rfl (Nat.le_of_ble_eq_true rfl) dX12_held_14 ⟨Nat.le_of_ble_eq_true rfl, Nat.le_of_ble_eq_true rfl⟩ (fun u_ha H locs hw_ha hP hD hS => ?_)
    obtain ⟨g1_ha, rfl⟩ : ∃ z, z = u_ha := ⟨_, rfl⟩
    have hw_ha : InR g1_ha 365 (-1) 0 := hw_ha
    have hP : va_P D vwCl [(h, .inr (11, [.int 0, .int 0, .int 0, .int 0, .int 0, .int 0, .int 0, .int 0, .int 0, .ref a_isPriest, .ref a_bars, .ref a_joined, .ref a_turns, .ref a_awayMonk, .ref a_awayFrom, .ref a_awayTo, .ref a_feastDay, .ref a_rank, .ref a_isWeekly, .ref a_isDouble, .ref a_giftDay, .ref a_giftFrom, .ref a_owed, .ref a_said, .ref a_spared, .ref a_leaveGift, .ref a_leaveFrom, .ref a_leaveTo, .ref a_lateDay, .ref a_lateOffice, .ref a_lateBy, .ref a_guests, .ref a_who, .ref a_used, .ref a_lacks, .ref a_candles, .ref a_masses, .ref a_owing, .ref a_heldOn, .ref a_waits, .ref a_tape, .ref a_text, .int 0, .int 0, .int 0, .int (-1), .int 0, .ref a_statements, .ref a_taken, .ref a_sort, .ref a_first, .ref a_second, .int 0, .int 0])), (a_heldOn, .inl (cI, 365, .inl g1_ha))] H := hP
    have hD : va_D A [(h, .inr (11, [.int 0, .int 0, .int 0, .int 0, .int 0, .int 0, .int 0, .int 0, .int 0, .ref a_isPriest, .ref a_bars, .ref a_joined, .ref a_turns, .ref a_awayMonk, .ref a_awayFrom, .ref a_awayTo, .ref a_feastDay, .ref a_rank, .ref a_isWeekly, .ref a_isDouble, .ref a_giftDay, .ref a_giftFrom, .ref a_owed, .ref a_said, .ref a_spared, .ref a_leaveGift, .ref a_leaveFrom, .ref a_leaveTo, .ref a_lateDay, .ref a_lateOffice, .ref a_lateBy, .ref a_guests, .ref a_who, .ref a_used, .ref a_lacks, .ref a_candles, .ref a_masses, .ref a_owing, .ref a_heldOn, .ref a_waits, .ref a_tape, .ref a_text, .int 0, .int 0, .int 0, .int (-1), .int 0, .ref a_statements, .ref a_taken, .ref a_sort, .ref a_first, .ref a_second, .int 0, .int 0])), (a_heldOn, .inl (cI, 365, .inl g1_ha))] := hD
    refine lv_aload_n hx hb dX12_held_17 rfl (lv_at hl 0 rfl) ?_
    refine va_get (D := D) (ci := 11) (v := .ref a_heldOn) (C := RX12) (T := TX12) (N := 54) hx hb hts in_m_held_X12 hown hK.1 hP 0 rfl rfl 38 (by decide) lk0 (fun _ h9 => h9) rfl dX12_held_18 ?_
    refine lv_iload_n hx hb dX12_held_21 rfl (lv_at hl 1 rfl) ?_
    refine va_iald hx hb hK.1 hP 1 0 rfl rfl (t_in (by omega) (by omega)) dX12_held_22 ?_
    refine lv_topi (fun y ey => ?_)
    have hq := hw_ha.get (i := d) (by omega) (by omega)
    rw [← ey] at hq
    exact hret y g1_ha _ _ _ _ (show y.toInt = -1 from by omega) rfl (hP.sub [0, 1] rfl) (hD.sub [0, 1] (by decide) rfl) hS dX12_held_23
  · have tc_2 := t_eq c_2
    refine lv_iconst (v := (-1)) hx hb dX12_held_11 (by decide) ?_
    exact hret (-1) f_heldOn _ _ _ _ (show (-1 : Int32).toInt = -1 from by omega) rfl (hP.sub [0, 1] rfl) (hD.sub [0, 1] (by decide) rfl) hS dX12_held_12

theorem in_m_when_X12 : ∀ w ∈ wsX120, w ∈ wsX12_when := by decide +kernel
set_option maxHeartbeats 8000000 in
set_option maxRecDepth 100000 in
theorem m_when {l : Launch} {D : va_G} {cI cZ cB : ClassId} {sz : Nat} {h a_isPriest a_bars a_joined a_turns a_awayMonk a_awayFrom a_awayTo a_feastDay a_rank a_isWeekly a_isDouble a_giftDay a_giftFrom a_owed a_said a_spared a_leaveGift a_leaveFrom a_leaveTo a_lateDay a_lateOffice a_lateBy a_guests a_who a_used a_lacks a_candles a_masses a_owing a_heldOn a_waits a_tape a_text a_statements a_taken a_sort a_first a_second : Nat} {f_heldOn : Nat → Int32} {i : Int32}  : Met l yX12_when wsX12_when ({ frames := 1, cells := 0, slots := 0, locals := 24 }) (RW D cI cZ cB [.ref h, .int i] sz [(h, .inr (11, [.int 0, .int 0, .int 0, .int 0, .int 0, .int 0, .int 0, .int 0, .int 0, .ref a_isPriest, .ref a_bars, .ref a_joined, .ref a_turns, .ref a_awayMonk, .ref a_awayFrom, .ref a_awayTo, .ref a_feastDay, .ref a_rank, .ref a_isWeekly, .ref a_isDouble, .ref a_giftDay, .ref a_giftFrom, .ref a_owed, .ref a_said, .ref a_spared, .ref a_leaveGift, .ref a_leaveFrom, .ref a_leaveTo, .ref a_lateDay, .ref a_lateOffice, .ref a_lateBy, .ref a_guests, .ref a_who, .ref a_used, .ref a_lacks, .ref a_candles, .ref a_masses, .ref a_owing, .ref a_heldOn, .ref a_waits, .ref a_tape, .ref a_text, .int 0, .int 0, .int 0, .int (-1), .int 0, .ref a_statements, .ref a_taken, .ref a_sort, .ref a_first, .ref a_second, .int 0, .int 0])), (a_heldOn, .inl (cI, 365, .inl f_heldOn))]) (va_Qi (fun (r : Int32) (u : (Nat → Int32)) => r.toInt = -1) (BW D [(h, .inr (11, [.int 0, .int 0, .int 0, .int 0, .int 0, .int 0, .int 0, .int 0, .int 0, .ref a_isPriest, .ref a_bars, .ref a_joined, .ref a_turns, .ref a_awayMonk, .ref a_awayFrom, .ref a_awayTo, .ref a_feastDay, .ref a_rank, .ref a_isWeekly, .ref a_isDouble, .ref a_giftDay, .ref a_giftFrom, .ref a_owed, .ref a_said, .ref a_spared, .ref a_leaveGift, .ref a_leaveFrom, .ref a_leaveTo, .ref a_lateDay, .ref a_lateOffice, .ref a_lateBy, .ref a_guests, .ref a_who, .ref a_used, .ref a_lacks, .ref a_candles, .ref a_masses, .ref a_owing, .ref a_heldOn, .ref a_waits, .ref a_tape, .ref a_text, .int 0, .int 0, .int 0, .int (-1), .int 0, .ref a_statements, .ref a_taken, .ref a_sort, .ref a_first, .ref a_second, .int 0, .int 0])), (a_heldOn, .inl (cI, 365, .inl f_heldOn))] sz (fun u : (Nat → Int32) => [(h, .inr (11, [.int 0, .int 0, .int 0, .int 0, .int 0, .int 0, .int 0, .int 0, .int 0, .ref a_isPriest, .ref a_bars, .ref a_joined, .ref a_turns, .ref a_awayMonk, .ref a_awayFrom, .ref a_awayTo, .ref a_feastDay, .ref a_rank, .ref a_isWeekly, .ref a_isDouble, .ref a_giftDay, .ref a_giftFrom, .ref a_owed, .ref a_said, .ref a_spared, .ref a_leaveGift, .ref a_leaveFrom, .ref a_leaveTo, .ref a_lateDay, .ref a_lateOffice, .ref a_lateBy, .ref a_guests, .ref a_who, .ref a_used, .ref a_lacks, .ref a_candles, .ref a_masses, .ref a_owing, .ref a_heldOn, .ref a_waits, .ref a_tape, .ref a_text, .int 0, .int 0, .int 0, .int (-1), .int 0, .ref a_statements, .ref a_taken, .ref a_sort, .ref a_first, .ref a_second, .int 0, .int 0])), (a_heldOn, .inl (cI, 365, .inl u))])) (va_A [(h, .inr (11, [.int 0, .int 0, .int 0, .int 0, .int 0, .int 0, .int 0, .int 0, .int 0, .ref a_isPriest, .ref a_bars, .ref a_joined, .ref a_turns, .ref a_awayMonk, .ref a_awayFrom, .ref a_awayTo, .ref a_feastDay, .ref a_rank, .ref a_isWeekly, .ref a_isDouble, .ref a_giftDay, .ref a_giftFrom, .ref a_owed, .ref a_said, .ref a_spared, .ref a_leaveGift, .ref a_leaveFrom, .ref a_leaveTo, .ref a_lateDay, .ref a_lateOffice, .ref a_lateBy, .ref a_guests, .ref a_who, .ref a_used, .ref a_lacks, .ref a_candles, .ref a_masses, .ref a_owing, .ref a_heldOn, .ref a_waits, .ref a_tape, .ref a_text, .int 0, .int 0, .int 0, .int (-1), .int 0, .ref a_statements, .ref a_taken, .ref a_sort, .ref a_first, .ref a_second, .int 0, .int 0])), (a_heldOn, .inl (cI, 365, .inl f_heldOn))] sz)) 0 0 (va_A [(h, .inr (11, [.int 0, .int 0, .int 0, .int 0, .int 0, .int 0, .int 0, .int 0, .int 0, .ref a_isPriest, .ref a_bars, .ref a_joined, .ref a_turns, .ref a_awayMonk, .ref a_awayFrom, .ref a_awayTo, .ref a_feastDay, .ref a_rank, .ref a_isWeekly, .ref a_isDouble, .ref a_giftDay, .ref a_giftFrom, .ref a_owed, .ref a_said, .ref a_spared, .ref a_leaveGift, .ref a_leaveFrom, .ref a_leaveTo, .ref a_lateDay, .ref a_lateOffice, .ref a_lateBy, .ref a_guests, .ref a_who, .ref a_used, .ref a_lacks, .ref a_candles, .ref a_masses, .ref a_owing, .ref a_heldOn, .ref a_waits, .ref a_tape, .ref a_text, .int 0, .int 0, .int 0, .int (-1), .int 0, .ref a_statements, .ref a_taken, .ref a_sort, .ref a_first, .ref a_second, .int 0, .int 0])), (a_heldOn, .inl (cI, 365, .inl f_heldOn))] sz) := by
  refine rw_ret (cc := cX12_when) (maxL := 3) (ty := .int) (own := RX12) (by decide) rfl rfl (Nat.le_of_ble_eq_true rfl) ?_
  intro p e s m args below meth c Q A S hin hret hP hK hD hA hS ls hl
  obtain ⟨hx, hb, hml, hown, hts⟩ := id S
  have hl : lv_has ls 3 [(0, .ref h), (1, .int i)] := hl
  have kkm1 : (-1 : Int32).toInt = -1 := by decide
  have kk0 : (0 : Int32).toInt = 0 := by decide
  have kk1 : (1 : Int32).toInt = 1 := by decide
  have kk365 : (365 : Int32).toInt = 365 := by decide
  have lk0 := hts (.fieldLink RX12 98 "AbbeyHoursModel" "heldOn" "[I") (by decide +kernel)
  refine lv_aload_n hx hb dX12_when_0 rfl (lv_at hl 0 rfl) ?_
  have hPc := hP.sub (ws' := [(h, .inr (11, [.int 0, .int 0, .int 0, .int 0, .int 0, .int 0, .int 0, .int 0, .int 0, .ref a_isPriest, .ref a_bars, .ref a_joined, .ref a_turns, .ref a_awayMonk, .ref a_awayFrom, .ref a_awayTo, .ref a_feastDay, .ref a_rank, .ref a_isWeekly, .ref a_isDouble, .ref a_giftDay, .ref a_giftFrom, .ref a_owed, .ref a_said, .ref a_spared, .ref a_leaveGift, .ref a_leaveFrom, .ref a_leaveTo, .ref a_lateDay, .ref a_lateOffice, .ref a_lateBy, .ref a_guests, .ref a_who, .ref a_used, .ref a_lacks, .ref a_candles, .ref a_masses, .ref a_owing, .ref a_heldOn, .ref a_waits, .ref a_tape, .ref a_text, .int 0, .int 0, .int 0, .int (-1), .int 0, .ref a_statements, .ref a_taken, .ref a_sort, .ref a_first, .ref a_second, .int 0, .int 0])), (a_heldOn, .inl (cI, 365, .inl f_heldOn))]) [0, 1] rfl
  refine rwVv (As := []) (rest := []) (wc := [(h, .inr (11, [.int 0, .int 0, .int 0, .int 0, .int 0, .int 0, .int 0, .int 0, .int 0, .ref a_isPriest, .ref a_bars, .ref a_joined, .ref a_turns, .ref a_awayMonk, .ref a_awayFrom, .ref a_awayTo, .ref a_feastDay, .ref a_rank, .ref a_isWeekly, .ref a_isDouble, .ref a_giftDay, .ref a_giftFrom, .ref a_owed, .ref a_said, .ref a_spared, .ref a_leaveGift, .ref a_leaveFrom, .ref a_leaveTo, .ref a_lateDay, .ref a_lateOffice, .ref a_lateBy, .ref a_guests, .ref a_who, .ref a_used, .ref a_lacks, .ref a_candles, .ref a_masses, .ref a_owing, .ref a_heldOn, .ref a_waits, .ref a_tape, .ref a_text, .int 0, .int 0, .int 0, .int (-1), .int 0, .ref a_statements, .ref a_taken, .ref a_sort, .ref a_first, .ref a_second, .int 0, .int 0])), (a_heldOn, .inl (cI, 365, .inl f_heldOn))]) (wr := []) S (m_holdsAll  ) (cwV 0 hts gX12_when_X12_holdsAll rfl rfl rfl (by decide +kernel) ⟨Nat.le_of_ble_eq_true rfl, Nat.le_of_ble_eq_true rfl⟩) hK hP hD hS hA [0, 1] [] rfl rfl (by decide) (by decide) (by decide) (va_recv hK.1 hPc (ci := 11) (q0 := 0) rfl rfl) rfl hl.1 rfl (Nat.le_of_ble_eq_true rfl) dX12_when_1 ⟨Nat.le_of_ble_eq_true rfl, Nat.le_of_ble_eq_true rfl⟩ (fun u_ha H locs hw_ha hP hD hS => ?_)
  obtain ⟨g1_ha, rfl⟩ : ∃ z, z = u_ha := ⟨_, rfl⟩
  have hw_ha : InR g1_ha 365 (-1) 0 := hw_ha
  have hP : va_P D vwCl [(h, .inr (11, [.int 0, .int 0, .int 0, .int 0, .int 0, .int 0, .int 0, .int 0, .int 0, .ref a_isPriest, .ref a_bars, .ref a_joined, .ref a_turns, .ref a_awayMonk, .ref a_awayFrom, .ref a_awayTo, .ref a_feastDay, .ref a_rank, .ref a_isWeekly, .ref a_isDouble, .ref a_giftDay, .ref a_giftFrom, .ref a_owed, .ref a_said, .ref a_spared, .ref a_leaveGift, .ref a_leaveFrom, .ref a_leaveTo, .ref a_lateDay, .ref a_lateOffice, .ref a_lateBy, .ref a_guests, .ref a_who, .ref a_used, .ref a_lacks, .ref a_candles, .ref a_masses, .ref a_owing, .ref a_heldOn, .ref a_waits, .ref a_tape, .ref a_text, .int 0, .int 0, .int 0, .int (-1), .int 0, .ref a_statements, .ref a_taken, .ref a_sort, .ref a_first, .ref a_second, .int 0, .int 0])), (a_heldOn, .inl (cI, 365, .inl g1_ha))] H := hP
  have hD : va_D A [(h, .inr (11, [.int 0, .int 0, .int 0, .int 0, .int 0, .int 0, .int 0, .int 0, .int 0, .ref a_isPriest, .ref a_bars, .ref a_joined, .ref a_turns, .ref a_awayMonk, .ref a_awayFrom, .ref a_awayTo, .ref a_feastDay, .ref a_rank, .ref a_isWeekly, .ref a_isDouble, .ref a_giftDay, .ref a_giftFrom, .ref a_owed, .ref a_said, .ref a_spared, .ref a_leaveGift, .ref a_leaveFrom, .ref a_leaveTo, .ref a_lateDay, .ref a_lateOffice, .ref a_lateBy, .ref a_guests, .ref a_who, .ref a_used, .ref a_lacks, .ref a_candles, .ref a_masses, .ref a_owing, .ref a_heldOn, .ref a_waits, .ref a_tape, .ref a_text, .int 0, .int 0, .int 0, .int (-1), .int 0, .ref a_statements, .ref a_taken, .ref a_sort, .ref a_first, .ref a_second, .int 0, .int 0])), (a_heldOn, .inl (cI, 365, .inl g1_ha))] := hD
  refine lv_iconst (v := 0) hx hb dX12_when_4 (by decide) ?_
  refine lv_istore_n (lv' := [(2, .int 0), (0, .ref h), (1, .int i)]) hx hb dX12_when_5 rfl hl (by decide) rfl (fun ls hl => ?_)
  have loop6 : ∀ (fuel : Nat) (j : Int32), 365 - j.toInt < (fuel : Int) → (0 ≤ j.toInt) → (j.toInt ≤ 365) → ∀ (H : Heap) (locs : List Loc), va_P D vwCl [(h, .inr (11, [.int 0, .int 0, .int 0, .int 0, .int 0, .int 0, .int 0, .int 0, .int 0, .ref a_isPriest, .ref a_bars, .ref a_joined, .ref a_turns, .ref a_awayMonk, .ref a_awayFrom, .ref a_awayTo, .ref a_feastDay, .ref a_rank, .ref a_isWeekly, .ref a_isDouble, .ref a_giftDay, .ref a_giftFrom, .ref a_owed, .ref a_said, .ref a_spared, .ref a_leaveGift, .ref a_leaveFrom, .ref a_leaveTo, .ref a_lateDay, .ref a_lateOffice, .ref a_lateBy, .ref a_guests, .ref a_who, .ref a_used, .ref a_lacks, .ref a_candles, .ref a_masses, .ref a_owing, .ref a_heldOn, .ref a_waits, .ref a_tape, .ref a_text, .int 0, .int 0, .int 0, .int (-1), .int 0, .ref a_statements, .ref a_taken, .ref a_sort, .ref a_first, .ref a_second, .int 0, .int 0])), (a_heldOn, .inl (cI, 365, .inl g1_ha))] H → va_D A [(h, .inr (11, [.int 0, .int 0, .int 0, .int 0, .int 0, .int 0, .int 0, .int 0, .int 0, .ref a_isPriest, .ref a_bars, .ref a_joined, .ref a_turns, .ref a_awayMonk, .ref a_awayFrom, .ref a_awayTo, .ref a_feastDay, .ref a_rank, .ref a_isWeekly, .ref a_isDouble, .ref a_giftDay, .ref a_giftFrom, .ref a_owed, .ref a_said, .ref a_spared, .ref a_leaveGift, .ref a_leaveFrom, .ref a_leaveTo, .ref a_lateDay, .ref a_lateOffice, .ref a_lateBy, .ref a_guests, .ref a_who, .ref a_used, .ref a_lacks, .ref a_candles, .ref a_masses, .ref a_owing, .ref a_heldOn, .ref a_waits, .ref a_tape, .ref a_text, .int 0, .int 0, .int 0, .int (-1), .int 0, .ref a_statements, .ref a_taken, .ref a_sort, .ref a_first, .ref a_second, .int 0, .int 0])), (a_heldOn, .inl (cI, 365, .inl g1_ha))] → va_S A s.heap H locs → ∀ ls : Array Slot, lv_has ls 3 [(2, .int j), (0, .ref h), (1, .int i)] → W p l e ({ frames := 1, cells := 0, slots := 0, locals := 24 } : Room) s m args below meth c H locs 0 0 Q (F0 m 6 ls []) := by
    intro fuel
    induction fuel with
    | zero =>
      intro j hmu hi0 hi1 H locs hP hD hS ls hl
      exfalso; omega
    | succ fuel ih6 =>
      intro j hmu hi0 hi1 H locs hP hD hS ls hl
      refine lv_iload_n hx hb dX12_when_6 rfl (lv_at hl 0 rfl) ?_
      refine lv_sipush (v := 365) hx hb dX12_when_7 (by decide) ?_
      refine lv_icmp_ge (tgt := 35) hx hb dX12_when_10 (by decide) (fun c_1 => ?_) (fun c_1 => ?_)
      · have tc_1 := t_le c_1
        refine lv_iconst (v := (-1)) hx hb dX12_when_35 (by decide) ?_
        exact hret (-1) g1_ha _ _ _ _ (show (-1 : Int32).toInt = -1 from by omega) rfl (hP.sub [0, 1] rfl) (hD.sub [0, 1] (by decide) rfl) hS dX12_when_36
      · have tc_1 := t_nle c_1
        refine lv_iload_n hx hb dX12_when_13 rfl (lv_at hl 2 rfl) ?_
        refine lv_if_lt (tgt := 35) hx hb dX12_when_14 (by decide) (fun c_2 => ?_) (fun c_2 => ?_)
        · have tc_2 := t_lt c_2
          refine lv_iconst (v := (-1)) hx hb dX12_when_35 (by decide) ?_
          exact hret (-1) g1_ha _ _ _ _ (show (-1 : Int32).toInt = -1 from by omega) rfl (hP.sub [0, 1] rfl) (hD.sub [0, 1] (by decide) rfl) hS dX12_when_36
        · have tc_2 := t_nlt c_2
          refine lv_aload_n hx hb dX12_when_17 rfl (lv_at hl 1 rfl) ?_
          refine va_get (D := D) (ci := 11) (v := .ref a_heldOn) (C := RX12) (T := TX12) (N := 54) hx hb hts in_m_when_X12 hown hK.1 hP 0 rfl rfl 38 (by decide) lk0 (fun _ h9 => h9) rfl dX12_when_18 ?_
          refine lv_iload_n hx hb dX12_when_21 rfl (lv_at hl 0 rfl) ?_
          refine va_iald hx hb hK.1 hP 1 0 rfl rfl (t_in (by omega) (by omega)) dX12_when_22 ?_
          refine lv_topi (fun y ey => ?_)
          have hq := hw_ha.get (i := j) (by omega) (by omega)
          rw [← ey] at hq
          refine lv_iload_n hx hb dX12_when_23 rfl (lv_at hl 2 rfl) ?_
          refine lv_icmp_ne (tgt := 29) hx hb dX12_when_24 (by decide) (fun c_4 => ?_) (fun c_4 => ?_)
          · have tc_4 := t_neq c_4
            obtain ⟨x_5, ex_5⟩ : ∃ y : Int32, y = j + 1 := ⟨_, rfl⟩
            refine lv_iinc (v := x_5) (lv' := [(2, .int x_5), (0, .ref h), (1, .int i)]) hx hb dX12_when_29 hl (k := 0) rfl (by rw [ex_5]; rfl) (by decide) rfl (fun ls hl => ?_)
            first | have tx_5 := t_add ex_5 (by omega) (by omega) | skip
            refine lv_goto (tgt := 6) hx hb dX12_when_32 (by decide) ?_
            exact ih6 x_5 (by omega) (by omega) (by omega) _ _ hP hD hS ls (lv_sub hl [0, 1, 2] rfl)
          · have tc_4 := t_eq c_4
            exfalso; omega
  exact loop6 ((365 - (0 : Int32).toInt).toNat + 1) 0 (by omega) (by omega) (by omega) _ _ hP hD hS ls (lv_sub hl [0, 1, 2] rfl)

set_option maxHeartbeats 8000000 in
set_option maxRecDepth 100000 in
theorem m_rankOn {l : Launch} {D : va_G} {cI cZ cB : ClassId} {sz : Nat} {h a_isPriest a_bars a_joined a_turns a_awayMonk a_awayFrom a_awayTo a_feastDay a_rank a_isWeekly a_isDouble a_giftDay a_giftFrom a_owed a_said a_spared a_leaveGift a_leaveFrom a_leaveTo a_lateDay a_lateOffice a_lateBy a_guests a_who a_used a_lacks a_candles a_masses a_owing a_heldOn a_waits a_tape a_text a_statements a_taken a_sort a_first a_second : Nat} {f_heldOn : Nat → Int32} {d : Int32}  : Met l yX12_rankOn wsX12_rankOn ({ frames := 2, cells := 0, slots := 0, locals := 45 }) (RW D cI cZ cB [.ref h, .int d] sz [(h, .inr (11, [.int 0, .int 0, .int 0, .int 0, .int 0, .int 0, .int 0, .int 0, .int 0, .ref a_isPriest, .ref a_bars, .ref a_joined, .ref a_turns, .ref a_awayMonk, .ref a_awayFrom, .ref a_awayTo, .ref a_feastDay, .ref a_rank, .ref a_isWeekly, .ref a_isDouble, .ref a_giftDay, .ref a_giftFrom, .ref a_owed, .ref a_said, .ref a_spared, .ref a_leaveGift, .ref a_leaveFrom, .ref a_leaveTo, .ref a_lateDay, .ref a_lateOffice, .ref a_lateBy, .ref a_guests, .ref a_who, .ref a_used, .ref a_lacks, .ref a_candles, .ref a_masses, .ref a_owing, .ref a_heldOn, .ref a_waits, .ref a_tape, .ref a_text, .int 0, .int 0, .int 0, .int (-1), .int 0, .ref a_statements, .ref a_taken, .ref a_sort, .ref a_first, .ref a_second, .int 0, .int 0])), (a_heldOn, .inl (cI, 365, .inl f_heldOn))]) (va_Qi (fun (r : Int32) (u : (Nat → Int32)) => r.toInt = 0) (BW D [(h, .inr (11, [.int 0, .int 0, .int 0, .int 0, .int 0, .int 0, .int 0, .int 0, .int 0, .ref a_isPriest, .ref a_bars, .ref a_joined, .ref a_turns, .ref a_awayMonk, .ref a_awayFrom, .ref a_awayTo, .ref a_feastDay, .ref a_rank, .ref a_isWeekly, .ref a_isDouble, .ref a_giftDay, .ref a_giftFrom, .ref a_owed, .ref a_said, .ref a_spared, .ref a_leaveGift, .ref a_leaveFrom, .ref a_leaveTo, .ref a_lateDay, .ref a_lateOffice, .ref a_lateBy, .ref a_guests, .ref a_who, .ref a_used, .ref a_lacks, .ref a_candles, .ref a_masses, .ref a_owing, .ref a_heldOn, .ref a_waits, .ref a_tape, .ref a_text, .int 0, .int 0, .int 0, .int (-1), .int 0, .ref a_statements, .ref a_taken, .ref a_sort, .ref a_first, .ref a_second, .int 0, .int 0])), (a_heldOn, .inl (cI, 365, .inl f_heldOn))] sz (fun u : (Nat → Int32) => [(h, .inr (11, [.int 0, .int 0, .int 0, .int 0, .int 0, .int 0, .int 0, .int 0, .int 0, .ref a_isPriest, .ref a_bars, .ref a_joined, .ref a_turns, .ref a_awayMonk, .ref a_awayFrom, .ref a_awayTo, .ref a_feastDay, .ref a_rank, .ref a_isWeekly, .ref a_isDouble, .ref a_giftDay, .ref a_giftFrom, .ref a_owed, .ref a_said, .ref a_spared, .ref a_leaveGift, .ref a_leaveFrom, .ref a_leaveTo, .ref a_lateDay, .ref a_lateOffice, .ref a_lateBy, .ref a_guests, .ref a_who, .ref a_used, .ref a_lacks, .ref a_candles, .ref a_masses, .ref a_owing, .ref a_heldOn, .ref a_waits, .ref a_tape, .ref a_text, .int 0, .int 0, .int 0, .int (-1), .int 0, .ref a_statements, .ref a_taken, .ref a_sort, .ref a_first, .ref a_second, .int 0, .int 0])), (a_heldOn, .inl (cI, 365, .inl u))])) (va_A [(h, .inr (11, [.int 0, .int 0, .int 0, .int 0, .int 0, .int 0, .int 0, .int 0, .int 0, .ref a_isPriest, .ref a_bars, .ref a_joined, .ref a_turns, .ref a_awayMonk, .ref a_awayFrom, .ref a_awayTo, .ref a_feastDay, .ref a_rank, .ref a_isWeekly, .ref a_isDouble, .ref a_giftDay, .ref a_giftFrom, .ref a_owed, .ref a_said, .ref a_spared, .ref a_leaveGift, .ref a_leaveFrom, .ref a_leaveTo, .ref a_lateDay, .ref a_lateOffice, .ref a_lateBy, .ref a_guests, .ref a_who, .ref a_used, .ref a_lacks, .ref a_candles, .ref a_masses, .ref a_owing, .ref a_heldOn, .ref a_waits, .ref a_tape, .ref a_text, .int 0, .int 0, .int 0, .int (-1), .int 0, .ref a_statements, .ref a_taken, .ref a_sort, .ref a_first, .ref a_second, .int 0, .int 0])), (a_heldOn, .inl (cI, 365, .inl f_heldOn))] sz)) 0 0 (va_A [(h, .inr (11, [.int 0, .int 0, .int 0, .int 0, .int 0, .int 0, .int 0, .int 0, .int 0, .ref a_isPriest, .ref a_bars, .ref a_joined, .ref a_turns, .ref a_awayMonk, .ref a_awayFrom, .ref a_awayTo, .ref a_feastDay, .ref a_rank, .ref a_isWeekly, .ref a_isDouble, .ref a_giftDay, .ref a_giftFrom, .ref a_owed, .ref a_said, .ref a_spared, .ref a_leaveGift, .ref a_leaveFrom, .ref a_leaveTo, .ref a_lateDay, .ref a_lateOffice, .ref a_lateBy, .ref a_guests, .ref a_who, .ref a_used, .ref a_lacks, .ref a_candles, .ref a_masses, .ref a_owing, .ref a_heldOn, .ref a_waits, .ref a_tape, .ref a_text, .int 0, .int 0, .int 0, .int (-1), .int 0, .ref a_statements, .ref a_taken, .ref a_sort, .ref a_first, .ref a_second, .int 0, .int 0])), (a_heldOn, .inl (cI, 365, .inl f_heldOn))] sz) := by
  refine rw_ret (cc := cX12_rankOn) (maxL := 3) (ty := .int) (own := RX12) (by decide) rfl rfl (Nat.le_of_ble_eq_true rfl) ?_
  intro p e s m args below meth c Q A S hin hret hP hK hD hA hS ls hl
  obtain ⟨hx, hb, hml, hown, hts⟩ := id S
  have hl : lv_has ls 3 [(0, .ref h), (1, .int d)] := hl
  have kkm1 : (-1 : Int32).toInt = -1 := by decide
  have kk0 : (0 : Int32).toInt = 0 := by decide
  have kk365 : (365 : Int32).toInt = 365 := by decide
  refine lv_aload_n hx hb dX12_rankOn_0 rfl (lv_at hl 0 rfl) ?_
  refine lv_iload_n hx hb dX12_rankOn_1 rfl (lv_at hl 1 rfl) ?_
  refine lv_sipush (v := 365) hx hb dX12_rankOn_2 (by decide) ?_
  refine lv_irem hx hb dX12_rankOn_5 (by decide) ?_
  refine lv_topi (fun x_1 ex_1 => ?_)
  have hPc := hP.sub (ws' := [(h, .inr (11, [.int 0, .int 0, .int 0, .int 0, .int 0, .int 0, .int 0, .int 0, .int 0, .ref a_isPriest, .ref a_bars, .ref a_joined, .ref a_turns, .ref a_awayMonk, .ref a_awayFrom, .ref a_awayTo, .ref a_feastDay, .ref a_rank, .ref a_isWeekly, .ref a_isDouble, .ref a_giftDay, .ref a_giftFrom, .ref a_owed, .ref a_said, .ref a_spared, .ref a_leaveGift, .ref a_leaveFrom, .ref a_leaveTo, .ref a_lateDay, .ref a_lateOffice, .ref a_lateBy, .ref a_guests, .ref a_who, .ref a_used, .ref a_lacks, .ref a_candles, .ref a_masses, .ref a_owing, .ref a_heldOn, .ref a_waits, .ref a_tape, .ref a_text, .int 0, .int 0, .int 0, .int (-1), .int 0, .ref a_statements, .ref a_taken, .ref a_sort, .ref a_first, .ref a_second, .int 0, .int 0])), (a_heldOn, .inl (cI, 365, .inl f_heldOn))]) [0, 1] rfl
  refine rwV (As := [.int x_1]) (rest := []) (wc := [(h, .inr (11, [.int 0, .int 0, .int 0, .int 0, .int 0, .int 0, .int 0, .int 0, .int 0, .ref a_isPriest, .ref a_bars, .ref a_joined, .ref a_turns, .ref a_awayMonk, .ref a_awayFrom, .ref a_awayTo, .ref a_feastDay, .ref a_rank, .ref a_isWeekly, .ref a_isDouble, .ref a_giftDay, .ref a_giftFrom, .ref a_owed, .ref a_said, .ref a_spared, .ref a_leaveGift, .ref a_leaveFrom, .ref a_leaveTo, .ref a_lateDay, .ref a_lateOffice, .ref a_lateBy, .ref a_guests, .ref a_who, .ref a_used, .ref a_lacks, .ref a_candles, .ref a_masses, .ref a_owing, .ref a_heldOn, .ref a_waits, .ref a_tape, .ref a_text, .int 0, .int 0, .int 0, .int (-1), .int 0, .ref a_statements, .ref a_taken, .ref a_sort, .ref a_first, .ref a_second, .int 0, .int 0])), (a_heldOn, .inl (cI, 365, .inl f_heldOn))]) (wr := []) S (m_held  ) (cwV 1 hts gX12_rankOn_X12_held rfl rfl rfl (by decide +kernel) ⟨Nat.le_of_ble_eq_true rfl, Nat.le_of_ble_eq_true rfl⟩) hK hP hD hS hA [0, 1] [] rfl rfl (by decide) (by decide) (by decide) (va_recv hK.1 hPc (ci := 11) (q0 := 0) rfl rfl) rfl hl.1 rfl (Nat.le_of_ble_eq_true rfl) dX12_rankOn_6 ⟨Nat.le_of_ble_eq_true rfl, Nat.le_of_ble_eq_true rfl⟩ (fun r_2 u_2 H locs hw_2 hP hD hS => ?_)
  obtain ⟨g1_2, rfl⟩ : ∃ z, z = u_2 := ⟨_, rfl⟩
  have hw_2 : r_2.toInt = -1 := hw_2
  have hP : va_P D vwCl [(h, .inr (11, [.int 0, .int 0, .int 0, .int 0, .int 0, .int 0, .int 0, .int 0, .int 0, .ref a_isPriest, .ref a_bars, .ref a_joined, .ref a_turns, .ref a_awayMonk, .ref a_awayFrom, .ref a_awayTo, .ref a_feastDay, .ref a_rank, .ref a_isWeekly, .ref a_isDouble, .ref a_giftDay, .ref a_giftFrom, .ref a_owed, .ref a_said, .ref a_spared, .ref a_leaveGift, .ref a_leaveFrom, .ref a_leaveTo, .ref a_lateDay, .ref a_lateOffice, .ref a_lateBy, .ref a_guests, .ref a_who, .ref a_used, .ref a_lacks, .ref a_candles, .ref a_masses, .ref a_owing, .ref a_heldOn, .ref a_waits, .ref a_tape, .ref a_text, .int 0, .int 0, .int 0, .int (-1), .int 0, .ref a_statements, .ref a_taken, .ref a_sort, .ref a_first, .ref a_second, .int 0, .int 0])), (a_heldOn, .inl (cI, 365, .inl g1_2))] H := hP
  have hD : va_D A [(h, .inr (11, [.int 0, .int 0, .int 0, .int 0, .int 0, .int 0, .int 0, .int 0, .int 0, .ref a_isPriest, .ref a_bars, .ref a_joined, .ref a_turns, .ref a_awayMonk, .ref a_awayFrom, .ref a_awayTo, .ref a_feastDay, .ref a_rank, .ref a_isWeekly, .ref a_isDouble, .ref a_giftDay, .ref a_giftFrom, .ref a_owed, .ref a_said, .ref a_spared, .ref a_leaveGift, .ref a_leaveFrom, .ref a_leaveTo, .ref a_lateDay, .ref a_lateOffice, .ref a_lateBy, .ref a_guests, .ref a_who, .ref a_used, .ref a_lacks, .ref a_candles, .ref a_masses, .ref a_owing, .ref a_heldOn, .ref a_waits, .ref a_tape, .ref a_text, .int 0, .int 0, .int 0, .int (-1), .int 0, .ref a_statements, .ref a_taken, .ref a_sort, .ref a_first, .ref a_second, .int 0, .int 0])), (a_heldOn, .inl (cI, 365, .inl g1_2))] := hD
  refine lv_istore_n (lv' := [(2, .int r_2), (0, .ref h), (1, .int d)]) hx hb dX12_rankOn_9 rfl hl (by decide) rfl (fun ls hl => ?_)
  refine lv_iload_n hx hb dX12_rankOn_10 rfl (lv_at hl 0 rfl) ?_
  refine lv_iconst (v := (-1)) hx hb dX12_rankOn_11 (by decide) ?_
  refine lv_icmp_ne (tgt := 19) hx hb dX12_rankOn_12 (by decide) (fun c_3 => ?_) (fun c_3 => ?_)
  · have tc_3 := t_neq c_3
    exfalso; omega
  · have tc_3 := t_eq c_3
    refine lv_iconst (v := 0) hx hb dX12_rankOn_15 (by decide) ?_
    refine lv_goto (tgt := 25) hx hb dX12_rankOn_16 (by decide) ?_
    exact hret 0 g1_2 _ _ _ _ (show (0 : Int32).toInt = 0 from by omega) rfl (hP.sub [0, 1] rfl) (hD.sub [0, 1] (by decide) rfl) hS dX12_rankOn_25

theorem in_m_lateRow_X12 : ∀ w ∈ wsX120, w ∈ wsX12_lateRow := by decide +kernel
set_option maxHeartbeats 8000000 in
set_option maxRecDepth 100000 in
theorem m_lateRow {l : Launch} {D : va_G} {cI cZ cB : ClassId} {h a_isPriest a_bars a_joined a_turns a_awayMonk a_awayFrom a_awayTo a_feastDay a_rank a_isWeekly a_isDouble a_giftDay a_giftFrom a_owed a_said a_spared a_leaveGift a_leaveFrom a_leaveTo a_lateDay a_lateOffice a_lateBy a_guests a_who a_used a_lacks a_candles a_masses a_owing a_heldOn a_waits a_tape a_text a_statements a_taken a_sort a_first a_second : Nat} {v_store : Int32} {d k : Int32}  : Met l yX12_lateRow wsX12_lateRow ({ frames := 0, cells := 0, slots := 0, locals := 0 }) (RO D cI cZ cB [.ref h, .int d, .int k] [(h, .inr (11, [.int 0, .int 0, .int 0, .int 0, .int 0, .int 0, .int 0, .int v_store, .int 0, .ref a_isPriest, .ref a_bars, .ref a_joined, .ref a_turns, .ref a_awayMonk, .ref a_awayFrom, .ref a_awayTo, .ref a_feastDay, .ref a_rank, .ref a_isWeekly, .ref a_isDouble, .ref a_giftDay, .ref a_giftFrom, .ref a_owed, .ref a_said, .ref a_spared, .ref a_leaveGift, .ref a_leaveFrom, .ref a_leaveTo, .ref a_lateDay, .ref a_lateOffice, .ref a_lateBy, .ref a_guests, .ref a_who, .ref a_used, .ref a_lacks, .ref a_candles, .ref a_masses, .ref a_owing, .ref a_heldOn, .ref a_waits, .ref a_tape, .ref a_text, .int 0, .int 0, .int 0, .int (-1), .int 0, .ref a_statements, .ref a_taken, .ref a_sort, .ref a_first, .ref a_second, .int 0, .int 0]))]) (vp_Si (fun r : Int32 => r.toInt = -1)) 0 0 (fun _ => False) := by
  refine ro_ret (cc := cX12_lateRow) (maxL := 4) (ty := .int) (own := RX12) (by decide) rfl rfl (Nat.le_of_ble_eq_true rfl) ?_
  intro p e s m args below meth c Q S hret hP hK ls hl
  obtain ⟨hx, hb, hml, hown, hts⟩ := id S
  have hl : lv_has ls 4 [(0, .ref h), (1, .int d), (2, .int k)] := hl
  have kkm1 : (-1 : Int32).toInt = -1 := by decide
  have kk0 : (0 : Int32).toInt = 0 := by decide
  have kk1 : (1 : Int32).toInt = 1 := by decide
  have lk0 := hts (.fieldLink RX12 172 "AbbeyHoursModel" "lates" "I") (by decide +kernel)
  refine lv_iconst (v := 0) hx hb dX12_lateRow_0 (by decide) ?_
  refine lv_istore_n (lv' := [(3, .int 0), (0, .ref h), (1, .int d), (2, .int k)]) hx hb dX12_lateRow_1 rfl hl (by decide) rfl (fun ls hl => ?_)
  refine lv_iload_n hx hb dX12_lateRow_2 rfl (lv_at hl 0 rfl) ?_
  refine lv_aload_n hx hb dX12_lateRow_3 rfl (lv_at hl 1 rfl) ?_
  refine va_get (D := D) (ci := 11) (v := .int 0) (C := RX12) (T := TX12) (N := 54) hx hb hts in_m_lateRow_X12 hown hK.1 hP 0 rfl rfl 6 (by decide) lk0 (fun _ h9 => h9) rfl dX12_lateRow_4 ?_
  refine lv_icmp_ge (tgt := 38) hx hb dX12_lateRow_7 (by decide) (fun c_1 => ?_) (fun c_1 => ?_)
  · have tc_1 := t_le c_1
    refine lv_iconst (v := (-1)) hx hb dX12_lateRow_38 (by decide) ?_
    exact hret (-1) _ _ (show (-1 : Int32).toInt = -1 from by omega) rfl dX12_lateRow_39
  · exact absurd c_1 (by decide)

set_option maxHeartbeats 8000000 in
set_option maxRecDepth 100000 in
theorem m_begins {l : Launch} {D : va_G} {cI cZ cB : ClassId} {h a_isPriest a_bars a_joined a_turns a_awayMonk a_awayFrom a_awayTo a_feastDay a_rank a_isWeekly a_isDouble a_giftDay a_giftFrom a_owed a_said a_spared a_leaveGift a_leaveFrom a_leaveTo a_lateDay a_lateOffice a_lateBy a_guests a_who a_used a_lacks a_candles a_masses a_owing a_heldOn a_waits a_tape a_text a_statements a_taken a_sort a_first a_second : Nat} {v_store : Int32} {d k : Int32}  : Met l yX12_begins wsX12_begins ({ frames := 4, cells := 0, slots := 0, locals := 84 }) (RO D cI cZ cB [.ref h, .int d, .int k] [(h, .inr (11, [.int 0, .int 0, .int 0, .int 0, .int 0, .int 0, .int 0, .int v_store, .int 0, .ref a_isPriest, .ref a_bars, .ref a_joined, .ref a_turns, .ref a_awayMonk, .ref a_awayFrom, .ref a_awayTo, .ref a_feastDay, .ref a_rank, .ref a_isWeekly, .ref a_isDouble, .ref a_giftDay, .ref a_giftFrom, .ref a_owed, .ref a_said, .ref a_spared, .ref a_leaveGift, .ref a_leaveFrom, .ref a_leaveTo, .ref a_lateDay, .ref a_lateOffice, .ref a_lateBy, .ref a_guests, .ref a_who, .ref a_used, .ref a_lacks, .ref a_candles, .ref a_masses, .ref a_owing, .ref a_heldOn, .ref a_waits, .ref a_tape, .ref a_text, .int 0, .int 0, .int 0, .int (-1), .int 0, .ref a_statements, .ref a_taken, .ref a_sort, .ref a_first, .ref a_second, .int 0, .int 0]))]) (vp_Si (fun r : Int32 => r = sunP (rem365 d) k)) 0 0 (fun _ => False) := by
  refine ro_ret (cc := cX12_begins) (maxL := 4) (ty := .int) (own := RX12) (by decide) rfl rfl (Nat.le_of_ble_eq_true rfl) ?_
  intro p e s m args below meth c Q S hret hP hK ls hl
  obtain ⟨hx, hb, hml, hown, hts⟩ := id S
  have hl : lv_has ls 4 [(0, .ref h), (1, .int d), (2, .int k)] := hl
  have kkm1 : (-1 : Int32).toInt = -1 := by decide
  have kk0 : (0 : Int32).toInt = 0 := by decide
  refine lv_aload_n hx hb dX12_begins_0 rfl (lv_at hl 0 rfl) ?_
  refine lv_iload_n hx hb dX12_begins_1 rfl (lv_at hl 1 rfl) ?_
  refine lv_iload_n hx hb dX12_begins_2 rfl (lv_at hl 2 rfl) ?_
  have hPc := hP.sub (ws' := [(h, .inr (11, [.int 0, .int 0, .int 0, .int 0, .int 0, .int 0, .int 0, .int v_store, .int 0, .ref a_isPriest, .ref a_bars, .ref a_joined, .ref a_turns, .ref a_awayMonk, .ref a_awayFrom, .ref a_awayTo, .ref a_feastDay, .ref a_rank, .ref a_isWeekly, .ref a_isDouble, .ref a_giftDay, .ref a_giftFrom, .ref a_owed, .ref a_said, .ref a_spared, .ref a_leaveGift, .ref a_leaveFrom, .ref a_leaveTo, .ref a_lateDay, .ref a_lateOffice, .ref a_lateBy, .ref a_guests, .ref a_who, .ref a_used, .ref a_lacks, .ref a_candles, .ref a_masses, .ref a_owing, .ref a_heldOn, .ref a_waits, .ref a_tape, .ref a_text, .int 0, .int 0, .int 0, .int (-1), .int 0, .ref a_statements, .ref a_taken, .ref a_sort, .ref a_first, .ref a_second, .int 0, .int 0]))]) [0] rfl
  refine roV (As := [.int d, .int k]) (rest := []) S (m_lateRow  ) (cwV 2 hts gX12_begins_X12_lateRow rfl rfl rfl (by decide +kernel) ⟨Nat.le_of_ble_eq_true rfl, Nat.le_of_ble_eq_true rfl⟩) hK hPc (va_recv hK.1 hPc (ci := 11) (q0 := 0) rfl rfl) rfl hl.1 rfl (Nat.le_of_ble_eq_true rfl) dX12_begins_3 ⟨Nat.le_of_ble_eq_true rfl, Nat.le_of_ble_eq_true rfl⟩ (fun r_1 hw_1 => ?_)
  have hw_1 : r_1.toInt = -1 := hw_1
  refine lv_istore_n (lv' := [(3, .int r_1), (0, .ref h), (1, .int d), (2, .int k)]) hx hb dX12_begins_6 rfl hl (by decide) rfl (fun ls hl => ?_)
  refine lv_iload_n hx hb dX12_begins_7 rfl (lv_at hl 2 rfl) ?_
  refine lv_iload_n hx hb dX12_begins_8 rfl (lv_at hl 3 rfl) ?_
  have hPc := hP.sub (ws' := []) [] rfl
  refine roS (As := [.int d, .int k]) (rest := []) S (m_plain  ) (va_cwS 2 hts gX12_begins_X12_plain rfl rfl rfl (by decide +kernel) ⟨Nat.le_of_ble_eq_true rfl, Nat.le_of_ble_eq_true rfl⟩) hK hPc rfl hl.1 rfl (Nat.le_of_ble_eq_true rfl) dX12_begins_9 ⟨Nat.le_of_ble_eq_true rfl, Nat.le_of_ble_eq_true rfl⟩ (fun r_pl hw_pl => ?_)
  have hw_pl : r_pl = sunP (rem365 d) k := hw_pl
  refine lv_iload_n hx hb dX12_begins_12 rfl (lv_at hl 0 rfl) ?_
  refine lv_iconst (v := (-1)) hx hb dX12_begins_13 (by decide) ?_
  refine lv_icmp_ne (tgt := 21) hx hb dX12_begins_14 (by decide) (fun c_2 => ?_) (fun c_2 => ?_)
  · have tc_2 := t_neq c_2
    exfalso; omega
  · have tc_2 := t_eq c_2
    refine lv_iconst (v := 0) hx hb dX12_begins_17 (by decide) ?_
    refine lv_goto (tgt := 27) hx hb dX12_begins_18 (by decide) ?_
    refine lv_iadd hx hb dX12_begins_27 ?_
    refine lv_topi (fun z ez => ?_)
    exact hret z _ _ (show z = sunP (rem365 d) k from by rw [ez, hw_pl]; exact Int32.add_zero _) rfl dX12_begins_28

theorem in_m_inForce_X12 : ∀ w ∈ wsX120, w ∈ wsX12_inForce := by decide +kernel
set_option maxHeartbeats 8000000 in
set_option maxRecDepth 100000 in
theorem m_inForce {l : Launch} {D : va_G} {cI cZ cB : ClassId} {h a_isPriest a_bars a_joined a_turns a_awayMonk a_awayFrom a_awayTo a_feastDay a_rank a_isWeekly a_isDouble a_giftDay a_giftFrom a_owed a_said a_spared a_leaveGift a_leaveFrom a_leaveTo a_lateDay a_lateOffice a_lateBy a_guests a_who a_used a_lacks a_candles a_masses a_owing a_heldOn a_waits a_tape a_text a_statements a_taken a_sort a_first a_second : Nat} {d : Int32}  : Met l yX12_inForce wsX12_inForce ({ frames := 0, cells := 0, slots := 0, locals := 0 }) (RO D cI cZ cB [.ref h, .int d] [(h, .inr (11, [.int 0, .int 0, .int 0, .int 0, .int 0, .int 0, .int 0, .int 0, .int 0, .ref a_isPriest, .ref a_bars, .ref a_joined, .ref a_turns, .ref a_awayMonk, .ref a_awayFrom, .ref a_awayTo, .ref a_feastDay, .ref a_rank, .ref a_isWeekly, .ref a_isDouble, .ref a_giftDay, .ref a_giftFrom, .ref a_owed, .ref a_said, .ref a_spared, .ref a_leaveGift, .ref a_leaveFrom, .ref a_leaveTo, .ref a_lateDay, .ref a_lateOffice, .ref a_lateBy, .ref a_guests, .ref a_who, .ref a_used, .ref a_lacks, .ref a_candles, .ref a_masses, .ref a_owing, .ref a_heldOn, .ref a_waits, .ref a_tape, .ref a_text, .int 0, .int 0, .int 0, .int (-1), .int 0, .ref a_statements, .ref a_taken, .ref a_sort, .ref a_first, .ref a_second, .int 0, .int 0]))]) (vp_Si (fun r : Int32 => r.toInt = -1)) 0 0 (fun _ => False) := by
  refine ro_ret (cc := cX12_inForce) (maxL := 4) (ty := .int) (own := RX12) (by decide) rfl rfl (Nat.le_of_ble_eq_true rfl) ?_
  intro p e s m args below meth c Q S hret hP hK ls hl
  obtain ⟨hx, hb, hml, hown, hts⟩ := id S
  have hl : lv_has ls 4 [(0, .ref h), (1, .int d)] := hl
  have kkm1 : (-1 : Int32).toInt = -1 := by decide
  have kk0 : (0 : Int32).toInt = 0 := by decide
  have kk1 : (1 : Int32).toInt = 1 := by decide
  have lk0 := hts (.fieldLink RX12 233 "AbbeyHoursModel" "rules" "I") (by decide +kernel)
  refine lv_iconst (v := (-1)) hx hb dX12_inForce_0 (by decide) ?_
  refine lv_istore_n (lv' := [(2, .int (-1)), (0, .ref h), (1, .int d)]) hx hb dX12_inForce_1 rfl hl (by decide) rfl (fun ls hl => ?_)
  refine lv_iconst (v := 0) hx hb dX12_inForce_2 (by decide) ?_
  refine lv_istore_n (lv' := [(3, .int 0), (2, .int (-1)), (0, .ref h), (1, .int d)]) hx hb dX12_inForce_3 rfl hl (by decide) rfl (fun ls hl => ?_)
  refine lv_iload_n hx hb dX12_inForce_4 rfl (lv_at hl 0 rfl) ?_
  refine lv_aload_n hx hb dX12_inForce_5 rfl (lv_at hl 2 rfl) ?_
  refine va_get (D := D) (ci := 11) (v := .int 0) (C := RX12) (T := TX12) (N := 54) hx hb hts in_m_inForce_X12 hown hK.1 hP 0 rfl rfl 46 (by decide) lk0 (fun _ h9 => h9) rfl dX12_inForce_6 ?_
  refine lv_icmp_ge (tgt := 30) hx hb dX12_inForce_9 (by decide) (fun c_1 => ?_) (fun c_1 => ?_)
  · have tc_1 := t_le c_1
    refine lv_iload_n hx hb dX12_inForce_30 rfl (lv_at hl 1 rfl) ?_
    exact hret (-1) _ _ (show (-1 : Int32).toInt = -1 from by omega) rfl dX12_inForce_31
  · exact absurd c_1 (by decide)

set_option maxHeartbeats 8000000 in
set_option maxRecDepth 100000 in
theorem m_isFast {l : Launch} {D : va_G} {cI cZ cB : ClassId} {h a_isPriest a_bars a_joined a_turns a_awayMonk a_awayFrom a_awayTo a_feastDay a_rank a_isWeekly a_isDouble a_giftDay a_giftFrom a_owed a_said a_spared a_leaveGift a_leaveFrom a_leaveTo a_lateDay a_lateOffice a_lateBy a_guests a_who a_used a_lacks a_candles a_masses a_owing a_heldOn a_waits a_tape a_text a_statements a_taken a_sort a_first a_second : Nat} {d : Int32}  : Met l yX12_isFast wsX12_isFast ({ frames := 1, cells := 0, slots := 0, locals := 23 }) (RO D cI cZ cB [.ref h, .int d] [(h, .inr (11, [.int 0, .int 0, .int 0, .int 0, .int 0, .int 0, .int 0, .int 0, .int 0, .ref a_isPriest, .ref a_bars, .ref a_joined, .ref a_turns, .ref a_awayMonk, .ref a_awayFrom, .ref a_awayTo, .ref a_feastDay, .ref a_rank, .ref a_isWeekly, .ref a_isDouble, .ref a_giftDay, .ref a_giftFrom, .ref a_owed, .ref a_said, .ref a_spared, .ref a_leaveGift, .ref a_leaveFrom, .ref a_leaveTo, .ref a_lateDay, .ref a_lateOffice, .ref a_lateBy, .ref a_guests, .ref a_who, .ref a_used, .ref a_lacks, .ref a_candles, .ref a_masses, .ref a_owing, .ref a_heldOn, .ref a_waits, .ref a_tape, .ref a_text, .int 0, .int 0, .int 0, .int (-1), .int 0, .ref a_statements, .ref a_taken, .ref a_sort, .ref a_first, .ref a_second, .int 0, .int 0]))]) (vp_Si (fun r : Int32 => r.toInt = 0)) 0 0 (fun _ => False) := by
  refine ro_ret (cc := cX12_isFast) (maxL := 8) (ty := .boolean) (own := RX12) (by decide) rfl rfl (Nat.le_of_ble_eq_true rfl) ?_
  intro p e s m args below meth c Q S hret hP hK ls hl
  obtain ⟨hx, hb, hml, hown, hts⟩ := id S
  have hl : lv_has ls 8 [(0, .ref h), (1, .int d)] := hl
  have kkm1 : (-1 : Int32).toInt = -1 := by decide
  have kk0 : (0 : Int32).toInt = 0 := by decide
  have kk1 : (1 : Int32).toInt = 1 := by decide
  have kk3 : (3 : Int32).toInt = 3 := by decide
  have kk7 : (7 : Int32).toInt = 7 := by decide
  have kk16 : (16 : Int32).toInt = 16 := by decide
  have kk365 : (365 : Int32).toInt = 365 := by decide
  refine lv_aload_n hx hb dX12_isFast_0 rfl (lv_at hl 0 rfl) ?_
  refine lv_iload_n hx hb dX12_isFast_1 rfl (lv_at hl 1 rfl) ?_
  have hPc := hP.sub (ws' := [(h, .inr (11, [.int 0, .int 0, .int 0, .int 0, .int 0, .int 0, .int 0, .int 0, .int 0, .ref a_isPriest, .ref a_bars, .ref a_joined, .ref a_turns, .ref a_awayMonk, .ref a_awayFrom, .ref a_awayTo, .ref a_feastDay, .ref a_rank, .ref a_isWeekly, .ref a_isDouble, .ref a_giftDay, .ref a_giftFrom, .ref a_owed, .ref a_said, .ref a_spared, .ref a_leaveGift, .ref a_leaveFrom, .ref a_leaveTo, .ref a_lateDay, .ref a_lateOffice, .ref a_lateBy, .ref a_guests, .ref a_who, .ref a_used, .ref a_lacks, .ref a_candles, .ref a_masses, .ref a_owing, .ref a_heldOn, .ref a_waits, .ref a_tape, .ref a_text, .int 0, .int 0, .int 0, .int (-1), .int 0, .ref a_statements, .ref a_taken, .ref a_sort, .ref a_first, .ref a_second, .int 0, .int 0]))]) [0] rfl
  refine roV (As := [.int d]) (rest := []) S (m_inForce  ) (cwV 1 hts gX12_isFast_X12_inForce rfl rfl rfl (by decide +kernel) ⟨Nat.le_of_ble_eq_true rfl, Nat.le_of_ble_eq_true rfl⟩) hK hPc (va_recv hK.1 hPc (ci := 11) (q0 := 0) rfl rfl) rfl hl.1 rfl (Nat.le_of_ble_eq_true rfl) dX12_isFast_2 ⟨Nat.le_of_ble_eq_true rfl, Nat.le_of_ble_eq_true rfl⟩ (fun r_1 hw_1 => ?_)
  have hw_1 : r_1.toInt = -1 := hw_1
  refine lv_istore_n (lv' := [(2, .int r_1), (0, .ref h), (1, .int d)]) hx hb dX12_isFast_5 rfl hl (by decide) rfl (fun ls hl => ?_)
  refine lv_iload_n hx hb dX12_isFast_6 rfl (lv_at hl 0 rfl) ?_
  refine lv_iconst (v := (-1)) hx hb dX12_isFast_7 (by decide) ?_
  refine lv_icmp_eq (tgt := 20) hx hb dX12_isFast_8 (by decide) (fun c_2 => ?_) (fun c_2 => ?_)
  · have tc_2 := t_eq c_2
    refine lv_iconst (v := 0) hx hb dX12_isFast_20 (by decide) ?_
    exact hret 0 _ _ (show (0 : Int32).toInt = 0 from by omega) rfl dX12_isFast_21
  · have tc_2 := t_neq c_2
    exfalso; omega

set_option maxHeartbeats 8000000 in
set_option maxRecDepth 100000 in
theorem m_lastOf {l : Launch} {D : va_G} {cI cZ cB : ClassId} {h a_isPriest a_bars a_joined a_turns a_awayMonk a_awayFrom a_awayTo a_feastDay a_rank a_isWeekly a_isDouble a_giftDay a_giftFrom a_owed a_said a_spared a_leaveGift a_leaveFrom a_leaveTo a_lateDay a_lateOffice a_lateBy a_guests a_who a_used a_lacks a_candles a_masses a_owing a_heldOn a_waits a_tape a_text a_statements a_taken a_sort a_first a_second : Nat} {i k x : Int32} (hi : i.toInt = -1) : Met l yX12_lastOf wsX12_lastOf ({ frames := 0, cells := 0, slots := 0, locals := 0 }) (RO D cI cZ cB [.ref h, .int i, .int k, .int x] [(h, .inr (11, [.int 0, .int 0, .int 0, .int 0, .int 0, .int 0, .int 0, .int 0, .int 0, .ref a_isPriest, .ref a_bars, .ref a_joined, .ref a_turns, .ref a_awayMonk, .ref a_awayFrom, .ref a_awayTo, .ref a_feastDay, .ref a_rank, .ref a_isWeekly, .ref a_isDouble, .ref a_giftDay, .ref a_giftFrom, .ref a_owed, .ref a_said, .ref a_spared, .ref a_leaveGift, .ref a_leaveFrom, .ref a_leaveTo, .ref a_lateDay, .ref a_lateOffice, .ref a_lateBy, .ref a_guests, .ref a_who, .ref a_used, .ref a_lacks, .ref a_candles, .ref a_masses, .ref a_owing, .ref a_heldOn, .ref a_waits, .ref a_tape, .ref a_text, .int 0, .int 0, .int 0, .int (-1), .int 0, .ref a_statements, .ref a_taken, .ref a_sort, .ref a_first, .ref a_second, .int 0, .int 0]))]) (vp_Si (fun r : Int32 => r.toInt = -1)) 0 0 (fun _ => False) := by
  refine ro_ret (cc := cX12_lastOf) (maxL := 6) (ty := .int) (own := RX12) (by decide) rfl rfl (Nat.le_of_ble_eq_true rfl) ?_
  intro p e s m args below meth c Q S hret hP hK ls hl
  obtain ⟨hx, hb, hml, hown, hts⟩ := id S
  have hl : lv_has ls 6 [(0, .ref h), (1, .int i), (2, .int k), (3, .int x)] := hl
  have kkm1 : (-1 : Int32).toInt = -1 := by decide
  have kk0 : (0 : Int32).toInt = 0 := by decide
  have kk1 : (1 : Int32).toInt = 1 := by decide
  have kk3 : (3 : Int32).toInt = 3 := by decide
  have kk16 : (16 : Int32).toInt = 16 := by decide
  refine lv_iconst (v := (-1)) hx hb dX12_lastOf_0 (by decide) ?_
  refine lv_istore (lv' := [(4, .int (-1)), (0, .ref h), (1, .int i), (2, .int k), (3, .int x)]) hx hb dX12_lastOf_1 hl (by decide) rfl (fun ls hl => ?_)
  refine lv_bipush (v := 16) hx hb dX12_lastOf_3 (by decide) ?_
  refine lv_iload_n hx hb dX12_lastOf_5 rfl (lv_at hl 2 rfl) ?_
  refine lv_imul hx hb dX12_lastOf_6 ?_
  refine lv_topi (fun x_1 ex_1 => ?_)
  first | have tx_1 := t_mulL kk16 ex_1 (by omega) (by omega) | skip
  refine lv_istore (lv' := [(5, .int x_1), (4, .int (-1)), (0, .ref h), (1, .int i), (2, .int k), (3, .int x)]) hx hb dX12_lastOf_7 hl (by decide) rfl (fun ls hl => ?_)
  refine lv_iload_n hx hb dX12_lastOf_9 rfl (lv_at hl 3 rfl) ?_
  refine lv_iconst (v := (-1)) hx hb dX12_lastOf_10 (by decide) ?_
  refine lv_icmp_eq (tgt := 72) hx hb dX12_lastOf_11 (by decide) (fun c_2 => ?_) (fun c_2 => ?_)
  · have tc_2 := t_eq c_2
    refine lv_iload hx hb dX12_lastOf_72 (lv_at hl 1 rfl) ?_
    exact hret (-1) _ _ (show (-1 : Int32).toInt = -1 from by omega) rfl dX12_lastOf_74
  · have tc_2 := t_neq c_2
    exfalso; omega

set_option maxHeartbeats 8000000 in
set_option maxRecDepth 100000 in
theorem m_headFeed {l : Launch} {D : va_G} {cI cZ cB : ClassId} {sz : Nat} {h a_isPriest a_bars a_joined a_turns a_awayMonk a_awayFrom a_awayTo a_feastDay a_rank a_isWeekly a_isDouble a_giftDay a_giftFrom a_owed a_said a_spared a_leaveGift a_leaveFrom a_leaveTo a_lateDay a_lateOffice a_lateBy a_guests a_who a_used a_lacks a_candles a_masses a_owing a_heldOn a_waits a_tape a_text a_statements a_taken a_sort a_first a_second : Nat} {f_heldOn : Nat → Int32} {d : Int32}  : Met l yX12_headFeed wsX12_headFeed ({ frames := 3, cells := 0, slots := 0, locals := 67 }) (RW D cI cZ cB [.ref h, .int d] sz [(h, .inr (11, [.int 0, .int 0, .int 0, .int 0, .int 0, .int 0, .int 0, .int 0, .int 0, .ref a_isPriest, .ref a_bars, .ref a_joined, .ref a_turns, .ref a_awayMonk, .ref a_awayFrom, .ref a_awayTo, .ref a_feastDay, .ref a_rank, .ref a_isWeekly, .ref a_isDouble, .ref a_giftDay, .ref a_giftFrom, .ref a_owed, .ref a_said, .ref a_spared, .ref a_leaveGift, .ref a_leaveFrom, .ref a_leaveTo, .ref a_lateDay, .ref a_lateOffice, .ref a_lateBy, .ref a_guests, .ref a_who, .ref a_used, .ref a_lacks, .ref a_candles, .ref a_masses, .ref a_owing, .ref a_heldOn, .ref a_waits, .ref a_tape, .ref a_text, .int 0, .int 0, .int 0, .int (-1), .int 0, .ref a_statements, .ref a_taken, .ref a_sort, .ref a_first, .ref a_second, .int 0, .int 0])), (a_heldOn, .inl (cI, 365, .inl f_heldOn))]) (va_Qi (fun (r : Int32) (u : (Nat → Int32)) => r.toInt = 2) (BW D [(h, .inr (11, [.int 0, .int 0, .int 0, .int 0, .int 0, .int 0, .int 0, .int 0, .int 0, .ref a_isPriest, .ref a_bars, .ref a_joined, .ref a_turns, .ref a_awayMonk, .ref a_awayFrom, .ref a_awayTo, .ref a_feastDay, .ref a_rank, .ref a_isWeekly, .ref a_isDouble, .ref a_giftDay, .ref a_giftFrom, .ref a_owed, .ref a_said, .ref a_spared, .ref a_leaveGift, .ref a_leaveFrom, .ref a_leaveTo, .ref a_lateDay, .ref a_lateOffice, .ref a_lateBy, .ref a_guests, .ref a_who, .ref a_used, .ref a_lacks, .ref a_candles, .ref a_masses, .ref a_owing, .ref a_heldOn, .ref a_waits, .ref a_tape, .ref a_text, .int 0, .int 0, .int 0, .int (-1), .int 0, .ref a_statements, .ref a_taken, .ref a_sort, .ref a_first, .ref a_second, .int 0, .int 0])), (a_heldOn, .inl (cI, 365, .inl f_heldOn))] sz (fun u : (Nat → Int32) => [(h, .inr (11, [.int 0, .int 0, .int 0, .int 0, .int 0, .int 0, .int 0, .int 0, .int 0, .ref a_isPriest, .ref a_bars, .ref a_joined, .ref a_turns, .ref a_awayMonk, .ref a_awayFrom, .ref a_awayTo, .ref a_feastDay, .ref a_rank, .ref a_isWeekly, .ref a_isDouble, .ref a_giftDay, .ref a_giftFrom, .ref a_owed, .ref a_said, .ref a_spared, .ref a_leaveGift, .ref a_leaveFrom, .ref a_leaveTo, .ref a_lateDay, .ref a_lateOffice, .ref a_lateBy, .ref a_guests, .ref a_who, .ref a_used, .ref a_lacks, .ref a_candles, .ref a_masses, .ref a_owing, .ref a_heldOn, .ref a_waits, .ref a_tape, .ref a_text, .int 0, .int 0, .int 0, .int (-1), .int 0, .ref a_statements, .ref a_taken, .ref a_sort, .ref a_first, .ref a_second, .int 0, .int 0])), (a_heldOn, .inl (cI, 365, .inl u))])) (va_A [(h, .inr (11, [.int 0, .int 0, .int 0, .int 0, .int 0, .int 0, .int 0, .int 0, .int 0, .ref a_isPriest, .ref a_bars, .ref a_joined, .ref a_turns, .ref a_awayMonk, .ref a_awayFrom, .ref a_awayTo, .ref a_feastDay, .ref a_rank, .ref a_isWeekly, .ref a_isDouble, .ref a_giftDay, .ref a_giftFrom, .ref a_owed, .ref a_said, .ref a_spared, .ref a_leaveGift, .ref a_leaveFrom, .ref a_leaveTo, .ref a_lateDay, .ref a_lateOffice, .ref a_lateBy, .ref a_guests, .ref a_who, .ref a_used, .ref a_lacks, .ref a_candles, .ref a_masses, .ref a_owing, .ref a_heldOn, .ref a_waits, .ref a_tape, .ref a_text, .int 0, .int 0, .int 0, .int (-1), .int 0, .ref a_statements, .ref a_taken, .ref a_sort, .ref a_first, .ref a_second, .int 0, .int 0])), (a_heldOn, .inl (cI, 365, .inl f_heldOn))] sz)) 0 0 (va_A [(h, .inr (11, [.int 0, .int 0, .int 0, .int 0, .int 0, .int 0, .int 0, .int 0, .int 0, .ref a_isPriest, .ref a_bars, .ref a_joined, .ref a_turns, .ref a_awayMonk, .ref a_awayFrom, .ref a_awayTo, .ref a_feastDay, .ref a_rank, .ref a_isWeekly, .ref a_isDouble, .ref a_giftDay, .ref a_giftFrom, .ref a_owed, .ref a_said, .ref a_spared, .ref a_leaveGift, .ref a_leaveFrom, .ref a_leaveTo, .ref a_lateDay, .ref a_lateOffice, .ref a_lateBy, .ref a_guests, .ref a_who, .ref a_used, .ref a_lacks, .ref a_candles, .ref a_masses, .ref a_owing, .ref a_heldOn, .ref a_waits, .ref a_tape, .ref a_text, .int 0, .int 0, .int 0, .int (-1), .int 0, .ref a_statements, .ref a_taken, .ref a_sort, .ref a_first, .ref a_second, .int 0, .int 0])), (a_heldOn, .inl (cI, 365, .inl f_heldOn))] sz) := by
  refine rw_ret (cc := cX12_headFeed) (maxL := 4) (ty := .int) (own := RX12) (by decide) rfl rfl (Nat.le_of_ble_eq_true rfl) ?_
  intro p e s m args below meth c Q A S hin hret hP hK hD hA hS ls hl
  obtain ⟨hx, hb, hml, hown, hts⟩ := id S
  have hl : lv_has ls 4 [(0, .ref h), (1, .int d)] := hl
  have kkm1 : (-1 : Int32).toInt = -1 := by decide
  have kk0 : (0 : Int32).toInt = 0 := by decide
  have kk2 : (2 : Int32).toInt = 2 := by decide
  have kk3 : (3 : Int32).toInt = 3 := by decide
  have kk5 : (5 : Int32).toInt = 5 := by decide
  refine lv_aload_n hx hb dX12_headFeed_0 rfl (lv_at hl 0 rfl) ?_
  refine lv_iload_n hx hb dX12_headFeed_1 rfl (lv_at hl 1 rfl) ?_
  have hPc := hP.sub (ws' := [(h, .inr (11, [.int 0, .int 0, .int 0, .int 0, .int 0, .int 0, .int 0, .int 0, .int 0, .ref a_isPriest, .ref a_bars, .ref a_joined, .ref a_turns, .ref a_awayMonk, .ref a_awayFrom, .ref a_awayTo, .ref a_feastDay, .ref a_rank, .ref a_isWeekly, .ref a_isDouble, .ref a_giftDay, .ref a_giftFrom, .ref a_owed, .ref a_said, .ref a_spared, .ref a_leaveGift, .ref a_leaveFrom, .ref a_leaveTo, .ref a_lateDay, .ref a_lateOffice, .ref a_lateBy, .ref a_guests, .ref a_who, .ref a_used, .ref a_lacks, .ref a_candles, .ref a_masses, .ref a_owing, .ref a_heldOn, .ref a_waits, .ref a_tape, .ref a_text, .int 0, .int 0, .int 0, .int (-1), .int 0, .ref a_statements, .ref a_taken, .ref a_sort, .ref a_first, .ref a_second, .int 0, .int 0]))]) [0] rfl
  refine roV (As := [.int d]) (rest := []) S (m_inForce  ) (cwV 1 hts gX12_headFeed_X12_inForce rfl rfl rfl (by decide +kernel) ⟨Nat.le_of_ble_eq_true rfl, Nat.le_of_ble_eq_true rfl⟩) hK hPc (va_recv hK.1 hPc (ci := 11) (q0 := 0) rfl rfl) rfl hl.1 rfl (Nat.le_of_ble_eq_true rfl) dX12_headFeed_2 ⟨Nat.le_of_ble_eq_true rfl, Nat.le_of_ble_eq_true rfl⟩ (fun r_1 hw_1 => ?_)
  have hw_1 : r_1.toInt = -1 := hw_1
  refine lv_istore_n (lv' := [(2, .int r_1), (0, .ref h), (1, .int d)]) hx hb dX12_headFeed_5 rfl hl (by decide) rfl (fun ls hl => ?_)
  refine lv_aload_n hx hb dX12_headFeed_6 rfl (lv_at hl 1 rfl) ?_
  refine lv_iload_n hx hb dX12_headFeed_7 rfl (lv_at hl 2 rfl) ?_
  have hPc := hP.sub (ws' := [(h, .inr (11, [.int 0, .int 0, .int 0, .int 0, .int 0, .int 0, .int 0, .int 0, .int 0, .ref a_isPriest, .ref a_bars, .ref a_joined, .ref a_turns, .ref a_awayMonk, .ref a_awayFrom, .ref a_awayTo, .ref a_feastDay, .ref a_rank, .ref a_isWeekly, .ref a_isDouble, .ref a_giftDay, .ref a_giftFrom, .ref a_owed, .ref a_said, .ref a_spared, .ref a_leaveGift, .ref a_leaveFrom, .ref a_leaveTo, .ref a_lateDay, .ref a_lateOffice, .ref a_lateBy, .ref a_guests, .ref a_who, .ref a_used, .ref a_lacks, .ref a_candles, .ref a_masses, .ref a_owing, .ref a_heldOn, .ref a_waits, .ref a_tape, .ref a_text, .int 0, .int 0, .int 0, .int (-1), .int 0, .ref a_statements, .ref a_taken, .ref a_sort, .ref a_first, .ref a_second, .int 0, .int 0]))]) [0] rfl
  refine roV (As := [.int d]) (rest := []) S (m_isFast  ) (cwV 1 hts gX12_headFeed_X12_isFast rfl rfl rfl (by decide +kernel) ⟨Nat.le_of_ble_eq_true rfl, Nat.le_of_ble_eq_true rfl⟩) hK hPc (va_recv hK.1 hPc (ci := 11) (q0 := 0) rfl rfl) rfl hl.1 rfl (Nat.le_of_ble_eq_true rfl) dX12_headFeed_8 ⟨Nat.le_of_ble_eq_true rfl, Nat.le_of_ble_eq_true rfl⟩ (fun r_2 hw_2 => ?_)
  have hw_2 : r_2.toInt = 0 := hw_2
  refine lv_if_eq (tgt := 24) hx hb dX12_headFeed_11 (by decide) (fun c_3 => ?_) (fun c_3 => ?_)
  · have tc_3 := t_eq c_3
    refine lv_iconst (v := (-1)) hx hb dX12_headFeed_24 (by decide) ?_
    refine lv_istore_n (lv' := [(3, .int (-1)), (2, .int r_1), (0, .ref h), (1, .int d)]) hx hb dX12_headFeed_25 rfl hl (by decide) rfl (fun ls hl => ?_)
    refine lv_iload_n hx hb dX12_headFeed_26 rfl (lv_at hl 0 rfl) ?_
    refine lv_iconst (v := (-1)) hx hb dX12_headFeed_27 (by decide) ?_
    refine lv_icmp_ne (tgt := 51) hx hb dX12_headFeed_28 (by decide) (fun c_4 => ?_) (fun c_4 => ?_)
    · exact absurd c_4 (by decide)
    · have tc_4 := t_eq c_4
      refine lv_aload_n hx hb dX12_headFeed_31 rfl (lv_at hl 2 rfl) ?_
      refine lv_iload_n hx hb dX12_headFeed_32 rfl (lv_at hl 3 rfl) ?_
      have hPc := hP.sub (ws' := [(h, .inr (11, [.int 0, .int 0, .int 0, .int 0, .int 0, .int 0, .int 0, .int 0, .int 0, .ref a_isPriest, .ref a_bars, .ref a_joined, .ref a_turns, .ref a_awayMonk, .ref a_awayFrom, .ref a_awayTo, .ref a_feastDay, .ref a_rank, .ref a_isWeekly, .ref a_isDouble, .ref a_giftDay, .ref a_giftFrom, .ref a_owed, .ref a_said, .ref a_spared, .ref a_leaveGift, .ref a_leaveFrom, .ref a_leaveTo, .ref a_lateDay, .ref a_lateOffice, .ref a_lateBy, .ref a_guests, .ref a_who, .ref a_used, .ref a_lacks, .ref a_candles, .ref a_masses, .ref a_owing, .ref a_heldOn, .ref a_waits, .ref a_tape, .ref a_text, .int 0, .int 0, .int 0, .int (-1), .int 0, .ref a_statements, .ref a_taken, .ref a_sort, .ref a_first, .ref a_second, .int 0, .int 0])), (a_heldOn, .inl (cI, 365, .inl f_heldOn))]) [0, 1] rfl
      refine rwV (As := [.int d]) (rest := []) (wc := [(h, .inr (11, [.int 0, .int 0, .int 0, .int 0, .int 0, .int 0, .int 0, .int 0, .int 0, .ref a_isPriest, .ref a_bars, .ref a_joined, .ref a_turns, .ref a_awayMonk, .ref a_awayFrom, .ref a_awayTo, .ref a_feastDay, .ref a_rank, .ref a_isWeekly, .ref a_isDouble, .ref a_giftDay, .ref a_giftFrom, .ref a_owed, .ref a_said, .ref a_spared, .ref a_leaveGift, .ref a_leaveFrom, .ref a_leaveTo, .ref a_lateDay, .ref a_lateOffice, .ref a_lateBy, .ref a_guests, .ref a_who, .ref a_used, .ref a_lacks, .ref a_candles, .ref a_masses, .ref a_owing, .ref a_heldOn, .ref a_waits, .ref a_tape, .ref a_text, .int 0, .int 0, .int 0, .int (-1), .int 0, .ref a_statements, .ref a_taken, .ref a_sort, .ref a_first, .ref a_second, .int 0, .int 0])), (a_heldOn, .inl (cI, 365, .inl f_heldOn))]) (wr := []) S (m_rankOn  ) (cwV 1 hts gX12_headFeed_X12_rankOn rfl rfl rfl (by decide +kernel) ⟨Nat.le_of_ble_eq_true rfl, Nat.le_of_ble_eq_true rfl⟩) hK hP hD hS hA [0, 1] [] rfl rfl (by decide) (by decide) (by decide) (va_recv hK.1 hPc (ci := 11) (q0 := 0) rfl rfl) rfl hl.1 rfl (Nat.le_of_ble_eq_true rfl) dX12_headFeed_33 ⟨Nat.le_of_ble_eq_true rfl, Nat.le_of_ble_eq_true rfl⟩ (fun r_5 u_5 H locs hw_5 hP hD hS => ?_)
      obtain ⟨g1_5, rfl⟩ : ∃ z, z = u_5 := ⟨_, rfl⟩
      have hw_5 : r_5.toInt = 0 := hw_5
      have hP : va_P D vwCl [(h, .inr (11, [.int 0, .int 0, .int 0, .int 0, .int 0, .int 0, .int 0, .int 0, .int 0, .ref a_isPriest, .ref a_bars, .ref a_joined, .ref a_turns, .ref a_awayMonk, .ref a_awayFrom, .ref a_awayTo, .ref a_feastDay, .ref a_rank, .ref a_isWeekly, .ref a_isDouble, .ref a_giftDay, .ref a_giftFrom, .ref a_owed, .ref a_said, .ref a_spared, .ref a_leaveGift, .ref a_leaveFrom, .ref a_leaveTo, .ref a_lateDay, .ref a_lateOffice, .ref a_lateBy, .ref a_guests, .ref a_who, .ref a_used, .ref a_lacks, .ref a_candles, .ref a_masses, .ref a_owing, .ref a_heldOn, .ref a_waits, .ref a_tape, .ref a_text, .int 0, .int 0, .int 0, .int (-1), .int 0, .ref a_statements, .ref a_taken, .ref a_sort, .ref a_first, .ref a_second, .int 0, .int 0])), (a_heldOn, .inl (cI, 365, .inl g1_5))] H := hP
      have hD : va_D A [(h, .inr (11, [.int 0, .int 0, .int 0, .int 0, .int 0, .int 0, .int 0, .int 0, .int 0, .ref a_isPriest, .ref a_bars, .ref a_joined, .ref a_turns, .ref a_awayMonk, .ref a_awayFrom, .ref a_awayTo, .ref a_feastDay, .ref a_rank, .ref a_isWeekly, .ref a_isDouble, .ref a_giftDay, .ref a_giftFrom, .ref a_owed, .ref a_said, .ref a_spared, .ref a_leaveGift, .ref a_leaveFrom, .ref a_leaveTo, .ref a_lateDay, .ref a_lateOffice, .ref a_lateBy, .ref a_guests, .ref a_who, .ref a_used, .ref a_lacks, .ref a_candles, .ref a_masses, .ref a_owing, .ref a_heldOn, .ref a_waits, .ref a_tape, .ref a_text, .int 0, .int 0, .int 0, .int (-1), .int 0, .ref a_statements, .ref a_taken, .ref a_sort, .ref a_first, .ref a_second, .int 0, .int 0])), (a_heldOn, .inl (cI, 365, .inl g1_5))] := hD
      refine lv_if_le (tgt := 51) hx hb dX12_headFeed_36 (by decide) (fun c_6 => ?_) (fun c_6 => ?_)
      · have tc_6 := t_le c_6
        refine lv_iload_n hx hb dX12_headFeed_51 rfl (lv_at hl 0 rfl) ?_
        refine lv_iconst (v := (-1)) hx hb dX12_headFeed_52 (by decide) ?_
        refine lv_icmp_ne (tgt := 64) hx hb dX12_headFeed_53 (by decide) (fun c_7 => ?_) (fun c_7 => ?_)
        · have tc_7 := t_neq c_7
          exfalso; omega
        · have tc_7 := t_eq c_7
          refine lv_aload_n hx hb dX12_headFeed_56 rfl (lv_at hl 2 rfl) ?_
          refine lv_iload_n hx hb dX12_headFeed_57 rfl (lv_at hl 1 rfl) ?_
          refine lv_iconst (v := 5) hx hb dX12_headFeed_58 (by decide) ?_
          refine lv_iconst (v := 0) hx hb dX12_headFeed_59 (by decide) ?_
          have hPc := hP.sub (ws' := [(h, .inr (11, [.int 0, .int 0, .int 0, .int 0, .int 0, .int 0, .int 0, .int 0, .int 0, .ref a_isPriest, .ref a_bars, .ref a_joined, .ref a_turns, .ref a_awayMonk, .ref a_awayFrom, .ref a_awayTo, .ref a_feastDay, .ref a_rank, .ref a_isWeekly, .ref a_isDouble, .ref a_giftDay, .ref a_giftFrom, .ref a_owed, .ref a_said, .ref a_spared, .ref a_leaveGift, .ref a_leaveFrom, .ref a_leaveTo, .ref a_lateDay, .ref a_lateOffice, .ref a_lateBy, .ref a_guests, .ref a_who, .ref a_used, .ref a_lacks, .ref a_candles, .ref a_masses, .ref a_owing, .ref a_heldOn, .ref a_waits, .ref a_tape, .ref a_text, .int 0, .int 0, .int 0, .int (-1), .int 0, .ref a_statements, .ref a_taken, .ref a_sort, .ref a_first, .ref a_second, .int 0, .int 0]))]) [0] rfl
          refine roV (As := [.int r_1, .int 5, .int 0]) (rest := []) S (m_lastOf  (by omega)) (cwV 3 hts gX12_headFeed_X12_lastOf rfl rfl rfl (by decide +kernel) ⟨Nat.le_of_ble_eq_true rfl, Nat.le_of_ble_eq_true rfl⟩) hK hPc (va_recv hK.1 hPc (ci := 11) (q0 := 0) rfl rfl) rfl hl.1 rfl (Nat.le_of_ble_eq_true rfl) dX12_headFeed_60 ⟨Nat.le_of_ble_eq_true rfl, Nat.le_of_ble_eq_true rfl⟩ (fun r_8 hw_8 => ?_)
          have hw_8 : r_8.toInt = -1 := hw_8
          refine lv_istore_n (lv' := [(3, .int r_8), (2, .int r_1), (0, .ref h), (1, .int d)]) hx hb dX12_headFeed_63 rfl hl (by decide) rfl (fun ls hl => ?_)
          refine lv_iload_n hx hb dX12_headFeed_64 rfl (lv_at hl 0 rfl) ?_
          refine lv_iconst (v := (-1)) hx hb dX12_headFeed_65 (by decide) ?_
          refine lv_icmp_ne (tgt := 73) hx hb dX12_headFeed_66 (by decide) (fun c_9 => ?_) (fun c_9 => ?_)
          · have tc_9 := t_neq c_9
            exfalso; omega
          · have tc_9 := t_eq c_9
            refine lv_iconst (v := 2) hx hb dX12_headFeed_69 (by decide) ?_
            refine lv_goto (tgt := 74) hx hb dX12_headFeed_70 (by decide) ?_
            exact hret 2 g1_5 _ _ _ _ (show (2 : Int32).toInt = 2 from by omega) rfl (hP.sub [0, 1] rfl) (hD.sub [0, 1] (by decide) rfl) hS dX12_headFeed_74
      · have tc_6 := t_nle c_6
        exfalso; omega
  · have tc_3 := t_neq c_3
    exfalso; omega

set_option maxHeartbeats 8000000 in
set_option maxRecDepth 100000 in
theorem m_guestFeed {l : Launch} {D : va_G} {cI cZ cB : ClassId} {h a_isPriest a_bars a_joined a_turns a_awayMonk a_awayFrom a_awayTo a_feastDay a_rank a_isWeekly a_isDouble a_giftDay a_giftFrom a_owed a_said a_spared a_leaveGift a_leaveFrom a_leaveTo a_lateDay a_lateOffice a_lateBy a_guests a_who a_used a_lacks a_candles a_masses a_owing a_heldOn a_waits a_tape a_text a_statements a_taken a_sort a_first a_second : Nat} {d : Int32}  : Met l yX12_guestFeed wsX12_guestFeed ({ frames := 1, cells := 0, slots := 0, locals := 25 }) (RO D cI cZ cB [.ref h, .int d] [(h, .inr (11, [.int 0, .int 0, .int 0, .int 0, .int 0, .int 0, .int 0, .int 0, .int 0, .ref a_isPriest, .ref a_bars, .ref a_joined, .ref a_turns, .ref a_awayMonk, .ref a_awayFrom, .ref a_awayTo, .ref a_feastDay, .ref a_rank, .ref a_isWeekly, .ref a_isDouble, .ref a_giftDay, .ref a_giftFrom, .ref a_owed, .ref a_said, .ref a_spared, .ref a_leaveGift, .ref a_leaveFrom, .ref a_leaveTo, .ref a_lateDay, .ref a_lateOffice, .ref a_lateBy, .ref a_guests, .ref a_who, .ref a_used, .ref a_lacks, .ref a_candles, .ref a_masses, .ref a_owing, .ref a_heldOn, .ref a_waits, .ref a_tape, .ref a_text, .int 0, .int 0, .int 0, .int (-1), .int 0, .ref a_statements, .ref a_taken, .ref a_sort, .ref a_first, .ref a_second, .int 0, .int 0]))]) (vp_Si (fun r : Int32 => r.toInt = 3)) 0 0 (fun _ => False) := by
  refine ro_ret (cc := cX12_guestFeed) (maxL := 3) (ty := .int) (own := RX12) (by decide) rfl rfl (Nat.le_of_ble_eq_true rfl) ?_
  intro p e s m args below meth c Q S hret hP hK ls hl
  obtain ⟨hx, hb, hml, hown, hts⟩ := id S
  have hl : lv_has ls 3 [(0, .ref h), (1, .int d)] := hl
  have kkm1 : (-1 : Int32).toInt = -1 := by decide
  have kk0 : (0 : Int32).toInt = 0 := by decide
  have kk3 : (3 : Int32).toInt = 3 := by decide
  have kk4 : (4 : Int32).toInt = 4 := by decide
  refine lv_aload_n hx hb dX12_guestFeed_0 rfl (lv_at hl 0 rfl) ?_
  refine lv_aload_n hx hb dX12_guestFeed_1 rfl (lv_at hl 0 rfl) ?_
  refine lv_iload_n hx hb dX12_guestFeed_2 rfl (lv_at hl 1 rfl) ?_
  have hPc := hP.sub (ws' := [(h, .inr (11, [.int 0, .int 0, .int 0, .int 0, .int 0, .int 0, .int 0, .int 0, .int 0, .ref a_isPriest, .ref a_bars, .ref a_joined, .ref a_turns, .ref a_awayMonk, .ref a_awayFrom, .ref a_awayTo, .ref a_feastDay, .ref a_rank, .ref a_isWeekly, .ref a_isDouble, .ref a_giftDay, .ref a_giftFrom, .ref a_owed, .ref a_said, .ref a_spared, .ref a_leaveGift, .ref a_leaveFrom, .ref a_leaveTo, .ref a_lateDay, .ref a_lateOffice, .ref a_lateBy, .ref a_guests, .ref a_who, .ref a_used, .ref a_lacks, .ref a_candles, .ref a_masses, .ref a_owing, .ref a_heldOn, .ref a_waits, .ref a_tape, .ref a_text, .int 0, .int 0, .int 0, .int (-1), .int 0, .ref a_statements, .ref a_taken, .ref a_sort, .ref a_first, .ref a_second, .int 0, .int 0]))]) [0] rfl
  refine roV (As := [.int d]) (rest := [.ref h]) S (m_inForce  ) (cwV 1 hts gX12_guestFeed_X12_inForce rfl rfl rfl (by decide +kernel) ⟨Nat.le_of_ble_eq_true rfl, Nat.le_of_ble_eq_true rfl⟩) hK hPc (va_recv hK.1 hPc (ci := 11) (q0 := 0) rfl rfl) rfl hl.1 rfl (Nat.le_of_ble_eq_true rfl) dX12_guestFeed_3 ⟨Nat.le_of_ble_eq_true rfl, Nat.le_of_ble_eq_true rfl⟩ (fun r_1 hw_1 => ?_)
  have hw_1 : r_1.toInt = -1 := hw_1
  refine lv_iconst (v := 4) hx hb dX12_guestFeed_6 (by decide) ?_
  refine lv_iconst (v := 0) hx hb dX12_guestFeed_7 (by decide) ?_
  have hPc := hP.sub (ws' := [(h, .inr (11, [.int 0, .int 0, .int 0, .int 0, .int 0, .int 0, .int 0, .int 0, .int 0, .ref a_isPriest, .ref a_bars, .ref a_joined, .ref a_turns, .ref a_awayMonk, .ref a_awayFrom, .ref a_awayTo, .ref a_feastDay, .ref a_rank, .ref a_isWeekly, .ref a_isDouble, .ref a_giftDay, .ref a_giftFrom, .ref a_owed, .ref a_said, .ref a_spared, .ref a_leaveGift, .ref a_leaveFrom, .ref a_leaveTo, .ref a_lateDay, .ref a_lateOffice, .ref a_lateBy, .ref a_guests, .ref a_who, .ref a_used, .ref a_lacks, .ref a_candles, .ref a_masses, .ref a_owing, .ref a_heldOn, .ref a_waits, .ref a_tape, .ref a_text, .int 0, .int 0, .int 0, .int (-1), .int 0, .ref a_statements, .ref a_taken, .ref a_sort, .ref a_first, .ref a_second, .int 0, .int 0]))]) [0] rfl
  refine roV (As := [.int r_1, .int 4, .int 0]) (rest := []) S (m_lastOf  (by omega)) (cwV 3 hts gX12_guestFeed_X12_lastOf rfl rfl rfl (by decide +kernel) ⟨Nat.le_of_ble_eq_true rfl, Nat.le_of_ble_eq_true rfl⟩) hK hPc (va_recv hK.1 hPc (ci := 11) (q0 := 0) rfl rfl) rfl hl.1 rfl (Nat.le_of_ble_eq_true rfl) dX12_guestFeed_8 ⟨Nat.le_of_ble_eq_true rfl, Nat.le_of_ble_eq_true rfl⟩ (fun r_2 hw_2 => ?_)
  have hw_2 : r_2.toInt = -1 := hw_2
  refine lv_istore_n (lv' := [(2, .int r_2), (0, .ref h), (1, .int d)]) hx hb dX12_guestFeed_11 rfl hl (by decide) rfl (fun ls hl => ?_)
  refine lv_iload_n hx hb dX12_guestFeed_12 rfl (lv_at hl 0 rfl) ?_
  refine lv_iconst (v := (-1)) hx hb dX12_guestFeed_13 (by decide) ?_
  refine lv_icmp_ne (tgt := 21) hx hb dX12_guestFeed_14 (by decide) (fun c_3 => ?_) (fun c_3 => ?_)
  · have tc_3 := t_neq c_3
    exfalso; omega
  · have tc_3 := t_eq c_3
    refine lv_iconst (v := 3) hx hb dX12_guestFeed_17 (by decide) ?_
    refine lv_goto (tgt := 22) hx hb dX12_guestFeed_18 (by decide) ?_
    exact hret 3 _ _ (show (3 : Int32).toInt = 3 from by omega) rfl dX12_guestFeed_22

theorem in_m_allGuests_X12 : ∀ w ∈ wsX120, w ∈ wsX12_allGuests := by decide +kernel
set_option maxHeartbeats 8000000 in
set_option maxRecDepth 100000 in
theorem m_allGuests {l : Launch} {D : va_G} {cI cZ cB : ClassId} {h a_isPriest a_bars a_joined a_turns a_awayMonk a_awayFrom a_awayTo a_feastDay a_rank a_isWeekly a_isDouble a_giftDay a_giftFrom a_owed a_said a_spared a_leaveGift a_leaveFrom a_leaveTo a_lateDay a_lateOffice a_lateBy a_guests a_who a_used a_lacks a_candles a_masses a_owing a_heldOn a_waits a_tape a_text a_statements a_taken a_sort a_first a_second : Nat} {f_guests : Nat → Int32}   : Met l yX12_allGuests wsX12_allGuests ({ frames := 0, cells := 0, slots := 0, locals := 0 }) (RO D cI cZ cB [.ref h] [(h, .inr (11, [.int 0, .int 0, .int 0, .int 0, .int 0, .int 0, .int 0, .int 0, .int 0, .ref a_isPriest, .ref a_bars, .ref a_joined, .ref a_turns, .ref a_awayMonk, .ref a_awayFrom, .ref a_awayTo, .ref a_feastDay, .ref a_rank, .ref a_isWeekly, .ref a_isDouble, .ref a_giftDay, .ref a_giftFrom, .ref a_owed, .ref a_said, .ref a_spared, .ref a_leaveGift, .ref a_leaveFrom, .ref a_leaveTo, .ref a_lateDay, .ref a_lateOffice, .ref a_lateBy, .ref a_guests, .ref a_who, .ref a_used, .ref a_lacks, .ref a_candles, .ref a_masses, .ref a_owing, .ref a_heldOn, .ref a_waits, .ref a_tape, .ref a_text, .int 0, .int 0, .int 0, .int (-1), .int 0, .ref a_statements, .ref a_taken, .ref a_sort, .ref a_first, .ref a_second, .int 0, .int 0])), (a_guests, .inl (cI, 6, .inl f_guests))]) (vp_Si (fun r : Int32 => r = sum6 f_guests)) 0 0 (fun _ => False) := by
  refine ro_ret (cc := cX12_allGuests) (maxL := 3) (ty := .int) (own := RX12) (by decide) rfl rfl (Nat.le_of_ble_eq_true rfl) ?_
  intro p e s m args below meth c Q S hret hP hK ls hl
  obtain ⟨hx, hb, hml, hown, hts⟩ := id S
  have hl : lv_has ls 3 [(0, .ref h)] := hl
  have kk0 : (0 : Int32).toInt = 0 := by decide
  have kk1 : (1 : Int32).toInt = 1 := by decide
  have kk2 : (2 : Int32).toInt = 2 := by decide
  have kk3 : (3 : Int32).toInt = 3 := by decide
  have kk4 : (4 : Int32).toInt = 4 := by decide
  have kk5 : (5 : Int32).toInt = 5 := by decide
  have kk6 : (6 : Int32).toInt = 6 := by decide
  have lk0 := hts (.fieldLink RX12 77 "AbbeyHoursModel" "guests" "[I") (by decide +kernel)
  refine lv_iconst (v := 0) hx hb dX12_allGuests_0 (by decide) ?_
  refine lv_istore_n (lv' := [(1, .int 0), (0, .ref h)]) hx hb dX12_allGuests_1 rfl hl (by decide) rfl (fun ls hl => ?_)
  refine lv_iconst (v := 0) hx hb dX12_allGuests_2 (by decide) ?_
  refine lv_istore_n (lv' := [(2, .int 0), (1, .int 0), (0, .ref h)]) hx hb dX12_allGuests_3 rfl hl (by decide) rfl (fun ls hl => ?_)
  refine lv_iload_n hx hb dX12_allGuests_4 rfl (lv_at hl 0 rfl) ?_
  refine lv_bipush (v := 6) hx hb dX12_allGuests_5 (by decide) ?_
  refine lv_icmp_ge (tgt := 25) hx hb dX12_allGuests_7 (by decide) (fun c_1 => ?_) (fun c_1 => ?_)
  · exact absurd c_1 (by decide)
  · have tc_1 := t_nle c_1
    refine lv_iload_n hx hb dX12_allGuests_10 rfl (lv_at hl 1 rfl) ?_
    refine lv_aload_n hx hb dX12_allGuests_11 rfl (lv_at hl 2 rfl) ?_
    refine va_get (D := D) (ci := 11) (v := .ref a_guests) (C := RX12) (T := TX12) (N := 54) hx hb hts in_m_allGuests_X12 hown hK.1 hP 0 rfl rfl 31 (by decide) lk0 (fun _ h9 => h9) rfl dX12_allGuests_12 ?_
    refine lv_iload_n hx hb dX12_allGuests_15 rfl (lv_at hl 0 rfl) ?_
    refine va_iald hx hb hK.1 hP 1 0 rfl rfl (t_in (by omega) (by omega)) dX12_allGuests_16 ?_
    refine lv_topi (fun y_2 ey_2 => ?_)
    refine lv_iadd hx hb dX12_allGuests_17 ?_
    refine lv_topi (fun x_3 ex_3 => ?_)
    refine lv_istore_n (lv' := [(1, .int x_3), (2, .int 0), (0, .ref h)]) hx hb dX12_allGuests_18 rfl hl (by decide) rfl (fun ls hl => ?_)
    obtain ⟨x_4, ex_4⟩ : ∃ y : Int32, y = 0 + 1 := ⟨_, rfl⟩
    obtain rfl : x_4 = 1 := by rw [ex_4]; decide
    refine lv_iinc (v := 1) (lv' := [(2, .int 1), (1, .int x_3), (0, .ref h)]) hx hb dX12_allGuests_19 hl (k := 1) rfl (by decide) (by decide) rfl (fun ls hl => ?_)
    refine lv_goto (tgt := 4) hx hb dX12_allGuests_22 (by decide) ?_
    refine lv_iload_n hx hb dX12_allGuests_4 rfl (lv_at hl 0 rfl) ?_
    refine lv_bipush (v := 6) hx hb dX12_allGuests_5 (by decide) ?_
    refine lv_icmp_ge (tgt := 25) hx hb dX12_allGuests_7 (by decide) (fun c_5 => ?_) (fun c_5 => ?_)
    · exact absurd c_5 (by decide)
    · have tc_5 := t_nle c_5
      refine lv_iload_n hx hb dX12_allGuests_10 rfl (lv_at hl 1 rfl) ?_
      refine lv_aload_n hx hb dX12_allGuests_11 rfl (lv_at hl 2 rfl) ?_
      refine va_get (D := D) (ci := 11) (v := .ref a_guests) (C := RX12) (T := TX12) (N := 54) hx hb hts in_m_allGuests_X12 hown hK.1 hP 0 rfl rfl 31 (by decide) lk0 (fun _ h9 => h9) rfl dX12_allGuests_12 ?_
      refine lv_iload_n hx hb dX12_allGuests_15 rfl (lv_at hl 0 rfl) ?_
      refine va_iald hx hb hK.1 hP 1 0 rfl rfl (t_in (by omega) (by omega)) dX12_allGuests_16 ?_
      refine lv_topi (fun y_6 ey_6 => ?_)
      refine lv_iadd hx hb dX12_allGuests_17 ?_
      refine lv_topi (fun x_7 ex_7 => ?_)
      refine lv_istore_n (lv' := [(1, .int x_7), (2, .int 1), (0, .ref h)]) hx hb dX12_allGuests_18 rfl hl (by decide) rfl (fun ls hl => ?_)
      obtain ⟨x_8, ex_8⟩ : ∃ y : Int32, y = 1 + 1 := ⟨_, rfl⟩
      obtain rfl : x_8 = 2 := by rw [ex_8]; decide
      refine lv_iinc (v := 2) (lv' := [(2, .int 2), (1, .int x_7), (0, .ref h)]) hx hb dX12_allGuests_19 hl (k := 1) rfl (by decide) (by decide) rfl (fun ls hl => ?_)
      refine lv_goto (tgt := 4) hx hb dX12_allGuests_22 (by decide) ?_
      refine lv_iload_n hx hb dX12_allGuests_4 rfl (lv_at hl 0 rfl) ?_
      refine lv_bipush (v := 6) hx hb dX12_allGuests_5 (by decide) ?_
      refine lv_icmp_ge (tgt := 25) hx hb dX12_allGuests_7 (by decide) (fun c_9 => ?_) (fun c_9 => ?_)
      · exact absurd c_9 (by decide)
      · have tc_9 := t_nle c_9
        refine lv_iload_n hx hb dX12_allGuests_10 rfl (lv_at hl 1 rfl) ?_
        refine lv_aload_n hx hb dX12_allGuests_11 rfl (lv_at hl 2 rfl) ?_
        refine va_get (D := D) (ci := 11) (v := .ref a_guests) (C := RX12) (T := TX12) (N := 54) hx hb hts in_m_allGuests_X12 hown hK.1 hP 0 rfl rfl 31 (by decide) lk0 (fun _ h9 => h9) rfl dX12_allGuests_12 ?_
        refine lv_iload_n hx hb dX12_allGuests_15 rfl (lv_at hl 0 rfl) ?_
        refine va_iald hx hb hK.1 hP 1 0 rfl rfl (t_in (by omega) (by omega)) dX12_allGuests_16 ?_
        refine lv_topi (fun y_10 ey_10 => ?_)
        refine lv_iadd hx hb dX12_allGuests_17 ?_
        refine lv_topi (fun x_11 ex_11 => ?_)
        refine lv_istore_n (lv' := [(1, .int x_11), (2, .int 2), (0, .ref h)]) hx hb dX12_allGuests_18 rfl hl (by decide) rfl (fun ls hl => ?_)
        obtain ⟨x_12, ex_12⟩ : ∃ y : Int32, y = 2 + 1 := ⟨_, rfl⟩
        obtain rfl : x_12 = 3 := by rw [ex_12]; decide
        refine lv_iinc (v := 3) (lv' := [(2, .int 3), (1, .int x_11), (0, .ref h)]) hx hb dX12_allGuests_19 hl (k := 1) rfl (by decide) (by decide) rfl (fun ls hl => ?_)
        refine lv_goto (tgt := 4) hx hb dX12_allGuests_22 (by decide) ?_
        refine lv_iload_n hx hb dX12_allGuests_4 rfl (lv_at hl 0 rfl) ?_
        refine lv_bipush (v := 6) hx hb dX12_allGuests_5 (by decide) ?_
        refine lv_icmp_ge (tgt := 25) hx hb dX12_allGuests_7 (by decide) (fun c_13 => ?_) (fun c_13 => ?_)
        · exact absurd c_13 (by decide)
        · have tc_13 := t_nle c_13
          refine lv_iload_n hx hb dX12_allGuests_10 rfl (lv_at hl 1 rfl) ?_
          refine lv_aload_n hx hb dX12_allGuests_11 rfl (lv_at hl 2 rfl) ?_
          refine va_get (D := D) (ci := 11) (v := .ref a_guests) (C := RX12) (T := TX12) (N := 54) hx hb hts in_m_allGuests_X12 hown hK.1 hP 0 rfl rfl 31 (by decide) lk0 (fun _ h9 => h9) rfl dX12_allGuests_12 ?_
          refine lv_iload_n hx hb dX12_allGuests_15 rfl (lv_at hl 0 rfl) ?_
          refine va_iald hx hb hK.1 hP 1 0 rfl rfl (t_in (by omega) (by omega)) dX12_allGuests_16 ?_
          refine lv_topi (fun y_14 ey_14 => ?_)
          refine lv_iadd hx hb dX12_allGuests_17 ?_
          refine lv_topi (fun x_15 ex_15 => ?_)
          refine lv_istore_n (lv' := [(1, .int x_15), (2, .int 3), (0, .ref h)]) hx hb dX12_allGuests_18 rfl hl (by decide) rfl (fun ls hl => ?_)
          obtain ⟨x_16, ex_16⟩ : ∃ y : Int32, y = 3 + 1 := ⟨_, rfl⟩
          obtain rfl : x_16 = 4 := by rw [ex_16]; decide
          refine lv_iinc (v := 4) (lv' := [(2, .int 4), (1, .int x_15), (0, .ref h)]) hx hb dX12_allGuests_19 hl (k := 1) rfl (by decide) (by decide) rfl (fun ls hl => ?_)
          refine lv_goto (tgt := 4) hx hb dX12_allGuests_22 (by decide) ?_
          refine lv_iload_n hx hb dX12_allGuests_4 rfl (lv_at hl 0 rfl) ?_
          refine lv_bipush (v := 6) hx hb dX12_allGuests_5 (by decide) ?_
          refine lv_icmp_ge (tgt := 25) hx hb dX12_allGuests_7 (by decide) (fun c_17 => ?_) (fun c_17 => ?_)
          · exact absurd c_17 (by decide)
          · have tc_17 := t_nle c_17
            refine lv_iload_n hx hb dX12_allGuests_10 rfl (lv_at hl 1 rfl) ?_
            refine lv_aload_n hx hb dX12_allGuests_11 rfl (lv_at hl 2 rfl) ?_
            refine va_get (D := D) (ci := 11) (v := .ref a_guests) (C := RX12) (T := TX12) (N := 54) hx hb hts in_m_allGuests_X12 hown hK.1 hP 0 rfl rfl 31 (by decide) lk0 (fun _ h9 => h9) rfl dX12_allGuests_12 ?_
            refine lv_iload_n hx hb dX12_allGuests_15 rfl (lv_at hl 0 rfl) ?_
            refine va_iald hx hb hK.1 hP 1 0 rfl rfl (t_in (by omega) (by omega)) dX12_allGuests_16 ?_
            refine lv_topi (fun y_18 ey_18 => ?_)
            refine lv_iadd hx hb dX12_allGuests_17 ?_
            refine lv_topi (fun x_19 ex_19 => ?_)
            refine lv_istore_n (lv' := [(1, .int x_19), (2, .int 4), (0, .ref h)]) hx hb dX12_allGuests_18 rfl hl (by decide) rfl (fun ls hl => ?_)
            obtain ⟨x_20, ex_20⟩ : ∃ y : Int32, y = 4 + 1 := ⟨_, rfl⟩
            obtain rfl : x_20 = 5 := by rw [ex_20]; decide
            refine lv_iinc (v := 5) (lv' := [(2, .int 5), (1, .int x_19), (0, .ref h)]) hx hb dX12_allGuests_19 hl (k := 1) rfl (by decide) (by decide) rfl (fun ls hl => ?_)
            refine lv_goto (tgt := 4) hx hb dX12_allGuests_22 (by decide) ?_
            refine lv_iload_n hx hb dX12_allGuests_4 rfl (lv_at hl 0 rfl) ?_
            refine lv_bipush (v := 6) hx hb dX12_allGuests_5 (by decide) ?_
            refine lv_icmp_ge (tgt := 25) hx hb dX12_allGuests_7 (by decide) (fun c_21 => ?_) (fun c_21 => ?_)
            · exact absurd c_21 (by decide)
            · have tc_21 := t_nle c_21
              refine lv_iload_n hx hb dX12_allGuests_10 rfl (lv_at hl 1 rfl) ?_
              refine lv_aload_n hx hb dX12_allGuests_11 rfl (lv_at hl 2 rfl) ?_
              refine va_get (D := D) (ci := 11) (v := .ref a_guests) (C := RX12) (T := TX12) (N := 54) hx hb hts in_m_allGuests_X12 hown hK.1 hP 0 rfl rfl 31 (by decide) lk0 (fun _ h9 => h9) rfl dX12_allGuests_12 ?_
              refine lv_iload_n hx hb dX12_allGuests_15 rfl (lv_at hl 0 rfl) ?_
              refine va_iald hx hb hK.1 hP 1 0 rfl rfl (t_in (by omega) (by omega)) dX12_allGuests_16 ?_
              refine lv_topi (fun y_22 ey_22 => ?_)
              refine lv_iadd hx hb dX12_allGuests_17 ?_
              refine lv_topi (fun x_23 ex_23 => ?_)
              refine lv_istore_n (lv' := [(1, .int x_23), (2, .int 5), (0, .ref h)]) hx hb dX12_allGuests_18 rfl hl (by decide) rfl (fun ls hl => ?_)
              obtain ⟨x_24, ex_24⟩ : ∃ y : Int32, y = 5 + 1 := ⟨_, rfl⟩
              obtain rfl : x_24 = 6 := by rw [ex_24]; decide
              refine lv_iinc (v := 6) (lv' := [(2, .int 6), (1, .int x_23), (0, .ref h)]) hx hb dX12_allGuests_19 hl (k := 1) rfl (by decide) (by decide) rfl (fun ls hl => ?_)
              refine lv_goto (tgt := 4) hx hb dX12_allGuests_22 (by decide) ?_
              refine lv_iload_n hx hb dX12_allGuests_4 rfl (lv_at hl 0 rfl) ?_
              refine lv_bipush (v := 6) hx hb dX12_allGuests_5 (by decide) ?_
              refine lv_icmp_ge (tgt := 25) hx hb dX12_allGuests_7 (by decide) (fun c_25 => ?_) (fun c_25 => ?_)
              · have tc_25 := t_le c_25
                refine lv_iload_n hx hb dX12_allGuests_25 rfl (lv_at hl 1 rfl) ?_
                exact hret x_23 _ _ (show x_23 = sum6 f_guests from by subst_vars; rfl) rfl dX12_allGuests_26
              · exact absurd c_25 (by decide)

theorem in_m_four_X12 : ∀ w ∈ wsX120, w ∈ wsX12_four := by decide +kernel
set_option maxHeartbeats 8000000 in
set_option maxRecDepth 100000 in
theorem m_four {l : Launch} {D : va_G} {cI cZ cB : ClassId} {sz : Nat} {h a_isPriest a_bars a_joined a_turns a_awayMonk a_awayFrom a_awayTo a_feastDay a_rank a_isWeekly a_isDouble a_giftDay a_giftFrom a_owed a_said a_spared a_leaveGift a_leaveFrom a_leaveTo a_lateDay a_lateOffice a_lateBy a_guests a_who a_used a_lacks a_candles a_masses a_owing a_heldOn a_waits a_tape a_text a_statements a_taken a_sort a_first a_second : Nat} {v_taped : Int32} {f_tape : Nat → Int32} {x : Int32} (hw0 : 0 ≤ v_taped.toInt) (hw1 : v_taped.toInt ≤ 596) : Met l yX12_four wsX12_four ({ frames := 0, cells := 0, slots := 0, locals := 0 }) (RW D cI cZ cB [.ref h, .int x] sz [(h, .inr (11, [.int 0, .int 0, .int 0, .int 0, .int 0, .int 0, .int 0, .int 0, .int 0, .ref a_isPriest, .ref a_bars, .ref a_joined, .ref a_turns, .ref a_awayMonk, .ref a_awayFrom, .ref a_awayTo, .ref a_feastDay, .ref a_rank, .ref a_isWeekly, .ref a_isDouble, .ref a_giftDay, .ref a_giftFrom, .ref a_owed, .ref a_said, .ref a_spared, .ref a_leaveGift, .ref a_leaveFrom, .ref a_leaveTo, .ref a_lateDay, .ref a_lateOffice, .ref a_lateBy, .ref a_guests, .ref a_who, .ref a_used, .ref a_lacks, .ref a_candles, .ref a_masses, .ref a_owing, .ref a_heldOn, .ref a_waits, .ref a_tape, .ref a_text, .int v_taped, .int 0, .int 0, .int (-1), .int 0, .ref a_statements, .ref a_taken, .ref a_sort, .ref a_first, .ref a_second, .int 0, .int 0])), (a_tape, .inl (cB, 600, .inl f_tape))]) (va_Qv (fun u : Int32 × (Nat → Int32) => u.1.toInt = v_taped.toInt + 4) (BW D [(h, .inr (11, [.int 0, .int 0, .int 0, .int 0, .int 0, .int 0, .int 0, .int 0, .int 0, .ref a_isPriest, .ref a_bars, .ref a_joined, .ref a_turns, .ref a_awayMonk, .ref a_awayFrom, .ref a_awayTo, .ref a_feastDay, .ref a_rank, .ref a_isWeekly, .ref a_isDouble, .ref a_giftDay, .ref a_giftFrom, .ref a_owed, .ref a_said, .ref a_spared, .ref a_leaveGift, .ref a_leaveFrom, .ref a_leaveTo, .ref a_lateDay, .ref a_lateOffice, .ref a_lateBy, .ref a_guests, .ref a_who, .ref a_used, .ref a_lacks, .ref a_candles, .ref a_masses, .ref a_owing, .ref a_heldOn, .ref a_waits, .ref a_tape, .ref a_text, .int v_taped, .int 0, .int 0, .int (-1), .int 0, .ref a_statements, .ref a_taken, .ref a_sort, .ref a_first, .ref a_second, .int 0, .int 0])), (a_tape, .inl (cB, 600, .inl f_tape))] sz (fun u : Int32 × (Nat → Int32) => [(h, .inr (11, [.int 0, .int 0, .int 0, .int 0, .int 0, .int 0, .int 0, .int 0, .int 0, .ref a_isPriest, .ref a_bars, .ref a_joined, .ref a_turns, .ref a_awayMonk, .ref a_awayFrom, .ref a_awayTo, .ref a_feastDay, .ref a_rank, .ref a_isWeekly, .ref a_isDouble, .ref a_giftDay, .ref a_giftFrom, .ref a_owed, .ref a_said, .ref a_spared, .ref a_leaveGift, .ref a_leaveFrom, .ref a_leaveTo, .ref a_lateDay, .ref a_lateOffice, .ref a_lateBy, .ref a_guests, .ref a_who, .ref a_used, .ref a_lacks, .ref a_candles, .ref a_masses, .ref a_owing, .ref a_heldOn, .ref a_waits, .ref a_tape, .ref a_text, .int u.1, .int 0, .int 0, .int (-1), .int 0, .ref a_statements, .ref a_taken, .ref a_sort, .ref a_first, .ref a_second, .int 0, .int 0])), (a_tape, .inl (cB, 600, .inl u.2))])) (va_A [(h, .inr (11, [.int 0, .int 0, .int 0, .int 0, .int 0, .int 0, .int 0, .int 0, .int 0, .ref a_isPriest, .ref a_bars, .ref a_joined, .ref a_turns, .ref a_awayMonk, .ref a_awayFrom, .ref a_awayTo, .ref a_feastDay, .ref a_rank, .ref a_isWeekly, .ref a_isDouble, .ref a_giftDay, .ref a_giftFrom, .ref a_owed, .ref a_said, .ref a_spared, .ref a_leaveGift, .ref a_leaveFrom, .ref a_leaveTo, .ref a_lateDay, .ref a_lateOffice, .ref a_lateBy, .ref a_guests, .ref a_who, .ref a_used, .ref a_lacks, .ref a_candles, .ref a_masses, .ref a_owing, .ref a_heldOn, .ref a_waits, .ref a_tape, .ref a_text, .int v_taped, .int 0, .int 0, .int (-1), .int 0, .ref a_statements, .ref a_taken, .ref a_sort, .ref a_first, .ref a_second, .int 0, .int 0])), (a_tape, .inl (cB, 600, .inl f_tape))] sz)) 0 0 (va_A [(h, .inr (11, [.int 0, .int 0, .int 0, .int 0, .int 0, .int 0, .int 0, .int 0, .int 0, .ref a_isPriest, .ref a_bars, .ref a_joined, .ref a_turns, .ref a_awayMonk, .ref a_awayFrom, .ref a_awayTo, .ref a_feastDay, .ref a_rank, .ref a_isWeekly, .ref a_isDouble, .ref a_giftDay, .ref a_giftFrom, .ref a_owed, .ref a_said, .ref a_spared, .ref a_leaveGift, .ref a_leaveFrom, .ref a_leaveTo, .ref a_lateDay, .ref a_lateOffice, .ref a_lateBy, .ref a_guests, .ref a_who, .ref a_used, .ref a_lacks, .ref a_candles, .ref a_masses, .ref a_owing, .ref a_heldOn, .ref a_waits, .ref a_tape, .ref a_text, .int v_taped, .int 0, .int 0, .int (-1), .int 0, .ref a_statements, .ref a_taken, .ref a_sort, .ref a_first, .ref a_second, .int 0, .int 0])), (a_tape, .inl (cB, 600, .inl f_tape))] sz) := by
  refine rw_retv (cc := cX12_four) (maxL := 3) (own := RX12) (by decide) rfl rfl (Nat.le_of_ble_eq_true rfl) ?_
  intro p e s m args below meth c Q A S hin hret hP hK hD hA hS ls hl
  obtain ⟨hx, hb, hml, hown, hts⟩ := id S
  have hl : lv_has ls 3 [(0, .ref h), (1, .int x)] := hl
  have kkm8 : (-8 : Int32).toInt = -8 := by decide
  have kk0 : (0 : Int32).toInt = 0 := by decide
  have kk1 : (1 : Int32).toInt = 1 := by decide
  have kk24 : (24 : Int32).toInt = 24 := by decide
  have lk0 := hts (.fieldLink RX12 104 "AbbeyHoursModel" "tape" "[B") (by decide +kernel)
  have lk1 := hts (.fieldLink RX12 185 "AbbeyHoursModel" "taped" "I") (by decide +kernel)
  refine lv_bipush (v := 24) hx hb dX12_four_0 (by decide) ?_
  refine lv_istore_n (lv' := [(2, .int 24), (0, .ref h), (1, .int x)]) hx hb dX12_four_2 rfl hl (by decide) rfl (fun ls hl => ?_)
  have loop3 : ∀ (fuel : Nat) (i : Int32) (w : Int32) (fb : Nat → Int32), i.toInt + 8 < (fuel : Int) → (-8 ≤ i.toInt) → (i.toInt ≤ 24) → ((24 - i.toInt) % 8 = 0) → (8 * w.toInt = 8 * v_taped.toInt + (24 - i.toInt)) → ∀ (H : Heap) (locs : List Loc), va_P D vwCl [(h, .inr (11, [.int 0, .int 0, .int 0, .int 0, .int 0, .int 0, .int 0, .int 0, .int 0, .ref a_isPriest, .ref a_bars, .ref a_joined, .ref a_turns, .ref a_awayMonk, .ref a_awayFrom, .ref a_awayTo, .ref a_feastDay, .ref a_rank, .ref a_isWeekly, .ref a_isDouble, .ref a_giftDay, .ref a_giftFrom, .ref a_owed, .ref a_said, .ref a_spared, .ref a_leaveGift, .ref a_leaveFrom, .ref a_leaveTo, .ref a_lateDay, .ref a_lateOffice, .ref a_lateBy, .ref a_guests, .ref a_who, .ref a_used, .ref a_lacks, .ref a_candles, .ref a_masses, .ref a_owing, .ref a_heldOn, .ref a_waits, .ref a_tape, .ref a_text, .int w, .int 0, .int 0, .int (-1), .int 0, .ref a_statements, .ref a_taken, .ref a_sort, .ref a_first, .ref a_second, .int 0, .int 0])), (a_tape, .inl (cB, 600, .inl fb))] H → va_D A [(h, .inr (11, [.int 0, .int 0, .int 0, .int 0, .int 0, .int 0, .int 0, .int 0, .int 0, .ref a_isPriest, .ref a_bars, .ref a_joined, .ref a_turns, .ref a_awayMonk, .ref a_awayFrom, .ref a_awayTo, .ref a_feastDay, .ref a_rank, .ref a_isWeekly, .ref a_isDouble, .ref a_giftDay, .ref a_giftFrom, .ref a_owed, .ref a_said, .ref a_spared, .ref a_leaveGift, .ref a_leaveFrom, .ref a_leaveTo, .ref a_lateDay, .ref a_lateOffice, .ref a_lateBy, .ref a_guests, .ref a_who, .ref a_used, .ref a_lacks, .ref a_candles, .ref a_masses, .ref a_owing, .ref a_heldOn, .ref a_waits, .ref a_tape, .ref a_text, .int w, .int 0, .int 0, .int (-1), .int 0, .ref a_statements, .ref a_taken, .ref a_sort, .ref a_first, .ref a_second, .int 0, .int 0])), (a_tape, .inl (cB, 600, .inl fb))] → va_S A s.heap H locs → ∀ ls : Array Slot, lv_has ls 3 [(2, .int i), (0, .ref h), (1, .int x)] → W p l e ({ frames := 0, cells := 0, slots := 0, locals := 0 } : Room) s m args below meth c H locs 0 0 Q (F0 m 3 ls []) := by
    intro fuel
    induction fuel with
    | zero =>
      intro i w fb hmu hi0 hi1 hi8 hw2 H locs hP hD hS ls hl
      exfalso; omega
    | succ fuel ih3 =>
      intro i w fb hmu hi0 hi1 hi8 hw2 H locs hP hD hS ls hl
      refine lv_iload_n hx hb dX12_four_3 rfl (lv_at hl 0 rfl) ?_
      refine lv_if_lt (tgt := 36) hx hb dX12_four_4 (by decide) (fun c_1 => ?_) (fun c_1 => ?_)
      · have tc_1 := t_lt c_1
        exact hret (w, fb) _ _ _ _ (show w.toInt = v_taped.toInt + 4 from by omega) (hP.sub [0, 1] rfl) (hD.sub [0, 1] (by decide) rfl) hS dX12_four_36
      · have tc_1 := t_nlt c_1
        refine lv_aload_n hx hb dX12_four_7 rfl (lv_at hl 1 rfl) ?_
        refine va_get (D := D) (ci := 11) (v := .ref a_tape) (C := RX12) (T := TX12) (N := 54) hx hb hts in_m_four_X12 hown hK.1 hP 0 rfl rfl 40 (by decide) lk0 (fun _ h9 => h9) rfl dX12_four_8 ?_
        refine lv_aload_n hx hb dX12_four_11 rfl (lv_at hl 1 rfl) ?_
        refine va_get (D := D) (ci := 11) (v := .int w) (C := RX12) (T := TX12) (N := 54) hx hb hts in_m_four_X12 hown hK.1 hP 0 rfl rfl 42 (by decide) lk1 (fun _ h9 => h9) rfl dX12_four_12 ?_
        refine lv_iload_n hx hb dX12_four_15 rfl (lv_at hl 2 rfl) ?_
        refine lv_iload_n hx hb dX12_four_16 rfl (lv_at hl 0 rfl) ?_
        refine lv_ishr hx hb dX12_four_17 ?_
        refine lv_topi (fun x_2 ex_2 => ?_)
        refine lv_i2b hx hb dX12_four_18 rfl ?_
        refine lv_topi (fun x_3 ex_3 => ?_)
        refine va_bast hx hb hK.1 hP hD hS 1 2 rfl rfl (t_in (by omega) (by omega)) dX12_four_19 (fun H locs hP hD hS => ?_)
        obtain ⟨g_4, eg_4⟩ : ∃ z : Nat → Int32, z = upd fb ((w : Int32).toNatClampNeg) (vp_nar .byte x_3) := ⟨_, rfl⟩
        rw [← eg_4] at hP hD
        have hP : va_P D vwCl [(h, .inr (11, [.int 0, .int 0, .int 0, .int 0, .int 0, .int 0, .int 0, .int 0, .int 0, .ref a_isPriest, .ref a_bars, .ref a_joined, .ref a_turns, .ref a_awayMonk, .ref a_awayFrom, .ref a_awayTo, .ref a_feastDay, .ref a_rank, .ref a_isWeekly, .ref a_isDouble, .ref a_giftDay, .ref a_giftFrom, .ref a_owed, .ref a_said, .ref a_spared, .ref a_leaveGift, .ref a_leaveFrom, .ref a_leaveTo, .ref a_lateDay, .ref a_lateOffice, .ref a_lateBy, .ref a_guests, .ref a_who, .ref a_used, .ref a_lacks, .ref a_candles, .ref a_masses, .ref a_owing, .ref a_heldOn, .ref a_waits, .ref a_tape, .ref a_text, .int w, .int 0, .int 0, .int (-1), .int 0, .ref a_statements, .ref a_taken, .ref a_sort, .ref a_first, .ref a_second, .int 0, .int 0])), (a_tape, .inl (cB, 600, .inl g_4))] H := hP
        have hD : va_D A [(h, .inr (11, [.int 0, .int 0, .int 0, .int 0, .int 0, .int 0, .int 0, .int 0, .int 0, .ref a_isPriest, .ref a_bars, .ref a_joined, .ref a_turns, .ref a_awayMonk, .ref a_awayFrom, .ref a_awayTo, .ref a_feastDay, .ref a_rank, .ref a_isWeekly, .ref a_isDouble, .ref a_giftDay, .ref a_giftFrom, .ref a_owed, .ref a_said, .ref a_spared, .ref a_leaveGift, .ref a_leaveFrom, .ref a_leaveTo, .ref a_lateDay, .ref a_lateOffice, .ref a_lateBy, .ref a_guests, .ref a_who, .ref a_used, .ref a_lacks, .ref a_candles, .ref a_masses, .ref a_owing, .ref a_heldOn, .ref a_waits, .ref a_tape, .ref a_text, .int w, .int 0, .int 0, .int (-1), .int 0, .ref a_statements, .ref a_taken, .ref a_sort, .ref a_first, .ref a_second, .int 0, .int 0])), (a_tape, .inl (cB, 600, .inl g_4))] := hD
        refine lv_aload_n hx hb dX12_four_20 rfl (lv_at hl 1 rfl) ?_
        refine lv_dup hx hb dX12_four_21 rfl ?_
        refine va_get (D := D) (ci := 11) (v := .int w) (C := RX12) (T := TX12) (N := 54) hx hb hts in_m_four_X12 hown hK.1 hP 0 rfl rfl 42 (by decide) lk1 (fun _ h9 => h9) rfl dX12_four_22 ?_
        refine lv_iconst (v := 1) hx hb dX12_four_25 (by decide) ?_
        refine lv_iadd hx hb dX12_four_26 ?_
        refine lv_topi (fun x_5 ex_5 => ?_)
        first | have tx_5 := t_add ex_5 (by omega) (by omega) | skip
        refine va_put (D := D) (ci := 11) (v := .int x_5) (ty := .int) (C := RX12) (T := TX12) (N := 54) hx hb hts in_m_four_X12 tyX12 tyX12_ok nmX12 hown hK.1 hP hD hS 0 rfl rfl 42 (by decide) lk1 (fun _ h9 => h9) rfl (by decide +kernel) rfl rfl (Nat.le_of_ble_eq_true rfl) dX12_four_27 (fun H locs hP hD hS => ?_)
        have hP : va_P D vwCl [(h, .inr (11, [.int 0, .int 0, .int 0, .int 0, .int 0, .int 0, .int 0, .int 0, .int 0, .ref a_isPriest, .ref a_bars, .ref a_joined, .ref a_turns, .ref a_awayMonk, .ref a_awayFrom, .ref a_awayTo, .ref a_feastDay, .ref a_rank, .ref a_isWeekly, .ref a_isDouble, .ref a_giftDay, .ref a_giftFrom, .ref a_owed, .ref a_said, .ref a_spared, .ref a_leaveGift, .ref a_leaveFrom, .ref a_leaveTo, .ref a_lateDay, .ref a_lateOffice, .ref a_lateBy, .ref a_guests, .ref a_who, .ref a_used, .ref a_lacks, .ref a_candles, .ref a_masses, .ref a_owing, .ref a_heldOn, .ref a_waits, .ref a_tape, .ref a_text, .int x_5, .int 0, .int 0, .int (-1), .int 0, .ref a_statements, .ref a_taken, .ref a_sort, .ref a_first, .ref a_second, .int 0, .int 0])), (a_tape, .inl (cB, 600, .inl g_4))] H := hP
        have hD : va_D A [(h, .inr (11, [.int 0, .int 0, .int 0, .int 0, .int 0, .int 0, .int 0, .int 0, .int 0, .ref a_isPriest, .ref a_bars, .ref a_joined, .ref a_turns, .ref a_awayMonk, .ref a_awayFrom, .ref a_awayTo, .ref a_feastDay, .ref a_rank, .ref a_isWeekly, .ref a_isDouble, .ref a_giftDay, .ref a_giftFrom, .ref a_owed, .ref a_said, .ref a_spared, .ref a_leaveGift, .ref a_leaveFrom, .ref a_leaveTo, .ref a_lateDay, .ref a_lateOffice, .ref a_lateBy, .ref a_guests, .ref a_who, .ref a_used, .ref a_lacks, .ref a_candles, .ref a_masses, .ref a_owing, .ref a_heldOn, .ref a_waits, .ref a_tape, .ref a_text, .int x_5, .int 0, .int 0, .int (-1), .int 0, .ref a_statements, .ref a_taken, .ref a_sort, .ref a_first, .ref a_second, .int 0, .int 0])), (a_tape, .inl (cB, 600, .inl g_4))] := hD
        obtain ⟨x_6, ex_6⟩ : ∃ y : Int32, y = i + (-8) := ⟨_, rfl⟩
        refine lv_iinc (v := x_6) (lv' := [(2, .int x_6), (0, .ref h), (1, .int x)]) hx hb dX12_four_30 hl (k := 0) rfl (by rw [ex_6]; rfl) (by decide) rfl (fun ls hl => ?_)
        first | have tx_6 := t_add ex_6 (by omega) (by omega) | skip
        refine lv_goto (tgt := 3) hx hb dX12_four_33 (by decide) ?_
        exact ih3 x_6 x_5 g_4 (by omega) (by omega) (by omega) (by omega) (by omega) _ _ hP hD hS ls (lv_sub hl [0, 1, 2] rfl)
  exact loop3 (((24 : Int32).toInt + 8).toNat + 1) 24 v_taped f_tape (by omega) (by omega) (by omega) (by omega) (by omega) _ _ hP hD hS ls (lv_sub hl [0, 1, 2] rfl)

theorem in_m_blanks0_X12 : ∀ w ∈ wsX120, w ∈ wsX12_blanks := by decide +kernel
set_option maxHeartbeats 8000000 in
set_option maxRecDepth 100000 in
theorem m_blanks0 {l : Launch} {D : va_G} {cI cZ cB : ClassId} {sz : Nat} {h a_isPriest a_bars a_joined a_turns a_awayMonk a_awayFrom a_awayTo a_feastDay a_rank a_isWeekly a_isDouble a_giftDay a_giftFrom a_owed a_said a_spared a_leaveGift a_leaveFrom a_leaveTo a_lateDay a_lateOffice a_lateBy a_guests a_who a_used a_lacks a_candles a_masses a_owing a_heldOn a_waits a_tape a_text a_statements a_taken a_sort a_first a_second : Nat} {v_size : Int32}  (hz : v_size.toInt ≤ 0) : Met l yX12_blanks wsX12_blanks ({ frames := 0, cells := 0, slots := 0, locals := 0 }) (RW D cI cZ cB [.ref h] sz [(h, .inr (11, [.int 0, .int 0, .int 0, .int 0, .int 0, .int 0, .int 0, .int 0, .int 0, .ref a_isPriest, .ref a_bars, .ref a_joined, .ref a_turns, .ref a_awayMonk, .ref a_awayFrom, .ref a_awayTo, .ref a_feastDay, .ref a_rank, .ref a_isWeekly, .ref a_isDouble, .ref a_giftDay, .ref a_giftFrom, .ref a_owed, .ref a_said, .ref a_spared, .ref a_leaveGift, .ref a_leaveFrom, .ref a_leaveTo, .ref a_lateDay, .ref a_lateOffice, .ref a_lateBy, .ref a_guests, .ref a_who, .ref a_used, .ref a_lacks, .ref a_candles, .ref a_masses, .ref a_owing, .ref a_heldOn, .ref a_waits, .ref a_tape, .ref a_text, .int 0, .int v_size, .int 0, .int (-1), .int 0, .ref a_statements, .ref a_taken, .ref a_sort, .ref a_first, .ref a_second, .int 0, .int 0]))]) (va_Qv (fun u : Int32 => u = v_size) (BW D [(h, .inr (11, [.int 0, .int 0, .int 0, .int 0, .int 0, .int 0, .int 0, .int 0, .int 0, .ref a_isPriest, .ref a_bars, .ref a_joined, .ref a_turns, .ref a_awayMonk, .ref a_awayFrom, .ref a_awayTo, .ref a_feastDay, .ref a_rank, .ref a_isWeekly, .ref a_isDouble, .ref a_giftDay, .ref a_giftFrom, .ref a_owed, .ref a_said, .ref a_spared, .ref a_leaveGift, .ref a_leaveFrom, .ref a_leaveTo, .ref a_lateDay, .ref a_lateOffice, .ref a_lateBy, .ref a_guests, .ref a_who, .ref a_used, .ref a_lacks, .ref a_candles, .ref a_masses, .ref a_owing, .ref a_heldOn, .ref a_waits, .ref a_tape, .ref a_text, .int 0, .int v_size, .int 0, .int (-1), .int 0, .ref a_statements, .ref a_taken, .ref a_sort, .ref a_first, .ref a_second, .int 0, .int 0]))] sz (fun u : Int32 => [(h, .inr (11, [.int 0, .int 0, .int 0, .int 0, .int 0, .int 0, .int 0, .int 0, .int 0, .ref a_isPriest, .ref a_bars, .ref a_joined, .ref a_turns, .ref a_awayMonk, .ref a_awayFrom, .ref a_awayTo, .ref a_feastDay, .ref a_rank, .ref a_isWeekly, .ref a_isDouble, .ref a_giftDay, .ref a_giftFrom, .ref a_owed, .ref a_said, .ref a_spared, .ref a_leaveGift, .ref a_leaveFrom, .ref a_leaveTo, .ref a_lateDay, .ref a_lateOffice, .ref a_lateBy, .ref a_guests, .ref a_who, .ref a_used, .ref a_lacks, .ref a_candles, .ref a_masses, .ref a_owing, .ref a_heldOn, .ref a_waits, .ref a_tape, .ref a_text, .int 0, .int u, .int 0, .int (-1), .int 0, .ref a_statements, .ref a_taken, .ref a_sort, .ref a_first, .ref a_second, .int 0, .int 0]))])) (va_A [(h, .inr (11, [.int 0, .int 0, .int 0, .int 0, .int 0, .int 0, .int 0, .int 0, .int 0, .ref a_isPriest, .ref a_bars, .ref a_joined, .ref a_turns, .ref a_awayMonk, .ref a_awayFrom, .ref a_awayTo, .ref a_feastDay, .ref a_rank, .ref a_isWeekly, .ref a_isDouble, .ref a_giftDay, .ref a_giftFrom, .ref a_owed, .ref a_said, .ref a_spared, .ref a_leaveGift, .ref a_leaveFrom, .ref a_leaveTo, .ref a_lateDay, .ref a_lateOffice, .ref a_lateBy, .ref a_guests, .ref a_who, .ref a_used, .ref a_lacks, .ref a_candles, .ref a_masses, .ref a_owing, .ref a_heldOn, .ref a_waits, .ref a_tape, .ref a_text, .int 0, .int v_size, .int 0, .int (-1), .int 0, .ref a_statements, .ref a_taken, .ref a_sort, .ref a_first, .ref a_second, .int 0, .int 0]))] sz)) 0 0 (va_A [(h, .inr (11, [.int 0, .int 0, .int 0, .int 0, .int 0, .int 0, .int 0, .int 0, .int 0, .ref a_isPriest, .ref a_bars, .ref a_joined, .ref a_turns, .ref a_awayMonk, .ref a_awayFrom, .ref a_awayTo, .ref a_feastDay, .ref a_rank, .ref a_isWeekly, .ref a_isDouble, .ref a_giftDay, .ref a_giftFrom, .ref a_owed, .ref a_said, .ref a_spared, .ref a_leaveGift, .ref a_leaveFrom, .ref a_leaveTo, .ref a_lateDay, .ref a_lateOffice, .ref a_lateBy, .ref a_guests, .ref a_who, .ref a_used, .ref a_lacks, .ref a_candles, .ref a_masses, .ref a_owing, .ref a_heldOn, .ref a_waits, .ref a_tape, .ref a_text, .int 0, .int v_size, .int 0, .int (-1), .int 0, .ref a_statements, .ref a_taken, .ref a_sort, .ref a_first, .ref a_second, .int 0, .int 0]))] sz) := by
  refine rw_retv (cc := cX12_blanks) (maxL := 1) (own := RX12) (by decide) rfl rfl (Nat.le_of_ble_eq_true rfl) ?_
  intro p e s m args below meth c Q A S hin hret hP hK hD hA hS ls hl
  obtain ⟨hx, hb, hml, hown, hts⟩ := id S
  have hl : lv_has ls 1 [(0, .ref h)] := hl
  have kk0 : (0 : Int32).toInt = 0 := by decide
  have kk1 : (1 : Int32).toInt = 1 := by decide
  have kk10 : (10 : Int32).toInt = 10 := by decide
  have kk32 : (32 : Int32).toInt = 32 := by decide
  have lk0 := hts (.fieldLink RX12 192 "AbbeyHoursModel" "at" "I") (by decide +kernel)
  have lk1 := hts (.fieldLink RX12 195 "AbbeyHoursModel" "size" "I") (by decide +kernel)
  refine lv_aload_n hx hb dX12_blanks_0 rfl (lv_at hl 0 rfl) ?_
  refine va_get (D := D) (ci := 11) (v := .int 0) (C := RX12) (T := TX12) (N := 54) hx hb hts in_m_blanks0_X12 hown hK.1 hP 0 rfl rfl 44 (by decide) lk0 (fun _ h9 => h9) rfl dX12_blanks_1 ?_
  refine lv_aload_n hx hb dX12_blanks_4 rfl (lv_at hl 0 rfl) ?_
  refine va_get (D := D) (ci := 11) (v := .int v_size) (C := RX12) (T := TX12) (N := 54) hx hb hts in_m_blanks0_X12 hown hK.1 hP 0 rfl rfl 43 (by decide) lk1 (fun _ h9 => h9) rfl dX12_blanks_5 ?_
  refine lv_icmp_ge (tgt := 52) hx hb dX12_blanks_8 (by decide) (fun c_1 => ?_) (fun c_1 => ?_)
  · have tc_1 := t_le c_1
    exact hret v_size _ _ _ _ (show v_size = v_size from rfl) (hP.sub [0] rfl) (hD.sub [0] (by decide) rfl) hS dX12_blanks_52
  · have tc_1 := t_nle c_1
    exfalso; omega

theorem in_m_nextFor_X12 : ∀ w ∈ wsX120, w ∈ wsX12_nextFor := by decide +kernel
set_option maxHeartbeats 8000000 in
set_option maxRecDepth 100000 in
theorem m_nextFor {l : Launch} {D : va_G} {cI cZ cB : ClassId} {h a_isPriest a_bars a_joined a_turns a_awayMonk a_awayFrom a_awayTo a_feastDay a_rank a_isWeekly a_isDouble a_giftDay a_giftFrom a_owed a_said a_spared a_leaveGift a_leaveFrom a_leaveTo a_lateDay a_lateOffice a_lateBy a_guests a_who a_used a_lacks a_candles a_masses a_owing a_heldOn a_waits a_tape a_text a_statements a_taken a_sort a_first a_second : Nat} {k d b : Int32}  : Met l yX12_nextFor wsX12_nextFor ({ frames := 0, cells := 0, slots := 0, locals := 0 }) (RO D cI cZ cB [.ref h, .int k, .int d, .int b] [(h, .inr (11, [.int 0, .int 0, .int 0, .int 0, .int 0, .int 0, .int 0, .int 0, .int 0, .ref a_isPriest, .ref a_bars, .ref a_joined, .ref a_turns, .ref a_awayMonk, .ref a_awayFrom, .ref a_awayTo, .ref a_feastDay, .ref a_rank, .ref a_isWeekly, .ref a_isDouble, .ref a_giftDay, .ref a_giftFrom, .ref a_owed, .ref a_said, .ref a_spared, .ref a_leaveGift, .ref a_leaveFrom, .ref a_leaveTo, .ref a_lateDay, .ref a_lateOffice, .ref a_lateBy, .ref a_guests, .ref a_who, .ref a_used, .ref a_lacks, .ref a_candles, .ref a_masses, .ref a_owing, .ref a_heldOn, .ref a_waits, .ref a_tape, .ref a_text, .int 0, .int 0, .int 0, .int (-1), .int 0, .ref a_statements, .ref a_taken, .ref a_sort, .ref a_first, .ref a_second, .int 0, .int 0]))]) (vp_Si (fun r : Int32 => r.toInt = -1)) 0 0 (fun _ => False) := by
  refine ro_ret (cc := cX12_nextFor) (maxL := 6) (ty := .int) (own := RX12) (by decide) rfl rfl (Nat.le_of_ble_eq_true rfl) ?_
  intro p e s m args below meth c Q S hret hP hK ls hl
  obtain ⟨hx, hb, hml, hown, hts⟩ := id S
  have hl : lv_has ls 6 [(0, .ref h), (1, .int k), (2, .int d), (3, .int b)] := hl
  have kkm1 : (-1 : Int32).toInt = -1 := by decide
  have kk0 : (0 : Int32).toInt = 0 := by decide
  have kk1 : (1 : Int32).toInt = 1 := by decide
  have kk4 : (4 : Int32).toInt = 4 := by decide
  have lk0 := hts (.fieldLink RX12 134 "AbbeyHoursModel" "monks" "I") (by decide +kernel)
  refine lv_iconst (v := (-1)) hx hb dX12_nextFor_0 (by decide) ?_
  refine lv_istore (lv' := [(4, .int (-1)), (0, .ref h), (1, .int k), (2, .int d), (3, .int b)]) hx hb dX12_nextFor_1 hl (by decide) rfl (fun ls hl => ?_)
  refine lv_iconst (v := 0) hx hb dX12_nextFor_3 (by decide) ?_
  refine lv_istore (lv' := [(5, .int 0), (4, .int (-1)), (0, .ref h), (1, .int k), (2, .int d), (3, .int b)]) hx hb dX12_nextFor_4 hl (by decide) rfl (fun ls hl => ?_)
  refine lv_iload hx hb dX12_nextFor_6 (lv_at hl 0 rfl) ?_
  refine lv_aload_n hx hb dX12_nextFor_8 rfl (lv_at hl 2 rfl) ?_
  refine va_get (D := D) (ci := 11) (v := .int 0) (C := RX12) (T := TX12) (N := 54) hx hb hts in_m_nextFor_X12 hown hK.1 hP 0 rfl rfl 1 (by decide) lk0 (fun _ h9 => h9) rfl dX12_nextFor_9 ?_
  refine lv_icmp_ge (tgt := 100) hx hb dX12_nextFor_12 (by decide) (fun c_1 => ?_) (fun c_1 => ?_)
  · have tc_1 := t_le c_1
    refine lv_iload hx hb dX12_nextFor_100 (lv_at hl 1 rfl) ?_
    exact hret (-1) _ _ (show (-1 : Int32).toInt = -1 from by omega) rfl dX12_nextFor_102
  · exact absurd c_1 (by decide)

theorem in_m_has_X12 : ∀ w ∈ wsX120, w ∈ wsX12_has := by decide +kernel
set_option maxHeartbeats 8000000 in
set_option maxRecDepth 100000 in
theorem m_has {l : Launch} {D : va_G} {cI cZ cB : ClassId} {sz : Nat} {h a_isPriest a_bars a_joined a_turns a_awayMonk a_awayFrom a_awayTo a_feastDay a_rank a_isWeekly a_isDouble a_giftDay a_giftFrom a_owed a_said a_spared a_leaveGift a_leaveFrom a_leaveTo a_lateDay a_lateOffice a_lateBy a_guests a_who a_used a_lacks a_candles a_masses a_owing a_heldOn a_waits a_tape a_text a_statements a_taken a_sort a_first a_second : Nat} {f_who : Nat → Int32} {i k d : Int32} (hi : i.toInt = -1) (hk0 : 0 ≤ k.toInt) (hk1 : k.toInt < 4) (hd0 : 0 ≤ d.toInt) (hd1 : d.toInt ≤ 1094) : Met l yX12_has wsX12_has ({ frames := 0, cells := 0, slots := 0, locals := 0 }) (RW D cI cZ cB [.ref h, .int i, .int k, .int d] sz [(h, .inr (11, [.int 0, .int 0, .int 0, .int 0, .int 0, .int 0, .int 0, .int 0, .int 0, .ref a_isPriest, .ref a_bars, .ref a_joined, .ref a_turns, .ref a_awayMonk, .ref a_awayFrom, .ref a_awayTo, .ref a_feastDay, .ref a_rank, .ref a_isWeekly, .ref a_isDouble, .ref a_giftDay, .ref a_giftFrom, .ref a_owed, .ref a_said, .ref a_spared, .ref a_leaveGift, .ref a_leaveFrom, .ref a_leaveTo, .ref a_lateDay, .ref a_lateOffice, .ref a_lateBy, .ref a_guests, .ref a_who, .ref a_used, .ref a_lacks, .ref a_candles, .ref a_masses, .ref a_owing, .ref a_heldOn, .ref a_waits, .ref a_tape, .ref a_text, .int 0, .int 0, .int 0, .int (-1), .int 0, .ref a_statements, .ref a_taken, .ref a_sort, .ref a_first, .ref a_second, .int 0, .int 0])), (a_who, .inl (cI, 4380, .inl f_who))]) (va_Qv (fun u : (Nat → Int32) => True) (BW D [(h, .inr (11, [.int 0, .int 0, .int 0, .int 0, .int 0, .int 0, .int 0, .int 0, .int 0, .ref a_isPriest, .ref a_bars, .ref a_joined, .ref a_turns, .ref a_awayMonk, .ref a_awayFrom, .ref a_awayTo, .ref a_feastDay, .ref a_rank, .ref a_isWeekly, .ref a_isDouble, .ref a_giftDay, .ref a_giftFrom, .ref a_owed, .ref a_said, .ref a_spared, .ref a_leaveGift, .ref a_leaveFrom, .ref a_leaveTo, .ref a_lateDay, .ref a_lateOffice, .ref a_lateBy, .ref a_guests, .ref a_who, .ref a_used, .ref a_lacks, .ref a_candles, .ref a_masses, .ref a_owing, .ref a_heldOn, .ref a_waits, .ref a_tape, .ref a_text, .int 0, .int 0, .int 0, .int (-1), .int 0, .ref a_statements, .ref a_taken, .ref a_sort, .ref a_first, .ref a_second, .int 0, .int 0])), (a_who, .inl (cI, 4380, .inl f_who))] sz (fun u : (Nat → Int32) => [(h, .inr (11, [.int 0, .int 0, .int 0, .int 0, .int 0, .int 0, .int 0, .int 0, .int 0, .ref a_isPriest, .ref a_bars, .ref a_joined, .ref a_turns, .ref a_awayMonk, .ref a_awayFrom, .ref a_awayTo, .ref a_feastDay, .ref a_rank, .ref a_isWeekly, .ref a_isDouble, .ref a_giftDay, .ref a_giftFrom, .ref a_owed, .ref a_said, .ref a_spared, .ref a_leaveGift, .ref a_leaveFrom, .ref a_leaveTo, .ref a_lateDay, .ref a_lateOffice, .ref a_lateBy, .ref a_guests, .ref a_who, .ref a_used, .ref a_lacks, .ref a_candles, .ref a_masses, .ref a_owing, .ref a_heldOn, .ref a_waits, .ref a_tape, .ref a_text, .int 0, .int 0, .int 0, .int (-1), .int 0, .ref a_statements, .ref a_taken, .ref a_sort, .ref a_first, .ref a_second, .int 0, .int 0])), (a_who, .inl (cI, 4380, .inl u))])) (va_A [(h, .inr (11, [.int 0, .int 0, .int 0, .int 0, .int 0, .int 0, .int 0, .int 0, .int 0, .ref a_isPriest, .ref a_bars, .ref a_joined, .ref a_turns, .ref a_awayMonk, .ref a_awayFrom, .ref a_awayTo, .ref a_feastDay, .ref a_rank, .ref a_isWeekly, .ref a_isDouble, .ref a_giftDay, .ref a_giftFrom, .ref a_owed, .ref a_said, .ref a_spared, .ref a_leaveGift, .ref a_leaveFrom, .ref a_leaveTo, .ref a_lateDay, .ref a_lateOffice, .ref a_lateBy, .ref a_guests, .ref a_who, .ref a_used, .ref a_lacks, .ref a_candles, .ref a_masses, .ref a_owing, .ref a_heldOn, .ref a_waits, .ref a_tape, .ref a_text, .int 0, .int 0, .int 0, .int (-1), .int 0, .ref a_statements, .ref a_taken, .ref a_sort, .ref a_first, .ref a_second, .int 0, .int 0])), (a_who, .inl (cI, 4380, .inl f_who))] sz)) 0 0 (va_A [(h, .inr (11, [.int 0, .int 0, .int 0, .int 0, .int 0, .int 0, .int 0, .int 0, .int 0, .ref a_isPriest, .ref a_bars, .ref a_joined, .ref a_turns, .ref a_awayMonk, .ref a_awayFrom, .ref a_awayTo, .ref a_feastDay, .ref a_rank, .ref a_isWeekly, .ref a_isDouble, .ref a_giftDay, .ref a_giftFrom, .ref a_owed, .ref a_said, .ref a_spared, .ref a_leaveGift, .ref a_leaveFrom, .ref a_leaveTo, .ref a_lateDay, .ref a_lateOffice, .ref a_lateBy, .ref a_guests, .ref a_who, .ref a_used, .ref a_lacks, .ref a_candles, .ref a_masses, .ref a_owing, .ref a_heldOn, .ref a_waits, .ref a_tape, .ref a_text, .int 0, .int 0, .int 0, .int (-1), .int 0, .ref a_statements, .ref a_taken, .ref a_sort, .ref a_first, .ref a_second, .int 0, .int 0])), (a_who, .inl (cI, 4380, .inl f_who))] sz) := by
  refine rw_retv (cc := cX12_has) (maxL := 4) (own := RX12) (by decide) rfl rfl (Nat.le_of_ble_eq_true rfl) ?_
  intro p e s m args below meth c Q A S hin hret hP hK hD hA hS ls hl
  obtain ⟨hx, hb, hml, hown, hts⟩ := id S
  have hl : lv_has ls 4 [(0, .ref h), (1, .int i), (2, .int k), (3, .int d)] := hl
  have kkm1 : (-1 : Int32).toInt = -1 := by decide
  have kk0 : (0 : Int32).toInt = 0 := by decide
  have kk1 : (1 : Int32).toInt = 1 := by decide
  have kk4 : (4 : Int32).toInt = 4 := by decide
  have lk0 := hts (.fieldLink RX12 80 "AbbeyHoursModel" "who" "[I") (by decide +kernel)
  refine lv_aload_n hx hb dX12_has_0 rfl (lv_at hl 0 rfl) ?_
  refine va_get (D := D) (ci := 11) (v := .ref a_who) (C := RX12) (T := TX12) (N := 54) hx hb hts in_m_has_X12 hown hK.1 hP 0 rfl rfl 32 (by decide) lk0 (fun _ h9 => h9) rfl dX12_has_1 ?_
  refine lv_iconst (v := 4) hx hb dX12_has_4 (by decide) ?_
  refine lv_iload_n hx hb dX12_has_5 rfl (lv_at hl 3 rfl) ?_
  refine lv_imul hx hb dX12_has_6 ?_
  refine lv_topi (fun x_1 ex_1 => ?_)
  first | have tx_1 := t_mulL kk4 ex_1 (by omega) (by omega) | skip
  refine lv_iload_n hx hb dX12_has_7 rfl (lv_at hl 2 rfl) ?_
  refine lv_iadd hx hb dX12_has_8 ?_
  refine lv_topi (fun x_2 ex_2 => ?_)
  first | have tx_2 := t_add ex_2 (by omega) (by omega) | skip
  refine lv_iload_n hx hb dX12_has_9 rfl (lv_at hl 1 rfl) ?_
  refine va_iast hx hb hK.1 hP hD hS 1 0 rfl rfl (t_in (by omega) (by omega)) dX12_has_10 (fun H locs hP hD hS => ?_)
  obtain ⟨g_3, eg_3⟩ : ∃ z : Nat → Int32, z = upd f_who ((x_2 : Int32).toNatClampNeg) i := ⟨_, rfl⟩
  rw [← eg_3] at hP hD
  have hP : va_P D vwCl [(h, .inr (11, [.int 0, .int 0, .int 0, .int 0, .int 0, .int 0, .int 0, .int 0, .int 0, .ref a_isPriest, .ref a_bars, .ref a_joined, .ref a_turns, .ref a_awayMonk, .ref a_awayFrom, .ref a_awayTo, .ref a_feastDay, .ref a_rank, .ref a_isWeekly, .ref a_isDouble, .ref a_giftDay, .ref a_giftFrom, .ref a_owed, .ref a_said, .ref a_spared, .ref a_leaveGift, .ref a_leaveFrom, .ref a_leaveTo, .ref a_lateDay, .ref a_lateOffice, .ref a_lateBy, .ref a_guests, .ref a_who, .ref a_used, .ref a_lacks, .ref a_candles, .ref a_masses, .ref a_owing, .ref a_heldOn, .ref a_waits, .ref a_tape, .ref a_text, .int 0, .int 0, .int 0, .int (-1), .int 0, .ref a_statements, .ref a_taken, .ref a_sort, .ref a_first, .ref a_second, .int 0, .int 0])), (a_who, .inl (cI, 4380, .inl g_3))] H := hP
  have hD : va_D A [(h, .inr (11, [.int 0, .int 0, .int 0, .int 0, .int 0, .int 0, .int 0, .int 0, .int 0, .ref a_isPriest, .ref a_bars, .ref a_joined, .ref a_turns, .ref a_awayMonk, .ref a_awayFrom, .ref a_awayTo, .ref a_feastDay, .ref a_rank, .ref a_isWeekly, .ref a_isDouble, .ref a_giftDay, .ref a_giftFrom, .ref a_owed, .ref a_said, .ref a_spared, .ref a_leaveGift, .ref a_leaveFrom, .ref a_leaveTo, .ref a_lateDay, .ref a_lateOffice, .ref a_lateBy, .ref a_guests, .ref a_who, .ref a_used, .ref a_lacks, .ref a_candles, .ref a_masses, .ref a_owing, .ref a_heldOn, .ref a_waits, .ref a_tape, .ref a_text, .int 0, .int 0, .int 0, .int (-1), .int 0, .ref a_statements, .ref a_taken, .ref a_sort, .ref a_first, .ref a_second, .int 0, .int 0])), (a_who, .inl (cI, 4380, .inl g_3))] := hD
  refine lv_iload_n hx hb dX12_has_11 rfl (lv_at hl 1 rfl) ?_
  refine lv_iconst (v := (-1)) hx hb dX12_has_12 (by decide) ?_
  refine lv_icmp_eq (tgt := 30) hx hb dX12_has_13 (by decide) (fun c_4 => ?_) (fun c_4 => ?_)
  · have tc_4 := t_eq c_4
    exact hret g_3 _ _ _ _ (show True from trivial) (hP.sub [0, 1] rfl) (hD.sub [0, 1] (by decide) rfl) hS dX12_has_30
  · have tc_4 := t_neq c_4
    exfalso; omega

theorem in_m_owes_X12 : ∀ w ∈ wsX120, w ∈ wsX12_owes := by decide +kernel
set_option maxHeartbeats 8000000 in
set_option maxRecDepth 100000 in
theorem m_owes {l : Launch} {D : va_G} {cI cZ cB : ClassId} {sz : Nat} {h a_isPriest a_bars a_joined a_turns a_awayMonk a_awayFrom a_awayTo a_feastDay a_rank a_isWeekly a_isDouble a_giftDay a_giftFrom a_owed a_said a_spared a_leaveGift a_leaveFrom a_leaveTo a_lateDay a_lateOffice a_lateBy a_guests a_who a_used a_lacks a_candles a_masses a_owing a_heldOn a_waits a_tape a_text a_statements a_taken a_sort a_first a_second : Nat} {f_owed : Nat → Int32} {d : Int32}  : Met l yX12_owes wsX12_owes ({ frames := 0, cells := 0, slots := 0, locals := 0 }) (RW D cI cZ cB [.ref h, .int d] sz [(h, .inr (11, [.int 0, .int 0, .int 0, .int 0, .int 0, .int 0, .int 0, .int 0, .int 0, .ref a_isPriest, .ref a_bars, .ref a_joined, .ref a_turns, .ref a_awayMonk, .ref a_awayFrom, .ref a_awayTo, .ref a_feastDay, .ref a_rank, .ref a_isWeekly, .ref a_isDouble, .ref a_giftDay, .ref a_giftFrom, .ref a_owed, .ref a_said, .ref a_spared, .ref a_leaveGift, .ref a_leaveFrom, .ref a_leaveTo, .ref a_lateDay, .ref a_lateOffice, .ref a_lateBy, .ref a_guests, .ref a_who, .ref a_used, .ref a_lacks, .ref a_candles, .ref a_masses, .ref a_owing, .ref a_heldOn, .ref a_waits, .ref a_tape, .ref a_text, .int 0, .int 0, .int 0, .int (-1), .int 0, .ref a_statements, .ref a_taken, .ref a_sort, .ref a_first, .ref a_second, .int 0, .int 0])), (a_owed, .inl (cI, 40, .inl f_owed))]) (va_Qv (fun u : (Nat → Int32) => True) (BW D [(h, .inr (11, [.int 0, .int 0, .int 0, .int 0, .int 0, .int 0, .int 0, .int 0, .int 0, .ref a_isPriest, .ref a_bars, .ref a_joined, .ref a_turns, .ref a_awayMonk, .ref a_awayFrom, .ref a_awayTo, .ref a_feastDay, .ref a_rank, .ref a_isWeekly, .ref a_isDouble, .ref a_giftDay, .ref a_giftFrom, .ref a_owed, .ref a_said, .ref a_spared, .ref a_leaveGift, .ref a_leaveFrom, .ref a_leaveTo, .ref a_lateDay, .ref a_lateOffice, .ref a_lateBy, .ref a_guests, .ref a_who, .ref a_used, .ref a_lacks, .ref a_candles, .ref a_masses, .ref a_owing, .ref a_heldOn, .ref a_waits, .ref a_tape, .ref a_text, .int 0, .int 0, .int 0, .int (-1), .int 0, .ref a_statements, .ref a_taken, .ref a_sort, .ref a_first, .ref a_second, .int 0, .int 0])), (a_owed, .inl (cI, 40, .inl f_owed))] sz (fun u : (Nat → Int32) => [(h, .inr (11, [.int 0, .int 0, .int 0, .int 0, .int 0, .int 0, .int 0, .int 0, .int 0, .ref a_isPriest, .ref a_bars, .ref a_joined, .ref a_turns, .ref a_awayMonk, .ref a_awayFrom, .ref a_awayTo, .ref a_feastDay, .ref a_rank, .ref a_isWeekly, .ref a_isDouble, .ref a_giftDay, .ref a_giftFrom, .ref a_owed, .ref a_said, .ref a_spared, .ref a_leaveGift, .ref a_leaveFrom, .ref a_leaveTo, .ref a_lateDay, .ref a_lateOffice, .ref a_lateBy, .ref a_guests, .ref a_who, .ref a_used, .ref a_lacks, .ref a_candles, .ref a_masses, .ref a_owing, .ref a_heldOn, .ref a_waits, .ref a_tape, .ref a_text, .int 0, .int 0, .int 0, .int (-1), .int 0, .ref a_statements, .ref a_taken, .ref a_sort, .ref a_first, .ref a_second, .int 0, .int 0])), (a_owed, .inl (cI, 40, .inl u))])) (va_A [(h, .inr (11, [.int 0, .int 0, .int 0, .int 0, .int 0, .int 0, .int 0, .int 0, .int 0, .ref a_isPriest, .ref a_bars, .ref a_joined, .ref a_turns, .ref a_awayMonk, .ref a_awayFrom, .ref a_awayTo, .ref a_feastDay, .ref a_rank, .ref a_isWeekly, .ref a_isDouble, .ref a_giftDay, .ref a_giftFrom, .ref a_owed, .ref a_said, .ref a_spared, .ref a_leaveGift, .ref a_leaveFrom, .ref a_leaveTo, .ref a_lateDay, .ref a_lateOffice, .ref a_lateBy, .ref a_guests, .ref a_who, .ref a_used, .ref a_lacks, .ref a_candles, .ref a_masses, .ref a_owing, .ref a_heldOn, .ref a_waits, .ref a_tape, .ref a_text, .int 0, .int 0, .int 0, .int (-1), .int 0, .ref a_statements, .ref a_taken, .ref a_sort, .ref a_first, .ref a_second, .int 0, .int 0])), (a_owed, .inl (cI, 40, .inl f_owed))] sz)) 0 0 (va_A [(h, .inr (11, [.int 0, .int 0, .int 0, .int 0, .int 0, .int 0, .int 0, .int 0, .int 0, .ref a_isPriest, .ref a_bars, .ref a_joined, .ref a_turns, .ref a_awayMonk, .ref a_awayFrom, .ref a_awayTo, .ref a_feastDay, .ref a_rank, .ref a_isWeekly, .ref a_isDouble, .ref a_giftDay, .ref a_giftFrom, .ref a_owed, .ref a_said, .ref a_spared, .ref a_leaveGift, .ref a_leaveFrom, .ref a_leaveTo, .ref a_lateDay, .ref a_lateOffice, .ref a_lateBy, .ref a_guests, .ref a_who, .ref a_used, .ref a_lacks, .ref a_candles, .ref a_masses, .ref a_owing, .ref a_heldOn, .ref a_waits, .ref a_tape, .ref a_text, .int 0, .int 0, .int 0, .int (-1), .int 0, .ref a_statements, .ref a_taken, .ref a_sort, .ref a_first, .ref a_second, .int 0, .int 0])), (a_owed, .inl (cI, 40, .inl f_owed))] sz) := by
  refine rw_retv (cc := cX12_owes) (maxL := 6) (own := RX12) (by decide) rfl rfl (Nat.le_of_ble_eq_true rfl) ?_
  intro p e s m args below meth c Q A S hin hret hP hK hD hA hS ls hl
  obtain ⟨hx, hb, hml, hown, hts⟩ := id S
  have hl : lv_has ls 6 [(0, .ref h), (1, .int d)] := hl
  have kk0 : (0 : Int32).toInt = 0 := by decide
  have kk1 : (1 : Int32).toInt = 1 := by decide
  have kk2 : (2 : Int32).toInt = 2 := by decide
  have kk7 : (7 : Int32).toInt = 7 := by decide
  have kk365 : (365 : Int32).toInt = 365 := by decide
  have lk0 := hts (.fieldLink RX12 137 "AbbeyHoursModel" "gifts" "I") (by decide +kernel)
  refine lv_iconst (v := 0) hx hb dX12_owes_0 (by decide) ?_
  refine lv_istore_n (lv' := [(2, .int 0), (0, .ref h), (1, .int d)]) hx hb dX12_owes_1 rfl hl (by decide) rfl (fun ls hl => ?_)
  refine lv_iload_n hx hb dX12_owes_2 rfl (lv_at hl 0 rfl) ?_
  refine lv_aload_n hx hb dX12_owes_3 rfl (lv_at hl 1 rfl) ?_
  refine va_get (D := D) (ci := 11) (v := .int 0) (C := RX12) (T := TX12) (N := 54) hx hb hts in_m_owes_X12 hown hK.1 hP 0 rfl rfl 4 (by decide) lk0 (fun _ h9 => h9) rfl dX12_owes_4 ?_
  refine lv_icmp_ge (tgt := 180) hx hb dX12_owes_7 (by decide) (fun c_1 => ?_) (fun c_1 => ?_)
  · have tc_1 := t_le c_1
    exact hret f_owed _ _ _ _ (show True from trivial) (hP.sub [0, 1] rfl) (hD.sub [0, 1] (by decide) rfl) hS dX12_owes_180
  · exact absurd c_1 (by decide)
