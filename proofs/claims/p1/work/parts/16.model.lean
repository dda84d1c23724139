theorem in_m_isMonk_X12 : ∀ w ∈ wsX120, w ∈ wsX12_isMonk := by decide +kernel
set_option maxHeartbeats 8000000 in
set_option maxRecDepth 100000 in
theorem m_isMonk {l : Launch} {D : va_G} {cI cZ cB : ClassId} {h a_isPriest a_bars a_joined a_turns a_awayMonk a_awayFrom a_awayTo a_feastDay a_rank a_isWeekly a_isDouble a_giftDay a_giftFrom a_owed a_said a_spared a_leaveGift a_leaveFrom a_leaveTo a_lateDay a_lateOffice a_lateBy a_guests a_who a_used a_lacks a_candles a_masses a_owing a_heldOn a_waits a_tape a_text a_statements a_taken a_sort a_first a_second : Nat} {i : Int32}  : Met l yX12_isMonk wsX12_isMonk ({ frames := 1, cells := 0, slots := 0, locals := 22 }) (RO D cI cZ cB [.ref h, .int i] [(h, .inr (11, [.int 0, .int 0, .int 0, .int 0, .int 0, .int 0, .int 0, .int 0, .int 0, .ref a_isPriest, .ref a_bars, .ref a_joined, .ref a_turns, .ref a_awayMonk, .ref a_awayFrom, .ref a_awayTo, .ref a_feastDay, .ref a_rank, .ref a_isWeekly, .ref a_isDouble, .ref a_giftDay, .ref a_giftFrom, .ref a_owed, .ref a_said, .ref a_spared, .ref a_leaveGift, .ref a_leaveFrom, .ref a_leaveTo, .ref a_lateDay, .ref a_lateOffice, .ref a_lateBy, .ref a_guests, .ref a_who, .ref a_used, .ref a_lacks, .ref a_candles, .ref a_masses, .ref a_owing, .ref a_heldOn, .ref a_waits, .ref a_tape, .ref a_text, .int 0, .int 0, .int 0, .int (-1), .int 0, .ref a_statements, .ref a_taken, .ref a_sort, .ref a_first, .ref a_second, .int 0, .int 0]))]) (vp_Si (fun r : Int32 => r.toInt = 0)) 0 0 (fun _ => False) := by
  refine ro_ret (cc := cX12_isMonk) (maxL := 2) (ty := .boolean) (own := RX12) (by decide) rfl rfl (Nat.le_of_ble_eq_true rfl) ?_
  intro p e s m args below meth c Q S hret hP hK ls hl
  obtain ⟨hx, hb, hml, hown, hts⟩ := id S
  have hl : lv_has ls 2 [(0, .ref h), (1, .int i)] := hl
  have kk0 : (0 : Int32).toInt = 0 := by decide
  have kk1 : (1 : Int32).toInt = 1 := by decide
  have lk0 := hts (.fieldLink RX12 134 "AbbeyHoursModel" "monks" "I") (by decide +kernel)
  refine lv_iload_n hx hb dX12_isMonk_0 rfl (lv_at hl 1 rfl) ?_
  refine lv_iconst (v := 0) hx hb dX12_isMonk_1 (by decide) ?_
  refine lv_aload_n hx hb dX12_isMonk_2 rfl (lv_at hl 0 rfl) ?_
  refine va_get (D := D) (ci := 11) (v := .int 0) (C := RX12) (T := TX12) (N := 54) hx hb hts in_m_isMonk_X12 hown hK.1 hP 0 rfl rfl 1 (by decide) lk0 (fun _ h9 => h9) rfl dX12_isMonk_3 ?_
  refine lv_iconst (v := 1) hx hb dX12_isMonk_6 (by decide) ?_
  refine lv_isub hx hb dX12_isMonk_7 ?_
  refine lv_topi (fun x_1 ex_1 => ?_)
  first | have tx_1 := t_sub ex_1 (by omega) (by omega) | skip
  have hPc := hP.sub (ws' := []) [] rfl
  refine roS (As := [.int i, .int 0, .int x_1]) (rest := []) S (m_isIn  ) (va_cwS 3 hts gX12_isMonk_X12_isIn rfl rfl rfl (by decide +kernel) ⟨Nat.le_of_ble_eq_true rfl, Nat.le_of_ble_eq_true rfl⟩) hK hPc rfl hl.1 rfl (Nat.le_of_ble_eq_true rfl) dX12_isMonk_8 ⟨Nat.le_of_ble_eq_true rfl, Nat.le_of_ble_eq_true rfl⟩ (fun r_2 hw_2 => ?_)
  have hw_2 : (r_2.toInt = 1 ∧ (0 : Int32).toInt ≤ i.toInt ∧ i.toInt ≤ x_1.toInt) ∨ (r_2.toInt = 0 ∧ (i.toInt < (0 : Int32).toInt ∨ x_1.toInt < i.toInt)) := hw_2
  exact hret r_2 _ _ (by omega) (zb (by omega)) dX12_isMonk_11

theorem in_m_isGift_X12 : ∀ w ∈ wsX120, w ∈ wsX12_isGift := by decide +kernel
set_option maxHeartbeats 8000000 in
set_option maxRecDepth 100000 in
theorem m_isGift {l : Launch} {D : va_G} {cI cZ cB : ClassId} {h a_isPriest a_bars a_joined a_turns a_awayMonk a_awayFrom a_awayTo a_feastDay a_rank a_isWeekly a_isDouble a_giftDay a_giftFrom a_owed a_said a_spared a_leaveGift a_leaveFrom a_leaveTo a_lateDay a_lateOffice a_lateBy a_guests a_who a_used a_lacks a_candles a_masses a_owing a_heldOn a_waits a_tape a_text a_statements a_taken a_sort a_first a_second : Nat} {i : Int32}  : Met l yX12_isGift wsX12_isGift ({ frames := 1, cells := 0, slots := 0, locals := 22 }) (RO D cI cZ cB [.ref h, .int i] [(h, .inr (11, [.int 0, .int 0, .int 0, .int 0, .int 0, .int 0, .int 0, .int 0, .int 0, .ref a_isPriest, .ref a_bars, .ref a_joined, .ref a_turns, .ref a_awayMonk, .ref a_awayFrom, .ref a_awayTo, .ref a_feastDay, .ref a_rank, .ref a_isWeekly, .ref a_isDouble, .ref a_giftDay, .ref a_giftFrom, .ref a_owed, .ref a_said, .ref a_spared, .ref a_leaveGift, .ref a_leaveFrom, .ref a_leaveTo, .ref a_lateDay, .ref a_lateOffice, .ref a_lateBy, .ref a_guests, .ref a_who, .ref a_used, .ref a_lacks, .ref a_candles, .ref a_masses, .ref a_owing, .ref a_heldOn, .ref a_waits, .ref a_tape, .ref a_text, .int 0, .int 0, .int 0, .int (-1), .int 0, .ref a_statements, .ref a_taken, .ref a_sort, .ref a_first, .ref a_second, .int 0, .int 0]))]) (vp_Si (fun r : Int32 => r.toInt = 0)) 0 0 (fun _ => False) := by
  refine ro_ret (cc := cX12_isGift) (maxL := 2) (ty := .boolean) (own := RX12) (by decide) rfl rfl (Nat.le_of_ble_eq_true rfl) ?_
  intro p e s m args below meth c Q S hret hP hK ls hl
  obtain ⟨hx, hb, hml, hown, hts⟩ := id S
  have hl : lv_has ls 2 [(0, .ref h), (1, .int i)] := hl
  have kk0 : (0 : Int32).toInt = 0 := by decide
  have kk1 : (1 : Int32).toInt = 1 := by decide
  have lk0 := hts (.fieldLink RX12 137 "AbbeyHoursModel" "gifts" "I") (by decide +kernel)
  refine lv_iload_n hx hb dX12_isGift_0 rfl (lv_at hl 1 rfl) ?_
  refine lv_iconst (v := 0) hx hb dX12_isGift_1 (by decide) ?_
  refine lv_aload_n hx hb dX12_isGift_2 rfl (lv_at hl 0 rfl) ?_
  refine va_get (D := D) (ci := 11) (v := .int 0) (C := RX12) (T := TX12) (N := 54) hx hb hts in_m_isGift_X12 hown hK.1 hP 0 rfl rfl 4 (by decide) lk0 (fun _ h9 => h9) rfl dX12_isGift_3 ?_
  refine lv_iconst (v := 1) hx hb dX12_isGift_6 (by decide) ?_
  refine lv_isub hx hb dX12_isGift_7 ?_
  refine lv_topi (fun x_1 ex_1 => ?_)
  first | have tx_1 := t_sub ex_1 (by omega) (by omega) | skip
  have hPc := hP.sub (ws' := []) [] rfl
  refine roS (As := [.int i, .int 0, .int x_1]) (rest := []) S (m_isIn  ) (va_cwS 3 hts gX12_isGift_X12_isIn rfl rfl rfl (by decide +kernel) ⟨Nat.le_of_ble_eq_true rfl, Nat.le_of_ble_eq_true rfl⟩) hK hPc rfl hl.1 rfl (Nat.le_of_ble_eq_true rfl) dX12_isGift_8 ⟨Nat.le_of_ble_eq_true rfl, Nat.le_of_ble_eq_true rfl⟩ (fun r_2 hw_2 => ?_)
  have hw_2 : (r_2.toInt = 1 ∧ (0 : Int32).toInt ≤ i.toInt ∧ i.toInt ≤ x_1.toInt) ∨ (r_2.toInt = 0 ∧ (i.toInt < (0 : Int32).toInt ∨ x_1.toInt < i.toInt)) := hw_2
  exact hret r_2 _ _ (by omega) (zb (by omega)) dX12_isGift_11

theorem in_m_hasGone_X12 : ∀ w ∈ wsX120, w ∈ wsX12_hasGone := by decide +kernel
set_option maxHeartbeats 8000000 in
set_option maxRecDepth 100000 in
theorem m_hasGone {l : Launch} {D : va_G} {cI cZ cB : ClassId} {h a_isPriest a_bars a_joined a_turns a_awayMonk a_awayFrom a_awayTo a_feastDay a_rank a_isWeekly a_isDouble a_giftDay a_giftFrom a_owed a_said a_spared a_leaveGift a_leaveFrom a_leaveTo a_lateDay a_lateOffice a_lateBy a_guests a_who a_used a_lacks a_candles a_masses a_owing a_heldOn a_waits a_tape a_text a_statements a_taken a_sort a_first a_second : Nat} {i : Int32}  : Met l yX12_hasGone wsX12_hasGone ({ frames := 1, cells := 0, slots := 0, locals := 22 }) (RO D cI cZ cB [.ref h, .int i] [(h, .inr (11, [.int 0, .int 0, .int 0, .int 0, .int 0, .int 0, .int 0, .int 0, .int 0, .ref a_isPriest, .ref a_bars, .ref a_joined, .ref a_turns, .ref a_awayMonk, .ref a_awayFrom, .ref a_awayTo, .ref a_feastDay, .ref a_rank, .ref a_isWeekly, .ref a_isDouble, .ref a_giftDay, .ref a_giftFrom, .ref a_owed, .ref a_said, .ref a_spared, .ref a_leaveGift, .ref a_leaveFrom, .ref a_leaveTo, .ref a_lateDay, .ref a_lateOffice, .ref a_lateBy, .ref a_guests, .ref a_who, .ref a_used, .ref a_lacks, .ref a_candles, .ref a_masses, .ref a_owing, .ref a_heldOn, .ref a_waits, .ref a_tape, .ref a_text, .int 0, .int 0, .int 0, .int (-1), .int 0, .ref a_statements, .ref a_taken, .ref a_sort, .ref a_first, .ref a_second, .int 0, .int 0]))]) (vp_Si (fun r : Int32 => r.toInt = 0)) 0 0 (fun _ => False) := by
  refine ro_ret (cc := cX12_hasGone) (maxL := 2) (ty := .boolean) (own := RX12) (by decide) rfl rfl (Nat.le_of_ble_eq_true rfl) ?_
  intro p e s m args below meth c Q S hret hP hK ls hl
  obtain ⟨hx, hb, hml, hown, hts⟩ := id S
  have hl : lv_has ls 2 [(0, .ref h), (1, .int i)] := hl
  have kk0 : (0 : Int32).toInt = 0 := by decide
  have kk1 : (1 : Int32).toInt = 1 := by decide
  have lk0 := hts (.fieldLink RX12 140 "AbbeyHoursModel" "today" "I") (by decide +kernel)
  refine lv_iload_n hx hb dX12_hasGone_0 rfl (lv_at hl 1 rfl) ?_
  refine lv_iconst (v := 0) hx hb dX12_hasGone_1 (by decide) ?_
  refine lv_aload_n hx hb dX12_hasGone_2 rfl (lv_at hl 0 rfl) ?_
  refine va_get (D := D) (ci := 11) (v := .int 0) (C := RX12) (T := TX12) (N := 54) hx hb hts in_m_hasGone_X12 hown hK.1 hP 0 rfl rfl 0 (by decide) lk0 (fun _ h9 => h9) rfl dX12_hasGone_3 ?_
  refine lv_iconst (v := 1) hx hb dX12_hasGone_6 (by decide) ?_
  refine lv_isub hx hb dX12_hasGone_7 ?_
  refine lv_topi (fun x_1 ex_1 => ?_)
  first | have tx_1 := t_sub ex_1 (by omega) (by omega) | skip
  have hPc := hP.sub (ws' := []) [] rfl
  refine roS (As := [.int i, .int 0, .int x_1]) (rest := []) S (m_isIn  ) (va_cwS 3 hts gX12_hasGone_X12_isIn rfl rfl rfl (by decide +kernel) ⟨Nat.le_of_ble_eq_true rfl, Nat.le_of_ble_eq_true rfl⟩) hK hPc rfl hl.1 rfl (Nat.le_of_ble_eq_true rfl) dX12_hasGone_8 ⟨Nat.le_of_ble_eq_true rfl, Nat.le_of_ble_eq_true rfl⟩ (fun r_2 hw_2 => ?_)
  have hw_2 : (r_2.toInt = 1 ∧ (0 : Int32).toInt ≤ i.toInt ∧ i.toInt ≤ x_1.toInt) ∨ (r_2.toInt = 0 ∧ (i.toInt < (0 : Int32).toInt ∨ x_1.toInt < i.toInt)) := hw_2
  exact hret r_2 _ _ (by omega) (zb (by omega)) dX12_hasGone_11

theorem in_m_holdsAll_X12 : ∀ w ∈ wsX120, w ∈ wsX12_holdsAll := by decide +kernel
set_option maxHeartbeats 8000000 in
set_option maxRecDepth 100000 in
theorem m_holdsAll {l : Launch} {D : va_G} {cI cZ cB : ClassId} {sz : Nat} {h a_isPriest a_bars a_joined a_turns a_awayMonk a_awayFrom a_awayTo a_feastDay a_rank a_isWeekly a_isDouble a_giftDay a_giftFrom a_owed a_said a_spared a_leaveGift a_leaveFrom a_leaveTo a_lateDay a_lateOffice a_lateBy a_guests a_who a_used a_lacks a_candles a_masses a_owing a_heldOn a_waits a_tape a_text a_statements a_taken a_sort a_first a_second : Nat} {f_heldOn : Nat → Int32}   : Met l yX12_holdsAll wsX12_holdsAll ({ frames := 0, cells := 0, slots := 0, locals := 0 }) (RW D cI cZ cB [.ref h] sz [(h, .inr (11, [.int 0, .int 0, .int 0, .int 0, .int 0, .int 0, .int 0, .int 0, .int 0, .ref a_isPriest, .ref a_bars, .ref a_joined, .ref a_turns, .ref a_awayMonk, .ref a_awayFrom, .ref a_awayTo, .ref a_feastDay, .ref a_rank, .ref a_isWeekly, .ref a_isDouble, .ref a_giftDay, .ref a_giftFrom, .ref a_owed, .ref a_said, .ref a_spared, .ref a_leaveGift, .ref a_leaveFrom, .ref a_leaveTo, .ref a_lateDay, .ref a_lateOffice, .ref a_lateBy, .ref a_guests, .ref a_who, .ref a_used, .ref a_lacks, .ref a_candles, .ref a_masses, .ref a_owing, .ref a_heldOn, .ref a_waits, .ref a_tape, .ref a_text, .int 0, .int 0, .int 0, .int (-1), .int 0, .ref a_statements, .ref a_taken, .ref a_sort, .ref a_first, .ref a_second, .int 0, .int 0])), (a_heldOn, .inl (cI, 365, .inl f_heldOn))]) (va_Qv (fun u : Nat → Int32 => InR u 365 (-1) 0) (BW D [(h, .inr (11, [.int 0, .int 0, .int 0, .int 0, .int 0, .int 0, .int 0, .int 0, .int 0, .ref a_isPriest, .ref a_bars, .ref a_joined, .ref a_turns, .ref a_awayMonk, .ref a_awayFrom, .ref a_awayTo, .ref a_feastDay, .ref a_rank, .ref a_isWeekly, .ref a_isDouble, .ref a_giftDay, .ref a_giftFrom, .ref a_owed, .ref a_said, .ref a_spared, .ref a_leaveGift, .ref a_leaveFrom, .ref a_leaveTo, .ref a_lateDay, .ref a_lateOffice, .ref a_lateBy, .ref a_guests, .ref a_who, .ref a_used, .ref a_lacks, .ref a_candles, .ref a_masses, .ref a_owing, .ref a_heldOn, .ref a_waits, .ref a_tape, .ref a_text, .int 0, .int 0, .int 0, .int (-1), .int 0, .ref a_statements, .ref a_taken, .ref a_sort, .ref a_first, .ref a_second, .int 0, .int 0])), (a_heldOn, .inl (cI, 365, .inl f_heldOn))] sz (fun u : Nat → Int32 => [(h, .inr (11, [.int 0, .int 0, .int 0, .int 0, .int 0, .int 0, .int 0, .int 0, .int 0, .ref a_isPriest, .ref a_bars, .ref a_joined, .ref a_turns, .ref a_awayMonk, .ref a_awayFrom, .ref a_awayTo, .ref a_feastDay, .ref a_rank, .ref a_isWeekly, .ref a_isDouble, .ref a_giftDay, .ref a_giftFrom, .ref a_owed, .ref a_said, .ref a_spared, .ref a_leaveGift, .ref a_leaveFrom, .ref a_leaveTo, .ref a_lateDay, .ref a_lateOffice, .ref a_lateBy, .ref a_guests, .ref a_who, .ref a_used, .ref a_lacks, .ref a_candles, .ref a_masses, .ref a_owing, .ref a_heldOn, .ref a_waits, .ref a_tape, .ref a_text, .int 0, .int 0, .int 0, .int (-1), .int 0, .ref a_statements, .ref a_taken, .ref a_sort, .ref a_first, .ref a_second, .int 0, .int 0])), (a_heldOn, .inl (cI, 365, .inl u))])) (va_A [(h, .inr (11, [.int 0, .int 0, .int 0, .int 0, .int 0, .int 0, .int 0, .int 0, .int 0, .ref a_isPriest, .ref a_bars, .ref a_joined, .ref a_turns, .ref a_awayMonk, .ref a_awayFrom, .ref a_awayTo, .ref a_feastDay, .ref a_rank, .ref a_isWeekly, .ref a_isDouble, .ref a_giftDay, .ref a_giftFrom, .ref a_owed, .ref a_said, .ref a_spared, .ref a_leaveGift, .ref a_leaveFrom, .ref a_leaveTo, .ref a_lateDay, .ref a_lateOffice, .ref a_lateBy, .ref a_guests, .ref a_who, .ref a_used, .ref a_lacks, .ref a_candles, .ref a_masses, .ref a_owing, .ref a_heldOn, .ref a_waits, .ref a_tape, .ref a_text, .int 0, .int 0, .int 0, .int (-1), .int 0, .ref a_statements, .ref a_taken, .ref a_sort, .ref a_first, .ref a_second, .int 0, .int 0])), (a_heldOn, .inl (cI, 365, .inl f_heldOn))] sz)) 0 0 (va_A [(h, .inr (11, [.int 0, .int 0, .int 0, .int 0, .int 0, .int 0, .int 0, .int 0, .int 0, .ref a_isPriest, .ref a_bars, .ref a_joined, .ref a_turns, .ref a_awayMonk, .ref a_awayFrom, .ref a_awayTo, .ref a_feastDay, .ref a_rank, .ref a_isWeekly, .ref a_isDouble, .ref a_giftDay, .ref a_giftFrom, .ref a_owed, .ref a_said, .ref a_spared, .ref a_leaveGift, .ref a_leaveFrom, .ref a_leaveTo, .ref a_lateDay, .ref a_lateOffice, .ref a_lateBy, .ref a_guests, .ref a_who, .ref a_used, .ref a_lacks, .ref a_candles, .ref a_masses, .ref a_owing, .ref a_heldOn, .ref a_waits, .ref a_tape, .ref a_text, .int 0, .int 0, .int 0, .int (-1), .int 0, .ref a_statements, .ref a_taken, .ref a_sort, .ref a_first, .ref a_second, .int 0, .int 0])), (a_heldOn, .inl (cI, 365, .inl f_heldOn))] sz) := by
  refine rw_retv (cc := cX12_holdsAll) (maxL := 5) (own := RX12) (by decide) rfl rfl (Nat.le_of_ble_eq_true rfl) ?_
  intro p e s m args below meth c Q A S hin hret hP hK hD hA hS ls hl
  obtain ⟨hx, hb, hml, hown, hts⟩ := id S
  have hl : lv_has ls 5 [(0, .ref h)] := hl
  have kkm1 : (-1 : Int32).toInt = -1 := by decide
  have kk0 : (0 : Int32).toInt = 0 := by decide
  have kk1 : (1 : Int32).toInt = 1 := by decide
  have kk365 : (365 : Int32).toInt = 365 := by decide
  have lk0 := hts (.fieldLink RX12 153 "AbbeyHoursModel" "feasts" "I") (by decide +kernel)
  have lk1 := hts (.fieldLink RX12 98 "AbbeyHoursModel" "heldOn" "[I") (by decide +kernel)
  refine lv_iconst (v := 0) hx hb dX12_holdsAll_0 (by decide) ?_
  refine lv_istore_n (lv' := [(1, .int 0), (0, .ref h)]) hx hb dX12_holdsAll_1 rfl hl (by decide) rfl (fun ls hl => ?_)
  refine lv_iload_n hx hb dX12_holdsAll_2 rfl (lv_at hl 0 rfl) ?_
  refine lv_aload_n hx hb dX12_holdsAll_3 rfl (lv_at hl 1 rfl) ?_
  refine va_get (D := D) (ci := 11) (v := .int 0) (C := RX12) (T := TX12) (N := 54) hx hb hts in_m_holdsAll_X12 hown hK.1 hP 0 rfl rfl 3 (by decide) lk0 (fun _ h9 => h9) rfl dX12_holdsAll_4 ?_
  refine lv_icmp_ge (tgt := 23) hx hb dX12_holdsAll_7 (by decide) (fun c_1 => ?_) (fun c_1 => ?_)
  · have tc_1 := t_le c_1
    refine lv_iconst (v := 0) hx hb dX12_holdsAll_23 (by decide) ?_
    refine lv_istore_n (lv' := [(1, .int 0), (0, .ref h)]) hx hb dX12_holdsAll_24 rfl hl (by decide) rfl (fun ls hl => ?_)
    have loop25 : ∀ (n : Nat) (j : Int32) (fr : Nat → Int32), 365 - j.toInt < (n : Int) → 0 ≤ j.toInt → j.toInt ≤ 365 → InR fr j.toInt (-1) 0 → ∀ (H : Heap) (locs : List Loc), va_P D vwCl [(h, .inr (11, [.int 0, .int 0, .int 0, .int 0, .int 0, .int 0, .int 0, .int 0, .int 0, .ref a_isPriest, .ref a_bars, .ref a_joined, .ref a_turns, .ref a_awayMonk, .ref a_awayFrom, .ref a_awayTo, .ref a_feastDay, .ref a_rank, .ref a_isWeekly, .ref a_isDouble, .ref a_giftDay, .ref a_giftFrom, .ref a_owed, .ref a_said, .ref a_spared, .ref a_leaveGift, .ref a_leaveFrom, .ref a_leaveTo, .ref a_lateDay, .ref a_lateOffice, .ref a_lateBy, .ref a_guests, .ref a_who, .ref a_used, .ref a_lacks, .ref a_candles, .ref a_masses, .ref a_owing, .ref a_heldOn, .ref a_waits, .ref a_tape, .ref a_text, .int 0, .int 0, .int 0, .int (-1), .int 0, .ref a_statements, .ref a_taken, .ref a_sort, .ref a_first, .ref a_second, .int 0, .int 0])), (a_heldOn, .inl (cI, 365, .inl fr))] H → va_D A [(h, .inr (11, [.int 0, .int 0, .int 0, .int 0, .int 0, .int 0, .int 0, .int 0, .int 0, .ref a_isPriest, .ref a_bars, .ref a_joined, .ref a_turns, .ref a_awayMonk, .ref a_awayFrom, .ref a_awayTo, .ref a_feastDay, .ref a_rank, .ref a_isWeekly, .ref a_isDouble, .ref a_giftDay, .ref a_giftFrom, .ref a_owed, .ref a_said, .ref a_spared, .ref a_leaveGift, .ref a_leaveFrom, .ref a_leaveTo, .ref a_lateDay, .ref a_lateOffice, .ref a_lateBy, .ref a_guests, .ref a_who, .ref a_used, .ref a_lacks, .ref a_candles, .ref a_masses, .ref a_owing, .ref a_heldOn, .ref a_waits, .ref a_tape, .ref a_text, .int 0, .int 0, .int 0, .int (-1), .int 0, .ref a_statements, .ref a_taken, .ref a_sort, .ref a_first, .ref a_second, .int 0, .int 0])), (a_heldOn, .inl (cI, 365, .inl fr))] → va_S A s.heap H locs → ∀ ls : Array Slot, lv_has ls 5 [(1, .int j), (0, .ref h)] → W p l e ({ frames := 0, cells := 0, slots := 0, locals := 0 } : Room) s m args below meth c H locs 0 0 Q (F0 m 25 ls []) := by
      intro n
      induction n with
      | zero =>
        intro j fr hmu hj0 hj1 hr H locs hP hD hS ls hl
        exfalso; omega
      | succ n ih25 =>
        intro j fr hmu hj0 hj1 hr H locs hP hD hS ls hl
        refine lv_iload_n hx hb dX12_holdsAll_25 rfl (lv_at hl 0 rfl) ?_
        refine lv_sipush (v := 365) hx hb dX12_holdsAll_26 (by decide) ?_
        refine lv_icmp_ge (tgt := 227) hx hb dX12_holdsAll_29 (by decide) (fun c_2 => ?_) (fun c_2 => ?_)
        · have tc_2 := t_le c_2
          exact hret fr _ _ _ _ (hr.mono (by omega) (by omega) (by omega)) (hP.sub [0, 1] rfl) (hD.sub [0, 1] (by decide) rfl) hS dX12_holdsAll_227
        · have tc_2 := t_nle c_2
          refine lv_iconst (v := (-1)) hx hb dX12_holdsAll_32 (by decide) ?_
          refine lv_istore_n (lv' := [(2, .int (-1)), (1, .int j), (0, .ref h)]) hx hb dX12_holdsAll_33 rfl hl (by decide) rfl (fun ls hl => ?_)
          refine lv_iconst (v := 0) hx hb dX12_holdsAll_34 (by decide) ?_
          refine lv_istore_n (lv' := [(3, .int 0), (2, .int (-1)), (1, .int j), (0, .ref h)]) hx hb dX12_holdsAll_35 rfl hl (by decide) rfl (fun ls hl => ?_)
          refine lv_iload_n hx hb dX12_holdsAll_36 rfl (lv_at hl 0 rfl) ?_
          refine lv_aload_n hx hb dX12_holdsAll_37 rfl (lv_at hl 3 rfl) ?_
          refine va_get (D := D) (ci := 11) (v := .int 0) (C := RX12) (T := TX12) (N := 54) hx hb hts in_m_holdsAll_X12 hown hK.1 hP 0 rfl rfl 3 (by decide) lk0 (fun _ h9 => h9) rfl dX12_holdsAll_38 ?_
          refine lv_icmp_ge (tgt := 153) hx hb dX12_holdsAll_41 (by decide) (fun c_3 => ?_) (fun c_3 => ?_)
          · have tc_3 := t_le c_3
            refine lv_aload_n hx hb dX12_holdsAll_153 rfl (lv_at hl 3 rfl) ?_
            refine va_get (D := D) (ci := 11) (v := .ref a_heldOn) (C := RX12) (T := TX12) (N := 54) hx hb hts in_m_holdsAll_X12 hown hK.1 hP 0 rfl rfl 38 (by decide) lk1 (fun _ h9 => h9) rfl dX12_holdsAll_154 ?_
            refine lv_iload_n hx hb dX12_holdsAll_157 rfl (lv_at hl 2 rfl) ?_
            refine lv_iload_n hx hb dX12_holdsAll_158 rfl (lv_at hl 1 rfl) ?_
            refine va_iast hx hb hK.1 hP hD hS 1 0 rfl rfl (t_in (by omega) (by omega)) dX12_holdsAll_159 (fun H locs hP hD hS => ?_)
            obtain ⟨gh, egh⟩ : ∃ z : Nat → Int32, z = upd fr ((j : Int32).toNatClampNeg) (-1) := ⟨_, rfl⟩
            rw [← egh] at hP hD
            have hP : va_P D vwCl [(h, .inr (11, [.int 0, .int 0, .int 0, .int 0, .int 0, .int 0, .int 0, .int 0, .int 0, .ref a_isPriest, .ref a_bars, .ref a_joined, .ref a_turns, .ref a_awayMonk, .ref a_awayFrom, .ref a_awayTo, .ref a_feastDay, .ref a_rank, .ref a_isWeekly, .ref a_isDouble, .ref a_giftDay, .ref a_giftFrom, .ref a_owed, .ref a_said, .ref a_spared, .ref a_leaveGift, .ref a_leaveFrom, .ref a_leaveTo, .ref a_lateDay, .ref a_lateOffice, .ref a_lateBy, .ref a_guests, .ref a_who, .ref a_used, .ref a_lacks, .ref a_candles, .ref a_masses, .ref a_owing, .ref a_heldOn, .ref a_waits, .ref a_tape, .ref a_text, .int 0, .int 0, .int 0, .int (-1), .int 0, .ref a_statements, .ref a_taken, .ref a_sort, .ref a_first, .ref a_second, .int 0, .int 0])), (a_heldOn, .inl (cI, 365, .inl gh))] H := hP
            have hD : va_D A [(h, .inr (11, [.int 0, .int 0, .int 0, .int 0, .int 0, .int 0, .int 0, .int 0, .int 0, .ref a_isPriest, .ref a_bars, .ref a_joined, .ref a_turns, .ref a_awayMonk, .ref a_awayFrom, .ref a_awayTo, .ref a_feastDay, .ref a_rank, .ref a_isWeekly, .ref a_isDouble, .ref a_giftDay, .ref a_giftFrom, .ref a_owed, .ref a_said, .ref a_spared, .ref a_leaveGift, .ref a_leaveFrom, .ref a_leaveTo, .ref a_lateDay, .ref a_lateOffice, .ref a_lateBy, .ref a_guests, .ref a_who, .ref a_used, .ref a_lacks, .ref a_candles, .ref a_masses, .ref a_owing, .ref a_heldOn, .ref a_waits, .ref a_tape, .ref a_text, .int 0, .int 0, .int 0, .int (-1), .int 0, .ref a_statements, .ref a_taken, .ref a_sort, .ref a_first, .ref a_second, .int 0, .int 0])), (a_heldOn, .inl (cI, 365, .inl gh))] := hD
            refine lv_iconst (v := 0) hx hb dX12_holdsAll_160 (by decide) ?_
            refine lv_istore_n (lv' := [(3, .int 0), (2, .int (-1)), (1, .int j), (0, .ref h)]) hx hb dX12_holdsAll_161 rfl hl (by decide) rfl (fun ls hl => ?_)
            refine lv_iload_n hx hb dX12_holdsAll_162 rfl (lv_at hl 0 rfl) ?_
            refine lv_aload_n hx hb dX12_holdsAll_163 rfl (lv_at hl 3 rfl) ?_
            refine va_get (D := D) (ci := 11) (v := .int 0) (C := RX12) (T := TX12) (N := 54) hx hb hts in_m_holdsAll_X12 hown hK.1 hP 0 rfl rfl 3 (by decide) lk0 (fun _ h9 => h9) rfl dX12_holdsAll_164 ?_
            refine lv_icmp_ge (tgt := 221) hx hb dX12_holdsAll_167 (by decide) (fun c_5 => ?_) (fun c_5 => ?_)
            · have tc_5 := t_le c_5
              obtain ⟨x_6, ex_6⟩ : ∃ y : Int32, y = j + 1 := ⟨_, rfl⟩
              refine lv_iinc (v := x_6) (lv' := [(1, .int x_6), (3, .int 0), (2, .int (-1)), (0, .ref h)]) hx hb dX12_holdsAll_221 hl (k := 2) rfl (by rw [ex_6]; rfl) (by decide) rfl (fun ls hl => ?_)
              first | have tx_6 := t_add ex_6 (by omega) (by omega) | skip
              refine lv_goto (tgt := 25) hx hb dX12_holdsAll_224 (by decide) ?_
              exact ih25 x_6 gh (by omega) (by omega) (by omega) (by rw [egh]; exact hr.ext (by omega) (by omega) (by omega) (by omega)) _ _ hP hD hS ls (lv_sub hl [0, 3] rfl)
            · exact absurd c_5 (by decide)
          · exact absurd c_3 (by decide)
    exact loop25 ((365 - 0.toInt).toNat + 1) 0 f_heldOn (by omega) (by omega) (by omega) (by rw [kk0]; exact InR.zero) _ _ hP hD hS ls (lv_sub hl [0, 1] rfl)
  · exact absurd c_1 (by decide)

theorem in_m_held_X12 : ∀ w ∈ wsX120, w ∈ wsX12_held := by decide +kernel
set_option maxHeartbeats 8000000 in
set_option maxRecDepth 100000 in
theorem m_held {l : Launch} {D : va_G} {cI cZ cB : ClassId} {sz : Nat} {h a_isPriest a_bars a_joined a_turns a_awayMonk a_awayFrom a_awayTo a_feastDay a_rank a_isWeekly a_isDouble a_giftDay a_giftFrom a_owed a_said a_spared a_leaveGift a_leaveFrom a_leaveTo a_lateDay a_lateOffice a_lateBy a_guests a_who a_used a_lacks a_candles a_masses a_owing a_heldOn a_waits a_tape a_text a_statements a_taken a_sort a_first a_second : Nat} {f_heldOn : Nat → Int32} {d : Int32}  : Met l yX12_held wsX12_held ({ frames := 1, cells := 0, slots := 0, locals := 24 }) (RW D cI cZ cB [.ref h, .int d] sz [(h, .inr (11, [.int 0, .int 0, .int 0, .int 0, .int 0, .int 0, .int 0, .int 0, .int 0, .ref a_isPriest, .ref a_bars, .ref a_joined, .ref a_turns, .ref a_awayMonk, .ref a_awayFrom, .ref a_awayTo, .ref a_feastDay, .ref a_rank, .ref a_isWeekly, .ref a_isDouble, .ref a_giftDay, .ref a_giftFrom, .ref a_owed, .ref a_said, .ref a_spared, .ref a_leaveGift, .ref a_leaveFrom, .ref a_leaveTo, .ref a_lateDay, .ref a_lateOffice, .ref a_lateBy, .ref a_guests, .ref a_who, .ref a_used, .ref a_lacks, .ref a_candles, .ref a_masses, .ref a_owing, .ref a_heldOn, .ref a_waits, .ref a_tape, .ref a_text, .int 0, .int 0, .int 0, .int (-1), .int 0, .ref a_statements, .ref a_taken, .ref a_sort, .ref a_first, .ref a_second, .int 0, .int 0])), (a_heldOn, .inl (cI, 365, .inl f_heldOn))]) (va_Qi (fun (r : Int32) (u : Nat → Int32) => r.toInt = -1) (BW D [(h, .inr (11, [.int 0, .int 0, .int 0, .int 0, .int 0, .int 0, .int 0, .int 0, .int 0, .ref a_isPriest, .ref a_bars, .ref a_joined, .ref a_turns, .ref a_awayMonk, .ref a_awayFrom, .ref a_awayTo, .ref a_feastDay, .ref a_rank, .ref a_isWeekly, .ref a_isDouble, .ref a_giftDay, .ref a_giftFrom, .ref a_owed, .ref a_said, .ref a_spared, .ref a_leaveGift, .ref a_leaveFrom, .ref a_leaveTo, .ref a_lateDay, .ref a_lateOffice, .ref a_lateBy, .ref a_guests, .ref a_who, .ref a_used, .ref a_lacks, .ref a_candles, .ref a_masses, .ref a_owing, .ref a_heldOn, .ref a_waits, .ref a_tape, .ref a_text, .int 0, .int 0, .int 0, .int (-1), .int 0, .ref a_statements, .ref a_taken, .ref a_sort, .ref a_first, .ref a_second, .int 0, .int 0])), (a_heldOn, .inl (cI, 365, .inl f_heldOn))] sz (fun u : Nat → Int32 => [(h, .inr (11, [.int 0, .int 0, .int 0, .int 0, .int 0, .int 0, .int 0, .int 0, .int 0, .ref a_isPriest, .ref a_bars, .ref a_joined, .ref a_turns, .ref a_awayMonk, .ref a_awayFrom, .ref a_awayTo, .ref a_feastDay, .ref a_rank, .ref a_isWeekly, .ref a_isDouble, .ref a_giftDay, .ref a_giftFrom, .ref a_owed, .ref a_said, .ref a_spared, .ref a_leaveGift, .ref a_leaveFrom, .ref a_leaveTo, .ref a_lateDay, .ref a_lateOffice, .ref a_lateBy, .ref a_guests, .ref a_who, .ref a_used, .ref a_lacks, .ref a_candles, .ref a_masses, .ref a_owing, .ref a_heldOn, .ref a_waits, .ref a_tape, .ref a_text, .int 0, .int 0, .int 0, .int (-1), .int 0, .ref a_statements, .ref a_taken, .ref a_sort, .ref a_first, .ref a_second, .int 0, .int 0])), (a_heldOn, .inl (cI, 365, .inl u))])) (va_A [(h, .inr (11, [.int 0, .int 0, .int 0, .int 0, .int 0, .int 0, .int 0, .int 0, .int 0, .ref a_isPriest, .ref a_bars, .ref a_joined, .ref a_turns, .ref a_awayMonk, .ref a_awayFrom, .ref a_awayTo, .ref a_feastDay, .ref a_rank, .ref a_isWeekly, .ref a_isDouble, .ref a_giftDay, .ref a_giftFrom, .ref a_owed, .ref a_said, .ref a_spared, .ref a_leaveGift, .ref a_leaveFrom, .ref a_leaveTo, .ref a_lateDay, .ref a_lateOffice, .ref a_lateBy, .ref a_guests, .ref a_who, .ref a_used, .ref a_lacks, .ref a_candles, .ref a_masses, .ref a_owing, .ref a_heldOn, .ref a_waits, .ref a_tape, .ref a_text, .int 0, .int 0, .int 0, .int (-1), .int 0, .ref a_statements, .ref a_taken, .ref a_sort, .ref a_first, .ref a_second, .int 0, .int 0])), (a_heldOn, .inl (cI, 365, .inl f_heldOn))] sz)) 0 0 (va_A [(h, .inr (11, [.int 0, .int 0, .int 0, .int 0, .int 0, .int 0, .int 0, .int 0, .int 0, .ref a_isPriest, .ref a_bars, .ref a_joined, .ref a_turns, .ref a_awayMonk, .ref a_awayFrom, .ref a_awayTo, .ref a_feastDay, .ref a_rank, .ref a_isWeekly, .ref a_isDouble, .ref a_giftDay, .ref a_giftFrom, .ref a_owed, .ref a_said, .ref a_spared, .ref a_leaveGift, .ref a_leaveFrom, .ref a_leaveTo, .ref a_lateDay, .ref a_lateOffice, .ref a_lateBy, .ref a_guests, .ref a_who, .ref a_used, .ref a_lacks, .ref a_candles, .ref a_masses, .ref a_owing, .ref a_heldOn, .ref a_waits, .ref a_tape, .ref a_text, .int 0, .int 0, .int 0, .int (-1), .int 0, .ref a_statements, .ref a_taken, .ref a_sort, .ref a_first, .ref a_second, .int 0, .int 0])), (a_heldOn, .inl (cI, 365, .inl f_heldOn))] sz) := by
  refine rw_ret (cc := cX12_held) (maxL := 2) (ty := .int) (own := RX12) (by decide) rfl rfl (Nat.le_of_ble_eq_true rfl) ?_
  intro p e s m args below meth c Q A S hin hret hP hK hD hA hS ls hl
  obtain ⟨hx, hb, hml, hown, hts⟩ := id S
  have hl : lv_has ls 2 [(0, .ref h), (1, .int d)] := hl
  have kkm1 : (-1 : Int32).toInt = -1 := by decide
  have kk0 : (0 : Int32).toInt = 0 := by decide
  have kk364 : (364 : Int32).toInt = 364 := by decide
  have lk0 := hts (.fieldLink RX12 98 "AbbeyHoursModel" "heldOn" "[I") (by decide +kernel)
  refine lv_iload_n hx hb dX12_held_0 rfl (lv_at hl 1 rfl) ?_
  refine lv_iconst (v := 0) hx hb dX12_held_1 (by decide) ?_
  refine lv_sipush (v := 364) hx hb dX12_held_2 (by decide) ?_
  have hPc := hP.sub (ws' := []) [] rfl
  refine roS (As := [.int d, .int 0, .int 364]) (rest := []) S (m_isIn  ) (va_cwS 3 hts gX12_held_X12_isIn rfl rfl rfl (by decide +kernel) ⟨Nat.le_of_ble_eq_true rfl, Nat.le_of_ble_eq_true rfl⟩) hK hPc rfl hl.1 rfl (Nat.le_of_ble_eq_true rfl) dX12_held_5 ⟨Nat.le_of_ble_eq_true rfl, Nat.le_of_ble_eq_true rfl⟩ (fun r_1 hw_1 => ?_)
  have hw_1 : (r_1.toInt = 1 ∧ (0 : Int32).toInt ≤ d.toInt ∧ d.toInt ≤ (364 : Int32).toInt) ∨ (r_1.toInt = 0 ∧ (d.toInt < (0 : Int32).toInt ∨ (364 : Int32).toInt < d.toInt)) := hw_1
  refine lv_if_ne (tgt := 13) hx hb dX12_held_8 (by decide) (fun c_2 => ?_) (fun c_2 => ?_)
  · have tc_2 := t_ne c_2
    refine lv_aload_n hx hb dX12_held_13 rfl (lv_at hl 0 rfl) ?_
    have hPc := hP.sub (ws' := [(h, .inr (11, [.int 0, .int 0, .int 0, .int 0, .int 0, .int 0, .int 0, .int 0, .int 0, .ref a_isPriest, .ref a_bars, .ref a_joined, .ref a_turns, .ref a_awayMonk, .ref a_awayFrom, .ref a_awayTo, .ref a_feastDay, .ref a_rank, .ref a_isWeekly, .ref a_isDouble, .ref a_giftDay, .ref a_giftFrom, .ref a_owed, .ref a_said, .ref a_spared, .ref a_leaveGift, .ref a_leaveFrom, .ref a_leaveTo, .ref a_lateDay, .ref a_lateOffice, .ref a_lateBy, .ref a_guests, .ref a_who, .ref a_used, .ref a_lacks, .ref a_candles, .ref a_masses, .ref a_owing, .ref a_heldOn, .ref a_waits, .ref a_tape, .ref a_text, .int 0, .int 0, .int 0, .int (-1), .int 0, .ref a_statements, .ref a_taken, .ref a_sort, .ref a_first, .ref a_second, .int 0, .int 0])), (a_heldOn, .inl (cI, 365, .inl f_heldOn))]) [0, 1] rfl
    refine rwVv (As := []) (rest := []) (wc := [(h, .inr (11, [.int 0, .int 0, .int 0, .int 0, .int 0, .int 0, .int 0, .int 0, .int 0, .ref a_isPriest, .ref a_bars, .ref a_joined, .ref a_turns, .ref a_awayMonk, .ref a_awayFrom, .ref a_awayTo, .ref a_feastDay, .ref a_rank, .ref a_isWeekly, .ref a_isDouble, .ref a_giftDay, .ref a_giftFrom, .ref a_owed, .ref a_said, .ref a_spared, .ref a_leaveGift, .ref a_leaveFrom, .ref a_leaveTo, .ref a_lateDay, .ref a_lateOffice, .ref a_lateBy, .ref a_guests, .ref a_who, .ref a_used, .ref a_lacks, .ref a_candles, .ref a_masses, .ref a_owing, .ref a_heldOn, .ref a_waits, .ref a_tape, .ref a_text, .int 0, .int 0, .int 0, .int (-1), .int 0, .ref a_statements, .ref a_taken, .ref a_sort, .ref a_first, .ref a_second, .int 0, .int 0])), (a_heldOn, .inl (cI, 365, .inl f_heldOn))]) (wr := []) S (m_holdsAll  ) (cwV 0 hts gX12_held_X12_holdsAll rfl rfl rfl (by decide +kernel) ⟨Nat.le_of_ble_eq_true rfl, Nat.le_of_ble_eq_true rfl⟩) hK hP hD hS hA [0, 1] [] rfl rfl (by decide) (by decide) (by decide) (va_recv hK.1 hPc (ci := 11) (q0 := 0) rfl rfl) rfl hl.1 rfl (Nat.le_of_ble_eq_true rfl) dX12_held_14 ⟨Nat.le_of_ble_eq_true rfl, Nat.le_of_ble_eq_true rfl⟩ (fun u_ha H locs hw_ha hP hD hS => ?_)
    obtain ⟨g1_ha, rfl⟩ : ∃ z, z = u_ha := ⟨_, rfl⟩
    have hw_ha : InR g1_ha 365 (-1) 0 := hw_ha
    have hP : va_P D vwCl [(h, .inr (11, [.int 0, .int 0, .int 0, .int 0, .int 0, .int 0, .int 0, .int 0, .int 0, .ref a_isPriest, .ref a_bars, .ref a_joined, .ref a_turns, .ref a_awayMonk, .ref a_awayFrom, .ref a_awayTo, .ref a_feastDay, .ref a_rank, .ref a_isWeekly, .ref a_isDouble, .ref a_giftDay, .ref a_giftFrom, .ref a_owed, .ref a_said, .ref a_spared, .ref a_leaveGift, .ref a_leaveFrom, .ref a_leaveTo, .ref a_lateDay, .ref a_lateOffice, .ref a_lateBy, .ref a_guests, .ref a_who, .ref a_used, .ref a_lacks, .ref a_candles, .ref a_masses, .ref a_owing, .ref a_heldOn, .ref a_waits, .ref a_tape, .ref a_text, .int 0, .int 0, .int 0, .int (-1), .int 0, .ref a_statements, .ref a_taken, .ref a_sort, .ref a_first, .ref a_second, .int 0, .int 0])), (a_heldOn, .inl (cI, 365, .inl g1_ha))] H := hP
    have hD : va_D A [(h, .inr (11, [.int 0, .int 0, .int 0, .int 0, .int 0, .int 0, .int 0, .int 0, .int 0, .ref a_isPriest, .ref a_bars, .ref a_joined, .ref a_turns, .ref a_awayMonk, .ref a_awayFrom, .ref a_awayTo, .ref a_feastDay, .ref a_rank, .ref a_isWeekly, .ref a_isDouble, .ref a_giftDay, .ref a_giftFrom, .ref a_owed, .ref a_said, .ref a_spared, .ref a_leaveGift, .ref a_leaveFrom, .ref a_leaveTo, .ref a_lateDay, .ref a_lateOffice, .ref a_lateBy, .ref a_guests, .ref a_who, .ref a_used, .ref a_lacks, .ref a_candles, .ref a_masses, .ref a_owing, .ref a_heldOn, .ref a_waits, .ref a_tape, .ref a_text, .int 0, .int 0, .int 0, .int (-1), .int 0, .ref a_statements, .ref a_taken, .ref a_sort, .ref a_first, .ref a_second, .int 0, .int 0])), (a_heldOn, .inl (cI, 365, .inl g1_ha))] := hD
    refine lv_aload_n hx hb dX12_held_17 rfl (lv_at hl 0 rfl) ?_
    refine va_get (D := D) (ci := 11) (v := .ref a_heldOn) (C := RX12) (T := TX12) (N := 54) hx hb hts in_m_held_X12 hown hK.1 hP 0 rfl rfl 38 (by decide) lk0 (fun _ h9 => h9) rfl dX12_held_18 ?_
    refine lv_iload_n hx hb dX12_held_21 rfl (lv_at hl 1 rfl) ?_
    refine va_iald hx hb hK.1 hP 1 0 rfl rfl (t_in (by omega) (by omega)) dX12_held_22 ?_
    refine lv_topi (fun y ey => ?_)
    have hq := hw_ha.get (i := d) (by omega) (by omega)
    rw [← ey] at hq
    exact hret y g1_ha _ _ _ _ (by omega) rfl (hP.sub [0, 1] rfl) (hD.sub [0, 1] (by decide) rfl) hS dX12_held_23
  · have tc_2 := t_eq c_2
    refine lv_iconst (v := (-1)) hx hb dX12_held_11 (by decide) ?_
    exact hret (-1) f_heldOn _ _ _ _ (by omega) rfl (hP.sub [0, 1] rfl) (hD.sub [0, 1] (by decide) rfl) hS dX12_held_12

theorem in_m_when_X12 : ∀ w ∈ wsX120, w ∈ wsX12_when := by decide +kernel
set_option maxHeartbeats 8000000 in
set_option maxRecDepth 100000 in
theorem m_when {l : Launch} {D : va_G} {cI cZ cB : ClassId} {sz : Nat} {h a_isPriest a_bars a_joined a_turns a_awayMonk a_awayFrom a_awayTo a_feastDay a_rank a_isWeekly a_isDouble a_giftDay a_giftFrom a_owed a_said a_spared a_leaveGift a_leaveFrom a_leaveTo a_lateDay a_lateOffice a_lateBy a_guests a_who a_used a_lacks a_candles a_masses a_owing a_heldOn a_waits a_tape a_text a_statements a_taken a_sort a_first a_second : Nat} {f_heldOn : Nat → Int32} {i : Int32}  : Met l yX12_when wsX12_when ({ frames := 1, cells := 0, slots := 0, locals := 24 }) (RW D cI cZ cB [.ref h, .int i] sz [(h, .inr (11, [.int 0, .int 0, .int 0, .int 0, .int 0, .int 0, .int 0, .int 0, .int 0, .ref a_isPriest, .ref a_bars, .ref a_joined, .ref a_turns, .ref a_awayMonk, .ref a_awayFrom, .ref a_awayTo, .ref a_feastDay, .ref a_rank, .ref a_isWeekly, .ref a_isDouble, .ref a_giftDay, .ref a_giftFrom, .ref a_owed, .ref a_said, .ref a_spared, .ref a_leaveGift, .ref a_leaveFrom, .ref a_leaveTo, .ref a_lateDay, .ref a_lateOffice, .ref a_lateBy, .ref a_guests, .ref a_who, .ref a_used, .ref a_lacks, .ref a_candles, .ref a_masses, .ref a_owing, .ref a_heldOn, .ref a_waits, .ref a_tape, .ref a_text, .int 0, .int 0, .int 0, .int (-1), .int 0, .ref a_statements, .ref a_taken, .ref a_sort, .ref a_first, .ref a_second, .int 0, .int 0])), (a_heldOn, .inl (cI, 365, .inl f_heldOn))]) (va_Qi (fun (r : Int32) (u : Nat → Int32) => r.toInt = -1) (BW D [(h, .inr (11, [.int 0, .int 0, .int 0, .int 0, .int 0, .int 0, .int 0, .int 0, .int 0, .ref a_isPriest, .ref a_bars, .ref a_joined, .ref a_turns, .ref a_awayMonk, .ref a_awayFrom, .ref a_awayTo, .ref a_feastDay, .ref a_rank, .ref a_isWeekly, .ref a_isDouble, .ref a_giftDay, .ref a_giftFrom, .ref a_owed, .ref a_said, .ref a_spared, .ref a_leaveGift, .ref a_leaveFrom, .ref a_leaveTo, .ref a_lateDay, .ref a_lateOffice, .ref a_lateBy, .ref a_guests, .ref a_who, .ref a_used, .ref a_lacks, .ref a_candles, .ref a_masses, .ref a_owing, .ref a_heldOn, .ref a_waits, .ref a_tape, .ref a_text, .int 0, .int 0, .int 0, .int (-1), .int 0, .ref a_statements, .ref a_taken, .ref a_sort, .ref a_first, .ref a_second, .int 0, .int 0])), (a_heldOn, .inl (cI, 365, .inl f_heldOn))] sz (fun u : Nat → Int32 => [(h, .inr (11, [.int 0, .int 0, .int 0, .int 0, .int 0, .int 0, .int 0, .int 0, .int 0, .ref a_isPriest, .ref a_bars, .ref a_joined, .ref a_turns, .ref a_awayMonk, .ref a_awayFrom, .ref a_awayTo, .ref a_feastDay, .ref a_rank, .ref a_isWeekly, .ref a_isDouble, .ref a_giftDay, .ref a_giftFrom, .ref a_owed, .ref a_said, .ref a_spared, .ref a_leaveGift, .ref a_leaveFrom, .ref a_leaveTo, .ref a_lateDay, .ref a_lateOffice, .ref a_lateBy, .ref a_guests, .ref a_who, .ref a_used, .ref a_lacks, .ref a_candles, .ref a_masses, .ref a_owing, .ref a_heldOn, .ref a_waits, .ref a_tape, .ref a_text, .int 0, .int 0, .int 0, .int (-1), .int 0, .ref a_statements, .ref a_taken, .ref a_sort, .ref a_first, .ref a_second, .int 0, .int 0])), (a_heldOn, .inl (cI, 365, .inl u))])) (va_A [(h, .inr (11, [.int 0, .int 0, .int 0, .int 0, .int 0, .int 0, .int 0, .int 0, .int 0, .ref a_isPriest, .ref a_bars, .ref a_joined, .ref a_turns, .ref a_awayMonk, .ref a_awayFrom, .ref a_awayTo, .ref a_feastDay, .ref a_rank, .ref a_isWeekly, .ref a_isDouble, .ref a_giftDay, .ref a_giftFrom, .ref a_owed, .ref a_said, .ref a_spared, .ref a_leaveGift, .ref a_leaveFrom, .ref a_leaveTo, .ref a_lateDay, .ref a_lateOffice, .ref a_lateBy, .ref a_guests, .ref a_who, .ref a_used, .ref a_lacks, .ref a_candles, .ref a_masses, .ref a_owing, .ref a_heldOn, .ref a_waits, .ref a_tape, .ref a_text, .int 0, .int 0, .int 0, .int (-1), .int 0, .ref a_statements, .ref a_taken, .ref a_sort, .ref a_first, .ref a_second, .int 0, .int 0])), (a_heldOn, .inl (cI, 365, .inl f_heldOn))] sz)) 0 0 (va_A [(h, .inr (11, [.int 0, .int 0, .int 0, .int 0, .int 0, .int 0, .int 0, .int 0, .int 0, .ref a_isPriest, .ref a_bars, .ref a_joined, .ref a_turns, .ref a_awayMonk, .ref a_awayFrom, .ref a_awayTo, .ref a_feastDay, .ref a_rank, .ref a_isWeekly, .ref a_isDouble, .ref a_giftDay, .ref a_giftFrom, .ref a_owed, .ref a_said, .ref a_spared, .ref a_leaveGift, .ref a_leaveFrom, .ref a_leaveTo, .ref a_lateDay, .ref a_lateOffice, .ref a_lateBy, .ref a_guests, .ref a_who, .ref a_used, .ref a_lacks, .ref a_candles, .ref a_masses, .ref a_owing, .ref a_heldOn, .ref a_waits, .ref a_tape, .ref a_text, .int 0, .int 0, .int 0, .int (-1), .int 0, .ref a_statements, .ref a_taken, .ref a_sort, .ref a_first, .ref a_second, .int 0, .int 0])), (a_heldOn, .inl (cI, 365, .inl f_heldOn))] sz) := by
  refine rw_ret (cc := cX12_when) (maxL := 3) (ty := .int) (own := RX12) (by decide) rfl rfl (Nat.le_of_ble_eq_true rfl) ?_
  intro p e s m args below meth c Q A S hin hret hP hK hD hA hS ls hl
  obtain ⟨hx, hb, hml, hown, hts⟩ := id S
  have hl : lv_has ls 3 [(0, .ref h), (1, .int i)] := hl
  have kkm1 : (-1 : Int32).toInt = -1 := by decide
  have kk0 : (0 : Int32).toInt = 0 := by decide
  have kk1 : (1 : Int32).toInt = 1 := by decide
  have kk365 : (365 : Int32).toInt = 365 := by decide
  have lk0 := hts (.fieldLink RX12 98 "AbbeyHoursModel" "heldOn" "[I") (by decide +kernel)
  refine lv_aload_n hx hb dX12_when_0 rfl (lv_at hl 0 rfl) ?_
  have hPc := hP.sub (ws' := [(h, .inr (11, [.int 0, .int 0, .int 0, .int 0, .int 0, .int 0, .int 0, .int 0, .int 0, .ref a_isPriest, .ref a_bars, .ref a_joined, .ref a_turns, .ref a_awayMonk, .ref a_awayFrom, .ref a_awayTo, .ref a_feastDay, .ref a_rank, .ref a_isWeekly, .ref a_isDouble, .ref a_giftDay, .ref a_giftFrom, .ref a_owed, .ref a_said, .ref a_spared, .ref a_leaveGift, .ref a_leaveFrom, .ref a_leaveTo, .ref a_lateDay, .ref a_lateOffice, .ref a_lateBy, .ref a_guests, .ref a_who, .ref a_used, .ref a_lacks, .ref a_candles, .ref a_masses, .ref a_owing, .ref a_heldOn, .ref a_waits, .ref a_tape, .ref a_text, .int 0, .int 0, .int 0, .int (-1), .int 0, .ref a_statements, .ref a_taken, .ref a_sort, .ref a_first, .ref a_second, .int 0, .int 0])), (a_heldOn, .inl (cI, 365, .inl f_heldOn))]) [0, 1] rfl
  refine rwVv (As := []) (rest := []) (wc := [(h, .inr (11, [.int 0, .int 0, .int 0, .int 0, .int 0, .int 0, .int 0, .int 0, .int 0, .ref a_isPriest, .ref a_bars, .ref a_joined, .ref a_turns, .ref a_awayMonk, .ref a_awayFrom, .ref a_awayTo, .ref a_feastDay, .ref a_rank, .ref a_isWeekly, .ref a_isDouble, .ref a_giftDay, .ref a_giftFrom, .ref a_owed, .ref a_said, .ref a_spared, .ref a_leaveGift, .ref a_leaveFrom, .ref a_leaveTo, .ref a_lateDay, .ref a_lateOffice, .ref a_lateBy, .ref a_guests, .ref a_who, .ref a_used, .ref a_lacks, .ref a_candles, .ref a_masses, .ref a_owing, .ref a_heldOn, .ref a_waits, .ref a_tape, .ref a_text, .int 0, .int 0, .int 0, .int (-1), .int 0, .ref a_statements, .ref a_taken, .ref a_sort, .ref a_first, .ref a_second, .int 0, .int 0])), (a_heldOn, .inl (cI, 365, .inl f_heldOn))]) (wr := []) S (m_holdsAll  ) (cwV 0 hts gX12_when_X12_holdsAll rfl rfl rfl (by decide +kernel) ⟨Nat.le_of_ble_eq_true rfl, Nat.le_of_ble_eq_true rfl⟩) hK hP hD hS hA [0, 1] [] rfl rfl (by decide) (by decide) (by decide) (va_recv hK.1 hPc (ci := 11) (q0 := 0) rfl rfl) rfl hl.1 rfl (Nat.le_of_ble_eq_true rfl) dX12_when_1 ⟨Nat.le_of_ble_eq_true rfl, Nat.le_of_ble_eq_true rfl⟩ (fun u_ha H locs hw_ha hP hD hS => ?_)
  obtain ⟨g1_ha, rfl⟩ : ∃ z, z = u_ha := ⟨_, rfl⟩
  have hw_ha : InR g1_ha 365 (-1) 0 := hw_ha
  have hP : va_P D vwCl [(h, .inr (11, [.int 0, .int 0, .int 0, .int 0, .int 0, .int 0, .int 0, .int 0, .int 0, .ref a_isPriest, .ref a_bars, .ref a_joined, .ref a_turns, .ref a_awayMonk, .ref a_awayFrom, .ref a_awayTo, .ref a_feastDay, .ref a_rank, .ref a_isWeekly, .ref a_isDouble, .ref a_giftDay, .ref a_giftFrom, .ref a_owed, .ref a_said, .ref a_spared, .ref a_leaveGift, .ref a_leaveFrom, .ref a_leaveTo, .ref a_lateDay, .ref a_lateOffice, .ref a_lateBy, .ref a_guests, .ref a_who, .ref a_used, .ref a_lacks, .ref a_candles, .ref a_masses, .ref a_owing, .ref a_heldOn, .ref a_waits, .ref a_tape, .ref a_text, .int 0, .int 0, .int 0, .int (-1), .int 0, .ref a_statements, .ref a_taken, .ref a_sort, .ref a_first, .ref a_second, .int 0, .int 0])), (a_heldOn, .inl (cI, 365, .inl g1_ha))] H := hP
  have hD : va_D A [(h, .inr (11, [.int 0, .int 0, .int 0, .int 0, .int 0, .int 0, .int 0, .int 0, .int 0, .ref a_isPriest, .ref a_bars, .ref a_joined, .ref a_turns, .ref a_awayMonk, .ref a_awayFrom, .ref a_awayTo, .ref a_feastDay, .ref a_rank, .ref a_isWeekly, .ref a_isDouble, .ref a_giftDay, .ref a_giftFrom, .ref a_owed, .ref a_said, .ref a_spared, .ref a_leaveGift, .ref a_leaveFrom, .ref a_leaveTo, .ref a_lateDay, .ref a_lateOffice, .ref a_lateBy, .ref a_guests, .ref a_who, .ref a_used, .ref a_lacks, .ref a_candles, .ref a_masses, .ref a_owing, .ref a_heldOn, .ref a_waits, .ref a_tape, .ref a_text, .int 0, .int 0, .int 0, .int (-1), .int 0, .ref a_statements, .ref a_taken, .ref a_sort, .ref a_first, .ref a_second, .int 0, .int 0])), (a_heldOn, .inl (cI, 365, .inl g1_ha))] := hD
  refine lv_iconst (v := 0) hx hb dX12_when_4 (by decide) ?_
  refine lv_istore_n (lv' := [(2, .int 0), (0, .ref h), (1, .int i)]) hx hb dX12_when_5 rfl hl (by decide) rfl (fun ls hl => ?_)
  have loop6 : ∀ (n : Nat) (j : Int32), 365 - j.toInt < (n : Int) → 0 ≤ j.toInt → j.toInt ≤ 365 → ∀ (H : Heap) (locs : List Loc), va_P D vwCl [(h, .inr (11, [.int 0, .int 0, .int 0, .int 0, .int 0, .int 0, .int 0, .int 0, .int 0, .ref a_isPriest, .ref a_bars, .ref a_joined, .ref a_turns, .ref a_awayMonk, .ref a_awayFrom, .ref a_awayTo, .ref a_feastDay, .ref a_rank, .ref a_isWeekly, .ref a_isDouble, .ref a_giftDay, .ref a_giftFrom, .ref a_owed, .ref a_said, .ref a_spared, .ref a_leaveGift, .ref a_leaveFrom, .ref a_leaveTo, .ref a_lateDay, .ref a_lateOffice, .ref a_lateBy, .ref a_guests, .ref a_who, .ref a_used, .ref a_lacks, .ref a_candles, .ref a_masses, .ref a_owing, .ref a_heldOn, .ref a_waits, .ref a_tape, .ref a_text, .int 0, .int 0, .int 0, .int (-1), .int 0, .ref a_statements, .ref a_taken, .ref a_sort, .ref a_first, .ref a_second, .int 0, .int 0])), (a_heldOn, .inl (cI, 365, .inl g1_ha))] H → va_D A [(h, .inr (11, [.int 0, .int 0, .int 0, .int 0, .int 0, .int 0, .int 0, .int 0, .int 0, .ref a_isPriest, .ref a_bars, .ref a_joined, .ref a_turns, .ref a_awayMonk, .ref a_awayFrom, .ref a_awayTo, .ref a_feastDay, .ref a_rank, .ref a_isWeekly, .ref a_isDouble, .ref a_giftDay, .ref a_giftFrom, .ref a_owed, .ref a_said, .ref a_spared, .ref a_leaveGift, .ref a_leaveFrom, .ref a_leaveTo, .ref a_lateDay, .ref a_lateOffice, .ref a_lateBy, .ref a_guests, .ref a_who, .ref a_used, .ref a_lacks, .ref a_candles, .ref a_masses, .ref a_owing, .ref a_heldOn, .ref a_waits, .ref a_tape, .ref a_text, .int 0, .int 0, .int 0, .int (-1), .int 0, .ref a_statements, .ref a_taken, .ref a_sort, .ref a_first, .ref a_second, .int 0, .int 0])), (a_heldOn, .inl (cI, 365, .inl g1_ha))] → va_S A s.heap H locs → ∀ ls : Array Slot, lv_has ls 3 [(2, .int j), (0, .ref h), (1, .int i)] → W p l e ({ frames := 1, cells := 0, slots := 0, locals := 24 } : Room) s m args below meth c H locs 0 0 Q (F0 m 6 ls []) := by
    intro n
    induction n with
    | zero =>
      intro j hmu hi0 hi1 H locs hP hD hS ls hl
      exfalso; omega
    | succ n ih6 =>
      intro j hmu hi0 hi1 H locs hP hD hS ls hl
      refine lv_iload_n hx hb dX12_when_6 rfl (lv_at hl 0 rfl) ?_
      refine lv_sipush (v := 365) hx hb dX12_when_7 (by decide) ?_
      refine lv_icmp_ge (tgt := 35) hx hb dX12_when_10 (by decide) (fun c_1 => ?_) (fun c_1 => ?_)
      · have tc_1 := t_le c_1
        refine lv_iconst (v := (-1)) hx hb dX12_when_35 (by decide) ?_
        exact hret (-1) g1_ha _ _ _ _ (by omega) rfl (hP.sub [0, 1] rfl) (hD.sub [0, 1] (by decide) rfl) hS dX12_when_36
      · have tc_1 := t_nle c_1
        refine lv_iload_n hx hb dX12_when_13 rfl (lv_at hl 2 rfl) ?_
        refine lv_if_lt (tgt := 35) hx hb dX12_when_14 (by decide) (fun c_2 => ?_) (fun c_2 => ?_)
        · have tc_2 := t_lt c_2
          refine lv_iconst (v := (-1)) hx hb dX12_when_35 (by decide) ?_
          exact hret (-1) g1_ha _ _ _ _ (by omega) rfl (hP.sub [0, 1] rfl) (hD.sub [0, 1] (by decide) rfl) hS dX12_when_36
        · have tc_2 := t_nlt c_2
          refine lv_aload_n hx hb dX12_when_17 rfl (lv_at hl 1 rfl) ?_
          refine va_get (D := D) (ci := 11) (v := .ref a_heldOn) (C := RX12) (T := TX12) (N := 54) hx hb hts in_m_when_X12 hown hK.1 hP 0 rfl rfl 38 (by decide) lk0 (fun _ h9 => h9) rfl dX12_when_18 ?_
          refine lv_iload_n hx hb dX12_when_21 rfl (lv_at hl 0 rfl) ?_
          refine va_iald hx hb hK.1 hP 1 0 rfl rfl (t_in (by omega) (by omega)) dX12_when_22 ?_
          refine lv_topi (fun y ey => ?_)
          have hq := hw_ha.get (i := j) (by omega) (by omega)
          rw [← ey] at hq
          refine lv_iload_n hx hb dX12_when_23 rfl (lv_at hl 2 rfl) ?_
          refine lv_icmp_ne (tgt := 29) hx hb dX12_when_24 (by decide) (fun c_4 => ?_) (fun c_4 => ?_)
          · have tc_4 := t_ne c_4
            obtain ⟨x_5, ex_5⟩ : ∃ y : Int32, y = j + 1 := ⟨_, rfl⟩
            refine lv_iinc (v := x_5) (lv' := [(2, .int x_5), (0, .ref h), (1, .int i)]) hx hb dX12_when_29 hl (k := 0) rfl (by rw [ex_5]; rfl) (by decide) rfl (fun ls hl => ?_)
            first | have tx_5 := t_add ex_5 (by omega) (by omega) | skip
            refine lv_goto (tgt := 6) hx hb dX12_when_32 (by decide) ?_
            exact ih6 x_5 (by omega) (by omega) (by omega) _ _ hP hD hS ls (lv_sub hl [0, 1, 2] rfl)
          · have tc_4 := t_eq c_4
            exfalso; omega
  exact loop6 ((365 - 0.toInt).toNat + 1) 0 (by omega) (by omega) (by omega) _ _ hP hD hS ls (lv_sub hl [0, 1, 2] rfl)

set_option maxHeartbeats 8000000 in
set_option maxRecDepth 100000 in
theorem m_rankOn {l : Launch} {D : va_G} {cI cZ cB : ClassId} {sz : Nat} {h a_isPriest a_bars a_joined a_turns a_awayMonk a_awayFrom a_awayTo a_feastDay a_rank a_isWeekly a_isDouble a_giftDay a_giftFrom a_owed a_said a_spared a_leaveGift a_leaveFrom a_leaveTo a_lateDay a_lateOffice a_lateBy a_guests a_who a_used a_lacks a_candles a_masses a_owing a_heldOn a_waits a_tape a_text a_statements a_taken a_sort a_first a_second : Nat} {f_heldOn : Nat → Int32} {d : Int32}  : Met l yX12_rankOn wsX12_rankOn ({ frames := 2, cells := 0, slots := 0, locals := 45 }) (RW D cI cZ cB [.ref h, .int d] sz [(h, .inr (11, [.int 0, .int 0, .int 0, .int 0, .int 0, .int 0, .int 0, .int 0, .int 0, .ref a_isPriest, .ref a_bars, .ref a_joined, .ref a_turns, .ref a_awayMonk, .ref a_awayFrom, .ref a_awayTo, .ref a_feastDay, .ref a_rank, .ref a_isWeekly, .ref a_isDouble, .ref a_giftDay, .ref a_giftFrom, .ref a_owed, .ref a_said, .ref a_spared, .ref a_leaveGift, .ref a_leaveFrom, .ref a_leaveTo, .ref a_lateDay, .ref a_lateOffice, .ref a_lateBy, .ref a_guests, .ref a_who, .ref a_used, .ref a_lacks, .ref a_candles, .ref a_masses, .ref a_owing, .ref a_heldOn, .ref a_waits, .ref a_tape, .ref a_text, .int 0, .int 0, .int 0, .int (-1), .int 0, .ref a_statements, .ref a_taken, .ref a_sort, .ref a_first, .ref a_second, .int 0, .int 0])), (a_heldOn, .inl (cI, 365, .inl f_heldOn))]) (va_Qi (fun (r : Int32) (u : Nat → Int32) => r.toInt = 0) (BW D [(h, .inr (11, [.int 0, .int 0, .int 0, .int 0, .int 0, .int 0, .int 0, .int 0, .int 0, .ref a_isPriest, .ref a_bars, .ref a_joined, .ref a_turns, .ref a_awayMonk, .ref a_awayFrom, .ref a_awayTo, .ref a_feastDay, .ref a_rank, .ref a_isWeekly, .ref a_isDouble, .ref a_giftDay, .ref a_giftFrom, .ref a_owed, .ref a_said, .ref a_spared, .ref a_leaveGift, .ref a_leaveFrom, .ref a_leaveTo, .ref a_lateDay, .ref a_lateOffice, .ref a_lateBy, .ref a_guests, .ref a_who, .ref a_used, .ref a_lacks, .ref a_candles, .ref a_masses, .ref a_owing, .ref a_heldOn, .ref a_waits, .ref a_tape, .ref a_text, .int 0, .int 0, .int 0, .int (-1), .int 0, .ref a_statements, .ref a_taken, .ref a_sort, .ref a_first, .ref a_second, .int 0, .int 0])), (a_heldOn, .inl (cI, 365, .inl f_heldOn))] sz (fun u : Nat → Int32 => [(h, .inr (11, [.int 0, .int 0, .int 0, .int 0, .int 0, .int 0, .int 0, .int 0, .int 0, .ref a_isPriest, .ref a_bars, .ref a_joined, .ref a_turns, .ref a_awayMonk, .ref a_awayFrom, .ref a_awayTo, .ref a_feastDay, .ref a_rank, .ref a_isWeekly, .ref a_isDouble, .ref a_giftDay, .ref a_giftFrom, .ref a_owed, .ref a_said, .ref a_spared, .ref a_leaveGift, .ref a_leaveFrom, .ref a_leaveTo, .ref a_lateDay, .ref a_lateOffice, .ref a_lateBy, .ref a_guests, .ref a_who, .ref a_used, .ref a_lacks, .ref a_candles, .ref a_masses, .ref a_owing, .ref a_heldOn, .ref a_waits, .ref a_tape, .ref a_text, .int 0, .int 0, .int 0, .int (-1), .int 0, .ref a_statements, .ref a_taken, .ref a_sort, .ref a_first, .ref a_second, .int 0, .int 0])), (a_heldOn, .inl (cI, 365, .inl u))])) (va_A [(h, .inr (11, [.int 0, .int 0, .int 0, .int 0, .int 0, .int 0, .int 0, .int 0, .int 0, .ref a_isPriest, .ref a_bars, .ref a_joined, .ref a_turns, .ref a_awayMonk, .ref a_awayFrom, .ref a_awayTo, .ref a_feastDay, .ref a_rank, .ref a_isWeekly, .ref a_isDouble, .ref a_giftDay, .ref a_giftFrom, .ref a_owed, .ref a_said, .ref a_spared, .ref a_leaveGift, .ref a_leaveFrom, .ref a_leaveTo, .ref a_lateDay, .ref a_lateOffice, .ref a_lateBy, .ref a_guests, .ref a_who, .ref a_used, .ref a_lacks, .ref a_candles, .ref a_masses, .ref a_owing, .ref a_heldOn, .ref a_waits, .ref a_tape, .ref a_text, .int 0, .int 0, .int 0, .int (-1), .int 0, .ref a_statements, .ref a_taken, .ref a_sort, .ref a_first, .ref a_second, .int 0, .int 0])), (a_heldOn, .inl (cI, 365, .inl f_heldOn))] sz)) 0 0 (va_A [(h, .inr (11, [.int 0, .int 0, .int 0, .int 0, .int 0, .int 0, .int 0, .int 0, .int 0, .ref a_isPriest, .ref a_bars, .ref a_joined, .ref a_turns, .ref a_awayMonk, .ref a_awayFrom, .ref a_awayTo, .ref a_feastDay, .ref a_rank, .ref a_isWeekly, .ref a_isDouble, .ref a_giftDay, .ref a_giftFrom, .ref a_owed, .ref a_said, .ref a_spared, .ref a_leaveGift, .ref a_leaveFrom, .ref a_leaveTo, .ref a_lateDay, .ref a_lateOffice, .ref a_lateBy, .ref a_guests, .ref a_who, .ref a_used, .ref a_lacks, .ref a_candles, .ref a_masses, .ref a_owing, .ref a_heldOn, .ref a_waits, .ref a_tape, .ref a_text, .int 0, .int 0, .int 0, .int (-1), .int 0, .ref a_statements, .ref a_taken, .ref a_sort, .ref a_first, .ref a_second, .int 0, .int 0])), (a_heldOn, .inl (cI, 365, .inl f_heldOn))] sz) := by
  refine rw_ret (cc := cX12_rankOn) (maxL := 3) (ty := .int) (own := RX12) (by decide) rfl rfl (Nat.le_of_ble_eq_true rfl) ?_
  intro p e s m args below meth c Q A S hin hret hP hK hD hA hS ls hl
  obtain ⟨hx, hb, hml, hown, hts⟩ := id S
  have hl : lv_has ls 3 [(0, .ref h), (1, .int d)] := hl
  have kkm1 : (-1 : Int32).toInt = -1 := by decide
  have kk0 : (0 : Int32).toInt = 0 := by decide
  have kk365 : (365 : Int32).toInt = 365 := by decide
  refine lv_aload_n hx hb dX12_rankOn_0 rfl (lv_at hl 0 rfl) ?_
  refine lv_iload_n hx hb dX12_rankOn_1 rfl (lv_at hl 1 rfl) ?_
  refine lv_sipush (v := 365) hx hb dX12_rankOn_2 (by decide) ?_
  refine lv_irem hx hb dX12_rankOn_5 (by decide) ?_
  refine lv_topi (fun x_1 ex_1 => ?_)
  have hPc := hP.sub (ws' := [(h, .inr (11, [.int 0, .int 0, .int 0, .int 0, .int 0, .int 0, .int 0, .int 0, .int 0, .ref a_isPriest, .ref a_bars, .ref a_joined, .ref a_turns, .ref a_awayMonk, .ref a_awayFrom, .ref a_awayTo, .ref a_feastDay, .ref a_rank, .ref a_isWeekly, .ref a_isDouble, .ref a_giftDay, .ref a_giftFrom, .ref a_owed, .ref a_said, .ref a_spared, .ref a_leaveGift, .ref a_leaveFrom, .ref a_leaveTo, .ref a_lateDay, .ref a_lateOffice, .ref a_lateBy, .ref a_guests, .ref a_who, .ref a_used, .ref a_lacks, .ref a_candles, .ref a_masses, .ref a_owing, .ref a_heldOn, .ref a_waits, .ref a_tape, .ref a_text, .int 0, .int 0, .int 0, .int (-1), .int 0, .ref a_statements, .ref a_taken, .ref a_sort, .ref a_first, .ref a_second, .int 0, .int 0])), (a_heldOn, .inl (cI, 365, .inl f_heldOn))]) [0, 1] rfl
  refine rwV (As := [.int x_1]) (rest := []) (wc := [(h, .inr (11, [.int 0, .int 0, .int 0, .int 0, .int 0, .int 0, .int 0, .int 0, .int 0, .ref a_isPriest, .ref a_bars, .ref a_joined, .ref a_turns, .ref a_awayMonk, .ref a_awayFrom, .ref a_awayTo, .ref a_feastDay, .ref a_rank, .ref a_isWeekly, .ref a_isDouble, .ref a_giftDay, .ref a_giftFrom, .ref a_owed, .ref a_said, .ref a_spared, .ref a_leaveGift, .ref a_leaveFrom, .ref a_leaveTo, .ref a_lateDay, .ref a_lateOffice, .ref a_lateBy, .ref a_guests, .ref a_who, .ref a_used, .ref a_lacks, .ref a_candles, .ref a_masses, .ref a_owing, .ref a_heldOn, .ref a_waits, .ref a_tape, .ref a_text, .int 0, .int 0, .int 0, .int (-1), .int 0, .ref a_statements, .ref a_taken, .ref a_sort, .ref a_first, .ref a_second, .int 0, .int 0])), (a_heldOn, .inl (cI, 365, .inl f_heldOn))]) (wr := []) S (m_held  ) (cwV 1 hts gX12_rankOn_X12_held rfl rfl rfl (by decide +kernel) ⟨Nat.le_of_ble_eq_true rfl, Nat.le_of_ble_eq_true rfl⟩) hK hP hD hS hA [0, 1] [] rfl rfl (by decide) (by decide) (by decide) (va_recv hK.1 hPc (ci := 11) (q0 := 0) rfl rfl) rfl hl.1 rfl (Nat.le_of_ble_eq_true rfl) dX12_rankOn_6 ⟨Nat.le_of_ble_eq_true rfl, Nat.le_of_ble_eq_true rfl⟩ (fun r_2 u_2 H locs hw_2 hP hD hS => ?_)
  obtain ⟨g1_2, rfl⟩ : ∃ z, z = u_2 := ⟨_, rfl⟩
  have hw_2 : r_2.toInt = -1 := hw_2
  have hP : va_P D vwCl [(h, .inr (11, [.int 0, .int 0, .int 0, .int 0, .int 0, .int 0, .int 0, .int 0, .int 0, .ref a_isPriest, .ref a_bars, .ref a_joined, .ref a_turns, .ref a_awayMonk, .ref a_awayFrom, .ref a_awayTo, .ref a_feastDay, .ref a_rank, .ref a_isWeekly, .ref a_isDouble, .ref a_giftDay, .ref a_giftFrom, .ref a_owed, .ref a_said, .ref a_spared, .ref a_leaveGift, .ref a_leaveFrom, .ref a_leaveTo, .ref a_lateDay, .ref a_lateOffice, .ref a_lateBy, .ref a_guests, .ref a_who, .ref a_used, .ref a_lacks, .ref a_candles, .ref a_masses, .ref a_owing, .ref a_heldOn, .ref a_waits, .ref a_tape, .ref a_text, .int 0, .int 0, .int 0, .int (-1), .int 0, .ref a_statements, .ref a_taken, .ref a_sort, .ref a_first, .ref a_second, .int 0, .int 0])), (a_heldOn, .inl (cI, 365, .inl g1_2))] H := hP
  have hD : va_D A [(h, .inr (11, [.int 0, .int 0, .int 0, .int 0, .int 0, .int 0, .int 0, .int 0, .int 0, .ref a_isPriest, .ref a_bars, .ref a_joined, .ref a_turns, .ref a_awayMonk, .ref a_awayFrom, .ref a_awayTo, .ref a_feastDay, .ref a_rank, .ref a_isWeekly, .ref a_isDouble, .ref a_giftDay, .ref a_giftFrom, .ref a_owed, .ref a_said, .ref a_spared, .ref a_leaveGift, .ref a_leaveFrom, .ref a_leaveTo, .ref a_lateDay, .ref a_lateOffice, .ref a_lateBy, .ref a_guests, .ref a_who, .ref a_used, .ref a_lacks, .ref a_candles, .ref a_masses, .ref a_owing, .ref a_heldOn, .ref a_waits, .ref a_tape, .ref a_text, .int 0, .int 0, .int 0, .int (-1), .int 0, .ref a_statements, .ref a_taken, .ref a_sort, .ref a_first, .ref a_second, .int 0, .int 0])), (a_heldOn, .inl (cI, 365, .inl g1_2))] := hD
  refine lv_istore_n (lv' := [(2, .int r_2), (0, .ref h), (1, .int d)]) hx hb dX12_rankOn_9 rfl hl (by decide) rfl (fun ls hl => ?_)
  refine lv_iload_n hx hb dX12_rankOn_10 rfl (lv_at hl 0 rfl) ?_
  refine lv_iconst (v := (-1)) hx hb dX12_rankOn_11 (by decide) ?_
  refine lv_icmp_ne (tgt := 19) hx hb dX12_rankOn_12 (by decide) (fun c_3 => ?_) (fun c_3 => ?_)
  · have tc_3 := t_ne c_3
    exfalso; omega
  · have tc_3 := t_eq c_3
    refine lv_iconst (v := 0) hx hb dX12_rankOn_15 (by decide) ?_
    refine lv_goto (tgt := 25) hx hb dX12_rankOn_16 (by decide) ?_
    exact hret 0 g1_2 _ _ _ _ (by omega) rfl (hP.sub [0, 1] rfl) (hD.sub [0, 1] (by decide) rfl) hS dX12_rankOn_25

theorem in_m_lateRow_X12 : ∀ w ∈ wsX120, w ∈ wsX12_lateRow := by decide +kernel
set_option maxHeartbeats 8000000 in
set_option maxRecDepth 100000 in
theorem m_lateRow {l : Launch} {D : va_G} {cI cZ cB : ClassId} {h a_isPriest a_bars a_joined a_turns a_awayMonk a_awayFrom a_awayTo a_feastDay a_rank a_isWeekly a_isDouble a_giftDay a_giftFrom a_owed a_said a_spared a_leaveGift a_leaveFrom a_leaveTo a_lateDay a_lateOffice a_lateBy a_guests a_who a_used a_lacks a_candles a_masses a_owing a_heldOn a_waits a_tape a_text a_statements a_taken a_sort a_first a_second : Nat} {d k : Int32}  : Met l yX12_lateRow wsX12_lateRow ({ frames := 0, cells := 0, slots := 0, locals := 0 }) (RO D cI cZ cB [.ref h, .int d, .int k] [(h, .inr (11, [.int 0, .int 0, .int 0, .int 0, .int 0, .int 0, .int 0, .int 0, .int 0, .ref a_isPriest, .ref a_bars, .ref a_joined, .ref a_turns, .ref a_awayMonk, .ref a_awayFrom, .ref a_awayTo, .ref a_feastDay, .ref a_rank, .ref a_isWeekly, .ref a_isDouble, .ref a_giftDay, .ref a_giftFrom, .ref a_owed, .ref a_said, .ref a_spared, .ref a_leaveGift, .ref a_leaveFrom, .ref a_leaveTo, .ref a_lateDay, .ref a_lateOffice, .ref a_lateBy, .ref a_guests, .ref a_who, .ref a_used, .ref a_lacks, .ref a_candles, .ref a_masses, .ref a_owing, .ref a_heldOn, .ref a_waits, .ref a_tape, .ref a_text, .int 0, .int 0, .int 0, .int (-1), .int 0, .ref a_statements, .ref a_taken, .ref a_sort, .ref a_first, .ref a_second, .int 0, .int 0]))]) (vp_Si (fun r : Int32 => r.toInt = -1)) 0 0 (fun _ => False) := by
  refine ro_ret (cc := cX12_lateRow) (maxL := 4) (ty := .int) (own := RX12) (by decide) rfl rfl (Nat.le_of_ble_eq_true rfl) ?_
  intro p e s m args below meth c Q S hret hP hK ls hl
  obtain ⟨hx, hb, hml, hown, hts⟩ := id S
  have hl : lv_has ls 4 [(0, .ref h), (1, .int d), (2, .int k)] := hl
  have kkm1 : (-1 : Int32).toInt = -1 := by decide
  have kk0 : (0 : Int32).toInt = 0 := by decide
  have kk1 : (1 : Int32).toInt = 1 := by decide
  have lk0 := hts (.fieldLink RX12 172 "AbbeyHoursModel" "lates" "I") (by decide +kernel)
  refine lv_iconst (v := 0) hx hb dX12_lateRow_0 (by decide) ?_
  refine lv_istore_n (lv' := [(3, .int 0), (0, .ref h), (1, .int d), (2, .int k)]) hx hb dX12_lateRow_1 rfl hl (by decide) rfl (fun ls hl => ?_)
  refine lv_iload_n hx hb dX12_lateRow_2 rfl (lv_at hl 0 rfl) ?_
  refine lv_aload_n hx hb dX12_lateRow_3 rfl (lv_at hl 1 rfl) ?_
  refine va_get (D := D) (ci := 11) (v := .int 0) (C := RX12) (T := TX12) (N := 54) hx hb hts in_m_lateRow_X12 hown hK.1 hP 0 rfl rfl 6 (by decide) lk0 (fun _ h9 => h9) rfl dX12_lateRow_4 ?_
  refine lv_icmp_ge (tgt := 38) hx hb dX12_lateRow_7 (by decide) (fun c_1 => ?_) (fun c_1 => ?_)
  · have tc_1 := t_le c_1
    refine lv_iconst (v := (-1)) hx hb dX12_lateRow_38 (by decide) ?_
    exact hret (-1) _ _ (by omega) rfl dX12_lateRow_39
  · exact absurd c_1 (by decide)

set_option maxHeartbeats 8000000 in
set_option maxRecDepth 100000 in
theorem m_begins {l : Launch} {D : va_G} {cI cZ cB : ClassId} {h a_isPriest a_bars a_joined a_turns a_awayMonk a_awayFrom a_awayTo a_feastDay a_rank a_isWeekly a_isDouble a_giftDay a_giftFrom a_owed a_said a_spared a_leaveGift a_leaveFrom a_leaveTo a_lateDay a_lateOffice a_lateBy a_guests a_who a_used a_lacks a_candles a_masses a_owing a_heldOn a_waits a_tape a_text a_statements a_taken a_sort a_first a_second : Nat} {d k : Int32}  : Met l yX12_begins wsX12_begins ({ frames := 4, cells := 0, slots := 0, locals := 84 }) (RO D cI cZ cB [.ref h, .int d, .int k] [(h, .inr (11, [.int 0, .int 0, .int 0, .int 0, .int 0, .int 0, .int 0, .int 0, .int 0, .ref a_isPriest, .ref a_bars, .ref a_joined, .ref a_turns, .ref a_awayMonk, .ref a_awayFrom, .ref a_awayTo, .ref a_feastDay, .ref a_rank, .ref a_isWeekly, .ref a_isDouble, .ref a_giftDay, .ref a_giftFrom, .ref a_owed, .ref a_said, .ref a_spared, .ref a_leaveGift, .ref a_leaveFrom, .ref a_leaveTo, .ref a_lateDay, .ref a_lateOffice, .ref a_lateBy, .ref a_guests, .ref a_who, .ref a_used, .ref a_lacks, .ref a_candles, .ref a_masses, .ref a_owing, .ref a_heldOn, .ref a_waits, .ref a_tape, .ref a_text, .int 0, .int 0, .int 0, .int (-1), .int 0, .ref a_statements, .ref a_taken, .ref a_sort, .ref a_first, .ref a_second, .int 0, .int 0]))]) (vp_Si (fun r : Int32 => r = sunP (rem365 d) k)) 0 0 (fun _ => False) := by
  refine ro_ret (cc := cX12_begins) (maxL := 4) (ty := .int) (own := RX12) (by decide) rfl rfl (Nat.le_of_ble_eq_true rfl) ?_
  intro p e s m args below meth c Q S hret hP hK ls hl
  obtain ⟨hx, hb, hml, hown, hts⟩ := id S
  have hl : lv_has ls 4 [(0, .ref h), (1, .int d), (2, .int k)] := hl
  have kkm1 : (-1 : Int32).toInt = -1 := by decide
  have kk0 : (0 : Int32).toInt = 0 := by decide
  refine lv_aload_n hx hb dX12_begins_0 rfl (lv_at hl 0 rfl) ?_
  refine lv_iload_n hx hb dX12_begins_1 rfl (lv_at hl 1 rfl) ?_
  refine lv_iload_n hx hb dX12_begins_2 rfl (lv_at hl 2 rfl) ?_
  have hPc := hP.sub (ws' := [(h, .inr (11, [.int 0, .int 0, .int 0, .int 0, .int 0, .int 0, .int 0, .int 0, .int 0, .ref a_isPriest, .ref a_bars, .ref a_joined, .ref a_turns, .ref a_awayMonk, .ref a_awayFrom, .ref a_awayTo, .ref a_feastDay, .ref a_rank, .ref a_isWeekly, .ref a_isDouble, .ref a_giftDay, .ref a_giftFrom, .ref a_owed, .ref a_said, .ref a_spared, .ref a_leaveGift, .ref a_leaveFrom, .ref a_leaveTo, .ref a_lateDay, .ref a_lateOffice, .ref a_lateBy, .ref a_guests, .ref a_who, .ref a_used, .ref a_lacks, .ref a_candles, .ref a_masses, .ref a_owing, .ref a_heldOn, .ref a_waits, .ref a_tape, .ref a_text, .int 0, .int 0, .int 0, .int (-1), .int 0, .ref a_statements, .ref a_taken, .ref a_sort, .ref a_first, .ref a_second, .int 0, .int 0]))]) [0] rfl
  refine roV (As := [.int d, .int k]) (rest := []) S (m_lateRow  ) (cwV 2 hts gX12_begins_X12_lateRow rfl rfl rfl (by decide +kernel) ⟨Nat.le_of_ble_eq_true rfl, Nat.le_of_ble_eq_true rfl⟩) hK hPc (va_recv hK.1 hPc (ci := 11) (q0 := 0) rfl rfl) rfl hl.1 rfl (Nat.le_of_ble_eq_true rfl) dX12_begins_3 ⟨Nat.le_of_ble_eq_true rfl, Nat.le_of_ble_eq_true rfl⟩ (fun r_1 hw_1 => ?_)
  have hw_1 : r_1.toInt = -1 := hw_1
  refine lv_istore_n (lv' := [(3, .int r_1), (0, .ref h), (1, .int d), (2, .int k)]) hx hb dX12_begins_6 rfl hl (by decide) rfl (fun ls hl => ?_)
  refine lv_iload_n hx hb dX12_begins_7 rfl (lv_at hl 2 rfl) ?_
  refine lv_iload_n hx hb dX12_begins_8 rfl (lv_at hl 3 rfl) ?_
  have hPc := hP.sub (ws' := []) [] rfl
  refine roS (As := [.int d, .int k]) (rest := []) S (m_plain  ) (va_cwS 2 hts gX12_begins_X12_plain rfl rfl rfl (by decide +kernel) ⟨Nat.le_of_ble_eq_true rfl, Nat.le_of_ble_eq_true rfl⟩) hK hPc rfl hl.1 rfl (Nat.le_of_ble_eq_true rfl) dX12_begins_9 ⟨Nat.le_of_ble_eq_true rfl, Nat.le_of_ble_eq_true rfl⟩ (fun r_pl hw_pl => ?_)
  have hw_pl : r_pl = sunP (rem365 d) k := hw_pl
  refine lv_iload_n hx hb dX12_begins_12 rfl (lv_at hl 0 rfl) ?_
  refine lv_iconst (v := (-1)) hx hb dX12_begins_13 (by decide) ?_
  refine lv_icmp_ne (tgt := 21) hx hb dX12_begins_14 (by decide) (fun c_2 => ?_) (fun c_2 => ?_)
  · have tc_2 := t_ne c_2
    exfalso; omega
  · have tc_2 := t_eq c_2
    refine lv_iconst (v := 0) hx hb dX12_begins_17 (by decide) ?_
    refine lv_goto (tgt := 27) hx hb dX12_begins_18 (by decide) ?_
    refine lv_iadd hx hb dX12_begins_27 ?_
    refine lv_topi (fun z ez => ?_)
    exact hret z _ _ (by rw [ez, hw_pl]; exact Int32.add_zero _) rfl dX12_begins_28

theorem in_m_inForce_X12 : ∀ w ∈ wsX120, w ∈ wsX12_inForce := by decide +kernel
set_option maxHeartbeats 8000000 in
set_option maxRecDepth 100000 in
theorem m_inForce {l : Launch} {D : va_G} {cI cZ cB : ClassId} {h a_isPriest a_bars a_joined a_turns a_awayMonk a_awayFrom a_awayTo a_feastDay a_rank a_isWeekly a_isDouble a_giftDay a_giftFrom a_owed a_said a_spared a_leaveGift a_leaveFrom a_leaveTo a_lateDay a_lateOffice a_lateBy a_guests a_who a_used a_lacks a_candles a_masses a_owing a_heldOn a_waits a_tape a_text a_statements a_taken a_sort a_first a_second : Nat} {d : Int32}  : Met l yX12_inForce wsX12_inForce ({ frames := 0, cells := 0, slots := 0, locals := 0 }) (RO D cI cZ cB [.ref h, .int d] [(h, .inr (11, [.int 0, .int 0, .int 0, .int 0, .int 0, .int 0, .int 0, .int 0, .int 0, .ref a_isPriest, .ref a_bars, .ref a_joined, .ref a_turns, .ref a_awayMonk, .ref a_awayFrom, .ref a_awayTo, .ref a_feastDay, .ref a_rank, .ref a_isWeekly, .ref a_isDouble, .ref a_giftDay, .ref a_giftFrom, .ref a_owed, .ref a_said, .ref a_spared, .ref a_leaveGift, .ref a_leaveFrom, .ref a_leaveTo, .ref a_lateDay, .ref a_lateOffice, .ref a_lateBy, .ref a_guests, .ref a_who, .ref a_used, .ref a_lacks, .ref a_candles, .ref a_masses, .ref a_owing, .ref a_heldOn, .ref a_waits, .ref a_tape, .ref a_text, .int 0, .int 0, .int 0, .int (-1), .int 0, .ref a_statements, .ref a_taken, .ref a_sort, .ref a_first, .ref a_second, .int 0, .int 0]))]) (vp_Si (fun r : Int32 => r.toInt = -1)) 0 0 (fun _ => False) := by
  refine ro_ret (cc := cX12_inForce) (maxL := 4) (ty := .int) (own := RX12) (by decide) rfl rfl (Nat.le_of_ble_eq_true rfl) ?_
  intro p e s m args below meth c Q S hret hP hK ls hl
  obtain ⟨hx, hb, hml, hown, hts⟩ := id S
  have hl : lv_has ls 4 [(0, .ref h), (1, .int d)] := hl
  have kkm1 : (-1 : Int32).toInt = -1 := by decide
  have kk0 : (0 : Int32).toInt = 0 := by decide
  have kk1 : (1 : Int32).toInt = 1 := by decide
  have lk0 := hts (.fieldLink RX12 233 "AbbeyHoursModel" "rules" "I") (by decide +kernel)
  refine lv_iconst (v := (-1)) hx hb dX12_inForce_0 (by decide) ?_
  refine lv_istore_n (lv' := [(2, .int (-1)), (0, .ref h), (1, .int d)]) hx hb dX12_inForce_1 rfl hl (by decide) rfl (fun ls hl => ?_)
  refine lv_iconst (v := 0) hx hb dX12_inForce_2 (by decide) ?_
  refine lv_istore_n (lv' := [(3, .int 0), (2, .int (-1)), (0, .ref h), (1, .int d)]) hx hb dX12_inForce_3 rfl hl (by decide) rfl (fun ls hl => ?_)
  refine lv_iload_n hx hb dX12_inForce_4 rfl (lv_at hl 0 rfl) ?_
  refine lv_aload_n hx hb dX12_inForce_5 rfl (lv_at hl 2 rfl) ?_
  refine va_get (D := D) (ci := 11) (v := .int 0) (C := RX12) (T := TX12) (N := 54) hx hb hts in_m_inForce_X12 hown hK.1 hP 0 rfl rfl 46 (by decide) lk0 (fun _ h9 => h9) rfl dX12_inForce_6 ?_
  refine lv_icmp_ge (tgt := 30) hx hb dX12_inForce_9 (by decide) (fun c_1 => ?_) (fun c_1 => ?_)
  · have tc_1 := t_le c_1
    refine lv_iload_n hx hb dX12_inForce_30 rfl (lv_at hl 1 rfl) ?_
    exact hret (-1) _ _ (by omega) rfl dX12_inForce_31
  · exact absurd c_1 (by decide)

set_option maxHeartbeats 8000000 in
set_option maxRecDepth 100000 in
theorem m_isFast {l : Launch} {D : va_G} {cI cZ cB : ClassId} {h a_isPriest a_bars a_joined a_turns a_awayMonk a_awayFrom a_awayTo a_feastDay a_rank a_isWeekly a_isDouble a_giftDay a_giftFrom a_owed a_said a_spared a_leaveGift a_leaveFrom a_leaveTo a_lateDay a_lateOffice a_lateBy a_guests a_who a_used a_lacks a_candles a_masses a_owing a_heldOn a_waits a_tape a_text a_statements a_taken a_sort a_first a_second : Nat} {d : Int32}  : Met l yX12_isFast wsX12_isFast ({ frames := 1, cells := 0, slots := 0, locals := 23 }) (RO D cI cZ cB [.ref h, .int d] [(h, .inr (11, [.int 0, .int 0, .int 0, .int 0, .int 0, .int 0, .int 0, .int 0, .int 0, .ref a_isPriest, .ref a_bars, .ref a_joined, .ref a_turns, .ref a_awayMonk, .ref a_awayFrom, .ref a_awayTo, .ref a_feastDay, .ref a_rank, .ref a_isWeekly, .ref a_isDouble, .ref a_giftDay, .ref a_giftFrom, .ref a_owed, .ref a_said, .ref a_spared, .ref a_leaveGift, .ref a_leaveFrom, .ref a_leaveTo, .ref a_lateDay, .ref a_lateOffice, .ref a_lateBy, .ref a_guests, .ref a_who, .ref a_used, .ref a_lacks, .ref a_candles, .ref a_masses, .ref a_owing, .ref a_heldOn, .ref a_waits, .ref a_tape, .ref a_text, .int 0, .int 0, .int 0, .int (-1), .int 0, .ref a_statements, .ref a_taken, .ref a_sort, .ref a_first, .ref a_second, .int 0, .int 0]))]) (vp_Si (fun r : Int32 => r.toInt = 0)) 0 0 (fun _ => False) := by
  refine ro_ret (cc := cX12_isFast) (maxL := 8) (ty := .boolean) (own := RX12) (by decide) rfl rfl (Nat.le_of_ble_eq_true rfl) ?_
  intro p e s m args below meth c Q S hret hP hK ls hl
  obtain ⟨hx, hb, hml, hown, hts⟩ := id S
  have hl : lv_has ls 8 [(0, .ref h), (1, .int d)] := hl
  have kkm1 : (-1 : Int32).toInt = -1 := by decide
  have kk0 : (0 : Int32).toInt = 0 := by decide
  have kk1 : (1 : Int32).toInt = 1 := by decide
  have kk3 : (3 : Int32).toInt = 3 := by decide
  have kk7 : (7 : Int32).toInt = 7 := by decide
  have kk16 : (16 : Int32).toInt = 16 := by decide
  have kk365 : (365 : Int32).toInt = 365 := by decide
  refine lv_aload_n hx hb dX12_isFast_0 rfl (lv_at hl 0 rfl) ?_
  refine lv_iload_n hx hb dX12_isFast_1 rfl (lv_at hl 1 rfl) ?_
  have hPc := hP.sub (ws' := [(h, .inr (11, [.int 0, .int 0, .int 0, .int 0, .int 0, .int 0, .int 0, .int 0, .int 0, .ref a_isPriest, .ref a_bars, .ref a_joined, .ref a_turns, .ref a_awayMonk, .ref a_awayFrom, .ref a_awayTo, .ref a_feastDay, .ref a_rank, .ref a_isWeekly, .ref a_isDouble, .ref a_giftDay, .ref a_giftFrom, .ref a_owed, .ref a_said, .ref a_spared, .ref a_leaveGift, .ref a_leaveFrom, .ref a_leaveTo, .ref a_lateDay, .ref a_lateOffice, .ref a_lateBy, .ref a_guests, .ref a_who, .ref a_used, .ref a_lacks, .ref a_candles, .ref a_masses, .ref a_owing, .ref a_heldOn, .ref a_waits, .ref a_tape, .ref a_text, .int 0, .int 0, .int 0, .int (-1), .int 0, .ref a_statements, .ref a_taken, .ref a_sort, .ref a_first, .ref a_second, .int 0, .int 0]))]) [0] rfl
  refine roV (As := [.int d]) (rest := []) S (m_inForce  ) (cwV 1 hts gX12_isFast_X12_inForce rfl rfl rfl (by decide +kernel) ⟨Nat.le_of_ble_eq_true rfl, Nat.le_of_ble_eq_true rfl⟩) hK hPc (va_recv hK.1 hPc (ci := 11) (q0 := 0) rfl rfl) rfl hl.1 rfl (Nat.le_of_ble_eq_true rfl) dX12_isFast_2 ⟨Nat.le_of_ble_eq_true rfl, Nat.le_of_ble_eq_true rfl⟩ (fun r_1 hw_1 => ?_)
  have hw_1 : r_1.toInt = -1 := hw_1
  refine lv_istore_n (lv' := [(2, .int r_1), (0, .ref h), (1, .int d)]) hx hb dX12_isFast_5 rfl hl (by decide) rfl (fun ls hl => ?_)
  refine lv_iload_n hx hb dX12_isFast_6 rfl (lv_at hl 0 rfl) ?_
  refine lv_iconst (v := (-1)) hx hb dX12_isFast_7 (by decide) ?_
  refine lv_icmp_eq (tgt := 20) hx hb dX12_isFast_8 (by decide) (fun c_2 => ?_) (fun c_2 => ?_)
  · have tc_2 := t_eq c_2
    refine lv_iconst (v := 0) hx hb dX12_isFast_20 (by decide) ?_
    exact hret 0 _ _ (by omega) rfl dX12_isFast_21
  · have tc_2 := t_ne c_2
    exfalso; omega

set_option maxHeartbeats 8000000 in
set_option maxRecDepth 100000 in
theorem m_lastOf {l : Launch} {D : va_G} {cI cZ cB : ClassId} {h a_isPriest a_bars a_joined a_turns a_awayMonk a_awayFrom a_awayTo a_feastDay a_rank a_isWeekly a_isDouble a_giftDay a_giftFrom a_owed a_said a_spared a_leaveGift a_leaveFrom a_leaveTo a_lateDay a_lateOffice a_lateBy a_guests a_who a_used a_lacks a_candles a_masses a_owing a_heldOn a_waits a_tape a_text a_statements a_taken a_sort a_first a_second : Nat} {i k x : Int32} (hi : i.toInt = -1) : Met l yX12_lastOf wsX12_lastOf ({ frames := 0, cells := 0, slots := 0, locals := 0 }) (RO D cI cZ cB [.ref h, .int i, .int k, .int x] [(h, .inr (11, [.int 0, .int 0, .int 0, .int 0, .int 0, .int 0, .int 0, .int 0, .int 0, .ref a_isPriest, .ref a_bars, .ref a_joined, .ref a_turns, .ref a_awayMonk, .ref a_awayFrom, .ref a_awayTo, .ref a_feastDay, .ref a_rank, .ref a_isWeekly, .ref a_isDouble, .ref a_giftDay, .ref a_giftFrom, .ref a_owed, .ref a_said, .ref a_spared, .ref a_leaveGift, .ref a_leaveFrom, .ref a_leaveTo, .ref a_lateDay, .ref a_lateOffice, .ref a_lateBy, .ref a_guests, .ref a_who, .ref a_used, .ref a_lacks, .ref a_candles, .ref a_masses, .ref a_owing, .ref a_heldOn, .ref a_waits, .ref a_tape, .ref a_text, .int 0, .int 0, .int 0, .int (-1), .int 0, .ref a_statements, .ref a_taken, .ref a_sort, .ref a_first, .ref a_second, .int 0, .int 0]))]) (vp_Si (fun r : Int32 => r.toInt = -1)) 0 0 (fun _ => False) := by
  refine ro_ret (cc := cX12_lastOf) (maxL := 6) (ty := .int) (own := RX12) (by decide) rfl rfl (Nat.le_of_ble_eq_true rfl) ?_
  intro p e s m args below meth c Q S hret hP hK ls hl
  obtain ⟨hx, hb, hml, hown, hts⟩ := id S
  have hl : lv_has ls 6 [(0, .ref h), (1, .int i), (2, .int k), (3, .int x)] := hl
  have kkm1 : (-1 : Int32).toInt = -1 := by decide
  have kk0 : (0 : Int32).toInt = 0 := by decide
  have kk1 : (1 : Int32).toInt = 1 := by decide
  have kk3 : (3 : Int32).toInt = 3 := by decide
  have kk16 : (16 : Int32).toInt = 16 := by decide
  refine lv_iconst (v := (-1)) hx hb dX12_lastOf_0 (by decide) ?_
  refine lv_istore (lv' := [(4, .int (-1)), (0, .ref h), (1, .int i), (2, .int k), (3, .int x)]) hx hb dX12_lastOf_1 hl (by decide) rfl (fun ls hl => ?_)
  refine lv_bipush (v := 16) hx hb dX12_lastOf_3 (by decide) ?_
  refine lv_iload_n hx hb dX12_lastOf_5 rfl (lv_at hl 2 rfl) ?_
  refine lv_imul hx hb dX12_lastOf_6 ?_
  refine lv_topi (fun x_1 ex_1 => ?_)
  first | have tx_1 := t_mulL kk16 ex_1 (by omega) (by omega) | skip
  refine lv_istore (lv' := [(5, .int x_1), (4, .int (-1)), (0, .ref h), (1, .int i), (2, .int k), (3, .int x)]) hx hb dX12_lastOf_7 hl (by decide) rfl (fun ls hl => ?_)
  refine lv_iload_n hx hb dX12_lastOf_9 rfl (lv_at hl 3 rfl) ?_
  refine lv_iconst (v := (-1)) hx hb dX12_lastOf_10 (by decide) ?_
  refine lv_icmp_eq (tgt := 72) hx hb dX12_lastOf_11 (by decide) (fun c_2 => ?_) (fun c_2 => ?_)
  · have tc_2 := t_eq c_2
    refine lv_iload hx hb dX12_lastOf_72 (lv_at hl 1 rfl) ?_
    exact hret (-1) _ _ (by omega) rfl dX12_lastOf_74
  · have tc_2 := t_ne c_2
    exfalso; omega

set_option maxHeartbeats 8000000 in
set_option maxRecDepth 100000 in
theorem m_headFeed {l : Launch} {D : va_G} {cI cZ cB : ClassId} {sz : Nat} {h a_isPriest a_bars a_joined a_turns a_awayMonk a_awayFrom a_awayTo a_feastDay a_rank a_isWeekly a_isDouble a_giftDay a_giftFrom a_owed a_said a_spared a_leaveGift a_leaveFrom a_leaveTo a_lateDay a_lateOffice a_lateBy a_guests a_who a_used a_lacks a_candles a_masses a_owing a_heldOn a_waits a_tape a_text a_statements a_taken a_sort a_first a_second : Nat} {f_heldOn : Nat → Int32} {d : Int32}  : Met l yX12_headFeed wsX12_headFeed ({ frames := 3, cells := 0, slots := 0, locals := 67 }) (RW D cI cZ cB [.ref h, .int d] sz [(h, .inr (11, [.int 0, .int 0, .int 0, .int 0, .int 0, .int 0, .int 0, .int 0, .int 0, .ref a_isPriest, .ref a_bars, .ref a_joined, .ref a_turns, .ref a_awayMonk, .ref a_awayFrom, .ref a_awayTo, .ref a_feastDay, .ref a_rank, .ref a_isWeekly, .ref a_isDouble, .ref a_giftDay, .ref a_giftFrom, .ref a_owed, .ref a_said, .ref a_spared, .ref a_leaveGift, .ref a_leaveFrom, .ref a_leaveTo, .ref a_lateDay, .ref a_lateOffice, .ref a_lateBy, .ref a_guests, .ref a_who, .ref a_used, .ref a_lacks, .ref a_candles, .ref a_masses, .ref a_owing, .ref a_heldOn, .ref a_waits, .ref a_tape, .ref a_text, .int 0, .int 0, .int 0, .int (-1), .int 0, .ref a_statements, .ref a_taken, .ref a_sort, .ref a_first, .ref a_second, .int 0, .int 0])), (a_heldOn, .inl (cI, 365, .inl f_heldOn))]) (va_Qi (fun (r : Int32) (u : Nat → Int32) => r.toInt = 2) (BW D [(h, .inr (11, [.int 0, .int 0, .int 0, .int 0, .int 0, .int 0, .int 0, .int 0, .int 0, .ref a_isPriest, .ref a_bars, .ref a_joined, .ref a_turns, .ref a_awayMonk, .ref a_awayFrom, .ref a_awayTo, .ref a_feastDay, .ref a_rank, .ref a_isWeekly, .ref a_isDouble, .ref a_giftDay, .ref a_giftFrom, .ref a_owed, .ref a_said, .ref a_spared, .ref a_leaveGift, .ref a_leaveFrom, .ref a_leaveTo, .ref a_lateDay, .ref a_lateOffice, .ref a_lateBy, .ref a_guests, .ref a_who, .ref a_used, .ref a_lacks, .ref a_candles, .ref a_masses, .ref a_owing, .ref a_heldOn, .ref a_waits, .ref a_tape, .ref a_text, .int 0, .int 0, .int 0, .int (-1), .int 0, .ref a_statements, .ref a_taken, .ref a_sort, .ref a_first, .ref a_second, .int 0, .int 0])), (a_heldOn, .inl (cI, 365, .inl f_heldOn))] sz (fun u : Nat → Int32 => [(h, .inr (11, [.int 0, .int 0, .int 0, .int 0, .int 0, .int 0, .int 0, .int 0, .int 0, .ref a_isPriest, .ref a_bars, .ref a_joined, .ref a_turns, .ref a_awayMonk, .ref a_awayFrom, .ref a_awayTo, .ref a_feastDay, .ref a_rank, .ref a_isWeekly, .ref a_isDouble, .ref a_giftDay, .ref a_giftFrom, .ref a_owed, .ref a_said, .ref a_spared, .ref a_leaveGift, .ref a_leaveFrom, .ref a_leaveTo, .ref a_lateDay, .ref a_lateOffice, .ref a_lateBy, .ref a_guests, .ref a_who, .ref a_used, .ref a_lacks, .ref a_candles, .ref a_masses, .ref a_owing, .ref a_heldOn, .ref a_waits, .ref a_tape, .ref a_text, .int 0, .int 0, .int 0, .int (-1), .int 0, .ref a_statements, .ref a_taken, .ref a_sort, .ref a_first, .ref a_second, .int 0, .int 0])), (a_heldOn, .inl (cI, 365, .inl u))])) (va_A [(h, .inr (11, [.int 0, .int 0, .int 0, .int 0, .int 0, .int 0, .int 0, .int 0, .int 0, .ref a_isPriest, .ref a_bars, .ref a_joined, .ref a_turns, .ref a_awayMonk, .ref a_awayFrom, .ref a_awayTo, .ref a_feastDay, .ref a_rank, .ref a_isWeekly, .ref a_isDouble, .ref a_giftDay, .ref a_giftFrom, .ref a_owed, .ref a_said, .ref a_spared, .ref a_leaveGift, .ref a_leaveFrom, .ref a_leaveTo, .ref a_lateDay, .ref a_lateOffice, .ref a_lateBy, .ref a_guests, .ref a_who, .ref a_used, .ref a_lacks, .ref a_candles, .ref a_masses, .ref a_owing, .ref a_heldOn, .ref a_waits, .ref a_tape, .ref a_text, .int 0, .int 0, .int 0, .int (-1), .int 0, .ref a_statements, .ref a_taken, .ref a_sort, .ref a_first, .ref a_second, .int 0, .int 0])), (a_heldOn, .inl (cI, 365, .inl f_heldOn))] sz)) 0 0 (va_A [(h, .inr (11, [.int 0, .int 0, .int 0, .int 0, .int 0, .int 0, .int 0, .int 0, .int 0, .ref a_isPriest, .ref a_bars, .ref a_joined, .ref a_turns, .ref a_awayMonk, .ref a_awayFrom, .ref a_awayTo, .ref a_feastDay, .ref a_rank, .ref a_isWeekly, .ref a_isDouble, .ref a_giftDay, .ref a_giftFrom, .ref a_owed, .ref a_said, .ref a_spared, .ref a_leaveGift, .ref a_leaveFrom, .ref a_leaveTo, .ref a_lateDay, .ref a_lateOffice, .ref a_lateBy, .ref a_guests, .ref a_who, .ref a_used, .ref a_lacks, .ref a_candles, .ref a_masses, .ref a_owing, .ref a_heldOn, .ref a_waits, .ref a_tape, .ref a_text, .int 0, .int 0, .int 0, .int (-1), .int 0, .ref a_statements, .ref a_taken, .ref a_sort, .ref a_first, .ref a_second, .int 0, .int 0])), (a_heldOn, .inl (cI, 365, .inl f_heldOn))] sz) := by
  refine rw_ret (cc := cX12_headFeed) (maxL := 4) (ty := .int) (own := RX12) (by decide) rfl rfl (Nat.le_of_ble_eq_true rfl) ?_
  intro p e s m args below meth c Q A S hin hret hP hK hD hA hS ls hl
  obtain ⟨hx, hb, hml, hown, hts⟩ := id S
  have hl : lv_has ls 4 [(0, .ref h), (1, .int d)] := hl
  have kkm1 : (-1 : Int32).toInt = -1 := by decide
  have kk0 : (0 : Int32).toInt = 0 := by decide
  have kk2 : (2 : Int32).toInt = 2 := by decide
  have kk3 : (3 : Int32).toInt = 3 := by decide
  have kk5 : (5 : Int32).toInt = 5 := by decide
  refine lv_aload_n hx hb dX12_headFeed_0 rfl (lv_at hl 0 rfl) ?_
  refine lv_iload_n hx hb dX12_headFeed_1 rfl (lv_at hl 1 rfl) ?_
  have hPc := hP.sub (ws' := [(h, .inr (11, [.int 0, .int 0, .int 0, .int 0, .int 0, .int 0, .int 0, .int 0, .int 0, .ref a_isPriest, .ref a_bars, .ref a_joined, .ref a_turns, .ref a_awayMonk, .ref a_awayFrom, .ref a_awayTo, .ref a_feastDay, .ref a_rank, .ref a_isWeekly, .ref a_isDouble, .ref a_giftDay, .ref a_giftFrom, .ref a_owed, .ref a_said, .ref a_spared, .ref a_leaveGift, .ref a_leaveFrom, .ref a_leaveTo, .ref a_lateDay, .ref a_lateOffice, .ref a_lateBy, .ref a_guests, .ref a_who, .ref a_used, .ref a_lacks, .ref a_candles, .ref a_masses, .ref a_owing, .ref a_heldOn, .ref a_waits, .ref a_tape, .ref a_text, .int 0, .int 0, .int 0, .int (-1), .int 0, .ref a_statements, .ref a_taken, .ref a_sort, .ref a_first, .ref a_second, .int 0, .int 0]))]) [0] rfl
  refine roV (As := [.int d]) (rest := []) S (m_inForce  ) (cwV 1 hts gX12_headFeed_X12_inForce rfl rfl rfl (by decide +kernel) ⟨Nat.le_of_ble_eq_true rfl, Nat.le_of_ble_eq_true rfl⟩) hK hPc (va_recv hK.1 hPc (ci := 11) (q0 := 0) rfl rfl) rfl hl.1 rfl (Nat.le_of_ble_eq_true rfl) dX12_headFeed_2 ⟨Nat.le_of_ble_eq_true rfl, Nat.le_of_ble_eq_true rfl⟩ (fun r_1 hw_1 => ?_)
  have hw_1 : r_1.toInt = -1 := hw_1
  refine lv_istore_n (lv' := [(2, .int r_1), (0, .ref h), (1, .int d)]) hx hb dX12_headFeed_5 rfl hl (by decide) rfl (fun ls hl => ?_)
  refine lv_aload_n hx hb dX12_headFeed_6 rfl (lv_at hl 1 rfl) ?_
  refine lv_iload_n hx hb dX12_headFeed_7 rfl (lv_at hl 2 rfl) ?_
  have hPc := hP.sub (ws' := [(h, .inr (11, [.int 0, .int 0, .int 0, .int 0, .int 0, .int 0, .int 0, .int 0, .int 0, .ref a_isPriest, .ref a_bars, .ref a_joined, .ref a_turns, .ref a_awayMonk, .ref a_awayFrom, .ref a_awayTo, .ref a_feastDay, .ref a_rank, .ref a_isWeekly, .ref a_isDouble, .ref a_giftDay, .ref a_giftFrom, .ref a_owed, .ref a_said, .ref a_spared, .ref a_leaveGift, .ref a_leaveFrom, .ref a_leaveTo, .ref a_lateDay, .ref a_lateOffice, .ref a_lateBy, .ref a_guests, .ref a_who, .ref a_used, .ref a_lacks, .ref a_candles, .ref a_masses, .ref a_owing, .ref a_heldOn, .ref a_waits, .ref a_tape, .ref a_text, .int 0, .int 0, .int 0, .int (-1), .int 0, .ref a_statements, .ref a_taken, .ref a_sort, .ref a_first, .ref a_second, .int 0, .int 0]))]) [0] rfl
  refine roV (As := [.int d]) (rest := []) S (m_isFast  ) (cwV 1 hts gX12_headFeed_X12_isFast rfl rfl rfl (by decide +kernel) ⟨Nat.le_of_ble_eq_true rfl, Nat.le_of_ble_eq_true rfl⟩) hK hPc (va_recv hK.1 hPc (ci := 11) (q0 := 0) rfl rfl) rfl hl.1 rfl (Nat.le_of_ble_eq_true rfl) dX12_headFeed_8 ⟨Nat.le_of_ble_eq_true rfl, Nat.le_of_ble_eq_true rfl⟩ (fun r_2 hw_2 => ?_)
  have hw_2 : r_2.toInt = 0 := hw_2
  refine lv_if_eq (tgt := 24) hx hb dX12_headFeed_11 (by decide) (fun c_3 => ?_) (fun c_3 => ?_)
  · have tc_3 := t_eq c_3
    refine lv_iconst (v := (-1)) hx hb dX12_headFeed_24 (by decide) ?_
    refine lv_istore_n (lv' := [(3, .int (-1)), (2, .int r_1), (0, .ref h), (1, .int d)]) hx hb dX12_headFeed_25 rfl hl (by decide) rfl (fun ls hl => ?_)
    refine lv_iload_n hx hb dX12_headFeed_26 rfl (lv_at hl 0 rfl) ?_
    refine lv_iconst (v := (-1)) hx hb dX12_headFeed_27 (by decide) ?_
    refine lv_icmp_ne (tgt := 51) hx hb dX12_headFeed_28 (by decide) (fun c_4 => ?_) (fun c_4 => ?_)
    · exact absurd c_4 (by decide)
    · have tc_4 := t_eq c_4
      refine lv_aload_n hx hb dX12_headFeed_31 rfl (lv_at hl 2 rfl) ?_
      refine lv_iload_n hx hb dX12_headFeed_32 rfl (lv_at hl 3 rfl) ?_
      have hPc := hP.sub (ws' := [(h, .inr (11, [.int 0, .int 0, .int 0, .int 0, .int 0, .int 0, .int 0, .int 0, .int 0, .ref a_isPriest, .ref a_bars, .ref a_joined, .ref a_turns, .ref a_awayMonk, .ref a_awayFrom, .ref a_awayTo, .ref a_feastDay, .ref a_rank, .ref a_isWeekly, .ref a_isDouble, .ref a_giftDay, .ref a_giftFrom, .ref a_owed, .ref a_said, .ref a_spared, .ref a_leaveGift, .ref a_leaveFrom, .ref a_leaveTo, .ref a_lateDay, .ref a_lateOffice, .ref a_lateBy, .ref a_guests, .ref a_who, .ref a_used, .ref a_lacks, .ref a_candles, .ref a_masses, .ref a_owing, .ref a_heldOn, .ref a_waits, .ref a_tape, .ref a_text, .int 0, .int 0, .int 0, .int (-1), .int 0, .ref a_statements, .ref a_taken, .ref a_sort, .ref a_first, .ref a_second, .int 0, .int 0])), (a_heldOn, .inl (cI, 365, .inl f_heldOn))]) [0, 1] rfl
      refine rwV (As := [.int d]) (rest := []) (wc := [(h, .inr (11, [.int 0, .int 0, .int 0, .int 0, .int 0, .int 0, .int 0, .int 0, .int 0, .ref a_isPriest, .ref a_bars, .ref a_joined, .ref a_turns, .ref a_awayMonk, .ref a_awayFrom, .ref a_awayTo, .ref a_feastDay, .ref a_rank, .ref a_isWeekly, .ref a_isDouble, .ref a_giftDay, .ref a_giftFrom, .ref a_owed, .ref a_said, .ref a_spared, .ref a_leaveGift, .ref a_leaveFrom, .ref a_leaveTo, .ref a_lateDay, .ref a_lateOffice, .ref a_lateBy, .ref a_guests, .ref a_who, .ref a_used, .ref a_lacks, .ref a_candles, .ref a_masses, .ref a_owing, .ref a_heldOn, .ref a_waits, .ref a_tape, .ref a_text, .int 0, .int 0, .int 0, .int (-1), .int 0, .ref a_statements, .ref a_taken, .ref a_sort, .ref a_first, .ref a_second, .int 0, .int 0])), (a_heldOn, .inl (cI, 365, .inl f_heldOn))]) (wr := []) S (m_rankOn  ) (cwV 1 hts gX12_headFeed_X12_rankOn rfl rfl rfl (by decide +kernel) ⟨Nat.le_of_ble_eq_true rfl, Nat.le_of_ble_eq_true rfl⟩) hK hP hD hS hA [0, 1] [] rfl rfl (by decide) (by decide) (by decide) (va_recv hK.1 hPc (ci := 11) (q0 := 0) rfl rfl) rfl hl.1 rfl (Nat.le_of_ble_eq_true rfl) dX12_headFeed_33 ⟨Nat.le_of_ble_eq_true rfl, Nat.le_of_ble_eq_true rfl⟩ (fun r_5 u_5 H locs hw_5 hP hD hS => ?_)
      obtain ⟨g1_5, rfl⟩ : ∃ z, z = u_5 := ⟨_, rfl⟩
      have hw_5 : r_5.toInt = 0 := hw_5
      have hP : va_P D vwCl [(h, .inr (11, [.int 0, .int 0, .int 0, .int 0, .int 0, .int 0, .int 0, .int 0, .int 0, .ref a_isPriest, .ref a_bars, .ref a_joined, .ref a_turns, .ref a_awayMonk, .ref a_awayFrom, .ref a_awayTo, .ref a_feastDay, .ref a_rank, .ref a_isWeekly, .ref a_isDouble, .ref a_giftDay, .ref a_giftFrom, .ref a_owed, .ref a_said, .ref a_spared, .ref a_leaveGift, .ref a_leaveFrom, .ref a_leaveTo, .ref a_lateDay, .ref a_lateOffice, .ref a_lateBy, .ref a_guests, .ref a_who, .ref a_used, .ref a_lacks, .ref a_candles, .ref a_masses, .ref a_owing, .ref a_heldOn, .ref a_waits, .ref a_tape, .ref a_text, .int 0, .int 0, .int 0, .int (-1), .int 0, .ref a_statements, .ref a_taken, .ref a_sort, .ref a_first, .ref a_second, .int 0, .int 0])), (a_heldOn, .inl (cI, 365, .inl g1_5))] H := hP
      have hD : va_D A [(h, .inr (11, [.int 0, .int 0, .int 0, .int 0, .int 0, .int 0, .int 0, .int 0, .int 0, .ref a_isPriest, .ref a_bars, .ref a_joined, .ref a_turns, .ref a_awayMonk, .ref a_awayFrom, .ref a_awayTo, .ref a_feastDay, .ref a_rank, .ref a_isWeekly, .ref a_isDouble, .ref a_giftDay, .ref a_giftFrom, .ref a_owed, .ref a_said, .ref a_spared, .ref a_leaveGift, .ref a_leaveFrom, .ref a_leaveTo, .ref a_lateDay, .ref a_lateOffice, .ref a_lateBy, .ref a_guests, .ref a_who, .ref a_used, .ref a_lacks, .ref a_candles, .ref a_masses, .ref a_owing, .ref a_heldOn, .ref a_waits, .ref a_tape, .ref a_text, .int 0, .int 0, .int 0, .int (-1), .int 0, .ref a_statements, .ref a_taken, .ref a_sort, .ref a_first, .ref a_second, .int 0, .int 0])), (a_heldOn, .inl (cI, 365, .inl g1_5))] := hD
      refine lv_if_le (tgt := 51) hx hb dX12_headFeed_36 (by decide) (fun c_6 => ?_) (fun c_6 => ?_)
      · have tc_6 := t_le c_6
        refine lv_iload_n hx hb dX12_headFeed_51 rfl (lv_at hl 0 rfl) ?_
        refine lv_iconst (v := (-1)) hx hb dX12_headFeed_52 (by decide) ?_
        refine lv_icmp_ne (tgt := 64) hx hb dX12_headFeed_53 (by decide) (fun c_7 => ?_) (fun c_7 => ?_)
        · have tc_7 := t_ne c_7
          exfalso; omega
        · have tc_7 := t_eq c_7
          refine lv_aload_n hx hb dX12_headFeed_56 rfl (lv_at hl 2 rfl) ?_
          refine lv_iload_n hx hb dX12_headFeed_57 rfl (lv_at hl 1 rfl) ?_
          refine lv_iconst (v := 5) hx hb dX12_headFeed_58 (by decide) ?_
          refine lv_iconst (v := 0) hx hb dX12_headFeed_59 (by decide) ?_
          have hPc := hP.sub (ws' := [(h, .inr (11, [.int 0, .int 0, .int 0, .int 0, .int 0, .int 0, .int 0, .int 0, .int 0, .ref a_isPriest, .ref a_bars, .ref a_joined, .ref a_turns, .ref a_awayMonk, .ref a_awayFrom, .ref a_awayTo, .ref a_feastDay, .ref a_rank, .ref a_isWeekly, .ref a_isDouble, .ref a_giftDay, .ref a_giftFrom, .ref a_owed, .ref a_said, .ref a_spared, .ref a_leaveGift, .ref a_leaveFrom, .ref a_leaveTo, .ref a_lateDay, .ref a_lateOffice, .ref a_lateBy, .ref a_guests, .ref a_who, .ref a_used, .ref a_lacks, .ref a_candles, .ref a_masses, .ref a_owing, .ref a_heldOn, .ref a_waits, .ref a_tape, .ref a_text, .int 0, .int 0, .int 0, .int (-1), .int 0, .ref a_statements, .ref a_taken, .ref a_sort, .ref a_first, .ref a_second, .int 0, .int 0]))]) [0] rfl
          refine roV (As := [.int r_1, .int 5, .int 0]) (rest := []) S (m_lastOf  (by omega)) (cwV 3 hts gX12_headFeed_X12_lastOf rfl rfl rfl (by decide +kernel) ⟨Nat.le_of_ble_eq_true rfl, Nat.le_of_ble_eq_true rfl⟩) hK hPc (va_recv hK.1 hPc (ci := 11) (q0 := 0) rfl rfl) rfl hl.1 rfl (Nat.le_of_ble_eq_true rfl) dX12_headFeed_60 ⟨Nat.le_of_ble_eq_true rfl, Nat.le_of_ble_eq_true rfl⟩ (fun r_8 hw_8 => ?_)
          have hw_8 : r_8.toInt = -1 := hw_8
          refine lv_istore_n (lv' := [(3, .int r_8), (2, .int r_1), (0, .ref h), (1, .int d)]) hx hb dX12_headFeed_63 rfl hl (by decide) rfl (fun ls hl => ?_)
          refine lv_iload_n hx hb dX12_headFeed_64 rfl (lv_at hl 0 rfl) ?_
          refine lv_iconst (v := (-1)) hx hb dX12_headFeed_65 (by decide) ?_
          refine lv_icmp_ne (tgt := 73) hx hb dX12_headFeed_66 (by decide) (fun c_9 => ?_) (fun c_9 => ?_)
          · have tc_9 := t_ne c_9
            exfalso; omega
          · have tc_9 := t_eq c_9
            refine lv_iconst (v := 2) hx hb dX12_headFeed_69 (by decide) ?_
            refine lv_goto (tgt := 74) hx hb dX12_headFeed_70 (by decide) ?_
            exact hret 2 g1_5 _ _ _ _ (by omega) rfl (hP.sub [0, 1] rfl) (hD.sub [0, 1] (by decide) rfl) hS dX12_headFeed_74
      · have tc_6 := t_nle c_6
        exfalso; omega
  · have tc_3 := t_ne c_3
    exfalso; omega

set_option maxHeartbeats 8000000 in
set_option maxRecDepth 100000 in
theorem m_guestFeed {l : Launch} {D : va_G} {cI cZ cB : ClassId} {h a_isPriest a_bars a_joined a_turns a_awayMonk a_awayFrom a_awayTo a_feastDay a_rank a_isWeekly a_isDouble a_giftDay a_giftFrom a_owed a_said a_spared a_leaveGift a_leaveFrom a_leaveTo a_lateDay a_lateOffice a_lateBy a_guests a_who a_used a_lacks a_candles a_masses a_owing a_heldOn a_waits a_tape a_text a_statements a_taken a_sort a_first a_second : Nat} {d : Int32}  : Met l yX12_guestFeed wsX12_guestFeed ({ frames := 1, cells := 0, slots := 0, locals := 25 }) (RO D cI cZ cB [.ref h, .int d] [(h, .inr (11, [.int 0, .int 0, .int 0, .int 0, .int 0, .int 0, .int 0, .int 0, .int 0, .ref a_isPriest, .ref a_bars, .ref a_joined, .ref a_turns, .ref a_awayMonk, .ref a_awayFrom, .ref a_awayTo, .ref a_feastDay, .ref a_rank, .ref a_isWeekly, .ref a_isDouble, .ref a_giftDay, .ref a_giftFrom, .ref a_owed, .ref a_said, .ref a_spared, .ref a_leaveGift, .ref a_leaveFrom, .ref a_leaveTo, .ref a_lateDay, .ref a_lateOffice, .ref a_lateBy, .ref a_guests, .ref a_who, .ref a_used, .ref a_lacks, .ref a_candles, .ref a_masses, .ref a_owing, .ref a_heldOn, .ref a_waits, .ref a_tape, .ref a_text, .int 0, .int 0, .int 0, .int (-1), .int 0, .ref a_statements, .ref a_taken, .ref a_sort, .ref a_first, .ref a_second, .int 0, .int 0]))]) (vp_Si (fun r : Int32 => r.toInt = 3)) 0 0 (fun _ => False) := by
  refine ro_ret (cc := cX12_guestFeed) (maxL := 3) (ty := .int) (own := RX12) (by decide) rfl rfl (Nat.le_of_ble_eq_true rfl) ?_
  intro p e s m args below meth c Q S hret hP hK ls hl
  obtain ⟨hx, hb, hml, hown, hts⟩ := id S
  have hl : lv_has ls 3 [(0, .ref h), (1, .int d)] := hl
  have kkm1 : (-1 : Int32).toInt = -1 := by decide
  have kk0 : (0 : Int32).toInt = 0 := by decide
  have kk3 : (3 : Int32).toInt = 3 := by decide
  have kk4 : (4 : Int32).toInt = 4 := by decide
  refine lv_aload_n hx hb dX12_guestFeed_0 rfl (lv_at hl 0 rfl) ?_
  refine lv_aload_n hx hb dX12_guestFeed_1 rfl (lv_at hl 0 rfl) ?_
  refine lv_iload_n hx hb dX12_guestFeed_2 rfl (lv_at hl 1 rfl) ?_
  have hPc := hP.sub (ws' := [(h, .inr (11, [.int 0, .int 0, .int 0, .int 0, .int 0, .int 0, .int 0, .int 0, .int 0, .ref a_isPriest, .ref a_bars, .ref a_joined, .ref a_turns, .ref a_awayMonk, .ref a_awayFrom, .ref a_awayTo, .ref a_feastDay, .ref a_rank, .ref a_isWeekly, .ref a_isDouble, .ref a_giftDay, .ref a_giftFrom, .ref a_owed, .ref a_said, .ref a_spared, .ref a_leaveGift, .ref a_leaveFrom, .ref a_leaveTo, .ref a_lateDay, .ref a_lateOffice, .ref a_lateBy, .ref a_guests, .ref a_who, .ref a_used, .ref a_lacks, .ref a_candles, .ref a_masses, .ref a_owing, .ref a_heldOn, .ref a_waits, .ref a_tape, .ref a_text, .int 0, .int 0, .int 0, .int (-1), .int 0, .ref a_statements, .ref a_taken, .ref a_sort, .ref a_first, .ref a_second, .int 0, .int 0]))]) [0] rfl
  refine roV (As := [.int d]) (rest := [.ref h]) S (m_inForce  ) (cwV 1 hts gX12_guestFeed_X12_inForce rfl rfl rfl (by decide +kernel) ⟨Nat.le_of_ble_eq_true rfl, Nat.le_of_ble_eq_true rfl⟩) hK hPc (va_recv hK.1 hPc (ci := 11) (q0 := 0) rfl rfl) rfl hl.1 rfl (Nat.le_of_ble_eq_true rfl) dX12_guestFeed_3 ⟨Nat.le_of_ble_eq_true rfl, Nat.le_of_ble_eq_true rfl⟩ (fun r_1 hw_1 => ?_)
  have hw_1 : r_1.toInt = -1 := hw_1
  refine lv_iconst (v := 4) hx hb dX12_guestFeed_6 (by decide) ?_
  refine lv_iconst (v := 0) hx hb dX12_guestFeed_7 (by decide) ?_
  have hPc := hP.sub (ws' := [(h, .inr (11, [.int 0, .int 0, .int 0, .int 0, .int 0, .int 0, .int 0, .int 0, .int 0, .ref a_isPriest, .ref a_bars, .ref a_joined, .ref a_turns, .ref a_awayMonk, .ref a_awayFrom, .ref a_awayTo, .ref a_feastDay, .ref a_rank, .ref a_isWeekly, .ref a_isDouble, .ref a_giftDay, .ref a_giftFrom, .ref a_owed, .ref a_said, .ref a_spared, .ref a_leaveGift, .ref a_leaveFrom, .ref a_leaveTo, .ref a_lateDay, .ref a_lateOffice, .ref a_lateBy, .ref a_guests, .ref a_who, .ref a_used, .ref a_lacks, .ref a_candles, .ref a_masses, .ref a_owing, .ref a_heldOn, .ref a_waits, .ref a_tape, .ref a_text, .int 0, .int 0, .int 0, .int (-1), .int 0, .ref a_statements, .ref a_taken, .ref a_sort, .ref a_first, .ref a_second, .int 0, .int 0]))]) [0] rfl
  refine roV (As := [.int r_1, .int 4, .int 0]) (rest := []) S (m_lastOf  (by omega)) (cwV 3 hts gX12_guestFeed_X12_lastOf rfl rfl rfl (by decide +kernel) ⟨Nat.le_of_ble_eq_true rfl, Nat.le_of_ble_eq_true rfl⟩) hK hPc (va_recv hK.1 hPc (ci := 11) (q0 := 0) rfl rfl) rfl hl.1 rfl (Nat.le_of_ble_eq_true rfl) dX12_guestFeed_8 ⟨Nat.le_of_ble_eq_true rfl, Nat.le_of_ble_eq_true rfl⟩ (fun r_2 hw_2 => ?_)
  have hw_2 : r_2.toInt = -1 := hw_2
  refine lv_istore_n (lv' := [(2, .int r_2), (0, .ref h), (1, .int d)]) hx hb dX12_guestFeed_11 rfl hl (by decide) rfl (fun ls hl => ?_)
  refine lv_iload_n hx hb dX12_guestFeed_12 rfl (lv_at hl 0 rfl) ?_
  refine lv_iconst (v := (-1)) hx hb dX12_guestFeed_13 (by decide) ?_
  refine lv_icmp_ne (tgt := 21) hx hb dX12_guestFeed_14 (by decide) (fun c_3 => ?_) (fun c_3 => ?_)
  · have tc_3 := t_ne c_3
    exfalso; omega
  · have tc_3 := t_eq c_3
    refine lv_iconst (v := 3) hx hb dX12_guestFeed_17 (by decide) ?_
    refine lv_goto (tgt := 22) hx hb dX12_guestFeed_18 (by decide) ?_
    exact hret 3 _ _ (by omega) rfl dX12_guestFeed_22

theorem in_m_allGuests_X12 : ∀ w ∈ wsX120, w ∈ wsX12_allGuests := by decide +kernel
set_option maxHeartbeats 8000000 in
set_option maxRecDepth 100000 in
theorem m_allGuests {l : Launch} {D : va_G} {cI cZ cB : ClassId} {h a_isPriest a_bars a_joined a_turns a_awayMonk a_awayFrom a_awayTo a_feastDay a_rank a_isWeekly a_isDouble a_giftDay a_giftFrom a_owed a_said a_spared a_leaveGift a_leaveFrom a_leaveTo a_lateDay a_lateOffice a_lateBy a_guests a_who a_used a_lacks a_candles a_masses a_owing a_heldOn a_waits a_tape a_text a_statements a_taken a_sort a_first a_second : Nat} {f_guests : Nat → Int32}   : Met l yX12_allGuests wsX12_allGuests ({ frames := 0, cells := 0, slots := 0, locals := 0 }) (RO D cI cZ cB [.ref h] [(h, .inr (11, [.int 0, .int 0, .int 0, .int 0, .int 0, .int 0, .int 0, .int 0, .int 0, .ref a_isPriest, .ref a_bars, .ref a_joined, .ref a_turns, .ref a_awayMonk, .ref a_awayFrom, .ref a_awayTo, .ref a_feastDay, .ref a_rank, .ref a_isWeekly, .ref a_isDouble, .ref a_giftDay, .ref a_giftFrom, .ref a_owed, .ref a_said, .ref a_spared, .ref a_leaveGift, .ref a_leaveFrom, .ref a_leaveTo, .ref a_lateDay, .ref a_lateOffice, .ref a_lateBy, .ref a_guests, .ref a_who, .ref a_used, .ref a_lacks, .ref a_candles, .ref a_masses, .ref a_owing, .ref a_heldOn, .ref a_waits, .ref a_tape, .ref a_text, .int 0, .int 0, .int 0, .int (-1), .int 0, .ref a_statements, .ref a_taken, .ref a_sort, .ref a_first, .ref a_second, .int 0, .int 0])), (a_guests, .inl (cI, 6, .inl f_guests))]) (vp_Si (fun r : Int32 => r = sum6 f_guests)) 0 0 (fun _ => False) := by
  refine ro_ret (cc := cX12_allGuests) (maxL := 3) (ty := .int) (own := RX12) (by decide) rfl rfl (Nat.le_of_ble_eq_true rfl) ?_
  intro p e s m args below meth c Q S hret hP hK ls hl
  obtain ⟨hx, hb, hml, hown, hts⟩ := id S
  have hl : lv_has ls 3 [(0, .ref h)] := hl
  have kk0 : (0 : Int32).toInt = 0 := by decide
  have kk1 : (1 : Int32).toInt = 1 := by decide
  have kk2 : (2 : Int32).toInt = 2 := by decide
  have kk3 : (3 : Int32).toInt = 3 := by decide
  have kk4 : (4 : Int32).toInt = 4 := by decide
  have kk5 : (5 : Int32).toInt = 5 := by decide
  have kk6 : (6 : Int32).toInt = 6 := by decide
  have lk0 := hts (.fieldLink RX12 77 "AbbeyHoursModel" "guests" "[I") (by decide +kernel)
  refine lv_iconst (v := 0) hx hb dX12_allGuests_0 (by decide) ?_
  refine lv_istore_n (lv' := [(1, .int 0), (0, .ref h)]) hx hb dX12_allGuests_1 rfl hl (by decide) rfl (fun ls hl => ?_)
  refine lv_iconst (v := 0) hx hb dX12_allGuests_2 (by decide) ?_
  refine lv_istore_n (lv' := [(2, .int 0), (1, .int 0), (0, .ref h)]) hx hb dX12_allGuests_3 rfl hl (by decide) rfl (fun ls hl => ?_)
  refine lv_iload_n hx hb dX12_allGuests_4 rfl (lv_at hl 0 rfl) ?_
  refine lv_bipush (v := 6) hx hb dX12_allGuests_5 (by decide) ?_
  refine lv_icmp_ge (tgt := 25) hx hb dX12_allGuests_7 (by decide) (fun c_1 => ?_) (fun c_1 => ?_)
  · exact absurd c_1 (by decide)
  · have tc_1 := t_nle c_1
    refine lv_iload_n hx hb dX12_allGuests_10 rfl (lv_at hl 1 rfl) ?_
    refine lv_aload_n hx hb dX12_allGuests_11 rfl (lv_at hl 2 rfl) ?_
    refine va_get (D := D) (ci := 11) (v := .ref a_guests) (C := RX12) (T := TX12) (N := 54) hx hb hts in_m_allGuests_X12 hown hK.1 hP 0 rfl rfl 31 (by decide) lk0 (fun _ h9 => h9) rfl dX12_allGuests_12 ?_
    refine lv_iload_n hx hb dX12_allGuests_15 rfl (lv_at hl 0 rfl) ?_
    refine va_iald hx hb hK.1 hP 1 0 rfl rfl (t_in (by omega) (by omega)) dX12_allGuests_16 ?_
    refine lv_topi (fun y_2 ey_2 => ?_)
    refine lv_iadd hx hb dX12_allGuests_17 ?_
    refine lv_topi (fun x_3 ex_3 => ?_)
    refine lv_istore_n (lv' := [(1, .int x_3), (2, .int 0), (0, .ref h)]) hx hb dX12_allGuests_18 rfl hl (by decide) rfl (fun ls hl => ?_)
    obtain ⟨x_4, ex_4⟩ : ∃ y : Int32, y = 0 + 1 := ⟨_, rfl⟩
    obtain rfl : x_4 = 1 := by rw [ex_4]; decide
    refine lv_iinc (v := 1) (lv' := [(2, .int 1), (1, .int x_3), (0, .ref h)]) hx hb dX12_allGuests_19 hl (k := 1) rfl (by decide) (by decide) rfl (fun ls hl => ?_)
    refine lv_goto (tgt := 4) hx hb dX12_allGuests_22 (by decide) ?_
    refine lv_iload_n hx hb dX12_allGuests_4 rfl (lv_at hl 0 rfl) ?_
    refine lv_bipush (v := 6) hx hb dX12_allGuests_5 (by decide) ?_
    refine lv_icmp_ge (tgt := 25) hx hb dX12_allGuests_7 (by decide) (fun c_5 => ?_) (fun c_5 => ?_)
    · exact absurd c_5 (by decide)
    · have tc_5 := t_nle c_5
      refine lv_iload_n hx hb dX12_allGuests_10 rfl (lv_at hl 1 rfl) ?_
      refine lv_aload_n hx hb dX12_allGuests_11 rfl (lv_at hl 2 rfl) ?_
      refine va_get (D := D) (ci := 11) (v := .ref a_guests) (C := RX12) (T := TX12) (N := 54) hx hb hts in_m_allGuests_X12 hown hK.1 hP 0 rfl rfl 31 (by decide) lk0 (fun _ h9 => h9) rfl dX12_allGuests_12 ?_
      refine lv_iload_n hx hb dX12_allGuests_15 rfl (lv_at hl 0 rfl) ?_
      refine va_iald hx hb hK.1 hP 1 0 rfl rfl (t_in (by omega) (by omega)) dX12_allGuests_16 ?_
      refine lv_topi (fun y_6 ey_6 => ?_)
      refine lv_iadd hx hb dX12_allGuests_17 ?_
      refine lv_topi (fun x_7 ex_7 => ?_)
      refine lv_istore_n (lv' := [(1, .int x_7), (2, .int 1), (0, .ref h)]) hx hb dX12_allGuests_18 rfl hl (by decide) rfl (fun ls hl => ?_)
      obtain ⟨x_8, ex_8⟩ : ∃ y : Int32, y = 1 + 1 := ⟨_, rfl⟩
      obtain rfl : x_8 = 2 := by rw [ex_8]; decide
      refine lv_iinc (v := 2) (lv' := [(2, .int 2), (1, .int x_7), (0, .ref h)]) hx hb dX12_allGuests_19 hl (k := 1) rfl (by decide) (by decide) rfl (fun ls hl => ?_)
      refine lv_goto (tgt := 4) hx hb dX12_allGuests_22 (by decide) ?_
      refine lv_iload_n hx hb dX12_allGuests_4 rfl (lv_at hl 0 rfl) ?_
      refine lv_bipush (v := 6) hx hb dX12_allGuests_5 (by decide) ?_
      refine lv_icmp_ge (tgt := 25) hx hb dX12_allGuests_7 (by decide) (fun c_9 => ?_) (fun c_9 => ?_)
      · exact absurd c_9 (by decide)
      · have tc_9 := t_nle c_9
        refine lv_iload_n hx hb dX12_allGuests_10 rfl (lv_at hl 1 rfl) ?_
        refine lv_aload_n hx hb dX12_allGuests_11 rfl (lv_at hl 2 rfl) ?_
        refine va_get (D := D) (ci := 11) (v := .ref a_guests) (C := RX12) (T := TX12) (N := 54) hx hb hts in_m_allGuests_X12 hown hK.1 hP 0 rfl rfl 31 (by decide) lk0 (fun _ h9 => h9) rfl dX12_allGuests_12 ?_
        refine lv_iload_n hx hb dX12_allGuests_15 rfl (lv_at hl 0 rfl) ?_
        refine va_iald hx hb hK.1 hP 1 0 rfl rfl (t_in (by omega) (by omega)) dX12_allGuests_16 ?_
        refine lv_topi (fun y_10 ey_10 => ?_)
        refine lv_iadd hx hb dX12_allGuests_17 ?_
        refine lv_topi (fun x_11 ex_11 => ?_)
        refine lv_istore_n (lv' := [(1, .int x_11), (2, .int 2), (0, .ref h)]) hx hb dX12_allGuests_18 rfl hl (by decide) rfl (fun ls hl => ?_)
        obtain ⟨x_12, ex_12⟩ : ∃ y : Int32, y = 2 + 1 := ⟨_, rfl⟩
        obtain rfl : x_12 = 3 := by rw [ex_12]; decide
        refine lv_iinc (v := 3) (lv' := [(2, .int 3), (1, .int x_11), (0, .ref h)]) hx hb dX12_allGuests_19 hl (k := 1) rfl (by decide) (by decide) rfl (fun ls hl => ?_)
        refine lv_goto (tgt := 4) hx hb dX12_allGuests_22 (by decide) ?_
        refine lv_iload_n hx hb dX12_allGuests_4 rfl (lv_at hl 0 rfl) ?_
        refine lv_bipush (v := 6) hx hb dX12_allGuests_5 (by decide) ?_
        refine lv_icmp_ge (tgt := 25) hx hb dX12_allGuests_7 (by decide) (fun c_13 => ?_) (fun c_13 => ?_)
        · exact absurd c_13 (by decide)
        · have tc_13 := t_nle c_13
          refine lv_iload_n hx hb dX12_allGuests_10 rfl (lv_at hl 1 rfl) ?_
          refine lv_aload_n hx hb dX12_allGuests_11 rfl (lv_at hl 2 rfl) ?_
          refine va_get (D := D) (ci := 11) (v := .ref a_guests) (C := RX12) (T := TX12) (N := 54) hx hb hts in_m_allGuests_X12 hown hK.1 hP 0 rfl rfl 31 (by decide) lk0 (fun _ h9 => h9) rfl dX12_allGuests_12 ?_
          refine lv_iload_n hx hb dX12_allGuests_15 rfl (lv_at hl 0 rfl) ?_
          refine va_iald hx hb hK.1 hP 1 0 rfl rfl (t_in (by omega) (by omega)) dX12_allGuests_16 ?_
          refine lv_topi (fun y_14 ey_14 => ?_)
          refine lv_iadd hx hb dX12_allGuests_17 ?_
          refine lv_topi (fun x_15 ex_15 => ?_)
          refine lv_istore_n (lv' := [(1, .int x_15), (2, .int 3), (0, .ref h)]) hx hb dX12_allGuests_18 rfl hl (by decide) rfl (fun ls hl => ?_)
          obtain ⟨x_16, ex_16⟩ : ∃ y : Int32, y = 3 + 1 := ⟨_, rfl⟩
          obtain rfl : x_16 = 4 := by rw [ex_16]; decide
          refine lv_iinc (v := 4) (lv' := [(2, .int 4), (1, .int x_15), (0, .ref h)]) hx hb dX12_allGuests_19 hl (k := 1) rfl (by decide) (by decide) rfl (fun ls hl => ?_)
          refine lv_goto (tgt := 4) hx hb dX12_allGuests_22 (by decide) ?_
          refine lv_iload_n hx hb dX12_allGuests_4 rfl (lv_at hl 0 rfl) ?_
          refine lv_bipush (v := 6) hx hb dX12_allGuests_5 (by decide) ?_
          refine lv_icmp_ge (tgt := 25) hx hb dX12_allGuests_7 (by decide) (fun c_17 => ?_) (fun c_17 => ?_)
          · exact absurd c_17 (by decide)
          · have tc_17 := t_nle c_17
            refine lv_iload_n hx hb dX12_allGuests_10 rfl (lv_at hl 1 rfl) ?_
            refine lv_aload_n hx hb dX12_allGuests_11 rfl (lv_at hl 2 rfl) ?_
            refine va_get (D := D) (ci := 11) (v := .ref a_guests) (C := RX12) (T := TX12) (N := 54) hx hb hts in_m_allGuests_X12 hown hK.1 hP 0 rfl rfl 31 (by decide) lk0 (fun _ h9 => h9) rfl dX12_allGuests_12 ?_
            refine lv_iload_n hx hb dX12_allGuests_15 rfl (lv_at hl 0 rfl) ?_
            refine va_iald hx hb hK.1 hP 1 0 rfl rfl (t_in (by omega) (by omega)) dX12_allGuests_16 ?_
            refine lv_topi (fun y_18 ey_18 => ?_)
            refine lv_iadd hx hb dX12_allGuests_17 ?_
            refine lv_topi (fun x_19 ex_19 => ?_)
            refine lv_istore_n (lv' := [(1, .int x_19), (2, .int 4), (0, .ref h)]) hx hb dX12_allGuests_18 rfl hl (by decide) rfl (fun ls hl => ?_)
            obtain ⟨x_20, ex_20⟩ : ∃ y : Int32, y = 4 + 1 := ⟨_, rfl⟩
            obtain rfl : x_20 = 5 := by rw [ex_20]; decide
            refine lv_iinc (v := 5) (lv' := [(2, .int 5), (1, .int x_19), (0, .ref h)]) hx hb dX12_allGuests_19 hl (k := 1) rfl (by decide) (by decide) rfl (fun ls hl => ?_)
            refine lv_goto (tgt := 4) hx hb dX12_allGuests_22 (by decide) ?_
            refine lv_iload_n hx hb dX12_allGuests_4 rfl (lv_at hl 0 rfl) ?_
            refine lv_bipush (v := 6) hx hb dX12_allGuests_5 (by decide) ?_
            refine lv_icmp_ge (tgt := 25) hx hb dX12_allGuests_7 (by decide) (fun c_21 => ?_) (fun c_21 => ?_)
            · exact absurd c_21 (by decide)
            · have tc_21 := t_nle c_21
              refine lv_iload_n hx hb dX12_allGuests_10 rfl (lv_at hl 1 rfl) ?_
              refine lv_aload_n hx hb dX12_allGuests_11 rfl (lv_at hl 2 rfl) ?_
              refine va_get (D := D) (ci := 11) (v := .ref a_guests) (C := RX12) (T := TX12) (N := 54) hx hb hts in_m_allGuests_X12 hown hK.1 hP 0 rfl rfl 31 (by decide) lk0 (fun _ h9 => h9) rfl dX12_allGuests_12 ?_
              refine lv_iload_n hx hb dX12_allGuests_15 rfl (lv_at hl 0 rfl) ?_
              refine va_iald hx hb hK.1 hP 1 0 rfl rfl (t_in (by omega) (by omega)) dX12_allGuests_16 ?_
              refine lv_topi (fun y_22 ey_22 => ?_)
              refine lv_iadd hx hb dX12_allGuests_17 ?_
              refine lv_topi (fun x_23 ex_23 => ?_)
              refine lv_istore_n (lv' := [(1, .int x_23), (2, .int 5), (0, .ref h)]) hx hb dX12_allGuests_18 rfl hl (by decide) rfl (fun ls hl => ?_)
              obtain ⟨x_24, ex_24⟩ : ∃ y : Int32, y = 5 + 1 := ⟨_, rfl⟩
              obtain rfl : x_24 = 6 := by rw [ex_24]; decide
              refine lv_iinc (v := 6) (lv' := [(2, .int 6), (1, .int x_23), (0, .ref h)]) hx hb dX12_allGuests_19 hl (k := 1) rfl (by decide) (by decide) rfl (fun ls hl => ?_)
              refine lv_goto (tgt := 4) hx hb dX12_allGuests_22 (by decide) ?_
              refine lv_iload_n hx hb dX12_allGuests_4 rfl (lv_at hl 0 rfl) ?_
              refine lv_bipush (v := 6) hx hb dX12_allGuests_5 (by decide) ?_
              refine lv_icmp_ge (tgt := 25) hx hb dX12_allGuests_7 (by decide) (fun c_25 => ?_) (fun c_25 => ?_)
              · have tc_25 := t_le c_25
                refine lv_iload_n hx hb dX12_allGuests_25 rfl (lv_at hl 1 rfl) ?_
                exact hret x_23 _ _ (by subst_vars; rfl) rfl dX12_allGuests_26
              · exact absurd c_25 (by decide)

theorem in_m_four_X12 : ∀ w ∈ wsX120, w ∈ wsX12_four := by decide +kernel
set_option maxHeartbeats 8000000 in
set_option maxRecDepth 100000 in
theorem m_four {l : Launch} {D : va_G} {cI cZ cB : ClassId} {sz : Nat} {h a_isPriest a_bars a_joined a_turns a_awayMonk a_awayFrom a_awayTo a_feastDay a_rank a_isWeekly a_isDouble a_giftDay a_giftFrom a_owed a_said a_spared a_leaveGift a_leaveFrom a_leaveTo a_lateDay a_lateOffice a_lateBy a_guests a_who a_used a_lacks a_candles a_masses a_owing a_heldOn a_waits a_tape a_text a_statements a_taken a_sort a_first a_second : Nat} {v_taped : Int32} {f_tape : Nat → Int32} {x : Int32} (hw0 : 0 ≤ v_taped.toInt) (hw1 : v_taped.toInt ≤ 596) : Met l yX12_four wsX12_four ({ frames := 0, cells := 0, slots := 0, locals := 0 }) (RW D cI cZ cB [.ref h, .int x] sz [(h, .inr (11, [.int 0, .int 0, .int 0, .int 0, .int 0, .int 0, .int 0, .int 0, .int 0, .ref a_isPriest, .ref a_bars, .ref a_joined, .ref a_turns, .ref a_awayMonk, .ref a_awayFrom, .ref a_awayTo, .ref a_feastDay, .ref a_rank, .ref a_isWeekly, .ref a_isDouble, .ref a_giftDay, .ref a_giftFrom, .ref a_owed, .ref a_said, .ref a_spared, .ref a_leaveGift, .ref a_leaveFrom, .ref a_leaveTo, .ref a_lateDay, .ref a_lateOffice, .ref a_lateBy, .ref a_guests, .ref a_who, .ref a_used, .ref a_lacks, .ref a_candles, .ref a_masses, .ref a_owing, .ref a_heldOn, .ref a_waits, .ref a_tape, .ref a_text, .int v_taped, .int 0, .int 0, .int (-1), .int 0, .ref a_statements, .ref a_taken, .ref a_sort, .ref a_first, .ref a_second, .int 0, .int 0])), (a_tape, .inl (cB, 600, .inl f_tape))]) (va_Qv (fun u : Int32 × Nat → Int32 => u.1.toInt = v_taped.toInt + 4) (BW D [(h, .inr (11, [.int 0, .int 0, .int 0, .int 0, .int 0, .int 0, .int 0, .int 0, .int 0, .ref a_isPriest, .ref a_bars, .ref a_joined, .ref a_turns, .ref a_awayMonk, .ref a_awayFrom, .ref a_awayTo, .ref a_feastDay, .ref a_rank, .ref a_isWeekly, .ref a_isDouble, .ref a_giftDay, .ref a_giftFrom, .ref a_owed, .ref a_said, .ref a_spared, .ref a_leaveGift, .ref a_leaveFrom, .ref a_leaveTo, .ref a_lateDay, .ref a_lateOffice, .ref a_lateBy, .ref a_guests, .ref a_who, .ref a_used, .ref a_lacks, .ref a_candles, .ref a_masses, .ref a_owing, .ref a_heldOn, .ref a_waits, .ref a_tape, .ref a_text, .int v_taped, .int 0, .int 0, .int (-1), .int 0, .ref a_statements, .ref a_taken, .ref a_sort, .ref a_first, .ref a_second, .int 0, .int 0])), (a_tape, .inl (cB, 600, .inl f_tape))] sz (fun u : Int32 × Nat → Int32 => [(h, .inr (11, [.int 0, .int 0, .int 0, .int 0, .int 0, .int 0, .int 0, .int 0, .int 0, .ref a_isPriest, .ref a_bars, .ref a_joined, .ref a_turns, .ref a_awayMonk, .ref a_awayFrom, .ref a_awayTo, .ref a_feastDay, .ref a_rank, .ref a_isWeekly, .ref a_isDouble, .ref a_giftDay, .ref a_giftFrom, .ref a_owed, .ref a_said, .ref a_spared, .ref a_leaveGift, .ref a_leaveFrom, .ref a_leaveTo, .ref a_lateDay, .ref a_lateOffice, .ref a_lateBy, .ref a_guests, .ref a_who, .ref a_used, .ref a_lacks, .ref a_candles, .ref a_masses, .ref a_owing, .ref a_heldOn, .ref a_waits, .ref a_tape, .ref a_text, .int u.1, .int 0, .int 0, .int (-1), .int 0, .ref a_statements, .ref a_taken, .ref a_sort, .ref a_first, .ref a_second, .int 0, .int 0])), (a_tape, .inl (cB, 600, .inl u.2))])) (va_A [(h, .inr (11, [.int 0, .int 0, .int 0, .int 0, .int 0, .int 0, .int 0, .int 0, .int 0, .ref a_isPriest, .ref a_bars, .ref a_joined, .ref a_turns, .ref a_awayMonk, .ref a_awayFrom, .ref a_awayTo, .ref a_feastDay, .ref a_rank, .ref a_isWeekly, .ref a_isDouble, .ref a_giftDay, .ref a_giftFrom, .ref a_owed, .ref a_said, .ref a_spared, .ref a_leaveGift, .ref a_leaveFrom, .ref a_leaveTo, .ref a_lateDay, .ref a_lateOffice, .ref a_lateBy, .ref a_guests, .ref a_who, .ref a_used, .ref a_lacks, .ref a_candles, .ref a_masses, .ref a_owing, .ref a_heldOn, .ref a_waits, .ref a_tape, .ref a_text, .int v_taped, .int 0, .int 0, .int (-1), .int 0, .ref a_statements, .ref a_taken, .ref a_sort, .ref a_first, .ref a_second, .int 0, .int 0])), (a_tape, .inl (cB, 600, .inl f_tape))] sz)) 0 0 (va_A [(h, .inr (11, [.int 0, .int 0, .int 0, .int 0, .int 0, .int 0, .int 0, .int 0, .int 0, .ref a_isPriest, .ref a_bars, .ref a_joined, .ref a_turns, .ref a_awayMonk, .ref a_awayFrom, .ref a_awayTo, .ref a_feastDay, .ref a_rank, .ref a_isWeekly, .ref a_isDouble, .ref a_giftDay, .ref a_giftFrom, .ref a_owed, .ref a_said, .ref a_spared, .ref a_leaveGift, .ref a_leaveFrom, .ref a_leaveTo, .ref a_lateDay, .ref a_lateOffice, .ref a_lateBy, .ref a_guests, .ref a_who, .ref a_used, .ref a_lacks, .ref a_candles, .ref a_masses, .ref a_owing, .ref a_heldOn, .ref a_waits, .ref a_tape, .ref a_text, .int v_taped, .int 0, .int 0, .int (-1), .int 0, .ref a_statements, .ref a_taken, .ref a_sort, .ref a_first, .ref a_second, .int 0, .int 0])), (a_tape, .inl (cB, 600, .inl f_tape))] sz) := by
  refine rw_retv (cc := cX12_four) (maxL := 3) (own := RX12) (by decide) rfl rfl (Nat.le_of_ble_eq_true rfl) ?_
  intro p e s m args below meth c Q A S hin hret hP hK hD hA hS ls hl
  obtain ⟨hx, hb, hml, hown, hts⟩ := id S
  have hl : lv_has ls 3 [(0, .ref h), (1, .int x)] := hl
  have kkm8 : (-8 : Int32).toInt = -8 := by decide
  have kk0 : (0 : Int32).toInt = 0 := by decide
  have kk1 : (1 : Int32).toInt = 1 := by decide
  have kk24 : (24 : Int32).toInt = 24 := by decide
  have lk0 := hts (.fieldLink RX12 104 "AbbeyHoursModel" "tape" "[B") (by decide +kernel)
  have lk1 := hts (.fieldLink RX12 185 "AbbeyHoursModel" "taped" "I") (by decide +kernel)
  refine lv_bipush (v := 24) hx hb dX12_four_0 (by decide) ?_
  refine lv_istore_n (lv' := [(2, .int 24), (0, .ref h), (1, .int x)]) hx hb dX12_four_2 rfl hl (by decide) rfl (fun ls hl => ?_)
  have loop3 : ∀ (n : Nat) (i : Int32) (w : Int32) (fb : Nat → Int32), i.toInt + 8 < (n : Int) → -8 ≤ i.toInt → i.toInt ≤ 24 → (24 - i.toInt) % 8 = 0 → 8 * w.toInt = 8 * v_taped.toInt + (24 - i.toInt) → ∀ (H : Heap) (locs : List Loc), va_P D vwCl [(h, .inr (11, [.int 0, .int 0, .int 0, .int 0, .int 0, .int 0, .int 0, .int 0, .int 0, .ref a_isPriest, .ref a_bars, .ref a_joined, .ref a_turns, .ref a_awayMonk, .ref a_awayFrom, .ref a_awayTo, .ref a_feastDay, .ref a_rank, .ref a_isWeekly, .ref a_isDouble, .ref a_giftDay, .ref a_giftFrom, .ref a_owed, .ref a_said, .ref a_spared, .ref a_leaveGift, .ref a_leaveFrom, .ref a_leaveTo, .ref a_lateDay, .ref a_lateOffice, .ref a_lateBy, .ref a_guests, .ref a_who, .ref a_used, .ref a_lacks, .ref a_candles, .ref a_masses, .ref a_owing, .ref a_heldOn, .ref a_waits, .ref a_tape, .ref a_text, .int w, .int 0, .int 0, .int (-1), .int 0, .ref a_statements, .ref a_taken, .ref a_sort, .ref a_first, .ref a_second, .int 0, .int 0])), (a_tape, .inl (cB, 600, .inl fb))] H → va_D A [(h, .inr (11, [.int 0, .int 0, .int 0, .int 0, .int 0, .int 0, .int 0, .int 0, .int 0, .ref a_isPriest, .ref a_bars, .ref a_joined, .ref a_turns, .ref a_awayMonk, .ref a_awayFrom, .ref a_awayTo, .ref a_feastDay, .ref a_rank, .ref a_isWeekly, .ref a_isDouble, .ref a_giftDay, .ref a_giftFrom, .ref a_owed, .ref a_said, .ref a_spared, .ref a_leaveGift, .ref a_leaveFrom, .ref a_leaveTo, .ref a_lateDay, .ref a_lateOffice, .ref a_lateBy, .ref a_guests, .ref a_who, .ref a_used, .ref a_lacks, .ref a_candles, .ref a_masses, .ref a_owing, .ref a_heldOn, .ref a_waits, .ref a_tape, .ref a_text, .int w, .int 0, .int 0, .int (-1), .int 0, .ref a_statements, .ref a_taken, .ref a_sort, .ref a_first, .ref a_second, .int 0, .int 0])), (a_tape, .inl (cB, 600, .inl fb))] → va_S A s.heap H locs → ∀ ls : Array Slot, lv_has ls 3 [(2, .int i), (0, .ref h), (1, .int x)] → W p l e ({ frames := 0, cells := 0, slots := 0, locals := 0 } : Room) s m args below meth c H locs 0 0 Q (F0 m 3 ls []) := by
    intro n
    induction n with
    | zero =>
      intro i w fb hmu hi0 hi1 hi8 hw2 H locs hP hD hS ls hl
      exfalso; omega
    | succ n ih3 =>
      intro i w fb hmu hi0 hi1 hi8 hw2 H locs hP hD hS ls hl
      refine lv_iload_n hx hb dX12_four_3 rfl (lv_at hl 0 rfl) ?_
      refine lv_if_lt (tgt := 36) hx hb dX12_four_4 (by decide) (fun c_1 => ?_) (fun c_1 => ?_)
      · have tc_1 := t_lt c_1
        exact hret (w, fb) _ _ _ _ (by omega) (hP.sub [0, 1] rfl) (hD.sub [0, 1] (by decide) rfl) hS dX12_four_36
      · have tc_1 := t_nlt c_1
        refine lv_aload_n hx hb dX12_four_7 rfl (lv_at hl 1 rfl) ?_
        refine va_get (D := D) (ci := 11) (v := .ref a_tape) (C := RX12) (T := TX12) (N := 54) hx hb hts in_m_four_X12 hown hK.1 hP 0 rfl rfl 40 (by decide) lk0 (fun _ h9 => h9) rfl dX12_four_8 ?_
        refine lv_aload_n hx hb dX12_four_11 rfl (lv_at hl 1 rfl) ?_
        refine va_get (D := D) (ci := 11) (v := .int w) (C := RX12) (T := TX12) (N := 54) hx hb hts in_m_four_X12 hown hK.1 hP 0 rfl rfl 42 (by decide) lk1 (fun _ h9 => h9) rfl dX12_four_12 ?_
        refine lv_iload_n hx hb dX12_four_15 rfl (lv_at hl 2 rfl) ?_
        refine lv_iload_n hx hb dX12_four_16 rfl (lv_at hl 0 rfl) ?_
        refine lv_ishr hx hb dX12_four_17 ?_
        refine lv_topi (fun x_2 ex_2 => ?_)
        refine lv_i2b hx hb dX12_four_18 rfl ?_
        refine lv_topi (fun x_3 ex_3 => ?_)
        refine va_bast hx hb hK.1 hP hD hS 1 2 rfl rfl (t_in (by omega) (by omega)) dX12_four_19 (fun H locs hP hD hS => ?_)
        obtain ⟨g_4, eg_4⟩ : ∃ z : Nat → Int32, z = upd fb ((w : Int32).toNatClampNeg) (vp_nar .byte x_3) := ⟨_, rfl⟩
        rw [← eg_4] at hP hD
        have hP : va_P D vwCl [(h, .inr (11, [.int 0, .int 0, .int 0, .int 0, .int 0, .int 0, .int 0, .int 0, .int 0, .ref a_isPriest, .ref a_bars, .ref a_joined, .ref a_turns, .ref a_awayMonk, .ref a_awayFrom, .ref a_awayTo, .ref a_feastDay, .ref a_rank, .ref a_isWeekly, .ref a_isDouble, .ref a_giftDay, .ref a_giftFrom, .ref a_owed, .ref a_said, .ref a_spared, .ref a_leaveGift, .ref a_leaveFrom, .ref a_leaveTo, .ref a_lateDay, .ref a_lateOffice, .ref a_lateBy, .ref a_guests, .ref a_who, .ref a_used, .ref a_lacks, .ref a_candles, .ref a_masses, .ref a_owing, .ref a_heldOn, .ref a_waits, .ref a_tape, .ref a_text, .int w, .int 0, .int 0, .int (-1), .int 0, .ref a_statements, .ref a_taken, .ref a_sort, .ref a_first, .ref a_second, .int 0, .int 0])), (a_tape, .inl (cB, 600, .inl g_4))] H := hP
        have hD : va_D A [(h, .inr (11, [.int 0, .int 0, .int 0, .int 0, .int 0, .int 0, .int 0, .int 0, .int 0, .ref a_isPriest, .ref a_bars, .ref a_joined, .ref a_turns, .ref a_awayMonk, .ref a_awayFrom, .ref a_awayTo, .ref a_feastDay, .ref a_rank, .ref a_isWeekly, .ref a_isDouble, .ref a_giftDay, .ref a_giftFrom, .ref a_owed, .ref a_said, .ref a_spared, .ref a_leaveGift, .ref a_leaveFrom, .ref a_leaveTo, .ref a_lateDay, .ref a_lateOffice, .ref a_lateBy, .ref a_guests, .ref a_who, .ref a_used, .ref a_lacks, .ref a_candles, .ref a_masses, .ref a_owing, .ref a_heldOn, .ref a_waits, .ref a_tape, .ref a_text, .int w, .int 0, .int 0, .int (-1), .int 0, .ref a_statements, .ref a_taken, .ref a_sort, .ref a_first, .ref a_second, .int 0, .int 0])), (a_tape, .inl (cB, 600, .inl g_4))] := hD
        refine lv_aload_n hx hb dX12_four_20 rfl (lv_at hl 1 rfl) ?_
        refine lv_dup hx hb dX12_four_21 rfl ?_
        refine va_get (D := D) (ci := 11) (v := .int w) (C := RX12) (T := TX12) (N := 54) hx hb hts in_m_four_X12 hown hK.1 hP 0 rfl rfl 42 (by decide) lk1 (fun _ h9 => h9) rfl dX12_four_22 ?_
        refine lv_iconst (v := 1) hx hb dX12_four_25 (by decide) ?_
        refine lv_iadd hx hb dX12_four_26 ?_
        refine lv_topi (fun x_5 ex_5 => ?_)
        first | have tx_5 := t_add ex_5 (by omega) (by omega) | skip
        refine va_put (D := D) (ci := 11) (v := .int x_5) (ty := .int) (C := RX12) (T := TX12) (N := 54) hx hb hts in_m_four_X12 tyX12 tyX12_ok nmX12 hown hK.1 hP hD hS 0 rfl rfl 42 (by decide) lk1 (fun _ h9 => h9) rfl (by decide +kernel) rfl rfl (Nat.le_of_ble_eq_true rfl) dX12_four_27 (fun H locs hP hD hS => ?_)
        have hP : va_P D vwCl [(h, .inr (11, [.int 0, .int 0, .int 0, .int 0, .int 0, .int 0, .int 0, .int 0, .int 0, .ref a_isPriest, .ref a_bars, .ref a_joined, .ref a_turns, .ref a_awayMonk, .ref a_awayFrom, .ref a_awayTo, .ref a_feastDay, .ref a_rank, .ref a_isWeekly, .ref a_isDouble, .ref a_giftDay, .ref a_giftFrom, .ref a_owed, .ref a_said, .ref a_spared, .ref a_leaveGift, .ref a_leaveFrom, .ref a_leaveTo, .ref a_lateDay, .ref a_lateOffice, .ref a_lateBy, .ref a_guests, .ref a_who, .ref a_used, .ref a_lacks, .ref a_candles, .ref a_masses, .ref a_owing, .ref a_heldOn, .ref a_waits, .ref a_tape, .ref a_text, .int x_5, .int 0, .int 0, .int (-1), .int 0, .ref a_statements, .ref a_taken, .ref a_sort, .ref a_first, .ref a_second, .int 0, .int 0])), (a_tape, .inl (cB, 600, .inl g_4))] H := hP
        have hD : va_D A [(h, .inr (11, [.int 0, .int 0, .int 0, .int 0, .int 0, .int 0, .int 0, .int 0, .int 0, .ref a_isPriest, .ref a_bars, .ref a_joined, .ref a_turns, .ref a_awayMonk, .ref a_awayFrom, .ref a_awayTo, .ref a_feastDay, .ref a_rank, .ref a_isWeekly, .ref a_isDouble, .ref a_giftDay, .ref a_giftFrom, .ref a_owed, .ref a_said, .ref a_spared, .ref a_leaveGift, .ref a_leaveFrom, .ref a_leaveTo, .ref a_lateDay, .ref a_lateOffice, .ref a_lateBy, .ref a_guests, .ref a_who, .ref a_used, .ref a_lacks, .ref a_candles, .ref a_masses, .ref a_owing, .ref a_heldOn, .ref a_waits, .ref a_tape, .ref a_text, .int x_5, .int 0, .int 0, .int (-1), .int 0, .ref a_statements, .ref a_taken, .ref a_sort, .ref a_first, .ref a_second, .int 0, .int 0])), (a_tape, .inl (cB, 600, .inl g_4))] := hD
        obtain ⟨x_6, ex_6⟩ : ∃ y : Int32, y = i + (-8) := ⟨_, rfl⟩
        refine lv_iinc (v := x_6) (lv' := [(2, .int x_6), (0, .ref h), (1, .int x)]) hx hb dX12_four_30 hl (k := 0) rfl (by rw [ex_6]; rfl) (by decide) rfl (fun ls hl => ?_)
        first | have tx_6 := t_add ex_6 (by omega) (by omega) | skip
        refine lv_goto (tgt := 3) hx hb dX12_four_33 (by decide) ?_
        exact ih3 x_6 x_5 g_4 (by omega) (by omega) (by omega) (by omega) (by omega) _ _ hP hD hS ls (lv_sub hl [0, 1, 2] rfl)
  exact loop3 ((24.toInt + 8).toNat + 1) 24 v_taped f_tape (by omega) (by omega) (by omega) (by omega) (by omega) _ _ hP hD hS ls (lv_sub hl [0, 1, 2] rfl)

theorem in_m_blanks0_X12 : ∀ w ∈ wsX120, w ∈ wsX12_blanks := by decide +kernel
set_option maxHeartbeats 8000000 in
set_option maxRecDepth 100000 in
theorem m_blanks0 {l : Launch} {D : va_G} {cI cZ cB : ClassId} {sz : Nat} {h a_isPriest a_bars a_joined a_turns a_awayMonk a_awayFrom a_awayTo a_feastDay a_rank a_isWeekly a_isDouble a_giftDay a_giftFrom a_owed a_said a_spared a_leaveGift a_leaveFrom a_leaveTo a_lateDay a_lateOffice a_lateBy a_guests a_who a_used a_lacks a_candles a_masses a_owing a_heldOn a_waits a_tape a_text a_statements a_taken a_sort a_first a_second : Nat} {v_size : Int32}  (hz : v_size.toInt ≤ 0) : Met l yX12_blanks wsX12_blanks ({ frames := 0, cells := 0, slots := 0, locals := 0 }) (RW D cI cZ cB [.ref h] sz [(h, .inr (11, [.int 0, .int 0, .int 0, .int 0, .int 0, .int 0, .int 0, .int 0, .int 0, .ref a_isPriest, .ref a_bars, .ref a_joined, .ref a_turns, .ref a_awayMonk, .ref a_awayFrom, .ref a_awayTo, .ref a_feastDay, .ref a_rank, .ref a_isWeekly, .ref a_isDouble, .ref a_giftDay, .ref a_giftFrom, .ref a_owed, .ref a_said, .ref a_spared, .ref a_leaveGift, .ref a_leaveFrom, .ref a_leaveTo, .ref a_lateDay, .ref a_lateOffice, .ref a_lateBy, .ref a_guests, .ref a_who, .ref a_used, .ref a_lacks, .ref a_candles, .ref a_masses, .ref a_owing, .ref a_heldOn, .ref a_waits, .ref a_tape, .ref a_text, .int 0, .int v_size, .int 0, .int (-1), .int 0, .ref a_statements, .ref a_taken, .ref a_sort, .ref a_first, .ref a_second, .int 0, .int 0]))]) (va_Qv (fun u : Int32 => u = v_size) (BW D [(h, .inr (11, [.int 0, .int 0, .int 0, .int 0, .int 0, .int 0, .int 0, .int 0, .int 0, .ref a_isPriest, .ref a_bars, .ref a_joined, .ref a_turns, .ref a_awayMonk, .ref a_awayFrom, .ref a_awayTo, .ref a_feastDay, .ref a_rank, .ref a_isWeekly, .ref a_isDouble, .ref a_giftDay, .ref a_giftFrom, .ref a_owed, .ref a_said, .ref a_spared, .ref a_leaveGift, .ref a_leaveFrom, .ref a_leaveTo, .ref a_lateDay, .ref a_lateOffice, .ref a_lateBy, .ref a_guests, .ref a_who, .ref a_used, .ref a_lacks, .ref a_candles, .ref a_masses, .ref a_owing, .ref a_heldOn, .ref a_waits, .ref a_tape, .ref a_text, .int 0, .int v_size, .int 0, .int (-1), .int 0, .ref a_statements, .ref a_taken, .ref a_sort, .ref a_first, .ref a_second, .int 0, .int 0]))] sz (fun u : Int32 => [(h, .inr (11, [.int 0, .int 0, .int 0, .int 0, .int 0, .int 0, .int 0, .int 0, .int 0, .ref a_isPriest, .ref a_bars, .ref a_joined, .ref a_turns, .ref a_awayMonk, .ref a_awayFrom, .ref a_awayTo, .ref a_feastDay, .ref a_rank, .ref a_isWeekly, .ref a_isDouble, .ref a_giftDay, .ref a_giftFrom, .ref a_owed, .ref a_said, .ref a_spared, .ref a_leaveGift, .ref a_leaveFrom, .ref a_leaveTo, .ref a_lateDay, .ref a_lateOffice, .ref a_lateBy, .ref a_guests, .ref a_who, .ref a_used, .ref a_lacks, .ref a_candles, .ref a_masses, .ref a_owing, .ref a_heldOn, .ref a_waits, .ref a_tape, .ref a_text, .int 0, .int u, .int 0, .int (-1), .int 0, .ref a_statements, .ref a_taken, .ref a_sort, .ref a_first, .ref a_second, .int 0, .int 0]))])) (va_A [(h, .inr (11, [.int 0, .int 0, .int 0, .int 0, .int 0, .int 0, .int 0, .int 0, .int 0, .ref a_isPriest, .ref a_bars, .ref a_joined, .ref a_turns, .ref a_awayMonk, .ref a_awayFrom, .ref a_awayTo, .ref a_feastDay, .ref a_rank, .ref a_isWeekly, .ref a_isDouble, .ref a_giftDay, .ref a_giftFrom, .ref a_owed, .ref a_said, .ref a_spared, .ref a_leaveGift, .ref a_leaveFrom, .ref a_leaveTo, .ref a_lateDay, .ref a_lateOffice, .ref a_lateBy, .ref a_guests, .ref a_who, .ref a_used, .ref a_lacks, .ref a_candles, .ref a_masses, .ref a_owing, .ref a_heldOn, .ref a_waits, .ref a_tape, .ref a_text, .int 0, .int v_size, .int 0, .int (-1), .int 0, .ref a_statements, .ref a_taken, .ref a_sort, .ref a_first, .ref a_second, .int 0, .int 0]))] sz)) 0 0 (va_A [(h, .inr (11, [.int 0, .int 0, .int 0, .int 0, .int 0, .int 0, .int 0, .int 0, .int 0, .ref a_isPriest, .ref a_bars, .ref a_joined, .ref a_turns, .ref a_awayMonk, .ref a_awayFrom, .ref a_awayTo, .ref a_feastDay, .ref a_rank, .ref a_isWeekly, .ref a_isDouble, .ref a_giftDay, .ref a_giftFrom, .ref a_owed, .ref a_said, .ref a_spared, .ref a_leaveGift, .ref a_leaveFrom, .ref a_leaveTo, .ref a_lateDay, .ref a_lateOffice, .ref a_lateBy, .ref a_guests, .ref a_who, .ref a_used, .ref a_lacks, .ref a_candles, .ref a_masses, .ref a_owing, .ref a_heldOn, .ref a_waits, .ref a_tape, .ref a_text, .int 0, .int v_size, .int 0, .int (-1), .int 0, .ref a_statements, .ref a_taken, .ref a_sort, .ref a_first, .ref a_second, .int 0, .int 0]))] sz) := by
  refine rw_retv (cc := cX12_blanks) (maxL := 1) (own := RX12) (by decide) rfl rfl (Nat.le_of_ble_eq_true rfl) ?_
  intro p e s m args below meth c Q A S hin hret hP hK hD hA hS ls hl
  obtain ⟨hx, hb, hml, hown, hts⟩ := id S
  have hl : lv_has ls 1 [(0, .ref h)] := hl
  have kk0 : (0 : Int32).toInt = 0 := by decide
  have kk1 : (1 : Int32).toInt = 1 := by decide
  have kk10 : (10 : Int32).toInt = 10 := by decide
  have kk32 : (32 : Int32).toInt = 32 := by decide
  have lk0 := hts (.fieldLink RX12 192 "AbbeyHoursModel" "at" "I") (by decide +kernel)
  have lk1 := hts (.fieldLink RX12 195 "AbbeyHoursModel" "size" "I") (by decide +kernel)
  refine lv_aload_n hx hb dX12_blanks_0 rfl (lv_at hl 0 rfl) ?_
  refine va_get (D := D) (ci := 11) (v := .int 0) (C := RX12) (T := TX12) (N := 54) hx hb hts in_m_blanks0_X12 hown hK.1 hP 0 rfl rfl 44 (by decide) lk0 (fun _ h9 => h9) rfl dX12_blanks_1 ?_
  refine lv_aload_n hx hb dX12_blanks_4 rfl (lv_at hl 0 rfl) ?_
  refine va_get (D := D) (ci := 11) (v := .int v_size) (C := RX12) (T := TX12) (N := 54) hx hb hts in_m_blanks0_X12 hown hK.1 hP 0 rfl rfl 43 (by decide) lk1 (fun _ h9 => h9) rfl dX12_blanks_5 ?_
  refine lv_icmp_ge (tgt := 52) hx hb dX12_blanks_8 (by decide) (fun c_1 => ?_) (fun c_1 => ?_)
  · have tc_1 := t_le c_1
    exact hret v_size _ _ _ _ (rfl) (hP.sub [0] rfl) (hD.sub [0] (by decide) rfl) hS dX12_blanks_52
  · have tc_1 := t_nle c_1
    exfalso; omega

theorem in_m_nextFor_X12 : ∀ w ∈ wsX120, w ∈ wsX12_nextFor := by decide +kernel
set_option maxHeartbeats 8000000 in
set_option maxRecDepth 100000 in
theorem m_nextFor {l : Launch} {D : va_G} {cI cZ cB : ClassId} {h a_isPriest a_bars a_joined a_turns a_awayMonk a_awayFrom a_awayTo a_feastDay a_rank a_isWeekly a_isDouble a_giftDay a_giftFrom a_owed a_said a_spared a_leaveGift a_leaveFrom a_leaveTo a_lateDay a_lateOffice a_lateBy a_guests a_who a_used a_lacks a_candles a_masses a_owing a_heldOn a_waits a_tape a_text a_statements a_taken a_sort a_first a_second : Nat} {k d b : Int32}  : Met l yX12_nextFor wsX12_nextFor ({ frames := 0, cells := 0, slots := 0, locals := 0 }) (RO D cI cZ cB [.ref h, .int k, .int d, .int b] [(h, .inr (11, [.int 0, .int 0, .int 0, .int 0, .int 0, .int 0, .int 0, .int 0, .int 0, .ref a_isPriest, .ref a_bars, .ref a_joined, .ref a_turns, .ref a_awayMonk, .ref a_awayFrom, .ref a_awayTo, .ref a_feastDay, .ref a_rank, .ref a_isWeekly, .ref a_isDouble, .ref a_giftDay, .ref a_giftFrom, .ref a_owed, .ref a_said, .ref a_spared, .ref a_leaveGift, .ref a_leaveFrom, .ref a_leaveTo, .ref a_lateDay, .ref a_lateOffice, .ref a_lateBy, .ref a_guests, .ref a_who, .ref a_used, .ref a_lacks, .ref a_candles, .ref a_masses, .ref a_owing, .ref a_heldOn, .ref a_waits, .ref a_tape, .ref a_text, .int 0, .int 0, .int 0, .int (-1), .int 0, .ref a_statements, .ref a_taken, .ref a_sort, .ref a_first, .ref a_second, .int 0, .int 0]))]) (vp_Si (fun r : Int32 => r.toInt = -1)) 0 0 (fun _ => False) := by
  refine ro_ret (cc := cX12_nextFor) (maxL := 6) (ty := .int) (own := RX12) (by decide) rfl rfl (Nat.le_of_ble_eq_true rfl) ?_
  intro p e s m args below meth c Q S hret hP hK ls hl
  obtain ⟨hx, hb, hml, hown, hts⟩ := id S
  have hl : lv_has ls 6 [(0, .ref h), (1, .int k), (2, .int d), (3, .int b)] := hl
  have kkm1 : (-1 : Int32).toInt = -1 := by decide
  have kk0 : (0 : Int32).toInt = 0 := by decide
  have kk1 : (1 : Int32).toInt = 1 := by decide
  have kk4 : (4 : Int32).toInt = 4 := by decide
  have lk0 := hts (.fieldLink RX12 134 "AbbeyHoursModel" "monks" "I") (by decide +kernel)
  refine lv_iconst (v := (-1)) hx hb dX12_nextFor_0 (by decide) ?_
  refine lv_istore (lv' := [(4, .int (-1)), (0, .ref h), (1, .int k), (2, .int d), (3, .int b)]) hx hb dX12_nextFor_1 hl (by decide) rfl (fun ls hl => ?_)
  refine lv_iconst (v := 0) hx hb dX12_nextFor_3 (by decide) ?_
  refine lv_istore (lv' := [(5, .int 0), (4, .int (-1)), (0, .ref h), (1, .int k), (2, .int d), (3, .int b)]) hx hb dX12_nextFor_4 hl (by decide) rfl (fun ls hl => ?_)
  refine lv_iload hx hb dX12_nextFor_6 (lv_at hl 0 rfl) ?_
  refine lv_aload_n hx hb dX12_nextFor_8 rfl (lv_at hl 2 rfl) ?_
  refine va_get (D := D) (ci := 11) (v := .int 0) (C := RX12) (T := TX12) (N := 54) hx hb hts in_m_nextFor_X12 hown hK.1 hP 0 rfl rfl 1 (by decide) lk0 (fun _ h9 => h9) rfl dX12_nextFor_9 ?_
  refine lv_icmp_ge (tgt := 100) hx hb dX12_nextFor_12 (by decide) (fun c_1 => ?_) (fun c_1 => ?_)
  · have tc_1 := t_le c_1
    refine lv_iload hx hb dX12_nextFor_100 (lv_at hl 1 rfl) ?_
    exact hret (-1) _ _ (by omega) rfl dX12_nextFor_102
  · exact absurd c_1 (by decide)

theorem in_m_has_X12 : ∀ w ∈ wsX120, w ∈ wsX12_has := by decide +kernel
set_option maxHeartbeats 8000000 in
set_option maxRecDepth 100000 in
theorem m_has {l : Launch} {D : va_G} {cI cZ cB : ClassId} {sz : Nat} {h a_isPriest a_bars a_joined a_turns a_awayMonk a_awayFrom a_awayTo a_feastDay a_rank a_isWeekly a_isDouble a_giftDay a_giftFrom a_owed a_said a_spared a_leaveGift a_leaveFrom a_leaveTo a_lateDay a_lateOffice a_lateBy a_guests a_who a_used a_lacks a_candles a_masses a_owing a_heldOn a_waits a_tape a_text a_statements a_taken a_sort a_first a_second : Nat} {f_who : Nat → Int32} {i k d : Int32} (hi : i.toInt = -1) (hk0 : 0 ≤ k.toInt) (hk1 : k.toInt < 4) (hd0 : 0 ≤ d.toInt) (hd1 : d.toInt ≤ 1094) : Met l yX12_has wsX12_has ({ frames := 0, cells := 0, slots := 0, locals := 0 }) (RW D cI cZ cB [.ref h, .int i, .int k, .int d] sz [(h, .inr (11, [.int 0, .int 0, .int 0, .int 0, .int 0, .int 0, .int 0, .int 0, .int 0, .ref a_isPriest, .ref a_bars, .ref a_joined, .ref a_turns, .ref a_awayMonk, .ref a_awayFrom, .ref a_awayTo, .ref a_feastDay, .ref a_rank, .ref a_isWeekly, .ref a_isDouble, .ref a_giftDay, .ref a_giftFrom, .ref a_owed, .ref a_said, .ref a_spared, .ref a_leaveGift, .ref a_leaveFrom, .ref a_leaveTo, .ref a_lateDay, .ref a_lateOffice, .ref a_lateBy, .ref a_guests, .ref a_who, .ref a_used, .ref a_lacks, .ref a_candles, .ref a_masses, .ref a_owing, .ref a_heldOn, .ref a_waits, .ref a_tape, .ref a_text, .int 0, .int 0, .int 0, .int (-1), .int 0, .ref a_statements, .ref a_taken, .ref a_sort, .ref a_first, .ref a_second, .int 0, .int 0])), (a_who, .inl (cI, 4380, .inl f_who))]) (va_Qv (fun u : Nat → Int32 => True) (BW D [(h, .inr (11, [.int 0, .int 0, .int 0, .int 0, .int 0, .int 0, .int 0, .int 0, .int 0, .ref a_isPriest, .ref a_bars, .ref a_joined, .ref a_turns, .ref a_awayMonk, .ref a_awayFrom, .ref a_awayTo, .ref a_feastDay, .ref a_rank, .ref a_isWeekly, .ref a_isDouble, .ref a_giftDay, .ref a_giftFrom, .ref a_owed, .ref a_said, .ref a_spared, .ref a_leaveGift, .ref a_leaveFrom, .ref a_leaveTo, .ref a_lateDay, .ref a_lateOffice, .ref a_lateBy, .ref a_guests, .ref a_who, .ref a_used, .ref a_lacks, .ref a_candles, .ref a_masses, .ref a_owing, .ref a_heldOn, .ref a_waits, .ref a_tape, .ref a_text, .int 0, .int 0, .int 0, .int (-1), .int 0, .ref a_statements, .ref a_taken, .ref a_sort, .ref a_first, .ref a_second, .int 0, .int 0])), (a_who, .inl (cI, 4380, .inl f_who))] sz (fun u : Nat → Int32 => [(h, .inr (11, [.int 0, .int 0, .int 0, .int 0, .int 0, .int 0, .int 0, .int 0, .int 0, .ref a_isPriest, .ref a_bars, .ref a_joined, .ref a_turns, .ref a_awayMonk, .ref a_awayFrom, .ref a_awayTo, .ref a_feastDay, .ref a_rank, .ref a_isWeekly, .ref a_isDouble, .ref a_giftDay, .ref a_giftFrom, .ref a_owed, .ref a_said, .ref a_spared, .ref a_leaveGift, .ref a_leaveFrom, .ref a_leaveTo, .ref a_lateDay, .ref a_lateOffice, .ref a_lateBy, .ref a_guests, .ref a_who, .ref a_used, .ref a_lacks, .ref a_candles, .ref a_masses, .ref a_owing, .ref a_heldOn, .ref a_waits, .ref a_tape, .ref a_text, .int 0, .int 0, .int 0, .int (-1), .int 0, .ref a_statements, .ref a_taken, .ref a_sort, .ref a_first, .ref a_second, .int 0, .int 0])), (a_who, .inl (cI, 4380, .inl u))])) (va_A [(h, .inr (11, [.int 0, .int 0, .int 0, .int 0, .int 0, .int 0, .int 0, .int 0, .int 0, .ref a_isPriest, .ref a_bars, .ref a_joined, .ref a_turns, .ref a_awayMonk, .ref a_awayFrom, .ref a_awayTo, .ref a_feastDay, .ref a_rank, .ref a_isWeekly, .ref a_isDouble, .ref a_giftDay, .ref a_giftFrom, .ref a_owed, .ref a_said, .ref a_spared, .ref a_leaveGift, .ref a_leaveFrom, .ref a_leaveTo, .ref a_lateDay, .ref a_lateOffice, .ref a_lateBy, .ref a_guests, .ref a_who, .ref a_used, .ref a_lacks, .ref a_candles, .ref a_masses, .ref a_owing, .ref a_heldOn, .ref a_waits, .ref a_tape, .ref a_text, .int 0, .int 0, .int 0, .int (-1), .int 0, .ref a_statements, .ref a_taken, .ref a_sort, .ref a_first, .ref a_second, .int 0, .int 0])), (a_who, .inl (cI, 4380, .inl f_who))] sz)) 0 0 (va_A [(h, .inr (11, [.int 0, .int 0, .int 0, .int 0, .int 0, .int 0, .int 0, .int 0, .int 0, .ref a_isPriest, .ref a_bars, .ref a_joined, .ref a_turns, .ref a_awayMonk, .ref a_awayFrom, .ref a_awayTo, .ref a_feastDay, .ref a_rank, .ref a_isWeekly, .ref a_isDouble, .ref a_giftDay, .ref a_giftFrom, .ref a_owed, .ref a_said, .ref a_spared, .ref a_leaveGift, .ref a_leaveFrom, .ref a_leaveTo, .ref a_lateDay, .ref a_lateOffice, .ref a_lateBy, .ref a_guests, .ref a_who, .ref a_used, .ref a_lacks, .ref a_candles, .ref a_masses, .ref a_owing, .ref a_heldOn, .ref a_waits, .ref a_tape, .ref a_text, .int 0, .int 0, .int 0, .int (-1), .int 0, .ref a_statements, .ref a_taken, .ref a_sort, .ref a_first, .ref a_second, .int 0, .int 0])), (a_who, .inl (cI, 4380, .inl f_who))] sz) := by
  refine rw_retv (cc := cX12_has) (maxL := 4) (own := RX12) (by decide) rfl rfl (Nat.le_of_ble_eq_true rfl) ?_
  intro p e s m args below meth c Q A S hin hret hP hK hD hA hS ls hl
  obtain ⟨hx, hb, hml, hown, hts⟩ := id S
  have hl : lv_has ls 4 [(0, .ref h), (1, .int i), (2, .int k), (3, .int d)] := hl
  have kkm1 : (-1 : Int32).toInt = -1 := by decide
  have kk0 : (0 : Int32).toInt = 0 := by decide
  have kk1 : (1 : Int32).toInt = 1 := by decide
  have kk4 : (4 : Int32).toInt = 4 := by decide
  have lk0 := hts (.fieldLink RX12 80 "AbbeyHoursModel" "who" "[I") (by decide +kernel)
  refine lv_aload_n hx hb dX12_has_0 rfl (lv_at hl 0 rfl) ?_
  refine va_get (D := D) (ci := 11) (v := .ref a_who) (C := RX12) (T := TX12) (N := 54) hx hb hts in_m_has_X12 hown hK.1 hP 0 rfl rfl 32 (by decide) lk0 (fun _ h9 => h9) rfl dX12_has_1 ?_
  refine lv_iconst (v := 4) hx hb dX12_has_4 (by decide) ?_
  refine lv_iload_n hx hb dX12_has_5 rfl (lv_at hl 3 rfl) ?_
  refine lv_imul hx hb dX12_has_6 ?_
  refine lv_topi (fun x_1 ex_1 => ?_)
  first | have tx_1 := t_mulL kk4 ex_1 (by omega) (by omega) | skip
  refine lv_iload_n hx hb dX12_has_7 rfl (lv_at hl 2 rfl) ?_
  refine lv_iadd hx hb dX12_has_8 ?_
  refine lv_topi (fun x_2 ex_2 => ?_)
  first | have tx_2 := t_add ex_2 (by omega) (by omega) | skip
  refine lv_iload_n hx hb dX12_has_9 rfl (lv_at hl 1 rfl) ?_
  refine va_iast hx hb hK.1 hP hD hS 1 0 rfl rfl (t_in (by omega) (by omega)) dX12_has_10 (fun H locs hP hD hS => ?_)
  obtain ⟨g_3, eg_3⟩ : ∃ z : Nat → Int32, z = upd f_who ((x_2 : Int32).toNatClampNeg) i := ⟨_, rfl⟩
  rw [← eg_3] at hP hD
  have hP : va_P D vwCl [(h, .inr (11, [.int 0, .int 0, .int 0, .int 0, .int 0, .int 0, .int 0, .int 0, .int 0, .ref a_isPriest, .ref a_bars, .ref a_joined, .ref a_turns, .ref a_awayMonk, .ref a_awayFrom, .ref a_awayTo, .ref a_feastDay, .ref a_rank, .ref a_isWeekly, .ref a_isDouble, .ref a_giftDay, .ref a_giftFrom, .ref a_owed, .ref a_said, .ref a_spared, .ref a_leaveGift, .ref a_leaveFrom, .ref a_leaveTo, .ref a_lateDay, .ref a_lateOffice, .ref a_lateBy, .ref a_guests, .ref a_who, .ref a_used, .ref a_lacks, .ref a_candles, .ref a_masses, .ref a_owing, .ref a_heldOn, .ref a_waits, .ref a_tape, .ref a_text, .int 0, .int 0, .int 0, .int (-1), .int 0, .ref a_statements, .ref a_taken, .ref a_sort, .ref a_first, .ref a_second, .int 0, .int 0])), (a_who, .inl (cI, 4380, .inl g_3))] H := hP
  have hD : va_D A [(h, .inr (11, [.int 0, .int 0, .int 0, .int 0, .int 0, .int 0, .int 0, .int 0, .int 0, .ref a_isPriest, .ref a_bars, .ref a_joined, .ref a_turns, .ref a_awayMonk, .ref a_awayFrom, .ref a_awayTo, .ref a_feastDay, .ref a_rank, .ref a_isWeekly, .ref a_isDouble, .ref a_giftDay, .ref a_giftFrom, .ref a_owed, .ref a_said, .ref a_spared, .ref a_leaveGift, .ref a_leaveFrom, .ref a_leaveTo, .ref a_lateDay, .ref a_lateOffice, .ref a_lateBy, .ref a_guests, .ref a_who, .ref a_used, .ref a_lacks, .ref a_candles, .ref a_masses, .ref a_owing, .ref a_heldOn, .ref a_waits, .ref a_tape, .ref a_text, .int 0, .int 0, .int 0, .int (-1), .int 0, .ref a_statements, .ref a_taken, .ref a_sort, .ref a_first, .ref a_second, .int 0, .int 0])), (a_who, .inl (cI, 4380, .inl g_3))] := hD
  refine lv_iload_n hx hb dX12_has_11 rfl (lv_at hl 1 rfl) ?_
  refine lv_iconst (v := (-1)) hx hb dX12_has_12 (by decide) ?_
  refine lv_icmp_eq (tgt := 30) hx hb dX12_has_13 (by decide) (fun c_4 => ?_) (fun c_4 => ?_)
  · have tc_4 := t_eq c_4
    exact hret g_3 _ _ _ _ (trivial) (hP.sub [0, 1] rfl) (hD.sub [0, 1] (by decide) rfl) hS dX12_has_30
  · have tc_4 := t_ne c_4
    exfalso; omega

theorem in_m_owes_X12 : ∀ w ∈ wsX120, w ∈ wsX12_owes := by decide +kernel
set_option maxHeartbeats 8000000 in
set_option maxRecDepth 100000 in
theorem m_owes {l : Launch} {D : va_G} {cI cZ cB : ClassId} {sz : Nat} {h a_isPriest a_bars a_joined a_turns a_awayMonk a_awayFrom a_awayTo a_feastDay a_rank a_isWeekly a_isDouble a_giftDay a_giftFrom a_owed a_said a_spared a_leaveGift a_leaveFrom a_leaveTo a_lateDay a_lateOffice a_lateBy a_guests a_who a_used a_lacks a_candles a_masses a_owing a_heldOn a_waits a_tape a_text a_statements a_taken a_sort a_first a_second : Nat} {f_owed : Nat → Int32} {d : Int32}  : Met l yX12_owes wsX12_owes ({ frames := 0, cells := 0, slots := 0, locals := 0 }) (RW D cI cZ cB [.ref h, .int d] sz [(h, .inr (11, [.int 0, .int 0, .int 0, .int 0, .int 0, .int 0, .int 0, .int 0, .int 0, .ref a_isPriest, .ref a_bars, .ref a_joined, .ref a_turns, .ref a_awayMonk, .ref a_awayFrom, .ref a_awayTo, .ref a_feastDay, .ref a_rank, .ref a_isWeekly, .ref a_isDouble, .ref a_giftDay, .ref a_giftFrom, .ref a_owed, .ref a_said, .ref a_spared, .ref a_leaveGift, .ref a_leaveFrom, .ref a_leaveTo, .ref a_lateDay, .ref a_lateOffice, .ref a_lateBy, .ref a_guests, .ref a_who, .ref a_used, .ref a_lacks, .ref a_candles, .ref a_masses, .ref a_owing, .ref a_heldOn, .ref a_waits, .ref a_tape, .ref a_text, .int 0, .int 0, .int 0, .int (-1), .int 0, .ref a_statements, .ref a_taken, .ref a_sort, .ref a_first, .ref a_second, .int 0, .int 0])), (a_owed, .inl (cI, 40, .inl f_owed))]) (va_Qv (fun u : Nat → Int32 => True) (BW D [(h, .inr (11, [.int 0, .int 0, .int 0, .int 0, .int 0, .int 0, .int 0, .int 0, .int 0, .ref a_isPriest, .ref a_bars, .ref a_joined, .ref a_turns, .ref a_awayMonk, .ref a_awayFrom, .ref a_awayTo, .ref a_feastDay, .ref a_rank, .ref a_isWeekly, .ref a_isDouble, .ref a_giftDay, .ref a_giftFrom, .ref a_owed, .ref a_said, .ref a_spared, .ref a_leaveGift, .ref a_leaveFrom, .ref a_leaveTo, .ref a_lateDay, .ref a_lateOffice, .ref a_lateBy, .ref a_guests, .ref a_who, .ref a_used, .ref a_lacks, .ref a_candles, .ref a_masses, .ref a_owing, .ref a_heldOn, .ref a_waits, .ref a_tape, .ref a_text, .int 0, .int 0, .int 0, .int (-1), .int 0, .ref a_statements, .ref a_taken, .ref a_sort, .ref a_first, .ref a_second, .int 0, .int 0])), (a_owed, .inl (cI, 40, .inl f_owed))] sz (fun u : Nat → Int32 => [(h, .inr (11, [.int 0, .int 0, .int 0, .int 0, .int 0, .int 0, .int 0, .int 0, .int 0, .ref a_isPriest, .ref a_bars, .ref a_joined, .ref a_turns, .ref a_awayMonk, .ref a_awayFrom, .ref a_awayTo, .ref a_feastDay, .ref a_rank, .ref a_isWeekly, .ref a_isDouble, .ref a_giftDay, .ref a_giftFrom, .ref a_owed, .ref a_said, .ref a_spared, .ref a_leaveGift, .ref a_leaveFrom, .ref a_leaveTo, .ref a_lateDay, .ref a_lateOffice, .ref a_lateBy, .ref a_guests, .ref a_who, .ref a_used, .ref a_lacks, .ref a_candles, .ref a_masses, .ref a_owing, .ref a_heldOn, .ref a_waits, .ref a_tape, .ref a_text, .int 0, .int 0, .int 0, .int (-1), .int 0, .ref a_statements, .ref a_taken, .ref a_sort, .ref a_first, .ref a_second, .int 0, .int 0])), (a_owed, .inl (cI, 40, .inl u))])) (va_A [(h, .inr (11, [.int 0, .int 0, .int 0, .int 0, .int 0, .int 0, .int 0, .int 0, .int 0, .ref a_isPriest, .ref a_bars, .ref a_joined, .ref a_turns, .ref a_awayMonk, .ref a_awayFrom, .ref a_awayTo, .ref a_feastDay, .ref a_rank, .ref a_isWeekly, .ref a_isDouble, .ref a_giftDay, .ref a_giftFrom, .ref a_owed, .ref a_said, .ref a_spared, .ref a_leaveGift, .ref a_leaveFrom, .ref a_leaveTo, .ref a_lateDay, .ref a_lateOffice, .ref a_lateBy, .ref a_guests, .ref a_who, .ref a_used, .ref a_lacks, .ref a_candles, .ref a_masses, .ref a_owing, .ref a_heldOn, .ref a_waits, .ref a_tape, .ref a_text, .int 0, .int 0, .int 0, .int (-1), .int 0, .ref a_statements, .ref a_taken, .ref a_sort, .ref a_first, .ref a_second, .int 0, .int 0])), (a_owed, .inl (cI, 40, .inl f_owed))] sz)) 0 0 (va_A [(h, .inr (11, [.int 0, .int 0, .int 0, .int 0, .int 0, .int 0, .int 0, .int 0, .int 0, .ref a_isPriest, .ref a_bars, .ref a_joined, .ref a_turns, .ref a_awayMonk, .ref a_awayFrom, .ref a_awayTo, .ref a_feastDay, .ref a_rank, .ref a_isWeekly, .ref a_isDouble, .ref a_giftDay, .ref a_giftFrom, .ref a_owed, .ref a_said, .ref a_spared, .ref a_leaveGift, .ref a_leaveFrom, .ref a_leaveTo, .ref a_lateDay, .ref a_lateOffice, .ref a_lateBy, .ref a_guests, .ref a_who, .ref a_used, .ref a_lacks, .ref a_candles, .ref a_masses, .ref a_owing, .ref a_heldOn, .ref a_waits, .ref a_tape, .ref a_text, .int 0, .int 0, .int 0, .int (-1), .int 0, .ref a_statements, .ref a_taken, .ref a_sort, .ref a_first, .ref a_second, .int 0, .int 0])), (a_owed, .inl (cI, 40, .inl f_owed))] sz) := by
  refine rw_retv (cc := cX12_owes) (maxL := 6) (own := RX12) (by decide) rfl rfl (Nat.le_of_ble_eq_true rfl) ?_
  intro p e s m args below meth c Q A S hin hret hP hK hD hA hS ls hl
  obtain ⟨hx, hb, hml, hown, hts⟩ := id S
  have hl : lv_has ls 6 [(0, .ref h), (1, .int d)] := hl
  have kk0 : (0 : Int32).toInt = 0 := by decide
  have kk1 : (1 : Int32).toInt = 1 := by decide
  have kk2 : (2 : Int32).toInt = 2 := by decide
  have kk7 : (7 : Int32).toInt = 7 := by decide
  have kk365 : (365 : Int32).toInt = 365 := by decide
  have lk0 := hts (.fieldLink RX12 137 "AbbeyHoursModel" "gifts" "I") (by decide +kernel)
  refine lv_iconst (v := 0) hx hb dX12_owes_0 (by decide) ?_
  refine lv_istore_n (lv' := [(2, .int 0), (0, .ref h), (1, .int d)]) hx hb dX12_owes_1 rfl hl (by decide) rfl (fun ls hl => ?_)
  refine lv_iload_n hx hb dX12_owes_2 rfl (lv_at hl 0 rfl) ?_
  refine lv_aload_n hx hb dX12_owes_3 rfl (lv_at hl 1 rfl) ?_
  refine va_get (D := D) (ci := 11) (v := .int 0) (C := RX12) (T := TX12) (N := 54) hx hb hts in_m_owes_X12 hown hK.1 hP 0 rfl rfl 4 (by decide) lk0 (fun _ h9 => h9) rfl dX12_owes_4 ?_
  refine lv_icmp_ge (tgt := 180) hx hb dX12_owes_7 (by decide) (fun c_1 => ?_) (fun c_1 => ?_)
  · have tc_1 := t_le c_1
    exact hret f_owed _ _ _ _ (trivial) (hP.sub [0, 1] rfl) (hD.sub [0, 1] (by decide) rfl) hS dX12_owes_180
  · exact absurd c_1 (by decide)

theorem in_q_monk_X12 : ∀ w ∈ wsX120, w ∈ wsX12_monk := by decide +kernel
set_option maxHeartbeats 8000000 in
set_option maxRecDepth 100000 in
theorem q_monk {l : Launch} {D : va_G} {cI cZ cB : ClassId} {sz : Nat} {h a_isPriest a_bars a_joined a_turns a_awayMonk a_awayFrom a_awayTo a_feastDay a_rank a_isWeekly a_isDouble a_giftDay a_giftFrom a_owed a_said a_spared a_leaveGift a_leaveFrom a_leaveTo a_lateDay a_lateOffice a_lateBy a_guests a_who a_used a_lacks a_candles a_masses a_owing a_heldOn a_waits a_tape a_text a_statements a_taken a_sort a_first a_second : Nat} {f_isPriest f_bars f_joined : Nat → Int32} {p b : Int32}  : Met l yX12_monk wsX12_monk ({ frames := 1, cells := 0, slots := 0, locals := 22 }) (RW D cI cZ cB [.ref h, .int p, .int b] sz [(h, .inr (11, [.int 0, .int 0, .int 0, .int 0, .int 0, .int 0, .int 0, .int 0, .int 0, .ref a_isPriest, .ref a_bars, .ref a_joined, .ref a_turns, .ref a_awayMonk, .ref a_awayFrom, .ref a_awayTo, .ref a_feastDay, .ref a_rank, .ref a_isWeekly, .ref a_isDouble, .ref a_giftDay, .ref a_giftFrom, .ref a_owed, .ref a_said, .ref a_spared, .ref a_leaveGift, .ref a_leaveFrom, .ref a_leaveTo, .ref a_lateDay, .ref a_lateOffice, .ref a_lateBy, .ref a_guests, .ref a_who, .ref a_used, .ref a_lacks, .ref a_candles, .ref a_masses, .ref a_owing, .ref a_heldOn, .ref a_waits, .ref a_tape, .ref a_text, .int 0, .int 0, .int 0, .int (-1), .int 0, .ref a_statements, .ref a_taken, .ref a_sort, .ref a_first, .ref a_second, .int 0, .int 0])), (a_isPriest, .inl (cZ, 24, .inl f_isPriest)), (a_bars, .inl (cI, 24, .inl f_bars)), (a_joined, .inl (cI, 24, .inl f_joined))]) (va_Qi (fun (r : Int32) (u : Int32 × Nat → Int32 × Nat → Int32 × Nat → Int32) => ((0 ≤ b.toInt ∧ b.toInt ≤ 15) → r.toInt = 0) ∧ (¬ (0 ≤ b.toInt ∧ b.toInt ≤ 15) → r.toInt = -1)) (BW D [(h, .inr (11, [.int 0, .int 0, .int 0, .int 0, .int 0, .int 0, .int 0, .int 0, .int 0, .ref a_isPriest, .ref a_bars, .ref a_joined, .ref a_turns, .ref a_awayMonk, .ref a_awayFrom, .ref a_awayTo, .ref a_feastDay, .ref a_rank, .ref a_isWeekly, .ref a_isDouble, .ref a_giftDay, .ref a_giftFrom, .ref a_owed, .ref a_said, .ref a_spared, .ref a_leaveGift, .ref a_leaveFrom, .ref a_leaveTo, .ref a_lateDay, .ref a_lateOffice, .ref a_lateBy, .ref a_guests, .ref a_who, .ref a_used, .ref a_lacks, .ref a_candles, .ref a_masses, .ref a_owing, .ref a_heldOn, .ref a_waits, .ref a_tape, .ref a_text, .int 0, .int 0, .int 0, .int (-1), .int 0, .ref a_statements, .ref a_taken, .ref a_sort, .ref a_first, .ref a_second, .int 0, .int 0])), (a_isPriest, .inl (cZ, 24, .inl f_isPriest)), (a_bars, .inl (cI, 24, .inl f_bars)), (a_joined, .inl (cI, 24, .inl f_joined))] sz (fun u : Int32 × Nat → Int32 × Nat → Int32 × Nat → Int32 => [(h, .inr (11, [.int 0, .int u.1, .int 0, .int 0, .int 0, .int 0, .int 0, .int 0, .int 0, .ref a_isPriest, .ref a_bars, .ref a_joined, .ref a_turns, .ref a_awayMonk, .ref a_awayFrom, .ref a_awayTo, .ref a_feastDay, .ref a_rank, .ref a_isWeekly, .ref a_isDouble, .ref a_giftDay, .ref a_giftFrom, .ref a_owed, .ref a_said, .ref a_spared, .ref a_leaveGift, .ref a_leaveFrom, .ref a_leaveTo, .ref a_lateDay, .ref a_lateOffice, .ref a_lateBy, .ref a_guests, .ref a_who, .ref a_used, .ref a_lacks, .ref a_candles, .ref a_masses, .ref a_owing, .ref a_heldOn, .ref a_waits, .ref a_tape, .ref a_text, .int 0, .int 0, .int 0, .int (-1), .int 0, .ref a_statements, .ref a_taken, .ref a_sort, .ref a_first, .ref a_second, .int 0, .int 0])), (a_isPriest, .inl (cZ, 24, .inl u.2.1)), (a_bars, .inl (cI, 24, .inl u.2.2.1)), (a_joined, .inl (cI, 24, .inl u.2.2.2))])) (va_A [(h, .inr (11, [.int 0, .int 0, .int 0, .int 0, .int 0, .int 0, .int 0, .int 0, .int 0, .ref a_isPriest, .ref a_bars, .ref a_joined, .ref a_turns, .ref a_awayMonk, .ref a_awayFrom, .ref a_awayTo, .ref a_feastDay, .ref a_rank, .ref a_isWeekly, .ref a_isDouble, .ref a_giftDay, .ref a_giftFrom, .ref a_owed, .ref a_said, .ref a_spared, .ref a_leaveGift, .ref a_leaveFrom, .ref a_leaveTo, .ref a_lateDay, .ref a_lateOffice, .ref a_lateBy, .ref a_guests, .ref a_who, .ref a_used, .ref a_lacks, .ref a_candles, .ref a_masses, .ref a_owing, .ref a_heldOn, .ref a_waits, .ref a_tape, .ref a_text, .int 0, .int 0, .int 0, .int (-1), .int 0, .ref a_statements, .ref a_taken, .ref a_sort, .ref a_first, .ref a_second, .int 0, .int 0])), (a_isPriest, .inl (cZ, 24, .inl f_isPriest)), (a_bars, .inl (cI, 24, .inl f_bars)), (a_joined, .inl (cI, 24, .inl f_joined))] sz)) 0 0 (va_A [(h, .inr (11, [.int 0, .int 0, .int 0, .int 0, .int 0, .int 0, .int 0, .int 0, .int 0, .ref a_isPriest, .ref a_bars, .ref a_joined, .ref a_turns, .ref a_awayMonk, .ref a_awayFrom, .ref a_awayTo, .ref a_feastDay, .ref a_rank, .ref a_isWeekly, .ref a_isDouble, .ref a_giftDay, .ref a_giftFrom, .ref a_owed, .ref a_said, .ref a_spared, .ref a_leaveGift, .ref a_leaveFrom, .ref a_leaveTo, .ref a_lateDay, .ref a_lateOffice, .ref a_lateBy, .ref a_guests, .ref a_who, .ref a_used, .ref a_lacks, .ref a_candles, .ref a_masses, .ref a_owing, .ref a_heldOn, .ref a_waits, .ref a_tape, .ref a_text, .int 0, .int 0, .int 0, .int (-1), .int 0, .ref a_statements, .ref a_taken, .ref a_sort, .ref a_first, .ref a_second, .int 0, .int 0])), (a_isPriest, .inl (cZ, 24, .inl f_isPriest)), (a_bars, .inl (cI, 24, .inl f_bars)), (a_joined, .inl (cI, 24, .inl f_joined))] sz) := by
  refine rw_ret (cc := cX12_monk) (maxL := 3) (ty := .int) (own := RX12) (by decide) rfl rfl (Nat.le_of_ble_eq_true rfl) ?_
  intro p e s m args below meth c Q A S hin hret hP hK hD hA hS ls hl
  obtain ⟨hx, hb, hml, hown, hts⟩ := id S
  have hl : lv_has ls 3 [(0, .ref h), (1, .int p), (2, .int b)] := hl
  have kkm1 : (-1 : Int32).toInt = -1 := by decide
  have kk0 : (0 : Int32).toInt = 0 := by decide
  have kk1 : (1 : Int32).toInt = 1 := by decide
  have kk15 : (15 : Int32).toInt = 15 := by decide
  have kk24 : (24 : Int32).toInt = 24 := by decide
  have lk0 := hts (.fieldLink RX12 134 "AbbeyHoursModel" "monks" "I") (by decide +kernel)
  have lk1 := hts (.fieldLink RX12 7 "AbbeyHoursModel" "isPriest" "[Z") (by decide +kernel)
  have lk2 := hts (.fieldLink RX12 13 "AbbeyHoursModel" "bars" "[I") (by decide +kernel)
  have lk3 := hts (.fieldLink RX12 17 "AbbeyHoursModel" "joined" "[I") (by decide +kernel)
  have lk4 := hts (.fieldLink RX12 140 "AbbeyHoursModel" "today" "I") (by decide +kernel)
  refine lv_iload_n hx hb dX12_monk_0 rfl (lv_at hl 2 rfl) ?_
  refine lv_iconst (v := 0) hx hb dX12_monk_1 (by decide) ?_
  refine lv_bipush (v := 15) hx hb dX12_monk_2 (by decide) ?_
  have hPc := hP.sub (ws' := []) [] rfl
  refine roS (As := [.int b, .int 0, .int 15]) (rest := []) S (m_isIn  ) (va_cwS 3 hts gX12_monk_X12_isIn rfl rfl rfl (by decide +kernel) ⟨Nat.le_of_ble_eq_true rfl, Nat.le_of_ble_eq_true rfl⟩) hK hPc rfl hl.1 rfl (Nat.le_of_ble_eq_true rfl) dX12_monk_4 ⟨Nat.le_of_ble_eq_true rfl, Nat.le_of_ble_eq_true rfl⟩ (fun r_1 hw_1 => ?_)
  have hw_1 : (r_1.toInt = 1 ∧ (0 : Int32).toInt ≤ b.toInt ∧ b.toInt ≤ (15 : Int32).toInt) ∨ (r_1.toInt = 0 ∧ (b.toInt < (0 : Int32).toInt ∨ (15 : Int32).toInt < b.toInt)) := hw_1
  refine lv_if_eq (tgt := 19) hx hb dX12_monk_7 (by decide) (fun c_2 => ?_) (fun c_2 => ?_)
  · have tc_2 := t_eq c_2
    refine lv_iconst (v := (-1)) hx hb dX12_monk_19 (by decide) ?_
    exact hret (-1) (0, f_isPriest, f_bars, f_joined) _ _ _ _ (by omega) rfl (hP.sub [0, 1, 2, 3] rfl) (hD.sub [0, 1, 2, 3] (by decide) rfl) hS dX12_monk_20
  · have tc_2 := t_ne c_2
    refine lv_aload_n hx hb dX12_monk_10 rfl (lv_at hl 0 rfl) ?_
    refine va_get (D := D) (ci := 11) (v := .int 0) (C := RX12) (T := TX12) (N := 54) hx hb hts in_q_monk_X12 hown hK.1 hP 0 rfl rfl 1 (by decide) lk0 (fun _ h9 => h9) rfl dX12_monk_11 ?_
    refine lv_bipush (v := 24) hx hb dX12_monk_14 (by decide) ?_
    refine lv_icmp_ne (tgt := 21) hx hb dX12_monk_16 (by decide) (fun c_3 => ?_) (fun c_3 => ?_)
    · have tc_3 := t_ne c_3
      refine lv_aload_n hx hb dX12_monk_21 rfl (lv_at hl 0 rfl) ?_
      refine va_get (D := D) (ci := 11) (v := .ref a_isPriest) (C := RX12) (T := TX12) (N := 54) hx hb hts in_q_monk_X12 hown hK.1 hP 0 rfl rfl 9 (by decide) lk1 (fun _ h9 => h9) rfl dX12_monk_22 ?_
      refine lv_aload_n hx hb dX12_monk_25 rfl (lv_at hl 0 rfl) ?_
      refine va_get (D := D) (ci := 11) (v := .int 0) (C := RX12) (T := TX12) (N := 54) hx hb hts in_q_monk_X12 hown hK.1 hP 0 rfl rfl 1 (by decide) lk0 (fun _ h9 => h9) rfl dX12_monk_26 ?_
      refine lv_iload_n hx hb dX12_monk_29 rfl (lv_at hl 1 rfl) ?_
      refine va_zast hx hb hK.1 hP hD hS 1 1 rfl rfl (t_in (by omega) (by omega)) dX12_monk_30 (fun H locs hP hD hS => ?_)
      obtain ⟨g_4, eg_4⟩ : ∃ z : Nat → Int32, z = upd f_isPriest ((0 : Int32).toNatClampNeg) (vp_nar .boolean p) := ⟨_, rfl⟩
      rw [← eg_4] at hP hD
      have hP : va_P D vwCl [(h, .inr (11, [.int 0, .int 0, .int 0, .int 0, .int 0, .int 0, .int 0, .int 0, .int 0, .ref a_isPriest, .ref a_bars, .ref a_joined, .ref a_turns, .ref a_awayMonk, .ref a_awayFrom, .ref a_awayTo, .ref a_feastDay, .ref a_rank, .ref a_isWeekly, .ref a_isDouble, .ref a_giftDay, .ref a_giftFrom, .ref a_owed, .ref a_said, .ref a_spared, .ref a_leaveGift, .ref a_leaveFrom, .ref a_leaveTo, .ref a_lateDay, .ref a_lateOffice, .ref a_lateBy, .ref a_guests, .ref a_who, .ref a_used, .ref a_lacks, .ref a_candles, .ref a_masses, .ref a_owing, .ref a_heldOn, .ref a_waits, .ref a_tape, .ref a_text, .int 0, .int 0, .int 0, .int (-1), .int 0, .ref a_statements, .ref a_taken, .ref a_sort, .ref a_first, .ref a_second, .int 0, .int 0])), (a_isPriest, .inl (cZ, 24, .inl g_4)), (a_bars, .inl (cI, 24, .inl f_bars)), (a_joined, .inl (cI, 24, .inl f_joined))] H := hP
      have hD : va_D A [(h, .inr (11, [.int 0, .int 0, .int 0, .int 0, .int 0, .int 0, .int 0, .int 0, .int 0, .ref a_isPriest, .ref a_bars, .ref a_joined, .ref a_turns, .ref a_awayMonk, .ref a_awayFrom, .ref a_awayTo, .ref a_feastDay, .ref a_rank, .ref a_isWeekly, .ref a_isDouble, .ref a_giftDay, .ref a_giftFrom, .ref a_owed, .ref a_said, .ref a_spared, .ref a_leaveGift, .ref a_leaveFrom, .ref a_leaveTo, .ref a_lateDay, .ref a_lateOffice, .ref a_lateBy, .ref a_guests, .ref a_who, .ref a_used, .ref a_lacks, .ref a_candles, .ref a_masses, .ref a_owing, .ref a_heldOn, .ref a_waits, .ref a_tape, .ref a_text, .int 0, .int 0, .int 0, .int (-1), .int 0, .ref a_statements, .ref a_taken, .ref a_sort, .ref a_first, .ref a_second, .int 0, .int 0])), (a_isPriest, .inl (cZ, 24, .inl g_4)), (a_bars, .inl (cI, 24, .inl f_bars)), (a_joined, .inl (cI, 24, .inl f_joined))] := hD
      refine lv_aload_n hx hb dX12_monk_31 rfl (lv_at hl 0 rfl) ?_
      refine va_get (D := D) (ci := 11) (v := .ref a_bars) (C := RX12) (T := TX12) (N := 54) hx hb hts in_q_monk_X12 hown hK.1 hP 0 rfl rfl 10 (by decide) lk2 (fun _ h9 => h9) rfl dX12_monk_32 ?_
      refine lv_aload_n hx hb dX12_monk_35 rfl (lv_at hl 0 rfl) ?_
      refine va_get (D := D) (ci := 11) (v := .int 0) (C := RX12) (T := TX12) (N := 54) hx hb hts in_q_monk_X12 hown hK.1 hP 0 rfl rfl 1 (by decide) lk0 (fun _ h9 => h9) rfl dX12_monk_36 ?_
      refine lv_iload_n hx hb dX12_monk_39 rfl (lv_at hl 2 rfl) ?_
      refine va_iast hx hb hK.1 hP hD hS 2 0 rfl rfl (t_in (by omega) (by omega)) dX12_monk_40 (fun H locs hP hD hS => ?_)
      obtain ⟨g_5, eg_5⟩ : ∃ z : Nat → Int32, z = upd f_bars ((0 : Int32).toNatClampNeg) b := ⟨_, rfl⟩
      rw [← eg_5] at hP hD
      have hP : va_P D vwCl [(h, .inr (11, [.int 0, .int 0, .int 0, .int 0, .int 0, .int 0, .int 0, .int 0, .int 0, .ref a_isPriest, .ref a_bars, .ref a_joined, .ref a_turns, .ref a_awayMonk, .ref a_awayFrom, .ref a_awayTo, .ref a_feastDay, .ref a_rank, .ref a_isWeekly, .ref a_isDouble, .ref a_giftDay, .ref a_giftFrom, .ref a_owed, .ref a_said, .ref a_spared, .ref a_leaveGift, .ref a_leaveFrom, .ref a_leaveTo, .ref a_lateDay, .ref a_lateOffice, .ref a_lateBy, .ref a_guests, .ref a_who, .ref a_used, .ref a_lacks, .ref a_candles, .ref a_masses, .ref a_owing, .ref a_heldOn, .ref a_waits, .ref a_tape, .ref a_text, .int 0, .int 0, .int 0, .int (-1), .int 0, .ref a_statements, .ref a_taken, .ref a_sort, .ref a_first, .ref a_second, .int 0, .int 0])), (a_isPriest, .inl (cZ, 24, .inl g_4)), (a_bars, .inl (cI, 24, .inl g_5)), (a_joined, .inl (cI, 24, .inl f_joined))] H := hP
      have hD : va_D A [(h, .inr (11, [.int 0, .int 0, .int 0, .int 0, .int 0, .int 0, .int 0, .int 0, .int 0, .ref a_isPriest, .ref a_bars, .ref a_joined, .ref a_turns, .ref a_awayMonk, .ref a_awayFrom, .ref a_awayTo, .ref a_feastDay, .ref a_rank, .ref a_isWeekly, .ref a_isDouble, .ref a_giftDay, .ref a_giftFrom, .ref a_owed, .ref a_said, .ref a_spared, .ref a_leaveGift, .ref a_leaveFrom, .ref a_leaveTo, .ref a_lateDay, .ref a_lateOffice, .ref a_lateBy, .ref a_guests, .ref a_who, .ref a_used, .ref a_lacks, .ref a_candles, .ref a_masses, .ref a_owing, .ref a_heldOn, .ref a_waits, .ref a_tape, .ref a_text, .int 0, .int 0, .int 0, .int (-1), .int 0, .ref a_statements, .ref a_taken, .ref a_sort, .ref a_first, .ref a_second, .int 0, .int 0])), (a_isPriest, .inl (cZ, 24, .inl g_4)), (a_bars, .inl (cI, 24, .inl g_5)), (a_joined, .inl (cI, 24, .inl f_joined))] := hD
      refine lv_aload_n hx hb dX12_monk_41 rfl (lv_at hl 0 rfl) ?_
      refine va_get (D := D) (ci := 11) (v := .ref a_joined) (C := RX12) (T := TX12) (N := 54) hx hb hts in_q_monk_X12 hown hK.1 hP 0 rfl rfl 11 (by decide) lk3 (fun _ h9 => h9) rfl dX12_monk_42 ?_
      refine lv_aload_n hx hb dX12_monk_45 rfl (lv_at hl 0 rfl) ?_
      refine va_get (D := D) (ci := 11) (v := .int 0) (C := RX12) (T := TX12) (N := 54) hx hb hts in_q_monk_X12 hown hK.1 hP 0 rfl rfl 1 (by decide) lk0 (fun _ h9 => h9) rfl dX12_monk_46 ?_
      refine lv_aload_n hx hb dX12_monk_49 rfl (lv_at hl 0 rfl) ?_
      refine va_get (D := D) (ci := 11) (v := .int 0) (C := RX12) (T := TX12) (N := 54) hx hb hts in_q_monk_X12 hown hK.1 hP 0 rfl rfl 0 (by decide) lk4 (fun _ h9 => h9) rfl dX12_monk_50 ?_
      refine va_iast hx hb hK.1 hP hD hS 3 0 rfl rfl (t_in (by omega) (by omega)) dX12_monk_53 (fun H locs hP hD hS => ?_)
      obtain ⟨g_6, eg_6⟩ : ∃ z : Nat → Int32, z = upd f_joined ((0 : Int32).toNatClampNeg) 0 := ⟨_, rfl⟩
      rw [← eg_6] at hP hD
      have hP : va_P D vwCl [(h, .inr (11, [.int 0, .int 0, .int 0, .int 0, .int 0, .int 0, .int 0, .int 0, .int 0, .ref a_isPriest, .ref a_bars, .ref a_joined, .ref a_turns, .ref a_awayMonk, .ref a_awayFrom, .ref a_awayTo, .ref a_feastDay, .ref a_rank, .ref a_isWeekly, .ref a_isDouble, .ref a_giftDay, .ref a_giftFrom, .ref a_owed, .ref a_said, .ref a_spared, .ref a_leaveGift, .ref a_leaveFrom, .ref a_leaveTo, .ref a_lateDay, .ref a_lateOffice, .ref a_lateBy, .ref a_guests, .ref a_who, .ref a_used, .ref a_lacks, .ref a_candles, .ref a_masses, .ref a_owing, .ref a_heldOn, .ref a_waits, .ref a_tape, .ref a_text, .int 0, .int 0, .int 0, .int (-1), .int 0, .ref a_statements, .ref a_taken, .ref a_sort, .ref a_first, .ref a_second, .int 0, .int 0])), (a_isPriest, .inl (cZ, 24, .inl g_4)), (a_bars, .inl (cI, 24, .inl g_5)), (a_joined, .inl (cI, 24, .inl g_6))] H := hP
      have hD : va_D A [(h, .inr (11, [.int 0, .int 0, .int 0, .int 0, .int 0, .int 0, .int 0, .int 0, .int 0, .ref a_isPriest, .ref a_bars, .ref a_joined, .ref a_turns, .ref a_awayMonk, .ref a_awayFrom, .ref a_awayTo, .ref a_feastDay, .ref a_rank, .ref a_isWeekly, .ref a_isDouble, .ref a_giftDay, .ref a_giftFrom, .ref a_owed, .ref a_said, .ref a_spared, .ref a_leaveGift, .ref a_leaveFrom, .ref a_leaveTo, .ref a_lateDay, .ref a_lateOffice, .ref a_lateBy, .ref a_guests, .ref a_who, .ref a_used, .ref a_lacks, .ref a_candles, .ref a_masses, .ref a_owing, .ref a_heldOn, .ref a_waits, .ref a_tape, .ref a_text, .int 0, .int 0, .int 0, .int (-1), .int 0, .ref a_statements, .ref a_taken, .ref a_sort, .ref a_first, .ref a_second, .int 0, .int 0])), (a_isPriest, .inl (cZ, 24, .inl g_4)), (a_bars, .inl (cI, 24, .inl g_5)), (a_joined, .inl (cI, 24, .inl g_6))] := hD
      refine lv_aload_n hx hb dX12_monk_54 rfl (lv_at hl 0 rfl) ?_
      refine lv_dup hx hb dX12_monk_55 rfl ?_
      refine va_get (D := D) (ci := 11) (v := .int 0) (C := RX12) (T := TX12) (N := 54) hx hb hts in_q_monk_X12 hown hK.1 hP 0 rfl rfl 1 (by decide) lk0 (fun _ h9 => h9) rfl dX12_monk_56 ?_
      refine lv_iconst (v := 1) hx hb dX12_monk_59 (by decide) ?_
      refine lv_iadd hx hb dX12_monk_60 ?_
      refine lv_topi (fun x_7 ex_7 => ?_)
      first | have tx_7 := t_add ex_7 (by omega) (by omega) | skip
      refine va_put (D := D) (ci := 11) (v := .int x_7) (ty := .int) (C := RX12) (T := TX12) (N := 54) hx hb hts in_q_monk_X12 tyX12 tyX12_ok nmX12 hown hK.1 hP hD hS 0 rfl rfl 1 (by decide) lk0 (fun _ h9 => h9) rfl (by decide +kernel) rfl rfl (Nat.le_of_ble_eq_true rfl) dX12_monk_61 (fun H locs hP hD hS => ?_)
      have hP : va_P D vwCl [(h, .inr (11, [.int 0, .int x_7, .int 0, .int 0, .int 0, .int 0, .int 0, .int 0, .int 0, .ref a_isPriest, .ref a_bars, .ref a_joined, .ref a_turns, .ref a_awayMonk, .ref a_awayFrom, .ref a_awayTo, .ref a_feastDay, .ref a_rank, .ref a_isWeekly, .ref a_isDouble, .ref a_giftDay, .ref a_giftFrom, .ref a_owed, .ref a_said, .ref a_spared, .ref a_leaveGift, .ref a_leaveFrom, .ref a_leaveTo, .ref a_lateDay, .ref a_lateOffice, .ref a_lateBy, .ref a_guests, .ref a_who, .ref a_used, .ref a_lacks, .ref a_candles, .ref a_masses, .ref a_owing, .ref a_heldOn, .ref a_waits, .ref a_tape, .ref a_text, .int 0, .int 0, .int 0, .int (-1), .int 0, .ref a_statements, .ref a_taken, .ref a_sort, .ref a_first, .ref a_second, .int 0, .int 0])), (a_isPriest, .inl (cZ, 24, .inl g_4)), (a_bars, .inl (cI, 24, .inl g_5)), (a_joined, .inl (cI, 24, .inl g_6))] H := hP
      have hD : va_D A [(h, .inr (11, [.int 0, .int x_7, .int 0, .int 0, .int 0, .int 0, .int 0, .int 0, .int 0, .ref a_isPriest, .ref a_bars, .ref a_joined, .ref a_turns, .ref a_awayMonk, .ref a_awayFrom, .ref a_awayTo, .ref a_feastDay, .ref a_rank, .ref a_isWeekly, .ref a_isDouble, .ref a_giftDay, .ref a_giftFrom, .ref a_owed, .ref a_said, .ref a_spared, .ref a_leaveGift, .ref a_leaveFrom, .ref a_leaveTo, .ref a_lateDay, .ref a_lateOffice, .ref a_lateBy, .ref a_guests, .ref a_who, .ref a_used, .ref a_lacks, .ref a_candles, .ref a_masses, .ref a_owing, .ref a_heldOn, .ref a_waits, .ref a_tape, .ref a_text, .int 0, .int 0, .int 0, .int (-1), .int 0, .ref a_statements, .ref a_taken, .ref a_sort, .ref a_first, .ref a_second, .int 0, .int 0])), (a_isPriest, .inl (cZ, 24, .inl g_4)), (a_bars, .inl (cI, 24, .inl g_5)), (a_joined, .inl (cI, 24, .inl g_6))] := hD
      refine lv_aload_n hx hb dX12_monk_64 rfl (lv_at hl 0 rfl) ?_
      refine va_get (D := D) (ci := 11) (v := .int x_7) (C := RX12) (T := TX12) (N := 54) hx hb hts in_q_monk_X12 hown hK.1 hP 0 rfl rfl 1 (by decide) lk0 (fun _ h9 => h9) rfl dX12_monk_65 ?_
      refine lv_iconst (v := 1) hx hb dX12_monk_68 (by decide) ?_
      refine lv_isub hx hb dX12_monk_69 ?_
      refine lv_topi (fun x_8 ex_8 => ?_)
      first | have tx_8 := t_sub ex_8 (by omega) (by omega) | skip
      exact hret x_8 (x_7, g_4, g_5, g_6) _ _ _ _ (by omega) rfl (hP.sub [0, 1, 2, 3] rfl) (hD.sub [0, 1, 2, 3] (by decide) rfl) hS dX12_monk_70
    · exact absurd c_3 (by decide)

set_option maxHeartbeats 8000000 in
set_option maxRecDepth 100000 in
theorem q_away {l : Launch} {D : va_G} {cI cZ cB : ClassId} {h a_isPriest a_bars a_joined a_turns a_awayMonk a_awayFrom a_awayTo a_feastDay a_rank a_isWeekly a_isDouble a_giftDay a_giftFrom a_owed a_said a_spared a_leaveGift a_leaveFrom a_leaveTo a_lateDay a_lateOffice a_lateBy a_guests a_who a_used a_lacks a_candles a_masses a_owing a_heldOn a_waits a_tape a_text a_statements a_taken a_sort a_first a_second : Nat} {i a b : Int32}  : Met l yX12_away wsX12_away ({ frames := 2, cells := 0, slots := 0, locals := 43 }) (RO D cI cZ cB [.ref h, .int i, .int a, .int b] [(h, .inr (11, [.int 0, .int 0, .int 0, .int 0, .int 0, .int 0, .int 0, .int 0, .int 0, .ref a_isPriest, .ref a_bars, .ref a_joined, .ref a_turns, .ref a_awayMonk, .ref a_awayFrom, .ref a_awayTo, .ref a_feastDay, .ref a_rank, .ref a_isWeekly, .ref a_isDouble, .ref a_giftDay, .ref a_giftFrom, .ref a_owed, .ref a_said, .ref a_spared, .ref a_leaveGift, .ref a_leaveFrom, .ref a_leaveTo, .ref a_lateDay, .ref a_lateOffice, .ref a_lateBy, .ref a_guests, .ref a_who, .ref a_used, .ref a_lacks, .ref a_candles, .ref a_masses, .ref a_owing, .ref a_heldOn, .ref a_waits, .ref a_tape, .ref a_text, .int 0, .int 0, .int 0, .int (-1), .int 0, .ref a_statements, .ref a_taken, .ref a_sort, .ref a_first, .ref a_second, .int 0, .int 0]))]) (vp_Si (fun r : Int32 => r.toInt = -1)) 0 0 (fun _ => False) := by
  refine ro_ret (cc := cX12_away) (maxL := 4) (ty := .int) (own := RX12) (by decide) rfl rfl (Nat.le_of_ble_eq_true rfl) ?_
  intro p e s m args below meth c Q S hret hP hK ls hl
  obtain ⟨hx, hb, hml, hown, hts⟩ := id S
  have hl : lv_has ls 4 [(0, .ref h), (1, .int i), (2, .int a), (3, .int b)] := hl
  have kkm1 : (-1 : Int32).toInt = -1 := by decide
  have kk0 : (0 : Int32).toInt = 0 := by decide
  have kk1 : (1 : Int32).toInt = 1 := by decide
  have kk60 : (60 : Int32).toInt = 60 := by decide
  refine lv_aload_n hx hb dX12_away_0 rfl (lv_at hl 0 rfl) ?_
  refine lv_iload_n hx hb dX12_away_1 rfl (lv_at hl 1 rfl) ?_
  have hPc := hP.sub (ws' := [(h, .inr (11, [.int 0, .int 0, .int 0, .int 0, .int 0, .int 0, .int 0, .int 0, .int 0, .ref a_isPriest, .ref a_bars, .ref a_joined, .ref a_turns, .ref a_awayMonk, .ref a_awayFrom, .ref a_awayTo, .ref a_feastDay, .ref a_rank, .ref a_isWeekly, .ref a_isDouble, .ref a_giftDay, .ref a_giftFrom, .ref a_owed, .ref a_said, .ref a_spared, .ref a_leaveGift, .ref a_leaveFrom, .ref a_leaveTo, .ref a_lateDay, .ref a_lateOffice, .ref a_lateBy, .ref a_guests, .ref a_who, .ref a_used, .ref a_lacks, .ref a_candles, .ref a_masses, .ref a_owing, .ref a_heldOn, .ref a_waits, .ref a_tape, .ref a_text, .int 0, .int 0, .int 0, .int (-1), .int 0, .ref a_statements, .ref a_taken, .ref a_sort, .ref a_first, .ref a_second, .int 0, .int 0]))]) [0] rfl
  refine roV (As := [.int i]) (rest := []) S (m_isMonk  ) (cwV 1 hts gX12_away_X12_isMonk rfl rfl rfl (by decide +kernel) ⟨Nat.le_of_ble_eq_true rfl, Nat.le_of_ble_eq_true rfl⟩) hK hPc (va_recv hK.1 hPc (ci := 11) (q0 := 0) rfl rfl) rfl hl.1 rfl (Nat.le_of_ble_eq_true rfl) dX12_away_2 ⟨Nat.le_of_ble_eq_true rfl, Nat.le_of_ble_eq_true rfl⟩ (fun r_1 hw_1 => ?_)
  have hw_1 : r_1.toInt = 0 := hw_1
  refine lv_if_eq (tgt := 37) hx hb dX12_away_5 (by decide) (fun c_2 => ?_) (fun c_2 => ?_)
  · have tc_2 := t_eq c_2
    refine lv_iconst (v := (-1)) hx hb dX12_away_37 (by decide) ?_
    exact hret (-1) _ _ (by omega) rfl dX12_away_38
  · have tc_2 := t_ne c_2
    exfalso; omega

theorem in_q_feast_X12 : ∀ w ∈ wsX120, w ∈ wsX12_feast := by decide +kernel
set_option maxHeartbeats 8000000 in
set_option maxRecDepth 100000 in
theorem q_feast {l : Launch} {D : va_G} {cI cZ cB : ClassId} {sz : Nat} {h a_isPriest a_bars a_joined a_turns a_awayMonk a_awayFrom a_awayTo a_feastDay a_rank a_isWeekly a_isDouble a_giftDay a_giftFrom a_owed a_said a_spared a_leaveGift a_leaveFrom a_leaveTo a_lateDay a_lateOffice a_lateBy a_guests a_who a_used a_lacks a_candles a_masses a_owing a_heldOn a_waits a_tape a_text a_statements a_taken a_sort a_first a_second : Nat} {f_feastDay f_rank : Nat → Int32} {d k : Int32}  : Met l yX12_feast wsX12_feast ({ frames := 1, cells := 0, slots := 0, locals := 22 }) (RW D cI cZ cB [.ref h, .int d, .int k] sz [(h, .inr (11, [.int 0, .int 0, .int 0, .int 0, .int 0, .int 0, .int 0, .int 0, .int 0, .ref a_isPriest, .ref a_bars, .ref a_joined, .ref a_turns, .ref a_awayMonk, .ref a_awayFrom, .ref a_awayTo, .ref a_feastDay, .ref a_rank, .ref a_isWeekly, .ref a_isDouble, .ref a_giftDay, .ref a_giftFrom, .ref a_owed, .ref a_said, .ref a_spared, .ref a_leaveGift, .ref a_leaveFrom, .ref a_leaveTo, .ref a_lateDay, .ref a_lateOffice, .ref a_lateBy, .ref a_guests, .ref a_who, .ref a_used, .ref a_lacks, .ref a_candles, .ref a_masses, .ref a_owing, .ref a_heldOn, .ref a_waits, .ref a_tape, .ref a_text, .int 0, .int 0, .int 0, .int (-1), .int 0, .ref a_statements, .ref a_taken, .ref a_sort, .ref a_first, .ref a_second, .int 0, .int 0])), (a_feastDay, .inl (cI, 40, .inl f_feastDay)), (a_rank, .inl (cI, 40, .inl f_rank))]) (va_Qi (fun (r : Int32) (u : Int32 × Nat → Int32 × Nat → Int32) => ((0 ≤ d.toInt ∧ d.toInt ≤ 364 ∧ 1 ≤ k.toInt ∧ k.toInt ≤ 4) → r.toInt = 0) ∧ (¬ (0 ≤ d.toInt ∧ d.toInt ≤ 364 ∧ 1 ≤ k.toInt ∧ k.toInt ≤ 4) → r.toInt = -1)) (BW D [(h, .inr (11, [.int 0, .int 0, .int 0, .int 0, .int 0, .int 0, .int 0, .int 0, .int 0, .ref a_isPriest, .ref a_bars, .ref a_joined, .ref a_turns, .ref a_awayMonk, .ref a_awayFrom, .ref a_awayTo, .ref a_feastDay, .ref a_rank, .ref a_isWeekly, .ref a_isDouble, .ref a_giftDay, .ref a_giftFrom, .ref a_owed, .ref a_said, .ref a_spared, .ref a_leaveGift, .ref a_leaveFrom, .ref a_leaveTo, .ref a_lateDay, .ref a_lateOffice, .ref a_lateBy, .ref a_guests, .ref a_who, .ref a_used, .ref a_lacks, .ref a_candles, .ref a_masses, .ref a_owing, .ref a_heldOn, .ref a_waits, .ref a_tape, .ref a_text, .int 0, .int 0, .int 0, .int (-1), .int 0, .ref a_statements, .ref a_taken, .ref a_sort, .ref a_first, .ref a_second, .int 0, .int 0])), (a_feastDay, .inl (cI, 40, .inl f_feastDay)), (a_rank, .inl (cI, 40, .inl f_rank))] sz (fun u : Int32 × Nat → Int32 × Nat → Int32 => [(h, .inr (11, [.int 0, .int 0, .int 0, .int u.1, .int 0, .int 0, .int 0, .int 0, .int 0, .ref a_isPriest, .ref a_bars, .ref a_joined, .ref a_turns, .ref a_awayMonk, .ref a_awayFrom, .ref a_awayTo, .ref a_feastDay, .ref a_rank, .ref a_isWeekly, .ref a_isDouble, .ref a_giftDay, .ref a_giftFrom, .ref a_owed, .ref a_said, .ref a_spared, .ref a_leaveGift, .ref a_leaveFrom, .ref a_leaveTo, .ref a_lateDay, .ref a_lateOffice, .ref a_lateBy, .ref a_guests, .ref a_who, .ref a_used, .ref a_lacks, .ref a_candles, .ref a_masses, .ref a_owing, .ref a_heldOn, .ref a_waits, .ref a_tape, .ref a_text, .int 0, .int 0, .int 0, .int (-1), .int 0, .ref a_statements, .ref a_taken, .ref a_sort, .ref a_first, .ref a_second, .int 0, .int 0])), (a_feastDay, .inl (cI, 40, .inl u.2.1)), (a_rank, .inl (cI, 40, .inl u.2.2))])) (va_A [(h, .inr (11, [.int 0, .int 0, .int 0, .int 0, .int 0, .int 0, .int 0, .int 0, .int 0, .ref a_isPriest, .ref a_bars, .ref a_joined, .ref a_turns, .ref a_awayMonk, .ref a_awayFrom, .ref a_awayTo, .ref a_feastDay, .ref a_rank, .ref a_isWeekly, .ref a_isDouble, .ref a_giftDay, .ref a_giftFrom, .ref a_owed, .ref a_said, .ref a_spared, .ref a_leaveGift, .ref a_leaveFrom, .ref a_leaveTo, .ref a_lateDay, .ref a_lateOffice, .ref a_lateBy, .ref a_guests, .ref a_who, .ref a_used, .ref a_lacks, .ref a_candles, .ref a_masses, .ref a_owing, .ref a_heldOn, .ref a_waits, .ref a_tape, .ref a_text, .int 0, .int 0, .int 0, .int (-1), .int 0, .ref a_statements, .ref a_taken, .ref a_sort, .ref a_first, .ref a_second, .int 0, .int 0])), (a_feastDay, .inl (cI, 40, .inl f_feastDay)), (a_rank, .inl (cI, 40, .inl f_rank))] sz)) 0 0 (va_A [(h, .inr (11, [.int 0, .int 0, .int 0, .int 0, .int 0, .int 0, .int 0, .int 0, .int 0, .ref a_isPriest, .ref a_bars, .ref a_joined, .ref a_turns, .ref a_awayMonk, .ref a_awayFrom, .ref a_awayTo, .ref a_feastDay, .ref a_rank, .ref a_isWeekly, .ref a_isDouble, .ref a_giftDay, .ref a_giftFrom, .ref a_owed, .ref a_said, .ref a_spared, .ref a_leaveGift, .ref a_leaveFrom, .ref a_leaveTo, .ref a_lateDay, .ref a_lateOffice, .ref a_lateBy, .ref a_guests, .ref a_who, .ref a_used, .ref a_lacks, .ref a_candles, .ref a_masses, .ref a_owing, .ref a_heldOn, .ref a_waits, .ref a_tape, .ref a_text, .int 0, .int 0, .int 0, .int (-1), .int 0, .ref a_statements, .ref a_taken, .ref a_sort, .ref a_first, .ref a_second, .int 0, .int 0])), (a_feastDay, .inl (cI, 40, .inl f_feastDay)), (a_rank, .inl (cI, 40, .inl f_rank))] sz) := by
  refine rw_ret (cc := cX12_feast) (maxL := 3) (ty := .int) (own := RX12) (by decide) rfl rfl (Nat.le_of_ble_eq_true rfl) ?_
  intro p e s m args below meth c Q A S hin hret hP hK hD hA hS ls hl
  obtain ⟨hx, hb, hml, hown, hts⟩ := id S
  have hl : lv_has ls 3 [(0, .ref h), (1, .int d), (2, .int k)] := hl
  have kkm1 : (-1 : Int32).toInt = -1 := by decide
  have kk0 : (0 : Int32).toInt = 0 := by decide
  have kk1 : (1 : Int32).toInt = 1 := by decide
  have kk4 : (4 : Int32).toInt = 4 := by decide
  have kk40 : (40 : Int32).toInt = 40 := by decide
  have kk364 : (364 : Int32).toInt = 364 := by decide
  have lk0 := hts (.fieldLink RX12 153 "AbbeyHoursModel" "feasts" "I") (by decide +kernel)
  have lk1 := hts (.fieldLink RX12 32 "AbbeyHoursModel" "feastDay" "[I") (by decide +kernel)
  have lk2 := hts (.fieldLink RX12 35 "AbbeyHoursModel" "rank" "[I") (by decide +kernel)
  refine lv_iload_n hx hb dX12_feast_0 rfl (lv_at hl 1 rfl) ?_
  refine lv_iconst (v := 0) hx hb dX12_feast_1 (by decide) ?_
  refine lv_sipush (v := 364) hx hb dX12_feast_2 (by decide) ?_
  have hPc := hP.sub (ws' := []) [] rfl
  refine roS (As := [.int d, .int 0, .int 364]) (rest := []) S (m_isIn  ) (va_cwS 3 hts gX12_feast_X12_isIn rfl rfl rfl (by decide +kernel) ⟨Nat.le_of_ble_eq_true rfl, Nat.le_of_ble_eq_true rfl⟩) hK hPc rfl hl.1 rfl (Nat.le_of_ble_eq_true rfl) dX12_feast_5 ⟨Nat.le_of_ble_eq_true rfl, Nat.le_of_ble_eq_true rfl⟩ (fun r_1 hw_1 => ?_)
  have hw_1 : (r_1.toInt = 1 ∧ (0 : Int32).toInt ≤ d.toInt ∧ d.toInt ≤ (364 : Int32).toInt) ∨ (r_1.toInt = 0 ∧ (d.toInt < (0 : Int32).toInt ∨ (364 : Int32).toInt < d.toInt)) := hw_1
  refine lv_if_eq (tgt := 29) hx hb dX12_feast_8 (by decide) (fun c_2 => ?_) (fun c_2 => ?_)
  · have tc_2 := t_eq c_2
    refine lv_iconst (v := (-1)) hx hb dX12_feast_29 (by decide) ?_
    exact hret (-1) (0, f_feastDay, f_rank) _ _ _ _ (by omega) rfl (hP.sub [0, 1, 2] rfl) (hD.sub [0, 1, 2] (by decide) rfl) hS dX12_feast_30
  · have tc_2 := t_ne c_2
    refine lv_iload_n hx hb dX12_feast_11 rfl (lv_at hl 2 rfl) ?_
    refine lv_iconst (v := 1) hx hb dX12_feast_12 (by decide) ?_
    refine lv_iconst (v := 4) hx hb dX12_feast_13 (by decide) ?_
    have hPc := hP.sub (ws' := []) [] rfl
    refine roS (As := [.int k, .int 1, .int 4]) (rest := []) S (m_isIn  ) (va_cwS 3 hts gX12_feast_X12_isIn rfl rfl rfl (by decide +kernel) ⟨Nat.le_of_ble_eq_true rfl, Nat.le_of_ble_eq_true rfl⟩) hK hPc rfl hl.1 rfl (Nat.le_of_ble_eq_true rfl) dX12_feast_14 ⟨Nat.le_of_ble_eq_true rfl, Nat.le_of_ble_eq_true rfl⟩ (fun r_3 hw_3 => ?_)
    have hw_3 : (r_3.toInt = 1 ∧ (1 : Int32).toInt ≤ k.toInt ∧ k.toInt ≤ (4 : Int32).toInt) ∨ (r_3.toInt = 0 ∧ (k.toInt < (1 : Int32).toInt ∨ (4 : Int32).toInt < k.toInt)) := hw_3
    refine lv_if_eq (tgt := 29) hx hb dX12_feast_17 (by decide) (fun c_4 => ?_) (fun c_4 => ?_)
    · have tc_4 := t_eq c_4
      refine lv_iconst (v := (-1)) hx hb dX12_feast_29 (by decide) ?_
      exact hret (-1) (0, f_feastDay, f_rank) _ _ _ _ (by omega) rfl (hP.sub [0, 1, 2] rfl) (hD.sub [0, 1, 2] (by decide) rfl) hS dX12_feast_30
    · have tc_4 := t_ne c_4
      refine lv_aload_n hx hb dX12_feast_20 rfl (lv_at hl 0 rfl) ?_
      refine va_get (D := D) (ci := 11) (v := .int 0) (C := RX12) (T := TX12) (N := 54) hx hb hts in_q_feast_X12 hown hK.1 hP 0 rfl rfl 3 (by decide) lk0 (fun _ h9 => h9) rfl dX12_feast_21 ?_
      refine lv_bipush (v := 40) hx hb dX12_feast_24 (by decide) ?_
      refine lv_icmp_ne (tgt := 31) hx hb dX12_feast_26 (by decide) (fun c_5 => ?_) (fun c_5 => ?_)
      · have tc_5 := t_ne c_5
        refine lv_aload_n hx hb dX12_feast_31 rfl (lv_at hl 0 rfl) ?_
        refine va_get (D := D) (ci := 11) (v := .ref a_feastDay) (C := RX12) (T := TX12) (N := 54) hx hb hts in_q_feast_X12 hown hK.1 hP 0 rfl rfl 16 (by decide) lk1 (fun _ h9 => h9) rfl dX12_feast_32 ?_
        refine lv_aload_n hx hb dX12_feast_35 rfl (lv_at hl 0 rfl) ?_
        refine va_get (D := D) (ci := 11) (v := .int 0) (C := RX12) (T := TX12) (N := 54) hx hb hts in_q_feast_X12 hown hK.1 hP 0 rfl rfl 3 (by decide) lk0 (fun _ h9 => h9) rfl dX12_feast_36 ?_
        refine lv_iload_n hx hb dX12_feast_39 rfl (lv_at hl 1 rfl) ?_
        refine va_iast hx hb hK.1 hP hD hS 1 0 rfl rfl (t_in (by omega) (by omega)) dX12_feast_40 (fun H locs hP hD hS => ?_)
        obtain ⟨g_6, eg_6⟩ : ∃ z : Nat → Int32, z = upd f_feastDay ((0 : Int32).toNatClampNeg) d := ⟨_, rfl⟩
        rw [← eg_6] at hP hD
        have hP : va_P D vwCl [(h, .inr (11, [.int 0, .int 0, .int 0, .int 0, .int 0, .int 0, .int 0, .int 0, .int 0, .ref a_isPriest, .ref a_bars, .ref a_joined, .ref a_turns, .ref a_awayMonk, .ref a_awayFrom, .ref a_awayTo, .ref a_feastDay, .ref a_rank, .ref a_isWeekly, .ref a_isDouble, .ref a_giftDay, .ref a_giftFrom, .ref a_owed, .ref a_said, .ref a_spared, .ref a_leaveGift, .ref a_leaveFrom, .ref a_leaveTo, .ref a_lateDay, .ref a_lateOffice, .ref a_lateBy, .ref a_guests, .ref a_who, .ref a_used, .ref a_lacks, .ref a_candles, .ref a_masses, .ref a_owing, .ref a_heldOn, .ref a_waits, .ref a_tape, .ref a_text, .int 0, .int 0, .int 0, .int (-1), .int 0, .ref a_statements, .ref a_taken, .ref a_sort, .ref a_first, .ref a_second, .int 0, .int 0])), (a_feastDay, .inl (cI, 40, .inl g_6)), (a_rank, .inl (cI, 40, .inl f_rank))] H := hP
        have hD : va_D A [(h, .inr (11, [.int 0, .int 0, .int 0, .int 0, .int 0, .int 0, .int 0, .int 0, .int 0, .ref a_isPriest, .ref a_bars, .ref a_joined, .ref a_turns, .ref a_awayMonk, .ref a_awayFrom, .ref a_awayTo, .ref a_feastDay, .ref a_rank, .ref a_isWeekly, .ref a_isDouble, .ref a_giftDay, .ref a_giftFrom, .ref a_owed, .ref a_said, .ref a_spared, .ref a_leaveGift, .ref a_leaveFrom, .ref a_leaveTo, .ref a_lateDay, .ref a_lateOffice, .ref a_lateBy, .ref a_guests, .ref a_who, .ref a_used, .ref a_lacks, .ref a_candles, .ref a_masses, .ref a_owing, .ref a_heldOn, .ref a_waits, .ref a_tape, .ref a_text, .int 0, .int 0, .int 0, .int (-1), .int 0, .ref a_statements, .ref a_taken, .ref a_sort, .ref a_first, .ref a_second, .int 0, .int 0])), (a_feastDay, .inl (cI, 40, .inl g_6)), (a_rank, .inl (cI, 40, .inl f_rank))] := hD
        refine lv_aload_n hx hb dX12_feast_41 rfl (lv_at hl 0 rfl) ?_
        refine va_get (D := D) (ci := 11) (v := .ref a_rank) (C := RX12) (T := TX12) (N := 54) hx hb hts in_q_feast_X12 hown hK.1 hP 0 rfl rfl 17 (by decide) lk2 (fun _ h9 => h9) rfl dX12_feast_42 ?_
        refine lv_aload_n hx hb dX12_feast_45 rfl (lv_at hl 0 rfl) ?_
        refine va_get (D := D) (ci := 11) (v := .int 0) (C := RX12) (T := TX12) (N := 54) hx hb hts in_q_feast_X12 hown hK.1 hP 0 rfl rfl 3 (by decide) lk0 (fun _ h9 => h9) rfl dX12_feast_46 ?_
        refine lv_iload_n hx hb dX12_feast_49 rfl (lv_at hl 2 rfl) ?_
        refine va_iast hx hb hK.1 hP hD hS 2 0 rfl rfl (t_in (by omega) (by omega)) dX12_feast_50 (fun H locs hP hD hS => ?_)
        obtain ⟨g_7, eg_7⟩ : ∃ z : Nat → Int32, z = upd f_rank ((0 : Int32).toNatClampNeg) k := ⟨_, rfl⟩
        rw [← eg_7] at hP hD
        have hP : va_P D vwCl [(h, .inr (11, [.int 0, .int 0, .int 0, .int 0, .int 0, .int 0, .int 0, .int 0, .int 0, .ref a_isPriest, .ref a_bars, .ref a_joined, .ref a_turns, .ref a_awayMonk, .ref a_awayFrom, .ref a_awayTo, .ref a_feastDay, .ref a_rank, .ref a_isWeekly, .ref a_isDouble, .ref a_giftDay, .ref a_giftFrom, .ref a_owed, .ref a_said, .ref a_spared, .ref a_leaveGift, .ref a_leaveFrom, .ref a_leaveTo, .ref a_lateDay, .ref a_lateOffice, .ref a_lateBy, .ref a_guests, .ref a_who, .ref a_used, .ref a_lacks, .ref a_candles, .ref a_masses, .ref a_owing, .ref a_heldOn, .ref a_waits, .ref a_tape, .ref a_text, .int 0, .int 0, .int 0, .int (-1), .int 0, .ref a_statements, .ref a_taken, .ref a_sort, .ref a_first, .ref a_second, .int 0, .int 0])), (a_feastDay, .inl (cI, 40, .inl g_6)), (a_rank, .inl (cI, 40, .inl g_7))] H := hP
        have hD : va_D A [(h, .inr (11, [.int 0, .int 0, .int 0, .int 0, .int 0, .int 0, .int 0, .int 0, .int 0, .ref a_isPriest, .ref a_bars, .ref a_joined, .ref a_turns, .ref a_awayMonk, .ref a_awayFrom, .ref a_awayTo, .ref a_feastDay, .ref a_rank, .ref a_isWeekly, .ref a_isDouble, .ref a_giftDay, .ref a_giftFrom, .ref a_owed, .ref a_said, .ref a_spared, .ref a_leaveGift, .ref a_leaveFrom, .ref a_leaveTo, .ref a_lateDay, .ref a_lateOffice, .ref a_lateBy, .ref a_guests, .ref a_who, .ref a_used, .ref a_lacks, .ref a_candles, .ref a_masses, .ref a_owing, .ref a_heldOn, .ref a_waits, .ref a_tape, .ref a_text, .int 0, .int 0, .int 0, .int (-1), .int 0, .ref a_statements, .ref a_taken, .ref a_sort, .ref a_first, .ref a_second, .int 0, .int 0])), (a_feastDay, .inl (cI, 40, .inl g_6)), (a_rank, .inl (cI, 40, .inl g_7))] := hD
        refine lv_aload_n hx hb dX12_feast_51 rfl (lv_at hl 0 rfl) ?_
        refine lv_dup hx hb dX12_feast_52 rfl ?_
        refine va_get (D := D) (ci := 11) (v := .int 0) (C := RX12) (T := TX12) (N := 54) hx hb hts in_q_feast_X12 hown hK.1 hP 0 rfl rfl 3 (by decide) lk0 (fun _ h9 => h9) rfl dX12_feast_53 ?_
        refine lv_iconst (v := 1) hx hb dX12_feast_56 (by decide) ?_
        refine lv_iadd hx hb dX12_feast_57 ?_
        refine lv_topi (fun x_8 ex_8 => ?_)
        first | have tx_8 := t_add ex_8 (by omega) (by omega) | skip
        refine va_put (D := D) (ci := 11) (v := .int x_8) (ty := .int) (C := RX12) (T := TX12) (N := 54) hx hb hts in_q_feast_X12 tyX12 tyX12_ok nmX12 hown hK.1 hP hD hS 0 rfl rfl 3 (by decide) lk0 (fun _ h9 => h9) rfl (by decide +kernel) rfl rfl (Nat.le_of_ble_eq_true rfl) dX12_feast_58 (fun H locs hP hD hS => ?_)
        have hP : va_P D vwCl [(h, .inr (11, [.int 0, .int 0, .int 0, .int x_8, .int 0, .int 0, .int 0, .int 0, .int 0, .ref a_isPriest, .ref a_bars, .ref a_joined, .ref a_turns, .ref a_awayMonk, .ref a_awayFrom, .ref a_awayTo, .ref a_feastDay, .ref a_rank, .ref a_isWeekly, .ref a_isDouble, .ref a_giftDay, .ref a_giftFrom, .ref a_owed, .ref a_said, .ref a_spared, .ref a_leaveGift, .ref a_leaveFrom, .ref a_leaveTo, .ref a_lateDay, .ref a_lateOffice, .ref a_lateBy, .ref a_guests, .ref a_who, .ref a_used, .ref a_lacks, .ref a_candles, .ref a_masses, .ref a_owing, .ref a_heldOn, .ref a_waits, .ref a_tape, .ref a_text, .int 0, .int 0, .int 0, .int (-1), .int 0, .ref a_statements, .ref a_taken, .ref a_sort, .ref a_first, .ref a_second, .int 0, .int 0])), (a_feastDay, .inl (cI, 40, .inl g_6)), (a_rank, .inl (cI, 40, .inl g_7))] H := hP
        have hD : va_D A [(h, .inr (11, [.int 0, .int 0, .int 0, .int x_8, .int 0, .int 0, .int 0, .int 0, .int 0, .ref a_isPriest, .ref a_bars, .ref a_joined, .ref a_turns, .ref a_awayMonk, .ref a_awayFrom, .ref a_awayTo, .ref a_feastDay, .ref a_rank, .ref a_isWeekly, .ref a_isDouble, .ref a_giftDay, .ref a_giftFrom, .ref a_owed, .ref a_said, .ref a_spared, .ref a_leaveGift, .ref a_leaveFrom, .ref a_leaveTo, .ref a_lateDay, .ref a_lateOffice, .ref a_lateBy, .ref a_guests, .ref a_who, .ref a_used, .ref a_lacks, .ref a_candles, .ref a_masses, .ref a_owing, .ref a_heldOn, .ref a_waits, .ref a_tape, .ref a_text, .int 0, .int 0, .int 0, .int (-1), .int 0, .ref a_statements, .ref a_taken, .ref a_sort, .ref a_first, .ref a_second, .int 0, .int 0])), (a_feastDay, .inl (cI, 40, .inl g_6)), (a_rank, .inl (cI, 40, .inl g_7))] := hD
        refine lv_aload_n hx hb dX12_feast_61 rfl (lv_at hl 0 rfl) ?_
        refine va_get (D := D) (ci := 11) (v := .int x_8) (C := RX12) (T := TX12) (N := 54) hx hb hts in_q_feast_X12 hown hK.1 hP 0 rfl rfl 3 (by decide) lk0 (fun _ h9 => h9) rfl dX12_feast_62 ?_
        refine lv_iconst (v := 1) hx hb dX12_feast_65 (by decide) ?_
        refine lv_isub hx hb dX12_feast_66 ?_
        refine lv_topi (fun x_9 ex_9 => ?_)
        first | have tx_9 := t_sub ex_9 (by omega) (by omega) | skip
        exact hret x_9 (x_8, g_6, g_7) _ _ _ _ (by omega) rfl (hP.sub [0, 1, 2] rfl) (hD.sub [0, 1, 2] (by decide) rfl) hS dX12_feast_67
      · exact absurd c_5 (by decide)

set_option maxHeartbeats 8000000 in
set_option maxRecDepth 100000 in
theorem q_light {l : Launch} {D : va_G} {cI cZ cB : ClassId} {h a_isPriest a_bars a_joined a_turns a_awayMonk a_awayFrom a_awayTo a_feastDay a_rank a_isWeekly a_isDouble a_giftDay a_giftFrom a_owed a_said a_spared a_leaveGift a_leaveFrom a_leaveTo a_lateDay a_lateOffice a_lateBy a_guests a_who a_used a_lacks a_candles a_masses a_owing a_heldOn a_waits a_tape a_text a_statements a_taken a_sort a_first a_second : Nat} {d w : Int32}  : Met l yX12_light wsX12_light ({ frames := 3, cells := 0, slots := 0, locals := 61 }) (RO D cI cZ cB [.ref h, .int d, .int w] [(h, .inr (11, [.int 0, .int 0, .int 0, .int 0, .int 0, .int 0, .int 0, .int 0, .int 0, .ref a_isPriest, .ref a_bars, .ref a_joined, .ref a_turns, .ref a_awayMonk, .ref a_awayFrom, .ref a_awayTo, .ref a_feastDay, .ref a_rank, .ref a_isWeekly, .ref a_isDouble, .ref a_giftDay, .ref a_giftFrom, .ref a_owed, .ref a_said, .ref a_spared, .ref a_leaveGift, .ref a_leaveFrom, .ref a_leaveTo, .ref a_lateDay, .ref a_lateOffice, .ref a_lateBy, .ref a_guests, .ref a_who, .ref a_used, .ref a_lacks, .ref a_candles, .ref a_masses, .ref a_owing, .ref a_heldOn, .ref a_waits, .ref a_tape, .ref a_text, .int 0, .int 0, .int 0, .int (-1), .int 0, .ref a_statements, .ref a_taken, .ref a_sort, .ref a_first, .ref a_second, .int 0, .int 0]))]) (vp_Si (fun r : Int32 => r = lightF d w)) 0 0 (fun _ => False) := by
  refine ro_ret (cc := cX12_light) (maxL := 3) (ty := .int) (own := RX12) (by decide) rfl rfl (Nat.le_of_ble_eq_true rfl) ?_
  intro p e s m args below meth c Q S hret hP hK ls hl
  obtain ⟨hx, hb, hml, hown, hts⟩ := id S
  have hl : lv_has ls 3 [(0, .ref h), (1, .int d), (2, .int w)] := hl
  have kkm1 : (-1 : Int32).toInt = -1 := by decide
  have kk0 : (0 : Int32).toInt = 0 := by decide
  have kk1 : (1 : Int32).toInt = 1 := by decide
  have kk2 : (2 : Int32).toInt = 2 := by decide
  have kk364 : (364 : Int32).toInt = 364 := by decide
  refine lv_iload_n hx hb dX12_light_0 rfl (lv_at hl 1 rfl) ?_
  refine lv_iconst (v := 0) hx hb dX12_light_1 (by decide) ?_
  refine lv_sipush (v := 364) hx hb dX12_light_2 (by decide) ?_
  have hPc := hP.sub (ws' := []) [] rfl
  refine roS (As := [.int d, .int 0, .int 364]) (rest := []) S (m_isIn  ) (va_cwS 3 hts gX12_light_X12_isIn rfl rfl rfl (by decide +kernel) ⟨Nat.le_of_ble_eq_true rfl, Nat.le_of_ble_eq_true rfl⟩) hK hPc rfl hl.1 rfl (Nat.le_of_ble_eq_true rfl) dX12_light_5 ⟨Nat.le_of_ble_eq_true rfl, Nat.le_of_ble_eq_true rfl⟩ (fun r_1 hw_1 => ?_)
  have hw_1 : (r_1.toInt = 1 ∧ (0 : Int32).toInt ≤ d.toInt ∧ d.toInt ≤ (364 : Int32).toInt) ∨ (r_1.toInt = 0 ∧ (d.toInt < (0 : Int32).toInt ∨ (364 : Int32).toInt < d.toInt)) := hw_1
  refine lv_if_eq (tgt := 20) hx hb dX12_light_8 (by decide) (fun c_2 => ?_) (fun c_2 => ?_)
  · have tc_2 := t_eq c_2
    refine lv_iconst (v := (-1)) hx hb dX12_light_20 (by decide) ?_
    refine lv_goto (tgt := 51) hx hb dX12_light_21 (by decide) ?_
    exact hret (-1) _ _ (by subst_vars; unfold lightF; first | (rw [if_pos (by omega)]; first | rfl | rw [if_neg (by assumption), if_pos (by assumption)] | (rw [if_neg (by assumption), if_neg (by assumption), if_pos (Int32.toInt_inj.mp (by omega))]) | (rw [if_neg (fun q => by have := t_eq q; omega), if_neg (fun q => by have := t_eq q; omega), if_neg (fun q => by have := t_eq q; omega)])) | rw [if_neg (by omega)]) rfl dX12_light_51
  · have tc_2 := t_ne c_2
    refine lv_iload_n hx hb dX12_light_11 rfl (lv_at hl 2 rfl) ?_
    refine lv_iconst (v := 0) hx hb dX12_light_12 (by decide) ?_
    refine lv_iconst (v := 2) hx hb dX12_light_13 (by decide) ?_
    have hPc := hP.sub (ws' := []) [] rfl
    refine roS (As := [.int w, .int 0, .int 2]) (rest := []) S (m_isIn  ) (va_cwS 3 hts gX12_light_X12_isIn rfl rfl rfl (by decide +kernel) ⟨Nat.le_of_ble_eq_true rfl, Nat.le_of_ble_eq_true rfl⟩) hK hPc rfl hl.1 rfl (Nat.le_of_ble_eq_true rfl) dX12_light_14 ⟨Nat.le_of_ble_eq_true rfl, Nat.le_of_ble_eq_true rfl⟩ (fun r_3 hw_3 => ?_)
    have hw_3 : (r_3.toInt = 1 ∧ (0 : Int32).toInt ≤ w.toInt ∧ w.toInt ≤ (2 : Int32).toInt) ∨ (r_3.toInt = 0 ∧ (w.toInt < (0 : Int32).toInt ∨ (2 : Int32).toInt < w.toInt)) := hw_3
    refine lv_if_ne (tgt := 24) hx hb dX12_light_17 (by decide) (fun c_4 => ?_) (fun c_4 => ?_)
    · have tc_4 := t_ne c_4
      refine lv_iload_n hx hb dX12_light_24 rfl (lv_at hl 2 rfl) ?_
      refine lv_if_ne (tgt := 35) hx hb dX12_light_25 (by decide) (fun h0 => ?_) (fun h0 => ?_)
      · have th0 := t_ne h0
        refine lv_iload_n hx hb dX12_light_35 rfl (lv_at hl 2 rfl) ?_
        refine lv_iconst (v := 1) hx hb dX12_light_36 (by decide) ?_
        refine lv_icmp_ne (tgt := 47) hx hb dX12_light_37 (by decide) (fun h1 => ?_) (fun h1 => ?_)
        · have th1 := t_ne h1
          refine lv_iload_n hx hb dX12_light_47 rfl (lv_at hl 1 rfl) ?_
          have hPc := hP.sub (ws' := []) [] rfl
          refine roS (As := [.int d]) (rest := []) S (m_sets  ) (va_cwS 1 hts gX12_light_X12_sets rfl rfl rfl (by decide +kernel) ⟨Nat.le_of_ble_eq_true rfl, Nat.le_of_ble_eq_true rfl⟩) hK hPc rfl hl.1 rfl (Nat.le_of_ble_eq_true rfl) dX12_light_48 ⟨Nat.le_of_ble_eq_true rfl, Nat.le_of_ble_eq_true rfl⟩ (fun r_7 hw_7 => ?_)
          have hw_7 : r_7 = sunS d := hw_7
          exact hret r_7 _ _ (by subst_vars; unfold lightF; first | (rw [if_pos (by omega)]; first | rfl | rw [if_neg (by assumption), if_pos (by assumption)] | (rw [if_neg (by assumption), if_neg (by assumption), if_pos (Int32.toInt_inj.mp (by omega))]) | (rw [if_neg (fun q => by have := t_eq q; omega), if_neg (fun q => by have := t_eq q; omega), if_neg (fun q => by have := t_eq q; omega)])) | rw [if_neg (by omega)]) rfl dX12_light_51
        · have th1 := t_eq h1
          refine lv_iload_n hx hb dX12_light_40 rfl (lv_at hl 1 rfl) ?_
          have hPc := hP.sub (ws' := []) [] rfl
          refine roS (As := [.int d]) (rest := []) S (m_rises  ) (va_cwS 1 hts gX12_light_X12_rises rfl rfl rfl (by decide +kernel) ⟨Nat.le_of_ble_eq_true rfl, Nat.le_of_ble_eq_true rfl⟩) hK hPc rfl hl.1 rfl (Nat.le_of_ble_eq_true rfl) dX12_light_41 ⟨Nat.le_of_ble_eq_true rfl, Nat.le_of_ble_eq_true rfl⟩ (fun r_8 hw_8 => ?_)
          have hw_8 : r_8 = sunR d := hw_8
          refine lv_goto (tgt := 51) hx hb dX12_light_44 (by decide) ?_
          exact hret r_8 _ _ (by subst_vars; unfold lightF; first | (rw [if_pos (by omega)]; first | rfl | rw [if_neg (by assumption), if_pos (by assumption)] | (rw [if_neg (by assumption), if_neg (by assumption), if_pos (Int32.toInt_inj.mp (by omega))]) | (rw [if_neg (fun q => by have := t_eq q; omega), if_neg (fun q => by have := t_eq q; omega), if_neg (fun q => by have := t_eq q; omega)])) | rw [if_neg (by omega)]) rfl dX12_light_51
      · have th0 := t_eq h0
        refine lv_iload_n hx hb dX12_light_28 rfl (lv_at hl 1 rfl) ?_
        have hPc := hP.sub (ws' := []) [] rfl
        refine roS (As := [.int d]) (rest := []) S (m_lightOf  ) (va_cwS 1 hts gX12_light_X12_lightOf rfl rfl rfl (by decide +kernel) ⟨Nat.le_of_ble_eq_true rfl, Nat.le_of_ble_eq_true rfl⟩) hK hPc rfl hl.1 rfl (Nat.le_of_ble_eq_true rfl) dX12_light_29 ⟨Nat.le_of_ble_eq_true rfl, Nat.le_of_ble_eq_true rfl⟩ (fun r_9 hw_9 => ?_)
        have hw_9 : r_9 = sunM d := hw_9
        refine lv_goto (tgt := 51) hx hb dX12_light_32 (by decide) ?_
        exact hret r_9 _ _ (by subst_vars; unfold lightF; first | (rw [if_pos (by omega)]; first | rfl | rw [if_neg (by assumption), if_pos (by assumption)] | (rw [if_neg (by assumption), if_neg (by assumption), if_pos (Int32.toInt_inj.mp (by omega))]) | (rw [if_neg (fun q => by have := t_eq q; omega), if_neg (fun q => by have := t_eq q; omega), if_neg (fun q => by have := t_eq q; omega)])) | rw [if_neg (by omega)]) rfl dX12_light_51
    · have tc_4 := t_eq c_4
      refine lv_iconst (v := (-1)) hx hb dX12_light_20 (by decide) ?_
      refine lv_goto (tgt := 51) hx hb dX12_light_21 (by decide) ?_
      exact hret (-1) _ _ (by subst_vars; unfold lightF; first | (rw [if_pos (by omega)]; first | rfl | rw [if_neg (by assumption), if_pos (by assumption)] | (rw [if_neg (by assumption), if_neg (by assumption), if_pos (Int32.toInt_inj.mp (by omega))]) | (rw [if_neg (fun q => by have := t_eq q; omega), if_neg (fun q => by have := t_eq q; omega), if_neg (fun q => by have := t_eq q; omega)])) | rw [if_neg (by omega)]) rfl dX12_light_51

set_option maxHeartbeats 8000000 in
set_option maxRecDepth 100000 in
theorem q_office {l : Launch} {D : va_G} {cI cZ cB : ClassId} {h a_isPriest a_bars a_joined a_turns a_awayMonk a_awayFrom a_awayTo a_feastDay a_rank a_isWeekly a_isDouble a_giftDay a_giftFrom a_owed a_said a_spared a_leaveGift a_leaveFrom a_leaveTo a_lateDay a_lateOffice a_lateBy a_guests a_who a_used a_lacks a_candles a_masses a_owing a_heldOn a_waits a_tape a_text a_statements a_taken a_sort a_first a_second : Nat} {d k : Int32}  : Met l yX12_office wsX12_office ({ frames := 5, cells := 0, slots := 0, locals := 107 }) (RO D cI cZ cB [.ref h, .int d, .int k] [(h, .inr (11, [.int 0, .int 0, .int 0, .int 0, .int 0, .int 0, .int 0, .int 0, .int 0, .ref a_isPriest, .ref a_bars, .ref a_joined, .ref a_turns, .ref a_awayMonk, .ref a_awayFrom, .ref a_awayTo, .ref a_feastDay, .ref a_rank, .ref a_isWeekly, .ref a_isDouble, .ref a_giftDay, .ref a_giftFrom, .ref a_owed, .ref a_said, .ref a_spared, .ref a_leaveGift, .ref a_leaveFrom, .ref a_leaveTo, .ref a_lateDay, .ref a_lateOffice, .ref a_lateBy, .ref a_guests, .ref a_who, .ref a_used, .ref a_lacks, .ref a_candles, .ref a_masses, .ref a_owing, .ref a_heldOn, .ref a_waits, .ref a_tape, .ref a_text, .int 0, .int 0, .int 0, .int (-1), .int 0, .ref a_statements, .ref a_taken, .ref a_sort, .ref a_first, .ref a_second, .int 0, .int 0]))]) (vp_Si (fun r : Int32 => ((0 ≤ d.toInt ∧ d.toInt ≤ 1094 ∧ 0 ≤ k.toInt ∧ k.toInt ≤ 7) → r = sunB (rem365 d) k) ∧ (¬ (0 ≤ d.toInt ∧ d.toInt ≤ 1094 ∧ 0 ≤ k.toInt ∧ k.toInt ≤ 7) → r.toInt = -1))) 0 0 (fun _ => False) := by
  refine ro_ret (cc := cX12_office) (maxL := 3) (ty := .int) (own := RX12) (by decide) rfl rfl (Nat.le_of_ble_eq_true rfl) ?_
  intro p e s m args below meth c Q S hret hP hK ls hl
  obtain ⟨hx, hb, hml, hown, hts⟩ := id S
  have hl : lv_has ls 3 [(0, .ref h), (1, .int d), (2, .int k)] := hl
  have kkm1 : (-1 : Int32).toInt = -1 := by decide
  have kk0 : (0 : Int32).toInt = 0 := by decide
  have kk7 : (7 : Int32).toInt = 7 := by decide
  refine lv_iload_n hx hb dX12_office_0 rfl (lv_at hl 1 rfl) ?_
  have hPc := hP.sub (ws' := []) [] rfl
  refine roS (As := [.int d]) (rest := []) S (m_isDay  ) (va_cwS 1 hts gX12_office_X12_isDay rfl rfl rfl (by decide +kernel) ⟨Nat.le_of_ble_eq_true rfl, Nat.le_of_ble_eq_true rfl⟩) hK hPc rfl hl.1 rfl (Nat.le_of_ble_eq_true rfl) dX12_office_1 ⟨Nat.le_of_ble_eq_true rfl, Nat.le_of_ble_eq_true rfl⟩ (fun r_1 hw_1 => ?_)
  have hw_1 : (r_1.toInt = 1 ∧ 0 ≤ d.toInt ∧ d.toInt ≤ 1094) ∨ (r_1.toInt = 0 ∧ (d.toInt < 0 ∨ 1094 < d.toInt)) := hw_1
  refine lv_if_eq (tgt := 26) hx hb dX12_office_4 (by decide) (fun c_2 => ?_) (fun c_2 => ?_)
  · have tc_2 := t_eq c_2
    refine lv_iconst (v := (-1)) hx hb dX12_office_26 (by decide) ?_
    exact hret (-1) _ _ (⟨fun q => by first | (rw [hw_st]; exact sunP_eq _ _ q.2.2.1 q.2.2.2) | (exfalso; omega), fun q => by first | omega | (exfalso; omega)⟩) rfl dX12_office_27
  · have tc_2 := t_ne c_2
    refine lv_iload_n hx hb dX12_office_7 rfl (lv_at hl 2 rfl) ?_
    refine lv_iconst (v := 0) hx hb dX12_office_8 (by decide) ?_
    refine lv_bipush (v := 7) hx hb dX12_office_9 (by decide) ?_
    have hPc := hP.sub (ws' := []) [] rfl
    refine roS (As := [.int k, .int 0, .int 7]) (rest := []) S (m_isIn  ) (va_cwS 3 hts gX12_office_X12_isIn rfl rfl rfl (by decide +kernel) ⟨Nat.le_of_ble_eq_true rfl, Nat.le_of_ble_eq_true rfl⟩) hK hPc rfl hl.1 rfl (Nat.le_of_ble_eq_true rfl) dX12_office_11 ⟨Nat.le_of_ble_eq_true rfl, Nat.le_of_ble_eq_true rfl⟩ (fun r_3 hw_3 => ?_)
    have hw_3 : (r_3.toInt = 1 ∧ (0 : Int32).toInt ≤ k.toInt ∧ k.toInt ≤ (7 : Int32).toInt) ∨ (r_3.toInt = 0 ∧ (k.toInt < (0 : Int32).toInt ∨ (7 : Int32).toInt < k.toInt)) := hw_3
    refine lv_if_eq (tgt := 26) hx hb dX12_office_14 (by decide) (fun c_4 => ?_) (fun c_4 => ?_)
    · have tc_4 := t_eq c_4
      refine lv_iconst (v := (-1)) hx hb dX12_office_26 (by decide) ?_
      exact hret (-1) _ _ (⟨fun q => by first | (rw [hw_st]; exact sunP_eq _ _ q.2.2.1 q.2.2.2) | (exfalso; omega), fun q => by first | omega | (exfalso; omega)⟩) rfl dX12_office_27
    · have tc_4 := t_ne c_4
      refine lv_aload_n hx hb dX12_office_17 rfl (lv_at hl 0 rfl) ?_
      refine lv_iload_n hx hb dX12_office_18 rfl (lv_at hl 1 rfl) ?_
      refine lv_iload_n hx hb dX12_office_19 rfl (lv_at hl 2 rfl) ?_
      have hPc := hP.sub (ws' := [(h, .inr (11, [.int 0, .int 0, .int 0, .int 0, .int 0, .int 0, .int 0, .int 0, .int 0, .ref a_isPriest, .ref a_bars, .ref a_joined, .ref a_turns, .ref a_awayMonk, .ref a_awayFrom, .ref a_awayTo, .ref a_feastDay, .ref a_rank, .ref a_isWeekly, .ref a_isDouble, .ref a_giftDay, .ref a_giftFrom, .ref a_owed, .ref a_said, .ref a_spared, .ref a_leaveGift, .ref a_leaveFrom, .ref a_leaveTo, .ref a_lateDay, .ref a_lateOffice, .ref a_lateBy, .ref a_guests, .ref a_who, .ref a_used, .ref a_lacks, .ref a_candles, .ref a_masses, .ref a_owing, .ref a_heldOn, .ref a_waits, .ref a_tape, .ref a_text, .int 0, .int 0, .int 0, .int (-1), .int 0, .ref a_statements, .ref a_taken, .ref a_sort, .ref a_first, .ref a_second, .int 0, .int 0]))]) [0] rfl
      refine roV (As := [.int d, .int k]) (rest := []) S (m_begins  ) (cwV 2 hts gX12_office_X12_begins rfl rfl rfl (by decide +kernel) ⟨Nat.le_of_ble_eq_true rfl, Nat.le_of_ble_eq_true rfl⟩) hK hPc (va_recv hK.1 hPc (ci := 11) (q0 := 0) rfl rfl) rfl hl.1 rfl (Nat.le_of_ble_eq_true rfl) dX12_office_20 ⟨Nat.le_of_ble_eq_true rfl, Nat.le_of_ble_eq_true rfl⟩ (fun r_st hw_st => ?_)
      have hw_st : r_st = sunP (rem365 d) k := hw_st
      refine lv_goto (tgt := 27) hx hb dX12_office_23 (by decide) ?_
      exact hret r_st _ _ (⟨fun q => by first | (rw [hw_st]; exact sunP_eq _ _ q.2.2.1 q.2.2.2) | (exfalso; omega), fun q => by first | omega | (exfalso; omega)⟩) rfl dX12_office_27

theorem in_q_late_X12 : ∀ w ∈ wsX120, w ∈ wsX12_late := by decide +kernel
set_option maxHeartbeats 8000000 in
set_option maxRecDepth 100000 in
theorem q_late {l : Launch} {D : va_G} {cI cZ cB : ClassId} {sz : Nat} {h a_isPriest a_bars a_joined a_turns a_awayMonk a_awayFrom a_awayTo a_feastDay a_rank a_isWeekly a_isDouble a_giftDay a_giftFrom a_owed a_said a_spared a_leaveGift a_leaveFrom a_leaveTo a_lateDay a_lateOffice a_lateBy a_guests a_who a_used a_lacks a_candles a_masses a_owing a_heldOn a_waits a_tape a_text a_statements a_taken a_sort a_first a_second : Nat} {f_lateDay f_lateOffice f_lateBy : Nat → Int32} {d k mm : Int32}  : Met l yX12_late wsX12_late ({ frames := 5, cells := 0, slots := 0, locals := 107 }) (RW D cI cZ cB [.ref h, .int d, .int k, .int mm] sz [(h, .inr (11, [.int 0, .int 0, .int 0, .int 0, .int 0, .int 0, .int 0, .int 0, .int 0, .ref a_isPriest, .ref a_bars, .ref a_joined, .ref a_turns, .ref a_awayMonk, .ref a_awayFrom, .ref a_awayTo, .ref a_feastDay, .ref a_rank, .ref a_isWeekly, .ref a_isDouble, .ref a_giftDay, .ref a_giftFrom, .ref a_owed, .ref a_said, .ref a_spared, .ref a_leaveGift, .ref a_leaveFrom, .ref a_leaveTo, .ref a_lateDay, .ref a_lateOffice, .ref a_lateBy, .ref a_guests, .ref a_who, .ref a_used, .ref a_lacks, .ref a_candles, .ref a_masses, .ref a_owing, .ref a_heldOn, .ref a_waits, .ref a_tape, .ref a_text, .int 0, .int 0, .int 0, .int (-1), .int 0, .ref a_statements, .ref a_taken, .ref a_sort, .ref a_first, .ref a_second, .int 0, .int 0])), (a_lateDay, .inl (cI, 100, .inl f_lateDay)), (a_lateOffice, .inl (cI, 100, .inl f_lateOffice)), (a_lateBy, .inl (cI, 100, .inl f_lateBy))]) (va_Qi (fun (r : Int32) (u : Int32 × Nat → Int32 × Nat → Int32 × Nat → Int32) => ((0 ≤ d.toInt ∧ d.toInt ≤ 1094 ∧ 0 ≤ k.toInt ∧ k.toInt ≤ 7 ∧ 1 ≤ mm.toInt ∧ mm.toInt ≤ 120 ∧ ((k.toInt = 7 ∧ (sunB (rem365 d) k + mm).toInt < 1410) ∨ (k.toInt ≠ 7 ∧ (sunB (rem365 d) k + mm).toInt < (sunB (rem365 d) (k + 1)).toInt)) ∧ (k.toInt = 0 ∨ (sunB (rem365 d) (k - 1)).toInt < (sunB (rem365 d) k + mm).toInt)) → r = sunB (rem365 d) k + mm) ∧ (¬ (0 ≤ d.toInt ∧ d.toInt ≤ 1094 ∧ 0 ≤ k.toInt ∧ k.toInt ≤ 7 ∧ 1 ≤ mm.toInt ∧ mm.toInt ≤ 120 ∧ ((k.toInt = 7 ∧ (sunB (rem365 d) k + mm).toInt < 1410) ∨ (k.toInt ≠ 7 ∧ (sunB (rem365 d) k + mm).toInt < (sunB (rem365 d) (k + 1)).toInt)) ∧ (k.toInt = 0 ∨ (sunB (rem365 d) (k - 1)).toInt < (sunB (rem365 d) k + mm).toInt)) → r.toInt = -1)) (BW D [(h, .inr (11, [.int 0, .int 0, .int 0, .int 0, .int 0, .int 0, .int 0, .int 0, .int 0, .ref a_isPriest, .ref a_bars, .ref a_joined, .ref a_turns, .ref a_awayMonk, .ref a_awayFrom, .ref a_awayTo, .ref a_feastDay, .ref a_rank, .ref a_isWeekly, .ref a_isDouble, .ref a_giftDay, .ref a_giftFrom, .ref a_owed, .ref a_said, .ref a_spared, .ref a_leaveGift, .ref a_leaveFrom, .ref a_leaveTo, .ref a_lateDay, .ref a_lateOffice, .ref a_lateBy, .ref a_guests, .ref a_who, .ref a_used, .ref a_lacks, .ref a_candles, .ref a_masses, .ref a_owing, .ref a_heldOn, .ref a_waits, .ref a_tape, .ref a_text, .int 0, .int 0, .int 0, .int (-1), .int 0, .ref a_statements, .ref a_taken, .ref a_sort, .ref a_first, .ref a_second, .int 0, .int 0])), (a_lateDay, .inl (cI, 100, .inl f_lateDay)), (a_lateOffice, .inl (cI, 100, .inl f_lateOffice)), (a_lateBy, .inl (cI, 100, .inl f_lateBy))] sz (fun u : Int32 × Nat → Int32 × Nat → Int32 × Nat → Int32 => [(h, .inr (11, [.int 0, .int 0, .int 0, .int 0, .int 0, .int 0, .int u.1, .int 0, .int 0, .ref a_isPriest, .ref a_bars, .ref a_joined, .ref a_turns, .ref a_awayMonk, .ref a_awayFrom, .ref a_awayTo, .ref a_feastDay, .ref a_rank, .ref a_isWeekly, .ref a_isDouble, .ref a_giftDay, .ref a_giftFrom, .ref a_owed, .ref a_said, .ref a_spared, .ref a_leaveGift, .ref a_leaveFrom, .ref a_leaveTo, .ref a_lateDay, .ref a_lateOffice, .ref a_lateBy, .ref a_guests, .ref a_who, .ref a_used, .ref a_lacks, .ref a_candles, .ref a_masses, .ref a_owing, .ref a_heldOn, .ref a_waits, .ref a_tape, .ref a_text, .int 0, .int 0, .int 0, .int (-1), .int 0, .ref a_statements, .ref a_taken, .ref a_sort, .ref a_first, .ref a_second, .int 0, .int 0])), (a_lateDay, .inl (cI, 100, .inl u.2.1)), (a_lateOffice, .inl (cI, 100, .inl u.2.2.1)), (a_lateBy, .inl (cI, 100, .inl u.2.2.2))])) (va_A [(h, .inr (11, [.int 0, .int 0, .int 0, .int 0, .int 0, .int 0, .int 0, .int 0, .int 0, .ref a_isPriest, .ref a_bars, .ref a_joined, .ref a_turns, .ref a_awayMonk, .ref a_awayFrom, .ref a_awayTo, .ref a_feastDay, .ref a_rank, .ref a_isWeekly, .ref a_isDouble, .ref a_giftDay, .ref a_giftFrom, .ref a_owed, .ref a_said, .ref a_spared, .ref a_leaveGift, .ref a_leaveFrom, .ref a_leaveTo, .ref a_lateDay, .ref a_lateOffice, .ref a_lateBy, .ref a_guests, .ref a_who, .ref a_used, .ref a_lacks, .ref a_candles, .ref a_masses, .ref a_owing, .ref a_heldOn, .ref a_waits, .ref a_tape, .ref a_text, .int 0, .int 0, .int 0, .int (-1), .int 0, .ref a_statements, .ref a_taken, .ref a_sort, .ref a_first, .ref a_second, .int 0, .int 0])), (a_lateDay, .inl (cI, 100, .inl f_lateDay)), (a_lateOffice, .inl (cI, 100, .inl f_lateOffice)), (a_lateBy, .inl (cI, 100, .inl f_lateBy))] sz)) 0 0 (va_A [(h, .inr (11, [.int 0, .int 0, .int 0, .int 0, .int 0, .int 0, .int 0, .int 0, .int 0, .ref a_isPriest, .ref a_bars, .ref a_joined, .ref a_turns, .ref a_awayMonk, .ref a_awayFrom, .ref a_awayTo, .ref a_feastDay, .ref a_rank, .ref a_isWeekly, .ref a_isDouble, .ref a_giftDay, .ref a_giftFrom, .ref a_owed, .ref a_said, .ref a_spared, .ref a_leaveGift, .ref a_leaveFrom, .ref a_leaveTo, .ref a_lateDay, .ref a_lateOffice, .ref a_lateBy, .ref a_guests, .ref a_who, .ref a_used, .ref a_lacks, .ref a_candles, .ref a_masses, .ref a_owing, .ref a_heldOn, .ref a_waits, .ref a_tape, .ref a_text, .int 0, .int 0, .int 0, .int (-1), .int 0, .ref a_statements, .ref a_taken, .ref a_sort, .ref a_first, .ref a_second, .int 0, .int 0])), (a_lateDay, .inl (cI, 100, .inl f_lateDay)), (a_lateOffice, .inl (cI, 100, .inl f_lateOffice)), (a_lateBy, .inl (cI, 100, .inl f_lateBy))] sz) := by
  refine rw_ret (cc := cX12_late) (maxL := 7) (ty := .int) (own := RX12) (by decide) rfl rfl (Nat.le_of_ble_eq_true rfl) ?_
  intro p e s m args below meth c Q A S hin hret hP hK hD hA hS ls hl
  obtain ⟨hx, hb, hml, hown, hts⟩ := id S
  have hl : lv_has ls 7 [(0, .ref h), (1, .int d), (2, .int k), (3, .int mm)] := hl
  have kkm1 : (-1 : Int32).toInt = -1 := by decide
  have kk0 : (0 : Int32).toInt = 0 := by decide
  have kk1 : (1 : Int32).toInt = 1 := by decide
  have kk7 : (7 : Int32).toInt = 7 := by decide
  have kk100 : (100 : Int32).toInt = 100 := by decide
  have kk120 : (120 : Int32).toInt = 120 := by decide
  have kk1094 : (1094 : Int32).toInt = 1094 := by decide
  have kk1410 : (1410 : Int32).toInt = 1410 := by decide
  have lk0 := hts (.fieldLink RX12 140 "AbbeyHoursModel" "today" "I") (by decide +kernel)
  have lk1 := hts (.fieldLink RX12 172 "AbbeyHoursModel" "lates" "I") (by decide +kernel)
  have lk2 := hts (.fieldLink RX12 68 "AbbeyHoursModel" "lateDay" "[I") (by decide +kernel)
  have lk3 := hts (.fieldLink RX12 71 "AbbeyHoursModel" "lateOffice" "[I") (by decide +kernel)
  have lk4 := hts (.fieldLink RX12 74 "AbbeyHoursModel" "lateBy" "[I") (by decide +kernel)
  refine lv_iload_n hx hb dX12_late_0 rfl (lv_at hl 1 rfl) ?_
  refine lv_aload_n hx hb dX12_late_1 rfl (lv_at hl 0 rfl) ?_
  refine va_get (D := D) (ci := 11) (v := .int 0) (C := RX12) (T := TX12) (N := 54) hx hb hts in_q_late_X12 hown hK.1 hP 0 rfl rfl 0 (by decide) lk0 (fun _ h9 => h9) rfl dX12_late_2 ?_
  refine lv_sipush (v := 1094) hx hb dX12_late_5 (by decide) ?_
  have hPc := hP.sub (ws' := []) [] rfl
  refine roS (As := [.int d, .int 0, .int 1094]) (rest := []) S (m_isIn  ) (va_cwS 3 hts gX12_late_X12_isIn rfl rfl rfl (by decide +kernel) ⟨Nat.le_of_ble_eq_true rfl, Nat.le_of_ble_eq_true rfl⟩) hK hPc rfl hl.1 rfl (Nat.le_of_ble_eq_true rfl) dX12_late_8 ⟨Nat.le_of_ble_eq_true rfl, Nat.le_of_ble_eq_true rfl⟩ (fun r_1 hw_1 => ?_)
  have hw_1 : (r_1.toInt = 1 ∧ (0 : Int32).toInt ≤ d.toInt ∧ d.toInt ≤ (1094 : Int32).toInt) ∨ (r_1.toInt = 0 ∧ (d.toInt < (0 : Int32).toInt ∨ (1094 : Int32).toInt < d.toInt)) := hw_1
  refine lv_if_eq (tgt := 34) hx hb dX12_late_11 (by decide) (fun c_2 => ?_) (fun c_2 => ?_)
  · have tc_2 := t_eq c_2
    refine lv_iconst (v := (-1)) hx hb dX12_late_34 (by decide) ?_
    exact hret (-1) (0, f_lateDay, f_lateOffice, f_lateBy) _ _ _ _ (⟨fun q => by first | exact emi | (exfalso; omega), fun q => by first | omega | (exfalso; omega)⟩) rfl (hP.sub [0, 1, 2, 3] rfl) (hD.sub [0, 1, 2, 3] (by decide) rfl) hS dX12_late_35
  · have tc_2 := t_ne c_2
    refine lv_iload_n hx hb dX12_late_14 rfl (lv_at hl 2 rfl) ?_
    refine lv_iconst (v := 0) hx hb dX12_late_15 (by decide) ?_
    refine lv_bipush (v := 7) hx hb dX12_late_16 (by decide) ?_
    have hPc := hP.sub (ws' := []) [] rfl
    refine roS (As := [.int k, .int 0, .int 7]) (rest := []) S (m_isIn  ) (va_cwS 3 hts gX12_late_X12_isIn rfl rfl rfl (by decide +kernel) ⟨Nat.le_of_ble_eq_true rfl, Nat.le_of_ble_eq_true rfl⟩) hK hPc rfl hl.1 rfl (Nat.le_of_ble_eq_true rfl) dX12_late_18 ⟨Nat.le_of_ble_eq_true rfl, Nat.le_of_ble_eq_true rfl⟩ (fun r_3 hw_3 => ?_)
    have hw_3 : (r_3.toInt = 1 ∧ (0 : Int32).toInt ≤ k.toInt ∧ k.toInt ≤ (7 : Int32).toInt) ∨ (r_3.toInt = 0 ∧ (k.toInt < (0 : Int32).toInt ∨ (7 : Int32).toInt < k.toInt)) := hw_3
    refine lv_if_eq (tgt := 34) hx hb dX12_late_21 (by decide) (fun c_4 => ?_) (fun c_4 => ?_)
    · have tc_4 := t_eq c_4
      refine lv_iconst (v := (-1)) hx hb dX12_late_34 (by decide) ?_
      exact hret (-1) (0, f_lateDay, f_lateOffice, f_lateBy) _ _ _ _ (⟨fun q => by first | exact emi | (exfalso; omega), fun q => by first | omega | (exfalso; omega)⟩) rfl (hP.sub [0, 1, 2, 3] rfl) (hD.sub [0, 1, 2, 3] (by decide) rfl) hS dX12_late_35
    · have tc_4 := t_ne c_4
      refine lv_iload_n hx hb dX12_late_24 rfl (lv_at hl 3 rfl) ?_
      refine lv_iconst (v := 1) hx hb dX12_late_25 (by decide) ?_
      refine lv_bipush (v := 120) hx hb dX12_late_26 (by decide) ?_
      have hPc := hP.sub (ws' := []) [] rfl
      refine roS (As := [.int mm, .int 1, .int 120]) (rest := []) S (m_isIn  ) (va_cwS 3 hts gX12_late_X12_isIn rfl rfl rfl (by decide +kernel) ⟨Nat.le_of_ble_eq_true rfl, Nat.le_of_ble_eq_true rfl⟩) hK hPc rfl hl.1 rfl (Nat.le_of_ble_eq_true rfl) dX12_late_28 ⟨Nat.le_of_ble_eq_true rfl, Nat.le_of_ble_eq_true rfl⟩ (fun r_5 hw_5 => ?_)
      have hw_5 : (r_5.toInt = 1 ∧ (1 : Int32).toInt ≤ mm.toInt ∧ mm.toInt ≤ (120 : Int32).toInt) ∨ (r_5.toInt = 0 ∧ (mm.toInt < (1 : Int32).toInt ∨ (120 : Int32).toInt < mm.toInt)) := hw_5
      refine lv_if_ne (tgt := 36) hx hb dX12_late_31 (by decide) (fun c_6 => ?_) (fun c_6 => ?_)
      · have tc_6 := t_ne c_6
        refine lv_iload_n hx hb dX12_late_36 rfl (lv_at hl 1 rfl) ?_
        refine lv_iload_n hx hb dX12_late_37 rfl (lv_at hl 2 rfl) ?_
        have hPc := hP.sub (ws' := []) [] rfl
        refine roS (As := [.int d, .int k]) (rest := []) S (m_plain  ) (va_cwS 2 hts gX12_late_X12_plain rfl rfl rfl (by decide +kernel) ⟨Nat.le_of_ble_eq_true rfl, Nat.le_of_ble_eq_true rfl⟩) hK hPc rfl hl.1 rfl (Nat.le_of_ble_eq_true rfl) dX12_late_38 ⟨Nat.le_of_ble_eq_true rfl, Nat.le_of_ble_eq_true rfl⟩ (fun r_pl hw_pl => ?_)
        have hw_pl : r_pl = sunP (rem365 d) k := hw_pl
        rw [sunP_eq _ _ (by omega) (by omega)] at hw_pl
        refine lv_iload_n hx hb dX12_late_41 rfl (lv_at hl 3 rfl) ?_
        refine lv_iadd hx hb dX12_late_42 ?_
        refine lv_topi (fun mi emi => ?_)
        rw [hw_pl] at emi
        have tmi := t_eq emi
        refine lv_istore (lv' := [(4, .int mi), (0, .ref h), (1, .int d), (2, .int k), (3, .int mm)]) hx hb dX12_late_43 hl (by decide) rfl (fun ls hl => ?_)
        refine lv_iload_n hx hb dX12_late_45 rfl (lv_at hl 3 rfl) ?_
        refine lv_bipush (v := 7) hx hb dX12_late_46 (by decide) ?_
        refine lv_icmp_ne (tgt := 57) hx hb dX12_late_48 (by decide) (fun c_8 => ?_) (fun c_8 => ?_)
        · have tc_8 := t_ne c_8
          refine lv_aload_n hx hb dX12_late_57 rfl (lv_at hl 1 rfl) ?_
          refine lv_iload_n hx hb dX12_late_58 rfl (lv_at hl 2 rfl) ?_
          refine lv_iload_n hx hb dX12_late_59 rfl (lv_at hl 3 rfl) ?_
          refine lv_iconst (v := 1) hx hb dX12_late_60 (by decide) ?_
          refine lv_iadd hx hb dX12_late_61 ?_
          refine lv_topi (fun k1 ek1 => ?_)
          first | have tk1 := t_add ek1 (by omega) (by omega) | skip
          have hPc := hP.sub (ws' := [(h, .inr (11, [.int 0, .int 0, .int 0, .int 0, .int 0, .int 0, .int 0, .int 0, .int 0, .ref a_isPriest, .ref a_bars, .ref a_joined, .ref a_turns, .ref a_awayMonk, .ref a_awayFrom, .ref a_awayTo, .ref a_feastDay, .ref a_rank, .ref a_isWeekly, .ref a_isDouble, .ref a_giftDay, .ref a_giftFrom, .ref a_owed, .ref a_said, .ref a_spared, .ref a_leaveGift, .ref a_leaveFrom, .ref a_leaveTo, .ref a_lateDay, .ref a_lateOffice, .ref a_lateBy, .ref a_guests, .ref a_who, .ref a_used, .ref a_lacks, .ref a_candles, .ref a_masses, .ref a_owing, .ref a_heldOn, .ref a_waits, .ref a_tape, .ref a_text, .int 0, .int 0, .int 0, .int (-1), .int 0, .ref a_statements, .ref a_taken, .ref a_sort, .ref a_first, .ref a_second, .int 0, .int 0]))]) [0] rfl
          refine roV (As := [.int d, .int k1]) (rest := []) S (m_begins  ) (cwV 2 hts gX12_late_X12_begins rfl rfl rfl (by decide +kernel) ⟨Nat.le_of_ble_eq_true rfl, Nat.le_of_ble_eq_true rfl⟩) hK hPc (va_recv hK.1 hPc (ci := 11) (q0 := 0) rfl rfl) rfl hl.1 rfl (Nat.le_of_ble_eq_true rfl) dX12_late_62 ⟨Nat.le_of_ble_eq_true rfl, Nat.le_of_ble_eq_true rfl⟩ (fun r_rn hw_rn => ?_)
          have hw_rn : r_rn = sunP (rem365 d) k1 := hw_rn
          rw [sunP_eq _ _ (by omega) (by omega)] at hw_rn
          have hw_rn := t_eq hw_rn
          rw [ek1] at hw_rn
          refine lv_istore (lv' := [(5, .int r_rn), (4, .int mi), (0, .ref h), (1, .int d), (2, .int k), (3, .int mm)]) hx hb dX12_late_65 hl (by decide) rfl (fun ls hl => ?_)
          refine lv_iload hx hb dX12_late_67 (lv_at hl 1 rfl) ?_
          refine lv_iload hx hb dX12_late_69 (lv_at hl 0 rfl) ?_
          refine lv_icmp_ge (tgt := 91) hx hb dX12_late_71 (by decide) (fun c_10 => ?_) (fun c_10 => ?_)
          · have tc_10 := t_le c_10
            refine lv_iconst (v := (-1)) hx hb dX12_late_91 (by decide) ?_
            exact hret (-1) (0, f_lateDay, f_lateOffice, f_lateBy) _ _ _ _ (⟨fun q => by first | exact emi | (exfalso; omega), fun q => by first | omega | (exfalso; omega)⟩) rfl (hP.sub [0, 1, 2, 3] rfl) (hD.sub [0, 1, 2, 3] (by decide) rfl) hS dX12_late_92
          · have tc_10 := t_nle c_10
            refine lv_iload_n hx hb dX12_late_74 rfl (lv_at hl 4 rfl) ?_
            refine lv_if_le (tgt := 93) hx hb dX12_late_75 (by decide) (fun c_11 => ?_) (fun c_11 => ?_)
            · have tc_11 := t_le c_11
              refine lv_aload_n hx hb dX12_late_93 rfl (lv_at hl 2 rfl) ?_
              refine lv_iload_n hx hb dX12_late_94 rfl (lv_at hl 3 rfl) ?_
              refine lv_iload_n hx hb dX12_late_95 rfl (lv_at hl 4 rfl) ?_
              have hPc := hP.sub (ws' := [(h, .inr (11, [.int 0, .int 0, .int 0, .int 0, .int 0, .int 0, .int 0, .int 0, .int 0, .ref a_isPriest, .ref a_bars, .ref a_joined, .ref a_turns, .ref a_awayMonk, .ref a_awayFrom, .ref a_awayTo, .ref a_feastDay, .ref a_rank, .ref a_isWeekly, .ref a_isDouble, .ref a_giftDay, .ref a_giftFrom, .ref a_owed, .ref a_said, .ref a_spared, .ref a_leaveGift, .ref a_leaveFrom, .ref a_leaveTo, .ref a_lateDay, .ref a_lateOffice, .ref a_lateBy, .ref a_guests, .ref a_who, .ref a_used, .ref a_lacks, .ref a_candles, .ref a_masses, .ref a_owing, .ref a_heldOn, .ref a_waits, .ref a_tape, .ref a_text, .int 0, .int 0, .int 0, .int (-1), .int 0, .ref a_statements, .ref a_taken, .ref a_sort, .ref a_first, .ref a_second, .int 0, .int 0]))]) [0] rfl
              refine roV (As := [.int d, .int k]) (rest := []) S (m_lateRow  ) (cwV 2 hts gX12_late_X12_lateRow rfl rfl rfl (by decide +kernel) ⟨Nat.le_of_ble_eq_true rfl, Nat.le_of_ble_eq_true rfl⟩) hK hPc (va_recv hK.1 hPc (ci := 11) (q0 := 0) rfl rfl) rfl hl.1 rfl (Nat.le_of_ble_eq_true rfl) dX12_late_96 ⟨Nat.le_of_ble_eq_true rfl, Nat.le_of_ble_eq_true rfl⟩ (fun r_12 hw_12 => ?_)
              have hw_12 : r_12.toInt = -1 := hw_12
              refine lv_istore (lv' := [(6, .int r_12), (5, .int r_rn), (4, .int mi), (0, .ref h), (1, .int d), (2, .int k), (3, .int mm)]) hx hb dX12_late_99 hl (by decide) rfl (fun ls hl => ?_)
              refine lv_iload hx hb dX12_late_101 (lv_at hl 0 rfl) ?_
              refine lv_iconst (v := (-1)) hx hb dX12_late_103 (by decide) ?_
              refine lv_icmp_ne (tgt := 134) hx hb dX12_late_104 (by decide) (fun c_13 => ?_) (fun c_13 => ?_)
              · have tc_13 := t_ne c_13
                exfalso; omega
              · have tc_13 := t_eq c_13
                refine lv_aload_n hx hb dX12_late_107 rfl (lv_at hl 3 rfl) ?_
                refine va_get (D := D) (ci := 11) (v := .int 0) (C := RX12) (T := TX12) (N := 54) hx hb hts in_q_late_X12 hown hK.1 hP 0 rfl rfl 6 (by decide) lk1 (fun _ h9 => h9) rfl dX12_late_108 ?_
                refine lv_bipush (v := 100) hx hb dX12_late_111 (by decide) ?_
                refine lv_icmp_ne (tgt := 118) hx hb dX12_late_113 (by decide) (fun c_14 => ?_) (fun c_14 => ?_)
                · have tc_14 := t_ne c_14
                  refine lv_aload_n hx hb dX12_late_118 rfl (lv_at hl 3 rfl) ?_
                  refine va_get (D := D) (ci := 11) (v := .int 0) (C := RX12) (T := TX12) (N := 54) hx hb hts in_q_late_X12 hown hK.1 hP 0 rfl rfl 6 (by decide) lk1 (fun _ h9 => h9) rfl dX12_late_119 ?_
                  refine lv_istore (lv' := [(6, .int 0), (5, .int r_rn), (4, .int mi), (0, .ref h), (1, .int d), (2, .int k), (3, .int mm)]) hx hb dX12_late_122 hl (by decide) rfl (fun ls hl => ?_)
                  refine lv_aload_n hx hb dX12_late_124 rfl (lv_at hl 3 rfl) ?_
                  refine lv_dup hx hb dX12_late_125 rfl ?_
                  refine va_get (D := D) (ci := 11) (v := .int 0) (C := RX12) (T := TX12) (N := 54) hx hb hts in_q_late_X12 hown hK.1 hP 0 rfl rfl 6 (by decide) lk1 (fun _ h9 => h9) rfl dX12_late_126 ?_
                  refine lv_iconst (v := 1) hx hb dX12_late_129 (by decide) ?_
                  refine lv_iadd hx hb dX12_late_130 ?_
                  refine lv_topi (fun x_15 ex_15 => ?_)
                  first | have tx_15 := t_add ex_15 (by omega) (by omega) | skip
                  refine va_put (D := D) (ci := 11) (v := .int x_15) (ty := .int) (C := RX12) (T := TX12) (N := 54) hx hb hts in_q_late_X12 tyX12 tyX12_ok nmX12 hown hK.1 hP hD hS 0 rfl rfl 6 (by decide) lk1 (fun _ h9 => h9) rfl (by decide +kernel) rfl rfl (Nat.le_of_ble_eq_true rfl) dX12_late_131 (fun H locs hP hD hS => ?_)
                  have hP : va_P D vwCl [(h, .inr (11, [.int 0, .int 0, .int 0, .int 0, .int 0, .int 0, .int x_15, .int 0, .int 0, .ref a_isPriest, .ref a_bars, .ref a_joined, .ref a_turns, .ref a_awayMonk, .ref a_awayFrom, .ref a_awayTo, .ref a_feastDay, .ref a_rank, .ref a_isWeekly, .ref a_isDouble, .ref a_giftDay, .ref a_giftFrom, .ref a_owed, .ref a_said, .ref a_spared, .ref a_leaveGift, .ref a_leaveFrom, .ref a_leaveTo, .ref a_lateDay, .ref a_lateOffice, .ref a_lateBy, .ref a_guests, .ref a_who, .ref a_used, .ref a_lacks, .ref a_candles, .ref a_masses, .ref a_owing, .ref a_heldOn, .ref a_waits, .ref a_tape, .ref a_text, .int 0, .int 0, .int 0, .int (-1), .int 0, .ref a_statements, .ref a_taken, .ref a_sort, .ref a_first, .ref a_second, .int 0, .int 0])), (a_lateDay, .inl (cI, 100, .inl f_lateDay)), (a_lateOffice, .inl (cI, 100, .inl f_lateOffice)), (a_lateBy, .inl (cI, 100, .inl f_lateBy))] H := hP
                  have hD : va_D A [(h, .inr (11, [.int 0, .int 0, .int 0, .int 0, .int 0, .int 0, .int x_15, .int 0, .int 0, .ref a_isPriest, .ref a_bars, .ref a_joined, .ref a_turns, .ref a_awayMonk, .ref a_awayFrom, .ref a_awayTo, .ref a_feastDay, .ref a_rank, .ref a_isWeekly, .ref a_isDouble, .ref a_giftDay, .ref a_giftFrom, .ref a_owed, .ref a_said, .ref a_spared, .ref a_leaveGift, .ref a_leaveFrom, .ref a_leaveTo, .ref a_lateDay, .ref a_lateOffice, .ref a_lateBy, .ref a_guests, .ref a_who, .ref a_used, .ref a_lacks, .ref a_candles, .ref a_masses, .ref a_owing, .ref a_heldOn, .ref a_waits, .ref a_tape, .ref a_text, .int 0, .int 0, .int 0, .int (-1), .int 0, .ref a_statements, .ref a_taken, .ref a_sort, .ref a_first, .ref a_second, .int 0, .int 0])), (a_lateDay, .inl (cI, 100, .inl f_lateDay)), (a_lateOffice, .inl (cI, 100, .inl f_lateOffice)), (a_lateBy, .inl (cI, 100, .inl f_lateBy))] := hD
                  refine lv_aload_n hx hb dX12_late_134 rfl (lv_at hl 3 rfl) ?_
                  refine va_get (D := D) (ci := 11) (v := .ref a_lateDay) (C := RX12) (T := TX12) (N := 54) hx hb hts in_q_late_X12 hown hK.1 hP 0 rfl rfl 28 (by decide) lk2 (fun _ h9 => h9) rfl dX12_late_135 ?_
                  refine lv_iload hx hb dX12_late_138 (lv_at hl 0 rfl) ?_
                  refine lv_iload_n hx hb dX12_late_140 rfl (lv_at hl 4 rfl) ?_
                  refine va_iast hx hb hK.1 hP hD hS 1 0 rfl rfl (t_in (by omega) (by omega)) dX12_late_141 (fun H locs hP hD hS => ?_)
                  obtain ⟨g_16, eg_16⟩ : ∃ z : Nat → Int32, z = upd f_lateDay ((0 : Int32).toNatClampNeg) d := ⟨_, rfl⟩
                  rw [← eg_16] at hP hD
                  have hP : va_P D vwCl [(h, .inr (11, [.int 0, .int 0, .int 0, .int 0, .int 0, .int 0, .int x_15, .int 0, .int 0, .ref a_isPriest, .ref a_bars, .ref a_joined, .ref a_turns, .ref a_awayMonk, .ref a_awayFrom, .ref a_awayTo, .ref a_feastDay, .ref a_rank, .ref a_isWeekly, .ref a_isDouble, .ref a_giftDay, .ref a_giftFrom, .ref a_owed, .ref a_said, .ref a_spared, .ref a_leaveGift, .ref a_leaveFrom, .ref a_leaveTo, .ref a_lateDay, .ref a_lateOffice, .ref a_lateBy, .ref a_guests, .ref a_who, .ref a_used, .ref a_lacks, .ref a_candles, .ref a_masses, .ref a_owing, .ref a_heldOn, .ref a_waits, .ref a_tape, .ref a_text, .int 0, .int 0, .int 0, .int (-1), .int 0, .ref a_statements, .ref a_taken, .ref a_sort, .ref a_first, .ref a_second, .int 0, .int 0])), (a_lateDay, .inl (cI, 100, .inl g_16)), (a_lateOffice, .inl (cI, 100, .inl f_lateOffice)), (a_lateBy, .inl (cI, 100, .inl f_lateBy))] H := hP
                  have hD : va_D A [(h, .inr (11, [.int 0, .int 0, .int 0, .int 0, .int 0, .int 0, .int x_15, .int 0, .int 0, .ref a_isPriest, .ref a_bars, .ref a_joined, .ref a_turns, .ref a_awayMonk, .ref a_awayFrom, .ref a_awayTo, .ref a_feastDay, .ref a_rank, .ref a_isWeekly, .ref a_isDouble, .ref a_giftDay, .ref a_giftFrom, .ref a_owed, .ref a_said, .ref a_spared, .ref a_leaveGift, .ref a_leaveFrom, .ref a_leaveTo, .ref a_lateDay, .ref a_lateOffice, .ref a_lateBy, .ref a_guests, .ref a_who, .ref a_used, .ref a_lacks, .ref a_candles, .ref a_masses, .ref a_owing, .ref a_heldOn, .ref a_waits, .ref a_tape, .ref a_text, .int 0, .int 0, .int 0, .int (-1), .int 0, .ref a_statements, .ref a_taken, .ref a_sort, .ref a_first, .ref a_second, .int 0, .int 0])), (a_lateDay, .inl (cI, 100, .inl g_16)), (a_lateOffice, .inl (cI, 100, .inl f_lateOffice)), (a_lateBy, .inl (cI, 100, .inl f_lateBy))] := hD
                  refine lv_aload_n hx hb dX12_late_142 rfl (lv_at hl 3 rfl) ?_
                  refine va_get (D := D) (ci := 11) (v := .ref a_lateOffice) (C := RX12) (T := TX12) (N := 54) hx hb hts in_q_late_X12 hown hK.1 hP 0 rfl rfl 29 (by decide) lk3 (fun _ h9 => h9) rfl dX12_late_143 ?_
                  refine lv_iload hx hb dX12_late_146 (lv_at hl 0 rfl) ?_
                  refine lv_iload_n hx hb dX12_late_148 rfl (lv_at hl 5 rfl) ?_
                  refine va_iast hx hb hK.1 hP hD hS 2 0 rfl rfl (t_in (by omega) (by omega)) dX12_late_149 (fun H locs hP hD hS => ?_)
                  obtain ⟨g_17, eg_17⟩ : ∃ z : Nat → Int32, z = upd f_lateOffice ((0 : Int32).toNatClampNeg) k := ⟨_, rfl⟩
                  rw [← eg_17] at hP hD
                  have hP : va_P D vwCl [(h, .inr (11, [.int 0, .int 0, .int 0, .int 0, .int 0, .int 0, .int x_15, .int 0, .int 0, .ref a_isPriest, .ref a_bars, .ref a_joined, .ref a_turns, .ref a_awayMonk, .ref a_awayFrom, .ref a_awayTo, .ref a_feastDay, .ref a_rank, .ref a_isWeekly, .ref a_isDouble, .ref a_giftDay, .ref a_giftFrom, .ref a_owed, .ref a_said, .ref a_spared, .ref a_leaveGift, .ref a_leaveFrom, .ref a_leaveTo, .ref a_lateDay, .ref a_lateOffice, .ref a_lateBy, .ref a_guests, .ref a_who, .ref a_used, .ref a_lacks, .ref a_candles, .ref a_masses, .ref a_owing, .ref a_heldOn, .ref a_waits, .ref a_tape, .ref a_text, .int 0, .int 0, .int 0, .int (-1), .int 0, .ref a_statements, .ref a_taken, .ref a_sort, .ref a_first, .ref a_second, .int 0, .int 0])), (a_lateDay, .inl (cI, 100, .inl g_16)), (a_lateOffice, .inl (cI, 100, .inl g_17)), (a_lateBy, .inl (cI, 100, .inl f_lateBy))] H := hP
                  have hD : va_D A [(h, .inr (11, [.int 0, .int 0, .int 0, .int 0, .int 0, .int 0, .int x_15, .int 0, .int 0, .ref a_isPriest, .ref a_bars, .ref a_joined, .ref a_turns, .ref a_awayMonk, .ref a_awayFrom, .ref a_awayTo, .ref a_feastDay, .ref a_rank, .ref a_isWeekly, .ref a_isDouble, .ref a_giftDay, .ref a_giftFrom, .ref a_owed, .ref a_said, .ref a_spared, .ref a_leaveGift, .ref a_leaveFrom, .ref a_leaveTo, .ref a_lateDay, .ref a_lateOffice, .ref a_lateBy, .ref a_guests, .ref a_who, .ref a_used, .ref a_lacks, .ref a_candles, .ref a_masses, .ref a_owing, .ref a_heldOn, .ref a_waits, .ref a_tape, .ref a_text, .int 0, .int 0, .int 0, .int (-1), .int 0, .ref a_statements, .ref a_taken, .ref a_sort, .ref a_first, .ref a_second, .int 0, .int 0])), (a_lateDay, .inl (cI, 100, .inl g_16)), (a_lateOffice, .inl (cI, 100, .inl g_17)), (a_lateBy, .inl (cI, 100, .inl f_lateBy))] := hD
                  refine lv_aload_n hx hb dX12_late_150 rfl (lv_at hl 3 rfl) ?_
                  refine va_get (D := D) (ci := 11) (v := .ref a_lateBy) (C := RX12) (T := TX12) (N := 54) hx hb hts in_q_late_X12 hown hK.1 hP 0 rfl rfl 30 (by decide) lk4 (fun _ h9 => h9) rfl dX12_late_151 ?_
                  refine lv_iload hx hb dX12_late_154 (lv_at hl 0 rfl) ?_
                  refine lv_iload_n hx hb dX12_late_156 rfl (lv_at hl 6 rfl) ?_
                  refine va_iast hx hb hK.1 hP hD hS 3 0 rfl rfl (t_in (by omega) (by omega)) dX12_late_157 (fun H locs hP hD hS => ?_)
                  obtain ⟨g_18, eg_18⟩ : ∃ z : Nat → Int32, z = upd f_lateBy ((0 : Int32).toNatClampNeg) mm := ⟨_, rfl⟩
                  rw [← eg_18] at hP hD
                  have hP : va_P D vwCl [(h, .inr (11, [.int 0, .int 0, .int 0, .int 0, .int 0, .int 0, .int x_15, .int 0, .int 0, .ref a_isPriest, .ref a_bars, .ref a_joined, .ref a_turns, .ref a_awayMonk, .ref a_awayFrom, .ref a_awayTo, .ref a_feastDay, .ref a_rank, .ref a_isWeekly, .ref a_isDouble, .ref a_giftDay, .ref a_giftFrom, .ref a_owed, .ref a_said, .ref a_spared, .ref a_leaveGift, .ref a_leaveFrom, .ref a_leaveTo, .ref a_lateDay, .ref a_lateOffice, .ref a_lateBy, .ref a_guests, .ref a_who, .ref a_used, .ref a_lacks, .ref a_candles, .ref a_masses, .ref a_owing, .ref a_heldOn, .ref a_waits, .ref a_tape, .ref a_text, .int 0, .int 0, .int 0, .int (-1), .int 0, .ref a_statements, .ref a_taken, .ref a_sort, .ref a_first, .ref a_second, .int 0, .int 0])), (a_lateDay, .inl (cI, 100, .inl g_16)), (a_lateOffice, .inl (cI, 100, .inl g_17)), (a_lateBy, .inl (cI, 100, .inl g_18))] H := hP
                  have hD : va_D A [(h, .inr (11, [.int 0, .int 0, .int 0, .int 0, .int 0, .int 0, .int x_15, .int 0, .int 0, .ref a_isPriest, .ref a_bars, .ref a_joined, .ref a_turns, .ref a_awayMonk, .ref a_awayFrom, .ref a_awayTo, .ref a_feastDay, .ref a_rank, .ref a_isWeekly, .ref a_isDouble, .ref a_giftDay, .ref a_giftFrom, .ref a_owed, .ref a_said, .ref a_spared, .ref a_leaveGift, .ref a_leaveFrom, .ref a_leaveTo, .ref a_lateDay, .ref a_lateOffice, .ref a_lateBy, .ref a_guests, .ref a_who, .ref a_used, .ref a_lacks, .ref a_candles, .ref a_masses, .ref a_owing, .ref a_heldOn, .ref a_waits, .ref a_tape, .ref a_text, .int 0, .int 0, .int 0, .int (-1), .int 0, .ref a_statements, .ref a_taken, .ref a_sort, .ref a_first, .ref a_second, .int 0, .int 0])), (a_lateDay, .inl (cI, 100, .inl g_16)), (a_lateOffice, .inl (cI, 100, .inl g_17)), (a_lateBy, .inl (cI, 100, .inl g_18))] := hD
                  refine lv_iload hx hb dX12_late_158 (lv_at hl 2 rfl) ?_
                  exact hret mi (x_15, g_16, g_17, g_18) _ _ _ _ (⟨fun q => by first | exact emi | (exfalso; omega), fun q => by first | omega | (exfalso; omega)⟩) rfl (hP.sub [0, 1, 2, 3] rfl) (hD.sub [0, 1, 2, 3] (by decide) rfl) hS dX12_late_160
                · exact absurd c_14 (by decide)
            · have tc_11 := t_nle c_11
              refine lv_iload hx hb dX12_late_78 (lv_at hl 1 rfl) ?_
              refine lv_aload_n hx hb dX12_late_80 rfl (lv_at hl 2 rfl) ?_
              refine lv_iload_n hx hb dX12_late_81 rfl (lv_at hl 3 rfl) ?_
              refine lv_iload_n hx hb dX12_late_82 rfl (lv_at hl 4 rfl) ?_
              refine lv_iconst (v := 1) hx hb dX12_late_83 (by decide) ?_
              refine lv_isub hx hb dX12_late_84 ?_
              refine lv_topi (fun k0 ek0 => ?_)
              first | have tk0 := t_sub ek0 (by omega) (by omega) | skip
              have hPc := hP.sub (ws' := [(h, .inr (11, [.int 0, .int 0, .int 0, .int 0, .int 0, .int 0, .int 0, .int 0, .int 0, .ref a_isPriest, .ref a_bars, .ref a_joined, .ref a_turns, .ref a_awayMonk, .ref a_awayFrom, .ref a_awayTo, .ref a_feastDay, .ref a_rank, .ref a_isWeekly, .ref a_isDouble, .ref a_giftDay, .ref a_giftFrom, .ref a_owed, .ref a_said, .ref a_spared, .ref a_leaveGift, .ref a_leaveFrom, .ref a_leaveTo, .ref a_lateDay, .ref a_lateOffice, .ref a_lateBy, .ref a_guests, .ref a_who, .ref a_used, .ref a_lacks, .ref a_candles, .ref a_masses, .ref a_owing, .ref a_heldOn, .ref a_waits, .ref a_tape, .ref a_text, .int 0, .int 0, .int 0, .int (-1), .int 0, .ref a_statements, .ref a_taken, .ref a_sort, .ref a_first, .ref a_second, .int 0, .int 0]))]) [0] rfl
              refine roV (As := [.int d, .int k0]) (rest := [.int mi]) S (m_begins  ) (cwV 2 hts gX12_late_X12_begins rfl rfl rfl (by decide +kernel) ⟨Nat.le_of_ble_eq_true rfl, Nat.le_of_ble_eq_true rfl⟩) hK hPc (va_recv hK.1 hPc (ci := 11) (q0 := 0) rfl rfl) rfl hl.1 rfl (Nat.le_of_ble_eq_true rfl) dX12_late_85 ⟨Nat.le_of_ble_eq_true rfl, Nat.le_of_ble_eq_true rfl⟩ (fun r_rp hw_rp => ?_)
              have hw_rp : r_rp = sunP (rem365 d) k0 := hw_rp
              rw [sunP_eq _ _ (by omega) (by omega)] at hw_rp
              have hw_rp := t_eq hw_rp
              rw [ek0] at hw_rp
              refine lv_icmp_gt (tgt := 93) hx hb dX12_late_88 (by decide) (fun c_20 => ?_) (fun c_20 => ?_)
              · have tc_20 := t_lt c_20
                refine lv_aload_n hx hb dX12_late_93 rfl (lv_at hl 2 rfl) ?_
                refine lv_iload_n hx hb dX12_late_94 rfl (lv_at hl 3 rfl) ?_
                refine lv_iload_n hx hb dX12_late_95 rfl (lv_at hl 4 rfl) ?_
                have hPc := hP.sub (ws' := [(h, .inr (11, [.int 0, .int 0, .int 0, .int 0, .int 0, .int 0, .int 0, .int 0, .int 0, .ref a_isPriest, .ref a_bars, .ref a_joined, .ref a_turns, .ref a_awayMonk, .ref a_awayFrom, .ref a_awayTo, .ref a_feastDay, .ref a_rank, .ref a_isWeekly, .ref a_isDouble, .ref a_giftDay, .ref a_giftFrom, .ref a_owed, .ref a_said, .ref a_spared, .ref a_leaveGift, .ref a_leaveFrom, .ref a_leaveTo, .ref a_lateDay, .ref a_lateOffice, .ref a_lateBy, .ref a_guests, .ref a_who, .ref a_used, .ref a_lacks, .ref a_candles, .ref a_masses, .ref a_owing, .ref a_heldOn, .ref a_waits, .ref a_tape, .ref a_text, .int 0, .int 0, .int 0, .int (-1), .int 0, .ref a_statements, .ref a_taken, .ref a_sort, .ref a_first, .ref a_second, .int 0, .int 0]))]) [0] rfl
                refine roV (As := [.int d, .int k]) (rest := []) S (m_lateRow  ) (cwV 2 hts gX12_late_X12_lateRow rfl rfl rfl (by decide +kernel) ⟨Nat.le_of_ble_eq_true rfl, Nat.le_of_ble_eq_true rfl⟩) hK hPc (va_recv hK.1 hPc (ci := 11) (q0 := 0) rfl rfl) rfl hl.1 rfl (Nat.le_of_ble_eq_true rfl) dX12_late_96 ⟨Nat.le_of_ble_eq_true rfl, Nat.le_of_ble_eq_true rfl⟩ (fun r_21 hw_21 => ?_)
                have hw_21 : r_21.toInt = -1 := hw_21
                refine lv_istore (lv' := [(6, .int r_21), (5, .int r_rn), (4, .int mi), (0, .ref h), (1, .int d), (2, .int k), (3, .int mm)]) hx hb dX12_late_99 hl (by decide) rfl (fun ls hl => ?_)
                refine lv_iload hx hb dX12_late_101 (lv_at hl 0 rfl) ?_
                refine lv_iconst (v := (-1)) hx hb dX12_late_103 (by decide) ?_
                refine lv_icmp_ne (tgt := 134) hx hb dX12_late_104 (by decide) (fun c_22 => ?_) (fun c_22 => ?_)
                · have tc_22 := t_ne c_22
                  exfalso; omega
                · have tc_22 := t_eq c_22
                  refine lv_aload_n hx hb dX12_late_107 rfl (lv_at hl 3 rfl) ?_
                  refine va_get (D := D) (ci := 11) (v := .int 0) (C := RX12) (T := TX12) (N := 54) hx hb hts in_q_late_X12 hown hK.1 hP 0 rfl rfl 6 (by decide) lk1 (fun _ h9 => h9) rfl dX12_late_108 ?_
                  refine lv_bipush (v := 100) hx hb dX12_late_111 (by decide) ?_
                  refine lv_icmp_ne (tgt := 118) hx hb dX12_late_113 (by decide) (fun c_23 => ?_) (fun c_23 => ?_)
                  · have tc_23 := t_ne c_23
                    refine lv_aload_n hx hb dX12_late_118 rfl (lv_at hl 3 rfl) ?_
                    refine va_get (D := D) (ci := 11) (v := .int 0) (C := RX12) (T := TX12) (N := 54) hx hb hts in_q_late_X12 hown hK.1 hP 0 rfl rfl 6 (by decide) lk1 (fun _ h9 => h9) rfl dX12_late_119 ?_
                    refine lv_istore (lv' := [(6, .int 0), (5, .int r_rn), (4, .int mi), (0, .ref h), (1, .int d), (2, .int k), (3, .int mm)]) hx hb dX12_late_122 hl (by decide) rfl (fun ls hl => ?_)
                    refine lv_aload_n hx hb dX12_late_124 rfl (lv_at hl 3 rfl) ?_
                    refine lv_dup hx hb dX12_late_125 rfl ?_
                    refine va_get (D := D) (ci := 11) (v := .int 0) (C := RX12) (T := TX12) (N := 54) hx hb hts in_q_late_X12 hown hK.1 hP 0 rfl rfl 6 (by decide) lk1 (fun _ h9 => h9) rfl dX12_late_126 ?_
                    refine lv_iconst (v := 1) hx hb dX12_late_129 (by decide) ?_
                    refine lv_iadd hx hb dX12_late_130 ?_
                    refine lv_topi (fun x_24 ex_24 => ?_)
                    first | have tx_24 := t_add ex_24 (by omega) (by omega) | skip
                    refine va_put (D := D) (ci := 11) (v := .int x_24) (ty := .int) (C := RX12) (T := TX12) (N := 54) hx hb hts in_q_late_X12 tyX12 tyX12_ok nmX12 hown hK.1 hP hD hS 0 rfl rfl 6 (by decide) lk1 (fun _ h9 => h9) rfl (by decide +kernel) rfl rfl (Nat.le_of_ble_eq_true rfl) dX12_late_131 (fun H locs hP hD hS => ?_)
                    have hP : va_P D vwCl [(h, .inr (11, [.int 0, .int 0, .int 0, .int 0, .int 0, .int 0, .int x_24, .int 0, .int 0, .ref a_isPriest, .ref a_bars, .ref a_joined, .ref a_turns, .ref a_awayMonk, .ref a_awayFrom, .ref a_awayTo, .ref a_feastDay, .ref a_rank, .ref a_isWeekly, .ref a_isDouble, .ref a_giftDay, .ref a_giftFrom, .ref a_owed, .ref a_said, .ref a_spared, .ref a_leaveGift, .ref a_leaveFrom, .ref a_leaveTo, .ref a_lateDay, .ref a_lateOffice, .ref a_lateBy, .ref a_guests, .ref a_who, .ref a_used, .ref a_lacks, .ref a_candles, .ref a_masses, .ref a_owing, .ref a_heldOn, .ref a_waits, .ref a_tape, .ref a_text, .int 0, .int 0, .int 0, .int (-1), .int 0, .ref a_statements, .ref a_taken, .ref a_sort, .ref a_first, .ref a_second, .int 0, .int 0])), (a_lateDay, .inl (cI, 100, .inl f_lateDay)), (a_lateOffice, .inl (cI, 100, .inl f_lateOffice)), (a_lateBy, .inl (cI, 100, .inl f_lateBy))] H := hP
                    have hD : va_D A [(h, .inr (11, [.int 0, .int 0, .int 0, .int 0, .int 0, .int 0, .int x_24, .int 0, .int 0, .ref a_isPriest, .ref a_bars, .ref a_joined, .ref a_turns, .ref a_awayMonk, .ref a_awayFrom, .ref a_awayTo, .ref a_feastDay, .ref a_rank, .ref a_isWeekly, .ref a_isDouble, .ref a_giftDay, .ref a_giftFrom, .ref a_owed, .ref a_said, .ref a_spared, .ref a_leaveGift, .ref a_leaveFrom, .ref a_leaveTo, .ref a_lateDay, .ref a_lateOffice, .ref a_lateBy, .ref a_guests, .ref a_who, .ref a_used, .ref a_lacks, .ref a_candles, .ref a_masses, .ref a_owing, .ref a_heldOn, .ref a_waits, .ref a_tape, .ref a_text, .int 0, .int 0, .int 0, .int (-1), .int 0, .ref a_statements, .ref a_taken, .ref a_sort, .ref a_first, .ref a_second, .int 0, .int 0])), (a_lateDay, .inl (cI, 100, .inl f_lateDay)), (a_lateOffice, .inl (cI, 100, .inl f_lateOffice)), (a_lateBy, .inl (cI, 100, .inl f_lateBy))] := hD
                    refine lv_aload_n hx hb dX12_late_134 rfl (lv_at hl 3 rfl) ?_
                    refine va_get (D := D) (ci := 11) (v := .ref a_lateDay) (C := RX12) (T := TX12) (N := 54) hx hb hts in_q_late_X12 hown hK.1 hP 0 rfl rfl 28 (by decide) lk2 (fun _ h9 => h9) rfl dX12_late_135 ?_
                    refine lv_iload hx hb dX12_late_138 (lv_at hl 0 rfl) ?_
                    refine lv_iload_n hx hb dX12_late_140 rfl (lv_at hl 4 rfl) ?_
                    refine va_iast hx hb hK.1 hP hD hS 1 0 rfl rfl (t_in (by omega) (by omega)) dX12_late_141 (fun H locs hP hD hS => ?_)
                    obtain ⟨g_25, eg_25⟩ : ∃ z : Nat → Int32, z = upd f_lateDay ((0 : Int32).toNatClampNeg) d := ⟨_, rfl⟩
                    rw [← eg_25] at hP hD
                    have hP : va_P D vwCl [(h, .inr (11, [.int 0, .int 0, .int 0, .int 0, .int 0, .int 0, .int x_24, .int 0, .int 0, .ref a_isPriest, .ref a_bars, .ref a_joined, .ref a_turns, .ref a_awayMonk, .ref a_awayFrom, .ref a_awayTo, .ref a_feastDay, .ref a_rank, .ref a_isWeekly, .ref a_isDouble, .ref a_giftDay, .ref a_giftFrom, .ref a_owed, .ref a_said, .ref a_spared, .ref a_leaveGift, .ref a_leaveFrom, .ref a_leaveTo, .ref a_lateDay, .ref a_lateOffice, .ref a_lateBy, .ref a_guests, .ref a_who, .ref a_used, .ref a_lacks, .ref a_candles, .ref a_masses, .ref a_owing, .ref a_heldOn, .ref a_waits, .ref a_tape, .ref a_text, .int 0, .int 0, .int 0, .int (-1), .int 0, .ref a_statements, .ref a_taken, .ref a_sort, .ref a_first, .ref a_second, .int 0, .int 0])), (a_lateDay, .inl (cI, 100, .inl g_25)), (a_lateOffice, .inl (cI, 100, .inl f_lateOffice)), (a_lateBy, .inl (cI, 100, .inl f_lateBy))] H := hP
                    have hD : va_D A [(h, .inr (11, [.int 0, .int 0, .int 0, .int 0, .int 0, .int 0, .int x_24, .int 0, .int 0, .ref a_isPriest, .ref a_bars, .ref a_joined, .ref a_turns, .ref a_awayMonk, .ref a_awayFrom, .ref a_awayTo, .ref a_feastDay, .ref a_rank, .ref a_isWeekly, .ref a_isDouble, .ref a_giftDay, .ref a_giftFrom, .ref a_owed, .ref a_said, .ref a_spared, .ref a_leaveGift, .ref a_leaveFrom, .ref a_leaveTo, .ref a_lateDay, .ref a_lateOffice, .ref a_lateBy, .ref a_guests, .ref a_who, .ref a_used, .ref a_lacks, .ref a_candles, .ref a_masses, .ref a_owing, .ref a_heldOn, .ref a_waits, .ref a_tape, .ref a_text, .int 0, .int 0, .int 0, .int (-1), .int 0, .ref a_statements, .ref a_taken, .ref a_sort, .ref a_first, .ref a_second, .int 0, .int 0])), (a_lateDay, .inl (cI, 100, .inl g_25)), (a_lateOffice, .inl (cI, 100, .inl f_lateOffice)), (a_lateBy, .inl (cI, 100, .inl f_lateBy))] := hD
                    refine lv_aload_n hx hb dX12_late_142 rfl (lv_at hl 3 rfl) ?_
                    refine va_get (D := D) (ci := 11) (v := .ref a_lateOffice) (C := RX12) (T := TX12) (N := 54) hx hb hts in_q_late_X12 hown hK.1 hP 0 rfl rfl 29 (by decide) lk3 (fun _ h9 => h9) rfl dX12_late_143 ?_
                    refine lv_iload hx hb dX12_late_146 (lv_at hl 0 rfl) ?_
                    refine lv_iload_n hx hb dX12_late_148 rfl (lv_at hl 5 rfl) ?_
                    refine va_iast hx hb hK.1 hP hD hS 2 0 rfl rfl (t_in (by omega) (by omega)) dX12_late_149 (fun H locs hP hD hS => ?_)
                    obtain ⟨g_26, eg_26⟩ : ∃ z : Nat → Int32, z = upd f_lateOffice ((0 : Int32).toNatClampNeg) k := ⟨_, rfl⟩
                    rw [← eg_26] at hP hD
                    have hP : va_P D vwCl [(h, .inr (11, [.int 0, .int 0, .int 0, .int 0, .int 0, .int 0, .int x_24, .int 0, .int 0, .ref a_isPriest, .ref a_bars, .ref a_joined, .ref a_turns, .ref a_awayMonk, .ref a_awayFrom, .ref a_awayTo, .ref a_feastDay, .ref a_rank, .ref a_isWeekly, .ref a_isDouble, .ref a_giftDay, .ref a_giftFrom, .ref a_owed, .ref a_said, .ref a_spared, .ref a_leaveGift, .ref a_leaveFrom, .ref a_leaveTo, .ref a_lateDay, .ref a_lateOffice, .ref a_lateBy, .ref a_guests, .ref a_who, .ref a_used, .ref a_lacks, .ref a_candles, .ref a_masses, .ref a_owing, .ref a_heldOn, .ref a_waits, .ref a_tape, .ref a_text, .int 0, .int 0, .int 0, .int (-1), .int 0, .ref a_statements, .ref a_taken, .ref a_sort, .ref a_first, .ref a_second, .int 0, .int 0])), (a_lateDay, .inl (cI, 100, .inl g_25)), (a_lateOffice, .inl (cI, 100, .inl g_26)), (a_lateBy, .inl (cI, 100, .inl f_lateBy))] H := hP
                    have hD : va_D A [(h, .inr (11, [.int 0, .int 0, .int 0, .int 0, .int 0, .int 0, .int x_24, .int 0, .int 0, .ref a_isPriest, .ref a_bars, .ref a_joined, .ref a_turns, .ref a_awayMonk, .ref a_awayFrom, .ref a_awayTo, .ref a_feastDay, .ref a_rank, .ref a_isWeekly, .ref a_isDouble, .ref a_giftDay, .ref a_giftFrom, .ref a_owed, .ref a_said, .ref a_spared, .ref a_leaveGift, .ref a_leaveFrom, .ref a_leaveTo, .ref a_lateDay, .ref a_lateOffice, .ref a_lateBy, .ref a_guests, .ref a_who, .ref a_used, .ref a_lacks, .ref a_candles, .ref a_masses, .ref a_owing, .ref a_heldOn, .ref a_waits, .ref a_tape, .ref a_text, .int 0, .int 0, .int 0, .int (-1), .int 0, .ref a_statements, .ref a_taken, .ref a_sort, .ref a_first, .ref a_second, .int 0, .int 0])), (a_lateDay, .inl (cI, 100, .inl g_25)), (a_lateOffice, .inl (cI, 100, .inl g_26)), (a_lateBy, .inl (cI, 100, .inl f_lateBy))] := hD
                    refine lv_aload_n hx hb dX12_late_150 rfl (lv_at hl 3 rfl) ?_
                    refine va_get (D := D) (ci := 11) (v := .ref a_lateBy) (C := RX12) (T := TX12) (N := 54) hx hb hts in_q_late_X12 hown hK.1 hP 0 rfl rfl 30 (by decide) lk4 (fun _ h9 => h9) rfl dX12_late_151 ?_
                    refine lv_iload hx hb dX12_late_154 (lv_at hl 0 rfl) ?_
                    refine lv_iload_n hx hb dX12_late_156 rfl (lv_at hl 6 rfl) ?_
                    refine va_iast hx hb hK.1 hP hD hS 3 0 rfl rfl (t_in (by omega) (by omega)) dX12_late_157 (fun H locs hP hD hS => ?_)
                    obtain ⟨g_27, eg_27⟩ : ∃ z : Nat → Int32, z = upd f_lateBy ((0 : Int32).toNatClampNeg) mm := ⟨_, rfl⟩
                    rw [← eg_27] at hP hD
                    have hP : va_P D vwCl [(h, .inr (11, [.int 0, .int 0, .int 0, .int 0, .int 0, .int 0, .int x_24, .int 0, .int 0, .ref a_isPriest, .ref a_bars, .ref a_joined, .ref a_turns, .ref a_awayMonk, .ref a_awayFrom, .ref a_awayTo, .ref a_feastDay, .ref a_rank, .ref a_isWeekly, .ref a_isDouble, .ref a_giftDay, .ref a_giftFrom, .ref a_owed, .ref a_said, .ref a_spared, .ref a_leaveGift, .ref a_leaveFrom, .ref a_leaveTo, .ref a_lateDay, .ref a_lateOffice, .ref a_lateBy, .ref a_guests, .ref a_who, .ref a_used, .ref a_lacks, .ref a_candles, .ref a_masses, .ref a_owing, .ref a_heldOn, .ref a_waits, .ref a_tape, .ref a_text, .int 0, .int 0, .int 0, .int (-1), .int 0, .ref a_statements, .ref a_taken, .ref a_sort, .ref a_first, .ref a_second, .int 0, .int 0])), (a_lateDay, .inl (cI, 100, .inl g_25)), (a_lateOffice, .inl (cI, 100, .inl g_26)), (a_lateBy, .inl (cI, 100, .inl g_27))] H := hP
                    have hD : va_D A [(h, .inr (11, [.int 0, .int 0, .int 0, .int 0, .int 0, .int 0, .int x_24, .int 0, .int 0, .ref a_isPriest, .ref a_bars, .ref a_joined, .ref a_turns, .ref a_awayMonk, .ref a_awayFrom, .ref a_awayTo, .ref a_feastDay, .ref a_rank, .ref a_isWeekly, .ref a_isDouble, .ref a_giftDay, .ref a_giftFrom, .ref a_owed, .ref a_said, .ref a_spared, .ref a_leaveGift, .ref a_leaveFrom, .ref a_leaveTo, .ref a_lateDay, .ref a_lateOffice, .ref a_lateBy, .ref a_guests, .ref a_who, .ref a_used, .ref a_lacks, .ref a_candles, .ref a_masses, .ref a_owing, .ref a_heldOn, .ref a_waits, .ref a_tape, .ref a_text, .int 0, .int 0, .int 0, .int (-1), .int 0, .ref a_statements, .ref a_taken, .ref a_sort, .ref a_first, .ref a_second, .int 0, .int 0])), (a_lateDay, .inl (cI, 100, .inl g_25)), (a_lateOffice, .inl (cI, 100, .inl g_26)), (a_lateBy, .inl (cI, 100, .inl g_27))] := hD
                    refine lv_iload hx hb dX12_late_158 (lv_at hl 2 rfl) ?_
                    exact hret mi (x_24, g_25, g_26, g_27) _ _ _ _ (⟨fun q => by first | exact emi | (exfalso; omega), fun q => by first | omega | (exfalso; omega)⟩) rfl (hP.sub [0, 1, 2, 3] rfl) (hD.sub [0, 1, 2, 3] (by decide) rfl) hS dX12_late_160
                  · exact absurd c_23 (by decide)
              · have tc_20 := t_nlt c_20
                refine lv_iconst (v := (-1)) hx hb dX12_late_91 (by decide) ?_
                exact hret (-1) (0, f_lateDay, f_lateOffice, f_lateBy) _ _ _ _ (⟨fun q => by first | exact emi | (exfalso; omega), fun q => by first | omega | (exfalso; omega)⟩) rfl (hP.sub [0, 1, 2, 3] rfl) (hD.sub [0, 1, 2, 3] (by decide) rfl) hS dX12_late_92
        · have tc_8 := t_eq c_8
          refine lv_sipush (v := 1410) hx hb dX12_late_51 (by decide) ?_
          refine lv_goto (tgt := 65) hx hb dX12_late_54 (by decide) ?_
          refine lv_istore (lv' := [(5, .int 1410), (4, .int mi), (0, .ref h), (1, .int d), (2, .int k), (3, .int mm)]) hx hb dX12_late_65 hl (by decide) rfl (fun ls hl => ?_)
          refine lv_iload hx hb dX12_late_67 (lv_at hl 1 rfl) ?_
          refine lv_iload hx hb dX12_late_69 (lv_at hl 0 rfl) ?_
          refine lv_icmp_ge (tgt := 91) hx hb dX12_late_71 (by decide) (fun c_28 => ?_) (fun c_28 => ?_)
          · have tc_28 := t_le c_28
            refine lv_iconst (v := (-1)) hx hb dX12_late_91 (by decide) ?_
            exact hret (-1) (0, f_lateDay, f_lateOffice, f_lateBy) _ _ _ _ (⟨fun q => by first | exact emi | (exfalso; omega), fun q => by first | omega | (exfalso; omega)⟩) rfl (hP.sub [0, 1, 2, 3] rfl) (hD.sub [0, 1, 2, 3] (by decide) rfl) hS dX12_late_92
          · have tc_28 := t_nle c_28
            refine lv_iload_n hx hb dX12_late_74 rfl (lv_at hl 4 rfl) ?_
            refine lv_if_le (tgt := 93) hx hb dX12_late_75 (by decide) (fun c_29 => ?_) (fun c_29 => ?_)
            · have tc_29 := t_le c_29
              refine lv_aload_n hx hb dX12_late_93 rfl (lv_at hl 2 rfl) ?_
              refine lv_iload_n hx hb dX12_late_94 rfl (lv_at hl 3 rfl) ?_
              refine lv_iload_n hx hb dX12_late_95 rfl (lv_at hl 4 rfl) ?_
              have hPc := hP.sub (ws' := [(h, .inr (11, [.int 0, .int 0, .int 0, .int 0, .int 0, .int 0, .int 0, .int 0, .int 0, .ref a_isPriest, .ref a_bars, .ref a_joined, .ref a_turns, .ref a_awayMonk, .ref a_awayFrom, .ref a_awayTo, .ref a_feastDay, .ref a_rank, .ref a_isWeekly, .ref a_isDouble, .ref a_giftDay, .ref a_giftFrom, .ref a_owed, .ref a_said, .ref a_spared, .ref a_leaveGift, .ref a_leaveFrom, .ref a_leaveTo, .ref a_lateDay, .ref a_lateOffice, .ref a_lateBy, .ref a_guests, .ref a_who, .ref a_used, .ref a_lacks, .ref a_candles, .ref a_masses, .ref a_owing, .ref a_heldOn, .ref a_waits, .ref a_tape, .ref a_text, .int 0, .int 0, .int 0, .int (-1), .int 0, .ref a_statements, .ref a_taken, .ref a_sort, .ref a_first, .ref a_second, .int 0, .int 0]))]) [0] rfl
              refine roV (As := [.int d, .int k]) (rest := []) S (m_lateRow  ) (cwV 2 hts gX12_late_X12_lateRow rfl rfl rfl (by decide +kernel) ⟨Nat.le_of_ble_eq_true rfl, Nat.le_of_ble_eq_true rfl⟩) hK hPc (va_recv hK.1 hPc (ci := 11) (q0 := 0) rfl rfl) rfl hl.1 rfl (Nat.le_of_ble_eq_true rfl) dX12_late_96 ⟨Nat.le_of_ble_eq_true rfl, Nat.le_of_ble_eq_true rfl⟩ (fun r_30 hw_30 => ?_)
              have hw_30 : r_30.toInt = -1 := hw_30
              refine lv_istore (lv' := [(6, .int r_30), (5, .int 1410), (4, .int mi), (0, .ref h), (1, .int d), (2, .int k), (3, .int mm)]) hx hb dX12_late_99 hl (by decide) rfl (fun ls hl => ?_)
              refine lv_iload hx hb dX12_late_101 (lv_at hl 0 rfl) ?_
              refine lv_iconst (v := (-1)) hx hb dX12_late_103 (by decide) ?_
              refine lv_icmp_ne (tgt := 134) hx hb dX12_late_104 (by decide) (fun c_31 => ?_) (fun c_31 => ?_)
              · have tc_31 := t_ne c_31
                exfalso; omega
              · have tc_31 := t_eq c_31
                refine lv_aload_n hx hb dX12_late_107 rfl (lv_at hl 3 rfl) ?_
                refine va_get (D := D) (ci := 11) (v := .int 0) (C := RX12) (T := TX12) (N := 54) hx hb hts in_q_late_X12 hown hK.1 hP 0 rfl rfl 6 (by decide) lk1 (fun _ h9 => h9) rfl dX12_late_108 ?_
                refine lv_bipush (v := 100) hx hb dX12_late_111 (by decide) ?_
                refine lv_icmp_ne (tgt := 118) hx hb dX12_late_113 (by decide) (fun c_32 => ?_) (fun c_32 => ?_)
                · have tc_32 := t_ne c_32
                  refine lv_aload_n hx hb dX12_late_118 rfl (lv_at hl 3 rfl) ?_
                  refine va_get (D := D) (ci := 11) (v := .int 0) (C := RX12) (T := TX12) (N := 54) hx hb hts in_q_late_X12 hown hK.1 hP 0 rfl rfl 6 (by decide) lk1 (fun _ h9 => h9) rfl dX12_late_119 ?_
                  refine lv_istore (lv' := [(6, .int 0), (5, .int 1410), (4, .int mi), (0, .ref h), (1, .int d), (2, .int k), (3, .int mm)]) hx hb dX12_late_122 hl (by decide) rfl (fun ls hl => ?_)
                  refine lv_aload_n hx hb dX12_late_124 rfl (lv_at hl 3 rfl) ?_
                  refine lv_dup hx hb dX12_late_125 rfl ?_
                  refine va_get (D := D) (ci := 11) (v := .int 0) (C := RX12) (T := TX12) (N := 54) hx hb hts in_q_late_X12 hown hK.1 hP 0 rfl rfl 6 (by decide) lk1 (fun _ h9 => h9) rfl dX12_late_126 ?_
                  refine lv_iconst (v := 1) hx hb dX12_late_129 (by decide) ?_
                  refine lv_iadd hx hb dX12_late_130 ?_
                  refine lv_topi (fun x_33 ex_33 => ?_)
                  first | have tx_33 := t_add ex_33 (by omega) (by omega) | skip
                  refine va_put (D := D) (ci := 11) (v := .int x_33) (ty := .int) (C := RX12) (T := TX12) (N := 54) hx hb hts in_q_late_X12 tyX12 tyX12_ok nmX12 hown hK.1 hP hD hS 0 rfl rfl 6 (by decide) lk1 (fun _ h9 => h9) rfl (by decide +kernel) rfl rfl (Nat.le_of_ble_eq_true rfl) dX12_late_131 (fun H locs hP hD hS => ?_)
                  have hP : va_P D vwCl [(h, .inr (11, [.int 0, .int 0, .int 0, .int 0, .int 0, .int 0, .int x_33, .int 0, .int 0, .ref a_isPriest, .ref a_bars, .ref a_joined, .ref a_turns, .ref a_awayMonk, .ref a_awayFrom, .ref a_awayTo, .ref a_feastDay, .ref a_rank, .ref a_isWeekly, .ref a_isDouble, .ref a_giftDay, .ref a_giftFrom, .ref a_owed, .ref a_said, .ref a_spared, .ref a_leaveGift, .ref a_leaveFrom, .ref a_leaveTo, .ref a_lateDay, .ref a_lateOffice, .ref a_lateBy, .ref a_guests, .ref a_who, .ref a_used, .ref a_lacks, .ref a_candles, .ref a_masses, .ref a_owing, .ref a_heldOn, .ref a_waits, .ref a_tape, .ref a_text, .int 0, .int 0, .int 0, .int (-1), .int 0, .ref a_statements, .ref a_taken, .ref a_sort, .ref a_first, .ref a_second, .int 0, .int 0])), (a_lateDay, .inl (cI, 100, .inl f_lateDay)), (a_lateOffice, .inl (cI, 100, .inl f_lateOffice)), (a_lateBy, .inl (cI, 100, .inl f_lateBy))] H := hP
                  have hD : va_D A [(h, .inr (11, [.int 0, .int 0, .int 0, .int 0, .int 0, .int 0, .int x_33, .int 0, .int 0, .ref a_isPriest, .ref a_bars, .ref a_joined, .ref a_turns, .ref a_awayMonk, .ref a_awayFrom, .ref a_awayTo, .ref a_feastDay, .ref a_rank, .ref a_isWeekly, .ref a_isDouble, .ref a_giftDay, .ref a_giftFrom, .ref a_owed, .ref a_said, .ref a_spared, .ref a_leaveGift, .ref a_leaveFrom, .ref a_leaveTo, .ref a_lateDay, .ref a_lateOffice, .ref a_lateBy, .ref a_guests, .ref a_who, .ref a_used, .ref a_lacks, .ref a_candles, .ref a_masses, .ref a_owing, .ref a_heldOn, .ref a_waits, .ref a_tape, .ref a_text, .int 0, .int 0, .int 0, .int (-1), .int 0, .ref a_statements, .ref a_taken, .ref a_sort, .ref a_first, .ref a_second, .int 0, .int 0])), (a_lateDay, .inl (cI, 100, .inl f_lateDay)), (a_lateOffice, .inl (cI, 100, .inl f_lateOffice)), (a_lateBy, .inl (cI, 100, .inl f_lateBy))] := hD
                  refine lv_aload_n hx hb dX12_late_134 rfl (lv_at hl 3 rfl) ?_
                  refine va_get (D := D) (ci := 11) (v := .ref a_lateDay) (C := RX12) (T := TX12) (N := 54) hx hb hts in_q_late_X12 hown hK.1 hP 0 rfl rfl 28 (by decide) lk2 (fun _ h9 => h9) rfl dX12_late_135 ?_
                  refine lv_iload hx hb dX12_late_138 (lv_at hl 0 rfl) ?_
                  refine lv_iload_n hx hb dX12_late_140 rfl (lv_at hl 4 rfl) ?_
                  refine va_iast hx hb hK.1 hP hD hS 1 0 rfl rfl (t_in (by omega) (by omega)) dX12_late_141 (fun H locs hP hD hS => ?_)
                  obtain ⟨g_34, eg_34⟩ : ∃ z : Nat → Int32, z = upd f_lateDay ((0 : Int32).toNatClampNeg) d := ⟨_, rfl⟩
                  rw [← eg_34] at hP hD
                  have hP : va_P D vwCl [(h, .inr (11, [.int 0, .int 0, .int 0, .int 0, .int 0, .int 0, .int x_33, .int 0, .int 0, .ref a_isPriest, .ref a_bars, .ref a_joined, .ref a_turns, .ref a_awayMonk, .ref a_awayFrom, .ref a_awayTo, .ref a_feastDay, .ref a_rank, .ref a_isWeekly, .ref a_isDouble, .ref a_giftDay, .ref a_giftFrom, .ref a_owed, .ref a_said, .ref a_spared, .ref a_leaveGift, .ref a_leaveFrom, .ref a_leaveTo, .ref a_lateDay, .ref a_lateOffice, .ref a_lateBy, .ref a_guests, .ref a_who, .ref a_used, .ref a_lacks, .ref a_candles, .ref a_masses, .ref a_owing, .ref a_heldOn, .ref a_waits, .ref a_tape, .ref a_text, .int 0, .int 0, .int 0, .int (-1), .int 0, .ref a_statements, .ref a_taken, .ref a_sort, .ref a_first, .ref a_second, .int 0, .int 0])), (a_lateDay, .inl (cI, 100, .inl g_34)), (a_lateOffice, .inl (cI, 100, .inl f_lateOffice)), (a_lateBy, .inl (cI, 100, .inl f_lateBy))] H := hP
                  have hD : va_D A [(h, .inr (11, [.int 0, .int 0, .int 0, .int 0, .int 0, .int 0, .int x_33, .int 0, .int 0, .ref a_isPriest, .ref a_bars, .ref a_joined, .ref a_turns, .ref a_awayMonk, .ref a_awayFrom, .ref a_awayTo, .ref a_feastDay, .ref a_rank, .ref a_isWeekly, .ref a_isDouble, .ref a_giftDay, .ref a_giftFrom, .ref a_owed, .ref a_said, .ref a_spared, .ref a_leaveGift, .ref a_leaveFrom, .ref a_leaveTo, .ref a_lateDay, .ref a_lateOffice, .ref a_lateBy, .ref a_guests, .ref a_who, .ref a_used, .ref a_lacks, .ref a_candles, .ref a_masses, .ref a_owing, .ref a_heldOn, .ref a_waits, .ref a_tape, .ref a_text, .int 0, .int 0, .int 0, .int (-1), .int 0, .ref a_statements, .ref a_taken, .ref a_sort, .ref a_first, .ref a_second, .int 0, .int 0])), (a_lateDay, .inl (cI, 100, .inl g_34)), (a_lateOffice, .inl (cI, 100, .inl f_lateOffice)), (a_lateBy, .inl (cI, 100, .inl f_lateBy))] := hD
                  refine lv_aload_n hx hb dX12_late_142 rfl (lv_at hl 3 rfl) ?_
                  refine va_get (D := D) (ci := 11) (v := .ref a_lateOffice) (C := RX12) (T := TX12) (N := 54) hx hb hts in_q_late_X12 hown hK.1 hP 0 rfl rfl 29 (by decide) lk3 (fun _ h9 => h9) rfl dX12_late_143 ?_
                  refine lv_iload hx hb dX12_late_146 (lv_at hl 0 rfl) ?_
                  refine lv_iload_n hx hb dX12_late_148 rfl (lv_at hl 5 rfl) ?_
                  refine va_iast hx hb hK.1 hP hD hS 2 0 rfl rfl (t_in (by omega) (by omega)) dX12_late_149 (fun H locs hP hD hS => ?_)
                  obtain ⟨g_35, eg_35⟩ : ∃ z : Nat → Int32, z = upd f_lateOffice ((0 : Int32).toNatClampNeg) k := ⟨_, rfl⟩
                  rw [← eg_35] at hP hD
                  have hP : va_P D vwCl [(h, .inr (11, [.int 0, .int 0, .int 0, .int 0, .int 0, .int 0, .int x_33, .int 0, .int 0, .ref a_isPriest, .ref a_bars, .ref a_joined, .ref a_turns, .ref a_awayMonk, .ref a_awayFrom, .ref a_awayTo, .ref a_feastDay, .ref a_rank, .ref a_isWeekly, .ref a_isDouble, .ref a_giftDay, .ref a_giftFrom, .ref a_owed, .ref a_said, .ref a_spared, .ref a_leaveGift, .ref a_leaveFrom, .ref a_leaveTo, .ref a_lateDay, .ref a_lateOffice, .ref a_lateBy, .ref a_guests, .ref a_who, .ref a_used, .ref a_lacks, .ref a_candles, .ref a_masses, .ref a_owing, .ref a_heldOn, .ref a_waits, .ref a_tape, .ref a_text, .int 0, .int 0, .int 0, .int (-1), .int 0, .ref a_statements, .ref a_taken, .ref a_sort, .ref a_first, .ref a_second, .int 0, .int 0])), (a_lateDay, .inl (cI, 100, .inl g_34)), (a_lateOffice, .inl (cI, 100, .inl g_35)), (a_lateBy, .inl (cI, 100, .inl f_lateBy))] H := hP
                  have hD : va_D A [(h, .inr (11, [.int 0, .int 0, .int 0, .int 0, .int 0, .int 0, .int x_33, .int 0, .int 0, .ref a_isPriest, .ref a_bars, .ref a_joined, .ref a_turns, .ref a_awayMonk, .ref a_awayFrom, .ref a_awayTo, .ref a_feastDay, .ref a_rank, .ref a_isWeekly, .ref a_isDouble, .ref a_giftDay, .ref a_giftFrom, .ref a_owed, .ref a_said, .ref a_spared, .ref a_leaveGift, .ref a_leaveFrom, .ref a_leaveTo, .ref a_lateDay, .ref a_lateOffice, .ref a_lateBy, .ref a_guests, .ref a_who, .ref a_used, .ref a_lacks, .ref a_candles, .ref a_masses, .ref a_owing, .ref a_heldOn, .ref a_waits, .ref a_tape, .ref a_text, .int 0, .int 0, .int 0, .int (-1), .int 0, .ref a_statements, .ref a_taken, .ref a_sort, .ref a_first, .ref a_second, .int 0, .int 0])), (a_lateDay, .inl (cI, 100, .inl g_34)), (a_lateOffice, .inl (cI, 100, .inl g_35)), (a_lateBy, .inl (cI, 100, .inl f_lateBy))] := hD
                  refine lv_aload_n hx hb dX12_late_150 rfl (lv_at hl 3 rfl) ?_
                  refine va_get (D := D) (ci := 11) (v := .ref a_lateBy) (C := RX12) (T := TX12) (N := 54) hx hb hts in_q_late_X12 hown hK.1 hP 0 rfl rfl 30 (by decide) lk4 (fun _ h9 => h9) rfl dX12_late_151 ?_
                  refine lv_iload hx hb dX12_late_154 (lv_at hl 0 rfl) ?_
                  refine lv_iload_n hx hb dX12_late_156 rfl (lv_at hl 6 rfl) ?_
                  refine va_iast hx hb hK.1 hP hD hS 3 0 rfl rfl (t_in (by omega) (by omega)) dX12_late_157 (fun H locs hP hD hS => ?_)
                  obtain ⟨g_36, eg_36⟩ : ∃ z : Nat → Int32, z = upd f_lateBy ((0 : Int32).toNatClampNeg) mm := ⟨_, rfl⟩
                  rw [← eg_36] at hP hD
                  have hP : va_P D vwCl [(h, .inr (11, [.int 0, .int 0, .int 0, .int 0, .int 0, .int 0, .int x_33, .int 0, .int 0, .ref a_isPriest, .ref a_bars, .ref a_joined, .ref a_turns, .ref a_awayMonk, .ref a_awayFrom, .ref a_awayTo, .ref a_feastDay, .ref a_rank, .ref a_isWeekly, .ref a_isDouble, .ref a_giftDay, .ref a_giftFrom, .ref a_owed, .ref a_said, .ref a_spared, .ref a_leaveGift, .ref a_leaveFrom, .ref a_leaveTo, .ref a_lateDay, .ref a_lateOffice, .ref a_lateBy, .ref a_guests, .ref a_who, .ref a_used, .ref a_lacks, .ref a_candles, .ref a_masses, .ref a_owing, .ref a_heldOn, .ref a_waits, .ref a_tape, .ref a_text, .int 0, .int 0, .int 0, .int (-1), .int 0, .ref a_statements, .ref a_taken, .ref a_sort, .ref a_first, .ref a_second, .int 0, .int 0])), (a_lateDay, .inl (cI, 100, .inl g_34)), (a_lateOffice, .inl (cI, 100, .inl g_35)), (a_lateBy, .inl (cI, 100, .inl g_36))] H := hP
                  have hD : va_D A [(h, .inr (11, [.int 0, .int 0, .int 0, .int 0, .int 0, .int 0, .int x_33, .int 0, .int 0, .ref a_isPriest, .ref a_bars, .ref a_joined, .ref a_turns, .ref a_awayMonk, .ref a_awayFrom, .ref a_awayTo, .ref a_feastDay, .ref a_rank, .ref a_isWeekly, .ref a_isDouble, .ref a_giftDay, .ref a_giftFrom, .ref a_owed, .ref a_said, .ref a_spared, .ref a_leaveGift, .ref a_leaveFrom, .ref a_leaveTo, .ref a_lateDay, .ref a_lateOffice, .ref a_lateBy, .ref a_guests, .ref a_who, .ref a_used, .ref a_lacks, .ref a_candles, .ref a_masses, .ref a_owing, .ref a_heldOn, .ref a_waits, .ref a_tape, .ref a_text, .int 0, .int 0, .int 0, .int (-1), .int 0, .ref a_statements, .ref a_taken, .ref a_sort, .ref a_first, .ref a_second, .int 0, .int 0])), (a_lateDay, .inl (cI, 100, .inl g_34)), (a_lateOffice, .inl (cI, 100, .inl g_35)), (a_lateBy, .inl (cI, 100, .inl g_36))] := hD
                  refine lv_iload hx hb dX12_late_158 (lv_at hl 2 rfl) ?_
                  exact hret mi (x_33, g_34, g_35, g_36) _ _ _ _ (⟨fun q => by first | exact emi | (exfalso; omega), fun q => by first | omega | (exfalso; omega)⟩) rfl (hP.sub [0, 1, 2, 3] rfl) (hD.sub [0, 1, 2, 3] (by decide) rfl) hS dX12_late_160
                · exact absurd c_32 (by decide)
            · have tc_29 := t_nle c_29
              refine lv_iload hx hb dX12_late_78 (lv_at hl 1 rfl) ?_
              refine lv_aload_n hx hb dX12_late_80 rfl (lv_at hl 2 rfl) ?_
              refine lv_iload_n hx hb dX12_late_81 rfl (lv_at hl 3 rfl) ?_
              refine lv_iload_n hx hb dX12_late_82 rfl (lv_at hl 4 rfl) ?_
              refine lv_iconst (v := 1) hx hb dX12_late_83 (by decide) ?_
              refine lv_isub hx hb dX12_late_84 ?_
              refine lv_topi (fun k0 ek0 => ?_)
              first | have tk0 := t_sub ek0 (by omega) (by omega) | skip
              have hPc := hP.sub (ws' := [(h, .inr (11, [.int 0, .int 0, .int 0, .int 0, .int 0, .int 0, .int 0, .int 0, .int 0, .ref a_isPriest, .ref a_bars, .ref a_joined, .ref a_turns, .ref a_awayMonk, .ref a_awayFrom, .ref a_awayTo, .ref a_feastDay, .ref a_rank, .ref a_isWeekly, .ref a_isDouble, .ref a_giftDay, .ref a_giftFrom, .ref a_owed, .ref a_said, .ref a_spared, .ref a_leaveGift, .ref a_leaveFrom, .ref a_leaveTo, .ref a_lateDay, .ref a_lateOffice, .ref a_lateBy, .ref a_guests, .ref a_who, .ref a_used, .ref a_lacks, .ref a_candles, .ref a_masses, .ref a_owing, .ref a_heldOn, .ref a_waits, .ref a_tape, .ref a_text, .int 0, .int 0, .int 0, .int (-1), .int 0, .ref a_statements, .ref a_taken, .ref a_sort, .ref a_first, .ref a_second, .int 0, .int 0]))]) [0] rfl
              refine roV (As := [.int d, .int k0]) (rest := [.int mi]) S (m_begins  ) (cwV 2 hts gX12_late_X12_begins rfl rfl rfl (by decide +kernel) ⟨Nat.le_of_ble_eq_true rfl, Nat.le_of_ble_eq_true rfl⟩) hK hPc (va_recv hK.1 hPc (ci := 11) (q0 := 0) rfl rfl) rfl hl.1 rfl (Nat.le_of_ble_eq_true rfl) dX12_late_85 ⟨Nat.le_of_ble_eq_true rfl, Nat.le_of_ble_eq_true rfl⟩ (fun r_rp hw_rp => ?_)
              have hw_rp : r_rp = sunP (rem365 d) k0 := hw_rp
              rw [sunP_eq _ _ (by omega) (by omega)] at hw_rp
              have hw_rp := t_eq hw_rp
              rw [ek0] at hw_rp
              refine lv_icmp_gt (tgt := 93) hx hb dX12_late_88 (by decide) (fun c_38 => ?_) (fun c_38 => ?_)
              · have tc_38 := t_lt c_38
                refine lv_aload_n hx hb dX12_late_93 rfl (lv_at hl 2 rfl) ?_
                refine lv_iload_n hx hb dX12_late_94 rfl (lv_at hl 3 rfl) ?_
                refine lv_iload_n hx hb dX12_late_95 rfl (lv_at hl 4 rfl) ?_
                have hPc := hP.sub (ws' := [(h, .inr (11, [.int 0, .int 0, .int 0, .int 0, .int 0, .int 0, .int 0, .int 0, .int 0, .ref a_isPriest, .ref a_bars, .ref a_joined, .ref a_turns, .ref a_awayMonk, .ref a_awayFrom, .ref a_awayTo, .ref a_feastDay, .ref a_rank, .ref a_isWeekly, .ref a_isDouble, .ref a_giftDay, .ref a_giftFrom, .ref a_owed, .ref a_said, .ref a_spared, .ref a_leaveGift, .ref a_leaveFrom, .ref a_leaveTo, .ref a_lateDay, .ref a_lateOffice, .ref a_lateBy, .ref a_guests, .ref a_who, .ref a_used, .ref a_lacks, .ref a_candles, .ref a_masses, .ref a_owing, .ref a_heldOn, .ref a_waits, .ref a_tape, .ref a_text, .int 0, .int 0, .int 0, .int (-1), .int 0, .ref a_statements, .ref a_taken, .ref a_sort, .ref a_first, .ref a_second, .int 0, .int 0]))]) [0] rfl
                refine roV (As := [.int d, .int k]) (rest := []) S (m_lateRow  ) (cwV 2 hts gX12_late_X12_lateRow rfl rfl rfl (by decide +kernel) ⟨Nat.le_of_ble_eq_true rfl, Nat.le_of_ble_eq_true rfl⟩) hK hPc (va_recv hK.1 hPc (ci := 11) (q0 := 0) rfl rfl) rfl hl.1 rfl (Nat.le_of_ble_eq_true rfl) dX12_late_96 ⟨Nat.le_of_ble_eq_true rfl, Nat.le_of_ble_eq_true rfl⟩ (fun r_39 hw_39 => ?_)
                have hw_39 : r_39.toInt = -1 := hw_39
                refine lv_istore (lv' := [(6, .int r_39), (5, .int 1410), (4, .int mi), (0, .ref h), (1, .int d), (2, .int k), (3, .int mm)]) hx hb dX12_late_99 hl (by decide) rfl (fun ls hl => ?_)
                refine lv_iload hx hb dX12_late_101 (lv_at hl 0 rfl) ?_
                refine lv_iconst (v := (-1)) hx hb dX12_late_103 (by decide) ?_
                refine lv_icmp_ne (tgt := 134) hx hb dX12_late_104 (by decide) (fun c_40 => ?_) (fun c_40 => ?_)
                · have tc_40 := t_ne c_40
                  exfalso; omega
                · have tc_40 := t_eq c_40
                  refine lv_aload_n hx hb dX12_late_107 rfl (lv_at hl 3 rfl) ?_
                  refine va_get (D := D) (ci := 11) (v := .int 0) (C := RX12) (T := TX12) (N := 54) hx hb hts in_q_late_X12 hown hK.1 hP 0 rfl rfl 6 (by decide) lk1 (fun _ h9 => h9) rfl dX12_late_108 ?_
                  refine lv_bipush (v := 100) hx hb dX12_late_111 (by decide) ?_
                  refine lv_icmp_ne (tgt := 118) hx hb dX12_late_113 (by decide) (fun c_41 => ?_) (fun c_41 => ?_)
                  · have tc_41 := t_ne c_41
                    refine lv_aload_n hx hb dX12_late_118 rfl (lv_at hl 3 rfl) ?_
                    refine va_get (D := D) (ci := 11) (v := .int 0) (C := RX12) (T := TX12) (N := 54) hx hb hts in_q_late_X12 hown hK.1 hP 0 rfl rfl 6 (by decide) lk1 (fun _ h9 => h9) rfl dX12_late_119 ?_
                    refine lv_istore (lv' := [(6, .int 0), (5, .int 1410), (4, .int mi), (0, .ref h), (1, .int d), (2, .int k), (3, .int mm)]) hx hb dX12_late_122 hl (by decide) rfl (fun ls hl => ?_)
                    refine lv_aload_n hx hb dX12_late_124 rfl (lv_at hl 3 rfl) ?_
                    refine lv_dup hx hb dX12_late_125 rfl ?_
                    refine va_get (D := D) (ci := 11) (v := .int 0) (C := RX12) (T := TX12) (N := 54) hx hb hts in_q_late_X12 hown hK.1 hP 0 rfl rfl 6 (by decide) lk1 (fun _ h9 => h9) rfl dX12_late_126 ?_
                    refine lv_iconst (v := 1) hx hb dX12_late_129 (by decide) ?_
                    refine lv_iadd hx hb dX12_late_130 ?_
                    refine lv_topi (fun x_42 ex_42 => ?_)
                    first | have tx_42 := t_add ex_42 (by omega) (by omega) | skip
                    refine va_put (D := D) (ci := 11) (v := .int x_42) (ty := .int) (C := RX12) (T := TX12) (N := 54) hx hb hts in_q_late_X12 tyX12 tyX12_ok nmX12 hown hK.1 hP hD hS 0 rfl rfl 6 (by decide) lk1 (fun _ h9 => h9) rfl (by decide +kernel) rfl rfl (Nat.le_of_ble_eq_true rfl) dX12_late_131 (fun H locs hP hD hS => ?_)
                    have hP : va_P D vwCl [(h, .inr (11, [.int 0, .int 0, .int 0, .int 0, .int 0, .int 0, .int x_42, .int 0, .int 0, .ref a_isPriest, .ref a_bars, .ref a_joined, .ref a_turns, .ref a_awayMonk, .ref a_awayFrom, .ref a_awayTo, .ref a_feastDay, .ref a_rank, .ref a_isWeekly, .ref a_isDouble, .ref a_giftDay, .ref a_giftFrom, .ref a_owed, .ref a_said, .ref a_spared, .ref a_leaveGift, .ref a_leaveFrom, .ref a_leaveTo, .ref a_lateDay, .ref a_lateOffice, .ref a_lateBy, .ref a_guests, .ref a_who, .ref a_used, .ref a_lacks, .ref a_candles, .ref a_masses, .ref a_owing, .ref a_heldOn, .ref a_waits, .ref a_tape, .ref a_text, .int 0, .int 0, .int 0, .int (-1), .int 0, .ref a_statements, .ref a_taken, .ref a_sort, .ref a_first, .ref a_second, .int 0, .int 0])), (a_lateDay, .inl (cI, 100, .inl f_lateDay)), (a_lateOffice, .inl (cI, 100, .inl f_lateOffice)), (a_lateBy, .inl (cI, 100, .inl f_lateBy))] H := hP
                    have hD : va_D A [(h, .inr (11, [.int 0, .int 0, .int 0, .int 0, .int 0, .int 0, .int x_42, .int 0, .int 0, .ref a_isPriest, .ref a_bars, .ref a_joined, .ref a_turns, .ref a_awayMonk, .ref a_awayFrom, .ref a_awayTo, .ref a_feastDay, .ref a_rank, .ref a_isWeekly, .ref a_isDouble, .ref a_giftDay, .ref a_giftFrom, .ref a_owed, .ref a_said, .ref a_spared, .ref a_leaveGift, .ref a_leaveFrom, .ref a_leaveTo, .ref a_lateDay, .ref a_lateOffice, .ref a_lateBy, .ref a_guests, .ref a_who, .ref a_used, .ref a_lacks, .ref a_candles, .ref a_masses, .ref a_owing, .ref a_heldOn, .ref a_waits, .ref a_tape, .ref a_text, .int 0, .int 0, .int 0, .int (-1), .int 0, .ref a_statements, .ref a_taken, .ref a_sort, .ref a_first, .ref a_second, .int 0, .int 0])), (a_lateDay, .inl (cI, 100, .inl f_lateDay)), (a_lateOffice, .inl (cI, 100, .inl f_lateOffice)), (a_lateBy, .inl (cI, 100, .inl f_lateBy))] := hD
                    refine lv_aload_n hx hb dX12_late_134 rfl (lv_at hl 3 rfl) ?_
                    refine va_get (D := D) (ci := 11) (v := .ref a_lateDay) (C := RX12) (T := TX12) (N := 54) hx hb hts in_q_late_X12 hown hK.1 hP 0 rfl rfl 28 (by decide) lk2 (fun _ h9 => h9) rfl dX12_late_135 ?_
                    refine lv_iload hx hb dX12_late_138 (lv_at hl 0 rfl) ?_
                    refine lv_iload_n hx hb dX12_late_140 rfl (lv_at hl 4 rfl) ?_
                    refine va_iast hx hb hK.1 hP hD hS 1 0 rfl rfl (t_in (by omega) (by omega)) dX12_late_141 (fun H locs hP hD hS => ?_)
                    obtain ⟨g_43, eg_43⟩ : ∃ z : Nat → Int32, z = upd f_lateDay ((0 : Int32).toNatClampNeg) d := ⟨_, rfl⟩
                    rw [← eg_43] at hP hD
                    have hP : va_P D vwCl [(h, .inr (11, [.int 0, .int 0, .int 0, .int 0, .int 0, .int 0, .int x_42, .int 0, .int 0, .ref a_isPriest, .ref a_bars, .ref a_joined, .ref a_turns, .ref a_awayMonk, .ref a_awayFrom, .ref a_awayTo, .ref a_feastDay, .ref a_rank, .ref a_isWeekly, .ref a_isDouble, .ref a_giftDay, .ref a_giftFrom, .ref a_owed, .ref a_said, .ref a_spared, .ref a_leaveGift, .ref a_leaveFrom, .ref a_leaveTo, .ref a_lateDay, .ref a_lateOffice, .ref a_lateBy, .ref a_guests, .ref a_who, .ref a_used, .ref a_lacks, .ref a_candles, .ref a_masses, .ref a_owing, .ref a_heldOn, .ref a_waits, .ref a_tape, .ref a_text, .int 0, .int 0, .int 0, .int (-1), .int 0, .ref a_statements, .ref a_taken, .ref a_sort, .ref a_first, .ref a_second, .int 0, .int 0])), (a_lateDay, .inl (cI, 100, .inl g_43)), (a_lateOffice, .inl (cI, 100, .inl f_lateOffice)), (a_lateBy, .inl (cI, 100, .inl f_lateBy))] H := hP
                    have hD : va_D A [(h, .inr (11, [.int 0, .int 0, .int 0, .int 0, .int 0, .int 0, .int x_42, .int 0, .int 0, .ref a_isPriest, .ref a_bars, .ref a_joined, .ref a_turns, .ref a_awayMonk, .ref a_awayFrom, .ref a_awayTo, .ref a_feastDay, .ref a_rank, .ref a_isWeekly, .ref a_isDouble, .ref a_giftDay, .ref a_giftFrom, .ref a_owed, .ref a_said, .ref a_spared, .ref a_leaveGift, .ref a_leaveFrom, .ref a_leaveTo, .ref a_lateDay, .ref a_lateOffice, .ref a_lateBy, .ref a_guests, .ref a_who, .ref a_used, .ref a_lacks, .ref a_candles, .ref a_masses, .ref a_owing, .ref a_heldOn, .ref a_waits, .ref a_tape, .ref a_text, .int 0, .int 0, .int 0, .int (-1), .int 0, .ref a_statements, .ref a_taken, .ref a_sort, .ref a_first, .ref a_second, .int 0, .int 0])), (a_lateDay, .inl (cI, 100, .inl g_43)), (a_lateOffice, .inl (cI, 100, .inl f_lateOffice)), (a_lateBy, .inl (cI, 100, .inl f_lateBy))] := hD
                    refine lv_aload_n hx hb dX12_late_142 rfl (lv_at hl 3 rfl) ?_
                    refine va_get (D := D) (ci := 11) (v := .ref a_lateOffice) (C := RX12) (T := TX12) (N := 54) hx hb hts in_q_late_X12 hown hK.1 hP 0 rfl rfl 29 (by decide) lk3 (fun _ h9 => h9) rfl dX12_late_143 ?_
                    refine lv_iload hx hb dX12_late_146 (lv_at hl 0 rfl) ?_
                    refine lv_iload_n hx hb dX12_late_148 rfl (lv_at hl 5 rfl) ?_
                    refine va_iast hx hb hK.1 hP hD hS 2 0 rfl rfl (t_in (by omega) (by omega)) dX12_late_149 (fun H locs hP hD hS => ?_)
                    obtain ⟨g_44, eg_44⟩ : ∃ z : Nat → Int32, z = upd f_lateOffice ((0 : Int32).toNatClampNeg) k := ⟨_, rfl⟩
                    rw [← eg_44] at hP hD
                    have hP : va_P D vwCl [(h, .inr (11, [.int 0, .int 0, .int 0, .int 0, .int 0, .int 0, .int x_42, .int 0, .int 0, .ref a_isPriest, .ref a_bars, .ref a_joined, .ref a_turns, .ref a_awayMonk, .ref a_awayFrom, .ref a_awayTo, .ref a_feastDay, .ref a_rank, .ref a_isWeekly, .ref a_isDouble, .ref a_giftDay, .ref a_giftFrom, .ref a_owed, .ref a_said, .ref a_spared, .ref a_leaveGift, .ref a_leaveFrom, .ref a_leaveTo, .ref a_lateDay, .ref a_lateOffice, .ref a_lateBy, .ref a_guests, .ref a_who, .ref a_used, .ref a_lacks, .ref a_candles, .ref a_masses, .ref a_owing, .ref a_heldOn, .ref a_waits, .ref a_tape, .ref a_text, .int 0, .int 0, .int 0, .int (-1), .int 0, .ref a_statements, .ref a_taken, .ref a_sort, .ref a_first, .ref a_second, .int 0, .int 0])), (a_lateDay, .inl (cI, 100, .inl g_43)), (a_lateOffice, .inl (cI, 100, .inl g_44)), (a_lateBy, .inl (cI, 100, .inl f_lateBy))] H := hP
                    have hD : va_D A [(h, .inr (11, [.int 0, .int 0, .int 0, .int 0, .int 0, .int 0, .int x_42, .int 0, .int 0, .ref a_isPriest, .ref a_bars, .ref a_joined, .ref a_turns, .ref a_awayMonk, .ref a_awayFrom, .ref a_awayTo, .ref a_feastDay, .ref a_rank, .ref a_isWeekly, .ref a_isDouble, .ref a_giftDay, .ref a_giftFrom, .ref a_owed, .ref a_said, .ref a_spared, .ref a_leaveGift, .ref a_leaveFrom, .ref a_leaveTo, .ref a_lateDay, .ref a_lateOffice, .ref a_lateBy, .ref a_guests, .ref a_who, .ref a_used, .ref a_lacks, .ref a_candles, .ref a_masses, .ref a_owing, .ref a_heldOn, .ref a_waits, .ref a_tape, .ref a_text, .int 0, .int 0, .int 0, .int (-1), .int 0, .ref a_statements, .ref a_taken, .ref a_sort, .ref a_first, .ref a_second, .int 0, .int 0])), (a_lateDay, .inl (cI, 100, .inl g_43)), (a_lateOffice, .inl (cI, 100, .inl g_44)), (a_lateBy, .inl (cI, 100, .inl f_lateBy))] := hD
                    refine lv_aload_n hx hb dX12_late_150 rfl (lv_at hl 3 rfl) ?_
                    refine va_get (D := D) (ci := 11) (v := .ref a_lateBy) (C := RX12) (T := TX12) (N := 54) hx hb hts in_q_late_X12 hown hK.1 hP 0 rfl rfl 30 (by decide) lk4 (fun _ h9 => h9) rfl dX12_late_151 ?_
                    refine lv_iload hx hb dX12_late_154 (lv_at hl 0 rfl) ?_
                    refine lv_iload_n hx hb dX12_late_156 rfl (lv_at hl 6 rfl) ?_
                    refine va_iast hx hb hK.1 hP hD hS 3 0 rfl rfl (t_in (by omega) (by omega)) dX12_late_157 (fun H locs hP hD hS => ?_)
                    obtain ⟨g_45, eg_45⟩ : ∃ z : Nat → Int32, z = upd f_lateBy ((0 : Int32).toNatClampNeg) mm := ⟨_, rfl⟩
                    rw [← eg_45] at hP hD
                    have hP : va_P D vwCl [(h, .inr (11, [.int 0, .int 0, .int 0, .int 0, .int 0, .int 0, .int x_42, .int 0, .int 0, .ref a_isPriest, .ref a_bars, .ref a_joined, .ref a_turns, .ref a_awayMonk, .ref a_awayFrom, .ref a_awayTo, .ref a_feastDay, .ref a_rank, .ref a_isWeekly, .ref a_isDouble, .ref a_giftDay, .ref a_giftFrom, .ref a_owed, .ref a_said, .ref a_spared, .ref a_leaveGift, .ref a_leaveFrom, .ref a_leaveTo, .ref a_lateDay, .ref a_lateOffice, .ref a_lateBy, .ref a_guests, .ref a_who, .ref a_used, .ref a_lacks, .ref a_candles, .ref a_masses, .ref a_owing, .ref a_heldOn, .ref a_waits, .ref a_tape, .ref a_text, .int 0, .int 0, .int 0, .int (-1), .int 0, .ref a_statements, .ref a_taken, .ref a_sort, .ref a_first, .ref a_second, .int 0, .int 0])), (a_lateDay, .inl (cI, 100, .inl g_43)), (a_lateOffice, .inl (cI, 100, .inl g_44)), (a_lateBy, .inl (cI, 100, .inl g_45))] H := hP
                    have hD : va_D A [(h, .inr (11, [.int 0, .int 0, .int 0, .int 0, .int 0, .int 0, .int x_42, .int 0, .int 0, .ref a_isPriest, .ref a_bars, .ref a_joined, .ref a_turns, .ref a_awayMonk, .ref a_awayFrom, .ref a_awayTo, .ref a_feastDay, .ref a_rank, .ref a_isWeekly, .ref a_isDouble, .ref a_giftDay, .ref a_giftFrom, .ref a_owed, .ref a_said, .ref a_spared, .ref a_leaveGift, .ref a_leaveFrom, .ref a_leaveTo, .ref a_lateDay, .ref a_lateOffice, .ref a_lateBy, .ref a_guests, .ref a_who, .ref a_used, .ref a_lacks, .ref a_candles, .ref a_masses, .ref a_owing, .ref a_heldOn, .ref a_waits, .ref a_tape, .ref a_text, .int 0, .int 0, .int 0, .int (-1), .int 0, .ref a_statements, .ref a_taken, .ref a_sort, .ref a_first, .ref a_second, .int 0, .int 0])), (a_lateDay, .inl (cI, 100, .inl g_43)), (a_lateOffice, .inl (cI, 100, .inl g_44)), (a_lateBy, .inl (cI, 100, .inl g_45))] := hD
                    refine lv_iload hx hb dX12_late_158 (lv_at hl 2 rfl) ?_
                    exact hret mi (x_42, g_43, g_44, g_45) _ _ _ _ (⟨fun q => by first | exact emi | (exfalso; omega), fun q => by first | omega | (exfalso; omega)⟩) rfl (hP.sub [0, 1, 2, 3] rfl) (hD.sub [0, 1, 2, 3] (by decide) rfl) hS dX12_late_160
                  · exact absurd c_41 (by decide)
              · have tc_38 := t_nlt c_38
                refine lv_iconst (v := (-1)) hx hb dX12_late_91 (by decide) ?_
                exact hret (-1) (0, f_lateDay, f_lateOffice, f_lateBy) _ _ _ _ (⟨fun q => by first | exact emi | (exfalso; omega), fun q => by first | omega | (exfalso; omega)⟩) rfl (hP.sub [0, 1, 2, 3] rfl) (hD.sub [0, 1, 2, 3] (by decide) rfl) hS dX12_late_92
      · have tc_6 := t_eq c_6
        refine lv_iconst (v := (-1)) hx hb dX12_late_34 (by decide) ?_
        exact hret (-1) (0, f_lateDay, f_lateOffice, f_lateBy) _ _ _ _ (⟨fun q => by first | exact emi | (exfalso; omega), fun q => by first | omega | (exfalso; omega)⟩) rfl (hP.sub [0, 1, 2, 3] rfl) (hD.sub [0, 1, 2, 3] (by decide) rfl) hS dX12_late_35

theorem in_q_feed_X12 : ∀ w ∈ wsX120, w ∈ wsX12_feed := by decide +kernel
set_option maxHeartbeats 8000000 in
set_option maxRecDepth 100000 in
theorem q_feed {l : Launch} {D : va_G} {cI cZ cB : ClassId} {sz : Nat} {h a_isPriest a_bars a_joined a_turns a_awayMonk a_awayFrom a_awayTo a_feastDay a_rank a_isWeekly a_isDouble a_giftDay a_giftFrom a_owed a_said a_spared a_leaveGift a_leaveFrom a_leaveTo a_lateDay a_lateOffice a_lateBy a_guests a_who a_used a_lacks a_candles a_masses a_owing a_heldOn a_waits a_tape a_text a_statements a_taken a_sort a_first a_second : Nat} {f_tape : Nat → Int32} {a b c d e : Int32}  : Met l yX12_feed wsX12_feed ({ frames := 1, cells := 0, slots := 0, locals := 22 }) (RW D cI cZ cB [.ref h, .int a, .int b, .int c, .int d, .int e] sz [(h, .inr (11, [.int 0, .int 0, .int 0, .int 0, .int 0, .int 0, .int 0, .int 0, .int 0, .ref a_isPriest, .ref a_bars, .ref a_joined, .ref a_turns, .ref a_awayMonk, .ref a_awayFrom, .ref a_awayTo, .ref a_feastDay, .ref a_rank, .ref a_isWeekly, .ref a_isDouble, .ref a_giftDay, .ref a_giftFrom, .ref a_owed, .ref a_said, .ref a_spared, .ref a_leaveGift, .ref a_leaveFrom, .ref a_leaveTo, .ref a_lateDay, .ref a_lateOffice, .ref a_lateBy, .ref a_guests, .ref a_who, .ref a_used, .ref a_lacks, .ref a_candles, .ref a_masses, .ref a_owing, .ref a_heldOn, .ref a_waits, .ref a_tape, .ref a_text, .int 0, .int 0, .int 0, .int (-1), .int 0, .ref a_statements, .ref a_taken, .ref a_sort, .ref a_first, .ref a_second, .int 0, .int 0])), (a_tape, .inl (cB, 600, .inl f_tape))]) (va_Qi (fun (r : Int32) (u : Int32 × Nat → Int32) => r.toInt = 20) (BW D [(h, .inr (11, [.int 0, .int 0, .int 0, .int 0, .int 0, .int 0, .int 0, .int 0, .int 0, .ref a_isPriest, .ref a_bars, .ref a_joined, .ref a_turns, .ref a_awayMonk, .ref a_awayFrom, .ref a_awayTo, .ref a_feastDay, .ref a_rank, .ref a_isWeekly, .ref a_isDouble, .ref a_giftDay, .ref a_giftFrom, .ref a_owed, .ref a_said, .ref a_spared, .ref a_leaveGift, .ref a_leaveFrom, .ref a_leaveTo, .ref a_lateDay, .ref a_lateOffice, .ref a_lateBy, .ref a_guests, .ref a_who, .ref a_used, .ref a_lacks, .ref a_candles, .ref a_masses, .ref a_owing, .ref a_heldOn, .ref a_waits, .ref a_tape, .ref a_text, .int 0, .int 0, .int 0, .int (-1), .int 0, .ref a_statements, .ref a_taken, .ref a_sort, .ref a_first, .ref a_second, .int 0, .int 0])), (a_tape, .inl (cB, 600, .inl f_tape))] sz (fun u : Int32 × Nat → Int32 => [(h, .inr (11, [.int 0, .int 0, .int 0, .int 0, .int 0, .int 0, .int 0, .int 0, .int 0, .ref a_isPriest, .ref a_bars, .ref a_joined, .ref a_turns, .ref a_awayMonk, .ref a_awayFrom, .ref a_awayTo, .ref a_feastDay, .ref a_rank, .ref a_isWeekly, .ref a_isDouble, .ref a_giftDay, .ref a_giftFrom, .ref a_owed, .ref a_said, .ref a_spared, .ref a_leaveGift, .ref a_leaveFrom, .ref a_leaveTo, .ref a_lateDay, .ref a_lateOffice, .ref a_lateBy, .ref a_guests, .ref a_who, .ref a_used, .ref a_lacks, .ref a_candles, .ref a_masses, .ref a_owing, .ref a_heldOn, .ref a_waits, .ref a_tape, .ref a_text, .int u.1, .int 0, .int 0, .int (-1), .int 0, .ref a_statements, .ref a_taken, .ref a_sort, .ref a_first, .ref a_second, .int 0, .int 0])), (a_tape, .inl (cB, 600, .inl u.2))])) (va_A [(h, .inr (11, [.int 0, .int 0, .int 0, .int 0, .int 0, .int 0, .int 0, .int 0, .int 0, .ref a_isPriest, .ref a_bars, .ref a_joined, .ref a_turns, .ref a_awayMonk, .ref a_awayFrom, .ref a_awayTo, .ref a_feastDay, .ref a_rank, .ref a_isWeekly, .ref a_isDouble, .ref a_giftDay, .ref a_giftFrom, .ref a_owed, .ref a_said, .ref a_spared, .ref a_leaveGift, .ref a_leaveFrom, .ref a_leaveTo, .ref a_lateDay, .ref a_lateOffice, .ref a_lateBy, .ref a_guests, .ref a_who, .ref a_used, .ref a_lacks, .ref a_candles, .ref a_masses, .ref a_owing, .ref a_heldOn, .ref a_waits, .ref a_tape, .ref a_text, .int 0, .int 0, .int 0, .int (-1), .int 0, .ref a_statements, .ref a_taken, .ref a_sort, .ref a_first, .ref a_second, .int 0, .int 0])), (a_tape, .inl (cB, 600, .inl f_tape))] sz)) 0 0 (va_A [(h, .inr (11, [.int 0, .int 0, .int 0, .int 0, .int 0, .int 0, .int 0, .int 0, .int 0, .ref a_isPriest, .ref a_bars, .ref a_joined, .ref a_turns, .ref a_awayMonk, .ref a_awayFrom, .ref a_awayTo, .ref a_feastDay, .ref a_rank, .ref a_isWeekly, .ref a_isDouble, .ref a_giftDay, .ref a_giftFrom, .ref a_owed, .ref a_said, .ref a_spared, .ref a_leaveGift, .ref a_leaveFrom, .ref a_leaveTo, .ref a_lateDay, .ref a_lateOffice, .ref a_lateBy, .ref a_guests, .ref a_who, .ref a_used, .ref a_lacks, .ref a_candles, .ref a_masses, .ref a_owing, .ref a_heldOn, .ref a_waits, .ref a_tape, .ref a_text, .int 0, .int 0, .int 0, .int (-1), .int 0, .ref a_statements, .ref a_taken, .ref a_sort, .ref a_first, .ref a_second, .int 0, .int 0])), (a_tape, .inl (cB, 600, .inl f_tape))] sz) := by
  refine rw_ret (cc := cX12_feed) (maxL := 6) (ty := .int) (own := RX12) (by decide) rfl rfl (Nat.le_of_ble_eq_true rfl) ?_
  intro p e s m args below meth c Q A S hin hret hP hK hD hA hS ls hl
  obtain ⟨hx, hb, hml, hown, hts⟩ := id S
  have hl : lv_has ls 6 [(0, .ref h), (1, .int a), (2, .int b), (3, .int c), (4, .int d), (5, .int e)] := hl
  have kkm1 : (-1 : Int32).toInt = -1 := by decide
  have kk0 : (0 : Int32).toInt = 0 := by decide
  have kk20 : (20 : Int32).toInt = 20 := by decide
  have kk600 : (600 : Int32).toInt = 600 := by decide
  have lk0 := hts (.fieldLink RX12 185 "AbbeyHoursModel" "taped" "I") (by decide +kernel)
  refine lv_aload_n hx hb dX12_feed_0 rfl (lv_at hl 0 rfl) ?_
  refine va_get (D := D) (ci := 11) (v := .int 0) (C := RX12) (T := TX12) (N := 54) hx hb hts in_q_feed_X12 hown hK.1 hP 0 rfl rfl 42 (by decide) lk0 (fun _ h9 => h9) rfl dX12_feed_1 ?_
  refine lv_bipush (v := 20) hx hb dX12_feed_4 (by decide) ?_
  refine lv_iadd hx hb dX12_feed_6 ?_
  refine lv_topi (fun x_1 ex_1 => ?_)
  first | have tx_1 := t_add ex_1 (by omega) (by omega) | skip
  refine lv_sipush (v := 600) hx hb dX12_feed_7 (by decide) ?_
  refine lv_icmp_le (tgt := 15) hx hb dX12_feed_10 (by decide) (fun c_2 => ?_) (fun c_2 => ?_)
  · have tc_2 := t_le c_2
    refine lv_aload_n hx hb dX12_feed_15 rfl (lv_at hl 0 rfl) ?_
    refine lv_iload_n hx hb dX12_feed_16 rfl (lv_at hl 1 rfl) ?_
    have hPc := hP.sub (ws' := [(h, .inr (11, [.int 0, .int 0, .int 0, .int 0, .int 0, .int 0, .int 0, .int 0, .int 0, .ref a_isPriest, .ref a_bars, .ref a_joined, .ref a_turns, .ref a_awayMonk, .ref a_awayFrom, .ref a_awayTo, .ref a_feastDay, .ref a_rank, .ref a_isWeekly, .ref a_isDouble, .ref a_giftDay, .ref a_giftFrom, .ref a_owed, .ref a_said, .ref a_spared, .ref a_leaveGift, .ref a_leaveFrom, .ref a_leaveTo, .ref a_lateDay, .ref a_lateOffice, .ref a_lateBy, .ref a_guests, .ref a_who, .ref a_used, .ref a_lacks, .ref a_candles, .ref a_masses, .ref a_owing, .ref a_heldOn, .ref a_waits, .ref a_tape, .ref a_text, .int 0, .int 0, .int 0, .int (-1), .int 0, .ref a_statements, .ref a_taken, .ref a_sort, .ref a_first, .ref a_second, .int 0, .int 0])), (a_tape, .inl (cB, 600, .inl f_tape))]) [0, 1] rfl
    refine rwVv (As := [.int a]) (rest := []) (wc := [(h, .inr (11, [.int 0, .int 0, .int 0, .int 0, .int 0, .int 0, .int 0, .int 0, .int 0, .ref a_isPriest, .ref a_bars, .ref a_joined, .ref a_turns, .ref a_awayMonk, .ref a_awayFrom, .ref a_awayTo, .ref a_feastDay, .ref a_rank, .ref a_isWeekly, .ref a_isDouble, .ref a_giftDay, .ref a_giftFrom, .ref a_owed, .ref a_said, .ref a_spared, .ref a_leaveGift, .ref a_leaveFrom, .ref a_leaveTo, .ref a_lateDay, .ref a_lateOffice, .ref a_lateBy, .ref a_guests, .ref a_who, .ref a_used, .ref a_lacks, .ref a_candles, .ref a_masses, .ref a_owing, .ref a_heldOn, .ref a_waits, .ref a_tape, .ref a_text, .int 0, .int 0, .int 0, .int (-1), .int 0, .ref a_statements, .ref a_taken, .ref a_sort, .ref a_first, .ref a_second, .int 0, .int 0])), (a_tape, .inl (cB, 600, .inl f_tape))]) (wr := []) S (m_four  (by omega) (by omega)) (cwV 1 hts gX12_feed_X12_four rfl rfl rfl (by decide +kernel) ⟨Nat.le_of_ble_eq_true rfl, Nat.le_of_ble_eq_true rfl⟩) hK hP hD hS hA [0, 1] [] rfl rfl (by decide) (by decide) (by decide) (va_recv hK.1 hPc (ci := 11) (q0 := 0) rfl rfl) rfl hl.1 rfl (Nat.le_of_ble_eq_true rfl) dX12_feed_17 ⟨Nat.le_of_ble_eq_true rfl, Nat.le_of_ble_eq_true rfl⟩ (fun u_3 H locs hw_3 hP hD hS => ?_)
    obtain ⟨w1_3, f1_3⟩ := u_3
    have hw_3 : w1_3.toInt = (0 : Int32).toInt + 4 := hw_3
    have hP : va_P D vwCl [(h, .inr (11, [.int 0, .int 0, .int 0, .int 0, .int 0, .int 0, .int 0, .int 0, .int 0, .ref a_isPriest, .ref a_bars, .ref a_joined, .ref a_turns, .ref a_awayMonk, .ref a_awayFrom, .ref a_awayTo, .ref a_feastDay, .ref a_rank, .ref a_isWeekly, .ref a_isDouble, .ref a_giftDay, .ref a_giftFrom, .ref a_owed, .ref a_said, .ref a_spared, .ref a_leaveGift, .ref a_leaveFrom, .ref a_leaveTo, .ref a_lateDay, .ref a_lateOffice, .ref a_lateBy, .ref a_guests, .ref a_who, .ref a_used, .ref a_lacks, .ref a_candles, .ref a_masses, .ref a_owing, .ref a_heldOn, .ref a_waits, .ref a_tape, .ref a_text, .int w1_3, .int 0, .int 0, .int (-1), .int 0, .ref a_statements, .ref a_taken, .ref a_sort, .ref a_first, .ref a_second, .int 0, .int 0])), (a_tape, .inl (cB, 600, .inl f1_3))] H := hP
    have hD : va_D A [(h, .inr (11, [.int 0, .int 0, .int 0, .int 0, .int 0, .int 0, .int 0, .int 0, .int 0, .ref a_isPriest, .ref a_bars, .ref a_joined, .ref a_turns, .ref a_awayMonk, .ref a_awayFrom, .ref a_awayTo, .ref a_feastDay, .ref a_rank, .ref a_isWeekly, .ref a_isDouble, .ref a_giftDay, .ref a_giftFrom, .ref a_owed, .ref a_said, .ref a_spared, .ref a_leaveGift, .ref a_leaveFrom, .ref a_leaveTo, .ref a_lateDay, .ref a_lateOffice, .ref a_lateBy, .ref a_guests, .ref a_who, .ref a_used, .ref a_lacks, .ref a_candles, .ref a_masses, .ref a_owing, .ref a_heldOn, .ref a_waits, .ref a_tape, .ref a_text, .int w1_3, .int 0, .int 0, .int (-1), .int 0, .ref a_statements, .ref a_taken, .ref a_sort, .ref a_first, .ref a_second, .int 0, .int 0])), (a_tape, .inl (cB, 600, .inl f1_3))] := hD
    refine lv_aload_n hx hb dX12_feed_20 rfl (lv_at hl 0 rfl) ?_
    refine lv_iload_n hx hb dX12_feed_21 rfl (lv_at hl 2 rfl) ?_
    have hPc := hP.sub (ws' := [(h, .inr (11, [.int 0, .int 0, .int 0, .int 0, .int 0, .int 0, .int 0, .int 0, .int 0, .ref a_isPriest, .ref a_bars, .ref a_joined, .ref a_turns, .ref a_awayMonk, .ref a_awayFrom, .ref a_awayTo, .ref a_feastDay, .ref a_rank, .ref a_isWeekly, .ref a_isDouble, .ref a_giftDay, .ref a_giftFrom, .ref a_owed, .ref a_said, .ref a_spared, .ref a_leaveGift, .ref a_leaveFrom, .ref a_leaveTo, .ref a_lateDay, .ref a_lateOffice, .ref a_lateBy, .ref a_guests, .ref a_who, .ref a_used, .ref a_lacks, .ref a_candles, .ref a_masses, .ref a_owing, .ref a_heldOn, .ref a_waits, .ref a_tape, .ref a_text, .int w1_3, .int 0, .int 0, .int (-1), .int 0, .ref a_statements, .ref a_taken, .ref a_sort, .ref a_first, .ref a_second, .int 0, .int 0])), (a_tape, .inl (cB, 600, .inl f1_3))]) [0, 1] rfl
    refine rwVv (As := [.int b]) (rest := []) (wc := [(h, .inr (11, [.int 0, .int 0, .int 0, .int 0, .int 0, .int 0, .int 0, .int 0, .int 0, .ref a_isPriest, .ref a_bars, .ref a_joined, .ref a_turns, .ref a_awayMonk, .ref a_awayFrom, .ref a_awayTo, .ref a_feastDay, .ref a_rank, .ref a_isWeekly, .ref a_isDouble, .ref a_giftDay, .ref a_giftFrom, .ref a_owed, .ref a_said, .ref a_spared, .ref a_leaveGift, .ref a_leaveFrom, .ref a_leaveTo, .ref a_lateDay, .ref a_lateOffice, .ref a_lateBy, .ref a_guests, .ref a_who, .ref a_used, .ref a_lacks, .ref a_candles, .ref a_masses, .ref a_owing, .ref a_heldOn, .ref a_waits, .ref a_tape, .ref a_text, .int w1_3, .int 0, .int 0, .int (-1), .int 0, .ref a_statements, .ref a_taken, .ref a_sort, .ref a_first, .ref a_second, .int 0, .int 0])), (a_tape, .inl (cB, 600, .inl f1_3))]) (wr := []) S (m_four  (by omega) (by omega)) (cwV 1 hts gX12_feed_X12_four rfl rfl rfl (by decide +kernel) ⟨Nat.le_of_ble_eq_true rfl, Nat.le_of_ble_eq_true rfl⟩) hK hP hD hS hA [0, 1] [] rfl rfl (by decide) (by decide) (by decide) (va_recv hK.1 hPc (ci := 11) (q0 := 0) rfl rfl) rfl hl.1 rfl (Nat.le_of_ble_eq_true rfl) dX12_feed_22 ⟨Nat.le_of_ble_eq_true rfl, Nat.le_of_ble_eq_true rfl⟩ (fun u_4 H locs hw_4 hP hD hS => ?_)
    obtain ⟨w1_4, f1_4⟩ := u_4
    have hw_4 : w1_4.toInt = w1_3.toInt + 4 := hw_4
    have hP : va_P D vwCl [(h, .inr (11, [.int 0, .int 0, .int 0, .int 0, .int 0, .int 0, .int 0, .int 0, .int 0, .ref a_isPriest, .ref a_bars, .ref a_joined, .ref a_turns, .ref a_awayMonk, .ref a_awayFrom, .ref a_awayTo, .ref a_feastDay, .ref a_rank, .ref a_isWeekly, .ref a_isDouble, .ref a_giftDay, .ref a_giftFrom, .ref a_owed, .ref a_said, .ref a_spared, .ref a_leaveGift, .ref a_leaveFrom, .ref a_leaveTo, .ref a_lateDay, .ref a_lateOffice, .ref a_lateBy, .ref a_guests, .ref a_who, .ref a_used, .ref a_lacks, .ref a_candles, .ref a_masses, .ref a_owing, .ref a_heldOn, .ref a_waits, .ref a_tape, .ref a_text, .int w1_4, .int 0, .int 0, .int (-1), .int 0, .ref a_statements, .ref a_taken, .ref a_sort, .ref a_first, .ref a_second, .int 0, .int 0])), (a_tape, .inl (cB, 600, .inl f1_4))] H := hP
    have hD : va_D A [(h, .inr (11, [.int 0, .int 0, .int 0, .int 0, .int 0, .int 0, .int 0, .int 0, .int 0, .ref a_isPriest, .ref a_bars, .ref a_joined, .ref a_turns, .ref a_awayMonk, .ref a_awayFrom, .ref a_awayTo, .ref a_feastDay, .ref a_rank, .ref a_isWeekly, .ref a_isDouble, .ref a_giftDay, .ref a_giftFrom, .ref a_owed, .ref a_said, .ref a_spared, .ref a_leaveGift, .ref a_leaveFrom, .ref a_leaveTo, .ref a_lateDay, .ref a_lateOffice, .ref a_lateBy, .ref a_guests, .ref a_who, .ref a_used, .ref a_lacks, .ref a_candles, .ref a_masses, .ref a_owing, .ref a_heldOn, .ref a_waits, .ref a_tape, .ref a_text, .int w1_4, .int 0, .int 0, .int (-1), .int 0, .ref a_statements, .ref a_taken, .ref a_sort, .ref a_first, .ref a_second, .int 0, .int 0])), (a_tape, .inl (cB, 600, .inl f1_4))] := hD
    refine lv_aload_n hx hb dX12_feed_25 rfl (lv_at hl 0 rfl) ?_
    refine lv_iload_n hx hb dX12_feed_26 rfl (lv_at hl 3 rfl) ?_
    have hPc := hP.sub (ws' := [(h, .inr (11, [.int 0, .int 0, .int 0, .int 0, .int 0, .int 0, .int 0, .int 0, .int 0, .ref a_isPriest, .ref a_bars, .ref a_joined, .ref a_turns, .ref a_awayMonk, .ref a_awayFrom, .ref a_awayTo, .ref a_feastDay, .ref a_rank, .ref a_isWeekly, .ref a_isDouble, .ref a_giftDay, .ref a_giftFrom, .ref a_owed, .ref a_said, .ref a_spared, .ref a_leaveGift, .ref a_leaveFrom, .ref a_leaveTo, .ref a_lateDay, .ref a_lateOffice, .ref a_lateBy, .ref a_guests, .ref a_who, .ref a_used, .ref a_lacks, .ref a_candles, .ref a_masses, .ref a_owing, .ref a_heldOn, .ref a_waits, .ref a_tape, .ref a_text, .int w1_4, .int 0, .int 0, .int (-1), .int 0, .ref a_statements, .ref a_taken, .ref a_sort, .ref a_first, .ref a_second, .int 0, .int 0])), (a_tape, .inl (cB, 600, .inl f1_4))]) [0, 1] rfl
    refine rwVv (As := [.int c]) (rest := []) (wc := [(h, .inr (11, [.int 0, .int 0, .int 0, .int 0, .int 0, .int 0, .int 0, .int 0, .int 0, .ref a_isPriest, .ref a_bars, .ref a_joined, .ref a_turns, .ref a_awayMonk, .ref a_awayFrom, .ref a_awayTo, .ref a_feastDay, .ref a_rank, .ref a_isWeekly, .ref a_isDouble, .ref a_giftDay, .ref a_giftFrom, .ref a_owed, .ref a_said, .ref a_spared, .ref a_leaveGift, .ref a_leaveFrom, .ref a_leaveTo, .ref a_lateDay, .ref a_lateOffice, .ref a_lateBy, .ref a_guests, .ref a_who, .ref a_used, .ref a_lacks, .ref a_candles, .ref a_masses, .ref a_owing, .ref a_heldOn, .ref a_waits, .ref a_tape, .ref a_text, .int w1_4, .int 0, .int 0, .int (-1), .int 0, .ref a_statements, .ref a_taken, .ref a_sort, .ref a_first, .ref a_second, .int 0, .int 0])), (a_tape, .inl (cB, 600, .inl f1_4))]) (wr := []) S (m_four  (by omega) (by omega)) (cwV 1 hts gX12_feed_X12_four rfl rfl rfl (by decide +kernel) ⟨Nat.le_of_ble_eq_true rfl, Nat.le_of_ble_eq_true rfl⟩) hK hP hD hS hA [0, 1] [] rfl rfl (by decide) (by decide) (by decide) (va_recv hK.1 hPc (ci := 11) (q0 := 0) rfl rfl) rfl hl.1 rfl (Nat.le_of_ble_eq_true rfl) dX12_feed_27 ⟨Nat.le_of_ble_eq_true rfl, Nat.le_of_ble_eq_true rfl⟩ (fun u_5 H locs hw_5 hP hD hS => ?_)
    obtain ⟨w1_5, f1_5⟩ := u_5
    have hw_5 : w1_5.toInt = w1_4.toInt + 4 := hw_5
    have hP : va_P D vwCl [(h, .inr (11, [.int 0, .int 0, .int 0, .int 0, .int 0, .int 0, .int 0, .int 0, .int 0, .ref a_isPriest, .ref a_bars, .ref a_joined, .ref a_turns, .ref a_awayMonk, .ref a_awayFrom, .ref a_awayTo, .ref a_feastDay, .ref a_rank, .ref a_isWeekly, .ref a_isDouble, .ref a_giftDay, .ref a_giftFrom, .ref a_owed, .ref a_said, .ref a_spared, .ref a_leaveGift, .ref a_leaveFrom, .ref a_leaveTo, .ref a_lateDay, .ref a_lateOffice, .ref a_lateBy, .ref a_guests, .ref a_who, .ref a_used, .ref a_lacks, .ref a_candles, .ref a_masses, .ref a_owing, .ref a_heldOn, .ref a_waits, .ref a_tape, .ref a_text, .int w1_5, .int 0, .int 0, .int (-1), .int 0, .ref a_statements, .ref a_taken, .ref a_sort, .ref a_first, .ref a_second, .int 0, .int 0])), (a_tape, .inl (cB, 600, .inl f1_5))] H := hP
    have hD : va_D A [(h, .inr (11, [.int 0, .int 0, .int 0, .int 0, .int 0, .int 0, .int 0, .int 0, .int 0, .ref a_isPriest, .ref a_bars, .ref a_joined, .ref a_turns, .ref a_awayMonk, .ref a_awayFrom, .ref a_awayTo, .ref a_feastDay, .ref a_rank, .ref a_isWeekly, .ref a_isDouble, .ref a_giftDay, .ref a_giftFrom, .ref a_owed, .ref a_said, .ref a_spared, .ref a_leaveGift, .ref a_leaveFrom, .ref a_leaveTo, .ref a_lateDay, .ref a_lateOffice, .ref a_lateBy, .ref a_guests, .ref a_who, .ref a_used, .ref a_lacks, .ref a_candles, .ref a_masses, .ref a_owing, .ref a_heldOn, .ref a_waits, .ref a_tape, .ref a_text, .int w1_5, .int 0, .int 0, .int (-1), .int 0, .ref a_statements, .ref a_taken, .ref a_sort, .ref a_first, .ref a_second, .int 0, .int 0])), (a_tape, .inl (cB, 600, .inl f1_5))] := hD
    refine lv_aload_n hx hb dX12_feed_30 rfl (lv_at hl 0 rfl) ?_
    refine lv_iload hx hb dX12_feed_31 (lv_at hl 4 rfl) ?_
    have hPc := hP.sub (ws' := [(h, .inr (11, [.int 0, .int 0, .int 0, .int 0, .int 0, .int 0, .int 0, .int 0, .int 0, .ref a_isPriest, .ref a_bars, .ref a_joined, .ref a_turns, .ref a_awayMonk, .ref a_awayFrom, .ref a_awayTo, .ref a_feastDay, .ref a_rank, .ref a_isWeekly, .ref a_isDouble, .ref a_giftDay, .ref a_giftFrom, .ref a_owed, .ref a_said, .ref a_spared, .ref a_leaveGift, .ref a_leaveFrom, .ref a_leaveTo, .ref a_lateDay, .ref a_lateOffice, .ref a_lateBy, .ref a_guests, .ref a_who, .ref a_used, .ref a_lacks, .ref a_candles, .ref a_masses, .ref a_owing, .ref a_heldOn, .ref a_waits, .ref a_tape, .ref a_text, .int w1_5, .int 0, .int 0, .int (-1), .int 0, .ref a_statements, .ref a_taken, .ref a_sort, .ref a_first, .ref a_second, .int 0, .int 0])), (a_tape, .inl (cB, 600, .inl f1_5))]) [0, 1] rfl
    refine rwVv (As := [.int d]) (rest := []) (wc := [(h, .inr (11, [.int 0, .int 0, .int 0, .int 0, .int 0, .int 0, .int 0, .int 0, .int 0, .ref a_isPriest, .ref a_bars, .ref a_joined, .ref a_turns, .ref a_awayMonk, .ref a_awayFrom, .ref a_awayTo, .ref a_feastDay, .ref a_rank, .ref a_isWeekly, .ref a_isDouble, .ref a_giftDay, .ref a_giftFrom, .ref a_owed, .ref a_said, .ref a_spared, .ref a_leaveGift, .ref a_leaveFrom, .ref a_leaveTo, .ref a_lateDay, .ref a_lateOffice, .ref a_lateBy, .ref a_guests, .ref a_who, .ref a_used, .ref a_lacks, .ref a_candles, .ref a_masses, .ref a_owing, .ref a_heldOn, .ref a_waits, .ref a_tape, .ref a_text, .int w1_5, .int 0, .int 0, .int (-1), .int 0, .ref a_statements, .ref a_taken, .ref a_sort, .ref a_first, .ref a_second, .int 0, .int 0])), (a_tape, .inl (cB, 600, .inl f1_5))]) (wr := []) S (m_four  (by omega) (by omega)) (cwV 1 hts gX12_feed_X12_four rfl rfl rfl (by decide +kernel) ⟨Nat.le_of_ble_eq_true rfl, Nat.le_of_ble_eq_true rfl⟩) hK hP hD hS hA [0, 1] [] rfl rfl (by decide) (by decide) (by decide) (va_recv hK.1 hPc (ci := 11) (q0 := 0) rfl rfl) rfl hl.1 rfl (Nat.le_of_ble_eq_true rfl) dX12_feed_33 ⟨Nat.le_of_ble_eq_true rfl, Nat.le_of_ble_eq_true rfl⟩ (fun u_6 H locs hw_6 hP hD hS => ?_)
    obtain ⟨w1_6, f1_6⟩ := u_6
    have hw_6 : w1_6.toInt = w1_5.toInt + 4 := hw_6
    have hP : va_P D vwCl [(h, .inr (11, [.int 0, .int 0, .int 0, .int 0, .int 0, .int 0, .int 0, .int 0, .int 0, .ref a_isPriest, .ref a_bars, .ref a_joined, .ref a_turns, .ref a_awayMonk, .ref a_awayFrom, .ref a_awayTo, .ref a_feastDay, .ref a_rank, .ref a_isWeekly, .ref a_isDouble, .ref a_giftDay, .ref a_giftFrom, .ref a_owed, .ref a_said, .ref a_spared, .ref a_leaveGift, .ref a_leaveFrom, .ref a_leaveTo, .ref a_lateDay, .ref a_lateOffice, .ref a_lateBy, .ref a_guests, .ref a_who, .ref a_used, .ref a_lacks, .ref a_candles, .ref a_masses, .ref a_owing, .ref a_heldOn, .ref a_waits, .ref a_tape, .ref a_text, .int w1_6, .int 0, .int 0, .int (-1), .int 0, .ref a_statements, .ref a_taken, .ref a_sort, .ref a_first, .ref a_second, .int 0, .int 0])), (a_tape, .inl (cB, 600, .inl f1_6))] H := hP
    have hD : va_D A [(h, .inr (11, [.int 0, .int 0, .int 0, .int 0, .int 0, .int 0, .int 0, .int 0, .int 0, .ref a_isPriest, .ref a_bars, .ref a_joined, .ref a_turns, .ref a_awayMonk, .ref a_awayFrom, .ref a_awayTo, .ref a_feastDay, .ref a_rank, .ref a_isWeekly, .ref a_isDouble, .ref a_giftDay, .ref a_giftFrom, .ref a_owed, .ref a_said, .ref a_spared, .ref a_leaveGift, .ref a_leaveFrom, .ref a_leaveTo, .ref a_lateDay, .ref a_lateOffice, .ref a_lateBy, .ref a_guests, .ref a_who, .ref a_used, .ref a_lacks, .ref a_candles, .ref a_masses, .ref a_owing, .ref a_heldOn, .ref a_waits, .ref a_tape, .ref a_text, .int w1_6, .int 0, .int 0, .int (-1), .int 0, .ref a_statements, .ref a_taken, .ref a_sort, .ref a_first, .ref a_second, .int 0, .int 0])), (a_tape, .inl (cB, 600, .inl f1_6))] := hD
    refine lv_aload_n hx hb dX12_feed_36 rfl (lv_at hl 0 rfl) ?_
    refine lv_iload hx hb dX12_feed_37 (lv_at hl 5 rfl) ?_
    have hPc := hP.sub (ws' := [(h, .inr (11, [.int 0, .int 0, .int 0, .int 0, .int 0, .int 0, .int 0, .int 0, .int 0, .ref a_isPriest, .ref a_bars, .ref a_joined, .ref a_turns, .ref a_awayMonk, .ref a_awayFrom, .ref a_awayTo, .ref a_feastDay, .ref a_rank, .ref a_isWeekly, .ref a_isDouble, .ref a_giftDay, .ref a_giftFrom, .ref a_owed, .ref a_said, .ref a_spared, .ref a_leaveGift, .ref a_leaveFrom, .ref a_leaveTo, .ref a_lateDay, .ref a_lateOffice, .ref a_lateBy, .ref a_guests, .ref a_who, .ref a_used, .ref a_lacks, .ref a_candles, .ref a_masses, .ref a_owing, .ref a_heldOn, .ref a_waits, .ref a_tape, .ref a_text, .int w1_6, .int 0, .int 0, .int (-1), .int 0, .ref a_statements, .ref a_taken, .ref a_sort, .ref a_first, .ref a_second, .int 0, .int 0])), (a_tape, .inl (cB, 600, .inl f1_6))]) [0, 1] rfl
    refine rwVv (As := [.int e]) (rest := []) (wc := [(h, .inr (11, [.int 0, .int 0, .int 0, .int 0, .int 0, .int 0, .int 0, .int 0, .int 0, .ref a_isPriest, .ref a_bars, .ref a_joined, .ref a_turns, .ref a_awayMonk, .ref a_awayFrom, .ref a_awayTo, .ref a_feastDay, .ref a_rank, .ref a_isWeekly, .ref a_isDouble, .ref a_giftDay, .ref a_giftFrom, .ref a_owed, .ref a_said, .ref a_spared, .ref a_leaveGift, .ref a_leaveFrom, .ref a_leaveTo, .ref a_lateDay, .ref a_lateOffice, .ref a_lateBy, .ref a_guests, .ref a_who, .ref a_used, .ref a_lacks, .ref a_candles, .ref a_masses, .ref a_owing, .ref a_heldOn, .ref a_waits, .ref a_tape, .ref a_text, .int w1_6, .int 0, .int 0, .int (-1), .int 0, .ref a_statements, .ref a_taken, .ref a_sort, .ref a_first, .ref a_second, .int 0, .int 0])), (a_tape, .inl (cB, 600, .inl f1_6))]) (wr := []) S (m_four  (by omega) (by omega)) (cwV 1 hts gX12_feed_X12_four rfl rfl rfl (by decide +kernel) ⟨Nat.le_of_ble_eq_true rfl, Nat.le_of_ble_eq_true rfl⟩) hK hP hD hS hA [0, 1] [] rfl rfl (by decide) (by decide) (by decide) (va_recv hK.1 hPc (ci := 11) (q0 := 0) rfl rfl) rfl hl.1 rfl (Nat.le_of_ble_eq_true rfl) dX12_feed_39 ⟨Nat.le_of_ble_eq_true rfl, Nat.le_of_ble_eq_true rfl⟩ (fun u_7 H locs hw_7 hP hD hS => ?_)
    obtain ⟨w1_7, f1_7⟩ := u_7
    have hw_7 : w1_7.toInt = w1_6.toInt + 4 := hw_7
    have hP : va_P D vwCl [(h, .inr (11, [.int 0, .int 0, .int 0, .int 0, .int 0, .int 0, .int 0, .int 0, .int 0, .ref a_isPriest, .ref a_bars, .ref a_joined, .ref a_turns, .ref a_awayMonk, .ref a_awayFrom, .ref a_awayTo, .ref a_feastDay, .ref a_rank, .ref a_isWeekly, .ref a_isDouble, .ref a_giftDay, .ref a_giftFrom, .ref a_owed, .ref a_said, .ref a_spared, .ref a_leaveGift, .ref a_leaveFrom, .ref a_leaveTo, .ref a_lateDay, .ref a_lateOffice, .ref a_lateBy, .ref a_guests, .ref a_who, .ref a_used, .ref a_lacks, .ref a_candles, .ref a_masses, .ref a_owing, .ref a_heldOn, .ref a_waits, .ref a_tape, .ref a_text, .int w1_7, .int 0, .int 0, .int (-1), .int 0, .ref a_statements, .ref a_taken, .ref a_sort, .ref a_first, .ref a_second, .int 0, .int 0])), (a_tape, .inl (cB, 600, .inl f1_7))] H := hP
    have hD : va_D A [(h, .inr (11, [.int 0, .int 0, .int 0, .int 0, .int 0, .int 0, .int 0, .int 0, .int 0, .ref a_isPriest, .ref a_bars, .ref a_joined, .ref a_turns, .ref a_awayMonk, .ref a_awayFrom, .ref a_awayTo, .ref a_feastDay, .ref a_rank, .ref a_isWeekly, .ref a_isDouble, .ref a_giftDay, .ref a_giftFrom, .ref a_owed, .ref a_said, .ref a_spared, .ref a_leaveGift, .ref a_leaveFrom, .ref a_leaveTo, .ref a_lateDay, .ref a_lateOffice, .ref a_lateBy, .ref a_guests, .ref a_who, .ref a_used, .ref a_lacks, .ref a_candles, .ref a_masses, .ref a_owing, .ref a_heldOn, .ref a_waits, .ref a_tape, .ref a_text, .int w1_7, .int 0, .int 0, .int (-1), .int 0, .ref a_statements, .ref a_taken, .ref a_sort, .ref a_first, .ref a_second, .int 0, .int 0])), (a_tape, .inl (cB, 600, .inl f1_7))] := hD
    refine lv_aload_n hx hb dX12_feed_42 rfl (lv_at hl 0 rfl) ?_
    refine va_get (D := D) (ci := 11) (v := .int w1_7) (C := RX12) (T := TX12) (N := 54) hx hb hts in_q_feed_X12 hown hK.1 hP 0 rfl rfl 42 (by decide) lk0 (fun _ h9 => h9) rfl dX12_feed_43 ?_
    exact hret w1_7 (w1_7, f1_7) _ _ _ _ (by omega) rfl (hP.sub [0, 1] rfl) (hD.sub [0, 1] (by decide) rfl) hS dX12_feed_46
  · have tc_2 := t_nle c_2
    refine lv_iconst (v := (-1)) hx hb dX12_feed_13 (by decide) ?_
    exact hret (-1) (0, f_tape) _ _ _ _ (by omega) rfl (hP.sub [0, 1] rfl) (hD.sub [0, 1] (by decide) rfl) hS dX12_feed_14

theorem in_q_rule_X12 : ∀ w ∈ wsX120, w ∈ wsX12_rule := by decide +kernel
set_option maxHeartbeats 8000000 in
set_option maxRecDepth 100000 in
theorem q_rule {l : Launch} {D : va_G} {cI cZ cB : ClassId} {sz : Nat} {h a_isPriest a_bars a_joined a_turns a_awayMonk a_awayFrom a_awayTo a_feastDay a_rank a_isWeekly a_isDouble a_giftDay a_giftFrom a_owed a_said a_spared a_leaveGift a_leaveFrom a_leaveTo a_lateDay a_lateOffice a_lateBy a_guests a_who a_used a_lacks a_candles a_masses a_owing a_heldOn a_waits a_tape a_text a_statements a_taken a_sort a_first a_second : Nat} {f_statements f_taken : Nat → Int32} {n : Int32}  : Met l yX12_rule wsX12_rule ({ frames := 1, cells := 0, slots := 0, locals := 22 }) (RW D cI cZ cB [.ref h, .int n] sz [(h, .inr (11, [.int 0, .int 0, .int 0, .int 0, .int 0, .int 0, .int 0, .int 0, .int 0, .ref a_isPriest, .ref a_bars, .ref a_joined, .ref a_turns, .ref a_awayMonk, .ref a_awayFrom, .ref a_awayTo, .ref a_feastDay, .ref a_rank, .ref a_isWeekly, .ref a_isDouble, .ref a_giftDay, .ref a_giftFrom, .ref a_owed, .ref a_said, .ref a_spared, .ref a_leaveGift, .ref a_leaveFrom, .ref a_leaveTo, .ref a_lateDay, .ref a_lateOffice, .ref a_lateBy, .ref a_guests, .ref a_who, .ref a_used, .ref a_lacks, .ref a_candles, .ref a_masses, .ref a_owing, .ref a_heldOn, .ref a_waits, .ref a_tape, .ref a_text, .int 0, .int 0, .int 0, .int (-1), .int 0, .ref a_statements, .ref a_taken, .ref a_sort, .ref a_first, .ref a_second, .int 0, .int 0])), (a_statements, .inl (cI, 11, .inl f_statements)), (a_taken, .inl (cI, 11, .inl f_taken))]) (va_Qi (fun (r : Int32) (u : Int32 × Int32 × Nat → Int32 × Nat → Int32) => ((n.toInt = 0) → r.toInt = 0) ∧ (¬ (n.toInt = 0) → r.toInt = -2)) (BW D [(h, .inr (11, [.int 0, .int 0, .int 0, .int 0, .int 0, .int 0, .int 0, .int 0, .int 0, .ref a_isPriest, .ref a_bars, .ref a_joined, .ref a_turns, .ref a_awayMonk, .ref a_awayFrom, .ref a_awayTo, .ref a_feastDay, .ref a_rank, .ref a_isWeekly, .ref a_isDouble, .ref a_giftDay, .ref a_giftFrom, .ref a_owed, .ref a_said, .ref a_spared, .ref a_leaveGift, .ref a_leaveFrom, .ref a_leaveTo, .ref a_lateDay, .ref a_lateOffice, .ref a_lateBy, .ref a_guests, .ref a_who, .ref a_used, .ref a_lacks, .ref a_candles, .ref a_masses, .ref a_owing, .ref a_heldOn, .ref a_waits, .ref a_tape, .ref a_text, .int 0, .int 0, .int 0, .int (-1), .int 0, .ref a_statements, .ref a_taken, .ref a_sort, .ref a_first, .ref a_second, .int 0, .int 0])), (a_statements, .inl (cI, 11, .inl f_statements)), (a_taken, .inl (cI, 11, .inl f_taken))] sz (fun u : Int32 × Int32 × Nat → Int32 × Nat → Int32 => [(h, .inr (11, [.int 0, .int 0, .int 0, .int 0, .int 0, .int 0, .int 0, .int 0, .int 0, .ref a_isPriest, .ref a_bars, .ref a_joined, .ref a_turns, .ref a_awayMonk, .ref a_awayFrom, .ref a_awayTo, .ref a_feastDay, .ref a_rank, .ref a_isWeekly, .ref a_isDouble, .ref a_giftDay, .ref a_giftFrom, .ref a_owed, .ref a_said, .ref a_spared, .ref a_leaveGift, .ref a_leaveFrom, .ref a_leaveTo, .ref a_lateDay, .ref a_lateOffice, .ref a_lateBy, .ref a_guests, .ref a_who, .ref a_used, .ref a_lacks, .ref a_candles, .ref a_masses, .ref a_owing, .ref a_heldOn, .ref a_waits, .ref a_tape, .ref a_text, .int 0, .int u.1, .int 0, .int (-1), .int u.2.1, .ref a_statements, .ref a_taken, .ref a_sort, .ref a_first, .ref a_second, .int 0, .int 0])), (a_statements, .inl (cI, 11, .inl u.2.2.1)), (a_taken, .inl (cI, 11, .inl u.2.2.2))])) (va_A [(h, .inr (11, [.int 0, .int 0, .int 0, .int 0, .int 0, .int 0, .int 0, .int 0, .int 0, .ref a_isPriest, .ref a_bars, .ref a_joined, .ref a_turns, .ref a_awayMonk, .ref a_awayFrom, .ref a_awayTo, .ref a_feastDay, .ref a_rank, .ref a_isWeekly, .ref a_isDouble, .ref a_giftDay, .ref a_giftFrom, .ref a_owed, .ref a_said, .ref a_spared, .ref a_leaveGift, .ref a_leaveFrom, .ref a_leaveTo, .ref a_lateDay, .ref a_lateOffice, .ref a_lateBy, .ref a_guests, .ref a_who, .ref a_used, .ref a_lacks, .ref a_candles, .ref a_masses, .ref a_owing, .ref a_heldOn, .ref a_waits, .ref a_tape, .ref a_text, .int 0, .int 0, .int 0, .int (-1), .int 0, .ref a_statements, .ref a_taken, .ref a_sort, .ref a_first, .ref a_second, .int 0, .int 0])), (a_statements, .inl (cI, 11, .inl f_statements)), (a_taken, .inl (cI, 11, .inl f_taken))] sz)) 0 0 (va_A [(h, .inr (11, [.int 0, .int 0, .int 0, .int 0, .int 0, .int 0, .int 0, .int 0, .int 0, .ref a_isPriest, .ref a_bars, .ref a_joined, .ref a_turns, .ref a_awayMonk, .ref a_awayFrom, .ref a_awayTo, .ref a_feastDay, .ref a_rank, .ref a_isWeekly, .ref a_isDouble, .ref a_giftDay, .ref a_giftFrom, .ref a_owed, .ref a_said, .ref a_spared, .ref a_leaveGift, .ref a_leaveFrom, .ref a_leaveTo, .ref a_lateDay, .ref a_lateOffice, .ref a_lateBy, .ref a_guests, .ref a_who, .ref a_used, .ref a_lacks, .ref a_candles, .ref a_masses, .ref a_owing, .ref a_heldOn, .ref a_waits, .ref a_tape, .ref a_text, .int 0, .int 0, .int 0, .int (-1), .int 0, .ref a_statements, .ref a_taken, .ref a_sort, .ref a_first, .ref a_second, .int 0, .int 0])), (a_statements, .inl (cI, 11, .inl f_statements)), (a_taken, .inl (cI, 11, .inl f_taken))] sz) := by
  refine rw_ret (cc := cX12_rule) (maxL := 3) (ty := .int) (own := RX12) (by decide) rfl rfl (Nat.le_of_ble_eq_true rfl) ?_
  intro p e s m args below meth c Q A S hin hret hP hK hD hA hS ls hl
  obtain ⟨hx, hb, hml, hown, hts⟩ := id S
  have hl : lv_has ls 3 [(0, .ref h), (1, .int n)] := hl
  have kkm3 : (-3 : Int32).toInt = -3 := by decide
  have kkm2 : (-2 : Int32).toInt = -2 := by decide
  have kkm1 : (-1 : Int32).toInt = -1 := by decide
  have kk0 : (0 : Int32).toInt = 0 := by decide
  have kk1 : (1 : Int32).toInt = 1 := by decide
  have kk10 : (10 : Int32).toInt = 10 := by decide
  have kk16 : (16 : Int32).toInt = 16 := by decide
  have lk0 := hts (.fieldLink RX12 185 "AbbeyHoursModel" "taped" "I") (by decide +kernel)
  have lk1 := hts (.fieldLink RX12 233 "AbbeyHoursModel" "rules" "I") (by decide +kernel)
  have lk2 := hts (.fieldLink RX12 195 "AbbeyHoursModel" "size" "I") (by decide +kernel)
  have lk3 := hts (.fieldLink RX12 192 "AbbeyHoursModel" "at" "I") (by decide +kernel)
  have lk4 := hts (.fieldLink RX12 115 "AbbeyHoursModel" "statements" "[I") (by decide +kernel)
  have lk5 := hts (.fieldLink RX12 111 "AbbeyHoursModel" "fault" "I") (by decide +kernel)
  have lk6 := hts (.fieldLink RX12 118 "AbbeyHoursModel" "taken" "[I") (by decide +kernel)
  have lk7 := hts (.fieldLink RX12 140 "AbbeyHoursModel" "today" "I") (by decide +kernel)
  refine lv_iload_n hx hb dX12_rule_0 rfl (lv_at hl 1 rfl) ?_
  refine lv_iconst (v := 0) hx hb dX12_rule_1 (by decide) ?_
  refine lv_aload_n hx hb dX12_rule_2 rfl (lv_at hl 0 rfl) ?_
  refine va_get (D := D) (ci := 11) (v := .int 0) (C := RX12) (T := TX12) (N := 54) hx hb hts in_q_rule_X12 hown hK.1 hP 0 rfl rfl 42 (by decide) lk0 (fun _ h9 => h9) rfl dX12_rule_3 ?_
  have hPc := hP.sub (ws' := []) [] rfl
  refine roS (As := [.int n, .int 0, .int 0]) (rest := []) S (m_isIn  ) (va_cwS 3 hts gX12_rule_X12_isIn rfl rfl rfl (by decide +kernel) ⟨Nat.le_of_ble_eq_true rfl, Nat.le_of_ble_eq_true rfl⟩) hK hPc rfl hl.1 rfl (Nat.le_of_ble_eq_true rfl) dX12_rule_6 ⟨Nat.le_of_ble_eq_true rfl, Nat.le_of_ble_eq_true rfl⟩ (fun r_1 hw_1 => ?_)
  have hw_1 : (r_1.toInt = 1 ∧ (0 : Int32).toInt ≤ n.toInt ∧ n.toInt ≤ (0 : Int32).toInt) ∨ (r_1.toInt = 0 ∧ (n.toInt < (0 : Int32).toInt ∨ (0 : Int32).toInt < n.toInt)) := hw_1
  refine lv_if_ne (tgt := 15) hx hb dX12_rule_9 (by decide) (fun c_2 => ?_) (fun c_2 => ?_)
  · have tc_2 := t_ne c_2
    refine lv_aload_n hx hb dX12_rule_15 rfl (lv_at hl 0 rfl) ?_
    refine va_get (D := D) (ci := 11) (v := .int 0) (C := RX12) (T := TX12) (N := 54) hx hb hts in_q_rule_X12 hown hK.1 hP 0 rfl rfl 46 (by decide) lk1 (fun _ h9 => h9) rfl dX12_rule_16 ?_
    refine lv_bipush (v := 10) hx hb dX12_rule_19 (by decide) ?_
    refine lv_icmp_ne (tgt := 27) hx hb dX12_rule_21 (by decide) (fun c_3 => ?_) (fun c_3 => ?_)
    · have tc_3 := t_ne c_3
      refine lv_iconst (v := 0) hx hb dX12_rule_27 (by decide) ?_
      refine lv_istore_n (lv' := [(2, .int 0), (0, .ref h), (1, .int n)]) hx hb dX12_rule_28 rfl hl (by decide) rfl (fun ls hl => ?_)
      refine lv_iload_n hx hb dX12_rule_29 rfl (lv_at hl 0 rfl) ?_
      refine lv_iload_n hx hb dX12_rule_30 rfl (lv_at hl 2 rfl) ?_
      refine lv_icmp_ge (tgt := 52) hx hb dX12_rule_31 (by decide) (fun c_4 => ?_) (fun c_4 => ?_)
      · have tc_4 := t_le c_4
        refine lv_aload_n hx hb dX12_rule_52 rfl (lv_at hl 1 rfl) ?_
        refine lv_iload_n hx hb dX12_rule_53 rfl (lv_at hl 2 rfl) ?_
        refine va_put (D := D) (ci := 11) (v := .int n) (ty := .int) (C := RX12) (T := TX12) (N := 54) hx hb hts in_q_rule_X12 tyX12 tyX12_ok nmX12 hown hK.1 hP hD hS 0 rfl rfl 43 (by decide) lk2 (fun _ h9 => h9) rfl (by decide +kernel) rfl rfl (Nat.le_of_ble_eq_true rfl) dX12_rule_54 (fun H locs hP hD hS => ?_)
        have hP : va_P D vwCl [(h, .inr (11, [.int 0, .int 0, .int 0, .int 0, .int 0, .int 0, .int 0, .int 0, .int 0, .ref a_isPriest, .ref a_bars, .ref a_joined, .ref a_turns, .ref a_awayMonk, .ref a_awayFrom, .ref a_awayTo, .ref a_feastDay, .ref a_rank, .ref a_isWeekly, .ref a_isDouble, .ref a_giftDay, .ref a_giftFrom, .ref a_owed, .ref a_said, .ref a_spared, .ref a_leaveGift, .ref a_leaveFrom, .ref a_leaveTo, .ref a_lateDay, .ref a_lateOffice, .ref a_lateBy, .ref a_guests, .ref a_who, .ref a_used, .ref a_lacks, .ref a_candles, .ref a_masses, .ref a_owing, .ref a_heldOn, .ref a_waits, .ref a_tape, .ref a_text, .int 0, .int n, .int 0, .int (-1), .int 0, .ref a_statements, .ref a_taken, .ref a_sort, .ref a_first, .ref a_second, .int 0, .int 0])), (a_statements, .inl (cI, 11, .inl f_statements)), (a_taken, .inl (cI, 11, .inl f_taken))] H := hP
        have hD : va_D A [(h, .inr (11, [.int 0, .int 0, .int 0, .int 0, .int 0, .int 0, .int 0, .int 0, .int 0, .ref a_isPriest, .ref a_bars, .ref a_joined, .ref a_turns, .ref a_awayMonk, .ref a_awayFrom, .ref a_awayTo, .ref a_feastDay, .ref a_rank, .ref a_isWeekly, .ref a_isDouble, .ref a_giftDay, .ref a_giftFrom, .ref a_owed, .ref a_said, .ref a_spared, .ref a_leaveGift, .ref a_leaveFrom, .ref a_leaveTo, .ref a_lateDay, .ref a_lateOffice, .ref a_lateBy, .ref a_guests, .ref a_who, .ref a_used, .ref a_lacks, .ref a_candles, .ref a_masses, .ref a_owing, .ref a_heldOn, .ref a_waits, .ref a_tape, .ref a_text, .int 0, .int n, .int 0, .int (-1), .int 0, .ref a_statements, .ref a_taken, .ref a_sort, .ref a_first, .ref a_second, .int 0, .int 0])), (a_statements, .inl (cI, 11, .inl f_statements)), (a_taken, .inl (cI, 11, .inl f_taken))] := hD
        refine lv_aload_n hx hb dX12_rule_57 rfl (lv_at hl 1 rfl) ?_
        refine lv_iconst (v := 0) hx hb dX12_rule_58 (by decide) ?_
        refine va_put (D := D) (ci := 11) (v := .int 0) (ty := .int) (C := RX12) (T := TX12) (N := 54) hx hb hts in_q_rule_X12 tyX12 tyX12_ok nmX12 hown hK.1 hP hD hS 0 rfl rfl 42 (by decide) lk0 (fun _ h9 => h9) rfl (by decide +kernel) rfl rfl (Nat.le_of_ble_eq_true rfl) dX12_rule_59 (fun H locs hP hD hS => ?_)
        have hP : va_P D vwCl [(h, .inr (11, [.int 0, .int 0, .int 0, .int 0, .int 0, .int 0, .int 0, .int 0, .int 0, .ref a_isPriest, .ref a_bars, .ref a_joined, .ref a_turns, .ref a_awayMonk, .ref a_awayFrom, .ref a_awayTo, .ref a_feastDay, .ref a_rank, .ref a_isWeekly, .ref a_isDouble, .ref a_giftDay, .ref a_giftFrom, .ref a_owed, .ref a_said, .ref a_spared, .ref a_leaveGift, .ref a_leaveFrom, .ref a_leaveTo, .ref a_lateDay, .ref a_lateOffice, .ref a_lateBy, .ref a_guests, .ref a_who, .ref a_used, .ref a_lacks, .ref a_candles, .ref a_masses, .ref a_owing, .ref a_heldOn, .ref a_waits, .ref a_tape, .ref a_text, .int 0, .int n, .int 0, .int (-1), .int 0, .ref a_statements, .ref a_taken, .ref a_sort, .ref a_first, .ref a_second, .int 0, .int 0])), (a_statements, .inl (cI, 11, .inl f_statements)), (a_taken, .inl (cI, 11, .inl f_taken))] H := hP
        have hD : va_D A [(h, .inr (11, [.int 0, .int 0, .int 0, .int 0, .int 0, .int 0, .int 0, .int 0, .int 0, .ref a_isPriest, .ref a_bars, .ref a_joined, .ref a_turns, .ref a_awayMonk, .ref a_awayFrom, .ref a_awayTo, .ref a_feastDay, .ref a_rank, .ref a_isWeekly, .ref a_isDouble, .ref a_giftDay, .ref a_giftFrom, .ref a_owed, .ref a_said, .ref a_spared, .ref a_leaveGift, .ref a_leaveFrom, .ref a_leaveTo, .ref a_lateDay, .ref a_lateOffice, .ref a_lateBy, .ref a_guests, .ref a_who, .ref a_used, .ref a_lacks, .ref a_candles, .ref a_masses, .ref a_owing, .ref a_heldOn, .ref a_waits, .ref a_tape, .ref a_text, .int 0, .int n, .int 0, .int (-1), .int 0, .ref a_statements, .ref a_taken, .ref a_sort, .ref a_first, .ref a_second, .int 0, .int 0])), (a_statements, .inl (cI, 11, .inl f_statements)), (a_taken, .inl (cI, 11, .inl f_taken))] := hD
        refine lv_aload_n hx hb dX12_rule_62 rfl (lv_at hl 1 rfl) ?_
        refine lv_iconst (v := 0) hx hb dX12_rule_63 (by decide) ?_
        refine va_put (D := D) (ci := 11) (v := .int 0) (ty := .int) (C := RX12) (T := TX12) (N := 54) hx hb hts in_q_rule_X12 tyX12 tyX12_ok nmX12 hown hK.1 hP hD hS 0 rfl rfl 44 (by decide) lk3 (fun _ h9 => h9) rfl (by decide +kernel) rfl rfl (Nat.le_of_ble_eq_true rfl) dX12_rule_64 (fun H locs hP hD hS => ?_)
        have hP : va_P D vwCl [(h, .inr (11, [.int 0, .int 0, .int 0, .int 0, .int 0, .int 0, .int 0, .int 0, .int 0, .ref a_isPriest, .ref a_bars, .ref a_joined, .ref a_turns, .ref a_awayMonk, .ref a_awayFrom, .ref a_awayTo, .ref a_feastDay, .ref a_rank, .ref a_isWeekly, .ref a_isDouble, .ref a_giftDay, .ref a_giftFrom, .ref a_owed, .ref a_said, .ref a_spared, .ref a_leaveGift, .ref a_leaveFrom, .ref a_leaveTo, .ref a_lateDay, .ref a_lateOffice, .ref a_lateBy, .ref a_guests, .ref a_who, .ref a_used, .ref a_lacks, .ref a_candles, .ref a_masses, .ref a_owing, .ref a_heldOn, .ref a_waits, .ref a_tape, .ref a_text, .int 0, .int n, .int 0, .int (-1), .int 0, .ref a_statements, .ref a_taken, .ref a_sort, .ref a_first, .ref a_second, .int 0, .int 0])), (a_statements, .inl (cI, 11, .inl f_statements)), (a_taken, .inl (cI, 11, .inl f_taken))] H := hP
        have hD : va_D A [(h, .inr (11, [.int 0, .int 0, .int 0, .int 0, .int 0, .int 0, .int 0, .int 0, .int 0, .ref a_isPriest, .ref a_bars, .ref a_joined, .ref a_turns, .ref a_awayMonk, .ref a_awayFrom, .ref a_awayTo, .ref a_feastDay, .ref a_rank, .ref a_isWeekly, .ref a_isDouble, .ref a_giftDay, .ref a_giftFrom, .ref a_owed, .ref a_said, .ref a_spared, .ref a_leaveGift, .ref a_leaveFrom, .ref a_leaveTo, .ref a_lateDay, .ref a_lateOffice, .ref a_lateBy, .ref a_guests, .ref a_who, .ref a_used, .ref a_lacks, .ref a_candles, .ref a_masses, .ref a_owing, .ref a_heldOn, .ref a_waits, .ref a_tape, .ref a_text, .int 0, .int n, .int 0, .int (-1), .int 0, .ref a_statements, .ref a_taken, .ref a_sort, .ref a_first, .ref a_second, .int 0, .int 0])), (a_statements, .inl (cI, 11, .inl f_statements)), (a_taken, .inl (cI, 11, .inl f_taken))] := hD
        refine lv_aload_n hx hb dX12_rule_67 rfl (lv_at hl 1 rfl) ?_
        refine va_get (D := D) (ci := 11) (v := .ref a_statements) (C := RX12) (T := TX12) (N := 54) hx hb hts in_q_rule_X12 hown hK.1 hP 0 rfl rfl 47 (by decide) lk4 (fun _ h9 => h9) rfl dX12_rule_68 ?_
        refine lv_aload_n hx hb dX12_rule_71 rfl (lv_at hl 1 rfl) ?_
        refine va_get (D := D) (ci := 11) (v := .int 0) (C := RX12) (T := TX12) (N := 54) hx hb hts in_q_rule_X12 hown hK.1 hP 0 rfl rfl 46 (by decide) lk1 (fun _ h9 => h9) rfl dX12_rule_72 ?_
        refine lv_iconst (v := 0) hx hb dX12_rule_75 (by decide) ?_
        refine va_iast hx hb hK.1 hP hD hS 1 0 rfl rfl (t_in (by omega) (by omega)) dX12_rule_76 (fun H locs hP hD hS => ?_)
        obtain ⟨g_5, eg_5⟩ : ∃ z : Nat → Int32, z = upd f_statements ((0 : Int32).toNatClampNeg) 0 := ⟨_, rfl⟩
        rw [← eg_5] at hP hD
        have hP : va_P D vwCl [(h, .inr (11, [.int 0, .int 0, .int 0, .int 0, .int 0, .int 0, .int 0, .int 0, .int 0, .ref a_isPriest, .ref a_bars, .ref a_joined, .ref a_turns, .ref a_awayMonk, .ref a_awayFrom, .ref a_awayTo, .ref a_feastDay, .ref a_rank, .ref a_isWeekly, .ref a_isDouble, .ref a_giftDay, .ref a_giftFrom, .ref a_owed, .ref a_said, .ref a_spared, .ref a_leaveGift, .ref a_leaveFrom, .ref a_leaveTo, .ref a_lateDay, .ref a_lateOffice, .ref a_lateBy, .ref a_guests, .ref a_who, .ref a_used, .ref a_lacks, .ref a_candles, .ref a_masses, .ref a_owing, .ref a_heldOn, .ref a_waits, .ref a_tape, .ref a_text, .int 0, .int n, .int 0, .int (-1), .int 0, .ref a_statements, .ref a_taken, .ref a_sort, .ref a_first, .ref a_second, .int 0, .int 0])), (a_statements, .inl (cI, 11, .inl g_5)), (a_taken, .inl (cI, 11, .inl f_taken))] H := hP
        have hD : va_D A [(h, .inr (11, [.int 0, .int 0, .int 0, .int 0, .int 0, .int 0, .int 0, .int 0, .int 0, .ref a_isPriest, .ref a_bars, .ref a_joined, .ref a_turns, .ref a_awayMonk, .ref a_awayFrom, .ref a_awayTo, .ref a_feastDay, .ref a_rank, .ref a_isWeekly, .ref a_isDouble, .ref a_giftDay, .ref a_giftFrom, .ref a_owed, .ref a_said, .ref a_spared, .ref a_leaveGift, .ref a_leaveFrom, .ref a_leaveTo, .ref a_lateDay, .ref a_lateOffice, .ref a_lateBy, .ref a_guests, .ref a_who, .ref a_used, .ref a_lacks, .ref a_candles, .ref a_masses, .ref a_owing, .ref a_heldOn, .ref a_waits, .ref a_tape, .ref a_text, .int 0, .int n, .int 0, .int (-1), .int 0, .ref a_statements, .ref a_taken, .ref a_sort, .ref a_first, .ref a_second, .int 0, .int 0])), (a_statements, .inl (cI, 11, .inl g_5)), (a_taken, .inl (cI, 11, .inl f_taken))] := hD
        refine lv_iconst (v := 1) hx hb dX12_rule_77 (by decide) ?_
        refine lv_istore_n (lv' := [(2, .int 1), (0, .ref h), (1, .int n)]) hx hb dX12_rule_78 rfl hl (by decide) rfl (fun ls hl => ?_)
        refine lv_aload_n hx hb dX12_rule_79 rfl (lv_at hl 1 rfl) ?_
        have hPc := hP.sub (ws' := [(h, .inr (11, [.int 0, .int 0, .int 0, .int 0, .int 0, .int 0, .int 0, .int 0, .int 0, .ref a_isPriest, .ref a_bars, .ref a_joined, .ref a_turns, .ref a_awayMonk, .ref a_awayFrom, .ref a_awayTo, .ref a_feastDay, .ref a_rank, .ref a_isWeekly, .ref a_isDouble, .ref a_giftDay, .ref a_giftFrom, .ref a_owed, .ref a_said, .ref a_spared, .ref a_leaveGift, .ref a_leaveFrom, .ref a_leaveTo, .ref a_lateDay, .ref a_lateOffice, .ref a_lateBy, .ref a_guests, .ref a_who, .ref a_used, .ref a_lacks, .ref a_candles, .ref a_masses, .ref a_owing, .ref a_heldOn, .ref a_waits, .ref a_tape, .ref a_text, .int 0, .int n, .int 0, .int (-1), .int 0, .ref a_statements, .ref a_taken, .ref a_sort, .ref a_first, .ref a_second, .int 0, .int 0]))]) [0] rfl
        refine rwVv (As := []) (rest := []) (wc := [(h, .inr (11, [.int 0, .int 0, .int 0, .int 0, .int 0, .int 0, .int 0, .int 0, .int 0, .ref a_isPriest, .ref a_bars, .ref a_joined, .ref a_turns, .ref a_awayMonk, .ref a_awayFrom, .ref a_awayTo, .ref a_feastDay, .ref a_rank, .ref a_isWeekly, .ref a_isDouble, .ref a_giftDay, .ref a_giftFrom, .ref a_owed, .ref a_said, .ref a_spared, .ref a_leaveGift, .ref a_leaveFrom, .ref a_leaveTo, .ref a_lateDay, .ref a_lateOffice, .ref a_lateBy, .ref a_guests, .ref a_who, .ref a_used, .ref a_lacks, .ref a_candles, .ref a_masses, .ref a_owing, .ref a_heldOn, .ref a_waits, .ref a_tape, .ref a_text, .int 0, .int n, .int 0, .int (-1), .int 0, .ref a_statements, .ref a_taken, .ref a_sort, .ref a_first, .ref a_second, .int 0, .int 0]))]) (wr := [(a_statements, .inl (cI, 11, .inl g_5)), (a_taken, .inl (cI, 11, .inl f_taken))]) S (m_blanks0  (by omega)) (cwV 0 hts gX12_rule_X12_blanks rfl rfl rfl (by decide +kernel) ⟨Nat.le_of_ble_eq_true rfl, Nat.le_of_ble_eq_true rfl⟩) hK hP hD hS hA [0] [1, 2] rfl rfl (by decide) (by decide) (by decide) (va_recv hK.1 hPc (ci := 11) (q0 := 0) rfl rfl) rfl hl.1 rfl (Nat.le_of_ble_eq_true rfl) dX12_rule_80 ⟨Nat.le_of_ble_eq_true rfl, Nat.le_of_ble_eq_true rfl⟩ (fun u_bl H locs hw_bl hP hD hS => ?_)
        obtain ⟨z_bl, rfl⟩ : ∃ z, z = u_bl := ⟨_, rfl⟩
        have hw_bl : z_bl = n := hw_bl
        have hP : va_P D vwCl [(a_statements, .inl (cI, 11, .inl g_5)), (a_taken, .inl (cI, 11, .inl f_taken)), (h, .inr (11, [.int 0, .int 0, .int 0, .int 0, .int 0, .int 0, .int 0, .int 0, .int 0, .ref a_isPriest, .ref a_bars, .ref a_joined, .ref a_turns, .ref a_awayMonk, .ref a_awayFrom, .ref a_awayTo, .ref a_feastDay, .ref a_rank, .ref a_isWeekly, .ref a_isDouble, .ref a_giftDay, .ref a_giftFrom, .ref a_owed, .ref a_said, .ref a_spared, .ref a_leaveGift, .ref a_leaveFrom, .ref a_leaveTo, .ref a_lateDay, .ref a_lateOffice, .ref a_lateBy, .ref a_guests, .ref a_who, .ref a_used, .ref a_lacks, .ref a_candles, .ref a_masses, .ref a_owing, .ref a_heldOn, .ref a_waits, .ref a_tape, .ref a_text, .int 0, .int z_bl, .int 0, .int (-1), .int 0, .ref a_statements, .ref a_taken, .ref a_sort, .ref a_first, .ref a_second, .int 0, .int 0]))] H := hP
        have hD : va_D A [(a_statements, .inl (cI, 11, .inl g_5)), (a_taken, .inl (cI, 11, .inl f_taken)), (h, .inr (11, [.int 0, .int 0, .int 0, .int 0, .int 0, .int 0, .int 0, .int 0, .int 0, .ref a_isPriest, .ref a_bars, .ref a_joined, .ref a_turns, .ref a_awayMonk, .ref a_awayFrom, .ref a_awayTo, .ref a_feastDay, .ref a_rank, .ref a_isWeekly, .ref a_isDouble, .ref a_giftDay, .ref a_giftFrom, .ref a_owed, .ref a_said, .ref a_spared, .ref a_leaveGift, .ref a_leaveFrom, .ref a_leaveTo, .ref a_lateDay, .ref a_lateOffice, .ref a_lateBy, .ref a_guests, .ref a_who, .ref a_used, .ref a_lacks, .ref a_candles, .ref a_masses, .ref a_owing, .ref a_heldOn, .ref a_waits, .ref a_tape, .ref a_text, .int 0, .int z_bl, .int 0, .int (-1), .int 0, .ref a_statements, .ref a_taken, .ref a_sort, .ref a_first, .ref a_second, .int 0, .int 0]))] := hD
        have hw_bl := t_eq hw_bl
        refine lv_iload_n hx hb dX12_rule_83 rfl (lv_at hl 0 rfl) ?_
        refine lv_if_eq (tgt := 169) hx hb dX12_rule_84 (by decide) (fun c_6 => ?_) (fun c_6 => ?_)
        · exact absurd c_6 (by decide)
        · have tc_6 := t_ne c_6
          refine lv_aload_n hx hb dX12_rule_87 rfl (lv_at hl 1 rfl) ?_
          refine va_get (D := D) (ci := 11) (v := .int 0) (C := RX12) (T := TX12) (N := 54) hx hb hts in_q_rule_X12 hown hK.1 hP 2 rfl rfl 44 (by decide) lk3 (fun _ h9 => h9) rfl dX12_rule_88 ?_
          refine lv_aload_n hx hb dX12_rule_91 rfl (lv_at hl 1 rfl) ?_
          refine va_get (D := D) (ci := 11) (v := .int z_bl) (C := RX12) (T := TX12) (N := 54) hx hb hts in_q_rule_X12 hown hK.1 hP 2 rfl rfl 43 (by decide) lk2 (fun _ h9 => h9) rfl dX12_rule_92 ?_
          refine lv_icmp_ge (tgt := 169) hx hb dX12_rule_95 (by decide) (fun c_7 => ?_) (fun c_7 => ?_)
          · have tc_7 := t_le c_7
            refine lv_aload_n hx hb dX12_rule_169 rfl (lv_at hl 1 rfl) ?_
            refine lv_iload_n hx hb dX12_rule_170 rfl (lv_at hl 0 rfl) ?_
            refine lv_if_eq (tgt := 178) hx hb dX12_rule_171 (by decide) (fun c_8 => ?_) (fun c_8 => ?_)
            · exact absurd c_8 (by decide)
            · have tc_8 := t_ne c_8
              refine lv_iconst (v := (-1)) hx hb dX12_rule_174 (by decide) ?_
              refine lv_goto (tgt := 182) hx hb dX12_rule_175 (by decide) ?_
              refine va_put (D := D) (ci := 11) (v := .int (-1)) (ty := .int) (C := RX12) (T := TX12) (N := 54) hx hb hts in_q_rule_X12 tyX12 tyX12_ok nmX12 hown hK.1 hP hD hS 2 rfl rfl 45 (by decide) lk5 (fun _ h9 => h9) rfl (by decide +kernel) rfl rfl (Nat.le_of_ble_eq_true rfl) dX12_rule_182 (fun H locs hP hD hS => ?_)
              have hP : va_P D vwCl [(a_statements, .inl (cI, 11, .inl g_5)), (a_taken, .inl (cI, 11, .inl f_taken)), (h, .inr (11, [.int 0, .int 0, .int 0, .int 0, .int 0, .int 0, .int 0, .int 0, .int 0, .ref a_isPriest, .ref a_bars, .ref a_joined, .ref a_turns, .ref a_awayMonk, .ref a_awayFrom, .ref a_awayTo, .ref a_feastDay, .ref a_rank, .ref a_isWeekly, .ref a_isDouble, .ref a_giftDay, .ref a_giftFrom, .ref a_owed, .ref a_said, .ref a_spared, .ref a_leaveGift, .ref a_leaveFrom, .ref a_leaveTo, .ref a_lateDay, .ref a_lateOffice, .ref a_lateBy, .ref a_guests, .ref a_who, .ref a_used, .ref a_lacks, .ref a_candles, .ref a_masses, .ref a_owing, .ref a_heldOn, .ref a_waits, .ref a_tape, .ref a_text, .int 0, .int z_bl, .int 0, .int (-1), .int 0, .ref a_statements, .ref a_taken, .ref a_sort, .ref a_first, .ref a_second, .int 0, .int 0]))] H := hP
              have hD : va_D A [(a_statements, .inl (cI, 11, .inl g_5)), (a_taken, .inl (cI, 11, .inl f_taken)), (h, .inr (11, [.int 0, .int 0, .int 0, .int 0, .int 0, .int 0, .int 0, .int 0, .int 0, .ref a_isPriest, .ref a_bars, .ref a_joined, .ref a_turns, .ref a_awayMonk, .ref a_awayFrom, .ref a_awayTo, .ref a_feastDay, .ref a_rank, .ref a_isWeekly, .ref a_isDouble, .ref a_giftDay, .ref a_giftFrom, .ref a_owed, .ref a_said, .ref a_spared, .ref a_leaveGift, .ref a_leaveFrom, .ref a_leaveTo, .ref a_lateDay, .ref a_lateOffice, .ref a_lateBy, .ref a_guests, .ref a_who, .ref a_used, .ref a_lacks, .ref a_candles, .ref a_masses, .ref a_owing, .ref a_heldOn, .ref a_waits, .ref a_tape, .ref a_text, .int 0, .int z_bl, .int 0, .int (-1), .int 0, .ref a_statements, .ref a_taken, .ref a_sort, .ref a_first, .ref a_second, .int 0, .int 0]))] := hD
              refine lv_iload_n hx hb dX12_rule_185 rfl (lv_at hl 0 rfl) ?_
              refine lv_if_ne (tgt := 191) hx hb dX12_rule_186 (by decide) (fun c_9 => ?_) (fun c_9 => ?_)
              · have tc_9 := t_ne c_9
                refine lv_aload_n hx hb dX12_rule_191 rfl (lv_at hl 1 rfl) ?_
                refine va_get (D := D) (ci := 11) (v := .ref a_taken) (C := RX12) (T := TX12) (N := 54) hx hb hts in_q_rule_X12 hown hK.1 hP 2 rfl rfl 48 (by decide) lk6 (fun _ h9 => h9) rfl dX12_rule_192 ?_
                refine lv_aload_n hx hb dX12_rule_195 rfl (lv_at hl 1 rfl) ?_
                refine va_get (D := D) (ci := 11) (v := .int 0) (C := RX12) (T := TX12) (N := 54) hx hb hts in_q_rule_X12 hown hK.1 hP 2 rfl rfl 46 (by decide) lk1 (fun _ h9 => h9) rfl dX12_rule_196 ?_
                refine lv_aload_n hx hb dX12_rule_199 rfl (lv_at hl 1 rfl) ?_
                refine va_get (D := D) (ci := 11) (v := .int 0) (C := RX12) (T := TX12) (N := 54) hx hb hts in_q_rule_X12 hown hK.1 hP 2 rfl rfl 0 (by decide) lk7 (fun _ h9 => h9) rfl dX12_rule_200 ?_
                refine va_iast hx hb hK.1 hP hD hS 1 0 rfl rfl (t_in (by omega) (by omega)) dX12_rule_203 (fun H locs hP hD hS => ?_)
                obtain ⟨g_10, eg_10⟩ : ∃ z : Nat → Int32, z = upd f_taken ((0 : Int32).toNatClampNeg) 0 := ⟨_, rfl⟩
                rw [← eg_10] at hP hD
                have hP : va_P D vwCl [(a_statements, .inl (cI, 11, .inl g_5)), (a_taken, .inl (cI, 11, .inl g_10)), (h, .inr (11, [.int 0, .int 0, .int 0, .int 0, .int 0, .int 0, .int 0, .int 0, .int 0, .ref a_isPriest, .ref a_bars, .ref a_joined, .ref a_turns, .ref a_awayMonk, .ref a_awayFrom, .ref a_awayTo, .ref a_feastDay, .ref a_rank, .ref a_isWeekly, .ref a_isDouble, .ref a_giftDay, .ref a_giftFrom, .ref a_owed, .ref a_said, .ref a_spared, .ref a_leaveGift, .ref a_leaveFrom, .ref a_leaveTo, .ref a_lateDay, .ref a_lateOffice, .ref a_lateBy, .ref a_guests, .ref a_who, .ref a_used, .ref a_lacks, .ref a_candles, .ref a_masses, .ref a_owing, .ref a_heldOn, .ref a_waits, .ref a_tape, .ref a_text, .int 0, .int z_bl, .int 0, .int (-1), .int 0, .ref a_statements, .ref a_taken, .ref a_sort, .ref a_first, .ref a_second, .int 0, .int 0]))] H := hP
                have hD : va_D A [(a_statements, .inl (cI, 11, .inl g_5)), (a_taken, .inl (cI, 11, .inl g_10)), (h, .inr (11, [.int 0, .int 0, .int 0, .int 0, .int 0, .int 0, .int 0, .int 0, .int 0, .ref a_isPriest, .ref a_bars, .ref a_joined, .ref a_turns, .ref a_awayMonk, .ref a_awayFrom, .ref a_awayTo, .ref a_feastDay, .ref a_rank, .ref a_isWeekly, .ref a_isDouble, .ref a_giftDay, .ref a_giftFrom, .ref a_owed, .ref a_said, .ref a_spared, .ref a_leaveGift, .ref a_leaveFrom, .ref a_leaveTo, .ref a_lateDay, .ref a_lateOffice, .ref a_lateBy, .ref a_guests, .ref a_who, .ref a_used, .ref a_lacks, .ref a_candles, .ref a_masses, .ref a_owing, .ref a_heldOn, .ref a_waits, .ref a_tape, .ref a_text, .int 0, .int z_bl, .int 0, .int (-1), .int 0, .ref a_statements, .ref a_taken, .ref a_sort, .ref a_first, .ref a_second, .int 0, .int 0]))] := hD
                refine lv_aload_n hx hb dX12_rule_204 rfl (lv_at hl 1 rfl) ?_
                refine lv_dup hx hb dX12_rule_205 rfl ?_
                refine va_get (D := D) (ci := 11) (v := .int 0) (C := RX12) (T := TX12) (N := 54) hx hb hts in_q_rule_X12 hown hK.1 hP 2 rfl rfl 46 (by decide) lk1 (fun _ h9 => h9) rfl dX12_rule_206 ?_
                refine lv_iconst (v := 1) hx hb dX12_rule_209 (by decide) ?_
                refine lv_iadd hx hb dX12_rule_210 ?_
                refine lv_topi (fun x_11 ex_11 => ?_)
                first | have tx_11 := t_add ex_11 (by omega) (by omega) | skip
                refine va_put (D := D) (ci := 11) (v := .int x_11) (ty := .int) (C := RX12) (T := TX12) (N := 54) hx hb hts in_q_rule_X12 tyX12 tyX12_ok nmX12 hown hK.1 hP hD hS 2 rfl rfl 46 (by decide) lk1 (fun _ h9 => h9) rfl (by decide +kernel) rfl rfl (Nat.le_of_ble_eq_true rfl) dX12_rule_211 (fun H locs hP hD hS => ?_)
                have hP : va_P D vwCl [(a_statements, .inl (cI, 11, .inl g_5)), (a_taken, .inl (cI, 11, .inl g_10)), (h, .inr (11, [.int 0, .int 0, .int 0, .int 0, .int 0, .int 0, .int 0, .int 0, .int 0, .ref a_isPriest, .ref a_bars, .ref a_joined, .ref a_turns, .ref a_awayMonk, .ref a_awayFrom, .ref a_awayTo, .ref a_feastDay, .ref a_rank, .ref a_isWeekly, .ref a_isDouble, .ref a_giftDay, .ref a_giftFrom, .ref a_owed, .ref a_said, .ref a_spared, .ref a_leaveGift, .ref a_leaveFrom, .ref a_leaveTo, .ref a_lateDay, .ref a_lateOffice, .ref a_lateBy, .ref a_guests, .ref a_who, .ref a_used, .ref a_lacks, .ref a_candles, .ref a_masses, .ref a_owing, .ref a_heldOn, .ref a_waits, .ref a_tape, .ref a_text, .int 0, .int z_bl, .int 0, .int (-1), .int x_11, .ref a_statements, .ref a_taken, .ref a_sort, .ref a_first, .ref a_second, .int 0, .int 0]))] H := hP
                have hD : va_D A [(a_statements, .inl (cI, 11, .inl g_5)), (a_taken, .inl (cI, 11, .inl g_10)), (h, .inr (11, [.int 0, .int 0, .int 0, .int 0, .int 0, .int 0, .int 0, .int 0, .int 0, .ref a_isPriest, .ref a_bars, .ref a_joined, .ref a_turns, .ref a_awayMonk, .ref a_awayFrom, .ref a_awayTo, .ref a_feastDay, .ref a_rank, .ref a_isWeekly, .ref a_isDouble, .ref a_giftDay, .ref a_giftFrom, .ref a_owed, .ref a_said, .ref a_spared, .ref a_leaveGift, .ref a_leaveFrom, .ref a_leaveTo, .ref a_lateDay, .ref a_lateOffice, .ref a_lateBy, .ref a_guests, .ref a_who, .ref a_used, .ref a_lacks, .ref a_candles, .ref a_masses, .ref a_owing, .ref a_heldOn, .ref a_waits, .ref a_tape, .ref a_text, .int 0, .int z_bl, .int 0, .int (-1), .int x_11, .ref a_statements, .ref a_taken, .ref a_sort, .ref a_first, .ref a_second, .int 0, .int 0]))] := hD
                refine lv_aload_n hx hb dX12_rule_214 rfl (lv_at hl 1 rfl) ?_
                refine va_get (D := D) (ci := 11) (v := .int x_11) (C := RX12) (T := TX12) (N := 54) hx hb hts in_q_rule_X12 hown hK.1 hP 2 rfl rfl 46 (by decide) lk1 (fun _ h9 => h9) rfl dX12_rule_215 ?_
                refine lv_iconst (v := 1) hx hb dX12_rule_218 (by decide) ?_
                refine lv_isub hx hb dX12_rule_219 ?_
                refine lv_topi (fun x_12 ex_12 => ?_)
                first | have tx_12 := t_sub ex_12 (by omega) (by omega) | skip
                exact hret x_12 (z_bl, x_11, g_5, g_10) _ _ _ _ (by omega) rfl (hP.sub [2, 0, 1] rfl) (hD.sub [2, 0, 1] (by decide) rfl) hS dX12_rule_220
              · exact absurd c_9 (by decide)
          · have tc_7 := t_nle c_7
            exfalso; omega
      · have tc_4 := t_nle c_4
        exfalso; omega
    · exact absurd c_3 (by decide)
  · have tc_2 := t_eq c_2
    refine lv_bipush (v := (-2)) hx hb dX12_rule_12 (by decide) ?_
    exact hret (-2) (0, 0, f_statements, f_taken) _ _ _ _ (by omega) rfl (hP.sub [0, 1, 2] rfl) (hD.sub [0, 1, 2] (by decide) rfl) hS dX12_rule_14

theorem in_q_fault_X12 : ∀ w ∈ wsX120, w ∈ wsX12_fault := by decide +kernel
set_option maxHeartbeats 8000000 in
set_option maxRecDepth 100000 in
theorem q_fault {l : Launch} {D : va_G} {cI cZ cB : ClassId} {h a_isPriest a_bars a_joined a_turns a_awayMonk a_awayFrom a_awayTo a_feastDay a_rank a_isWeekly a_isDouble a_giftDay a_giftFrom a_owed a_said a_spared a_leaveGift a_leaveFrom a_leaveTo a_lateDay a_lateOffice a_lateBy a_guests a_who a_used a_lacks a_candles a_masses a_owing a_heldOn a_waits a_tape a_text a_statements a_taken a_sort a_first a_second : Nat}   : Met l yX12_fault wsX12_fault ({ frames := 0, cells := 0, slots := 0, locals := 0 }) (RO D cI cZ cB [.ref h] [(h, .inr (11, [.int 0, .int 0, .int 0, .int 0, .int 0, .int 0, .int 0, .int 0, .int 0, .ref a_isPriest, .ref a_bars, .ref a_joined, .ref a_turns, .ref a_awayMonk, .ref a_awayFrom, .ref a_awayTo, .ref a_feastDay, .ref a_rank, .ref a_isWeekly, .ref a_isDouble, .ref a_giftDay, .ref a_giftFrom, .ref a_owed, .ref a_said, .ref a_spared, .ref a_leaveGift, .ref a_leaveFrom, .ref a_leaveTo, .ref a_lateDay, .ref a_lateOffice, .ref a_lateBy, .ref a_guests, .ref a_who, .ref a_used, .ref a_lacks, .ref a_candles, .ref a_masses, .ref a_owing, .ref a_heldOn, .ref a_waits, .ref a_tape, .ref a_text, .int 0, .int 0, .int 0, .int (-1), .int 0, .ref a_statements, .ref a_taken, .ref a_sort, .ref a_first, .ref a_second, .int 0, .int 0]))]) (vp_Si (fun r : Int32 => r.toInt = -1)) 0 0 (fun _ => False) := by
  refine ro_ret (cc := cX12_fault) (maxL := 1) (ty := .int) (own := RX12) (by decide) rfl rfl (Nat.le_of_ble_eq_true rfl) ?_
  intro p e s m args below meth c Q S hret hP hK ls hl
  obtain ⟨hx, hb, hml, hown, hts⟩ := id S
  have hl : lv_has ls 1 [(0, .ref h)] := hl
  have kk0 : (0 : Int32).toInt = 0 := by decide
  have lk0 := hts (.fieldLink RX12 111 "AbbeyHoursModel" "fault" "I") (by decide +kernel)
  refine lv_aload_n hx hb dX12_fault_0 rfl (lv_at hl 0 rfl) ?_
  refine va_get (D := D) (ci := 11) (v := .int (-1)) (C := RX12) (T := TX12) (N := 54) hx hb hts in_q_fault_X12 hown hK.1 hP 0 rfl rfl 45 (by decide) lk0 (fun _ h9 => h9) rfl dX12_fault_1 ?_
  exact hret (-1) _ _ (by omega) rfl dX12_fault_4

set_option maxHeartbeats 8000000 in
set_option maxRecDepth 100000 in
theorem q_fast {l : Launch} {D : va_G} {cI cZ cB : ClassId} {sz : Nat} {h a_isPriest a_bars a_joined a_turns a_awayMonk a_awayFrom a_awayTo a_feastDay a_rank a_isWeekly a_isDouble a_giftDay a_giftFrom a_owed a_said a_spared a_leaveGift a_leaveFrom a_leaveTo a_lateDay a_lateOffice a_lateBy a_guests a_who a_used a_lacks a_candles a_masses a_owing a_heldOn a_waits a_tape a_text a_statements a_taken a_sort a_first a_second : Nat} {f_heldOn : Nat → Int32} {d w : Int32}  : Met l yX12_fast wsX12_fast ({ frames := 4, cells := 0, slots := 0, locals := 90 }) (RW D cI cZ cB [.ref h, .int d, .int w] sz [(h, .inr (11, [.int 0, .int 0, .int 0, .int 0, .int 0, .int 0, .int 0, .int 0, .int 0, .ref a_isPriest, .ref a_bars, .ref a_joined, .ref a_turns, .ref a_awayMonk, .ref a_awayFrom, .ref a_awayTo, .ref a_feastDay, .ref a_rank, .ref a_isWeekly, .ref a_isDouble, .ref a_giftDay, .ref a_giftFrom, .ref a_owed, .ref a_said, .ref a_spared, .ref a_leaveGift, .ref a_leaveFrom, .ref a_leaveTo, .ref a_lateDay, .ref a_lateOffice, .ref a_lateBy, .ref a_guests, .ref a_who, .ref a_used, .ref a_lacks, .ref a_candles, .ref a_masses, .ref a_owing, .ref a_heldOn, .ref a_waits, .ref a_tape, .ref a_text, .int 0, .int 0, .int 0, .int (-1), .int 0, .ref a_statements, .ref a_taken, .ref a_sort, .ref a_first, .ref a_second, .int 0, .int 0])), (a_heldOn, .inl (cI, 365, .inl f_heldOn))]) (va_Qi (fun (r : Int32) (u : Nat → Int32) => ((0 ≤ d.toInt ∧ d.toInt ≤ 1094) → (w.toInt = 0 → r.toInt = 0) ∧ (w.toInt = 1 → r.toInt = 2) ∧ (w.toInt = 2 → r.toInt = 3) ∧ (w.toInt < 0 ∨ 2 < w.toInt → r.toInt = -1)) ∧ (¬ (0 ≤ d.toInt ∧ d.toInt ≤ 1094) → r.toInt = -1)) (BW D [(h, .inr (11, [.int 0, .int 0, .int 0, .int 0, .int 0, .int 0, .int 0, .int 0, .int 0, .ref a_isPriest, .ref a_bars, .ref a_joined, .ref a_turns, .ref a_awayMonk, .ref a_awayFrom, .ref a_awayTo, .ref a_feastDay, .ref a_rank, .ref a_isWeekly, .ref a_isDouble, .ref a_giftDay, .ref a_giftFrom, .ref a_owed, .ref a_said, .ref a_spared, .ref a_leaveGift, .ref a_leaveFrom, .ref a_leaveTo, .ref a_lateDay, .ref a_lateOffice, .ref a_lateBy, .ref a_guests, .ref a_who, .ref a_used, .ref a_lacks, .ref a_candles, .ref a_masses, .ref a_owing, .ref a_heldOn, .ref a_waits, .ref a_tape, .ref a_text, .int 0, .int 0, .int 0, .int (-1), .int 0, .ref a_statements, .ref a_taken, .ref a_sort, .ref a_first, .ref a_second, .int 0, .int 0])), (a_heldOn, .inl (cI, 365, .inl f_heldOn))] sz (fun u : Nat → Int32 => [(h, .inr (11, [.int 0, .int 0, .int 0, .int 0, .int 0, .int 0, .int 0, .int 0, .int 0, .ref a_isPriest, .ref a_bars, .ref a_joined, .ref a_turns, .ref a_awayMonk, .ref a_awayFrom, .ref a_awayTo, .ref a_feastDay, .ref a_rank, .ref a_isWeekly, .ref a_isDouble, .ref a_giftDay, .ref a_giftFrom, .ref a_owed, .ref a_said, .ref a_spared, .ref a_leaveGift, .ref a_leaveFrom, .ref a_leaveTo, .ref a_lateDay, .ref a_lateOffice, .ref a_lateBy, .ref a_guests, .ref a_who, .ref a_used, .ref a_lacks, .ref a_candles, .ref a_masses, .ref a_owing, .ref a_heldOn, .ref a_waits, .ref a_tape, .ref a_text, .int 0, .int 0, .int 0, .int (-1), .int 0, .ref a_statements, .ref a_taken, .ref a_sort, .ref a_first, .ref a_second, .int 0, .int 0])), (a_heldOn, .inl (cI, 365, .inl u))])) (va_A [(h, .inr (11, [.int 0, .int 0, .int 0, .int 0, .int 0, .int 0, .int 0, .int 0, .int 0, .ref a_isPriest, .ref a_bars, .ref a_joined, .ref a_turns, .ref a_awayMonk, .ref a_awayFrom, .ref a_awayTo, .ref a_feastDay, .ref a_rank, .ref a_isWeekly, .ref a_isDouble, .ref a_giftDay, .ref a_giftFrom, .ref a_owed, .ref a_said, .ref a_spared, .ref a_leaveGift, .ref a_leaveFrom, .ref a_leaveTo, .ref a_lateDay, .ref a_lateOffice, .ref a_lateBy, .ref a_guests, .ref a_who, .ref a_used, .ref a_lacks, .ref a_candles, .ref a_masses, .ref a_owing, .ref a_heldOn, .ref a_waits, .ref a_tape, .ref a_text, .int 0, .int 0, .int 0, .int (-1), .int 0, .ref a_statements, .ref a_taken, .ref a_sort, .ref a_first, .ref a_second, .int 0, .int 0])), (a_heldOn, .inl (cI, 365, .inl f_heldOn))] sz)) 0 0 (va_A [(h, .inr (11, [.int 0, .int 0, .int 0, .int 0, .int 0, .int 0, .int 0, .int 0, .int 0, .ref a_isPriest, .ref a_bars, .ref a_joined, .ref a_turns, .ref a_awayMonk, .ref a_awayFrom, .ref a_awayTo, .ref a_feastDay, .ref a_rank, .ref a_isWeekly, .ref a_isDouble, .ref a_giftDay, .ref a_giftFrom, .ref a_owed, .ref a_said, .ref a_spared, .ref a_leaveGift, .ref a_leaveFrom, .ref a_leaveTo, .ref a_lateDay, .ref a_lateOffice, .ref a_lateBy, .ref a_guests, .ref a_who, .ref a_used, .ref a_lacks, .ref a_candles, .ref a_masses, .ref a_owing, .ref a_heldOn, .ref a_waits, .ref a_tape, .ref a_text, .int 0, .int 0, .int 0, .int (-1), .int 0, .ref a_statements, .ref a_taken, .ref a_sort, .ref a_first, .ref a_second, .int 0, .int 0])), (a_heldOn, .inl (cI, 365, .inl f_heldOn))] sz) := by
  refine rw_ret (cc := cX12_fast) (maxL := 3) (ty := .int) (own := RX12) (by decide) rfl rfl (Nat.le_of_ble_eq_true rfl) ?_
  intro p e s m args below meth c Q A S hin hret hP hK hD hA hS ls hl
  obtain ⟨hx, hb, hml, hown, hts⟩ := id S
  have hl : lv_has ls 3 [(0, .ref h), (1, .int d), (2, .int w)] := hl
  have kkm1 : (-1 : Int32).toInt = -1 := by decide
  have kk0 : (0 : Int32).toInt = 0 := by decide
  have kk1 : (1 : Int32).toInt = 1 := by decide
  have kk2 : (2 : Int32).toInt = 2 := by decide
  have kk3 : (3 : Int32).toInt = 3 := by decide
  refine lv_iload_n hx hb dX12_fast_0 rfl (lv_at hl 1 rfl) ?_
  have hPc := hP.sub (ws' := []) [] rfl
  refine roS (As := [.int d]) (rest := []) S (m_isDay  ) (va_cwS 1 hts gX12_fast_X12_isDay rfl rfl rfl (by decide +kernel) ⟨Nat.le_of_ble_eq_true rfl, Nat.le_of_ble_eq_true rfl⟩) hK hPc rfl hl.1 rfl (Nat.le_of_ble_eq_true rfl) dX12_fast_1 ⟨Nat.le_of_ble_eq_true rfl, Nat.le_of_ble_eq_true rfl⟩ (fun r_1 hw_1 => ?_)
  have hw_1 : (r_1.toInt = 1 ∧ 0 ≤ d.toInt ∧ d.toInt ≤ 1094) ∨ (r_1.toInt = 0 ∧ (d.toInt < 0 ∨ 1094 < d.toInt)) := hw_1
  refine lv_if_eq (tgt := 16) hx hb dX12_fast_4 (by decide) (fun c_2 => ?_) (fun c_2 => ?_)
  · have tc_2 := t_eq c_2
    refine lv_iconst (v := (-1)) hx hb dX12_fast_16 (by decide) ?_
    exact hret (-1) f_heldOn _ _ _ _ (by omega) rfl (hP.sub [0, 1] rfl) (hD.sub [0, 1] (by decide) rfl) hS dX12_fast_17
  · have tc_2 := t_ne c_2
    refine lv_iload_n hx hb dX12_fast_7 rfl (lv_at hl 2 rfl) ?_
    refine lv_iconst (v := 0) hx hb dX12_fast_8 (by decide) ?_
    refine lv_iconst (v := 3) hx hb dX12_fast_9 (by decide) ?_
    have hPc := hP.sub (ws' := []) [] rfl
    refine roS (As := [.int w, .int 0, .int 3]) (rest := []) S (m_isIn  ) (va_cwS 3 hts gX12_fast_X12_isIn rfl rfl rfl (by decide +kernel) ⟨Nat.le_of_ble_eq_true rfl, Nat.le_of_ble_eq_true rfl⟩) hK hPc rfl hl.1 rfl (Nat.le_of_ble_eq_true rfl) dX12_fast_10 ⟨Nat.le_of_ble_eq_true rfl, Nat.le_of_ble_eq_true rfl⟩ (fun r_3 hw_3 => ?_)
    have hw_3 : (r_3.toInt = 1 ∧ (0 : Int32).toInt ≤ w.toInt ∧ w.toInt ≤ (3 : Int32).toInt) ∨ (r_3.toInt = 0 ∧ (w.toInt < (0 : Int32).toInt ∨ (3 : Int32).toInt < w.toInt)) := hw_3
    refine lv_if_ne (tgt := 18) hx hb dX12_fast_13 (by decide) (fun c_4 => ?_) (fun c_4 => ?_)
    · have tc_4 := t_ne c_4
      refine lv_iload_n hx hb dX12_fast_18 rfl (lv_at hl 2 rfl) ?_
      refine lv_if_ne (tgt := 38) hx hb dX12_fast_19 (by decide) (fun c_5 => ?_) (fun c_5 => ?_)
      · have tc_5 := t_ne c_5
        refine lv_iload_n hx hb dX12_fast_38 rfl (lv_at hl 2 rfl) ?_
        refine lv_iconst (v := 1) hx hb dX12_fast_39 (by decide) ?_
        refine lv_icmp_ne (tgt := 51) hx hb dX12_fast_40 (by decide) (fun c_6 => ?_) (fun c_6 => ?_)
        · have tc_6 := t_ne c_6
          refine lv_iload_n hx hb dX12_fast_51 rfl (lv_at hl 2 rfl) ?_
          refine lv_iconst (v := 2) hx hb dX12_fast_52 (by decide) ?_
          refine lv_icmp_ne (tgt := 64) hx hb dX12_fast_53 (by decide) (fun c_7 => ?_) (fun c_7 => ?_)
          · have tc_7 := t_ne c_7
            refine lv_aload_n hx hb dX12_fast_64 rfl (lv_at hl 0 rfl) ?_
            refine lv_iload_n hx hb dX12_fast_65 rfl (lv_at hl 1 rfl) ?_
            have hPc := hP.sub (ws' := [(h, .inr (11, [.int 0, .int 0, .int 0, .int 0, .int 0, .int 0, .int 0, .int 0, .int 0, .ref a_isPriest, .ref a_bars, .ref a_joined, .ref a_turns, .ref a_awayMonk, .ref a_awayFrom, .ref a_awayTo, .ref a_feastDay, .ref a_rank, .ref a_isWeekly, .ref a_isDouble, .ref a_giftDay, .ref a_giftFrom, .ref a_owed, .ref a_said, .ref a_spared, .ref a_leaveGift, .ref a_leaveFrom, .ref a_leaveTo, .ref a_lateDay, .ref a_lateOffice, .ref a_lateBy, .ref a_guests, .ref a_who, .ref a_used, .ref a_lacks, .ref a_candles, .ref a_masses, .ref a_owing, .ref a_heldOn, .ref a_waits, .ref a_tape, .ref a_text, .int 0, .int 0, .int 0, .int (-1), .int 0, .ref a_statements, .ref a_taken, .ref a_sort, .ref a_first, .ref a_second, .int 0, .int 0]))]) [0] rfl
            refine roV (As := [.int d]) (rest := []) S (m_inForce  ) (cwV 1 hts gX12_fast_X12_inForce rfl rfl rfl (by decide +kernel) ⟨Nat.le_of_ble_eq_true rfl, Nat.le_of_ble_eq_true rfl⟩) hK hPc (va_recv hK.1 hPc (ci := 11) (q0 := 0) rfl rfl) rfl hl.1 rfl (Nat.le_of_ble_eq_true rfl) dX12_fast_66 ⟨Nat.le_of_ble_eq_true rfl, Nat.le_of_ble_eq_true rfl⟩ (fun r_8 hw_8 => ?_)
            have hw_8 : r_8.toInt = -1 := hw_8
            exact hret r_8 f_heldOn _ _ _ _ (by omega) rfl (hP.sub [0, 1] rfl) (hD.sub [0, 1] (by decide) rfl) hS dX12_fast_69
          · have tc_7 := t_eq c_7
            refine lv_aload_n hx hb dX12_fast_56 rfl (lv_at hl 0 rfl) ?_
            refine lv_iload_n hx hb dX12_fast_57 rfl (lv_at hl 1 rfl) ?_
            have hPc := hP.sub (ws' := [(h, .inr (11, [.int 0, .int 0, .int 0, .int 0, .int 0, .int 0, .int 0, .int 0, .int 0, .ref a_isPriest, .ref a_bars, .ref a_joined, .ref a_turns, .ref a_awayMonk, .ref a_awayFrom, .ref a_awayTo, .ref a_feastDay, .ref a_rank, .ref a_isWeekly, .ref a_isDouble, .ref a_giftDay, .ref a_giftFrom, .ref a_owed, .ref a_said, .ref a_spared, .ref a_leaveGift, .ref a_leaveFrom, .ref a_leaveTo, .ref a_lateDay, .ref a_lateOffice, .ref a_lateBy, .ref a_guests, .ref a_who, .ref a_used, .ref a_lacks, .ref a_candles, .ref a_masses, .ref a_owing, .ref a_heldOn, .ref a_waits, .ref a_tape, .ref a_text, .int 0, .int 0, .int 0, .int (-1), .int 0, .ref a_statements, .ref a_taken, .ref a_sort, .ref a_first, .ref a_second, .int 0, .int 0]))]) [0] rfl
            refine roV (As := [.int d]) (rest := []) S (m_guestFeed  ) (cwV 1 hts gX12_fast_X12_guestFeed rfl rfl rfl (by decide +kernel) ⟨Nat.le_of_ble_eq_true rfl, Nat.le_of_ble_eq_true rfl⟩) hK hPc (va_recv hK.1 hPc (ci := 11) (q0 := 0) rfl rfl) rfl hl.1 rfl (Nat.le_of_ble_eq_true rfl) dX12_fast_58 ⟨Nat.le_of_ble_eq_true rfl, Nat.le_of_ble_eq_true rfl⟩ (fun r_9 hw_9 => ?_)
            have hw_9 : r_9.toInt = 3 := hw_9
            refine lv_goto (tgt := 69) hx hb dX12_fast_61 (by decide) ?_
            exact hret r_9 f_heldOn _ _ _ _ (by omega) rfl (hP.sub [0, 1] rfl) (hD.sub [0, 1] (by decide) rfl) hS dX12_fast_69
        · have tc_6 := t_eq c_6
          refine lv_aload_n hx hb dX12_fast_43 rfl (lv_at hl 0 rfl) ?_
          refine lv_iload_n hx hb dX12_fast_44 rfl (lv_at hl 1 rfl) ?_
          have hPc := hP.sub (ws' := [(h, .inr (11, [.int 0, .int 0, .int 0, .int 0, .int 0, .int 0, .int 0, .int 0, .int 0, .ref a_isPriest, .ref a_bars, .ref a_joined, .ref a_turns, .ref a_awayMonk, .ref a_awayFrom, .ref a_awayTo, .ref a_feastDay, .ref a_rank, .ref a_isWeekly, .ref a_isDouble, .ref a_giftDay, .ref a_giftFrom, .ref a_owed, .ref a_said, .ref a_spared, .ref a_leaveGift, .ref a_leaveFrom, .ref a_leaveTo, .ref a_lateDay, .ref a_lateOffice, .ref a_lateBy, .ref a_guests, .ref a_who, .ref a_used, .ref a_lacks, .ref a_candles, .ref a_masses, .ref a_owing, .ref a_heldOn, .ref a_waits, .ref a_tape, .ref a_text, .int 0, .int 0, .int 0, .int (-1), .int 0, .ref a_statements, .ref a_taken, .ref a_sort, .ref a_first, .ref a_second, .int 0, .int 0])), (a_heldOn, .inl (cI, 365, .inl f_heldOn))]) [0, 1] rfl
          refine rwV (As := [.int d]) (rest := []) (wc := [(h, .inr (11, [.int 0, .int 0, .int 0, .int 0, .int 0, .int 0, .int 0, .int 0, .int 0, .ref a_isPriest, .ref a_bars, .ref a_joined, .ref a_turns, .ref a_awayMonk, .ref a_awayFrom, .ref a_awayTo, .ref a_feastDay, .ref a_rank, .ref a_isWeekly, .ref a_isDouble, .ref a_giftDay, .ref a_giftFrom, .ref a_owed, .ref a_said, .ref a_spared, .ref a_leaveGift, .ref a_leaveFrom, .ref a_leaveTo, .ref a_lateDay, .ref a_lateOffice, .ref a_lateBy, .ref a_guests, .ref a_who, .ref a_used, .ref a_lacks, .ref a_candles, .ref a_masses, .ref a_owing, .ref a_heldOn, .ref a_waits, .ref a_tape, .ref a_text, .int 0, .int 0, .int 0, .int (-1), .int 0, .ref a_statements, .ref a_taken, .ref a_sort, .ref a_first, .ref a_second, .int 0, .int 0])), (a_heldOn, .inl (cI, 365, .inl f_heldOn))]) (wr := []) S (m_headFeed  ) (cwV 1 hts gX12_fast_X12_headFeed rfl rfl rfl (by decide +kernel) ⟨Nat.le_of_ble_eq_true rfl, Nat.le_of_ble_eq_true rfl⟩) hK hP hD hS hA [0, 1] [] rfl rfl (by decide) (by decide) (by decide) (va_recv hK.1 hPc (ci := 11) (q0 := 0) rfl rfl) rfl hl.1 rfl (Nat.le_of_ble_eq_true rfl) dX12_fast_45 ⟨Nat.le_of_ble_eq_true rfl, Nat.le_of_ble_eq_true rfl⟩ (fun r_10 u_10 H locs hw_10 hP hD hS => ?_)
          obtain ⟨g1_10, rfl⟩ : ∃ z, z = u_10 := ⟨_, rfl⟩
          have hw_10 : r_10.toInt = 2 := hw_10
          have hP : va_P D vwCl [(h, .inr (11, [.int 0, .int 0, .int 0, .int 0, .int 0, .int 0, .int 0, .int 0, .int 0, .ref a_isPriest, .ref a_bars, .ref a_joined, .ref a_turns, .ref a_awayMonk, .ref a_awayFrom, .ref a_awayTo, .ref a_feastDay, .ref a_rank, .ref a_isWeekly, .ref a_isDouble, .ref a_giftDay, .ref a_giftFrom, .ref a_owed, .ref a_said, .ref a_spared, .ref a_leaveGift, .ref a_leaveFrom, .ref a_leaveTo, .ref a_lateDay, .ref a_lateOffice, .ref a_lateBy, .ref a_guests, .ref a_who, .ref a_used, .ref a_lacks, .ref a_candles, .ref a_masses, .ref a_owing, .ref a_heldOn, .ref a_waits, .ref a_tape, .ref a_text, .int 0, .int 0, .int 0, .int (-1), .int 0, .ref a_statements, .ref a_taken, .ref a_sort, .ref a_first, .ref a_second, .int 0, .int 0])), (a_heldOn, .inl (cI, 365, .inl g1_10))] H := hP
          have hD : va_D A [(h, .inr (11, [.int 0, .int 0, .int 0, .int 0, .int 0, .int 0, .int 0, .int 0, .int 0, .ref a_isPriest, .ref a_bars, .ref a_joined, .ref a_turns, .ref a_awayMonk, .ref a_awayFrom, .ref a_awayTo, .ref a_feastDay, .ref a_rank, .ref a_isWeekly, .ref a_isDouble, .ref a_giftDay, .ref a_giftFrom, .ref a_owed, .ref a_said, .ref a_spared, .ref a_leaveGift, .ref a_leaveFrom, .ref a_leaveTo, .ref a_lateDay, .ref a_lateOffice, .ref a_lateBy, .ref a_guests, .ref a_who, .ref a_used, .ref a_lacks, .ref a_candles, .ref a_masses, .ref a_owing, .ref a_heldOn, .ref a_waits, .ref a_tape, .ref a_text, .int 0, .int 0, .int 0, .int (-1), .int 0, .ref a_statements, .ref a_taken, .ref a_sort, .ref a_first, .ref a_second, .int 0, .int 0])), (a_heldOn, .inl (cI, 365, .inl g1_10))] := hD
          refine lv_goto (tgt := 69) hx hb dX12_fast_48 (by decide) ?_
          exact hret r_10 g1_10 _ _ _ _ (by omega) rfl (hP.sub [0, 1] rfl) (hD.sub [0, 1] (by decide) rfl) hS dX12_fast_69
      · have tc_5 := t_eq c_5
        refine lv_aload_n hx hb dX12_fast_22 rfl (lv_at hl 0 rfl) ?_
        refine lv_iload_n hx hb dX12_fast_23 rfl (lv_at hl 1 rfl) ?_
        have hPc := hP.sub (ws' := [(h, .inr (11, [.int 0, .int 0, .int 0, .int 0, .int 0, .int 0, .int 0, .int 0, .int 0, .ref a_isPriest, .ref a_bars, .ref a_joined, .ref a_turns, .ref a_awayMonk, .ref a_awayFrom, .ref a_awayTo, .ref a_feastDay, .ref a_rank, .ref a_isWeekly, .ref a_isDouble, .ref a_giftDay, .ref a_giftFrom, .ref a_owed, .ref a_said, .ref a_spared, .ref a_leaveGift, .ref a_leaveFrom, .ref a_leaveTo, .ref a_lateDay, .ref a_lateOffice, .ref a_lateBy, .ref a_guests, .ref a_who, .ref a_used, .ref a_lacks, .ref a_candles, .ref a_masses, .ref a_owing, .ref a_heldOn, .ref a_waits, .ref a_tape, .ref a_text, .int 0, .int 0, .int 0, .int (-1), .int 0, .ref a_statements, .ref a_taken, .ref a_sort, .ref a_first, .ref a_second, .int 0, .int 0]))]) [0] rfl
        refine roV (As := [.int d]) (rest := []) S (m_isFast  ) (cwV 1 hts gX12_fast_X12_isFast rfl rfl rfl (by decide +kernel) ⟨Nat.le_of_ble_eq_true rfl, Nat.le_of_ble_eq_true rfl⟩) hK hPc (va_recv hK.1 hPc (ci := 11) (q0 := 0) rfl rfl) rfl hl.1 rfl (Nat.le_of_ble_eq_true rfl) dX12_fast_24 ⟨Nat.le_of_ble_eq_true rfl, Nat.le_of_ble_eq_true rfl⟩ (fun r_11 hw_11 => ?_)
        have hw_11 : r_11.toInt = 0 := hw_11
        refine lv_if_eq (tgt := 34) hx hb dX12_fast_27 (by decide) (fun c_12 => ?_) (fun c_12 => ?_)
        · have tc_12 := t_eq c_12
          refine lv_iconst (v := 0) hx hb dX12_fast_34 (by decide) ?_
          refine lv_goto (tgt := 69) hx hb dX12_fast_35 (by decide) ?_
          exact hret 0 f_heldOn _ _ _ _ (by omega) rfl (hP.sub [0, 1] rfl) (hD.sub [0, 1] (by decide) rfl) hS dX12_fast_69
        · have tc_12 := t_ne c_12
          refine lv_iconst (v := 1) hx hb dX12_fast_30 (by decide) ?_
          refine lv_goto (tgt := 69) hx hb dX12_fast_31 (by decide) ?_
          exact hret 1 f_heldOn _ _ _ _ (by omega) rfl (hP.sub [0, 1] rfl) (hD.sub [0, 1] (by decide) rfl) hS dX12_fast_69
    · have tc_4 := t_eq c_4
      refine lv_iconst (v := (-1)) hx hb dX12_fast_16 (by decide) ?_
      exact hret (-1) f_heldOn _ _ _ _ (by omega) rfl (hP.sub [0, 1] rfl) (hD.sub [0, 1] (by decide) rfl) hS dX12_fast_17

theorem in_q_gift_X12 : ∀ w ∈ wsX120, w ∈ wsX12_gift := by decide +kernel
set_option maxHeartbeats 8000000 in
set_option maxRecDepth 100000 in
theorem q_gift {l : Launch} {D : va_G} {cI cZ cB : ClassId} {sz : Nat} {h a_isPriest a_bars a_joined a_turns a_awayMonk a_awayFrom a_awayTo a_feastDay a_rank a_isWeekly a_isDouble a_giftDay a_giftFrom a_owed a_said a_spared a_leaveGift a_leaveFrom a_leaveTo a_lateDay a_lateOffice a_lateBy a_guests a_who a_used a_lacks a_candles a_masses a_owing a_heldOn a_waits a_tape a_text a_statements a_taken a_sort a_first a_second : Nat} {f_isWeekly f_isDouble f_giftDay f_giftFrom : Nat → Int32} {a n b : Int32}  : Met l yX12_gift wsX12_gift ({ frames := 1, cells := 0, slots := 0, locals := 22 }) (RW D cI cZ cB [.ref h, .int a, .int n, .int b] sz [(h, .inr (11, [.int 0, .int 0, .int 0, .int 0, .int 0, .int 0, .int 0, .int 0, .int 0, .ref a_isPriest, .ref a_bars, .ref a_joined, .ref a_turns, .ref a_awayMonk, .ref a_awayFrom, .ref a_awayTo, .ref a_feastDay, .ref a_rank, .ref a_isWeekly, .ref a_isDouble, .ref a_giftDay, .ref a_giftFrom, .ref a_owed, .ref a_said, .ref a_spared, .ref a_leaveGift, .ref a_leaveFrom, .ref a_leaveTo, .ref a_lateDay, .ref a_lateOffice, .ref a_lateBy, .ref a_guests, .ref a_who, .ref a_used, .ref a_lacks, .ref a_candles, .ref a_masses, .ref a_owing, .ref a_heldOn, .ref a_waits, .ref a_tape, .ref a_text, .int 0, .int 0, .int 0, .int (-1), .int 0, .ref a_statements, .ref a_taken, .ref a_sort, .ref a_first, .ref a_second, .int 0, .int 0])), (a_isWeekly, .inl (cZ, 40, .inl f_isWeekly)), (a_isDouble, .inl (cZ, 40, .inl f_isDouble)), (a_giftDay, .inl (cI, 40, .inl f_giftDay)), (a_giftFrom, .inl (cI, 40, .inl f_giftFrom))]) (va_Qi (fun (r : Int32) (u : Int32 × Nat → Int32 × Nat → Int32 × Nat → Int32 × Nat → Int32) => (((a.toInt ≠ 0 ∧ 0 ≤ n.toInt ∧ n.toInt ≤ 6) ∨ (a.toInt = 0 ∧ 0 ≤ n.toInt ∧ n.toInt ≤ 364)) → r.toInt = 0) ∧ (¬ ((a.toInt ≠ 0 ∧ 0 ≤ n.toInt ∧ n.toInt ≤ 6) ∨ (a.toInt = 0 ∧ 0 ≤ n.toInt ∧ n.toInt ≤ 364)) → r.toInt = -1)) (BW D [(h, .inr (11, [.int 0, .int 0, .int 0, .int 0, .int 0, .int 0, .int 0, .int 0, .int 0, .ref a_isPriest, .ref a_bars, .ref a_joined, .ref a_turns, .ref a_awayMonk, .ref a_awayFrom, .ref a_awayTo, .ref a_feastDay, .ref a_rank, .ref a_isWeekly, .ref a_isDouble, .ref a_giftDay, .ref a_giftFrom, .ref a_owed, .ref a_said, .ref a_spared, .ref a_leaveGift, .ref a_leaveFrom, .ref a_leaveTo, .ref a_lateDay, .ref a_lateOffice, .ref a_lateBy, .ref a_guests, .ref a_who, .ref a_used, .ref a_lacks, .ref a_candles, .ref a_masses, .ref a_owing, .ref a_heldOn, .ref a_waits, .ref a_tape, .ref a_text, .int 0, .int 0, .int 0, .int (-1), .int 0, .ref a_statements, .ref a_taken, .ref a_sort, .ref a_first, .ref a_second, .int 0, .int 0])), (a_isWeekly, .inl (cZ, 40, .inl f_isWeekly)), (a_isDouble, .inl (cZ, 40, .inl f_isDouble)), (a_giftDay, .inl (cI, 40, .inl f_giftDay)), (a_giftFrom, .inl (cI, 40, .inl f_giftFrom))] sz (fun u : Int32 × Nat → Int32 × Nat → Int32 × Nat → Int32 × Nat → Int32 => [(h, .inr (11, [.int 0, .int 0, .int 0, .int 0, .int u.1, .int 0, .int 0, .int 0, .int 0, .ref a_isPriest, .ref a_bars, .ref a_joined, .ref a_turns, .ref a_awayMonk, .ref a_awayFrom, .ref a_awayTo, .ref a_feastDay, .ref a_rank, .ref a_isWeekly, .ref a_isDouble, .ref a_giftDay, .ref a_giftFrom, .ref a_owed, .ref a_said, .ref a_spared, .ref a_leaveGift, .ref a_leaveFrom, .ref a_leaveTo, .ref a_lateDay, .ref a_lateOffice, .ref a_lateBy, .ref a_guests, .ref a_who, .ref a_used, .ref a_lacks, .ref a_candles, .ref a_masses, .ref a_owing, .ref a_heldOn, .ref a_waits, .ref a_tape, .ref a_text, .int 0, .int 0, .int 0, .int (-1), .int 0, .ref a_statements, .ref a_taken, .ref a_sort, .ref a_first, .ref a_second, .int 0, .int 0])), (a_isWeekly, .inl (cZ, 40, .inl u.2.1)), (a_isDouble, .inl (cZ, 40, .inl u.2.2.2.1)), (a_giftDay, .inl (cI, 40, .inl u.2.2.1)), (a_giftFrom, .inl (cI, 40, .inl u.2.2.2.2))])) (va_A [(h, .inr (11, [.int 0, .int 0, .int 0, .int 0, .int 0, .int 0, .int 0, .int 0, .int 0, .ref a_isPriest, .ref a_bars, .ref a_joined, .ref a_turns, .ref a_awayMonk, .ref a_awayFrom, .ref a_awayTo, .ref a_feastDay, .ref a_rank, .ref a_isWeekly, .ref a_isDouble, .ref a_giftDay, .ref a_giftFrom, .ref a_owed, .ref a_said, .ref a_spared, .ref a_leaveGift, .ref a_leaveFrom, .ref a_leaveTo, .ref a_lateDay, .ref a_lateOffice, .ref a_lateBy, .ref a_guests, .ref a_who, .ref a_used, .ref a_lacks, .ref a_candles, .ref a_masses, .ref a_owing, .ref a_heldOn, .ref a_waits, .ref a_tape, .ref a_text, .int 0, .int 0, .int 0, .int (-1), .int 0, .ref a_statements, .ref a_taken, .ref a_sort, .ref a_first, .ref a_second, .int 0, .int 0])), (a_isWeekly, .inl (cZ, 40, .inl f_isWeekly)), (a_isDouble, .inl (cZ, 40, .inl f_isDouble)), (a_giftDay, .inl (cI, 40, .inl f_giftDay)), (a_giftFrom, .inl (cI, 40, .inl f_giftFrom))] sz)) 0 0 (va_A [(h, .inr (11, [.int 0, .int 0, .int 0, .int 0, .int 0, .int 0, .int 0, .int 0, .int 0, .ref a_isPriest, .ref a_bars, .ref a_joined, .ref a_turns, .ref a_awayMonk, .ref a_awayFrom, .ref a_awayTo, .ref a_feastDay, .ref a_rank, .ref a_isWeekly, .ref a_isDouble, .ref a_giftDay, .ref a_giftFrom, .ref a_owed, .ref a_said, .ref a_spared, .ref a_leaveGift, .ref a_leaveFrom, .ref a_leaveTo, .ref a_lateDay, .ref a_lateOffice, .ref a_lateBy, .ref a_guests, .ref a_who, .ref a_used, .ref a_lacks, .ref a_candles, .ref a_masses, .ref a_owing, .ref a_heldOn, .ref a_waits, .ref a_tape, .ref a_text, .int 0, .int 0, .int 0, .int (-1), .int 0, .ref a_statements, .ref a_taken, .ref a_sort, .ref a_first, .ref a_second, .int 0, .int 0])), (a_isWeekly, .inl (cZ, 40, .inl f_isWeekly)), (a_isDouble, .inl (cZ, 40, .inl f_isDouble)), (a_giftDay, .inl (cI, 40, .inl f_giftDay)), (a_giftFrom, .inl (cI, 40, .inl f_giftFrom))] sz) := by
  refine rw_ret (cc := cX12_gift) (maxL := 4) (ty := .int) (own := RX12) (by decide) rfl rfl (Nat.le_of_ble_eq_true rfl) ?_
  intro p e s m args below meth c Q A S hin hret hP hK hD hA hS ls hl
  obtain ⟨hx, hb, hml, hown, hts⟩ := id S
  have hl : lv_has ls 4 [(0, .ref h), (1, .int a), (2, .int n), (3, .int b)] := hl
  have kkm1 : (-1 : Int32).toInt = -1 := by decide
  have kk0 : (0 : Int32).toInt = 0 := by decide
  have kk1 : (1 : Int32).toInt = 1 := by decide
  have kk6 : (6 : Int32).toInt = 6 := by decide
  have kk40 : (40 : Int32).toInt = 40 := by decide
  have kk364 : (364 : Int32).toInt = 364 := by decide
  have lk0 := hts (.fieldLink RX12 137 "AbbeyHoursModel" "gifts" "I") (by decide +kernel)
  have lk1 := hts (.fieldLink RX12 38 "AbbeyHoursModel" "isWeekly" "[Z") (by decide +kernel)
  have lk2 := hts (.fieldLink RX12 44 "AbbeyHoursModel" "giftDay" "[I") (by decide +kernel)
  have lk3 := hts (.fieldLink RX12 41 "AbbeyHoursModel" "isDouble" "[Z") (by decide +kernel)
  have lk4 := hts (.fieldLink RX12 47 "AbbeyHoursModel" "giftFrom" "[I") (by decide +kernel)
  have lk5 := hts (.fieldLink RX12 140 "AbbeyHoursModel" "today" "I") (by decide +kernel)
  refine lv_iload_n hx hb dX12_gift_0 rfl (lv_at hl 2 rfl) ?_
  refine lv_iconst (v := 0) hx hb dX12_gift_1 (by decide) ?_
  refine lv_iload_n hx hb dX12_gift_2 rfl (lv_at hl 1 rfl) ?_
  refine lv_if_eq (tgt := 11) hx hb dX12_gift_3 (by decide) (fun c_1 => ?_) (fun c_1 => ?_)
  · have tc_1 := t_eq c_1
    refine lv_sipush (v := 364) hx hb dX12_gift_11 (by decide) ?_
    have hPc := hP.sub (ws' := []) [] rfl
    refine roS (As := [.int n, .int 0, .int 364]) (rest := []) S (m_isIn  ) (va_cwS 3 hts gX12_gift_X12_isIn rfl rfl rfl (by decide +kernel) ⟨Nat.le_of_ble_eq_true rfl, Nat.le_of_ble_eq_true rfl⟩) hK hPc rfl hl.1 rfl (Nat.le_of_ble_eq_true rfl) dX12_gift_14 ⟨Nat.le_of_ble_eq_true rfl, Nat.le_of_ble_eq_true rfl⟩ (fun r_2 hw_2 => ?_)
    have hw_2 : (r_2.toInt = 1 ∧ (0 : Int32).toInt ≤ n.toInt ∧ n.toInt ≤ (364 : Int32).toInt) ∨ (r_2.toInt = 0 ∧ (n.toInt < (0 : Int32).toInt ∨ (364 : Int32).toInt < n.toInt)) := hw_2
    refine lv_if_eq (tgt := 29) hx hb dX12_gift_17 (by decide) (fun c_3 => ?_) (fun c_3 => ?_)
    · have tc_3 := t_eq c_3
      refine lv_iconst (v := (-1)) hx hb dX12_gift_29 (by decide) ?_
      exact hret (-1) (0, f_isWeekly, f_giftDay, f_isDouble, f_giftFrom) _ _ _ _ (by omega) rfl (hP.sub [0, 1, 2, 3, 4] rfl) (hD.sub [0, 1, 2, 3, 4] (by decide) rfl) hS dX12_gift_30
    · have tc_3 := t_ne c_3
      refine lv_aload_n hx hb dX12_gift_20 rfl (lv_at hl 0 rfl) ?_
      refine va_get (D := D) (ci := 11) (v := .int 0) (C := RX12) (T := TX12) (N := 54) hx hb hts in_q_gift_X12 hown hK.1 hP 0 rfl rfl 4 (by decide) lk0 (fun _ h9 => h9) rfl dX12_gift_21 ?_
      refine lv_bipush (v := 40) hx hb dX12_gift_24 (by decide) ?_
      refine lv_icmp_ne (tgt := 31) hx hb dX12_gift_26 (by decide) (fun c_4 => ?_) (fun c_4 => ?_)
      · have tc_4 := t_ne c_4
        refine lv_aload_n hx hb dX12_gift_31 rfl (lv_at hl 0 rfl) ?_
        refine va_get (D := D) (ci := 11) (v := .ref a_isWeekly) (C := RX12) (T := TX12) (N := 54) hx hb hts in_q_gift_X12 hown hK.1 hP 0 rfl rfl 18 (by decide) lk1 (fun _ h9 => h9) rfl dX12_gift_32 ?_
        refine lv_aload_n hx hb dX12_gift_35 rfl (lv_at hl 0 rfl) ?_
        refine va_get (D := D) (ci := 11) (v := .int 0) (C := RX12) (T := TX12) (N := 54) hx hb hts in_q_gift_X12 hown hK.1 hP 0 rfl rfl 4 (by decide) lk0 (fun _ h9 => h9) rfl dX12_gift_36 ?_
        refine lv_iload_n hx hb dX12_gift_39 rfl (lv_at hl 1 rfl) ?_
        refine va_zast hx hb hK.1 hP hD hS 1 1 rfl rfl (t_in (by omega) (by omega)) dX12_gift_40 (fun H locs hP hD hS => ?_)
        obtain ⟨g_5, eg_5⟩ : ∃ z : Nat → Int32, z = upd f_isWeekly ((0 : Int32).toNatClampNeg) (vp_nar .boolean a) := ⟨_, rfl⟩
        rw [← eg_5] at hP hD
        have hP : va_P D vwCl [(h, .inr (11, [.int 0, .int 0, .int 0, .int 0, .int 0, .int 0, .int 0, .int 0, .int 0, .ref a_isPriest, .ref a_bars, .ref a_joined, .ref a_turns, .ref a_awayMonk, .ref a_awayFrom, .ref a_awayTo, .ref a_feastDay, .ref a_rank, .ref a_isWeekly, .ref a_isDouble, .ref a_giftDay, .ref a_giftFrom, .ref a_owed, .ref a_said, .ref a_spared, .ref a_leaveGift, .ref a_leaveFrom, .ref a_leaveTo, .ref a_lateDay, .ref a_lateOffice, .ref a_lateBy, .ref a_guests, .ref a_who, .ref a_used, .ref a_lacks, .ref a_candles, .ref a_masses, .ref a_owing, .ref a_heldOn, .ref a_waits, .ref a_tape, .ref a_text, .int 0, .int 0, .int 0, .int (-1), .int 0, .ref a_statements, .ref a_taken, .ref a_sort, .ref a_first, .ref a_second, .int 0, .int 0])), (a_isWeekly, .inl (cZ, 40, .inl g_5)), (a_isDouble, .inl (cZ, 40, .inl f_isDouble)), (a_giftDay, .inl (cI, 40, .inl f_giftDay)), (a_giftFrom, .inl (cI, 40, .inl f_giftFrom))] H := hP
        have hD : va_D A [(h, .inr (11, [.int 0, .int 0, .int 0, .int 0, .int 0, .int 0, .int 0, .int 0, .int 0, .ref a_isPriest, .ref a_bars, .ref a_joined, .ref a_turns, .ref a_awayMonk, .ref a_awayFrom, .ref a_awayTo, .ref a_feastDay, .ref a_rank, .ref a_isWeekly, .ref a_isDouble, .ref a_giftDay, .ref a_giftFrom, .ref a_owed, .ref a_said, .ref a_spared, .ref a_leaveGift, .ref a_leaveFrom, .ref a_leaveTo, .ref a_lateDay, .ref a_lateOffice, .ref a_lateBy, .ref a_guests, .ref a_who, .ref a_used, .ref a_lacks, .ref a_candles, .ref a_masses, .ref a_owing, .ref a_heldOn, .ref a_waits, .ref a_tape, .ref a_text, .int 0, .int 0, .int 0, .int (-1), .int 0, .ref a_statements, .ref a_taken, .ref a_sort, .ref a_first, .ref a_second, .int 0, .int 0])), (a_isWeekly, .inl (cZ, 40, .inl g_5)), (a_isDouble, .inl (cZ, 40, .inl f_isDouble)), (a_giftDay, .inl (cI, 40, .inl f_giftDay)), (a_giftFrom, .inl (cI, 40, .inl f_giftFrom))] := hD
        refine lv_aload_n hx hb dX12_gift_41 rfl (lv_at hl 0 rfl) ?_
        refine va_get (D := D) (ci := 11) (v := .ref a_giftDay) (C := RX12) (T := TX12) (N := 54) hx hb hts in_q_gift_X12 hown hK.1 hP 0 rfl rfl 20 (by decide) lk2 (fun _ h9 => h9) rfl dX12_gift_42 ?_
        refine lv_aload_n hx hb dX12_gift_45 rfl (lv_at hl 0 rfl) ?_
        refine va_get (D := D) (ci := 11) (v := .int 0) (C := RX12) (T := TX12) (N := 54) hx hb hts in_q_gift_X12 hown hK.1 hP 0 rfl rfl 4 (by decide) lk0 (fun _ h9 => h9) rfl dX12_gift_46 ?_
        refine lv_iload_n hx hb dX12_gift_49 rfl (lv_at hl 2 rfl) ?_
        refine va_iast hx hb hK.1 hP hD hS 3 0 rfl rfl (t_in (by omega) (by omega)) dX12_gift_50 (fun H locs hP hD hS => ?_)
        obtain ⟨g_6, eg_6⟩ : ∃ z : Nat → Int32, z = upd f_giftDay ((0 : Int32).toNatClampNeg) n := ⟨_, rfl⟩
        rw [← eg_6] at hP hD
        have hP : va_P D vwCl [(h, .inr (11, [.int 0, .int 0, .int 0, .int 0, .int 0, .int 0, .int 0, .int 0, .int 0, .ref a_isPriest, .ref a_bars, .ref a_joined, .ref a_turns, .ref a_awayMonk, .ref a_awayFrom, .ref a_awayTo, .ref a_feastDay, .ref a_rank, .ref a_isWeekly, .ref a_isDouble, .ref a_giftDay, .ref a_giftFrom, .ref a_owed, .ref a_said, .ref a_spared, .ref a_leaveGift, .ref a_leaveFrom, .ref a_leaveTo, .ref a_lateDay, .ref a_lateOffice, .ref a_lateBy, .ref a_guests, .ref a_who, .ref a_used, .ref a_lacks, .ref a_candles, .ref a_masses, .ref a_owing, .ref a_heldOn, .ref a_waits, .ref a_tape, .ref a_text, .int 0, .int 0, .int 0, .int (-1), .int 0, .ref a_statements, .ref a_taken, .ref a_sort, .ref a_first, .ref a_second, .int 0, .int 0])), (a_isWeekly, .inl (cZ, 40, .inl g_5)), (a_isDouble, .inl (cZ, 40, .inl f_isDouble)), (a_giftDay, .inl (cI, 40, .inl g_6)), (a_giftFrom, .inl (cI, 40, .inl f_giftFrom))] H := hP
        have hD : va_D A [(h, .inr (11, [.int 0, .int 0, .int 0, .int 0, .int 0, .int 0, .int 0, .int 0, .int 0, .ref a_isPriest, .ref a_bars, .ref a_joined, .ref a_turns, .ref a_awayMonk, .ref a_awayFrom, .ref a_awayTo, .ref a_feastDay, .ref a_rank, .ref a_isWeekly, .ref a_isDouble, .ref a_giftDay, .ref a_giftFrom, .ref a_owed, .ref a_said, .ref a_spared, .ref a_leaveGift, .ref a_leaveFrom, .ref a_leaveTo, .ref a_lateDay, .ref a_lateOffice, .ref a_lateBy, .ref a_guests, .ref a_who, .ref a_used, .ref a_lacks, .ref a_candles, .ref a_masses, .ref a_owing, .ref a_heldOn, .ref a_waits, .ref a_tape, .ref a_text, .int 0, .int 0, .int 0, .int (-1), .int 0, .ref a_statements, .ref a_taken, .ref a_sort, .ref a_first, .ref a_second, .int 0, .int 0])), (a_isWeekly, .inl (cZ, 40, .inl g_5)), (a_isDouble, .inl (cZ, 40, .inl f_isDouble)), (a_giftDay, .inl (cI, 40, .inl g_6)), (a_giftFrom, .inl (cI, 40, .inl f_giftFrom))] := hD
        refine lv_aload_n hx hb dX12_gift_51 rfl (lv_at hl 0 rfl) ?_
        refine va_get (D := D) (ci := 11) (v := .ref a_isDouble) (C := RX12) (T := TX12) (N := 54) hx hb hts in_q_gift_X12 hown hK.1 hP 0 rfl rfl 19 (by decide) lk3 (fun _ h9 => h9) rfl dX12_gift_52 ?_
        refine lv_aload_n hx hb dX12_gift_55 rfl (lv_at hl 0 rfl) ?_
        refine va_get (D := D) (ci := 11) (v := .int 0) (C := RX12) (T := TX12) (N := 54) hx hb hts in_q_gift_X12 hown hK.1 hP 0 rfl rfl 4 (by decide) lk0 (fun _ h9 => h9) rfl dX12_gift_56 ?_
        refine lv_iload_n hx hb dX12_gift_59 rfl (lv_at hl 3 rfl) ?_
        refine va_zast hx hb hK.1 hP hD hS 2 1 rfl rfl (t_in (by omega) (by omega)) dX12_gift_60 (fun H locs hP hD hS => ?_)
        obtain ⟨g_7, eg_7⟩ : ∃ z : Nat → Int32, z = upd f_isDouble ((0 : Int32).toNatClampNeg) (vp_nar .boolean b) := ⟨_, rfl⟩
        rw [← eg_7] at hP hD
        have hP : va_P D vwCl [(h, .inr (11, [.int 0, .int 0, .int 0, .int 0, .int 0, .int 0, .int 0, .int 0, .int 0, .ref a_isPriest, .ref a_bars, .ref a_joined, .ref a_turns, .ref a_awayMonk, .ref a_awayFrom, .ref a_awayTo, .ref a_feastDay, .ref a_rank, .ref a_isWeekly, .ref a_isDouble, .ref a_giftDay, .ref a_giftFrom, .ref a_owed, .ref a_said, .ref a_spared, .ref a_leaveGift, .ref a_leaveFrom, .ref a_leaveTo, .ref a_lateDay, .ref a_lateOffice, .ref a_lateBy, .ref a_guests, .ref a_who, .ref a_used, .ref a_lacks, .ref a_candles, .ref a_masses, .ref a_owing, .ref a_heldOn, .ref a_waits, .ref a_tape, .ref a_text, .int 0, .int 0, .int 0, .int (-1), .int 0, .ref a_statements, .ref a_taken, .ref a_sort, .ref a_first, .ref a_second, .int 0, .int 0])), (a_isWeekly, .inl (cZ, 40, .inl g_5)), (a_isDouble, .inl (cZ, 40, .inl g_7)), (a_giftDay, .inl (cI, 40, .inl g_6)), (a_giftFrom, .inl (cI, 40, .inl f_giftFrom))] H := hP
        have hD : va_D A [(h, .inr (11, [.int 0, .int 0, .int 0, .int 0, .int 0, .int 0, .int 0, .int 0, .int 0, .ref a_isPriest, .ref a_bars, .ref a_joined, .ref a_turns, .ref a_awayMonk, .ref a_awayFrom, .ref a_awayTo, .ref a_feastDay, .ref a_rank, .ref a_isWeekly, .ref a_isDouble, .ref a_giftDay, .ref a_giftFrom, .ref a_owed, .ref a_said, .ref a_spared, .ref a_leaveGift, .ref a_leaveFrom, .ref a_leaveTo, .ref a_lateDay, .ref a_lateOffice, .ref a_lateBy, .ref a_guests, .ref a_who, .ref a_used, .ref a_lacks, .ref a_candles, .ref a_masses, .ref a_owing, .ref a_heldOn, .ref a_waits, .ref a_tape, .ref a_text, .int 0, .int 0, .int 0, .int (-1), .int 0, .ref a_statements, .ref a_taken, .ref a_sort, .ref a_first, .ref a_second, .int 0, .int 0])), (a_isWeekly, .inl (cZ, 40, .inl g_5)), (a_isDouble, .inl (cZ, 40, .inl g_7)), (a_giftDay, .inl (cI, 40, .inl g_6)), (a_giftFrom, .inl (cI, 40, .inl f_giftFrom))] := hD
        refine lv_aload_n hx hb dX12_gift_61 rfl (lv_at hl 0 rfl) ?_
        refine va_get (D := D) (ci := 11) (v := .ref a_giftFrom) (C := RX12) (T := TX12) (N := 54) hx hb hts in_q_gift_X12 hown hK.1 hP 0 rfl rfl 21 (by decide) lk4 (fun _ h9 => h9) rfl dX12_gift_62 ?_
        refine lv_aload_n hx hb dX12_gift_65 rfl (lv_at hl 0 rfl) ?_
        refine va_get (D := D) (ci := 11) (v := .int 0) (C := RX12) (T := TX12) (N := 54) hx hb hts in_q_gift_X12 hown hK.1 hP 0 rfl rfl 4 (by decide) lk0 (fun _ h9 => h9) rfl dX12_gift_66 ?_
        refine lv_aload_n hx hb dX12_gift_69 rfl (lv_at hl 0 rfl) ?_
        refine va_get (D := D) (ci := 11) (v := .int 0) (C := RX12) (T := TX12) (N := 54) hx hb hts in_q_gift_X12 hown hK.1 hP 0 rfl rfl 0 (by decide) lk5 (fun _ h9 => h9) rfl dX12_gift_70 ?_
        refine va_iast hx hb hK.1 hP hD hS 4 0 rfl rfl (t_in (by omega) (by omega)) dX12_gift_73 (fun H locs hP hD hS => ?_)
        obtain ⟨g_8, eg_8⟩ : ∃ z : Nat → Int32, z = upd f_giftFrom ((0 : Int32).toNatClampNeg) 0 := ⟨_, rfl⟩
        rw [← eg_8] at hP hD
        have hP : va_P D vwCl [(h, .inr (11, [.int 0, .int 0, .int 0, .int 0, .int 0, .int 0, .int 0, .int 0, .int 0, .ref a_isPriest, .ref a_bars, .ref a_joined, .ref a_turns, .ref a_awayMonk, .ref a_awayFrom, .ref a_awayTo, .ref a_feastDay, .ref a_rank, .ref a_isWeekly, .ref a_isDouble, .ref a_giftDay, .ref a_giftFrom, .ref a_owed, .ref a_said, .ref a_spared, .ref a_leaveGift, .ref a_leaveFrom, .ref a_leaveTo, .ref a_lateDay, .ref a_lateOffice, .ref a_lateBy, .ref a_guests, .ref a_who, .ref a_used, .ref a_lacks, .ref a_candles, .ref a_masses, .ref a_owing, .ref a_heldOn, .ref a_waits, .ref a_tape, .ref a_text, .int 0, .int 0, .int 0, .int (-1), .int 0, .ref a_statements, .ref a_taken, .ref a_sort, .ref a_first, .ref a_second, .int 0, .int 0])), (a_isWeekly, .inl (cZ, 40, .inl g_5)), (a_isDouble, .inl (cZ, 40, .inl g_7)), (a_giftDay, .inl (cI, 40, .inl g_6)), (a_giftFrom, .inl (cI, 40, .inl g_8))] H := hP
        have hD : va_D A [(h, .inr (11, [.int 0, .int 0, .int 0, .int 0, .int 0, .int 0, .int 0, .int 0, .int 0, .ref a_isPriest, .ref a_bars, .ref a_joined, .ref a_turns, .ref a_awayMonk, .ref a_awayFrom, .ref a_awayTo, .ref a_feastDay, .ref a_rank, .ref a_isWeekly, .ref a_isDouble, .ref a_giftDay, .ref a_giftFrom, .ref a_owed, .ref a_said, .ref a_spared, .ref a_leaveGift, .ref a_leaveFrom, .ref a_leaveTo, .ref a_lateDay, .ref a_lateOffice, .ref a_lateBy, .ref a_guests, .ref a_who, .ref a_used, .ref a_lacks, .ref a_candles, .ref a_masses, .ref a_owing, .ref a_heldOn, .ref a_waits, .ref a_tape, .ref a_text, .int 0, .int 0, .int 0, .int (-1), .int 0, .ref a_statements, .ref a_taken, .ref a_sort, .ref a_first, .ref a_second, .int 0, .int 0])), (a_isWeekly, .inl (cZ, 40, .inl g_5)), (a_isDouble, .inl (cZ, 40, .inl g_7)), (a_giftDay, .inl (cI, 40, .inl g_6)), (a_giftFrom, .inl (cI, 40, .inl g_8))] := hD
        refine lv_aload_n hx hb dX12_gift_74 rfl (lv_at hl 0 rfl) ?_
        refine lv_dup hx hb dX12_gift_75 rfl ?_
        refine va_get (D := D) (ci := 11) (v := .int 0) (C := RX12) (T := TX12) (N := 54) hx hb hts in_q_gift_X12 hown hK.1 hP 0 rfl rfl 4 (by decide) lk0 (fun _ h9 => h9) rfl dX12_gift_76 ?_
        refine lv_iconst (v := 1) hx hb dX12_gift_79 (by decide) ?_
        refine lv_iadd hx hb dX12_gift_80 ?_
        refine lv_topi (fun x_9 ex_9 => ?_)
        first | have tx_9 := t_add ex_9 (by omega) (by omega) | skip
        refine va_put (D := D) (ci := 11) (v := .int x_9) (ty := .int) (C := RX12) (T := TX12) (N := 54) hx hb hts in_q_gift_X12 tyX12 tyX12_ok nmX12 hown hK.1 hP hD hS 0 rfl rfl 4 (by decide) lk0 (fun _ h9 => h9) rfl (by decide +kernel) rfl rfl (Nat.le_of_ble_eq_true rfl) dX12_gift_81 (fun H locs hP hD hS => ?_)
        have hP : va_P D vwCl [(h, .inr (11, [.int 0, .int 0, .int 0, .int 0, .int x_9, .int 0, .int 0, .int 0, .int 0, .ref a_isPriest, .ref a_bars, .ref a_joined, .ref a_turns, .ref a_awayMonk, .ref a_awayFrom, .ref a_awayTo, .ref a_feastDay, .ref a_rank, .ref a_isWeekly, .ref a_isDouble, .ref a_giftDay, .ref a_giftFrom, .ref a_owed, .ref a_said, .ref a_spared, .ref a_leaveGift, .ref a_leaveFrom, .ref a_leaveTo, .ref a_lateDay, .ref a_lateOffice, .ref a_lateBy, .ref a_guests, .ref a_who, .ref a_used, .ref a_lacks, .ref a_candles, .ref a_masses, .ref a_owing, .ref a_heldOn, .ref a_waits, .ref a_tape, .ref a_text, .int 0, .int 0, .int 0, .int (-1), .int 0, .ref a_statements, .ref a_taken, .ref a_sort, .ref a_first, .ref a_second, .int 0, .int 0])), (a_isWeekly, .inl (cZ, 40, .inl g_5)), (a_isDouble, .inl (cZ, 40, .inl g_7)), (a_giftDay, .inl (cI, 40, .inl g_6)), (a_giftFrom, .inl (cI, 40, .inl g_8))] H := hP
        have hD : va_D A [(h, .inr (11, [.int 0, .int 0, .int 0, .int 0, .int x_9, .int 0, .int 0, .int 0, .int 0, .ref a_isPriest, .ref a_bars, .ref a_joined, .ref a_turns, .ref a_awayMonk, .ref a_awayFrom, .ref a_awayTo, .ref a_feastDay, .ref a_rank, .ref a_isWeekly, .ref a_isDouble, .ref a_giftDay, .ref a_giftFrom, .ref a_owed, .ref a_said, .ref a_spared, .ref a_leaveGift, .ref a_leaveFrom, .ref a_leaveTo, .ref a_lateDay, .ref a_lateOffice, .ref a_lateBy, .ref a_guests, .ref a_who, .ref a_used, .ref a_lacks, .ref a_candles, .ref a_masses, .ref a_owing, .ref a_heldOn, .ref a_waits, .ref a_tape, .ref a_text, .int 0, .int 0, .int 0, .int (-1), .int 0, .ref a_statements, .ref a_taken, .ref a_sort, .ref a_first, .ref a_second, .int 0, .int 0])), (a_isWeekly, .inl (cZ, 40, .inl g_5)), (a_isDouble, .inl (cZ, 40, .inl g_7)), (a_giftDay, .inl (cI, 40, .inl g_6)), (a_giftFrom, .inl (cI, 40, .inl g_8))] := hD
        refine lv_aload_n hx hb dX12_gift_84 rfl (lv_at hl 0 rfl) ?_
        refine va_get (D := D) (ci := 11) (v := .int x_9) (C := RX12) (T := TX12) (N := 54) hx hb hts in_q_gift_X12 hown hK.1 hP 0 rfl rfl 4 (by decide) lk0 (fun _ h9 => h9) rfl dX12_gift_85 ?_
        refine lv_iconst (v := 1) hx hb dX12_gift_88 (by decide) ?_
        refine lv_isub hx hb dX12_gift_89 ?_
        refine lv_topi (fun x_10 ex_10 => ?_)
        first | have tx_10 := t_sub ex_10 (by omega) (by omega) | skip
        exact hret x_10 (x_9, g_5, g_6, g_7, g_8) _ _ _ _ (by omega) rfl (hP.sub [0, 1, 2, 3, 4] rfl) (hD.sub [0, 1, 2, 3, 4] (by decide) rfl) hS dX12_gift_90
      · exact absurd c_4 (by decide)
  · have tc_1 := t_ne c_1
    refine lv_bipush (v := 6) hx hb dX12_gift_6 (by decide) ?_
    refine lv_goto (tgt := 14) hx hb dX12_gift_8 (by decide) ?_
    have hPc := hP.sub (ws' := []) [] rfl
    refine roS (As := [.int n, .int 0, .int 6]) (rest := []) S (m_isIn  ) (va_cwS 3 hts gX12_gift_X12_isIn rfl rfl rfl (by decide +kernel) ⟨Nat.le_of_ble_eq_true rfl, Nat.le_of_ble_eq_true rfl⟩) hK hPc rfl hl.1 rfl (Nat.le_of_ble_eq_true rfl) dX12_gift_14 ⟨Nat.le_of_ble_eq_true rfl, Nat.le_of_ble_eq_true rfl⟩ (fun r_11 hw_11 => ?_)
    have hw_11 : (r_11.toInt = 1 ∧ (0 : Int32).toInt ≤ n.toInt ∧ n.toInt ≤ (6 : Int32).toInt) ∨ (r_11.toInt = 0 ∧ (n.toInt < (0 : Int32).toInt ∨ (6 : Int32).toInt < n.toInt)) := hw_11
    refine lv_if_eq (tgt := 29) hx hb dX12_gift_17 (by decide) (fun c_12 => ?_) (fun c_12 => ?_)
    · have tc_12 := t_eq c_12
      refine lv_iconst (v := (-1)) hx hb dX12_gift_29 (by decide) ?_
      exact hret (-1) (0, f_isWeekly, f_giftDay, f_isDouble, f_giftFrom) _ _ _ _ (by omega) rfl (hP.sub [0, 1, 2, 3, 4] rfl) (hD.sub [0, 1, 2, 3, 4] (by decide) rfl) hS dX12_gift_30
    · have tc_12 := t_ne c_12
      refine lv_aload_n hx hb dX12_gift_20 rfl (lv_at hl 0 rfl) ?_
      refine va_get (D := D) (ci := 11) (v := .int 0) (C := RX12) (T := TX12) (N := 54) hx hb hts in_q_gift_X12 hown hK.1 hP 0 rfl rfl 4 (by decide) lk0 (fun _ h9 => h9) rfl dX12_gift_21 ?_
      refine lv_bipush (v := 40) hx hb dX12_gift_24 (by decide) ?_
      refine lv_icmp_ne (tgt := 31) hx hb dX12_gift_26 (by decide) (fun c_13 => ?_) (fun c_13 => ?_)
      · have tc_13 := t_ne c_13
        refine lv_aload_n hx hb dX12_gift_31 rfl (lv_at hl 0 rfl) ?_
        refine va_get (D := D) (ci := 11) (v := .ref a_isWeekly) (C := RX12) (T := TX12) (N := 54) hx hb hts in_q_gift_X12 hown hK.1 hP 0 rfl rfl 18 (by decide) lk1 (fun _ h9 => h9) rfl dX12_gift_32 ?_
        refine lv_aload_n hx hb dX12_gift_35 rfl (lv_at hl 0 rfl) ?_
        refine va_get (D := D) (ci := 11) (v := .int 0) (C := RX12) (T := TX12) (N := 54) hx hb hts in_q_gift_X12 hown hK.1 hP 0 rfl rfl 4 (by decide) lk0 (fun _ h9 => h9) rfl dX12_gift_36 ?_
        refine lv_iload_n hx hb dX12_gift_39 rfl (lv_at hl 1 rfl) ?_
        refine va_zast hx hb hK.1 hP hD hS 1 1 rfl rfl (t_in (by omega) (by omega)) dX12_gift_40 (fun H locs hP hD hS => ?_)
        obtain ⟨g_14, eg_14⟩ : ∃ z : Nat → Int32, z = upd f_isWeekly ((0 : Int32).toNatClampNeg) (vp_nar .boolean a) := ⟨_, rfl⟩
        rw [← eg_14] at hP hD
        have hP : va_P D vwCl [(h, .inr (11, [.int 0, .int 0, .int 0, .int 0, .int 0, .int 0, .int 0, .int 0, .int 0, .ref a_isPriest, .ref a_bars, .ref a_joined, .ref a_turns, .ref a_awayMonk, .ref a_awayFrom, .ref a_awayTo, .ref a_feastDay, .ref a_rank, .ref a_isWeekly, .ref a_isDouble, .ref a_giftDay, .ref a_giftFrom, .ref a_owed, .ref a_said, .ref a_spared, .ref a_leaveGift, .ref a_leaveFrom, .ref a_leaveTo, .ref a_lateDay, .ref a_lateOffice, .ref a_lateBy, .ref a_guests, .ref a_who, .ref a_used, .ref a_lacks, .ref a_candles, .ref a_masses, .ref a_owing, .ref a_heldOn, .ref a_waits, .ref a_tape, .ref a_text, .int 0, .int 0, .int 0, .int (-1), .int 0, .ref a_statements, .ref a_taken, .ref a_sort, .ref a_first, .ref a_second, .int 0, .int 0])), (a_isWeekly, .inl (cZ, 40, .inl g_14)), (a_isDouble, .inl (cZ, 40, .inl f_isDouble)), (a_giftDay, .inl (cI, 40, .inl f_giftDay)), (a_giftFrom, .inl (cI, 40, .inl f_giftFrom))] H := hP
        have hD : va_D A [(h, .inr (11, [.int 0, .int 0, .int 0, .int 0, .int 0, .int 0, .int 0, .int 0, .int 0, .ref a_isPriest, .ref a_bars, .ref a_joined, .ref a_turns, .ref a_awayMonk, .ref a_awayFrom, .ref a_awayTo, .ref a_feastDay, .ref a_rank, .ref a_isWeekly, .ref a_isDouble, .ref a_giftDay, .ref a_giftFrom, .ref a_owed, .ref a_said, .ref a_spared, .ref a_leaveGift, .ref a_leaveFrom, .ref a_leaveTo, .ref a_lateDay, .ref a_lateOffice, .ref a_lateBy, .ref a_guests, .ref a_who, .ref a_used, .ref a_lacks, .ref a_candles, .ref a_masses, .ref a_owing, .ref a_heldOn, .ref a_waits, .ref a_tape, .ref a_text, .int 0, .int 0, .int 0, .int (-1), .int 0, .ref a_statements, .ref a_taken, .ref a_sort, .ref a_first, .ref a_second, .int 0, .int 0])), (a_isWeekly, .inl (cZ, 40, .inl g_14)), (a_isDouble, .inl (cZ, 40, .inl f_isDouble)), (a_giftDay, .inl (cI, 40, .inl f_giftDay)), (a_giftFrom, .inl (cI, 40, .inl f_giftFrom))] := hD
        refine lv_aload_n hx hb dX12_gift_41 rfl (lv_at hl 0 rfl) ?_
        refine va_get (D := D) (ci := 11) (v := .ref a_giftDay) (C := RX12) (T := TX12) (N := 54) hx hb hts in_q_gift_X12 hown hK.1 hP 0 rfl rfl 20 (by decide) lk2 (fun _ h9 => h9) rfl dX12_gift_42 ?_
        refine lv_aload_n hx hb dX12_gift_45 rfl (lv_at hl 0 rfl) ?_
        refine va_get (D := D) (ci := 11) (v := .int 0) (C := RX12) (T := TX12) (N := 54) hx hb hts in_q_gift_X12 hown hK.1 hP 0 rfl rfl 4 (by decide) lk0 (fun _ h9 => h9) rfl dX12_gift_46 ?_
        refine lv_iload_n hx hb dX12_gift_49 rfl (lv_at hl 2 rfl) ?_
        refine va_iast hx hb hK.1 hP hD hS 3 0 rfl rfl (t_in (by omega) (by omega)) dX12_gift_50 (fun H locs hP hD hS => ?_)
        obtain ⟨g_15, eg_15⟩ : ∃ z : Nat → Int32, z = upd f_giftDay ((0 : Int32).toNatClampNeg) n := ⟨_, rfl⟩
        rw [← eg_15] at hP hD
        have hP : va_P D vwCl [(h, .inr (11, [.int 0, .int 0, .int 0, .int 0, .int 0, .int 0, .int 0, .int 0, .int 0, .ref a_isPriest, .ref a_bars, .ref a_joined, .ref a_turns, .ref a_awayMonk, .ref a_awayFrom, .ref a_awayTo, .ref a_feastDay, .ref a_rank, .ref a_isWeekly, .ref a_isDouble, .ref a_giftDay, .ref a_giftFrom, .ref a_owed, .ref a_said, .ref a_spared, .ref a_leaveGift, .ref a_leaveFrom, .ref a_leaveTo, .ref a_lateDay, .ref a_lateOffice, .ref a_lateBy, .ref a_guests, .ref a_who, .ref a_used, .ref a_lacks, .ref a_candles, .ref a_masses, .ref a_owing, .ref a_heldOn, .ref a_waits, .ref a_tape, .ref a_text, .int 0, .int 0, .int 0, .int (-1), .int 0, .ref a_statements, .ref a_taken, .ref a_sort, .ref a_first, .ref a_second, .int 0, .int 0])), (a_isWeekly, .inl (cZ, 40, .inl g_14)), (a_isDouble, .inl (cZ, 40, .inl f_isDouble)), (a_giftDay, .inl (cI, 40, .inl g_15)), (a_giftFrom, .inl (cI, 40, .inl f_giftFrom))] H := hP
        have hD : va_D A [(h, .inr (11, [.int 0, .int 0, .int 0, .int 0, .int 0, .int 0, .int 0, .int 0, .int 0, .ref a_isPriest, .ref a_bars, .ref a_joined, .ref a_turns, .ref a_awayMonk, .ref a_awayFrom, .ref a_awayTo, .ref a_feastDay, .ref a_rank, .ref a_isWeekly, .ref a_isDouble, .ref a_giftDay, .ref a_giftFrom, .ref a_owed, .ref a_said, .ref a_spared, .ref a_leaveGift, .ref a_leaveFrom, .ref a_leaveTo, .ref a_lateDay, .ref a_lateOffice, .ref a_lateBy, .ref a_guests, .ref a_who, .ref a_used, .ref a_lacks, .ref a_candles, .ref a_masses, .ref a_owing, .ref a_heldOn, .ref a_waits, .ref a_tape, .ref a_text, .int 0, .int 0, .int 0, .int (-1), .int 0, .ref a_statements, .ref a_taken, .ref a_sort, .ref a_first, .ref a_second, .int 0, .int 0])), (a_isWeekly, .inl (cZ, 40, .inl g_14)), (a_isDouble, .inl (cZ, 40, .inl f_isDouble)), (a_giftDay, .inl (cI, 40, .inl g_15)), (a_giftFrom, .inl (cI, 40, .inl f_giftFrom))] := hD
        refine lv_aload_n hx hb dX12_gift_51 rfl (lv_at hl 0 rfl) ?_
        refine va_get (D := D) (ci := 11) (v := .ref a_isDouble) (C := RX12) (T := TX12) (N := 54) hx hb hts in_q_gift_X12 hown hK.1 hP 0 rfl rfl 19 (by decide) lk3 (fun _ h9 => h9) rfl dX12_gift_52 ?_
        refine lv_aload_n hx hb dX12_gift_55 rfl (lv_at hl 0 rfl) ?_
        refine va_get (D := D) (ci := 11) (v := .int 0) (C := RX12) (T := TX12) (N := 54) hx hb hts in_q_gift_X12 hown hK.1 hP 0 rfl rfl 4 (by decide) lk0 (fun _ h9 => h9) rfl dX12_gift_56 ?_
        refine lv_iload_n hx hb dX12_gift_59 rfl (lv_at hl 3 rfl) ?_
        refine va_zast hx hb hK.1 hP hD hS 2 1 rfl rfl (t_in (by omega) (by omega)) dX12_gift_60 (fun H locs hP hD hS => ?_)
        obtain ⟨g_16, eg_16⟩ : ∃ z : Nat → Int32, z = upd f_isDouble ((0 : Int32).toNatClampNeg) (vp_nar .boolean b) := ⟨_, rfl⟩
        rw [← eg_16] at hP hD
        have hP : va_P D vwCl [(h, .inr (11, [.int 0, .int 0, .int 0, .int 0, .int 0, .int 0, .int 0, .int 0, .int 0, .ref a_isPriest, .ref a_bars, .ref a_joined, .ref a_turns, .ref a_awayMonk, .ref a_awayFrom, .ref a_awayTo, .ref a_feastDay, .ref a_rank, .ref a_isWeekly, .ref a_isDouble, .ref a_giftDay, .ref a_giftFrom, .ref a_owed, .ref a_said, .ref a_spared, .ref a_leaveGift, .ref a_leaveFrom, .ref a_leaveTo, .ref a_lateDay, .ref a_lateOffice, .ref a_lateBy, .ref a_guests, .ref a_who, .ref a_used, .ref a_lacks, .ref a_candles, .ref a_masses, .ref a_owing, .ref a_heldOn, .ref a_waits, .ref a_tape, .ref a_text, .int 0, .int 0, .int 0, .int (-1), .int 0, .ref a_statements, .ref a_taken, .ref a_sort, .ref a_first, .ref a_second, .int 0, .int 0])), (a_isWeekly, .inl (cZ, 40, .inl g_14)), (a_isDouble, .inl (cZ, 40, .inl g_16)), (a_giftDay, .inl (cI, 40, .inl g_15)), (a_giftFrom, .inl (cI, 40, .inl f_giftFrom))] H := hP
        have hD : va_D A [(h, .inr (11, [.int 0, .int 0, .int 0, .int 0, .int 0, .int 0, .int 0, .int 0, .int 0, .ref a_isPriest, .ref a_bars, .ref a_joined, .ref a_turns, .ref a_awayMonk, .ref a_awayFrom, .ref a_awayTo, .ref a_feastDay, .ref a_rank, .ref a_isWeekly, .ref a_isDouble, .ref a_giftDay, .ref a_giftFrom, .ref a_owed, .ref a_said, .ref a_spared, .ref a_leaveGift, .ref a_leaveFrom, .ref a_leaveTo, .ref a_lateDay, .ref a_lateOffice, .ref a_lateBy, .ref a_guests, .ref a_who, .ref a_used, .ref a_lacks, .ref a_candles, .ref a_masses, .ref a_owing, .ref a_heldOn, .ref a_waits, .ref a_tape, .ref a_text, .int 0, .int 0, .int 0, .int (-1), .int 0, .ref a_statements, .ref a_taken, .ref a_sort, .ref a_first, .ref a_second, .int 0, .int 0])), (a_isWeekly, .inl (cZ, 40, .inl g_14)), (a_isDouble, .inl (cZ, 40, .inl g_16)), (a_giftDay, .inl (cI, 40, .inl g_15)), (a_giftFrom, .inl (cI, 40, .inl f_giftFrom))] := hD
        refine lv_aload_n hx hb dX12_gift_61 rfl (lv_at hl 0 rfl) ?_
        refine va_get (D := D) (ci := 11) (v := .ref a_giftFrom) (C := RX12) (T := TX12) (N := 54) hx hb hts in_q_gift_X12 hown hK.1 hP 0 rfl rfl 21 (by decide) lk4 (fun _ h9 => h9) rfl dX12_gift_62 ?_
        refine lv_aload_n hx hb dX12_gift_65 rfl (lv_at hl 0 rfl) ?_
        refine va_get (D := D) (ci := 11) (v := .int 0) (C := RX12) (T := TX12) (N := 54) hx hb hts in_q_gift_X12 hown hK.1 hP 0 rfl rfl 4 (by decide) lk0 (fun _ h9 => h9) rfl dX12_gift_66 ?_
        refine lv_aload_n hx hb dX12_gift_69 rfl (lv_at hl 0 rfl) ?_
        refine va_get (D := D) (ci := 11) (v := .int 0) (C := RX12) (T := TX12) (N := 54) hx hb hts in_q_gift_X12 hown hK.1 hP 0 rfl rfl 0 (by decide) lk5 (fun _ h9 => h9) rfl dX12_gift_70 ?_
        refine va_iast hx hb hK.1 hP hD hS 4 0 rfl rfl (t_in (by omega) (by omega)) dX12_gift_73 (fun H locs hP hD hS => ?_)
        obtain ⟨g_17, eg_17⟩ : ∃ z : Nat → Int32, z = upd f_giftFrom ((0 : Int32).toNatClampNeg) 0 := ⟨_, rfl⟩
        rw [← eg_17] at hP hD
        have hP : va_P D vwCl [(h, .inr (11, [.int 0, .int 0, .int 0, .int 0, .int 0, .int 0, .int 0, .int 0, .int 0, .ref a_isPriest, .ref a_bars, .ref a_joined, .ref a_turns, .ref a_awayMonk, .ref a_awayFrom, .ref a_awayTo, .ref a_feastDay, .ref a_rank, .ref a_isWeekly, .ref a_isDouble, .ref a_giftDay, .ref a_giftFrom, .ref a_owed, .ref a_said, .ref a_spared, .ref a_leaveGift, .ref a_leaveFrom, .ref a_leaveTo, .ref a_lateDay, .ref a_lateOffice, .ref a_lateBy, .ref a_guests, .ref a_who, .ref a_used, .ref a_lacks, .ref a_candles, .ref a_masses, .ref a_owing, .ref a_heldOn, .ref a_waits, .ref a_tape, .ref a_text, .int 0, .int 0, .int 0, .int (-1), .int 0, .ref a_statements, .ref a_taken, .ref a_sort, .ref a_first, .ref a_second, .int 0, .int 0])), (a_isWeekly, .inl (cZ, 40, .inl g_14)), (a_isDouble, .inl (cZ, 40, .inl g_16)), (a_giftDay, .inl (cI, 40, .inl g_15)), (a_giftFrom, .inl (cI, 40, .inl g_17))] H := hP
        have hD : va_D A [(h, .inr (11, [.int 0, .int 0, .int 0, .int 0, .int 0, .int 0, .int 0, .int 0, .int 0, .ref a_isPriest, .ref a_bars, .ref a_joined, .ref a_turns, .ref a_awayMonk, .ref a_awayFrom, .ref a_awayTo, .ref a_feastDay, .ref a_rank, .ref a_isWeekly, .ref a_isDouble, .ref a_giftDay, .ref a_giftFrom, .ref a_owed, .ref a_said, .ref a_spared, .ref a_leaveGift, .ref a_leaveFrom, .ref a_leaveTo, .ref a_lateDay, .ref a_lateOffice, .ref a_lateBy, .ref a_guests, .ref a_who, .ref a_used, .ref a_lacks, .ref a_candles, .ref a_masses, .ref a_owing, .ref a_heldOn, .ref a_waits, .ref a_tape, .ref a_text, .int 0, .int 0, .int 0, .int (-1), .int 0, .ref a_statements, .ref a_taken, .ref a_sort, .ref a_first, .ref a_second, .int 0, .int 0])), (a_isWeekly, .inl (cZ, 40, .inl g_14)), (a_isDouble, .inl (cZ, 40, .inl g_16)), (a_giftDay, .inl (cI, 40, .inl g_15)), (a_giftFrom, .inl (cI, 40, .inl g_17))] := hD
        refine lv_aload_n hx hb dX12_gift_74 rfl (lv_at hl 0 rfl) ?_
        refine lv_dup hx hb dX12_gift_75 rfl ?_
        refine va_get (D := D) (ci := 11) (v := .int 0) (C := RX12) (T := TX12) (N := 54) hx hb hts in_q_gift_X12 hown hK.1 hP 0 rfl rfl 4 (by decide) lk0 (fun _ h9 => h9) rfl dX12_gift_76 ?_
        refine lv_iconst (v := 1) hx hb dX12_gift_79 (by decide) ?_
        refine lv_iadd hx hb dX12_gift_80 ?_
        refine lv_topi (fun x_18 ex_18 => ?_)
        first | have tx_18 := t_add ex_18 (by omega) (by omega) | skip
        refine va_put (D := D) (ci := 11) (v := .int x_18) (ty := .int) (C := RX12) (T := TX12) (N := 54) hx hb hts in_q_gift_X12 tyX12 tyX12_ok nmX12 hown hK.1 hP hD hS 0 rfl rfl 4 (by decide) lk0 (fun _ h9 => h9) rfl (by decide +kernel) rfl rfl (Nat.le_of_ble_eq_true rfl) dX12_gift_81 (fun H locs hP hD hS => ?_)
        have hP : va_P D vwCl [(h, .inr (11, [.int 0, .int 0, .int 0, .int 0, .int x_18, .int 0, .int 0, .int 0, .int 0, .ref a_isPriest, .ref a_bars, .ref a_joined, .ref a_turns, .ref a_awayMonk, .ref a_awayFrom, .ref a_awayTo, .ref a_feastDay, .ref a_rank, .ref a_isWeekly, .ref a_isDouble, .ref a_giftDay, .ref a_giftFrom, .ref a_owed, .ref a_said, .ref a_spared, .ref a_leaveGift, .ref a_leaveFrom, .ref a_leaveTo, .ref a_lateDay, .ref a_lateOffice, .ref a_lateBy, .ref a_guests, .ref a_who, .ref a_used, .ref a_lacks, .ref a_candles, .ref a_masses, .ref a_owing, .ref a_heldOn, .ref a_waits, .ref a_tape, .ref a_text, .int 0, .int 0, .int 0, .int (-1), .int 0, .ref a_statements, .ref a_taken, .ref a_sort, .ref a_first, .ref a_second, .int 0, .int 0])), (a_isWeekly, .inl (cZ, 40, .inl g_14)), (a_isDouble, .inl (cZ, 40, .inl g_16)), (a_giftDay, .inl (cI, 40, .inl g_15)), (a_giftFrom, .inl (cI, 40, .inl g_17))] H := hP
        have hD : va_D A [(h, .inr (11, [.int 0, .int 0, .int 0, .int 0, .int x_18, .int 0, .int 0, .int 0, .int 0, .ref a_isPriest, .ref a_bars, .ref a_joined, .ref a_turns, .ref a_awayMonk, .ref a_awayFrom, .ref a_awayTo, .ref a_feastDay, .ref a_rank, .ref a_isWeekly, .ref a_isDouble, .ref a_giftDay, .ref a_giftFrom, .ref a_owed, .ref a_said, .ref a_spared, .ref a_leaveGift, .ref a_leaveFrom, .ref a_leaveTo, .ref a_lateDay, .ref a_lateOffice, .ref a_lateBy, .ref a_guests, .ref a_who, .ref a_used, .ref a_lacks, .ref a_candles, .ref a_masses, .ref a_owing, .ref a_heldOn, .ref a_waits, .ref a_tape, .ref a_text, .int 0, .int 0, .int 0, .int (-1), .int 0, .ref a_statements, .ref a_taken, .ref a_sort, .ref a_first, .ref a_second, .int 0, .int 0])), (a_isWeekly, .inl (cZ, 40, .inl g_14)), (a_isDouble, .inl (cZ, 40, .inl g_16)), (a_giftDay, .inl (cI, 40, .inl g_15)), (a_giftFrom, .inl (cI, 40, .inl g_17))] := hD
        refine lv_aload_n hx hb dX12_gift_84 rfl (lv_at hl 0 rfl) ?_
        refine va_get (D := D) (ci := 11) (v := .int x_18) (C := RX12) (T := TX12) (N := 54) hx hb hts in_q_gift_X12 hown hK.1 hP 0 rfl rfl 4 (by decide) lk0 (fun _ h9 => h9) rfl dX12_gift_85 ?_
        refine lv_iconst (v := 1) hx hb dX12_gift_88 (by decide) ?_
        refine lv_isub hx hb dX12_gift_89 ?_
        refine lv_topi (fun x_19 ex_19 => ?_)
        first | have tx_19 := t_sub ex_19 (by omega) (by omega) | skip
        exact hret x_19 (x_18, g_14, g_15, g_16, g_17) _ _ _ _ (by omega) rfl (hP.sub [0, 1, 2, 3, 4] rfl) (hD.sub [0, 1, 2, 3, 4] (by decide) rfl) hS dX12_gift_90
      · exact absurd c_13 (by decide)

set_option maxHeartbeats 8000000 in
set_option maxRecDepth 100000 in
theorem q_leave {l : Launch} {D : va_G} {cI cZ cB : ClassId} {h a_isPriest a_bars a_joined a_turns a_awayMonk a_awayFrom a_awayTo a_feastDay a_rank a_isWeekly a_isDouble a_giftDay a_giftFrom a_owed a_said a_spared a_leaveGift a_leaveFrom a_leaveTo a_lateDay a_lateOffice a_lateBy a_guests a_who a_used a_lacks a_candles a_masses a_owing a_heldOn a_waits a_tape a_text a_statements a_taken a_sort a_first a_second : Nat} {i a b : Int32}  : Met l yX12_leave wsX12_leave ({ frames := 2, cells := 0, slots := 0, locals := 43 }) (RO D cI cZ cB [.ref h, .int i, .int a, .int b] [(h, .inr (11, [.int 0, .int 0, .int 0, .int 0, .int 0, .int 0, .int 0, .int 0, .int 0, .ref a_isPriest, .ref a_bars, .ref a_joined, .ref a_turns, .ref a_awayMonk, .ref a_awayFrom, .ref a_awayTo, .ref a_feastDay, .ref a_rank, .ref a_isWeekly, .ref a_isDouble, .ref a_giftDay, .ref a_giftFrom, .ref a_owed, .ref a_said, .ref a_spared, .ref a_leaveGift, .ref a_leaveFrom, .ref a_leaveTo, .ref a_lateDay, .ref a_lateOffice, .ref a_lateBy, .ref a_guests, .ref a_who, .ref a_used, .ref a_lacks, .ref a_candles, .ref a_masses, .ref a_owing, .ref a_heldOn, .ref a_waits, .ref a_tape, .ref a_text, .int 0, .int 0, .int 0, .int (-1), .int 0, .ref a_statements, .ref a_taken, .ref a_sort, .ref a_first, .ref a_second, .int 0, .int 0]))]) (vp_Si (fun r : Int32 => r.toInt = -1)) 0 0 (fun _ => False) := by
  refine ro_ret (cc := cX12_leave) (maxL := 4) (ty := .int) (own := RX12) (by decide) rfl rfl (Nat.le_of_ble_eq_true rfl) ?_
  intro p e s m args below meth c Q S hret hP hK ls hl
  obtain ⟨hx, hb, hml, hown, hts⟩ := id S
  have hl : lv_has ls 4 [(0, .ref h), (1, .int i), (2, .int a), (3, .int b)] := hl
  have kkm1 : (-1 : Int32).toInt = -1 := by decide
  have kk0 : (0 : Int32).toInt = 0 := by decide
  have kk1 : (1 : Int32).toInt = 1 := by decide
  have kk40 : (40 : Int32).toInt = 40 := by decide
  refine lv_aload_n hx hb dX12_leave_0 rfl (lv_at hl 0 rfl) ?_
  refine lv_iload_n hx hb dX12_leave_1 rfl (lv_at hl 1 rfl) ?_
  have hPc := hP.sub (ws' := [(h, .inr (11, [.int 0, .int 0, .int 0, .int 0, .int 0, .int 0, .int 0, .int 0, .int 0, .ref a_isPriest, .ref a_bars, .ref a_joined, .ref a_turns, .ref a_awayMonk, .ref a_awayFrom, .ref a_awayTo, .ref a_feastDay, .ref a_rank, .ref a_isWeekly, .ref a_isDouble, .ref a_giftDay, .ref a_giftFrom, .ref a_owed, .ref a_said, .ref a_spared, .ref a_leaveGift, .ref a_leaveFrom, .ref a_leaveTo, .ref a_lateDay, .ref a_lateOffice, .ref a_lateBy, .ref a_guests, .ref a_who, .ref a_used, .ref a_lacks, .ref a_candles, .ref a_masses, .ref a_owing, .ref a_heldOn, .ref a_waits, .ref a_tape, .ref a_text, .int 0, .int 0, .int 0, .int (-1), .int 0, .ref a_statements, .ref a_taken, .ref a_sort, .ref a_first, .ref a_second, .int 0, .int 0]))]) [0] rfl
  refine roV (As := [.int i]) (rest := []) S (m_isGift  ) (cwV 1 hts gX12_leave_X12_isGift rfl rfl rfl (by decide +kernel) ⟨Nat.le_of_ble_eq_true rfl, Nat.le_of_ble_eq_true rfl⟩) hK hPc (va_recv hK.1 hPc (ci := 11) (q0 := 0) rfl rfl) rfl hl.1 rfl (Nat.le_of_ble_eq_true rfl) dX12_leave_2 ⟨Nat.le_of_ble_eq_true rfl, Nat.le_of_ble_eq_true rfl⟩ (fun r_1 hw_1 => ?_)
  have hw_1 : r_1.toInt = 0 := hw_1
  refine lv_if_eq (tgt := 33) hx hb dX12_leave_5 (by decide) (fun c_2 => ?_) (fun c_2 => ?_)
  · have tc_2 := t_eq c_2
    refine lv_iconst (v := (-1)) hx hb dX12_leave_33 (by decide) ?_
    exact hret (-1) _ _ (by omega) rfl dX12_leave_34
  · have tc_2 := t_ne c_2
    exfalso; omega

set_option maxHeartbeats 8000000 in
set_option maxRecDepth 100000 in
theorem q_giftOf {l : Launch} {D : va_G} {cI cZ cB : ClassId} {h a_isPriest a_bars a_joined a_turns a_awayMonk a_awayFrom a_awayTo a_feastDay a_rank a_isWeekly a_isDouble a_giftDay a_giftFrom a_owed a_said a_spared a_leaveGift a_leaveFrom a_leaveTo a_lateDay a_lateOffice a_lateBy a_guests a_who a_used a_lacks a_candles a_masses a_owing a_heldOn a_waits a_tape a_text a_statements a_taken a_sort a_first a_second : Nat} {i w : Int32}  : Met l yX12_giftOf wsX12_giftOf ({ frames := 2, cells := 0, slots := 0, locals := 43 }) (RO D cI cZ cB [.ref h, .int i, .int w] [(h, .inr (11, [.int 0, .int 0, .int 0, .int 0, .int 0, .int 0, .int 0, .int 0, .int 0, .ref a_isPriest, .ref a_bars, .ref a_joined, .ref a_turns, .ref a_awayMonk, .ref a_awayFrom, .ref a_awayTo, .ref a_feastDay, .ref a_rank, .ref a_isWeekly, .ref a_isDouble, .ref a_giftDay, .ref a_giftFrom, .ref a_owed, .ref a_said, .ref a_spared, .ref a_leaveGift, .ref a_leaveFrom, .ref a_leaveTo, .ref a_lateDay, .ref a_lateOffice, .ref a_lateBy, .ref a_guests, .ref a_who, .ref a_used, .ref a_lacks, .ref a_candles, .ref a_masses, .ref a_owing, .ref a_heldOn, .ref a_waits, .ref a_tape, .ref a_text, .int 0, .int 0, .int 0, .int (-1), .int 0, .ref a_statements, .ref a_taken, .ref a_sort, .ref a_first, .ref a_second, .int 0, .int 0]))]) (vp_Si (fun r : Int32 => r.toInt = -1)) 0 0 (fun _ => False) := by
  refine ro_ret (cc := cX12_giftOf) (maxL := 3) (ty := .int) (own := RX12) (by decide) rfl rfl (Nat.le_of_ble_eq_true rfl) ?_
  intro p e s m args below meth c Q S hret hP hK ls hl
  obtain ⟨hx, hb, hml, hown, hts⟩ := id S
  have hl : lv_has ls 3 [(0, .ref h), (1, .int i), (2, .int w)] := hl
  have kkm1 : (-1 : Int32).toInt = -1 := by decide
  have kk0 : (0 : Int32).toInt = 0 := by decide
  have kk1 : (1 : Int32).toInt = 1 := by decide
  have kk2 : (2 : Int32).toInt = 2 := by decide
  refine lv_aload_n hx hb dX12_giftOf_0 rfl (lv_at hl 0 rfl) ?_
  refine lv_iload_n hx hb dX12_giftOf_1 rfl (lv_at hl 1 rfl) ?_
  have hPc := hP.sub (ws' := [(h, .inr (11, [.int 0, .int 0, .int 0, .int 0, .int 0, .int 0, .int 0, .int 0, .int 0, .ref a_isPriest, .ref a_bars, .ref a_joined, .ref a_turns, .ref a_awayMonk, .ref a_awayFrom, .ref a_awayTo, .ref a_feastDay, .ref a_rank, .ref a_isWeekly, .ref a_isDouble, .ref a_giftDay, .ref a_giftFrom, .ref a_owed, .ref a_said, .ref a_spared, .ref a_leaveGift, .ref a_leaveFrom, .ref a_leaveTo, .ref a_lateDay, .ref a_lateOffice, .ref a_lateBy, .ref a_guests, .ref a_who, .ref a_used, .ref a_lacks, .ref a_candles, .ref a_masses, .ref a_owing, .ref a_heldOn, .ref a_waits, .ref a_tape, .ref a_text, .int 0, .int 0, .int 0, .int (-1), .int 0, .ref a_statements, .ref a_taken, .ref a_sort, .ref a_first, .ref a_second, .int 0, .int 0]))]) [0] rfl
  refine roV (As := [.int i]) (rest := []) S (m_isGift  ) (cwV 1 hts gX12_giftOf_X12_isGift rfl rfl rfl (by decide +kernel) ⟨Nat.le_of_ble_eq_true rfl, Nat.le_of_ble_eq_true rfl⟩) hK hPc (va_recv hK.1 hPc (ci := 11) (q0 := 0) rfl rfl) rfl hl.1 rfl (Nat.le_of_ble_eq_true rfl) dX12_giftOf_2 ⟨Nat.le_of_ble_eq_true rfl, Nat.le_of_ble_eq_true rfl⟩ (fun r_1 hw_1 => ?_)
  have hw_1 : r_1.toInt = 0 := hw_1
  refine lv_if_ne (tgt := 12) hx hb dX12_giftOf_5 (by decide) (fun c_2 => ?_) (fun c_2 => ?_)
  · have tc_2 := t_ne c_2
    exfalso; omega
  · have tc_2 := t_eq c_2
    refine lv_iconst (v := (-1)) hx hb dX12_giftOf_8 (by decide) ?_
    refine lv_goto (tgt := 54) hx hb dX12_giftOf_9 (by decide) ?_
    exact hret (-1) _ _ (by omega) rfl dX12_giftOf_54

theorem in_q_store_X12 : ∀ w ∈ wsX120, w ∈ wsX12_store := by decide +kernel
set_option maxHeartbeats 8000000 in
set_option maxRecDepth 100000 in
theorem q_store {l : Launch} {D : va_G} {cI cZ cB : ClassId} {sz : Nat} {h a_isPriest a_bars a_joined a_turns a_awayMonk a_awayFrom a_awayTo a_feastDay a_rank a_isWeekly a_isDouble a_giftDay a_giftFrom a_owed a_said a_spared a_leaveGift a_leaveFrom a_leaveTo a_lateDay a_lateOffice a_lateBy a_guests a_who a_used a_lacks a_candles a_masses a_owing a_heldOn a_waits a_tape a_text a_statements a_taken a_sort a_first a_second : Nat} {x : Int32}  : Met l yX12_store wsX12_store ({ frames := 1, cells := 0, slots := 0, locals := 22 }) (RW D cI cZ cB [.ref h, .int x] sz [(h, .inr (11, [.int 0, .int 0, .int 0, .int 0, .int 0, .int 0, .int 0, .int 0, .int 0, .ref a_isPriest, .ref a_bars, .ref a_joined, .ref a_turns, .ref a_awayMonk, .ref a_awayFrom, .ref a_awayTo, .ref a_feastDay, .ref a_rank, .ref a_isWeekly, .ref a_isDouble, .ref a_giftDay, .ref a_giftFrom, .ref a_owed, .ref a_said, .ref a_spared, .ref a_leaveGift, .ref a_leaveFrom, .ref a_leaveTo, .ref a_lateDay, .ref a_lateOffice, .ref a_lateBy, .ref a_guests, .ref a_who, .ref a_used, .ref a_lacks, .ref a_candles, .ref a_masses, .ref a_owing, .ref a_heldOn, .ref a_waits, .ref a_tape, .ref a_text, .int 0, .int 0, .int 0, .int (-1), .int 0, .ref a_statements, .ref a_taken, .ref a_sort, .ref a_first, .ref a_second, .int 0, .int 0]))]) (va_Qi (fun (r : Int32) (u : Int32) => (0 ≤ x.toInt ∧ x.toInt ≤ 10000 → r.toInt = x.toInt) ∧ (¬ (0 ≤ x.toInt ∧ x.toInt ≤ 10000) → r.toInt = -1)) (BW D [(h, .inr (11, [.int 0, .int 0, .int 0, .int 0, .int 0, .int 0, .int 0, .int 0, .int 0, .ref a_isPriest, .ref a_bars, .ref a_joined, .ref a_turns, .ref a_awayMonk, .ref a_awayFrom, .ref a_awayTo, .ref a_feastDay, .ref a_rank, .ref a_isWeekly, .ref a_isDouble, .ref a_giftDay, .ref a_giftFrom, .ref a_owed, .ref a_said, .ref a_spared, .ref a_leaveGift, .ref a_leaveFrom, .ref a_leaveTo, .ref a_lateDay, .ref a_lateOffice, .ref a_lateBy, .ref a_guests, .ref a_who, .ref a_used, .ref a_lacks, .ref a_candles, .ref a_masses, .ref a_owing, .ref a_heldOn, .ref a_waits, .ref a_tape, .ref a_text, .int 0, .int 0, .int 0, .int (-1), .int 0, .ref a_statements, .ref a_taken, .ref a_sort, .ref a_first, .ref a_second, .int 0, .int 0]))] sz (fun u : Int32 => [(h, .inr (11, [.int 0, .int 0, .int 0, .int 0, .int 0, .int 0, .int 0, .int u, .int 0, .ref a_isPriest, .ref a_bars, .ref a_joined, .ref a_turns, .ref a_awayMonk, .ref a_awayFrom, .ref a_awayTo, .ref a_feastDay, .ref a_rank, .ref a_isWeekly, .ref a_isDouble, .ref a_giftDay, .ref a_giftFrom, .ref a_owed, .ref a_said, .ref a_spared, .ref a_leaveGift, .ref a_leaveFrom, .ref a_leaveTo, .ref a_lateDay, .ref a_lateOffice, .ref a_lateBy, .ref a_guests, .ref a_who, .ref a_used, .ref a_lacks, .ref a_candles, .ref a_masses, .ref a_owing, .ref a_heldOn, .ref a_waits, .ref a_tape, .ref a_text, .int 0, .int 0, .int 0, .int (-1), .int 0, .ref a_statements, .ref a_taken, .ref a_sort, .ref a_first, .ref a_second, .int 0, .int 0]))])) (va_A [(h, .inr (11, [.int 0, .int 0, .int 0, .int 0, .int 0, .int 0, .int 0, .int 0, .int 0, .ref a_isPriest, .ref a_bars, .ref a_joined, .ref a_turns, .ref a_awayMonk, .ref a_awayFrom, .ref a_awayTo, .ref a_feastDay, .ref a_rank, .ref a_isWeekly, .ref a_isDouble, .ref a_giftDay, .ref a_giftFrom, .ref a_owed, .ref a_said, .ref a_spared, .ref a_leaveGift, .ref a_leaveFrom, .ref a_leaveTo, .ref a_lateDay, .ref a_lateOffice, .ref a_lateBy, .ref a_guests, .ref a_who, .ref a_used, .ref a_lacks, .ref a_candles, .ref a_masses, .ref a_owing, .ref a_heldOn, .ref a_waits, .ref a_tape, .ref a_text, .int 0, .int 0, .int 0, .int (-1), .int 0, .ref a_statements, .ref a_taken, .ref a_sort, .ref a_first, .ref a_second, .int 0, .int 0]))] sz)) 0 0 (va_A [(h, .inr (11, [.int 0, .int 0, .int 0, .int 0, .int 0, .int 0, .int 0, .int 0, .int 0, .ref a_isPriest, .ref a_bars, .ref a_joined, .ref a_turns, .ref a_awayMonk, .ref a_awayFrom, .ref a_awayTo, .ref a_feastDay, .ref a_rank, .ref a_isWeekly, .ref a_isDouble, .ref a_giftDay, .ref a_giftFrom, .ref a_owed, .ref a_said, .ref a_spared, .ref a_leaveGift, .ref a_leaveFrom, .ref a_leaveTo, .ref a_lateDay, .ref a_lateOffice, .ref a_lateBy, .ref a_guests, .ref a_who, .ref a_used, .ref a_lacks, .ref a_candles, .ref a_masses, .ref a_owing, .ref a_heldOn, .ref a_waits, .ref a_tape, .ref a_text, .int 0, .int 0, .int 0, .int (-1), .int 0, .ref a_statements, .ref a_taken, .ref a_sort, .ref a_first, .ref a_second, .int 0, .int 0]))] sz) := by
  refine rw_ret (cc := cX12_store) (maxL := 2) (ty := .int) (own := RX12) (by decide) rfl rfl (Nat.le_of_ble_eq_true rfl) ?_
  intro p e s m args below meth c Q A S hin hret hP hK hD hA hS ls hl
  obtain ⟨hx, hb, hml, hown, hts⟩ := id S
  have hl : lv_has ls 2 [(0, .ref h), (1, .int x)] := hl
  have kkm1 : (-1 : Int32).toInt = -1 := by decide
  have kk0 : (0 : Int32).toInt = 0 := by decide
  have kk10000 : (10000 : Int32).toInt = 10000 := by decide
  have kk1000000 : (1000000 : Int32).toInt = 1000000 := by decide
  have lk0 := hts (.fieldLink RX12 264 "AbbeyHoursModel" "store" "I") (by decide +kernel)
  have lk1 := hts (.constant RX12 267 (1000000)) (by decide +kernel)
  refine lv_iload_n hx hb dX12_store_0 rfl (lv_at hl 1 rfl) ?_
  refine lv_iconst (v := 0) hx hb dX12_store_1 (by decide) ?_
  refine lv_sipush (v := 10000) hx hb dX12_store_2 (by decide) ?_
  have hPc := hP.sub (ws' := []) [] rfl
  refine roS (As := [.int x, .int 0, .int 10000]) (rest := []) S (m_isIn  ) (va_cwS 3 hts gX12_store_X12_isIn rfl rfl rfl (by decide +kernel) ⟨Nat.le_of_ble_eq_true rfl, Nat.le_of_ble_eq_true rfl⟩) hK hPc rfl hl.1 rfl (Nat.le_of_ble_eq_true rfl) dX12_store_5 ⟨Nat.le_of_ble_eq_true rfl, Nat.le_of_ble_eq_true rfl⟩ (fun r_1 hw_1 => ?_)
  have hw_1 : (r_1.toInt = 1 ∧ (0 : Int32).toInt ≤ x.toInt ∧ x.toInt ≤ (10000 : Int32).toInt) ∨ (r_1.toInt = 0 ∧ (x.toInt < (0 : Int32).toInt ∨ (10000 : Int32).toInt < x.toInt)) := hw_1
  refine lv_if_eq (tgt := 23) hx hb dX12_store_8 (by decide) (fun c_2 => ?_) (fun c_2 => ?_)
  · have tc_2 := t_eq c_2
    refine lv_iconst (v := (-1)) hx hb dX12_store_23 (by decide) ?_
    exact hret (-1) 0 _ _ _ _ (by omega) rfl (hP.sub [0] rfl) (hD.sub [0] (by decide) rfl) hS dX12_store_24
  · have tc_2 := t_ne c_2
    refine lv_aload_n hx hb dX12_store_11 rfl (lv_at hl 0 rfl) ?_
    refine va_get (D := D) (ci := 11) (v := .int 0) (C := RX12) (T := TX12) (N := 54) hx hb hts in_q_store_X12 hown hK.1 hP 0 rfl rfl 7 (by decide) lk0 (fun _ h9 => h9) rfl dX12_store_12 ?_
    refine lv_iload_n hx hb dX12_store_15 rfl (lv_at hl 1 rfl) ?_
    refine lv_iadd hx hb dX12_store_16 ?_
    refine lv_topi (fun x_3 ex_3 => ?_)
    first | have tx_3 := t_add ex_3 (by omega) (by omega) | skip
    refine lv_ldcw (v := 1000000) hx hb hown lk1 dX12_store_17 ?_
    refine lv_icmp_le (tgt := 25) hx hb dX12_store_20 (by decide) (fun c_4 => ?_) (fun c_4 => ?_)
    · have tc_4 := t_le c_4
      refine lv_aload_n hx hb dX12_store_25 rfl (lv_at hl 0 rfl) ?_
      refine lv_dup hx hb dX12_store_26 rfl ?_
      refine va_get (D := D) (ci := 11) (v := .int 0) (C := RX12) (T := TX12) (N := 54) hx hb hts in_q_store_X12 hown hK.1 hP 0 rfl rfl 7 (by decide) lk0 (fun _ h9 => h9) rfl dX12_store_27 ?_
      refine lv_iload_n hx hb dX12_store_30 rfl (lv_at hl 1 rfl) ?_
      refine lv_iadd hx hb dX12_store_31 ?_
      refine lv_topi (fun x_5 ex_5 => ?_)
      first | have tx_5 := t_add ex_5 (by omega) (by omega) | skip
      refine va_put (D := D) (ci := 11) (v := .int x_5) (ty := .int) (C := RX12) (T := TX12) (N := 54) hx hb hts in_q_store_X12 tyX12 tyX12_ok nmX12 hown hK.1 hP hD hS 0 rfl rfl 7 (by decide) lk0 (fun _ h9 => h9) rfl (by decide +kernel) rfl rfl (Nat.le_of_ble_eq_true rfl) dX12_store_32 (fun H locs hP hD hS => ?_)
      have hP : va_P D vwCl [(h, .inr (11, [.int 0, .int 0, .int 0, .int 0, .int 0, .int 0, .int 0, .int x_5, .int 0, .ref a_isPriest, .ref a_bars, .ref a_joined, .ref a_turns, .ref a_awayMonk, .ref a_awayFrom, .ref a_awayTo, .ref a_feastDay, .ref a_rank, .ref a_isWeekly, .ref a_isDouble, .ref a_giftDay, .ref a_giftFrom, .ref a_owed, .ref a_said, .ref a_spared, .ref a_leaveGift, .ref a_leaveFrom, .ref a_leaveTo, .ref a_lateDay, .ref a_lateOffice, .ref a_lateBy, .ref a_guests, .ref a_who, .ref a_used, .ref a_lacks, .ref a_candles, .ref a_masses, .ref a_owing, .ref a_heldOn, .ref a_waits, .ref a_tape, .ref a_text, .int 0, .int 0, .int 0, .int (-1), .int 0, .ref a_statements, .ref a_taken, .ref a_sort, .ref a_first, .ref a_second, .int 0, .int 0]))] H := hP
      have hD : va_D A [(h, .inr (11, [.int 0, .int 0, .int 0, .int 0, .int 0, .int 0, .int 0, .int x_5, .int 0, .ref a_isPriest, .ref a_bars, .ref a_joined, .ref a_turns, .ref a_awayMonk, .ref a_awayFrom, .ref a_awayTo, .ref a_feastDay, .ref a_rank, .ref a_isWeekly, .ref a_isDouble, .ref a_giftDay, .ref a_giftFrom, .ref a_owed, .ref a_said, .ref a_spared, .ref a_leaveGift, .ref a_leaveFrom, .ref a_leaveTo, .ref a_lateDay, .ref a_lateOffice, .ref a_lateBy, .ref a_guests, .ref a_who, .ref a_used, .ref a_lacks, .ref a_candles, .ref a_masses, .ref a_owing, .ref a_heldOn, .ref a_waits, .ref a_tape, .ref a_text, .int 0, .int 0, .int 0, .int (-1), .int 0, .ref a_statements, .ref a_taken, .ref a_sort, .ref a_first, .ref a_second, .int 0, .int 0]))] := hD
      refine lv_aload_n hx hb dX12_store_35 rfl (lv_at hl 0 rfl) ?_
      refine va_get (D := D) (ci := 11) (v := .int x_5) (C := RX12) (T := TX12) (N := 54) hx hb hts in_q_store_X12 hown hK.1 hP 0 rfl rfl 7 (by decide) lk0 (fun _ h9 => h9) rfl dX12_store_36 ?_
      exact hret x_5 x_5 _ _ _ _ (by omega) rfl (hP.sub [0] rfl) (hD.sub [0] (by decide) rfl) hS dX12_store_39
    · have tc_4 := t_nle c_4
      refine lv_iconst (v := (-1)) hx hb dX12_store_23 (by decide) ?_
      exact hret (-1) 0 _ _ _ _ (by omega) rfl (hP.sub [0] rfl) (hD.sub [0] (by decide) rfl) hS dX12_store_24

theorem in_q_guests_X12 : ∀ w ∈ wsX120, w ∈ wsX12_guests := by decide +kernel
set_option maxHeartbeats 8000000 in
set_option maxRecDepth 100000 in
theorem q_guests {l : Launch} {D : va_G} {cI cZ cB : ClassId} {sz : Nat} {h a_isPriest a_bars a_joined a_turns a_awayMonk a_awayFrom a_awayTo a_feastDay a_rank a_isWeekly a_isDouble a_giftDay a_giftFrom a_owed a_said a_spared a_leaveGift a_leaveFrom a_leaveTo a_lateDay a_lateOffice a_lateBy a_guests a_who a_used a_lacks a_candles a_masses a_owing a_heldOn a_waits a_tape a_text a_statements a_taken a_sort a_first a_second : Nat} {x k : Int32}  : Met l yX12_guests wsX12_guests ({ frames := 1, cells := 0, slots := 0, locals := 22 }) (RW D cI cZ cB [.ref h, .int x, .int k] sz [(h, .inr (11, [.int 0, .int 0, .int 0, .int 0, .int 0, .int 0, .int 0, .int 0, .int 0, .ref a_isPriest, .ref a_bars, .ref a_joined, .ref a_turns, .ref a_awayMonk, .ref a_awayFrom, .ref a_awayTo, .ref a_feastDay, .ref a_rank, .ref a_isWeekly, .ref a_isDouble, .ref a_giftDay, .ref a_giftFrom, .ref a_owed, .ref a_said, .ref a_spared, .ref a_leaveGift, .ref a_leaveFrom, .ref a_leaveTo, .ref a_lateDay, .ref a_lateOffice, .ref a_lateBy, .ref a_guests, .ref a_who, .ref a_used, .ref a_lacks, .ref a_candles, .ref a_masses, .ref a_owing, .ref a_heldOn, .ref a_waits, .ref a_tape, .ref a_text, .int 0, .int 0, .int 0, .int (-1), .int 0, .ref a_statements, .ref a_taken, .ref a_sort, .ref a_first, .ref a_second, .int 0, .int 0])), (a_guests, .inl (cI, 6, .inl (fun _ => 0)))]) (va_Qi (fun (r : Int32) (u : Nat → Int32) => ((1 ≤ x.toInt ∧ x.toInt ≤ 50 ∧ 0 ≤ k.toInt ∧ k.toInt ≤ 5) → r.toInt = x.toInt) ∧ (¬ (1 ≤ x.toInt ∧ x.toInt ≤ 50 ∧ 0 ≤ k.toInt ∧ k.toInt ≤ 5) → r.toInt = -1)) (BW D [(h, .inr (11, [.int 0, .int 0, .int 0, .int 0, .int 0, .int 0, .int 0, .int 0, .int 0, .ref a_isPriest, .ref a_bars, .ref a_joined, .ref a_turns, .ref a_awayMonk, .ref a_awayFrom, .ref a_awayTo, .ref a_feastDay, .ref a_rank, .ref a_isWeekly, .ref a_isDouble, .ref a_giftDay, .ref a_giftFrom, .ref a_owed, .ref a_said, .ref a_spared, .ref a_leaveGift, .ref a_leaveFrom, .ref a_leaveTo, .ref a_lateDay, .ref a_lateOffice, .ref a_lateBy, .ref a_guests, .ref a_who, .ref a_used, .ref a_lacks, .ref a_candles, .ref a_masses, .ref a_owing, .ref a_heldOn, .ref a_waits, .ref a_tape, .ref a_text, .int 0, .int 0, .int 0, .int (-1), .int 0, .ref a_statements, .ref a_taken, .ref a_sort, .ref a_first, .ref a_second, .int 0, .int 0])), (a_guests, .inl (cI, 6, .inl (fun _ => 0)))] sz (fun u : Nat → Int32 => [(h, .inr (11, [.int 0, .int 0, .int 0, .int 0, .int 0, .int 0, .int 0, .int 0, .int 0, .ref a_isPriest, .ref a_bars, .ref a_joined, .ref a_turns, .ref a_awayMonk, .ref a_awayFrom, .ref a_awayTo, .ref a_feastDay, .ref a_rank, .ref a_isWeekly, .ref a_isDouble, .ref a_giftDay, .ref a_giftFrom, .ref a_owed, .ref a_said, .ref a_spared, .ref a_leaveGift, .ref a_leaveFrom, .ref a_leaveTo, .ref a_lateDay, .ref a_lateOffice, .ref a_lateBy, .ref a_guests, .ref a_who, .ref a_used, .ref a_lacks, .ref a_candles, .ref a_masses, .ref a_owing, .ref a_heldOn, .ref a_waits, .ref a_tape, .ref a_text, .int 0, .int 0, .int 0, .int (-1), .int 0, .ref a_statements, .ref a_taken, .ref a_sort, .ref a_first, .ref a_second, .int 0, .int 0])), (a_guests, .inl (cI, 6, .inl u))])) (va_A [(h, .inr (11, [.int 0, .int 0, .int 0, .int 0, .int 0, .int 0, .int 0, .int 0, .int 0, .ref a_isPriest, .ref a_bars, .ref a_joined, .ref a_turns, .ref a_awayMonk, .ref a_awayFrom, .ref a_awayTo, .ref a_feastDay, .ref a_rank, .ref a_isWeekly, .ref a_isDouble, .ref a_giftDay, .ref a_giftFrom, .ref a_owed, .ref a_said, .ref a_spared, .ref a_leaveGift, .ref a_leaveFrom, .ref a_leaveTo, .ref a_lateDay, .ref a_lateOffice, .ref a_lateBy, .ref a_guests, .ref a_who, .ref a_used, .ref a_lacks, .ref a_candles, .ref a_masses, .ref a_owing, .ref a_heldOn, .ref a_waits, .ref a_tape, .ref a_text, .int 0, .int 0, .int 0, .int (-1), .int 0, .ref a_statements, .ref a_taken, .ref a_sort, .ref a_first, .ref a_second, .int 0, .int 0])), (a_guests, .inl (cI, 6, .inl (fun _ => 0)))] sz)) 0 0 (va_A [(h, .inr (11, [.int 0, .int 0, .int 0, .int 0, .int 0, .int 0, .int 0, .int 0, .int 0, .ref a_isPriest, .ref a_bars, .ref a_joined, .ref a_turns, .ref a_awayMonk, .ref a_awayFrom, .ref a_awayTo, .ref a_feastDay, .ref a_rank, .ref a_isWeekly, .ref a_isDouble, .ref a_giftDay, .ref a_giftFrom, .ref a_owed, .ref a_said, .ref a_spared, .ref a_leaveGift, .ref a_leaveFrom, .ref a_leaveTo, .ref a_lateDay, .ref a_lateOffice, .ref a_lateBy, .ref a_guests, .ref a_who, .ref a_used, .ref a_lacks, .ref a_candles, .ref a_masses, .ref a_owing, .ref a_heldOn, .ref a_waits, .ref a_tape, .ref a_text, .int 0, .int 0, .int 0, .int (-1), .int 0, .ref a_statements, .ref a_taken, .ref a_sort, .ref a_first, .ref a_second, .int 0, .int 0])), (a_guests, .inl (cI, 6, .inl (fun _ => 0)))] sz) := by
  refine rw_ret (cc := cX12_guests) (maxL := 3) (ty := .int) (own := RX12) (by decide) rfl rfl (Nat.le_of_ble_eq_true rfl) ?_
  intro p e s m args below meth c Q A S hin hret hP hK hD hA hS ls hl
  obtain ⟨hx, hb, hml, hown, hts⟩ := id S
  have hl : lv_has ls 3 [(0, .ref h), (1, .int x), (2, .int k)] := hl
  have kkm1 : (-1 : Int32).toInt = -1 := by decide
  have kk0 : (0 : Int32).toInt = 0 := by decide
  have kk1 : (1 : Int32).toInt = 1 := by decide
  have kk5 : (5 : Int32).toInt = 5 := by decide
  have kk50 : (50 : Int32).toInt = 50 := by decide
  have kk200 : (200 : Int32).toInt = 200 := by decide
  have lk0 := hts (.fieldLink RX12 77 "AbbeyHoursModel" "guests" "[I") (by decide +kernel)
  refine lv_iload_n hx hb dX12_guests_0 rfl (lv_at hl 1 rfl) ?_
  refine lv_iconst (v := 1) hx hb dX12_guests_1 (by decide) ?_
  refine lv_bipush (v := 50) hx hb dX12_guests_2 (by decide) ?_
  have hPc := hP.sub (ws' := []) [] rfl
  refine roS (As := [.int x, .int 1, .int 50]) (rest := []) S (m_isIn  ) (va_cwS 3 hts gX12_guests_X12_isIn rfl rfl rfl (by decide +kernel) ⟨Nat.le_of_ble_eq_true rfl, Nat.le_of_ble_eq_true rfl⟩) hK hPc rfl hl.1 rfl (Nat.le_of_ble_eq_true rfl) dX12_guests_4 ⟨Nat.le_of_ble_eq_true rfl, Nat.le_of_ble_eq_true rfl⟩ (fun r_1 hw_1 => ?_)
  have hw_1 : (r_1.toInt = 1 ∧ (1 : Int32).toInt ≤ x.toInt ∧ x.toInt ≤ (50 : Int32).toInt) ∨ (r_1.toInt = 0 ∧ (x.toInt < (1 : Int32).toInt ∨ (50 : Int32).toInt < x.toInt)) := hw_1
  refine lv_if_eq (tgt := 31) hx hb dX12_guests_7 (by decide) (fun c_2 => ?_) (fun c_2 => ?_)
  · have tc_2 := t_eq c_2
    refine lv_iconst (v := (-1)) hx hb dX12_guests_31 (by decide) ?_
    exact hret (-1) (fun _ => 0) _ _ _ _ (by omega) rfl (hP.sub [0, 1] rfl) (hD.sub [0, 1] (by decide) rfl) hS dX12_guests_32
  · have tc_2 := t_ne c_2
    refine lv_iload_n hx hb dX12_guests_10 rfl (lv_at hl 2 rfl) ?_
    refine lv_iconst (v := 0) hx hb dX12_guests_11 (by decide) ?_
    refine lv_iconst (v := 5) hx hb dX12_guests_12 (by decide) ?_
    have hPc := hP.sub (ws' := []) [] rfl
    refine roS (As := [.int k, .int 0, .int 5]) (rest := []) S (m_isIn  ) (va_cwS 3 hts gX12_guests_X12_isIn rfl rfl rfl (by decide +kernel) ⟨Nat.le_of_ble_eq_true rfl, Nat.le_of_ble_eq_true rfl⟩) hK hPc rfl hl.1 rfl (Nat.le_of_ble_eq_true rfl) dX12_guests_13 ⟨Nat.le_of_ble_eq_true rfl, Nat.le_of_ble_eq_true rfl⟩ (fun r_3 hw_3 => ?_)
    have hw_3 : (r_3.toInt = 1 ∧ (0 : Int32).toInt ≤ k.toInt ∧ k.toInt ≤ (5 : Int32).toInt) ∨ (r_3.toInt = 0 ∧ (k.toInt < (0 : Int32).toInt ∨ (5 : Int32).toInt < k.toInt)) := hw_3
    refine lv_if_eq (tgt := 31) hx hb dX12_guests_16 (by decide) (fun c_4 => ?_) (fun c_4 => ?_)
    · have tc_4 := t_eq c_4
      refine lv_iconst (v := (-1)) hx hb dX12_guests_31 (by decide) ?_
      exact hret (-1) (fun _ => 0) _ _ _ _ (by omega) rfl (hP.sub [0, 1] rfl) (hD.sub [0, 1] (by decide) rfl) hS dX12_guests_32
    · have tc_4 := t_ne c_4
      refine lv_aload_n hx hb dX12_guests_19 rfl (lv_at hl 0 rfl) ?_
      have hPc := hP.sub (ws' := [(h, .inr (11, [.int 0, .int 0, .int 0, .int 0, .int 0, .int 0, .int 0, .int 0, .int 0, .ref a_isPriest, .ref a_bars, .ref a_joined, .ref a_turns, .ref a_awayMonk, .ref a_awayFrom, .ref a_awayTo, .ref a_feastDay, .ref a_rank, .ref a_isWeekly, .ref a_isDouble, .ref a_giftDay, .ref a_giftFrom, .ref a_owed, .ref a_said, .ref a_spared, .ref a_leaveGift, .ref a_leaveFrom, .ref a_leaveTo, .ref a_lateDay, .ref a_lateOffice, .ref a_lateBy, .ref a_guests, .ref a_who, .ref a_used, .ref a_lacks, .ref a_candles, .ref a_masses, .ref a_owing, .ref a_heldOn, .ref a_waits, .ref a_tape, .ref a_text, .int 0, .int 0, .int 0, .int (-1), .int 0, .ref a_statements, .ref a_taken, .ref a_sort, .ref a_first, .ref a_second, .int 0, .int 0])), (a_guests, .inl (cI, 6, .inl (fun _ => 0)))]) [0, 1] rfl
      refine roV (As := []) (rest := []) S (m_allGuests  ) (cwV 0 hts gX12_guests_X12_allGuests rfl rfl rfl (by decide +kernel) ⟨Nat.le_of_ble_eq_true rfl, Nat.le_of_ble_eq_true rfl⟩) hK hPc (va_recv hK.1 hPc (ci := 11) (q0 := 0) rfl rfl) rfl hl.1 rfl (Nat.le_of_ble_eq_true rfl) dX12_guests_20 ⟨Nat.le_of_ble_eq_true rfl, Nat.le_of_ble_eq_true rfl⟩ (fun r_s0 hw_s0 => ?_)
      have hw_s0 : r_s0 = sum6 (fun _ => 0) := hw_s0
      rw [sum6_z] at hw_s0
      have hw_s0 := t_eq hw_s0
      refine lv_iload_n hx hb dX12_guests_23 rfl (lv_at hl 1 rfl) ?_
      refine lv_iadd hx hb dX12_guests_24 ?_
      refine lv_topi (fun x_5 ex_5 => ?_)
      first | have tx_5 := t_add ex_5 (by omega) (by omega) | skip
      refine lv_sipush (v := 200) hx hb dX12_guests_25 (by decide) ?_
      refine lv_icmp_le (tgt := 33) hx hb dX12_guests_28 (by decide) (fun c_6 => ?_) (fun c_6 => ?_)
      · have tc_6 := t_le c_6
        refine lv_aload_n hx hb dX12_guests_33 rfl (lv_at hl 0 rfl) ?_
        refine va_get (D := D) (ci := 11) (v := .ref a_guests) (C := RX12) (T := TX12) (N := 54) hx hb hts in_q_guests_X12 hown hK.1 hP 0 rfl rfl 31 (by decide) lk0 (fun _ h9 => h9) rfl dX12_guests_34 ?_
        refine lv_iload_n hx hb dX12_guests_37 rfl (lv_at hl 2 rfl) ?_
        refine lv_dup2_11 hx hb dX12_guests_38 rfl rfl ?_
        refine va_iald hx hb hK.1 hP 1 0 rfl rfl (t_in (by omega) (by omega)) dX12_guests_39 ?_
        refine lv_topi (fun y0 ey0 => ?_)
        refine lv_iload_n hx hb dX12_guests_40 rfl (lv_at hl 1 rfl) ?_
        refine lv_iadd hx hb dX12_guests_41 ?_
        refine lv_topi (fun z0 ez0 => ?_)
        refine va_iast hx hb hK.1 hP hD hS 1 0 rfl rfl (t_in (by omega) (by omega)) dX12_guests_42 (fun H locs hP hD hS => ?_)
        obtain ⟨gg, egg⟩ : ∃ z : Nat → Int32, z = upd (fun _ => 0) ((k : Int32).toNatClampNeg) z0 := ⟨_, rfl⟩
        rw [← egg] at hP hD
        have hP : va_P D vwCl [(h, .inr (11, [.int 0, .int 0, .int 0, .int 0, .int 0, .int 0, .int 0, .int 0, .int 0, .ref a_isPriest, .ref a_bars, .ref a_joined, .ref a_turns, .ref a_awayMonk, .ref a_awayFrom, .ref a_awayTo, .ref a_feastDay, .ref a_rank, .ref a_isWeekly, .ref a_isDouble, .ref a_giftDay, .ref a_giftFrom, .ref a_owed, .ref a_said, .ref a_spared, .ref a_leaveGift, .ref a_leaveFrom, .ref a_leaveTo, .ref a_lateDay, .ref a_lateOffice, .ref a_lateBy, .ref a_guests, .ref a_who, .ref a_used, .ref a_lacks, .ref a_candles, .ref a_masses, .ref a_owing, .ref a_heldOn, .ref a_waits, .ref a_tape, .ref a_text, .int 0, .int 0, .int 0, .int (-1), .int 0, .ref a_statements, .ref a_taken, .ref a_sort, .ref a_first, .ref a_second, .int 0, .int 0])), (a_guests, .inl (cI, 6, .inl gg))] H := hP
        have hD : va_D A [(h, .inr (11, [.int 0, .int 0, .int 0, .int 0, .int 0, .int 0, .int 0, .int 0, .int 0, .ref a_isPriest, .ref a_bars, .ref a_joined, .ref a_turns, .ref a_awayMonk, .ref a_awayFrom, .ref a_awayTo, .ref a_feastDay, .ref a_rank, .ref a_isWeekly, .ref a_isDouble, .ref a_giftDay, .ref a_giftFrom, .ref a_owed, .ref a_said, .ref a_spared, .ref a_leaveGift, .ref a_leaveFrom, .ref a_leaveTo, .ref a_lateDay, .ref a_lateOffice, .ref a_lateBy, .ref a_guests, .ref a_who, .ref a_used, .ref a_lacks, .ref a_candles, .ref a_masses, .ref a_owing, .ref a_heldOn, .ref a_waits, .ref a_tape, .ref a_text, .int 0, .int 0, .int 0, .int (-1), .int 0, .ref a_statements, .ref a_taken, .ref a_sort, .ref a_first, .ref a_second, .int 0, .int 0])), (a_guests, .inl (cI, 6, .inl gg))] := hD
        refine lv_aload_n hx hb dX12_guests_43 rfl (lv_at hl 0 rfl) ?_
        have hPc := hP.sub (ws' := [(h, .inr (11, [.int 0, .int 0, .int 0, .int 0, .int 0, .int 0, .int 0, .int 0, .int 0, .ref a_isPriest, .ref a_bars, .ref a_joined, .ref a_turns, .ref a_awayMonk, .ref a_awayFrom, .ref a_awayTo, .ref a_feastDay, .ref a_rank, .ref a_isWeekly, .ref a_isDouble, .ref a_giftDay, .ref a_giftFrom, .ref a_owed, .ref a_said, .ref a_spared, .ref a_leaveGift, .ref a_leaveFrom, .ref a_leaveTo, .ref a_lateDay, .ref a_lateOffice, .ref a_lateBy, .ref a_guests, .ref a_who, .ref a_used, .ref a_lacks, .ref a_candles, .ref a_masses, .ref a_owing, .ref a_heldOn, .ref a_waits, .ref a_tape, .ref a_text, .int 0, .int 0, .int 0, .int (-1), .int 0, .ref a_statements, .ref a_taken, .ref a_sort, .ref a_first, .ref a_second, .int 0, .int 0])), (a_guests, .inl (cI, 6, .inl gg))]) [0, 1] rfl
        refine roV (As := []) (rest := []) S (m_allGuests  ) (cwV 0 hts gX12_guests_X12_allGuests rfl rfl rfl (by decide +kernel) ⟨Nat.le_of_ble_eq_true rfl, Nat.le_of_ble_eq_true rfl⟩) hK hPc (va_recv hK.1 hPc (ci := 11) (q0 := 0) rfl rfl) rfl hl.1 rfl (Nat.le_of_ble_eq_true rfl) dX12_guests_44 ⟨Nat.le_of_ble_eq_true rfl, Nat.le_of_ble_eq_true rfl⟩ (fun r_s1 hw_s1 => ?_)
        have hw_s1 : r_s1 = sum6 gg := hw_s1
        rw [egg, ez0, ey0, sum6_u _ _ (by omega) (by omega), Int32.zero_add] at hw_s1
        have hw_s1 := t_eq hw_s1
        exact hret r_s1 gg _ _ _ _ (by omega) rfl (hP.sub [0, 1] rfl) (hD.sub [0, 1] (by decide) rfl) hS dX12_guests_47
      · have tc_6 := t_nle c_6
        refine lv_iconst (v := (-1)) hx hb dX12_guests_31 (by decide) ?_
        exact hret (-1) (fun _ => 0) _ _ _ _ (by omega) rfl (hP.sub [0, 1] rfl) (hD.sub [0, 1] (by decide) rfl) hS dX12_guests_32

theorem in_q_day_X12 : ∀ w ∈ wsX120, w ∈ wsX12_day := by decide +kernel
set_option maxHeartbeats 8000000 in
set_option maxRecDepth 100000 in
theorem q_day {l : Launch} {D : va_G} {cI cZ cB : ClassId} {sz : Nat} {h a_isPriest a_bars a_joined a_turns a_awayMonk a_awayFrom a_awayTo a_feastDay a_rank a_isWeekly a_isDouble a_giftDay a_giftFrom a_owed a_said a_spared a_leaveGift a_leaveFrom a_leaveTo a_lateDay a_lateOffice a_lateBy a_guests a_who a_used a_lacks a_candles a_masses a_owing a_heldOn a_waits a_tape a_text a_statements a_taken a_sort a_first a_second : Nat} {f_owed f_guests f_who f_used f_lacks f_candles f_heldOn : Nat → Int32}   : Met l yX12_day wsX12_day ({ frames := 5, cells := 0, slots := 0, locals := 107 }) (RW D cI cZ cB [.ref h] sz [(h, .inr (11, [.int 0, .int 0, .int 0, .int 0, .int 0, .int 0, .int 0, .int 0, .int 0, .ref a_isPriest, .ref a_bars, .ref a_joined, .ref a_turns, .ref a_awayMonk, .ref a_awayFrom, .ref a_awayTo, .ref a_feastDay, .ref a_rank, .ref a_isWeekly, .ref a_isDouble, .ref a_giftDay, .ref a_giftFrom, .ref a_owed, .ref a_said, .ref a_spared, .ref a_leaveGift, .ref a_leaveFrom, .ref a_leaveTo, .ref a_lateDay, .ref a_lateOffice, .ref a_lateBy, .ref a_guests, .ref a_who, .ref a_used, .ref a_lacks, .ref a_candles, .ref a_masses, .ref a_owing, .ref a_heldOn, .ref a_waits, .ref a_tape, .ref a_text, .int 0, .int 0, .int 0, .int (-1), .int 0, .ref a_statements, .ref a_taken, .ref a_sort, .ref a_first, .ref a_second, .int 0, .int 0])), (a_owed, .inl (cI, 40, .inl f_owed)), (a_guests, .inl (cI, 6, .inl f_guests)), (a_who, .inl (cI, 4380, .inl f_who)), (a_used, .inl (cI, 1095, .inl f_used)), (a_lacks, .inl (cI, 1095, .inl f_lacks)), (a_candles, .inl (cI, 1095, .inl f_candles)), (a_heldOn, .inl (cI, 365, .inl f_heldOn))]) (va_Qi (fun (r : Int32) (u : Int32 × Int32 × Int32 × Nat → Int32 × Nat → Int32 × Nat → Int32 × Nat → Int32 × Nat → Int32 × Nat → Int32 × Nat → Int32) => r.toInt = 1) (BW D [(h, .inr (11, [.int 0, .int 0, .int 0, .int 0, .int 0, .int 0, .int 0, .int 0, .int 0, .ref a_isPriest, .ref a_bars, .ref a_joined, .ref a_turns, .ref a_awayMonk, .ref a_awayFrom, .ref a_awayTo, .ref a_feastDay, .ref a_rank, .ref a_isWeekly, .ref a_isDouble, .ref a_giftDay, .ref a_giftFrom, .ref a_owed, .ref a_said, .ref a_spared, .ref a_leaveGift, .ref a_leaveFrom, .ref a_leaveTo, .ref a_lateDay, .ref a_lateOffice, .ref a_lateBy, .ref a_guests, .ref a_who, .ref a_used, .ref a_lacks, .ref a_candles, .ref a_masses, .ref a_owing, .ref a_heldOn, .ref a_waits, .ref a_tape, .ref a_text, .int 0, .int 0, .int 0, .int (-1), .int 0, .ref a_statements, .ref a_taken, .ref a_sort, .ref a_first, .ref a_second, .int 0, .int 0])), (a_owed, .inl (cI, 40, .inl f_owed)), (a_guests, .inl (cI, 6, .inl f_guests)), (a_who, .inl (cI, 4380, .inl f_who)), (a_used, .inl (cI, 1095, .inl f_used)), (a_lacks, .inl (cI, 1095, .inl f_lacks)), (a_candles, .inl (cI, 1095, .inl f_candles)), (a_heldOn, .inl (cI, 365, .inl f_heldOn))] sz (fun u : Int32 × Int32 × Int32 × Nat → Int32 × Nat → Int32 × Nat → Int32 × Nat → Int32 × Nat → Int32 × Nat → Int32 × Nat → Int32 => [(h, .inr (11, [.int u.1, .int 0, .int 0, .int 0, .int 0, .int 0, .int 0, .int u.2.1, .int u.2.2.1, .ref a_isPriest, .ref a_bars, .ref a_joined, .ref a_turns, .ref a_awayMonk, .ref a_awayFrom, .ref a_awayTo, .ref a_feastDay, .ref a_rank, .ref a_isWeekly, .ref a_isDouble, .ref a_giftDay, .ref a_giftFrom, .ref a_owed, .ref a_said, .ref a_spared, .ref a_leaveGift, .ref a_leaveFrom, .ref a_leaveTo, .ref a_lateDay, .ref a_lateOffice, .ref a_lateBy, .ref a_guests, .ref a_who, .ref a_used, .ref a_lacks, .ref a_candles, .ref a_masses, .ref a_owing, .ref a_heldOn, .ref a_waits, .ref a_tape, .ref a_text, .int 0, .int 0, .int 0, .int (-1), .int 0, .ref a_statements, .ref a_taken, .ref a_sort, .ref a_first, .ref a_second, .int 0, .int 0])), (a_owed, .inl (cI, 40, .inl u.2.2.2.2.1)), (a_guests, .inl (cI, 6, .inl u.2.2.2.2.2.2.1)), (a_who, .inl (cI, 4380, .inl u.2.2.2.1)), (a_used, .inl (cI, 1095, .inl u.2.2.2.2.2.2.2.1)), (a_lacks, .inl (cI, 1095, .inl u.2.2.2.2.2.2.2.2.1)), (a_candles, .inl (cI, 1095, .inl u.2.2.2.2.2.2.2.2.2)), (a_heldOn, .inl (cI, 365, .inl u.2.2.2.2.2.1))])) (va_A [(h, .inr (11, [.int 0, .int 0, .int 0, .int 0, .int 0, .int 0, .int 0, .int 0, .int 0, .ref a_isPriest, .ref a_bars, .ref a_joined, .ref a_turns, .ref a_awayMonk, .ref a_awayFrom, .ref a_awayTo, .ref a_feastDay, .ref a_rank, .ref a_isWeekly, .ref a_isDouble, .ref a_giftDay, .ref a_giftFrom, .ref a_owed, .ref a_said, .ref a_spared, .ref a_leaveGift, .ref a_leaveFrom, .ref a_leaveTo, .ref a_lateDay, .ref a_lateOffice, .ref a_lateBy, .ref a_guests, .ref a_who, .ref a_used, .ref a_lacks, .ref a_candles, .ref a_masses, .ref a_owing, .ref a_heldOn, .ref a_waits, .ref a_tape, .ref a_text, .int 0, .int 0, .int 0, .int (-1), .int 0, .ref a_statements, .ref a_taken, .ref a_sort, .ref a_first, .ref a_second, .int 0, .int 0])), (a_owed, .inl (cI, 40, .inl f_owed)), (a_guests, .inl (cI, 6, .inl f_guests)), (a_who, .inl (cI, 4380, .inl f_who)), (a_used, .inl (cI, 1095, .inl f_used)), (a_lacks, .inl (cI, 1095, .inl f_lacks)), (a_candles, .inl (cI, 1095, .inl f_candles)), (a_heldOn, .inl (cI, 365, .inl f_heldOn))] sz)) 0 0 (va_A [(h, .inr (11, [.int 0, .int 0, .int 0, .int 0, .int 0, .int 0, .int 0, .int 0, .int 0, .ref a_isPriest, .ref a_bars, .ref a_joined, .ref a_turns, .ref a_awayMonk, .ref a_awayFrom, .ref a_awayTo, .ref a_feastDay, .ref a_rank, .ref a_isWeekly, .ref a_isDouble, .ref a_giftDay, .ref a_giftFrom, .ref a_owed, .ref a_said, .ref a_spared, .ref a_leaveGift, .ref a_leaveFrom, .ref a_leaveTo, .ref a_lateDay, .ref a_lateOffice, .ref a_lateBy, .ref a_guests, .ref a_who, .ref a_used, .ref a_lacks, .ref a_candles, .ref a_masses, .ref a_owing, .ref a_heldOn, .ref a_waits, .ref a_tape, .ref a_text, .int 0, .int 0, .int 0, .int (-1), .int 0, .ref a_statements, .ref a_taken, .ref a_sort, .ref a_first, .ref a_second, .int 0, .int 0])), (a_owed, .inl (cI, 40, .inl f_owed)), (a_guests, .inl (cI, 6, .inl f_guests)), (a_who, .inl (cI, 4380, .inl f_who)), (a_used, .inl (cI, 1095, .inl f_used)), (a_lacks, .inl (cI, 1095, .inl f_lacks)), (a_candles, .inl (cI, 1095, .inl f_candles)), (a_heldOn, .inl (cI, 365, .inl f_heldOn))] sz) := by
  refine rw_ret (cc := cX12_day) (maxL := 6) (ty := .int) (own := RX12) (by decide) rfl rfl (Nat.le_of_ble_eq_true rfl) ?_
  intro p e s m args below meth c Q A S hin hret hP hK hD hA hS ls hl
  obtain ⟨hx, hb, hml, hown, hts⟩ := id S
  have hl : lv_has ls 6 [(0, .ref h)] := hl
  have kkm1 : (-1 : Int32).toInt = -1 := by decide
  have kk0 : (0 : Int32).toInt = 0 := by decide
  have kk1 : (1 : Int32).toInt = 1 := by decide
  have kk2 : (2 : Int32).toInt = 2 := by decide
  have kk3 : (3 : Int32).toInt = 3 := by decide
  have kk4 : (4 : Int32).toInt = 4 := by decide
  have kk5 : (5 : Int32).toInt = 5 := by decide
  have kk6 : (6 : Int32).toInt = 6 := by decide
  have kk8 : (8 : Int32).toInt = 8 := by decide
  have kk30 : (30 : Int32).toInt = 30 := by decide
  have kk365 : (365 : Int32).toInt = 365 := by decide
  have kk1094 : (1094 : Int32).toInt = 1094 := by decide
  have lk0 := hts (.fieldLink RX12 140 "AbbeyHoursModel" "today" "I") (by decide +kernel)
  have lk1 := hts (.fieldLink RX12 134 "AbbeyHoursModel" "monks" "I") (by decide +kernel)
  have lk2 := hts (.fieldLink RX12 137 "AbbeyHoursModel" "gifts" "I") (by decide +kernel)
  have lk3 := hts (.fieldLink RX12 77 "AbbeyHoursModel" "guests" "[I") (by decide +kernel)
  have lk4 := hts (.fieldLink RX12 83 "AbbeyHoursModel" "used" "[I") (by decide +kernel)
  have lk5 := hts (.fieldLink RX12 264 "AbbeyHoursModel" "store" "I") (by decide +kernel)
  have lk6 := hts (.methodLink RX12 292 Lib.Math.min.name) (by decide +kernel)
  have lk7 := hts (.static Lib.Math.min.name) (by decide +kernel)
  have lk8 := hts (.initialized "java/lang/Math") (by decide +kernel)
  have lk9 := hts (.code Lib.Math.min.name Lib.Math.min.code 2 (some .int)) (by decide +kernel)
  have lk10 := hts (.fieldLink RX12 86 "AbbeyHoursModel" "lacks" "[I") (by decide +kernel)
  have lk11 := hts (.fieldLink RX12 297 "AbbeyHoursModel" "allCandles" "I") (by decide +kernel)
  have lk12 := hts (.fieldLink RX12 89 "AbbeyHoursModel" "candles" "[I") (by decide +kernel)
  refine lv_aload_n hx hb dX12_day_0 rfl (lv_at hl 0 rfl) ?_
  refine va_get (D := D) (ci := 11) (v := .int 0) (C := RX12) (T := TX12) (N := 54) hx hb hts in_q_day_X12 hown hK.1 hP 0 rfl rfl 0 (by decide) lk0 (fun _ h9 => h9) rfl dX12_day_1 ?_
  refine lv_sipush (v := 1094) hx hb dX12_day_4 (by decide) ?_
  refine lv_icmp_ne (tgt := 12) hx hb dX12_day_7 (by decide) (fun c_1 => ?_) (fun c_1 => ?_)
  · have tc_1 := t_ne c_1
    refine lv_aload_n hx hb dX12_day_12 rfl (lv_at hl 0 rfl) ?_
    refine va_get (D := D) (ci := 11) (v := .int 0) (C := RX12) (T := TX12) (N := 54) hx hb hts in_q_day_X12 hown hK.1 hP 0 rfl rfl 0 (by decide) lk0 (fun _ h9 => h9) rfl dX12_day_13 ?_
    refine lv_istore_n (lv' := [(1, .int 0), (0, .ref h)]) hx hb dX12_day_16 rfl hl (by decide) rfl (fun ls hl => ?_)
    refine lv_iconst (v := 0) hx hb dX12_day_17 (by decide) ?_
    refine lv_istore_n (lv' := [(2, .int 0), (1, .int 0), (0, .ref h)]) hx hb dX12_day_18 rfl hl (by decide) rfl (fun ls hl => ?_)
    refine lv_iload_n hx hb dX12_day_19 rfl (lv_at hl 0 rfl) ?_
    refine lv_iconst (v := 4) hx hb dX12_day_20 (by decide) ?_
    refine lv_icmp_ge (tgt := 43) hx hb dX12_day_21 (by decide) (fun c_2 => ?_) (fun c_2 => ?_)
    · exact absurd c_2 (by decide)
    · have tc_2 := t_nle c_2
      refine lv_aload_n hx hb dX12_day_24 rfl (lv_at hl 2 rfl) ?_
      refine lv_aload_n hx hb dX12_day_25 rfl (lv_at hl 2 rfl) ?_
      refine lv_iload_n hx hb dX12_day_26 rfl (lv_at hl 0 rfl) ?_
      refine lv_iload_n hx hb dX12_day_27 rfl (lv_at hl 1 rfl) ?_
      refine lv_iconst (v := (-1)) hx hb dX12_day_28 (by decide) ?_
      have hPc := hP.sub (ws' := [(h, .inr (11, [.int 0, .int 0, .int 0, .int 0, .int 0, .int 0, .int 0, .int 0, .int 0, .ref a_isPriest, .ref a_bars, .ref a_joined, .ref a_turns, .ref a_awayMonk, .ref a_awayFrom, .ref a_awayTo, .ref a_feastDay, .ref a_rank, .ref a_isWeekly, .ref a_isDouble, .ref a_giftDay, .ref a_giftFrom, .ref a_owed, .ref a_said, .ref a_spared, .ref a_leaveGift, .ref a_leaveFrom, .ref a_leaveTo, .ref a_lateDay, .ref a_lateOffice, .ref a_lateBy, .ref a_guests, .ref a_who, .ref a_used, .ref a_lacks, .ref a_candles, .ref a_masses, .ref a_owing, .ref a_heldOn, .ref a_waits, .ref a_tape, .ref a_text, .int 0, .int 0, .int 0, .int (-1), .int 0, .ref a_statements, .ref a_taken, .ref a_sort, .ref a_first, .ref a_second, .int 0, .int 0]))]) [0] rfl
      refine roV (As := [.int 0, .int 0, .int (-1)]) (rest := [.ref h]) S (m_nextFor  ) (cwV 3 hts gX12_day_X12_nextFor rfl rfl rfl (by decide +kernel) ⟨Nat.le_of_ble_eq_true rfl, Nat.le_of_ble_eq_true rfl⟩) hK hPc (va_recv hK.1 hPc (ci := 11) (q0 := 0) rfl rfl) rfl hl.1 rfl (Nat.le_of_ble_eq_true rfl) dX12_day_29 ⟨Nat.le_of_ble_eq_true rfl, Nat.le_of_ble_eq_true rfl⟩ (fun r_3 hw_3 => ?_)
      have hw_3 : r_3.toInt = -1 := hw_3
      refine lv_iload_n hx hb dX12_day_32 rfl (lv_at hl 0 rfl) ?_
      refine lv_iload_n hx hb dX12_day_33 rfl (lv_at hl 1 rfl) ?_
      have hPc := hP.sub (ws' := [(h, .inr (11, [.int 0, .int 0, .int 0, .int 0, .int 0, .int 0, .int 0, .int 0, .int 0, .ref a_isPriest, .ref a_bars, .ref a_joined, .ref a_turns, .ref a_awayMonk, .ref a_awayFrom, .ref a_awayTo, .ref a_feastDay, .ref a_rank, .ref a_isWeekly, .ref a_isDouble, .ref a_giftDay, .ref a_giftFrom, .ref a_owed, .ref a_said, .ref a_spared, .ref a_leaveGift, .ref a_leaveFrom, .ref a_leaveTo, .ref a_lateDay, .ref a_lateOffice, .ref a_lateBy, .ref a_guests, .ref a_who, .ref a_used, .ref a_lacks, .ref a_candles, .ref a_masses, .ref a_owing, .ref a_heldOn, .ref a_waits, .ref a_tape, .ref a_text, .int 0, .int 0, .int 0, .int (-1), .int 0, .ref a_statements, .ref a_taken, .ref a_sort, .ref a_first, .ref a_second, .int 0, .int 0])), (a_who, .inl (cI, 4380, .inl f_who))]) [0, 3] rfl
      refine rwVv (As := [.int r_3, .int 0, .int 0]) (rest := []) (wc := [(h, .inr (11, [.int 0, .int 0, .int 0, .int 0, .int 0, .int 0, .int 0, .int 0, .int 0, .ref a_isPriest, .ref a_bars, .ref a_joined, .ref a_turns, .ref a_awayMonk, .ref a_awayFrom, .ref a_awayTo, .ref a_feastDay, .ref a_rank, .ref a_isWeekly, .ref a_isDouble, .ref a_giftDay, .ref a_giftFrom, .ref a_owed, .ref a_said, .ref a_spared, .ref a_leaveGift, .ref a_leaveFrom, .ref a_leaveTo, .ref a_lateDay, .ref a_lateOffice, .ref a_lateBy, .ref a_guests, .ref a_who, .ref a_used, .ref a_lacks, .ref a_candles, .ref a_masses, .ref a_owing, .ref a_heldOn, .ref a_waits, .ref a_tape, .ref a_text, .int 0, .int 0, .int 0, .int (-1), .int 0, .ref a_statements, .ref a_taken, .ref a_sort, .ref a_first, .ref a_second, .int 0, .int 0])), (a_who, .inl (cI, 4380, .inl f_who))]) (wr := [(a_owed, .inl (cI, 40, .inl f_owed)), (a_guests, .inl (cI, 6, .inl f_guests)), (a_used, .inl (cI, 1095, .inl f_used)), (a_lacks, .inl (cI, 1095, .inl f_lacks)), (a_candles, .inl (cI, 1095, .inl f_candles)), (a_heldOn, .inl (cI, 365, .inl f_heldOn))]) S (m_has  (by omega) (by omega) (by omega) (by omega) (by omega)) (cwV 3 hts gX12_day_X12_has rfl rfl rfl (by decide +kernel) ⟨Nat.le_of_ble_eq_true rfl, Nat.le_of_ble_eq_true rfl⟩) hK hP hD hS hA [0, 3] [1, 2, 4, 5, 6, 7] rfl rfl (by decide) (by decide) (by decide) (va_recv hK.1 hPc (ci := 11) (q0 := 0) rfl rfl) rfl hl.1 rfl (Nat.le_of_ble_eq_true rfl) dX12_day_34 ⟨Nat.le_of_ble_eq_true rfl, Nat.le_of_ble_eq_true rfl⟩ (fun u_4 H locs hw_4 hP hD hS => ?_)
      obtain ⟨f1_4, rfl⟩ : ∃ z, z = u_4 := ⟨_, rfl⟩
      have hw_4 : True := hw_4
      have hP : va_P D vwCl [(a_owed, .inl (cI, 40, .inl f_owed)), (a_guests, .inl (cI, 6, .inl f_guests)), (a_used, .inl (cI, 1095, .inl f_used)), (a_lacks, .inl (cI, 1095, .inl f_lacks)), (a_candles, .inl (cI, 1095, .inl f_candles)), (a_heldOn, .inl (cI, 365, .inl f_heldOn)), (h, .inr (11, [.int 0, .int 0, .int 0, .int 0, .int 0, .int 0, .int 0, .int 0, .int 0, .ref a_isPriest, .ref a_bars, .ref a_joined, .ref a_turns, .ref a_awayMonk, .ref a_awayFrom, .ref a_awayTo, .ref a_feastDay, .ref a_rank, .ref a_isWeekly, .ref a_isDouble, .ref a_giftDay, .ref a_giftFrom, .ref a_owed, .ref a_said, .ref a_spared, .ref a_leaveGift, .ref a_leaveFrom, .ref a_leaveTo, .ref a_lateDay, .ref a_lateOffice, .ref a_lateBy, .ref a_guests, .ref a_who, .ref a_used, .ref a_lacks, .ref a_candles, .ref a_masses, .ref a_owing, .ref a_heldOn, .ref a_waits, .ref a_tape, .ref a_text, .int 0, .int 0, .int 0, .int (-1), .int 0, .ref a_statements, .ref a_taken, .ref a_sort, .ref a_first, .ref a_second, .int 0, .int 0])), (a_who, .inl (cI, 4380, .inl f1_4))] H := hP
      have hD : va_D A [(a_owed, .inl (cI, 40, .inl f_owed)), (a_guests, .inl (cI, 6, .inl f_guests)), (a_used, .inl (cI, 1095, .inl f_used)), (a_lacks, .inl (cI, 1095, .inl f_lacks)), (a_candles, .inl (cI, 1095, .inl f_candles)), (a_heldOn, .inl (cI, 365, .inl f_heldOn)), (h, .inr (11, [.int 0, .int 0, .int 0, .int 0, .int 0, .int 0, .int 0, .int 0, .int 0, .ref a_isPriest, .ref a_bars, .ref a_joined, .ref a_turns, .ref a_awayMonk, .ref a_awayFrom, .ref a_awayTo, .ref a_feastDay, .ref a_rank, .ref a_isWeekly, .ref a_isDouble, .ref a_giftDay, .ref a_giftFrom, .ref a_owed, .ref a_said, .ref a_spared, .ref a_leaveGift, .ref a_leaveFrom, .ref a_leaveTo, .ref a_lateDay, .ref a_lateOffice, .ref a_lateBy, .ref a_guests, .ref a_who, .ref a_used, .ref a_lacks, .ref a_candles, .ref a_masses, .ref a_owing, .ref a_heldOn, .ref a_waits, .ref a_tape, .ref a_text, .int 0, .int 0, .int 0, .int (-1), .int 0, .ref a_statements, .ref a_taken, .ref a_sort, .ref a_first, .ref a_second, .int 0, .int 0])), (a_who, .inl (cI, 4380, .inl f1_4))] := hD
      obtain ⟨x_5, ex_5⟩ : ∃ y : Int32, y = 0 + 1 := ⟨_, rfl⟩
      obtain rfl : x_5 = 1 := by rw [ex_5]; decide
      refine lv_iinc (v := 1) (lv' := [(2, .int 1), (1, .int 0), (0, .ref h)]) hx hb dX12_day_37 hl (k := 0) rfl (by decide) (by decide) rfl (fun ls hl => ?_)
      refine lv_goto (tgt := 19) hx hb dX12_day_40 (by decide) ?_
      refine lv_iload_n hx hb dX12_day_19 rfl (lv_at hl 0 rfl) ?_
      refine lv_iconst (v := 4) hx hb dX12_day_20 (by decide) ?_
      refine lv_icmp_ge (tgt := 43) hx hb dX12_day_21 (by decide) (fun c_6 => ?_) (fun c_6 => ?_)
      · exact absurd c_6 (by decide)
      · have tc_6 := t_nle c_6
        refine lv_aload_n hx hb dX12_day_24 rfl (lv_at hl 2 rfl) ?_
        refine lv_aload_n hx hb dX12_day_25 rfl (lv_at hl 2 rfl) ?_
        refine lv_iload_n hx hb dX12_day_26 rfl (lv_at hl 0 rfl) ?_
        refine lv_iload_n hx hb dX12_day_27 rfl (lv_at hl 1 rfl) ?_
        refine lv_iconst (v := (-1)) hx hb dX12_day_28 (by decide) ?_
        have hPc := hP.sub (ws' := [(h, .inr (11, [.int 0, .int 0, .int 0, .int 0, .int 0, .int 0, .int 0, .int 0, .int 0, .ref a_isPriest, .ref a_bars, .ref a_joined, .ref a_turns, .ref a_awayMonk, .ref a_awayFrom, .ref a_awayTo, .ref a_feastDay, .ref a_rank, .ref a_isWeekly, .ref a_isDouble, .ref a_giftDay, .ref a_giftFrom, .ref a_owed, .ref a_said, .ref a_spared, .ref a_leaveGift, .ref a_leaveFrom, .ref a_leaveTo, .ref a_lateDay, .ref a_lateOffice, .ref a_lateBy, .ref a_guests, .ref a_who, .ref a_used, .ref a_lacks, .ref a_candles, .ref a_masses, .ref a_owing, .ref a_heldOn, .ref a_waits, .ref a_tape, .ref a_text, .int 0, .int 0, .int 0, .int (-1), .int 0, .ref a_statements, .ref a_taken, .ref a_sort, .ref a_first, .ref a_second, .int 0, .int 0]))]) [6] rfl
        refine roV (As := [.int 1, .int 0, .int (-1)]) (rest := [.ref h]) S (m_nextFor  ) (cwV 3 hts gX12_day_X12_nextFor rfl rfl rfl (by decide +kernel) ⟨Nat.le_of_ble_eq_true rfl, Nat.le_of_ble_eq_true rfl⟩) hK hPc (va_recv hK.1 hPc (ci := 11) (q0 := 0) rfl rfl) rfl hl.1 rfl (Nat.le_of_ble_eq_true rfl) dX12_day_29 ⟨Nat.le_of_ble_eq_true rfl, Nat.le_of_ble_eq_true rfl⟩ (fun r_7 hw_7 => ?_)
        have hw_7 : r_7.toInt = -1 := hw_7
        refine lv_iload_n hx hb dX12_day_32 rfl (lv_at hl 0 rfl) ?_
        refine lv_iload_n hx hb dX12_day_33 rfl (lv_at hl 1 rfl) ?_
        have hPc := hP.sub (ws' := [(h, .inr (11, [.int 0, .int 0, .int 0, .int 0, .int 0, .int 0, .int 0, .int 0, .int 0, .ref a_isPriest, .ref a_bars, .ref a_joined, .ref a_turns, .ref a_awayMonk, .ref a_awayFrom, .ref a_awayTo, .ref a_feastDay, .ref a_rank, .ref a_isWeekly, .ref a_isDouble, .ref a_giftDay, .ref a_giftFrom, .ref a_owed, .ref a_said, .ref a_spared, .ref a_leaveGift, .ref a_leaveFrom, .ref a_leaveTo, .ref a_lateDay, .ref a_lateOffice, .ref a_lateBy, .ref a_guests, .ref a_who, .ref a_used, .ref a_lacks, .ref a_candles, .ref a_masses, .ref a_owing, .ref a_heldOn, .ref a_waits, .ref a_tape, .ref a_text, .int 0, .int 0, .int 0, .int (-1), .int 0, .ref a_statements, .ref a_taken, .ref a_sort, .ref a_first, .ref a_second, .int 0, .int 0])), (a_who, .inl (cI, 4380, .inl f1_4))]) [6, 7] rfl
        refine rwVv (As := [.int r_7, .int 1, .int 0]) (rest := []) (wc := [(h, .inr (11, [.int 0, .int 0, .int 0, .int 0, .int 0, .int 0, .int 0, .int 0, .int 0, .ref a_isPriest, .ref a_bars, .ref a_joined, .ref a_turns, .ref a_awayMonk, .ref a_awayFrom, .ref a_awayTo, .ref a_feastDay, .ref a_rank, .ref a_isWeekly, .ref a_isDouble, .ref a_giftDay, .ref a_giftFrom, .ref a_owed, .ref a_said, .ref a_spared, .ref a_leaveGift, .ref a_leaveFrom, .ref a_leaveTo, .ref a_lateDay, .ref a_lateOffice, .ref a_lateBy, .ref a_guests, .ref a_who, .ref a_used, .ref a_lacks, .ref a_candles, .ref a_masses, .ref a_owing, .ref a_heldOn, .ref a_waits, .ref a_tape, .ref a_text, .int 0, .int 0, .int 0, .int (-1), .int 0, .ref a_statements, .ref a_taken, .ref a_sort, .ref a_first, .ref a_second, .int 0, .int 0])), (a_who, .inl (cI, 4380, .inl f1_4))]) (wr := [(a_owed, .inl (cI, 40, .inl f_owed)), (a_guests, .inl (cI, 6, .inl f_guests)), (a_used, .inl (cI, 1095, .inl f_used)), (a_lacks, .inl (cI, 1095, .inl f_lacks)), (a_candles, .inl (cI, 1095, .inl f_candles)), (a_heldOn, .inl (cI, 365, .inl f_heldOn))]) S (m_has  (by omega) (by omega) (by omega) (by omega) (by omega)) (cwV 3 hts gX12_day_X12_has rfl rfl rfl (by decide +kernel) ⟨Nat.le_of_ble_eq_true rfl, Nat.le_of_ble_eq_true rfl⟩) hK hP hD hS hA [6, 7] [0, 1, 2, 3, 4, 5] rfl rfl (by decide) (by decide) (by decide) (va_recv hK.1 hPc (ci := 11) (q0 := 0) rfl rfl) rfl hl.1 rfl (Nat.le_of_ble_eq_true rfl) dX12_day_34 ⟨Nat.le_of_ble_eq_true rfl, Nat.le_of_ble_eq_true rfl⟩ (fun u_8 H locs hw_8 hP hD hS => ?_)
        obtain ⟨f1_8, rfl⟩ : ∃ z, z = u_8 := ⟨_, rfl⟩
        have hw_8 : True := hw_8
        have hP : va_P D vwCl [(a_owed, .inl (cI, 40, .inl f_owed)), (a_guests, .inl (cI, 6, .inl f_guests)), (a_used, .inl (cI, 1095, .inl f_used)), (a_lacks, .inl (cI, 1095, .inl f_lacks)), (a_candles, .inl (cI, 1095, .inl f_candles)), (a_heldOn, .inl (cI, 365, .inl f_heldOn)), (h, .inr (11, [.int 0, .int 0, .int 0, .int 0, .int 0, .int 0, .int 0, .int 0, .int 0, .ref a_isPriest, .ref a_bars, .ref a_joined, .ref a_turns, .ref a_awayMonk, .ref a_awayFrom, .ref a_awayTo, .ref a_feastDay, .ref a_rank, .ref a_isWeekly, .ref a_isDouble, .ref a_giftDay, .ref a_giftFrom, .ref a_owed, .ref a_said, .ref a_spared, .ref a_leaveGift, .ref a_leaveFrom, .ref a_leaveTo, .ref a_lateDay, .ref a_lateOffice, .ref a_lateBy, .ref a_guests, .ref a_who, .ref a_used, .ref a_lacks, .ref a_candles, .ref a_masses, .ref a_owing, .ref a_heldOn, .ref a_waits, .ref a_tape, .ref a_text, .int 0, .int 0, .int 0, .int (-1), .int 0, .ref a_statements, .ref a_taken, .ref a_sort, .ref a_first, .ref a_second, .int 0, .int 0])), (a_who, .inl (cI, 4380, .inl f1_8))] H := hP
        have hD : va_D A [(a_owed, .inl (cI, 40, .inl f_owed)), (a_guests, .inl (cI, 6, .inl f_guests)), (a_used, .inl (cI, 1095, .inl f_used)), (a_lacks, .inl (cI, 1095, .inl f_lacks)), (a_candles, .inl (cI, 1095, .inl f_candles)), (a_heldOn, .inl (cI, 365, .inl f_heldOn)), (h, .inr (11, [.int 0, .int 0, .int 0, .int 0, .int 0, .int 0, .int 0, .int 0, .int 0, .ref a_isPriest, .ref a_bars, .ref a_joined, .ref a_turns, .ref a_awayMonk, .ref a_awayFrom, .ref a_awayTo, .ref a_feastDay, .ref a_rank, .ref a_isWeekly, .ref a_isDouble, .ref a_giftDay, .ref a_giftFrom, .ref a_owed, .ref a_said, .ref a_spared, .ref a_leaveGift, .ref a_leaveFrom, .ref a_leaveTo, .ref a_lateDay, .ref a_lateOffice, .ref a_lateBy, .ref a_guests, .ref a_who, .ref a_used, .ref a_lacks, .ref a_candles, .ref a_masses, .ref a_owing, .ref a_heldOn, .ref a_waits, .ref a_tape, .ref a_text, .int 0, .int 0, .int 0, .int (-1), .int 0, .ref a_statements, .ref a_taken, .ref a_sort, .ref a_first, .ref a_second, .int 0, .int 0])), (a_who, .inl (cI, 4380, .inl f1_8))] := hD
        obtain ⟨x_9, ex_9⟩ : ∃ y : Int32, y = 1 + 1 := ⟨_, rfl⟩
        obtain rfl : x_9 = 2 := by rw [ex_9]; decide
        refine lv_iinc (v := 2) (lv' := [(2, .int 2), (1, .int 0), (0, .ref h)]) hx hb dX12_day_37 hl (k := 0) rfl (by decide) (by decide) rfl (fun ls hl => ?_)
        refine lv_goto (tgt := 19) hx hb dX12_day_40 (by decide) ?_
        refine lv_iload_n hx hb dX12_day_19 rfl (lv_at hl 0 rfl) ?_
        refine lv_iconst (v := 4) hx hb dX12_day_20 (by decide) ?_
        refine lv_icmp_ge (tgt := 43) hx hb dX12_day_21 (by decide) (fun c_10 => ?_) (fun c_10 => ?_)
        · exact absurd c_10 (by decide)
        · have tc_10 := t_nle c_10
          refine lv_aload_n hx hb dX12_day_24 rfl (lv_at hl 2 rfl) ?_
          refine lv_aload_n hx hb dX12_day_25 rfl (lv_at hl 2 rfl) ?_
          refine lv_iload_n hx hb dX12_day_26 rfl (lv_at hl 0 rfl) ?_
          refine lv_iload_n hx hb dX12_day_27 rfl (lv_at hl 1 rfl) ?_
          refine lv_iconst (v := (-1)) hx hb dX12_day_28 (by decide) ?_
          have hPc := hP.sub (ws' := [(h, .inr (11, [.int 0, .int 0, .int 0, .int 0, .int 0, .int 0, .int 0, .int 0, .int 0, .ref a_isPriest, .ref a_bars, .ref a_joined, .ref a_turns, .ref a_awayMonk, .ref a_awayFrom, .ref a_awayTo, .ref a_feastDay, .ref a_rank, .ref a_isWeekly, .ref a_isDouble, .ref a_giftDay, .ref a_giftFrom, .ref a_owed, .ref a_said, .ref a_spared, .ref a_leaveGift, .ref a_leaveFrom, .ref a_leaveTo, .ref a_lateDay, .ref a_lateOffice, .ref a_lateBy, .ref a_guests, .ref a_who, .ref a_used, .ref a_lacks, .ref a_candles, .ref a_masses, .ref a_owing, .ref a_heldOn, .ref a_waits, .ref a_tape, .ref a_text, .int 0, .int 0, .int 0, .int (-1), .int 0, .ref a_statements, .ref a_taken, .ref a_sort, .ref a_first, .ref a_second, .int 0, .int 0]))]) [6] rfl
          refine roV (As := [.int 2, .int 0, .int (-1)]) (rest := [.ref h]) S (m_nextFor  ) (cwV 3 hts gX12_day_X12_nextFor rfl rfl rfl (by decide +kernel) ⟨Nat.le_of_ble_eq_true rfl, Nat.le_of_ble_eq_true rfl⟩) hK hPc (va_recv hK.1 hPc (ci := 11) (q0 := 0) rfl rfl) rfl hl.1 rfl (Nat.le_of_ble_eq_true rfl) dX12_day_29 ⟨Nat.le_of_ble_eq_true rfl, Nat.le_of_ble_eq_true rfl⟩ (fun r_11 hw_11 => ?_)
          have hw_11 : r_11.toInt = -1 := hw_11
          refine lv_iload_n hx hb dX12_day_32 rfl (lv_at hl 0 rfl) ?_
          refine lv_iload_n hx hb dX12_day_33 rfl (lv_at hl 1 rfl) ?_
          have hPc := hP.sub (ws' := [(h, .inr (11, [.int 0, .int 0, .int 0, .int 0, .int 0, .int 0, .int 0, .int 0, .int 0, .ref a_isPriest, .ref a_bars, .ref a_joined, .ref a_turns, .ref a_awayMonk, .ref a_awayFrom, .ref a_awayTo, .ref a_feastDay, .ref a_rank, .ref a_isWeekly, .ref a_isDouble, .ref a_giftDay, .ref a_giftFrom, .ref a_owed, .ref a_said, .ref a_spared, .ref a_leaveGift, .ref a_leaveFrom, .ref a_leaveTo, .ref a_lateDay, .ref a_lateOffice, .ref a_lateBy, .ref a_guests, .ref a_who, .ref a_used, .ref a_lacks, .ref a_candles, .ref a_masses, .ref a_owing, .ref a_heldOn, .ref a_waits, .ref a_tape, .ref a_text, .int 0, .int 0, .int 0, .int (-1), .int 0, .ref a_statements, .ref a_taken, .ref a_sort, .ref a_first, .ref a_second, .int 0, .int 0])), (a_who, .inl (cI, 4380, .inl f1_8))]) [6, 7] rfl
          refine rwVv (As := [.int r_11, .int 2, .int 0]) (rest := []) (wc := [(h, .inr (11, [.int 0, .int 0, .int 0, .int 0, .int 0, .int 0, .int 0, .int 0, .int 0, .ref a_isPriest, .ref a_bars, .ref a_joined, .ref a_turns, .ref a_awayMonk, .ref a_awayFrom, .ref a_awayTo, .ref a_feastDay, .ref a_rank, .ref a_isWeekly, .ref a_isDouble, .ref a_giftDay, .ref a_giftFrom, .ref a_owed, .ref a_said, .ref a_spared, .ref a_leaveGift, .ref a_leaveFrom, .ref a_leaveTo, .ref a_lateDay, .ref a_lateOffice, .ref a_lateBy, .ref a_guests, .ref a_who, .ref a_used, .ref a_lacks, .ref a_candles, .ref a_masses, .ref a_owing, .ref a_heldOn, .ref a_waits, .ref a_tape, .ref a_text, .int 0, .int 0, .int 0, .int (-1), .int 0, .ref a_statements, .ref a_taken, .ref a_sort, .ref a_first, .ref a_second, .int 0, .int 0])), (a_who, .inl (cI, 4380, .inl f1_8))]) (wr := [(a_owed, .inl (cI, 40, .inl f_owed)), (a_guests, .inl (cI, 6, .inl f_guests)), (a_used, .inl (cI, 1095, .inl f_used)), (a_lacks, .inl (cI, 1095, .inl f_lacks)), (a_candles, .inl (cI, 1095, .inl f_candles)), (a_heldOn, .inl (cI, 365, .inl f_heldOn))]) S (m_has  (by omega) (by omega) (by omega) (by omega) (by omega)) (cwV 3 hts gX12_day_X12_has rfl rfl rfl (by decide +kernel) ⟨Nat.le_of_ble_eq_true rfl, Nat.le_of_ble_eq_true rfl⟩) hK hP hD hS hA [6, 7] [0, 1, 2, 3, 4, 5] rfl rfl (by decide) (by decide) (by decide) (va_recv hK.1 hPc (ci := 11) (q0 := 0) rfl rfl) rfl hl.1 rfl (Nat.le_of_ble_eq_true rfl) dX12_day_34 ⟨Nat.le_of_ble_eq_true rfl, Nat.le_of_ble_eq_true rfl⟩ (fun u_12 H locs hw_12 hP hD hS => ?_)
          obtain ⟨f1_12, rfl⟩ : ∃ z, z = u_12 := ⟨_, rfl⟩
          have hw_12 : True := hw_12
          have hP : va_P D vwCl [(a_owed, .inl (cI, 40, .inl f_owed)), (a_guests, .inl (cI, 6, .inl f_guests)), (a_used, .inl (cI, 1095, .inl f_used)), (a_lacks, .inl (cI, 1095, .inl f_lacks)), (a_candles, .inl (cI, 1095, .inl f_candles)), (a_heldOn, .inl (cI, 365, .inl f_heldOn)), (h, .inr (11, [.int 0, .int 0, .int 0, .int 0, .int 0, .int 0, .int 0, .int 0, .int 0, .ref a_isPriest, .ref a_bars, .ref a_joined, .ref a_turns, .ref a_awayMonk, .ref a_awayFrom, .ref a_awayTo, .ref a_feastDay, .ref a_rank, .ref a_isWeekly, .ref a_isDouble, .ref a_giftDay, .ref a_giftFrom, .ref a_owed, .ref a_said, .ref a_spared, .ref a_leaveGift, .ref a_leaveFrom, .ref a_leaveTo, .ref a_lateDay, .ref a_lateOffice, .ref a_lateBy, .ref a_guests, .ref a_who, .ref a_used, .ref a_lacks, .ref a_candles, .ref a_masses, .ref a_owing, .ref a_heldOn, .ref a_waits, .ref a_tape, .ref a_text, .int 0, .int 0, .int 0, .int (-1), .int 0, .ref a_statements, .ref a_taken, .ref a_sort, .ref a_first, .ref a_second, .int 0, .int 0])), (a_who, .inl (cI, 4380, .inl f1_12))] H := hP
          have hD : va_D A [(a_owed, .inl (cI, 40, .inl f_owed)), (a_guests, .inl (cI, 6, .inl f_guests)), (a_used, .inl (cI, 1095, .inl f_used)), (a_lacks, .inl (cI, 1095, .inl f_lacks)), (a_candles, .inl (cI, 1095, .inl f_candles)), (a_heldOn, .inl (cI, 365, .inl f_heldOn)), (h, .inr (11, [.int 0, .int 0, .int 0, .int 0, .int 0, .int 0, .int 0, .int 0, .int 0, .ref a_isPriest, .ref a_bars, .ref a_joined, .ref a_turns, .ref a_awayMonk, .ref a_awayFrom, .ref a_awayTo, .ref a_feastDay, .ref a_rank, .ref a_isWeekly, .ref a_isDouble, .ref a_giftDay, .ref a_giftFrom, .ref a_owed, .ref a_said, .ref a_spared, .ref a_leaveGift, .ref a_leaveFrom, .ref a_leaveTo, .ref a_lateDay, .ref a_lateOffice, .ref a_lateBy, .ref a_guests, .ref a_who, .ref a_used, .ref a_lacks, .ref a_candles, .ref a_masses, .ref a_owing, .ref a_heldOn, .ref a_waits, .ref a_tape, .ref a_text, .int 0, .int 0, .int 0, .int (-1), .int 0, .ref a_statements, .ref a_taken, .ref a_sort, .ref a_first, .ref a_second, .int 0, .int 0])), (a_who, .inl (cI, 4380, .inl f1_12))] := hD
          obtain ⟨x_13, ex_13⟩ : ∃ y : Int32, y = 2 + 1 := ⟨_, rfl⟩
          obtain rfl : x_13 = 3 := by rw [ex_13]; decide
          refine lv_iinc (v := 3) (lv' := [(2, .int 3), (1, .int 0), (0, .ref h)]) hx hb dX12_day_37 hl (k := 0) rfl (by decide) (by decide) rfl (fun ls hl => ?_)
          refine lv_goto (tgt := 19) hx hb dX12_day_40 (by decide) ?_
          refine lv_iload_n hx hb dX12_day_19 rfl (lv_at hl 0 rfl) ?_
          refine lv_iconst (v := 4) hx hb dX12_day_20 (by decide) ?_
          refine lv_icmp_ge (tgt := 43) hx hb dX12_day_21 (by decide) (fun c_14 => ?_) (fun c_14 => ?_)
          · exact absurd c_14 (by decide)
          · have tc_14 := t_nle c_14
            refine lv_aload_n hx hb dX12_day_24 rfl (lv_at hl 2 rfl) ?_
            refine lv_aload_n hx hb dX12_day_25 rfl (lv_at hl 2 rfl) ?_
            refine lv_iload_n hx hb dX12_day_26 rfl (lv_at hl 0 rfl) ?_
            refine lv_iload_n hx hb dX12_day_27 rfl (lv_at hl 1 rfl) ?_
            refine lv_iconst (v := (-1)) hx hb dX12_day_28 (by decide) ?_
            have hPc := hP.sub (ws' := [(h, .inr (11, [.int 0, .int 0, .int 0, .int 0, .int 0, .int 0, .int 0, .int 0, .int 0, .ref a_isPriest, .ref a_bars, .ref a_joined, .ref a_turns, .ref a_awayMonk, .ref a_awayFrom, .ref a_awayTo, .ref a_feastDay, .ref a_rank, .ref a_isWeekly, .ref a_isDouble, .ref a_giftDay, .ref a_giftFrom, .ref a_owed, .ref a_said, .ref a_spared, .ref a_leaveGift, .ref a_leaveFrom, .ref a_leaveTo, .ref a_lateDay, .ref a_lateOffice, .ref a_lateBy, .ref a_guests, .ref a_who, .ref a_used, .ref a_lacks, .ref a_candles, .ref a_masses, .ref a_owing, .ref a_heldOn, .ref a_waits, .ref a_tape, .ref a_text, .int 0, .int 0, .int 0, .int (-1), .int 0, .ref a_statements, .ref a_taken, .ref a_sort, .ref a_first, .ref a_second, .int 0, .int 0]))]) [6] rfl
            refine roV (As := [.int 3, .int 0, .int (-1)]) (rest := [.ref h]) S (m_nextFor  ) (cwV 3 hts gX12_day_X12_nextFor rfl rfl rfl (by decide +kernel) ⟨Nat.le_of_ble_eq_true rfl, Nat.le_of_ble_eq_true rfl⟩) hK hPc (va_recv hK.1 hPc (ci := 11) (q0 := 0) rfl rfl) rfl hl.1 rfl (Nat.le_of_ble_eq_true rfl) dX12_day_29 ⟨Nat.le_of_ble_eq_true rfl, Nat.le_of_ble_eq_true rfl⟩ (fun r_15 hw_15 => ?_)
            have hw_15 : r_15.toInt = -1 := hw_15
            refine lv_iload_n hx hb dX12_day_32 rfl (lv_at hl 0 rfl) ?_
            refine lv_iload_n hx hb dX12_day_33 rfl (lv_at hl 1 rfl) ?_
            have hPc := hP.sub (ws' := [(h, .inr (11, [.int 0, .int 0, .int 0, .int 0, .int 0, .int 0, .int 0, .int 0, .int 0, .ref a_isPriest, .ref a_bars, .ref a_joined, .ref a_turns, .ref a_awayMonk, .ref a_awayFrom, .ref a_awayTo, .ref a_feastDay, .ref a_rank, .ref a_isWeekly, .ref a_isDouble, .ref a_giftDay, .ref a_giftFrom, .ref a_owed, .ref a_said, .ref a_spared, .ref a_leaveGift, .ref a_leaveFrom, .ref a_leaveTo, .ref a_lateDay, .ref a_lateOffice, .ref a_lateBy, .ref a_guests, .ref a_who, .ref a_used, .ref a_lacks, .ref a_candles, .ref a_masses, .ref a_owing, .ref a_heldOn, .ref a_waits, .ref a_tape, .ref a_text, .int 0, .int 0, .int 0, .int (-1), .int 0, .ref a_statements, .ref a_taken, .ref a_sort, .ref a_first, .ref a_second, .int 0, .int 0])), (a_who, .inl (cI, 4380, .inl f1_12))]) [6, 7] rfl
            refine rwVv (As := [.int r_15, .int 3, .int 0]) (rest := []) (wc := [(h, .inr (11, [.int 0, .int 0, .int 0, .int 0, .int 0, .int 0, .int 0, .int 0, .int 0, .ref a_isPriest, .ref a_bars, .ref a_joined, .ref a_turns, .ref a_awayMonk, .ref a_awayFrom, .ref a_awayTo, .ref a_feastDay, .ref a_rank, .ref a_isWeekly, .ref a_isDouble, .ref a_giftDay, .ref a_giftFrom, .ref a_owed, .ref a_said, .ref a_spared, .ref a_leaveGift, .ref a_leaveFrom, .ref a_leaveTo, .ref a_lateDay, .ref a_lateOffice, .ref a_lateBy, .ref a_guests, .ref a_who, .ref a_used, .ref a_lacks, .ref a_candles, .ref a_masses, .ref a_owing, .ref a_heldOn, .ref a_waits, .ref a_tape, .ref a_text, .int 0, .int 0, .int 0, .int (-1), .int 0, .ref a_statements, .ref a_taken, .ref a_sort, .ref a_first, .ref a_second, .int 0, .int 0])), (a_who, .inl (cI, 4380, .inl f1_12))]) (wr := [(a_owed, .inl (cI, 40, .inl f_owed)), (a_guests, .inl (cI, 6, .inl f_guests)), (a_used, .inl (cI, 1095, .inl f_used)), (a_lacks, .inl (cI, 1095, .inl f_lacks)), (a_candles, .inl (cI, 1095, .inl f_candles)), (a_heldOn, .inl (cI, 365, .inl f_heldOn))]) S (m_has  (by omega) (by omega) (by omega) (by omega) (by omega)) (cwV 3 hts gX12_day_X12_has rfl rfl rfl (by decide +kernel) ⟨Nat.le_of_ble_eq_true rfl, Nat.le_of_ble_eq_true rfl⟩) hK hP hD hS hA [6, 7] [0, 1, 2, 3, 4, 5] rfl rfl (by decide) (by decide) (by decide) (va_recv hK.1 hPc (ci := 11) (q0 := 0) rfl rfl) rfl hl.1 rfl (Nat.le_of_ble_eq_true rfl) dX12_day_34 ⟨Nat.le_of_ble_eq_true rfl, Nat.le_of_ble_eq_true rfl⟩ (fun u_16 H locs hw_16 hP hD hS => ?_)
            obtain ⟨f1_16, rfl⟩ : ∃ z, z = u_16 := ⟨_, rfl⟩
            have hw_16 : True := hw_16
            have hP : va_P D vwCl [(a_owed, .inl (cI, 40, .inl f_owed)), (a_guests, .inl (cI, 6, .inl f_guests)), (a_used, .inl (cI, 1095, .inl f_used)), (a_lacks, .inl (cI, 1095, .inl f_lacks)), (a_candles, .inl (cI, 1095, .inl f_candles)), (a_heldOn, .inl (cI, 365, .inl f_heldOn)), (h, .inr (11, [.int 0, .int 0, .int 0, .int 0, .int 0, .int 0, .int 0, .int 0, .int 0, .ref a_isPriest, .ref a_bars, .ref a_joined, .ref a_turns, .ref a_awayMonk, .ref a_awayFrom, .ref a_awayTo, .ref a_feastDay, .ref a_rank, .ref a_isWeekly, .ref a_isDouble, .ref a_giftDay, .ref a_giftFrom, .ref a_owed, .ref a_said, .ref a_spared, .ref a_leaveGift, .ref a_leaveFrom, .ref a_leaveTo, .ref a_lateDay, .ref a_lateOffice, .ref a_lateBy, .ref a_guests, .ref a_who, .ref a_used, .ref a_lacks, .ref a_candles, .ref a_masses, .ref a_owing, .ref a_heldOn, .ref a_waits, .ref a_tape, .ref a_text, .int 0, .int 0, .int 0, .int (-1), .int 0, .ref a_statements, .ref a_taken, .ref a_sort, .ref a_first, .ref a_second, .int 0, .int 0])), (a_who, .inl (cI, 4380, .inl f1_16))] H := hP
            have hD : va_D A [(a_owed, .inl (cI, 40, .inl f_owed)), (a_guests, .inl (cI, 6, .inl f_guests)), (a_used, .inl (cI, 1095, .inl f_used)), (a_lacks, .inl (cI, 1095, .inl f_lacks)), (a_candles, .inl (cI, 1095, .inl f_candles)), (a_heldOn, .inl (cI, 365, .inl f_heldOn)), (h, .inr (11, [.int 0, .int 0, .int 0, .int 0, .int 0, .int 0, .int 0, .int 0, .int 0, .ref a_isPriest, .ref a_bars, .ref a_joined, .ref a_turns, .ref a_awayMonk, .ref a_awayFrom, .ref a_awayTo, .ref a_feastDay, .ref a_rank, .ref a_isWeekly, .ref a_isDouble, .ref a_giftDay, .ref a_giftFrom, .ref a_owed, .ref a_said, .ref a_spared, .ref a_leaveGift, .ref a_leaveFrom, .ref a_leaveTo, .ref a_lateDay, .ref a_lateOffice, .ref a_lateBy, .ref a_guests, .ref a_who, .ref a_used, .ref a_lacks, .ref a_candles, .ref a_masses, .ref a_owing, .ref a_heldOn, .ref a_waits, .ref a_tape, .ref a_text, .int 0, .int 0, .int 0, .int (-1), .int 0, .ref a_statements, .ref a_taken, .ref a_sort, .ref a_first, .ref a_second, .int 0, .int 0])), (a_who, .inl (cI, 4380, .inl f1_16))] := hD
            obtain ⟨x_17, ex_17⟩ : ∃ y : Int32, y = 3 + 1 := ⟨_, rfl⟩
            obtain rfl : x_17 = 4 := by rw [ex_17]; decide
            refine lv_iinc (v := 4) (lv' := [(2, .int 4), (1, .int 0), (0, .ref h)]) hx hb dX12_day_37 hl (k := 0) rfl (by decide) (by decide) rfl (fun ls hl => ?_)
            refine lv_goto (tgt := 19) hx hb dX12_day_40 (by decide) ?_
            refine lv_iload_n hx hb dX12_day_19 rfl (lv_at hl 0 rfl) ?_
            refine lv_iconst (v := 4) hx hb dX12_day_20 (by decide) ?_
            refine lv_icmp_ge (tgt := 43) hx hb dX12_day_21 (by decide) (fun c_18 => ?_) (fun c_18 => ?_)
            · have tc_18 := t_le c_18
              refine lv_aload_n hx hb dX12_day_43 rfl (lv_at hl 2 rfl) ?_
              refine lv_iload_n hx hb dX12_day_44 rfl (lv_at hl 1 rfl) ?_
              have hPc := hP.sub (ws' := [(h, .inr (11, [.int 0, .int 0, .int 0, .int 0, .int 0, .int 0, .int 0, .int 0, .int 0, .ref a_isPriest, .ref a_bars, .ref a_joined, .ref a_turns, .ref a_awayMonk, .ref a_awayFrom, .ref a_awayTo, .ref a_feastDay, .ref a_rank, .ref a_isWeekly, .ref a_isDouble, .ref a_giftDay, .ref a_giftFrom, .ref a_owed, .ref a_said, .ref a_spared, .ref a_leaveGift, .ref a_leaveFrom, .ref a_leaveTo, .ref a_lateDay, .ref a_lateOffice, .ref a_lateBy, .ref a_guests, .ref a_who, .ref a_used, .ref a_lacks, .ref a_candles, .ref a_masses, .ref a_owing, .ref a_heldOn, .ref a_waits, .ref a_tape, .ref a_text, .int 0, .int 0, .int 0, .int (-1), .int 0, .ref a_statements, .ref a_taken, .ref a_sort, .ref a_first, .ref a_second, .int 0, .int 0])), (a_owed, .inl (cI, 40, .inl f_owed))]) [6, 0] rfl
              refine rwVv (As := [.int 0]) (rest := []) (wc := [(h, .inr (11, [.int 0, .int 0, .int 0, .int 0, .int 0, .int 0, .int 0, .int 0, .int 0, .ref a_isPriest, .ref a_bars, .ref a_joined, .ref a_turns, .ref a_awayMonk, .ref a_awayFrom, .ref a_awayTo, .ref a_feastDay, .ref a_rank, .ref a_isWeekly, .ref a_isDouble, .ref a_giftDay, .ref a_giftFrom, .ref a_owed, .ref a_said, .ref a_spared, .ref a_leaveGift, .ref a_leaveFrom, .ref a_leaveTo, .ref a_lateDay, .ref a_lateOffice, .ref a_lateBy, .ref a_guests, .ref a_who, .ref a_used, .ref a_lacks, .ref a_candles, .ref a_masses, .ref a_owing, .ref a_heldOn, .ref a_waits, .ref a_tape, .ref a_text, .int 0, .int 0, .int 0, .int (-1), .int 0, .ref a_statements, .ref a_taken, .ref a_sort, .ref a_first, .ref a_second, .int 0, .int 0])), (a_owed, .inl (cI, 40, .inl f_owed))]) (wr := [(a_guests, .inl (cI, 6, .inl f_guests)), (a_used, .inl (cI, 1095, .inl f_used)), (a_lacks, .inl (cI, 1095, .inl f_lacks)), (a_candles, .inl (cI, 1095, .inl f_candles)), (a_heldOn, .inl (cI, 365, .inl f_heldOn)), (a_who, .inl (cI, 4380, .inl f1_16))]) S (m_owes  ) (cwV 1 hts gX12_day_X12_owes rfl rfl rfl (by decide +kernel) ⟨Nat.le_of_ble_eq_true rfl, Nat.le_of_ble_eq_true rfl⟩) hK hP hD hS hA [6, 0] [1, 2, 3, 4, 5, 7] rfl rfl (by decide) (by decide) (by decide) (va_recv hK.1 hPc (ci := 11) (q0 := 0) rfl rfl) rfl hl.1 rfl (Nat.le_of_ble_eq_true rfl) dX12_day_45 ⟨Nat.le_of_ble_eq_true rfl, Nat.le_of_ble_eq_true rfl⟩ (fun u_19 H locs hw_19 hP hD hS => ?_)
              obtain ⟨f1_19, rfl⟩ : ∃ z, z = u_19 := ⟨_, rfl⟩
              have hw_19 : True := hw_19
              have hP : va_P D vwCl [(a_guests, .inl (cI, 6, .inl f_guests)), (a_used, .inl (cI, 1095, .inl f_used)), (a_lacks, .inl (cI, 1095, .inl f_lacks)), (a_candles, .inl (cI, 1095, .inl f_candles)), (a_heldOn, .inl (cI, 365, .inl f_heldOn)), (a_who, .inl (cI, 4380, .inl f1_16)), (h, .inr (11, [.int 0, .int 0, .int 0, .int 0, .int 0, .int 0, .int 0, .int 0, .int 0, .ref a_isPriest, .ref a_bars, .ref a_joined, .ref a_turns, .ref a_awayMonk, .ref a_awayFrom, .ref a_awayTo, .ref a_feastDay, .ref a_rank, .ref a_isWeekly, .ref a_isDouble, .ref a_giftDay, .ref a_giftFrom, .ref a_owed, .ref a_said, .ref a_spared, .ref a_leaveGift, .ref a_leaveFrom, .ref a_leaveTo, .ref a_lateDay, .ref a_lateOffice, .ref a_lateBy, .ref a_guests, .ref a_who, .ref a_used, .ref a_lacks, .ref a_candles, .ref a_masses, .ref a_owing, .ref a_heldOn, .ref a_waits, .ref a_tape, .ref a_text, .int 0, .int 0, .int 0, .int (-1), .int 0, .ref a_statements, .ref a_taken, .ref a_sort, .ref a_first, .ref a_second, .int 0, .int 0])), (a_owed, .inl (cI, 40, .inl f1_19))] H := hP
              have hD : va_D A [(a_guests, .inl (cI, 6, .inl f_guests)), (a_used, .inl (cI, 1095, .inl f_used)), (a_lacks, .inl (cI, 1095, .inl f_lacks)), (a_candles, .inl (cI, 1095, .inl f_candles)), (a_heldOn, .inl (cI, 365, .inl f_heldOn)), (a_who, .inl (cI, 4380, .inl f1_16)), (h, .inr (11, [.int 0, .int 0, .int 0, .int 0, .int 0, .int 0, .int 0, .int 0, .int 0, .ref a_isPriest, .ref a_bars, .ref a_joined, .ref a_turns, .ref a_awayMonk, .ref a_awayFrom, .ref a_awayTo, .ref a_feastDay, .ref a_rank, .ref a_isWeekly, .ref a_isDouble, .ref a_giftDay, .ref a_giftFrom, .ref a_owed, .ref a_said, .ref a_spared, .ref a_leaveGift, .ref a_leaveFrom, .ref a_leaveTo, .ref a_lateDay, .ref a_lateOffice, .ref a_lateBy, .ref a_guests, .ref a_who, .ref a_used, .ref a_lacks, .ref a_candles, .ref a_masses, .ref a_owing, .ref a_heldOn, .ref a_waits, .ref a_tape, .ref a_text, .int 0, .int 0, .int 0, .int (-1), .int 0, .ref a_statements, .ref a_taken, .ref a_sort, .ref a_first, .ref a_second, .int 0, .int 0])), (a_owed, .inl (cI, 40, .inl f1_19))] := hD
              refine lv_iconst (v := 0) hx hb dX12_day_48 (by decide) ?_
              refine lv_istore_n (lv' := [(2, .int 0), (1, .int 0), (0, .ref h)]) hx hb dX12_day_49 rfl hl (by decide) rfl (fun ls hl => ?_)
              refine lv_iload_n hx hb dX12_day_50 rfl (lv_at hl 0 rfl) ?_
              refine lv_aload_n hx hb dX12_day_51 rfl (lv_at hl 2 rfl) ?_
              refine va_get (D := D) (ci := 11) (v := .int 0) (C := RX12) (T := TX12) (N := 54) hx hb hts in_q_day_X12 hown hK.1 hP 6 rfl rfl 1 (by decide) lk1 (fun _ h9 => h9) rfl dX12_day_52 ?_
              refine lv_icmp_ge (tgt := 87) hx hb dX12_day_55 (by decide) (fun c_20 => ?_) (fun c_20 => ?_)
              · have tc_20 := t_le c_20
                refine lv_iconst (v := 0) hx hb dX12_day_87 (by decide) ?_
                refine lv_istore_n (lv' := [(2, .int 0), (1, .int 0), (0, .ref h)]) hx hb dX12_day_88 rfl hl (by decide) rfl (fun ls hl => ?_)
                refine lv_iload_n hx hb dX12_day_89 rfl (lv_at hl 0 rfl) ?_
                refine lv_aload_n hx hb dX12_day_90 rfl (lv_at hl 2 rfl) ?_
                refine va_get (D := D) (ci := 11) (v := .int 0) (C := RX12) (T := TX12) (N := 54) hx hb hts in_q_day_X12 hown hK.1 hP 6 rfl rfl 4 (by decide) lk2 (fun _ h9 => h9) rfl dX12_day_91 ?_
                refine lv_icmp_ge (tgt := 118) hx hb dX12_day_94 (by decide) (fun c_21 => ?_) (fun c_21 => ?_)
                · have tc_21 := t_le c_21
                  refine lv_aload_n hx hb dX12_day_118 rfl (lv_at hl 2 rfl) ?_
                  refine va_get (D := D) (ci := 11) (v := .int 0) (C := RX12) (T := TX12) (N := 54) hx hb hts in_q_day_X12 hown hK.1 hP 6 rfl rfl 1 (by decide) lk1 (fun _ h9 => h9) rfl dX12_day_119 ?_
                  refine lv_aload_n hx hb dX12_day_122 rfl (lv_at hl 2 rfl) ?_
                  refine lv_iload_n hx hb dX12_day_123 rfl (lv_at hl 1 rfl) ?_
                  have hPc := hP.sub (ws' := [(h, .inr (11, [.int 0, .int 0, .int 0, .int 0, .int 0, .int 0, .int 0, .int 0, .int 0, .ref a_isPriest, .ref a_bars, .ref a_joined, .ref a_turns, .ref a_awayMonk, .ref a_awayFrom, .ref a_awayTo, .ref a_feastDay, .ref a_rank, .ref a_isWeekly, .ref a_isDouble, .ref a_giftDay, .ref a_giftFrom, .ref a_owed, .ref a_said, .ref a_spared, .ref a_leaveGift, .ref a_leaveFrom, .ref a_leaveTo, .ref a_lateDay, .ref a_lateOffice, .ref a_lateBy, .ref a_guests, .ref a_who, .ref a_used, .ref a_lacks, .ref a_candles, .ref a_masses, .ref a_owing, .ref a_heldOn, .ref a_waits, .ref a_tape, .ref a_text, .int 0, .int 0, .int 0, .int (-1), .int 0, .ref a_statements, .ref a_taken, .ref a_sort, .ref a_first, .ref a_second, .int 0, .int 0])), (a_heldOn, .inl (cI, 365, .inl f_heldOn))]) [6, 4] rfl
                  refine rwV (As := [.int 0]) (rest := [.int 0]) (wc := [(h, .inr (11, [.int 0, .int 0, .int 0, .int 0, .int 0, .int 0, .int 0, .int 0, .int 0, .ref a_isPriest, .ref a_bars, .ref a_joined, .ref a_turns, .ref a_awayMonk, .ref a_awayFrom, .ref a_awayTo, .ref a_feastDay, .ref a_rank, .ref a_isWeekly, .ref a_isDouble, .ref a_giftDay, .ref a_giftFrom, .ref a_owed, .ref a_said, .ref a_spared, .ref a_leaveGift, .ref a_leaveFrom, .ref a_leaveTo, .ref a_lateDay, .ref a_lateOffice, .ref a_lateBy, .ref a_guests, .ref a_who, .ref a_used, .ref a_lacks, .ref a_candles, .ref a_masses, .ref a_owing, .ref a_heldOn, .ref a_waits, .ref a_tape, .ref a_text, .int 0, .int 0, .int 0, .int (-1), .int 0, .ref a_statements, .ref a_taken, .ref a_sort, .ref a_first, .ref a_second, .int 0, .int 0])), (a_heldOn, .inl (cI, 365, .inl f_heldOn))]) (wr := [(a_guests, .inl (cI, 6, .inl f_guests)), (a_used, .inl (cI, 1095, .inl f_used)), (a_lacks, .inl (cI, 1095, .inl f_lacks)), (a_candles, .inl (cI, 1095, .inl f_candles)), (a_who, .inl (cI, 4380, .inl f1_16)), (a_owed, .inl (cI, 40, .inl f1_19))]) S (m_headFeed  ) (cwV 1 hts gX12_day_X12_headFeed rfl rfl rfl (by decide +kernel) ⟨Nat.le_of_ble_eq_true rfl, Nat.le_of_ble_eq_true rfl⟩) hK hP hD hS hA [6, 4] [0, 1, 2, 3, 5, 7] rfl rfl (by decide) (by decide) (by decide) (va_recv hK.1 hPc (ci := 11) (q0 := 0) rfl rfl) rfl hl.1 rfl (Nat.le_of_ble_eq_true rfl) dX12_day_124 ⟨Nat.le_of_ble_eq_true rfl, Nat.le_of_ble_eq_true rfl⟩ (fun r_22 u_22 H locs hw_22 hP hD hS => ?_)
                  obtain ⟨g1_22, rfl⟩ : ∃ z, z = u_22 := ⟨_, rfl⟩
                  have hw_22 : r_22.toInt = 2 := hw_22
                  have hP : va_P D vwCl [(a_guests, .inl (cI, 6, .inl f_guests)), (a_used, .inl (cI, 1095, .inl f_used)), (a_lacks, .inl (cI, 1095, .inl f_lacks)), (a_candles, .inl (cI, 1095, .inl f_candles)), (a_who, .inl (cI, 4380, .inl f1_16)), (a_owed, .inl (cI, 40, .inl f1_19)), (h, .inr (11, [.int 0, .int 0, .int 0, .int 0, .int 0, .int 0, .int 0, .int 0, .int 0, .ref a_isPriest, .ref a_bars, .ref a_joined, .ref a_turns, .ref a_awayMonk, .ref a_awayFrom, .ref a_awayTo, .ref a_feastDay, .ref a_rank, .ref a_isWeekly, .ref a_isDouble, .ref a_giftDay, .ref a_giftFrom, .ref a_owed, .ref a_said, .ref a_spared, .ref a_leaveGift, .ref a_leaveFrom, .ref a_leaveTo, .ref a_lateDay, .ref a_lateOffice, .ref a_lateBy, .ref a_guests, .ref a_who, .ref a_used, .ref a_lacks, .ref a_candles, .ref a_masses, .ref a_owing, .ref a_heldOn, .ref a_waits, .ref a_tape, .ref a_text, .int 0, .int 0, .int 0, .int (-1), .int 0, .ref a_statements, .ref a_taken, .ref a_sort, .ref a_first, .ref a_second, .int 0, .int 0])), (a_heldOn, .inl (cI, 365, .inl g1_22))] H := hP
                  have hD : va_D A [(a_guests, .inl (cI, 6, .inl f_guests)), (a_used, .inl (cI, 1095, .inl f_used)), (a_lacks, .inl (cI, 1095, .inl f_lacks)), (a_candles, .inl (cI, 1095, .inl f_candles)), (a_who, .inl (cI, 4380, .inl f1_16)), (a_owed, .inl (cI, 40, .inl f1_19)), (h, .inr (11, [.int 0, .int 0, .int 0, .int 0, .int 0, .int 0, .int 0, .int 0, .int 0, .ref a_isPriest, .ref a_bars, .ref a_joined, .ref a_turns, .ref a_awayMonk, .ref a_awayFrom, .ref a_awayTo, .ref a_feastDay, .ref a_rank, .ref a_isWeekly, .ref a_isDouble, .ref a_giftDay, .ref a_giftFrom, .ref a_owed, .ref a_said, .ref a_spared, .ref a_leaveGift, .ref a_leaveFrom, .ref a_leaveTo, .ref a_lateDay, .ref a_lateOffice, .ref a_lateBy, .ref a_guests, .ref a_who, .ref a_used, .ref a_lacks, .ref a_candles, .ref a_masses, .ref a_owing, .ref a_heldOn, .ref a_waits, .ref a_tape, .ref a_text, .int 0, .int 0, .int 0, .int (-1), .int 0, .ref a_statements, .ref a_taken, .ref a_sort, .ref a_first, .ref a_second, .int 0, .int 0])), (a_heldOn, .inl (cI, 365, .inl g1_22))] := hD
                  refine lv_imul hx hb dX12_day_127 ?_
                  refine lv_topi (fun x_23 ex_23 => ?_)
                  refine lv_istore_n (lv' := [(2, .int x_23), (1, .int 0), (0, .ref h)]) hx hb dX12_day_128 rfl hl (by decide) rfl (fun ls hl => ?_)
                  refine lv_iconst (v := 0) hx hb dX12_day_129 (by decide) ?_
                  refine lv_istore_n (lv' := [(3, .int 0), (2, .int x_23), (1, .int 0), (0, .ref h)]) hx hb dX12_day_130 rfl hl (by decide) rfl (fun ls hl => ?_)
                  refine lv_iload_n hx hb dX12_day_131 rfl (lv_at hl 0 rfl) ?_
                  refine lv_bipush (v := 6) hx hb dX12_day_132 (by decide) ?_
                  refine lv_icmp_ge (tgt := 167) hx hb dX12_day_134 (by decide) (fun c_24 => ?_) (fun c_24 => ?_)
                  · exact absurd c_24 (by decide)
                  · have tc_24 := t_nle c_24
                    refine lv_iload_n hx hb dX12_day_137 rfl (lv_at hl 1 rfl) ?_
                    refine lv_aload_n hx hb dX12_day_138 rfl (lv_at hl 3 rfl) ?_
                    refine va_get (D := D) (ci := 11) (v := .ref a_guests) (C := RX12) (T := TX12) (N := 54) hx hb hts in_q_day_X12 hown hK.1 hP 6 rfl rfl 31 (by decide) lk3 (fun _ h9 => h9) rfl dX12_day_139 ?_
                    refine lv_iload_n hx hb dX12_day_142 rfl (lv_at hl 0 rfl) ?_
                    refine va_iald hx hb hK.1 hP 0 0 rfl rfl (t_in (by omega) (by omega)) dX12_day_143 ?_
                    refine lv_topi (fun y_25 ey_25 => ?_)
                    refine lv_aload_n hx hb dX12_day_144 rfl (lv_at hl 3 rfl) ?_
                    refine lv_iload_n hx hb dX12_day_145 rfl (lv_at hl 2 rfl) ?_
                    have hPc := hP.sub (ws' := [(h, .inr (11, [.int 0, .int 0, .int 0, .int 0, .int 0, .int 0, .int 0, .int 0, .int 0, .ref a_isPriest, .ref a_bars, .ref a_joined, .ref a_turns, .ref a_awayMonk, .ref a_awayFrom, .ref a_awayTo, .ref a_feastDay, .ref a_rank, .ref a_isWeekly, .ref a_isDouble, .ref a_giftDay, .ref a_giftFrom, .ref a_owed, .ref a_said, .ref a_spared, .ref a_leaveGift, .ref a_leaveFrom, .ref a_leaveTo, .ref a_lateDay, .ref a_lateOffice, .ref a_lateBy, .ref a_guests, .ref a_who, .ref a_used, .ref a_lacks, .ref a_candles, .ref a_masses, .ref a_owing, .ref a_heldOn, .ref a_waits, .ref a_tape, .ref a_text, .int 0, .int 0, .int 0, .int (-1), .int 0, .ref a_statements, .ref a_taken, .ref a_sort, .ref a_first, .ref a_second, .int 0, .int 0]))]) [6] rfl
                    refine roV (As := [.int 0]) (rest := [.int y_25, .int x_23]) S (m_guestFeed  ) (cwV 1 hts gX12_day_X12_guestFeed rfl rfl rfl (by decide +kernel) ⟨Nat.le_of_ble_eq_true rfl, Nat.le_of_ble_eq_true rfl⟩) hK hPc (va_recv hK.1 hPc (ci := 11) (q0 := 0) rfl rfl) rfl hl.1 rfl (Nat.le_of_ble_eq_true rfl) dX12_day_146 ⟨Nat.le_of_ble_eq_true rfl, Nat.le_of_ble_eq_true rfl⟩ (fun r_26 hw_26 => ?_)
                    have hw_26 : r_26.toInt = 3 := hw_26
                    refine lv_iload_n hx hb dX12_day_149 rfl (lv_at hl 0 rfl) ?_
                    refine lv_iadd hx hb dX12_day_150 ?_
                    refine lv_topi (fun x_27 ex_27 => ?_)
                    refine lv_imul hx hb dX12_day_151 ?_
                    refine lv_topi (fun x_28 ex_28 => ?_)
                    refine lv_iadd hx hb dX12_day_152 ?_
                    refine lv_topi (fun x_29 ex_29 => ?_)
                    refine lv_istore_n (lv' := [(2, .int x_29), (3, .int 0), (1, .int 0), (0, .ref h)]) hx hb dX12_day_153 rfl hl (by decide) rfl (fun ls hl => ?_)
                    refine lv_aload_n hx hb dX12_day_154 rfl (lv_at hl 3 rfl) ?_
                    refine va_get (D := D) (ci := 11) (v := .ref a_guests) (C := RX12) (T := TX12) (N := 54) hx hb hts in_q_day_X12 hown hK.1 hP 6 rfl rfl 31 (by decide) lk3 (fun _ h9 => h9) rfl dX12_day_155 ?_
                    refine lv_iload_n hx hb dX12_day_158 rfl (lv_at hl 1 rfl) ?_
                    refine lv_iconst (v := 0) hx hb dX12_day_159 (by decide) ?_
                    refine va_iast hx hb hK.1 hP hD hS 0 0 rfl rfl (t_in (by omega) (by omega)) dX12_day_160 (fun H locs hP hD hS => ?_)
                    obtain ⟨g_30, eg_30⟩ : ∃ z : Nat → Int32, z = upd f_guests ((0 : Int32).toNatClampNeg) 0 := ⟨_, rfl⟩
                    rw [← eg_30] at hP hD
                    have hP : va_P D vwCl [(a_guests, .inl (cI, 6, .inl g_30)), (a_used, .inl (cI, 1095, .inl f_used)), (a_lacks, .inl (cI, 1095, .inl f_lacks)), (a_candles, .inl (cI, 1095, .inl f_candles)), (a_who, .inl (cI, 4380, .inl f1_16)), (a_owed, .inl (cI, 40, .inl f1_19)), (h, .inr (11, [.int 0, .int 0, .int 0, .int 0, .int 0, .int 0, .int 0, .int 0, .int 0, .ref a_isPriest, .ref a_bars, .ref a_joined, .ref a_turns, .ref a_awayMonk, .ref a_awayFrom, .ref a_awayTo, .ref a_feastDay, .ref a_rank, .ref a_isWeekly, .ref a_isDouble, .ref a_giftDay, .ref a_giftFrom, .ref a_owed, .ref a_said, .ref a_spared, .ref a_leaveGift, .ref a_leaveFrom, .ref a_leaveTo, .ref a_lateDay, .ref a_lateOffice, .ref a_lateBy, .ref a_guests, .ref a_who, .ref a_used, .ref a_lacks, .ref a_candles, .ref a_masses, .ref a_owing, .ref a_heldOn, .ref a_waits, .ref a_tape, .ref a_text, .int 0, .int 0, .int 0, .int (-1), .int 0, .ref a_statements, .ref a_taken, .ref a_sort, .ref a_first, .ref a_second, .int 0, .int 0])), (a_heldOn, .inl (cI, 365, .inl g1_22))] H := hP
                    have hD : va_D A [(a_guests, .inl (cI, 6, .inl g_30)), (a_used, .inl (cI, 1095, .inl f_used)), (a_lacks, .inl (cI, 1095, .inl f_lacks)), (a_candles, .inl (cI, 1095, .inl f_candles)), (a_who, .inl (cI, 4380, .inl f1_16)), (a_owed, .inl (cI, 40, .inl f1_19)), (h, .inr (11, [.int 0, .int 0, .int 0, .int 0, .int 0, .int 0, .int 0, .int 0, .int 0, .ref a_isPriest, .ref a_bars, .ref a_joined, .ref a_turns, .ref a_awayMonk, .ref a_awayFrom, .ref a_awayTo, .ref a_feastDay, .ref a_rank, .ref a_isWeekly, .ref a_isDouble, .ref a_giftDay, .ref a_giftFrom, .ref a_owed, .ref a_said, .ref a_spared, .ref a_leaveGift, .ref a_leaveFrom, .ref a_leaveTo, .ref a_lateDay, .ref a_lateOffice, .ref a_lateBy, .ref a_guests, .ref a_who, .ref a_used, .ref a_lacks, .ref a_candles, .ref a_masses, .ref a_owing, .ref a_heldOn, .ref a_waits, .ref a_tape, .ref a_text, .int 0, .int 0, .int 0, .int (-1), .int 0, .ref a_statements, .ref a_taken, .ref a_sort, .ref a_first, .ref a_second, .int 0, .int 0])), (a_heldOn, .inl (cI, 365, .inl g1_22))] := hD
                    obtain ⟨x_31, ex_31⟩ : ∃ y : Int32, y = 0 + 1 := ⟨_, rfl⟩
                    obtain rfl : x_31 = 1 := by rw [ex_31]; decide
                    refine lv_iinc (v := 1) (lv' := [(3, .int 1), (2, .int x_29), (1, .int 0), (0, .ref h)]) hx hb dX12_day_161 hl (k := 1) rfl (by decide) (by decide) rfl (fun ls hl => ?_)
                    refine lv_goto (tgt := 131) hx hb dX12_day_164 (by decide) ?_
                    refine lv_iload_n hx hb dX12_day_131 rfl (lv_at hl 0 rfl) ?_
                    refine lv_bipush (v := 6) hx hb dX12_day_132 (by decide) ?_
                    refine lv_icmp_ge (tgt := 167) hx hb dX12_day_134 (by decide) (fun c_32 => ?_) (fun c_32 => ?_)
                    · exact absurd c_32 (by decide)
                    · have tc_32 := t_nle c_32
                      refine lv_iload_n hx hb dX12_day_137 rfl (lv_at hl 1 rfl) ?_
                      refine lv_aload_n hx hb dX12_day_138 rfl (lv_at hl 3 rfl) ?_
                      refine va_get (D := D) (ci := 11) (v := .ref a_guests) (C := RX12) (T := TX12) (N := 54) hx hb hts in_q_day_X12 hown hK.1 hP 6 rfl rfl 31 (by decide) lk3 (fun _ h9 => h9) rfl dX12_day_139 ?_
                      refine lv_iload_n hx hb dX12_day_142 rfl (lv_at hl 0 rfl) ?_
                      refine va_iald hx hb hK.1 hP 0 0 rfl rfl (t_in (by omega) (by omega)) dX12_day_143 ?_
                      refine lv_topi (fun y_33 ey_33 => ?_)
                      refine lv_aload_n hx hb dX12_day_144 rfl (lv_at hl 3 rfl) ?_
                      refine lv_iload_n hx hb dX12_day_145 rfl (lv_at hl 2 rfl) ?_
                      have hPc := hP.sub (ws' := [(h, .inr (11, [.int 0, .int 0, .int 0, .int 0, .int 0, .int 0, .int 0, .int 0, .int 0, .ref a_isPriest, .ref a_bars, .ref a_joined, .ref a_turns, .ref a_awayMonk, .ref a_awayFrom, .ref a_awayTo, .ref a_feastDay, .ref a_rank, .ref a_isWeekly, .ref a_isDouble, .ref a_giftDay, .ref a_giftFrom, .ref a_owed, .ref a_said, .ref a_spared, .ref a_leaveGift, .ref a_leaveFrom, .ref a_leaveTo, .ref a_lateDay, .ref a_lateOffice, .ref a_lateBy, .ref a_guests, .ref a_who, .ref a_used, .ref a_lacks, .ref a_candles, .ref a_masses, .ref a_owing, .ref a_heldOn, .ref a_waits, .ref a_tape, .ref a_text, .int 0, .int 0, .int 0, .int (-1), .int 0, .ref a_statements, .ref a_taken, .ref a_sort, .ref a_first, .ref a_second, .int 0, .int 0]))]) [6] rfl
                      refine roV (As := [.int 0]) (rest := [.int y_33, .int x_29]) S (m_guestFeed  ) (cwV 1 hts gX12_day_X12_guestFeed rfl rfl rfl (by decide +kernel) ⟨Nat.le_of_ble_eq_true rfl, Nat.le_of_ble_eq_true rfl⟩) hK hPc (va_recv hK.1 hPc (ci := 11) (q0 := 0) rfl rfl) rfl hl.1 rfl (Nat.le_of_ble_eq_true rfl) dX12_day_146 ⟨Nat.le_of_ble_eq_true rfl, Nat.le_of_ble_eq_true rfl⟩ (fun r_34 hw_34 => ?_)
                      have hw_34 : r_34.toInt = 3 := hw_34
                      refine lv_iload_n hx hb dX12_day_149 rfl (lv_at hl 0 rfl) ?_
                      refine lv_iadd hx hb dX12_day_150 ?_
                      refine lv_topi (fun x_35 ex_35 => ?_)
                      refine lv_imul hx hb dX12_day_151 ?_
                      refine lv_topi (fun x_36 ex_36 => ?_)
                      refine lv_iadd hx hb dX12_day_152 ?_
                      refine lv_topi (fun x_37 ex_37 => ?_)
                      refine lv_istore_n (lv' := [(2, .int x_37), (3, .int 1), (1, .int 0), (0, .ref h)]) hx hb dX12_day_153 rfl hl (by decide) rfl (fun ls hl => ?_)
                      refine lv_aload_n hx hb dX12_day_154 rfl (lv_at hl 3 rfl) ?_
                      refine va_get (D := D) (ci := 11) (v := .ref a_guests) (C := RX12) (T := TX12) (N := 54) hx hb hts in_q_day_X12 hown hK.1 hP 6 rfl rfl 31 (by decide) lk3 (fun _ h9 => h9) rfl dX12_day_155 ?_
                      refine lv_iload_n hx hb dX12_day_158 rfl (lv_at hl 1 rfl) ?_
                      refine lv_iconst (v := 0) hx hb dX12_day_159 (by decide) ?_
                      refine va_iast hx hb hK.1 hP hD hS 0 0 rfl rfl (t_in (by omega) (by omega)) dX12_day_160 (fun H locs hP hD hS => ?_)
                      obtain ⟨g_38, eg_38⟩ : ∃ z : Nat → Int32, z = upd g_30 ((1 : Int32).toNatClampNeg) 0 := ⟨_, rfl⟩
                      rw [← eg_38] at hP hD
                      have hP : va_P D vwCl [(a_guests, .inl (cI, 6, .inl g_38)), (a_used, .inl (cI, 1095, .inl f_used)), (a_lacks, .inl (cI, 1095, .inl f_lacks)), (a_candles, .inl (cI, 1095, .inl f_candles)), (a_who, .inl (cI, 4380, .inl f1_16)), (a_owed, .inl (cI, 40, .inl f1_19)), (h, .inr (11, [.int 0, .int 0, .int 0, .int 0, .int 0, .int 0, .int 0, .int 0, .int 0, .ref a_isPriest, .ref a_bars, .ref a_joined, .ref a_turns, .ref a_awayMonk, .ref a_awayFrom, .ref a_awayTo, .ref a_feastDay, .ref a_rank, .ref a_isWeekly, .ref a_isDouble, .ref a_giftDay, .ref a_giftFrom, .ref a_owed, .ref a_said, .ref a_spared, .ref a_leaveGift, .ref a_leaveFrom, .ref a_leaveTo, .ref a_lateDay, .ref a_lateOffice, .ref a_lateBy, .ref a_guests, .ref a_who, .ref a_used, .ref a_lacks, .ref a_candles, .ref a_masses, .ref a_owing, .ref a_heldOn, .ref a_waits, .ref a_tape, .ref a_text, .int 0, .int 0, .int 0, .int (-1), .int 0, .ref a_statements, .ref a_taken, .ref a_sort, .ref a_first, .ref a_second, .int 0, .int 0])), (a_heldOn, .inl (cI, 365, .inl g1_22))] H := hP
                      have hD : va_D A [(a_guests, .inl (cI, 6, .inl g_38)), (a_used, .inl (cI, 1095, .inl f_used)), (a_lacks, .inl (cI, 1095, .inl f_lacks)), (a_candles, .inl (cI, 1095, .inl f_candles)), (a_who, .inl (cI, 4380, .inl f1_16)), (a_owed, .inl (cI, 40, .inl f1_19)), (h, .inr (11, [.int 0, .int 0, .int 0, .int 0, .int 0, .int 0, .int 0, .int 0, .int 0, .ref a_isPriest, .ref a_bars, .ref a_joined, .ref a_turns, .ref a_awayMonk, .ref a_awayFrom, .ref a_awayTo, .ref a_feastDay, .ref a_rank, .ref a_isWeekly, .ref a_isDouble, .ref a_giftDay, .ref a_giftFrom, .ref a_owed, .ref a_said, .ref a_spared, .ref a_leaveGift, .ref a_leaveFrom, .ref a_leaveTo, .ref a_lateDay, .ref a_lateOffice, .ref a_lateBy, .ref a_guests, .ref a_who, .ref a_used, .ref a_lacks, .ref a_candles, .ref a_masses, .ref a_owing, .ref a_heldOn, .ref a_waits, .ref a_tape, .ref a_text, .int 0, .int 0, .int 0, .int (-1), .int 0, .ref a_statements, .ref a_taken, .ref a_sort, .ref a_first, .ref a_second, .int 0, .int 0])), (a_heldOn, .inl (cI, 365, .inl g1_22))] := hD
                      obtain ⟨x_39, ex_39⟩ : ∃ y : Int32, y = 1 + 1 := ⟨_, rfl⟩
                      obtain rfl : x_39 = 2 := by rw [ex_39]; decide
                      refine lv_iinc (v := 2) (lv' := [(3, .int 2), (2, .int x_37), (1, .int 0), (0, .ref h)]) hx hb dX12_day_161 hl (k := 1) rfl (by decide) (by decide) rfl (fun ls hl => ?_)
                      refine lv_goto (tgt := 131) hx hb dX12_day_164 (by decide) ?_
                      refine lv_iload_n hx hb dX12_day_131 rfl (lv_at hl 0 rfl) ?_
                      refine lv_bipush (v := 6) hx hb dX12_day_132 (by decide) ?_
                      refine lv_icmp_ge (tgt := 167) hx hb dX12_day_134 (by decide) (fun c_40 => ?_) (fun c_40 => ?_)
                      · exact absurd c_40 (by decide)
                      · have tc_40 := t_nle c_40
                        refine lv_iload_n hx hb dX12_day_137 rfl (lv_at hl 1 rfl) ?_
                        refine lv_aload_n hx hb dX12_day_138 rfl (lv_at hl 3 rfl) ?_
                        refine va_get (D := D) (ci := 11) (v := .ref a_guests) (C := RX12) (T := TX12) (N := 54) hx hb hts in_q_day_X12 hown hK.1 hP 6 rfl rfl 31 (by decide) lk3 (fun _ h9 => h9) rfl dX12_day_139 ?_
                        refine lv_iload_n hx hb dX12_day_142 rfl (lv_at hl 0 rfl) ?_
                        refine va_iald hx hb hK.1 hP 0 0 rfl rfl (t_in (by omega) (by omega)) dX12_day_143 ?_
                        refine lv_topi (fun y_41 ey_41 => ?_)
                        refine lv_aload_n hx hb dX12_day_144 rfl (lv_at hl 3 rfl) ?_
                        refine lv_iload_n hx hb dX12_day_145 rfl (lv_at hl 2 rfl) ?_
                        have hPc := hP.sub (ws' := [(h, .inr (11, [.int 0, .int 0, .int 0, .int 0, .int 0, .int 0, .int 0, .int 0, .int 0, .ref a_isPriest, .ref a_bars, .ref a_joined, .ref a_turns, .ref a_awayMonk, .ref a_awayFrom, .ref a_awayTo, .ref a_feastDay, .ref a_rank, .ref a_isWeekly, .ref a_isDouble, .ref a_giftDay, .ref a_giftFrom, .ref a_owed, .ref a_said, .ref a_spared, .ref a_leaveGift, .ref a_leaveFrom, .ref a_leaveTo, .ref a_lateDay, .ref a_lateOffice, .ref a_lateBy, .ref a_guests, .ref a_who, .ref a_used, .ref a_lacks, .ref a_candles, .ref a_masses, .ref a_owing, .ref a_heldOn, .ref a_waits, .ref a_tape, .ref a_text, .int 0, .int 0, .int 0, .int (-1), .int 0, .ref a_statements, .ref a_taken, .ref a_sort, .ref a_first, .ref a_second, .int 0, .int 0]))]) [6] rfl
                        refine roV (As := [.int 0]) (rest := [.int y_41, .int x_37]) S (m_guestFeed  ) (cwV 1 hts gX12_day_X12_guestFeed rfl rfl rfl (by decide +kernel) ⟨Nat.le_of_ble_eq_true rfl, Nat.le_of_ble_eq_true rfl⟩) hK hPc (va_recv hK.1 hPc (ci := 11) (q0 := 0) rfl rfl) rfl hl.1 rfl (Nat.le_of_ble_eq_true rfl) dX12_day_146 ⟨Nat.le_of_ble_eq_true rfl, Nat.le_of_ble_eq_true rfl⟩ (fun r_42 hw_42 => ?_)
                        have hw_42 : r_42.toInt = 3 := hw_42
                        refine lv_iload_n hx hb dX12_day_149 rfl (lv_at hl 0 rfl) ?_
                        refine lv_iadd hx hb dX12_day_150 ?_
                        refine lv_topi (fun x_43 ex_43 => ?_)
                        refine lv_imul hx hb dX12_day_151 ?_
                        refine lv_topi (fun x_44 ex_44 => ?_)
                        refine lv_iadd hx hb dX12_day_152 ?_
                        refine lv_topi (fun x_45 ex_45 => ?_)
                        refine lv_istore_n (lv' := [(2, .int x_45), (3, .int 2), (1, .int 0), (0, .ref h)]) hx hb dX12_day_153 rfl hl (by decide) rfl (fun ls hl => ?_)
                        refine lv_aload_n hx hb dX12_day_154 rfl (lv_at hl 3 rfl) ?_
                        refine va_get (D := D) (ci := 11) (v := .ref a_guests) (C := RX12) (T := TX12) (N := 54) hx hb hts in_q_day_X12 hown hK.1 hP 6 rfl rfl 31 (by decide) lk3 (fun _ h9 => h9) rfl dX12_day_155 ?_
                        refine lv_iload_n hx hb dX12_day_158 rfl (lv_at hl 1 rfl) ?_
                        refine lv_iconst (v := 0) hx hb dX12_day_159 (by decide) ?_
                        refine va_iast hx hb hK.1 hP hD hS 0 0 rfl rfl (t_in (by omega) (by omega)) dX12_day_160 (fun H locs hP hD hS => ?_)
                        obtain ⟨g_46, eg_46⟩ : ∃ z : Nat → Int32, z = upd g_38 ((2 : Int32).toNatClampNeg) 0 := ⟨_, rfl⟩
                        rw [← eg_46] at hP hD
                        have hP : va_P D vwCl [(a_guests, .inl (cI, 6, .inl g_46)), (a_used, .inl (cI, 1095, .inl f_used)), (a_lacks, .inl (cI, 1095, .inl f_lacks)), (a_candles, .inl (cI, 1095, .inl f_candles)), (a_who, .inl (cI, 4380, .inl f1_16)), (a_owed, .inl (cI, 40, .inl f1_19)), (h, .inr (11, [.int 0, .int 0, .int 0, .int 0, .int 0, .int 0, .int 0, .int 0, .int 0, .ref a_isPriest, .ref a_bars, .ref a_joined, .ref a_turns, .ref a_awayMonk, .ref a_awayFrom, .ref a_awayTo, .ref a_feastDay, .ref a_rank, .ref a_isWeekly, .ref a_isDouble, .ref a_giftDay, .ref a_giftFrom, .ref a_owed, .ref a_said, .ref a_spared, .ref a_leaveGift, .ref a_leaveFrom, .ref a_leaveTo, .ref a_lateDay, .ref a_lateOffice, .ref a_lateBy, .ref a_guests, .ref a_who, .ref a_used, .ref a_lacks, .ref a_candles, .ref a_masses, .ref a_owing, .ref a_heldOn, .ref a_waits, .ref a_tape, .ref a_text, .int 0, .int 0, .int 0, .int (-1), .int 0, .ref a_statements, .ref a_taken, .ref a_sort, .ref a_first, .ref a_second, .int 0, .int 0])), (a_heldOn, .inl (cI, 365, .inl g1_22))] H := hP
                        have hD : va_D A [(a_guests, .inl (cI, 6, .inl g_46)), (a_used, .inl (cI, 1095, .inl f_used)), (a_lacks, .inl (cI, 1095, .inl f_lacks)), (a_candles, .inl (cI, 1095, .inl f_candles)), (a_who, .inl (cI, 4380, .inl f1_16)), (a_owed, .inl (cI, 40, .inl f1_19)), (h, .inr (11, [.int 0, .int 0, .int 0, .int 0, .int 0, .int 0, .int 0, .int 0, .int 0, .ref a_isPriest, .ref a_bars, .ref a_joined, .ref a_turns, .ref a_awayMonk, .ref a_awayFrom, .ref a_awayTo, .ref a_feastDay, .ref a_rank, .ref a_isWeekly, .ref a_isDouble, .ref a_giftDay, .ref a_giftFrom, .ref a_owed, .ref a_said, .ref a_spared, .ref a_leaveGift, .ref a_leaveFrom, .ref a_leaveTo, .ref a_lateDay, .ref a_lateOffice, .ref a_lateBy, .ref a_guests, .ref a_who, .ref a_used, .ref a_lacks, .ref a_candles, .ref a_masses, .ref a_owing, .ref a_heldOn, .ref a_waits, .ref a_tape, .ref a_text, .int 0, .int 0, .int 0, .int (-1), .int 0, .ref a_statements, .ref a_taken, .ref a_sort, .ref a_first, .ref a_second, .int 0, .int 0])), (a_heldOn, .inl (cI, 365, .inl g1_22))] := hD
                        obtain ⟨x_47, ex_47⟩ : ∃ y : Int32, y = 2 + 1 := ⟨_, rfl⟩
                        obtain rfl : x_47 = 3 := by rw [ex_47]; decide
                        refine lv_iinc (v := 3) (lv' := [(3, .int 3), (2, .int x_45), (1, .int 0), (0, .ref h)]) hx hb dX12_day_161 hl (k := 1) rfl (by decide) (by decide) rfl (fun ls hl => ?_)
                        refine lv_goto (tgt := 131) hx hb dX12_day_164 (by decide) ?_
                        refine lv_iload_n hx hb dX12_day_131 rfl (lv_at hl 0 rfl) ?_
                        refine lv_bipush (v := 6) hx hb dX12_day_132 (by decide) ?_
                        refine lv_icmp_ge (tgt := 167) hx hb dX12_day_134 (by decide) (fun c_48 => ?_) (fun c_48 => ?_)
                        · exact absurd c_48 (by decide)
                        · have tc_48 := t_nle c_48
                          refine lv_iload_n hx hb dX12_day_137 rfl (lv_at hl 1 rfl) ?_
                          refine lv_aload_n hx hb dX12_day_138 rfl (lv_at hl 3 rfl) ?_
                          refine va_get (D := D) (ci := 11) (v := .ref a_guests) (C := RX12) (T := TX12) (N := 54) hx hb hts in_q_day_X12 hown hK.1 hP 6 rfl rfl 31 (by decide) lk3 (fun _ h9 => h9) rfl dX12_day_139 ?_
                          refine lv_iload_n hx hb dX12_day_142 rfl (lv_at hl 0 rfl) ?_
                          refine va_iald hx hb hK.1 hP 0 0 rfl rfl (t_in (by omega) (by omega)) dX12_day_143 ?_
                          refine lv_topi (fun y_49 ey_49 => ?_)
                          refine lv_aload_n hx hb dX12_day_144 rfl (lv_at hl 3 rfl) ?_
                          refine lv_iload_n hx hb dX12_day_145 rfl (lv_at hl 2 rfl) ?_
                          have hPc := hP.sub (ws' := [(h, .inr (11, [.int 0, .int 0, .int 0, .int 0, .int 0, .int 0, .int 0, .int 0, .int 0, .ref a_isPriest, .ref a_bars, .ref a_joined, .ref a_turns, .ref a_awayMonk, .ref a_awayFrom, .ref a_awayTo, .ref a_feastDay, .ref a_rank, .ref a_isWeekly, .ref a_isDouble, .ref a_giftDay, .ref a_giftFrom, .ref a_owed, .ref a_said, .ref a_spared, .ref a_leaveGift, .ref a_leaveFrom, .ref a_leaveTo, .ref a_lateDay, .ref a_lateOffice, .ref a_lateBy, .ref a_guests, .ref a_who, .ref a_used, .ref a_lacks, .ref a_candles, .ref a_masses, .ref a_owing, .ref a_heldOn, .ref a_waits, .ref a_tape, .ref a_text, .int 0, .int 0, .int 0, .int (-1), .int 0, .ref a_statements, .ref a_taken, .ref a_sort, .ref a_first, .ref a_second, .int 0, .int 0]))]) [6] rfl
                          refine roV (As := [.int 0]) (rest := [.int y_49, .int x_45]) S (m_guestFeed  ) (cwV 1 hts gX12_day_X12_guestFeed rfl rfl rfl (by decide +kernel) ⟨Nat.le_of_ble_eq_true rfl, Nat.le_of_ble_eq_true rfl⟩) hK hPc (va_recv hK.1 hPc (ci := 11) (q0 := 0) rfl rfl) rfl hl.1 rfl (Nat.le_of_ble_eq_true rfl) dX12_day_146 ⟨Nat.le_of_ble_eq_true rfl, Nat.le_of_ble_eq_true rfl⟩ (fun r_50 hw_50 => ?_)
                          have hw_50 : r_50.toInt = 3 := hw_50
                          refine lv_iload_n hx hb dX12_day_149 rfl (lv_at hl 0 rfl) ?_
                          refine lv_iadd hx hb dX12_day_150 ?_
                          refine lv_topi (fun x_51 ex_51 => ?_)
                          refine lv_imul hx hb dX12_day_151 ?_
                          refine lv_topi (fun x_52 ex_52 => ?_)
                          refine lv_iadd hx hb dX12_day_152 ?_
                          refine lv_topi (fun x_53 ex_53 => ?_)
                          refine lv_istore_n (lv' := [(2, .int x_53), (3, .int 3), (1, .int 0), (0, .ref h)]) hx hb dX12_day_153 rfl hl (by decide) rfl (fun ls hl => ?_)
                          refine lv_aload_n hx hb dX12_day_154 rfl (lv_at hl 3 rfl) ?_
                          refine va_get (D := D) (ci := 11) (v := .ref a_guests) (C := RX12) (T := TX12) (N := 54) hx hb hts in_q_day_X12 hown hK.1 hP 6 rfl rfl 31 (by decide) lk3 (fun _ h9 => h9) rfl dX12_day_155 ?_
                          refine lv_iload_n hx hb dX12_day_158 rfl (lv_at hl 1 rfl) ?_
                          refine lv_iconst (v := 0) hx hb dX12_day_159 (by decide) ?_
                          refine va_iast hx hb hK.1 hP hD hS 0 0 rfl rfl (t_in (by omega) (by omega)) dX12_day_160 (fun H locs hP hD hS => ?_)
                          obtain ⟨g_54, eg_54⟩ : ∃ z : Nat → Int32, z = upd g_46 ((3 : Int32).toNatClampNeg) 0 := ⟨_, rfl⟩
                          rw [← eg_54] at hP hD
                          have hP : va_P D vwCl [(a_guests, .inl (cI, 6, .inl g_54)), (a_used, .inl (cI, 1095, .inl f_used)), (a_lacks, .inl (cI, 1095, .inl f_lacks)), (a_candles, .inl (cI, 1095, .inl f_candles)), (a_who, .inl (cI, 4380, .inl f1_16)), (a_owed, .inl (cI, 40, .inl f1_19)), (h, .inr (11, [.int 0, .int 0, .int 0, .int 0, .int 0, .int 0, .int 0, .int 0, .int 0, .ref a_isPriest, .ref a_bars, .ref a_joined, .ref a_turns, .ref a_awayMonk, .ref a_awayFrom, .ref a_awayTo, .ref a_feastDay, .ref a_rank, .ref a_isWeekly, .ref a_isDouble, .ref a_giftDay, .ref a_giftFrom, .ref a_owed, .ref a_said, .ref a_spared, .ref a_leaveGift, .ref a_leaveFrom, .ref a_leaveTo, .ref a_lateDay, .ref a_lateOffice, .ref a_lateBy, .ref a_guests, .ref a_who, .ref a_used, .ref a_lacks, .ref a_candles, .ref a_masses, .ref a_owing, .ref a_heldOn, .ref a_waits, .ref a_tape, .ref a_text, .int 0, .int 0, .int 0, .int (-1), .int 0, .ref a_statements, .ref a_taken, .ref a_sort, .ref a_first, .ref a_second, .int 0, .int 0])), (a_heldOn, .inl (cI, 365, .inl g1_22))] H := hP
                          have hD : va_D A [(a_guests, .inl (cI, 6, .inl g_54)), (a_used, .inl (cI, 1095, .inl f_used)), (a_lacks, .inl (cI, 1095, .inl f_lacks)), (a_candles, .inl (cI, 1095, .inl f_candles)), (a_who, .inl (cI, 4380, .inl f1_16)), (a_owed, .inl (cI, 40, .inl f1_19)), (h, .inr (11, [.int 0, .int 0, .int 0, .int 0, .int 0, .int 0, .int 0, .int 0, .int 0, .ref a_isPriest, .ref a_bars, .ref a_joined, .ref a_turns, .ref a_awayMonk, .ref a_awayFrom, .ref a_awayTo, .ref a_feastDay, .ref a_rank, .ref a_isWeekly, .ref a_isDouble, .ref a_giftDay, .ref a_giftFrom, .ref a_owed, .ref a_said, .ref a_spared, .ref a_leaveGift, .ref a_leaveFrom, .ref a_leaveTo, .ref a_lateDay, .ref a_lateOffice, .ref a_lateBy, .ref a_guests, .ref a_who, .ref a_used, .ref a_lacks, .ref a_candles, .ref a_masses, .ref a_owing, .ref a_heldOn, .ref a_waits, .ref a_tape, .ref a_text, .int 0, .int 0, .int 0, .int (-1), .int 0, .ref a_statements, .ref a_taken, .ref a_sort, .ref a_first, .ref a_second, .int 0, .int 0])), (a_heldOn, .inl (cI, 365, .inl g1_22))] := hD
                          obtain ⟨x_55, ex_55⟩ : ∃ y : Int32, y = 3 + 1 := ⟨_, rfl⟩
                          obtain rfl : x_55 = 4 := by rw [ex_55]; decide
                          refine lv_iinc (v := 4) (lv' := [(3, .int 4), (2, .int x_53), (1, .int 0), (0, .ref h)]) hx hb dX12_day_161 hl (k := 1) rfl (by decide) (by decide) rfl (fun ls hl => ?_)
                          refine lv_goto (tgt := 131) hx hb dX12_day_164 (by decide) ?_
                          refine lv_iload_n hx hb dX12_day_131 rfl (lv_at hl 0 rfl) ?_
                          refine lv_bipush (v := 6) hx hb dX12_day_132 (by decide) ?_
                          refine lv_icmp_ge (tgt := 167) hx hb dX12_day_134 (by decide) (fun c_56 => ?_) (fun c_56 => ?_)
                          · exact absurd c_56 (by decide)
                          · have tc_56 := t_nle c_56
                            refine lv_iload_n hx hb dX12_day_137 rfl (lv_at hl 1 rfl) ?_
                            refine lv_aload_n hx hb dX12_day_138 rfl (lv_at hl 3 rfl) ?_
                            refine va_get (D := D) (ci := 11) (v := .ref a_guests) (C := RX12) (T := TX12) (N := 54) hx hb hts in_q_day_X12 hown hK.1 hP 6 rfl rfl 31 (by decide) lk3 (fun _ h9 => h9) rfl dX12_day_139 ?_
                            refine lv_iload_n hx hb dX12_day_142 rfl (lv_at hl 0 rfl) ?_
                            refine va_iald hx hb hK.1 hP 0 0 rfl rfl (t_in (by omega) (by omega)) dX12_day_143 ?_
                            refine lv_topi (fun y_57 ey_57 => ?_)
                            refine lv_aload_n hx hb dX12_day_144 rfl (lv_at hl 3 rfl) ?_
                            refine lv_iload_n hx hb dX12_day_145 rfl (lv_at hl 2 rfl) ?_
                            have hPc := hP.sub (ws' := [(h, .inr (11, [.int 0, .int 0, .int 0, .int 0, .int 0, .int 0, .int 0, .int 0, .int 0, .ref a_isPriest, .ref a_bars, .ref a_joined, .ref a_turns, .ref a_awayMonk, .ref a_awayFrom, .ref a_awayTo, .ref a_feastDay, .ref a_rank, .ref a_isWeekly, .ref a_isDouble, .ref a_giftDay, .ref a_giftFrom, .ref a_owed, .ref a_said, .ref a_spared, .ref a_leaveGift, .ref a_leaveFrom, .ref a_leaveTo, .ref a_lateDay, .ref a_lateOffice, .ref a_lateBy, .ref a_guests, .ref a_who, .ref a_used, .ref a_lacks, .ref a_candles, .ref a_masses, .ref a_owing, .ref a_heldOn, .ref a_waits, .ref a_tape, .ref a_text, .int 0, .int 0, .int 0, .int (-1), .int 0, .ref a_statements, .ref a_taken, .ref a_sort, .ref a_first, .ref a_second, .int 0, .int 0]))]) [6] rfl
                            refine roV (As := [.int 0]) (rest := [.int y_57, .int x_53]) S (m_guestFeed  ) (cwV 1 hts gX12_day_X12_guestFeed rfl rfl rfl (by decide +kernel) ⟨Nat.le_of_ble_eq_true rfl, Nat.le_of_ble_eq_true rfl⟩) hK hPc (va_recv hK.1 hPc (ci := 11) (q0 := 0) rfl rfl) rfl hl.1 rfl (Nat.le_of_ble_eq_true rfl) dX12_day_146 ⟨Nat.le_of_ble_eq_true rfl, Nat.le_of_ble_eq_true rfl⟩ (fun r_58 hw_58 => ?_)
                            have hw_58 : r_58.toInt = 3 := hw_58
                            refine lv_iload_n hx hb dX12_day_149 rfl (lv_at hl 0 rfl) ?_
                            refine lv_iadd hx hb dX12_day_150 ?_
                            refine lv_topi (fun x_59 ex_59 => ?_)
                            refine lv_imul hx hb dX12_day_151 ?_
                            refine lv_topi (fun x_60 ex_60 => ?_)
                            refine lv_iadd hx hb dX12_day_152 ?_
                            refine lv_topi (fun x_61 ex_61 => ?_)
                            refine lv_istore_n (lv' := [(2, .int x_61), (3, .int 4), (1, .int 0), (0, .ref h)]) hx hb dX12_day_153 rfl hl (by decide) rfl (fun ls hl => ?_)
                            refine lv_aload_n hx hb dX12_day_154 rfl (lv_at hl 3 rfl) ?_
                            refine va_get (D := D) (ci := 11) (v := .ref a_guests) (C := RX12) (T := TX12) (N := 54) hx hb hts in_q_day_X12 hown hK.1 hP 6 rfl rfl 31 (by decide) lk3 (fun _ h9 => h9) rfl dX12_day_155 ?_
                            refine lv_iload_n hx hb dX12_day_158 rfl (lv_at hl 1 rfl) ?_
                            refine lv_iconst (v := 0) hx hb dX12_day_159 (by decide) ?_
                            refine va_iast hx hb hK.1 hP hD hS 0 0 rfl rfl (t_in (by omega) (by omega)) dX12_day_160 (fun H locs hP hD hS => ?_)
                            obtain ⟨g_62, eg_62⟩ : ∃ z : Nat → Int32, z = upd g_54 ((4 : Int32).toNatClampNeg) 0 := ⟨_, rfl⟩
                            rw [← eg_62] at hP hD
                            have hP : va_P D vwCl [(a_guests, .inl (cI, 6, .inl g_62)), (a_used, .inl (cI, 1095, .inl f_used)), (a_lacks, .inl (cI, 1095, .inl f_lacks)), (a_candles, .inl (cI, 1095, .inl f_candles)), (a_who, .inl (cI, 4380, .inl f1_16)), (a_owed, .inl (cI, 40, .inl f1_19)), (h, .inr (11, [.int 0, .int 0, .int 0, .int 0, .int 0, .int 0, .int 0, .int 0, .int 0, .ref a_isPriest, .ref a_bars, .ref a_joined, .ref a_turns, .ref a_awayMonk, .ref a_awayFrom, .ref a_awayTo, .ref a_feastDay, .ref a_rank, .ref a_isWeekly, .ref a_isDouble, .ref a_giftDay, .ref a_giftFrom, .ref a_owed, .ref a_said, .ref a_spared, .ref a_leaveGift, .ref a_leaveFrom, .ref a_leaveTo, .ref a_lateDay, .ref a_lateOffice, .ref a_lateBy, .ref a_guests, .ref a_who, .ref a_used, .ref a_lacks, .ref a_candles, .ref a_masses, .ref a_owing, .ref a_heldOn, .ref a_waits, .ref a_tape, .ref a_text, .int 0, .int 0, .int 0, .int (-1), .int 0, .ref a_statements, .ref a_taken, .ref a_sort, .ref a_first, .ref a_second, .int 0, .int 0])), (a_heldOn, .inl (cI, 365, .inl g1_22))] H := hP
                            have hD : va_D A [(a_guests, .inl (cI, 6, .inl g_62)), (a_used, .inl (cI, 1095, .inl f_used)), (a_lacks, .inl (cI, 1095, .inl f_lacks)), (a_candles, .inl (cI, 1095, .inl f_candles)), (a_who, .inl (cI, 4380, .inl f1_16)), (a_owed, .inl (cI, 40, .inl f1_19)), (h, .inr (11, [.int 0, .int 0, .int 0, .int 0, .int 0, .int 0, .int 0, .int 0, .int 0, .ref a_isPriest, .ref a_bars, .ref a_joined, .ref a_turns, .ref a_awayMonk, .ref a_awayFrom, .ref a_awayTo, .ref a_feastDay, .ref a_rank, .ref a_isWeekly, .ref a_isDouble, .ref a_giftDay, .ref a_giftFrom, .ref a_owed, .ref a_said, .ref a_spared, .ref a_leaveGift, .ref a_leaveFrom, .ref a_leaveTo, .ref a_lateDay, .ref a_lateOffice, .ref a_lateBy, .ref a_guests, .ref a_who, .ref a_used, .ref a_lacks, .ref a_candles, .ref a_masses, .ref a_owing, .ref a_heldOn, .ref a_waits, .ref a_tape, .ref a_text, .int 0, .int 0, .int 0, .int (-1), .int 0, .ref a_statements, .ref a_taken, .ref a_sort, .ref a_first, .ref a_second, .int 0, .int 0])), (a_heldOn, .inl (cI, 365, .inl g1_22))] := hD
                            obtain ⟨x_63, ex_63⟩ : ∃ y : Int32, y = 4 + 1 := ⟨_, rfl⟩
                            obtain rfl : x_63 = 5 := by rw [ex_63]; decide
                            refine lv_iinc (v := 5) (lv' := [(3, .int 5), (2, .int x_61), (1, .int 0), (0, .ref h)]) hx hb dX12_day_161 hl (k := 1) rfl (by decide) (by decide) rfl (fun ls hl => ?_)
                            refine lv_goto (tgt := 131) hx hb dX12_day_164 (by decide) ?_
                            refine lv_iload_n hx hb dX12_day_131 rfl (lv_at hl 0 rfl) ?_
                            refine lv_bipush (v := 6) hx hb dX12_day_132 (by decide) ?_
                            refine lv_icmp_ge (tgt := 167) hx hb dX12_day_134 (by decide) (fun c_64 => ?_) (fun c_64 => ?_)
                            · exact absurd c_64 (by decide)
                            · have tc_64 := t_nle c_64
                              refine lv_iload_n hx hb dX12_day_137 rfl (lv_at hl 1 rfl) ?_
                              refine lv_aload_n hx hb dX12_day_138 rfl (lv_at hl 3 rfl) ?_
                              refine va_get (D := D) (ci := 11) (v := .ref a_guests) (C := RX12) (T := TX12) (N := 54) hx hb hts in_q_day_X12 hown hK.1 hP 6 rfl rfl 31 (by decide) lk3 (fun _ h9 => h9) rfl dX12_day_139 ?_
                              refine lv_iload_n hx hb dX12_day_142 rfl (lv_at hl 0 rfl) ?_
                              refine va_iald hx hb hK.1 hP 0 0 rfl rfl (t_in (by omega) (by omega)) dX12_day_143 ?_
                              refine lv_topi (fun y_65 ey_65 => ?_)
                              refine lv_aload_n hx hb dX12_day_144 rfl (lv_at hl 3 rfl) ?_
                              refine lv_iload_n hx hb dX12_day_145 rfl (lv_at hl 2 rfl) ?_
                              have hPc := hP.sub (ws' := [(h, .inr (11, [.int 0, .int 0, .int 0, .int 0, .int 0, .int 0, .int 0, .int 0, .int 0, .ref a_isPriest, .ref a_bars, .ref a_joined, .ref a_turns, .ref a_awayMonk, .ref a_awayFrom, .ref a_awayTo, .ref a_feastDay, .ref a_rank, .ref a_isWeekly, .ref a_isDouble, .ref a_giftDay, .ref a_giftFrom, .ref a_owed, .ref a_said, .ref a_spared, .ref a_leaveGift, .ref a_leaveFrom, .ref a_leaveTo, .ref a_lateDay, .ref a_lateOffice, .ref a_lateBy, .ref a_guests, .ref a_who, .ref a_used, .ref a_lacks, .ref a_candles, .ref a_masses, .ref a_owing, .ref a_heldOn, .ref a_waits, .ref a_tape, .ref a_text, .int 0, .int 0, .int 0, .int (-1), .int 0, .ref a_statements, .ref a_taken, .ref a_sort, .ref a_first, .ref a_second, .int 0, .int 0]))]) [6] rfl
                              refine roV (As := [.int 0]) (rest := [.int y_65, .int x_61]) S (m_guestFeed  ) (cwV 1 hts gX12_day_X12_guestFeed rfl rfl rfl (by decide +kernel) ⟨Nat.le_of_ble_eq_true rfl, Nat.le_of_ble_eq_true rfl⟩) hK hPc (va_recv hK.1 hPc (ci := 11) (q0 := 0) rfl rfl) rfl hl.1 rfl (Nat.le_of_ble_eq_true rfl) dX12_day_146 ⟨Nat.le_of_ble_eq_true rfl, Nat.le_of_ble_eq_true rfl⟩ (fun r_66 hw_66 => ?_)
                              have hw_66 : r_66.toInt = 3 := hw_66
                              refine lv_iload_n hx hb dX12_day_149 rfl (lv_at hl 0 rfl) ?_
                              refine lv_iadd hx hb dX12_day_150 ?_
                              refine lv_topi (fun x_67 ex_67 => ?_)
                              refine lv_imul hx hb dX12_day_151 ?_
                              refine lv_topi (fun x_68 ex_68 => ?_)
                              refine lv_iadd hx hb dX12_day_152 ?_
                              refine lv_topi (fun x_69 ex_69 => ?_)
                              refine lv_istore_n (lv' := [(2, .int x_69), (3, .int 5), (1, .int 0), (0, .ref h)]) hx hb dX12_day_153 rfl hl (by decide) rfl (fun ls hl => ?_)
                              refine lv_aload_n hx hb dX12_day_154 rfl (lv_at hl 3 rfl) ?_
                              refine va_get (D := D) (ci := 11) (v := .ref a_guests) (C := RX12) (T := TX12) (N := 54) hx hb hts in_q_day_X12 hown hK.1 hP 6 rfl rfl 31 (by decide) lk3 (fun _ h9 => h9) rfl dX12_day_155 ?_
                              refine lv_iload_n hx hb dX12_day_158 rfl (lv_at hl 1 rfl) ?_
                              refine lv_iconst (v := 0) hx hb dX12_day_159 (by decide) ?_
                              refine va_iast hx hb hK.1 hP hD hS 0 0 rfl rfl (t_in (by omega) (by omega)) dX12_day_160 (fun H locs hP hD hS => ?_)
                              obtain ⟨g_70, eg_70⟩ : ∃ z : Nat → Int32, z = upd g_62 ((5 : Int32).toNatClampNeg) 0 := ⟨_, rfl⟩
                              rw [← eg_70] at hP hD
                              have hP : va_P D vwCl [(a_guests, .inl (cI, 6, .inl g_70)), (a_used, .inl (cI, 1095, .inl f_used)), (a_lacks, .inl (cI, 1095, .inl f_lacks)), (a_candles, .inl (cI, 1095, .inl f_candles)), (a_who, .inl (cI, 4380, .inl f1_16)), (a_owed, .inl (cI, 40, .inl f1_19)), (h, .inr (11, [.int 0, .int 0, .int 0, .int 0, .int 0, .int 0, .int 0, .int 0, .int 0, .ref a_isPriest, .ref a_bars, .ref a_joined, .ref a_turns, .ref a_awayMonk, .ref a_awayFrom, .ref a_awayTo, .ref a_feastDay, .ref a_rank, .ref a_isWeekly, .ref a_isDouble, .ref a_giftDay, .ref a_giftFrom, .ref a_owed, .ref a_said, .ref a_spared, .ref a_leaveGift, .ref a_leaveFrom, .ref a_leaveTo, .ref a_lateDay, .ref a_lateOffice, .ref a_lateBy, .ref a_guests, .ref a_who, .ref a_used, .ref a_lacks, .ref a_candles, .ref a_masses, .ref a_owing, .ref a_heldOn, .ref a_waits, .ref a_tape, .ref a_text, .int 0, .int 0, .int 0, .int (-1), .int 0, .ref a_statements, .ref a_taken, .ref a_sort, .ref a_first, .ref a_second, .int 0, .int 0])), (a_heldOn, .inl (cI, 365, .inl g1_22))] H := hP
                              have hD : va_D A [(a_guests, .inl (cI, 6, .inl g_70)), (a_used, .inl (cI, 1095, .inl f_used)), (a_lacks, .inl (cI, 1095, .inl f_lacks)), (a_candles, .inl (cI, 1095, .inl f_candles)), (a_who, .inl (cI, 4380, .inl f1_16)), (a_owed, .inl (cI, 40, .inl f1_19)), (h, .inr (11, [.int 0, .int 0, .int 0, .int 0, .int 0, .int 0, .int 0, .int 0, .int 0, .ref a_isPriest, .ref a_bars, .ref a_joined, .ref a_turns, .ref a_awayMonk, .ref a_awayFrom, .ref a_awayTo, .ref a_feastDay, .ref a_rank, .ref a_isWeekly, .ref a_isDouble, .ref a_giftDay, .ref a_giftFrom, .ref a_owed, .ref a_said, .ref a_spared, .ref a_leaveGift, .ref a_leaveFrom, .ref a_leaveTo, .ref a_lateDay, .ref a_lateOffice, .ref a_lateBy, .ref a_guests, .ref a_who, .ref a_used, .ref a_lacks, .ref a_candles, .ref a_masses, .ref a_owing, .ref a_heldOn, .ref a_waits, .ref a_tape, .ref a_text, .int 0, .int 0, .int 0, .int (-1), .int 0, .ref a_statements, .ref a_taken, .ref a_sort, .ref a_first, .ref a_second, .int 0, .int 0])), (a_heldOn, .inl (cI, 365, .inl g1_22))] := hD
                              obtain ⟨x_71, ex_71⟩ : ∃ y : Int32, y = 5 + 1 := ⟨_, rfl⟩
                              obtain rfl : x_71 = 6 := by rw [ex_71]; decide
                              refine lv_iinc (v := 6) (lv' := [(3, .int 6), (2, .int x_69), (1, .int 0), (0, .ref h)]) hx hb dX12_day_161 hl (k := 1) rfl (by decide) (by decide) rfl (fun ls hl => ?_)
                              refine lv_goto (tgt := 131) hx hb dX12_day_164 (by decide) ?_
                              refine lv_iload_n hx hb dX12_day_131 rfl (lv_at hl 0 rfl) ?_
                              refine lv_bipush (v := 6) hx hb dX12_day_132 (by decide) ?_
                              refine lv_icmp_ge (tgt := 167) hx hb dX12_day_134 (by decide) (fun c_72 => ?_) (fun c_72 => ?_)
                              · have tc_72 := t_le c_72
                                refine lv_aload_n hx hb dX12_day_167 rfl (lv_at hl 3 rfl) ?_
                                refine va_get (D := D) (ci := 11) (v := .ref a_used) (C := RX12) (T := TX12) (N := 54) hx hb hts in_q_day_X12 hown hK.1 hP 6 rfl rfl 33 (by decide) lk4 (fun _ h9 => h9) rfl dX12_day_168 ?_
                                refine lv_iload_n hx hb dX12_day_171 rfl (lv_at hl 2 rfl) ?_
                                refine lv_aload_n hx hb dX12_day_172 rfl (lv_at hl 3 rfl) ?_
                                refine va_get (D := D) (ci := 11) (v := .int 0) (C := RX12) (T := TX12) (N := 54) hx hb hts in_q_day_X12 hown hK.1 hP 6 rfl rfl 7 (by decide) lk5 (fun _ h9 => h9) rfl dX12_day_173 ?_
                                refine lv_iload_n hx hb dX12_day_176 rfl (lv_at hl 1 rfl) ?_
                                refine va_mmin hx hb (hml.trans hl.1.symm) hown lk6 lk7 lk8 lk9 (Nat.le_of_ble_eq_true rfl) (Nat.le_of_ble_eq_true rfl) (Nat.le_of_ble_eq_true rfl) (Nat.le_of_ble_eq_true rfl) dX12_day_177 ?_
                                refine lv_topi (fun x_73 ex_73 => ?_)
                                have tx_73 := t_min ex_73
                                refine va_iast hx hb hK.1 hP hD hS 1 0 rfl rfl (t_in (by omega) (by omega)) dX12_day_180 (fun H locs hP hD hS => ?_)
                                obtain ⟨g_74, eg_74⟩ : ∃ z : Nat → Int32, z = upd f_used ((0 : Int32).toNatClampNeg) x_73 := ⟨_, rfl⟩
                                rw [← eg_74] at hP hD
                                have hP : va_P D vwCl [(a_guests, .inl (cI, 6, .inl g_70)), (a_used, .inl (cI, 1095, .inl g_74)), (a_lacks, .inl (cI, 1095, .inl f_lacks)), (a_candles, .inl (cI, 1095, .inl f_candles)), (a_who, .inl (cI, 4380, .inl f1_16)), (a_owed, .inl (cI, 40, .inl f1_19)), (h, .inr (11, [.int 0, .int 0, .int 0, .int 0, .int 0, .int 0, .int 0, .int 0, .int 0, .ref a_isPriest, .ref a_bars, .ref a_joined, .ref a_turns, .ref a_awayMonk, .ref a_awayFrom, .ref a_awayTo, .ref a_feastDay, .ref a_rank, .ref a_isWeekly, .ref a_isDouble, .ref a_giftDay, .ref a_giftFrom, .ref a_owed, .ref a_said, .ref a_spared, .ref a_leaveGift, .ref a_leaveFrom, .ref a_leaveTo, .ref a_lateDay, .ref a_lateOffice, .ref a_lateBy, .ref a_guests, .ref a_who, .ref a_used, .ref a_lacks, .ref a_candles, .ref a_masses, .ref a_owing, .ref a_heldOn, .ref a_waits, .ref a_tape, .ref a_text, .int 0, .int 0, .int 0, .int (-1), .int 0, .ref a_statements, .ref a_taken, .ref a_sort, .ref a_first, .ref a_second, .int 0, .int 0])), (a_heldOn, .inl (cI, 365, .inl g1_22))] H := hP
                                have hD : va_D A [(a_guests, .inl (cI, 6, .inl g_70)), (a_used, .inl (cI, 1095, .inl g_74)), (a_lacks, .inl (cI, 1095, .inl f_lacks)), (a_candles, .inl (cI, 1095, .inl f_candles)), (a_who, .inl (cI, 4380, .inl f1_16)), (a_owed, .inl (cI, 40, .inl f1_19)), (h, .inr (11, [.int 0, .int 0, .int 0, .int 0, .int 0, .int 0, .int 0, .int 0, .int 0, .ref a_isPriest, .ref a_bars, .ref a_joined, .ref a_turns, .ref a_awayMonk, .ref a_awayFrom, .ref a_awayTo, .ref a_feastDay, .ref a_rank, .ref a_isWeekly, .ref a_isDouble, .ref a_giftDay, .ref a_giftFrom, .ref a_owed, .ref a_said, .ref a_spared, .ref a_leaveGift, .ref a_leaveFrom, .ref a_leaveTo, .ref a_lateDay, .ref a_lateOffice, .ref a_lateBy, .ref a_guests, .ref a_who, .ref a_used, .ref a_lacks, .ref a_candles, .ref a_masses, .ref a_owing, .ref a_heldOn, .ref a_waits, .ref a_tape, .ref a_text, .int 0, .int 0, .int 0, .int (-1), .int 0, .ref a_statements, .ref a_taken, .ref a_sort, .ref a_first, .ref a_second, .int 0, .int 0])), (a_heldOn, .inl (cI, 365, .inl g1_22))] := hD
                                refine lv_aload_n hx hb dX12_day_181 rfl (lv_at hl 3 rfl) ?_
                                refine va_get (D := D) (ci := 11) (v := .ref a_lacks) (C := RX12) (T := TX12) (N := 54) hx hb hts in_q_day_X12 hown hK.1 hP 6 rfl rfl 34 (by decide) lk10 (fun _ h9 => h9) rfl dX12_day_182 ?_
                                refine lv_iload_n hx hb dX12_day_185 rfl (lv_at hl 2 rfl) ?_
                                refine lv_iload_n hx hb dX12_day_186 rfl (lv_at hl 1 rfl) ?_
                                refine lv_aload_n hx hb dX12_day_187 rfl (lv_at hl 3 rfl) ?_
                                refine va_get (D := D) (ci := 11) (v := .ref a_used) (C := RX12) (T := TX12) (N := 54) hx hb hts in_q_day_X12 hown hK.1 hP 6 rfl rfl 33 (by decide) lk4 (fun _ h9 => h9) rfl dX12_day_188 ?_
                                refine lv_iload_n hx hb dX12_day_191 rfl (lv_at hl 2 rfl) ?_
                                refine va_iald hx hb hK.1 hP 1 0 rfl rfl (t_in (by omega) (by omega)) dX12_day_192 ?_
                                refine lv_topi (fun y_75 ey_75 => ?_)
                                refine lv_isub hx hb dX12_day_193 ?_
                                refine lv_topi (fun x_76 ex_76 => ?_)
                                refine va_iast hx hb hK.1 hP hD hS 2 0 rfl rfl (t_in (by omega) (by omega)) dX12_day_194 (fun H locs hP hD hS => ?_)
                                obtain ⟨g_77, eg_77⟩ : ∃ z : Nat → Int32, z = upd f_lacks ((0 : Int32).toNatClampNeg) x_76 := ⟨_, rfl⟩
                                rw [← eg_77] at hP hD
                                have hP : va_P D vwCl [(a_guests, .inl (cI, 6, .inl g_70)), (a_used, .inl (cI, 1095, .inl g_74)), (a_lacks, .inl (cI, 1095, .inl g_77)), (a_candles, .inl (cI, 1095, .inl f_candles)), (a_who, .inl (cI, 4380, .inl f1_16)), (a_owed, .inl (cI, 40, .inl f1_19)), (h, .inr (11, [.int 0, .int 0, .int 0, .int 0, .int 0, .int 0, .int 0, .int 0, .int 0, .ref a_isPriest, .ref a_bars, .ref a_joined, .ref a_turns, .ref a_awayMonk, .ref a_awayFrom, .ref a_awayTo, .ref a_feastDay, .ref a_rank, .ref a_isWeekly, .ref a_isDouble, .ref a_giftDay, .ref a_giftFrom, .ref a_owed, .ref a_said, .ref a_spared, .ref a_leaveGift, .ref a_leaveFrom, .ref a_leaveTo, .ref a_lateDay, .ref a_lateOffice, .ref a_lateBy, .ref a_guests, .ref a_who, .ref a_used, .ref a_lacks, .ref a_candles, .ref a_masses, .ref a_owing, .ref a_heldOn, .ref a_waits, .ref a_tape, .ref a_text, .int 0, .int 0, .int 0, .int (-1), .int 0, .ref a_statements, .ref a_taken, .ref a_sort, .ref a_first, .ref a_second, .int 0, .int 0])), (a_heldOn, .inl (cI, 365, .inl g1_22))] H := hP
                                have hD : va_D A [(a_guests, .inl (cI, 6, .inl g_70)), (a_used, .inl (cI, 1095, .inl g_74)), (a_lacks, .inl (cI, 1095, .inl g_77)), (a_candles, .inl (cI, 1095, .inl f_candles)), (a_who, .inl (cI, 4380, .inl f1_16)), (a_owed, .inl (cI, 40, .inl f1_19)), (h, .inr (11, [.int 0, .int 0, .int 0, .int 0, .int 0, .int 0, .int 0, .int 0, .int 0, .ref a_isPriest, .ref a_bars, .ref a_joined, .ref a_turns, .ref a_awayMonk, .ref a_awayFrom, .ref a_awayTo, .ref a_feastDay, .ref a_rank, .ref a_isWeekly, .ref a_isDouble, .ref a_giftDay, .ref a_giftFrom, .ref a_owed, .ref a_said, .ref a_spared, .ref a_leaveGift, .ref a_leaveFrom, .ref a_leaveTo, .ref a_lateDay, .ref a_lateOffice, .ref a_lateBy, .ref a_guests, .ref a_who, .ref a_used, .ref a_lacks, .ref a_candles, .ref a_masses, .ref a_owing, .ref a_heldOn, .ref a_waits, .ref a_tape, .ref a_text, .int 0, .int 0, .int 0, .int (-1), .int 0, .ref a_statements, .ref a_taken, .ref a_sort, .ref a_first, .ref a_second, .int 0, .int 0])), (a_heldOn, .inl (cI, 365, .inl g1_22))] := hD
                                refine lv_aload_n hx hb dX12_day_195 rfl (lv_at hl 3 rfl) ?_
                                refine lv_dup hx hb dX12_day_196 rfl ?_
                                refine va_get (D := D) (ci := 11) (v := .int 0) (C := RX12) (T := TX12) (N := 54) hx hb hts in_q_day_X12 hown hK.1 hP 6 rfl rfl 7 (by decide) lk5 (fun _ h9 => h9) rfl dX12_day_197 ?_
                                refine lv_aload_n hx hb dX12_day_200 rfl (lv_at hl 3 rfl) ?_
                                refine va_get (D := D) (ci := 11) (v := .ref a_used) (C := RX12) (T := TX12) (N := 54) hx hb hts in_q_day_X12 hown hK.1 hP 6 rfl rfl 33 (by decide) lk4 (fun _ h9 => h9) rfl dX12_day_201 ?_
                                refine lv_iload_n hx hb dX12_day_204 rfl (lv_at hl 2 rfl) ?_
                                refine va_iald hx hb hK.1 hP 1 0 rfl rfl (t_in (by omega) (by omega)) dX12_day_205 ?_
                                refine lv_topi (fun y_78 ey_78 => ?_)
                                refine lv_isub hx hb dX12_day_206 ?_
                                refine lv_topi (fun x_79 ex_79 => ?_)
                                refine va_put (D := D) (ci := 11) (v := .int x_79) (ty := .int) (C := RX12) (T := TX12) (N := 54) hx hb hts in_q_day_X12 tyX12 tyX12_ok nmX12 hown hK.1 hP hD hS 6 rfl rfl 7 (by decide) lk5 (fun _ h9 => h9) rfl (by decide +kernel) rfl rfl (Nat.le_of_ble_eq_true rfl) dX12_day_207 (fun H locs hP hD hS => ?_)
                                have hP : va_P D vwCl [(a_guests, .inl (cI, 6, .inl g_70)), (a_used, .inl (cI, 1095, .inl g_74)), (a_lacks, .inl (cI, 1095, .inl g_77)), (a_candles, .inl (cI, 1095, .inl f_candles)), (a_who, .inl (cI, 4380, .inl f1_16)), (a_owed, .inl (cI, 40, .inl f1_19)), (h, .inr (11, [.int 0, .int 0, .int 0, .int 0, .int 0, .int 0, .int 0, .int x_79, .int 0, .ref a_isPriest, .ref a_bars, .ref a_joined, .ref a_turns, .ref a_awayMonk, .ref a_awayFrom, .ref a_awayTo, .ref a_feastDay, .ref a_rank, .ref a_isWeekly, .ref a_isDouble, .ref a_giftDay, .ref a_giftFrom, .ref a_owed, .ref a_said, .ref a_spared, .ref a_leaveGift, .ref a_leaveFrom, .ref a_leaveTo, .ref a_lateDay, .ref a_lateOffice, .ref a_lateBy, .ref a_guests, .ref a_who, .ref a_used, .ref a_lacks, .ref a_candles, .ref a_masses, .ref a_owing, .ref a_heldOn, .ref a_waits, .ref a_tape, .ref a_text, .int 0, .int 0, .int 0, .int (-1), .int 0, .ref a_statements, .ref a_taken, .ref a_sort, .ref a_first, .ref a_second, .int 0, .int 0])), (a_heldOn, .inl (cI, 365, .inl g1_22))] H := hP
                                have hD : va_D A [(a_guests, .inl (cI, 6, .inl g_70)), (a_used, .inl (cI, 1095, .inl g_74)), (a_lacks, .inl (cI, 1095, .inl g_77)), (a_candles, .inl (cI, 1095, .inl f_candles)), (a_who, .inl (cI, 4380, .inl f1_16)), (a_owed, .inl (cI, 40, .inl f1_19)), (h, .inr (11, [.int 0, .int 0, .int 0, .int 0, .int 0, .int 0, .int 0, .int x_79, .int 0, .ref a_isPriest, .ref a_bars, .ref a_joined, .ref a_turns, .ref a_awayMonk, .ref a_awayFrom, .ref a_awayTo, .ref a_feastDay, .ref a_rank, .ref a_isWeekly, .ref a_isDouble, .ref a_giftDay, .ref a_giftFrom, .ref a_owed, .ref a_said, .ref a_spared, .ref a_leaveGift, .ref a_leaveFrom, .ref a_leaveTo, .ref a_lateDay, .ref a_lateOffice, .ref a_lateBy, .ref a_guests, .ref a_who, .ref a_used, .ref a_lacks, .ref a_candles, .ref a_masses, .ref a_owing, .ref a_heldOn, .ref a_waits, .ref a_tape, .ref a_text, .int 0, .int 0, .int 0, .int (-1), .int 0, .ref a_statements, .ref a_taken, .ref a_sort, .ref a_first, .ref a_second, .int 0, .int 0])), (a_heldOn, .inl (cI, 365, .inl g1_22))] := hD
                                refine lv_iconst (v := 0) hx hb dX12_day_210 (by decide) ?_
                                refine lv_istore_n (lv' := [(3, .int 0), (2, .int x_69), (1, .int 0), (0, .ref h)]) hx hb dX12_day_211 rfl hl (by decide) rfl (fun ls hl => ?_)
                                have loop212 : ∀ (n : Nat) (j : Int32) (fx : Nat → Int32), 8 - j.toInt < (n : Int) → 0 ≤ j.toInt → j.toInt ≤ 8 → ∀ (H : Heap) (locs : List Loc), va_P D vwCl [(a_guests, .inl (cI, 6, .inl g_70)), (a_used, .inl (cI, 1095, .inl g_74)), (a_lacks, .inl (cI, 1095, .inl g_77)), (a_candles, .inl (cI, 1095, .inl fx)), (a_who, .inl (cI, 4380, .inl f1_16)), (a_owed, .inl (cI, 40, .inl f1_19)), (h, .inr (11, [.int 0, .int 0, .int 0, .int 0, .int 0, .int 0, .int 0, .int x_79, .int 0, .ref a_isPriest, .ref a_bars, .ref a_joined, .ref a_turns, .ref a_awayMonk, .ref a_awayFrom, .ref a_awayTo, .ref a_feastDay, .ref a_rank, .ref a_isWeekly, .ref a_isDouble, .ref a_giftDay, .ref a_giftFrom, .ref a_owed, .ref a_said, .ref a_spared, .ref a_leaveGift, .ref a_leaveFrom, .ref a_leaveTo, .ref a_lateDay, .ref a_lateOffice, .ref a_lateBy, .ref a_guests, .ref a_who, .ref a_used, .ref a_lacks, .ref a_candles, .ref a_masses, .ref a_owing, .ref a_heldOn, .ref a_waits, .ref a_tape, .ref a_text, .int 0, .int 0, .int 0, .int (-1), .int 0, .ref a_statements, .ref a_taken, .ref a_sort, .ref a_first, .ref a_second, .int 0, .int 0])), (a_heldOn, .inl (cI, 365, .inl g1_22))] H → va_D A [(a_guests, .inl (cI, 6, .inl g_70)), (a_used, .inl (cI, 1095, .inl g_74)), (a_lacks, .inl (cI, 1095, .inl g_77)), (a_candles, .inl (cI, 1095, .inl fx)), (a_who, .inl (cI, 4380, .inl f1_16)), (a_owed, .inl (cI, 40, .inl f1_19)), (h, .inr (11, [.int 0, .int 0, .int 0, .int 0, .int 0, .int 0, .int 0, .int x_79, .int 0, .ref a_isPriest, .ref a_bars, .ref a_joined, .ref a_turns, .ref a_awayMonk, .ref a_awayFrom, .ref a_awayTo, .ref a_feastDay, .ref a_rank, .ref a_isWeekly, .ref a_isDouble, .ref a_giftDay, .ref a_giftFrom, .ref a_owed, .ref a_said, .ref a_spared, .ref a_leaveGift, .ref a_leaveFrom, .ref a_leaveTo, .ref a_lateDay, .ref a_lateOffice, .ref a_lateBy, .ref a_guests, .ref a_who, .ref a_used, .ref a_lacks, .ref a_candles, .ref a_masses, .ref a_owing, .ref a_heldOn, .ref a_waits, .ref a_tape, .ref a_text, .int 0, .int 0, .int 0, .int (-1), .int 0, .ref a_statements, .ref a_taken, .ref a_sort, .ref a_first, .ref a_second, .int 0, .int 0])), (a_heldOn, .inl (cI, 365, .inl g1_22))] → va_S A s.heap H locs → ∀ ls : Array Slot, lv_has ls 6 [(3, .int j), (2, .int x_69), (1, .int 0), (0, .ref h)] → W p l e ({ frames := 5, cells := 0, slots := 0, locals := 107 } : Room) s m args below meth c H locs 0 0 Q (F0 m 212 ls []) := by
                                  intro n
                                  induction n with
                                  | zero =>
                                    intro j fx hmu hj0 hj1 H locs hP hD hS ls hl
                                    exfalso; omega
                                  | succ n ih212 =>
                                    intro j fx hmu hj0 hj1 H locs hP hD hS ls hl
                                    refine lv_iload_n hx hb dX12_day_212 rfl (lv_at hl 0 rfl) ?_
                                    refine lv_bipush (v := 8) hx hb dX12_day_213 (by decide) ?_
                                    refine lv_icmp_ge (tgt := 292) hx hb dX12_day_215 (by decide) (fun c_80 => ?_) (fun c_80 => ?_)
                                    · have tc_80 := t_le c_80
                                      refine lv_aload_n hx hb dX12_day_292 rfl (lv_at hl 3 rfl) ?_
                                      refine lv_dup hx hb dX12_day_293 rfl ?_
                                      refine va_get (D := D) (ci := 11) (v := .int 0) (C := RX12) (T := TX12) (N := 54) hx hb hts in_q_day_X12 hown hK.1 hP 6 rfl rfl 8 (by decide) lk11 (fun _ h9 => h9) rfl dX12_day_294 ?_
                                      refine lv_aload_n hx hb dX12_day_297 rfl (lv_at hl 3 rfl) ?_
                                      refine va_get (D := D) (ci := 11) (v := .ref a_candles) (C := RX12) (T := TX12) (N := 54) hx hb hts in_q_day_X12 hown hK.1 hP 6 rfl rfl 35 (by decide) lk12 (fun _ h9 => h9) rfl dX12_day_298 ?_
                                      refine lv_iload_n hx hb dX12_day_301 rfl (lv_at hl 2 rfl) ?_
                                      refine va_iald hx hb hK.1 hP 3 0 rfl rfl (t_in (by omega) (by omega)) dX12_day_302 ?_
                                      refine lv_topi (fun y_81 ey_81 => ?_)
                                      refine lv_iadd hx hb dX12_day_303 ?_
                                      refine lv_topi (fun x_82 ex_82 => ?_)
                                      refine va_put (D := D) (ci := 11) (v := .int x_82) (ty := .int) (C := RX12) (T := TX12) (N := 54) hx hb hts in_q_day_X12 tyX12 tyX12_ok nmX12 hown hK.1 hP hD hS 6 rfl rfl 8 (by decide) lk11 (fun _ h9 => h9) rfl (by decide +kernel) rfl rfl (Nat.le_of_ble_eq_true rfl) dX12_day_304 (fun H locs hP hD hS => ?_)
                                      have hP : va_P D vwCl [(a_guests, .inl (cI, 6, .inl g_70)), (a_used, .inl (cI, 1095, .inl g_74)), (a_lacks, .inl (cI, 1095, .inl g_77)), (a_candles, .inl (cI, 1095, .inl fx)), (a_who, .inl (cI, 4380, .inl f1_16)), (a_owed, .inl (cI, 40, .inl f1_19)), (h, .inr (11, [.int 0, .int 0, .int 0, .int 0, .int 0, .int 0, .int 0, .int x_79, .int x_82, .ref a_isPriest, .ref a_bars, .ref a_joined, .ref a_turns, .ref a_awayMonk, .ref a_awayFrom, .ref a_awayTo, .ref a_feastDay, .ref a_rank, .ref a_isWeekly, .ref a_isDouble, .ref a_giftDay, .ref a_giftFrom, .ref a_owed, .ref a_said, .ref a_spared, .ref a_leaveGift, .ref a_leaveFrom, .ref a_leaveTo, .ref a_lateDay, .ref a_lateOffice, .ref a_lateBy, .ref a_guests, .ref a_who, .ref a_used, .ref a_lacks, .ref a_candles, .ref a_masses, .ref a_owing, .ref a_heldOn, .ref a_waits, .ref a_tape, .ref a_text, .int 0, .int 0, .int 0, .int (-1), .int 0, .ref a_statements, .ref a_taken, .ref a_sort, .ref a_first, .ref a_second, .int 0, .int 0])), (a_heldOn, .inl (cI, 365, .inl g1_22))] H := hP
                                      have hD : va_D A [(a_guests, .inl (cI, 6, .inl g_70)), (a_used, .inl (cI, 1095, .inl g_74)), (a_lacks, .inl (cI, 1095, .inl g_77)), (a_candles, .inl (cI, 1095, .inl fx)), (a_who, .inl (cI, 4380, .inl f1_16)), (a_owed, .inl (cI, 40, .inl f1_19)), (h, .inr (11, [.int 0, .int 0, .int 0, .int 0, .int 0, .int 0, .int 0, .int x_79, .int x_82, .ref a_isPriest, .ref a_bars, .ref a_joined, .ref a_turns, .ref a_awayMonk, .ref a_awayFrom, .ref a_awayTo, .ref a_feastDay, .ref a_rank, .ref a_isWeekly, .ref a_isDouble, .ref a_giftDay, .ref a_giftFrom, .ref a_owed, .ref a_said, .ref a_spared, .ref a_leaveGift, .ref a_leaveFrom, .ref a_leaveTo, .ref a_lateDay, .ref a_lateOffice, .ref a_lateBy, .ref a_guests, .ref a_who, .ref a_used, .ref a_lacks, .ref a_candles, .ref a_masses, .ref a_owing, .ref a_heldOn, .ref a_waits, .ref a_tape, .ref a_text, .int 0, .int 0, .int 0, .int (-1), .int 0, .ref a_statements, .ref a_taken, .ref a_sort, .ref a_first, .ref a_second, .int 0, .int 0])), (a_heldOn, .inl (cI, 365, .inl g1_22))] := hD
                                      refine lv_aload_n hx hb dX12_day_307 rfl (lv_at hl 3 rfl) ?_
                                      refine lv_dup hx hb dX12_day_308 rfl ?_
                                      refine va_get (D := D) (ci := 11) (v := .int 0) (C := RX12) (T := TX12) (N := 54) hx hb hts in_q_day_X12 hown hK.1 hP 6 rfl rfl 0 (by decide) lk0 (fun _ h9 => h9) rfl dX12_day_309 ?_
                                      refine lv_iconst (v := 1) hx hb dX12_day_312 (by decide) ?_
                                      refine lv_iadd hx hb dX12_day_313 ?_
                                      refine lv_topi (fun x_83 ex_83 => ?_)
                                      first | have tx_83 := t_add ex_83 (by omega) (by omega) | skip
                                      refine va_put (D := D) (ci := 11) (v := .int x_83) (ty := .int) (C := RX12) (T := TX12) (N := 54) hx hb hts in_q_day_X12 tyX12 tyX12_ok nmX12 hown hK.1 hP hD hS 6 rfl rfl 0 (by decide) lk0 (fun _ h9 => h9) rfl (by decide +kernel) rfl rfl (Nat.le_of_ble_eq_true rfl) dX12_day_314 (fun H locs hP hD hS => ?_)
                                      have hP : va_P D vwCl [(a_guests, .inl (cI, 6, .inl g_70)), (a_used, .inl (cI, 1095, .inl g_74)), (a_lacks, .inl (cI, 1095, .inl g_77)), (a_candles, .inl (cI, 1095, .inl fx)), (a_who, .inl (cI, 4380, .inl f1_16)), (a_owed, .inl (cI, 40, .inl f1_19)), (h, .inr (11, [.int x_83, .int 0, .int 0, .int 0, .int 0, .int 0, .int 0, .int x_79, .int x_82, .ref a_isPriest, .ref a_bars, .ref a_joined, .ref a_turns, .ref a_awayMonk, .ref a_awayFrom, .ref a_awayTo, .ref a_feastDay, .ref a_rank, .ref a_isWeekly, .ref a_isDouble, .ref a_giftDay, .ref a_giftFrom, .ref a_owed, .ref a_said, .ref a_spared, .ref a_leaveGift, .ref a_leaveFrom, .ref a_leaveTo, .ref a_lateDay, .ref a_lateOffice, .ref a_lateBy, .ref a_guests, .ref a_who, .ref a_used, .ref a_lacks, .ref a_candles, .ref a_masses, .ref a_owing, .ref a_heldOn, .ref a_waits, .ref a_tape, .ref a_text, .int 0, .int 0, .int 0, .int (-1), .int 0, .ref a_statements, .ref a_taken, .ref a_sort, .ref a_first, .ref a_second, .int 0, .int 0])), (a_heldOn, .inl (cI, 365, .inl g1_22))] H := hP
                                      have hD : va_D A [(a_guests, .inl (cI, 6, .inl g_70)), (a_used, .inl (cI, 1095, .inl g_74)), (a_lacks, .inl (cI, 1095, .inl g_77)), (a_candles, .inl (cI, 1095, .inl fx)), (a_who, .inl (cI, 4380, .inl f1_16)), (a_owed, .inl (cI, 40, .inl f1_19)), (h, .inr (11, [.int x_83, .int 0, .int 0, .int 0, .int 0, .int 0, .int 0, .int x_79, .int x_82, .ref a_isPriest, .ref a_bars, .ref a_joined, .ref a_turns, .ref a_awayMonk, .ref a_awayFrom, .ref a_awayTo, .ref a_feastDay, .ref a_rank, .ref a_isWeekly, .ref a_isDouble, .ref a_giftDay, .ref a_giftFrom, .ref a_owed, .ref a_said, .ref a_spared, .ref a_leaveGift, .ref a_leaveFrom, .ref a_leaveTo, .ref a_lateDay, .ref a_lateOffice, .ref a_lateBy, .ref a_guests, .ref a_who, .ref a_used, .ref a_lacks, .ref a_candles, .ref a_masses, .ref a_owing, .ref a_heldOn, .ref a_waits, .ref a_tape, .ref a_text, .int 0, .int 0, .int 0, .int (-1), .int 0, .ref a_statements, .ref a_taken, .ref a_sort, .ref a_first, .ref a_second, .int 0, .int 0])), (a_heldOn, .inl (cI, 365, .inl g1_22))] := hD
                                      refine lv_aload_n hx hb dX12_day_317 rfl (lv_at hl 3 rfl) ?_
                                      refine va_get (D := D) (ci := 11) (v := .int x_83) (C := RX12) (T := TX12) (N := 54) hx hb hts in_q_day_X12 hown hK.1 hP 6 rfl rfl 0 (by decide) lk0 (fun _ h9 => h9) rfl dX12_day_318 ?_
                                      exact hret x_83 (x_83, x_79, x_82, f1_16, f1_19, g1_22, g_70, g_74, g_77, fx) _ _ _ _ (by omega) rfl (hP.sub [6, 5, 0, 4, 1, 2, 3, 7] rfl) (hD.sub [6, 5, 0, 4, 1, 2, 3, 7] (by decide) rfl) hS dX12_day_321
                                    · have tc_80 := t_nle c_80
                                      refine lv_aload_n hx hb dX12_day_218 rfl (lv_at hl 3 rfl) ?_
                                      refine lv_iload_n hx hb dX12_day_219 rfl (lv_at hl 2 rfl) ?_
                                      refine lv_iload_n hx hb dX12_day_220 rfl (lv_at hl 0 rfl) ?_
                                      have hPc := hP.sub (ws' := [(h, .inr (11, [.int 0, .int 0, .int 0, .int 0, .int 0, .int 0, .int 0, .int x_79, .int 0, .ref a_isPriest, .ref a_bars, .ref a_joined, .ref a_turns, .ref a_awayMonk, .ref a_awayFrom, .ref a_awayTo, .ref a_feastDay, .ref a_rank, .ref a_isWeekly, .ref a_isDouble, .ref a_giftDay, .ref a_giftFrom, .ref a_owed, .ref a_said, .ref a_spared, .ref a_leaveGift, .ref a_leaveFrom, .ref a_leaveTo, .ref a_lateDay, .ref a_lateOffice, .ref a_lateBy, .ref a_guests, .ref a_who, .ref a_used, .ref a_lacks, .ref a_candles, .ref a_masses, .ref a_owing, .ref a_heldOn, .ref a_waits, .ref a_tape, .ref a_text, .int 0, .int 0, .int 0, .int (-1), .int 0, .ref a_statements, .ref a_taken, .ref a_sort, .ref a_first, .ref a_second, .int 0, .int 0]))]) [6] rfl
                                      refine roV (As := [.int 0, .int j]) (rest := []) S (m_begins  ) (cwV 2 hts gX12_day_X12_begins rfl rfl rfl (by decide +kernel) ⟨Nat.le_of_ble_eq_true rfl, Nat.le_of_ble_eq_true rfl⟩) hK hPc (va_recv hK.1 hPc (ci := 11) (q0 := 0) rfl rfl) rfl hl.1 rfl (Nat.le_of_ble_eq_true rfl) dX12_day_221 ⟨Nat.le_of_ble_eq_true rfl, Nat.le_of_ble_eq_true rfl⟩ (fun r_fb hw_fb => ?_)
                                      have hw_fb : r_fb = sunP (rem365 (0 : Int32)) j := hw_fb
                                      have hfb := sunP0_rg j (by omega) (by omega)
                                      rw [← hw_fb] at hfb
                                      refine lv_istore (lv' := [(4, .int r_fb), (3, .int j), (2, .int x_69), (1, .int 0), (0, .ref h)]) hx hb dX12_day_224 hl (by decide) rfl (fun ls hl => ?_)
                                      refine lv_iload hx hb dX12_day_226 (lv_at hl 0 rfl) ?_
                                      refine lv_istore (lv' := [(5, .int r_fb), (4, .int r_fb), (3, .int j), (2, .int x_69), (1, .int 0), (0, .ref h)]) hx hb dX12_day_228 hl (by decide) rfl (fun ls hl => ?_)
                                      have loop230 : ∀ (n : Nat) (t : Int32) (fy : Nat → Int32), r_fb.toInt + 30 - t.toInt < (n : Int) → r_fb.toInt ≤ t.toInt → t.toInt ≤ r_fb.toInt + 30 → ∀ (H : Heap) (locs : List Loc), va_P D vwCl [(a_guests, .inl (cI, 6, .inl g_70)), (a_used, .inl (cI, 1095, .inl g_74)), (a_lacks, .inl (cI, 1095, .inl g_77)), (a_candles, .inl (cI, 1095, .inl fy)), (a_who, .inl (cI, 4380, .inl f1_16)), (a_owed, .inl (cI, 40, .inl f1_19)), (h, .inr (11, [.int 0, .int 0, .int 0, .int 0, .int 0, .int 0, .int 0, .int x_79, .int 0, .ref a_isPriest, .ref a_bars, .ref a_joined, .ref a_turns, .ref a_awayMonk, .ref a_awayFrom, .ref a_awayTo, .ref a_feastDay, .ref a_rank, .ref a_isWeekly, .ref a_isDouble, .ref a_giftDay, .ref a_giftFrom, .ref a_owed, .ref a_said, .ref a_spared, .ref a_leaveGift, .ref a_leaveFrom, .ref a_leaveTo, .ref a_lateDay, .ref a_lateOffice, .ref a_lateBy, .ref a_guests, .ref a_who, .ref a_used, .ref a_lacks, .ref a_candles, .ref a_masses, .ref a_owing, .ref a_heldOn, .ref a_waits, .ref a_tape, .ref a_text, .int 0, .int 0, .int 0, .int (-1), .int 0, .ref a_statements, .ref a_taken, .ref a_sort, .ref a_first, .ref a_second, .int 0, .int 0])), (a_heldOn, .inl (cI, 365, .inl g1_22))] H → va_D A [(a_guests, .inl (cI, 6, .inl g_70)), (a_used, .inl (cI, 1095, .inl g_74)), (a_lacks, .inl (cI, 1095, .inl g_77)), (a_candles, .inl (cI, 1095, .inl fy)), (a_who, .inl (cI, 4380, .inl f1_16)), (a_owed, .inl (cI, 40, .inl f1_19)), (h, .inr (11, [.int 0, .int 0, .int 0, .int 0, .int 0, .int 0, .int 0, .int x_79, .int 0, .ref a_isPriest, .ref a_bars, .ref a_joined, .ref a_turns, .ref a_awayMonk, .ref a_awayFrom, .ref a_awayTo, .ref a_feastDay, .ref a_rank, .ref a_isWeekly, .ref a_isDouble, .ref a_giftDay, .ref a_giftFrom, .ref a_owed, .ref a_said, .ref a_spared, .ref a_leaveGift, .ref a_leaveFrom, .ref a_leaveTo, .ref a_lateDay, .ref a_lateOffice, .ref a_lateBy, .ref a_guests, .ref a_who, .ref a_used, .ref a_lacks, .ref a_candles, .ref a_masses, .ref a_owing, .ref a_heldOn, .ref a_waits, .ref a_tape, .ref a_text, .int 0, .int 0, .int 0, .int (-1), .int 0, .ref a_statements, .ref a_taken, .ref a_sort, .ref a_first, .ref a_second, .int 0, .int 0])), (a_heldOn, .inl (cI, 365, .inl g1_22))] → va_S A s.heap H locs → ∀ ls : Array Slot, lv_has ls 6 [(5, .int t), (4, .int r_fb), (3, .int j), (2, .int x_69), (1, .int 0), (0, .ref h)] → W p l e ({ frames := 5, cells := 0, slots := 0, locals := 107 } : Room) s m args below meth c H locs 0 0 Q (F0 m 230 ls []) := by
                                        intro n
                                        induction n with
                                        | zero =>
                                          intro t fy hmu ht0 ht1 H locs hP hD hS ls hl
                                          exfalso; omega
                                        | succ n ih230 =>
                                          intro t fy hmu ht0 ht1 H locs hP hD hS ls hl
                                          refine lv_iload hx hb dX12_day_230 (lv_at hl 0 rfl) ?_
                                          refine lv_iload hx hb dX12_day_232 (lv_at hl 1 rfl) ?_
                                          refine lv_bipush (v := 30) hx hb dX12_day_234 (by decide) ?_
                                          refine lv_iadd hx hb dX12_day_236 ?_
                                          refine lv_topi (fun x_84 ex_84 => ?_)
                                          first | have tx_84 := t_add ex_84 (by omega) (by omega) | skip
                                          refine lv_icmp_ge (tgt := 286) hx hb dX12_day_237 (by decide) (fun c_85 => ?_) (fun c_85 => ?_)
                                          · have tc_85 := t_le c_85
                                            obtain ⟨x_86, ex_86⟩ : ∃ y : Int32, y = j + 1 := ⟨_, rfl⟩
                                            refine lv_iinc (v := x_86) (lv' := [(3, .int x_86), (5, .int t), (4, .int r_fb), (2, .int x_69), (1, .int 0), (0, .ref h)]) hx hb dX12_day_286 hl (k := 2) rfl (by rw [ex_86]; rfl) (by decide) rfl (fun ls hl => ?_)
                                            first | have tx_86 := t_add ex_86 (by omega) (by omega) | skip
                                            refine lv_goto (tgt := 212) hx hb dX12_day_289 (by decide) ?_
                                            exact ih212 x_86 fy (by omega) (by omega) (by omega) _ _ hP hD hS ls (lv_sub hl [0, 3, 4, 5] rfl)
                                          · have tc_85 := t_nle c_85
                                            refine lv_aload_n hx hb dX12_day_240 rfl (lv_at hl 5 rfl) ?_
                                            refine va_get (D := D) (ci := 11) (v := .ref a_candles) (C := RX12) (T := TX12) (N := 54) hx hb hts in_q_day_X12 hown hK.1 hP 6 rfl rfl 35 (by decide) lk12 (fun _ h9 => h9) rfl dX12_day_241 ?_
                                            refine lv_iload_n hx hb dX12_day_244 rfl (lv_at hl 4 rfl) ?_
                                            refine lv_dup2_11 hx hb dX12_day_245 rfl rfl ?_
                                            refine va_iald hx hb hK.1 hP 3 0 rfl rfl (t_in (by omega) (by omega)) dX12_day_246 ?_
                                            refine lv_topi (fun y_87 ey_87 => ?_)
                                            refine lv_iload hx hb dX12_day_247 (lv_at hl 0 rfl) ?_
                                            refine lv_iload_n hx hb dX12_day_249 rfl (lv_at hl 4 rfl) ?_
                                            refine lv_sipush (v := 365) hx hb dX12_day_250 (by decide) ?_
                                            refine lv_irem hx hb dX12_day_253 (by decide) ?_
                                            refine lv_topi (fun x_88 ex_88 => ?_)
                                            have hPc := hP.sub (ws' := []) [] rfl
                                            refine roS (As := [.int x_88]) (rest := [.int t, .int y_87, .int 0, .ref a_candles]) S (m_rises  ) (va_cwS 1 hts gX12_day_X12_rises rfl rfl rfl (by decide +kernel) ⟨Nat.le_of_ble_eq_true rfl, Nat.le_of_ble_eq_true rfl⟩) hK hPc rfl hl.1 rfl (Nat.le_of_ble_eq_true rfl) dX12_day_254 ⟨Nat.le_of_ble_eq_true rfl, Nat.le_of_ble_eq_true rfl⟩ (fun r_89 hw_89 => ?_)
                                            have hw_89 : r_89 = sunR x_88 := hw_89
                                            refine lv_icmp_lt (tgt := 273) hx hb dX12_day_257 (by decide) (fun c_90 => ?_) (fun c_90 => ?_)
                                            · have tc_90 := t_lt c_90
                                              refine lv_iconst (v := 1) hx hb dX12_day_273 (by decide) ?_
                                              refine lv_goto (tgt := 278) hx hb dX12_day_274 (by decide) ?_
                                              refine lv_iadd hx hb dX12_day_278 ?_
                                              refine lv_topi (fun x_91 ex_91 => ?_)
                                              refine va_iast hx hb hK.1 hP hD hS 3 0 rfl rfl (t_in (by omega) (by omega)) dX12_day_279 (fun H locs hP hD hS => ?_)
                                              obtain ⟨g_92, eg_92⟩ : ∃ z : Nat → Int32, z = upd fy ((0 : Int32).toNatClampNeg) x_91 := ⟨_, rfl⟩
                                              rw [← eg_92] at hP hD
                                              have hP : va_P D vwCl [(a_guests, .inl (cI, 6, .inl g_70)), (a_used, .inl (cI, 1095, .inl g_74)), (a_lacks, .inl (cI, 1095, .inl g_77)), (a_candles, .inl (cI, 1095, .inl g_92)), (a_who, .inl (cI, 4380, .inl f1_16)), (a_owed, .inl (cI, 40, .inl f1_19)), (h, .inr (11, [.int 0, .int 0, .int 0, .int 0, .int 0, .int 0, .int 0, .int x_79, .int 0, .ref a_isPriest, .ref a_bars, .ref a_joined, .ref a_turns, .ref a_awayMonk, .ref a_awayFrom, .ref a_awayTo, .ref a_feastDay, .ref a_rank, .ref a_isWeekly, .ref a_isDouble, .ref a_giftDay, .ref a_giftFrom, .ref a_owed, .ref a_said, .ref a_spared, .ref a_leaveGift, .ref a_leaveFrom, .ref a_leaveTo, .ref a_lateDay, .ref a_lateOffice, .ref a_lateBy, .ref a_guests, .ref a_who, .ref a_used, .ref a_lacks, .ref a_candles, .ref a_masses, .ref a_owing, .ref a_heldOn, .ref a_waits, .ref a_tape, .ref a_text, .int 0, .int 0, .int 0, .int (-1), .int 0, .ref a_statements, .ref a_taken, .ref a_sort, .ref a_first, .ref a_second, .int 0, .int 0])), (a_heldOn, .inl (cI, 365, .inl g1_22))] H := hP
                                              have hD : va_D A [(a_guests, .inl (cI, 6, .inl g_70)), (a_used, .inl (cI, 1095, .inl g_74)), (a_lacks, .inl (cI, 1095, .inl g_77)), (a_candles, .inl (cI, 1095, .inl g_92)), (a_who, .inl (cI, 4380, .inl f1_16)), (a_owed, .inl (cI, 40, .inl f1_19)), (h, .inr (11, [.int 0, .int 0, .int 0, .int 0, .int 0, .int 0, .int 0, .int x_79, .int 0, .ref a_isPriest, .ref a_bars, .ref a_joined, .ref a_turns, .ref a_awayMonk, .ref a_awayFrom, .ref a_awayTo, .ref a_feastDay, .ref a_rank, .ref a_isWeekly, .ref a_isDouble, .ref a_giftDay, .ref a_giftFrom, .ref a_owed, .ref a_said, .ref a_spared, .ref a_leaveGift, .ref a_leaveFrom, .ref a_leaveTo, .ref a_lateDay, .ref a_lateOffice, .ref a_lateBy, .ref a_guests, .ref a_who, .ref a_used, .ref a_lacks, .ref a_candles, .ref a_masses, .ref a_owing, .ref a_heldOn, .ref a_waits, .ref a_tape, .ref a_text, .int 0, .int 0, .int 0, .int (-1), .int 0, .ref a_statements, .ref a_taken, .ref a_sort, .ref a_first, .ref a_second, .int 0, .int 0])), (a_heldOn, .inl (cI, 365, .inl g1_22))] := hD
                                              obtain ⟨x_93, ex_93⟩ : ∃ y : Int32, y = t + 1 := ⟨_, rfl⟩
                                              refine lv_iinc (v := x_93) (lv' := [(5, .int x_93), (4, .int r_fb), (3, .int j), (2, .int x_69), (1, .int 0), (0, .ref h)]) hx hb dX12_day_280 hl (k := 0) rfl (by rw [ex_93]; rfl) (by decide) rfl (fun ls hl => ?_)
                                              first | have tx_93 := t_add ex_93 (by omega) (by omega) | skip
                                              refine lv_goto (tgt := 230) hx hb dX12_day_283 (by decide) ?_
                                              exact ih230 x_93 g_92 (by omega) (by omega) (by omega) _ _ hP hD hS ls (lv_sub hl [0, 1, 2, 3, 4, 5] rfl)
                                            · have tc_90 := t_nlt c_90
                                              refine lv_iload hx hb dX12_day_260 (lv_at hl 0 rfl) ?_
                                              refine lv_iload_n hx hb dX12_day_262 rfl (lv_at hl 4 rfl) ?_
                                              refine lv_sipush (v := 365) hx hb dX12_day_263 (by decide) ?_
                                              refine lv_irem hx hb dX12_day_266 (by decide) ?_
                                              refine lv_topi (fun x_94 ex_94 => ?_)
                                              have hPc := hP.sub (ws' := []) [] rfl
                                              refine roS (As := [.int x_94]) (rest := [.int t, .int y_87, .int 0, .ref a_candles]) S (m_sets  ) (va_cwS 1 hts gX12_day_X12_sets rfl rfl rfl (by decide +kernel) ⟨Nat.le_of_ble_eq_true rfl, Nat.le_of_ble_eq_true rfl⟩) hK hPc rfl hl.1 rfl (Nat.le_of_ble_eq_true rfl) dX12_day_267 ⟨Nat.le_of_ble_eq_true rfl, Nat.le_of_ble_eq_true rfl⟩ (fun r_95 hw_95 => ?_)
                                              have hw_95 : r_95 = sunS x_94 := hw_95
                                              refine lv_icmp_lt (tgt := 277) hx hb dX12_day_270 (by decide) (fun c_96 => ?_) (fun c_96 => ?_)
                                              · have tc_96 := t_lt c_96
                                                refine lv_iconst (v := 0) hx hb dX12_day_277 (by decide) ?_
                                                refine lv_iadd hx hb dX12_day_278 ?_
                                                refine lv_topi (fun x_97 ex_97 => ?_)
                                                refine va_iast hx hb hK.1 hP hD hS 3 0 rfl rfl (t_in (by omega) (by omega)) dX12_day_279 (fun H locs hP hD hS => ?_)
                                                obtain ⟨g_98, eg_98⟩ : ∃ z : Nat → Int32, z = upd fy ((0 : Int32).toNatClampNeg) x_97 := ⟨_, rfl⟩
                                                rw [← eg_98] at hP hD
                                                have hP : va_P D vwCl [(a_guests, .inl (cI, 6, .inl g_70)), (a_used, .inl (cI, 1095, .inl g_74)), (a_lacks, .inl (cI, 1095, .inl g_77)), (a_candles, .inl (cI, 1095, .inl g_98)), (a_who, .inl (cI, 4380, .inl f1_16)), (a_owed, .inl (cI, 40, .inl f1_19)), (h, .inr (11, [.int 0, .int 0, .int 0, .int 0, .int 0, .int 0, .int 0, .int x_79, .int 0, .ref a_isPriest, .ref a_bars, .ref a_joined, .ref a_turns, .ref a_awayMonk, .ref a_awayFrom, .ref a_awayTo, .ref a_feastDay, .ref a_rank, .ref a_isWeekly, .ref a_isDouble, .ref a_giftDay, .ref a_giftFrom, .ref a_owed, .ref a_said, .ref a_spared, .ref a_leaveGift, .ref a_leaveFrom, .ref a_leaveTo, .ref a_lateDay, .ref a_lateOffice, .ref a_lateBy, .ref a_guests, .ref a_who, .ref a_used, .ref a_lacks, .ref a_candles, .ref a_masses, .ref a_owing, .ref a_heldOn, .ref a_waits, .ref a_tape, .ref a_text, .int 0, .int 0, .int 0, .int (-1), .int 0, .ref a_statements, .ref a_taken, .ref a_sort, .ref a_first, .ref a_second, .int 0, .int 0])), (a_heldOn, .inl (cI, 365, .inl g1_22))] H := hP
                                                have hD : va_D A [(a_guests, .inl (cI, 6, .inl g_70)), (a_used, .inl (cI, 1095, .inl g_74)), (a_lacks, .inl (cI, 1095, .inl g_77)), (a_candles, .inl (cI, 1095, .inl g_98)), (a_who, .inl (cI, 4380, .inl f1_16)), (a_owed, .inl (cI, 40, .inl f1_19)), (h, .inr (11, [.int 0, .int 0, .int 0, .int 0, .int 0, .int 0, .int 0, .int x_79, .int 0, .ref a_isPriest, .ref a_bars, .ref a_joined, .ref a_turns, .ref a_awayMonk, .ref a_awayFrom, .ref a_awayTo, .ref a_feastDay, .ref a_rank, .ref a_isWeekly, .ref a_isDouble, .ref a_giftDay, .ref a_giftFrom, .ref a_owed, .ref a_said, .ref a_spared, .ref a_leaveGift, .ref a_leaveFrom, .ref a_leaveTo, .ref a_lateDay, .ref a_lateOffice, .ref a_lateBy, .ref a_guests, .ref a_who, .ref a_used, .ref a_lacks, .ref a_candles, .ref a_masses, .ref a_owing, .ref a_heldOn, .ref a_waits, .ref a_tape, .ref a_text, .int 0, .int 0, .int 0, .int (-1), .int 0, .ref a_statements, .ref a_taken, .ref a_sort, .ref a_first, .ref a_second, .int 0, .int 0])), (a_heldOn, .inl (cI, 365, .inl g1_22))] := hD
                                                obtain ⟨x_99, ex_99⟩ : ∃ y : Int32, y = t + 1 := ⟨_, rfl⟩
                                                refine lv_iinc (v := x_99) (lv' := [(5, .int x_99), (4, .int r_fb), (3, .int j), (2, .int x_69), (1, .int 0), (0, .ref h)]) hx hb dX12_day_280 hl (k := 0) rfl (by rw [ex_99]; rfl) (by decide) rfl (fun ls hl => ?_)
                                                first | have tx_99 := t_add ex_99 (by omega) (by omega) | skip
                                                refine lv_goto (tgt := 230) hx hb dX12_day_283 (by decide) ?_
                                                exact ih230 x_99 g_98 (by omega) (by omega) (by omega) _ _ hP hD hS ls (lv_sub hl [0, 1, 2, 3, 4, 5] rfl)
                                              · have tc_96 := t_nlt c_96
                                                refine lv_iconst (v := 1) hx hb dX12_day_273 (by decide) ?_
                                                refine lv_goto (tgt := 278) hx hb dX12_day_274 (by decide) ?_
                                                refine lv_iadd hx hb dX12_day_278 ?_
                                                refine lv_topi (fun x_100 ex_100 => ?_)
                                                refine va_iast hx hb hK.1 hP hD hS 3 0 rfl rfl (t_in (by omega) (by omega)) dX12_day_279 (fun H locs hP hD hS => ?_)
                                                obtain ⟨g_101, eg_101⟩ : ∃ z : Nat → Int32, z = upd fy ((0 : Int32).toNatClampNeg) x_100 := ⟨_, rfl⟩
                                                rw [← eg_101] at hP hD
                                                have hP : va_P D vwCl [(a_guests, .inl (cI, 6, .inl g_70)), (a_used, .inl (cI, 1095, .inl g_74)), (a_lacks, .inl (cI, 1095, .inl g_77)), (a_candles, .inl (cI, 1095, .inl g_101)), (a_who, .inl (cI, 4380, .inl f1_16)), (a_owed, .inl (cI, 40, .inl f1_19)), (h, .inr (11, [.int 0, .int 0, .int 0, .int 0, .int 0, .int 0, .int 0, .int x_79, .int 0, .ref a_isPriest, .ref a_bars, .ref a_joined, .ref a_turns, .ref a_awayMonk, .ref a_awayFrom, .ref a_awayTo, .ref a_feastDay, .ref a_rank, .ref a_isWeekly, .ref a_isDouble, .ref a_giftDay, .ref a_giftFrom, .ref a_owed, .ref a_said, .ref a_spared, .ref a_leaveGift, .ref a_leaveFrom, .ref a_leaveTo, .ref a_lateDay, .ref a_lateOffice, .ref a_lateBy, .ref a_guests, .ref a_who, .ref a_used, .ref a_lacks, .ref a_candles, .ref a_masses, .ref a_owing, .ref a_heldOn, .ref a_waits, .ref a_tape, .ref a_text, .int 0, .int 0, .int 0, .int (-1), .int 0, .ref a_statements, .ref a_taken, .ref a_sort, .ref a_first, .ref a_second, .int 0, .int 0])), (a_heldOn, .inl (cI, 365, .inl g1_22))] H := hP
                                                have hD : va_D A [(a_guests, .inl (cI, 6, .inl g_70)), (a_used, .inl (cI, 1095, .inl g_74)), (a_lacks, .inl (cI, 1095, .inl g_77)), (a_candles, .inl (cI, 1095, .inl g_101)), (a_who, .inl (cI, 4380, .inl f1_16)), (a_owed, .inl (cI, 40, .inl f1_19)), (h, .inr (11, [.int 0, .int 0, .int 0, .int 0, .int 0, .int 0, .int 0, .int x_79, .int 0, .ref a_isPriest, .ref a_bars, .ref a_joined, .ref a_turns, .ref a_awayMonk, .ref a_awayFrom, .ref a_awayTo, .ref a_feastDay, .ref a_rank, .ref a_isWeekly, .ref a_isDouble, .ref a_giftDay, .ref a_giftFrom, .ref a_owed, .ref a_said, .ref a_spared, .ref a_leaveGift, .ref a_leaveFrom, .ref a_leaveTo, .ref a_lateDay, .ref a_lateOffice, .ref a_lateBy, .ref a_guests, .ref a_who, .ref a_used, .ref a_lacks, .ref a_candles, .ref a_masses, .ref a_owing, .ref a_heldOn, .ref a_waits, .ref a_tape, .ref a_text, .int 0, .int 0, .int 0, .int (-1), .int 0, .ref a_statements, .ref a_taken, .ref a_sort, .ref a_first, .ref a_second, .int 0, .int 0])), (a_heldOn, .inl (cI, 365, .inl g1_22))] := hD
                                                obtain ⟨x_102, ex_102⟩ : ∃ y : Int32, y = t + 1 := ⟨_, rfl⟩
                                                refine lv_iinc (v := x_102) (lv' := [(5, .int x_102), (4, .int r_fb), (3, .int j), (2, .int x_69), (1, .int 0), (0, .ref h)]) hx hb dX12_day_280 hl (k := 0) rfl (by rw [ex_102]; rfl) (by decide) rfl (fun ls hl => ?_)
                                                first | have tx_102 := t_add ex_102 (by omega) (by omega) | skip
                                                refine lv_goto (tgt := 230) hx hb dX12_day_283 (by decide) ?_
                                                exact ih230 x_102 g_101 (by omega) (by omega) (by omega) _ _ hP hD hS ls (lv_sub hl [0, 1, 2, 3, 4, 5] rfl)
                                      exact loop230 ((r_fb.toInt + 30 - r_fb.toInt).toNat + 1) r_fb fx (by omega) (by omega) (by omega) _ _ hP hD hS ls (lv_sub hl [0, 1, 2, 3, 4, 5] rfl)
                                exact loop212 ((8 - 0.toInt).toNat + 1) 0 f_candles (by omega) (by omega) (by omega) _ _ hP hD hS ls (lv_sub hl [0, 1, 2, 3] rfl)
                              · exact absurd c_72 (by decide)
                · exact absurd c_21 (by decide)
              · exact absurd c_20 (by decide)
            · exact absurd c_18 (by decide)
  · exact absurd c_1 (by decide)

set_option maxHeartbeats 8000000 in
set_option maxRecDepth 100000 in
theorem q_turn {l : Launch} {D : va_G} {cI cZ cB : ClassId} {h a_isPriest a_bars a_joined a_turns a_awayMonk a_awayFrom a_awayTo a_feastDay a_rank a_isWeekly a_isDouble a_giftDay a_giftFrom a_owed a_said a_spared a_leaveGift a_leaveFrom a_leaveTo a_lateDay a_lateOffice a_lateBy a_guests a_who a_used a_lacks a_candles a_masses a_owing a_heldOn a_waits a_tape a_text a_statements a_taken a_sort a_first a_second : Nat} {d k : Int32}  : Met l yX12_turn wsX12_turn ({ frames := 2, cells := 0, slots := 0, locals := 43 }) (RO D cI cZ cB [.ref h, .int d, .int k] [(h, .inr (11, [.int 0, .int 0, .int 0, .int 0, .int 0, .int 0, .int 0, .int 0, .int 0, .ref a_isPriest, .ref a_bars, .ref a_joined, .ref a_turns, .ref a_awayMonk, .ref a_awayFrom, .ref a_awayTo, .ref a_feastDay, .ref a_rank, .ref a_isWeekly, .ref a_isDouble, .ref a_giftDay, .ref a_giftFrom, .ref a_owed, .ref a_said, .ref a_spared, .ref a_leaveGift, .ref a_leaveFrom, .ref a_leaveTo, .ref a_lateDay, .ref a_lateOffice, .ref a_lateBy, .ref a_guests, .ref a_who, .ref a_used, .ref a_lacks, .ref a_candles, .ref a_masses, .ref a_owing, .ref a_heldOn, .ref a_waits, .ref a_tape, .ref a_text, .int 0, .int 0, .int 0, .int (-1), .int 0, .ref a_statements, .ref a_taken, .ref a_sort, .ref a_first, .ref a_second, .int 0, .int 0]))]) (vp_Si (fun r : Int32 => r.toInt = -1)) 0 0 (fun _ => False) := by
  refine ro_ret (cc := cX12_turn) (maxL := 3) (ty := .int) (own := RX12) (by decide) rfl rfl (Nat.le_of_ble_eq_true rfl) ?_
  intro p e s m args below meth c Q S hret hP hK ls hl
  obtain ⟨hx, hb, hml, hown, hts⟩ := id S
  have hl : lv_has ls 3 [(0, .ref h), (1, .int d), (2, .int k)] := hl
  have kkm1 : (-1 : Int32).toInt = -1 := by decide
  have kk0 : (0 : Int32).toInt = 0 := by decide
  have kk3 : (3 : Int32).toInt = 3 := by decide
  have kk4 : (4 : Int32).toInt = 4 := by decide
  refine lv_aload_n hx hb dX12_turn_0 rfl (lv_at hl 0 rfl) ?_
  refine lv_iload_n hx hb dX12_turn_1 rfl (lv_at hl 1 rfl) ?_
  have hPc := hP.sub (ws' := [(h, .inr (11, [.int 0, .int 0, .int 0, .int 0, .int 0, .int 0, .int 0, .int 0, .int 0, .ref a_isPriest, .ref a_bars, .ref a_joined, .ref a_turns, .ref a_awayMonk, .ref a_awayFrom, .ref a_awayTo, .ref a_feastDay, .ref a_rank, .ref a_isWeekly, .ref a_isDouble, .ref a_giftDay, .ref a_giftFrom, .ref a_owed, .ref a_said, .ref a_spared, .ref a_leaveGift, .ref a_leaveFrom, .ref a_leaveTo, .ref a_lateDay, .ref a_lateOffice, .ref a_lateBy, .ref a_guests, .ref a_who, .ref a_used, .ref a_lacks, .ref a_candles, .ref a_masses, .ref a_owing, .ref a_heldOn, .ref a_waits, .ref a_tape, .ref a_text, .int 0, .int 0, .int 0, .int (-1), .int 0, .ref a_statements, .ref a_taken, .ref a_sort, .ref a_first, .ref a_second, .int 0, .int 0]))]) [0] rfl
  refine roV (As := [.int d]) (rest := []) S (m_hasGone  ) (cwV 1 hts gX12_turn_X12_hasGone rfl rfl rfl (by decide +kernel) ⟨Nat.le_of_ble_eq_true rfl, Nat.le_of_ble_eq_true rfl⟩) hK hPc (va_recv hK.1 hPc (ci := 11) (q0 := 0) rfl rfl) rfl hl.1 rfl (Nat.le_of_ble_eq_true rfl) dX12_turn_2 ⟨Nat.le_of_ble_eq_true rfl, Nat.le_of_ble_eq_true rfl⟩ (fun r_1 hw_1 => ?_)
  have hw_1 : r_1.toInt = 0 := hw_1
  refine lv_if_eq (tgt := 30) hx hb dX12_turn_5 (by decide) (fun c_2 => ?_) (fun c_2 => ?_)
  · have tc_2 := t_eq c_2
    refine lv_iconst (v := (-1)) hx hb dX12_turn_30 (by decide) ?_
    exact hret (-1) _ _ (by omega) rfl dX12_turn_31
  · have tc_2 := t_ne c_2
    exfalso; omega

set_option maxHeartbeats 8000000 in
set_option maxRecDepth 100000 in
theorem q_turns {l : Launch} {D : va_G} {cI cZ cB : ClassId} {h a_isPriest a_bars a_joined a_turns a_awayMonk a_awayFrom a_awayTo a_feastDay a_rank a_isWeekly a_isDouble a_giftDay a_giftFrom a_owed a_said a_spared a_leaveGift a_leaveFrom a_leaveTo a_lateDay a_lateOffice a_lateBy a_guests a_who a_used a_lacks a_candles a_masses a_owing a_heldOn a_waits a_tape a_text a_statements a_taken a_sort a_first a_second : Nat} {i k : Int32}  : Met l yX12_turns wsX12_turns ({ frames := 2, cells := 0, slots := 0, locals := 43 }) (RO D cI cZ cB [.ref h, .int i, .int k] [(h, .inr (11, [.int 0, .int 0, .int 0, .int 0, .int 0, .int 0, .int 0, .int 0, .int 0, .ref a_isPriest, .ref a_bars, .ref a_joined, .ref a_turns, .ref a_awayMonk, .ref a_awayFrom, .ref a_awayTo, .ref a_feastDay, .ref a_rank, .ref a_isWeekly, .ref a_isDouble, .ref a_giftDay, .ref a_giftFrom, .ref a_owed, .ref a_said, .ref a_spared, .ref a_leaveGift, .ref a_leaveFrom, .ref a_leaveTo, .ref a_lateDay, .ref a_lateOffice, .ref a_lateBy, .ref a_guests, .ref a_who, .ref a_used, .ref a_lacks, .ref a_candles, .ref a_masses, .ref a_owing, .ref a_heldOn, .ref a_waits, .ref a_tape, .ref a_text, .int 0, .int 0, .int 0, .int (-1), .int 0, .ref a_statements, .ref a_taken, .ref a_sort, .ref a_first, .ref a_second, .int 0, .int 0]))]) (vp_Si (fun r : Int32 => r.toInt = -1)) 0 0 (fun _ => False) := by
  refine ro_ret (cc := cX12_turns) (maxL := 5) (ty := .int) (own := RX12) (by decide) rfl rfl (Nat.le_of_ble_eq_true rfl) ?_
  intro p e s m args below meth c Q S hret hP hK ls hl
  obtain ⟨hx, hb, hml, hown, hts⟩ := id S
  have hl : lv_has ls 5 [(0, .ref h), (1, .int i), (2, .int k)] := hl
  have kkm1 : (-1 : Int32).toInt = -1 := by decide
  have kk0 : (0 : Int32).toInt = 0 := by decide
  have kk1 : (1 : Int32).toInt = 1 := by decide
  have kk4 : (4 : Int32).toInt = 4 := by decide
  refine lv_aload_n hx hb dX12_turns_0 rfl (lv_at hl 0 rfl) ?_
  refine lv_iload_n hx hb dX12_turns_1 rfl (lv_at hl 1 rfl) ?_
  have hPc := hP.sub (ws' := [(h, .inr (11, [.int 0, .int 0, .int 0, .int 0, .int 0, .int 0, .int 0, .int 0, .int 0, .ref a_isPriest, .ref a_bars, .ref a_joined, .ref a_turns, .ref a_awayMonk, .ref a_awayFrom, .ref a_awayTo, .ref a_feastDay, .ref a_rank, .ref a_isWeekly, .ref a_isDouble, .ref a_giftDay, .ref a_giftFrom, .ref a_owed, .ref a_said, .ref a_spared, .ref a_leaveGift, .ref a_leaveFrom, .ref a_leaveTo, .ref a_lateDay, .ref a_lateOffice, .ref a_lateBy, .ref a_guests, .ref a_who, .ref a_used, .ref a_lacks, .ref a_candles, .ref a_masses, .ref a_owing, .ref a_heldOn, .ref a_waits, .ref a_tape, .ref a_text, .int 0, .int 0, .int 0, .int (-1), .int 0, .ref a_statements, .ref a_taken, .ref a_sort, .ref a_first, .ref a_second, .int 0, .int 0]))]) [0] rfl
  refine roV (As := [.int i]) (rest := []) S (m_isMonk  ) (cwV 1 hts gX12_turns_X12_isMonk rfl rfl rfl (by decide +kernel) ⟨Nat.le_of_ble_eq_true rfl, Nat.le_of_ble_eq_true rfl⟩) hK hPc (va_recv hK.1 hPc (ci := 11) (q0 := 0) rfl rfl) rfl hl.1 rfl (Nat.le_of_ble_eq_true rfl) dX12_turns_2 ⟨Nat.le_of_ble_eq_true rfl, Nat.le_of_ble_eq_true rfl⟩ (fun r_1 hw_1 => ?_)
  have hw_1 : r_1.toInt = 0 := hw_1
  refine lv_if_eq (tgt := 17) hx hb dX12_turns_5 (by decide) (fun c_2 => ?_) (fun c_2 => ?_)
  · have tc_2 := t_eq c_2
    refine lv_iconst (v := (-1)) hx hb dX12_turns_17 (by decide) ?_
    exact hret (-1) _ _ (by omega) rfl dX12_turns_18
  · have tc_2 := t_ne c_2
    exfalso; omega

theorem in_q_fail_X12 : ∀ w ∈ wsX120, w ∈ wsX12_fail := by decide +kernel
set_option maxHeartbeats 8000000 in
set_option maxRecDepth 100000 in
theorem q_fail {l : Launch} {D : va_G} {cI cZ cB : ClassId} {h a_isPriest a_bars a_joined a_turns a_awayMonk a_awayFrom a_awayTo a_feastDay a_rank a_isWeekly a_isDouble a_giftDay a_giftFrom a_owed a_said a_spared a_leaveGift a_leaveFrom a_leaveTo a_lateDay a_lateOffice a_lateBy a_guests a_who a_used a_lacks a_candles a_masses a_owing a_heldOn a_waits a_tape a_text a_statements a_taken a_sort a_first a_second : Nat} {k : Int32}  : Met l yX12_fail wsX12_fail ({ frames := 0, cells := 0, slots := 0, locals := 0 }) (RO D cI cZ cB [.ref h, .int k] [(h, .inr (11, [.int 0, .int 0, .int 0, .int 0, .int 0, .int 0, .int 0, .int 0, .int 0, .ref a_isPriest, .ref a_bars, .ref a_joined, .ref a_turns, .ref a_awayMonk, .ref a_awayFrom, .ref a_awayTo, .ref a_feastDay, .ref a_rank, .ref a_isWeekly, .ref a_isDouble, .ref a_giftDay, .ref a_giftFrom, .ref a_owed, .ref a_said, .ref a_spared, .ref a_leaveGift, .ref a_leaveFrom, .ref a_leaveTo, .ref a_lateDay, .ref a_lateOffice, .ref a_lateBy, .ref a_guests, .ref a_who, .ref a_used, .ref a_lacks, .ref a_candles, .ref a_masses, .ref a_owing, .ref a_heldOn, .ref a_waits, .ref a_tape, .ref a_text, .int 0, .int 0, .int 0, .int (-1), .int 0, .ref a_statements, .ref a_taken, .ref a_sort, .ref a_first, .ref a_second, .int 0, .int 0]))]) (vp_Si (fun r : Int32 => r.toInt = -2)) 0 0 (fun _ => False) := by
  refine ro_ret (cc := cX12_fail) (maxL := 5) (ty := .int) (own := RX12) (by decide) rfl rfl (Nat.le_of_ble_eq_true rfl) ?_
  intro p e s m args below meth c Q S hret hP hK ls hl
  obtain ⟨hx, hb, hml, hown, hts⟩ := id S
  have hl : lv_has ls 5 [(0, .ref h), (1, .int k)] := hl
  have kkm2 : (-2 : Int32).toInt = -2 := by decide
  have kkm1 : (-1 : Int32).toInt = -1 := by decide
  have kk0 : (0 : Int32).toInt = 0 := by decide
  have kk1 : (1 : Int32).toInt = 1 := by decide
  have kk3 : (3 : Int32).toInt = 3 := by decide
  have kk4 : (4 : Int32).toInt = 4 := by decide
  have lk0 := hts (.fieldLink RX12 140 "AbbeyHoursModel" "today" "I") (by decide +kernel)
  refine lv_aload_n hx hb dX12_fail_0 rfl (lv_at hl 0 rfl) ?_
  refine va_get (D := D) (ci := 11) (v := .int 0) (C := RX12) (T := TX12) (N := 54) hx hb hts in_q_fail_X12 hown hK.1 hP 0 rfl rfl 0 (by decide) lk0 (fun _ h9 => h9) rfl dX12_fail_1 ?_
  refine lv_iconst (v := 1) hx hb dX12_fail_4 (by decide) ?_
  refine lv_isub hx hb dX12_fail_5 ?_
  refine lv_topi (fun x_1 ex_1 => ?_)
  first | have tx_1 := t_sub ex_1 (by omega) (by omega) | skip
  refine lv_istore_n (lv' := [(2, .int x_1), (0, .ref h), (1, .int k)]) hx hb dX12_fail_6 rfl hl (by decide) rfl (fun ls hl => ?_)
  refine lv_iload_n hx hb dX12_fail_7 rfl (lv_at hl 0 rfl) ?_
  refine lv_if_lt (tgt := 34) hx hb dX12_fail_8 (by decide) (fun c_2 => ?_) (fun c_2 => ?_)
  · have tc_2 := t_lt c_2
    refine lv_bipush (v := (-2)) hx hb dX12_fail_34 (by decide) ?_
    exact hret (-2) _ _ (by omega) rfl dX12_fail_36
  · have tc_2 := t_nlt c_2
    exfalso; omega

set_option maxHeartbeats 8000000 in
set_option maxRecDepth 100000 in
theorem q_dayOf {l : Launch} {D : va_G} {cI cZ cB : ClassId} {h a_isPriest a_bars a_joined a_turns a_awayMonk a_awayFrom a_awayTo a_feastDay a_rank a_isWeekly a_isDouble a_giftDay a_giftFrom a_owed a_said a_spared a_leaveGift a_leaveFrom a_leaveTo a_lateDay a_lateOffice a_lateBy a_guests a_who a_used a_lacks a_candles a_masses a_owing a_heldOn a_waits a_tape a_text a_statements a_taken a_sort a_first a_second : Nat} {d w : Int32}  : Met l yX12_dayOf wsX12_dayOf ({ frames := 2, cells := 0, slots := 0, locals := 43 }) (RO D cI cZ cB [.ref h, .int d, .int w] [(h, .inr (11, [.int 0, .int 0, .int 0, .int 0, .int 0, .int 0, .int 0, .int 0, .int 0, .ref a_isPriest, .ref a_bars, .ref a_joined, .ref a_turns, .ref a_awayMonk, .ref a_awayFrom, .ref a_awayTo, .ref a_feastDay, .ref a_rank, .ref a_isWeekly, .ref a_isDouble, .ref a_giftDay, .ref a_giftFrom, .ref a_owed, .ref a_said, .ref a_spared, .ref a_leaveGift, .ref a_leaveFrom, .ref a_leaveTo, .ref a_lateDay, .ref a_lateOffice, .ref a_lateBy, .ref a_guests, .ref a_who, .ref a_used, .ref a_lacks, .ref a_candles, .ref a_masses, .ref a_owing, .ref a_heldOn, .ref a_waits, .ref a_tape, .ref a_text, .int 0, .int 0, .int 0, .int (-1), .int 0, .ref a_statements, .ref a_taken, .ref a_sort, .ref a_first, .ref a_second, .int 0, .int 0]))]) (vp_Si (fun r : Int32 => r.toInt = -1)) 0 0 (fun _ => False) := by
  refine ro_ret (cc := cX12_dayOf) (maxL := 3) (ty := .int) (own := RX12) (by decide) rfl rfl (Nat.le_of_ble_eq_true rfl) ?_
  intro p e s m args below meth c Q S hret hP hK ls hl
  obtain ⟨hx, hb, hml, hown, hts⟩ := id S
  have hl : lv_has ls 3 [(0, .ref h), (1, .int d), (2, .int w)] := hl
  have kkm1 : (-1 : Int32).toInt = -1 := by decide
  have kk0 : (0 : Int32).toInt = 0 := by decide
  have kk1 : (1 : Int32).toInt = 1 := by decide
  have kk2 : (2 : Int32).toInt = 2 := by decide
  have kk3 : (3 : Int32).toInt = 3 := by decide
  have kk4 : (4 : Int32).toInt = 4 := by decide
  refine lv_aload_n hx hb dX12_dayOf_0 rfl (lv_at hl 0 rfl) ?_
  refine lv_iload_n hx hb dX12_dayOf_1 rfl (lv_at hl 1 rfl) ?_
  have hPc := hP.sub (ws' := [(h, .inr (11, [.int 0, .int 0, .int 0, .int 0, .int 0, .int 0, .int 0, .int 0, .int 0, .ref a_isPriest, .ref a_bars, .ref a_joined, .ref a_turns, .ref a_awayMonk, .ref a_awayFrom, .ref a_awayTo, .ref a_feastDay, .ref a_rank, .ref a_isWeekly, .ref a_isDouble, .ref a_giftDay, .ref a_giftFrom, .ref a_owed, .ref a_said, .ref a_spared, .ref a_leaveGift, .ref a_leaveFrom, .ref a_leaveTo, .ref a_lateDay, .ref a_lateOffice, .ref a_lateBy, .ref a_guests, .ref a_who, .ref a_used, .ref a_lacks, .ref a_candles, .ref a_masses, .ref a_owing, .ref a_heldOn, .ref a_waits, .ref a_tape, .ref a_text, .int 0, .int 0, .int 0, .int (-1), .int 0, .ref a_statements, .ref a_taken, .ref a_sort, .ref a_first, .ref a_second, .int 0, .int 0]))]) [0] rfl
  refine roV (As := [.int d]) (rest := []) S (m_hasGone  ) (cwV 1 hts gX12_dayOf_X12_hasGone rfl rfl rfl (by decide +kernel) ⟨Nat.le_of_ble_eq_true rfl, Nat.le_of_ble_eq_true rfl⟩) hK hPc (va_recv hK.1 hPc (ci := 11) (q0 := 0) rfl rfl) rfl hl.1 rfl (Nat.le_of_ble_eq_true rfl) dX12_dayOf_2 ⟨Nat.le_of_ble_eq_true rfl, Nat.le_of_ble_eq_true rfl⟩ (fun r_1 hw_1 => ?_)
  have hw_1 : r_1.toInt = 0 := hw_1
  refine lv_if_ne (tgt := 10) hx hb dX12_dayOf_5 (by decide) (fun c_2 => ?_) (fun c_2 => ?_)
  · have tc_2 := t_ne c_2
    exfalso; omega
  · have tc_2 := t_eq c_2
    refine lv_iconst (v := (-1)) hx hb dX12_dayOf_8 (by decide) ?_
    exact hret (-1) _ _ (by omega) rfl dX12_dayOf_9

theorem in_q_count_X12 : ∀ w ∈ wsX120, w ∈ wsX12_count := by decide +kernel
set_option maxHeartbeats 8000000 in
set_option maxRecDepth 100000 in
theorem q_count {l : Launch} {D : va_G} {cI cZ cB : ClassId} {h a_isPriest a_bars a_joined a_turns a_awayMonk a_awayFrom a_awayTo a_feastDay a_rank a_isWeekly a_isDouble a_giftDay a_giftFrom a_owed a_said a_spared a_leaveGift a_leaveFrom a_leaveTo a_lateDay a_lateOffice a_lateBy a_guests a_who a_used a_lacks a_candles a_masses a_owing a_heldOn a_waits a_tape a_text a_statements a_taken a_sort a_first a_second : Nat} {w : Int32}  : Met l yX12_count wsX12_count ({ frames := 1, cells := 0, slots := 0, locals := 22 }) (RO D cI cZ cB [.ref h, .int w] [(h, .inr (11, [.int 0, .int 0, .int 0, .int 0, .int 0, .int 0, .int 0, .int 0, .int 0, .ref a_isPriest, .ref a_bars, .ref a_joined, .ref a_turns, .ref a_awayMonk, .ref a_awayFrom, .ref a_awayTo, .ref a_feastDay, .ref a_rank, .ref a_isWeekly, .ref a_isDouble, .ref a_giftDay, .ref a_giftFrom, .ref a_owed, .ref a_said, .ref a_spared, .ref a_leaveGift, .ref a_leaveFrom, .ref a_leaveTo, .ref a_lateDay, .ref a_lateOffice, .ref a_lateBy, .ref a_guests, .ref a_who, .ref a_used, .ref a_lacks, .ref a_candles, .ref a_masses, .ref a_owing, .ref a_heldOn, .ref a_waits, .ref a_tape, .ref a_text, .int 0, .int 0, .int 0, .int (-1), .int 0, .ref a_statements, .ref a_taken, .ref a_sort, .ref a_first, .ref a_second, .int 0, .int 0])), (a_guests, .inl (cI, 6, .inl (fun _ => 0)))]) (vp_Si (fun r : Int32 => ((0 ≤ w.toInt ∧ w.toInt ≤ 10) → r.toInt = 0) ∧ (¬ (0 ≤ w.toInt ∧ w.toInt ≤ 10) → r.toInt = -1))) 0 0 (fun _ => False) := by
  refine ro_ret (cc := cX12_count) (maxL := 4) (ty := .int) (own := RX12) (by decide) rfl rfl (Nat.le_of_ble_eq_true rfl) ?_
  intro p e s m args below meth c Q S hret hP hK ls hl
  obtain ⟨hx, hb, hml, hown, hts⟩ := id S
  have hl : lv_has ls 4 [(0, .ref h), (1, .int w)] := hl
  have kkm1 : (-1 : Int32).toInt = -1 := by decide
  have kk0 : (0 : Int32).toInt = 0 := by decide
  have kk1 : (1 : Int32).toInt = 1 := by decide
  have lk0 := hts (.fieldLink RX12 140 "AbbeyHoursModel" "today" "I") (by decide +kernel)
  have lk1 := hts (.fieldLink RX12 134 "AbbeyHoursModel" "monks" "I") (by decide +kernel)
  have lk2 := hts (.fieldLink RX12 153 "AbbeyHoursModel" "feasts" "I") (by decide +kernel)
  have lk3 := hts (.fieldLink RX12 137 "AbbeyHoursModel" "gifts" "I") (by decide +kernel)
  have lk4 := hts (.fieldLink RX12 264 "AbbeyHoursModel" "store" "I") (by decide +kernel)
  have lk5 := hts (.fieldLink RX12 233 "AbbeyHoursModel" "rules" "I") (by decide +kernel)
  have lk6 := hts (.fieldLink RX12 297 "AbbeyHoursModel" "allCandles" "I") (by decide +kernel)
  have lk7 := hts (.fieldLink RX12 185 "AbbeyHoursModel" "taped" "I") (by decide +kernel)
  refine lv_iconst (v := 0) hx hb dX12_count_0 (by decide) ?_
  refine lv_istore_n (lv' := [(2, .int 0), (0, .ref h), (1, .int w)]) hx hb dX12_count_1 rfl hl (by decide) rfl (fun ls hl => ?_)
  refine lv_iload_n hx hb dX12_count_2 rfl (lv_at hl 2 rfl) ?_
  by_cases h_1 : w = 0
  · have th_1 := t_eq h_1
    refine lv_tableIn (off := 57) (tgt := 60) hx hb dX12_count_3 (by rw [h_1]; decide) (by rw [h_1]; decide) (by rw [h_1]; rfl) (by decide) ?_
    refine lv_aload_n hx hb dX12_count_60 rfl (lv_at hl 1 rfl) ?_
    refine va_get (D := D) (ci := 11) (v := .int 0) (C := RX12) (T := TX12) (N := 54) hx hb hts in_q_count_X12 hown hK.1 hP 0 rfl rfl 0 (by decide) lk0 (fun _ h9 => h9) rfl dX12_count_61 ?_
    exact hret 0 _ _ (by omega) rfl dX12_count_64
  have th_1 := t_ne h_1
  have kqh_1 : (0 : Int32).toInt = 0 := by decide
  by_cases h_2 : w = 1
  · have th_2 := t_eq h_2
    refine lv_tableIn (off := 62) (tgt := 65) hx hb dX12_count_3 (by rw [h_2]; decide) (by rw [h_2]; decide) (by rw [h_2]; rfl) (by decide) ?_
    refine lv_aload_n hx hb dX12_count_65 rfl (lv_at hl 1 rfl) ?_
    refine va_get (D := D) (ci := 11) (v := .int 0) (C := RX12) (T := TX12) (N := 54) hx hb hts in_q_count_X12 hown hK.1 hP 0 rfl rfl 1 (by decide) lk1 (fun _ h9 => h9) rfl dX12_count_66 ?_
    exact hret 0 _ _ (by omega) rfl dX12_count_69
  have th_2 := t_ne h_2
  have kqh_2 : (1 : Int32).toInt = 1 := by decide
  by_cases h_3 : w = 2
  · have th_3 := t_eq h_3
    refine lv_tableIn (off := 67) (tgt := 70) hx hb dX12_count_3 (by rw [h_3]; decide) (by rw [h_3]; decide) (by rw [h_3]; rfl) (by decide) ?_
    refine lv_aload_n hx hb dX12_count_70 rfl (lv_at hl 1 rfl) ?_
    refine va_get (D := D) (ci := 11) (v := .int 0) (C := RX12) (T := TX12) (N := 54) hx hb hts in_q_count_X12 hown hK.1 hP 0 rfl rfl 3 (by decide) lk2 (fun _ h9 => h9) rfl dX12_count_71 ?_
    exact hret 0 _ _ (by omega) rfl dX12_count_74
  have th_3 := t_ne h_3
  have kqh_3 : (2 : Int32).toInt = 2 := by decide
  by_cases h_4 : w = 3
  · have th_4 := t_eq h_4
    refine lv_tableIn (off := 72) (tgt := 75) hx hb dX12_count_3 (by rw [h_4]; decide) (by rw [h_4]; decide) (by rw [h_4]; rfl) (by decide) ?_
    refine lv_aload_n hx hb dX12_count_75 rfl (lv_at hl 1 rfl) ?_
    refine va_get (D := D) (ci := 11) (v := .int 0) (C := RX12) (T := TX12) (N := 54) hx hb hts in_q_count_X12 hown hK.1 hP 0 rfl rfl 4 (by decide) lk3 (fun _ h9 => h9) rfl dX12_count_76 ?_
    exact hret 0 _ _ (by omega) rfl dX12_count_79
  have th_4 := t_ne h_4
  have kqh_4 : (3 : Int32).toInt = 3 := by decide
  by_cases h_5 : w = 4
  · have th_5 := t_eq h_5
    refine lv_tableIn (off := 77) (tgt := 80) hx hb dX12_count_3 (by rw [h_5]; decide) (by rw [h_5]; decide) (by rw [h_5]; rfl) (by decide) ?_
    refine lv_aload_n hx hb dX12_count_80 rfl (lv_at hl 1 rfl) ?_
    refine va_get (D := D) (ci := 11) (v := .int 0) (C := RX12) (T := TX12) (N := 54) hx hb hts in_q_count_X12 hown hK.1 hP 0 rfl rfl 7 (by decide) lk4 (fun _ h9 => h9) rfl dX12_count_81 ?_
    exact hret 0 _ _ (by omega) rfl dX12_count_84
  have th_5 := t_ne h_5
  have kqh_5 : (4 : Int32).toInt = 4 := by decide
  by_cases h_6 : w = 5
  · have th_6 := t_eq h_6
    refine lv_tableIn (off := 82) (tgt := 85) hx hb dX12_count_3 (by rw [h_6]; decide) (by rw [h_6]; decide) (by rw [h_6]; rfl) (by decide) ?_
    refine lv_aload_n hx hb dX12_count_85 rfl (lv_at hl 1 rfl) ?_
    have hPc := hP.sub (ws' := [(h, .inr (11, [.int 0, .int 0, .int 0, .int 0, .int 0, .int 0, .int 0, .int 0, .int 0, .ref a_isPriest, .ref a_bars, .ref a_joined, .ref a_turns, .ref a_awayMonk, .ref a_awayFrom, .ref a_awayTo, .ref a_feastDay, .ref a_rank, .ref a_isWeekly, .ref a_isDouble, .ref a_giftDay, .ref a_giftFrom, .ref a_owed, .ref a_said, .ref a_spared, .ref a_leaveGift, .ref a_leaveFrom, .ref a_leaveTo, .ref a_lateDay, .ref a_lateOffice, .ref a_lateBy, .ref a_guests, .ref a_who, .ref a_used, .ref a_lacks, .ref a_candles, .ref a_masses, .ref a_owing, .ref a_heldOn, .ref a_waits, .ref a_tape, .ref a_text, .int 0, .int 0, .int 0, .int (-1), .int 0, .ref a_statements, .ref a_taken, .ref a_sort, .ref a_first, .ref a_second, .int 0, .int 0])), (a_guests, .inl (cI, 6, .inl (fun _ => 0)))]) [0, 1] rfl
    refine roV (As := []) (rest := []) S (m_allGuests  ) (cwV 0 hts gX12_count_X12_allGuests rfl rfl rfl (by decide +kernel) ⟨Nat.le_of_ble_eq_true rfl, Nat.le_of_ble_eq_true rfl⟩) hK hPc (va_recv hK.1 hPc (ci := 11) (q0 := 0) rfl rfl) rfl hl.1 rfl (Nat.le_of_ble_eq_true rfl) dX12_count_86 ⟨Nat.le_of_ble_eq_true rfl, Nat.le_of_ble_eq_true rfl⟩ (fun r_7 hw_7 => ?_)
    have hw_7 : r_7 = sum6 (fun _ => 0) := hw_7
    rw [sum6_z] at hw_7
    have hw_7 := t_eq hw_7
    exact hret r_7 _ _ (by omega) rfl dX12_count_89
  have th_6 := t_ne h_6
  have kqh_6 : (5 : Int32).toInt = 5 := by decide
  by_cases h_8 : w = 6
  · have th_8 := t_eq h_8
    refine lv_tableIn (off := 87) (tgt := 90) hx hb dX12_count_3 (by rw [h_8]; decide) (by rw [h_8]; decide) (by rw [h_8]; rfl) (by decide) ?_
    refine lv_aload_n hx hb dX12_count_90 rfl (lv_at hl 1 rfl) ?_
    refine va_get (D := D) (ci := 11) (v := .int 0) (C := RX12) (T := TX12) (N := 54) hx hb hts in_q_count_X12 hown hK.1 hP 0 rfl rfl 46 (by decide) lk5 (fun _ h9 => h9) rfl dX12_count_91 ?_
    exact hret 0 _ _ (by omega) rfl dX12_count_94
  have th_8 := t_ne h_8
  have kqh_8 : (6 : Int32).toInt = 6 := by decide
  by_cases h_9 : w = 7
  · have th_9 := t_eq h_9
    refine lv_tableIn (off := 92) (tgt := 95) hx hb dX12_count_3 (by rw [h_9]; decide) (by rw [h_9]; decide) (by rw [h_9]; rfl) (by decide) ?_
    refine lv_iconst (v := 0) hx hb dX12_count_95 (by decide) ?_
    refine lv_istore_n (lv' := [(3, .int 0), (2, .int 0), (0, .ref h), (1, .int w)]) hx hb dX12_count_96 rfl hl (by decide) rfl (fun ls hl => ?_)
    refine lv_iload_n hx hb dX12_count_97 rfl (lv_at hl 0 rfl) ?_
    refine lv_aload_n hx hb dX12_count_98 rfl (lv_at hl 2 rfl) ?_
    refine va_get (D := D) (ci := 11) (v := .int 0) (C := RX12) (T := TX12) (N := 54) hx hb hts in_q_count_X12 hown hK.1 hP 0 rfl rfl 4 (by decide) lk3 (fun _ h9 => h9) rfl dX12_count_99 ?_
    refine lv_icmp_ge (tgt := 120) hx hb dX12_count_102 (by decide) (fun c_10 => ?_) (fun c_10 => ?_)
    · have tc_10 := t_le c_10
      refine lv_iload_n hx hb dX12_count_120 rfl (lv_at hl 1 rfl) ?_
      exact hret 0 _ _ (by omega) rfl dX12_count_121
    · exact absurd c_10 (by decide)
  have th_9 := t_ne h_9
  have kqh_9 : (7 : Int32).toInt = 7 := by decide
  by_cases h_11 : w = 8
  · have th_11 := t_eq h_11
    refine lv_tableIn (off := 119) (tgt := 122) hx hb dX12_count_3 (by rw [h_11]; decide) (by rw [h_11]; decide) (by rw [h_11]; rfl) (by decide) ?_
    refine lv_iconst (v := 0) hx hb dX12_count_122 (by decide) ?_
    refine lv_istore_n (lv' := [(3, .int 0), (2, .int 0), (0, .ref h), (1, .int w)]) hx hb dX12_count_123 rfl hl (by decide) rfl (fun ls hl => ?_)
    refine lv_iload_n hx hb dX12_count_124 rfl (lv_at hl 0 rfl) ?_
    refine lv_aload_n hx hb dX12_count_125 rfl (lv_at hl 2 rfl) ?_
    refine va_get (D := D) (ci := 11) (v := .int 0) (C := RX12) (T := TX12) (N := 54) hx hb hts in_q_count_X12 hown hK.1 hP 0 rfl rfl 4 (by decide) lk3 (fun _ h9 => h9) rfl dX12_count_126 ?_
    refine lv_icmp_ge (tgt := 147) hx hb dX12_count_129 (by decide) (fun c_12 => ?_) (fun c_12 => ?_)
    · have tc_12 := t_le c_12
      refine lv_iload_n hx hb dX12_count_147 rfl (lv_at hl 1 rfl) ?_
      exact hret 0 _ _ (by omega) rfl dX12_count_148
    · exact absurd c_12 (by decide)
  have th_11 := t_ne h_11
  have kqh_11 : (8 : Int32).toInt = 8 := by decide
  by_cases h_13 : w = 9
  · have th_13 := t_eq h_13
    refine lv_tableIn (off := 146) (tgt := 149) hx hb dX12_count_3 (by rw [h_13]; decide) (by rw [h_13]; decide) (by rw [h_13]; rfl) (by decide) ?_
    refine lv_aload_n hx hb dX12_count_149 rfl (lv_at hl 1 rfl) ?_
    refine va_get (D := D) (ci := 11) (v := .int 0) (C := RX12) (T := TX12) (N := 54) hx hb hts in_q_count_X12 hown hK.1 hP 0 rfl rfl 8 (by decide) lk6 (fun _ h9 => h9) rfl dX12_count_150 ?_
    exact hret 0 _ _ (by omega) rfl dX12_count_153
  have th_13 := t_ne h_13
  have kqh_13 : (9 : Int32).toInt = 9 := by decide
  by_cases h_14 : w = 10
  · have th_14 := t_eq h_14
    refine lv_tableIn (off := 151) (tgt := 154) hx hb dX12_count_3 (by rw [h_14]; decide) (by rw [h_14]; decide) (by rw [h_14]; rfl) (by decide) ?_
    refine lv_aload_n hx hb dX12_count_154 rfl (lv_at hl 1 rfl) ?_
    refine va_get (D := D) (ci := 11) (v := .int 0) (C := RX12) (T := TX12) (N := 54) hx hb hts in_q_count_X12 hown hK.1 hP 0 rfl rfl 42 (by decide) lk7 (fun _ h9 => h9) rfl dX12_count_155 ?_
    exact hret 0 _ _ (by omega) rfl dX12_count_158
  have th_14 := t_ne h_14
  have kqh_14 : (10 : Int32).toInt = 10 := by decide
  refine lv_tableOut (tgt := 159) hx hb dX12_count_3 (by omega) (by decide) ?_
  refine lv_iconst (v := (-1)) hx hb dX12_count_159 (by decide) ?_
  exact hret (-1) _ _ (by omega) rfl dX12_count_160
