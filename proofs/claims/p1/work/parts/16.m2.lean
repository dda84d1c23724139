theorem in_q_day_X12 : ∀ w ∈ wsX120, w ∈ wsX12_day := by decide +kernel
set_option maxHeartbeats 8000000 in
set_option maxRecDepth 100000 in
theorem q_day {l : Launch} {D : va_G} {cI cZ cB : ClassId} {sz : Nat} {h a_isPriest a_bars a_joined a_turns a_awayMonk a_awayFrom a_awayTo a_feastDay a_rank a_isWeekly a_isDouble a_giftDay a_giftFrom a_owed a_said a_spared a_leaveGift a_leaveFrom a_leaveTo a_lateDay a_lateOffice a_lateBy a_guests a_who a_used a_lacks a_candles a_masses a_owing a_heldOn a_waits a_tape a_text a_statements a_taken a_sort a_first a_second : Nat} {f_owed f_guests f_who f_used f_lacks f_candles f_heldOn : Nat → Int32}   : Met l yX12_day wsX12_day ({ frames := 5, cells := 0, slots := 0, locals := 107 }) (RW D cI cZ cB [.ref h] sz [(h, .inr (11, [.int 0, .int 0, .int 0, .int 0, .int 0, .int 0, .int 0, .int 0, .int 0, .ref a_isPriest, .ref a_bars, .ref a_joined, .ref a_turns, .ref a_awayMonk, .ref a_awayFrom, .ref a_awayTo, .ref a_feastDay, .ref a_rank, .ref a_isWeekly, .ref a_isDouble, .ref a_giftDay, .ref a_giftFrom, .ref a_owed, .ref a_said, .ref a_spared, .ref a_leaveGift, .ref a_leaveFrom, .ref a_leaveTo, .ref a_lateDay, .ref a_lateOffice, .ref a_lateBy, .ref a_guests, .ref a_who, .ref a_used, .ref a_lacks, .ref a_candles, .ref a_masses, .ref a_owing, .ref a_heldOn, .ref a_waits, .ref a_tape, .ref a_text, .int 0, .int 0, .int 0, .int (-1), .int 0, .ref a_statements, .ref a_taken, .ref a_sort, .ref a_first, .ref a_second, .int 0, .int 0])), (a_owed, .inl (cI, 40, .inl f_owed)), (a_guests, .inl (cI, 6, .inl f_guests)), (a_who, .inl (cI, 4380, .inl f_who)), (a_used, .inl (cI, 1095, .inl f_used)), (a_lacks, .inl (cI, 1095, .inl f_lacks)), (a_candles, .inl (cI, 1095, .inl f_candles)), (a_heldOn, .inl (cI, 365, .inl f_heldOn))]) (va_Qi (fun (r : Int32) (u : Int32 × Int32 × Int32 × (Nat → Int32) × (Nat → Int32) × (Nat → Int32) × (Nat → Int32) × (Nat → Int32) × (Nat → Int32) × (Nat → Int32)) => r.toInt = 1) (BW D [(h, .inr (11, [.int 0, .int 0, .int 0, .int 0, .int 0, .int 0, .int 0, .int 0, .int 0, .ref a_isPriest, .ref a_bars, .ref a_joined, .ref a_turns, .ref a_awayMonk, .ref a_awayFrom, .ref a_awayTo, .ref a_feastDay, .ref a_rank, .ref a_isWeekly, .ref a_isDouble, .ref a_giftDay, .ref a_giftFrom, .ref a_owed, .ref a_said, .ref a_spared, .ref a_leaveGift, .ref a_leaveFrom, .ref a_leaveTo, .ref a_lateDay, .ref a_lateOffice, .ref a_lateBy, .ref a_guests, .ref a_who, .ref a_used, .ref a_lacks, .ref a_candles, .ref a_masses, .ref a_owing, .ref a_heldOn, .ref a_waits, .ref a_tape, .ref a_text, .int 0, .int 0, .int 0, .int (-1), .int 0, .ref a_statements, .ref a_taken, .ref a_sort, .ref a_first, .ref a_second, .int 0, .int 0])), (a_owed, .inl (cI, 40, .inl f_owed)), (a_guests, .inl (cI, 6, .inl f_guests)), (a_who, .inl (cI, 4380, .inl f_who)), (a_used, .inl (cI, 1095, .inl f_used)), (a_lacks, .inl (cI, 1095, .inl f_lacks)), (a_candles, .inl (cI, 1095, .inl f_candles)), (a_heldOn, .inl (cI, 365, .inl f_heldOn))] sz (fun u : Int32 × Int32 × Int32 × (Nat → Int32) × (Nat → Int32) × (Nat → Int32) × (Nat → Int32) × (Nat → Int32) × (Nat → Int32) × (Nat → Int32) => [(h, .inr (11, [.int u.1, .int 0, .int 0, .int 0, .int 0, .int 0, .int 0, .int u.2.1, .int u.2.2.1, .ref a_isPriest, .ref a_bars, .ref a_joined, .ref a_turns, .ref a_awayMonk, .ref a_awayFrom, .ref a_awayTo, .ref a_feastDay, .ref a_rank, .ref a_isWeekly, .ref a_isDouble, .ref a_giftDay, .ref a_giftFrom, .ref a_owed, .ref a_said, .ref a_spared, .ref a_leaveGift, .ref a_leaveFrom, .ref a_leaveTo, .ref a_lateDay, .ref a_lateOffice, .ref a_lateBy, .ref a_guests, .ref a_who, .ref a_used, .ref a_lacks, .ref a_candles, .ref a_masses, .ref a_owing, .ref a_heldOn, .ref a_waits, .ref a_tape, .ref a_text, .int 0, .int 0, .int 0, .int (-1), .int 0, .ref a_statements, .ref a_taken, .ref a_sort, .ref a_first, .ref a_second, .int 0, .int 0])), (a_owed, .inl (cI, 40, .inl u.2.2.2.2.1)), (a_guests, .inl (cI, 6, .inl u.2.2.2.2.2.2.1)), (a_who, .inl (cI, 4380, .inl u.2.2.2.1)), (a_used, .inl (cI, 1095, .inl u.2.2.2.2.2.2.2.1)), (a_lacks, .inl (cI, 1095, .inl u.2.2.2.2.2.2.2.2.1)), (a_candles, .inl (cI, 1095, .inl u.2.2.2.2.2.2.2.2.2)), (a_heldOn, .inl (cI, 365, .inl u.2.2.2.2.2.1))])) (va_A [(h, .inr (11, [.int 0, .int 0, .int 0, .int 0, .int 0, .int 0, .int 0, .int 0, .int 0, .ref a_isPriest, .ref a_bars, .ref a_joined, .ref a_turns, .ref a_awayMonk, .ref a_awayFrom, .ref a_awayTo, .ref a_feastDay, .ref a_rank, .ref a_isWeekly, .ref a_isDouble, .ref a_giftDay, .ref a_giftFrom, .ref a_owed, .ref a_said, .ref a_spared, .ref a_leaveGift, .ref a_leaveFrom, .ref a_leaveTo, .ref a_lateDay, .ref a_lateOffice, .ref a_lateBy, .ref a_guests, .ref a_who, .ref a_used, .ref a_lacks, .ref a_candles, .ref a_masses, .ref a_owing, .ref a_heldOn, .ref a_waits, .ref a_tape, .ref a_text, .int 0, .int 0, .int 0, .int (-1), .int 0, .ref a_statements, .ref a_taken, .ref a_sort, .ref a_first, .ref a_second, .int 0, .int 0])), (a_owed, .inl (cI, 40, .inl f_owed)), (a_guests, .inl (cI, 6, .inl f_guests)), (a_who, .inl (cI, 4380, .inl f_who)), (a_used, .inl (cI, 1095, .inl f_used)), (a_lacks, .inl (cI, 1095, .inl f_lacks)), (a_candles, .inl (cI, 1095, .inl f_candles)), (a_heldOn, .inl (cI, 365, .inl f_heldOn))] sz)) 0 0 (va_A [(h, .inr (11, [.int 0, .int 0, .int 0, .int 0, .int 0, .int 0, .int 0, .int 0, .int 0, .ref a_isPriest, .ref a_bars, .ref a_joined, .ref a_turns, .ref a_awayMonk, .ref a_awayFrom, .ref a_awayTo, .ref a_feastDay, .ref a_rank, .ref a_isWeekly, .ref a_isDouble, .ref a_giftDay, .ref a_giftFrom, .ref a_owed, .ref a_said, .ref a_spared, .ref a_leaveGift, .ref a_leaveFrom, .ref a_leaveTo, .ref a_lateDay, .ref a_lateOffice, .ref a_lateBy, .ref a_guests, .ref a_who, .ref a_used, .ref a_lacks, .ref a_candles, .ref a_masses, .ref a_owing, .ref a_heldOn, .ref a_waits, .ref a_tape, .ref a_text, .int 0, .int 0, .int 0, .int (-1), .int 0, .ref a_statements, .ref a_taken, .ref a_sort, .ref a_first, .ref a_second, .int 0, .int 0])), (a_owed, .inl (cI, 40, .inl f_owed)), (a_guests, .inl (cI, 6, .inl f_guests)), (a_who, .inl (cI, 4380, .inl f_who)), (a_used, .inl (cI, 1095, .inl f_used)), (a_lacks, .inl (cI, 1095, .inl f_lacks)), (a_candles, .inl (cI, 1095, .inl f_candles)), (a_heldOn, .inl (cI, 365, .inl f_heldOn))] sz) := by
  refine rw_ret (cc := cX12_day) (maxL := 6) (ty := .int) (own := RX12) (by decide) rfl rfl (Nat.le_of_ble_eq_true rfl) ?_
  intro p e s m args below meth c Q A S hin hret hP hK hD hA hS ls hl
  obtain ⟨hx, hb, hml, hown, hts⟩ := id S
  have hl : lv_has ls 6 [(0, .ref h)] := hl
  have kkm1 : (-1 : Int32).toInt = -1 := by decide
  have kk0 : (0 : Int32).toInt = 0 := by decide
  have kk1 : (1 : Int32).toInt = 1 := by decide
  have kk2 : (2 : Int32).toInt = 2 := by decide
  have kk3 : (3 : Int32).toInt = 3 := by decide
  have kk4 : (4 : Int32).toInt = 4 := by decide
  have kk5 : (5 : Int32).toInt = 5 := by decide
  have kk6 : (6 : Int32).toInt = 6 := by decide
  have kk8 : (8 : Int32).toInt = 8 := by decide
  have kk30 : (30 : Int32).toInt = 30 := by decide
  have kk365 : (365 : Int32).toInt = 365 := by decide
  have kk1094 : (1094 : Int32).toInt = 1094 := by decide
  have lk0 := hts (.fieldLink RX12 140 "AbbeyHoursModel" "today" "I") (by decide +kernel)
  have lk1 := hts (.fieldLink RX12 134 "AbbeyHoursModel" "monks" "I") (by decide +kernel)
  have lk2 := hts (.fieldLink RX12 137 "AbbeyHoursModel" "gifts" "I") (by decide +kernel)
  have lk3 := hts (.fieldLink RX12 77 "AbbeyHoursModel" "guests" "[I") (by decide +kernel)
  have lk4 := hts (.fieldLink RX12 83 "AbbeyHoursModel" "used" "[I") (by decide +kernel)
  have lk5 := hts (.fieldLink RX12 264 "AbbeyHoursModel" "store" "I") (by decide +kernel)
  have lk6 := hts (.methodLink RX12 292 Lib.Math.min.name) (by decide +kernel)
  have lk7 := hts (.static Lib.Math.min.name) (by decide +kernel)
  have lk8 := hts (.initialized "java/lang/Math") (by decide +kernel)
  have lk9 := hts (.code Lib.Math.min.name Lib.Math.min.code 2 (some .int)) (by decide +kernel)
  have lk10 := hts (.fieldLink RX12 86 "AbbeyHoursModel" "lacks" "[I") (by decide +kernel)
  have lk11 := hts (.fieldLink RX12 297 "AbbeyHoursModel" "allCandles" "I") (by decide +kernel)
  have lk12 := hts (.fieldLink RX12 89 "AbbeyHoursModel" "candles" "[I") (by decide +kernel)
  refine lv_aload_n hx hb dX12_day_0 rfl (lv_at hl 0 rfl) ?_
  refine va_get (D := D) (ci := 11) (v := .int 0) (C := RX12) (T := TX12) (N := 54) hx hb hts in_q_day_X12 hown hK.1 hP 0 rfl rfl 0 (by decide) lk0 (fun _ h9 => h9) rfl dX12_day_1 ?_
  refine lv_sipush (v := 1094) hx hb dX12_day_4 (by decide) ?_
  refine lv_icmp_ne (tgt := 12) hx hb dX12_day_7 (by decide) (fun c_1 => ?_) (fun c_1 => ?_)
  · have tc_1 := t_neq c_1
    refine lv_aload_n hx hb dX12_day_12 rfl (lv_at hl 0 rfl) ?_
    refine va_get (D := D) (ci := 11) (v := .int 0) (C := RX12) (T := TX12) (N := 54) hx hb hts in_q_day_X12 hown hK.1 hP 0 rfl rfl 0 (by decide) lk0 (fun _ h9 => h9) rfl dX12_day_13 ?_
    refine lv_istore_n (lv' := [(1, .int 0), (0, .ref h)]) hx hb dX12_day_16 rfl hl (by decide) rfl (fun ls hl => ?_)
    refine lv_iconst (v := 0) hx hb dX12_day_17 (by decide) ?_
    refine lv_istore_n (lv' := [(2, .int 0), (1, .int 0), (0, .ref h)]) hx hb dX12_day_18 rfl hl (by decide) rfl (fun ls hl => ?_)
    refine lv_iload_n hx hb dX12_day_19 rfl (lv_at hl 0 rfl) ?_
    refine lv_iconst (v := 4) hx hb dX12_day_20 (by decide) ?_
    refine lv_icmp_ge (tgt := 43) hx hb dX12_day_21 (by decide) (fun c_2 => ?_) (fun c_2 => ?_)
    · exact absurd c_2 (by decide)
    · have tc_2 := t_nle c_2
      refine lv_aload_n hx hb dX12_day_24 rfl (lv_at hl 2 rfl) ?_
      refine lv_aload_n hx hb dX12_day_25 rfl (lv_at hl 2 rfl) ?_
      refine lv_iload_n hx hb dX12_day_26 rfl (lv_at hl 0 rfl) ?_
      refine lv_iload_n hx hb dX12_day_27 rfl (lv_at hl 1 rfl) ?_
      refine lv_iconst (v := (-1)) hx hb dX12_day_28 (by decide) ?_
      have hPc := hP.sub (ws' := [(h, .inr (11, [.int 0, .int 0, .int 0, .int 0, .int 0, .int 0, .int 0, .int 0, .int 0, .ref a_isPriest, .ref a_bars, .ref a_joined, .ref a_turns, .ref a_awayMonk, .ref a_awayFrom, .ref a_awayTo, .ref a_feastDay, .ref a_rank, .ref a_isWeekly, .ref a_isDouble, .ref a_giftDay, .ref a_giftFrom, .ref a_owed, .ref a_said, .ref a_spared, .ref a_leaveGift, .ref a_leaveFrom, .ref a_leaveTo, .ref a_lateDay, .ref a_lateOffice, .ref a_lateBy, .ref a_guests, .ref a_who, .ref a_used, .ref a_lacks, .ref a_candles, .ref a_masses, .ref a_owing, .ref a_heldOn, .ref a_waits, .ref a_tape, .ref a_text, .int 0, .int 0, .int 0, .int (-1), .int 0, .ref a_statements, .ref a_taken, .ref a_sort, .ref a_first, .ref a_second, .int 0, .int 0]))]) [0] rfl
      refine roV (As := [.int 0, .int 0, .int (-1)]) (rest := [.ref h]) S (m_nextFor  ) (cwV 3 hts gX12_day_X12_nextFor rfl rfl rfl (by decide +kernel) ⟨Nat.le_of_ble_eq_true rfl, Nat.le_of_ble_eq_true rfl⟩) hK hPc (va_recv hK.1 hPc (ci := 11) (q0 := 0) rfl rfl) rfl hl.1 rfl (Nat.le_of_ble_eq_true rfl) dX12_day_29 ⟨Nat.le_of_ble_eq_true rfl, Nat.le_of_ble_eq_true rfl⟩ (fun r_3 hw_3 => ?_)
      have hw_3 : r_3.toInt = -1 := hw_3
      refine lv_iload_n hx hb dX12_day_32 rfl (lv_at hl 0 rfl) ?_
      refine lv_iload_n hx hb dX12_day_33 rfl (lv_at hl 1 rfl) ?_
      have hPc := hP.sub (ws' := [(h, .inr (11, [.int 0, .int 0, .int 0, .int 0, .int 0, .int 0, .int 0, .int 0, .int 0, .ref a_isPriest, .ref a_bars, .ref a_joined, .ref a_turns, .ref a_awayMonk, .ref a_awayFrom, .ref a_awayTo, .ref a_feastDay, .ref a_rank, .ref a_isWeekly, .ref a_isDouble, .ref a_giftDay, .ref a_giftFrom, .ref a_owed, .ref a_said, .ref a_spared, .ref a_leaveGift, .ref a_leaveFrom, .ref a_leaveTo, .ref a_lateDay, .ref a_lateOffice, .ref a_lateBy, .ref a_guests, .ref a_who, .ref a_used, .ref a_lacks, .ref a_candles, .ref a_masses, .ref a_owing, .ref a_heldOn, .ref a_waits, .ref a_tape, .ref a_text, .int 0, .int 0, .int 0, .int (-1), .int 0, .ref a_statements, .ref a_taken, .ref a_sort, .ref a_first, .ref a_second, .int 0, .int 0])), (a_who, .inl (cI, 4380, .inl f_who))]) [0, 3] rfl
      refine rwVv (As := [.int r_3, .int 0, .int 0]) (rest := []) (wc := [(h, .inr (11, [.int 0, .int 0, .int 0, .int 0, .int 0, .int 0, .int 0, .int 0, .int 0, .ref a_isPriest, .ref a_bars, .ref a_joined, .ref a_turns, .ref a_awayMonk, .ref a_awayFrom, .ref a_awayTo, .ref a_feastDay, .ref a_rank, .ref a_isWeekly, .ref a_isDouble, .ref a_giftDay, .ref a_giftFrom, .ref a_owed, .ref a_said, .ref a_spared, .ref a_leaveGift, .ref a_leaveFrom, .ref a_leaveTo, .ref a_lateDay, .ref a_lateOffice, .ref a_lateBy, .ref a_guests, .ref a_who, .ref a_used, .ref a_lacks, .ref a_candles, .ref a_masses, .ref a_owing, .ref a_heldOn, .ref a_waits, .ref a_tape, .ref a_text, .int 0, .int 0, .int 0, .int (-1), .int 0, .ref a_statements, .ref a_taken, .ref a_sort, .ref a_first, .ref a_second, .int 0, .int 0])), (a_who, .inl (cI, 4380, .inl f_who))]) (wr := [(a_owed, .inl (cI, 40, .inl f_owed)), (a_guests, .inl (cI, 6, .inl f_guests)), (a_used, .inl (cI, 1095, .inl f_used)), (a_lacks, .inl (cI, 1095, .inl f_lacks)), (a_candles, .inl (cI, 1095, .inl f_candles)), (a_heldOn, .inl (cI, 365, .inl f_heldOn))]) S (m_has  (by omega) (by omega) (by omega) (by omega) (by omega)) (cwV 3 hts gX12_day_X12_has rfl rfl rfl (by decide +kernel) ⟨Nat.le_of_ble_eq_true rfl, Nat.le_of_ble_eq_true rfl⟩) hK hP hD hS hA [0, 3] [1, 2, 4, 5, 6, 7] rfl rfl (by decide) (by decide) (by decide) (va_recv hK.1 hPc (ci := 11) (q0 := 0) rfl rfl) rfl hl.1 rfl (Nat.le_of_ble_eq_true rfl) dX12_day_34 ⟨Nat.le_of_ble_eq_true rfl, Nat.le_of_ble_eq_true rfl⟩ (fun u_4 H locs hw_4 hP hD hS => ?_)
      obtain ⟨f1_4, rfl⟩ : ∃ z, z = u_4 := ⟨_, rfl⟩
      have hw_4 : True := hw_4
      have hP : va_P D vwCl [(a_owed, .inl (cI, 40, .inl f_owed)), (a_guests, .inl (cI, 6, .inl f_guests)), (a_used, .inl (cI, 1095, .inl f_used)), (a_lacks, .inl (cI, 1095, .inl f_lacks)), (a_candles, .inl (cI, 1095, .inl f_candles)), (a_heldOn, .inl (cI, 365, .inl f_heldOn)), (h, .inr (11, [.int 0, .int 0, .int 0, .int 0, .int 0, .int 0, .int 0, .int 0, .int 0, .ref a_isPriest, .ref a_bars, .ref a_joined, .ref a_turns, .ref a_awayMonk, .ref a_awayFrom, .ref a_awayTo, .ref a_feastDay, .ref a_rank, .ref a_isWeekly, .ref a_isDouble, .ref a_giftDay, .ref a_giftFrom, .ref a_owed, .ref a_said, .ref a_spared, .ref a_leaveGift, .ref a_leaveFrom, .ref a_leaveTo, .ref a_lateDay, .ref a_lateOffice, .ref a_lateBy, .ref a_guests, .ref a_who, .ref a_used, .ref a_lacks, .ref a_candles, .ref a_masses, .ref a_owing, .ref a_heldOn, .ref a_waits, .ref a_tape, .ref a_text, .int 0, .int 0, .int 0, .int (-1), .int 0, .ref a_statements, .ref a_taken, .ref a_sort, .ref a_first, .ref a_second, .int 0, .int 0])), (a_who, .inl (cI, 4380, .inl f1_4))] H := hP
      have hD : va_D A [(a_owed, .inl (cI, 40, .inl f_owed)), (a_guests, .inl (cI, 6, .inl f_guests)), (a_used, .inl (cI, 1095, .inl f_used)), (a_lacks, .inl (cI, 1095, .inl f_lacks)), (a_candles, .inl (cI, 1095, .inl f_candles)), (a_heldOn, .inl (cI, 365, .inl f_heldOn)), (h, .inr (11, [.int 0, .int 0, .int 0, .int 0, .int 0, .int 0, .int 0, .int 0, .int 0, .ref a_isPriest, .ref a_bars, .ref a_joined, .ref a_turns, .ref a_awayMonk, .ref a_awayFrom, .ref a_awayTo, .ref a_feastDay, .ref a_rank, .ref a_isWeekly, .ref a_isDouble, .ref a_giftDay, .ref a_giftFrom, .ref a_owed, .ref a_said, .ref a_spared, .ref a_leaveGift, .ref a_leaveFrom, .ref a_leaveTo, .ref a_lateDay, .ref a_lateOffice, .ref a_lateBy, .ref a_guests, .ref a_who, .ref a_used, .ref a_lacks, .ref a_candles, .ref a_masses, .ref a_owing, .ref a_heldOn, .ref a_waits, .ref a_tape, .ref a_text, .int 0, .int 0, .int 0, .int (-1), .int 0, .ref a_statements, .ref a_taken, .ref a_sort, .ref a_first, .ref a_second, .int 0, .int 0])), (a_who, .inl (cI, 4380, .inl f1_4))] := hD
      obtain ⟨x_5, ex_5⟩ : ∃ y : Int32, y = 0 + 1 := ⟨_, rfl⟩
      obtain rfl : x_5 = 1 := by rw [ex_5]; decide
      refine lv_iinc (v := 1) (lv' := [(2, .int 1), (1, .int 0), (0, .ref h)]) hx hb dX12_day_37 hl (k := 0) rfl (by decide) (by decide) rfl (fun ls hl => ?_)
      refine lv_goto (tgt := 19) hx hb dX12_day_40 (by decide) ?_
      refine lv_iload_n hx hb dX12_day_19 rfl (lv_at hl 0 rfl) ?_
      refine lv_iconst (v := 4) hx hb dX12_day_20 (by decide) ?_
      refine lv_icmp_ge (tgt := 43) hx hb dX12_day_21 (by decide) (fun c_6 => ?_) (fun c_6 => ?_)
      · exact absurd c_6 (by decide)
      · have tc_6 := t_nle c_6
        refine lv_aload_n hx hb dX12_day_24 rfl (lv_at hl 2 rfl) ?_
        refine lv_aload_n hx hb dX12_day_25 rfl (lv_at hl 2 rfl) ?_
        refine lv_iload_n hx hb dX12_day_26 rfl (lv_at hl 0 rfl) ?_
        refine lv_iload_n hx hb dX12_day_27 rfl (lv_at hl 1 rfl) ?_
        refine lv_iconst (v := (-1)) hx hb dX12_day_28 (by decide) ?_
        have hPc := hP.sub (ws' := [(h, .inr (11, [.int 0, .int 0, .int 0, .int 0, .int 0, .int 0, .int 0, .int 0, .int 0, .ref a_isPriest, .ref a_bars, .ref a_joined, .ref a_turns, .ref a_awayMonk, .ref a_awayFrom, .ref a_awayTo, .ref a_feastDay, .ref a_rank, .ref a_isWeekly, .ref a_isDouble, .ref a_giftDay, .ref a_giftFrom, .ref a_owed, .ref a_said, .ref a_spared, .ref a_leaveGift, .ref a_leaveFrom, .ref a_leaveTo, .ref a_lateDay, .ref a_lateOffice, .ref a_lateBy, .ref a_guests, .ref a_who, .ref a_used, .ref a_lacks, .ref a_candles, .ref a_masses, .ref a_owing, .ref a_heldOn, .ref a_waits, .ref a_tape, .ref a_text, .int 0, .int 0, .int 0, .int (-1), .int 0, .ref a_statements, .ref a_taken, .ref a_sort, .ref a_first, .ref a_second, .int 0, .int 0]))]) [6] rfl
        refine roV (As := [.int 1, .int 0, .int (-1)]) (rest := [.ref h]) S (m_nextFor  ) (cwV 3 hts gX12_day_X12_nextFor rfl rfl rfl (by decide +kernel) ⟨Nat.le_of_ble_eq_true rfl, Nat.le_of_ble_eq_true rfl⟩) hK hPc (va_recv hK.1 hPc (ci := 11) (q0 := 0) rfl rfl) rfl hl.1 rfl (Nat.le_of_ble_eq_true rfl) dX12_day_29 ⟨Nat.le_of_ble_eq_true rfl, Nat.le_of_ble_eq_true rfl⟩ (fun r_7 hw_7 => ?_)
        have hw_7 : r_7.toInt = -1 := hw_7
        refine lv_iload_n hx hb dX12_day_32 rfl (lv_at hl 0 rfl) ?_
        refine lv_iload_n hx hb dX12_day_33 rfl (lv_at hl 1 rfl) ?_
        have hPc := hP.sub (ws' := [(h, .inr (11, [.int 0, .int 0, .int 0, .int 0, .int 0, .int 0, .int 0, .int 0, .int 0, .ref a_isPriest, .ref a_bars, .ref a_joined, .ref a_turns, .ref a_awayMonk, .ref a_awayFrom, .ref a_awayTo, .ref a_feastDay, .ref a_rank, .ref a_isWeekly, .ref a_isDouble, .ref a_giftDay, .ref a_giftFrom, .ref a_owed, .ref a_said, .ref a_spared, .ref a_leaveGift, .ref a_leaveFrom, .ref a_leaveTo, .ref a_lateDay, .ref a_lateOffice, .ref a_lateBy, .ref a_guests, .ref a_who, .ref a_used, .ref a_lacks, .ref a_candles, .ref a_masses, .ref a_owing, .ref a_heldOn, .ref a_waits, .ref a_tape, .ref a_text, .int 0, .int 0, .int 0, .int (-1), .int 0, .ref a_statements, .ref a_taken, .ref a_sort, .ref a_first, .ref a_second, .int 0, .int 0])), (a_who, .inl (cI, 4380, .inl f1_4))]) [6, 7] rfl
        refine rwVv (As := [.int r_7, .int 1, .int 0]) (rest := []) (wc := [(h, .inr (11, [.int 0, .int 0, .int 0, .int 0, .int 0, .int 0, .int 0, .int 0, .int 0, .ref a_isPriest, .ref a_bars, .ref a_joined, .ref a_turns, .ref a_awayMonk, .ref a_awayFrom, .ref a_awayTo, .ref a_feastDay, .ref a_rank, .ref a_isWeekly, .ref a_isDouble, .ref a_giftDay, .ref a_giftFrom, .ref a_owed, .ref a_said, .ref a_spared, .ref a_leaveGift, .ref a_leaveFrom, .ref a_leaveTo, .ref a_lateDay, .ref a_lateOffice, .ref a_lateBy, .ref a_guests, .ref a_who, .ref a_used, .ref a_lacks, .ref a_candles, .ref a_masses, .ref a_owing, .ref a_heldOn, .ref a_waits, .ref a_tape, .ref a_text, .int 0, .int 0, .int 0, .int (-1), .int 0, .ref a_statements, .ref a_taken, .ref a_sort, .ref a_first, .ref a_second, .int 0, .int 0])), (a_who, .inl (cI, 4380, .inl f1_4))]) (wr := [(a_owed, .inl (cI, 40, .inl f_owed)), (a_guests, .inl (cI, 6, .inl f_guests)), (a_used, .inl (cI, 1095, .inl f_used)), (a_lacks, .inl (cI, 1095, .inl f_lacks)), (a_candles, .inl (cI, 1095, .inl f_candles)), (a_heldOn, .inl (cI, 365, .inl f_heldOn))]) S (m_has  (by omega) (by omega) (by omega) (by omega) (by omega)) (cwV 3 hts gX12_day_X12_has rfl rfl rfl (by decide +kernel) ⟨Nat.le_of_ble_eq_true rfl, Nat.le_of_ble_eq_true rfl⟩) hK hP hD hS hA [6, 7] [0, 1, 2, 3, 4, 5] rfl rfl (by decide) (by decide) (by decide) (va_recv hK.1 hPc (ci := 11) (q0 := 0) rfl rfl) rfl hl.1 rfl (Nat.le_of_ble_eq_true rfl) dX12_day_34 ⟨Nat.le_of_ble_eq_true rfl, Nat.le_of_ble_eq_true rfl⟩ (fun u_8 H locs hw_8 hP hD hS => ?_)
        obtain ⟨f1_8, rfl⟩ : ∃ z, z = u_8 := ⟨_, rfl⟩
        have hw_8 : True := hw_8
        have hP : va_P D vwCl [(a_owed, .inl (cI, 40, .inl f_owed)), (a_guests, .inl (cI, 6, .inl f_guests)), (a_used, .inl (cI, 1095, .inl f_used)), (a_lacks, .inl (cI, 1095, .inl f_lacks)), (a_candles, .inl (cI, 1095, .inl f_candles)), (a_heldOn, .inl (cI, 365, .inl f_heldOn)), (h, .inr (11, [.int 0, .int 0, .int 0, .int 0, .int 0, .int 0, .int 0, .int 0, .int 0, .ref a_isPriest, .ref a_bars, .ref a_joined, .ref a_turns, .ref a_awayMonk, .ref a_awayFrom, .ref a_awayTo, .ref a_feastDay, .ref a_rank, .ref a_isWeekly, .ref a_isDouble, .ref a_giftDay, .ref a_giftFrom, .ref a_owed, .ref a_said, .ref a_spared, .ref a_leaveGift, .ref a_leaveFrom, .ref a_leaveTo, .ref a_lateDay, .ref a_lateOffice, .ref a_lateBy, .ref a_guests, .ref a_who, .ref a_used, .ref a_lacks, .ref a_candles, .ref a_masses, .ref a_owing, .ref a_heldOn, .ref a_waits, .ref a_tape, .ref a_text, .int 0, .int 0, .int 0, .int (-1), .int 0, .ref a_statements, .ref a_taken, .ref a_sort, .ref a_first, .ref a_second, .int 0, .int 0])), (a_who, .inl (cI, 4380, .inl f1_8))] H := hP
        have hD : va_D A [(a_owed, .inl (cI, 40, .inl f_owed)), (a_guests, .inl (cI, 6, .inl f_guests)), (a_used, .inl (cI, 1095, .inl f_used)), (a_lacks, .inl (cI, 1095, .inl f_lacks)), (a_candles, .inl (cI, 1095, .inl f_candles)), (a_heldOn, .inl (cI, 365, .inl f_heldOn)), (h, .inr (11, [.int 0, .int 0, .int 0, .int 0, .int 0, .int 0, .int 0, .int 0, .int 0, .ref a_isPriest, .ref a_bars, .ref a_joined, .ref a_turns, .ref a_awayMonk, .ref a_awayFrom, .ref a_awayTo, .ref a_feastDay, .ref a_rank, .ref a_isWeekly, .ref a_isDouble, .ref a_giftDay, .ref a_giftFrom, .ref a_owed, .ref a_said, .ref a_spared, .ref a_leaveGift, .ref a_leaveFrom, .ref a_leaveTo, .ref a_lateDay, .ref a_lateOffice, .ref a_lateBy, .ref a_guests, .ref a_who, .ref a_used, .ref a_lacks, .ref a_candles, .ref a_masses, .ref a_owing, .ref a_heldOn, .ref a_waits, .ref a_tape, .ref a_text, .int 0, .int 0, .int 0, .int (-1), .int 0, .ref a_statements, .ref a_taken, .ref a_sort, .ref a_first, .ref a_second, .int 0, .int 0])), (a_who, .inl (cI, 4380, .inl f1_8))] := hD
        obtain ⟨x_9, ex_9⟩ : ∃ y : Int32, y = 1 + 1 := ⟨_, rfl⟩
        obtain rfl : x_9 = 2 := by rw [ex_9]; decide
        refine lv_iinc (v := 2) (lv' := [(2, .int 2), (1, .int 0), (0, .ref h)]) hx hb dX12_day_37 hl (k := 0) rfl (by decide) (by decide) rfl (fun ls hl => ?_)
        refine lv_goto (tgt := 19) hx hb dX12_day_40 (by decide) ?_
        refine lv_iload_n hx hb dX12_day_19 rfl (lv_at hl 0 rfl) ?_
        refine lv_iconst (v := 4) hx hb dX12_day_20 (by decide) ?_
        refine lv_icmp_ge (tgt := 43) hx hb dX12_day_21 (by decide) (fun c_10 => ?_) (fun c_10 => ?_)
        · exact absurd c_10 (by decide)
        · have tc_10 := t_nle c_10
          refine lv_aload_n hx hb dX12_day_24 rfl (lv_at hl 2 rfl) ?_
          refine lv_aload_n hx hb dX12_day_25 rfl (lv_at hl 2 rfl) ?_
          refine lv_iload_n hx hb dX12_day_26 rfl (lv_at hl 0 rfl) ?_
          refine lv_iload_n hx hb dX12_day_27 rfl (lv_at hl 1 rfl) ?_
          refine lv_iconst (v := (-1)) hx hb dX12_day_28 (by decide) ?_
          have hPc := hP.sub (ws' := [(h, .inr (11, [.int 0, .int 0, .int 0, .int 0, .int 0, .int 0, .int 0, .int 0, .int 0, .ref a_isPriest, .ref a_bars, .ref a_joined, .ref a_turns, .ref a_awayMonk, .ref a_awayFrom, .ref a_awayTo, .ref a_feastDay, .ref a_rank, .ref a_isWeekly, .ref a_isDouble, .ref a_giftDay, .ref a_giftFrom, .ref a_owed, .ref a_said, .ref a_spared, .ref a_leaveGift, .ref a_leaveFrom, .ref a_leaveTo, .ref a_lateDay, .ref a_lateOffice, .ref a_lateBy, .ref a_guests, .ref a_who, .ref a_used, .ref a_lacks, .ref a_candles, .ref a_masses, .ref a_owing, .ref a_heldOn, .ref a_waits, .ref a_tape, .ref a_text, .int 0, .int 0, .int 0, .int (-1), .int 0, .ref a_statements, .ref a_taken, .ref a_sort, .ref a_first, .ref a_second, .int 0, .int 0]))]) [6] rfl
          refine roV (As := [.int 2, .int 0, .int (-1)]) (rest := [.ref h]) S (m_nextFor  ) (cwV 3 hts gX12_day_X12_nextFor rfl rfl rfl (by decide +kernel) ⟨Nat.le_of_ble_eq_true rfl, Nat.le_of_ble_eq_true rfl⟩) hK hPc (va_recv hK.1 hPc (ci := 11) (q0 := 0) rfl rfl) rfl hl.1 rfl (Nat.le_of_ble_eq_true rfl) dX12_day_29 ⟨Nat.le_of_ble_eq_true rfl, Nat.le_of_ble_eq_true rfl⟩ (fun r_11 hw_11 => ?_)
          have hw_11 : r_11.toInt = -1 := hw_11
          refine lv_iload_n hx hb dX12_day_32 rfl (lv_at hl 0 rfl) ?_
          refine lv_iload_n hx hb dX12_day_33 rfl (lv_at hl 1 rfl) ?_
          have hPc := hP.sub (ws' := [(h, .inr (11, [.int 0, .int 0, .int 0, .int 0, .int 0, .int 0, .int 0, .int 0, .int 0, .ref a_isPriest, .ref a_bars, .ref a_joined, .ref a_turns, .ref a_awayMonk, .ref a_awayFrom, .ref a_awayTo, .ref a_feastDay, .ref a_rank, .ref a_isWeekly, .ref a_isDouble, .ref a_giftDay, .ref a_giftFrom, .ref a_owed, .ref a_said, .ref a_spared, .ref a_leaveGift, .ref a_leaveFrom, .ref a_leaveTo, .ref a_lateDay, .ref a_lateOffice, .ref a_lateBy, .ref a_guests, .ref a_who, .ref a_used, .ref a_lacks, .ref a_candles, .ref a_masses, .ref a_owing, .ref a_heldOn, .ref a_waits, .ref a_tape, .ref a_text, .int 0, .int 0, .int 0, .int (-1), .int 0, .ref a_statements, .ref a_taken, .ref a_sort, .ref a_first, .ref a_second, .int 0, .int 0])), (a_who, .inl (cI, 4380, .inl f1_8))]) [6, 7] rfl
          refine rwVv (As := [.int r_11, .int 2, .int 0]) (rest := []) (wc := [(h, .inr (11, [.int 0, .int 0, .int 0, .int 0, .int 0, .int 0, .int 0, .int 0, .int 0, .ref a_isPriest, .ref a_bars, .ref a_joined, .ref a_turns, .ref a_awayMonk, .ref a_awayFrom, .ref a_awayTo, .ref a_feastDay, .ref a_rank, .ref a_isWeekly, .ref a_isDouble, .ref a_giftDay, .ref a_giftFrom, .ref a_owed, .ref a_said, .ref a_spared, .ref a_leaveGift, .ref a_leaveFrom, .ref a_leaveTo, .ref a_lateDay, .ref a_lateOffice, .ref a_lateBy, .ref a_guests, .ref a_who, .ref a_used, .ref a_lacks, .ref a_candles, .ref a_masses, .ref a_owing, .ref a_heldOn, .ref a_waits, .ref a_tape, .ref a_text, .int 0, .int 0, .int 0, .int (-1), .int 0, .ref a_statements, .ref a_taken, .ref a_sort, .ref a_first, .ref a_second, .int 0, .int 0])), (a_who, .inl (cI, 4380, .inl f1_8))]) (wr := [(a_owed, .inl (cI, 40, .inl f_owed)), (a_guests, .inl (cI, 6, .inl f_guests)), (a_used, .inl (cI, 1095, .inl f_used)), (a_lacks, .inl (cI, 1095, .inl f_lacks)), (a_candles, .inl (cI, 1095, .inl f_candles)), (a_heldOn, .inl (cI, 365, .inl f_heldOn))]) S (m_has  (by omega) (by omega) (by omega) (by omega) (by omega)) (cwV 3 hts gX12_day_X12_has rfl rfl rfl (by decide +kernel) ⟨Nat.le_of_ble_eq_true rfl, Nat.le_of_ble_eq_true rfl⟩) hK hP hD hS hA [6, 7] [0, 1, 2, 3, 4, 5] rfl rfl (by decide) (by decide) (by decide) (va_recv hK.1 hPc (ci := 11) (q0 := 0) rfl rfl) rfl hl.1 rfl (Nat.le_of_ble_eq_true rfl) dX12_day_34 ⟨Nat.le_of_ble_eq_true rfl, Nat.le_of_ble_eq_true rfl⟩ (fun u_12 H locs hw_12 hP hD hS => ?_)
          obtain ⟨f1_12, rfl⟩ : ∃ z, z = u_12 := ⟨_, rfl⟩
          have hw_12 : True := hw_12
          have hP : va_P D vwCl [(a_owed, .inl (cI, 40, .inl f_owed)), (a_guests, .inl (cI, 6, .inl f_guests)), (a_used, .inl (cI, 1095, .inl f_used)), (a_lacks, .inl (cI, 1095, .inl f_lacks)), (a_candles, .inl (cI, 1095, .inl f_candles)), (a_heldOn, .inl (cI, 365, .inl f_heldOn)), (h, .inr (11, [.int 0, .int 0, .int 0, .int 0, .int 0, .int 0, .int 0, .int 0, .int 0, .ref a_isPriest, .ref a_bars, .ref a_joined, .ref a_turns, .ref a_awayMonk, .ref a_awayFrom, .ref a_awayTo, .ref a_feastDay, .ref a_rank, .ref a_isWeekly, .ref a_isDouble, .ref a_giftDay, .ref a_giftFrom, .ref a_owed, .ref a_said, .ref a_spared, .ref a_leaveGift, .ref a_leaveFrom, .ref a_leaveTo, .ref a_lateDay, .ref a_lateOffice, .ref a_lateBy, .ref a_guests, .ref a_who, .ref a_used, .ref a_lacks, .ref a_candles, .ref a_masses, .ref a_owing, .ref a_heldOn, .ref a_waits, .ref a_tape, .ref a_text, .int 0, .int 0, .int 0, .int (-1), .int 0, .ref a_statements, .ref a_taken, .ref a_sort, .ref a_first, .ref a_second, .int 0, .int 0])), (a_who, .inl (cI, 4380, .inl f1_12))] H := hP
          have hD : va_D A [(a_owed, .inl (cI, 40, .inl f_owed)), (a_guests, .inl (cI, 6, .inl f_guests)), (a_used, .inl (cI, 1095, .inl f_used)), (a_lacks, .inl (cI, 1095, .inl f_lacks)), (a_candles, .inl (cI, 1095, .inl f_candles)), (a_heldOn, .inl (cI, 365, .inl f_heldOn)), (h, .inr (11, [.int 0, .int 0, .int 0, .int 0, .int 0, .int 0, .int 0, .int 0, .int 0, .ref a_isPriest, .ref a_bars, .ref a_joined, .ref a_turns, .ref a_awayMonk, .ref a_awayFrom, .ref a_awayTo, .ref a_feastDay, .ref a_rank, .ref a_isWeekly, .ref a_isDouble, .ref a_giftDay, .ref a_giftFrom, .ref a_owed, .ref a_said, .ref a_spared, .ref a_leaveGift, .ref a_leaveFrom, .ref a_leaveTo, .ref a_lateDay, .ref a_lateOffice, .ref a_lateBy, .ref a_guests, .ref a_who, .ref a_used, .ref a_lacks, .ref a_candles, .ref a_masses, .ref a_owing, .ref a_heldOn, .ref a_waits, .ref a_tape, .ref a_text, .int 0, .int 0, .int 0, .int (-1), .int 0, .ref a_statements, .ref a_taken, .ref a_sort, .ref a_first, .ref a_second, .int 0, .int 0])), (a_who, .inl (cI, 4380, .inl f1_12))] := hD
          obtain ⟨x_13, ex_13⟩ : ∃ y : Int32, y = 2 + 1 := ⟨_, rfl⟩
          obtain rfl : x_13 = 3 := by rw [ex_13]; decide
          refine lv_iinc (v := 3) (lv' := [(2, .int 3), (1, .int 0), (0, .ref h)]) hx hb dX12_day_37 hl (k := 0) rfl (by decide) (by decide) rfl (fun ls hl => ?_)
          refine lv_goto (tgt := 19) hx hb dX12_day_40 (by decide) ?_
          refine lv_iload_n hx hb dX12_day_19 rfl (lv_at hl 0 rfl) ?_
          refine lv_iconst (v := 4) hx hb dX12_day_20 (by decide) ?_
          refine lv_icmp_ge (tgt := 43) hx hb dX12_day_21 (by decide) (fun c_14 => ?_) (fun c_14 => ?_)
          · exact absurd c_14 (by decide)
          · have tc_14 := t_nle c_14
            refine lv_aload_n hx hb dX12_day_24 rfl (lv_at hl 2 rfl) ?_
            refine lv_aload_n hx hb dX12_day_25 rfl (lv_at hl 2 rfl) ?_
            refine lv_iload_n hx hb dX12_day_26 rfl (lv_at hl 0 rfl) ?_
            refine lv_iload_n hx hb dX12_day_27 rfl (lv_at hl 1 rfl) ?_
            refine lv_iconst (v := (-1)) hx hb dX12_day_28 (by decide) ?_
            have hPc := hP.sub (ws' := [(h, .inr (11, [.int 0, .int 0, .int 0, .int 0, .int 0, .int 0, .int 0, .int 0, .int 0, .ref a_isPriest, .ref a_bars, .ref a_joined, .ref a_turns, .ref a_awayMonk, .ref a_awayFrom, .ref a_awayTo, .ref a_feastDay, .ref a_rank, .ref a_isWeekly, .ref a_isDouble, .ref a_giftDay, .ref a_giftFrom, .ref a_owed, .ref a_said, .ref a_spared, .ref a_leaveGift, .ref a_leaveFrom, .ref a_leaveTo, .ref a_lateDay, .ref a_lateOffice, .ref a_lateBy, .ref a_guests, .ref a_who, .ref a_used, .ref a_lacks, .ref a_candles, .ref a_masses, .ref a_owing, .ref a_heldOn, .ref a_waits, .ref a_tape, .ref a_text, .int 0, .int 0, .int 0, .int (-1), .int 0, .ref a_statements, .ref a_taken, .ref a_sort, .ref a_first, .ref a_second, .int 0, .int 0]))]) [6] rfl
            refine roV (As := [.int 3, .int 0, .int (-1)]) (rest := [.ref h]) S (m_nextFor  ) (cwV 3 hts gX12_day_X12_nextFor rfl rfl rfl (by decide +kernel) ⟨Nat.le_of_ble_eq_true rfl, Nat.le_of_ble_eq_true rfl⟩) hK hPc (va_recv hK.1 hPc (ci := 11) (q0 := 0) rfl rfl) rfl hl.1 rfl (Nat.le_of_ble_eq_true rfl) dX12_day_29 ⟨Nat.le_of_ble_eq_true rfl, Nat.le_of_ble_eq_true rfl⟩ (fun r_15 hw_15 => ?_)
            have hw_15 : r_15.toInt = -1 := hw_15
            refine lv_iload_n hx hb dX12_day_32 rfl (lv_at hl 0 rfl) ?_
            refine lv_iload_n hx hb dX12_day_33 rfl (lv_at hl 1 rfl) ?_
            have hPc := hP.sub (ws' := [(h, .inr (11, [.int 0, .int 0, .int 0, .int 0, .int 0, .int 0, .int 0, .int 0, .int 0, .ref a_isPriest, .ref a_bars, .ref a_joined, .ref a_turns, .ref a_awayMonk, .ref a_awayFrom, .ref a_awayTo, .ref a_feastDay, .ref a_rank, .ref a_isWeekly, .ref a_isDouble, .ref a_giftDay, .ref a_giftFrom, .ref a_owed, .ref a_said, .ref a_spared, .ref a_leaveGift, .ref a_leaveFrom, .ref a_leaveTo, .ref a_lateDay, .ref a_lateOffice, .ref a_lateBy, .ref a_guests, .ref a_who, .ref a_used, .ref a_lacks, .ref a_candles, .ref a_masses, .ref a_owing, .ref a_heldOn, .ref a_waits, .ref a_tape, .ref a_text, .int 0, .int 0, .int 0, .int (-1), .int 0, .ref a_statements, .ref a_taken, .ref a_sort, .ref a_first, .ref a_second, .int 0, .int 0])), (a_who, .inl (cI, 4380, .inl f1_12))]) [6, 7] rfl
            refine rwVv (As := [.int r_15, .int 3, .int 0]) (rest := []) (wc := [(h, .inr (11, [.int 0, .int 0, .int 0, .int 0, .int 0, .int 0, .int 0, .int 0, .int 0, .ref a_isPriest, .ref a_bars, .ref a_joined, .ref a_turns, .ref a_awayMonk, .ref a_awayFrom, .ref a_awayTo, .ref a_feastDay, .ref a_rank, .ref a_isWeekly, .ref a_isDouble, .ref a_giftDay, .ref a_giftFrom, .ref a_owed, .ref a_said, .ref a_spared, .ref a_leaveGift, .ref a_leaveFrom, .ref a_leaveTo, .ref a_lateDay, .ref a_lateOffice, .ref a_lateBy, .ref a_guests, .ref a_who, .ref a_used, .ref a_lacks, .ref a_candles, .ref a_masses, .ref a_owing, .ref a_heldOn, .ref a_waits, .ref a_tape, .ref a_text, .int 0, .int 0, .int 0, .int (-1), .int 0, .ref a_statements, .ref a_taken, .ref a_sort, .ref a_first, .ref a_second, .int 0, .int 0])), (a_who, .inl (cI, 4380, .inl f1_12))]) (wr := [(a_owed, .inl (cI, 40, .inl f_owed)), (a_guests, .inl (cI, 6, .inl f_guests)), (a_used, .inl (cI, 1095, .inl f_used)), (a_lacks, .inl (cI, 1095, .inl f_lacks)), (a_candles, .inl (cI, 1095, .inl f_candles)), (a_heldOn, .inl (cI, 365, .inl f_heldOn))]) S (m_has  (by omega) (by omega) (by omega) (by omega) (by omega)) (cwV 3 hts gX12_day_X12_has rfl rfl rfl (by decide +kernel) ⟨Nat.le_of_ble_eq_true rfl, Nat.le_of_ble_eq_true rfl⟩) hK hP hD hS hA [6, 7] [0, 1, 2, 3, 4, 5] rfl rfl (by decide) (by decide) (by decide) (va_recv hK.1 hPc (ci := 11) (q0 := 0) rfl rfl) rfl hl.1 rfl (Nat.le_of_ble_eq_true rfl) dX12_day_34 ⟨Nat.le_of_ble_eq_true rfl, Nat.le_of_ble_eq_true rfl⟩ (fun u_16 H locs hw_16 hP hD hS => ?_)
            obtain ⟨f1_16, rfl⟩ : ∃ z, z = u_16 := ⟨_, rfl⟩
            have hw_16 : True := hw_16
            have hP : va_P D vwCl [(a_owed, .inl (cI, 40, .inl f_owed)), (a_guests, .inl (cI, 6, .inl f_guests)), (a_used, .inl (cI, 1095, .inl f_used)), (a_lacks, .inl (cI, 1095, .inl f_lacks)), (a_candles, .inl (cI, 1095, .inl f_candles)), (a_heldOn, .inl (cI, 365, .inl f_heldOn)), (h, .inr (11, [.int 0, .int 0, .int 0, .int 0, .int 0, .int 0, .int 0, .int 0, .int 0, .ref a_isPriest, .ref a_bars, .ref a_joined, .ref a_turns, .ref a_awayMonk, .ref a_awayFrom, .ref a_awayTo, .ref a_feastDay, .ref a_rank, .ref a_isWeekly, .ref a_isDouble, .ref a_giftDay, .ref a_giftFrom, .ref a_owed, .ref a_said, .ref a_spared, .ref a_leaveGift, .ref a_leaveFrom, .ref a_leaveTo, .ref a_lateDay, .ref a_lateOffice, .ref a_lateBy, .ref a_guests, .ref a_who, .ref a_used, .ref a_lacks, .ref a_candles, .ref a_masses, .ref a_owing, .ref a_heldOn, .ref a_waits, .ref a_tape, .ref a_text, .int 0, .int 0, .int 0, .int (-1), .int 0, .ref a_statements, .ref a_taken, .ref a_sort, .ref a_first, .ref a_second, .int 0, .int 0])), (a_who, .inl (cI, 4380, .inl f1_16))] H := hP
            have hD : va_D A [(a_owed, .inl (cI, 40, .inl f_owed)), (a_guests, .inl (cI, 6, .inl f_guests)), (a_used, .inl (cI, 1095, .inl f_used)), (a_lacks, .inl (cI, 1095, .inl f_lacks)), (a_candles, .inl (cI, 1095, .inl f_candles)), (a_heldOn, .inl (cI, 365, .inl f_heldOn)), (h, .inr (11, [.int 0, .int 0, .int 0, .int 0, .int 0, .int 0, .int 0, .int 0, .int 0, .ref a_isPriest, .ref a_bars, .ref a_joined, .ref a_turns, .ref a_awayMonk, .ref a_awayFrom, .ref a_awayTo, .ref a_feastDay, .ref a_rank, .ref a_isWeekly, .ref a_isDouble, .ref a_giftDay, .ref a_giftFrom, .ref a_owed, .ref a_said, .ref a_spared, .ref a_leaveGift, .ref a_leaveFrom, .ref a_leaveTo, .ref a_lateDay, .ref a_lateOffice, .ref a_lateBy, .ref a_guests, .ref a_who, .ref a_used, .ref a_lacks, .ref a_candles, .ref a_masses, .ref a_owing, .ref a_heldOn, .ref a_waits, .ref a_tape, .ref a_text, .int 0, .int 0, .int 0, .int (-1), .int 0, .ref a_statements, .ref a_taken, .ref a_sort, .ref a_first, .ref a_second, .int 0, .int 0])), (a_who, .inl (cI, 4380, .inl f1_16))] := hD
            obtain ⟨x_17, ex_17⟩ : ∃ y : Int32, y = 3 + 1 := ⟨_, rfl⟩
            obtain rfl : x_17 = 4 := by rw [ex_17]; decide
            refine lv_iinc (v := 4) (lv' := [(2, .int 4), (1, .int 0), (0, .ref h)]) hx hb dX12_day_37 hl (k := 0) rfl (by decide) (by decide) rfl (fun ls hl => ?_)
            refine lv_goto (tgt := 19) hx hb dX12_day_40 (by decide) ?_
            refine lv_iload_n hx hb dX12_day_19 rfl (lv_at hl 0 rfl) ?_
            refine lv_iconst (v := 4) hx hb dX12_day_20 (by decide) ?_
            refine lv_icmp_ge (tgt := 43) hx hb dX12_day_21 (by decide) (fun c_18 => ?_) (fun c_18 => ?_)
            · have tc_18 := t_le c_18
              refine lv_aload_n hx hb dX12_day_43 rfl (lv_at hl 2 rfl) ?_
              refine lv_iload_n hx hb dX12_day_44 rfl (lv_at hl 1 rfl) ?_
              have hPc := hP.sub (ws' := [(h, .inr (11, [.int 0, .int 0, .int 0, .int 0, .int 0, .int 0, .int 0, .int 0, .int 0, .ref a_isPriest, .ref a_bars, .ref a_joined, .ref a_turns, .ref a_awayMonk, .ref a_awayFrom, .ref a_awayTo, .ref a_feastDay, .ref a_rank, .ref a_isWeekly, .ref a_isDouble, .ref a_giftDay, .ref a_giftFrom, .ref a_owed, .ref a_said, .ref a_spared, .ref a_leaveGift, .ref a_leaveFrom, .ref a_leaveTo, .ref a_lateDay, .ref a_lateOffice, .ref a_lateBy, .ref a_guests, .ref a_who, .ref a_used, .ref a_lacks, .ref a_candles, .ref a_masses, .ref a_owing, .ref a_heldOn, .ref a_waits, .ref a_tape, .ref a_text, .int 0, .int 0, .int 0, .int (-1), .int 0, .ref a_statements, .ref a_taken, .ref a_sort, .ref a_first, .ref a_second, .int 0, .int 0])), (a_owed, .inl (cI, 40, .inl f_owed))]) [6, 0] rfl
              refine rwVv (As := [.int 0]) (rest := []) (wc := [(h, .inr (11, [.int 0, .int 0, .int 0, .int 0, .int 0, .int 0, .int 0, .int 0, .int 0, .ref a_isPriest, .ref a_bars, .ref a_joined, .ref a_turns, .ref a_awayMonk, .ref a_awayFrom, .ref a_awayTo, .ref a_feastDay, .ref a_rank, .ref a_isWeekly, .ref a_isDouble, .ref a_giftDay, .ref a_giftFrom, .ref a_owed, .ref a_said, .ref a_spared, .ref a_leaveGift, .ref a_leaveFrom, .ref a_leaveTo, .ref a_lateDay, .ref a_lateOffice, .ref a_lateBy, .ref a_guests, .ref a_who, .ref a_used, .ref a_lacks, .ref a_candles, .ref a_masses, .ref a_owing, .ref a_heldOn, .ref a_waits, .ref a_tape, .ref a_text, .int 0, .int 0, .int 0, .int (-1), .int 0, .ref a_statements, .ref a_taken, .ref a_sort, .ref a_first, .ref a_second, .int 0, .int 0])), (a_owed, .inl (cI, 40, .inl f_owed))]) (wr := [(a_guests, .inl (cI, 6, .inl f_guests)), (a_used, .inl (cI, 1095, .inl f_used)), (a_lacks, .inl (cI, 1095, .inl f_lacks)), (a_candles, .inl (cI, 1095, .inl f_candles)), (a_heldOn, .inl (cI, 365, .inl f_heldOn)), (a_who, .inl (cI, 4380, .inl f1_16))]) S (m_owes  ) (cwV 1 hts gX12_day_X12_owes rfl rfl rfl (by decide +kernel) ⟨Nat.le_of_ble_eq_true rfl, Nat.le_of_ble_eq_true rfl⟩) hK hP hD hS hA [6, 0] [1, 2, 3, 4, 5, 7] rfl rfl (by decide) (by decide) (by decide) (va_recv hK.1 hPc (ci := 11) (q0 := 0) rfl rfl) rfl hl.1 rfl (Nat.le_of_ble_eq_true rfl) dX12_day_45 ⟨Nat.le_of_ble_eq_true rfl, Nat.le_of_ble_eq_true rfl⟩ (fun u_19 H locs hw_19 hP hD hS => ?_)
              obtain ⟨f1_19, rfl⟩ : ∃ z, z = u_19 := ⟨_, rfl⟩
              have hw_19 : True := hw_19
              have hP : va_P D vwCl [(a_guests, .inl (cI, 6, .inl f_guests)), (a_used, .inl (cI, 1095, .inl f_used)), (a_lacks, .inl (cI, 1095, .inl f_lacks)), (a_candles, .inl (cI, 1095, .inl f_candles)), (a_heldOn, .inl (cI, 365, .inl f_heldOn)), (a_who, .inl (cI, 4380, .inl f1_16)), (h, .inr (11, [.int 0, .int 0, .int 0, .int 0, .int 0, .int 0, .int 0, .int 0, .int 0, .ref a_isPriest, .ref a_bars, .ref a_joined, .ref a_turns, .ref a_awayMonk, .ref a_awayFrom, .ref a_awayTo, .ref a_feastDay, .ref a_rank, .ref a_isWeekly, .ref a_isDouble, .ref a_giftDay, .ref a_giftFrom, .ref a_owed, .ref a_said, .ref a_spared, .ref a_leaveGift, .ref a_leaveFrom, .ref a_leaveTo, .ref a_lateDay, .ref a_lateOffice, .ref a_lateBy, .ref a_guests, .ref a_who, .ref a_used, .ref a_lacks, .ref a_candles, .ref a_masses, .ref a_owing, .ref a_heldOn, .ref a_waits, .ref a_tape, .ref a_text, .int 0, .int 0, .int 0, .int (-1), .int 0, .ref a_statements, .ref a_taken, .ref a_sort, .ref a_first, .ref a_second, .int 0, .int 0])), (a_owed, .inl (cI, 40, .inl f1_19))] H := hP
              have hD : va_D A [(a_guests, .inl (cI, 6, .inl f_guests)), (a_used, .inl (cI, 1095, .inl f_used)), (a_lacks, .inl (cI, 1095, .inl f_lacks)), (a_candles, .inl (cI, 1095, .inl f_candles)), (a_heldOn, .inl (cI, 365, .inl f_heldOn)), (a_who, .inl (cI, 4380, .inl f1_16)), (h, .inr (11, [.int 0, .int 0, .int 0, .int 0, .int 0, .int 0, .int 0, .int 0, .int 0, .ref a_isPriest, .ref a_bars, .ref a_joined, .ref a_turns, .ref a_awayMonk, .ref a_awayFrom, .ref a_awayTo, .ref a_feastDay, .ref a_rank, .ref a_isWeekly, .ref a_isDouble, .ref a_giftDay, .ref a_giftFrom, .ref a_owed, .ref a_said, .ref a_spared, .ref a_leaveGift, .ref a_leaveFrom, .ref a_leaveTo, .ref a_lateDay, .ref a_lateOffice, .ref a_lateBy, .ref a_guests, .ref a_who, .ref a_used, .ref a_lacks, .ref a_candles, .ref a_masses, .ref a_owing, .ref a_heldOn, .ref a_waits, .ref a_tape, .ref a_text, .int 0, .int 0, .int 0, .int (-1), .int 0, .ref a_statements, .ref a_taken, .ref a_sort, .ref a_first, .ref a_second, .int 0, .int 0])), (a_owed, .inl (cI, 40, .inl f1_19))] := hD
              refine lv_iconst (v := 0) hx hb dX12_day_48 (by decide) ?_
              refine lv_istore_n (lv' := [(2, .int 0), (1, .int 0), (0, .ref h)]) hx hb dX12_day_49 rfl hl (by decide) rfl (fun ls hl => ?_)
              refine lv_iload_n hx hb dX12_day_50 rfl (lv_at hl 0 rfl) ?_
              refine lv_aload_n hx hb dX12_day_51 rfl (lv_at hl 2 rfl) ?_
              refine va_get (D := D) (ci := 11) (v := .int 0) (C := RX12) (T := TX12) (N := 54) hx hb hts in_q_day_X12 hown hK.1 hP 6 rfl rfl 1 (by decide) lk1 (fun _ h9 => h9) rfl dX12_day_52 ?_
              refine lv_icmp_ge (tgt := 87) hx hb dX12_day_55 (by decide) (fun c_20 => ?_) (fun c_20 => ?_)
              · have tc_20 := t_le c_20
                refine lv_iconst (v := 0) hx hb dX12_day_87 (by decide) ?_
                refine lv_istore_n (lv' := [(2, .int 0), (1, .int 0), (0, .ref h)]) hx hb dX12_day_88 rfl hl (by decide) rfl (fun ls hl => ?_)
                refine lv_iload_n hx hb dX12_day_89 rfl (lv_at hl 0 rfl) ?_
                refine lv_aload_n hx hb dX12_day_90 rfl (lv_at hl 2 rfl) ?_
                refine va_get (D := D) (ci := 11) (v := .int 0) (C := RX12) (T := TX12) (N := 54) hx hb hts in_q_day_X12 hown hK.1 hP 6 rfl rfl 4 (by decide) lk2 (fun _ h9 => h9) rfl dX12_day_91 ?_
                refine lv_icmp_ge (tgt := 118) hx hb dX12_day_94 (by decide) (fun c_21 => ?_) (fun c_21 => ?_)
                · have tc_21 := t_le c_21
                  refine lv_aload_n hx hb dX12_day_118 rfl (lv_at hl 2 rfl) ?_
                  refine va_get (D := D) (ci := 11) (v := .int 0) (C := RX12) (T := TX12) (N := 54) hx hb hts in_q_day_X12 hown hK.1 hP 6 rfl rfl 1 (by decide) lk1 (fun _ h9 => h9) rfl dX12_day_119 ?_
                  refine lv_aload_n hx hb dX12_day_122 rfl (lv_at hl 2 rfl) ?_
                  refine lv_iload_n hx hb dX12_day_123 rfl (lv_at hl 1 rfl) ?_
                  have hPc := hP.sub (ws' := [(h, .inr (11, [.int 0, .int 0, .int 0, .int 0, .int 0, .int 0, .int 0, .int 0, .int 0, .ref a_isPriest, .ref a_bars, .ref a_joined, .ref a_turns, .ref a_awayMonk, .ref a_awayFrom, .ref a_awayTo, .ref a_feastDay, .ref a_rank, .ref a_isWeekly, .ref a_isDouble, .ref a_giftDay, .ref a_giftFrom, .ref a_owed, .ref a_said, .ref a_spared, .ref a_leaveGift, .ref a_leaveFrom, .ref a_leaveTo, .ref a_lateDay, .ref a_lateOffice, .ref a_lateBy, .ref a_guests, .ref a_who, .ref a_used, .ref a_lacks, .ref a_candles, .ref a_masses, .ref a_owing, .ref a_heldOn, .ref a_waits, .ref a_tape, .ref a_text, .int 0, .int 0, .int 0, .int (-1), .int 0, .ref a_statements, .ref a_taken, .ref a_sort, .ref a_first, .ref a_second, .int 0, .int 0])), (a_heldOn, .inl (cI, 365, .inl f_heldOn))]) [6, 4] rfl
                  refine rwV (As := [.int 0]) (rest := [.int 0]) (wc := [(h, .inr (11, [.int 0, .int 0, .int 0, .int 0, .int 0, .int 0, .int 0, .int 0, .int 0, .ref a_isPriest, .ref a_bars, .ref a_joined, .ref a_turns, .ref a_awayMonk, .ref a_awayFrom, .ref a_awayTo, .ref a_feastDay, .ref a_rank, .ref a_isWeekly, .ref a_isDouble, .ref a_giftDay, .ref a_giftFrom, .ref a_owed, .ref a_said, .ref a_spared, .ref a_leaveGift, .ref a_leaveFrom, .ref a_leaveTo, .ref a_lateDay, .ref a_lateOffice, .ref a_lateBy, .ref a_guests, .ref a_who, .ref a_used, .ref a_lacks, .ref a_candles, .ref a_masses, .ref a_owing, .ref a_heldOn, .ref a_waits, .ref a_tape, .ref a_text, .int 0, .int 0, .int 0, .int (-1), .int 0, .ref a_statements, .ref a_taken, .ref a_sort, .ref a_first, .ref a_second, .int 0, .int 0])), (a_heldOn, .inl (cI, 365, .inl f_heldOn))]) (wr := [(a_guests, .inl (cI, 6, .inl f_guests)), (a_used, .inl (cI, 1095, .inl f_used)), (a_lacks, .inl (cI, 1095, .inl f_lacks)), (a_candles, .inl (cI, 1095, .inl f_candles)), (a_who, .inl (cI, 4380, .inl f1_16)), (a_owed, .inl (cI, 40, .inl f1_19))]) S (m_headFeed  ) (cwV 1 hts gX12_day_X12_headFeed rfl rfl rfl (by decide +kernel) ⟨Nat.le_of_ble_eq_true rfl, Nat.le_of_ble_eq_true rfl⟩) hK hP hD hS hA [6, 4] [0, 1, 2, 3, 5, 7] rfl rfl (by decide) (by decide) (by decide) (va_recv hK.1 hPc (ci := 11) (q0 := 0) rfl rfl) rfl hl.1 rfl (Nat.le_of_ble_eq_true rfl) dX12_day_124 ⟨Nat.le_of_ble_eq_true rfl, Nat.le_of_ble_eq_true rfl⟩ (fun r_22 u_22 H locs hw_22 hP hD hS => ?_)
                  obtain ⟨g1_22, rfl⟩ : ∃ z, z = u_22 := ⟨_, rfl⟩
                  have hw_22 : r_22.toInt = 2 := hw_22
                  have hP : va_P D vwCl [(a_guests, .inl (cI, 6, .inl f_guests)), (a_used, .inl (cI, 1095, .inl f_used)), (a_lacks, .inl (cI, 1095, .inl f_lacks)), (a_candles, .inl (cI, 1095, .inl f_candles)), (a_who, .inl (cI, 4380, .inl f1_16)), (a_owed, .inl (cI, 40, .inl f1_19)), (h, .inr (11, [.int 0, .int 0, .int 0, .int 0, .int 0, .int 0, .int 0, .int 0, .int 0, .ref a_isPriest, .ref a_bars, .ref a_joined, .ref a_turns, .ref a_awayMonk, .ref a_awayFrom, .ref a_awayTo, .ref a_feastDay, .ref a_rank, .ref a_isWeekly, .ref a_isDouble, .ref a_giftDay, .ref a_giftFrom, .ref a_owed, .ref a_said, .ref a_spared, .ref a_leaveGift, .ref a_leaveFrom, .ref a_leaveTo, .ref a_lateDay, .ref a_lateOffice, .ref a_lateBy, .ref a_guests, .ref a_who, .ref a_used, .ref a_lacks, .ref a_candles, .ref a_masses, .ref a_owing, .ref a_heldOn, .ref a_waits, .ref a_tape, .ref a_text, .int 0, .int 0, .int 0, .int (-1), .int 0, .ref a_statements, .ref a_taken, .ref a_sort, .ref a_first, .ref a_second, .int 0, .int 0])), (a_heldOn, .inl (cI, 365, .inl g1_22))] H := hP
                  have hD : va_D A [(a_guests, .inl (cI, 6, .inl f_guests)), (a_used, .inl (cI, 1095, .inl f_used)), (a_lacks, .inl (cI, 1095, .inl f_lacks)), (a_candles, .inl (cI, 1095, .inl f_candles)), (a_who, .inl (cI, 4380, .inl f1_16)), (a_owed, .inl (cI, 40, .inl f1_19)), (h, .inr (11, [.int 0, .int 0, .int 0, .int 0, .int 0, .int 0, .int 0, .int 0, .int 0, .ref a_isPriest, .ref a_bars, .ref a_joined, .ref a_turns, .ref a_awayMonk, .ref a_awayFrom, .ref a_awayTo, .ref a_feastDay, .ref a_rank, .ref a_isWeekly, .ref a_isDouble, .ref a_giftDay, .ref a_giftFrom, .ref a_owed, .ref a_said, .ref a_spared, .ref a_leaveGift, .ref a_leaveFrom, .ref a_leaveTo, .ref a_lateDay, .ref a_lateOffice, .ref a_lateBy, .ref a_guests, .ref a_who, .ref a_used, .ref a_lacks, .ref a_candles, .ref a_masses, .ref a_owing, .ref a_heldOn, .ref a_waits, .ref a_tape, .ref a_text, .int 0, .int 0, .int 0, .int (-1), .int 0, .ref a_statements, .ref a_taken, .ref a_sort, .ref a_first, .ref a_second, .int 0, .int 0])), (a_heldOn, .inl (cI, 365, .inl g1_22))] := hD
                  refine lv_imul hx hb dX12_day_127 ?_
                  refine lv_topi (fun x_23 ex_23 => ?_)
                  refine lv_istore_n (lv' := [(2, .int x_23), (1, .int 0), (0, .ref h)]) hx hb dX12_day_128 rfl hl (by decide) rfl (fun ls hl => ?_)
                  refine lv_iconst (v := 0) hx hb dX12_day_129 (by decide) ?_
                  refine lv_istore_n (lv' := [(3, .int 0), (2, .int x_23), (1, .int 0), (0, .ref h)]) hx hb dX12_day_130 rfl hl (by decide) rfl (fun ls hl => ?_)
                  refine lv_iload_n hx hb dX12_day_131 rfl (lv_at hl 0 rfl) ?_
                  refine lv_bipush (v := 6) hx hb dX12_day_132 (by decide) ?_
                  refine lv_icmp_ge (tgt := 167) hx hb dX12_day_134 (by decide) (fun c_24 => ?_) (fun c_24 => ?_)
                  · exact absurd c_24 (by decide)
                  · have tc_24 := t_nle c_24
                    refine lv_iload_n hx hb dX12_day_137 rfl (lv_at hl 1 rfl) ?_
                    refine lv_aload_n hx hb dX12_day_138 rfl (lv_at hl 3 rfl) ?_
                    refine va_get (D := D) (ci := 11) (v := .ref a_guests) (C := RX12) (T := TX12) (N := 54) hx hb hts in_q_day_X12 hown hK.1 hP 6 rfl rfl 31 (by decide) lk3 (fun _ h9 => h9) rfl dX12_day_139 ?_
                    refine lv_iload_n hx hb dX12_day_142 rfl (lv_at hl 0 rfl) ?_
                    refine va_iald hx hb hK.1 hP 0 0 rfl rfl (t_in (by omega) (by omega)) dX12_day_143 ?_
                    refine lv_topi (fun y_25 ey_25 => ?_)
                    refine lv_aload_n hx hb dX12_day_144 rfl (lv_at hl 3 rfl) ?_
                    refine lv_iload_n hx hb dX12_day_145 rfl (lv_at hl 2 rfl) ?_
                    have hPc := hP.sub (ws' := [(h, .inr (11, [.int 0, .int 0, .int 0, .int 0, .int 0, .int 0, .int 0, .int 0, .int 0, .ref a_isPriest, .ref a_bars, .ref a_joined, .ref a_turns, .ref a_awayMonk, .ref a_awayFrom, .ref a_awayTo, .ref a_feastDay, .ref a_rank, .ref a_isWeekly, .ref a_isDouble, .ref a_giftDay, .ref a_giftFrom, .ref a_owed, .ref a_said, .ref a_spared, .ref a_leaveGift, .ref a_leaveFrom, .ref a_leaveTo, .ref a_lateDay, .ref a_lateOffice, .ref a_lateBy, .ref a_guests, .ref a_who, .ref a_used, .ref a_lacks, .ref a_candles, .ref a_masses, .ref a_owing, .ref a_heldOn, .ref a_waits, .ref a_tape, .ref a_text, .int 0, .int 0, .int 0, .int (-1), .int 0, .ref a_statements, .ref a_taken, .ref a_sort, .ref a_first, .ref a_second, .int 0, .int 0]))]) [6] rfl
                    refine roV (As := [.int 0]) (rest := [.int y_25, .int x_23]) S (m_guestFeed  ) (cwV 1 hts gX12_day_X12_guestFeed rfl rfl rfl (by decide +kernel) ⟨Nat.le_of_ble_eq_true rfl, Nat.le_of_ble_eq_true rfl⟩) hK hPc (va_recv hK.1 hPc (ci := 11) (q0 := 0) rfl rfl) rfl hl.1 rfl (Nat.le_of_ble_eq_true rfl) dX12_day_146 ⟨Nat.le_of_ble_eq_true rfl, Nat.le_of_ble_eq_true rfl⟩ (fun r_26 hw_26 => ?_)
                    have hw_26 : r_26.toInt = 3 := hw_26
                    refine lv_iload_n hx hb dX12_day_149 rfl (lv_at hl 0 rfl) ?_
                    refine lv_iadd hx hb dX12_day_150 ?_
                    refine lv_topi (fun x_27 ex_27 => ?_)
                    refine lv_imul hx hb dX12_day_151 ?_
                    refine lv_topi (fun x_28 ex_28 => ?_)
                    refine lv_iadd hx hb dX12_day_152 ?_
                    refine lv_topi (fun x_29 ex_29 => ?_)
                    refine lv_istore_n (lv' := [(2, .int x_29), (3, .int 0), (1, .int 0), (0, .ref h)]) hx hb dX12_day_153 rfl hl (by decide) rfl (fun ls hl => ?_)
                    refine lv_aload_n hx hb dX12_day_154 rfl (lv_at hl 3 rfl) ?_
                    refine va_get (D := D) (ci := 11) (v := .ref a_guests) (C := RX12) (T := TX12) (N := 54) hx hb hts in_q_day_X12 hown hK.1 hP 6 rfl rfl 31 (by decide) lk3 (fun _ h9 => h9) rfl dX12_day_155 ?_
                    refine lv_iload_n hx hb dX12_day_158 rfl (lv_at hl 1 rfl) ?_
                    refine lv_iconst (v := 0) hx hb dX12_day_159 (by decide) ?_
                    refine va_iast hx hb hK.1 hP hD hS 0 0 rfl rfl (t_in (by omega) (by omega)) dX12_day_160 (fun H locs hP hD hS => ?_)
                    obtain ⟨g_30, eg_30⟩ : ∃ z : Nat → Int32, z = upd f_guests ((0 : Int32).toNatClampNeg) 0 := ⟨_, rfl⟩
                    rw [← eg_30] at hP hD
                    have hP : va_P D vwCl [(a_guests, .inl (cI, 6, .inl g_30)), (a_used, .inl (cI, 1095, .inl f_used)), (a_lacks, .inl (cI, 1095, .inl f_lacks)), (a_candles, .inl (cI, 1095, .inl f_candles)), (a_who, .inl (cI, 4380, .inl f1_16)), (a_owed, .inl (cI, 40, .inl f1_19)), (h, .inr (11, [.int 0, .int 0, .int 0, .int 0, .int 0, .int 0, .int 0, .int 0, .int 0, .ref a_isPriest, .ref a_bars, .ref a_joined, .ref a_turns, .ref a_awayMonk, .ref a_awayFrom, .ref a_awayTo, .ref a_feastDay, .ref a_rank, .ref a_isWeekly, .ref a_isDouble, .ref a_giftDay, .ref a_giftFrom, .ref a_owed, .ref a_said, .ref a_spared, .ref a_leaveGift, .ref a_leaveFrom, .ref a_leaveTo, .ref a_lateDay, .ref a_lateOffice, .ref a_lateBy, .ref a_guests, .ref a_who, .ref a_used, .ref a_lacks, .ref a_candles, .ref a_masses, .ref a_owing, .ref a_heldOn, .ref a_waits, .ref a_tape, .ref a_text, .int 0, .int 0, .int 0, .int (-1), .int 0, .ref a_statements, .ref a_taken, .ref a_sort, .ref a_first, .ref a_second, .int 0, .int 0])), (a_heldOn, .inl (cI, 365, .inl g1_22))] H := hP
                    have hD : va_D A [(a_guests, .inl (cI, 6, .inl g_30)), (a_used, .inl (cI, 1095, .inl f_used)), (a_lacks, .inl (cI, 1095, .inl f_lacks)), (a_candles, .inl (cI, 1095, .inl f_candles)), (a_who, .inl (cI, 4380, .inl f1_16)), (a_owed, .inl (cI, 40, .inl f1_19)), (h, .inr (11, [.int 0, .int 0, .int 0, .int 0, .int 0, .int 0, .int 0, .int 0, .int 0, .ref a_isPriest, .ref a_bars, .ref a_joined, .ref a_turns, .ref a_awayMonk, .ref a_awayFrom, .ref a_awayTo, .ref a_feastDay, .ref a_rank, .ref a_isWeekly, .ref a_isDouble, .ref a_giftDay, .ref a_giftFrom, .ref a_owed, .ref a_said, .ref a_spared, .ref a_leaveGift, .ref a_leaveFrom, .ref a_leaveTo, .ref a_lateDay, .ref a_lateOffice, .ref a_lateBy, .ref a_guests, .ref a_who, .ref a_used, .ref a_lacks, .ref a_candles, .ref a_masses, .ref a_owing, .ref a_heldOn, .ref a_waits, .ref a_tape, .ref a_text, .int 0, .int 0, .int 0, .int (-1), .int 0, .ref a_statements, .ref a_taken, .ref a_sort, .ref a_first, .ref a_second, .int 0, .int 0])), (a_heldOn, .inl (cI, 365, .inl g1_22))] := hD
                    obtain ⟨x_31, ex_31⟩ : ∃ y : Int32, y = 0 + 1 := ⟨_, rfl⟩
                    obtain rfl : x_31 = 1 := by rw [ex_31]; decide
                    refine lv_iinc (v := 1) (lv' := [(3, .int 1), (2, .int x_29), (1, .int 0), (0, .ref h)]) hx hb dX12_day_161 hl (k := 1) rfl (by decide) (by decide) rfl (fun ls hl => ?_)
                    refine lv_goto (tgt := 131) hx hb dX12_day_164 (by decide) ?_
                    refine lv_iload_n hx hb dX12_day_131 rfl (lv_at hl 0 rfl) ?_
                    refine lv_bipush (v := 6) hx hb dX12_day_132 (by decide) ?_
                    refine lv_icmp_ge (tgt := 167) hx hb dX12_day_134 (by decide) (fun c_32 => ?_) (fun c_32 => ?_)
                    · exact absurd c_32 (by decide)
                    · have tc_32 := t_nle c_32
                      refine lv_iload_n hx hb dX12_day_137 rfl (lv_at hl 1 rfl) ?_
                      refine lv_aload_n hx hb dX12_day_138 rfl (lv_at hl 3 rfl) ?_
                      refine va_get (D := D) (ci := 11) (v := .ref a_guests) (C := RX12) (T := TX12) (N := 54) hx hb hts in_q_day_X12 hown hK.1 hP 6 rfl rfl 31 (by decide) lk3 (fun _ h9 => h9) rfl dX12_day_139 ?_
                      refine lv_iload_n hx hb dX12_day_142 rfl (lv_at hl 0 rfl) ?_
                      refine va_iald hx hb hK.1 hP 0 0 rfl rfl (t_in (by omega) (by omega)) dX12_day_143 ?_
                      refine lv_topi (fun y_33 ey_33 => ?_)
                      refine lv_aload_n hx hb dX12_day_144 rfl (lv_at hl 3 rfl) ?_
                      refine lv_iload_n hx hb dX12_day_145 rfl (lv_at hl 2 rfl) ?_
                      have hPc := hP.sub (ws' := [(h, .inr (11, [.int 0, .int 0, .int 0, .int 0, .int 0, .int 0, .int 0, .int 0, .int 0, .ref a_isPriest, .ref a_bars, .ref a_joined, .ref a_turns, .ref a_awayMonk, .ref a_awayFrom, .ref a_awayTo, .ref a_feastDay, .ref a_rank, .ref a_isWeekly, .ref a_isDouble, .ref a_giftDay, .ref a_giftFrom, .ref a_owed, .ref a_said, .ref a_spared, .ref a_leaveGift, .ref a_leaveFrom, .ref a_leaveTo, .ref a_lateDay, .ref a_lateOffice, .ref a_lateBy, .ref a_guests, .ref a_who, .ref a_used, .ref a_lacks, .ref a_candles, .ref a_masses, .ref a_owing, .ref a_heldOn, .ref a_waits, .ref a_tape, .ref a_text, .int 0, .int 0, .int 0, .int (-1), .int 0, .ref a_statements, .ref a_taken, .ref a_sort, .ref a_first, .ref a_second, .int 0, .int 0]))]) [6] rfl
                      refine roV (As := [.int 0]) (rest := [.int y_33, .int x_29]) S (m_guestFeed  ) (cwV 1 hts gX12_day_X12_guestFeed rfl rfl rfl (by decide +kernel) ⟨Nat.le_of_ble_eq_true rfl, Nat.le_of_ble_eq_true rfl⟩) hK hPc (va_recv hK.1 hPc (ci := 11) (q0 := 0) rfl rfl) rfl hl.1 rfl (Nat.le_of_ble_eq_true rfl) dX12_day_146 ⟨Nat.le_of_ble_eq_true rfl, Nat.le_of_ble_eq_true rfl⟩ (fun r_34 hw_34 => ?_)
                      have hw_34 : r_34.toInt = 3 := hw_34
                      refine lv_iload_n hx hb dX12_day_149 rfl (lv_at hl 0 rfl) ?_
                      refine lv_iadd hx hb dX12_day_150 ?_
                      refine lv_topi (fun x_35 ex_35 => ?_)
                      refine lv_imul hx hb dX12_day_151 ?_
                      refine lv_topi (fun x_36 ex_36 => ?_)
                      refine lv_iadd hx hb dX12_day_152 ?_
                      refine lv_topi (fun x_37 ex_37 => ?_)
                      refine lv_istore_n (lv' := [(2, .int x_37), (3, .int 1), (1, .int 0), (0, .ref h)]) hx hb dX12_day_153 rfl hl (by decide) rfl (fun ls hl => ?_)
                      refine lv_aload_n hx hb dX12_day_154 rfl (lv_at hl 3 rfl) ?_
                      refine va_get (D := D) (ci := 11) (v := .ref a_guests) (C := RX12) (T := TX12) (N := 54) hx hb hts in_q_day_X12 hown hK.1 hP 6 rfl rfl 31 (by decide) lk3 (fun _ h9 => h9) rfl dX12_day_155 ?_
                      refine lv_iload_n hx hb dX12_day_158 rfl (lv_at hl 1 rfl) ?_
                      refine lv_iconst (v := 0) hx hb dX12_day_159 (by decide) ?_
                      refine va_iast hx hb hK.1 hP hD hS 0 0 rfl rfl (t_in (by omega) (by omega)) dX12_day_160 (fun H locs hP hD hS => ?_)
                      obtain ⟨g_38, eg_38⟩ : ∃ z : Nat → Int32, z = upd g_30 ((1 : Int32).toNatClampNeg) 0 := ⟨_, rfl⟩
                      rw [← eg_38] at hP hD
                      have hP : va_P D vwCl [(a_guests, .inl (cI, 6, .inl g_38)), (a_used, .inl (cI, 1095, .inl f_used)), (a_lacks, .inl (cI, 1095, .inl f_lacks)), (a_candles, .inl (cI, 1095, .inl f_candles)), (a_who, .inl (cI, 4380, .inl f1_16)), (a_owed, .inl (cI, 40, .inl f1_19)), (h, .inr (11, [.int 0, .int 0, .int 0, .int 0, .int 0, .int 0, .int 0, .int 0, .int 0, .ref a_isPriest, .ref a_bars, .ref a_joined, .ref a_turns, .ref a_awayMonk, .ref a_awayFrom, .ref a_awayTo, .ref a_feastDay, .ref a_rank, .ref a_isWeekly, .ref a_isDouble, .ref a_giftDay, .ref a_giftFrom, .ref a_owed, .ref a_said, .ref a_spared, .ref a_leaveGift, .ref a_leaveFrom, .ref a_leaveTo, .ref a_lateDay, .ref a_lateOffice, .ref a_lateBy, .ref a_guests, .ref a_who, .ref a_used, .ref a_lacks, .ref a_candles, .ref a_masses, .ref a_owing, .ref a_heldOn, .ref a_waits, .ref a_tape, .ref a_text, .int 0, .int 0, .int 0, .int (-1), .int 0, .ref a_statements, .ref a_taken, .ref a_sort, .ref a_first, .ref a_second, .int 0, .int 0])), (a_heldOn, .inl (cI, 365, .inl g1_22))] H := hP
                      have hD : va_D A [(a_guests, .inl (cI, 6, .inl g_38)), (a_used, .inl (cI, 1095, .inl f_used)), (a_lacks, .inl (cI, 1095, .inl f_lacks)), (a_candles, .inl (cI, 1095, .inl f_candles)), (a_who, .inl (cI, 4380, .inl f1_16)), (a_owed, .inl (cI, 40, .inl f1_19)), (h, .inr (11, [.int 0, .int 0, .int 0, .int 0, .int 0, .int 0, .int 0, .int 0, .int 0, .ref a_isPriest, .ref a_bars, .ref a_joined, .ref a_turns, .ref a_awayMonk, .ref a_awayFrom, .ref a_awayTo, .ref a_feastDay, .ref a_rank, .ref a_isWeekly, .ref a_isDouble, .ref a_giftDay, .ref a_giftFrom, .ref a_owed, .ref a_said, .ref a_spared, .ref a_leaveGift, .ref a_leaveFrom, .ref a_leaveTo, .ref a_lateDay, .ref a_lateOffice, .ref a_lateBy, .ref a_guests, .ref a_who, .ref a_used, .ref a_lacks, .ref a_candles, .ref a_masses, .ref a_owing, .ref a_heldOn, .ref a_waits, .ref a_tape, .ref a_text, .int 0, .int 0, .int 0, .int (-1), .int 0, .ref a_statements, .ref a_taken, .ref a_sort, .ref a_first, .ref a_second, .int 0, .int 0])), (a_heldOn, .inl (cI, 365, .inl g1_22))] := hD
                      obtain ⟨x_39, ex_39⟩ : ∃ y : Int32, y = 1 + 1 := ⟨_, rfl⟩
                      obtain rfl : x_39 = 2 := by rw [ex_39]; decide
                      refine lv_iinc (v := 2) (lv' := [(3, .int 2), (2, .int x_37), (1, .int 0), (0, .ref h)]) hx hb dX12_day_161 hl (k := 1) rfl (by decide) (by decide) rfl (fun ls hl => ?_)
                      refine lv_goto (tgt := 131) hx hb dX12_day_164 (by decide) ?_
                      refine lv_iload_n hx hb dX12_day_131 rfl (lv_at hl 0 rfl) ?_
                      refine lv_bipush (v := 6) hx hb dX12_day_132 (by decide) ?_
                      refine lv_icmp_ge (tgt := 167) hx hb dX12_day_134 (by decide) (fun c_40 => ?_) (fun c_40 => ?_)
                      · exact absurd c_40 (by decide)
                      · have tc_40 := t_nle c_40
                        refine lv_iload_n hx hb dX12_day_137 rfl (lv_at hl 1 rfl) ?_
                        refine lv_aload_n hx hb dX12_day_138 rfl (lv_at hl 3 rfl) ?_
                        refine va_get (D := D) (ci := 11) (v := .ref a_guests) (C := RX12) (T := TX12) (N := 54) hx hb hts in_q_day_X12 hown hK.1 hP 6 rfl rfl 31 (by decide) lk3 (fun _ h9 => h9) rfl dX12_day_139 ?_
                        refine lv_iload_n hx hb dX12_day_142 rfl (lv_at hl 0 rfl) ?_
                        refine va_iald hx hb hK.1 hP 0 0 rfl rfl (t_in (by omega) (by omega)) dX12_day_143 ?_
                        refine lv_topi (fun y_41 ey_41 => ?_)
                        refine lv_aload_n hx hb dX12_day_144 rfl (lv_at hl 3 rfl) ?_
                        refine lv_iload_n hx hb dX12_day_145 rfl (lv_at hl 2 rfl) ?_
                        have hPc := hP.sub (ws' := [(h, .inr (11, [.int 0, .int 0, .int 0, .int 0, .int 0, .int 0, .int 0, .int 0, .int 0, .ref a_isPriest, .ref a_bars, .ref a_joined, .ref a_turns, .ref a_awayMonk, .ref a_awayFrom, .ref a_awayTo, .ref a_feastDay, .ref a_rank, .ref a_isWeekly, .ref a_isDouble, .ref a_giftDay, .ref a_giftFrom, .ref a_owed, .ref a_said, .ref a_spared, .ref a_leaveGift, .ref a_leaveFrom, .ref a_leaveTo, .ref a_lateDay, .ref a_lateOffice, .ref a_lateBy, .ref a_guests, .ref a_who, .ref a_used, .ref a_lacks, .ref a_candles, .ref a_masses, .ref a_owing, .ref a_heldOn, .ref a_waits, .ref a_tape, .ref a_text, .int 0, .int 0, .int 0, .int (-1), .int 0, .ref a_statements, .ref a_taken, .ref a_sort, .ref a_first, .ref a_second, .int 0, .int 0]))]) [6] rfl
                        refine roV (As := [.int 0]) (rest := [.int y_41, .int x_37]) S (m_guestFeed  ) (cwV 1 hts gX12_day_X12_guestFeed rfl rfl rfl (by decide +kernel) ⟨Nat.le_of_ble_eq_true rfl, Nat.le_of_ble_eq_true rfl⟩) hK hPc (va_recv hK.1 hPc (ci := 11) (q0 := 0) rfl rfl) rfl hl.1 rfl (Nat.le_of_ble_eq_true rfl) dX12_day_146 ⟨Nat.le_of_ble_eq_true rfl, Nat.le_of_ble_eq_true rfl⟩ (fun r_42 hw_42 => ?_)
                        have hw_42 : r_42.toInt = 3 := hw_42
                        refine lv_iload_n hx hb dX12_day_149 rfl (lv_at hl 0 rfl) ?_
                        refine lv_iadd hx hb dX12_day_150 ?_
                        refine lv_topi (fun x_43 ex_43 => ?_)
                        refine lv_imul hx hb dX12_day_151 ?_
                        refine lv_topi (fun x_44 ex_44 => ?_)
                        refine lv_iadd hx hb dX12_day_152 ?_
                        refine lv_topi (fun x_45 ex_45 => ?_)
                        refine lv_istore_n (lv' := [(2, .int x_45), (3, .int 2), (1, .int 0), (0, .ref h)]) hx hb dX12_day_153 rfl hl (by decide) rfl (fun ls hl => ?_)
                        refine lv_aload_n hx hb dX12_day_154 rfl (lv_at hl 3 rfl) ?_
                        refine va_get (D := D) (ci := 11) (v := .ref a_guests) (C := RX12) (T := TX12) (N := 54) hx hb hts in_q_day_X12 hown hK.1 hP 6 rfl rfl 31 (by decide) lk3 (fun _ h9 => h9) rfl dX12_day_155 ?_
                        refine lv_iload_n hx hb dX12_day_158 rfl (lv_at hl 1 rfl) ?_
                        refine lv_iconst (v := 0) hx hb dX12_day_159 (by decide) ?_
                        refine va_iast hx hb hK.1 hP hD hS 0 0 rfl rfl (t_in (by omega) (by omega)) dX12_day_160 (fun H locs hP hD hS => ?_)
                        obtain ⟨g_46, eg_46⟩ : ∃ z : Nat → Int32, z = upd g_38 ((2 : Int32).toNatClampNeg) 0 := ⟨_, rfl⟩
                        rw [← eg_46] at hP hD
                        have hP : va_P D vwCl [(a_guests, .inl (cI, 6, .inl g_46)), (a_used, .inl (cI, 1095, .inl f_used)), (a_lacks, .inl (cI, 1095, .inl f_lacks)), (a_candles, .inl (cI, 1095, .inl f_candles)), (a_who, .inl (cI, 4380, .inl f1_16)), (a_owed, .inl (cI, 40, .inl f1_19)), (h, .inr (11, [.int 0, .int 0, .int 0, .int 0, .int 0, .int 0, .int 0, .int 0, .int 0, .ref a_isPriest, .ref a_bars, .ref a_joined, .ref a_turns, .ref a_awayMonk, .ref a_awayFrom, .ref a_awayTo, .ref a_feastDay, .ref a_rank, .ref a_isWeekly, .ref a_isDouble, .ref a_giftDay, .ref a_giftFrom, .ref a_owed, .ref a_said, .ref a_spared, .ref a_leaveGift, .ref a_leaveFrom, .ref a_leaveTo, .ref a_lateDay, .ref a_lateOffice, .ref a_lateBy, .ref a_guests, .ref a_who, .ref a_used, .ref a_lacks, .ref a_candles, .ref a_masses, .ref a_owing, .ref a_heldOn, .ref a_waits, .ref a_tape, .ref a_text, .int 0, .int 0, .int 0, .int (-1), .int 0, .ref a_statements, .ref a_taken, .ref a_sort, .ref a_first, .ref a_second, .int 0, .int 0])), (a_heldOn, .inl (cI, 365, .inl g1_22))] H := hP
                        have hD : va_D A [(a_guests, .inl (cI, 6, .inl g_46)), (a_used, .inl (cI, 1095, .inl f_used)), (a_lacks, .inl (cI, 1095, .inl f_lacks)), (a_candles, .inl (cI, 1095, .inl f_candles)), (a_who, .inl (cI, 4380, .inl f1_16)), (a_owed, .inl (cI, 40, .inl f1_19)), (h, .inr (11, [.int 0, .int 0, .int 0, .int 0, .int 0, .int 0, .int 0, .int 0, .int 0, .ref a_isPriest, .ref a_bars, .ref a_joined, .ref a_turns, .ref a_awayMonk, .ref a_awayFrom, .ref a_awayTo, .ref a_feastDay, .ref a_rank, .ref a_isWeekly, .ref a_isDouble, .ref a_giftDay, .ref a_giftFrom, .ref a_owed, .ref a_said, .ref a_spared, .ref a_leaveGift, .ref a_leaveFrom, .ref a_leaveTo, .ref a_lateDay, .ref a_lateOffice, .ref a_lateBy, .ref a_guests, .ref a_who, .ref a_used, .ref a_lacks, .ref a_candles, .ref a_masses, .ref a_owing, .ref a_heldOn, .ref a_waits, .ref a_tape, .ref a_text, .int 0, .int 0, .int 0, .int (-1), .int 0, .ref a_statements, .ref a_taken, .ref a_sort, .ref a_first, .ref a_second, .int 0, .int 0])), (a_heldOn, .inl (cI, 365, .inl g1_22))] := hD
                        obtain ⟨x_47, ex_47⟩ : ∃ y : Int32, y = 2 + 1 := ⟨_, rfl⟩
                        obtain rfl : x_47 = 3 := by rw [ex_47]; decide
                        refine lv_iinc (v := 3) (lv' := [(3, .int 3), (2, .int x_45), (1, .int 0), (0, .ref h)]) hx hb dX12_day_161 hl (k := 1) rfl (by decide) (by decide) rfl (fun ls hl => ?_)
                        refine lv_goto (tgt := 131) hx hb dX12_day_164 (by decide) ?_
                        refine lv_iload_n hx hb dX12_day_131 rfl (lv_at hl 0 rfl) ?_
                        refine lv_bipush (v := 6) hx hb dX12_day_132 (by decide) ?_
                        refine lv_icmp_ge (tgt := 167) hx hb dX12_day_134 (by decide) (fun c_48 => ?_) (fun c_48 => ?_)
                        · exact absurd c_48 (by decide)
                        · have tc_48 := t_nle c_48
                          refine lv_iload_n hx hb dX12_day_137 rfl (lv_at hl 1 rfl) ?_
                          refine lv_aload_n hx hb dX12_day_138 rfl (lv_at hl 3 rfl) ?_
                          refine va_get (D := D) (ci := 11) (v := .ref a_guests) (C := RX12) (T := TX12) (N := 54) hx hb hts in_q_day_X12 hown hK.1 hP 6 rfl rfl 31 (by decide) lk3 (fun _ h9 => h9) rfl dX12_day_139 ?_
                          refine lv_iload_n hx hb dX12_day_142 rfl (lv_at hl 0 rfl) ?_
                          refine va_iald hx hb hK.1 hP 0 0 rfl rfl (t_in (by omega) (by omega)) dX12_day_143 ?_
                          refine lv_topi (fun y_49 ey_49 => ?_)
                          refine lv_aload_n hx hb dX12_day_144 rfl (lv_at hl 3 rfl) ?_
                          refine lv_iload_n hx hb dX12_day_145 rfl (lv_at hl 2 rfl) ?_
                          have hPc := hP.sub (ws' := [(h, .inr (11, [.int 0, .int 0, .int 0, .int 0, .int 0, .int 0, .int 0, .int 0, .int 0, .ref a_isPriest, .ref a_bars, .ref a_joined, .ref a_turns, .ref a_awayMonk, .ref a_awayFrom, .ref a_awayTo, .ref a_feastDay, .ref a_rank, .ref a_isWeekly, .ref a_isDouble, .ref a_giftDay, .ref a_giftFrom, .ref a_owed, .ref a_said, .ref a_spared, .ref a_leaveGift, .ref a_leaveFrom, .ref a_leaveTo, .ref a_lateDay, .ref a_lateOffice, .ref a_lateBy, .ref a_guests, .ref a_who, .ref a_used, .ref a_lacks, .ref a_candles, .ref a_masses, .ref a_owing, .ref a_heldOn, .ref a_waits, .ref a_tape, .ref a_text, .int 0, .int 0, .int 0, .int (-1), .int 0, .ref a_statements, .ref a_taken, .ref a_sort, .ref a_first, .ref a_second, .int 0, .int 0]))]) [6] rfl
                          refine roV (As := [.int 0]) (rest := [.int y_49, .int x_45]) S (m_guestFeed  ) (cwV 1 hts gX12_day_X12_guestFeed rfl rfl rfl (by decide +kernel) ⟨Nat.le_of_ble_eq_true rfl, Nat.le_of_ble_eq_true rfl⟩) hK hPc (va_recv hK.1 hPc (ci := 11) (q0 := 0) rfl rfl) rfl hl.1 rfl (Nat.le_of_ble_eq_true rfl) dX12_day_146 ⟨Nat.le_of_ble_eq_true rfl, Nat.le_of_ble_eq_true rfl⟩ (fun r_50 hw_50 => ?_)
                          have hw_50 : r_50.toInt = 3 := hw_50
                          refine lv_iload_n hx hb dX12_day_149 rfl (lv_at hl 0 rfl) ?_
                          refine lv_iadd hx hb dX12_day_150 ?_
                          refine lv_topi (fun x_51 ex_51 => ?_)
                          refine lv_imul hx hb dX12_day_151 ?_
                          refine lv_topi (fun x_52 ex_52 => ?_)
                          refine lv_iadd hx hb dX12_day_152 ?_
                          refine lv_topi (fun x_53 ex_53 => ?_)
                          refine lv_istore_n (lv' := [(2, .int x_53), (3, .int 3), (1, .int 0), (0, .ref h)]) hx hb dX12_day_153 rfl hl (by decide) rfl (fun ls hl => ?_)
                          refine lv_aload_n hx hb dX12_day_154 rfl (lv_at hl 3 rfl) ?_
                          refine va_get (D := D) (ci := 11) (v := .ref a_guests) (C := RX12) (T := TX12) (N := 54) hx hb hts in_q_day_X12 hown hK.1 hP 6 rfl rfl 31 (by decide) lk3 (fun _ h9 => h9) rfl dX12_day_155 ?_
                          refine lv_iload_n hx hb dX12_day_158 rfl (lv_at hl 1 rfl) ?_
                          refine lv_iconst (v := 0) hx hb dX12_day_159 (by decide) ?_
                          refine va_iast hx hb hK.1 hP hD hS 0 0 rfl rfl (t_in (by omega) (by omega)) dX12_day_160 (fun H locs hP hD hS => ?_)
                          obtain ⟨g_54, eg_54⟩ : ∃ z : Nat → Int32, z = upd g_46 ((3 : Int32).toNatClampNeg) 0 := ⟨_, rfl⟩
                          rw [← eg_54] at hP hD
                          have hP : va_P D vwCl [(a_guests, .inl (cI, 6, .inl g_54)), (a_used, .inl (cI, 1095, .inl f_used)), (a_lacks, .inl (cI, 1095, .inl f_lacks)), (a_candles, .inl (cI, 1095, .inl f_candles)), (a_who, .inl (cI, 4380, .inl f1_16)), (a_owed, .inl (cI, 40, .inl f1_19)), (h, .inr (11, [.int 0, .int 0, .int 0, .int 0, .int 0, .int 0, .int 0, .int 0, .int 0, .ref a_isPriest, .ref a_bars, .ref a_joined, .ref a_turns, .ref a_awayMonk, .ref a_awayFrom, .ref a_awayTo, .ref a_feastDay, .ref a_rank, .ref a_isWeekly, .ref a_isDouble, .ref a_giftDay, .ref a_giftFrom, .ref a_owed, .ref a_said, .ref a_spared, .ref a_leaveGift, .ref a_leaveFrom, .ref a_leaveTo, .ref a_lateDay, .ref a_lateOffice, .ref a_lateBy, .ref a_guests, .ref a_who, .ref a_used, .ref a_lacks, .ref a_candles, .ref a_masses, .ref a_owing, .ref a_heldOn, .ref a_waits, .ref a_tape, .ref a_text, .int 0, .int 0, .int 0, .int (-1), .int 0, .ref a_statements, .ref a_taken, .ref a_sort, .ref a_first, .ref a_second, .int 0, .int 0])), (a_heldOn, .inl (cI, 365, .inl g1_22))] H := hP
                          have hD : va_D A [(a_guests, .inl (cI, 6, .inl g_54)), (a_used, .inl (cI, 1095, .inl f_used)), (a_lacks, .inl (cI, 1095, .inl f_lacks)), (a_candles, .inl (cI, 1095, .inl f_candles)), (a_who, .inl (cI, 4380, .inl f1_16)), (a_owed, .inl (cI, 40, .inl f1_19)), (h, .inr (11, [.int 0, .int 0, .int 0, .int 0, .int 0, .int 0, .int 0, .int 0, .int 0, .ref a_isPriest, .ref a_bars, .ref a_joined, .ref a_turns, .ref a_awayMonk, .ref a_awayFrom, .ref a_awayTo, .ref a_feastDay, .ref a_rank, .ref a_isWeekly, .ref a_isDouble, .ref a_giftDay, .ref a_giftFrom, .ref a_owed, .ref a_said, .ref a_spared, .ref a_leaveGift, .ref a_leaveFrom, .ref a_leaveTo, .ref a_lateDay, .ref a_lateOffice, .ref a_lateBy, .ref a_guests, .ref a_who, .ref a_used, .ref a_lacks, .ref a_candles, .ref a_masses, .ref a_owing, .ref a_heldOn, .ref a_waits, .ref a_tape, .ref a_text, .int 0, .int 0, .int 0, .int (-1), .int 0, .ref a_statements, .ref a_taken, .ref a_sort, .ref a_first, .ref a_second, .int 0, .int 0])), (a_heldOn, .inl (cI, 365, .inl g1_22))] := hD
                          obtain ⟨x_55, ex_55⟩ : ∃ y : Int32, y = 3 + 1 := ⟨_, rfl⟩
                          obtain rfl : x_55 = 4 := by rw [ex_55]; decide
                          refine lv_iinc (v := 4) (lv' := [(3, .int 4), (2, .int x_53), (1, .int 0), (0, .ref h)]) hx hb dX12_day_161 hl (k := 1) rfl (by decide) (by decide) rfl (fun ls hl => ?_)
                          refine lv_goto (tgt := 131) hx hb dX12_day_164 (by decide) ?_
                          refine lv_iload_n hx hb dX12_day_131 rfl (lv_at hl 0 rfl) ?_
                          refine lv_bipush (v := 6) hx hb dX12_day_132 (by decide) ?_
                          refine lv_icmp_ge (tgt := 167) hx hb dX12_day_134 (by decide) (fun c_56 => ?_) (fun c_56 => ?_)
                          · exact absurd c_56 (by decide)
                          · have tc_56 := t_nle c_56
                            refine lv_iload_n hx hb dX12_day_137 rfl (lv_at hl 1 rfl) ?_
                            refine lv_aload_n hx hb dX12_day_138 rfl (lv_at hl 3 rfl) ?_
                            refine va_get (D := D) (ci := 11) (v := .ref a_guests) (C := RX12) (T := TX12) (N := 54) hx hb hts in_q_day_X12 hown hK.1 hP 6 rfl rfl 31 (by decide) lk3 (fun _ h9 => h9) rfl dX12_day_139 ?_
                            refine lv_iload_n hx hb dX12_day_142 rfl (lv_at hl 0 rfl) ?_
                            refine va_iald hx hb hK.1 hP 0 0 rfl rfl (t_in (by omega) (by omega)) dX12_day_143 ?_
                            refine lv_topi (fun y_57 ey_57 => ?_)
                            refine lv_aload_n hx hb dX12_day_144 rfl (lv_at hl 3 rfl) ?_
                            refine lv_iload_n hx hb dX12_day_145 rfl (lv_at hl 2 rfl) ?_
                            have hPc := hP.sub (ws' := [(h, .inr (11, [.int 0, .int 0, .int 0, .int 0, .int 0, .int 0, .int 0, .int 0, .int 0, .ref a_isPriest, .ref a_bars, .ref a_joined, .ref a_turns, .ref a_awayMonk, .ref a_awayFrom, .ref a_awayTo, .ref a_feastDay, .ref a_rank, .ref a_isWeekly, .ref a_isDouble, .ref a_giftDay, .ref a_giftFrom, .ref a_owed, .ref a_said, .ref a_spared, .ref a_leaveGift, .ref a_leaveFrom, .ref a_leaveTo, .ref a_lateDay, .ref a_lateOffice, .ref a_lateBy, .ref a_guests, .ref a_who, .ref a_used, .ref a_lacks, .ref a_candles, .ref a_masses, .ref a_owing, .ref a_heldOn, .ref a_waits, .ref a_tape, .ref a_text, .int 0, .int 0, .int 0, .int (-1), .int 0, .ref a_statements, .ref a_taken, .ref a_sort, .ref a_first, .ref a_second, .int 0, .int 0]))]) [6] rfl
                            refine roV (As := [.int 0]) (rest := [.int y_57, .int x_53]) S (m_guestFeed  ) (cwV 1 hts gX12_day_X12_guestFeed rfl rfl rfl (by decide +kernel) ⟨Nat.le_of_ble_eq_true rfl, Nat.le_of_ble_eq_true rfl⟩) hK hPc (va_recv hK.1 hPc (ci := 11) (q0 := 0) rfl rfl) rfl hl.1 rfl (Nat.le_of_ble_eq_true rfl) dX12_day_146 ⟨Nat.le_of_ble_eq_true rfl, Nat.le_of_ble_eq_true rfl⟩ (fun r_58 hw_58 => ?_)
                            have hw_58 : r_58.toInt = 3 := hw_58
                            refine lv_iload_n hx hb dX12_day_149 rfl (lv_at hl 0 rfl) ?_
                            refine lv_iadd hx hb dX12_day_150 ?_
                            refine lv_topi (fun x_59 ex_59 => ?_)
                            refine lv_imul hx hb dX12_day_151 ?_
                            refine lv_topi (fun x_60 ex_60 => ?_)
                            refine lv_iadd hx hb dX12_day_152 ?_
                            refine lv_topi (fun x_61 ex_61 => ?_)
                            refine lv_istore_n (lv' := [(2, .int x_61), (3, .int 4), (1, .int 0), (0, .ref h)]) hx hb dX12_day_153 rfl hl (by decide) rfl (fun ls hl => ?_)
                            refine lv_aload_n hx hb dX12_day_154 rfl (lv_at hl 3 rfl) ?_
                            refine va_get (D := D) (ci := 11) (v := .ref a_guests) (C := RX12) (T := TX12) (N := 54) hx hb hts in_q_day_X12 hown hK.1 hP 6 rfl rfl 31 (by decide) lk3 (fun _ h9 => h9) rfl dX12_day_155 ?_
                            refine lv_iload_n hx hb dX12_day_158 rfl (lv_at hl 1 rfl) ?_
                            refine lv_iconst (v := 0) hx hb dX12_day_159 (by decide) ?_
                            refine va_iast hx hb hK.1 hP hD hS 0 0 rfl rfl (t_in (by omega) (by omega)) dX12_day_160 (fun H locs hP hD hS => ?_)
                            obtain ⟨g_62, eg_62⟩ : ∃ z : Nat → Int32, z = upd g_54 ((4 : Int32).toNatClampNeg) 0 := ⟨_, rfl⟩
                            rw [← eg_62] at hP hD
                            have hP : va_P D vwCl [(a_guests, .inl (cI, 6, .inl g_62)), (a_used, .inl (cI, 1095, .inl f_used)), (a_lacks, .inl (cI, 1095, .inl f_lacks)), (a_candles, .inl (cI, 1095, .inl f_candles)), (a_who, .inl (cI, 4380, .inl f1_16)), (a_owed, .inl (cI, 40, .inl f1_19)), (h, .inr (11, [.int 0, .int 0, .int 0, .int 0, .int 0, .int 0, .int 0, .int 0, .int 0, .ref a_isPriest, .ref a_bars, .ref a_joined, .ref a_turns, .ref a_awayMonk, .ref a_awayFrom, .ref a_awayTo, .ref a_feastDay, .ref a_rank, .ref a_isWeekly, .ref a_isDouble, .ref a_giftDay, .ref a_giftFrom, .ref a_owed, .ref a_said, .ref a_spared, .ref a_leaveGift, .ref a_leaveFrom, .ref a_leaveTo, .ref a_lateDay, .ref a_lateOffice, .ref a_lateBy, .ref a_guests, .ref a_who, .ref a_used, .ref a_lacks, .ref a_candles, .ref a_masses, .ref a_owing, .ref a_heldOn, .ref a_waits, .ref a_tape, .ref a_text, .int 0, .int 0, .int 0, .int (-1), .int 0, .ref a_statements, .ref a_taken, .ref a_sort, .ref a_first, .ref a_second, .int 0, .int 0])), (a_heldOn, .inl (cI, 365, .inl g1_22))] H := hP
                            have hD : va_D A [(a_guests, .inl (cI, 6, .inl g_62)), (a_used, .inl (cI, 1095, .inl f_used)), (a_lacks, .inl (cI, 1095, .inl f_lacks)), (a_candles, .inl (cI, 1095, .inl f_candles)), (a_who, .inl (cI, 4380, .inl f1_16)), (a_owed, .inl (cI, 40, .inl f1_19)), (h, .inr (11, [.int 0, .int 0, .int 0, .int 0, .int 0, .int 0, .int 0, .int 0, .int 0, .ref a_isPriest, .ref a_bars, .ref a_joined, .ref a_turns, .ref a_awayMonk, .ref a_awayFrom, .ref a_awayTo, .ref a_feastDay, .ref a_rank, .ref a_isWeekly, .ref a_isDouble, .ref a_giftDay, .ref a_giftFrom, .ref a_owed, .ref a_said, .ref a_spared, .ref a_leaveGift, .ref a_leaveFrom, .ref a_leaveTo, .ref a_lateDay, .ref a_lateOffice, .ref a_lateBy, .ref a_guests, .ref a_who, .ref a_used, .ref a_lacks, .ref a_candles, .ref a_masses, .ref a_owing, .ref a_heldOn, .ref a_waits, .ref a_tape, .ref a_text, .int 0, .int 0, .int 0, .int (-1), .int 0, .ref a_statements, .ref a_taken, .ref a_sort, .ref a_first, .ref a_second, .int 0, .int 0])), (a_heldOn, .inl (cI, 365, .inl g1_22))] := hD
                            obtain ⟨x_63, ex_63⟩ : ∃ y : Int32, y = 4 + 1 := ⟨_, rfl⟩
                            obtain rfl : x_63 = 5 := by rw [ex_63]; decide
                            refine lv_iinc (v := 5) (lv' := [(3, .int 5), (2, .int x_61), (1, .int 0), (0, .ref h)]) hx hb dX12_day_161 hl (k := 1) rfl (by decide) (by decide) rfl (fun ls hl => ?_)
                            refine lv_goto (tgt := 131) hx hb dX12_day_164 (by decide) ?_
                            refine lv_iload_n hx hb dX12_day_131 rfl (lv_at hl 0 rfl) ?_
                            refine lv_bipush (v := 6) hx hb dX12_day_132 (by decide) ?_
                            refine lv_icmp_ge (tgt := 167) hx hb dX12_day_134 (by decide) (fun c_64 => ?_) (fun c_64 => ?_)
                            · exact absurd c_64 (by decide)
                            · have tc_64 := t_nle c_64
                              refine lv_iload_n hx hb dX12_day_137 rfl (lv_at hl 1 rfl) ?_
                              refine lv_aload_n hx hb dX12_day_138 rfl (lv_at hl 3 rfl) ?_
                              refine va_get (D := D) (ci := 11) (v := .ref a_guests) (C := RX12) (T := TX12) (N := 54) hx hb hts in_q_day_X12 hown hK.1 hP 6 rfl rfl 31 (by decide) lk3 (fun _ h9 => h9) rfl dX12_day_139 ?_
                              refine lv_iload_n hx hb dX12_day_142 rfl (lv_at hl 0 rfl) ?_
                              refine va_iald hx hb hK.1 hP 0 0 rfl rfl (t_in (by omega) (by omega)) dX12_day_143 ?_
                              refine lv_topi (fun y_65 ey_65 => ?_)
                              refine lv_aload_n hx hb dX12_day_144 rfl (lv_at hl 3 rfl) ?_
                              refine lv_iload_n hx hb dX12_day_145 rfl (lv_at hl 2 rfl) ?_
                              have hPc := hP.sub (ws' := [(h, .inr (11, [.int 0, .int 0, .int 0, .int 0, .int 0, .int 0, .int 0, .int 0, .int 0, .ref a_isPriest, .ref a_bars, .ref a_joined, .ref a_turns, .ref a_awayMonk, .ref a_awayFrom, .ref a_awayTo, .ref a_feastDay, .ref a_rank, .ref a_isWeekly, .ref a_isDouble, .ref a_giftDay, .ref a_giftFrom, .ref a_owed, .ref a_said, .ref a_spared, .ref a_leaveGift, .ref a_leaveFrom, .ref a_leaveTo, .ref a_lateDay, .ref a_lateOffice, .ref a_lateBy, .ref a_guests, .ref a_who, .ref a_used, .ref a_lacks, .ref a_candles, .ref a_masses, .ref a_owing, .ref a_heldOn, .ref a_waits, .ref a_tape, .ref a_text, .int 0, .int 0, .int 0, .int (-1), .int 0, .ref a_statements, .ref a_taken, .ref a_sort, .ref a_first, .ref a_second, .int 0, .int 0]))]) [6] rfl
                              refine roV (As := [.int 0]) (rest := [.int y_65, .int x_61]) S (m_guestFeed  ) (cwV 1 hts gX12_day_X12_guestFeed rfl rfl rfl (by decide +kernel) ⟨Nat.le_of_ble_eq_true rfl, Nat.le_of_ble_eq_true rfl⟩) hK hPc (va_recv hK.1 hPc (ci := 11) (q0 := 0) rfl rfl) rfl hl.1 rfl (Nat.le_of_ble_eq_true rfl) dX12_day_146 ⟨Nat.le_of_ble_eq_true rfl, Nat.le_of_ble_eq_true rfl⟩ (fun r_66 hw_66 => ?_)
                              have hw_66 : r_66.toInt = 3 := hw_66
                              refine lv_iload_n hx hb dX12_day_149 rfl (lv_at hl 0 rfl) ?_
                              refine lv_iadd hx hb dX12_day_150 ?_
                              refine lv_topi (fun x_67 ex_67 => ?_)
                              refine lv_imul hx hb dX12_day_151 ?_
                              refine lv_topi (fun x_68 ex_68 => ?_)
                              refine lv_iadd hx hb dX12_day_152 ?_
                              refine lv_topi (fun x_69 ex_69 => ?_)
                              refine lv_istore_n (lv' := [(2, .int x_69), (3, .int 5), (1, .int 0), (0, .ref h)]) hx hb dX12_day_153 rfl hl (by decide) rfl (fun ls hl => ?_)
                              refine lv_aload_n hx hb dX12_day_154 rfl (lv_at hl 3 rfl) ?_
                              refine va_get (D := D) (ci := 11) (v := .ref a_guests) (C := RX12) (T := TX12) (N := 54) hx hb hts in_q_day_X12 hown hK.1 hP 6 rfl rfl 31 (by decide) lk3 (fun _ h9 => h9) rfl dX12_day_155 ?_
                              refine lv_iload_n hx hb dX12_day_158 rfl (lv_at hl 1 rfl) ?_
                              refine lv_iconst (v := 0) hx hb dX12_day_159 (by decide) ?_
                              refine va_iast hx hb hK.1 hP hD hS 0 0 rfl rfl (t_in (by omega) (by omega)) dX12_day_160 (fun H locs hP hD hS => ?_)
                              obtain ⟨g_70, eg_70⟩ : ∃ z : Nat → Int32, z = upd g_62 ((5 : Int32).toNatClampNeg) 0 := ⟨_, rfl⟩
                              rw [← eg_70] at hP hD
                              have hP : va_P D vwCl [(a_guests, .inl (cI, 6, .inl g_70)), (a_used, .inl (cI, 1095, .inl f_used)), (a_lacks, .inl (cI, 1095, .inl f_lacks)), (a_candles, .inl (cI, 1095, .inl f_candles)), (a_who, .inl (cI, 4380, .inl f1_16)), (a_owed, .inl (cI, 40, .inl f1_19)), (h, .inr (11, [.int 0, .int 0, .int 0, .int 0, .int 0, .int 0, .int 0, .int 0, .int 0, .ref a_isPriest, .ref a_bars, .ref a_joined, .ref a_turns, .ref a_awayMonk, .ref a_awayFrom, .ref a_awayTo, .ref a_feastDay, .ref a_rank, .ref a_isWeekly, .ref a_isDouble, .ref a_giftDay, .ref a_giftFrom, .ref a_owed, .ref a_said, .ref a_spared, .ref a_leaveGift, .ref a_leaveFrom, .ref a_leaveTo, .ref a_lateDay, .ref a_lateOffice, .ref a_lateBy, .ref a_guests, .ref a_who, .ref a_used, .ref a_lacks, .ref a_candles, .ref a_masses, .ref a_owing, .ref a_heldOn, .ref a_waits, .ref a_tape, .ref a_text, .int 0, .int 0, .int 0, .int (-1), .int 0, .ref a_statements, .ref a_taken, .ref a_sort, .ref a_first, .ref a_second, .int 0, .int 0])), (a_heldOn, .inl (cI, 365, .inl g1_22))] H := hP
                              have hD : va_D A [(a_guests, .inl (cI, 6, .inl g_70)), (a_used, .inl (cI, 1095, .inl f_used)), (a_lacks, .inl (cI, 1095, .inl f_lacks)), (a_candles, .inl (cI, 1095, .inl f_candles)), (a_who, .inl (cI, 4380, .inl f1_16)), (a_owed, .inl (cI, 40, .inl f1_19)), (h, .inr (11, [.int 0, .int 0, .int 0, .int 0, .int 0, .int 0, .int 0, .int 0, .int 0, .ref a_isPriest, .ref a_bars, .ref a_joined, .ref a_turns, .ref a_awayMonk, .ref a_awayFrom, .ref a_awayTo, .ref a_feastDay, .ref a_rank, .ref a_isWeekly, .ref a_isDouble, .ref a_giftDay, .ref a_giftFrom, .ref a_owed, .ref a_said, .ref a_spared, .ref a_leaveGift, .ref a_leaveFrom, .ref a_leaveTo, .ref a_lateDay, .ref a_lateOffice, .ref a_lateBy, .ref a_guests, .ref a_who, .ref a_used, .ref a_lacks, .ref a_candles, .ref a_masses, .ref a_owing, .ref a_heldOn, .ref a_waits, .ref a_tape, .ref a_text, .int 0, .int 0, .int 0, .int (-1), .int 0, .ref a_statements, .ref a_taken, .ref a_sort, .ref a_first, .ref a_second, .int 0, .int 0])), (a_heldOn, .inl (cI, 365, .inl g1_22))] := hD
                              obtain ⟨x_71, ex_71⟩ : ∃ y : Int32, y = 5 + 1 := ⟨_, rfl⟩
                              obtain rfl : x_71 = 6 := by rw [ex_71]; decide
                              refine lv_iinc (v := 6) (lv' := [(3, .int 6), (2, .int x_69), (1, .int 0), (0, .ref h)]) hx hb dX12_day_161 hl (k := 1) rfl (by decide) (by decide) rfl (fun ls hl => ?_)
                              refine lv_goto (tgt := 131) hx hb dX12_day_164 (by decide) ?_
                              refine lv_iload_n hx hb dX12_day_131 rfl (lv_at hl 0 rfl) ?_
                              refine lv_bipush (v := 6) hx hb dX12_day_132 (by decide) ?_
                              refine lv_icmp_ge (tgt := 167) hx hb dX12_day_134 (by decide) (fun c_72 => ?_) (fun c_72 => ?_)
                              · have tc_72 := t_le c_72
                                refine lv_aload_n hx hb dX12_day_167 rfl (lv_at hl 3 rfl) ?_
                                refine va_get (D := D) (ci := 11) (v := .ref a_used) (C := RX12) (T := TX12) (N := 54) hx hb hts in_q_day_X12 hown hK.1 hP 6 rfl rfl 33 (by decide) lk4 (fun _ h9 => h9) rfl dX12_day_168 ?_
                                refine lv_iload_n hx hb dX12_day_171 rfl (lv_at hl 2 rfl) ?_
                                refine lv_aload_n hx hb dX12_day_172 rfl (lv_at hl 3 rfl) ?_
                                refine va_get (D := D) (ci := 11) (v := .int 0) (C := RX12) (T := TX12) (N := 54) hx hb hts in_q_day_X12 hown hK.1 hP 6 rfl rfl 7 (by decide) lk5 (fun _ h9 => h9) rfl dX12_day_173 ?_
                                refine lv_iload_n hx hb dX12_day_176 rfl (lv_at hl 1 rfl) ?_
                                refine va_mmin hx hb (hml.trans hl.1.symm) hown lk6 lk7 lk8 lk9 (Nat.le_of_ble_eq_true rfl) (Nat.le_of_ble_eq_true rfl) (Nat.le_of_ble_eq_true rfl) (Nat.le_of_ble_eq_true rfl) dX12_day_177 ?_
                                refine lv_topi (fun x_73 ex_73 => ?_)
                                have tx_73 := t_min ex_73
                                refine va_iast hx hb hK.1 hP hD hS 1 0 rfl rfl (t_in (by omega) (by omega)) dX12_day_180 (fun H locs hP hD hS => ?_)
                                obtain ⟨g_74, eg_74⟩ : ∃ z : Nat → Int32, z = upd f_used ((0 : Int32).toNatClampNeg) x_73 := ⟨_, rfl⟩
                                rw [← eg_74] at hP hD
                                have hP : va_P D vwCl [(a_guests, .inl (cI, 6, .inl g_70)), (a_used, .inl (cI, 1095, .inl g_74)), (a_lacks, .inl (cI, 1095, .inl f_lacks)), (a_candles, .inl (cI, 1095, .inl f_candles)), (a_who, .inl (cI, 4380, .inl f1_16)), (a_owed, .inl (cI, 40, .inl f1_19)), (h, .inr (11, [.int 0, .int 0, .int 0, .int 0, .int 0, .int 0, .int 0, .int 0, .int 0, .ref a_isPriest, .ref a_bars, .ref a_joined, .ref a_turns, .ref a_awayMonk, .ref a_awayFrom, .ref a_awayTo, .ref a_feastDay, .ref a_rank, .ref a_isWeekly, .ref a_isDouble, .ref a_giftDay, .ref a_giftFrom, .ref a_owed, .ref a_said, .ref a_spared, .ref a_leaveGift, .ref a_leaveFrom, .ref a_leaveTo, .ref a_lateDay, .ref a_lateOffice, .ref a_lateBy, .ref a_guests, .ref a_who, .ref a_used, .ref a_lacks, .ref a_candles, .ref a_masses, .ref a_owing, .ref a_heldOn, .ref a_waits, .ref a_tape, .ref a_text, .int 0, .int 0, .int 0, .int (-1), .int 0, .ref a_statements, .ref a_taken, .ref a_sort, .ref a_first, .ref a_second, .int 0, .int 0])), (a_heldOn, .inl (cI, 365, .inl g1_22))] H := hP
                                have hD : va_D A [(a_guests, .inl (cI, 6, .inl g_70)), (a_used, .inl (cI, 1095, .inl g_74)), (a_lacks, .inl (cI, 1095, .inl f_lacks)), (a_candles, .inl (cI, 1095, .inl f_candles)), (a_who, .inl (cI, 4380, .inl f1_16)), (a_owed, .inl (cI, 40, .inl f1_19)), (h, .inr (11, [.int 0, .int 0, .int 0, .int 0, .int 0, .int 0, .int 0, .int 0, .int 0, .ref a_isPriest, .ref a_bars, .ref a_joined, .ref a_turns, .ref a_awayMonk, .ref a_awayFrom, .ref a_awayTo, .ref a_feastDay, .ref a_rank, .ref a_isWeekly, .ref a_isDouble, .ref a_giftDay, .ref a_giftFrom, .ref a_owed, .ref a_said, .ref a_spared, .ref a_leaveGift, .ref a_leaveFrom, .ref a_leaveTo, .ref a_lateDay, .ref a_lateOffice, .ref a_lateBy, .ref a_guests, .ref a_who, .ref a_used, .ref a_lacks, .ref a_candles, .ref a_masses, .ref a_owing, .ref a_heldOn, .ref a_waits, .ref a_tape, .ref a_text, .int 0, .int 0, .int 0, .int (-1), .int 0, .ref a_statements, .ref a_taken, .ref a_sort, .ref a_first, .ref a_second, .int 0, .int 0])), (a_heldOn, .inl (cI, 365, .inl g1_22))] := hD
                                refine lv_aload_n hx hb dX12_day_181 rfl (lv_at hl 3 rfl) ?_
                                refine va_get (D := D) (ci := 11) (v := .ref a_lacks) (C := RX12) (T := TX12) (N := 54) hx hb hts in_q_day_X12 hown hK.1 hP 6 rfl rfl 34 (by decide) lk10 (fun _ h9 => h9) rfl dX12_day_182 ?_
                                refine lv_iload_n hx hb dX12_day_185 rfl (lv_at hl 2 rfl) ?_
                                refine lv_iload_n hx hb dX12_day_186 rfl (lv_at hl 1 rfl) ?_
                                refine lv_aload_n hx hb dX12_day_187 rfl (lv_at hl 3 rfl) ?_
                                refine va_get (D := D) (ci := 11) (v := .ref a_used) (C := RX12) (T := TX12) (N := 54) hx hb hts in_q_day_X12 hown hK.1 hP 6 rfl rfl 33 (by decide) lk4 (fun _ h9 => h9) rfl dX12_day_188 ?_
                                refine lv_iload_n hx hb dX12_day_191 rfl (lv_at hl 2 rfl) ?_
                                refine va_iald hx hb hK.1 hP 1 0 rfl rfl (t_in (by omega) (by omega)) dX12_day_192 ?_
                                refine lv_topi (fun y_75 ey_75 => ?_)
                                refine lv_isub hx hb dX12_day_193 ?_
                                refine lv_topi (fun x_76 ex_76 => ?_)
                                refine va_iast hx hb hK.1 hP hD hS 2 0 rfl rfl (t_in (by omega) (by omega)) dX12_day_194 (fun H locs hP hD hS => ?_)
                                obtain ⟨g_77, eg_77⟩ : ∃ z : Nat → Int32, z = upd f_lacks ((0 : Int32).toNatClampNeg) x_76 := ⟨_, rfl⟩
                                rw [← eg_77] at hP hD
                                have hP : va_P D vwCl [(a_guests, .inl (cI, 6, .inl g_70)), (a_used, .inl (cI, 1095, .inl g_74)), (a_lacks, .inl (cI, 1095, .inl g_77)), (a_candles, .inl (cI, 1095, .inl f_candles)), (a_who, .inl (cI, 4380, .inl f1_16)), (a_owed, .inl (cI, 40, .inl f1_19)), (h, .inr (11, [.int 0, .int 0, .int 0, .int 0, .int 0, .int 0, .int 0, .int 0, .int 0, .ref a_isPriest, .ref a_bars, .ref a_joined, .ref a_turns, .ref a_awayMonk, .ref a_awayFrom, .ref a_awayTo, .ref a_feastDay, .ref a_rank, .ref a_isWeekly, .ref a_isDouble, .ref a_giftDay, .ref a_giftFrom, .ref a_owed, .ref a_said, .ref a_spared, .ref a_leaveGift, .ref a_leaveFrom, .ref a_leaveTo, .ref a_lateDay, .ref a_lateOffice, .ref a_lateBy, .ref a_guests, .ref a_who, .ref a_used, .ref a_lacks, .ref a_candles, .ref a_masses, .ref a_owing, .ref a_heldOn, .ref a_waits, .ref a_tape, .ref a_text, .int 0, .int 0, .int 0, .int (-1), .int 0, .ref a_statements, .ref a_taken, .ref a_sort, .ref a_first, .ref a_second, .int 0, .int 0])), (a_heldOn, .inl (cI, 365, .inl g1_22))] H := hP
                                have hD : va_D A [(a_guests, .inl (cI, 6, .inl g_70)), (a_used, .inl (cI, 1095, .inl g_74)), (a_lacks, .inl (cI, 1095, .inl g_77)), (a_candles, .inl (cI, 1095, .inl f_candles)), (a_who, .inl (cI, 4380, .inl f1_16)), (a_owed, .inl (cI, 40, .inl f1_19)), (h, .inr (11, [.int 0, .int 0, .int 0, .int 0, .int 0, .int 0, .int 0, .int 0, .int 0, .ref a_isPriest, .ref a_bars, .ref a_joined, .ref a_turns, .ref a_awayMonk, .ref a_awayFrom, .ref a_awayTo, .ref a_feastDay, .ref a_rank, .ref a_isWeekly, .ref a_isDouble, .ref a_giftDay, .ref a_giftFrom, .ref a_owed, .ref a_said, .ref a_spared, .ref a_leaveGift, .ref a_leaveFrom, .ref a_leaveTo, .ref a_lateDay, .ref a_lateOffice, .ref a_lateBy, .ref a_guests, .ref a_who, .ref a_used, .ref a_lacks, .ref a_candles, .ref a_masses, .ref a_owing, .ref a_heldOn, .ref a_waits, .ref a_tape, .ref a_text, .int 0, .int 0, .int 0, .int (-1), .int 0, .ref a_statements, .ref a_taken, .ref a_sort, .ref a_first, .ref a_second, .int 0, .int 0])), (a_heldOn, .inl (cI, 365, .inl g1_22))] := hD
                                refine lv_aload_n hx hb dX12_day_195 rfl (lv_at hl 3 rfl) ?_
                                refine lv_dup hx hb dX12_day_196 rfl ?_
                                refine va_get (D := D) (ci := 11) (v := .int 0) (C := RX12) (T := TX12) (N := 54) hx hb hts in_q_day_X12 hown hK.1 hP 6 rfl rfl 7 (by decide) lk5 (fun _ h9 => h9) rfl dX12_day_197 ?_
                                refine lv_aload_n hx hb dX12_day_200 rfl (lv_at hl 3 rfl) ?_
                                refine va_get (D := D) (ci := 11) (v := .ref a_used) (C := RX12) (T := TX12) (N := 54) hx hb hts in_q_day_X12 hown hK.1 hP 6 rfl rfl 33 (by decide) lk4 (fun _ h9 => h9) rfl dX12_day_201 ?_
                                refine lv_iload_n hx hb dX12_day_204 rfl (lv_at hl 2 rfl) ?_
                                refine va_iald hx hb hK.1 hP 1 0 rfl rfl (t_in (by omega) (by omega)) dX12_day_205 ?_
                                refine lv_topi (fun y_78 ey_78 => ?_)
                                refine lv_isub hx hb dX12_day_206 ?_
                                refine lv_topi (fun x_79 ex_79 => ?_)
                                refine va_put (D := D) (ci := 11) (v := .int x_79) (ty := .int) (C := RX12) (T := TX12) (N := 54) hx hb hts in_q_day_X12 tyX12 tyX12_ok nmX12 hown hK.1 hP hD hS 6 rfl rfl 7 (by decide) lk5 (fun _ h9 => h9) rfl (by decide +kernel) rfl rfl (Nat.le_of_ble_eq_true rfl) dX12_day_207 (fun H locs hP hD hS => ?_)
                                have hP : va_P D vwCl [(a_guests, .inl (cI, 6, .inl g_70)), (a_used, .inl (cI, 1095, .inl g_74)), (a_lacks, .inl (cI, 1095, .inl g_77)), (a_candles, .inl (cI, 1095, .inl f_candles)), (a_who, .inl (cI, 4380, .inl f1_16)), (a_owed, .inl (cI, 40, .inl f1_19)), (h, .inr (11, [.int 0, .int 0, .int 0, .int 0, .int 0, .int 0, .int 0, .int x_79, .int 0, .ref a_isPriest, .ref a_bars, .ref a_joined, .ref a_turns, .ref a_awayMonk, .ref a_awayFrom, .ref a_awayTo, .ref a_feastDay, .ref a_rank, .ref a_isWeekly, .ref a_isDouble, .ref a_giftDay, .ref a_giftFrom, .ref a_owed, .ref a_said, .ref a_spared, .ref a_leaveGift, .ref a_leaveFrom, .ref a_leaveTo, .ref a_lateDay, .ref a_lateOffice, .ref a_lateBy, .ref a_guests, .ref a_who, .ref a_used, .ref a_lacks, .ref a_candles, .ref a_masses, .ref a_owing, .ref a_heldOn, .ref a_waits, .ref a_tape, .ref a_text, .int 0, .int 0, .int 0, .int (-1), .int 0, .ref a_statements, .ref a_taken, .ref a_sort, .ref a_first, .ref a_second, .int 0, .int 0])), (a_heldOn, .inl (cI, 365, .inl g1_22))] H := hP
                                have hD : va_D A [(a_guests, .inl (cI, 6, .inl g_70)), (a_used, .inl (cI, 1095, .inl g_74)), (a_lacks, .inl (cI, 1095, .inl g_77)), (a_candles, .inl (cI, 1095, .inl f_candles)), (a_who, .inl (cI, 4380, .inl f1_16)), (a_owed, .inl (cI, 40, .inl f1_19)), (h, .inr (11, [.int 0, .int 0, .int 0, .int 0, .int 0, .int 0, .int 0, .int x_79, .int 0, .ref a_isPriest, .ref a_bars, .ref a_joined, .ref a_turns, .ref a_awayMonk, .ref a_awayFrom, .ref a_awayTo, .ref a_feastDay, .ref a_rank, .ref a_isWeekly, .ref a_isDouble, .ref a_giftDay, .ref a_giftFrom, .ref a_owed, .ref a_said, .ref a_spared, .ref a_leaveGift, .ref a_leaveFrom, .ref a_leaveTo, .ref a_lateDay, .ref a_lateOffice, .ref a_lateBy, .ref a_guests, .ref a_who, .ref a_used, .ref a_lacks, .ref a_candles, .ref a_masses, .ref a_owing, .ref a_heldOn, .ref a_waits, .ref a_tape, .ref a_text, .int 0, .int 0, .int 0, .int (-1), .int 0, .ref a_statements, .ref a_taken, .ref a_sort, .ref a_first, .ref a_second, .int 0, .int 0])), (a_heldOn, .inl (cI, 365, .inl g1_22))] := hD
                                refine lv_iconst (v := 0) hx hb dX12_day_210 (by decide) ?_
                                refine lv_istore_n (lv' := [(3, .int 0), (2, .int x_69), (1, .int 0), (0, .ref h)]) hx hb dX12_day_211 rfl hl (by decide) rfl (fun ls hl => ?_)
                                have loop212 : ∀ (fuel : Nat) (j : Int32) (fx : Nat → Int32), 8 - j.toInt < (fuel : Int) → (0 ≤ j.toInt) → (j.toInt ≤ 8) → ∀ (H : Heap) (locs : List Loc), va_P D vwCl [(a_guests, .inl (cI, 6, .inl g_70)), (a_used, .inl (cI, 1095, .inl g_74)), (a_lacks, .inl (cI, 1095, .inl g_77)), (a_candles, .inl (cI, 1095, .inl fx)), (a_who, .inl (cI, 4380, .inl f1_16)), (a_owed, .inl (cI, 40, .inl f1_19)), (h, .inr (11, [.int 0, .int 0, .int 0, .int 0, .int 0, .int 0, .int 0, .int x_79, .int 0, .ref a_isPriest, .ref a_bars, .ref a_joined, .ref a_turns, .ref a_awayMonk, .ref a_awayFrom, .ref a_awayTo, .ref a_feastDay, .ref a_rank, .ref a_isWeekly, .ref a_isDouble, .ref a_giftDay, .ref a_giftFrom, .ref a_owed, .ref a_said, .ref a_spared, .ref a_leaveGift, .ref a_leaveFrom, .ref a_leaveTo, .ref a_lateDay, .ref a_lateOffice, .ref a_lateBy, .ref a_guests, .ref a_who, .ref a_used, .ref a_lacks, .ref a_candles, .ref a_masses, .ref a_owing, .ref a_heldOn, .ref a_waits, .ref a_tape, .ref a_text, .int 0, .int 0, .int 0, .int (-1), .int 0, .ref a_statements, .ref a_taken, .ref a_sort, .ref a_first, .ref a_second, .int 0, .int 0])), (a_heldOn, .inl (cI, 365, .inl g1_22))] H → va_D A [(a_guests, .inl (cI, 6, .inl g_70)), (a_used, .inl (cI, 1095, .inl g_74)), (a_lacks, .inl (cI, 1095, .inl g_77)), (a_candles, .inl (cI, 1095, .inl fx)), (a_who, .inl (cI, 4380, .inl f1_16)), (a_owed, .inl (cI, 40, .inl f1_19)), (h, .inr (11, [.int 0, .int 0, .int 0, .int 0, .int 0, .int 0, .int 0, .int x_79, .int 0, .ref a_isPriest, .ref a_bars, .ref a_joined, .ref a_turns, .ref a_awayMonk, .ref a_awayFrom, .ref a_awayTo, .ref a_feastDay, .ref a_rank, .ref a_isWeekly, .ref a_isDouble, .ref a_giftDay, .ref a_giftFrom, .ref a_owed, .ref a_said, .ref a_spared, .ref a_leaveGift, .ref a_leaveFrom, .ref a_leaveTo, .ref a_lateDay, .ref a_lateOffice, .ref a_lateBy, .ref a_guests, .ref a_who, .ref a_used, .ref a_lacks, .ref a_candles, .ref a_masses, .ref a_owing, .ref a_heldOn, .ref a_waits, .ref a_tape, .ref a_text, .int 0, .int 0, .int 0, .int (-1), .int 0, .ref a_statements, .ref a_taken, .ref a_sort, .ref a_first, .ref a_second, .int 0, .int 0])), (a_heldOn, .inl (cI, 365, .inl g1_22))] → va_S A s.heap H locs → ∀ ls : Array Slot, lv_has ls 6 [(3, .int j), (2, .int x_69), (1, .int 0), (0, .ref h)] → W p l e ({ frames := 5, cells := 0, slots := 0, locals := 107 } : Room) s m args below meth c H locs 0 0 Q (F0 m 212 ls []) := by
                                  intro fuel
                                  induction fuel with
                                  | zero =>
                                    intro j fx hmu hj0 hj1 H locs hP hD hS ls hl
                                    exfalso; omega
                                  | succ fuel ih212 =>
                                    intro j fx hmu hj0 hj1 H locs hP hD hS ls hl
                                    refine lv_iload_n hx hb dX12_day_212 rfl (lv_at hl 0 rfl) ?_
                                    refine lv_bipush (v := 8) hx hb dX12_day_213 (by decide) ?_
                                    refine lv_icmp_ge (tgt := 292) hx hb dX12_day_215 (by decide) (fun c_80 => ?_) (fun c_80 => ?_)
                                    · have tc_80 := t_le c_80
                                      refine lv_aload_n hx hb dX12_day_292 rfl (lv_at hl 3 rfl) ?_
                                      refine lv_dup hx hb dX12_day_293 rfl ?_
                                      refine va_get (D := D) (ci := 11) (v := .int 0) (C := RX12) (T := TX12) (N := 54) hx hb hts in_q_day_X12 hown hK.1 hP 6 rfl rfl 8 (by decide) lk11 (fun _ h9 => h9) rfl dX12_day_294 ?_
                                      refine lv_aload_n hx hb dX12_day_297 rfl (lv_at hl 3 rfl) ?_
                                      refine va_get (D := D) (ci := 11) (v := .ref a_candles) (C := RX12) (T := TX12) (N := 54) hx hb hts in_q_day_X12 hown hK.1 hP 6 rfl rfl 35 (by decide) lk12 (fun _ h9 => h9) rfl dX12_day_298 ?_
                                      refine lv_iload_n hx hb dX12_day_301 rfl (lv_at hl 2 rfl) ?_
                                      refine va_iald hx hb hK.1 hP 3 0 rfl rfl (t_in (by omega) (by omega)) dX12_day_302 ?_
                                      refine lv_topi (fun y_81 ey_81 => ?_)
                                      refine lv_iadd hx hb dX12_day_303 ?_
                                      refine lv_topi (fun x_82 ex_82 => ?_)
                                      refine va_put (D := D) (ci := 11) (v := .int x_82) (ty := .int) (C := RX12) (T := TX12) (N := 54) hx hb hts in_q_day_X12 tyX12 tyX12_ok nmX12 hown hK.1 hP hD hS 6 rfl rfl 8 (by decide) lk11 (fun _ h9 => h9) rfl (by decide +kernel) rfl rfl (Nat.le_of_ble_eq_true rfl) dX12_day_304 (fun H locs hP hD hS => ?_)
                                      have hP : va_P D vwCl [(a_guests, .inl (cI, 6, .inl g_70)), (a_used, .inl (cI, 1095, .inl g_74)), (a_lacks, .inl (cI, 1095, .inl g_77)), (a_candles, .inl (cI, 1095, .inl fx)), (a_who, .inl (cI, 4380, .inl f1_16)), (a_owed, .inl (cI, 40, .inl f1_19)), (h, .inr (11, [.int 0, .int 0, .int 0, .int 0, .int 0, .int 0, .int 0, .int x_79, .int x_82, .ref a_isPriest, .ref a_bars, .ref a_joined, .ref a_turns, .ref a_awayMonk, .ref a_awayFrom, .ref a_awayTo, .ref a_feastDay, .ref a_rank, .ref a_isWeekly, .ref a_isDouble, .ref a_giftDay, .ref a_giftFrom, .ref a_owed, .ref a_said, .ref a_spared, .ref a_leaveGift, .ref a_leaveFrom, .ref a_leaveTo, .ref a_lateDay, .ref a_lateOffice, .ref a_lateBy, .ref a_guests, .ref a_who, .ref a_used, .ref a_lacks, .ref a_candles, .ref a_masses, .ref a_owing, .ref a_heldOn, .ref a_waits, .ref a_tape, .ref a_text, .int 0, .int 0, .int 0, .int (-1), .int 0, .ref a_statements, .ref a_taken, .ref a_sort, .ref a_first, .ref a_second, .int 0, .int 0])), (a_heldOn, .inl (cI, 365, .inl g1_22))] H := hP
                                      have hD : va_D A [(a_guests, .inl (cI, 6, .inl g_70)), (a_used, .inl (cI, 1095, .inl g_74)), (a_lacks, .inl (cI, 1095, .inl g_77)), (a_candles, .inl (cI, 1095, .inl fx)), (a_who, .inl (cI, 4380, .inl f1_16)), (a_owed, .inl (cI, 40, .inl f1_19)), (h, .inr (11, [.int 0, .int 0, .int 0, .int 0, .int 0, .int 0, .int 0, .int x_79, .int x_82, .ref a_isPriest, .ref a_bars, .ref a_joined, .ref a_turns, .ref a_awayMonk, .ref a_awayFrom, .ref a_awayTo, .ref a_feastDay, .ref a_rank, .ref a_isWeekly, .ref a_isDouble, .ref a_giftDay, .ref a_giftFrom, .ref a_owed, .ref a_said, .ref a_spared, .ref a_leaveGift, .ref a_leaveFrom, .ref a_leaveTo, .ref a_lateDay, .ref a_lateOffice, .ref a_lateBy, .ref a_guests, .ref a_who, .ref a_used, .ref a_lacks, .ref a_candles, .ref a_masses, .ref a_owing, .ref a_heldOn, .ref a_waits, .ref a_tape, .ref a_text, .int 0, .int 0, .int 0, .int (-1), .int 0, .ref a_statements, .ref a_taken, .ref a_sort, .ref a_first, .ref a_second, .int 0, .int 0])), (a_heldOn, .inl (cI, 365, .inl g1_22))] := hD
                                      refine lv_aload_n hx hb dX12_day_307 rfl (lv_at hl 3 rfl) ?_
                                      refine lv_dup hx hb dX12_day_308 rfl ?_
                                      refine va_get (D := D) (ci := 11) (v := .int 0) (C := RX12) (T := TX12) (N := 54) hx hb hts in_q_day_X12 hown hK.1 hP 6 rfl rfl 0 (by decide) lk0 (fun _ h9 => h9) rfl dX12_day_309 ?_
                                      refine lv_iconst (v := 1) hx hb dX12_day_312 (by decide) ?_
                                      refine lv_iadd hx hb dX12_day_313 ?_
                                      refine lv_topi (fun x_83 ex_83 => ?_)
                                      first | have tx_83 := t_add ex_83 (by omega) (by omega) | skip
                                      refine va_put (D := D) (ci := 11) (v := .int x_83) (ty := .int) (C := RX12) (T := TX12) (N := 54) hx hb hts in_q_day_X12 tyX12 tyX12_ok nmX12 hown hK.1 hP hD hS 6 rfl rfl 0 (by decide) lk0 (fun _ h9 => h9) rfl (by decide +kernel) rfl rfl (Nat.le_of_ble_eq_true rfl) dX12_day_314 (fun H locs hP hD hS => ?_)
                                      have hP : va_P D vwCl [(a_guests, .inl (cI, 6, .inl g_70)), (a_used, .inl (cI, 1095, .inl g_74)), (a_lacks, .inl (cI, 1095, .inl g_77)), (a_candles, .inl (cI, 1095, .inl fx)), (a_who, .inl (cI, 4380, .inl f1_16)), (a_owed, .inl (cI, 40, .inl f1_19)), (h, .inr (11, [.int x_83, .int 0, .int 0, .int 0, .int 0, .int 0, .int 0, .int x_79, .int x_82, .ref a_isPriest, .ref a_bars, .ref a_joined, .ref a_turns, .ref a_awayMonk, .ref a_awayFrom, .ref a_awayTo, .ref a_feastDay, .ref a_rank, .ref a_isWeekly, .ref a_isDouble, .ref a_giftDay, .ref a_giftFrom, .ref a_owed, .ref a_said, .ref a_spared, .ref a_leaveGift, .ref a_leaveFrom, .ref a_leaveTo, .ref a_lateDay, .ref a_lateOffice, .ref a_lateBy, .ref a_guests, .ref a_who, .ref a_used, .ref a_lacks, .ref a_candles, .ref a_masses, .ref a_owing, .ref a_heldOn, .ref a_waits, .ref a_tape, .ref a_text, .int 0, .int 0, .int 0, .int (-1), .int 0, .ref a_statements, .ref a_taken, .ref a_sort, .ref a_first, .ref a_second, .int 0, .int 0])), (a_heldOn, .inl (cI, 365, .inl g1_22))] H := hP
                                      have hD : va_D A [(a_guests, .inl (cI, 6, .inl g_70)), (a_used, .inl (cI, 1095, .inl g_74)), (a_lacks, .inl (cI, 1095, .inl g_77)), (a_candles, .inl (cI, 1095, .inl fx)), (a_who, .inl (cI, 4380, .inl f1_16)), (a_owed, .inl (cI, 40, .inl f1_19)), (h, .inr (11, [.int x_83, .int 0, .int 0, .int 0, .int 0, .int 0, .int 0, .int x_79, .int x_82, .ref a_isPriest, .ref a_bars, .ref a_joined, .ref a_turns, .ref a_awayMonk, .ref a_awayFrom, .ref a_awayTo, .ref a_feastDay, .ref a_rank, .ref a_isWeekly, .ref a_isDouble, .ref a_giftDay, .ref a_giftFrom, .ref a_owed, .ref a_said, .ref a_spared, .ref a_leaveGift, .ref a_leaveFrom, .ref a_leaveTo, .ref a_lateDay, .ref a_lateOffice, .ref a_lateBy, .ref a_guests, .ref a_who, .ref a_used, .ref a_lacks, .ref a_candles, .ref a_masses, .ref a_owing, .ref a_heldOn, .ref a_waits, .ref a_tape, .ref a_text, .int 0, .int 0, .int 0, .int (-1), .int 0, .ref a_statements, .ref a_taken, .ref a_sort, .ref a_first, .ref a_second, .int 0, .int 0])), (a_heldOn, .inl (cI, 365, .inl g1_22))] := hD
                                      refine lv_aload_n hx hb dX12_day_317 rfl (lv_at hl 3 rfl) ?_
                                      refine va_get (D := D) (ci := 11) (v := .int x_83) (C := RX12) (T := TX12) (N := 54) hx hb hts in_q_day_X12 hown hK.1 hP 6 rfl rfl 0 (by decide) lk0 (fun _ h9 => h9) rfl dX12_day_318 ?_
                                      exact hret x_83 (x_83, x_79, x_82, f1_16, f1_19, g1_22, g_70, g_74, g_77, fx) _ _ _ _ (show x_83.toInt = 1 from by omega) rfl (hP.sub [6, 5, 0, 4, 1, 2, 3, 7] rfl) (hD.sub [6, 5, 0, 4, 1, 2, 3, 7] (by decide) rfl) hS dX12_day_321
                                    · have tc_80 := t_nle c_80
                                      refine lv_aload_n hx hb dX12_day_218 rfl (lv_at hl 3 rfl) ?_
                                      refine lv_iload_n hx hb dX12_day_219 rfl (lv_at hl 2 rfl) ?_
                                      refine lv_iload_n hx hb dX12_day_220 rfl (lv_at hl 0 rfl) ?_
                                      have hPc := hP.sub (ws' := [(h, .inr (11, [.int 0, .int 0, .int 0, .int 0, .int 0, .int 0, .int 0, .int x_79, .int 0, .ref a_isPriest, .ref a_bars, .ref a_joined, .ref a_turns, .ref a_awayMonk, .ref a_awayFrom, .ref a_awayTo, .ref a_feastDay, .ref a_rank, .ref a_isWeekly, .ref a_isDouble, .ref a_giftDay, .ref a_giftFrom, .ref a_owed, .ref a_said, .ref a_spared, .ref a_leaveGift, .ref a_leaveFrom, .ref a_leaveTo, .ref a_lateDay, .ref a_lateOffice, .ref a_lateBy, .ref a_guests, .ref a_who, .ref a_used, .ref a_lacks, .ref a_candles, .ref a_masses, .ref a_owing, .ref a_heldOn, .ref a_waits, .ref a_tape, .ref a_text, .int 0, .int 0, .int 0, .int (-1), .int 0, .ref a_statements, .ref a_taken, .ref a_sort, .ref a_first, .ref a_second, .int 0, .int 0]))]) [6] rfl
                                      refine roV (As := [.int 0, .int j]) (rest := []) S (m_begins  ) (cwV 2 hts gX12_day_X12_begins rfl rfl rfl (by decide +kernel) ⟨Nat.le_of_ble_eq_true rfl, Nat.le_of_ble_eq_true rfl⟩) hK hPc (va_recv hK.1 hPc (ci := 11) (q0 := 0) rfl rfl) rfl hl.1 rfl (Nat.le_of_ble_eq_true rfl) dX12_day_221 ⟨Nat.le_of_ble_eq_true rfl, Nat.le_of_ble_eq_true rfl⟩ (fun r_fb hw_fb => ?_)
                                      have hw_fb : r_fb = sunP (rem365 (0 : Int32)) j := hw_fb
                                      have hfb := sunP0_rg j (by omega) (by omega)
                                      rw [← hw_fb] at hfb
                                      refine lv_istore (lv' := [(4, .int r_fb), (3, .int j), (2, .int x_69), (1, .int 0), (0, .ref h)]) hx hb dX12_day_224 hl (by decide) rfl (fun ls hl => ?_)
                                      refine lv_iload hx hb dX12_day_226 (lv_at hl 0 rfl) ?_
                                      refine lv_istore (lv' := [(5, .int r_fb), (4, .int r_fb), (3, .int j), (2, .int x_69), (1, .int 0), (0, .ref h)]) hx hb dX12_day_228 hl (by decide) rfl (fun ls hl => ?_)
                                      have loop230 : ∀ (fuel : Nat) (t : Int32) (fy : Nat → Int32), r_fb.toInt + 30 - t.toInt < (fuel : Int) → (r_fb.toInt ≤ t.toInt) → (t.toInt ≤ r_fb.toInt + 30) → ∀ (H : Heap) (locs : List Loc), va_P D vwCl [(a_guests, .inl (cI, 6, .inl g_70)), (a_used, .inl (cI, 1095, .inl g_74)), (a_lacks, .inl (cI, 1095, .inl g_77)), (a_candles, .inl (cI, 1095, .inl fy)), (a_who, .inl (cI, 4380, .inl f1_16)), (a_owed, .inl (cI, 40, .inl f1_19)), (h, .inr (11, [.int 0, .int 0, .int 0, .int 0, .int 0, .int 0, .int 0, .int x_79, .int 0, .ref a_isPriest, .ref a_bars, .ref a_joined, .ref a_turns, .ref a_awayMonk, .ref a_awayFrom, .ref a_awayTo, .ref a_feastDay, .ref a_rank, .ref a_isWeekly, .ref a_isDouble, .ref a_giftDay, .ref a_giftFrom, .ref a_owed, .ref a_said, .ref a_spared, .ref a_leaveGift, .ref a_leaveFrom, .ref a_leaveTo, .ref a_lateDay, .ref a_lateOffice, .ref a_lateBy, .ref a_guests, .ref a_who, .ref a_used, .ref a_lacks, .ref a_candles, .ref a_masses, .ref a_owing, .ref a_heldOn, .ref a_waits, .ref a_tape, .ref a_text, .int 0, .int 0, .int 0, .int (-1), .int 0, .ref a_statements, .ref a_taken, .ref a_sort, .ref a_first, .ref a_second, .int 0, .int 0])), (a_heldOn, .inl (cI, 365, .inl g1_22))] H → va_D A [(a_guests, .inl (cI, 6, .inl g_70)), (a_used, .inl (cI, 1095, .inl g_74)), (a_lacks, .inl (cI, 1095, .inl g_77)), (a_candles, .inl (cI, 1095, .inl fy)), (a_who, .inl (cI, 4380, .inl f1_16)), (a_owed, .inl (cI, 40, .inl f1_19)), (h, .inr (11, [.int 0, .int 0, .int 0, .int 0, .int 0, .int 0, .int 0, .int x_79, .int 0, .ref a_isPriest, .ref a_bars, .ref a_joined, .ref a_turns, .ref a_awayMonk, .ref a_awayFrom, .ref a_awayTo, .ref a_feastDay, .ref a_rank, .ref a_isWeekly, .ref a_isDouble, .ref a_giftDay, .ref a_giftFrom, .ref a_owed, .ref a_said, .ref a_spared, .ref a_leaveGift, .ref a_leaveFrom, .ref a_leaveTo, .ref a_lateDay, .ref a_lateOffice, .ref a_lateBy, .ref a_guests, .ref a_who, .ref a_used, .ref a_lacks, .ref a_candles, .ref a_masses, .ref a_owing, .ref a_heldOn, .ref a_waits, .ref a_tape, .ref a_text, .int 0, .int 0, .int 0, .int (-1), .int 0, .ref a_statements, .ref a_taken, .ref a_sort, .ref a_first, .ref a_second, .int 0, .int 0])), (a_heldOn, .inl (cI, 365, .inl g1_22))] → va_S A s.heap H locs → ∀ ls : Array Slot, lv_has ls 6 [(5, .int t), (4, .int r_fb), (3, .int j), (2, .int x_69), (1, .int 0), (0, .ref h)] → W p l e ({ frames := 5, cells := 0, slots := 0, locals := 107 } : Room) s m args below meth c H locs 0 0 Q (F0 m 230 ls []) := by
                                        intro fuel
                                        induction fuel with
                                        | zero =>
                                          intro t fy hmu ht0 ht1 H locs hP hD hS ls hl
                                          exfalso; omega
                                        | succ fuel ih230 =>
                                          intro t fy hmu ht0 ht1 H locs hP hD hS ls hl
                                          refine lv_iload hx hb dX12_day_230 (lv_at hl 0 rfl) ?_
                                          refine lv_iload hx hb dX12_day_232 (lv_at hl 1 rfl) ?_
                                          refine lv_bipush (v := 30) hx hb dX12_day_234 (by decide) ?_
                                          refine lv_iadd hx hb dX12_day_236 ?_
                                          refine lv_topi (fun x_84 ex_84 => ?_)
                                          first | have tx_84 := t_add ex_84 (by omega) (by omega) | skip
                                          refine lv_icmp_ge (tgt := 286) hx hb dX12_day_237 (by decide) (fun c_85 => ?_) (fun c_85 => ?_)
                                          · have tc_85 := t_le c_85
                                            obtain ⟨x_86, ex_86⟩ : ∃ y : Int32, y = j + 1 := ⟨_, rfl⟩
                                            refine lv_iinc (v := x_86) (lv' := [(3, .int x_86), (5, .int t), (4, .int r_fb), (2, .int x_69), (1, .int 0), (0, .ref h)]) hx hb dX12_day_286 hl (k := 2) rfl (by rw [ex_86]; rfl) (by decide) rfl (fun ls hl => ?_)
                                            first | have tx_86 := t_add ex_86 (by omega) (by omega) | skip
                                            refine lv_goto (tgt := 212) hx hb dX12_day_289 (by decide) ?_
                                            exact ih212 x_86 fy (by omega) (by omega) (by omega) _ _ hP hD hS ls (lv_sub hl [0, 3, 4, 5] rfl)
                                          · have tc_85 := t_nle c_85
                                            refine lv_aload_n hx hb dX12_day_240 rfl (lv_at hl 5 rfl) ?_
                                            refine va_get (D := D) (ci := 11) (v := .ref a_candles) (C := RX12) (T := TX12) (N := 54) hx hb hts in_q_day_X12 hown hK.1 hP 6 rfl rfl 35 (by decide) lk12 (fun _ h9 => h9) rfl dX12_day_241 ?_
                                            refine lv_iload_n hx hb dX12_day_244 rfl (lv_at hl 4 rfl) ?_
                                            refine lv_dup2_11 hx hb dX12_day_245 rfl rfl ?_
                                            refine va_iald hx hb hK.1 hP 3 0 rfl rfl (t_in (by omega) (by omega)) dX12_day_246 ?_
                                            refine lv_topi (fun y_87 ey_87 => ?_)
                                            refine lv_iload hx hb dX12_day_247 (lv_at hl 0 rfl) ?_
                                            refine lv_iload_n hx hb dX12_day_249 rfl (lv_at hl 4 rfl) ?_
                                            refine lv_sipush (v := 365) hx hb dX12_day_250 (by decide) ?_
                                            refine lv_irem hx hb dX12_day_253 (by decide) ?_
                                            refine lv_topi (fun x_88 ex_88 => ?_)
                                            have hPc := hP.sub (ws' := []) [] rfl
                                            refine roS (As := [.int x_88]) (rest := [.int t, .int y_87, .int 0, .ref a_candles]) S (m_rises  ) (va_cwS 1 hts gX12_day_X12_rises rfl rfl rfl (by decide +kernel) ⟨Nat.le_of_ble_eq_true rfl, Nat.le_of_ble_eq_true rfl⟩) hK hPc rfl hl.1 rfl (Nat.le_of_ble_eq_true rfl) dX12_day_254 ⟨Nat.le_of_ble_eq_true rfl, Nat.le_of_ble_eq_true rfl⟩ (fun r_89 hw_89 => ?_)
                                            have hw_89 : r_89 = sunR x_88 := hw_89
                                            refine lv_icmp_lt (tgt := 273) hx hb dX12_day_257 (by decide) (fun c_90 => ?_) (fun c_90 => ?_)
                                            · have tc_90 := t_lt c_90
                                              refine lv_iconst (v := 1) hx hb dX12_day_273 (by decide) ?_
                                              refine lv_goto (tgt := 278) hx hb dX12_day_274 (by decide) ?_
                                              refine lv_iadd hx hb dX12_day_278 ?_
                                              refine lv_topi (fun x_91 ex_91 => ?_)
                                              refine va_iast hx hb hK.1 hP hD hS 3 0 rfl rfl (t_in (by omega) (by omega)) dX12_day_279 (fun H locs hP hD hS => ?_)
                                              obtain ⟨g_92, eg_92⟩ : ∃ z : Nat → Int32, z = upd fy ((0 : Int32).toNatClampNeg) x_91 := ⟨_, rfl⟩
                                              rw [← eg_92] at hP hD
                                              have hP : va_P D vwCl [(a_guests, .inl (cI, 6, .inl g_70)), (a_used, .inl (cI, 1095, .inl g_74)), (a_lacks, .inl (cI, 1095, .inl g_77)), (a_candles, .inl (cI, 1095, .inl g_92)), (a_who, .inl (cI, 4380, .inl f1_16)), (a_owed, .inl (cI, 40, .inl f1_19)), (h, .inr (11, [.int 0, .int 0, .int 0, .int 0, .int 0, .int 0, .int 0, .int x_79, .int 0, .ref a_isPriest, .ref a_bars, .ref a_joined, .ref a_turns, .ref a_awayMonk, .ref a_awayFrom, .ref a_awayTo, .ref a_feastDay, .ref a_rank, .ref a_isWeekly, .ref a_isDouble, .ref a_giftDay, .ref a_giftFrom, .ref a_owed, .ref a_said, .ref a_spared, .ref a_leaveGift, .ref a_leaveFrom, .ref a_leaveTo, .ref a_lateDay, .ref a_lateOffice, .ref a_lateBy, .ref a_guests, .ref a_who, .ref a_used, .ref a_lacks, .ref a_candles, .ref a_masses, .ref a_owing, .ref a_heldOn, .ref a_waits, .ref a_tape, .ref a_text, .int 0, .int 0, .int 0, .int (-1), .int 0, .ref a_statements, .ref a_taken, .ref a_sort, .ref a_first, .ref a_second, .int 0, .int 0])), (a_heldOn, .inl (cI, 365, .inl g1_22))] H := hP
                                              have hD : va_D A [(a_guests, .inl (cI, 6, .inl g_70)), (a_used, .inl (cI, 1095, .inl g_74)), (a_lacks, .inl (cI, 1095, .inl g_77)), (a_candles, .inl (cI, 1095, .inl g_92)), (a_who, .inl (cI, 4380, .inl f1_16)), (a_owed, .inl (cI, 40, .inl f1_19)), (h, .inr (11, [.int 0, .int 0, .int 0, .int 0, .int 0, .int 0, .int 0, .int x_79, .int 0, .ref a_isPriest, .ref a_bars, .ref a_joined, .ref a_turns, .ref a_awayMonk, .ref a_awayFrom, .ref a_awayTo, .ref a_feastDay, .ref a_rank, .ref a_isWeekly, .ref a_isDouble, .ref a_giftDay, .ref a_giftFrom, .ref a_owed, .ref a_said, .ref a_spared, .ref a_leaveGift, .ref a_leaveFrom, .ref a_leaveTo, .ref a_lateDay, .ref a_lateOffice, .ref a_lateBy, .ref a_guests, .ref a_who, .ref a_used, .ref a_lacks, .ref a_candles, .ref a_masses, .ref a_owing, .ref a_heldOn, .ref a_waits, .ref a_tape, .ref a_text, .int 0, .int 0, .int 0, .int (-1), .int 0, .ref a_statements, .ref a_taken, .ref a_sort, .ref a_first, .ref a_second, .int 0, .int 0])), (a_heldOn, .inl (cI, 365, .inl g1_22))] := hD
                                              obtain ⟨x_93, ex_93⟩ : ∃ y : Int32, y = t + 1 := ⟨_, rfl⟩
                                              refine lv_iinc (v := x_93) (lv' := [(5, .int x_93), (4, .int r_fb), (3, .int j), (2, .int x_69), (1, .int 0), (0, .ref h)]) hx hb dX12_day_280 hl (k := 0) rfl (by rw [ex_93]; rfl) (by decide) rfl (fun ls hl => ?_)
                                              first | have tx_93 := t_add ex_93 (by omega) (by omega) | skip
                                              refine lv_goto (tgt := 230) hx hb dX12_day_283 (by decide) ?_
                                              exact ih230 x_93 g_92 (by omega) (by omega) (by omega) _ _ hP hD hS ls (lv_sub hl [0, 1, 2, 3, 4, 5] rfl)
                                            · have tc_90 := t_nlt c_90
                                              refine lv_iload hx hb dX12_day_260 (lv_at hl 0 rfl) ?_
                                              refine lv_iload_n hx hb dX12_day_262 rfl (lv_at hl 4 rfl) ?_
                                              refine lv_sipush (v := 365) hx hb dX12_day_263 (by decide) ?_
                                              refine lv_irem hx hb dX12_day_266 (by decide) ?_
                                              refine lv_topi (fun x_94 ex_94 => ?_)
                                              have hPc := hP.sub (ws' := []) [] rfl
                                              refine roS (As := [.int x_94]) (rest := [.int t, .int y_87, .int 0, .ref a_candles]) S (m_sets  ) (va_cwS 1 hts gX12_day_X12_sets rfl rfl rfl (by decide +kernel) ⟨Nat.le_of_ble_eq_true rfl, Nat.le_of_ble_eq_true rfl⟩) hK hPc rfl hl.1 rfl (Nat.le_of_ble_eq_true rfl) dX12_day_267 ⟨Nat.le_of_ble_eq_true rfl, Nat.le_of_ble_eq_true rfl⟩ (fun r_95 hw_95 => ?_)
                                              have hw_95 : r_95 = sunS x_94 := hw_95
                                              refine lv_icmp_lt (tgt := 277) hx hb dX12_day_270 (by decide) (fun c_96 => ?_) (fun c_96 => ?_)
                                              · have tc_96 := t_lt c_96
                                                refine lv_iconst (v := 0) hx hb dX12_day_277 (by decide) ?_
                                                refine lv_iadd hx hb dX12_day_278 ?_
                                                refine lv_topi (fun x_97 ex_97 => ?_)
                                                refine va_iast hx hb hK.1 hP hD hS 3 0 rfl rfl (t_in (by omega) (by omega)) dX12_day_279 (fun H locs hP hD hS => ?_)
                                                obtain ⟨g_98, eg_98⟩ : ∃ z : Nat → Int32, z = upd fy ((0 : Int32).toNatClampNeg) x_97 := ⟨_, rfl⟩
                                                rw [← eg_98] at hP hD
                                                have hP : va_P D vwCl [(a_guests, .inl (cI, 6, .inl g_70)), (a_used, .inl (cI, 1095, .inl g_74)), (a_lacks, .inl (cI, 1095, .inl g_77)), (a_candles, .inl (cI, 1095, .inl g_98)), (a_who, .inl (cI, 4380, .inl f1_16)), (a_owed, .inl (cI, 40, .inl f1_19)), (h, .inr (11, [.int 0, .int 0, .int 0, .int 0, .int 0, .int 0, .int 0, .int x_79, .int 0, .ref a_isPriest, .ref a_bars, .ref a_joined, .ref a_turns, .ref a_awayMonk, .ref a_awayFrom, .ref a_awayTo, .ref a_feastDay, .ref a_rank, .ref a_isWeekly, .ref a_isDouble, .ref a_giftDay, .ref a_giftFrom, .ref a_owed, .ref a_said, .ref a_spared, .ref a_leaveGift, .ref a_leaveFrom, .ref a_leaveTo, .ref a_lateDay, .ref a_lateOffice, .ref a_lateBy, .ref a_guests, .ref a_who, .ref a_used, .ref a_lacks, .ref a_candles, .ref a_masses, .ref a_owing, .ref a_heldOn, .ref a_waits, .ref a_tape, .ref a_text, .int 0, .int 0, .int 0, .int (-1), .int 0, .ref a_statements, .ref a_taken, .ref a_sort, .ref a_first, .ref a_second, .int 0, .int 0])), (a_heldOn, .inl (cI, 365, .inl g1_22))] H := hP
                                                have hD : va_D A [(a_guests, .inl (cI, 6, .inl g_70)), (a_used, .inl (cI, 1095, .inl g_74)), (a_lacks, .inl (cI, 1095, .inl g_77)), (a_candles, .inl (cI, 1095, .inl g_98)), (a_who, .inl (cI, 4380, .inl f1_16)), (a_owed, .inl (cI, 40, .inl f1_19)), (h, .inr (11, [.int 0, .int 0, .int 0, .int 0, .int 0, .int 0, .int 0, .int x_79, .int 0, .ref a_isPriest, .ref a_bars, .ref a_joined, .ref a_turns, .ref a_awayMonk, .ref a_awayFrom, .ref a_awayTo, .ref a_feastDay, .ref a_rank, .ref a_isWeekly, .ref a_isDouble, .ref a_giftDay, .ref a_giftFrom, .ref a_owed, .ref a_said, .ref a_spared, .ref a_leaveGift, .ref a_leaveFrom, .ref a_leaveTo, .ref a_lateDay, .ref a_lateOffice, .ref a_lateBy, .ref a_guests, .ref a_who, .ref a_used, .ref a_lacks, .ref a_candles, .ref a_masses, .ref a_owing, .ref a_heldOn, .ref a_waits, .ref a_tape, .ref a_text, .int 0, .int 0, .int 0, .int (-1), .int 0, .ref a_statements, .ref a_taken, .ref a_sort, .ref a_first, .ref a_second, .int 0, .int 0])), (a_heldOn, .inl (cI, 365, .inl g1_22))] := hD
                                                obtain ⟨x_99, ex_99⟩ : ∃ y : Int32, y = t + 1 := ⟨_, rfl⟩
                                                refine lv_iinc (v := x_99) (lv' := [(5, .int x_99), (4, .int r_fb), (3, .int j), (2, .int x_69), (1, .int 0), (0, .ref h)]) hx hb dX12_day_280 hl (k := 0) rfl (by rw [ex_99]; rfl) (by decide) rfl (fun ls hl => ?_)
                                                first | have tx_99 := t_add ex_99 (by omega) (by omega) | skip
                                                refine lv_goto (tgt := 230) hx hb dX12_day_283 (by decide) ?_
                                                exact ih230 x_99 g_98 (by omega) (by omega) (by omega) _ _ hP hD hS ls (lv_sub hl [0, 1, 2, 3, 4, 5] rfl)
                                              · have tc_96 := t_nlt c_96
                                                refine lv_iconst (v := 1) hx hb dX12_day_273 (by decide) ?_
                                                refine lv_goto (tgt := 278) hx hb dX12_day_274 (by decide) ?_
                                                refine lv_iadd hx hb dX12_day_278 ?_
                                                refine lv_topi (fun x_100 ex_100 => ?_)
                                                refine va_iast hx hb hK.1 hP hD hS 3 0 rfl rfl (t_in (by omega) (by omega)) dX12_day_279 (fun H locs hP hD hS => ?_)
                                                obtain ⟨g_101, eg_101⟩ : ∃ z : Nat → Int32, z = upd fy ((0 : Int32).toNatClampNeg) x_100 := ⟨_, rfl⟩
                                                rw [← eg_101] at hP hD
                                                have hP : va_P D vwCl [(a_guests, .inl (cI, 6, .inl g_70)), (a_used, .inl (cI, 1095, .inl g_74)), (a_lacks, .inl (cI, 1095, .inl g_77)), (a_candles, .inl (cI, 1095, .inl g_101)), (a_who, .inl (cI, 4380, .inl f1_16)), (a_owed, .inl (cI, 40, .inl f1_19)), (h, .inr (11, [.int 0, .int 0, .int 0, .int 0, .int 0, .int 0, .int 0, .int x_79, .int 0, .ref a_isPriest, .ref a_bars, .ref a_joined, .ref a_turns, .ref a_awayMonk, .ref a_awayFrom, .ref a_awayTo, .ref a_feastDay, .ref a_rank, .ref a_isWeekly, .ref a_isDouble, .ref a_giftDay, .ref a_giftFrom, .ref a_owed, .ref a_said, .ref a_spared, .ref a_leaveGift, .ref a_leaveFrom, .ref a_leaveTo, .ref a_lateDay, .ref a_lateOffice, .ref a_lateBy, .ref a_guests, .ref a_who, .ref a_used, .ref a_lacks, .ref a_candles, .ref a_masses, .ref a_owing, .ref a_heldOn, .ref a_waits, .ref a_tape, .ref a_text, .int 0, .int 0, .int 0, .int (-1), .int 0, .ref a_statements, .ref a_taken, .ref a_sort, .ref a_first, .ref a_second, .int 0, .int 0])), (a_heldOn, .inl (cI, 365, .inl g1_22))] H := hP
                                                have hD : va_D A [(a_guests, .inl (cI, 6, .inl g_70)), (a_used, .inl (cI, 1095, .inl g_74)), (a_lacks, .inl (cI, 1095, .inl g_77)), (a_candles, .inl (cI, 1095, .inl g_101)), (a_who, .inl (cI, 4380, .inl f1_16)), (a_owed, .inl (cI, 40, .inl f1_19)), (h, .inr (11, [.int 0, .int 0, .int 0, .int 0, .int 0, .int 0, .int 0, .int x_79, .int 0, .ref a_isPriest, .ref a_bars, .ref a_joined, .ref a_turns, .ref a_awayMonk, .ref a_awayFrom, .ref a_awayTo, .ref a_feastDay, .ref a_rank, .ref a_isWeekly, .ref a_isDouble, .ref a_giftDay, .ref a_giftFrom, .ref a_owed, .ref a_said, .ref a_spared, .ref a_leaveGift, .ref a_leaveFrom, .ref a_leaveTo, .ref a_lateDay, .ref a_lateOffice, .ref a_lateBy, .ref a_guests, .ref a_who, .ref a_used, .ref a_lacks, .ref a_candles, .ref a_masses, .ref a_owing, .ref a_heldOn, .ref a_waits, .ref a_tape, .ref a_text, .int 0, .int 0, .int 0, .int (-1), .int 0, .ref a_statements, .ref a_taken, .ref a_sort, .ref a_first, .ref a_second, .int 0, .int 0])), (a_heldOn, .inl (cI, 365, .inl g1_22))] := hD
                                                obtain ⟨x_102, ex_102⟩ : ∃ y : Int32, y = t + 1 := ⟨_, rfl⟩
                                                refine lv_iinc (v := x_102) (lv' := [(5, .int x_102), (4, .int r_fb), (3, .int j), (2, .int x_69), (1, .int 0), (0, .ref h)]) hx hb dX12_day_280 hl (k := 0) rfl (by rw [ex_102]; rfl) (by decide) rfl (fun ls hl => ?_)
                                                first | have tx_102 := t_add ex_102 (by omega) (by omega) | skip
                                                refine lv_goto (tgt := 230) hx hb dX12_day_283 (by decide) ?_
                                                exact ih230 x_102 g_101 (by omega) (by omega) (by omega) _ _ hP hD hS ls (lv_sub hl [0, 1, 2, 3, 4, 5] rfl)
                                      exact loop230 ((r_fb.toInt + 30 - r_fb.toInt).toNat + 1) r_fb fx (by omega) (by omega) (by omega) _ _ hP hD hS ls (lv_sub hl [0, 1, 2, 3, 4, 5] rfl)
                                exact loop212 ((8 - (0 : Int32).toInt).toNat + 1) 0 f_candles (by omega) (by omega) (by omega) _ _ hP hD hS ls (lv_sub hl [0, 1, 2, 3] rfl)
                              · exact absurd c_72 (by decide)
                · exact absurd c_21 (by decide)
              · exact absurd c_20 (by decide)
            · exact absurd c_18 (by decide)
  · exact absurd c_1 (by decide)

set_option maxHeartbeats 8000000 in
set_option maxRecDepth 100000 in
theorem q_turn {l : Launch} {D : va_G} {cI cZ cB : ClassId} {h a_isPriest a_bars a_joined a_turns a_awayMonk a_awayFrom a_awayTo a_feastDay a_rank a_isWeekly a_isDouble a_giftDay a_giftFrom a_owed a_said a_spared a_leaveGift a_leaveFrom a_leaveTo a_lateDay a_lateOffice a_lateBy a_guests a_who a_used a_lacks a_candles a_masses a_owing a_heldOn a_waits a_tape a_text a_statements a_taken a_sort a_first a_second : Nat} {d k : Int32}  : Met l yX12_turn wsX12_turn ({ frames := 2, cells := 0, slots := 0, locals := 43 }) (RO D cI cZ cB [.ref h, .int d, .int k] [(h, .inr (11, [.int 0, .int 0, .int 0, .int 0, .int 0, .int 0, .int 0, .int 0, .int 0, .ref a_isPriest, .ref a_bars, .ref a_joined, .ref a_turns, .ref a_awayMonk, .ref a_awayFrom, .ref a_awayTo, .ref a_feastDay, .ref a_rank, .ref a_isWeekly, .ref a_isDouble, .ref a_giftDay, .ref a_giftFrom, .ref a_owed, .ref a_said, .ref a_spared, .ref a_leaveGift, .ref a_leaveFrom, .ref a_leaveTo, .ref a_lateDay, .ref a_lateOffice, .ref a_lateBy, .ref a_guests, .ref a_who, .ref a_used, .ref a_lacks, .ref a_candles, .ref a_masses, .ref a_owing, .ref a_heldOn, .ref a_waits, .ref a_tape, .ref a_text, .int 0, .int 0, .int 0, .int (-1), .int 0, .ref a_statements, .ref a_taken, .ref a_sort, .ref a_first, .ref a_second, .int 0, .int 0]))]) (vp_Si (fun r : Int32 => r.toInt = -1)) 0 0 (fun _ => False) := by
  refine ro_ret (cc := cX12_turn) (maxL := 3) (ty := .int) (own := RX12) (by decide) rfl rfl (Nat.le_of_ble_eq_true rfl) ?_
  intro p e s m args below meth c Q S hret hP hK ls hl
  obtain ⟨hx, hb, hml, hown, hts⟩ := id S
  have hl : lv_has ls 3 [(0, .ref h), (1, .int d), (2, .int k)] := hl
  have kkm1 : (-1 : Int32).toInt = -1 := by decide
  have kk0 : (0 : Int32).toInt = 0 := by decide
  have kk3 : (3 : Int32).toInt = 3 := by decide
  have kk4 : (4 : Int32).toInt = 4 := by decide
  refine lv_aload_n hx hb dX12_turn_0 rfl (lv_at hl 0 rfl) ?_
  refine lv_iload_n hx hb dX12_turn_1 rfl (lv_at hl 1 rfl) ?_
  have hPc := hP.sub (ws' := [(h, .inr (11, [.int 0, .int 0, .int 0, .int 0, .int 0, .int 0, .int 0, .int 0, .int 0, .ref a_isPriest, .ref a_bars, .ref a_joined, .ref a_turns, .ref a_awayMonk, .ref a_awayFrom, .ref a_awayTo, .ref a_feastDay, .ref a_rank, .ref a_isWeekly, .ref a_isDouble, .ref a_giftDay, .ref a_giftFrom, .ref a_owed, .ref a_said, .ref a_spared, .ref a_leaveGift, .ref a_leaveFrom, .ref a_leaveTo, .ref a_lateDay, .ref a_lateOffice, .ref a_lateBy, .ref a_guests, .ref a_who, .ref a_used, .ref a_lacks, .ref a_candles, .ref a_masses, .ref a_owing, .ref a_heldOn, .ref a_waits, .ref a_tape, .ref a_text, .int 0, .int 0, .int 0, .int (-1), .int 0, .ref a_statements, .ref a_taken, .ref a_sort, .ref a_first, .ref a_second, .int 0, .int 0]))]) [0] rfl
  refine roV (As := [.int d]) (rest := []) S (m_hasGone  ) (cwV 1 hts gX12_turn_X12_hasGone rfl rfl rfl (by decide +kernel) ⟨Nat.le_of_ble_eq_true rfl, Nat.le_of_ble_eq_true rfl⟩) hK hPc (va_recv hK.1 hPc (ci := 11) (q0 := 0) rfl rfl) rfl hl.1 rfl (Nat.le_of_ble_eq_true rfl) dX12_turn_2 ⟨Nat.le_of_ble_eq_true rfl, Nat.le_of_ble_eq_true rfl⟩ (fun r_1 hw_1 => ?_)
  have hw_1 : r_1.toInt = 0 := hw_1
  refine lv_if_eq (tgt := 30) hx hb dX12_turn_5 (by decide) (fun c_2 => ?_) (fun c_2 => ?_)
  · have tc_2 := t_eq c_2
    refine lv_iconst (v := (-1)) hx hb dX12_turn_30 (by decide) ?_
    exact hret (-1) _ _ (show (-1 : Int32).toInt = -1 from by omega) rfl dX12_turn_31
  · have tc_2 := t_neq c_2
    exfalso; omega

set_option maxHeartbeats 8000000 in
set_option maxRecDepth 100000 in
theorem q_turns {l : Launch} {D : va_G} {cI cZ cB : ClassId} {h a_isPriest a_bars a_joined a_turns a_awayMonk a_awayFrom a_awayTo a_feastDay a_rank a_isWeekly a_isDouble a_giftDay a_giftFrom a_owed a_said a_spared a_leaveGift a_leaveFrom a_leaveTo a_lateDay a_lateOffice a_lateBy a_guests a_who a_used a_lacks a_candles a_masses a_owing a_heldOn a_waits a_tape a_text a_statements a_taken a_sort a_first a_second : Nat} {i k : Int32}  : Met l yX12_turns wsX12_turns ({ frames := 2, cells := 0, slots := 0, locals := 43 }) (RO D cI cZ cB [.ref h, .int i, .int k] [(h, .inr (11, [.int 0, .int 0, .int 0, .int 0, .int 0, .int 0, .int 0, .int 0, .int 0, .ref a_isPriest, .ref a_bars, .ref a_joined, .ref a_turns, .ref a_awayMonk, .ref a_awayFrom, .ref a_awayTo, .ref a_feastDay, .ref a_rank, .ref a_isWeekly, .ref a_isDouble, .ref a_giftDay, .ref a_giftFrom, .ref a_owed, .ref a_said, .ref a_spared, .ref a_leaveGift, .ref a_leaveFrom, .ref a_leaveTo, .ref a_lateDay, .ref a_lateOffice, .ref a_lateBy, .ref a_guests, .ref a_who, .ref a_used, .ref a_lacks, .ref a_candles, .ref a_masses, .ref a_owing, .ref a_heldOn, .ref a_waits, .ref a_tape, .ref a_text, .int 0, .int 0, .int 0, .int (-1), .int 0, .ref a_statements, .ref a_taken, .ref a_sort, .ref a_first, .ref a_second, .int 0, .int 0]))]) (vp_Si (fun r : Int32 => r.toInt = -1)) 0 0 (fun _ => False) := by
  refine ro_ret (cc := cX12_turns) (maxL := 5) (ty := .int) (own := RX12) (by decide) rfl rfl (Nat.le_of_ble_eq_true rfl) ?_
  intro p e s m args below meth c Q S hret hP hK ls hl
  obtain ⟨hx, hb, hml, hown, hts⟩ := id S
  have hl : lv_has ls 5 [(0, .ref h), (1, .int i), (2, .int k)] := hl
  have kkm1 : (-1 : Int32).toInt = -1 := by decide
  have kk0 : (0 : Int32).toInt = 0 := by decide
  have kk1 : (1 : Int32).toInt = 1 := by decide
  have kk4 : (4 : Int32).toInt = 4 := by decide
  refine lv_aload_n hx hb dX12_turns_0 rfl (lv_at hl 0 rfl) ?_
  refine lv_iload_n hx hb dX12_turns_1 rfl (lv_at hl 1 rfl) ?_
  have hPc := hP.sub (ws' := [(h, .inr (11, [.int 0, .int 0, .int 0, .int 0, .int 0, .int 0, .int 0, .int 0, .int 0, .ref a_isPriest, .ref a_bars, .ref a_joined, .ref a_turns, .ref a_awayMonk, .ref a_awayFrom, .ref a_awayTo, .ref a_feastDay, .ref a_rank, .ref a_isWeekly, .ref a_isDouble, .ref a_giftDay, .ref a_giftFrom, .ref a_owed, .ref a_said, .ref a_spared, .ref a_leaveGift, .ref a_leaveFrom, .ref a_leaveTo, .ref a_lateDay, .ref a_lateOffice, .ref a_lateBy, .ref a_guests, .ref a_who, .ref a_used, .ref a_lacks, .ref a_candles, .ref a_masses, .ref a_owing, .ref a_heldOn, .ref a_waits, .ref a_tape, .ref a_text, .int 0, .int 0, .int 0, .int (-1), .int 0, .ref a_statements, .ref a_taken, .ref a_sort, .ref a_first, .ref a_second, .int 0, .int 0]))]) [0] rfl
  refine roV (As := [.int i]) (rest := []) S (m_isMonk  ) (cwV 1 hts gX12_turns_X12_isMonk rfl rfl rfl (by decide +kernel) ⟨Nat.le_of_ble_eq_true rfl, Nat.le_of_ble_eq_true rfl⟩) hK hPc (va_recv hK.1 hPc (ci := 11) (q0 := 0) rfl rfl) rfl hl.1 rfl (Nat.le_of_ble_eq_true rfl) dX12_turns_2 ⟨Nat.le_of_ble_eq_true rfl, Nat.le_of_ble_eq_true rfl⟩ (fun r_1 hw_1 => ?_)
  have hw_1 : r_1.toInt = 0 := hw_1
  refine lv_if_eq (tgt := 17) hx hb dX12_turns_5 (by decide) (fun c_2 => ?_) (fun c_2 => ?_)
  · have tc_2 := t_eq c_2
    refine lv_iconst (v := (-1)) hx hb dX12_turns_17 (by decide) ?_
    exact hret (-1) _ _ (show (-1 : Int32).toInt = -1 from by omega) rfl dX12_turns_18
  · have tc_2 := t_neq c_2
    exfalso; omega

theorem in_q_fail_X12 : ∀ w ∈ wsX120, w ∈ wsX12_fail := by decide +kernel
set_option maxHeartbeats 8000000 in
set_option maxRecDepth 100000 in
theorem q_fail {l : Launch} {D : va_G} {cI cZ cB : ClassId} {h a_isPriest a_bars a_joined a_turns a_awayMonk a_awayFrom a_awayTo a_feastDay a_rank a_isWeekly a_isDouble a_giftDay a_giftFrom a_owed a_said a_spared a_leaveGift a_leaveFrom a_leaveTo a_lateDay a_lateOffice a_lateBy a_guests a_who a_used a_lacks a_candles a_masses a_owing a_heldOn a_waits a_tape a_text a_statements a_taken a_sort a_first a_second : Nat} {k : Int32}  : Met l yX12_fail wsX12_fail ({ frames := 0, cells := 0, slots := 0, locals := 0 }) (RO D cI cZ cB [.ref h, .int k] [(h, .inr (11, [.int 0, .int 0, .int 0, .int 0, .int 0, .int 0, .int 0, .int 0, .int 0, .ref a_isPriest, .ref a_bars, .ref a_joined, .ref a_turns, .ref a_awayMonk, .ref a_awayFrom, .ref a_awayTo, .ref a_feastDay, .ref a_rank, .ref a_isWeekly, .ref a_isDouble, .ref a_giftDay, .ref a_giftFrom, .ref a_owed, .ref a_said, .ref a_spared, .ref a_leaveGift, .ref a_leaveFrom, .ref a_leaveTo, .ref a_lateDay, .ref a_lateOffice, .ref a_lateBy, .ref a_guests, .ref a_who, .ref a_used, .ref a_lacks, .ref a_candles, .ref a_masses, .ref a_owing, .ref a_heldOn, .ref a_waits, .ref a_tape, .ref a_text, .int 0, .int 0, .int 0, .int (-1), .int 0, .ref a_statements, .ref a_taken, .ref a_sort, .ref a_first, .ref a_second, .int 0, .int 0]))]) (vp_Si (fun r : Int32 => r.toInt = -2)) 0 0 (fun _ => False) := by
  refine ro_ret (cc := cX12_fail) (maxL := 5) (ty := .int) (own := RX12) (by decide) rfl rfl (Nat.le_of_ble_eq_true rfl) ?_
  intro p e s m args below meth c Q S hret hP hK ls hl
  obtain ⟨hx, hb, hml, hown, hts⟩ := id S
  have hl : lv_has ls 5 [(0, .ref h), (1, .int k)] := hl
  have kkm2 : (-2 : Int32).toInt = -2 := by decide
  have kkm1 : (-1 : Int32).toInt = -1 := by decide
  have kk0 : (0 : Int32).toInt = 0 := by decide
  have kk1 : (1 : Int32).toInt = 1 := by decide
  have kk3 : (3 : Int32).toInt = 3 := by decide
  have kk4 : (4 : Int32).toInt = 4 := by decide
  have lk0 := hts (.fieldLink RX12 140 "AbbeyHoursModel" "today" "I") (by decide +kernel)
  refine lv_aload_n hx hb dX12_fail_0 rfl (lv_at hl 0 rfl) ?_
  refine va_get (D := D) (ci := 11) (v := .int 0) (C := RX12) (T := TX12) (N := 54) hx hb hts in_q_fail_X12 hown hK.1 hP 0 rfl rfl 0 (by decide) lk0 (fun _ h9 => h9) rfl dX12_fail_1 ?_
  refine lv_iconst (v := 1) hx hb dX12_fail_4 (by decide) ?_
  refine lv_isub hx hb dX12_fail_5 ?_
  refine lv_topi (fun x_1 ex_1 => ?_)
  first | have tx_1 := t_sub ex_1 (by omega) (by omega) | skip
  refine lv_istore_n (lv' := [(2, .int x_1), (0, .ref h), (1, .int k)]) hx hb dX12_fail_6 rfl hl (by decide) rfl (fun ls hl => ?_)
  refine lv_iload_n hx hb dX12_fail_7 rfl (lv_at hl 0 rfl) ?_
  refine lv_if_lt (tgt := 34) hx hb dX12_fail_8 (by decide) (fun c_2 => ?_) (fun c_2 => ?_)
  · have tc_2 := t_lt c_2
    refine lv_bipush (v := (-2)) hx hb dX12_fail_34 (by decide) ?_
    exact hret (-2) _ _ (show (-2 : Int32).toInt = -2 from by omega) rfl dX12_fail_36
  · have tc_2 := t_nlt c_2
    exfalso; omega

set_option maxHeartbeats 8000000 in
set_option maxRecDepth 100000 in
theorem q_dayOf {l : Launch} {D : va_G} {cI cZ cB : ClassId} {h a_isPriest a_bars a_joined a_turns a_awayMonk a_awayFrom a_awayTo a_feastDay a_rank a_isWeekly a_isDouble a_giftDay a_giftFrom a_owed a_said a_spared a_leaveGift a_leaveFrom a_leaveTo a_lateDay a_lateOffice a_lateBy a_guests a_who a_used a_lacks a_candles a_masses a_owing a_heldOn a_waits a_tape a_text a_statements a_taken a_sort a_first a_second : Nat} {d w : Int32}  : Met l yX12_dayOf wsX12_dayOf ({ frames := 2, cells := 0, slots := 0, locals := 43 }) (RO D cI cZ cB [.ref h, .int d, .int w] [(h, .inr (11, [.int 0, .int 0, .int 0, .int 0, .int 0, .int 0, .int 0, .int 0, .int 0, .ref a_isPriest, .ref a_bars, .ref a_joined, .ref a_turns, .ref a_awayMonk, .ref a_awayFrom, .ref a_awayTo, .ref a_feastDay, .ref a_rank, .ref a_isWeekly, .ref a_isDouble, .ref a_giftDay, .ref a_giftFrom, .ref a_owed, .ref a_said, .ref a_spared, .ref a_leaveGift, .ref a_leaveFrom, .ref a_leaveTo, .ref a_lateDay, .ref a_lateOffice, .ref a_lateBy, .ref a_guests, .ref a_who, .ref a_used, .ref a_lacks, .ref a_candles, .ref a_masses, .ref a_owing, .ref a_heldOn, .ref a_waits, .ref a_tape, .ref a_text, .int 0, .int 0, .int 0, .int (-1), .int 0, .ref a_statements, .ref a_taken, .ref a_sort, .ref a_first, .ref a_second, .int 0, .int 0]))]) (vp_Si (fun r : Int32 => r.toInt = -1)) 0 0 (fun _ => False) := by
  refine ro_ret (cc := cX12_dayOf) (maxL := 3) (ty := .int) (own := RX12) (by decide) rfl rfl (Nat.le_of_ble_eq_true rfl) ?_
  intro p e s m args below meth c Q S hret hP hK ls hl
  obtain ⟨hx, hb, hml, hown, hts⟩ := id S
  have hl : lv_has ls 3 [(0, .ref h), (1, .int d), (2, .int w)] := hl
  have kkm1 : (-1 : Int32).toInt = -1 := by decide
  have kk0 : (0 : Int32).toInt = 0 := by decide
  have kk1 : (1 : Int32).toInt = 1 := by decide
  have kk2 : (2 : Int32).toInt = 2 := by decide
  have kk3 : (3 : Int32).toInt = 3 := by decide
  have kk4 : (4 : Int32).toInt = 4 := by decide
  refine lv_aload_n hx hb dX12_dayOf_0 rfl (lv_at hl 0 rfl) ?_
  refine lv_iload_n hx hb dX12_dayOf_1 rfl (lv_at hl 1 rfl) ?_
  have hPc := hP.sub (ws' := [(h, .inr (11, [.int 0, .int 0, .int 0, .int 0, .int 0, .int 0, .int 0, .int 0, .int 0, .ref a_isPriest, .ref a_bars, .ref a_joined, .ref a_turns, .ref a_awayMonk, .ref a_awayFrom, .ref a_awayTo, .ref a_feastDay, .ref a_rank, .ref a_isWeekly, .ref a_isDouble, .ref a_giftDay, .ref a_giftFrom, .ref a_owed, .ref a_said, .ref a_spared, .ref a_leaveGift, .ref a_leaveFrom, .ref a_leaveTo, .ref a_lateDay, .ref a_lateOffice, .ref a_lateBy, .ref a_guests, .ref a_who, .ref a_used, .ref a_lacks, .ref a_candles, .ref a_masses, .ref a_owing, .ref a_heldOn, .ref a_waits, .ref a_tape, .ref a_text, .int 0, .int 0, .int 0, .int (-1), .int 0, .ref a_statements, .ref a_taken, .ref a_sort, .ref a_first, .ref a_second, .int 0, .int 0]))]) [0] rfl
  refine roV (As := [.int d]) (rest := []) S (m_hasGone  ) (cwV 1 hts gX12_dayOf_X12_hasGone rfl rfl rfl (by decide +kernel) ⟨Nat.le_of_ble_eq_true rfl, Nat.le_of_ble_eq_true rfl⟩) hK hPc (va_recv hK.1 hPc (ci := 11) (q0 := 0) rfl rfl) rfl hl.1 rfl (Nat.le_of_ble_eq_true rfl) dX12_dayOf_2 ⟨Nat.le_of_ble_eq_true rfl, Nat.le_of_ble_eq_true rfl⟩ (fun r_1 hw_1 => ?_)
  have hw_1 : r_1.toInt = 0 := hw_1
  refine lv_if_ne (tgt := 10) hx hb dX12_dayOf_5 (by decide) (fun c_2 => ?_) (fun c_2 => ?_)
  · have tc_2 := t_neq c_2
    exfalso; omega
  · have tc_2 := t_eq c_2
    refine lv_iconst (v := (-1)) hx hb dX12_dayOf_8 (by decide) ?_
    exact hret (-1) _ _ (show (-1 : Int32).toInt = -1 from by omega) rfl dX12_dayOf_9

theorem in_q_count_X12 : ∀ w ∈ wsX120, w ∈ wsX12_count := by decide +kernel
set_option maxHeartbeats 8000000 in
set_option maxRecDepth 100000 in
theorem q_count {l : Launch} {D : va_G} {cI cZ cB : ClassId} {h a_isPriest a_bars a_joined a_turns a_awayMonk a_awayFrom a_awayTo a_feastDay a_rank a_isWeekly a_isDouble a_giftDay a_giftFrom a_owed a_said a_spared a_leaveGift a_leaveFrom a_leaveTo a_lateDay a_lateOffice a_lateBy a_guests a_who a_used a_lacks a_candles a_masses a_owing a_heldOn a_waits a_tape a_text a_statements a_taken a_sort a_first a_second : Nat} {w : Int32}  : Met l yX12_count wsX12_count ({ frames := 1, cells := 0, slots := 0, locals := 22 }) (RO D cI cZ cB [.ref h, .int w] [(h, .inr (11, [.int 0, .int 0, .int 0, .int 0, .int 0, .int 0, .int 0, .int 0, .int 0, .ref a_isPriest, .ref a_bars, .ref a_joined, .ref a_turns, .ref a_awayMonk, .ref a_awayFrom, .ref a_awayTo, .ref a_feastDay, .ref a_rank, .ref a_isWeekly, .ref a_isDouble, .ref a_giftDay, .ref a_giftFrom, .ref a_owed, .ref a_said, .ref a_spared, .ref a_leaveGift, .ref a_leaveFrom, .ref a_leaveTo, .ref a_lateDay, .ref a_lateOffice, .ref a_lateBy, .ref a_guests, .ref a_who, .ref a_used, .ref a_lacks, .ref a_candles, .ref a_masses, .ref a_owing, .ref a_heldOn, .ref a_waits, .ref a_tape, .ref a_text, .int 0, .int 0, .int 0, .int (-1), .int 0, .ref a_statements, .ref a_taken, .ref a_sort, .ref a_first, .ref a_second, .int 0, .int 0])), (a_guests, .inl (cI, 6, .inl (fun _ => 0)))]) (vp_Si (fun r : Int32 => ((0 ≤ w.toInt ∧ w.toInt ≤ 10) → r.toInt = 0) ∧ (¬ (0 ≤ w.toInt ∧ w.toInt ≤ 10) → r.toInt = -1))) 0 0 (fun _ => False) := by
  refine ro_ret (cc := cX12_count) (maxL := 4) (ty := .int) (own := RX12) (by decide) rfl rfl (Nat.le_of_ble_eq_true rfl) ?_
  intro p e s m args below meth c Q S hret hP hK ls hl
  obtain ⟨hx, hb, hml, hown, hts⟩ := id S
  have hl : lv_has ls 4 [(0, .ref h), (1, .int w)] := hl
  have kkm1 : (-1 : Int32).toInt = -1 := by decide
  have kk0 : (0 : Int32).toInt = 0 := by decide
  have kk1 : (1 : Int32).toInt = 1 := by decide
  have lk0 := hts (.fieldLink RX12 140 "AbbeyHoursModel" "today" "I") (by decide +kernel)
  have lk1 := hts (.fieldLink RX12 134 "AbbeyHoursModel" "monks" "I") (by decide +kernel)
  have lk2 := hts (.fieldLink RX12 153 "AbbeyHoursModel" "feasts" "I") (by decide +kernel)
  have lk3 := hts (.fieldLink RX12 137 "AbbeyHoursModel" "gifts" "I") (by decide +kernel)
  have lk4 := hts (.fieldLink RX12 264 "AbbeyHoursModel" "store" "I") (by decide +kernel)
  have lk5 := hts (.fieldLink RX12 233 "AbbeyHoursModel" "rules" "I") (by decide +kernel)
  have lk6 := hts (.fieldLink RX12 297 "AbbeyHoursModel" "allCandles" "I") (by decide +kernel)
  have lk7 := hts (.fieldLink RX12 185 "AbbeyHoursModel" "taped" "I") (by decide +kernel)
  refine lv_iconst (v := 0) hx hb dX12_count_0 (by decide) ?_
  refine lv_istore_n (lv' := [(2, .int 0), (0, .ref h), (1, .int w)]) hx hb dX12_count_1 rfl hl (by decide) rfl (fun ls hl => ?_)
  refine lv_iload_n hx hb dX12_count_2 rfl (lv_at hl 2 rfl) ?_
  have kqh_1 : (0 : Int32).toInt = 0 := by decide
  by_cases h_1 : w = 0
  · have th_1 := t_eq h_1
    refine lv_tableIn (off := 57) (tgt := 60) hx hb dX12_count_3 (by rw [h_1]; decide) (by rw [h_1]; decide) (by rw [h_1]; rfl) (by decide) ?_
    refine lv_aload_n hx hb dX12_count_60 rfl (lv_at hl 1 rfl) ?_
    refine va_get (D := D) (ci := 11) (v := .int 0) (C := RX12) (T := TX12) (N := 54) hx hb hts in_q_count_X12 hown hK.1 hP 0 rfl rfl 0 (by decide) lk0 (fun _ h9 => h9) rfl dX12_count_61 ?_
    exact hret 0 _ _ (show ((0 ≤ w.toInt ∧ w.toInt ≤ 10) → (0 : Int32).toInt = 0) ∧ (¬ (0 ≤ w.toInt ∧ w.toInt ≤ 10) → (0 : Int32).toInt = -1) from by omega) rfl dX12_count_64
  have th_1 := t_neq h_1
  have kqh_2 : (1 : Int32).toInt = 1 := by decide
  by_cases h_2 : w = 1
  · have th_2 := t_eq h_2
    refine lv_tableIn (off := 62) (tgt := 65) hx hb dX12_count_3 (by rw [h_2]; decide) (by rw [h_2]; decide) (by rw [h_2]; rfl) (by decide) ?_
    refine lv_aload_n hx hb dX12_count_65 rfl (lv_at hl 1 rfl) ?_
    refine va_get (D := D) (ci := 11) (v := .int 0) (C := RX12) (T := TX12) (N := 54) hx hb hts in_q_count_X12 hown hK.1 hP 0 rfl rfl 1 (by decide) lk1 (fun _ h9 => h9) rfl dX12_count_66 ?_
    exact hret 0 _ _ (show ((0 ≤ w.toInt ∧ w.toInt ≤ 10) → (0 : Int32).toInt = 0) ∧ (¬ (0 ≤ w.toInt ∧ w.toInt ≤ 10) → (0 : Int32).toInt = -1) from by omega) rfl dX12_count_69
  have th_2 := t_neq h_2
  have kqh_3 : (2 : Int32).toInt = 2 := by decide
  by_cases h_3 : w = 2
  · have th_3 := t_eq h_3
    refine lv_tableIn (off := 67) (tgt := 70) hx hb dX12_count_3 (by rw [h_3]; decide) (by rw [h_3]; decide) (by rw [h_3]; rfl) (by decide) ?_
    refine lv_aload_n hx hb dX12_count_70 rfl (lv_at hl 1 rfl) ?_
    refine va_get (D := D) (ci := 11) (v := .int 0) (C := RX12) (T := TX12) (N := 54) hx hb hts in_q_count_X12 hown hK.1 hP 0 rfl rfl 3 (by decide) lk2 (fun _ h9 => h9) rfl dX12_count_71 ?_
    exact hret 0 _ _ (show ((0 ≤ w.toInt ∧ w.toInt ≤ 10) → (0 : Int32).toInt = 0) ∧ (¬ (0 ≤ w.toInt ∧ w.toInt ≤ 10) → (0 : Int32).toInt = -1) from by omega) rfl dX12_count_74
  have th_3 := t_neq h_3
  have kqh_4 : (3 : Int32).toInt = 3 := by decide
  by_cases h_4 : w = 3
  · have th_4 := t_eq h_4
    refine lv_tableIn (off := 72) (tgt := 75) hx hb dX12_count_3 (by rw [h_4]; decide) (by rw [h_4]; decide) (by rw [h_4]; rfl) (by decide) ?_
    refine lv_aload_n hx hb dX12_count_75 rfl (lv_at hl 1 rfl) ?_
    refine va_get (D := D) (ci := 11) (v := .int 0) (C := RX12) (T := TX12) (N := 54) hx hb hts in_q_count_X12 hown hK.1 hP 0 rfl rfl 4 (by decide) lk3 (fun _ h9 => h9) rfl dX12_count_76 ?_
    exact hret 0 _ _ (show ((0 ≤ w.toInt ∧ w.toInt ≤ 10) → (0 : Int32).toInt = 0) ∧ (¬ (0 ≤ w.toInt ∧ w.toInt ≤ 10) → (0 : Int32).toInt = -1) from by omega) rfl dX12_count_79
  have th_4 := t_neq h_4
  have kqh_5 : (4 : Int32).toInt = 4 := by decide
  by_cases h_5 : w = 4
  · have th_5 := t_eq h_5
    refine lv_tableIn (off := 77) (tgt := 80) hx hb dX12_count_3 (by rw [h_5]; decide) (by rw [h_5]; decide) (by rw [h_5]; rfl) (by decide) ?_
    refine lv_aload_n hx hb dX12_count_80 rfl (lv_at hl 1 rfl) ?_
    refine va_get (D := D) (ci := 11) (v := .int 0) (C := RX12) (T := TX12) (N := 54) hx hb hts in_q_count_X12 hown hK.1 hP 0 rfl rfl 7 (by decide) lk4 (fun _ h9 => h9) rfl dX12_count_81 ?_
    exact hret 0 _ _ (show ((0 ≤ w.toInt ∧ w.toInt ≤ 10) → (0 : Int32).toInt = 0) ∧ (¬ (0 ≤ w.toInt ∧ w.toInt ≤ 10) → (0 : Int32).toInt = -1) from by omega) rfl dX12_count_84
  have th_5 := t_neq h_5
  have kqh_6 : (5 : Int32).toInt = 5 := by decide
  by_cases h_6 : w = 5
  · have th_6 := t_eq h_6
    refine lv_tableIn (off := 82) (tgt := 85) hx hb dX12_count_3 (by rw [h_6]; decide) (by rw [h_6]; decide) (by rw [h_6]; rfl) (by decide) ?_
    refine lv_aload_n hx hb dX12_count_85 rfl (lv_at hl 1 rfl) ?_
    have hPc := hP.sub (ws' := [(h, .inr (11, [.int 0, .int 0, .int 0, .int 0, .int 0, .int 0, .int 0, .int 0, .int 0, .ref a_isPriest, .ref a_bars, .ref a_joined, .ref a_turns, .ref a_awayMonk, .ref a_awayFrom, .ref a_awayTo, .ref a_feastDay, .ref a_rank, .ref a_isWeekly, .ref a_isDouble, .ref a_giftDay, .ref a_giftFrom, .ref a_owed, .ref a_said, .ref a_spared, .ref a_leaveGift, .ref a_leaveFrom, .ref a_leaveTo, .ref a_lateDay, .ref a_lateOffice, .ref a_lateBy, .ref a_guests, .ref a_who, .ref a_used, .ref a_lacks, .ref a_candles, .ref a_masses, .ref a_owing, .ref a_heldOn, .ref a_waits, .ref a_tape, .ref a_text, .int 0, .int 0, .int 0, .int (-1), .int 0, .ref a_statements, .ref a_taken, .ref a_sort, .ref a_first, .ref a_second, .int 0, .int 0])), (a_guests, .inl (cI, 6, .inl (fun _ => 0)))]) [0, 1] rfl
    refine roV (As := []) (rest := []) S (m_allGuests  ) (cwV 0 hts gX12_count_X12_allGuests rfl rfl rfl (by decide +kernel) ⟨Nat.le_of_ble_eq_true rfl, Nat.le_of_ble_eq_true rfl⟩) hK hPc (va_recv hK.1 hPc (ci := 11) (q0 := 0) rfl rfl) rfl hl.1 rfl (Nat.le_of_ble_eq_true rfl) dX12_count_86 ⟨Nat.le_of_ble_eq_true rfl, Nat.le_of_ble_eq_true rfl⟩ (fun r_7 hw_7 => ?_)
    have hw_7 : r_7 = sum6 (fun _ => 0) := hw_7
    rw [sum6_z] at hw_7
    have hw_7 := t_eq hw_7
    exact hret r_7 _ _ (show ((0 ≤ w.toInt ∧ w.toInt ≤ 10) → r_7.toInt = 0) ∧ (¬ (0 ≤ w.toInt ∧ w.toInt ≤ 10) → r_7.toInt = -1) from by omega) rfl dX12_count_89
  have th_6 := t_neq h_6
  have kqh_8 : (6 : Int32).toInt = 6 := by decide
  by_cases h_8 : w = 6
  · have th_8 := t_eq h_8
    refine lv_tableIn (off := 87) (tgt := 90) hx hb dX12_count_3 (by rw [h_8]; decide) (by rw [h_8]; decide) (by rw [h_8]; rfl) (by decide) ?_
    refine lv_aload_n hx hb dX12_count_90 rfl (lv_at hl 1 rfl) ?_
    refine va_get (D := D) (ci := 11) (v := .int 0) (C := RX12) (T := TX12) (N := 54) hx hb hts in_q_count_X12 hown hK.1 hP 0 rfl rfl 46 (by decide) lk5 (fun _ h9 => h9) rfl dX12_count_91 ?_
    exact hret 0 _ _ (show ((0 ≤ w.toInt ∧ w.toInt ≤ 10) → (0 : Int32).toInt = 0) ∧ (¬ (0 ≤ w.toInt ∧ w.toInt ≤ 10) → (0 : Int32).toInt = -1) from by omega) rfl dX12_count_94
  have th_8 := t_neq h_8
  have kqh_9 : (7 : Int32).toInt = 7 := by decide
  by_cases h_9 : w = 7
  · have th_9 := t_eq h_9
    refine lv_tableIn (off := 92) (tgt := 95) hx hb dX12_count_3 (by rw [h_9]; decide) (by rw [h_9]; decide) (by rw [h_9]; rfl) (by decide) ?_
    refine lv_iconst (v := 0) hx hb dX12_count_95 (by decide) ?_
    refine lv_istore_n (lv' := [(3, .int 0), (2, .int 0), (0, .ref h), (1, .int w)]) hx hb dX12_count_96 rfl hl (by decide) rfl (fun ls hl => ?_)
    refine lv_iload_n hx hb dX12_count_97 rfl (lv_at hl 0 rfl) ?_
    refine lv_aload_n hx hb dX12_count_98 rfl (lv_at hl 2 rfl) ?_
    refine va_get (D := D) (ci := 11) (v := .int 0) (C := RX12) (T := TX12) (N := 54) hx hb hts in_q_count_X12 hown hK.1 hP 0 rfl rfl 4 (by decide) lk3 (fun _ h9 => h9) rfl dX12_count_99 ?_
    refine lv_icmp_ge (tgt := 120) hx hb dX12_count_102 (by decide) (fun c_10 => ?_) (fun c_10 => ?_)
    · have tc_10 := t_le c_10
      refine lv_iload_n hx hb dX12_count_120 rfl (lv_at hl 1 rfl) ?_
      exact hret 0 _ _ (show ((0 ≤ w.toInt ∧ w.toInt ≤ 10) → (0 : Int32).toInt = 0) ∧ (¬ (0 ≤ w.toInt ∧ w.toInt ≤ 10) → (0 : Int32).toInt = -1) from by omega) rfl dX12_count_121
    · exact absurd c_10 (by decide)
  have th_9 := t_neq h_9
  have kqh_11 : (8 : Int32).toInt = 8 := by decide
  by_cases h_11 : w = 8
  · have th_11 := t_eq h_11
    refine lv_tableIn (off := 119) (tgt := 122) hx hb dX12_count_3 (by rw [h_11]; decide) (by rw [h_11]; decide) (by rw [h_11]; rfl) (by decide) ?_
    refine lv_iconst (v := 0) hx hb dX12_count_122 (by decide) ?_
    refine lv_istore_n (lv' := [(3, .int 0), (2, .int 0), (0, .ref h), (1, .int w)]) hx hb dX12_count_123 rfl hl (by decide) rfl (fun ls hl => ?_)
    refine lv_iload_n hx hb dX12_count_124 rfl (lv_at hl 0 rfl) ?_
    refine lv_aload_n hx hb dX12_count_125 rfl (lv_at hl 2 rfl) ?_
    refine va_get (D := D) (ci := 11) (v := .int 0) (C := RX12) (T := TX12) (N := 54) hx hb hts in_q_count_X12 hown hK.1 hP 0 rfl rfl 4 (by decide) lk3 (fun _ h9 => h9) rfl dX12_count_126 ?_
    refine lv_icmp_ge (tgt := 147) hx hb dX12_count_129 (by decide) (fun c_12 => ?_) (fun c_12 => ?_)
    · have tc_12 := t_le c_12
      refine lv_iload_n hx hb dX12_count_147 rfl (lv_at hl 1 rfl) ?_
      exact hret 0 _ _ (show ((0 ≤ w.toInt ∧ w.toInt ≤ 10) → (0 : Int32).toInt = 0) ∧ (¬ (0 ≤ w.toInt ∧ w.toInt ≤ 10) → (0 : Int32).toInt = -1) from by omega) rfl dX12_count_148
    · exact absurd c_12 (by decide)
  have th_11 := t_neq h_11
  have kqh_13 : (9 : Int32).toInt = 9 := by decide
  by_cases h_13 : w = 9
  · have th_13 := t_eq h_13
    refine lv_tableIn (off := 146) (tgt := 149) hx hb dX12_count_3 (by rw [h_13]; decide) (by rw [h_13]; decide) (by rw [h_13]; rfl) (by decide) ?_
    refine lv_aload_n hx hb dX12_count_149 rfl (lv_at hl 1 rfl) ?_
    refine va_get (D := D) (ci := 11) (v := .int 0) (C := RX12) (T := TX12) (N := 54) hx hb hts in_q_count_X12 hown hK.1 hP 0 rfl rfl 8 (by decide) lk6 (fun _ h9 => h9) rfl dX12_count_150 ?_
    exact hret 0 _ _ (show ((0 ≤ w.toInt ∧ w.toInt ≤ 10) → (0 : Int32).toInt = 0) ∧ (¬ (0 ≤ w.toInt ∧ w.toInt ≤ 10) → (0 : Int32).toInt = -1) from by omega) rfl dX12_count_153
  have th_13 := t_neq h_13
  have kqh_14 : (10 : Int32).toInt = 10 := by decide
  by_cases h_14 : w = 10
  · have th_14 := t_eq h_14
    refine lv_tableIn (off := 151) (tgt := 154) hx hb dX12_count_3 (by rw [h_14]; decide) (by rw [h_14]; decide) (by rw [h_14]; rfl) (by decide) ?_
    refine lv_aload_n hx hb dX12_count_154 rfl (lv_at hl 1 rfl) ?_
    refine va_get (D := D) (ci := 11) (v := .int 0) (C := RX12) (T := TX12) (N := 54) hx hb hts in_q_count_X12 hown hK.1 hP 0 rfl rfl 42 (by decide) lk7 (fun _ h9 => h9) rfl dX12_count_155 ?_
    exact hret 0 _ _ (show ((0 ≤ w.toInt ∧ w.toInt ≤ 10) → (0 : Int32).toInt = 0) ∧ (¬ (0 ≤ w.toInt ∧ w.toInt ≤ 10) → (0 : Int32).toInt = -1) from by omega) rfl dX12_count_158
  have th_14 := t_neq h_14
  refine lv_tableOut (tgt := 159) hx hb dX12_count_3 (by omega) (by decide) ?_
  refine lv_iconst (v := (-1)) hx hb dX12_count_159 (by decide) ?_
  exact hret (-1) _ _ (show ((0 ≤ w.toInt ∧ w.toInt ≤ 10) → (-1 : Int32).toInt = 0) ∧ (¬ (0 ≤ w.toInt ∧ w.toInt ≤ 10) → (-1 : Int32).toInt = -1) from by omega) rfl dX12_count_160
