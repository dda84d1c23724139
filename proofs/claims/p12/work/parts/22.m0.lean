theorem in_N_monk_X12 : ∀ w ∈ wsX120, w ∈ wsX12_monk := tl_X12_monk_X12
set_option maxHeartbeats 8000000 in
set_option maxRecDepth 100000 in
theorem N_monk {l : Launch} {D : va_G} {cI cZ cB : ClassId} {sz : Nat} {h a_isPriest a_bars a_joined a_turns a_awayMonk a_awayFrom a_awayTo a_feastDay a_rank a_isWeekly a_isDouble a_giftDay a_giftFrom a_owed a_said a_spared a_leaveGift a_leaveFrom a_leaveTo a_lateDay a_lateOffice a_lateBy a_guests a_who a_used a_lacks a_candles a_masses a_owing a_heldOn a_waits a_tape a_text a_statements a_taken a_sort a_first a_second : Nat} {v_today v_monks v_aways v_feasts v_gifts v_leaves v_lates v_store v_allCandles v_taped v_size v_at v_fault v_rules v_wordEnd v_number : Int32} {f_isPriest f_bars f_joined : Nat → Int32} {px b : Int32} (h0_monks : 0 ≤ v_monks.toInt) (h1_monks : v_monks.toInt ≤ 24) : Met l yX12_monk wsX12_monk ({ frames := 1, cells := 0, slots := 0, locals := 22 }) (RW D cI cZ cB [.ref h, .int px, .int b] sz [(h, .inr (11, [.int v_today, .int v_monks, .int v_aways, .int v_feasts, .int v_gifts, .int v_leaves, .int v_lates, .int v_store, .int v_allCandles, .ref a_isPriest, .ref a_bars, .ref a_joined, .ref a_turns, .ref a_awayMonk, .ref a_awayFrom, .ref a_awayTo, .ref a_feastDay, .ref a_rank, .ref a_isWeekly, .ref a_isDouble, .ref a_giftDay, .ref a_giftFrom, .ref a_owed, .ref a_said, .ref a_spared, .ref a_leaveGift, .ref a_leaveFrom, .ref a_leaveTo, .ref a_lateDay, .ref a_lateOffice, .ref a_lateBy, .ref a_guests, .ref a_who, .ref a_used, .ref a_lacks, .ref a_candles, .ref a_masses, .ref a_owing, .ref a_heldOn, .ref a_waits, .ref a_tape, .ref a_text, .int v_taped, .int v_size, .int v_at, .int v_fault, .int v_rules, .ref a_statements, .ref a_taken, .ref a_sort, .ref a_first, .ref a_second, .int v_wordEnd, .int v_number])), (a_isPriest, .inl (cZ, 24, .inl f_isPriest)), (a_bars, .inl (cI, 24, .inl f_bars)), (a_joined, .inl (cI, 24, .inl f_joined))]) (va_Qi (fun (r : Int32) (u : Int32 × (Nat → Int32) × (Nat → Int32) × (Nat → Int32)) => (((0 ≤ b.toInt ∧ b.toInt ≤ 15) ∧ v_monks.toInt < 24) ∧ r.toInt = v_monks.toInt ∧ u.1.toInt = v_monks.toInt + 1) ∨ (¬ ((0 ≤ b.toInt ∧ b.toInt ≤ 15) ∧ v_monks.toInt < 24) ∧ r.toInt = -1 ∧ u.1 = v_monks)) (BW D [(h, .inr (11, [.int v_today, .int v_monks, .int v_aways, .int v_feasts, .int v_gifts, .int v_leaves, .int v_lates, .int v_store, .int v_allCandles, .ref a_isPriest, .ref a_bars, .ref a_joined, .ref a_turns, .ref a_awayMonk, .ref a_awayFrom, .ref a_awayTo, .ref a_feastDay, .ref a_rank, .ref a_isWeekly, .ref a_isDouble, .ref a_giftDay, .ref a_giftFrom, .ref a_owed, .ref a_said, .ref a_spared, .ref a_leaveGift, .ref a_leaveFrom, .ref a_leaveTo, .ref a_lateDay, .ref a_lateOffice, .ref a_lateBy, .ref a_guests, .ref a_who, .ref a_used, .ref a_lacks, .ref a_candles, .ref a_masses, .ref a_owing, .ref a_heldOn, .ref a_waits, .ref a_tape, .ref a_text, .int v_taped, .int v_size, .int v_at, .int v_fault, .int v_rules, .ref a_statements, .ref a_taken, .ref a_sort, .ref a_first, .ref a_second, .int v_wordEnd, .int v_number])), (a_isPriest, .inl (cZ, 24, .inl f_isPriest)), (a_bars, .inl (cI, 24, .inl f_bars)), (a_joined, .inl (cI, 24, .inl f_joined))] sz (fun u : Int32 × (Nat → Int32) × (Nat → Int32) × (Nat → Int32) => [(h, .inr (11, [.int v_today, .int u.1, .int v_aways, .int v_feasts, .int v_gifts, .int v_leaves, .int v_lates, .int v_store, .int v_allCandles, .ref a_isPriest, .ref a_bars, .ref a_joined, .ref a_turns, .ref a_awayMonk, .ref a_awayFrom, .ref a_awayTo, .ref a_feastDay, .ref a_rank, .ref a_isWeekly, .ref a_isDouble, .ref a_giftDay, .ref a_giftFrom, .ref a_owed, .ref a_said, .ref a_spared, .ref a_leaveGift, .ref a_leaveFrom, .ref a_leaveTo, .ref a_lateDay, .ref a_lateOffice, .ref a_lateBy, .ref a_guests, .ref a_who, .ref a_used, .ref a_lacks, .ref a_candles, .ref a_masses, .ref a_owing, .ref a_heldOn, .ref a_waits, .ref a_tape, .ref a_text, .int v_taped, .int v_size, .int v_at, .int v_fault, .int v_rules, .ref a_statements, .ref a_taken, .ref a_sort, .ref a_first, .ref a_second, .int v_wordEnd, .int v_number])), (a_isPriest, .inl (cZ, 24, .inl u.2.1)), (a_bars, .inl (cI, 24, .inl u.2.2.1)), (a_joined, .inl (cI, 24, .inl u.2.2.2))])) (va_A [(h, .inr (11, [.int v_today, .int v_monks, .int v_aways, .int v_feasts, .int v_gifts, .int v_leaves, .int v_lates, .int v_store, .int v_allCandles, .ref a_isPriest, .ref a_bars, .ref a_joined, .ref a_turns, .ref a_awayMonk, .ref a_awayFrom, .ref a_awayTo, .ref a_feastDay, .ref a_rank, .ref a_isWeekly, .ref a_isDouble, .ref a_giftDay, .ref a_giftFrom, .ref a_owed, .ref a_said, .ref a_spared, .ref a_leaveGift, .ref a_leaveFrom, .ref a_leaveTo, .ref a_lateDay, .ref a_lateOffice, .ref a_lateBy, .ref a_guests, .ref a_who, .ref a_used, .ref a_lacks, .ref a_candles, .ref a_masses, .ref a_owing, .ref a_heldOn, .ref a_waits, .ref a_tape, .ref a_text, .int v_taped, .int v_size, .int v_at, .int v_fault, .int v_rules, .ref a_statements, .ref a_taken, .ref a_sort, .ref a_first, .ref a_second, .int v_wordEnd, .int v_number])), (a_isPriest, .inl (cZ, 24, .inl f_isPriest)), (a_bars, .inl (cI, 24, .inl f_bars)), (a_joined, .inl (cI, 24, .inl f_joined))] sz)) 0 0 (va_A [(h, .inr (11, [.int v_today, .int v_monks, .int v_aways, .int v_feasts, .int v_gifts, .int v_leaves, .int v_lates, .int v_store, .int v_allCandles, .ref a_isPriest, .ref a_bars, .ref a_joined, .ref a_turns, .ref a_awayMonk, .ref a_awayFrom, .ref a_awayTo, .ref a_feastDay, .ref a_rank, .ref a_isWeekly, .ref a_isDouble, .ref a_giftDay, .ref a_giftFrom, .ref a_owed, .ref a_said, .ref a_spared, .ref a_leaveGift, .ref a_leaveFrom, .ref a_leaveTo, .ref a_lateDay, .ref a_lateOffice, .ref a_lateBy, .ref a_guests, .ref a_who, .ref a_used, .ref a_lacks, .ref a_candles, .ref a_masses, .ref a_owing, .ref a_heldOn, .ref a_waits, .ref a_tape, .ref a_text, .int v_taped, .int v_size, .int v_at, .int v_fault, .int v_rules, .ref a_statements, .ref a_taken, .ref a_sort, .ref a_first, .ref a_second, .int v_wordEnd, .int v_number])), (a_isPriest, .inl (cZ, 24, .inl f_isPriest)), (a_bars, .inl (cI, 24, .inl f_bars)), (a_joined, .inl (cI, 24, .inl f_joined))] sz) := by
  refine rw_ret (cc := cX12_monk) (maxL := 3) (ty := .int) (own := RX12) (by decide) rfl rfl (Nat.le_of_ble_eq_true rfl) ?_
  intro p e s m args below meth c Q A S hin hret hP hK hD hA hS ls hl
  obtain ⟨hx, hb, hml, hown, hts⟩ := id S
  have hl : lv_has ls 3 [(0, .ref h), (1, .int px), (2, .int b)] := hl
  have kkm1 : (-1 : Int32).toInt = -1 := by decide
  have kk0 : (0 : Int32).toInt = 0 := by decide
  have kk1 : (1 : Int32).toInt = 1 := by decide
  have kk15 : (15 : Int32).toInt = 15 := by decide
  have kk24 : (24 : Int32).toInt = 24 := by decide
  have lk0 := hts (.fieldLink RX12 134 "AbbeyHoursModel" "monks" "I") (List.mem_cons_of_mem _ (List.mem_append_left _ (List.mem_of_getElem? (i := 0) rfl)))
  have lk1 := hts (.fieldLink RX12 7 "AbbeyHoursModel" "isPriest" "[Z") (List.mem_cons_of_mem _ (List.mem_append_left _ (List.mem_of_getElem? (i := 1) rfl)))
  have lk2 := hts (.fieldLink RX12 13 "AbbeyHoursModel" "bars" "[I") (List.mem_cons_of_mem _ (List.mem_append_left _ (List.mem_of_getElem? (i := 2) rfl)))
  have lk3 := hts (.fieldLink RX12 17 "AbbeyHoursModel" "joined" "[I") (List.mem_cons_of_mem _ (List.mem_append_left _ (List.mem_of_getElem? (i := 3) rfl)))
  have lk4 := hts (.fieldLink RX12 140 "AbbeyHoursModel" "today" "I") (List.mem_cons_of_mem _ (List.mem_append_left _ (List.mem_of_getElem? (i := 4) rfl)))
  refine lv_iload_n hx hb dX12_monk_0 rfl (lv_at hl 2 rfl) ?_
  refine lv_iconst (v := 0) hx hb dX12_monk_1 (by decide) ?_
  refine lv_bipush (v := 15) hx hb dX12_monk_2 (by decide) ?_
  have hPc := hP.sub (ws' := []) [] rfl
  refine roS (As := [.int b, .int 0, .int 15]) (rest := []) S (m_isIn  ) (va_cwS 3 hts gX12_monk_X12_isIn rfl rfl rfl hd_X12_isIn ⟨Nat.le_of_ble_eq_true rfl, Nat.le_of_ble_eq_true rfl⟩) hK hPc rfl hl.1 rfl (Nat.le_of_ble_eq_true rfl) dX12_monk_4 ⟨Nat.le_of_ble_eq_true rfl, Nat.le_of_ble_eq_true rfl⟩ (fun r_1 hw_1 => ?_)
  have hw_1 : (r_1.toInt = 1 ∧ (0 : Int32).toInt ≤ b.toInt ∧ b.toInt ≤ (15 : Int32).toInt) ∨ (r_1.toInt = 0 ∧ (b.toInt < (0 : Int32).toInt ∨ (15 : Int32).toInt < b.toInt)) := hw_1
  refine lv_if_eq (tgt := 19) hx hb dX12_monk_7 (by decide) (fun c_2 => ?_) (fun c_2 => ?_)
  · have tc_2 := t_eq c_2
    refine lv_iconst (v := (-1)) hx hb dX12_monk_19 (by decide) ?_
    exact hret (-1) (v_monks, f_isPriest, f_bars, f_joined) _ _ _ _ (show (((0 ≤ b.toInt ∧ b.toInt ≤ 15) ∧ v_monks.toInt < 24) ∧ (-1 : Int32).toInt = v_monks.toInt ∧ v_monks.toInt = v_monks.toInt + 1) ∨ (¬ ((0 ≤ b.toInt ∧ b.toInt ≤ 15) ∧ v_monks.toInt < 24) ∧ (-1 : Int32).toInt = -1 ∧ v_monks = v_monks) from by first | exact Or.inl ⟨by omega, by omega, by omega⟩ | exact Or.inr ⟨by omega, by omega, rfl⟩) rfl (hP.sub [0, 1, 2, 3] rfl) (hD.sub [0, 1, 2, 3] (by decide +kernel) rfl) hS dX12_monk_20
  · have tc_2 := t_neq c_2
    refine lv_aload_n hx hb dX12_monk_10 rfl (lv_at hl 0 rfl) ?_
    refine va_get (D := D) (ci := 11) (v := .int v_monks) (C := RX12) (T := TX12) (N := 54) hx hb hts in_N_monk_X12 hown hK.1 hP 0 rfl rfl 1 (by decide) lk0 (fun _ h9 => h9) rfl dX12_monk_11 ?_
    refine lv_bipush (v := 24) hx hb dX12_monk_14 (by decide) ?_
    refine lv_icmp_ne (tgt := 21) hx hb dX12_monk_16 (by decide) (fun c_3 => ?_) (fun c_3 => ?_)
    · have tc_3 := t_neq c_3
      refine lv_aload_n hx hb dX12_monk_21 rfl (lv_at hl 0 rfl) ?_
      refine va_get (D := D) (ci := 11) (v := .ref a_isPriest) (C := RX12) (T := TX12) (N := 54) hx hb hts in_N_monk_X12 hown hK.1 hP 0 rfl rfl 9 (by decide) lk1 (fun _ h9 => h9) rfl dX12_monk_22 ?_
      refine lv_aload_n hx hb dX12_monk_25 rfl (lv_at hl 0 rfl) ?_
      refine va_get (D := D) (ci := 11) (v := .int v_monks) (C := RX12) (T := TX12) (N := 54) hx hb hts in_N_monk_X12 hown hK.1 hP 0 rfl rfl 1 (by decide) lk0 (fun _ h9 => h9) rfl dX12_monk_26 ?_
      refine lv_iload_n hx hb dX12_monk_29 rfl (lv_at hl 1 rfl) ?_
      refine va_zast hx hb hK.1 hP hD hS 1 1 rfl rfl (t_in (by omega) (by omega)) dX12_monk_30 (fun H locs hP hD hS => ?_)
      obtain ⟨g_4, eg_4⟩ : ∃ z : Nat → Int32, z = upd f_isPriest ((v_monks : Int32).toNatClampNeg) (vp_nar .boolean px) := ⟨_, rfl⟩
      rw [← eg_4] at hP hD
      have hP : va_P D vwCl [(h, .inr (11, [.int v_today, .int v_monks, .int v_aways, .int v_feasts, .int v_gifts, .int v_leaves, .int v_lates, .int v_store, .int v_allCandles, .ref a_isPriest, .ref a_bars, .ref a_joined, .ref a_turns, .ref a_awayMonk, .ref a_awayFrom, .ref a_awayTo, .ref a_feastDay, .ref a_rank, .ref a_isWeekly, .ref a_isDouble, .ref a_giftDay, .ref a_giftFrom, .ref a_owed, .ref a_said, .ref a_spared, .ref a_leaveGift, .ref a_leaveFrom, .ref a_leaveTo, .ref a_lateDay, .ref a_lateOffice, .ref a_lateBy, .ref a_guests, .ref a_who, .ref a_used, .ref a_lacks, .ref a_candles, .ref a_masses, .ref a_owing, .ref a_heldOn, .ref a_waits, .ref a_tape, .ref a_text, .int v_taped, .int v_size, .int v_at, .int v_fault, .int v_rules, .ref a_statements, .ref a_taken, .ref a_sort, .ref a_first, .ref a_second, .int v_wordEnd, .int v_number])), (a_isPriest, .inl (cZ, 24, .inl g_4)), (a_bars, .inl (cI, 24, .inl f_bars)), (a_joined, .inl (cI, 24, .inl f_joined))] H := hP
      have hD := asD hP hD
      refine lv_aload_n hx hb dX12_monk_31 rfl (lv_at hl 0 rfl) ?_
      refine va_get (D := D) (ci := 11) (v := .ref a_bars) (C := RX12) (T := TX12) (N := 54) hx hb hts in_N_monk_X12 hown hK.1 hP 0 rfl rfl 10 (by decide) lk2 (fun _ h9 => h9) rfl dX12_monk_32 ?_
      refine lv_aload_n hx hb dX12_monk_35 rfl (lv_at hl 0 rfl) ?_
      refine va_get (D := D) (ci := 11) (v := .int v_monks) (C := RX12) (T := TX12) (N := 54) hx hb hts in_N_monk_X12 hown hK.1 hP 0 rfl rfl 1 (by decide) lk0 (fun _ h9 => h9) rfl dX12_monk_36 ?_
      refine lv_iload_n hx hb dX12_monk_39 rfl (lv_at hl 2 rfl) ?_
      refine va_iast hx hb hK.1 hP hD hS 2 0 rfl rfl (t_in (by omega) (by omega)) dX12_monk_40 (fun H locs hP hD hS => ?_)
      obtain ⟨g_5, eg_5⟩ : ∃ z : Nat → Int32, z = upd f_bars ((v_monks : Int32).toNatClampNeg) b := ⟨_, rfl⟩
      rw [← eg_5] at hP hD
      have hP : va_P D vwCl [(h, .inr (11, [.int v_today, .int v_monks, .int v_aways, .int v_feasts, .int v_gifts, .int v_leaves, .int v_lates, .int v_store, .int v_allCandles, .ref a_isPriest, .ref a_bars, .ref a_joined, .ref a_turns, .ref a_awayMonk, .ref a_awayFrom, .ref a_awayTo, .ref a_feastDay, .ref a_rank, .ref a_isWeekly, .ref a_isDouble, .ref a_giftDay, .ref a_giftFrom, .ref a_owed, .ref a_said, .ref a_spared, .ref a_leaveGift, .ref a_leaveFrom, .ref a_leaveTo, .ref a_lateDay, .ref a_lateOffice, .ref a_lateBy, .ref a_guests, .ref a_who, .ref a_used, .ref a_lacks, .ref a_candles, .ref a_masses, .ref a_owing, .ref a_heldOn, .ref a_waits, .ref a_tape, .ref a_text, .int v_taped, .int v_size, .int v_at, .int v_fault, .int v_rules, .ref a_statements, .ref a_taken, .ref a_sort, .ref a_first, .ref a_second, .int v_wordEnd, .int v_number])), (a_isPriest, .inl (cZ, 24, .inl g_4)), (a_bars, .inl (cI, 24, .inl g_5)), (a_joined, .inl (cI, 24, .inl f_joined))] H := hP
      have hD := asD hP hD
      refine lv_aload_n hx hb dX12_monk_41 rfl (lv_at hl 0 rfl) ?_
      refine va_get (D := D) (ci := 11) (v := .ref a_joined) (C := RX12) (T := TX12) (N := 54) hx hb hts in_N_monk_X12 hown hK.1 hP 0 rfl rfl 11 (by decide) lk3 (fun _ h9 => h9) rfl dX12_monk_42 ?_
      refine lv_aload_n hx hb dX12_monk_45 rfl (lv_at hl 0 rfl) ?_
      refine va_get (D := D) (ci := 11) (v := .int v_monks) (C := RX12) (T := TX12) (N := 54) hx hb hts in_N_monk_X12 hown hK.1 hP 0 rfl rfl 1 (by decide) lk0 (fun _ h9 => h9) rfl dX12_monk_46 ?_
      refine lv_aload_n hx hb dX12_monk_49 rfl (lv_at hl 0 rfl) ?_
      refine va_get (D := D) (ci := 11) (v := .int v_today) (C := RX12) (T := TX12) (N := 54) hx hb hts in_N_monk_X12 hown hK.1 hP 0 rfl rfl 0 (by decide) lk4 (fun _ h9 => h9) rfl dX12_monk_50 ?_
      refine va_iast hx hb hK.1 hP hD hS 3 0 rfl rfl (t_in (by omega) (by omega)) dX12_monk_53 (fun H locs hP hD hS => ?_)
      obtain ⟨g_6, eg_6⟩ : ∃ z : Nat → Int32, z = upd f_joined ((v_monks : Int32).toNatClampNeg) v_today := ⟨_, rfl⟩
      rw [← eg_6] at hP hD
      have hP : va_P D vwCl [(h, .inr (11, [.int v_today, .int v_monks, .int v_aways, .int v_feasts, .int v_gifts, .int v_leaves, .int v_lates, .int v_store, .int v_allCandles, .ref a_isPriest, .ref a_bars, .ref a_joined, .ref a_turns, .ref a_awayMonk, .ref a_awayFrom, .ref a_awayTo, .ref a_feastDay, .ref a_rank, .ref a_isWeekly, .ref a_isDouble, .ref a_giftDay, .ref a_giftFrom, .ref a_owed, .ref a_said, .ref a_spared, .ref a_leaveGift, .ref a_leaveFrom, .ref a_leaveTo, .ref a_lateDay, .ref a_lateOffice, .ref a_lateBy, .ref a_guests, .ref a_who, .ref a_used, .ref a_lacks, .ref a_candles, .ref a_masses, .ref a_owing, .ref a_heldOn, .ref a_waits, .ref a_tape, .ref a_text, .int v_taped, .int v_size, .int v_at, .int v_fault, .int v_rules, .ref a_statements, .ref a_taken, .ref a_sort, .ref a_first, .ref a_second, .int v_wordEnd, .int v_number])), (a_isPriest, .inl (cZ, 24, .inl g_4)), (a_bars, .inl (cI, 24, .inl g_5)), (a_joined, .inl (cI, 24, .inl g_6))] H := hP
      have hD := asD hP hD
      refine lv_aload_n hx hb dX12_monk_54 rfl (lv_at hl 0 rfl) ?_
      refine lv_dup hx hb dX12_monk_55 rfl ?_
      refine va_get (D := D) (ci := 11) (v := .int v_monks) (C := RX12) (T := TX12) (N := 54) hx hb hts in_N_monk_X12 hown hK.1 hP 0 rfl rfl 1 (by decide) lk0 (fun _ h9 => h9) rfl dX12_monk_56 ?_
      refine lv_iconst (v := 1) hx hb dX12_monk_59 (by decide) ?_
      refine lv_iadd hx hb dX12_monk_60 ?_
      refine lv_topi (fun x_7 ex_7 => ?_)
      first | have tx_7 := t_add ex_7 (by omega) (by omega) | skip
      refine va_put (D := D) (ci := 11) (v := .int x_7) (ty := .int) (C := RX12) (T := TX12) (N := 54) hx hb hts in_N_monk_X12 tyX12 tyX12_ok nmX12 hown hK.1 hP hD hS 0 rfl rfl 1 (by decide) lk0 (fun _ h9 => h9) rfl (by decide +kernel) rfl rfl (Nat.le_of_ble_eq_true rfl) dX12_monk_61 (fun H locs hP hD hS => ?_)
      have hP : va_P D vwCl [(h, .inr (11, [.int v_today, .int x_7, .int v_aways, .int v_feasts, .int v_gifts, .int v_leaves, .int v_lates, .int v_store, .int v_allCandles, .ref a_isPriest, .ref a_bars, .ref a_joined, .ref a_turns, .ref a_awayMonk, .ref a_awayFrom, .ref a_awayTo, .ref a_feastDay, .ref a_rank, .ref a_isWeekly, .ref a_isDouble, .ref a_giftDay, .ref a_giftFrom, .ref a_owed, .ref a_said, .ref a_spared, .ref a_leaveGift, .ref a_leaveFrom, .ref a_leaveTo, .ref a_lateDay, .ref a_lateOffice, .ref a_lateBy, .ref a_guests, .ref a_who, .ref a_used, .ref a_lacks, .ref a_candles, .ref a_masses, .ref a_owing, .ref a_heldOn, .ref a_waits, .ref a_tape, .ref a_text, .int v_taped, .int v_size, .int v_at, .int v_fault, .int v_rules, .ref a_statements, .ref a_taken, .ref a_sort, .ref a_first, .ref a_second, .int v_wordEnd, .int v_number])), (a_isPriest, .inl (cZ, 24, .inl g_4)), (a_bars, .inl (cI, 24, .inl g_5)), (a_joined, .inl (cI, 24, .inl g_6))] H := hP
      have hD := asD hP hD
      refine lv_aload_n hx hb dX12_monk_64 rfl (lv_at hl 0 rfl) ?_
      refine va_get (D := D) (ci := 11) (v := .int x_7) (C := RX12) (T := TX12) (N := 54) hx hb hts in_N_monk_X12 hown hK.1 hP 0 rfl rfl 1 (by decide) lk0 (fun _ h9 => h9) rfl dX12_monk_65 ?_
      refine lv_iconst (v := 1) hx hb dX12_monk_68 (by decide) ?_
      refine lv_isub hx hb dX12_monk_69 ?_
      refine lv_topi (fun x_8 ex_8 => ?_)
      first | have tx_8 := t_sub ex_8 (by omega) (by omega) | skip
      exact hret x_8 (x_7, g_4, g_5, g_6) _ _ _ _ (show (((0 ≤ b.toInt ∧ b.toInt ≤ 15) ∧ v_monks.toInt < 24) ∧ x_8.toInt = v_monks.toInt ∧ x_7.toInt = v_monks.toInt + 1) ∨ (¬ ((0 ≤ b.toInt ∧ b.toInt ≤ 15) ∧ v_monks.toInt < 24) ∧ x_8.toInt = -1 ∧ x_7 = v_monks) from by first | exact Or.inl ⟨by omega, by omega, by omega⟩ | exact Or.inr ⟨by omega, by omega, rfl⟩) rfl (hP.sub [0, 1, 2, 3] rfl) (hD.sub [0, 1, 2, 3] (by decide +kernel) rfl) hS dX12_monk_70
    · have tc_3 := t_eq c_3
      refine lv_iconst (v := (-1)) hx hb dX12_monk_19 (by decide) ?_
      exact hret (-1) (v_monks, f_isPriest, f_bars, f_joined) _ _ _ _ (show (((0 ≤ b.toInt ∧ b.toInt ≤ 15) ∧ v_monks.toInt < 24) ∧ (-1 : Int32).toInt = v_monks.toInt ∧ v_monks.toInt = v_monks.toInt + 1) ∨ (¬ ((0 ≤ b.toInt ∧ b.toInt ≤ 15) ∧ v_monks.toInt < 24) ∧ (-1 : Int32).toInt = -1 ∧ v_monks = v_monks) from by first | exact Or.inl ⟨by omega, by omega, by omega⟩ | exact Or.inr ⟨by omega, by omega, rfl⟩) rfl (hP.sub [0, 1, 2, 3] rfl) (hD.sub [0, 1, 2, 3] (by decide +kernel) rfl) hS dX12_monk_20

theorem in_N_away_X12 : ∀ w ∈ wsX120, w ∈ wsX12_away := tl_X12_away_X12
set_option maxHeartbeats 8000000 in
set_option maxRecDepth 100000 in
theorem N_away {l : Launch} {D : va_G} {cI cZ cB : ClassId} {sz : Nat} {h a_isPriest a_bars a_joined a_turns a_awayMonk a_awayFrom a_awayTo a_feastDay a_rank a_isWeekly a_isDouble a_giftDay a_giftFrom a_owed a_said a_spared a_leaveGift a_leaveFrom a_leaveTo a_lateDay a_lateOffice a_lateBy a_guests a_who a_used a_lacks a_candles a_masses a_owing a_heldOn a_waits a_tape a_text a_statements a_taken a_sort a_first a_second : Nat} {v_today v_monks v_aways v_feasts v_gifts v_leaves v_lates v_store v_allCandles v_taped v_size v_at v_fault v_rules v_wordEnd v_number : Int32} {f_awayMonk f_awayFrom f_awayTo : Nat → Int32} {i a b : Int32} (h0_monks : 0 ≤ v_monks.toInt) (h1_monks : v_monks.toInt ≤ 24) (h0_aways : 0 ≤ v_aways.toInt) (h1_aways : v_aways.toInt ≤ 60) (h0_today : 0 ≤ v_today.toInt) (h1_today : v_today.toInt ≤ 1094) : Met l yX12_away wsX12_away ({ frames := 2, cells := 0, slots := 0, locals := 43 }) (RW D cI cZ cB [.ref h, .int i, .int a, .int b] sz [(h, .inr (11, [.int v_today, .int v_monks, .int v_aways, .int v_feasts, .int v_gifts, .int v_leaves, .int v_lates, .int v_store, .int v_allCandles, .ref a_isPriest, .ref a_bars, .ref a_joined, .ref a_turns, .ref a_awayMonk, .ref a_awayFrom, .ref a_awayTo, .ref a_feastDay, .ref a_rank, .ref a_isWeekly, .ref a_isDouble, .ref a_giftDay, .ref a_giftFrom, .ref a_owed, .ref a_said, .ref a_spared, .ref a_leaveGift, .ref a_leaveFrom, .ref a_leaveTo, .ref a_lateDay, .ref a_lateOffice, .ref a_lateBy, .ref a_guests, .ref a_who, .ref a_used, .ref a_lacks, .ref a_candles, .ref a_masses, .ref a_owing, .ref a_heldOn, .ref a_waits, .ref a_tape, .ref a_text, .int v_taped, .int v_size, .int v_at, .int v_fault, .int v_rules, .ref a_statements, .ref a_taken, .ref a_sort, .ref a_first, .ref a_second, .int v_wordEnd, .int v_number])), (a_awayMonk, .inl (cI, 60, .inl f_awayMonk)), (a_awayFrom, .inl (cI, 60, .inl f_awayFrom)), (a_awayTo, .inl (cI, 60, .inl f_awayTo))]) (va_Qi (fun (r : Int32) (u : Int32 × (Nat → Int32) × (Nat → Int32) × (Nat → Int32)) => (((0 ≤ i.toInt ∧ i.toInt < v_monks.toInt ∧ v_today.toInt ≤ a.toInt ∧ a.toInt ≤ b.toInt ∧ b.toInt ≤ 1094) ∧ v_aways.toInt < 60) ∧ r.toInt = v_aways.toInt + 1 ∧ u.1.toInt = v_aways.toInt + 1) ∨ (¬ ((0 ≤ i.toInt ∧ i.toInt < v_monks.toInt ∧ v_today.toInt ≤ a.toInt ∧ a.toInt ≤ b.toInt ∧ b.toInt ≤ 1094) ∧ v_aways.toInt < 60) ∧ r.toInt = -1 ∧ u.1 = v_aways)) (BW D [(h, .inr (11, [.int v_today, .int v_monks, .int v_aways, .int v_feasts, .int v_gifts, .int v_leaves, .int v_lates, .int v_store, .int v_allCandles, .ref a_isPriest, .ref a_bars, .ref a_joined, .ref a_turns, .ref a_awayMonk, .ref a_awayFrom, .ref a_awayTo, .ref a_feastDay, .ref a_rank, .ref a_isWeekly, .ref a_isDouble, .ref a_giftDay, .ref a_giftFrom, .ref a_owed, .ref a_said, .ref a_spared, .ref a_leaveGift, .ref a_leaveFrom, .ref a_leaveTo, .ref a_lateDay, .ref a_lateOffice, .ref a_lateBy, .ref a_guests, .ref a_who, .ref a_used, .ref a_lacks, .ref a_candles, .ref a_masses, .ref a_owing, .ref a_heldOn, .ref a_waits, .ref a_tape, .ref a_text, .int v_taped, .int v_size, .int v_at, .int v_fault, .int v_rules, .ref a_statements, .ref a_taken, .ref a_sort, .ref a_first, .ref a_second, .int v_wordEnd, .int v_number])), (a_awayMonk, .inl (cI, 60, .inl f_awayMonk)), (a_awayFrom, .inl (cI, 60, .inl f_awayFrom)), (a_awayTo, .inl (cI, 60, .inl f_awayTo))] sz (fun u : Int32 × (Nat → Int32) × (Nat → Int32) × (Nat → Int32) => [(h, .inr (11, [.int v_today, .int v_monks, .int u.1, .int v_feasts, .int v_gifts, .int v_leaves, .int v_lates, .int v_store, .int v_allCandles, .ref a_isPriest, .ref a_bars, .ref a_joined, .ref a_turns, .ref a_awayMonk, .ref a_awayFrom, .ref a_awayTo, .ref a_feastDay, .ref a_rank, .ref a_isWeekly, .ref a_isDouble, .ref a_giftDay, .ref a_giftFrom, .ref a_owed, .ref a_said, .ref a_spared, .ref a_leaveGift, .ref a_leaveFrom, .ref a_leaveTo, .ref a_lateDay, .ref a_lateOffice, .ref a_lateBy, .ref a_guests, .ref a_who, .ref a_used, .ref a_lacks, .ref a_candles, .ref a_masses, .ref a_owing, .ref a_heldOn, .ref a_waits, .ref a_tape, .ref a_text, .int v_taped, .int v_size, .int v_at, .int v_fault, .int v_rules, .ref a_statements, .ref a_taken, .ref a_sort, .ref a_first, .ref a_second, .int v_wordEnd, .int v_number])), (a_awayMonk, .inl (cI, 60, .inl u.2.1)), (a_awayFrom, .inl (cI, 60, .inl u.2.2.1)), (a_awayTo, .inl (cI, 60, .inl u.2.2.2))])) (va_A [(h, .inr (11, [.int v_today, .int v_monks, .int v_aways, .int v_feasts, .int v_gifts, .int v_leaves, .int v_lates, .int v_store, .int v_allCandles, .ref a_isPriest, .ref a_bars, .ref a_joined, .ref a_turns, .ref a_awayMonk, .ref a_awayFrom, .ref a_awayTo, .ref a_feastDay, .ref a_rank, .ref a_isWeekly, .ref a_isDouble, .ref a_giftDay, .ref a_giftFrom, .ref a_owed, .ref a_said, .ref a_spared, .ref a_leaveGift, .ref a_leaveFrom, .ref a_leaveTo, .ref a_lateDay, .ref a_lateOffice, .ref a_lateBy, .ref a_guests, .ref a_who, .ref a_used, .ref a_lacks, .ref a_candles, .ref a_masses, .ref a_owing, .ref a_heldOn, .ref a_waits, .ref a_tape, .ref a_text, .int v_taped, .int v_size, .int v_at, .int v_fault, .int v_rules, .ref a_statements, .ref a_taken, .ref a_sort, .ref a_first, .ref a_second, .int v_wordEnd, .int v_number])), (a_awayMonk, .inl (cI, 60, .inl f_awayMonk)), (a_awayFrom, .inl (cI, 60, .inl f_awayFrom)), (a_awayTo, .inl (cI, 60, .inl f_awayTo))] sz)) 0 0 (va_A [(h, .inr (11, [.int v_today, .int v_monks, .int v_aways, .int v_feasts, .int v_gifts, .int v_leaves, .int v_lates, .int v_store, .int v_allCandles, .ref a_isPriest, .ref a_bars, .ref a_joined, .ref a_turns, .ref a_awayMonk, .ref a_awayFrom, .ref a_awayTo, .ref a_feastDay, .ref a_rank, .ref a_isWeekly, .ref a_isDouble, .ref a_giftDay, .ref a_giftFrom, .ref a_owed, .ref a_said, .ref a_spared, .ref a_leaveGift, .ref a_leaveFrom, .ref a_leaveTo, .ref a_lateDay, .ref a_lateOffice, .ref a_lateBy, .ref a_guests, .ref a_who, .ref a_used, .ref a_lacks, .ref a_candles, .ref a_masses, .ref a_owing, .ref a_heldOn, .ref a_waits, .ref a_tape, .ref a_text, .int v_taped, .int v_size, .int v_at, .int v_fault, .int v_rules, .ref a_statements, .ref a_taken, .ref a_sort, .ref a_first, .ref a_second, .int v_wordEnd, .int v_number])), (a_awayMonk, .inl (cI, 60, .inl f_awayMonk)), (a_awayFrom, .inl (cI, 60, .inl f_awayFrom)), (a_awayTo, .inl (cI, 60, .inl f_awayTo))] sz) := by
  refine rw_ret (cc := cX12_away) (maxL := 4) (ty := .int) (own := RX12) (by decide) rfl rfl (Nat.le_of_ble_eq_true rfl) ?_
  intro p e s m args below meth c Q A S hin hret hP hK hD hA hS ls hl
  obtain ⟨hx, hb, hml, hown, hts⟩ := id S
  have hl : lv_has ls 4 [(0, .ref h), (1, .int i), (2, .int a), (3, .int b)] := hl
  have kkm1 : (-1 : Int32).toInt = -1 := by decide
  have kk0 : (0 : Int32).toInt = 0 := by decide
  have kk1 : (1 : Int32).toInt = 1 := by decide
  have kk60 : (60 : Int32).toInt = 60 := by decide
  have lk0 := hts (.fieldLink RX12 140 "AbbeyHoursModel" "today" "I") (List.mem_cons_of_mem _ (List.mem_append_left _ (List.mem_of_getElem? (i := 0) rfl)))
  have lk1 := hts (.fieldLink RX12 150 "AbbeyHoursModel" "aways" "I") (List.mem_cons_of_mem _ (List.mem_append_left _ (List.mem_of_getElem? (i := 1) rfl)))
  have lk2 := hts (.fieldLink RX12 23 "AbbeyHoursModel" "awayMonk" "[I") (List.mem_cons_of_mem _ (List.mem_append_left _ (List.mem_of_getElem? (i := 2) rfl)))
  have lk3 := hts (.fieldLink RX12 26 "AbbeyHoursModel" "awayFrom" "[I") (List.mem_cons_of_mem _ (List.mem_append_left _ (List.mem_of_getElem? (i := 3) rfl)))
  have lk4 := hts (.fieldLink RX12 29 "AbbeyHoursModel" "awayTo" "[I") (List.mem_cons_of_mem _ (List.mem_append_left _ (List.mem_of_getElem? (i := 4) rfl)))
  refine lv_aload_n hx hb dX12_away_0 rfl (lv_at hl 0 rfl) ?_
  refine lv_iload_n hx hb dX12_away_1 rfl (lv_at hl 1 rfl) ?_
  have hPc := hP.sub (ws' := [(h, .inr (11, [.int v_today, .int v_monks, .int v_aways, .int v_feasts, .int v_gifts, .int v_leaves, .int v_lates, .int v_store, .int v_allCandles, .ref a_isPriest, .ref a_bars, .ref a_joined, .ref a_turns, .ref a_awayMonk, .ref a_awayFrom, .ref a_awayTo, .ref a_feastDay, .ref a_rank, .ref a_isWeekly, .ref a_isDouble, .ref a_giftDay, .ref a_giftFrom, .ref a_owed, .ref a_said, .ref a_spared, .ref a_leaveGift, .ref a_leaveFrom, .ref a_leaveTo, .ref a_lateDay, .ref a_lateOffice, .ref a_lateBy, .ref a_guests, .ref a_who, .ref a_used, .ref a_lacks, .ref a_candles, .ref a_masses, .ref a_owing, .ref a_heldOn, .ref a_waits, .ref a_tape, .ref a_text, .int v_taped, .int v_size, .int v_at, .int v_fault, .int v_rules, .ref a_statements, .ref a_taken, .ref a_sort, .ref a_first, .ref a_second, .int v_wordEnd, .int v_number]))]) [0] rfl
  refine roV (As := [.int i]) (rest := []) S (n_isMonk  (by omega) (by omega)) (cwV 1 hts gX12_away_X12_isMonk rfl rfl rfl ⟨rfl, hd_X12_isMonk⟩ ⟨Nat.le_of_ble_eq_true rfl, Nat.le_of_ble_eq_true rfl⟩) hK hPc (va_recv hK.1 hPc (ci := 11) (q0 := 0) rfl rfl) rfl hl.1 rfl (Nat.le_of_ble_eq_true rfl) dX12_away_2 ⟨Nat.le_of_ble_eq_true rfl, Nat.le_of_ble_eq_true rfl⟩ (fun r_1 hw_1 => ?_)
  have hw_1 : (r_1.toInt = 1 ∧ 0 ≤ i.toInt ∧ i.toInt < v_monks.toInt) ∨ (r_1.toInt = 0 ∧ (i.toInt < 0 ∨ v_monks.toInt ≤ i.toInt)) := hw_1
  refine lv_if_eq (tgt := 37) hx hb dX12_away_5 (by decide) (fun c_2 => ?_) (fun c_2 => ?_)
  · have tc_2 := t_eq c_2
    refine lv_iconst (v := (-1)) hx hb dX12_away_37 (by decide) ?_
    exact hret (-1) (v_aways, f_awayMonk, f_awayFrom, f_awayTo) _ _ _ _ (show (((0 ≤ i.toInt ∧ i.toInt < v_monks.toInt ∧ v_today.toInt ≤ a.toInt ∧ a.toInt ≤ b.toInt ∧ b.toInt ≤ 1094) ∧ v_aways.toInt < 60) ∧ (-1 : Int32).toInt = v_aways.toInt + 1 ∧ v_aways.toInt = v_aways.toInt + 1) ∨ (¬ ((0 ≤ i.toInt ∧ i.toInt < v_monks.toInt ∧ v_today.toInt ≤ a.toInt ∧ a.toInt ≤ b.toInt ∧ b.toInt ≤ 1094) ∧ v_aways.toInt < 60) ∧ (-1 : Int32).toInt = -1 ∧ v_aways = v_aways) from by first | exact Or.inl ⟨by omega, by omega, by omega⟩ | exact Or.inr ⟨by omega, by omega, rfl⟩) rfl (hP.sub [0, 1, 2, 3] rfl) (hD.sub [0, 1, 2, 3] (by decide +kernel) rfl) hS dX12_away_38
  · have tc_2 := t_neq c_2
    refine lv_iload_n hx hb dX12_away_8 rfl (lv_at hl 2 rfl) ?_
    refine lv_aload_n hx hb dX12_away_9 rfl (lv_at hl 0 rfl) ?_
    refine va_get (D := D) (ci := 11) (v := .int v_today) (C := RX12) (T := TX12) (N := 54) hx hb hts in_N_away_X12 hown hK.1 hP 0 rfl rfl 0 (by decide) lk0 (fun _ h9 => h9) rfl dX12_away_10 ?_
    refine lv_icmp_lt (tgt := 37) hx hb dX12_away_13 (by decide) (fun c_3 => ?_) (fun c_3 => ?_)
    · have tc_3 := t_lt c_3
      refine lv_iconst (v := (-1)) hx hb dX12_away_37 (by decide) ?_
      exact hret (-1) (v_aways, f_awayMonk, f_awayFrom, f_awayTo) _ _ _ _ (show (((0 ≤ i.toInt ∧ i.toInt < v_monks.toInt ∧ v_today.toInt ≤ a.toInt ∧ a.toInt ≤ b.toInt ∧ b.toInt ≤ 1094) ∧ v_aways.toInt < 60) ∧ (-1 : Int32).toInt = v_aways.toInt + 1 ∧ v_aways.toInt = v_aways.toInt + 1) ∨ (¬ ((0 ≤ i.toInt ∧ i.toInt < v_monks.toInt ∧ v_today.toInt ≤ a.toInt ∧ a.toInt ≤ b.toInt ∧ b.toInt ≤ 1094) ∧ v_aways.toInt < 60) ∧ (-1 : Int32).toInt = -1 ∧ v_aways = v_aways) from by first | exact Or.inl ⟨by omega, by omega, by omega⟩ | exact Or.inr ⟨by omega, by omega, rfl⟩) rfl (hP.sub [0, 1, 2, 3] rfl) (hD.sub [0, 1, 2, 3] (by decide +kernel) rfl) hS dX12_away_38
    · have tc_3 := t_nlt c_3
      refine lv_iload_n hx hb dX12_away_16 rfl (lv_at hl 2 rfl) ?_
      refine lv_iload_n hx hb dX12_away_17 rfl (lv_at hl 3 rfl) ?_
      refine lv_icmp_gt (tgt := 37) hx hb dX12_away_18 (by decide) (fun c_4 => ?_) (fun c_4 => ?_)
      · have tc_4 := t_lt c_4
        refine lv_iconst (v := (-1)) hx hb dX12_away_37 (by decide) ?_
        exact hret (-1) (v_aways, f_awayMonk, f_awayFrom, f_awayTo) _ _ _ _ (show (((0 ≤ i.toInt ∧ i.toInt < v_monks.toInt ∧ v_today.toInt ≤ a.toInt ∧ a.toInt ≤ b.toInt ∧ b.toInt ≤ 1094) ∧ v_aways.toInt < 60) ∧ (-1 : Int32).toInt = v_aways.toInt + 1 ∧ v_aways.toInt = v_aways.toInt + 1) ∨ (¬ ((0 ≤ i.toInt ∧ i.toInt < v_monks.toInt ∧ v_today.toInt ≤ a.toInt ∧ a.toInt ≤ b.toInt ∧ b.toInt ≤ 1094) ∧ v_aways.toInt < 60) ∧ (-1 : Int32).toInt = -1 ∧ v_aways = v_aways) from by first | exact Or.inl ⟨by omega, by omega, by omega⟩ | exact Or.inr ⟨by omega, by omega, rfl⟩) rfl (hP.sub [0, 1, 2, 3] rfl) (hD.sub [0, 1, 2, 3] (by decide +kernel) rfl) hS dX12_away_38
      · have tc_4 := t_nlt c_4
        refine lv_iload_n hx hb dX12_away_21 rfl (lv_at hl 3 rfl) ?_
        have hPc := hP.sub (ws' := []) [] rfl
        refine roS (As := [.int b]) (rest := []) S (m_isDay  ) (va_cwS 1 hts gX12_away_X12_isDay rfl rfl rfl hd_X12_isDay ⟨Nat.le_of_ble_eq_true rfl, Nat.le_of_ble_eq_true rfl⟩) hK hPc rfl hl.1 rfl (Nat.le_of_ble_eq_true rfl) dX12_away_22 ⟨Nat.le_of_ble_eq_true rfl, Nat.le_of_ble_eq_true rfl⟩ (fun r_5 hw_5 => ?_)
        have hw_5 : (r_5.toInt = 1 ∧ 0 ≤ b.toInt ∧ b.toInt ≤ 1094) ∨ (r_5.toInt = 0 ∧ (b.toInt < 0 ∨ 1094 < b.toInt)) := hw_5
        refine lv_if_eq (tgt := 37) hx hb dX12_away_25 (by decide) (fun c_6 => ?_) (fun c_6 => ?_)
        · have tc_6 := t_eq c_6
          refine lv_iconst (v := (-1)) hx hb dX12_away_37 (by decide) ?_
          exact hret (-1) (v_aways, f_awayMonk, f_awayFrom, f_awayTo) _ _ _ _ (show (((0 ≤ i.toInt ∧ i.toInt < v_monks.toInt ∧ v_today.toInt ≤ a.toInt ∧ a.toInt ≤ b.toInt ∧ b.toInt ≤ 1094) ∧ v_aways.toInt < 60) ∧ (-1 : Int32).toInt = v_aways.toInt + 1 ∧ v_aways.toInt = v_aways.toInt + 1) ∨ (¬ ((0 ≤ i.toInt ∧ i.toInt < v_monks.toInt ∧ v_today.toInt ≤ a.toInt ∧ a.toInt ≤ b.toInt ∧ b.toInt ≤ 1094) ∧ v_aways.toInt < 60) ∧ (-1 : Int32).toInt = -1 ∧ v_aways = v_aways) from by first | exact Or.inl ⟨by omega, by omega, by omega⟩ | exact Or.inr ⟨by omega, by omega, rfl⟩) rfl (hP.sub [0, 1, 2, 3] rfl) (hD.sub [0, 1, 2, 3] (by decide +kernel) rfl) hS dX12_away_38
        · have tc_6 := t_neq c_6
          refine lv_aload_n hx hb dX12_away_28 rfl (lv_at hl 0 rfl) ?_
          refine va_get (D := D) (ci := 11) (v := .int v_aways) (C := RX12) (T := TX12) (N := 54) hx hb hts in_N_away_X12 hown hK.1 hP 0 rfl rfl 2 (by decide) lk1 (fun _ h9 => h9) rfl dX12_away_29 ?_
          refine lv_bipush (v := 60) hx hb dX12_away_32 (by decide) ?_
          refine lv_icmp_ne (tgt := 39) hx hb dX12_away_34 (by decide) (fun c_7 => ?_) (fun c_7 => ?_)
          · have tc_7 := t_neq c_7
            refine lv_aload_n hx hb dX12_away_39 rfl (lv_at hl 0 rfl) ?_
            refine va_get (D := D) (ci := 11) (v := .ref a_awayMonk) (C := RX12) (T := TX12) (N := 54) hx hb hts in_N_away_X12 hown hK.1 hP 0 rfl rfl 13 (by decide) lk2 (fun _ h9 => h9) rfl dX12_away_40 ?_
            refine lv_aload_n hx hb dX12_away_43 rfl (lv_at hl 0 rfl) ?_
            refine va_get (D := D) (ci := 11) (v := .int v_aways) (C := RX12) (T := TX12) (N := 54) hx hb hts in_N_away_X12 hown hK.1 hP 0 rfl rfl 2 (by decide) lk1 (fun _ h9 => h9) rfl dX12_away_44 ?_
            refine lv_iload_n hx hb dX12_away_47 rfl (lv_at hl 1 rfl) ?_
            refine va_iast hx hb hK.1 hP hD hS 1 0 rfl rfl (t_in (by omega) (by omega)) dX12_away_48 (fun H locs hP hD hS => ?_)
            obtain ⟨g_8, eg_8⟩ : ∃ z : Nat → Int32, z = upd f_awayMonk ((v_aways : Int32).toNatClampNeg) i := ⟨_, rfl⟩
            rw [← eg_8] at hP hD
            have hP : va_P D vwCl [(h, .inr (11, [.int v_today, .int v_monks, .int v_aways, .int v_feasts, .int v_gifts, .int v_leaves, .int v_lates, .int v_store, .int v_allCandles, .ref a_isPriest, .ref a_bars, .ref a_joined, .ref a_turns, .ref a_awayMonk, .ref a_awayFrom, .ref a_awayTo, .ref a_feastDay, .ref a_rank, .ref a_isWeekly, .ref a_isDouble, .ref a_giftDay, .ref a_giftFrom, .ref a_owed, .ref a_said, .ref a_spared, .ref a_leaveGift, .ref a_leaveFrom, .ref a_leaveTo, .ref a_lateDay, .ref a_lateOffice, .ref a_lateBy, .ref a_guests, .ref a_who, .ref a_used, .ref a_lacks, .ref a_candles, .ref a_masses, .ref a_owing, .ref a_heldOn, .ref a_waits, .ref a_tape, .ref a_text, .int v_taped, .int v_size, .int v_at, .int v_fault, .int v_rules, .ref a_statements, .ref a_taken, .ref a_sort, .ref a_first, .ref a_second, .int v_wordEnd, .int v_number])), (a_awayMonk, .inl (cI, 60, .inl g_8)), (a_awayFrom, .inl (cI, 60, .inl f_awayFrom)), (a_awayTo, .inl (cI, 60, .inl f_awayTo))] H := hP
            have hD := asD hP hD
            refine lv_aload_n hx hb dX12_away_49 rfl (lv_at hl 0 rfl) ?_
            refine va_get (D := D) (ci := 11) (v := .ref a_awayFrom) (C := RX12) (T := TX12) (N := 54) hx hb hts in_N_away_X12 hown hK.1 hP 0 rfl rfl 14 (by decide) lk3 (fun _ h9 => h9) rfl dX12_away_50 ?_
            refine lv_aload_n hx hb dX12_away_53 rfl (lv_at hl 0 rfl) ?_
            refine va_get (D := D) (ci := 11) (v := .int v_aways) (C := RX12) (T := TX12) (N := 54) hx hb hts in_N_away_X12 hown hK.1 hP 0 rfl rfl 2 (by decide) lk1 (fun _ h9 => h9) rfl dX12_away_54 ?_
            refine lv_iload_n hx hb dX12_away_57 rfl (lv_at hl 2 rfl) ?_
            refine va_iast hx hb hK.1 hP hD hS 2 0 rfl rfl (t_in (by omega) (by omega)) dX12_away_58 (fun H locs hP hD hS => ?_)
            obtain ⟨g_9, eg_9⟩ : ∃ z : Nat → Int32, z = upd f_awayFrom ((v_aways : Int32).toNatClampNeg) a := ⟨_, rfl⟩
            rw [← eg_9] at hP hD
            have hP : va_P D vwCl [(h, .inr (11, [.int v_today, .int v_monks, .int v_aways, .int v_feasts, .int v_gifts, .int v_leaves, .int v_lates, .int v_store, .int v_allCandles, .ref a_isPriest, .ref a_bars, .ref a_joined, .ref a_turns, .ref a_awayMonk, .ref a_awayFrom, .ref a_awayTo, .ref a_feastDay, .ref a_rank, .ref a_isWeekly, .ref a_isDouble, .ref a_giftDay, .ref a_giftFrom, .ref a_owed, .ref a_said, .ref a_spared, .ref a_leaveGift, .ref a_leaveFrom, .ref a_leaveTo, .ref a_lateDay, .ref a_lateOffice, .ref a_lateBy, .ref a_guests, .ref a_who, .ref a_used, .ref a_lacks, .ref a_candles, .ref a_masses, .ref a_owing, .ref a_heldOn, .ref a_waits, .ref a_tape, .ref a_text, .int v_taped, .int v_size, .int v_at, .int v_fault, .int v_rules, .ref a_statements, .ref a_taken, .ref a_sort, .ref a_first, .ref a_second, .int v_wordEnd, .int v_number])), (a_awayMonk, .inl (cI, 60, .inl g_8)), (a_awayFrom, .inl (cI, 60, .inl g_9)), (a_awayTo, .inl (cI, 60, .inl f_awayTo))] H := hP
            have hD := asD hP hD
            refine lv_aload_n hx hb dX12_away_59 rfl (lv_at hl 0 rfl) ?_
            refine va_get (D := D) (ci := 11) (v := .ref a_awayTo) (C := RX12) (T := TX12) (N := 54) hx hb hts in_N_away_X12 hown hK.1 hP 0 rfl rfl 15 (by decide) lk4 (fun _ h9 => h9) rfl dX12_away_60 ?_
            refine lv_aload_n hx hb dX12_away_63 rfl (lv_at hl 0 rfl) ?_
            refine va_get (D := D) (ci := 11) (v := .int v_aways) (C := RX12) (T := TX12) (N := 54) hx hb hts in_N_away_X12 hown hK.1 hP 0 rfl rfl 2 (by decide) lk1 (fun _ h9 => h9) rfl dX12_away_64 ?_
            refine lv_iload_n hx hb dX12_away_67 rfl (lv_at hl 3 rfl) ?_
            refine va_iast hx hb hK.1 hP hD hS 3 0 rfl rfl (t_in (by omega) (by omega)) dX12_away_68 (fun H locs hP hD hS => ?_)
            obtain ⟨g_10, eg_10⟩ : ∃ z : Nat → Int32, z = upd f_awayTo ((v_aways : Int32).toNatClampNeg) b := ⟨_, rfl⟩
            rw [← eg_10] at hP hD
            have hP : va_P D vwCl [(h, .inr (11, [.int v_today, .int v_monks, .int v_aways, .int v_feasts, .int v_gifts, .int v_leaves, .int v_lates, .int v_store, .int v_allCandles, .ref a_isPriest, .ref a_bars, .ref a_joined, .ref a_turns, .ref a_awayMonk, .ref a_awayFrom, .ref a_awayTo, .ref a_feastDay, .ref a_rank, .ref a_isWeekly, .ref a_isDouble, .ref a_giftDay, .ref a_giftFrom, .ref a_owed, .ref a_said, .ref a_spared, .ref a_leaveGift, .ref a_leaveFrom, .ref a_leaveTo, .ref a_lateDay, .ref a_lateOffice, .ref a_lateBy, .ref a_guests, .ref a_who, .ref a_used, .ref a_lacks, .ref a_candles, .ref a_masses, .ref a_owing, .ref a_heldOn, .ref a_waits, .ref a_tape, .ref a_text, .int v_taped, .int v_size, .int v_at, .int v_fault, .int v_rules, .ref a_statements, .ref a_taken, .ref a_sort, .ref a_first, .ref a_second, .int v_wordEnd, .int v_number])), (a_awayMonk, .inl (cI, 60, .inl g_8)), (a_awayFrom, .inl (cI, 60, .inl g_9)), (a_awayTo, .inl (cI, 60, .inl g_10))] H := hP
            have hD := asD hP hD
            refine lv_aload_n hx hb dX12_away_69 rfl (lv_at hl 0 rfl) ?_
            refine lv_dup hx hb dX12_away_70 rfl ?_
            refine va_get (D := D) (ci := 11) (v := .int v_aways) (C := RX12) (T := TX12) (N := 54) hx hb hts in_N_away_X12 hown hK.1 hP 0 rfl rfl 2 (by decide) lk1 (fun _ h9 => h9) rfl dX12_away_71 ?_
            refine lv_iconst (v := 1) hx hb dX12_away_74 (by decide) ?_
            refine lv_iadd hx hb dX12_away_75 ?_
            refine lv_topi (fun x_11 ex_11 => ?_)
            first | have tx_11 := t_add ex_11 (by omega) (by omega) | skip
            refine va_put (D := D) (ci := 11) (v := .int x_11) (ty := .int) (C := RX12) (T := TX12) (N := 54) hx hb hts in_N_away_X12 tyX12 tyX12_ok nmX12 hown hK.1 hP hD hS 0 rfl rfl 2 (by decide) lk1 (fun _ h9 => h9) rfl (by decide +kernel) rfl rfl (Nat.le_of_ble_eq_true rfl) dX12_away_76 (fun H locs hP hD hS => ?_)
            have hP : va_P D vwCl [(h, .inr (11, [.int v_today, .int v_monks, .int x_11, .int v_feasts, .int v_gifts, .int v_leaves, .int v_lates, .int v_store, .int v_allCandles, .ref a_isPriest, .ref a_bars, .ref a_joined, .ref a_turns, .ref a_awayMonk, .ref a_awayFrom, .ref a_awayTo, .ref a_feastDay, .ref a_rank, .ref a_isWeekly, .ref a_isDouble, .ref a_giftDay, .ref a_giftFrom, .ref a_owed, .ref a_said, .ref a_spared, .ref a_leaveGift, .ref a_leaveFrom, .ref a_leaveTo, .ref a_lateDay, .ref a_lateOffice, .ref a_lateBy, .ref a_guests, .ref a_who, .ref a_used, .ref a_lacks, .ref a_candles, .ref a_masses, .ref a_owing, .ref a_heldOn, .ref a_waits, .ref a_tape, .ref a_text, .int v_taped, .int v_size, .int v_at, .int v_fault, .int v_rules, .ref a_statements, .ref a_taken, .ref a_sort, .ref a_first, .ref a_second, .int v_wordEnd, .int v_number])), (a_awayMonk, .inl (cI, 60, .inl g_8)), (a_awayFrom, .inl (cI, 60, .inl g_9)), (a_awayTo, .inl (cI, 60, .inl g_10))] H := hP
            have hD := asD hP hD
            refine lv_aload_n hx hb dX12_away_79 rfl (lv_at hl 0 rfl) ?_
            refine va_get (D := D) (ci := 11) (v := .int x_11) (C := RX12) (T := TX12) (N := 54) hx hb hts in_N_away_X12 hown hK.1 hP 0 rfl rfl 2 (by decide) lk1 (fun _ h9 => h9) rfl dX12_away_80 ?_
            exact hret x_11 (x_11, g_8, g_9, g_10) _ _ _ _ (show (((0 ≤ i.toInt ∧ i.toInt < v_monks.toInt ∧ v_today.toInt ≤ a.toInt ∧ a.toInt ≤ b.toInt ∧ b.toInt ≤ 1094) ∧ v_aways.toInt < 60) ∧ x_11.toInt = v_aways.toInt + 1 ∧ x_11.toInt = v_aways.toInt + 1) ∨ (¬ ((0 ≤ i.toInt ∧ i.toInt < v_monks.toInt ∧ v_today.toInt ≤ a.toInt ∧ a.toInt ≤ b.toInt ∧ b.toInt ≤ 1094) ∧ v_aways.toInt < 60) ∧ x_11.toInt = -1 ∧ x_11 = v_aways) from by first | exact Or.inl ⟨by omega, by omega, by omega⟩ | exact Or.inr ⟨by omega, by omega, rfl⟩) rfl (hP.sub [0, 1, 2, 3] rfl) (hD.sub [0, 1, 2, 3] (by decide +kernel) rfl) hS dX12_away_83
          · have tc_7 := t_eq c_7
            refine lv_iconst (v := (-1)) hx hb dX12_away_37 (by decide) ?_
            exact hret (-1) (v_aways, f_awayMonk, f_awayFrom, f_awayTo) _ _ _ _ (show (((0 ≤ i.toInt ∧ i.toInt < v_monks.toInt ∧ v_today.toInt ≤ a.toInt ∧ a.toInt ≤ b.toInt ∧ b.toInt ≤ 1094) ∧ v_aways.toInt < 60) ∧ (-1 : Int32).toInt = v_aways.toInt + 1 ∧ v_aways.toInt = v_aways.toInt + 1) ∨ (¬ ((0 ≤ i.toInt ∧ i.toInt < v_monks.toInt ∧ v_today.toInt ≤ a.toInt ∧ a.toInt ≤ b.toInt ∧ b.toInt ≤ 1094) ∧ v_aways.toInt < 60) ∧ (-1 : Int32).toInt = -1 ∧ v_aways = v_aways) from by first | exact Or.inl ⟨by omega, by omega, by omega⟩ | exact Or.inr ⟨by omega, by omega, rfl⟩) rfl (hP.sub [0, 1, 2, 3] rfl) (hD.sub [0, 1, 2, 3] (by decide +kernel) rfl) hS dX12_away_38

theorem in_N_feast_X12 : ∀ w ∈ wsX120, w ∈ wsX12_feast := tl_X12_feast_X12
set_option maxHeartbeats 8000000 in
set_option maxRecDepth 100000 in
theorem N_feast {l : Launch} {D : va_G} {cI cZ cB : ClassId} {sz : Nat} {h a_isPriest a_bars a_joined a_turns a_awayMonk a_awayFrom a_awayTo a_feastDay a_rank a_isWeekly a_isDouble a_giftDay a_giftFrom a_owed a_said a_spared a_leaveGift a_leaveFrom a_leaveTo a_lateDay a_lateOffice a_lateBy a_guests a_who a_used a_lacks a_candles a_masses a_owing a_heldOn a_waits a_tape a_text a_statements a_taken a_sort a_first a_second : Nat} {v_today v_monks v_aways v_feasts v_gifts v_leaves v_lates v_store v_allCandles v_taped v_size v_at v_fault v_rules v_wordEnd v_number : Int32} {f_feastDay f_rank : Nat → Int32} {d k : Int32} (h0_feasts : 0 ≤ v_feasts.toInt) (h1_feasts : v_feasts.toInt ≤ 40) : Met l yX12_feast wsX12_feast ({ frames := 1, cells := 0, slots := 0, locals := 22 }) (RW D cI cZ cB [.ref h, .int d, .int k] sz [(h, .inr (11, [.int v_today, .int v_monks, .int v_aways, .int v_feasts, .int v_gifts, .int v_leaves, .int v_lates, .int v_store, .int v_allCandles, .ref a_isPriest, .ref a_bars, .ref a_joined, .ref a_turns, .ref a_awayMonk, .ref a_awayFrom, .ref a_awayTo, .ref a_feastDay, .ref a_rank, .ref a_isWeekly, .ref a_isDouble, .ref a_giftDay, .ref a_giftFrom, .ref a_owed, .ref a_said, .ref a_spared, .ref a_leaveGift, .ref a_leaveFrom, .ref a_leaveTo, .ref a_lateDay, .ref a_lateOffice, .ref a_lateBy, .ref a_guests, .ref a_who, .ref a_used, .ref a_lacks, .ref a_candles, .ref a_masses, .ref a_owing, .ref a_heldOn, .ref a_waits, .ref a_tape, .ref a_text, .int v_taped, .int v_size, .int v_at, .int v_fault, .int v_rules, .ref a_statements, .ref a_taken, .ref a_sort, .ref a_first, .ref a_second, .int v_wordEnd, .int v_number])), (a_feastDay, .inl (cI, 40, .inl f_feastDay)), (a_rank, .inl (cI, 40, .inl f_rank))]) (va_Qi (fun (r : Int32) (u : Int32 × (Nat → Int32) × (Nat → Int32)) => (((0 ≤ d.toInt ∧ d.toInt ≤ 364 ∧ 1 ≤ k.toInt ∧ k.toInt ≤ 4) ∧ v_feasts.toInt < 40) ∧ r.toInt = v_feasts.toInt ∧ u.1.toInt = v_feasts.toInt + 1) ∨ (¬ ((0 ≤ d.toInt ∧ d.toInt ≤ 364 ∧ 1 ≤ k.toInt ∧ k.toInt ≤ 4) ∧ v_feasts.toInt < 40) ∧ r.toInt = -1 ∧ u.1 = v_feasts)) (BW D [(h, .inr (11, [.int v_today, .int v_monks, .int v_aways, .int v_feasts, .int v_gifts, .int v_leaves, .int v_lates, .int v_store, .int v_allCandles, .ref a_isPriest, .ref a_bars, .ref a_joined, .ref a_turns, .ref a_awayMonk, .ref a_awayFrom, .ref a_awayTo, .ref a_feastDay, .ref a_rank, .ref a_isWeekly, .ref a_isDouble, .ref a_giftDay, .ref a_giftFrom, .ref a_owed, .ref a_said, .ref a_spared, .ref a_leaveGift, .ref a_leaveFrom, .ref a_leaveTo, .ref a_lateDay, .ref a_lateOffice, .ref a_lateBy, .ref a_guests, .ref a_who, .ref a_used, .ref a_lacks, .ref a_candles, .ref a_masses, .ref a_owing, .ref a_heldOn, .ref a_waits, .ref a_tape, .ref a_text, .int v_taped, .int v_size, .int v_at, .int v_fault, .int v_rules, .ref a_statements, .ref a_taken, .ref a_sort, .ref a_first, .ref a_second, .int v_wordEnd, .int v_number])), (a_feastDay, .inl (cI, 40, .inl f_feastDay)), (a_rank, .inl (cI, 40, .inl f_rank))] sz (fun u : Int32 × (Nat → Int32) × (Nat → Int32) => [(h, .inr (11, [.int v_today, .int v_monks, .int v_aways, .int u.1, .int v_gifts, .int v_leaves, .int v_lates, .int v_store, .int v_allCandles, .ref a_isPriest, .ref a_bars, .ref a_joined, .ref a_turns, .ref a_awayMonk, .ref a_awayFrom, .ref a_awayTo, .ref a_feastDay, .ref a_rank, .ref a_isWeekly, .ref a_isDouble, .ref a_giftDay, .ref a_giftFrom, .ref a_owed, .ref a_said, .ref a_spared, .ref a_leaveGift, .ref a_leaveFrom, .ref a_leaveTo, .ref a_lateDay, .ref a_lateOffice, .ref a_lateBy, .ref a_guests, .ref a_who, .ref a_used, .ref a_lacks, .ref a_candles, .ref a_masses, .ref a_owing, .ref a_heldOn, .ref a_waits, .ref a_tape, .ref a_text, .int v_taped, .int v_size, .int v_at, .int v_fault, .int v_rules, .ref a_statements, .ref a_taken, .ref a_sort, .ref a_first, .ref a_second, .int v_wordEnd, .int v_number])), (a_feastDay, .inl (cI, 40, .inl u.2.1)), (a_rank, .inl (cI, 40, .inl u.2.2))])) (va_A [(h, .inr (11, [.int v_today, .int v_monks, .int v_aways, .int v_feasts, .int v_gifts, .int v_leaves, .int v_lates, .int v_store, .int v_allCandles, .ref a_isPriest, .ref a_bars, .ref a_joined, .ref a_turns, .ref a_awayMonk, .ref a_awayFrom, .ref a_awayTo, .ref a_feastDay, .ref a_rank, .ref a_isWeekly, .ref a_isDouble, .ref a_giftDay, .ref a_giftFrom, .ref a_owed, .ref a_said, .ref a_spared, .ref a_leaveGift, .ref a_leaveFrom, .ref a_leaveTo, .ref a_lateDay, .ref a_lateOffice, .ref a_lateBy, .ref a_guests, .ref a_who, .ref a_used, .ref a_lacks, .ref a_candles, .ref a_masses, .ref a_owing, .ref a_heldOn, .ref a_waits, .ref a_tape, .ref a_text, .int v_taped, .int v_size, .int v_at, .int v_fault, .int v_rules, .ref a_statements, .ref a_taken, .ref a_sort, .ref a_first, .ref a_second, .int v_wordEnd, .int v_number])), (a_feastDay, .inl (cI, 40, .inl f_feastDay)), (a_rank, .inl (cI, 40, .inl f_rank))] sz)) 0 0 (va_A [(h, .inr (11, [.int v_today, .int v_monks, .int v_aways, .int v_feasts, .int v_gifts, .int v_leaves, .int v_lates, .int v_store, .int v_allCandles, .ref a_isPriest, .ref a_bars, .ref a_joined, .ref a_turns, .ref a_awayMonk, .ref a_awayFrom, .ref a_awayTo, .ref a_feastDay, .ref a_rank, .ref a_isWeekly, .ref a_isDouble, .ref a_giftDay, .ref a_giftFrom, .ref a_owed, .ref a_said, .ref a_spared, .ref a_leaveGift, .ref a_leaveFrom, .ref a_leaveTo, .ref a_lateDay, .ref a_lateOffice, .ref a_lateBy, .ref a_guests, .ref a_who, .ref a_used, .ref a_lacks, .ref a_candles, .ref a_masses, .ref a_owing, .ref a_heldOn, .ref a_waits, .ref a_tape, .ref a_text, .int v_taped, .int v_size, .int v_at, .int v_fault, .int v_rules, .ref a_statements, .ref a_taken, .ref a_sort, .ref a_first, .ref a_second, .int v_wordEnd, .int v_number])), (a_feastDay, .inl (cI, 40, .inl f_feastDay)), (a_rank, .inl (cI, 40, .inl f_rank))] sz) := by
  refine rw_ret (cc := cX12_feast) (maxL := 3) (ty := .int) (own := RX12) (by decide) rfl rfl (Nat.le_of_ble_eq_true rfl) ?_
  intro p e s m args below meth c Q A S hin hret hP hK hD hA hS ls hl
  obtain ⟨hx, hb, hml, hown, hts⟩ := id S
  have hl : lv_has ls 3 [(0, .ref h), (1, .int d), (2, .int k)] := hl
  have kkm1 : (-1 : Int32).toInt = -1 := by decide
  have kk0 : (0 : Int32).toInt = 0 := by decide
  have kk1 : (1 : Int32).toInt = 1 := by decide
  have kk4 : (4 : Int32).toInt = 4 := by decide
  have kk40 : (40 : Int32).toInt = 40 := by decide
  have kk364 : (364 : Int32).toInt = 364 := by decide
  have lk0 := hts (.fieldLink RX12 153 "AbbeyHoursModel" "feasts" "I") (List.mem_cons_of_mem _ (List.mem_append_left _ (List.mem_of_getElem? (i := 0) rfl)))
  have lk1 := hts (.fieldLink RX12 32 "AbbeyHoursModel" "feastDay" "[I") (List.mem_cons_of_mem _ (List.mem_append_left _ (List.mem_of_getElem? (i := 1) rfl)))
  have lk2 := hts (.fieldLink RX12 35 "AbbeyHoursModel" "rank" "[I") (List.mem_cons_of_mem _ (List.mem_append_left _ (List.mem_of_getElem? (i := 2) rfl)))
  refine lv_iload_n hx hb dX12_feast_0 rfl (lv_at hl 1 rfl) ?_
  refine lv_iconst (v := 0) hx hb dX12_feast_1 (by decide) ?_
  refine lv_sipush (v := 364) hx hb dX12_feast_2 (by decide) ?_
  have hPc := hP.sub (ws' := []) [] rfl
  refine roS (As := [.int d, .int 0, .int 364]) (rest := []) S (m_isIn  ) (va_cwS 3 hts gX12_feast_X12_isIn rfl rfl rfl hd_X12_isIn ⟨Nat.le_of_ble_eq_true rfl, Nat.le_of_ble_eq_true rfl⟩) hK hPc rfl hl.1 rfl (Nat.le_of_ble_eq_true rfl) dX12_feast_5 ⟨Nat.le_of_ble_eq_true rfl, Nat.le_of_ble_eq_true rfl⟩ (fun r_1 hw_1 => ?_)
  have hw_1 : (r_1.toInt = 1 ∧ (0 : Int32).toInt ≤ d.toInt ∧ d.toInt ≤ (364 : Int32).toInt) ∨ (r_1.toInt = 0 ∧ (d.toInt < (0 : Int32).toInt ∨ (364 : Int32).toInt < d.toInt)) := hw_1
  refine lv_if_eq (tgt := 29) hx hb dX12_feast_8 (by decide) (fun c_2 => ?_) (fun c_2 => ?_)
  · have tc_2 := t_eq c_2
    refine lv_iconst (v := (-1)) hx hb dX12_feast_29 (by decide) ?_
    exact hret (-1) (v_feasts, f_feastDay, f_rank) _ _ _ _ (show (((0 ≤ d.toInt ∧ d.toInt ≤ 364 ∧ 1 ≤ k.toInt ∧ k.toInt ≤ 4) ∧ v_feasts.toInt < 40) ∧ (-1 : Int32).toInt = v_feasts.toInt ∧ v_feasts.toInt = v_feasts.toInt + 1) ∨ (¬ ((0 ≤ d.toInt ∧ d.toInt ≤ 364 ∧ 1 ≤ k.toInt ∧ k.toInt ≤ 4) ∧ v_feasts.toInt < 40) ∧ (-1 : Int32).toInt = -1 ∧ v_feasts = v_feasts) from by first | exact Or.inl ⟨by omega, by omega, by omega⟩ | exact Or.inr ⟨by omega, by omega, rfl⟩) rfl (hP.sub [0, 1, 2] rfl) (hD.sub [0, 1, 2] (by decide +kernel) rfl) hS dX12_feast_30
  · have tc_2 := t_neq c_2
    refine lv_iload_n hx hb dX12_feast_11 rfl (lv_at hl 2 rfl) ?_
    refine lv_iconst (v := 1) hx hb dX12_feast_12 (by decide) ?_
    refine lv_iconst (v := 4) hx hb dX12_feast_13 (by decide) ?_
    have hPc := hP.sub (ws' := []) [] rfl
    refine roS (As := [.int k, .int 1, .int 4]) (rest := []) S (m_isIn  ) (va_cwS 3 hts gX12_feast_X12_isIn rfl rfl rfl hd_X12_isIn ⟨Nat.le_of_ble_eq_true rfl, Nat.le_of_ble_eq_true rfl⟩) hK hPc rfl hl.1 rfl (Nat.le_of_ble_eq_true rfl) dX12_feast_14 ⟨Nat.le_of_ble_eq_true rfl, Nat.le_of_ble_eq_true rfl⟩ (fun r_3 hw_3 => ?_)
    have hw_3 : (r_3.toInt = 1 ∧ (1 : Int32).toInt ≤ k.toInt ∧ k.toInt ≤ (4 : Int32).toInt) ∨ (r_3.toInt = 0 ∧ (k.toInt < (1 : Int32).toInt ∨ (4 : Int32).toInt < k.toInt)) := hw_3
    refine lv_if_eq (tgt := 29) hx hb dX12_feast_17 (by decide) (fun c_4 => ?_) (fun c_4 => ?_)
    · have tc_4 := t_eq c_4
      refine lv_iconst (v := (-1)) hx hb dX12_feast_29 (by decide) ?_
      exact hret (-1) (v_feasts, f_feastDay, f_rank) _ _ _ _ (show (((0 ≤ d.toInt ∧ d.toInt ≤ 364 ∧ 1 ≤ k.toInt ∧ k.toInt ≤ 4) ∧ v_feasts.toInt < 40) ∧ (-1 : Int32).toInt = v_feasts.toInt ∧ v_feasts.toInt = v_feasts.toInt + 1) ∨ (¬ ((0 ≤ d.toInt ∧ d.toInt ≤ 364 ∧ 1 ≤ k.toInt ∧ k.toInt ≤ 4) ∧ v_feasts.toInt < 40) ∧ (-1 : Int32).toInt = -1 ∧ v_feasts = v_feasts) from by first | exact Or.inl ⟨by omega, by omega, by omega⟩ | exact Or.inr ⟨by omega, by omega, rfl⟩) rfl (hP.sub [0, 1, 2] rfl) (hD.sub [0, 1, 2] (by decide +kernel) rfl) hS dX12_feast_30
    · have tc_4 := t_neq c_4
      refine lv_aload_n hx hb dX12_feast_20 rfl (lv_at hl 0 rfl) ?_
      refine va_get (D := D) (ci := 11) (v := .int v_feasts) (C := RX12) (T := TX12) (N := 54) hx hb hts in_N_feast_X12 hown hK.1 hP 0 rfl rfl 3 (by decide) lk0 (fun _ h9 => h9) rfl dX12_feast_21 ?_
      refine lv_bipush (v := 40) hx hb dX12_feast_24 (by decide) ?_
      refine lv_icmp_ne (tgt := 31) hx hb dX12_feast_26 (by decide) (fun c_5 => ?_) (fun c_5 => ?_)
      · have tc_5 := t_neq c_5
        refine lv_aload_n hx hb dX12_feast_31 rfl (lv_at hl 0 rfl) ?_
        refine va_get (D := D) (ci := 11) (v := .ref a_feastDay) (C := RX12) (T := TX12) (N := 54) hx hb hts in_N_feast_X12 hown hK.1 hP 0 rfl rfl 16 (by decide) lk1 (fun _ h9 => h9) rfl dX12_feast_32 ?_
        refine lv_aload_n hx hb dX12_feast_35 rfl (lv_at hl 0 rfl) ?_
        refine va_get (D := D) (ci := 11) (v := .int v_feasts) (C := RX12) (T := TX12) (N := 54) hx hb hts in_N_feast_X12 hown hK.1 hP 0 rfl rfl 3 (by decide) lk0 (fun _ h9 => h9) rfl dX12_feast_36 ?_
        refine lv_iload_n hx hb dX12_feast_39 rfl (lv_at hl 1 rfl) ?_
        refine va_iast hx hb hK.1 hP hD hS 1 0 rfl rfl (t_in (by omega) (by omega)) dX12_feast_40 (fun H locs hP hD hS => ?_)
        obtain ⟨g_6, eg_6⟩ : ∃ z : Nat → Int32, z = upd f_feastDay ((v_feasts : Int32).toNatClampNeg) d := ⟨_, rfl⟩
        rw [← eg_6] at hP hD
        have hP : va_P D vwCl [(h, .inr (11, [.int v_today, .int v_monks, .int v_aways, .int v_feasts, .int v_gifts, .int v_leaves, .int v_lates, .int v_store, .int v_allCandles, .ref a_isPriest, .ref a_bars, .ref a_joined, .ref a_turns, .ref a_awayMonk, .ref a_awayFrom, .ref a_awayTo, .ref a_feastDay, .ref a_rank, .ref a_isWeekly, .ref a_isDouble, .ref a_giftDay, .ref a_giftFrom, .ref a_owed, .ref a_said, .ref a_spared, .ref a_leaveGift, .ref a_leaveFrom, .ref a_leaveTo, .ref a_lateDay, .ref a_lateOffice, .ref a_lateBy, .ref a_guests, .ref a_who, .ref a_used, .ref a_lacks, .ref a_candles, .ref a_masses, .ref a_owing, .ref a_heldOn, .ref a_waits, .ref a_tape, .ref a_text, .int v_taped, .int v_size, .int v_at, .int v_fault, .int v_rules, .ref a_statements, .ref a_taken, .ref a_sort, .ref a_first, .ref a_second, .int v_wordEnd, .int v_number])), (a_feastDay, .inl (cI, 40, .inl g_6)), (a_rank, .inl (cI, 40, .inl f_rank))] H := hP
        have hD := asD hP hD
        refine lv_aload_n hx hb dX12_feast_41 rfl (lv_at hl 0 rfl) ?_
        refine va_get (D := D) (ci := 11) (v := .ref a_rank) (C := RX12) (T := TX12) (N := 54) hx hb hts in_N_feast_X12 hown hK.1 hP 0 rfl rfl 17 (by decide) lk2 (fun _ h9 => h9) rfl dX12_feast_42 ?_
        refine lv_aload_n hx hb dX12_feast_45 rfl (lv_at hl 0 rfl) ?_
        refine va_get (D := D) (ci := 11) (v := .int v_feasts) (C := RX12) (T := TX12) (N := 54) hx hb hts in_N_feast_X12 hown hK.1 hP 0 rfl rfl 3 (by decide) lk0 (fun _ h9 => h9) rfl dX12_feast_46 ?_
        refine lv_iload_n hx hb dX12_feast_49 rfl (lv_at hl 2 rfl) ?_
        refine va_iast hx hb hK.1 hP hD hS 2 0 rfl rfl (t_in (by omega) (by omega)) dX12_feast_50 (fun H locs hP hD hS => ?_)
        obtain ⟨g_7, eg_7⟩ : ∃ z : Nat → Int32, z = upd f_rank ((v_feasts : Int32).toNatClampNeg) k := ⟨_, rfl⟩
        rw [← eg_7] at hP hD
        have hP : va_P D vwCl [(h, .inr (11, [.int v_today, .int v_monks, .int v_aways, .int v_feasts, .int v_gifts, .int v_leaves, .int v_lates, .int v_store, .int v_allCandles, .ref a_isPriest, .ref a_bars, .ref a_joined, .ref a_turns, .ref a_awayMonk, .ref a_awayFrom, .ref a_awayTo, .ref a_feastDay, .ref a_rank, .ref a_isWeekly, .ref a_isDouble, .ref a_giftDay, .ref a_giftFrom, .ref a_owed, .ref a_said, .ref a_spared, .ref a_leaveGift, .ref a_leaveFrom, .ref a_leaveTo, .ref a_lateDay, .ref a_lateOffice, .ref a_lateBy, .ref a_guests, .ref a_who, .ref a_used, .ref a_lacks, .ref a_candles, .ref a_masses, .ref a_owing, .ref a_heldOn, .ref a_waits, .ref a_tape, .ref a_text, .int v_taped, .int v_size, .int v_at, .int v_fault, .int v_rules, .ref a_statements, .ref a_taken, .ref a_sort, .ref a_first, .ref a_second, .int v_wordEnd, .int v_number])), (a_feastDay, .inl (cI, 40, .inl g_6)), (a_rank, .inl (cI, 40, .inl g_7))] H := hP
        have hD := asD hP hD
        refine lv_aload_n hx hb dX12_feast_51 rfl (lv_at hl 0 rfl) ?_
        refine lv_dup hx hb dX12_feast_52 rfl ?_
        refine va_get (D := D) (ci := 11) (v := .int v_feasts) (C := RX12) (T := TX12) (N := 54) hx hb hts in_N_feast_X12 hown hK.1 hP 0 rfl rfl 3 (by decide) lk0 (fun _ h9 => h9) rfl dX12_feast_53 ?_
        refine lv_iconst (v := 1) hx hb dX12_feast_56 (by decide) ?_
        refine lv_iadd hx hb dX12_feast_57 ?_
        refine lv_topi (fun x_8 ex_8 => ?_)
        first | have tx_8 := t_add ex_8 (by omega) (by omega) | skip
        refine va_put (D := D) (ci := 11) (v := .int x_8) (ty := .int) (C := RX12) (T := TX12) (N := 54) hx hb hts in_N_feast_X12 tyX12 tyX12_ok nmX12 hown hK.1 hP hD hS 0 rfl rfl 3 (by decide) lk0 (fun _ h9 => h9) rfl (by decide +kernel) rfl rfl (Nat.le_of_ble_eq_true rfl) dX12_feast_58 (fun H locs hP hD hS => ?_)
        have hP : va_P D vwCl [(h, .inr (11, [.int v_today, .int v_monks, .int v_aways, .int x_8, .int v_gifts, .int v_leaves, .int v_lates, .int v_store, .int v_allCandles, .ref a_isPriest, .ref a_bars, .ref a_joined, .ref a_turns, .ref a_awayMonk, .ref a_awayFrom, .ref a_awayTo, .ref a_feastDay, .ref a_rank, .ref a_isWeekly, .ref a_isDouble, .ref a_giftDay, .ref a_giftFrom, .ref a_owed, .ref a_said, .ref a_spared, .ref a_leaveGift, .ref a_leaveFrom, .ref a_leaveTo, .ref a_lateDay, .ref a_lateOffice, .ref a_lateBy, .ref a_guests, .ref a_who, .ref a_used, .ref a_lacks, .ref a_candles, .ref a_masses, .ref a_owing, .ref a_heldOn, .ref a_waits, .ref a_tape, .ref a_text, .int v_taped, .int v_size, .int v_at, .int v_fault, .int v_rules, .ref a_statements, .ref a_taken, .ref a_sort, .ref a_first, .ref a_second, .int v_wordEnd, .int v_number])), (a_feastDay, .inl (cI, 40, .inl g_6)), (a_rank, .inl (cI, 40, .inl g_7))] H := hP
        have hD := asD hP hD
        refine lv_aload_n hx hb dX12_feast_61 rfl (lv_at hl 0 rfl) ?_
        refine va_get (D := D) (ci := 11) (v := .int x_8) (C := RX12) (T := TX12) (N := 54) hx hb hts in_N_feast_X12 hown hK.1 hP 0 rfl rfl 3 (by decide) lk0 (fun _ h9 => h9) rfl dX12_feast_62 ?_
        refine lv_iconst (v := 1) hx hb dX12_feast_65 (by decide) ?_
        refine lv_isub hx hb dX12_feast_66 ?_
        refine lv_topi (fun x_9 ex_9 => ?_)
        first | have tx_9 := t_sub ex_9 (by omega) (by omega) | skip
        exact hret x_9 (x_8, g_6, g_7) _ _ _ _ (show (((0 ≤ d.toInt ∧ d.toInt ≤ 364 ∧ 1 ≤ k.toInt ∧ k.toInt ≤ 4) ∧ v_feasts.toInt < 40) ∧ x_9.toInt = v_feasts.toInt ∧ x_8.toInt = v_feasts.toInt + 1) ∨ (¬ ((0 ≤ d.toInt ∧ d.toInt ≤ 364 ∧ 1 ≤ k.toInt ∧ k.toInt ≤ 4) ∧ v_feasts.toInt < 40) ∧ x_9.toInt = -1 ∧ x_8 = v_feasts) from by first | exact Or.inl ⟨by omega, by omega, by omega⟩ | exact Or.inr ⟨by omega, by omega, rfl⟩) rfl (hP.sub [0, 1, 2] rfl) (hD.sub [0, 1, 2] (by decide +kernel) rfl) hS dX12_feast_67
      · have tc_5 := t_eq c_5
        refine lv_iconst (v := (-1)) hx hb dX12_feast_29 (by decide) ?_
        exact hret (-1) (v_feasts, f_feastDay, f_rank) _ _ _ _ (show (((0 ≤ d.toInt ∧ d.toInt ≤ 364 ∧ 1 ≤ k.toInt ∧ k.toInt ≤ 4) ∧ v_feasts.toInt < 40) ∧ (-1 : Int32).toInt = v_feasts.toInt ∧ v_feasts.toInt = v_feasts.toInt + 1) ∨ (¬ ((0 ≤ d.toInt ∧ d.toInt ≤ 364 ∧ 1 ≤ k.toInt ∧ k.toInt ≤ 4) ∧ v_feasts.toInt < 40) ∧ (-1 : Int32).toInt = -1 ∧ v_feasts = v_feasts) from by first | exact Or.inl ⟨by omega, by omega, by omega⟩ | exact Or.inr ⟨by omega, by omega, rfl⟩) rfl (hP.sub [0, 1, 2] rfl) (hD.sub [0, 1, 2] (by decide +kernel) rfl) hS dX12_feast_30

set_option maxHeartbeats 8000000 in
set_option maxRecDepth 100000 in
theorem N_light {l : Launch} {D : va_G} {cI cZ cB : ClassId} {h a_isPriest a_bars a_joined a_turns a_awayMonk a_awayFrom a_awayTo a_feastDay a_rank a_isWeekly a_isDouble a_giftDay a_giftFrom a_owed a_said a_spared a_leaveGift a_leaveFrom a_leaveTo a_lateDay a_lateOffice a_lateBy a_guests a_who a_used a_lacks a_candles a_masses a_owing a_heldOn a_waits a_tape a_text a_statements a_taken a_sort a_first a_second : Nat} {v_today v_monks v_aways v_feasts v_gifts v_leaves v_lates v_store v_allCandles v_taped v_size v_at v_fault v_rules v_wordEnd v_number : Int32} {d w : Int32}  : Met l yX12_light wsX12_light ({ frames := 3, cells := 0, slots := 0, locals := 61 }) (RO D cI cZ cB [.ref h, .int d, .int w] [(h, .inr (11, [.int v_today, .int v_monks, .int v_aways, .int v_feasts, .int v_gifts, .int v_leaves, .int v_lates, .int v_store, .int v_allCandles, .ref a_isPriest, .ref a_bars, .ref a_joined, .ref a_turns, .ref a_awayMonk, .ref a_awayFrom, .ref a_awayTo, .ref a_feastDay, .ref a_rank, .ref a_isWeekly, .ref a_isDouble, .ref a_giftDay, .ref a_giftFrom, .ref a_owed, .ref a_said, .ref a_spared, .ref a_leaveGift, .ref a_leaveFrom, .ref a_leaveTo, .ref a_lateDay, .ref a_lateOffice, .ref a_lateBy, .ref a_guests, .ref a_who, .ref a_used, .ref a_lacks, .ref a_candles, .ref a_masses, .ref a_owing, .ref a_heldOn, .ref a_waits, .ref a_tape, .ref a_text, .int v_taped, .int v_size, .int v_at, .int v_fault, .int v_rules, .ref a_statements, .ref a_taken, .ref a_sort, .ref a_first, .ref a_second, .int v_wordEnd, .int v_number]))]) (vp_Si (fun r : Int32 => r = lightF d w)) 0 0 (fun _ => False) := by
  refine ro_ret (cc := cX12_light) (maxL := 3) (ty := .int) (own := RX12) (by decide) rfl rfl (Nat.le_of_ble_eq_true rfl) ?_
  intro p e s m args below meth c Q S hret hP hK ls hl
  obtain ⟨hx, hb, hml, hown, hts⟩ := id S
  have hl : lv_has ls 3 [(0, .ref h), (1, .int d), (2, .int w)] := hl
  have kkm1 : (-1 : Int32).toInt = -1 := by decide
  have kk0 : (0 : Int32).toInt = 0 := by decide
  have kk1 : (1 : Int32).toInt = 1 := by decide
  have kk2 : (2 : Int32).toInt = 2 := by decide
  have kk364 : (364 : Int32).toInt = 364 := by decide
  refine lv_iload_n hx hb dX12_light_0 rfl (lv_at hl 1 rfl) ?_
  refine lv_iconst (v := 0) hx hb dX12_light_1 (by decide) ?_
  refine lv_sipush (v := 364) hx hb dX12_light_2 (by decide) ?_
  have hPc := hP.sub (ws' := []) [] rfl
  refine roS (As := [.int d, .int 0, .int 364]) (rest := []) S (m_isIn  ) (va_cwS 3 hts gX12_light_X12_isIn rfl rfl rfl hd_X12_isIn ⟨Nat.le_of_ble_eq_true rfl, Nat.le_of_ble_eq_true rfl⟩) hK hPc rfl hl.1 rfl (Nat.le_of_ble_eq_true rfl) dX12_light_5 ⟨Nat.le_of_ble_eq_true rfl, Nat.le_of_ble_eq_true rfl⟩ (fun r_1 hw_1 => ?_)
  have hw_1 : (r_1.toInt = 1 ∧ (0 : Int32).toInt ≤ d.toInt ∧ d.toInt ≤ (364 : Int32).toInt) ∨ (r_1.toInt = 0 ∧ (d.toInt < (0 : Int32).toInt ∨ (364 : Int32).toInt < d.toInt)) := hw_1
  refine lv_if_eq (tgt := 20) hx hb dX12_light_8 (by decide) (fun c_2 => ?_) (fun c_2 => ?_)
  · have tc_2 := t_eq c_2
    refine lv_iconst (v := (-1)) hx hb dX12_light_20 (by decide) ?_
    refine lv_goto (tgt := 51) hx hb dX12_light_21 (by decide) ?_
    exact hret (-1) _ _ (show (-1 : Int32) = lightF d w from by subst_vars; unfold lightF; first | (rw [if_pos (by omega)]; first | rfl | rw [if_neg (by assumption), if_pos (by assumption)] | (rw [if_neg (by assumption), if_neg (by assumption), if_pos (Int32.toInt_inj.mp (by omega))]) | (rw [if_neg (fun q => by have := t_eq q; omega), if_neg (fun q => by have := t_eq q; omega), if_neg (fun q => by have := t_eq q; omega)])) | rw [if_neg (by omega)]) rfl dX12_light_51
  · have tc_2 := t_neq c_2
    refine lv_iload_n hx hb dX12_light_11 rfl (lv_at hl 2 rfl) ?_
    refine lv_iconst (v := 0) hx hb dX12_light_12 (by decide) ?_
    refine lv_iconst (v := 2) hx hb dX12_light_13 (by decide) ?_
    have hPc := hP.sub (ws' := []) [] rfl
    refine roS (As := [.int w, .int 0, .int 2]) (rest := []) S (m_isIn  ) (va_cwS 3 hts gX12_light_X12_isIn rfl rfl rfl hd_X12_isIn ⟨Nat.le_of_ble_eq_true rfl, Nat.le_of_ble_eq_true rfl⟩) hK hPc rfl hl.1 rfl (Nat.le_of_ble_eq_true rfl) dX12_light_14 ⟨Nat.le_of_ble_eq_true rfl, Nat.le_of_ble_eq_true rfl⟩ (fun r_3 hw_3 => ?_)
    have hw_3 : (r_3.toInt = 1 ∧ (0 : Int32).toInt ≤ w.toInt ∧ w.toInt ≤ (2 : Int32).toInt) ∨ (r_3.toInt = 0 ∧ (w.toInt < (0 : Int32).toInt ∨ (2 : Int32).toInt < w.toInt)) := hw_3
    refine lv_if_ne (tgt := 24) hx hb dX12_light_17 (by decide) (fun c_4 => ?_) (fun c_4 => ?_)
    · have tc_4 := t_neq c_4
      refine lv_iload_n hx hb dX12_light_24 rfl (lv_at hl 2 rfl) ?_
      refine lv_if_ne (tgt := 35) hx hb dX12_light_25 (by decide) (fun h0 => ?_) (fun h0 => ?_)
      · have th0 := t_neq h0
        refine lv_iload_n hx hb dX12_light_35 rfl (lv_at hl 2 rfl) ?_
        refine lv_iconst (v := 1) hx hb dX12_light_36 (by decide) ?_
        refine lv_icmp_ne (tgt := 47) hx hb dX12_light_37 (by decide) (fun h1 => ?_) (fun h1 => ?_)
        · have th1 := t_neq h1
          refine lv_iload_n hx hb dX12_light_47 rfl (lv_at hl 1 rfl) ?_
          have hPc := hP.sub (ws' := []) [] rfl
          refine roS (As := [.int d]) (rest := []) S (m_sets  ) (va_cwS 1 hts gX12_light_X12_sets rfl rfl rfl hd_X12_sets ⟨Nat.le_of_ble_eq_true rfl, Nat.le_of_ble_eq_true rfl⟩) hK hPc rfl hl.1 rfl (Nat.le_of_ble_eq_true rfl) dX12_light_48 ⟨Nat.le_of_ble_eq_true rfl, Nat.le_of_ble_eq_true rfl⟩ (fun r_7 hw_7 => ?_)
          have hw_7 : r_7 = sunS d := hw_7
          exact hret r_7 _ _ (show r_7 = lightF d w from by subst_vars; unfold lightF; first | (rw [if_pos (by omega)]; first | rfl | rw [if_neg (by assumption), if_pos (by assumption)] | (rw [if_neg (by assumption), if_neg (by assumption), if_pos (Int32.toInt_inj.mp (by omega))]) | (rw [if_neg (fun q => by have := t_eq q; omega), if_neg (fun q => by have := t_eq q; omega), if_neg (fun q => by have := t_eq q; omega)])) | rw [if_neg (by omega)]) rfl dX12_light_51
        · have th1 := t_eq h1
          refine lv_iload_n hx hb dX12_light_40 rfl (lv_at hl 1 rfl) ?_
          have hPc := hP.sub (ws' := []) [] rfl
          refine roS (As := [.int d]) (rest := []) S (m_rises  ) (va_cwS 1 hts gX12_light_X12_rises rfl rfl rfl hd_X12_rises ⟨Nat.le_of_ble_eq_true rfl, Nat.le_of_ble_eq_true rfl⟩) hK hPc rfl hl.1 rfl (Nat.le_of_ble_eq_true rfl) dX12_light_41 ⟨Nat.le_of_ble_eq_true rfl, Nat.le_of_ble_eq_true rfl⟩ (fun r_8 hw_8 => ?_)
          have hw_8 : r_8 = sunR d := hw_8
          refine lv_goto (tgt := 51) hx hb dX12_light_44 (by decide) ?_
          exact hret r_8 _ _ (show r_8 = lightF d w from by subst_vars; unfold lightF; first | (rw [if_pos (by omega)]; first | rfl | rw [if_neg (by assumption), if_pos (by assumption)] | (rw [if_neg (by assumption), if_neg (by assumption), if_pos (Int32.toInt_inj.mp (by omega))]) | (rw [if_neg (fun q => by have := t_eq q; omega), if_neg (fun q => by have := t_eq q; omega), if_neg (fun q => by have := t_eq q; omega)])) | rw [if_neg (by omega)]) rfl dX12_light_51
      · have th0 := t_eq h0
        refine lv_iload_n hx hb dX12_light_28 rfl (lv_at hl 1 rfl) ?_
        have hPc := hP.sub (ws' := []) [] rfl
        refine roS (As := [.int d]) (rest := []) S (m_lightOf  ) (va_cwS 1 hts gX12_light_X12_lightOf rfl rfl rfl hd_X12_lightOf ⟨Nat.le_of_ble_eq_true rfl, Nat.le_of_ble_eq_true rfl⟩) hK hPc rfl hl.1 rfl (Nat.le_of_ble_eq_true rfl) dX12_light_29 ⟨Nat.le_of_ble_eq_true rfl, Nat.le_of_ble_eq_true rfl⟩ (fun r_9 hw_9 => ?_)
        have hw_9 : r_9 = sunM d := hw_9
        refine lv_goto (tgt := 51) hx hb dX12_light_32 (by decide) ?_
        exact hret r_9 _ _ (show r_9 = lightF d w from by subst_vars; unfold lightF; first | (rw [if_pos (by omega)]; first | rfl | rw [if_neg (by assumption), if_pos (by assumption)] | (rw [if_neg (by assumption), if_neg (by assumption), if_pos (Int32.toInt_inj.mp (by omega))]) | (rw [if_neg (fun q => by have := t_eq q; omega), if_neg (fun q => by have := t_eq q; omega), if_neg (fun q => by have := t_eq q; omega)])) | rw [if_neg (by omega)]) rfl dX12_light_51
    · have tc_4 := t_eq c_4
      refine lv_iconst (v := (-1)) hx hb dX12_light_20 (by decide) ?_
      refine lv_goto (tgt := 51) hx hb dX12_light_21 (by decide) ?_
      exact hret (-1) _ _ (show (-1 : Int32) = lightF d w from by subst_vars; unfold lightF; first | (rw [if_pos (by omega)]; first | rfl | rw [if_neg (by assumption), if_pos (by assumption)] | (rw [if_neg (by assumption), if_neg (by assumption), if_pos (Int32.toInt_inj.mp (by omega))]) | (rw [if_neg (fun q => by have := t_eq q; omega), if_neg (fun q => by have := t_eq q; omega), if_neg (fun q => by have := t_eq q; omega)])) | rw [if_neg (by omega)]) rfl dX12_light_51

set_option maxHeartbeats 8000000 in
set_option maxRecDepth 100000 in
theorem N_office {l : Launch} {D : va_G} {cI cZ cB : ClassId} {h a_isPriest a_bars a_joined a_turns a_awayMonk a_awayFrom a_awayTo a_feastDay a_rank a_isWeekly a_isDouble a_giftDay a_giftFrom a_owed a_said a_spared a_leaveGift a_leaveFrom a_leaveTo a_lateDay a_lateOffice a_lateBy a_guests a_who a_used a_lacks a_candles a_masses a_owing a_heldOn a_waits a_tape a_text a_statements a_taken a_sort a_first a_second : Nat} {v_today v_monks v_aways v_feasts v_gifts v_leaves v_lates v_store v_allCandles v_taped v_size v_at v_fault v_rules v_wordEnd v_number : Int32} {f_lateDay f_lateOffice f_lateBy : Nat → Int32} {d k : Int32} (h0_lates : 0 ≤ v_lates.toInt) (h1_lates : v_lates.toInt ≤ 100) : Met l yX12_office wsX12_office ({ frames := 5, cells := 0, slots := 0, locals := 107 }) (RO D cI cZ cB [.ref h, .int d, .int k] [(h, .inr (11, [.int v_today, .int v_monks, .int v_aways, .int v_feasts, .int v_gifts, .int v_leaves, .int v_lates, .int v_store, .int v_allCandles, .ref a_isPriest, .ref a_bars, .ref a_joined, .ref a_turns, .ref a_awayMonk, .ref a_awayFrom, .ref a_awayTo, .ref a_feastDay, .ref a_rank, .ref a_isWeekly, .ref a_isDouble, .ref a_giftDay, .ref a_giftFrom, .ref a_owed, .ref a_said, .ref a_spared, .ref a_leaveGift, .ref a_leaveFrom, .ref a_leaveTo, .ref a_lateDay, .ref a_lateOffice, .ref a_lateBy, .ref a_guests, .ref a_who, .ref a_used, .ref a_lacks, .ref a_candles, .ref a_masses, .ref a_owing, .ref a_heldOn, .ref a_waits, .ref a_tape, .ref a_text, .int v_taped, .int v_size, .int v_at, .int v_fault, .int v_rules, .ref a_statements, .ref a_taken, .ref a_sort, .ref a_first, .ref a_second, .int v_wordEnd, .int v_number])), (a_lateDay, .inl (cI, 100, .inl f_lateDay)), (a_lateOffice, .inl (cI, 100, .inl f_lateOffice)), (a_lateBy, .inl (cI, 100, .inl f_lateBy))]) (vp_Si (fun r : Int32 => True)) 0 0 (fun _ => False) := by
  refine ro_ret (cc := cX12_office) (maxL := 3) (ty := .int) (own := RX12) (by decide) rfl rfl (Nat.le_of_ble_eq_true rfl) ?_
  intro p e s m args below meth c Q S hret hP hK ls hl
  obtain ⟨hx, hb, hml, hown, hts⟩ := id S
  have hl : lv_has ls 3 [(0, .ref h), (1, .int d), (2, .int k)] := hl
  have kkm1 : (-1 : Int32).toInt = -1 := by decide
  have kk0 : (0 : Int32).toInt = 0 := by decide
  have kk7 : (7 : Int32).toInt = 7 := by decide
  refine lv_iload_n hx hb dX12_office_0 rfl (lv_at hl 1 rfl) ?_
  have hPc := hP.sub (ws' := []) [] rfl
  refine roS (As := [.int d]) (rest := []) S (m_isDay  ) (va_cwS 1 hts gX12_office_X12_isDay rfl rfl rfl hd_X12_isDay ⟨Nat.le_of_ble_eq_true rfl, Nat.le_of_ble_eq_true rfl⟩) hK hPc rfl hl.1 rfl (Nat.le_of_ble_eq_true rfl) dX12_office_1 ⟨Nat.le_of_ble_eq_true rfl, Nat.le_of_ble_eq_true rfl⟩ (fun r_1 hw_1 => ?_)
  have hw_1 : (r_1.toInt = 1 ∧ 0 ≤ d.toInt ∧ d.toInt ≤ 1094) ∨ (r_1.toInt = 0 ∧ (d.toInt < 0 ∨ 1094 < d.toInt)) := hw_1
  refine lv_if_eq (tgt := 26) hx hb dX12_office_4 (by decide) (fun c_2 => ?_) (fun c_2 => ?_)
  · have tc_2 := t_eq c_2
    refine lv_iconst (v := (-1)) hx hb dX12_office_26 (by decide) ?_
    exact hret (-1) _ _ (show True from trivial) rfl dX12_office_27
  · have tc_2 := t_neq c_2
    refine lv_iload_n hx hb dX12_office_7 rfl (lv_at hl 2 rfl) ?_
    refine lv_iconst (v := 0) hx hb dX12_office_8 (by decide) ?_
    refine lv_bipush (v := 7) hx hb dX12_office_9 (by decide) ?_
    have hPc := hP.sub (ws' := []) [] rfl
    refine roS (As := [.int k, .int 0, .int 7]) (rest := []) S (m_isIn  ) (va_cwS 3 hts gX12_office_X12_isIn rfl rfl rfl hd_X12_isIn ⟨Nat.le_of_ble_eq_true rfl, Nat.le_of_ble_eq_true rfl⟩) hK hPc rfl hl.1 rfl (Nat.le_of_ble_eq_true rfl) dX12_office_11 ⟨Nat.le_of_ble_eq_true rfl, Nat.le_of_ble_eq_true rfl⟩ (fun r_3 hw_3 => ?_)
    have hw_3 : (r_3.toInt = 1 ∧ (0 : Int32).toInt ≤ k.toInt ∧ k.toInt ≤ (7 : Int32).toInt) ∨ (r_3.toInt = 0 ∧ (k.toInt < (0 : Int32).toInt ∨ (7 : Int32).toInt < k.toInt)) := hw_3
    refine lv_if_eq (tgt := 26) hx hb dX12_office_14 (by decide) (fun c_4 => ?_) (fun c_4 => ?_)
    · have tc_4 := t_eq c_4
      refine lv_iconst (v := (-1)) hx hb dX12_office_26 (by decide) ?_
      exact hret (-1) _ _ (show True from trivial) rfl dX12_office_27
    · have tc_4 := t_neq c_4
      refine lv_aload_n hx hb dX12_office_17 rfl (lv_at hl 0 rfl) ?_
      refine lv_iload_n hx hb dX12_office_18 rfl (lv_at hl 1 rfl) ?_
      refine lv_iload_n hx hb dX12_office_19 rfl (lv_at hl 2 rfl) ?_
      have hPc := hP.sub (ws' := [(h, .inr (11, [.int v_today, .int v_monks, .int v_aways, .int v_feasts, .int v_gifts, .int v_leaves, .int v_lates, .int v_store, .int v_allCandles, .ref a_isPriest, .ref a_bars, .ref a_joined, .ref a_turns, .ref a_awayMonk, .ref a_awayFrom, .ref a_awayTo, .ref a_feastDay, .ref a_rank, .ref a_isWeekly, .ref a_isDouble, .ref a_giftDay, .ref a_giftFrom, .ref a_owed, .ref a_said, .ref a_spared, .ref a_leaveGift, .ref a_leaveFrom, .ref a_leaveTo, .ref a_lateDay, .ref a_lateOffice, .ref a_lateBy, .ref a_guests, .ref a_who, .ref a_used, .ref a_lacks, .ref a_candles, .ref a_masses, .ref a_owing, .ref a_heldOn, .ref a_waits, .ref a_tape, .ref a_text, .int v_taped, .int v_size, .int v_at, .int v_fault, .int v_rules, .ref a_statements, .ref a_taken, .ref a_sort, .ref a_first, .ref a_second, .int v_wordEnd, .int v_number])), (a_lateDay, .inl (cI, 100, .inl f_lateDay)), (a_lateOffice, .inl (cI, 100, .inl f_lateOffice)), (a_lateBy, .inl (cI, 100, .inl f_lateBy))]) [0, 1, 2, 3] rfl
      refine roV (As := [.int d, .int k]) (rest := []) S (n_begins  (by omega) (by omega)) (cwV 2 hts gX12_office_X12_begins rfl rfl rfl ⟨rfl, hd_X12_begins⟩ ⟨Nat.le_of_ble_eq_true rfl, Nat.le_of_ble_eq_true rfl⟩) hK hPc (va_recv hK.1 hPc (ci := 11) (q0 := 0) rfl rfl) rfl hl.1 rfl (Nat.le_of_ble_eq_true rfl) dX12_office_20 ⟨Nat.le_of_ble_eq_true rfl, Nat.le_of_ble_eq_true rfl⟩ (fun r_5 hw_5 => ?_)
      have hw_5 : True := hw_5
      refine lv_goto (tgt := 27) hx hb dX12_office_23 (by decide) ?_
      exact hret r_5 _ _ (show True from trivial) rfl dX12_office_27

theorem in_N_late_X12 : ∀ w ∈ wsX120, w ∈ wsX12_late := tl_X12_late_X12
set_option maxHeartbeats 8000000 in
set_option maxRecDepth 100000 in
theorem N_late {l : Launch} {D : va_G} {cI cZ cB : ClassId} {sz : Nat} {h a_isPriest a_bars a_joined a_turns a_awayMonk a_awayFrom a_awayTo a_feastDay a_rank a_isWeekly a_isDouble a_giftDay a_giftFrom a_owed a_said a_spared a_leaveGift a_leaveFrom a_leaveTo a_lateDay a_lateOffice a_lateBy a_guests a_who a_used a_lacks a_candles a_masses a_owing a_heldOn a_waits a_tape a_text a_statements a_taken a_sort a_first a_second : Nat} {v_today v_monks v_aways v_feasts v_gifts v_leaves v_lates v_store v_allCandles v_taped v_size v_at v_fault v_rules v_wordEnd v_number : Int32} {f_lateDay f_lateOffice f_lateBy : Nat → Int32} {d k mm : Int32} (h0_lates : 0 ≤ v_lates.toInt) (h1_lates : v_lates.toInt ≤ 100) : Met l yX12_late wsX12_late ({ frames := 5, cells := 0, slots := 0, locals := 107 }) (RW D cI cZ cB [.ref h, .int d, .int k, .int mm] sz [(h, .inr (11, [.int v_today, .int v_monks, .int v_aways, .int v_feasts, .int v_gifts, .int v_leaves, .int v_lates, .int v_store, .int v_allCandles, .ref a_isPriest, .ref a_bars, .ref a_joined, .ref a_turns, .ref a_awayMonk, .ref a_awayFrom, .ref a_awayTo, .ref a_feastDay, .ref a_rank, .ref a_isWeekly, .ref a_isDouble, .ref a_giftDay, .ref a_giftFrom, .ref a_owed, .ref a_said, .ref a_spared, .ref a_leaveGift, .ref a_leaveFrom, .ref a_leaveTo, .ref a_lateDay, .ref a_lateOffice, .ref a_lateBy, .ref a_guests, .ref a_who, .ref a_used, .ref a_lacks, .ref a_candles, .ref a_masses, .ref a_owing, .ref a_heldOn, .ref a_waits, .ref a_tape, .ref a_text, .int v_taped, .int v_size, .int v_at, .int v_fault, .int v_rules, .ref a_statements, .ref a_taken, .ref a_sort, .ref a_first, .ref a_second, .int v_wordEnd, .int v_number])), (a_lateDay, .inl (cI, 100, .inl f_lateDay)), (a_lateOffice, .inl (cI, 100, .inl f_lateOffice)), (a_lateBy, .inl (cI, 100, .inl f_lateBy))]) (va_Qi (fun (r : Int32) (u : Int32 × (Nat → Int32) × (Nat → Int32) × (Nat → Int32)) => 0 ≤ u.1.toInt ∧ u.1.toInt ≤ 100) (BW D [(h, .inr (11, [.int v_today, .int v_monks, .int v_aways, .int v_feasts, .int v_gifts, .int v_leaves, .int v_lates, .int v_store, .int v_allCandles, .ref a_isPriest, .ref a_bars, .ref a_joined, .ref a_turns, .ref a_awayMonk, .ref a_awayFrom, .ref a_awayTo, .ref a_feastDay, .ref a_rank, .ref a_isWeekly, .ref a_isDouble, .ref a_giftDay, .ref a_giftFrom, .ref a_owed, .ref a_said, .ref a_spared, .ref a_leaveGift, .ref a_leaveFrom, .ref a_leaveTo, .ref a_lateDay, .ref a_lateOffice, .ref a_lateBy, .ref a_guests, .ref a_who, .ref a_used, .ref a_lacks, .ref a_candles, .ref a_masses, .ref a_owing, .ref a_heldOn, .ref a_waits, .ref a_tape, .ref a_text, .int v_taped, .int v_size, .int v_at, .int v_fault, .int v_rules, .ref a_statements, .ref a_taken, .ref a_sort, .ref a_first, .ref a_second, .int v_wordEnd, .int v_number])), (a_lateDay, .inl (cI, 100, .inl f_lateDay)), (a_lateOffice, .inl (cI, 100, .inl f_lateOffice)), (a_lateBy, .inl (cI, 100, .inl f_lateBy))] sz (fun u : Int32 × (Nat → Int32) × (Nat → Int32) × (Nat → Int32) => [(h, .inr (11, [.int v_today, .int v_monks, .int v_aways, .int v_feasts, .int v_gifts, .int v_leaves, .int u.1, .int v_store, .int v_allCandles, .ref a_isPriest, .ref a_bars, .ref a_joined, .ref a_turns, .ref a_awayMonk, .ref a_awayFrom, .ref a_awayTo, .ref a_feastDay, .ref a_rank, .ref a_isWeekly, .ref a_isDouble, .ref a_giftDay, .ref a_giftFrom, .ref a_owed, .ref a_said, .ref a_spared, .ref a_leaveGift, .ref a_leaveFrom, .ref a_leaveTo, .ref a_lateDay, .ref a_lateOffice, .ref a_lateBy, .ref a_guests, .ref a_who, .ref a_used, .ref a_lacks, .ref a_candles, .ref a_masses, .ref a_owing, .ref a_heldOn, .ref a_waits, .ref a_tape, .ref a_text, .int v_taped, .int v_size, .int v_at, .int v_fault, .int v_rules, .ref a_statements, .ref a_taken, .ref a_sort, .ref a_first, .ref a_second, .int v_wordEnd, .int v_number])), (a_lateDay, .inl (cI, 100, .inl u.2.1)), (a_lateOffice, .inl (cI, 100, .inl u.2.2.1)), (a_lateBy, .inl (cI, 100, .inl u.2.2.2))])) (va_A [(h, .inr (11, [.int v_today, .int v_monks, .int v_aways, .int v_feasts, .int v_gifts, .int v_leaves, .int v_lates, .int v_store, .int v_allCandles, .ref a_isPriest, .ref a_bars, .ref a_joined, .ref a_turns, .ref a_awayMonk, .ref a_awayFrom, .ref a_awayTo, .ref a_feastDay, .ref a_rank, .ref a_isWeekly, .ref a_isDouble, .ref a_giftDay, .ref a_giftFrom, .ref a_owed, .ref a_said, .ref a_spared, .ref a_leaveGift, .ref a_leaveFrom, .ref a_leaveTo, .ref a_lateDay, .ref a_lateOffice, .ref a_lateBy, .ref a_guests, .ref a_who, .ref a_used, .ref a_lacks, .ref a_candles, .ref a_masses, .ref a_owing, .ref a_heldOn, .ref a_waits, .ref a_tape, .ref a_text, .int v_taped, .int v_size, .int v_at, .int v_fault, .int v_rules, .ref a_statements, .ref a_taken, .ref a_sort, .ref a_first, .ref a_second, .int v_wordEnd, .int v_number])), (a_lateDay, .inl (cI, 100, .inl f_lateDay)), (a_lateOffice, .inl (cI, 100, .inl f_lateOffice)), (a_lateBy, .inl (cI, 100, .inl f_lateBy))] sz)) 0 0 (va_A [(h, .inr (11, [.int v_today, .int v_monks, .int v_aways, .int v_feasts, .int v_gifts, .int v_leaves, .int v_lates, .int v_store, .int v_allCandles, .ref a_isPriest, .ref a_bars, .ref a_joined, .ref a_turns, .ref a_awayMonk, .ref a_awayFrom, .ref a_awayTo, .ref a_feastDay, .ref a_rank, .ref a_isWeekly, .ref a_isDouble, .ref a_giftDay, .ref a_giftFrom, .ref a_owed, .ref a_said, .ref a_spared, .ref a_leaveGift, .ref a_leaveFrom, .ref a_leaveTo, .ref a_lateDay, .ref a_lateOffice, .ref a_lateBy, .ref a_guests, .ref a_who, .ref a_used, .ref a_lacks, .ref a_candles, .ref a_masses, .ref a_owing, .ref a_heldOn, .ref a_waits, .ref a_tape, .ref a_text, .int v_taped, .int v_size, .int v_at, .int v_fault, .int v_rules, .ref a_statements, .ref a_taken, .ref a_sort, .ref a_first, .ref a_second, .int v_wordEnd, .int v_number])), (a_lateDay, .inl (cI, 100, .inl f_lateDay)), (a_lateOffice, .inl (cI, 100, .inl f_lateOffice)), (a_lateBy, .inl (cI, 100, .inl f_lateBy))] sz) := by
  refine rw_ret (cc := cX12_late) (maxL := 7) (ty := .int) (own := RX12) (by decide) rfl rfl (Nat.le_of_ble_eq_true rfl) ?_
  intro p e s m args below meth c Q A S hin hret hP hK hD hA hS ls hl
  obtain ⟨hx, hb, hml, hown, hts⟩ := id S
  have hl : lv_has ls 7 [(0, .ref h), (1, .int d), (2, .int k), (3, .int mm)] := hl
  have kkm1 : (-1 : Int32).toInt = -1 := by decide
  have kk0 : (0 : Int32).toInt = 0 := by decide
  have kk1 : (1 : Int32).toInt = 1 := by decide
  have kk7 : (7 : Int32).toInt = 7 := by decide
  have kk100 : (100 : Int32).toInt = 100 := by decide
  have kk120 : (120 : Int32).toInt = 120 := by decide
  have kk1094 : (1094 : Int32).toInt = 1094 := by decide
  have kk1410 : (1410 : Int32).toInt = 1410 := by decide
  have lk0 := hts (.fieldLink RX12 140 "AbbeyHoursModel" "today" "I") (mc_X12_late_r1 _ (List.mem_of_getElem? (i := 0) rfl))
  have lk1 := hts (.fieldLink RX12 68 "AbbeyHoursModel" "lateDay" "[I") (mc_X12_late_r1 _ (List.mem_of_getElem? (i := 2) rfl))
  have lk2 := hts (.fieldLink RX12 71 "AbbeyHoursModel" "lateOffice" "[I") (mc_X12_late_r1 _ (List.mem_of_getElem? (i := 3) rfl))
  have lk3 := hts (.fieldLink RX12 74 "AbbeyHoursModel" "lateBy" "[I") (mc_X12_late_r1 _ (List.mem_of_getElem? (i := 4) rfl))
  have lk4 := hts (.fieldLink RX12 172 "AbbeyHoursModel" "lates" "I") (mc_X12_late_r1 _ (List.mem_of_getElem? (i := 1) rfl))
  refine lv_iload_n hx hb dX12_late_0 rfl (lv_at hl 1 rfl) ?_
  refine lv_aload_n hx hb dX12_late_1 rfl (lv_at hl 0 rfl) ?_
  refine va_get (D := D) (ci := 11) (v := .int v_today) (C := RX12) (T := TX12) (N := 54) hx hb hts in_N_late_X12 hown hK.1 hP 0 rfl rfl 0 (by decide) lk0 (fun _ h9 => h9) rfl dX12_late_2 ?_
  refine lv_sipush (v := 1094) hx hb dX12_late_5 (by decide) ?_
  have hPc := hP.sub (ws' := []) [] rfl
  refine roS (As := [.int d, .int v_today, .int 1094]) (rest := []) S (m_isIn  ) (va_cwS 3 hts gX12_late_X12_isIn rfl rfl rfl hd_X12_isIn ⟨Nat.le_of_ble_eq_true rfl, Nat.le_of_ble_eq_true rfl⟩) hK hPc rfl hl.1 rfl (Nat.le_of_ble_eq_true rfl) dX12_late_8 ⟨Nat.le_of_ble_eq_true rfl, Nat.le_of_ble_eq_true rfl⟩ (fun r_1 hw_1 => ?_)
  have hw_1 : (r_1.toInt = 1 ∧ v_today.toInt ≤ d.toInt ∧ d.toInt ≤ (1094 : Int32).toInt) ∨ (r_1.toInt = 0 ∧ (d.toInt < v_today.toInt ∨ (1094 : Int32).toInt < d.toInt)) := hw_1
  refine lv_if_eq (tgt := 34) hx hb dX12_late_11 (by decide) (fun c_2 => ?_) (fun c_2 => ?_)
  · have tc_2 := t_eq c_2
    refine lv_iconst (v := (-1)) hx hb dX12_late_34 (by decide) ?_
    exact hret (-1) (v_lates, f_lateDay, f_lateOffice, f_lateBy) _ _ _ _ (show 0 ≤ v_lates.toInt ∧ v_lates.toInt ≤ 100 from by omega) rfl (hP.sub [0, 1, 2, 3] rfl) (hD.sub [0, 1, 2, 3] (by decide +kernel) rfl) hS dX12_late_35
  · have tc_2 := t_neq c_2
    refine lv_iload_n hx hb dX12_late_14 rfl (lv_at hl 2 rfl) ?_
    refine lv_iconst (v := 0) hx hb dX12_late_15 (by decide) ?_
    refine lv_bipush (v := 7) hx hb dX12_late_16 (by decide) ?_
    have hPc := hP.sub (ws' := []) [] rfl
    refine roS (As := [.int k, .int 0, .int 7]) (rest := []) S (m_isIn  ) (va_cwS 3 hts gX12_late_X12_isIn rfl rfl rfl hd_X12_isIn ⟨Nat.le_of_ble_eq_true rfl, Nat.le_of_ble_eq_true rfl⟩) hK hPc rfl hl.1 rfl (Nat.le_of_ble_eq_true rfl) dX12_late_18 ⟨Nat.le_of_ble_eq_true rfl, Nat.le_of_ble_eq_true rfl⟩ (fun r_3 hw_3 => ?_)
    have hw_3 : (r_3.toInt = 1 ∧ (0 : Int32).toInt ≤ k.toInt ∧ k.toInt ≤ (7 : Int32).toInt) ∨ (r_3.toInt = 0 ∧ (k.toInt < (0 : Int32).toInt ∨ (7 : Int32).toInt < k.toInt)) := hw_3
    refine lv_if_eq (tgt := 34) hx hb dX12_late_21 (by decide) (fun c_4 => ?_) (fun c_4 => ?_)
    · have tc_4 := t_eq c_4
      refine lv_iconst (v := (-1)) hx hb dX12_late_34 (by decide) ?_
      exact hret (-1) (v_lates, f_lateDay, f_lateOffice, f_lateBy) _ _ _ _ (show 0 ≤ v_lates.toInt ∧ v_lates.toInt ≤ 100 from by omega) rfl (hP.sub [0, 1, 2, 3] rfl) (hD.sub [0, 1, 2, 3] (by decide +kernel) rfl) hS dX12_late_35
    · have tc_4 := t_neq c_4
      refine lv_iload_n hx hb dX12_late_24 rfl (lv_at hl 3 rfl) ?_
      refine lv_iconst (v := 1) hx hb dX12_late_25 (by decide) ?_
      refine lv_bipush (v := 120) hx hb dX12_late_26 (by decide) ?_
      have hPc := hP.sub (ws' := []) [] rfl
      refine roS (As := [.int mm, .int 1, .int 120]) (rest := []) S (m_isIn  ) (va_cwS 3 hts gX12_late_X12_isIn rfl rfl rfl hd_X12_isIn ⟨Nat.le_of_ble_eq_true rfl, Nat.le_of_ble_eq_true rfl⟩) hK hPc rfl hl.1 rfl (Nat.le_of_ble_eq_true rfl) dX12_late_28 ⟨Nat.le_of_ble_eq_true rfl, Nat.le_of_ble_eq_true rfl⟩ (fun r_5 hw_5 => ?_)
      have hw_5 : (r_5.toInt = 1 ∧ (1 : Int32).toInt ≤ mm.toInt ∧ mm.toInt ≤ (120 : Int32).toInt) ∨ (r_5.toInt = 0 ∧ (mm.toInt < (1 : Int32).toInt ∨ (120 : Int32).toInt < mm.toInt)) := hw_5
      refine lv_if_ne (tgt := 36) hx hb dX12_late_31 (by decide) (fun c_6 => ?_) (fun c_6 => ?_)
      · have tc_6 := t_neq c_6
        refine lv_iload_n hx hb dX12_late_36 rfl (lv_at hl 1 rfl) ?_
        refine lv_iload_n hx hb dX12_late_37 rfl (lv_at hl 2 rfl) ?_
        have hPc := hP.sub (ws' := []) [] rfl
        refine roS (As := [.int d, .int k]) (rest := []) S (m_plain  ) (va_cwS 2 hts gX12_late_X12_plain rfl rfl rfl hd_X12_plain ⟨Nat.le_of_ble_eq_true rfl, Nat.le_of_ble_eq_true rfl⟩) hK hPc rfl hl.1 rfl (Nat.le_of_ble_eq_true rfl) dX12_late_38 ⟨Nat.le_of_ble_eq_true rfl, Nat.le_of_ble_eq_true rfl⟩ (fun r_7 hw_7 => ?_)
        have hw_7 : r_7 = sunP (rem365 d) k := hw_7
        refine lv_iload_n hx hb dX12_late_41 rfl (lv_at hl 3 rfl) ?_
        refine lv_iadd hx hb dX12_late_42 ?_
        refine lv_topi (fun x_8 ex_8 => ?_)
        refine lv_istore (lv' := [(4, .int x_8), (0, .ref h), (1, .int d), (2, .int k), (3, .int mm)]) hx hb dX12_late_43 hl (by decide) rfl (fun ls hl => ?_)
        refine lv_iload_n hx hb dX12_late_45 rfl (lv_at hl 3 rfl) ?_
        refine lv_bipush (v := 7) hx hb dX12_late_46 (by decide) ?_
        refine lv_icmp_ne (tgt := 57) hx hb dX12_late_48 (by decide) (fun c_9 => ?_) (fun c_9 => ?_)
        · have tc_9 := t_neq c_9
          refine lv_aload_n hx hb dX12_late_57 rfl (lv_at hl 1 rfl) ?_
          refine lv_iload_n hx hb dX12_late_58 rfl (lv_at hl 2 rfl) ?_
          refine lv_iload_n hx hb dX12_late_59 rfl (lv_at hl 3 rfl) ?_
          refine lv_iconst (v := 1) hx hb dX12_late_60 (by decide) ?_
          refine lv_iadd hx hb dX12_late_61 ?_
          refine lv_topi (fun x_10 ex_10 => ?_)
          have hPc := hP.sub (ws' := [(h, .inr (11, [.int v_today, .int v_monks, .int v_aways, .int v_feasts, .int v_gifts, .int v_leaves, .int v_lates, .int v_store, .int v_allCandles, .ref a_isPriest, .ref a_bars, .ref a_joined, .ref a_turns, .ref a_awayMonk, .ref a_awayFrom, .ref a_awayTo, .ref a_feastDay, .ref a_rank, .ref a_isWeekly, .ref a_isDouble, .ref a_giftDay, .ref a_giftFrom, .ref a_owed, .ref a_said, .ref a_spared, .ref a_leaveGift, .ref a_leaveFrom, .ref a_leaveTo, .ref a_lateDay, .ref a_lateOffice, .ref a_lateBy, .ref a_guests, .ref a_who, .ref a_used, .ref a_lacks, .ref a_candles, .ref a_masses, .ref a_owing, .ref a_heldOn, .ref a_waits, .ref a_tape, .ref a_text, .int v_taped, .int v_size, .int v_at, .int v_fault, .int v_rules, .ref a_statements, .ref a_taken, .ref a_sort, .ref a_first, .ref a_second, .int v_wordEnd, .int v_number])), (a_lateDay, .inl (cI, 100, .inl f_lateDay)), (a_lateOffice, .inl (cI, 100, .inl f_lateOffice)), (a_lateBy, .inl (cI, 100, .inl f_lateBy))]) [0, 1, 2, 3] rfl
          refine roV (As := [.int d, .int x_10]) (rest := []) S (n_begins  (by omega) (by omega)) (cwV 2 hts gX12_late_X12_begins rfl rfl rfl ⟨rfl, hd_X12_begins⟩ ⟨Nat.le_of_ble_eq_true rfl, Nat.le_of_ble_eq_true rfl⟩) hK hPc (va_recv hK.1 hPc (ci := 11) (q0 := 0) rfl rfl) rfl hl.1 rfl (Nat.le_of_ble_eq_true rfl) dX12_late_62 ⟨Nat.le_of_ble_eq_true rfl, Nat.le_of_ble_eq_true rfl⟩ (fun r_11 hw_11 => ?_)
          have hw_11 : True := hw_11
          refine lv_istore (lv' := [(5, .int r_11), (4, .int x_8), (0, .ref h), (1, .int d), (2, .int k), (3, .int mm)]) hx hb dX12_late_65 hl (by decide) rfl (fun ls hl => ?_)
          refine lv_iload hx hb dX12_late_67 (lv_at hl 1 rfl) ?_
          refine lv_iload hx hb dX12_late_69 (lv_at hl 0 rfl) ?_
          refine lv_icmp_ge (tgt := 91) hx hb dX12_late_71 (by decide) (fun c_12 => ?_) (fun c_12 => ?_)
          · have tc_12 := t_le c_12
            refine lv_iconst (v := (-1)) hx hb dX12_late_91 (by decide) ?_
            exact hret (-1) (v_lates, f_lateDay, f_lateOffice, f_lateBy) _ _ _ _ (show 0 ≤ v_lates.toInt ∧ v_lates.toInt ≤ 100 from by omega) rfl (hP.sub [0, 1, 2, 3] rfl) (hD.sub [0, 1, 2, 3] (by decide +kernel) rfl) hS dX12_late_92
          · have tc_12 := t_nle c_12
            refine lv_iload_n hx hb dX12_late_74 rfl (lv_at hl 4 rfl) ?_
            refine lv_if_le (tgt := 93) hx hb dX12_late_75 (by decide) (fun c_13 => ?_) (fun c_13 => ?_)
            · have tc_13 := t_le c_13
              refine lv_aload_n hx hb dX12_late_93 rfl (lv_at hl 2 rfl) ?_
              refine lv_iload_n hx hb dX12_late_94 rfl (lv_at hl 3 rfl) ?_
              refine lv_iload_n hx hb dX12_late_95 rfl (lv_at hl 4 rfl) ?_
              have hPc := hP.sub (ws' := [(h, .inr (11, [.int v_today, .int v_monks, .int v_aways, .int v_feasts, .int v_gifts, .int v_leaves, .int v_lates, .int v_store, .int v_allCandles, .ref a_isPriest, .ref a_bars, .ref a_joined, .ref a_turns, .ref a_awayMonk, .ref a_awayFrom, .ref a_awayTo, .ref a_feastDay, .ref a_rank, .ref a_isWeekly, .ref a_isDouble, .ref a_giftDay, .ref a_giftFrom, .ref a_owed, .ref a_said, .ref a_spared, .ref a_leaveGift, .ref a_leaveFrom, .ref a_leaveTo, .ref a_lateDay, .ref a_lateOffice, .ref a_lateBy, .ref a_guests, .ref a_who, .ref a_used, .ref a_lacks, .ref a_candles, .ref a_masses, .ref a_owing, .ref a_heldOn, .ref a_waits, .ref a_tape, .ref a_text, .int v_taped, .int v_size, .int v_at, .int v_fault, .int v_rules, .ref a_statements, .ref a_taken, .ref a_sort, .ref a_first, .ref a_second, .int v_wordEnd, .int v_number])), (a_lateDay, .inl (cI, 100, .inl f_lateDay)), (a_lateOffice, .inl (cI, 100, .inl f_lateOffice))]) [0, 1, 2] rfl
              refine roV (As := [.int d, .int k]) (rest := []) S (n_lateRow  (by omega) (by omega)) (cwV 2 hts gX12_late_X12_lateRow rfl rfl rfl ⟨rfl, hd_X12_lateRow⟩ ⟨Nat.le_of_ble_eq_true rfl, Nat.le_of_ble_eq_true rfl⟩) hK hPc (va_recv hK.1 hPc (ci := 11) (q0 := 0) rfl rfl) rfl hl.1 rfl (Nat.le_of_ble_eq_true rfl) dX12_late_96 ⟨Nat.le_of_ble_eq_true rfl, Nat.le_of_ble_eq_true rfl⟩ (fun r_14 hw_14 => ?_)
              have hw_14 : r_14.toInt = -1 ∨ (0 ≤ r_14.toInt ∧ r_14.toInt < v_lates.toInt) := hw_14
              refine lv_istore (lv' := [(6, .int r_14), (5, .int r_11), (4, .int x_8), (0, .ref h), (1, .int d), (2, .int k), (3, .int mm)]) hx hb dX12_late_99 hl (by decide) rfl (fun ls hl => ?_)
              refine lv_iload hx hb dX12_late_101 (lv_at hl 0 rfl) ?_
              refine lv_iconst (v := (-1)) hx hb dX12_late_103 (by decide) ?_
              refine lv_icmp_ne (tgt := 134) hx hb dX12_late_104 (by decide) (fun c_15 => ?_) (fun c_15 => ?_)
              · have tc_15 := t_neq c_15
                refine lv_aload_n hx hb dX12_late_134 rfl (lv_at hl 3 rfl) ?_
                refine va_get (D := D) (ci := 11) (v := .ref a_lateDay) (C := RX12) (T := TX12) (N := 54) hx hb hts in_N_late_X12 hown hK.1 hP 0 rfl rfl 28 (by decide) lk1 (fun _ h9 => h9) rfl dX12_late_135 ?_
                refine lv_iload hx hb dX12_late_138 (lv_at hl 0 rfl) ?_
                refine lv_iload_n hx hb dX12_late_140 rfl (lv_at hl 4 rfl) ?_
                refine va_iast hx hb hK.1 hP hD hS 1 0 rfl rfl (t_in (by omega) (by omega)) dX12_late_141 (fun H locs hP hD hS => ?_)
                obtain ⟨g_16, eg_16⟩ : ∃ z : Nat → Int32, z = upd f_lateDay ((r_14 : Int32).toNatClampNeg) d := ⟨_, rfl⟩
                rw [← eg_16] at hP hD
                have hP : va_P D vwCl [(h, .inr (11, [.int v_today, .int v_monks, .int v_aways, .int v_feasts, .int v_gifts, .int v_leaves, .int v_lates, .int v_store, .int v_allCandles, .ref a_isPriest, .ref a_bars, .ref a_joined, .ref a_turns, .ref a_awayMonk, .ref a_awayFrom, .ref a_awayTo, .ref a_feastDay, .ref a_rank, .ref a_isWeekly, .ref a_isDouble, .ref a_giftDay, .ref a_giftFrom, .ref a_owed, .ref a_said, .ref a_spared, .ref a_leaveGift, .ref a_leaveFrom, .ref a_leaveTo, .ref a_lateDay, .ref a_lateOffice, .ref a_lateBy, .ref a_guests, .ref a_who, .ref a_used, .ref a_lacks, .ref a_candles, .ref a_masses, .ref a_owing, .ref a_heldOn, .ref a_waits, .ref a_tape, .ref a_text, .int v_taped, .int v_size, .int v_at, .int v_fault, .int v_rules, .ref a_statements, .ref a_taken, .ref a_sort, .ref a_first, .ref a_second, .int v_wordEnd, .int v_number])), (a_lateDay, .inl (cI, 100, .inl g_16)), (a_lateOffice, .inl (cI, 100, .inl f_lateOffice)), (a_lateBy, .inl (cI, 100, .inl f_lateBy))] H := hP
                have hD := asD hP hD
                refine lv_aload_n hx hb dX12_late_142 rfl (lv_at hl 3 rfl) ?_
                refine va_get (D := D) (ci := 11) (v := .ref a_lateOffice) (C := RX12) (T := TX12) (N := 54) hx hb hts in_N_late_X12 hown hK.1 hP 0 rfl rfl 29 (by decide) lk2 (fun _ h9 => h9) rfl dX12_late_143 ?_
                refine lv_iload hx hb dX12_late_146 (lv_at hl 0 rfl) ?_
                refine lv_iload_n hx hb dX12_late_148 rfl (lv_at hl 5 rfl) ?_
                refine va_iast hx hb hK.1 hP hD hS 2 0 rfl rfl (t_in (by omega) (by omega)) dX12_late_149 (fun H locs hP hD hS => ?_)
                obtain ⟨g_17, eg_17⟩ : ∃ z : Nat → Int32, z = upd f_lateOffice ((r_14 : Int32).toNatClampNeg) k := ⟨_, rfl⟩
                rw [← eg_17] at hP hD
                have hP : va_P D vwCl [(h, .inr (11, [.int v_today, .int v_monks, .int v_aways, .int v_feasts, .int v_gifts, .int v_leaves, .int v_lates, .int v_store, .int v_allCandles, .ref a_isPriest, .ref a_bars, .ref a_joined, .ref a_turns, .ref a_awayMonk, .ref a_awayFrom, .ref a_awayTo, .ref a_feastDay, .ref a_rank, .ref a_isWeekly, .ref a_isDouble, .ref a_giftDay, .ref a_giftFrom, .ref a_owed, .ref a_said, .ref a_spared, .ref a_leaveGift, .ref a_leaveFrom, .ref a_leaveTo, .ref a_lateDay, .ref a_lateOffice, .ref a_lateBy, .ref a_guests, .ref a_who, .ref a_used, .ref a_lacks, .ref a_candles, .ref a_masses, .ref a_owing, .ref a_heldOn, .ref a_waits, .ref a_tape, .ref a_text, .int v_taped, .int v_size, .int v_at, .int v_fault, .int v_rules, .ref a_statements, .ref a_taken, .ref a_sort, .ref a_first, .ref a_second, .int v_wordEnd, .int v_number])), (a_lateDay, .inl (cI, 100, .inl g_16)), (a_lateOffice, .inl (cI, 100, .inl g_17)), (a_lateBy, .inl (cI, 100, .inl f_lateBy))] H := hP
                have hD := asD hP hD
                refine lv_aload_n hx hb dX12_late_150 rfl (lv_at hl 3 rfl) ?_
                refine va_get (D := D) (ci := 11) (v := .ref a_lateBy) (C := RX12) (T := TX12) (N := 54) hx hb hts in_N_late_X12 hown hK.1 hP 0 rfl rfl 30 (by decide) lk3 (fun _ h9 => h9) rfl dX12_late_151 ?_
                refine lv_iload hx hb dX12_late_154 (lv_at hl 0 rfl) ?_
                refine lv_iload_n hx hb dX12_late_156 rfl (lv_at hl 6 rfl) ?_
                refine va_iast hx hb hK.1 hP hD hS 3 0 rfl rfl (t_in (by omega) (by omega)) dX12_late_157 (fun H locs hP hD hS => ?_)
                obtain ⟨g_18, eg_18⟩ : ∃ z : Nat → Int32, z = upd f_lateBy ((r_14 : Int32).toNatClampNeg) mm := ⟨_, rfl⟩
                rw [← eg_18] at hP hD
                have hP : va_P D vwCl [(h, .inr (11, [.int v_today, .int v_monks, .int v_aways, .int v_feasts, .int v_gifts, .int v_leaves, .int v_lates, .int v_store, .int v_allCandles, .ref a_isPriest, .ref a_bars, .ref a_joined, .ref a_turns, .ref a_awayMonk, .ref a_awayFrom, .ref a_awayTo, .ref a_feastDay, .ref a_rank, .ref a_isWeekly, .ref a_isDouble, .ref a_giftDay, .ref a_giftFrom, .ref a_owed, .ref a_said, .ref a_spared, .ref a_leaveGift, .ref a_leaveFrom, .ref a_leaveTo, .ref a_lateDay, .ref a_lateOffice, .ref a_lateBy, .ref a_guests, .ref a_who, .ref a_used, .ref a_lacks, .ref a_candles, .ref a_masses, .ref a_owing, .ref a_heldOn, .ref a_waits, .ref a_tape, .ref a_text, .int v_taped, .int v_size, .int v_at, .int v_fault, .int v_rules, .ref a_statements, .ref a_taken, .ref a_sort, .ref a_first, .ref a_second, .int v_wordEnd, .int v_number])), (a_lateDay, .inl (cI, 100, .inl g_16)), (a_lateOffice, .inl (cI, 100, .inl g_17)), (a_lateBy, .inl (cI, 100, .inl g_18))] H := hP
                have hD := asD hP hD
                refine lv_iload hx hb dX12_late_158 (lv_at hl 2 rfl) ?_
                exact hret x_8 (v_lates, g_16, g_17, g_18) _ _ _ _ (show 0 ≤ v_lates.toInt ∧ v_lates.toInt ≤ 100 from by omega) rfl (hP.sub [0, 1, 2, 3] rfl) (hD.sub [0, 1, 2, 3] (by decide +kernel) rfl) hS dX12_late_160
              · have tc_15 := t_eq c_15
                refine lv_aload_n hx hb dX12_late_107 rfl (lv_at hl 3 rfl) ?_
                refine va_get (D := D) (ci := 11) (v := .int v_lates) (C := RX12) (T := TX12) (N := 54) hx hb hts in_N_late_X12 hown hK.1 hP 0 rfl rfl 6 (by decide) lk4 (fun _ h9 => h9) rfl dX12_late_108 ?_
                refine lv_bipush (v := 100) hx hb dX12_late_111 (by decide) ?_
                refine lv_icmp_ne (tgt := 118) hx hb dX12_late_113 (by decide) (fun c_19 => ?_) (fun c_19 => ?_)
                · have tc_19 := t_neq c_19
                  refine lv_aload_n hx hb dX12_late_118 rfl (lv_at hl 3 rfl) ?_
                  refine va_get (D := D) (ci := 11) (v := .int v_lates) (C := RX12) (T := TX12) (N := 54) hx hb hts in_N_late_X12 hown hK.1 hP 0 rfl rfl 6 (by decide) lk4 (fun _ h9 => h9) rfl dX12_late_119 ?_
                  refine lv_istore (lv' := [(6, .int v_lates), (5, .int r_11), (4, .int x_8), (0, .ref h), (1, .int d), (2, .int k), (3, .int mm)]) hx hb dX12_late_122 hl (by decide) rfl (fun ls hl => ?_)
                  refine lv_aload_n hx hb dX12_late_124 rfl (lv_at hl 3 rfl) ?_
                  refine lv_dup hx hb dX12_late_125 rfl ?_
                  refine va_get (D := D) (ci := 11) (v := .int v_lates) (C := RX12) (T := TX12) (N := 54) hx hb hts in_N_late_X12 hown hK.1 hP 0 rfl rfl 6 (by decide) lk4 (fun _ h9 => h9) rfl dX12_late_126 ?_
                  refine lv_iconst (v := 1) hx hb dX12_late_129 (by decide) ?_
                  refine lv_iadd hx hb dX12_late_130 ?_
                  refine lv_topi (fun x_20 ex_20 => ?_)
                  first | have tx_20 := t_add ex_20 (by omega) (by omega) | skip
                  refine va_put (D := D) (ci := 11) (v := .int x_20) (ty := .int) (C := RX12) (T := TX12) (N := 54) hx hb hts in_N_late_X12 tyX12 tyX12_ok nmX12 hown hK.1 hP hD hS 0 rfl rfl 6 (by decide) lk4 (fun _ h9 => h9) rfl (by decide +kernel) rfl rfl (Nat.le_of_ble_eq_true rfl) dX12_late_131 (fun H locs hP hD hS => ?_)
                  have hP : va_P D vwCl [(h, .inr (11, [.int v_today, .int v_monks, .int v_aways, .int v_feasts, .int v_gifts, .int v_leaves, .int x_20, .int v_store, .int v_allCandles, .ref a_isPriest, .ref a_bars, .ref a_joined, .ref a_turns, .ref a_awayMonk, .ref a_awayFrom, .ref a_awayTo, .ref a_feastDay, .ref a_rank, .ref a_isWeekly, .ref a_isDouble, .ref a_giftDay, .ref a_giftFrom, .ref a_owed, .ref a_said, .ref a_spared, .ref a_leaveGift, .ref a_leaveFrom, .ref a_leaveTo, .ref a_lateDay, .ref a_lateOffice, .ref a_lateBy, .ref a_guests, .ref a_who, .ref a_used, .ref a_lacks, .ref a_candles, .ref a_masses, .ref a_owing, .ref a_heldOn, .ref a_waits, .ref a_tape, .ref a_text, .int v_taped, .int v_size, .int v_at, .int v_fault, .int v_rules, .ref a_statements, .ref a_taken, .ref a_sort, .ref a_first, .ref a_second, .int v_wordEnd, .int v_number])), (a_lateDay, .inl (cI, 100, .inl f_lateDay)), (a_lateOffice, .inl (cI, 100, .inl f_lateOffice)), (a_lateBy, .inl (cI, 100, .inl f_lateBy))] H := hP
                  have hD := asD hP hD
                  refine lv_aload_n hx hb dX12_late_134 rfl (lv_at hl 3 rfl) ?_
                  refine va_get (D := D) (ci := 11) (v := .ref a_lateDay) (C := RX12) (T := TX12) (N := 54) hx hb hts in_N_late_X12 hown hK.1 hP 0 rfl rfl 28 (by decide) lk1 (fun _ h9 => h9) rfl dX12_late_135 ?_
                  refine lv_iload hx hb dX12_late_138 (lv_at hl 0 rfl) ?_
                  refine lv_iload_n hx hb dX12_late_140 rfl (lv_at hl 4 rfl) ?_
                  refine va_iast hx hb hK.1 hP hD hS 1 0 rfl rfl (t_in (by omega) (by omega)) dX12_late_141 (fun H locs hP hD hS => ?_)
                  obtain ⟨g_21, eg_21⟩ : ∃ z : Nat → Int32, z = upd f_lateDay ((v_lates : Int32).toNatClampNeg) d := ⟨_, rfl⟩
                  rw [← eg_21] at hP hD
                  have hP : va_P D vwCl [(h, .inr (11, [.int v_today, .int v_monks, .int v_aways, .int v_feasts, .int v_gifts, .int v_leaves, .int x_20, .int v_store, .int v_allCandles, .ref a_isPriest, .ref a_bars, .ref a_joined, .ref a_turns, .ref a_awayMonk, .ref a_awayFrom, .ref a_awayTo, .ref a_feastDay, .ref a_rank, .ref a_isWeekly, .ref a_isDouble, .ref a_giftDay, .ref a_giftFrom, .ref a_owed, .ref a_said, .ref a_spared, .ref a_leaveGift, .ref a_leaveFrom, .ref a_leaveTo, .ref a_lateDay, .ref a_lateOffice, .ref a_lateBy, .ref a_guests, .ref a_who, .ref a_used, .ref a_lacks, .ref a_candles, .ref a_masses, .ref a_owing, .ref a_heldOn, .ref a_waits, .ref a_tape, .ref a_text, .int v_taped, .int v_size, .int v_at, .int v_fault, .int v_rules, .ref a_statements, .ref a_taken, .ref a_sort, .ref a_first, .ref a_second, .int v_wordEnd, .int v_number])), (a_lateDay, .inl (cI, 100, .inl g_21)), (a_lateOffice, .inl (cI, 100, .inl f_lateOffice)), (a_lateBy, .inl (cI, 100, .inl f_lateBy))] H := hP
                  have hD := asD hP hD
                  refine lv_aload_n hx hb dX12_late_142 rfl (lv_at hl 3 rfl) ?_
                  refine va_get (D := D) (ci := 11) (v := .ref a_lateOffice) (C := RX12) (T := TX12) (N := 54) hx hb hts in_N_late_X12 hown hK.1 hP 0 rfl rfl 29 (by decide) lk2 (fun _ h9 => h9) rfl dX12_late_143 ?_
                  refine lv_iload hx hb dX12_late_146 (lv_at hl 0 rfl) ?_
                  refine lv_iload_n hx hb dX12_late_148 rfl (lv_at hl 5 rfl) ?_
                  refine va_iast hx hb hK.1 hP hD hS 2 0 rfl rfl (t_in (by omega) (by omega)) dX12_late_149 (fun H locs hP hD hS => ?_)
                  obtain ⟨g_22, eg_22⟩ : ∃ z : Nat → Int32, z = upd f_lateOffice ((v_lates : Int32).toNatClampNeg) k := ⟨_, rfl⟩
                  rw [← eg_22] at hP hD
                  have hP : va_P D vwCl [(h, .inr (11, [.int v_today, .int v_monks, .int v_aways, .int v_feasts, .int v_gifts, .int v_leaves, .int x_20, .int v_store, .int v_allCandles, .ref a_isPriest, .ref a_bars, .ref a_joined, .ref a_turns, .ref a_awayMonk, .ref a_awayFrom, .ref a_awayTo, .ref a_feastDay, .ref a_rank, .ref a_isWeekly, .ref a_isDouble, .ref a_giftDay, .ref a_giftFrom, .ref a_owed, .ref a_said, .ref a_spared, .ref a_leaveGift, .ref a_leaveFrom, .ref a_leaveTo, .ref a_lateDay, .ref a_lateOffice, .ref a_lateBy, .ref a_guests, .ref a_who, .ref a_used, .ref a_lacks, .ref a_candles, .ref a_masses, .ref a_owing, .ref a_heldOn, .ref a_waits, .ref a_tape, .ref a_text, .int v_taped, .int v_size, .int v_at, .int v_fault, .int v_rules, .ref a_statements, .ref a_taken, .ref a_sort, .ref a_first, .ref a_second, .int v_wordEnd, .int v_number])), (a_lateDay, .inl (cI, 100, .inl g_21)), (a_lateOffice, .inl (cI, 100, .inl g_22)), (a_lateBy, .inl (cI, 100, .inl f_lateBy))] H := hP
                  have hD := asD hP hD
                  refine lv_aload_n hx hb dX12_late_150 rfl (lv_at hl 3 rfl) ?_
                  refine va_get (D := D) (ci := 11) (v := .ref a_lateBy) (C := RX12) (T := TX12) (N := 54) hx hb hts in_N_late_X12 hown hK.1 hP 0 rfl rfl 30 (by decide) lk3 (fun _ h9 => h9) rfl dX12_late_151 ?_
                  refine lv_iload hx hb dX12_late_154 (lv_at hl 0 rfl) ?_
                  refine lv_iload_n hx hb dX12_late_156 rfl (lv_at hl 6 rfl) ?_
                  refine va_iast hx hb hK.1 hP hD hS 3 0 rfl rfl (t_in (by omega) (by omega)) dX12_late_157 (fun H locs hP hD hS => ?_)
                  obtain ⟨g_23, eg_23⟩ : ∃ z : Nat → Int32, z = upd f_lateBy ((v_lates : Int32).toNatClampNeg) mm := ⟨_, rfl⟩
                  rw [← eg_23] at hP hD
                  have hP : va_P D vwCl [(h, .inr (11, [.int v_today, .int v_monks, .int v_aways, .int v_feasts, .int v_gifts, .int v_leaves, .int x_20, .int v_store, .int v_allCandles, .ref a_isPriest, .ref a_bars, .ref a_joined, .ref a_turns, .ref a_awayMonk, .ref a_awayFrom, .ref a_awayTo, .ref a_feastDay, .ref a_rank, .ref a_isWeekly, .ref a_isDouble, .ref a_giftDay, .ref a_giftFrom, .ref a_owed, .ref a_said, .ref a_spared, .ref a_leaveGift, .ref a_leaveFrom, .ref a_leaveTo, .ref a_lateDay, .ref a_lateOffice, .ref a_lateBy, .ref a_guests, .ref a_who, .ref a_used, .ref a_lacks, .ref a_candles, .ref a_masses, .ref a_owing, .ref a_heldOn, .ref a_waits, .ref a_tape, .ref a_text, .int v_taped, .int v_size, .int v_at, .int v_fault, .int v_rules, .ref a_statements, .ref a_taken, .ref a_sort, .ref a_first, .ref a_second, .int v_wordEnd, .int v_number])), (a_lateDay, .inl (cI, 100, .inl g_21)), (a_lateOffice, .inl (cI, 100, .inl g_22)), (a_lateBy, .inl (cI, 100, .inl g_23))] H := hP
                  have hD := asD hP hD
                  refine lv_iload hx hb dX12_late_158 (lv_at hl 2 rfl) ?_
                  exact hret x_8 (x_20, g_21, g_22, g_23) _ _ _ _ (show 0 ≤ x_20.toInt ∧ x_20.toInt ≤ 100 from by omega) rfl (hP.sub [0, 1, 2, 3] rfl) (hD.sub [0, 1, 2, 3] (by decide +kernel) rfl) hS dX12_late_160
                · have tc_19 := t_eq c_19
                  refine lv_iconst (v := (-1)) hx hb dX12_late_116 (by decide) ?_
                  exact hret (-1) (v_lates, f_lateDay, f_lateOffice, f_lateBy) _ _ _ _ (show 0 ≤ v_lates.toInt ∧ v_lates.toInt ≤ 100 from by omega) rfl (hP.sub [0, 1, 2, 3] rfl) (hD.sub [0, 1, 2, 3] (by decide +kernel) rfl) hS dX12_late_117
            · have tc_13 := t_nle c_13
              refine lv_iload hx hb dX12_late_78 (lv_at hl 1 rfl) ?_
              refine lv_aload_n hx hb dX12_late_80 rfl (lv_at hl 2 rfl) ?_
              refine lv_iload_n hx hb dX12_late_81 rfl (lv_at hl 3 rfl) ?_
              refine lv_iload_n hx hb dX12_late_82 rfl (lv_at hl 4 rfl) ?_
              refine lv_iconst (v := 1) hx hb dX12_late_83 (by decide) ?_
              refine lv_isub hx hb dX12_late_84 ?_
              refine lv_topi (fun x_24 ex_24 => ?_)
              have hPc := hP.sub (ws' := [(h, .inr (11, [.int v_today, .int v_monks, .int v_aways, .int v_feasts, .int v_gifts, .int v_leaves, .int v_lates, .int v_store, .int v_allCandles, .ref a_isPriest, .ref a_bars, .ref a_joined, .ref a_turns, .ref a_awayMonk, .ref a_awayFrom, .ref a_awayTo, .ref a_feastDay, .ref a_rank, .ref a_isWeekly, .ref a_isDouble, .ref a_giftDay, .ref a_giftFrom, .ref a_owed, .ref a_said, .ref a_spared, .ref a_leaveGift, .ref a_leaveFrom, .ref a_leaveTo, .ref a_lateDay, .ref a_lateOffice, .ref a_lateBy, .ref a_guests, .ref a_who, .ref a_used, .ref a_lacks, .ref a_candles, .ref a_masses, .ref a_owing, .ref a_heldOn, .ref a_waits, .ref a_tape, .ref a_text, .int v_taped, .int v_size, .int v_at, .int v_fault, .int v_rules, .ref a_statements, .ref a_taken, .ref a_sort, .ref a_first, .ref a_second, .int v_wordEnd, .int v_number])), (a_lateDay, .inl (cI, 100, .inl f_lateDay)), (a_lateOffice, .inl (cI, 100, .inl f_lateOffice)), (a_lateBy, .inl (cI, 100, .inl f_lateBy))]) [0, 1, 2, 3] rfl
              refine roV (As := [.int d, .int x_24]) (rest := [.int x_8]) S (n_begins  (by omega) (by omega)) (cwV 2 hts gX12_late_X12_begins rfl rfl rfl ⟨rfl, hd_X12_begins⟩ ⟨Nat.le_of_ble_eq_true rfl, Nat.le_of_ble_eq_true rfl⟩) hK hPc (va_recv hK.1 hPc (ci := 11) (q0 := 0) rfl rfl) rfl hl.1 rfl (Nat.le_of_ble_eq_true rfl) dX12_late_85 ⟨Nat.le_of_ble_eq_true rfl, Nat.le_of_ble_eq_true rfl⟩ (fun r_25 hw_25 => ?_)
              have hw_25 : True := hw_25
              refine lv_icmp_gt (tgt := 93) hx hb dX12_late_88 (by decide) (fun c_26 => ?_) (fun c_26 => ?_)
              · have tc_26 := t_lt c_26
                refine lv_aload_n hx hb dX12_late_93 rfl (lv_at hl 2 rfl) ?_
                refine lv_iload_n hx hb dX12_late_94 rfl (lv_at hl 3 rfl) ?_
                refine lv_iload_n hx hb dX12_late_95 rfl (lv_at hl 4 rfl) ?_
                have hPc := hP.sub (ws' := [(h, .inr (11, [.int v_today, .int v_monks, .int v_aways, .int v_feasts, .int v_gifts, .int v_leaves, .int v_lates, .int v_store, .int v_allCandles, .ref a_isPriest, .ref a_bars, .ref a_joined, .ref a_turns, .ref a_awayMonk, .ref a_awayFrom, .ref a_awayTo, .ref a_feastDay, .ref a_rank, .ref a_isWeekly, .ref a_isDouble, .ref a_giftDay, .ref a_giftFrom, .ref a_owed, .ref a_said, .ref a_spared, .ref a_leaveGift, .ref a_leaveFrom, .ref a_leaveTo, .ref a_lateDay, .ref a_lateOffice, .ref a_lateBy, .ref a_guests, .ref a_who, .ref a_used, .ref a_lacks, .ref a_candles, .ref a_masses, .ref a_owing, .ref a_heldOn, .ref a_waits, .ref a_tape, .ref a_text, .int v_taped, .int v_size, .int v_at, .int v_fault, .int v_rules, .ref a_statements, .ref a_taken, .ref a_sort, .ref a_first, .ref a_second, .int v_wordEnd, .int v_number])), (a_lateDay, .inl (cI, 100, .inl f_lateDay)), (a_lateOffice, .inl (cI, 100, .inl f_lateOffice))]) [0, 1, 2] rfl
                refine roV (As := [.int d, .int k]) (rest := []) S (n_lateRow  (by omega) (by omega)) (cwV 2 hts gX12_late_X12_lateRow rfl rfl rfl ⟨rfl, hd_X12_lateRow⟩ ⟨Nat.le_of_ble_eq_true rfl, Nat.le_of_ble_eq_true rfl⟩) hK hPc (va_recv hK.1 hPc (ci := 11) (q0 := 0) rfl rfl) rfl hl.1 rfl (Nat.le_of_ble_eq_true rfl) dX12_late_96 ⟨Nat.le_of_ble_eq_true rfl, Nat.le_of_ble_eq_true rfl⟩ (fun r_27 hw_27 => ?_)
                have hw_27 : r_27.toInt = -1 ∨ (0 ≤ r_27.toInt ∧ r_27.toInt < v_lates.toInt) := hw_27
                refine lv_istore (lv' := [(6, .int r_27), (5, .int r_11), (4, .int x_8), (0, .ref h), (1, .int d), (2, .int k), (3, .int mm)]) hx hb dX12_late_99 hl (by decide) rfl (fun ls hl => ?_)
                refine lv_iload hx hb dX12_late_101 (lv_at hl 0 rfl) ?_
                refine lv_iconst (v := (-1)) hx hb dX12_late_103 (by decide) ?_
                refine lv_icmp_ne (tgt := 134) hx hb dX12_late_104 (by decide) (fun c_28 => ?_) (fun c_28 => ?_)
                · have tc_28 := t_neq c_28
                  refine lv_aload_n hx hb dX12_late_134 rfl (lv_at hl 3 rfl) ?_
                  refine va_get (D := D) (ci := 11) (v := .ref a_lateDay) (C := RX12) (T := TX12) (N := 54) hx hb hts in_N_late_X12 hown hK.1 hP 0 rfl rfl 28 (by decide) lk1 (fun _ h9 => h9) rfl dX12_late_135 ?_
                  refine lv_iload hx hb dX12_late_138 (lv_at hl 0 rfl) ?_
                  refine lv_iload_n hx hb dX12_late_140 rfl (lv_at hl 4 rfl) ?_
                  refine va_iast hx hb hK.1 hP hD hS 1 0 rfl rfl (t_in (by omega) (by omega)) dX12_late_141 (fun H locs hP hD hS => ?_)
                  obtain ⟨g_29, eg_29⟩ : ∃ z : Nat → Int32, z = upd f_lateDay ((r_27 : Int32).toNatClampNeg) d := ⟨_, rfl⟩
                  rw [← eg_29] at hP hD
                  have hP : va_P D vwCl [(h, .inr (11, [.int v_today, .int v_monks, .int v_aways, .int v_feasts, .int v_gifts, .int v_leaves, .int v_lates, .int v_store, .int v_allCandles, .ref a_isPriest, .ref a_bars, .ref a_joined, .ref a_turns, .ref a_awayMonk, .ref a_awayFrom, .ref a_awayTo, .ref a_feastDay, .ref a_rank, .ref a_isWeekly, .ref a_isDouble, .ref a_giftDay, .ref a_giftFrom, .ref a_owed, .ref a_said, .ref a_spared, .ref a_leaveGift, .ref a_leaveFrom, .ref a_leaveTo, .ref a_lateDay, .ref a_lateOffice, .ref a_lateBy, .ref a_guests, .ref a_who, .ref a_used, .ref a_lacks, .ref a_candles, .ref a_masses, .ref a_owing, .ref a_heldOn, .ref a_waits, .ref a_tape, .ref a_text, .int v_taped, .int v_size, .int v_at, .int v_fault, .int v_rules, .ref a_statements, .ref a_taken, .ref a_sort, .ref a_first, .ref a_second, .int v_wordEnd, .int v_number])), (a_lateDay, .inl (cI, 100, .inl g_29)), (a_lateOffice, .inl (cI, 100, .inl f_lateOffice)), (a_lateBy, .inl (cI, 100, .inl f_lateBy))] H := hP
                  have hD := asD hP hD
                  refine lv_aload_n hx hb dX12_late_142 rfl (lv_at hl 3 rfl) ?_
                  refine va_get (D := D) (ci := 11) (v := .ref a_lateOffice) (C := RX12) (T := TX12) (N := 54) hx hb hts in_N_late_X12 hown hK.1 hP 0 rfl rfl 29 (by decide) lk2 (fun _ h9 => h9) rfl dX12_late_143 ?_
                  refine lv_iload hx hb dX12_late_146 (lv_at hl 0 rfl) ?_
                  refine lv_iload_n hx hb dX12_late_148 rfl (lv_at hl 5 rfl) ?_
                  refine va_iast hx hb hK.1 hP hD hS 2 0 rfl rfl (t_in (by omega) (by omega)) dX12_late_149 (fun H locs hP hD hS => ?_)
                  obtain ⟨g_30, eg_30⟩ : ∃ z : Nat → Int32, z = upd f_lateOffice ((r_27 : Int32).toNatClampNeg) k := ⟨_, rfl⟩
                  rw [← eg_30] at hP hD
                  have hP : va_P D vwCl [(h, .inr (11, [.int v_today, .int v_monks, .int v_aways, .int v_feasts, .int v_gifts, .int v_leaves, .int v_lates, .int v_store, .int v_allCandles, .ref a_isPriest, .ref a_bars, .ref a_joined, .ref a_turns, .ref a_awayMonk, .ref a_awayFrom, .ref a_awayTo, .ref a_feastDay, .ref a_rank, .ref a_isWeekly, .ref a_isDouble, .ref a_giftDay, .ref a_giftFrom, .ref a_owed, .ref a_said, .ref a_spared, .ref a_leaveGift, .ref a_leaveFrom, .ref a_leaveTo, .ref a_lateDay, .ref a_lateOffice, .ref a_lateBy, .ref a_guests, .ref a_who, .ref a_used, .ref a_lacks, .ref a_candles, .ref a_masses, .ref a_owing, .ref a_heldOn, .ref a_waits, .ref a_tape, .ref a_text, .int v_taped, .int v_size, .int v_at, .int v_fault, .int v_rules, .ref a_statements, .ref a_taken, .ref a_sort, .ref a_first, .ref a_second, .int v_wordEnd, .int v_number])), (a_lateDay, .inl (cI, 100, .inl g_29)), (a_lateOffice, .inl (cI, 100, .inl g_30)), (a_lateBy, .inl (cI, 100, .inl f_lateBy))] H := hP
                  have hD := asD hP hD
                  refine lv_aload_n hx hb dX12_late_150 rfl (lv_at hl 3 rfl) ?_
                  refine va_get (D := D) (ci := 11) (v := .ref a_lateBy) (C := RX12) (T := TX12) (N := 54) hx hb hts in_N_late_X12 hown hK.1 hP 0 rfl rfl 30 (by decide) lk3 (fun _ h9 => h9) rfl dX12_late_151 ?_
                  refine lv_iload hx hb dX12_late_154 (lv_at hl 0 rfl) ?_
                  refine lv_iload_n hx hb dX12_late_156 rfl (lv_at hl 6 rfl) ?_
                  refine va_iast hx hb hK.1 hP hD hS 3 0 rfl rfl (t_in (by omega) (by omega)) dX12_late_157 (fun H locs hP hD hS => ?_)
                  obtain ⟨g_31, eg_31⟩ : ∃ z : Nat → Int32, z = upd f_lateBy ((r_27 : Int32).toNatClampNeg) mm := ⟨_, rfl⟩
                  rw [← eg_31] at hP hD
                  have hP : va_P D vwCl [(h, .inr (11, [.int v_today, .int v_monks, .int v_aways, .int v_feasts, .int v_gifts, .int v_leaves, .int v_lates, .int v_store, .int v_allCandles, .ref a_isPriest, .ref a_bars, .ref a_joined, .ref a_turns, .ref a_awayMonk, .ref a_awayFrom, .ref a_awayTo, .ref a_feastDay, .ref a_rank, .ref a_isWeekly, .ref a_isDouble, .ref a_giftDay, .ref a_giftFrom, .ref a_owed, .ref a_said, .ref a_spared, .ref a_leaveGift, .ref a_leaveFrom, .ref a_leaveTo, .ref a_lateDay, .ref a_lateOffice, .ref a_lateBy, .ref a_guests, .ref a_who, .ref a_used, .ref a_lacks, .ref a_candles, .ref a_masses, .ref a_owing, .ref a_heldOn, .ref a_waits, .ref a_tape, .ref a_text, .int v_taped, .int v_size, .int v_at, .int v_fault, .int v_rules, .ref a_statements, .ref a_taken, .ref a_sort, .ref a_first, .ref a_second, .int v_wordEnd, .int v_number])), (a_lateDay, .inl (cI, 100, .inl g_29)), (a_lateOffice, .inl (cI, 100, .inl g_30)), (a_lateBy, .inl (cI, 100, .inl g_31))] H := hP
                  have hD := asD hP hD
                  refine lv_iload hx hb dX12_late_158 (lv_at hl 2 rfl) ?_
                  exact hret x_8 (v_lates, g_29, g_30, g_31) _ _ _ _ (show 0 ≤ v_lates.toInt ∧ v_lates.toInt ≤ 100 from by omega) rfl (hP.sub [0, 1, 2, 3] rfl) (hD.sub [0, 1, 2, 3] (by decide +kernel) rfl) hS dX12_late_160
                · have tc_28 := t_eq c_28
                  refine lv_aload_n hx hb dX12_late_107 rfl (lv_at hl 3 rfl) ?_
                  refine va_get (D := D) (ci := 11) (v := .int v_lates) (C := RX12) (T := TX12) (N := 54) hx hb hts in_N_late_X12 hown hK.1 hP 0 rfl rfl 6 (by decide) lk4 (fun _ h9 => h9) rfl dX12_late_108 ?_
                  refine lv_bipush (v := 100) hx hb dX12_late_111 (by decide) ?_
                  refine lv_icmp_ne (tgt := 118) hx hb dX12_late_113 (by decide) (fun c_32 => ?_) (fun c_32 => ?_)
                  · have tc_32 := t_neq c_32
                    refine lv_aload_n hx hb dX12_late_118 rfl (lv_at hl 3 rfl) ?_
                    refine va_get (D := D) (ci := 11) (v := .int v_lates) (C := RX12) (T := TX12) (N := 54) hx hb hts in_N_late_X12 hown hK.1 hP 0 rfl rfl 6 (by decide) lk4 (fun _ h9 => h9) rfl dX12_late_119 ?_
                    refine lv_istore (lv' := [(6, .int v_lates), (5, .int r_11), (4, .int x_8), (0, .ref h), (1, .int d), (2, .int k), (3, .int mm)]) hx hb dX12_late_122 hl (by decide) rfl (fun ls hl => ?_)
                    refine lv_aload_n hx hb dX12_late_124 rfl (lv_at hl 3 rfl) ?_
                    refine lv_dup hx hb dX12_late_125 rfl ?_
                    refine va_get (D := D) (ci := 11) (v := .int v_lates) (C := RX12) (T := TX12) (N := 54) hx hb hts in_N_late_X12 hown hK.1 hP 0 rfl rfl 6 (by decide) lk4 (fun _ h9 => h9) rfl dX12_late_126 ?_
                    refine lv_iconst (v := 1) hx hb dX12_late_129 (by decide) ?_
                    refine lv_iadd hx hb dX12_late_130 ?_
                    refine lv_topi (fun x_33 ex_33 => ?_)
                    first | have tx_33 := t_add ex_33 (by omega) (by omega) | skip
                    refine va_put (D := D) (ci := 11) (v := .int x_33) (ty := .int) (C := RX12) (T := TX12) (N := 54) hx hb hts in_N_late_X12 tyX12 tyX12_ok nmX12 hown hK.1 hP hD hS 0 rfl rfl 6 (by decide) lk4 (fun _ h9 => h9) rfl (by decide +kernel) rfl rfl (Nat.le_of_ble_eq_true rfl) dX12_late_131 (fun H locs hP hD hS => ?_)
                    have hP : va_P D vwCl [(h, .inr (11, [.int v_today, .int v_monks, .int v_aways, .int v_feasts, .int v_gifts, .int v_leaves, .int x_33, .int v_store, .int v_allCandles, .ref a_isPriest, .ref a_bars, .ref a_joined, .ref a_turns, .ref a_awayMonk, .ref a_awayFrom, .ref a_awayTo, .ref a_feastDay, .ref a_rank, .ref a_isWeekly, .ref a_isDouble, .ref a_giftDay, .ref a_giftFrom, .ref a_owed, .ref a_said, .ref a_spared, .ref a_leaveGift, .ref a_leaveFrom, .ref a_leaveTo, .ref a_lateDay, .ref a_lateOffice, .ref a_lateBy, .ref a_guests, .ref a_who, .ref a_used, .ref a_lacks, .ref a_candles, .ref a_masses, .ref a_owing, .ref a_heldOn, .ref a_waits, .ref a_tape, .ref a_text, .int v_taped, .int v_size, .int v_at, .int v_fault, .int v_rules, .ref a_statements, .ref a_taken, .ref a_sort, .ref a_first, .ref a_second, .int v_wordEnd, .int v_number])), (a_lateDay, .inl (cI, 100, .inl f_lateDay)), (a_lateOffice, .inl (cI, 100, .inl f_lateOffice)), (a_lateBy, .inl (cI, 100, .inl f_lateBy))] H := hP
                    have hD := asD hP hD
                    refine lv_aload_n hx hb dX12_late_134 rfl (lv_at hl 3 rfl) ?_
                    refine va_get (D := D) (ci := 11) (v := .ref a_lateDay) (C := RX12) (T := TX12) (N := 54) hx hb hts in_N_late_X12 hown hK.1 hP 0 rfl rfl 28 (by decide) lk1 (fun _ h9 => h9) rfl dX12_late_135 ?_
                    refine lv_iload hx hb dX12_late_138 (lv_at hl 0 rfl) ?_
                    refine lv_iload_n hx hb dX12_late_140 rfl (lv_at hl 4 rfl) ?_
                    refine va_iast hx hb hK.1 hP hD hS 1 0 rfl rfl (t_in (by omega) (by omega)) dX12_late_141 (fun H locs hP hD hS => ?_)
                    obtain ⟨g_34, eg_34⟩ : ∃ z : Nat → Int32, z = upd f_lateDay ((v_lates : Int32).toNatClampNeg) d := ⟨_, rfl⟩
                    rw [← eg_34] at hP hD
                    have hP : va_P D vwCl [(h, .inr (11, [.int v_today, .int v_monks, .int v_aways, .int v_feasts, .int v_gifts, .int v_leaves, .int x_33, .int v_store, .int v_allCandles, .ref a_isPriest, .ref a_bars, .ref a_joined, .ref a_turns, .ref a_awayMonk, .ref a_awayFrom, .ref a_awayTo, .ref a_feastDay, .ref a_rank, .ref a_isWeekly, .ref a_isDouble, .ref a_giftDay, .ref a_giftFrom, .ref a_owed, .ref a_said, .ref a_spared, .ref a_leaveGift, .ref a_leaveFrom, .ref a_leaveTo, .ref a_lateDay, .ref a_lateOffice, .ref a_lateBy, .ref a_guests, .ref a_who, .ref a_used, .ref a_lacks, .ref a_candles, .ref a_masses, .ref a_owing, .ref a_heldOn, .ref a_waits, .ref a_tape, .ref a_text, .int v_taped, .int v_size, .int v_at, .int v_fault, .int v_rules, .ref a_statements, .ref a_taken, .ref a_sort, .ref a_first, .ref a_second, .int v_wordEnd, .int v_number])), (a_lateDay, .inl (cI, 100, .inl g_34)), (a_lateOffice, .inl (cI, 100, .inl f_lateOffice)), (a_lateBy, .inl (cI, 100, .inl f_lateBy))] H := hP
                    have hD := asD hP hD
                    refine lv_aload_n hx hb dX12_late_142 rfl (lv_at hl 3 rfl) ?_
                    refine va_get (D := D) (ci := 11) (v := .ref a_lateOffice) (C := RX12) (T := TX12) (N := 54) hx hb hts in_N_late_X12 hown hK.1 hP 0 rfl rfl 29 (by decide) lk2 (fun _ h9 => h9) rfl dX12_late_143 ?_
                    refine lv_iload hx hb dX12_late_146 (lv_at hl 0 rfl) ?_
                    refine lv_iload_n hx hb dX12_late_148 rfl (lv_at hl 5 rfl) ?_
                    refine va_iast hx hb hK.1 hP hD hS 2 0 rfl rfl (t_in (by omega) (by omega)) dX12_late_149 (fun H locs hP hD hS => ?_)
                    obtain ⟨g_35, eg_35⟩ : ∃ z : Nat → Int32, z = upd f_lateOffice ((v_lates : Int32).toNatClampNeg) k := ⟨_, rfl⟩
                    rw [← eg_35] at hP hD
                    have hP : va_P D vwCl [(h, .inr (11, [.int v_today, .int v_monks, .int v_aways, .int v_feasts, .int v_gifts, .int v_leaves, .int x_33, .int v_store, .int v_allCandles, .ref a_isPriest, .ref a_bars, .ref a_joined, .ref a_turns, .ref a_awayMonk, .ref a_awayFrom, .ref a_awayTo, .ref a_feastDay, .ref a_rank, .ref a_isWeekly, .ref a_isDouble, .ref a_giftDay, .ref a_giftFrom, .ref a_owed, .ref a_said, .ref a_spared, .ref a_leaveGift, .ref a_leaveFrom, .ref a_leaveTo, .ref a_lateDay, .ref a_lateOffice, .ref a_lateBy, .ref a_guests, .ref a_who, .ref a_used, .ref a_lacks, .ref a_candles, .ref a_masses, .ref a_owing, .ref a_heldOn, .ref a_waits, .ref a_tape, .ref a_text, .int v_taped, .int v_size, .int v_at, .int v_fault, .int v_rules, .ref a_statements, .ref a_taken, .ref a_sort, .ref a_first, .ref a_second, .int v_wordEnd, .int v_number])), (a_lateDay, .inl (cI, 100, .inl g_34)), (a_lateOffice, .inl (cI, 100, .inl g_35)), (a_lateBy, .inl (cI, 100, .inl f_lateBy))] H := hP
                    have hD := asD hP hD
                    refine lv_aload_n hx hb dX12_late_150 rfl (lv_at hl 3 rfl) ?_
                    refine va_get (D := D) (ci := 11) (v := .ref a_lateBy) (C := RX12) (T := TX12) (N := 54) hx hb hts in_N_late_X12 hown hK.1 hP 0 rfl rfl 30 (by decide) lk3 (fun _ h9 => h9) rfl dX12_late_151 ?_
                    refine lv_iload hx hb dX12_late_154 (lv_at hl 0 rfl) ?_
                    refine lv_iload_n hx hb dX12_late_156 rfl (lv_at hl 6 rfl) ?_
                    refine va_iast hx hb hK.1 hP hD hS 3 0 rfl rfl (t_in (by omega) (by omega)) dX12_late_157 (fun H locs hP hD hS => ?_)
                    obtain ⟨g_36, eg_36⟩ : ∃ z : Nat → Int32, z = upd f_lateBy ((v_lates : Int32).toNatClampNeg) mm := ⟨_, rfl⟩
                    rw [← eg_36] at hP hD
                    have hP : va_P D vwCl [(h, .inr (11, [.int v_today, .int v_monks, .int v_aways, .int v_feasts, .int v_gifts, .int v_leaves, .int x_33, .int v_store, .int v_allCandles, .ref a_isPriest, .ref a_bars, .ref a_joined, .ref a_turns, .ref a_awayMonk, .ref a_awayFrom, .ref a_awayTo, .ref a_feastDay, .ref a_rank, .ref a_isWeekly, .ref a_isDouble, .ref a_giftDay, .ref a_giftFrom, .ref a_owed, .ref a_said, .ref a_spared, .ref a_leaveGift, .ref a_leaveFrom, .ref a_leaveTo, .ref a_lateDay, .ref a_lateOffice, .ref a_lateBy, .ref a_guests, .ref a_who, .ref a_used, .ref a_lacks, .ref a_candles, .ref a_masses, .ref a_owing, .ref a_heldOn, .ref a_waits, .ref a_tape, .ref a_text, .int v_taped, .int v_size, .int v_at, .int v_fault, .int v_rules, .ref a_statements, .ref a_taken, .ref a_sort, .ref a_first, .ref a_second, .int v_wordEnd, .int v_number])), (a_lateDay, .inl (cI, 100, .inl g_34)), (a_lateOffice, .inl (cI, 100, .inl g_35)), (a_lateBy, .inl (cI, 100, .inl g_36))] H := hP
                    have hD := asD hP hD
                    refine lv_iload hx hb dX12_late_158 (lv_at hl 2 rfl) ?_
                    exact hret x_8 (x_33, g_34, g_35, g_36) _ _ _ _ (show 0 ≤ x_33.toInt ∧ x_33.toInt ≤ 100 from by omega) rfl (hP.sub [0, 1, 2, 3] rfl) (hD.sub [0, 1, 2, 3] (by decide +kernel) rfl) hS dX12_late_160
                  · have tc_32 := t_eq c_32
                    refine lv_iconst (v := (-1)) hx hb dX12_late_116 (by decide) ?_
                    exact hret (-1) (v_lates, f_lateDay, f_lateOffice, f_lateBy) _ _ _ _ (show 0 ≤ v_lates.toInt ∧ v_lates.toInt ≤ 100 from by omega) rfl (hP.sub [0, 1, 2, 3] rfl) (hD.sub [0, 1, 2, 3] (by decide +kernel) rfl) hS dX12_late_117
              · have tc_26 := t_nlt c_26
                refine lv_iconst (v := (-1)) hx hb dX12_late_91 (by decide) ?_
                exact hret (-1) (v_lates, f_lateDay, f_lateOffice, f_lateBy) _ _ _ _ (show 0 ≤ v_lates.toInt ∧ v_lates.toInt ≤ 100 from by omega) rfl (hP.sub [0, 1, 2, 3] rfl) (hD.sub [0, 1, 2, 3] (by decide +kernel) rfl) hS dX12_late_92
        · have tc_9 := t_eq c_9
          refine lv_sipush (v := 1410) hx hb dX12_late_51 (by decide) ?_
          refine lv_goto (tgt := 65) hx hb dX12_late_54 (by decide) ?_
          refine lv_istore (lv' := [(5, .int 1410), (4, .int x_8), (0, .ref h), (1, .int d), (2, .int k), (3, .int mm)]) hx hb dX12_late_65 hl (by decide) rfl (fun ls hl => ?_)
          refine lv_iload hx hb dX12_late_67 (lv_at hl 1 rfl) ?_
          refine lv_iload hx hb dX12_late_69 (lv_at hl 0 rfl) ?_
          refine lv_icmp_ge (tgt := 91) hx hb dX12_late_71 (by decide) (fun c_37 => ?_) (fun c_37 => ?_)
          · have tc_37 := t_le c_37
            refine lv_iconst (v := (-1)) hx hb dX12_late_91 (by decide) ?_
            exact hret (-1) (v_lates, f_lateDay, f_lateOffice, f_lateBy) _ _ _ _ (show 0 ≤ v_lates.toInt ∧ v_lates.toInt ≤ 100 from by omega) rfl (hP.sub [0, 1, 2, 3] rfl) (hD.sub [0, 1, 2, 3] (by decide +kernel) rfl) hS dX12_late_92
          · have tc_37 := t_nle c_37
            refine lv_iload_n hx hb dX12_late_74 rfl (lv_at hl 4 rfl) ?_
            refine lv_if_le (tgt := 93) hx hb dX12_late_75 (by decide) (fun c_38 => ?_) (fun c_38 => ?_)
            · have tc_38 := t_le c_38
              refine lv_aload_n hx hb dX12_late_93 rfl (lv_at hl 2 rfl) ?_
              refine lv_iload_n hx hb dX12_late_94 rfl (lv_at hl 3 rfl) ?_
              refine lv_iload_n hx hb dX12_late_95 rfl (lv_at hl 4 rfl) ?_
              have hPc := hP.sub (ws' := [(h, .inr (11, [.int v_today, .int v_monks, .int v_aways, .int v_feasts, .int v_gifts, .int v_leaves, .int v_lates, .int v_store, .int v_allCandles, .ref a_isPriest, .ref a_bars, .ref a_joined, .ref a_turns, .ref a_awayMonk, .ref a_awayFrom, .ref a_awayTo, .ref a_feastDay, .ref a_rank, .ref a_isWeekly, .ref a_isDouble, .ref a_giftDay, .ref a_giftFrom, .ref a_owed, .ref a_said, .ref a_spared, .ref a_leaveGift, .ref a_leaveFrom, .ref a_leaveTo, .ref a_lateDay, .ref a_lateOffice, .ref a_lateBy, .ref a_guests, .ref a_who, .ref a_used, .ref a_lacks, .ref a_candles, .ref a_masses, .ref a_owing, .ref a_heldOn, .ref a_waits, .ref a_tape, .ref a_text, .int v_taped, .int v_size, .int v_at, .int v_fault, .int v_rules, .ref a_statements, .ref a_taken, .ref a_sort, .ref a_first, .ref a_second, .int v_wordEnd, .int v_number])), (a_lateDay, .inl (cI, 100, .inl f_lateDay)), (a_lateOffice, .inl (cI, 100, .inl f_lateOffice))]) [0, 1, 2] rfl
              refine roV (As := [.int d, .int k]) (rest := []) S (n_lateRow  (by omega) (by omega)) (cwV 2 hts gX12_late_X12_lateRow rfl rfl rfl ⟨rfl, hd_X12_lateRow⟩ ⟨Nat.le_of_ble_eq_true rfl, Nat.le_of_ble_eq_true rfl⟩) hK hPc (va_recv hK.1 hPc (ci := 11) (q0 := 0) rfl rfl) rfl hl.1 rfl (Nat.le_of_ble_eq_true rfl) dX12_late_96 ⟨Nat.le_of_ble_eq_true rfl, Nat.le_of_ble_eq_true rfl⟩ (fun r_39 hw_39 => ?_)
              have hw_39 : r_39.toInt = -1 ∨ (0 ≤ r_39.toInt ∧ r_39.toInt < v_lates.toInt) := hw_39
              refine lv_istore (lv' := [(6, .int r_39), (5, .int 1410), (4, .int x_8), (0, .ref h), (1, .int d), (2, .int k), (3, .int mm)]) hx hb dX12_late_99 hl (by decide) rfl (fun ls hl => ?_)
              refine lv_iload hx hb dX12_late_101 (lv_at hl 0 rfl) ?_
              refine lv_iconst (v := (-1)) hx hb dX12_late_103 (by decide) ?_
              refine lv_icmp_ne (tgt := 134) hx hb dX12_late_104 (by decide) (fun c_40 => ?_) (fun c_40 => ?_)
              · have tc_40 := t_neq c_40
                refine lv_aload_n hx hb dX12_late_134 rfl (lv_at hl 3 rfl) ?_
                refine va_get (D := D) (ci := 11) (v := .ref a_lateDay) (C := RX12) (T := TX12) (N := 54) hx hb hts in_N_late_X12 hown hK.1 hP 0 rfl rfl 28 (by decide) lk1 (fun _ h9 => h9) rfl dX12_late_135 ?_
                refine lv_iload hx hb dX12_late_138 (lv_at hl 0 rfl) ?_
                refine lv_iload_n hx hb dX12_late_140 rfl (lv_at hl 4 rfl) ?_
                refine va_iast hx hb hK.1 hP hD hS 1 0 rfl rfl (t_in (by omega) (by omega)) dX12_late_141 (fun H locs hP hD hS => ?_)
                obtain ⟨g_41, eg_41⟩ : ∃ z : Nat → Int32, z = upd f_lateDay ((r_39 : Int32).toNatClampNeg) d := ⟨_, rfl⟩
                rw [← eg_41] at hP hD
                have hP : va_P D vwCl [(h, .inr (11, [.int v_today, .int v_monks, .int v_aways, .int v_feasts, .int v_gifts, .int v_leaves, .int v_lates, .int v_store, .int v_allCandles, .ref a_isPriest, .ref a_bars, .ref a_joined, .ref a_turns, .ref a_awayMonk, .ref a_awayFrom, .ref a_awayTo, .ref a_feastDay, .ref a_rank, .ref a_isWeekly, .ref a_isDouble, .ref a_giftDay, .ref a_giftFrom, .ref a_owed, .ref a_said, .ref a_spared, .ref a_leaveGift, .ref a_leaveFrom, .ref a_leaveTo, .ref a_lateDay, .ref a_lateOffice, .ref a_lateBy, .ref a_guests, .ref a_who, .ref a_used, .ref a_lacks, .ref a_candles, .ref a_masses, .ref a_owing, .ref a_heldOn, .ref a_waits, .ref a_tape, .ref a_text, .int v_taped, .int v_size, .int v_at, .int v_fault, .int v_rules, .ref a_statements, .ref a_taken, .ref a_sort, .ref a_first, .ref a_second, .int v_wordEnd, .int v_number])), (a_lateDay, .inl (cI, 100, .inl g_41)), (a_lateOffice, .inl (cI, 100, .inl f_lateOffice)), (a_lateBy, .inl (cI, 100, .inl f_lateBy))] H := hP
                have hD := asD hP hD
                refine lv_aload_n hx hb dX12_late_142 rfl (lv_at hl 3 rfl) ?_
                refine va_get (D := D) (ci := 11) (v := .ref a_lateOffice) (C := RX12) (T := TX12) (N := 54) hx hb hts in_N_late_X12 hown hK.1 hP 0 rfl rfl 29 (by decide) lk2 (fun _ h9 => h9) rfl dX12_late_143 ?_
                refine lv_iload hx hb dX12_late_146 (lv_at hl 0 rfl) ?_
                refine lv_iload_n hx hb dX12_late_148 rfl (lv_at hl 5 rfl) ?_
                refine va_iast hx hb hK.1 hP hD hS 2 0 rfl rfl (t_in (by omega) (by omega)) dX12_late_149 (fun H locs hP hD hS => ?_)
                obtain ⟨g_42, eg_42⟩ : ∃ z : Nat → Int32, z = upd f_lateOffice ((r_39 : Int32).toNatClampNeg) k := ⟨_, rfl⟩
                rw [← eg_42] at hP hD
                have hP : va_P D vwCl [(h, .inr (11, [.int v_today, .int v_monks, .int v_aways, .int v_feasts, .int v_gifts, .int v_leaves, .int v_lates, .int v_store, .int v_allCandles, .ref a_isPriest, .ref a_bars, .ref a_joined, .ref a_turns, .ref a_awayMonk, .ref a_awayFrom, .ref a_awayTo, .ref a_feastDay, .ref a_rank, .ref a_isWeekly, .ref a_isDouble, .ref a_giftDay, .ref a_giftFrom, .ref a_owed, .ref a_said, .ref a_spared, .ref a_leaveGift, .ref a_leaveFrom, .ref a_leaveTo, .ref a_lateDay, .ref a_lateOffice, .ref a_lateBy, .ref a_guests, .ref a_who, .ref a_used, .ref a_lacks, .ref a_candles, .ref a_masses, .ref a_owing, .ref a_heldOn, .ref a_waits, .ref a_tape, .ref a_text, .int v_taped, .int v_size, .int v_at, .int v_fault, .int v_rules, .ref a_statements, .ref a_taken, .ref a_sort, .ref a_first, .ref a_second, .int v_wordEnd, .int v_number])), (a_lateDay, .inl (cI, 100, .inl g_41)), (a_lateOffice, .inl (cI, 100, .inl g_42)), (a_lateBy, .inl (cI, 100, .inl f_lateBy))] H := hP
                have hD := asD hP hD
                refine lv_aload_n hx hb dX12_late_150 rfl (lv_at hl 3 rfl) ?_
                refine va_get (D := D) (ci := 11) (v := .ref a_lateBy) (C := RX12) (T := TX12) (N := 54) hx hb hts in_N_late_X12 hown hK.1 hP 0 rfl rfl 30 (by decide) lk3 (fun _ h9 => h9) rfl dX12_late_151 ?_
                refine lv_iload hx hb dX12_late_154 (lv_at hl 0 rfl) ?_
                refine lv_iload_n hx hb dX12_late_156 rfl (lv_at hl 6 rfl) ?_
                refine va_iast hx hb hK.1 hP hD hS 3 0 rfl rfl (t_in (by omega) (by omega)) dX12_late_157 (fun H locs hP hD hS => ?_)
                obtain ⟨g_43, eg_43⟩ : ∃ z : Nat → Int32, z = upd f_lateBy ((r_39 : Int32).toNatClampNeg) mm := ⟨_, rfl⟩
                rw [← eg_43] at hP hD
                have hP : va_P D vwCl [(h, .inr (11, [.int v_today, .int v_monks, .int v_aways, .int v_feasts, .int v_gifts, .int v_leaves, .int v_lates, .int v_store, .int v_allCandles, .ref a_isPriest, .ref a_bars, .ref a_joined, .ref a_turns, .ref a_awayMonk, .ref a_awayFrom, .ref a_awayTo, .ref a_feastDay, .ref a_rank, .ref a_isWeekly, .ref a_isDouble, .ref a_giftDay, .ref a_giftFrom, .ref a_owed, .ref a_said, .ref a_spared, .ref a_leaveGift, .ref a_leaveFrom, .ref a_leaveTo, .ref a_lateDay, .ref a_lateOffice, .ref a_lateBy, .ref a_guests, .ref a_who, .ref a_used, .ref a_lacks, .ref a_candles, .ref a_masses, .ref a_owing, .ref a_heldOn, .ref a_waits, .ref a_tape, .ref a_text, .int v_taped, .int v_size, .int v_at, .int v_fault, .int v_rules, .ref a_statements, .ref a_taken, .ref a_sort, .ref a_first, .ref a_second, .int v_wordEnd, .int v_number])), (a_lateDay, .inl (cI, 100, .inl g_41)), (a_lateOffice, .inl (cI, 100, .inl g_42)), (a_lateBy, .inl (cI, 100, .inl g_43))] H := hP
                have hD := asD hP hD
                refine lv_iload hx hb dX12_late_158 (lv_at hl 2 rfl) ?_
                exact hret x_8 (v_lates, g_41, g_42, g_43) _ _ _ _ (show 0 ≤ v_lates.toInt ∧ v_lates.toInt ≤ 100 from by omega) rfl (hP.sub [0, 1, 2, 3] rfl) (hD.sub [0, 1, 2, 3] (by decide +kernel) rfl) hS dX12_late_160
              · have tc_40 := t_eq c_40
                refine lv_aload_n hx hb dX12_late_107 rfl (lv_at hl 3 rfl) ?_
                refine va_get (D := D) (ci := 11) (v := .int v_lates) (C := RX12) (T := TX12) (N := 54) hx hb hts in_N_late_X12 hown hK.1 hP 0 rfl rfl 6 (by decide) lk4 (fun _ h9 => h9) rfl dX12_late_108 ?_
                refine lv_bipush (v := 100) hx hb dX12_late_111 (by decide) ?_
                refine lv_icmp_ne (tgt := 118) hx hb dX12_late_113 (by decide) (fun c_44 => ?_) (fun c_44 => ?_)
                · have tc_44 := t_neq c_44
                  refine lv_aload_n hx hb dX12_late_118 rfl (lv_at hl 3 rfl) ?_
                  refine va_get (D := D) (ci := 11) (v := .int v_lates) (C := RX12) (T := TX12) (N := 54) hx hb hts in_N_late_X12 hown hK.1 hP 0 rfl rfl 6 (by decide) lk4 (fun _ h9 => h9) rfl dX12_late_119 ?_
                  refine lv_istore (lv' := [(6, .int v_lates), (5, .int 1410), (4, .int x_8), (0, .ref h), (1, .int d), (2, .int k), (3, .int mm)]) hx hb dX12_late_122 hl (by decide) rfl (fun ls hl => ?_)
                  refine lv_aload_n hx hb dX12_late_124 rfl (lv_at hl 3 rfl) ?_
                  refine lv_dup hx hb dX12_late_125 rfl ?_
                  refine va_get (D := D) (ci := 11) (v := .int v_lates) (C := RX12) (T := TX12) (N := 54) hx hb hts in_N_late_X12 hown hK.1 hP 0 rfl rfl 6 (by decide) lk4 (fun _ h9 => h9) rfl dX12_late_126 ?_
                  refine lv_iconst (v := 1) hx hb dX12_late_129 (by decide) ?_
                  refine lv_iadd hx hb dX12_late_130 ?_
                  refine lv_topi (fun x_45 ex_45 => ?_)
                  first | have tx_45 := t_add ex_45 (by omega) (by omega) | skip
                  refine va_put (D := D) (ci := 11) (v := .int x_45) (ty := .int) (C := RX12) (T := TX12) (N := 54) hx hb hts in_N_late_X12 tyX12 tyX12_ok nmX12 hown hK.1 hP hD hS 0 rfl rfl 6 (by decide) lk4 (fun _ h9 => h9) rfl (by decide +kernel) rfl rfl (Nat.le_of_ble_eq_true rfl) dX12_late_131 (fun H locs hP hD hS => ?_)
                  have hP : va_P D vwCl [(h, .inr (11, [.int v_today, .int v_monks, .int v_aways, .int v_feasts, .int v_gifts, .int v_leaves, .int x_45, .int v_store, .int v_allCandles, .ref a_isPriest, .ref a_bars, .ref a_joined, .ref a_turns, .ref a_awayMonk, .ref a_awayFrom, .ref a_awayTo, .ref a_feastDay, .ref a_rank, .ref a_isWeekly, .ref a_isDouble, .ref a_giftDay, .ref a_giftFrom, .ref a_owed, .ref a_said, .ref a_spared, .ref a_leaveGift, .ref a_leaveFrom, .ref a_leaveTo, .ref a_lateDay, .ref a_lateOffice, .ref a_lateBy, .ref a_guests, .ref a_who, .ref a_used, .ref a_lacks, .ref a_candles, .ref a_masses, .ref a_owing, .ref a_heldOn, .ref a_waits, .ref a_tape, .ref a_text, .int v_taped, .int v_size, .int v_at, .int v_fault, .int v_rules, .ref a_statements, .ref a_taken, .ref a_sort, .ref a_first, .ref a_second, .int v_wordEnd, .int v_number])), (a_lateDay, .inl (cI, 100, .inl f_lateDay)), (a_lateOffice, .inl (cI, 100, .inl f_lateOffice)), (a_lateBy, .inl (cI, 100, .inl f_lateBy))] H := hP
                  have hD := asD hP hD
                  refine lv_aload_n hx hb dX12_late_134 rfl (lv_at hl 3 rfl) ?_
                  refine va_get (D := D) (ci := 11) (v := .ref a_lateDay) (C := RX12) (T := TX12) (N := 54) hx hb hts in_N_late_X12 hown hK.1 hP 0 rfl rfl 28 (by decide) lk1 (fun _ h9 => h9) rfl dX12_late_135 ?_
                  refine lv_iload hx hb dX12_late_138 (lv_at hl 0 rfl) ?_
                  refine lv_iload_n hx hb dX12_late_140 rfl (lv_at hl 4 rfl) ?_
                  refine va_iast hx hb hK.1 hP hD hS 1 0 rfl rfl (t_in (by omega) (by omega)) dX12_late_141 (fun H locs hP hD hS => ?_)
                  obtain ⟨g_46, eg_46⟩ : ∃ z : Nat → Int32, z = upd f_lateDay ((v_lates : Int32).toNatClampNeg) d := ⟨_, rfl⟩
                  rw [← eg_46] at hP hD
                  have hP : va_P D vwCl [(h, .inr (11, [.int v_today, .int v_monks, .int v_aways, .int v_feasts, .int v_gifts, .int v_leaves, .int x_45, .int v_store, .int v_allCandles, .ref a_isPriest, .ref a_bars, .ref a_joined, .ref a_turns, .ref a_awayMonk, .ref a_awayFrom, .ref a_awayTo, .ref a_feastDay, .ref a_rank, .ref a_isWeekly, .ref a_isDouble, .ref a_giftDay, .ref a_giftFrom, .ref a_owed, .ref a_said, .ref a_spared, .ref a_leaveGift, .ref a_leaveFrom, .ref a_leaveTo, .ref a_lateDay, .ref a_lateOffice, .ref a_lateBy, .ref a_guests, .ref a_who, .ref a_used, .ref a_lacks, .ref a_candles, .ref a_masses, .ref a_owing, .ref a_heldOn, .ref a_waits, .ref a_tape, .ref a_text, .int v_taped, .int v_size, .int v_at, .int v_fault, .int v_rules, .ref a_statements, .ref a_taken, .ref a_sort, .ref a_first, .ref a_second, .int v_wordEnd, .int v_number])), (a_lateDay, .inl (cI, 100, .inl g_46)), (a_lateOffice, .inl (cI, 100, .inl f_lateOffice)), (a_lateBy, .inl (cI, 100, .inl f_lateBy))] H := hP
                  have hD := asD hP hD
                  refine lv_aload_n hx hb dX12_late_142 rfl (lv_at hl 3 rfl) ?_
                  refine va_get (D := D) (ci := 11) (v := .ref a_lateOffice) (C := RX12) (T := TX12) (N := 54) hx hb hts in_N_late_X12 hown hK.1 hP 0 rfl rfl 29 (by decide) lk2 (fun _ h9 => h9) rfl dX12_late_143 ?_
                  refine lv_iload hx hb dX12_late_146 (lv_at hl 0 rfl) ?_
                  refine lv_iload_n hx hb dX12_late_148 rfl (lv_at hl 5 rfl) ?_
                  refine va_iast hx hb hK.1 hP hD hS 2 0 rfl rfl (t_in (by omega) (by omega)) dX12_late_149 (fun H locs hP hD hS => ?_)
                  obtain ⟨g_47, eg_47⟩ : ∃ z : Nat → Int32, z = upd f_lateOffice ((v_lates : Int32).toNatClampNeg) k := ⟨_, rfl⟩
                  rw [← eg_47] at hP hD
                  have hP : va_P D vwCl [(h, .inr (11, [.int v_today, .int v_monks, .int v_aways, .int v_feasts, .int v_gifts, .int v_leaves, .int x_45, .int v_store, .int v_allCandles, .ref a_isPriest, .ref a_bars, .ref a_joined, .ref a_turns, .ref a_awayMonk, .ref a_awayFrom, .ref a_awayTo, .ref a_feastDay, .ref a_rank, .ref a_isWeekly, .ref a_isDouble, .ref a_giftDay, .ref a_giftFrom, .ref a_owed, .ref a_said, .ref a_spared, .ref a_leaveGift, .ref a_leaveFrom, .ref a_leaveTo, .ref a_lateDay, .ref a_lateOffice, .ref a_lateBy, .ref a_guests, .ref a_who, .ref a_used, .ref a_lacks, .ref a_candles, .ref a_masses, .ref a_owing, .ref a_heldOn, .ref a_waits, .ref a_tape, .ref a_text, .int v_taped, .int v_size, .int v_at, .int v_fault, .int v_rules, .ref a_statements, .ref a_taken, .ref a_sort, .ref a_first, .ref a_second, .int v_wordEnd, .int v_number])), (a_lateDay, .inl (cI, 100, .inl g_46)), (a_lateOffice, .inl (cI, 100, .inl g_47)), (a_lateBy, .inl (cI, 100, .inl f_lateBy))] H := hP
                  have hD := asD hP hD
                  refine lv_aload_n hx hb dX12_late_150 rfl (lv_at hl 3 rfl) ?_
                  refine va_get (D := D) (ci := 11) (v := .ref a_lateBy) (C := RX12) (T := TX12) (N := 54) hx hb hts in_N_late_X12 hown hK.1 hP 0 rfl rfl 30 (by decide) lk3 (fun _ h9 => h9) rfl dX12_late_151 ?_
                  refine lv_iload hx hb dX12_late_154 (lv_at hl 0 rfl) ?_
                  refine lv_iload_n hx hb dX12_late_156 rfl (lv_at hl 6 rfl) ?_
                  refine va_iast hx hb hK.1 hP hD hS 3 0 rfl rfl (t_in (by omega) (by omega)) dX12_late_157 (fun H locs hP hD hS => ?_)
                  obtain ⟨g_48, eg_48⟩ : ∃ z : Nat → Int32, z = upd f_lateBy ((v_lates : Int32).toNatClampNeg) mm := ⟨_, rfl⟩
                  rw [← eg_48] at hP hD
                  have hP : va_P D vwCl [(h, .inr (11, [.int v_today, .int v_monks, .int v_aways, .int v_feasts, .int v_gifts, .int v_leaves, .int x_45, .int v_store, .int v_allCandles, .ref a_isPriest, .ref a_bars, .ref a_joined, .ref a_turns, .ref a_awayMonk, .ref a_awayFrom, .ref a_awayTo, .ref a_feastDay, .ref a_rank, .ref a_isWeekly, .ref a_isDouble, .ref a_giftDay, .ref a_giftFrom, .ref a_owed, .ref a_said, .ref a_spared, .ref a_leaveGift, .ref a_leaveFrom, .ref a_leaveTo, .ref a_lateDay, .ref a_lateOffice, .ref a_lateBy, .ref a_guests, .ref a_who, .ref a_used, .ref a_lacks, .ref a_candles, .ref a_masses, .ref a_owing, .ref a_heldOn, .ref a_waits, .ref a_tape, .ref a_text, .int v_taped, .int v_size, .int v_at, .int v_fault, .int v_rules, .ref a_statements, .ref a_taken, .ref a_sort, .ref a_first, .ref a_second, .int v_wordEnd, .int v_number])), (a_lateDay, .inl (cI, 100, .inl g_46)), (a_lateOffice, .inl (cI, 100, .inl g_47)), (a_lateBy, .inl (cI, 100, .inl g_48))] H := hP
                  have hD := asD hP hD
                  refine lv_iload hx hb dX12_late_158 (lv_at hl 2 rfl) ?_
                  exact hret x_8 (x_45, g_46, g_47, g_48) _ _ _ _ (show 0 ≤ x_45.toInt ∧ x_45.toInt ≤ 100 from by omega) rfl (hP.sub [0, 1, 2, 3] rfl) (hD.sub [0, 1, 2, 3] (by decide +kernel) rfl) hS dX12_late_160
                · have tc_44 := t_eq c_44
                  refine lv_iconst (v := (-1)) hx hb dX12_late_116 (by decide) ?_
                  exact hret (-1) (v_lates, f_lateDay, f_lateOffice, f_lateBy) _ _ _ _ (show 0 ≤ v_lates.toInt ∧ v_lates.toInt ≤ 100 from by omega) rfl (hP.sub [0, 1, 2, 3] rfl) (hD.sub [0, 1, 2, 3] (by decide +kernel) rfl) hS dX12_late_117
            · have tc_38 := t_nle c_38
              refine lv_iload hx hb dX12_late_78 (lv_at hl 1 rfl) ?_
              refine lv_aload_n hx hb dX12_late_80 rfl (lv_at hl 2 rfl) ?_
              refine lv_iload_n hx hb dX12_late_81 rfl (lv_at hl 3 rfl) ?_
              refine lv_iload_n hx hb dX12_late_82 rfl (lv_at hl 4 rfl) ?_
              refine lv_iconst (v := 1) hx hb dX12_late_83 (by decide) ?_
              refine lv_isub hx hb dX12_late_84 ?_
              refine lv_topi (fun x_49 ex_49 => ?_)
              have hPc := hP.sub (ws' := [(h, .inr (11, [.int v_today, .int v_monks, .int v_aways, .int v_feasts, .int v_gifts, .int v_leaves, .int v_lates, .int v_store, .int v_allCandles, .ref a_isPriest, .ref a_bars, .ref a_joined, .ref a_turns, .ref a_awayMonk, .ref a_awayFrom, .ref a_awayTo, .ref a_feastDay, .ref a_rank, .ref a_isWeekly, .ref a_isDouble, .ref a_giftDay, .ref a_giftFrom, .ref a_owed, .ref a_said, .ref a_spared, .ref a_leaveGift, .ref a_leaveFrom, .ref a_leaveTo, .ref a_lateDay, .ref a_lateOffice, .ref a_lateBy, .ref a_guests, .ref a_who, .ref a_used, .ref a_lacks, .ref a_candles, .ref a_masses, .ref a_owing, .ref a_heldOn, .ref a_waits, .ref a_tape, .ref a_text, .int v_taped, .int v_size, .int v_at, .int v_fault, .int v_rules, .ref a_statements, .ref a_taken, .ref a_sort, .ref a_first, .ref a_second, .int v_wordEnd, .int v_number])), (a_lateDay, .inl (cI, 100, .inl f_lateDay)), (a_lateOffice, .inl (cI, 100, .inl f_lateOffice)), (a_lateBy, .inl (cI, 100, .inl f_lateBy))]) [0, 1, 2, 3] rfl
              refine roV (As := [.int d, .int x_49]) (rest := [.int x_8]) S (n_begins  (by omega) (by omega)) (cwV 2 hts gX12_late_X12_begins rfl rfl rfl ⟨rfl, hd_X12_begins⟩ ⟨Nat.le_of_ble_eq_true rfl, Nat.le_of_ble_eq_true rfl⟩) hK hPc (va_recv hK.1 hPc (ci := 11) (q0 := 0) rfl rfl) rfl hl.1 rfl (Nat.le_of_ble_eq_true rfl) dX12_late_85 ⟨Nat.le_of_ble_eq_true rfl, Nat.le_of_ble_eq_true rfl⟩ (fun r_50 hw_50 => ?_)
              have hw_50 : True := hw_50
              refine lv_icmp_gt (tgt := 93) hx hb dX12_late_88 (by decide) (fun c_51 => ?_) (fun c_51 => ?_)
              · have tc_51 := t_lt c_51
                refine lv_aload_n hx hb dX12_late_93 rfl (lv_at hl 2 rfl) ?_
                refine lv_iload_n hx hb dX12_late_94 rfl (lv_at hl 3 rfl) ?_
                refine lv_iload_n hx hb dX12_late_95 rfl (lv_at hl 4 rfl) ?_
                have hPc := hP.sub (ws' := [(h, .inr (11, [.int v_today, .int v_monks, .int v_aways, .int v_feasts, .int v_gifts, .int v_leaves, .int v_lates, .int v_store, .int v_allCandles, .ref a_isPriest, .ref a_bars, .ref a_joined, .ref a_turns, .ref a_awayMonk, .ref a_awayFrom, .ref a_awayTo, .ref a_feastDay, .ref a_rank, .ref a_isWeekly, .ref a_isDouble, .ref a_giftDay, .ref a_giftFrom, .ref a_owed, .ref a_said, .ref a_spared, .ref a_leaveGift, .ref a_leaveFrom, .ref a_leaveTo, .ref a_lateDay, .ref a_lateOffice, .ref a_lateBy, .ref a_guests, .ref a_who, .ref a_used, .ref a_lacks, .ref a_candles, .ref a_masses, .ref a_owing, .ref a_heldOn, .ref a_waits, .ref a_tape, .ref a_text, .int v_taped, .int v_size, .int v_at, .int v_fault, .int v_rules, .ref a_statements, .ref a_taken, .ref a_sort, .ref a_first, .ref a_second, .int v_wordEnd, .int v_number])), (a_lateDay, .inl (cI, 100, .inl f_lateDay)), (a_lateOffice, .inl (cI, 100, .inl f_lateOffice))]) [0, 1, 2] rfl
                refine roV (As := [.int d, .int k]) (rest := []) S (n_lateRow  (by omega) (by omega)) (cwV 2 hts gX12_late_X12_lateRow rfl rfl rfl ⟨rfl, hd_X12_lateRow⟩ ⟨Nat.le_of_ble_eq_true rfl, Nat.le_of_ble_eq_true rfl⟩) hK hPc (va_recv hK.1 hPc (ci := 11) (q0 := 0) rfl rfl) rfl hl.1 rfl (Nat.le_of_ble_eq_true rfl) dX12_late_96 ⟨Nat.le_of_ble_eq_true rfl, Nat.le_of_ble_eq_true rfl⟩ (fun r_52 hw_52 => ?_)
                have hw_52 : r_52.toInt = -1 ∨ (0 ≤ r_52.toInt ∧ r_52.toInt < v_lates.toInt) := hw_52
                refine lv_istore (lv' := [(6, .int r_52), (5, .int 1410), (4, .int x_8), (0, .ref h), (1, .int d), (2, .int k), (3, .int mm)]) hx hb dX12_late_99 hl (by decide) rfl (fun ls hl => ?_)
                refine lv_iload hx hb dX12_late_101 (lv_at hl 0 rfl) ?_
                refine lv_iconst (v := (-1)) hx hb dX12_late_103 (by decide) ?_
                refine lv_icmp_ne (tgt := 134) hx hb dX12_late_104 (by decide) (fun c_53 => ?_) (fun c_53 => ?_)
                · have tc_53 := t_neq c_53
                  refine lv_aload_n hx hb dX12_late_134 rfl (lv_at hl 3 rfl) ?_
                  refine va_get (D := D) (ci := 11) (v := .ref a_lateDay) (C := RX12) (T := TX12) (N := 54) hx hb hts in_N_late_X12 hown hK.1 hP 0 rfl rfl 28 (by decide) lk1 (fun _ h9 => h9) rfl dX12_late_135 ?_
                  refine lv_iload hx hb dX12_late_138 (lv_at hl 0 rfl) ?_
                  refine lv_iload_n hx hb dX12_late_140 rfl (lv_at hl 4 rfl) ?_
                  refine va_iast hx hb hK.1 hP hD hS 1 0 rfl rfl (t_in (by omega) (by omega)) dX12_late_141 (fun H locs hP hD hS => ?_)
                  obtain ⟨g_54, eg_54⟩ : ∃ z : Nat → Int32, z = upd f_lateDay ((r_52 : Int32).toNatClampNeg) d := ⟨_, rfl⟩
                  rw [← eg_54] at hP hD
                  have hP : va_P D vwCl [(h, .inr (11, [.int v_today, .int v_monks, .int v_aways, .int v_feasts, .int v_gifts, .int v_leaves, .int v_lates, .int v_store, .int v_allCandles, .ref a_isPriest, .ref a_bars, .ref a_joined, .ref a_turns, .ref a_awayMonk, .ref a_awayFrom, .ref a_awayTo, .ref a_feastDay, .ref a_rank, .ref a_isWeekly, .ref a_isDouble, .ref a_giftDay, .ref a_giftFrom, .ref a_owed, .ref a_said, .ref a_spared, .ref a_leaveGift, .ref a_leaveFrom, .ref a_leaveTo, .ref a_lateDay, .ref a_lateOffice, .ref a_lateBy, .ref a_guests, .ref a_who, .ref a_used, .ref a_lacks, .ref a_candles, .ref a_masses, .ref a_owing, .ref a_heldOn, .ref a_waits, .ref a_tape, .ref a_text, .int v_taped, .int v_size, .int v_at, .int v_fault, .int v_rules, .ref a_statements, .ref a_taken, .ref a_sort, .ref a_first, .ref a_second, .int v_wordEnd, .int v_number])), (a_lateDay, .inl (cI, 100, .inl g_54)), (a_lateOffice, .inl (cI, 100, .inl f_lateOffice)), (a_lateBy, .inl (cI, 100, .inl f_lateBy))] H := hP
                  have hD := asD hP hD
                  refine lv_aload_n hx hb dX12_late_142 rfl (lv_at hl 3 rfl) ?_
                  refine va_get (D := D) (ci := 11) (v := .ref a_lateOffice) (C := RX12) (T := TX12) (N := 54) hx hb hts in_N_late_X12 hown hK.1 hP 0 rfl rfl 29 (by decide) lk2 (fun _ h9 => h9) rfl dX12_late_143 ?_
                  refine lv_iload hx hb dX12_late_146 (lv_at hl 0 rfl) ?_
                  refine lv_iload_n hx hb dX12_late_148 rfl (lv_at hl 5 rfl) ?_
                  refine va_iast hx hb hK.1 hP hD hS 2 0 rfl rfl (t_in (by omega) (by omega)) dX12_late_149 (fun H locs hP hD hS => ?_)
                  obtain ⟨g_55, eg_55⟩ : ∃ z : Nat → Int32, z = upd f_lateOffice ((r_52 : Int32).toNatClampNeg) k := ⟨_, rfl⟩
                  rw [← eg_55] at hP hD
                  have hP : va_P D vwCl [(h, .inr (11, [.int v_today, .int v_monks, .int v_aways, .int v_feasts, .int v_gifts, .int v_leaves, .int v_lates, .int v_store, .int v_allCandles, .ref a_isPriest, .ref a_bars, .ref a_joined, .ref a_turns, .ref a_awayMonk, .ref a_awayFrom, .ref a_awayTo, .ref a_feastDay, .ref a_rank, .ref a_isWeekly, .ref a_isDouble, .ref a_giftDay, .ref a_giftFrom, .ref a_owed, .ref a_said, .ref a_spared, .ref a_leaveGift, .ref a_leaveFrom, .ref a_leaveTo, .ref a_lateDay, .ref a_lateOffice, .ref a_lateBy, .ref a_guests, .ref a_who, .ref a_used, .ref a_lacks, .ref a_candles, .ref a_masses, .ref a_owing, .ref a_heldOn, .ref a_waits, .ref a_tape, .ref a_text, .int v_taped, .int v_size, .int v_at, .int v_fault, .int v_rules, .ref a_statements, .ref a_taken, .ref a_sort, .ref a_first, .ref a_second, .int v_wordEnd, .int v_number])), (a_lateDay, .inl (cI, 100, .inl g_54)), (a_lateOffice, .inl (cI, 100, .inl g_55)), (a_lateBy, .inl (cI, 100, .inl f_lateBy))] H := hP
                  have hD := asD hP hD
                  refine lv_aload_n hx hb dX12_late_150 rfl (lv_at hl 3 rfl) ?_
                  refine va_get (D := D) (ci := 11) (v := .ref a_lateBy) (C := RX12) (T := TX12) (N := 54) hx hb hts in_N_late_X12 hown hK.1 hP 0 rfl rfl 30 (by decide) lk3 (fun _ h9 => h9) rfl dX12_late_151 ?_
                  refine lv_iload hx hb dX12_late_154 (lv_at hl 0 rfl) ?_
                  refine lv_iload_n hx hb dX12_late_156 rfl (lv_at hl 6 rfl) ?_
                  refine va_iast hx hb hK.1 hP hD hS 3 0 rfl rfl (t_in (by omega) (by omega)) dX12_late_157 (fun H locs hP hD hS => ?_)
                  obtain ⟨g_56, eg_56⟩ : ∃ z : Nat → Int32, z = upd f_lateBy ((r_52 : Int32).toNatClampNeg) mm := ⟨_, rfl⟩
                  rw [← eg_56] at hP hD
                  have hP : va_P D vwCl [(h, .inr (11, [.int v_today, .int v_monks, .int v_aways, .int v_feasts, .int v_gifts, .int v_leaves, .int v_lates, .int v_store, .int v_allCandles, .ref a_isPriest, .ref a_bars, .ref a_joined, .ref a_turns, .ref a_awayMonk, .ref a_awayFrom, .ref a_awayTo, .ref a_feastDay, .ref a_rank, .ref a_isWeekly, .ref a_isDouble, .ref a_giftDay, .ref a_giftFrom, .ref a_owed, .ref a_said, .ref a_spared, .ref a_leaveGift, .ref a_leaveFrom, .ref a_leaveTo, .ref a_lateDay, .ref a_lateOffice, .ref a_lateBy, .ref a_guests, .ref a_who, .ref a_used, .ref a_lacks, .ref a_candles, .ref a_masses, .ref a_owing, .ref a_heldOn, .ref a_waits, .ref a_tape, .ref a_text, .int v_taped, .int v_size, .int v_at, .int v_fault, .int v_rules, .ref a_statements, .ref a_taken, .ref a_sort, .ref a_first, .ref a_second, .int v_wordEnd, .int v_number])), (a_lateDay, .inl (cI, 100, .inl g_54)), (a_lateOffice, .inl (cI, 100, .inl g_55)), (a_lateBy, .inl (cI, 100, .inl g_56))] H := hP
                  have hD := asD hP hD
                  refine lv_iload hx hb dX12_late_158 (lv_at hl 2 rfl) ?_
                  exact hret x_8 (v_lates, g_54, g_55, g_56) _ _ _ _ (show 0 ≤ v_lates.toInt ∧ v_lates.toInt ≤ 100 from by omega) rfl (hP.sub [0, 1, 2, 3] rfl) (hD.sub [0, 1, 2, 3] (by decide +kernel) rfl) hS dX12_late_160
                · have tc_53 := t_eq c_53
                  refine lv_aload_n hx hb dX12_late_107 rfl (lv_at hl 3 rfl) ?_
                  refine va_get (D := D) (ci := 11) (v := .int v_lates) (C := RX12) (T := TX12) (N := 54) hx hb hts in_N_late_X12 hown hK.1 hP 0 rfl rfl 6 (by decide) lk4 (fun _ h9 => h9) rfl dX12_late_108 ?_
                  refine lv_bipush (v := 100) hx hb dX12_late_111 (by decide) ?_
                  refine lv_icmp_ne (tgt := 118) hx hb dX12_late_113 (by decide) (fun c_57 => ?_) (fun c_57 => ?_)
                  · have tc_57 := t_neq c_57
                    refine lv_aload_n hx hb dX12_late_118 rfl (lv_at hl 3 rfl) ?_
                    refine va_get (D := D) (ci := 11) (v := .int v_lates) (C := RX12) (T := TX12) (N := 54) hx hb hts in_N_late_X12 hown hK.1 hP 0 rfl rfl 6 (by decide) lk4 (fun _ h9 => h9) rfl dX12_late_119 ?_
                    refine lv_istore (lv' := [(6, .int v_lates), (5, .int 1410), (4, .int x_8), (0, .ref h), (1, .int d), (2, .int k), (3, .int mm)]) hx hb dX12_late_122 hl (by decide) rfl (fun ls hl => ?_)
                    refine lv_aload_n hx hb dX12_late_124 rfl (lv_at hl 3 rfl) ?_
                    refine lv_dup hx hb dX12_late_125 rfl ?_
                    refine va_get (D := D) (ci := 11) (v := .int v_lates) (C := RX12) (T := TX12) (N := 54) hx hb hts in_N_late_X12 hown hK.1 hP 0 rfl rfl 6 (by decide) lk4 (fun _ h9 => h9) rfl dX12_late_126 ?_
                    refine lv_iconst (v := 1) hx hb dX12_late_129 (by decide) ?_
                    refine lv_iadd hx hb dX12_late_130 ?_
                    refine lv_topi (fun x_58 ex_58 => ?_)
                    first | have tx_58 := t_add ex_58 (by omega) (by omega) | skip
                    refine va_put (D := D) (ci := 11) (v := .int x_58) (ty := .int) (C := RX12) (T := TX12) (N := 54) hx hb hts in_N_late_X12 tyX12 tyX12_ok nmX12 hown hK.1 hP hD hS 0 rfl rfl 6 (by decide) lk4 (fun _ h9 => h9) rfl (by decide +kernel) rfl rfl (Nat.le_of_ble_eq_true rfl) dX12_late_131 (fun H locs hP hD hS => ?_)
                    have hP : va_P D vwCl [(h, .inr (11, [.int v_today, .int v_monks, .int v_aways, .int v_feasts, .int v_gifts, .int v_leaves, .int x_58, .int v_store, .int v_allCandles, .ref a_isPriest, .ref a_bars, .ref a_joined, .ref a_turns, .ref a_awayMonk, .ref a_awayFrom, .ref a_awayTo, .ref a_feastDay, .ref a_rank, .ref a_isWeekly, .ref a_isDouble, .ref a_giftDay, .ref a_giftFrom, .ref a_owed, .ref a_said, .ref a_spared, .ref a_leaveGift, .ref a_leaveFrom, .ref a_leaveTo, .ref a_lateDay, .ref a_lateOffice, .ref a_lateBy, .ref a_guests, .ref a_who, .ref a_used, .ref a_lacks, .ref a_candles, .ref a_masses, .ref a_owing, .ref a_heldOn, .ref a_waits, .ref a_tape, .ref a_text, .int v_taped, .int v_size, .int v_at, .int v_fault, .int v_rules, .ref a_statements, .ref a_taken, .ref a_sort, .ref a_first, .ref a_second, .int v_wordEnd, .int v_number])), (a_lateDay, .inl (cI, 100, .inl f_lateDay)), (a_lateOffice, .inl (cI, 100, .inl f_lateOffice)), (a_lateBy, .inl (cI, 100, .inl f_lateBy))] H := hP
                    have hD := asD hP hD
                    refine lv_aload_n hx hb dX12_late_134 rfl (lv_at hl 3 rfl) ?_
                    refine va_get (D := D) (ci := 11) (v := .ref a_lateDay) (C := RX12) (T := TX12) (N := 54) hx hb hts in_N_late_X12 hown hK.1 hP 0 rfl rfl 28 (by decide) lk1 (fun _ h9 => h9) rfl dX12_late_135 ?_
                    refine lv_iload hx hb dX12_late_138 (lv_at hl 0 rfl) ?_
                    refine lv_iload_n hx hb dX12_late_140 rfl (lv_at hl 4 rfl) ?_
                    refine va_iast hx hb hK.1 hP hD hS 1 0 rfl rfl (t_in (by omega) (by omega)) dX12_late_141 (fun H locs hP hD hS => ?_)
                    obtain ⟨g_59, eg_59⟩ : ∃ z : Nat → Int32, z = upd f_lateDay ((v_lates : Int32).toNatClampNeg) d := ⟨_, rfl⟩
                    rw [← eg_59] at hP hD
                    have hP : va_P D vwCl [(h, .inr (11, [.int v_today, .int v_monks, .int v_aways, .int v_feasts, .int v_gifts, .int v_leaves, .int x_58, .int v_store, .int v_allCandles, .ref a_isPriest, .ref a_bars, .ref a_joined, .ref a_turns, .ref a_awayMonk, .ref a_awayFrom, .ref a_awayTo, .ref a_feastDay, .ref a_rank, .ref a_isWeekly, .ref a_isDouble, .ref a_giftDay, .ref a_giftFrom, .ref a_owed, .ref a_said, .ref a_spared, .ref a_leaveGift, .ref a_leaveFrom, .ref a_leaveTo, .ref a_lateDay, .ref a_lateOffice, .ref a_lateBy, .ref a_guests, .ref a_who, .ref a_used, .ref a_lacks, .ref a_candles, .ref a_masses, .ref a_owing, .ref a_heldOn, .ref a_waits, .ref a_tape, .ref a_text, .int v_taped, .int v_size, .int v_at, .int v_fault, .int v_rules, .ref a_statements, .ref a_taken, .ref a_sort, .ref a_first, .ref a_second, .int v_wordEnd, .int v_number])), (a_lateDay, .inl (cI, 100, .inl g_59)), (a_lateOffice, .inl (cI, 100, .inl f_lateOffice)), (a_lateBy, .inl (cI, 100, .inl f_lateBy))] H := hP
                    have hD := asD hP hD
                    refine lv_aload_n hx hb dX12_late_142 rfl (lv_at hl 3 rfl) ?_
                    refine va_get (D := D) (ci := 11) (v := .ref a_lateOffice) (C := RX12) (T := TX12) (N := 54) hx hb hts in_N_late_X12 hown hK.1 hP 0 rfl rfl 29 (by decide) lk2 (fun _ h9 => h9) rfl dX12_late_143 ?_
                    refine lv_iload hx hb dX12_late_146 (lv_at hl 0 rfl) ?_
                    refine lv_iload_n hx hb dX12_late_148 rfl (lv_at hl 5 rfl) ?_
                    refine va_iast hx hb hK.1 hP hD hS 2 0 rfl rfl (t_in (by omega) (by omega)) dX12_late_149 (fun H locs hP hD hS => ?_)
                    obtain ⟨g_60, eg_60⟩ : ∃ z : Nat → Int32, z = upd f_lateOffice ((v_lates : Int32).toNatClampNeg) k := ⟨_, rfl⟩
                    rw [← eg_60] at hP hD
                    have hP : va_P D vwCl [(h, .inr (11, [.int v_today, .int v_monks, .int v_aways, .int v_feasts, .int v_gifts, .int v_leaves, .int x_58, .int v_store, .int v_allCandles, .ref a_isPriest, .ref a_bars, .ref a_joined, .ref a_turns, .ref a_awayMonk, .ref a_awayFrom, .ref a_awayTo, .ref a_feastDay, .ref a_rank, .ref a_isWeekly, .ref a_isDouble, .ref a_giftDay, .ref a_giftFrom, .ref a_owed, .ref a_said, .ref a_spared, .ref a_leaveGift, .ref a_leaveFrom, .ref a_leaveTo, .ref a_lateDay, .ref a_lateOffice, .ref a_lateBy, .ref a_guests, .ref a_who, .ref a_used, .ref a_lacks, .ref a_candles, .ref a_masses, .ref a_owing, .ref a_heldOn, .ref a_waits, .ref a_tape, .ref a_text, .int v_taped, .int v_size, .int v_at, .int v_fault, .int v_rules, .ref a_statements, .ref a_taken, .ref a_sort, .ref a_first, .ref a_second, .int v_wordEnd, .int v_number])), (a_lateDay, .inl (cI, 100, .inl g_59)), (a_lateOffice, .inl (cI, 100, .inl g_60)), (a_lateBy, .inl (cI, 100, .inl f_lateBy))] H := hP
                    have hD := asD hP hD
                    refine lv_aload_n hx hb dX12_late_150 rfl (lv_at hl 3 rfl) ?_
                    refine va_get (D := D) (ci := 11) (v := .ref a_lateBy) (C := RX12) (T := TX12) (N := 54) hx hb hts in_N_late_X12 hown hK.1 hP 0 rfl rfl 30 (by decide) lk3 (fun _ h9 => h9) rfl dX12_late_151 ?_
                    refine lv_iload hx hb dX12_late_154 (lv_at hl 0 rfl) ?_
                    refine lv_iload_n hx hb dX12_late_156 rfl (lv_at hl 6 rfl) ?_
                    refine va_iast hx hb hK.1 hP hD hS 3 0 rfl rfl (t_in (by omega) (by omega)) dX12_late_157 (fun H locs hP hD hS => ?_)
                    obtain ⟨g_61, eg_61⟩ : ∃ z : Nat → Int32, z = upd f_lateBy ((v_lates : Int32).toNatClampNeg) mm := ⟨_, rfl⟩
                    rw [← eg_61] at hP hD
                    have hP : va_P D vwCl [(h, .inr (11, [.int v_today, .int v_monks, .int v_aways, .int v_feasts, .int v_gifts, .int v_leaves, .int x_58, .int v_store, .int v_allCandles, .ref a_isPriest, .ref a_bars, .ref a_joined, .ref a_turns, .ref a_awayMonk, .ref a_awayFrom, .ref a_awayTo, .ref a_feastDay, .ref a_rank, .ref a_isWeekly, .ref a_isDouble, .ref a_giftDay, .ref a_giftFrom, .ref a_owed, .ref a_said, .ref a_spared, .ref a_leaveGift, .ref a_leaveFrom, .ref a_leaveTo, .ref a_lateDay, .ref a_lateOffice, .ref a_lateBy, .ref a_guests, .ref a_who, .ref a_used, .ref a_lacks, .ref a_candles, .ref a_masses, .ref a_owing, .ref a_heldOn, .ref a_waits, .ref a_tape, .ref a_text, .int v_taped, .int v_size, .int v_at, .int v_fault, .int v_rules, .ref a_statements, .ref a_taken, .ref a_sort, .ref a_first, .ref a_second, .int v_wordEnd, .int v_number])), (a_lateDay, .inl (cI, 100, .inl g_59)), (a_lateOffice, .inl (cI, 100, .inl g_60)), (a_lateBy, .inl (cI, 100, .inl g_61))] H := hP
                    have hD := asD hP hD
                    refine lv_iload hx hb dX12_late_158 (lv_at hl 2 rfl) ?_
                    exact hret x_8 (x_58, g_59, g_60, g_61) _ _ _ _ (show 0 ≤ x_58.toInt ∧ x_58.toInt ≤ 100 from by omega) rfl (hP.sub [0, 1, 2, 3] rfl) (hD.sub [0, 1, 2, 3] (by decide +kernel) rfl) hS dX12_late_160
                  · have tc_57 := t_eq c_57
                    refine lv_iconst (v := (-1)) hx hb dX12_late_116 (by decide) ?_
                    exact hret (-1) (v_lates, f_lateDay, f_lateOffice, f_lateBy) _ _ _ _ (show 0 ≤ v_lates.toInt ∧ v_lates.toInt ≤ 100 from by omega) rfl (hP.sub [0, 1, 2, 3] rfl) (hD.sub [0, 1, 2, 3] (by decide +kernel) rfl) hS dX12_late_117
              · have tc_51 := t_nlt c_51
                refine lv_iconst (v := (-1)) hx hb dX12_late_91 (by decide) ?_
                exact hret (-1) (v_lates, f_lateDay, f_lateOffice, f_lateBy) _ _ _ _ (show 0 ≤ v_lates.toInt ∧ v_lates.toInt ≤ 100 from by omega) rfl (hP.sub [0, 1, 2, 3] rfl) (hD.sub [0, 1, 2, 3] (by decide +kernel) rfl) hS dX12_late_92
      · have tc_6 := t_eq c_6
        refine lv_iconst (v := (-1)) hx hb dX12_late_34 (by decide) ?_
        exact hret (-1) (v_lates, f_lateDay, f_lateOffice, f_lateBy) _ _ _ _ (show 0 ≤ v_lates.toInt ∧ v_lates.toInt ≤ 100 from by omega) rfl (hP.sub [0, 1, 2, 3] rfl) (hD.sub [0, 1, 2, 3] (by decide +kernel) rfl) hS dX12_late_35

