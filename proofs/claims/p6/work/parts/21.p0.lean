theorem in_n_blanks_X12 : ∀ w ∈ wsX120, w ∈ wsX12_blanks := tl_X12_blanks_X12
set_option maxHeartbeats 8000000 in
set_option maxRecDepth 100000 in
theorem n_blanks {l : Launch} {D : va_G} {cI cZ cB : ClassId} {sz : Nat} {h a_isPriest a_bars a_joined a_turns a_awayMonk a_awayFrom a_awayTo a_feastDay a_rank a_isWeekly a_isDouble a_giftDay a_giftFrom a_owed a_said a_spared a_leaveGift a_leaveFrom a_leaveTo a_lateDay a_lateOffice a_lateBy a_guests a_who a_used a_lacks a_candles a_masses a_owing a_heldOn a_waits a_tape a_text a_statements a_taken a_sort a_first a_second : Nat} {v_today v_monks v_aways v_feasts v_gifts v_leaves v_lates v_store v_allCandles v_taped v_size v_at v_fault v_rules v_wordEnd v_number : Int32} {f_text : Nat → Int32}  (hz1 : v_size.toInt ≤ 600) (ha0 : 0 ≤ v_at.toInt) (ha1 : v_at.toInt ≤ v_size.toInt) : Met l yX12_blanks wsX12_blanks ({ frames := 0, cells := 0, slots := 0, locals := 0 }) (RW D cI cZ cB [.ref h] sz [(h, .inr (11, [.int v_today, .int v_monks, .int v_aways, .int v_feasts, .int v_gifts, .int v_leaves, .int v_lates, .int v_store, .int v_allCandles, .ref a_isPriest, .ref a_bars, .ref a_joined, .ref a_turns, .ref a_awayMonk, .ref a_awayFrom, .ref a_awayTo, .ref a_feastDay, .ref a_rank, .ref a_isWeekly, .ref a_isDouble, .ref a_giftDay, .ref a_giftFrom, .ref a_owed, .ref a_said, .ref a_spared, .ref a_leaveGift, .ref a_leaveFrom, .ref a_leaveTo, .ref a_lateDay, .ref a_lateOffice, .ref a_lateBy, .ref a_guests, .ref a_who, .ref a_used, .ref a_lacks, .ref a_candles, .ref a_masses, .ref a_owing, .ref a_heldOn, .ref a_waits, .ref a_tape, .ref a_text, .int v_taped, .int v_size, .int v_at, .int v_fault, .int v_rules, .ref a_statements, .ref a_taken, .ref a_sort, .ref a_first, .ref a_second, .int v_wordEnd, .int v_number])), (a_text, .inl (cB, 600, .inl f_text))]) (va_Qv (fun u : Int32 => (v_at.toInt ≤ u.toInt ∧ u.toInt ≤ v_size.toInt)) (BW D [(h, .inr (11, [.int v_today, .int v_monks, .int v_aways, .int v_feasts, .int v_gifts, .int v_leaves, .int v_lates, .int v_store, .int v_allCandles, .ref a_isPriest, .ref a_bars, .ref a_joined, .ref a_turns, .ref a_awayMonk, .ref a_awayFrom, .ref a_awayTo, .ref a_feastDay, .ref a_rank, .ref a_isWeekly, .ref a_isDouble, .ref a_giftDay, .ref a_giftFrom, .ref a_owed, .ref a_said, .ref a_spared, .ref a_leaveGift, .ref a_leaveFrom, .ref a_leaveTo, .ref a_lateDay, .ref a_lateOffice, .ref a_lateBy, .ref a_guests, .ref a_who, .ref a_used, .ref a_lacks, .ref a_candles, .ref a_masses, .ref a_owing, .ref a_heldOn, .ref a_waits, .ref a_tape, .ref a_text, .int v_taped, .int v_size, .int v_at, .int v_fault, .int v_rules, .ref a_statements, .ref a_taken, .ref a_sort, .ref a_first, .ref a_second, .int v_wordEnd, .int v_number])), (a_text, .inl (cB, 600, .inl f_text))] sz (fun u : Int32 => [(h, .inr (11, [.int v_today, .int v_monks, .int v_aways, .int v_feasts, .int v_gifts, .int v_leaves, .int v_lates, .int v_store, .int v_allCandles, .ref a_isPriest, .ref a_bars, .ref a_joined, .ref a_turns, .ref a_awayMonk, .ref a_awayFrom, .ref a_awayTo, .ref a_feastDay, .ref a_rank, .ref a_isWeekly, .ref a_isDouble, .ref a_giftDay, .ref a_giftFrom, .ref a_owed, .ref a_said, .ref a_spared, .ref a_leaveGift, .ref a_leaveFrom, .ref a_leaveTo, .ref a_lateDay, .ref a_lateOffice, .ref a_lateBy, .ref a_guests, .ref a_who, .ref a_used, .ref a_lacks, .ref a_candles, .ref a_masses, .ref a_owing, .ref a_heldOn, .ref a_waits, .ref a_tape, .ref a_text, .int v_taped, .int v_size, .int u, .int v_fault, .int v_rules, .ref a_statements, .ref a_taken, .ref a_sort, .ref a_first, .ref a_second, .int v_wordEnd, .int v_number])), (a_text, .inl (cB, 600, .inl f_text))])) (va_A [(h, .inr (11, [.int v_today, .int v_monks, .int v_aways, .int v_feasts, .int v_gifts, .int v_leaves, .int v_lates, .int v_store, .int v_allCandles, .ref a_isPriest, .ref a_bars, .ref a_joined, .ref a_turns, .ref a_awayMonk, .ref a_awayFrom, .ref a_awayTo, .ref a_feastDay, .ref a_rank, .ref a_isWeekly, .ref a_isDouble, .ref a_giftDay, .ref a_giftFrom, .ref a_owed, .ref a_said, .ref a_spared, .ref a_leaveGift, .ref a_leaveFrom, .ref a_leaveTo, .ref a_lateDay, .ref a_lateOffice, .ref a_lateBy, .ref a_guests, .ref a_who, .ref a_used, .ref a_lacks, .ref a_candles, .ref a_masses, .ref a_owing, .ref a_heldOn, .ref a_waits, .ref a_tape, .ref a_text, .int v_taped, .int v_size, .int v_at, .int v_fault, .int v_rules, .ref a_statements, .ref a_taken, .ref a_sort, .ref a_first, .ref a_second, .int v_wordEnd, .int v_number])), (a_text, .inl (cB, 600, .inl f_text))] sz)) 0 0 (va_A [(h, .inr (11, [.int v_today, .int v_monks, .int v_aways, .int v_feasts, .int v_gifts, .int v_leaves, .int v_lates, .int v_store, .int v_allCandles, .ref a_isPriest, .ref a_bars, .ref a_joined, .ref a_turns, .ref a_awayMonk, .ref a_awayFrom, .ref a_awayTo, .ref a_feastDay, .ref a_rank, .ref a_isWeekly, .ref a_isDouble, .ref a_giftDay, .ref a_giftFrom, .ref a_owed, .ref a_said, .ref a_spared, .ref a_leaveGift, .ref a_leaveFrom, .ref a_leaveTo, .ref a_lateDay, .ref a_lateOffice, .ref a_lateBy, .ref a_guests, .ref a_who, .ref a_used, .ref a_lacks, .ref a_candles, .ref a_masses, .ref a_owing, .ref a_heldOn, .ref a_waits, .ref a_tape, .ref a_text, .int v_taped, .int v_size, .int v_at, .int v_fault, .int v_rules, .ref a_statements, .ref a_taken, .ref a_sort, .ref a_first, .ref a_second, .int v_wordEnd, .int v_number])), (a_text, .inl (cB, 600, .inl f_text))] sz) := by
  refine rw_retv (cc := cX12_blanks) (maxL := 1) (own := RX12) (by decide) rfl rfl (Nat.le_of_ble_eq_true rfl) ?_
  intro p e s m args below meth c Q A S hin hret hP hK hD hA hS ls hl
  obtain ⟨hx, hb, hml, hown, hts⟩ := id S
  have hl : lv_has ls 1 [(0, .ref h)] := hl
  have kk0 : (0 : Int32).toInt = 0 := by decide
  have kk1 : (1 : Int32).toInt = 1 := by decide
  have kk10 : (10 : Int32).toInt = 10 := by decide
  have kk32 : (32 : Int32).toInt = 32 := by decide
  have lk0 := hts (.fieldLink RX12 192 "AbbeyHoursModel" "at" "I") (List.mem_cons_of_mem _ (List.mem_append_left _ (List.mem_of_getElem? (i := 0) rfl)))
  have lk1 := hts (.fieldLink RX12 195 "AbbeyHoursModel" "size" "I") (List.mem_cons_of_mem _ (List.mem_append_left _ (List.mem_of_getElem? (i := 1) rfl)))
  have lk2 := hts (.fieldLink RX12 108 "AbbeyHoursModel" "text" "[B") (List.mem_cons_of_mem _ (List.mem_append_left _ (List.mem_of_getElem? (i := 2) rfl)))
  have loop0 : ∀ (fuel : Nat) (w : Int32), v_size.toInt - w.toInt < (fuel : Int) → (v_at.toInt ≤ w.toInt) → (w.toInt ≤ v_size.toInt) → ∀ (H : Heap) (locs : List Loc), va_P D vwCl [(h, .inr (11, [.int v_today, .int v_monks, .int v_aways, .int v_feasts, .int v_gifts, .int v_leaves, .int v_lates, .int v_store, .int v_allCandles, .ref a_isPriest, .ref a_bars, .ref a_joined, .ref a_turns, .ref a_awayMonk, .ref a_awayFrom, .ref a_awayTo, .ref a_feastDay, .ref a_rank, .ref a_isWeekly, .ref a_isDouble, .ref a_giftDay, .ref a_giftFrom, .ref a_owed, .ref a_said, .ref a_spared, .ref a_leaveGift, .ref a_leaveFrom, .ref a_leaveTo, .ref a_lateDay, .ref a_lateOffice, .ref a_lateBy, .ref a_guests, .ref a_who, .ref a_used, .ref a_lacks, .ref a_candles, .ref a_masses, .ref a_owing, .ref a_heldOn, .ref a_waits, .ref a_tape, .ref a_text, .int v_taped, .int v_size, .int w, .int v_fault, .int v_rules, .ref a_statements, .ref a_taken, .ref a_sort, .ref a_first, .ref a_second, .int v_wordEnd, .int v_number])), (a_text, .inl (cB, 600, .inl f_text))] H → va_D A [(h, .inr (11, [.int v_today, .int v_monks, .int v_aways, .int v_feasts, .int v_gifts, .int v_leaves, .int v_lates, .int v_store, .int v_allCandles, .ref a_isPriest, .ref a_bars, .ref a_joined, .ref a_turns, .ref a_awayMonk, .ref a_awayFrom, .ref a_awayTo, .ref a_feastDay, .ref a_rank, .ref a_isWeekly, .ref a_isDouble, .ref a_giftDay, .ref a_giftFrom, .ref a_owed, .ref a_said, .ref a_spared, .ref a_leaveGift, .ref a_leaveFrom, .ref a_leaveTo, .ref a_lateDay, .ref a_lateOffice, .ref a_lateBy, .ref a_guests, .ref a_who, .ref a_used, .ref a_lacks, .ref a_candles, .ref a_masses, .ref a_owing, .ref a_heldOn, .ref a_waits, .ref a_tape, .ref a_text, .int v_taped, .int v_size, .int w, .int v_fault, .int v_rules, .ref a_statements, .ref a_taken, .ref a_sort, .ref a_first, .ref a_second, .int v_wordEnd, .int v_number])), (a_text, .inl (cB, 600, .inl f_text))] → va_S A s.heap H locs → ∀ ls : Array Slot, lv_has ls 1 [(0, .ref h)] → W p l e ({ frames := 0, cells := 0, slots := 0, locals := 0 } : Room) s m args below meth c H locs 0 0 Q (F0 m 0 ls []) := by
    intro fuel
    induction fuel with
    | zero =>
      intro w hmu hw0 hw1 H locs hP hD hS ls hl
      exfalso; omega
    | succ fuel ih0 =>
      intro w hmu hw0 hw1 H locs hP hD hS ls hl
      refine lv_aload_n hx hb dX12_blanks_0 rfl (lv_at hl 0 rfl) ?_
      refine va_get (D := D) (ci := 11) (v := .int w) (C := RX12) (T := TX12) (N := 54) hx hb hts in_n_blanks_X12 hown hK.1 hP 0 rfl rfl 44 (by decide) lk0 (fun _ h9 => h9) rfl dX12_blanks_1 ?_
      refine lv_aload_n hx hb dX12_blanks_4 rfl (lv_at hl 0 rfl) ?_
      refine va_get (D := D) (ci := 11) (v := .int v_size) (C := RX12) (T := TX12) (N := 54) hx hb hts in_n_blanks_X12 hown hK.1 hP 0 rfl rfl 43 (by decide) lk1 (fun _ h9 => h9) rfl dX12_blanks_5 ?_
      refine lv_icmp_ge (tgt := 52) hx hb dX12_blanks_8 (by decide) (fun c_1 => ?_) (fun c_1 => ?_)
      · have tc_1 := t_le c_1
        exact hret w _ _ _ _ (show (v_at.toInt ≤ w.toInt ∧ w.toInt ≤ v_size.toInt) from by omega) (hP.sub [0, 1] rfl) (hD.sub [0, 1] (by decide +kernel) rfl) hS dX12_blanks_52
      · have tc_1 := t_nle c_1
        refine lv_aload_n hx hb dX12_blanks_11 rfl (lv_at hl 0 rfl) ?_
        refine va_get (D := D) (ci := 11) (v := .ref a_text) (C := RX12) (T := TX12) (N := 54) hx hb hts in_n_blanks_X12 hown hK.1 hP 0 rfl rfl 41 (by decide) lk2 (fun _ h9 => h9) rfl dX12_blanks_12 ?_
        refine lv_aload_n hx hb dX12_blanks_15 rfl (lv_at hl 0 rfl) ?_
        refine va_get (D := D) (ci := 11) (v := .int w) (C := RX12) (T := TX12) (N := 54) hx hb hts in_n_blanks_X12 hown hK.1 hP 0 rfl rfl 44 (by decide) lk0 (fun _ h9 => h9) rfl dX12_blanks_16 ?_
        refine va_bald hx hb hK.1 hP 1 2 rfl rfl (t_in (by omega) (by omega)) dX12_blanks_19 ?_
        refine lv_topi (fun y_2 ey_2 => ?_)
        refine lv_bipush (v := 32) hx hb dX12_blanks_20 (by decide) ?_
        refine lv_icmp_eq (tgt := 39) hx hb dX12_blanks_22 (by decide) (fun c_3 => ?_) (fun c_3 => ?_)
        · have tc_3 := t_eq c_3
          refine lv_aload_n hx hb dX12_blanks_39 rfl (lv_at hl 0 rfl) ?_
          refine lv_dup hx hb dX12_blanks_40 rfl ?_
          refine va_get (D := D) (ci := 11) (v := .int w) (C := RX12) (T := TX12) (N := 54) hx hb hts in_n_blanks_X12 hown hK.1 hP 0 rfl rfl 44 (by decide) lk0 (fun _ h9 => h9) rfl dX12_blanks_41 ?_
          refine lv_iconst (v := 1) hx hb dX12_blanks_44 (by decide) ?_
          refine lv_iadd hx hb dX12_blanks_45 ?_
          refine lv_topi (fun x_4 ex_4 => ?_)
          first | have tx_4 := t_add ex_4 (by omega) (by omega) | skip
          refine va_put (D := D) (ci := 11) (v := .int x_4) (ty := .int) (C := RX12) (T := TX12) (N := 54) hx hb hts in_n_blanks_X12 tyX12 tyX12_ok nmX12 hown hK.1 hP hD hS 0 rfl rfl 44 (by decide) lk0 (fun _ h9 => h9) rfl (by decide +kernel) rfl rfl (Nat.le_of_ble_eq_true rfl) dX12_blanks_46 (fun H locs hP hD hS => ?_)
          have hP : va_P D vwCl [(h, .inr (11, [.int v_today, .int v_monks, .int v_aways, .int v_feasts, .int v_gifts, .int v_leaves, .int v_lates, .int v_store, .int v_allCandles, .ref a_isPriest, .ref a_bars, .ref a_joined, .ref a_turns, .ref a_awayMonk, .ref a_awayFrom, .ref a_awayTo, .ref a_feastDay, .ref a_rank, .ref a_isWeekly, .ref a_isDouble, .ref a_giftDay, .ref a_giftFrom, .ref a_owed, .ref a_said, .ref a_spared, .ref a_leaveGift, .ref a_leaveFrom, .ref a_leaveTo, .ref a_lateDay, .ref a_lateOffice, .ref a_lateBy, .ref a_guests, .ref a_who, .ref a_used, .ref a_lacks, .ref a_candles, .ref a_masses, .ref a_owing, .ref a_heldOn, .ref a_waits, .ref a_tape, .ref a_text, .int v_taped, .int v_size, .int x_4, .int v_fault, .int v_rules, .ref a_statements, .ref a_taken, .ref a_sort, .ref a_first, .ref a_second, .int v_wordEnd, .int v_number])), (a_text, .inl (cB, 600, .inl f_text))] H := hP
          have hD := asD hP hD
          refine lv_goto (tgt := 0) hx hb dX12_blanks_49 (by decide) ?_
          exact ih0 x_4 (by omega) (by omega) (by omega) _ _ hP hD hS ls (lv_sub hl [0] rfl)
        · have tc_3 := t_neq c_3
          refine lv_aload_n hx hb dX12_blanks_25 rfl (lv_at hl 0 rfl) ?_
          refine va_get (D := D) (ci := 11) (v := .ref a_text) (C := RX12) (T := TX12) (N := 54) hx hb hts in_n_blanks_X12 hown hK.1 hP 0 rfl rfl 41 (by decide) lk2 (fun _ h9 => h9) rfl dX12_blanks_26 ?_
          refine lv_aload_n hx hb dX12_blanks_29 rfl (lv_at hl 0 rfl) ?_
          refine va_get (D := D) (ci := 11) (v := .int w) (C := RX12) (T := TX12) (N := 54) hx hb hts in_n_blanks_X12 hown hK.1 hP 0 rfl rfl 44 (by decide) lk0 (fun _ h9 => h9) rfl dX12_blanks_30 ?_
          refine va_bald hx hb hK.1 hP 1 2 rfl rfl (t_in (by omega) (by omega)) dX12_blanks_33 ?_
          refine lv_topi (fun y_5 ey_5 => ?_)
          refine lv_bipush (v := 10) hx hb dX12_blanks_34 (by decide) ?_
          refine lv_icmp_ne (tgt := 52) hx hb dX12_blanks_36 (by decide) (fun c_6 => ?_) (fun c_6 => ?_)
          · have tc_6 := t_neq c_6
            exact hret w _ _ _ _ (show (v_at.toInt ≤ w.toInt ∧ w.toInt ≤ v_size.toInt) from by omega) (hP.sub [0, 1] rfl) (hD.sub [0, 1] (by decide +kernel) rfl) hS dX12_blanks_52
          · have tc_6 := t_eq c_6
            refine lv_aload_n hx hb dX12_blanks_39 rfl (lv_at hl 0 rfl) ?_
            refine lv_dup hx hb dX12_blanks_40 rfl ?_
            refine va_get (D := D) (ci := 11) (v := .int w) (C := RX12) (T := TX12) (N := 54) hx hb hts in_n_blanks_X12 hown hK.1 hP 0 rfl rfl 44 (by decide) lk0 (fun _ h9 => h9) rfl dX12_blanks_41 ?_
            refine lv_iconst (v := 1) hx hb dX12_blanks_44 (by decide) ?_
            refine lv_iadd hx hb dX12_blanks_45 ?_
            refine lv_topi (fun x_7 ex_7 => ?_)
            first | have tx_7 := t_add ex_7 (by omega) (by omega) | skip
            refine va_put (D := D) (ci := 11) (v := .int x_7) (ty := .int) (C := RX12) (T := TX12) (N := 54) hx hb hts in_n_blanks_X12 tyX12 tyX12_ok nmX12 hown hK.1 hP hD hS 0 rfl rfl 44 (by decide) lk0 (fun _ h9 => h9) rfl (by decide +kernel) rfl rfl (Nat.le_of_ble_eq_true rfl) dX12_blanks_46 (fun H locs hP hD hS => ?_)
            have hP : va_P D vwCl [(h, .inr (11, [.int v_today, .int v_monks, .int v_aways, .int v_feasts, .int v_gifts, .int v_leaves, .int v_lates, .int v_store, .int v_allCandles, .ref a_isPriest, .ref a_bars, .ref a_joined, .ref a_turns, .ref a_awayMonk, .ref a_awayFrom, .ref a_awayTo, .ref a_feastDay, .ref a_rank, .ref a_isWeekly, .ref a_isDouble, .ref a_giftDay, .ref a_giftFrom, .ref a_owed, .ref a_said, .ref a_spared, .ref a_leaveGift, .ref a_leaveFrom, .ref a_leaveTo, .ref a_lateDay, .ref a_lateOffice, .ref a_lateBy, .ref a_guests, .ref a_who, .ref a_used, .ref a_lacks, .ref a_candles, .ref a_masses, .ref a_owing, .ref a_heldOn, .ref a_waits, .ref a_tape, .ref a_text, .int v_taped, .int v_size, .int x_7, .int v_fault, .int v_rules, .ref a_statements, .ref a_taken, .ref a_sort, .ref a_first, .ref a_second, .int v_wordEnd, .int v_number])), (a_text, .inl (cB, 600, .inl f_text))] H := hP
            have hD := asD hP hD
            refine lv_goto (tgt := 0) hx hb dX12_blanks_49 (by decide) ?_
            exact ih0 x_7 (by omega) (by omega) (by omega) _ _ hP hD hS ls (lv_sub hl [0] rfl)
  exact loop0 ((v_size.toInt - v_at.toInt).toNat + 1) v_at (by omega) (by omega) (by omega) _ _ hP hD hS ls (lv_sub hl [0] rfl)

theorem in_n_word_X12 : ∀ w ∈ wsX120, w ∈ wsX12_word := tl_X12_word_X12
set_option maxHeartbeats 8000000 in
set_option maxRecDepth 100000 in
theorem n_word {l : Launch} {D : va_G} {cI cZ cB : ClassId} {sz : Nat} {h a_isPriest a_bars a_joined a_turns a_awayMonk a_awayFrom a_awayTo a_feastDay a_rank a_isWeekly a_isDouble a_giftDay a_giftFrom a_owed a_said a_spared a_leaveGift a_leaveFrom a_leaveTo a_lateDay a_lateOffice a_lateBy a_guests a_who a_used a_lacks a_candles a_masses a_owing a_heldOn a_waits a_tape a_text a_statements a_taken a_sort a_first a_second : Nat} {v_today v_monks v_aways v_feasts v_gifts v_leaves v_lates v_store v_allCandles v_taped v_size v_at v_fault v_rules v_wordEnd v_number : Int32} {f_text : Nat → Int32}  (hz1 : v_size.toInt ≤ 600) (ha0 : 0 ≤ v_at.toInt) (ha1 : v_at.toInt ≤ v_size.toInt) : Met l yX12_word wsX12_word ({ frames := 1, cells := 0, slots := 0, locals := 20 }) (RW D cI cZ cB [.ref h] sz [(h, .inr (11, [.int v_today, .int v_monks, .int v_aways, .int v_feasts, .int v_gifts, .int v_leaves, .int v_lates, .int v_store, .int v_allCandles, .ref a_isPriest, .ref a_bars, .ref a_joined, .ref a_turns, .ref a_awayMonk, .ref a_awayFrom, .ref a_awayTo, .ref a_feastDay, .ref a_rank, .ref a_isWeekly, .ref a_isDouble, .ref a_giftDay, .ref a_giftFrom, .ref a_owed, .ref a_said, .ref a_spared, .ref a_leaveGift, .ref a_leaveFrom, .ref a_leaveTo, .ref a_lateDay, .ref a_lateOffice, .ref a_lateBy, .ref a_guests, .ref a_who, .ref a_used, .ref a_lacks, .ref a_candles, .ref a_masses, .ref a_owing, .ref a_heldOn, .ref a_waits, .ref a_tape, .ref a_text, .int v_taped, .int v_size, .int v_at, .int v_fault, .int v_rules, .ref a_statements, .ref a_taken, .ref a_sort, .ref a_first, .ref a_second, .int v_wordEnd, .int v_number])), (a_text, .inl (cB, 600, .inl f_text))]) (va_Ql (fun (r : Int64) (u : Int32 × Int32) => (v_at.toInt ≤ u.1.toInt ∧ u.1.toInt ≤ v_size.toInt) ∧ u.1.toInt ≤ u.2.toInt ∧ u.2.toInt ≤ v_size.toInt) (BW D [(h, .inr (11, [.int v_today, .int v_monks, .int v_aways, .int v_feasts, .int v_gifts, .int v_leaves, .int v_lates, .int v_store, .int v_allCandles, .ref a_isPriest, .ref a_bars, .ref a_joined, .ref a_turns, .ref a_awayMonk, .ref a_awayFrom, .ref a_awayTo, .ref a_feastDay, .ref a_rank, .ref a_isWeekly, .ref a_isDouble, .ref a_giftDay, .ref a_giftFrom, .ref a_owed, .ref a_said, .ref a_spared, .ref a_leaveGift, .ref a_leaveFrom, .ref a_leaveTo, .ref a_lateDay, .ref a_lateOffice, .ref a_lateBy, .ref a_guests, .ref a_who, .ref a_used, .ref a_lacks, .ref a_candles, .ref a_masses, .ref a_owing, .ref a_heldOn, .ref a_waits, .ref a_tape, .ref a_text, .int v_taped, .int v_size, .int v_at, .int v_fault, .int v_rules, .ref a_statements, .ref a_taken, .ref a_sort, .ref a_first, .ref a_second, .int v_wordEnd, .int v_number])), (a_text, .inl (cB, 600, .inl f_text))] sz (fun u : Int32 × Int32 => [(h, .inr (11, [.int v_today, .int v_monks, .int v_aways, .int v_feasts, .int v_gifts, .int v_leaves, .int v_lates, .int v_store, .int v_allCandles, .ref a_isPriest, .ref a_bars, .ref a_joined, .ref a_turns, .ref a_awayMonk, .ref a_awayFrom, .ref a_awayTo, .ref a_feastDay, .ref a_rank, .ref a_isWeekly, .ref a_isDouble, .ref a_giftDay, .ref a_giftFrom, .ref a_owed, .ref a_said, .ref a_spared, .ref a_leaveGift, .ref a_leaveFrom, .ref a_leaveTo, .ref a_lateDay, .ref a_lateOffice, .ref a_lateBy, .ref a_guests, .ref a_who, .ref a_used, .ref a_lacks, .ref a_candles, .ref a_masses, .ref a_owing, .ref a_heldOn, .ref a_waits, .ref a_tape, .ref a_text, .int v_taped, .int v_size, .int u.1, .int v_fault, .int v_rules, .ref a_statements, .ref a_taken, .ref a_sort, .ref a_first, .ref a_second, .int u.2, .int v_number])), (a_text, .inl (cB, 600, .inl f_text))])) (va_A [(h, .inr (11, [.int v_today, .int v_monks, .int v_aways, .int v_feasts, .int v_gifts, .int v_leaves, .int v_lates, .int v_store, .int v_allCandles, .ref a_isPriest, .ref a_bars, .ref a_joined, .ref a_turns, .ref a_awayMonk, .ref a_awayFrom, .ref a_awayTo, .ref a_feastDay, .ref a_rank, .ref a_isWeekly, .ref a_isDouble, .ref a_giftDay, .ref a_giftFrom, .ref a_owed, .ref a_said, .ref a_spared, .ref a_leaveGift, .ref a_leaveFrom, .ref a_leaveTo, .ref a_lateDay, .ref a_lateOffice, .ref a_lateBy, .ref a_guests, .ref a_who, .ref a_used, .ref a_lacks, .ref a_candles, .ref a_masses, .ref a_owing, .ref a_heldOn, .ref a_waits, .ref a_tape, .ref a_text, .int v_taped, .int v_size, .int v_at, .int v_fault, .int v_rules, .ref a_statements, .ref a_taken, .ref a_sort, .ref a_first, .ref a_second, .int v_wordEnd, .int v_number])), (a_text, .inl (cB, 600, .inl f_text))] sz)) 0 0 (va_A [(h, .inr (11, [.int v_today, .int v_monks, .int v_aways, .int v_feasts, .int v_gifts, .int v_leaves, .int v_lates, .int v_store, .int v_allCandles, .ref a_isPriest, .ref a_bars, .ref a_joined, .ref a_turns, .ref a_awayMonk, .ref a_awayFrom, .ref a_awayTo, .ref a_feastDay, .ref a_rank, .ref a_isWeekly, .ref a_isDouble, .ref a_giftDay, .ref a_giftFrom, .ref a_owed, .ref a_said, .ref a_spared, .ref a_leaveGift, .ref a_leaveFrom, .ref a_leaveTo, .ref a_lateDay, .ref a_lateOffice, .ref a_lateBy, .ref a_guests, .ref a_who, .ref a_used, .ref a_lacks, .ref a_candles, .ref a_masses, .ref a_owing, .ref a_heldOn, .ref a_waits, .ref a_tape, .ref a_text, .int v_taped, .int v_size, .int v_at, .int v_fault, .int v_rules, .ref a_statements, .ref a_taken, .ref a_sort, .ref a_first, .ref a_second, .int v_wordEnd, .int v_number])), (a_text, .inl (cB, 600, .inl f_text))] sz) := by
  refine rw_retl (cc := cX12_word) (maxL := 3) (own := RX12) (by decide) rfl rfl (Nat.le_of_ble_eq_true rfl) ?_
  intro p e s m args below meth c Q A S hin hret hP hK hD hA hS ls hl
  obtain ⟨hx, hb, hml, hown, hts⟩ := id S
  have hl : lv_has ls 3 [(0, .ref h)] := hl
  have kk0 : (0 : Int32).toInt = 0 := by decide
  have kk1 : (1 : Int32).toInt = 1 := by decide
  have kk7 : (7 : Int32).toInt = 7 := by decide
  have kk8 : (8 : Int32).toInt = 8 := by decide
  have kk97 : (97 : Int32).toInt = 97 := by decide
  have kk122 : (122 : Int32).toInt = 122 := by decide
  have lk0 := hts (.fieldLink RX12 192 "AbbeyHoursModel" "at" "I") (List.mem_cons_of_mem _ (List.mem_append_left _ (List.mem_of_getElem? (i := 0) rfl)))
  have lk1 := hts (.fieldLink RX12 201 "AbbeyHoursModel" "wordEnd" "I") (List.mem_cons_of_mem _ (List.mem_append_left _ (List.mem_of_getElem? (i := 1) rfl)))
  have lk2 := hts (.fieldLink RX12 195 "AbbeyHoursModel" "size" "I") (List.mem_cons_of_mem _ (List.mem_append_left _ (List.mem_of_getElem? (i := 2) rfl)))
  have lk3 := hts (.fieldLink RX12 108 "AbbeyHoursModel" "text" "[B") (List.mem_cons_of_mem _ (List.mem_append_left _ (List.mem_of_getElem? (i := 3) rfl)))
  refine lv_aload_n hx hb dX12_word_0 rfl (lv_at hl 0 rfl) ?_
  have hPc := hP.sub (ws' := [(h, .inr (11, [.int v_today, .int v_monks, .int v_aways, .int v_feasts, .int v_gifts, .int v_leaves, .int v_lates, .int v_store, .int v_allCandles, .ref a_isPriest, .ref a_bars, .ref a_joined, .ref a_turns, .ref a_awayMonk, .ref a_awayFrom, .ref a_awayTo, .ref a_feastDay, .ref a_rank, .ref a_isWeekly, .ref a_isDouble, .ref a_giftDay, .ref a_giftFrom, .ref a_owed, .ref a_said, .ref a_spared, .ref a_leaveGift, .ref a_leaveFrom, .ref a_leaveTo, .ref a_lateDay, .ref a_lateOffice, .ref a_lateBy, .ref a_guests, .ref a_who, .ref a_used, .ref a_lacks, .ref a_candles, .ref a_masses, .ref a_owing, .ref a_heldOn, .ref a_waits, .ref a_tape, .ref a_text, .int v_taped, .int v_size, .int v_at, .int v_fault, .int v_rules, .ref a_statements, .ref a_taken, .ref a_sort, .ref a_first, .ref a_second, .int v_wordEnd, .int v_number])), (a_text, .inl (cB, 600, .inl f_text))]) [0, 1] rfl
  refine rwVv (As := []) (rest := []) (wc := [(h, .inr (11, [.int v_today, .int v_monks, .int v_aways, .int v_feasts, .int v_gifts, .int v_leaves, .int v_lates, .int v_store, .int v_allCandles, .ref a_isPriest, .ref a_bars, .ref a_joined, .ref a_turns, .ref a_awayMonk, .ref a_awayFrom, .ref a_awayTo, .ref a_feastDay, .ref a_rank, .ref a_isWeekly, .ref a_isDouble, .ref a_giftDay, .ref a_giftFrom, .ref a_owed, .ref a_said, .ref a_spared, .ref a_leaveGift, .ref a_leaveFrom, .ref a_leaveTo, .ref a_lateDay, .ref a_lateOffice, .ref a_lateBy, .ref a_guests, .ref a_who, .ref a_used, .ref a_lacks, .ref a_candles, .ref a_masses, .ref a_owing, .ref a_heldOn, .ref a_waits, .ref a_tape, .ref a_text, .int v_taped, .int v_size, .int v_at, .int v_fault, .int v_rules, .ref a_statements, .ref a_taken, .ref a_sort, .ref a_first, .ref a_second, .int v_wordEnd, .int v_number])), (a_text, .inl (cB, 600, .inl f_text))]) (wr := []) S (n_blanks  (by omega) (by omega) (by omega)) (cwV 0 hts gX12_word_X12_blanks rfl rfl rfl ⟨rfl, hd_X12_blanks⟩ ⟨Nat.le_of_ble_eq_true rfl, Nat.le_of_ble_eq_true rfl⟩) hK hP hD hS hA [0, 1] [] rfl rfl (by decide +kernel) (by decide +kernel) (by decide +kernel) (va_recv hK.1 hPc (ci := 11) (q0 := 0) rfl rfl) rfl hl.1 rfl (Nat.le_of_ble_eq_true rfl) dX12_word_1 ⟨Nat.le_of_ble_eq_true rfl, Nat.le_of_ble_eq_true rfl⟩ (fun u_bl H locs hw_bl hP hD hS => ?_)
  obtain ⟨at1_bl, rfl⟩ : ∃ z, z = u_bl := ⟨_, rfl⟩
  have hw_bl : (v_at.toInt ≤ at1_bl.toInt ∧ at1_bl.toInt ≤ v_size.toInt) := hw_bl
  have hP : va_P D vwCl [(h, .inr (11, [.int v_today, .int v_monks, .int v_aways, .int v_feasts, .int v_gifts, .int v_leaves, .int v_lates, .int v_store, .int v_allCandles, .ref a_isPriest, .ref a_bars, .ref a_joined, .ref a_turns, .ref a_awayMonk, .ref a_awayFrom, .ref a_awayTo, .ref a_feastDay, .ref a_rank, .ref a_isWeekly, .ref a_isDouble, .ref a_giftDay, .ref a_giftFrom, .ref a_owed, .ref a_said, .ref a_spared, .ref a_leaveGift, .ref a_leaveFrom, .ref a_leaveTo, .ref a_lateDay, .ref a_lateOffice, .ref a_lateBy, .ref a_guests, .ref a_who, .ref a_used, .ref a_lacks, .ref a_candles, .ref a_masses, .ref a_owing, .ref a_heldOn, .ref a_waits, .ref a_tape, .ref a_text, .int v_taped, .int v_size, .int at1_bl, .int v_fault, .int v_rules, .ref a_statements, .ref a_taken, .ref a_sort, .ref a_first, .ref a_second, .int v_wordEnd, .int v_number])), (a_text, .inl (cB, 600, .inl f_text))] H := hP
  have hD := asD hP hD
  refine lv_aload_n hx hb dX12_word_4 rfl (lv_at hl 0 rfl) ?_
  refine lv_aload_n hx hb dX12_word_5 rfl (lv_at hl 0 rfl) ?_
  refine va_get (D := D) (ci := 11) (v := .int at1_bl) (C := RX12) (T := TX12) (N := 54) hx hb hts in_n_word_X12 hown hK.1 hP 0 rfl rfl 44 (by decide) lk0 (fun _ h9 => h9) rfl dX12_word_6 ?_
  refine va_put (D := D) (ci := 11) (v := .int at1_bl) (ty := .int) (C := RX12) (T := TX12) (N := 54) hx hb hts in_n_word_X12 tyX12 tyX12_ok nmX12 hown hK.1 hP hD hS 0 rfl rfl 52 (by decide) lk1 (fun _ h9 => h9) rfl (by decide +kernel) rfl rfl (Nat.le_of_ble_eq_true rfl) dX12_word_9 (fun H locs hP hD hS => ?_)
  have hP : va_P D vwCl [(h, .inr (11, [.int v_today, .int v_monks, .int v_aways, .int v_feasts, .int v_gifts, .int v_leaves, .int v_lates, .int v_store, .int v_allCandles, .ref a_isPriest, .ref a_bars, .ref a_joined, .ref a_turns, .ref a_awayMonk, .ref a_awayFrom, .ref a_awayTo, .ref a_feastDay, .ref a_rank, .ref a_isWeekly, .ref a_isDouble, .ref a_giftDay, .ref a_giftFrom, .ref a_owed, .ref a_said, .ref a_spared, .ref a_leaveGift, .ref a_leaveFrom, .ref a_leaveTo, .ref a_lateDay, .ref a_lateOffice, .ref a_lateBy, .ref a_guests, .ref a_who, .ref a_used, .ref a_lacks, .ref a_candles, .ref a_masses, .ref a_owing, .ref a_heldOn, .ref a_waits, .ref a_tape, .ref a_text, .int v_taped, .int v_size, .int at1_bl, .int v_fault, .int v_rules, .ref a_statements, .ref a_taken, .ref a_sort, .ref a_first, .ref a_second, .int at1_bl, .int v_number])), (a_text, .inl (cB, 600, .inl f_text))] H := hP
  have hD := asD hP hD
  refine lv_lconst (v := 0) hx hb dX12_word_12 (by decide) ?_
  refine lv_lstore_n (lv' := [(1, .long 0), (0, .ref h)]) hx hb dX12_word_13 rfl hl (by decide) rfl (fun ls hl => ?_)
  have loop14 : ∀ (fuel : Nat) (ww : Int64) (we : Int32), v_size.toInt - we.toInt < (fuel : Int) → (at1_bl.toInt ≤ we.toInt) → (we.toInt ≤ v_size.toInt) → ∀ (H : Heap) (locs : List Loc), va_P D vwCl [(h, .inr (11, [.int v_today, .int v_monks, .int v_aways, .int v_feasts, .int v_gifts, .int v_leaves, .int v_lates, .int v_store, .int v_allCandles, .ref a_isPriest, .ref a_bars, .ref a_joined, .ref a_turns, .ref a_awayMonk, .ref a_awayFrom, .ref a_awayTo, .ref a_feastDay, .ref a_rank, .ref a_isWeekly, .ref a_isDouble, .ref a_giftDay, .ref a_giftFrom, .ref a_owed, .ref a_said, .ref a_spared, .ref a_leaveGift, .ref a_leaveFrom, .ref a_leaveTo, .ref a_lateDay, .ref a_lateOffice, .ref a_lateBy, .ref a_guests, .ref a_who, .ref a_used, .ref a_lacks, .ref a_candles, .ref a_masses, .ref a_owing, .ref a_heldOn, .ref a_waits, .ref a_tape, .ref a_text, .int v_taped, .int v_size, .int at1_bl, .int v_fault, .int v_rules, .ref a_statements, .ref a_taken, .ref a_sort, .ref a_first, .ref a_second, .int we, .int v_number])), (a_text, .inl (cB, 600, .inl f_text))] H → va_D A [(h, .inr (11, [.int v_today, .int v_monks, .int v_aways, .int v_feasts, .int v_gifts, .int v_leaves, .int v_lates, .int v_store, .int v_allCandles, .ref a_isPriest, .ref a_bars, .ref a_joined, .ref a_turns, .ref a_awayMonk, .ref a_awayFrom, .ref a_awayTo, .ref a_feastDay, .ref a_rank, .ref a_isWeekly, .ref a_isDouble, .ref a_giftDay, .ref a_giftFrom, .ref a_owed, .ref a_said, .ref a_spared, .ref a_leaveGift, .ref a_leaveFrom, .ref a_leaveTo, .ref a_lateDay, .ref a_lateOffice, .ref a_lateBy, .ref a_guests, .ref a_who, .ref a_used, .ref a_lacks, .ref a_candles, .ref a_masses, .ref a_owing, .ref a_heldOn, .ref a_waits, .ref a_tape, .ref a_text, .int v_taped, .int v_size, .int at1_bl, .int v_fault, .int v_rules, .ref a_statements, .ref a_taken, .ref a_sort, .ref a_first, .ref a_second, .int we, .int v_number])), (a_text, .inl (cB, 600, .inl f_text))] → va_S A s.heap H locs → ∀ ls : Array Slot, lv_has ls 3 [(1, .long ww), (0, .ref h)] → W p l e ({ frames := 1, cells := 0, slots := 0, locals := 20 } : Room) s m args below meth c H locs 0 0 Q (F0 m 14 ls []) := by
    intro fuel
    induction fuel with
    | zero =>
      intro ww we hmu hw0 hw1 H locs hP hD hS ls hl
      exfalso; omega
    | succ fuel ih14 =>
      intro ww we hmu hw0 hw1 H locs hP hD hS ls hl
      refine lv_aload_n hx hb dX12_word_14 rfl (lv_at hl 1 rfl) ?_
      refine va_get (D := D) (ci := 11) (v := .int we) (C := RX12) (T := TX12) (N := 54) hx hb hts in_n_word_X12 hown hK.1 hP 0 rfl rfl 52 (by decide) lk1 (fun _ h9 => h9) rfl dX12_word_15 ?_
      refine lv_aload_n hx hb dX12_word_18 rfl (lv_at hl 1 rfl) ?_
      refine va_get (D := D) (ci := 11) (v := .int v_size) (C := RX12) (T := TX12) (N := 54) hx hb hts in_n_word_X12 hown hK.1 hP 0 rfl rfl 43 (by decide) lk2 (fun _ h9 => h9) rfl dX12_word_19 ?_
      refine lv_icmp_ge (tgt := 100) hx hb dX12_word_22 (by decide) (fun c_1 => ?_) (fun c_1 => ?_)
      · have tc_1 := t_le c_1
        refine lv_aload_n hx hb dX12_word_100 rfl (lv_at hl 1 rfl) ?_
        refine va_get (D := D) (ci := 11) (v := .int we) (C := RX12) (T := TX12) (N := 54) hx hb hts in_n_word_X12 hown hK.1 hP 0 rfl rfl 52 (by decide) lk1 (fun _ h9 => h9) rfl dX12_word_101 ?_
        refine lv_aload_n hx hb dX12_word_104 rfl (lv_at hl 1 rfl) ?_
        refine va_get (D := D) (ci := 11) (v := .int at1_bl) (C := RX12) (T := TX12) (N := 54) hx hb hts in_n_word_X12 hown hK.1 hP 0 rfl rfl 44 (by decide) lk0 (fun _ h9 => h9) rfl dX12_word_105 ?_
        refine lv_isub hx hb dX12_word_108 ?_
        refine lv_topi (fun x_2 ex_2 => ?_)
        first | have tx_2 := t_sub ex_2 (by omega) (by omega) | skip
        refine lv_bipush (v := 7) hx hb dX12_word_109 (by decide) ?_
        refine lv_icmp_le (tgt := 118) hx hb dX12_word_111 (by decide) (fun c_3 => ?_) (fun c_3 => ?_)
        · have tc_3 := t_le c_3
          refine lv_lload_n hx hb dX12_word_118 rfl (lv_at hl 0 rfl) ?_
          exact hret ww (at1_bl, we) _ _ _ _ (show (v_at.toInt ≤ at1_bl.toInt ∧ at1_bl.toInt ≤ v_size.toInt) ∧ at1_bl.toInt ≤ we.toInt ∧ we.toInt ≤ v_size.toInt from by omega) (hP.sub [0, 1] rfl) (hD.sub [0, 1] (by decide +kernel) rfl) hS dX12_word_119
        · have tc_3 := t_nle c_3
          refine lv_lconst (v := 0) hx hb dX12_word_114 (by decide) ?_
          refine lv_goto (tgt := 119) hx hb dX12_word_115 (by decide) ?_
          exact hret 0 (at1_bl, we) _ _ _ _ (show (v_at.toInt ≤ at1_bl.toInt ∧ at1_bl.toInt ≤ v_size.toInt) ∧ at1_bl.toInt ≤ we.toInt ∧ we.toInt ≤ v_size.toInt from by omega) (hP.sub [0, 1] rfl) (hD.sub [0, 1] (by decide +kernel) rfl) hS dX12_word_119
      · have tc_1 := t_nle c_1
        refine lv_aload_n hx hb dX12_word_25 rfl (lv_at hl 1 rfl) ?_
        refine va_get (D := D) (ci := 11) (v := .ref a_text) (C := RX12) (T := TX12) (N := 54) hx hb hts in_n_word_X12 hown hK.1 hP 0 rfl rfl 41 (by decide) lk3 (fun _ h9 => h9) rfl dX12_word_26 ?_
        refine lv_aload_n hx hb dX12_word_29 rfl (lv_at hl 1 rfl) ?_
        refine va_get (D := D) (ci := 11) (v := .int we) (C := RX12) (T := TX12) (N := 54) hx hb hts in_n_word_X12 hown hK.1 hP 0 rfl rfl 52 (by decide) lk1 (fun _ h9 => h9) rfl dX12_word_30 ?_
        refine va_bald hx hb hK.1 hP 1 2 rfl rfl (t_in (by omega) (by omega)) dX12_word_33 ?_
        refine lv_topi (fun y_4 ey_4 => ?_)
        refine lv_bipush (v := 97) hx hb dX12_word_34 (by decide) ?_
        refine lv_icmp_lt (tgt := 100) hx hb dX12_word_36 (by decide) (fun c_5 => ?_) (fun c_5 => ?_)
        · have tc_5 := t_lt c_5
          refine lv_aload_n hx hb dX12_word_100 rfl (lv_at hl 1 rfl) ?_
          refine va_get (D := D) (ci := 11) (v := .int we) (C := RX12) (T := TX12) (N := 54) hx hb hts in_n_word_X12 hown hK.1 hP 0 rfl rfl 52 (by decide) lk1 (fun _ h9 => h9) rfl dX12_word_101 ?_
          refine lv_aload_n hx hb dX12_word_104 rfl (lv_at hl 1 rfl) ?_
          refine va_get (D := D) (ci := 11) (v := .int at1_bl) (C := RX12) (T := TX12) (N := 54) hx hb hts in_n_word_X12 hown hK.1 hP 0 rfl rfl 44 (by decide) lk0 (fun _ h9 => h9) rfl dX12_word_105 ?_
          refine lv_isub hx hb dX12_word_108 ?_
          refine lv_topi (fun x_6 ex_6 => ?_)
          first | have tx_6 := t_sub ex_6 (by omega) (by omega) | skip
          refine lv_bipush (v := 7) hx hb dX12_word_109 (by decide) ?_
          refine lv_icmp_le (tgt := 118) hx hb dX12_word_111 (by decide) (fun c_7 => ?_) (fun c_7 => ?_)
          · have tc_7 := t_le c_7
            refine lv_lload_n hx hb dX12_word_118 rfl (lv_at hl 0 rfl) ?_
            exact hret ww (at1_bl, we) _ _ _ _ (show (v_at.toInt ≤ at1_bl.toInt ∧ at1_bl.toInt ≤ v_size.toInt) ∧ at1_bl.toInt ≤ we.toInt ∧ we.toInt ≤ v_size.toInt from by omega) (hP.sub [0, 1] rfl) (hD.sub [0, 1] (by decide +kernel) rfl) hS dX12_word_119
          · have tc_7 := t_nle c_7
            refine lv_lconst (v := 0) hx hb dX12_word_114 (by decide) ?_
            refine lv_goto (tgt := 119) hx hb dX12_word_115 (by decide) ?_
            exact hret 0 (at1_bl, we) _ _ _ _ (show (v_at.toInt ≤ at1_bl.toInt ∧ at1_bl.toInt ≤ v_size.toInt) ∧ at1_bl.toInt ≤ we.toInt ∧ we.toInt ≤ v_size.toInt from by omega) (hP.sub [0, 1] rfl) (hD.sub [0, 1] (by decide +kernel) rfl) hS dX12_word_119
        · have tc_5 := t_nlt c_5
          refine lv_aload_n hx hb dX12_word_39 rfl (lv_at hl 1 rfl) ?_
          refine va_get (D := D) (ci := 11) (v := .ref a_text) (C := RX12) (T := TX12) (N := 54) hx hb hts in_n_word_X12 hown hK.1 hP 0 rfl rfl 41 (by decide) lk3 (fun _ h9 => h9) rfl dX12_word_40 ?_
          refine lv_aload_n hx hb dX12_word_43 rfl (lv_at hl 1 rfl) ?_
          refine va_get (D := D) (ci := 11) (v := .int we) (C := RX12) (T := TX12) (N := 54) hx hb hts in_n_word_X12 hown hK.1 hP 0 rfl rfl 52 (by decide) lk1 (fun _ h9 => h9) rfl dX12_word_44 ?_
          refine va_bald hx hb hK.1 hP 1 2 rfl rfl (t_in (by omega) (by omega)) dX12_word_47 ?_
          refine lv_topi (fun y_8 ey_8 => ?_)
          refine lv_bipush (v := 122) hx hb dX12_word_48 (by decide) ?_
          refine lv_icmp_gt (tgt := 100) hx hb dX12_word_50 (by decide) (fun c_9 => ?_) (fun c_9 => ?_)
          · have tc_9 := t_lt c_9
            refine lv_aload_n hx hb dX12_word_100 rfl (lv_at hl 1 rfl) ?_
            refine va_get (D := D) (ci := 11) (v := .int we) (C := RX12) (T := TX12) (N := 54) hx hb hts in_n_word_X12 hown hK.1 hP 0 rfl rfl 52 (by decide) lk1 (fun _ h9 => h9) rfl dX12_word_101 ?_
            refine lv_aload_n hx hb dX12_word_104 rfl (lv_at hl 1 rfl) ?_
            refine va_get (D := D) (ci := 11) (v := .int at1_bl) (C := RX12) (T := TX12) (N := 54) hx hb hts in_n_word_X12 hown hK.1 hP 0 rfl rfl 44 (by decide) lk0 (fun _ h9 => h9) rfl dX12_word_105 ?_
            refine lv_isub hx hb dX12_word_108 ?_
            refine lv_topi (fun x_10 ex_10 => ?_)
            first | have tx_10 := t_sub ex_10 (by omega) (by omega) | skip
            refine lv_bipush (v := 7) hx hb dX12_word_109 (by decide) ?_
            refine lv_icmp_le (tgt := 118) hx hb dX12_word_111 (by decide) (fun c_11 => ?_) (fun c_11 => ?_)
            · have tc_11 := t_le c_11
              refine lv_lload_n hx hb dX12_word_118 rfl (lv_at hl 0 rfl) ?_
              exact hret ww (at1_bl, we) _ _ _ _ (show (v_at.toInt ≤ at1_bl.toInt ∧ at1_bl.toInt ≤ v_size.toInt) ∧ at1_bl.toInt ≤ we.toInt ∧ we.toInt ≤ v_size.toInt from by omega) (hP.sub [0, 1] rfl) (hD.sub [0, 1] (by decide +kernel) rfl) hS dX12_word_119
            · have tc_11 := t_nle c_11
              refine lv_lconst (v := 0) hx hb dX12_word_114 (by decide) ?_
              refine lv_goto (tgt := 119) hx hb dX12_word_115 (by decide) ?_
              exact hret 0 (at1_bl, we) _ _ _ _ (show (v_at.toInt ≤ at1_bl.toInt ∧ at1_bl.toInt ≤ v_size.toInt) ∧ at1_bl.toInt ≤ we.toInt ∧ we.toInt ≤ v_size.toInt from by omega) (hP.sub [0, 1] rfl) (hD.sub [0, 1] (by decide +kernel) rfl) hS dX12_word_119
          · have tc_9 := t_nlt c_9
            refine lv_aload_n hx hb dX12_word_53 rfl (lv_at hl 1 rfl) ?_
            refine va_get (D := D) (ci := 11) (v := .int we) (C := RX12) (T := TX12) (N := 54) hx hb hts in_n_word_X12 hown hK.1 hP 0 rfl rfl 52 (by decide) lk1 (fun _ h9 => h9) rfl dX12_word_54 ?_
            refine lv_aload_n hx hb dX12_word_57 rfl (lv_at hl 1 rfl) ?_
            refine va_get (D := D) (ci := 11) (v := .int at1_bl) (C := RX12) (T := TX12) (N := 54) hx hb hts in_n_word_X12 hown hK.1 hP 0 rfl rfl 44 (by decide) lk0 (fun _ h9 => h9) rfl dX12_word_58 ?_
            refine lv_isub hx hb dX12_word_61 ?_
            refine lv_topi (fun x_12 ex_12 => ?_)
            first | have tx_12 := t_sub ex_12 (by omega) (by omega) | skip
            refine lv_bipush (v := 7) hx hb dX12_word_62 (by decide) ?_
            refine lv_icmp_ge (tgt := 85) hx hb dX12_word_64 (by decide) (fun c_13 => ?_) (fun c_13 => ?_)
            · have tc_13 := t_le c_13
              refine lv_lconst (v := 0) hx hb dX12_word_85 (by decide) ?_
              refine lv_lstore_n (lv' := [(1, .long 0), (0, .ref h)]) hx hb dX12_word_86 rfl hl (by decide) rfl (fun ls hl => ?_)
              refine lv_aload_n hx hb dX12_word_87 rfl (lv_at hl 1 rfl) ?_
              refine lv_dup hx hb dX12_word_88 rfl ?_
              refine va_get (D := D) (ci := 11) (v := .int we) (C := RX12) (T := TX12) (N := 54) hx hb hts in_n_word_X12 hown hK.1 hP 0 rfl rfl 52 (by decide) lk1 (fun _ h9 => h9) rfl dX12_word_89 ?_
              refine lv_iconst (v := 1) hx hb dX12_word_92 (by decide) ?_
              refine lv_iadd hx hb dX12_word_93 ?_
              refine lv_topi (fun x_14 ex_14 => ?_)
              first | have tx_14 := t_add ex_14 (by omega) (by omega) | skip
              refine va_put (D := D) (ci := 11) (v := .int x_14) (ty := .int) (C := RX12) (T := TX12) (N := 54) hx hb hts in_n_word_X12 tyX12 tyX12_ok nmX12 hown hK.1 hP hD hS 0 rfl rfl 52 (by decide) lk1 (fun _ h9 => h9) rfl (by decide +kernel) rfl rfl (Nat.le_of_ble_eq_true rfl) dX12_word_94 (fun H locs hP hD hS => ?_)
              have hP : va_P D vwCl [(h, .inr (11, [.int v_today, .int v_monks, .int v_aways, .int v_feasts, .int v_gifts, .int v_leaves, .int v_lates, .int v_store, .int v_allCandles, .ref a_isPriest, .ref a_bars, .ref a_joined, .ref a_turns, .ref a_awayMonk, .ref a_awayFrom, .ref a_awayTo, .ref a_feastDay, .ref a_rank, .ref a_isWeekly, .ref a_isDouble, .ref a_giftDay, .ref a_giftFrom, .ref a_owed, .ref a_said, .ref a_spared, .ref a_leaveGift, .ref a_leaveFrom, .ref a_leaveTo, .ref a_lateDay, .ref a_lateOffice, .ref a_lateBy, .ref a_guests, .ref a_who, .ref a_used, .ref a_lacks, .ref a_candles, .ref a_masses, .ref a_owing, .ref a_heldOn, .ref a_waits, .ref a_tape, .ref a_text, .int v_taped, .int v_size, .int at1_bl, .int v_fault, .int v_rules, .ref a_statements, .ref a_taken, .ref a_sort, .ref a_first, .ref a_second, .int x_14, .int v_number])), (a_text, .inl (cB, 600, .inl f_text))] H := hP
              have hD := asD hP hD
              refine lv_goto (tgt := 14) hx hb dX12_word_97 (by decide) ?_
              exact ih14 0 x_14 (by omega) (by omega) (by omega) _ _ hP hD hS ls (lv_sub hl [0, 1] rfl)
            · have tc_13 := t_nle c_13
              refine lv_lload_n hx hb dX12_word_67 rfl (lv_at hl 0 rfl) ?_
              refine lv_bipush (v := 8) hx hb dX12_word_68 (by decide) ?_
              refine lv_lshl hx hb dX12_word_70 rfl ?_
              refine lv_topl (fun w_15 ew_15 => ?_)
              refine lv_aload_n hx hb dX12_word_71 rfl (lv_at hl 1 rfl) ?_
              refine va_get (D := D) (ci := 11) (v := .ref a_text) (C := RX12) (T := TX12) (N := 54) hx hb hts in_n_word_X12 hown hK.1 hP 0 rfl rfl 41 (by decide) lk3 (fun _ h9 => h9) rfl dX12_word_72 ?_
              refine lv_aload_n hx hb dX12_word_75 rfl (lv_at hl 1 rfl) ?_
              refine va_get (D := D) (ci := 11) (v := .int we) (C := RX12) (T := TX12) (N := 54) hx hb hts in_n_word_X12 hown hK.1 hP 0 rfl rfl 52 (by decide) lk1 (fun _ h9 => h9) rfl dX12_word_76 ?_
              refine va_bald hx hb hK.1 hP 1 2 rfl rfl (t_in (by omega) (by omega)) dX12_word_79 ?_
              refine lv_topi (fun y_16 ey_16 => ?_)
              refine lv_i2l hx hb dX12_word_80 rfl ?_
              refine lv_topl (fun w_17 ew_17 => ?_)
              refine lv_lor hx hb dX12_word_81 ?_
              refine lv_topl (fun w_18 ew_18 => ?_)
              refine lv_goto (tgt := 86) hx hb dX12_word_82 (by decide) ?_
              refine lv_lstore_n (lv' := [(1, .long w_18), (0, .ref h)]) hx hb dX12_word_86 rfl hl (by decide) rfl (fun ls hl => ?_)
              refine lv_aload_n hx hb dX12_word_87 rfl (lv_at hl 1 rfl) ?_
              refine lv_dup hx hb dX12_word_88 rfl ?_
              refine va_get (D := D) (ci := 11) (v := .int we) (C := RX12) (T := TX12) (N := 54) hx hb hts in_n_word_X12 hown hK.1 hP 0 rfl rfl 52 (by decide) lk1 (fun _ h9 => h9) rfl dX12_word_89 ?_
              refine lv_iconst (v := 1) hx hb dX12_word_92 (by decide) ?_
              refine lv_iadd hx hb dX12_word_93 ?_
              refine lv_topi (fun x_19 ex_19 => ?_)
              first | have tx_19 := t_add ex_19 (by omega) (by omega) | skip
              refine va_put (D := D) (ci := 11) (v := .int x_19) (ty := .int) (C := RX12) (T := TX12) (N := 54) hx hb hts in_n_word_X12 tyX12 tyX12_ok nmX12 hown hK.1 hP hD hS 0 rfl rfl 52 (by decide) lk1 (fun _ h9 => h9) rfl (by decide +kernel) rfl rfl (Nat.le_of_ble_eq_true rfl) dX12_word_94 (fun H locs hP hD hS => ?_)
              have hP : va_P D vwCl [(h, .inr (11, [.int v_today, .int v_monks, .int v_aways, .int v_feasts, .int v_gifts, .int v_leaves, .int v_lates, .int v_store, .int v_allCandles, .ref a_isPriest, .ref a_bars, .ref a_joined, .ref a_turns, .ref a_awayMonk, .ref a_awayFrom, .ref a_awayTo, .ref a_feastDay, .ref a_rank, .ref a_isWeekly, .ref a_isDouble, .ref a_giftDay, .ref a_giftFrom, .ref a_owed, .ref a_said, .ref a_spared, .ref a_leaveGift, .ref a_leaveFrom, .ref a_leaveTo, .ref a_lateDay, .ref a_lateOffice, .ref a_lateBy, .ref a_guests, .ref a_who, .ref a_used, .ref a_lacks, .ref a_candles, .ref a_masses, .ref a_owing, .ref a_heldOn, .ref a_waits, .ref a_tape, .ref a_text, .int v_taped, .int v_size, .int at1_bl, .int v_fault, .int v_rules, .ref a_statements, .ref a_taken, .ref a_sort, .ref a_first, .ref a_second, .int x_19, .int v_number])), (a_text, .inl (cB, 600, .inl f_text))] H := hP
              have hD := asD hP hD
              refine lv_goto (tgt := 14) hx hb dX12_word_97 (by decide) ?_
              exact ih14 w_18 x_19 (by omega) (by omega) (by omega) _ _ hP hD hS ls (lv_sub hl [0, 1] rfl)
  exact loop14 ((v_size.toInt - at1_bl.toInt).toNat + 1) 0 at1_bl (by omega) (by omega) (by omega) _ _ hP hD hS ls (lv_sub hl [0, 1] rfl)

theorem in_n_takes_X12 : ∀ w ∈ wsX120, w ∈ wsX12_takes := tl_X12_takes_X12
set_option maxHeartbeats 8000000 in
set_option maxRecDepth 100000 in
theorem n_takes {l : Launch} {D : va_G} {cI cZ cB : ClassId} {sz : Nat} {h a_isPriest a_bars a_joined a_turns a_awayMonk a_awayFrom a_awayTo a_feastDay a_rank a_isWeekly a_isDouble a_giftDay a_giftFrom a_owed a_said a_spared a_leaveGift a_leaveFrom a_leaveTo a_lateDay a_lateOffice a_lateBy a_guests a_who a_used a_lacks a_candles a_masses a_owing a_heldOn a_waits a_tape a_text a_statements a_taken a_sort a_first a_second : Nat} {v_today v_monks v_aways v_feasts v_gifts v_leaves v_lates v_store v_allCandles v_taped v_size v_at v_fault v_rules v_wordEnd v_number : Int32} {f_text : Nat → Int32} {w : Int64} (hz1 : v_size.toInt ≤ 600) (ha0 : 0 ≤ v_at.toInt) (ha1 : v_at.toInt ≤ v_size.toInt) : Met l yX12_takes wsX12_takes ({ frames := 2, cells := 0, slots := 0, locals := 42 }) (RW D cI cZ cB [.ref h, .long w] sz [(h, .inr (11, [.int v_today, .int v_monks, .int v_aways, .int v_feasts, .int v_gifts, .int v_leaves, .int v_lates, .int v_store, .int v_allCandles, .ref a_isPriest, .ref a_bars, .ref a_joined, .ref a_turns, .ref a_awayMonk, .ref a_awayFrom, .ref a_awayTo, .ref a_feastDay, .ref a_rank, .ref a_isWeekly, .ref a_isDouble, .ref a_giftDay, .ref a_giftFrom, .ref a_owed, .ref a_said, .ref a_spared, .ref a_leaveGift, .ref a_leaveFrom, .ref a_leaveTo, .ref a_lateDay, .ref a_lateOffice, .ref a_lateBy, .ref a_guests, .ref a_who, .ref a_used, .ref a_lacks, .ref a_candles, .ref a_masses, .ref a_owing, .ref a_heldOn, .ref a_waits, .ref a_tape, .ref a_text, .int v_taped, .int v_size, .int v_at, .int v_fault, .int v_rules, .ref a_statements, .ref a_taken, .ref a_sort, .ref a_first, .ref a_second, .int v_wordEnd, .int v_number])), (a_text, .inl (cB, 600, .inl f_text))]) (va_Qi (fun (r : Int32) (u : Int32 × Int32) => (r.toInt = 0 ∨ r.toInt = 1) ∧ (v_at.toInt ≤ u.1.toInt ∧ u.1.toInt ≤ v_size.toInt)) (BW D [(h, .inr (11, [.int v_today, .int v_monks, .int v_aways, .int v_feasts, .int v_gifts, .int v_leaves, .int v_lates, .int v_store, .int v_allCandles, .ref a_isPriest, .ref a_bars, .ref a_joined, .ref a_turns, .ref a_awayMonk, .ref a_awayFrom, .ref a_awayTo, .ref a_feastDay, .ref a_rank, .ref a_isWeekly, .ref a_isDouble, .ref a_giftDay, .ref a_giftFrom, .ref a_owed, .ref a_said, .ref a_spared, .ref a_leaveGift, .ref a_leaveFrom, .ref a_leaveTo, .ref a_lateDay, .ref a_lateOffice, .ref a_lateBy, .ref a_guests, .ref a_who, .ref a_used, .ref a_lacks, .ref a_candles, .ref a_masses, .ref a_owing, .ref a_heldOn, .ref a_waits, .ref a_tape, .ref a_text, .int v_taped, .int v_size, .int v_at, .int v_fault, .int v_rules, .ref a_statements, .ref a_taken, .ref a_sort, .ref a_first, .ref a_second, .int v_wordEnd, .int v_number])), (a_text, .inl (cB, 600, .inl f_text))] sz (fun u : Int32 × Int32 => [(h, .inr (11, [.int v_today, .int v_monks, .int v_aways, .int v_feasts, .int v_gifts, .int v_leaves, .int v_lates, .int v_store, .int v_allCandles, .ref a_isPriest, .ref a_bars, .ref a_joined, .ref a_turns, .ref a_awayMonk, .ref a_awayFrom, .ref a_awayTo, .ref a_feastDay, .ref a_rank, .ref a_isWeekly, .ref a_isDouble, .ref a_giftDay, .ref a_giftFrom, .ref a_owed, .ref a_said, .ref a_spared, .ref a_leaveGift, .ref a_leaveFrom, .ref a_leaveTo, .ref a_lateDay, .ref a_lateOffice, .ref a_lateBy, .ref a_guests, .ref a_who, .ref a_used, .ref a_lacks, .ref a_candles, .ref a_masses, .ref a_owing, .ref a_heldOn, .ref a_waits, .ref a_tape, .ref a_text, .int v_taped, .int v_size, .int u.1, .int v_fault, .int v_rules, .ref a_statements, .ref a_taken, .ref a_sort, .ref a_first, .ref a_second, .int u.2, .int v_number])), (a_text, .inl (cB, 600, .inl f_text))])) (va_A [(h, .inr (11, [.int v_today, .int v_monks, .int v_aways, .int v_feasts, .int v_gifts, .int v_leaves, .int v_lates, .int v_store, .int v_allCandles, .ref a_isPriest, .ref a_bars, .ref a_joined, .ref a_turns, .ref a_awayMonk, .ref a_awayFrom, .ref a_awayTo, .ref a_feastDay, .ref a_rank, .ref a_isWeekly, .ref a_isDouble, .ref a_giftDay, .ref a_giftFrom, .ref a_owed, .ref a_said, .ref a_spared, .ref a_leaveGift, .ref a_leaveFrom, .ref a_leaveTo, .ref a_lateDay, .ref a_lateOffice, .ref a_lateBy, .ref a_guests, .ref a_who, .ref a_used, .ref a_lacks, .ref a_candles, .ref a_masses, .ref a_owing, .ref a_heldOn, .ref a_waits, .ref a_tape, .ref a_text, .int v_taped, .int v_size, .int v_at, .int v_fault, .int v_rules, .ref a_statements, .ref a_taken, .ref a_sort, .ref a_first, .ref a_second, .int v_wordEnd, .int v_number])), (a_text, .inl (cB, 600, .inl f_text))] sz)) 0 0 (va_A [(h, .inr (11, [.int v_today, .int v_monks, .int v_aways, .int v_feasts, .int v_gifts, .int v_leaves, .int v_lates, .int v_store, .int v_allCandles, .ref a_isPriest, .ref a_bars, .ref a_joined, .ref a_turns, .ref a_awayMonk, .ref a_awayFrom, .ref a_awayTo, .ref a_feastDay, .ref a_rank, .ref a_isWeekly, .ref a_isDouble, .ref a_giftDay, .ref a_giftFrom, .ref a_owed, .ref a_said, .ref a_spared, .ref a_leaveGift, .ref a_leaveFrom, .ref a_leaveTo, .ref a_lateDay, .ref a_lateOffice, .ref a_lateBy, .ref a_guests, .ref a_who, .ref a_used, .ref a_lacks, .ref a_candles, .ref a_masses, .ref a_owing, .ref a_heldOn, .ref a_waits, .ref a_tape, .ref a_text, .int v_taped, .int v_size, .int v_at, .int v_fault, .int v_rules, .ref a_statements, .ref a_taken, .ref a_sort, .ref a_first, .ref a_second, .int v_wordEnd, .int v_number])), (a_text, .inl (cB, 600, .inl f_text))] sz) := by
  refine rw_ret (cc := cX12_takes) (maxL := 3) (ty := .boolean) (own := RX12) (by decide) rfl rfl (Nat.le_of_ble_eq_true rfl) ?_
  intro p e s m args below meth c Q A S hin hret hP hK hD hA hS ls hl
  obtain ⟨hx, hb, hml, hown, hts⟩ := id S
  have hl : lv_has ls 3 [(0, .ref h), (1, .long w)] := hl
  have kk0 : (0 : Int32).toInt = 0 := by decide
  have kk1 : (1 : Int32).toInt = 1 := by decide
  have lk0 := hts (.fieldLink RX12 201 "AbbeyHoursModel" "wordEnd" "I") (List.mem_cons_of_mem _ (List.mem_append_left _ (List.mem_of_getElem? (i := 0) rfl)))
  have lk1 := hts (.fieldLink RX12 192 "AbbeyHoursModel" "at" "I") (List.mem_cons_of_mem _ (List.mem_append_left _ (List.mem_of_getElem? (i := 1) rfl)))
  refine lv_aload_n hx hb dX12_takes_0 rfl (lv_at hl 0 rfl) ?_
  have hPc := hP.sub (ws' := [(h, .inr (11, [.int v_today, .int v_monks, .int v_aways, .int v_feasts, .int v_gifts, .int v_leaves, .int v_lates, .int v_store, .int v_allCandles, .ref a_isPriest, .ref a_bars, .ref a_joined, .ref a_turns, .ref a_awayMonk, .ref a_awayFrom, .ref a_awayTo, .ref a_feastDay, .ref a_rank, .ref a_isWeekly, .ref a_isDouble, .ref a_giftDay, .ref a_giftFrom, .ref a_owed, .ref a_said, .ref a_spared, .ref a_leaveGift, .ref a_leaveFrom, .ref a_leaveTo, .ref a_lateDay, .ref a_lateOffice, .ref a_lateBy, .ref a_guests, .ref a_who, .ref a_used, .ref a_lacks, .ref a_candles, .ref a_masses, .ref a_owing, .ref a_heldOn, .ref a_waits, .ref a_tape, .ref a_text, .int v_taped, .int v_size, .int v_at, .int v_fault, .int v_rules, .ref a_statements, .ref a_taken, .ref a_sort, .ref a_first, .ref a_second, .int v_wordEnd, .int v_number])), (a_text, .inl (cB, 600, .inl f_text))]) [0, 1] rfl
  refine rwVl (As := []) (rest := []) (wc := [(h, .inr (11, [.int v_today, .int v_monks, .int v_aways, .int v_feasts, .int v_gifts, .int v_leaves, .int v_lates, .int v_store, .int v_allCandles, .ref a_isPriest, .ref a_bars, .ref a_joined, .ref a_turns, .ref a_awayMonk, .ref a_awayFrom, .ref a_awayTo, .ref a_feastDay, .ref a_rank, .ref a_isWeekly, .ref a_isDouble, .ref a_giftDay, .ref a_giftFrom, .ref a_owed, .ref a_said, .ref a_spared, .ref a_leaveGift, .ref a_leaveFrom, .ref a_leaveTo, .ref a_lateDay, .ref a_lateOffice, .ref a_lateBy, .ref a_guests, .ref a_who, .ref a_used, .ref a_lacks, .ref a_candles, .ref a_masses, .ref a_owing, .ref a_heldOn, .ref a_waits, .ref a_tape, .ref a_text, .int v_taped, .int v_size, .int v_at, .int v_fault, .int v_rules, .ref a_statements, .ref a_taken, .ref a_sort, .ref a_first, .ref a_second, .int v_wordEnd, .int v_number])), (a_text, .inl (cB, 600, .inl f_text))]) (wr := []) S (n_word  (by omega) (by omega) (by omega)) (cwV 0 hts gX12_takes_X12_word rfl rfl rfl ⟨rfl, hd_X12_word⟩ ⟨Nat.le_of_ble_eq_true rfl, Nat.le_of_ble_eq_true rfl⟩) hK hP hD hS hA [0, 1] [] rfl rfl (by decide +kernel) (by decide +kernel) (by decide +kernel) (va_recv hK.1 hPc (ci := 11) (q0 := 0) rfl rfl) rfl hl.1 rfl (Nat.le_of_ble_eq_true rfl) dX12_takes_1 ⟨Nat.le_of_ble_eq_true rfl, Nat.le_of_ble_eq_true rfl⟩ (fun r_1 u_1 H locs hw_1 hP hD hS => ?_)
  obtain ⟨at1_1, we1_1⟩ := u_1
  have hw_1 : (v_at.toInt ≤ at1_1.toInt ∧ at1_1.toInt ≤ v_size.toInt) ∧ at1_1.toInt ≤ we1_1.toInt ∧ we1_1.toInt ≤ v_size.toInt := hw_1
  have hP : va_P D vwCl [(h, .inr (11, [.int v_today, .int v_monks, .int v_aways, .int v_feasts, .int v_gifts, .int v_leaves, .int v_lates, .int v_store, .int v_allCandles, .ref a_isPriest, .ref a_bars, .ref a_joined, .ref a_turns, .ref a_awayMonk, .ref a_awayFrom, .ref a_awayTo, .ref a_feastDay, .ref a_rank, .ref a_isWeekly, .ref a_isDouble, .ref a_giftDay, .ref a_giftFrom, .ref a_owed, .ref a_said, .ref a_spared, .ref a_leaveGift, .ref a_leaveFrom, .ref a_leaveTo, .ref a_lateDay, .ref a_lateOffice, .ref a_lateBy, .ref a_guests, .ref a_who, .ref a_used, .ref a_lacks, .ref a_candles, .ref a_masses, .ref a_owing, .ref a_heldOn, .ref a_waits, .ref a_tape, .ref a_text, .int v_taped, .int v_size, .int at1_1, .int v_fault, .int v_rules, .ref a_statements, .ref a_taken, .ref a_sort, .ref a_first, .ref a_second, .int we1_1, .int v_number])), (a_text, .inl (cB, 600, .inl f_text))] H := hP
  have hD := asD hP hD
  refine lv_lload_n hx hb dX12_takes_4 rfl (lv_at hl 1 rfl) ?_
  refine W.lcmp hx hb dX12_takes_5 ?_
  refine lv_topi (fun x_2 ex_2 => ?_)
  refine lv_if_eq (tgt := 11) hx hb dX12_takes_6 (by decide) (fun c_3 => ?_) (fun c_3 => ?_)
  · have tc_3 := t_eq c_3
    refine lv_aload_n hx hb dX12_takes_11 rfl (lv_at hl 0 rfl) ?_
    refine lv_aload_n hx hb dX12_takes_12 rfl (lv_at hl 0 rfl) ?_
    refine va_get (D := D) (ci := 11) (v := .int we1_1) (C := RX12) (T := TX12) (N := 54) hx hb hts in_n_takes_X12 hown hK.1 hP 0 rfl rfl 52 (by decide) lk0 (fun _ h9 => h9) rfl dX12_takes_13 ?_
    refine va_put (D := D) (ci := 11) (v := .int we1_1) (ty := .int) (C := RX12) (T := TX12) (N := 54) hx hb hts in_n_takes_X12 tyX12 tyX12_ok nmX12 hown hK.1 hP hD hS 0 rfl rfl 44 (by decide) lk1 (fun _ h9 => h9) rfl (by decide +kernel) rfl rfl (Nat.le_of_ble_eq_true rfl) dX12_takes_16 (fun H locs hP hD hS => ?_)
    have hP : va_P D vwCl [(h, .inr (11, [.int v_today, .int v_monks, .int v_aways, .int v_feasts, .int v_gifts, .int v_leaves, .int v_lates, .int v_store, .int v_allCandles, .ref a_isPriest, .ref a_bars, .ref a_joined, .ref a_turns, .ref a_awayMonk, .ref a_awayFrom, .ref a_awayTo, .ref a_feastDay, .ref a_rank, .ref a_isWeekly, .ref a_isDouble, .ref a_giftDay, .ref a_giftFrom, .ref a_owed, .ref a_said, .ref a_spared, .ref a_leaveGift, .ref a_leaveFrom, .ref a_leaveTo, .ref a_lateDay, .ref a_lateOffice, .ref a_lateBy, .ref a_guests, .ref a_who, .ref a_used, .ref a_lacks, .ref a_candles, .ref a_masses, .ref a_owing, .ref a_heldOn, .ref a_waits, .ref a_tape, .ref a_text, .int v_taped, .int v_size, .int we1_1, .int v_fault, .int v_rules, .ref a_statements, .ref a_taken, .ref a_sort, .ref a_first, .ref a_second, .int we1_1, .int v_number])), (a_text, .inl (cB, 600, .inl f_text))] H := hP
    have hD := asD hP hD
    refine lv_iconst (v := 1) hx hb dX12_takes_19 (by decide) ?_
    exact hret 1 (we1_1, we1_1) _ _ _ _ (show ((1 : Int32).toInt = 0 ∨ (1 : Int32).toInt = 1) ∧ (v_at.toInt ≤ we1_1.toInt ∧ we1_1.toInt ≤ v_size.toInt) from by omega) rfl (hP.sub [0, 1] rfl) (hD.sub [0, 1] (by decide +kernel) rfl) hS dX12_takes_20
  · have tc_3 := t_neq c_3
    refine lv_iconst (v := 0) hx hb dX12_takes_9 (by decide) ?_
    exact hret 0 (at1_1, we1_1) _ _ _ _ (show ((0 : Int32).toInt = 0 ∨ (0 : Int32).toInt = 1) ∧ (v_at.toInt ≤ at1_1.toInt ∧ at1_1.toInt ≤ v_size.toInt) from by omega) rfl (hP.sub [0, 1] rfl) (hD.sub [0, 1] (by decide +kernel) rfl) hS dX12_takes_10

theorem in_n_takesNumber_X12 : ∀ w ∈ wsX120, w ∈ wsX12_takesNumber := tl_X12_takesNumber_X12
set_option maxHeartbeats 8000000 in
set_option maxRecDepth 100000 in
theorem n_takesNumber {l : Launch} {D : va_G} {cI cZ cB : ClassId} {sz : Nat} {h a_isPriest a_bars a_joined a_turns a_awayMonk a_awayFrom a_awayTo a_feastDay a_rank a_isWeekly a_isDouble a_giftDay a_giftFrom a_owed a_said a_spared a_leaveGift a_leaveFrom a_leaveTo a_lateDay a_lateOffice a_lateBy a_guests a_who a_used a_lacks a_candles a_masses a_owing a_heldOn a_waits a_tape a_text a_statements a_taken a_sort a_first a_second : Nat} {v_today v_monks v_aways v_feasts v_gifts v_leaves v_lates v_store v_allCandles v_taped v_size v_at v_fault v_rules v_wordEnd v_number : Int32} {f_text : Nat → Int32}  (hz1 : v_size.toInt ≤ 600) (ha0 : 0 ≤ v_at.toInt) (ha1 : v_at.toInt ≤ v_size.toInt) : Met l yX12_takesNumber wsX12_takesNumber ({ frames := 1, cells := 0, slots := 0, locals := 20 }) (RW D cI cZ cB [.ref h] sz [(h, .inr (11, [.int v_today, .int v_monks, .int v_aways, .int v_feasts, .int v_gifts, .int v_leaves, .int v_lates, .int v_store, .int v_allCandles, .ref a_isPriest, .ref a_bars, .ref a_joined, .ref a_turns, .ref a_awayMonk, .ref a_awayFrom, .ref a_awayTo, .ref a_feastDay, .ref a_rank, .ref a_isWeekly, .ref a_isDouble, .ref a_giftDay, .ref a_giftFrom, .ref a_owed, .ref a_said, .ref a_spared, .ref a_leaveGift, .ref a_leaveFrom, .ref a_leaveTo, .ref a_lateDay, .ref a_lateOffice, .ref a_lateBy, .ref a_guests, .ref a_who, .ref a_used, .ref a_lacks, .ref a_candles, .ref a_masses, .ref a_owing, .ref a_heldOn, .ref a_waits, .ref a_tape, .ref a_text, .int v_taped, .int v_size, .int v_at, .int v_fault, .int v_rules, .ref a_statements, .ref a_taken, .ref a_sort, .ref a_first, .ref a_second, .int v_wordEnd, .int v_number])), (a_text, .inl (cB, 600, .inl f_text))]) (va_Qi (fun (r : Int32) (u : Int32 × Int32) => (r.toInt = 0 ∨ r.toInt = 1) ∧ (v_at.toInt ≤ u.1.toInt ∧ u.1.toInt ≤ v_size.toInt)) (BW D [(h, .inr (11, [.int v_today, .int v_monks, .int v_aways, .int v_feasts, .int v_gifts, .int v_leaves, .int v_lates, .int v_store, .int v_allCandles, .ref a_isPriest, .ref a_bars, .ref a_joined, .ref a_turns, .ref a_awayMonk, .ref a_awayFrom, .ref a_awayTo, .ref a_feastDay, .ref a_rank, .ref a_isWeekly, .ref a_isDouble, .ref a_giftDay, .ref a_giftFrom, .ref a_owed, .ref a_said, .ref a_spared, .ref a_leaveGift, .ref a_leaveFrom, .ref a_leaveTo, .ref a_lateDay, .ref a_lateOffice, .ref a_lateBy, .ref a_guests, .ref a_who, .ref a_used, .ref a_lacks, .ref a_candles, .ref a_masses, .ref a_owing, .ref a_heldOn, .ref a_waits, .ref a_tape, .ref a_text, .int v_taped, .int v_size, .int v_at, .int v_fault, .int v_rules, .ref a_statements, .ref a_taken, .ref a_sort, .ref a_first, .ref a_second, .int v_wordEnd, .int v_number])), (a_text, .inl (cB, 600, .inl f_text))] sz (fun u : Int32 × Int32 => [(h, .inr (11, [.int v_today, .int v_monks, .int v_aways, .int v_feasts, .int v_gifts, .int v_leaves, .int v_lates, .int v_store, .int v_allCandles, .ref a_isPriest, .ref a_bars, .ref a_joined, .ref a_turns, .ref a_awayMonk, .ref a_awayFrom, .ref a_awayTo, .ref a_feastDay, .ref a_rank, .ref a_isWeekly, .ref a_isDouble, .ref a_giftDay, .ref a_giftFrom, .ref a_owed, .ref a_said, .ref a_spared, .ref a_leaveGift, .ref a_leaveFrom, .ref a_leaveTo, .ref a_lateDay, .ref a_lateOffice, .ref a_lateBy, .ref a_guests, .ref a_who, .ref a_used, .ref a_lacks, .ref a_candles, .ref a_masses, .ref a_owing, .ref a_heldOn, .ref a_waits, .ref a_tape, .ref a_text, .int v_taped, .int v_size, .int u.1, .int v_fault, .int v_rules, .ref a_statements, .ref a_taken, .ref a_sort, .ref a_first, .ref a_second, .int v_wordEnd, .int u.2])), (a_text, .inl (cB, 600, .inl f_text))])) (va_A [(h, .inr (11, [.int v_today, .int v_monks, .int v_aways, .int v_feasts, .int v_gifts, .int v_leaves, .int v_lates, .int v_store, .int v_allCandles, .ref a_isPriest, .ref a_bars, .ref a_joined, .ref a_turns, .ref a_awayMonk, .ref a_awayFrom, .ref a_awayTo, .ref a_feastDay, .ref a_rank, .ref a_isWeekly, .ref a_isDouble, .ref a_giftDay, .ref a_giftFrom, .ref a_owed, .ref a_said, .ref a_spared, .ref a_leaveGift, .ref a_leaveFrom, .ref a_leaveTo, .ref a_lateDay, .ref a_lateOffice, .ref a_lateBy, .ref a_guests, .ref a_who, .ref a_used, .ref a_lacks, .ref a_candles, .ref a_masses, .ref a_owing, .ref a_heldOn, .ref a_waits, .ref a_tape, .ref a_text, .int v_taped, .int v_size, .int v_at, .int v_fault, .int v_rules, .ref a_statements, .ref a_taken, .ref a_sort, .ref a_first, .ref a_second, .int v_wordEnd, .int v_number])), (a_text, .inl (cB, 600, .inl f_text))] sz)) 0 0 (va_A [(h, .inr (11, [.int v_today, .int v_monks, .int v_aways, .int v_feasts, .int v_gifts, .int v_leaves, .int v_lates, .int v_store, .int v_allCandles, .ref a_isPriest, .ref a_bars, .ref a_joined, .ref a_turns, .ref a_awayMonk, .ref a_awayFrom, .ref a_awayTo, .ref a_feastDay, .ref a_rank, .ref a_isWeekly, .ref a_isDouble, .ref a_giftDay, .ref a_giftFrom, .ref a_owed, .ref a_said, .ref a_spared, .ref a_leaveGift, .ref a_leaveFrom, .ref a_leaveTo, .ref a_lateDay, .ref a_lateOffice, .ref a_lateBy, .ref a_guests, .ref a_who, .ref a_used, .ref a_lacks, .ref a_candles, .ref a_masses, .ref a_owing, .ref a_heldOn, .ref a_waits, .ref a_tape, .ref a_text, .int v_taped, .int v_size, .int v_at, .int v_fault, .int v_rules, .ref a_statements, .ref a_taken, .ref a_sort, .ref a_first, .ref a_second, .int v_wordEnd, .int v_number])), (a_text, .inl (cB, 600, .inl f_text))] sz) := by
  refine rw_ret (cc := cX12_takesNumber) (maxL := 2) (ty := .boolean) (own := RX12) (by decide) rfl rfl (Nat.le_of_ble_eq_true rfl) ?_
  intro p e s m args below meth c Q A S hin hret hP hK hD hA hS ls hl
  obtain ⟨hx, hb, hml, hown, hts⟩ := id S
  have hl : lv_has ls 2 [(0, .ref h)] := hl
  have kk0 : (0 : Int32).toInt = 0 := by decide
  have kk1 : (1 : Int32).toInt = 1 := by decide
  have kk3 : (3 : Int32).toInt = 3 := by decide
  have kk10 : (10 : Int32).toInt = 10 := by decide
  have kk48 : (48 : Int32).toInt = 48 := by decide
  have kk57 : (57 : Int32).toInt = 57 := by decide
  have lk0 := hts (.fieldLink RX12 192 "AbbeyHoursModel" "at" "I") (List.mem_cons_of_mem _ (List.mem_append_left _ (List.mem_of_getElem? (i := 0) rfl)))
  have lk1 := hts (.fieldLink RX12 208 "AbbeyHoursModel" "number" "I") (List.mem_cons_of_mem _ (List.mem_append_left _ (List.mem_of_getElem? (i := 1) rfl)))
  have lk2 := hts (.fieldLink RX12 195 "AbbeyHoursModel" "size" "I") (List.mem_cons_of_mem _ (List.mem_append_left _ (List.mem_of_getElem? (i := 2) rfl)))
  have lk3 := hts (.fieldLink RX12 108 "AbbeyHoursModel" "text" "[B") (List.mem_cons_of_mem _ (List.mem_append_left _ (List.mem_of_getElem? (i := 3) rfl)))
  refine lv_aload_n hx hb dX12_takesNumber_0 rfl (lv_at hl 0 rfl) ?_
  have hPc := hP.sub (ws' := [(h, .inr (11, [.int v_today, .int v_monks, .int v_aways, .int v_feasts, .int v_gifts, .int v_leaves, .int v_lates, .int v_store, .int v_allCandles, .ref a_isPriest, .ref a_bars, .ref a_joined, .ref a_turns, .ref a_awayMonk, .ref a_awayFrom, .ref a_awayTo, .ref a_feastDay, .ref a_rank, .ref a_isWeekly, .ref a_isDouble, .ref a_giftDay, .ref a_giftFrom, .ref a_owed, .ref a_said, .ref a_spared, .ref a_leaveGift, .ref a_leaveFrom, .ref a_leaveTo, .ref a_lateDay, .ref a_lateOffice, .ref a_lateBy, .ref a_guests, .ref a_who, .ref a_used, .ref a_lacks, .ref a_candles, .ref a_masses, .ref a_owing, .ref a_heldOn, .ref a_waits, .ref a_tape, .ref a_text, .int v_taped, .int v_size, .int v_at, .int v_fault, .int v_rules, .ref a_statements, .ref a_taken, .ref a_sort, .ref a_first, .ref a_second, .int v_wordEnd, .int v_number])), (a_text, .inl (cB, 600, .inl f_text))]) [0, 1] rfl
  refine rwVv (As := []) (rest := []) (wc := [(h, .inr (11, [.int v_today, .int v_monks, .int v_aways, .int v_feasts, .int v_gifts, .int v_leaves, .int v_lates, .int v_store, .int v_allCandles, .ref a_isPriest, .ref a_bars, .ref a_joined, .ref a_turns, .ref a_awayMonk, .ref a_awayFrom, .ref a_awayTo, .ref a_feastDay, .ref a_rank, .ref a_isWeekly, .ref a_isDouble, .ref a_giftDay, .ref a_giftFrom, .ref a_owed, .ref a_said, .ref a_spared, .ref a_leaveGift, .ref a_leaveFrom, .ref a_leaveTo, .ref a_lateDay, .ref a_lateOffice, .ref a_lateBy, .ref a_guests, .ref a_who, .ref a_used, .ref a_lacks, .ref a_candles, .ref a_masses, .ref a_owing, .ref a_heldOn, .ref a_waits, .ref a_tape, .ref a_text, .int v_taped, .int v_size, .int v_at, .int v_fault, .int v_rules, .ref a_statements, .ref a_taken, .ref a_sort, .ref a_first, .ref a_second, .int v_wordEnd, .int v_number])), (a_text, .inl (cB, 600, .inl f_text))]) (wr := []) S (n_blanks  (by omega) (by omega) (by omega)) (cwV 0 hts gX12_takesNumber_X12_blanks rfl rfl rfl ⟨rfl, hd_X12_blanks⟩ ⟨Nat.le_of_ble_eq_true rfl, Nat.le_of_ble_eq_true rfl⟩) hK hP hD hS hA [0, 1] [] rfl rfl (by decide +kernel) (by decide +kernel) (by decide +kernel) (va_recv hK.1 hPc (ci := 11) (q0 := 0) rfl rfl) rfl hl.1 rfl (Nat.le_of_ble_eq_true rfl) dX12_takesNumber_1 ⟨Nat.le_of_ble_eq_true rfl, Nat.le_of_ble_eq_true rfl⟩ (fun u_bl H locs hw_bl hP hD hS => ?_)
  obtain ⟨at1_bl, rfl⟩ : ∃ z, z = u_bl := ⟨_, rfl⟩
  have hw_bl : (v_at.toInt ≤ at1_bl.toInt ∧ at1_bl.toInt ≤ v_size.toInt) := hw_bl
  have hP : va_P D vwCl [(h, .inr (11, [.int v_today, .int v_monks, .int v_aways, .int v_feasts, .int v_gifts, .int v_leaves, .int v_lates, .int v_store, .int v_allCandles, .ref a_isPriest, .ref a_bars, .ref a_joined, .ref a_turns, .ref a_awayMonk, .ref a_awayFrom, .ref a_awayTo, .ref a_feastDay, .ref a_rank, .ref a_isWeekly, .ref a_isDouble, .ref a_giftDay, .ref a_giftFrom, .ref a_owed, .ref a_said, .ref a_spared, .ref a_leaveGift, .ref a_leaveFrom, .ref a_leaveTo, .ref a_lateDay, .ref a_lateOffice, .ref a_lateBy, .ref a_guests, .ref a_who, .ref a_used, .ref a_lacks, .ref a_candles, .ref a_masses, .ref a_owing, .ref a_heldOn, .ref a_waits, .ref a_tape, .ref a_text, .int v_taped, .int v_size, .int at1_bl, .int v_fault, .int v_rules, .ref a_statements, .ref a_taken, .ref a_sort, .ref a_first, .ref a_second, .int v_wordEnd, .int v_number])), (a_text, .inl (cB, 600, .inl f_text))] H := hP
  have hD := asD hP hD
  refine lv_aload_n hx hb dX12_takesNumber_4 rfl (lv_at hl 0 rfl) ?_
  refine va_get (D := D) (ci := 11) (v := .int at1_bl) (C := RX12) (T := TX12) (N := 54) hx hb hts in_n_takesNumber_X12 hown hK.1 hP 0 rfl rfl 44 (by decide) lk0 (fun _ h9 => h9) rfl dX12_takesNumber_5 ?_
  refine lv_istore_n (lv' := [(1, .int at1_bl), (0, .ref h)]) hx hb dX12_takesNumber_8 rfl hl (by decide) rfl (fun ls hl => ?_)
  refine lv_aload_n hx hb dX12_takesNumber_9 rfl (lv_at hl 1 rfl) ?_
  refine lv_iconst (v := 0) hx hb dX12_takesNumber_10 (by decide) ?_
  refine va_put (D := D) (ci := 11) (v := .int 0) (ty := .int) (C := RX12) (T := TX12) (N := 54) hx hb hts in_n_takesNumber_X12 tyX12 tyX12_ok nmX12 hown hK.1 hP hD hS 0 rfl rfl 53 (by decide) lk1 (fun _ h9 => h9) rfl (by decide +kernel) rfl rfl (Nat.le_of_ble_eq_true rfl) dX12_takesNumber_11 (fun H locs hP hD hS => ?_)
  have hP : va_P D vwCl [(h, .inr (11, [.int v_today, .int v_monks, .int v_aways, .int v_feasts, .int v_gifts, .int v_leaves, .int v_lates, .int v_store, .int v_allCandles, .ref a_isPriest, .ref a_bars, .ref a_joined, .ref a_turns, .ref a_awayMonk, .ref a_awayFrom, .ref a_awayTo, .ref a_feastDay, .ref a_rank, .ref a_isWeekly, .ref a_isDouble, .ref a_giftDay, .ref a_giftFrom, .ref a_owed, .ref a_said, .ref a_spared, .ref a_leaveGift, .ref a_leaveFrom, .ref a_leaveTo, .ref a_lateDay, .ref a_lateOffice, .ref a_lateBy, .ref a_guests, .ref a_who, .ref a_used, .ref a_lacks, .ref a_candles, .ref a_masses, .ref a_owing, .ref a_heldOn, .ref a_waits, .ref a_tape, .ref a_text, .int v_taped, .int v_size, .int at1_bl, .int v_fault, .int v_rules, .ref a_statements, .ref a_taken, .ref a_sort, .ref a_first, .ref a_second, .int v_wordEnd, .int 0])), (a_text, .inl (cB, 600, .inl f_text))] H := hP
  have hD := asD hP hD
  have loop14 : ∀ (fuel : Nat) (z : Int32) (nu : Int32), v_size.toInt - z.toInt < (fuel : Int) → (at1_bl.toInt ≤ z.toInt) → (z.toInt ≤ v_size.toInt) → ∀ (H : Heap) (locs : List Loc), va_P D vwCl [(h, .inr (11, [.int v_today, .int v_monks, .int v_aways, .int v_feasts, .int v_gifts, .int v_leaves, .int v_lates, .int v_store, .int v_allCandles, .ref a_isPriest, .ref a_bars, .ref a_joined, .ref a_turns, .ref a_awayMonk, .ref a_awayFrom, .ref a_awayTo, .ref a_feastDay, .ref a_rank, .ref a_isWeekly, .ref a_isDouble, .ref a_giftDay, .ref a_giftFrom, .ref a_owed, .ref a_said, .ref a_spared, .ref a_leaveGift, .ref a_leaveFrom, .ref a_leaveTo, .ref a_lateDay, .ref a_lateOffice, .ref a_lateBy, .ref a_guests, .ref a_who, .ref a_used, .ref a_lacks, .ref a_candles, .ref a_masses, .ref a_owing, .ref a_heldOn, .ref a_waits, .ref a_tape, .ref a_text, .int v_taped, .int v_size, .int at1_bl, .int v_fault, .int v_rules, .ref a_statements, .ref a_taken, .ref a_sort, .ref a_first, .ref a_second, .int v_wordEnd, .int nu])), (a_text, .inl (cB, 600, .inl f_text))] H → va_D A [(h, .inr (11, [.int v_today, .int v_monks, .int v_aways, .int v_feasts, .int v_gifts, .int v_leaves, .int v_lates, .int v_store, .int v_allCandles, .ref a_isPriest, .ref a_bars, .ref a_joined, .ref a_turns, .ref a_awayMonk, .ref a_awayFrom, .ref a_awayTo, .ref a_feastDay, .ref a_rank, .ref a_isWeekly, .ref a_isDouble, .ref a_giftDay, .ref a_giftFrom, .ref a_owed, .ref a_said, .ref a_spared, .ref a_leaveGift, .ref a_leaveFrom, .ref a_leaveTo, .ref a_lateDay, .ref a_lateOffice, .ref a_lateBy, .ref a_guests, .ref a_who, .ref a_used, .ref a_lacks, .ref a_candles, .ref a_masses, .ref a_owing, .ref a_heldOn, .ref a_waits, .ref a_tape, .ref a_text, .int v_taped, .int v_size, .int at1_bl, .int v_fault, .int v_rules, .ref a_statements, .ref a_taken, .ref a_sort, .ref a_first, .ref a_second, .int v_wordEnd, .int nu])), (a_text, .inl (cB, 600, .inl f_text))] → va_S A s.heap H locs → ∀ ls : Array Slot, lv_has ls 2 [(1, .int z), (0, .ref h)] → W p l e ({ frames := 1, cells := 0, slots := 0, locals := 20 } : Room) s m args below meth c H locs 0 0 Q (F0 m 14 ls []) := by
    intro fuel
    induction fuel with
    | zero =>
      intro z nu hmu hw0 hw1 H locs hP hD hS ls hl
      exfalso; omega
    | succ fuel ih14 =>
      intro z nu hmu hw0 hw1 H locs hP hD hS ls hl
      refine lv_iload_n hx hb dX12_takesNumber_14 rfl (lv_at hl 0 rfl) ?_
      refine lv_aload_n hx hb dX12_takesNumber_15 rfl (lv_at hl 1 rfl) ?_
      refine va_get (D := D) (ci := 11) (v := .int v_size) (C := RX12) (T := TX12) (N := 54) hx hb hts in_n_takesNumber_X12 hown hK.1 hP 0 rfl rfl 43 (by decide) lk2 (fun _ h9 => h9) rfl dX12_takesNumber_16 ?_
      refine lv_icmp_ge (tgt := 81) hx hb dX12_takesNumber_19 (by decide) (fun c_1 => ?_) (fun c_1 => ?_)
      · have tc_1 := t_le c_1
        refine lv_iload_n hx hb dX12_takesNumber_81 rfl (lv_at hl 0 rfl) ?_
        refine lv_aload_n hx hb dX12_takesNumber_82 rfl (lv_at hl 1 rfl) ?_
        refine va_get (D := D) (ci := 11) (v := .int at1_bl) (C := RX12) (T := TX12) (N := 54) hx hb hts in_n_takesNumber_X12 hown hK.1 hP 0 rfl rfl 44 (by decide) lk0 (fun _ h9 => h9) rfl dX12_takesNumber_83 ?_
        refine lv_icmp_eq (tgt := 99) hx hb dX12_takesNumber_86 (by decide) (fun c_2 => ?_) (fun c_2 => ?_)
        · have tc_2 := t_eq c_2
          refine lv_iconst (v := 0) hx hb dX12_takesNumber_99 (by decide) ?_
          exact hret 0 (at1_bl, nu) _ _ _ _ (show ((0 : Int32).toInt = 0 ∨ (0 : Int32).toInt = 1) ∧ (v_at.toInt ≤ at1_bl.toInt ∧ at1_bl.toInt ≤ v_size.toInt) from by omega) rfl (hP.sub [0, 1] rfl) (hD.sub [0, 1] (by decide +kernel) rfl) hS dX12_takesNumber_100
        · have tc_2 := t_neq c_2
          refine lv_iload_n hx hb dX12_takesNumber_89 rfl (lv_at hl 0 rfl) ?_
          refine lv_aload_n hx hb dX12_takesNumber_90 rfl (lv_at hl 1 rfl) ?_
          refine va_get (D := D) (ci := 11) (v := .int at1_bl) (C := RX12) (T := TX12) (N := 54) hx hb hts in_n_takesNumber_X12 hown hK.1 hP 0 rfl rfl 44 (by decide) lk0 (fun _ h9 => h9) rfl dX12_takesNumber_91 ?_
          refine lv_isub hx hb dX12_takesNumber_94 ?_
          refine lv_topi (fun x_3 ex_3 => ?_)
          first | have tx_3 := t_sub ex_3 (by omega) (by omega) | skip
          refine lv_iconst (v := 3) hx hb dX12_takesNumber_95 (by decide) ?_
          refine lv_icmp_le (tgt := 101) hx hb dX12_takesNumber_96 (by decide) (fun c_4 => ?_) (fun c_4 => ?_)
          · have tc_4 := t_le c_4
            refine lv_aload_n hx hb dX12_takesNumber_101 rfl (lv_at hl 1 rfl) ?_
            refine lv_iload_n hx hb dX12_takesNumber_102 rfl (lv_at hl 0 rfl) ?_
            refine va_put (D := D) (ci := 11) (v := .int z) (ty := .int) (C := RX12) (T := TX12) (N := 54) hx hb hts in_n_takesNumber_X12 tyX12 tyX12_ok nmX12 hown hK.1 hP hD hS 0 rfl rfl 44 (by decide) lk0 (fun _ h9 => h9) rfl (by decide +kernel) rfl rfl (Nat.le_of_ble_eq_true rfl) dX12_takesNumber_103 (fun H locs hP hD hS => ?_)
            have hP : va_P D vwCl [(h, .inr (11, [.int v_today, .int v_monks, .int v_aways, .int v_feasts, .int v_gifts, .int v_leaves, .int v_lates, .int v_store, .int v_allCandles, .ref a_isPriest, .ref a_bars, .ref a_joined, .ref a_turns, .ref a_awayMonk, .ref a_awayFrom, .ref a_awayTo, .ref a_feastDay, .ref a_rank, .ref a_isWeekly, .ref a_isDouble, .ref a_giftDay, .ref a_giftFrom, .ref a_owed, .ref a_said, .ref a_spared, .ref a_leaveGift, .ref a_leaveFrom, .ref a_leaveTo, .ref a_lateDay, .ref a_lateOffice, .ref a_lateBy, .ref a_guests, .ref a_who, .ref a_used, .ref a_lacks, .ref a_candles, .ref a_masses, .ref a_owing, .ref a_heldOn, .ref a_waits, .ref a_tape, .ref a_text, .int v_taped, .int v_size, .int z, .int v_fault, .int v_rules, .ref a_statements, .ref a_taken, .ref a_sort, .ref a_first, .ref a_second, .int v_wordEnd, .int nu])), (a_text, .inl (cB, 600, .inl f_text))] H := hP
            have hD := asD hP hD
            refine lv_iconst (v := 1) hx hb dX12_takesNumber_106 (by decide) ?_
            exact hret 1 (z, nu) _ _ _ _ (show ((1 : Int32).toInt = 0 ∨ (1 : Int32).toInt = 1) ∧ (v_at.toInt ≤ z.toInt ∧ z.toInt ≤ v_size.toInt) from by omega) rfl (hP.sub [0, 1] rfl) (hD.sub [0, 1] (by decide +kernel) rfl) hS dX12_takesNumber_107
          · have tc_4 := t_nle c_4
            refine lv_iconst (v := 0) hx hb dX12_takesNumber_99 (by decide) ?_
            exact hret 0 (at1_bl, nu) _ _ _ _ (show ((0 : Int32).toInt = 0 ∨ (0 : Int32).toInt = 1) ∧ (v_at.toInt ≤ at1_bl.toInt ∧ at1_bl.toInt ≤ v_size.toInt) from by omega) rfl (hP.sub [0, 1] rfl) (hD.sub [0, 1] (by decide +kernel) rfl) hS dX12_takesNumber_100
      · have tc_1 := t_nle c_1
        refine lv_aload_n hx hb dX12_takesNumber_22 rfl (lv_at hl 1 rfl) ?_
        refine va_get (D := D) (ci := 11) (v := .ref a_text) (C := RX12) (T := TX12) (N := 54) hx hb hts in_n_takesNumber_X12 hown hK.1 hP 0 rfl rfl 41 (by decide) lk3 (fun _ h9 => h9) rfl dX12_takesNumber_23 ?_
        refine lv_iload_n hx hb dX12_takesNumber_26 rfl (lv_at hl 0 rfl) ?_
        refine va_bald hx hb hK.1 hP 1 2 rfl rfl (t_in (by omega) (by omega)) dX12_takesNumber_27 ?_
        refine lv_topi (fun y_5 ey_5 => ?_)
        refine lv_bipush (v := 48) hx hb dX12_takesNumber_28 (by decide) ?_
        refine lv_icmp_lt (tgt := 81) hx hb dX12_takesNumber_30 (by decide) (fun c_6 => ?_) (fun c_6 => ?_)
        · have tc_6 := t_lt c_6
          refine lv_iload_n hx hb dX12_takesNumber_81 rfl (lv_at hl 0 rfl) ?_
          refine lv_aload_n hx hb dX12_takesNumber_82 rfl (lv_at hl 1 rfl) ?_
          refine va_get (D := D) (ci := 11) (v := .int at1_bl) (C := RX12) (T := TX12) (N := 54) hx hb hts in_n_takesNumber_X12 hown hK.1 hP 0 rfl rfl 44 (by decide) lk0 (fun _ h9 => h9) rfl dX12_takesNumber_83 ?_
          refine lv_icmp_eq (tgt := 99) hx hb dX12_takesNumber_86 (by decide) (fun c_7 => ?_) (fun c_7 => ?_)
          · have tc_7 := t_eq c_7
            refine lv_iconst (v := 0) hx hb dX12_takesNumber_99 (by decide) ?_
            exact hret 0 (at1_bl, nu) _ _ _ _ (show ((0 : Int32).toInt = 0 ∨ (0 : Int32).toInt = 1) ∧ (v_at.toInt ≤ at1_bl.toInt ∧ at1_bl.toInt ≤ v_size.toInt) from by omega) rfl (hP.sub [0, 1] rfl) (hD.sub [0, 1] (by decide +kernel) rfl) hS dX12_takesNumber_100
          · have tc_7 := t_neq c_7
            refine lv_iload_n hx hb dX12_takesNumber_89 rfl (lv_at hl 0 rfl) ?_
            refine lv_aload_n hx hb dX12_takesNumber_90 rfl (lv_at hl 1 rfl) ?_
            refine va_get (D := D) (ci := 11) (v := .int at1_bl) (C := RX12) (T := TX12) (N := 54) hx hb hts in_n_takesNumber_X12 hown hK.1 hP 0 rfl rfl 44 (by decide) lk0 (fun _ h9 => h9) rfl dX12_takesNumber_91 ?_
            refine lv_isub hx hb dX12_takesNumber_94 ?_
            refine lv_topi (fun x_8 ex_8 => ?_)
            first | have tx_8 := t_sub ex_8 (by omega) (by omega) | skip
            refine lv_iconst (v := 3) hx hb dX12_takesNumber_95 (by decide) ?_
            refine lv_icmp_le (tgt := 101) hx hb dX12_takesNumber_96 (by decide) (fun c_9 => ?_) (fun c_9 => ?_)
            · have tc_9 := t_le c_9
              refine lv_aload_n hx hb dX12_takesNumber_101 rfl (lv_at hl 1 rfl) ?_
              refine lv_iload_n hx hb dX12_takesNumber_102 rfl (lv_at hl 0 rfl) ?_
              refine va_put (D := D) (ci := 11) (v := .int z) (ty := .int) (C := RX12) (T := TX12) (N := 54) hx hb hts in_n_takesNumber_X12 tyX12 tyX12_ok nmX12 hown hK.1 hP hD hS 0 rfl rfl 44 (by decide) lk0 (fun _ h9 => h9) rfl (by decide +kernel) rfl rfl (Nat.le_of_ble_eq_true rfl) dX12_takesNumber_103 (fun H locs hP hD hS => ?_)
              have hP : va_P D vwCl [(h, .inr (11, [.int v_today, .int v_monks, .int v_aways, .int v_feasts, .int v_gifts, .int v_leaves, .int v_lates, .int v_store, .int v_allCandles, .ref a_isPriest, .ref a_bars, .ref a_joined, .ref a_turns, .ref a_awayMonk, .ref a_awayFrom, .ref a_awayTo, .ref a_feastDay, .ref a_rank, .ref a_isWeekly, .ref a_isDouble, .ref a_giftDay, .ref a_giftFrom, .ref a_owed, .ref a_said, .ref a_spared, .ref a_leaveGift, .ref a_leaveFrom, .ref a_leaveTo, .ref a_lateDay, .ref a_lateOffice, .ref a_lateBy, .ref a_guests, .ref a_who, .ref a_used, .ref a_lacks, .ref a_candles, .ref a_masses, .ref a_owing, .ref a_heldOn, .ref a_waits, .ref a_tape, .ref a_text, .int v_taped, .int v_size, .int z, .int v_fault, .int v_rules, .ref a_statements, .ref a_taken, .ref a_sort, .ref a_first, .ref a_second, .int v_wordEnd, .int nu])), (a_text, .inl (cB, 600, .inl f_text))] H := hP
              have hD := asD hP hD
              refine lv_iconst (v := 1) hx hb dX12_takesNumber_106 (by decide) ?_
              exact hret 1 (z, nu) _ _ _ _ (show ((1 : Int32).toInt = 0 ∨ (1 : Int32).toInt = 1) ∧ (v_at.toInt ≤ z.toInt ∧ z.toInt ≤ v_size.toInt) from by omega) rfl (hP.sub [0, 1] rfl) (hD.sub [0, 1] (by decide +kernel) rfl) hS dX12_takesNumber_107
            · have tc_9 := t_nle c_9
              refine lv_iconst (v := 0) hx hb dX12_takesNumber_99 (by decide) ?_
              exact hret 0 (at1_bl, nu) _ _ _ _ (show ((0 : Int32).toInt = 0 ∨ (0 : Int32).toInt = 1) ∧ (v_at.toInt ≤ at1_bl.toInt ∧ at1_bl.toInt ≤ v_size.toInt) from by omega) rfl (hP.sub [0, 1] rfl) (hD.sub [0, 1] (by decide +kernel) rfl) hS dX12_takesNumber_100
        · have tc_6 := t_nlt c_6
          refine lv_aload_n hx hb dX12_takesNumber_33 rfl (lv_at hl 1 rfl) ?_
          refine va_get (D := D) (ci := 11) (v := .ref a_text) (C := RX12) (T := TX12) (N := 54) hx hb hts in_n_takesNumber_X12 hown hK.1 hP 0 rfl rfl 41 (by decide) lk3 (fun _ h9 => h9) rfl dX12_takesNumber_34 ?_
          refine lv_iload_n hx hb dX12_takesNumber_37 rfl (lv_at hl 0 rfl) ?_
          refine va_bald hx hb hK.1 hP 1 2 rfl rfl (t_in (by omega) (by omega)) dX12_takesNumber_38 ?_
          refine lv_topi (fun y_10 ey_10 => ?_)
          refine lv_bipush (v := 57) hx hb dX12_takesNumber_39 (by decide) ?_
          refine lv_icmp_gt (tgt := 81) hx hb dX12_takesNumber_41 (by decide) (fun c_11 => ?_) (fun c_11 => ?_)
          · have tc_11 := t_lt c_11
            refine lv_iload_n hx hb dX12_takesNumber_81 rfl (lv_at hl 0 rfl) ?_
            refine lv_aload_n hx hb dX12_takesNumber_82 rfl (lv_at hl 1 rfl) ?_
            refine va_get (D := D) (ci := 11) (v := .int at1_bl) (C := RX12) (T := TX12) (N := 54) hx hb hts in_n_takesNumber_X12 hown hK.1 hP 0 rfl rfl 44 (by decide) lk0 (fun _ h9 => h9) rfl dX12_takesNumber_83 ?_
            refine lv_icmp_eq (tgt := 99) hx hb dX12_takesNumber_86 (by decide) (fun c_12 => ?_) (fun c_12 => ?_)
            · have tc_12 := t_eq c_12
              refine lv_iconst (v := 0) hx hb dX12_takesNumber_99 (by decide) ?_
              exact hret 0 (at1_bl, nu) _ _ _ _ (show ((0 : Int32).toInt = 0 ∨ (0 : Int32).toInt = 1) ∧ (v_at.toInt ≤ at1_bl.toInt ∧ at1_bl.toInt ≤ v_size.toInt) from by omega) rfl (hP.sub [0, 1] rfl) (hD.sub [0, 1] (by decide +kernel) rfl) hS dX12_takesNumber_100
            · have tc_12 := t_neq c_12
              refine lv_iload_n hx hb dX12_takesNumber_89 rfl (lv_at hl 0 rfl) ?_
              refine lv_aload_n hx hb dX12_takesNumber_90 rfl (lv_at hl 1 rfl) ?_
              refine va_get (D := D) (ci := 11) (v := .int at1_bl) (C := RX12) (T := TX12) (N := 54) hx hb hts in_n_takesNumber_X12 hown hK.1 hP 0 rfl rfl 44 (by decide) lk0 (fun _ h9 => h9) rfl dX12_takesNumber_91 ?_
              refine lv_isub hx hb dX12_takesNumber_94 ?_
              refine lv_topi (fun x_13 ex_13 => ?_)
              first | have tx_13 := t_sub ex_13 (by omega) (by omega) | skip
              refine lv_iconst (v := 3) hx hb dX12_takesNumber_95 (by decide) ?_
              refine lv_icmp_le (tgt := 101) hx hb dX12_takesNumber_96 (by decide) (fun c_14 => ?_) (fun c_14 => ?_)
              · have tc_14 := t_le c_14
                refine lv_aload_n hx hb dX12_takesNumber_101 rfl (lv_at hl 1 rfl) ?_
                refine lv_iload_n hx hb dX12_takesNumber_102 rfl (lv_at hl 0 rfl) ?_
                refine va_put (D := D) (ci := 11) (v := .int z) (ty := .int) (C := RX12) (T := TX12) (N := 54) hx hb hts in_n_takesNumber_X12 tyX12 tyX12_ok nmX12 hown hK.1 hP hD hS 0 rfl rfl 44 (by decide) lk0 (fun _ h9 => h9) rfl (by decide +kernel) rfl rfl (Nat.le_of_ble_eq_true rfl) dX12_takesNumber_103 (fun H locs hP hD hS => ?_)
                have hP : va_P D vwCl [(h, .inr (11, [.int v_today, .int v_monks, .int v_aways, .int v_feasts, .int v_gifts, .int v_leaves, .int v_lates, .int v_store, .int v_allCandles, .ref a_isPriest, .ref a_bars, .ref a_joined, .ref a_turns, .ref a_awayMonk, .ref a_awayFrom, .ref a_awayTo, .ref a_feastDay, .ref a_rank, .ref a_isWeekly, .ref a_isDouble, .ref a_giftDay, .ref a_giftFrom, .ref a_owed, .ref a_said, .ref a_spared, .ref a_leaveGift, .ref a_leaveFrom, .ref a_leaveTo, .ref a_lateDay, .ref a_lateOffice, .ref a_lateBy, .ref a_guests, .ref a_who, .ref a_used, .ref a_lacks, .ref a_candles, .ref a_masses, .ref a_owing, .ref a_heldOn, .ref a_waits, .ref a_tape, .ref a_text, .int v_taped, .int v_size, .int z, .int v_fault, .int v_rules, .ref a_statements, .ref a_taken, .ref a_sort, .ref a_first, .ref a_second, .int v_wordEnd, .int nu])), (a_text, .inl (cB, 600, .inl f_text))] H := hP
                have hD := asD hP hD
                refine lv_iconst (v := 1) hx hb dX12_takesNumber_106 (by decide) ?_
                exact hret 1 (z, nu) _ _ _ _ (show ((1 : Int32).toInt = 0 ∨ (1 : Int32).toInt = 1) ∧ (v_at.toInt ≤ z.toInt ∧ z.toInt ≤ v_size.toInt) from by omega) rfl (hP.sub [0, 1] rfl) (hD.sub [0, 1] (by decide +kernel) rfl) hS dX12_takesNumber_107
              · have tc_14 := t_nle c_14
                refine lv_iconst (v := 0) hx hb dX12_takesNumber_99 (by decide) ?_
                exact hret 0 (at1_bl, nu) _ _ _ _ (show ((0 : Int32).toInt = 0 ∨ (0 : Int32).toInt = 1) ∧ (v_at.toInt ≤ at1_bl.toInt ∧ at1_bl.toInt ≤ v_size.toInt) from by omega) rfl (hP.sub [0, 1] rfl) (hD.sub [0, 1] (by decide +kernel) rfl) hS dX12_takesNumber_100
          · have tc_11 := t_nlt c_11
            refine lv_iload_n hx hb dX12_takesNumber_44 rfl (lv_at hl 0 rfl) ?_
            refine lv_aload_n hx hb dX12_takesNumber_45 rfl (lv_at hl 1 rfl) ?_
            refine va_get (D := D) (ci := 11) (v := .int at1_bl) (C := RX12) (T := TX12) (N := 54) hx hb hts in_n_takesNumber_X12 hown hK.1 hP 0 rfl rfl 44 (by decide) lk0 (fun _ h9 => h9) rfl dX12_takesNumber_46 ?_
            refine lv_isub hx hb dX12_takesNumber_49 ?_
            refine lv_topi (fun x_15 ex_15 => ?_)
            first | have tx_15 := t_sub ex_15 (by omega) (by omega) | skip
            refine lv_iconst (v := 3) hx hb dX12_takesNumber_50 (by decide) ?_
            refine lv_icmp_ge (tgt := 75) hx hb dX12_takesNumber_51 (by decide) (fun c_16 => ?_) (fun c_16 => ?_)
            · have tc_16 := t_le c_16
              obtain ⟨x_17, ex_17⟩ : ∃ y : Int32, y = z + 1 := ⟨_, rfl⟩
              refine lv_iinc (v := x_17) (lv' := [(1, .int x_17), (0, .ref h)]) hx hb dX12_takesNumber_75 hl (k := 0) rfl (by rw [ex_17]; rfl) (by decide) rfl (fun ls hl => ?_)
              first | have tx_17 := t_add ex_17 (by omega) (by omega) | skip
              refine lv_goto (tgt := 14) hx hb dX12_takesNumber_78 (by decide) ?_
              exact ih14 x_17 nu (by omega) (by omega) (by omega) _ _ hP hD hS ls (lv_sub hl [0, 1] rfl)
            · have tc_16 := t_nle c_16
              refine lv_aload_n hx hb dX12_takesNumber_54 rfl (lv_at hl 1 rfl) ?_
              refine lv_bipush (v := 10) hx hb dX12_takesNumber_55 (by decide) ?_
              refine lv_aload_n hx hb dX12_takesNumber_57 rfl (lv_at hl 1 rfl) ?_
              refine va_get (D := D) (ci := 11) (v := .int nu) (C := RX12) (T := TX12) (N := 54) hx hb hts in_n_takesNumber_X12 hown hK.1 hP 0 rfl rfl 53 (by decide) lk1 (fun _ h9 => h9) rfl dX12_takesNumber_58 ?_
              refine lv_imul hx hb dX12_takesNumber_61 ?_
              refine lv_topi (fun x_18 ex_18 => ?_)
              refine lv_aload_n hx hb dX12_takesNumber_62 rfl (lv_at hl 1 rfl) ?_
              refine va_get (D := D) (ci := 11) (v := .ref a_text) (C := RX12) (T := TX12) (N := 54) hx hb hts in_n_takesNumber_X12 hown hK.1 hP 0 rfl rfl 41 (by decide) lk3 (fun _ h9 => h9) rfl dX12_takesNumber_63 ?_
              refine lv_iload_n hx hb dX12_takesNumber_66 rfl (lv_at hl 0 rfl) ?_
              refine va_bald hx hb hK.1 hP 1 2 rfl rfl (t_in (by omega) (by omega)) dX12_takesNumber_67 ?_
              refine lv_topi (fun y_19 ey_19 => ?_)
              refine lv_iadd hx hb dX12_takesNumber_68 ?_
              refine lv_topi (fun x_20 ex_20 => ?_)
              refine lv_bipush (v := 48) hx hb dX12_takesNumber_69 (by decide) ?_
              refine lv_isub hx hb dX12_takesNumber_71 ?_
              refine lv_topi (fun x_21 ex_21 => ?_)
              refine va_put (D := D) (ci := 11) (v := .int x_21) (ty := .int) (C := RX12) (T := TX12) (N := 54) hx hb hts in_n_takesNumber_X12 tyX12 tyX12_ok nmX12 hown hK.1 hP hD hS 0 rfl rfl 53 (by decide) lk1 (fun _ h9 => h9) rfl (by decide +kernel) rfl rfl (Nat.le_of_ble_eq_true rfl) dX12_takesNumber_72 (fun H locs hP hD hS => ?_)
              have hP : va_P D vwCl [(h, .inr (11, [.int v_today, .int v_monks, .int v_aways, .int v_feasts, .int v_gifts, .int v_leaves, .int v_lates, .int v_store, .int v_allCandles, .ref a_isPriest, .ref a_bars, .ref a_joined, .ref a_turns, .ref a_awayMonk, .ref a_awayFrom, .ref a_awayTo, .ref a_feastDay, .ref a_rank, .ref a_isWeekly, .ref a_isDouble, .ref a_giftDay, .ref a_giftFrom, .ref a_owed, .ref a_said, .ref a_spared, .ref a_leaveGift, .ref a_leaveFrom, .ref a_leaveTo, .ref a_lateDay, .ref a_lateOffice, .ref a_lateBy, .ref a_guests, .ref a_who, .ref a_used, .ref a_lacks, .ref a_candles, .ref a_masses, .ref a_owing, .ref a_heldOn, .ref a_waits, .ref a_tape, .ref a_text, .int v_taped, .int v_size, .int at1_bl, .int v_fault, .int v_rules, .ref a_statements, .ref a_taken, .ref a_sort, .ref a_first, .ref a_second, .int v_wordEnd, .int x_21])), (a_text, .inl (cB, 600, .inl f_text))] H := hP
              have hD := asD hP hD
              obtain ⟨x_22, ex_22⟩ : ∃ y : Int32, y = z + 1 := ⟨_, rfl⟩
              refine lv_iinc (v := x_22) (lv' := [(1, .int x_22), (0, .ref h)]) hx hb dX12_takesNumber_75 hl (k := 0) rfl (by rw [ex_22]; rfl) (by decide) rfl (fun ls hl => ?_)
              first | have tx_22 := t_add ex_22 (by omega) (by omega) | skip
              refine lv_goto (tgt := 14) hx hb dX12_takesNumber_78 (by decide) ?_
              exact ih14 x_22 x_21 (by omega) (by omega) (by omega) _ _ hP hD hS ls (lv_sub hl [0, 1] rfl)
  exact loop14 ((v_size.toInt - at1_bl.toInt).toNat + 1) at1_bl 0 (by omega) (by omega) (by omega) _ _ hP hD hS ls (lv_sub hl [0, 1] rfl)

