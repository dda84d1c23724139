theorem in_n_lateRow_X12 : ∀ w ∈ wsX120, w ∈ wsX12_lateRow := tl_X12_lateRow_X12
set_option maxHeartbeats 8000000 in
set_option maxRecDepth 100000 in
theorem n_lateRow {l : Launch} {D : va_G} {cI cZ cB : ClassId} {h a_isPriest a_bars a_joined a_turns a_awayMonk a_awayFrom a_awayTo a_feastDay a_rank a_isWeekly a_isDouble a_giftDay a_giftFrom a_owed a_said a_spared a_leaveGift a_leaveFrom a_leaveTo a_lateDay a_lateOffice a_lateBy a_guests a_who a_used a_lacks a_candles a_masses a_owing a_heldOn a_waits a_tape a_text a_statements a_taken a_sort a_first a_second : Nat} {v_today v_monks v_aways v_feasts v_gifts v_leaves v_lates v_store v_allCandles v_taped v_size v_at v_fault v_rules v_wordEnd v_number : Int32} {f_lateDay f_lateOffice : Nat → Int32} {d k : Int32} (h0_lates : 0 ≤ v_lates.toInt) (h1_lates : v_lates.toInt ≤ 100) : Met l yX12_lateRow wsX12_lateRow ({ frames := 0, cells := 0, slots := 0, locals := 0 }) (RO D cI cZ cB [.ref h, .int d, .int k] [(h, .inr (11, [.int v_today, .int v_monks, .int v_aways, .int v_feasts, .int v_gifts, .int v_leaves, .int v_lates, .int v_store, .int v_allCandles, .ref a_isPriest, .ref a_bars, .ref a_joined, .ref a_turns, .ref a_awayMonk, .ref a_awayFrom, .ref a_awayTo, .ref a_feastDay, .ref a_rank, .ref a_isWeekly, .ref a_isDouble, .ref a_giftDay, .ref a_giftFrom, .ref a_owed, .ref a_said, .ref a_spared, .ref a_leaveGift, .ref a_leaveFrom, .ref a_leaveTo, .ref a_lateDay, .ref a_lateOffice, .ref a_lateBy, .ref a_guests, .ref a_who, .ref a_used, .ref a_lacks, .ref a_candles, .ref a_masses, .ref a_owing, .ref a_heldOn, .ref a_waits, .ref a_tape, .ref a_text, .int v_taped, .int v_size, .int v_at, .int v_fault, .int v_rules, .ref a_statements, .ref a_taken, .ref a_sort, .ref a_first, .ref a_second, .int v_wordEnd, .int v_number])), (a_lateDay, .inl (cI, 100, .inl f_lateDay)), (a_lateOffice, .inl (cI, 100, .inl f_lateOffice))]) (vp_Si (fun r : Int32 => r.toInt = -1 ∨ (0 ≤ r.toInt ∧ r.toInt < v_lates.toInt))) 0 0 (fun _ => False) := by
  refine ro_ret (cc := cX12_lateRow) (maxL := 4) (ty := .int) (own := RX12) (by decide) rfl rfl (Nat.le_of_ble_eq_true rfl) ?_
  intro p e s m args below meth c Q S hret hP hK ls hl
  obtain ⟨hx, hb, hml, hown, hts⟩ := id S
  have hl : lv_has ls 4 [(0, .ref h), (1, .int d), (2, .int k)] := hl
  have kkm1 : (-1 : Int32).toInt = -1 := by decide
  have kk0 : (0 : Int32).toInt = 0 := by decide
  have kk1 : (1 : Int32).toInt = 1 := by decide
  have lk0 := hts (.fieldLink RX12 172 "AbbeyHoursModel" "lates" "I") (List.mem_cons_of_mem _ (List.mem_append_left _ (List.mem_of_getElem? (i := 0) rfl)))
  have lk1 := hts (.fieldLink RX12 68 "AbbeyHoursModel" "lateDay" "[I") (List.mem_cons_of_mem _ (List.mem_append_left _ (List.mem_of_getElem? (i := 1) rfl)))
  have lk2 := hts (.fieldLink RX12 71 "AbbeyHoursModel" "lateOffice" "[I") (List.mem_cons_of_mem _ (List.mem_append_left _ (List.mem_of_getElem? (i := 2) rfl)))
  refine lv_iconst (v := 0) hx hb dX12_lateRow_0 (by decide) ?_
  refine lv_istore_n (lv' := [(3, .int 0), (0, .ref h), (1, .int d), (2, .int k)]) hx hb dX12_lateRow_1 rfl hl (by decide) rfl (fun ls hl => ?_)
  have loop2 : ∀ (fuel : Nat) (j : Int32), v_lates.toInt - j.toInt < (fuel : Int) → (0 ≤ j.toInt) → (j.toInt ≤ v_lates.toInt) → ∀ ls : Array Slot, lv_has ls 4 [(3, .int j), (0, .ref h), (1, .int d), (2, .int k)] → W p l e ({ frames := 0, cells := 0, slots := 0, locals := 0 } : Room) s m args below meth c s.heap [] 0 0 Q (F0 m 2 ls []) := by
    intro fuel
    induction fuel with
    | zero =>
      intro j hmu hi0 hi1 ls hl
      exfalso; omega
    | succ fuel ih2 =>
      intro j hmu hi0 hi1 ls hl
      refine lv_iload_n hx hb dX12_lateRow_2 rfl (lv_at hl 0 rfl) ?_
      refine lv_aload_n hx hb dX12_lateRow_3 rfl (lv_at hl 1 rfl) ?_
      refine va_get (D := D) (ci := 11) (v := .int v_lates) (C := RX12) (T := TX12) (N := 54) hx hb hts in_n_lateRow_X12 hown hK.1 hP 0 rfl rfl 6 (by decide) lk0 (fun _ h9 => h9) rfl dX12_lateRow_4 ?_
      refine lv_icmp_ge (tgt := 38) hx hb dX12_lateRow_7 (by decide) (fun c_1 => ?_) (fun c_1 => ?_)
      · have tc_1 := t_le c_1
        refine lv_iconst (v := (-1)) hx hb dX12_lateRow_38 (by decide) ?_
        exact hret (-1) _ _ (show (-1 : Int32).toInt = -1 ∨ (0 ≤ (-1 : Int32).toInt ∧ (-1 : Int32).toInt < v_lates.toInt) from by omega) rfl dX12_lateRow_39
      · have tc_1 := t_nle c_1
        refine lv_aload_n hx hb dX12_lateRow_10 rfl (lv_at hl 1 rfl) ?_
        refine va_get (D := D) (ci := 11) (v := .ref a_lateDay) (C := RX12) (T := TX12) (N := 54) hx hb hts in_n_lateRow_X12 hown hK.1 hP 0 rfl rfl 28 (by decide) lk1 (fun _ h9 => h9) rfl dX12_lateRow_11 ?_
        refine lv_iload_n hx hb dX12_lateRow_14 rfl (lv_at hl 0 rfl) ?_
        refine va_iald hx hb hK.1 hP 1 0 rfl rfl (t_in (by omega) (by omega)) dX12_lateRow_15 ?_
        refine lv_topi (fun y_2 ey_2 => ?_)
        refine lv_iload_n hx hb dX12_lateRow_16 rfl (lv_at hl 2 rfl) ?_
        refine lv_icmp_ne (tgt := 32) hx hb dX12_lateRow_17 (by decide) (fun c_3 => ?_) (fun c_3 => ?_)
        · have tc_3 := t_neq c_3
          obtain ⟨x_4, ex_4⟩ : ∃ y : Int32, y = j + 1 := ⟨_, rfl⟩
          refine lv_iinc (v := x_4) (lv' := [(3, .int x_4), (0, .ref h), (1, .int d), (2, .int k)]) hx hb dX12_lateRow_32 hl (k := 0) rfl (by rw [ex_4]; rfl) (by decide) rfl (fun ls hl => ?_)
          first | have tx_4 := t_add ex_4 (by omega) (by omega) | skip
          refine lv_goto (tgt := 2) hx hb dX12_lateRow_35 (by decide) ?_
          exact ih2 x_4 (by omega) (by omega) (by omega) ls (lv_sub hl [0, 1, 2, 3] rfl)
        · have tc_3 := t_eq c_3
          refine lv_aload_n hx hb dX12_lateRow_20 rfl (lv_at hl 1 rfl) ?_
          refine va_get (D := D) (ci := 11) (v := .ref a_lateOffice) (C := RX12) (T := TX12) (N := 54) hx hb hts in_n_lateRow_X12 hown hK.1 hP 0 rfl rfl 29 (by decide) lk2 (fun _ h9 => h9) rfl dX12_lateRow_21 ?_
          refine lv_iload_n hx hb dX12_lateRow_24 rfl (lv_at hl 0 rfl) ?_
          refine va_iald hx hb hK.1 hP 2 0 rfl rfl (t_in (by omega) (by omega)) dX12_lateRow_25 ?_
          refine lv_topi (fun y_5 ey_5 => ?_)
          refine lv_iload_n hx hb dX12_lateRow_26 rfl (lv_at hl 3 rfl) ?_
          refine lv_icmp_ne (tgt := 32) hx hb dX12_lateRow_27 (by decide) (fun c_6 => ?_) (fun c_6 => ?_)
          · have tc_6 := t_neq c_6
            obtain ⟨x_7, ex_7⟩ : ∃ y : Int32, y = j + 1 := ⟨_, rfl⟩
            refine lv_iinc (v := x_7) (lv' := [(3, .int x_7), (0, .ref h), (1, .int d), (2, .int k)]) hx hb dX12_lateRow_32 hl (k := 0) rfl (by rw [ex_7]; rfl) (by decide) rfl (fun ls hl => ?_)
            first | have tx_7 := t_add ex_7 (by omega) (by omega) | skip
            refine lv_goto (tgt := 2) hx hb dX12_lateRow_35 (by decide) ?_
            exact ih2 x_7 (by omega) (by omega) (by omega) ls (lv_sub hl [0, 1, 2, 3] rfl)
          · have tc_6 := t_eq c_6
            refine lv_iload_n hx hb dX12_lateRow_30 rfl (lv_at hl 0 rfl) ?_
            exact hret j _ _ (show j.toInt = -1 ∨ (0 ≤ j.toInt ∧ j.toInt < v_lates.toInt) from by omega) rfl dX12_lateRow_31
  exact loop2 ((v_lates.toInt - (0 : Int32).toInt).toNat + 1) 0 (by omega) (by omega) (by omega) ls (lv_sub hl [0, 1, 2, 3] rfl)

theorem in_n_begins_X12 : ∀ w ∈ wsX120, w ∈ wsX12_begins := tl_X12_begins_X12
set_option maxHeartbeats 8000000 in
set_option maxRecDepth 100000 in
theorem n_begins {l : Launch} {D : va_G} {cI cZ cB : ClassId} {h a_isPriest a_bars a_joined a_turns a_awayMonk a_awayFrom a_awayTo a_feastDay a_rank a_isWeekly a_isDouble a_giftDay a_giftFrom a_owed a_said a_spared a_leaveGift a_leaveFrom a_leaveTo a_lateDay a_lateOffice a_lateBy a_guests a_who a_used a_lacks a_candles a_masses a_owing a_heldOn a_waits a_tape a_text a_statements a_taken a_sort a_first a_second : Nat} {v_today v_monks v_aways v_feasts v_gifts v_leaves v_lates v_store v_allCandles v_taped v_size v_at v_fault v_rules v_wordEnd v_number : Int32} {f_lateDay f_lateOffice f_lateBy : Nat → Int32} {d k : Int32} (h0_lates : 0 ≤ v_lates.toInt) (h1_lates : v_lates.toInt ≤ 100) : Met l yX12_begins wsX12_begins ({ frames := 4, cells := 0, slots := 0, locals := 84 }) (RO D cI cZ cB [.ref h, .int d, .int k] [(h, .inr (11, [.int v_today, .int v_monks, .int v_aways, .int v_feasts, .int v_gifts, .int v_leaves, .int v_lates, .int v_store, .int v_allCandles, .ref a_isPriest, .ref a_bars, .ref a_joined, .ref a_turns, .ref a_awayMonk, .ref a_awayFrom, .ref a_awayTo, .ref a_feastDay, .ref a_rank, .ref a_isWeekly, .ref a_isDouble, .ref a_giftDay, .ref a_giftFrom, .ref a_owed, .ref a_said, .ref a_spared, .ref a_leaveGift, .ref a_leaveFrom, .ref a_leaveTo, .ref a_lateDay, .ref a_lateOffice, .ref a_lateBy, .ref a_guests, .ref a_who, .ref a_used, .ref a_lacks, .ref a_candles, .ref a_masses, .ref a_owing, .ref a_heldOn, .ref a_waits, .ref a_tape, .ref a_text, .int v_taped, .int v_size, .int v_at, .int v_fault, .int v_rules, .ref a_statements, .ref a_taken, .ref a_sort, .ref a_first, .ref a_second, .int v_wordEnd, .int v_number])), (a_lateDay, .inl (cI, 100, .inl f_lateDay)), (a_lateOffice, .inl (cI, 100, .inl f_lateOffice)), (a_lateBy, .inl (cI, 100, .inl f_lateBy))]) (vp_Si (fun r : Int32 => True)) 0 0 (fun _ => False) := by
  refine ro_ret (cc := cX12_begins) (maxL := 4) (ty := .int) (own := RX12) (by decide) rfl rfl (Nat.le_of_ble_eq_true rfl) ?_
  intro p e s m args below meth c Q S hret hP hK ls hl
  obtain ⟨hx, hb, hml, hown, hts⟩ := id S
  have hl : lv_has ls 4 [(0, .ref h), (1, .int d), (2, .int k)] := hl
  have kkm1 : (-1 : Int32).toInt = -1 := by decide
  have kk0 : (0 : Int32).toInt = 0 := by decide
  have lk0 := hts (.fieldLink RX12 74 "AbbeyHoursModel" "lateBy" "[I") (List.mem_cons_of_mem _ (List.mem_append_left _ (List.mem_of_getElem? (i := 0) rfl)))
  refine lv_aload_n hx hb dX12_begins_0 rfl (lv_at hl 0 rfl) ?_
  refine lv_iload_n hx hb dX12_begins_1 rfl (lv_at hl 1 rfl) ?_
  refine lv_iload_n hx hb dX12_begins_2 rfl (lv_at hl 2 rfl) ?_
  have hPc := hP.sub (ws' := [(h, .inr (11, [.int v_today, .int v_monks, .int v_aways, .int v_feasts, .int v_gifts, .int v_leaves, .int v_lates, .int v_store, .int v_allCandles, .ref a_isPriest, .ref a_bars, .ref a_joined, .ref a_turns, .ref a_awayMonk, .ref a_awayFrom, .ref a_awayTo, .ref a_feastDay, .ref a_rank, .ref a_isWeekly, .ref a_isDouble, .ref a_giftDay, .ref a_giftFrom, .ref a_owed, .ref a_said, .ref a_spared, .ref a_leaveGift, .ref a_leaveFrom, .ref a_leaveTo, .ref a_lateDay, .ref a_lateOffice, .ref a_lateBy, .ref a_guests, .ref a_who, .ref a_used, .ref a_lacks, .ref a_candles, .ref a_masses, .ref a_owing, .ref a_heldOn, .ref a_waits, .ref a_tape, .ref a_text, .int v_taped, .int v_size, .int v_at, .int v_fault, .int v_rules, .ref a_statements, .ref a_taken, .ref a_sort, .ref a_first, .ref a_second, .int v_wordEnd, .int v_number])), (a_lateDay, .inl (cI, 100, .inl f_lateDay)), (a_lateOffice, .inl (cI, 100, .inl f_lateOffice))]) [0, 1, 2] rfl
  refine roV (As := [.int d, .int k]) (rest := []) S (n_lateRow  (by omega) (by omega)) (cwV 2 hts gX12_begins_X12_lateRow rfl rfl rfl ⟨rfl, hd_X12_lateRow⟩ ⟨Nat.le_of_ble_eq_true rfl, Nat.le_of_ble_eq_true rfl⟩) hK hPc (va_recv hK.1 hPc (ci := 11) (q0 := 0) rfl rfl) rfl hl.1 rfl (Nat.le_of_ble_eq_true rfl) dX12_begins_3 ⟨Nat.le_of_ble_eq_true rfl, Nat.le_of_ble_eq_true rfl⟩ (fun r_1 hw_1 => ?_)
  have hw_1 : r_1.toInt = -1 ∨ (0 ≤ r_1.toInt ∧ r_1.toInt < v_lates.toInt) := hw_1
  refine lv_istore_n (lv' := [(3, .int r_1), (0, .ref h), (1, .int d), (2, .int k)]) hx hb dX12_begins_6 rfl hl (by decide) rfl (fun ls hl => ?_)
  refine lv_iload_n hx hb dX12_begins_7 rfl (lv_at hl 2 rfl) ?_
  refine lv_iload_n hx hb dX12_begins_8 rfl (lv_at hl 3 rfl) ?_
  have hPc := hP.sub (ws' := []) [] rfl
  refine roS (As := [.int d, .int k]) (rest := []) S (m_plain  ) (va_cwS 2 hts gX12_begins_X12_plain rfl rfl rfl hd_X12_plain ⟨Nat.le_of_ble_eq_true rfl, Nat.le_of_ble_eq_true rfl⟩) hK hPc rfl hl.1 rfl (Nat.le_of_ble_eq_true rfl) dX12_begins_9 ⟨Nat.le_of_ble_eq_true rfl, Nat.le_of_ble_eq_true rfl⟩ (fun r_2 hw_2 => ?_)
  have hw_2 : r_2 = sunP (rem365 d) k := hw_2
  refine lv_iload_n hx hb dX12_begins_12 rfl (lv_at hl 0 rfl) ?_
  refine lv_iconst (v := (-1)) hx hb dX12_begins_13 (by decide) ?_
  refine lv_icmp_ne (tgt := 21) hx hb dX12_begins_14 (by decide) (fun c_3 => ?_) (fun c_3 => ?_)
  · have tc_3 := t_neq c_3
    refine lv_aload_n hx hb dX12_begins_21 rfl (lv_at hl 1 rfl) ?_
    refine va_get (D := D) (ci := 11) (v := .ref a_lateBy) (C := RX12) (T := TX12) (N := 54) hx hb hts in_n_begins_X12 hown hK.1 hP 0 rfl rfl 30 (by decide) lk0 (fun _ h9 => h9) rfl dX12_begins_22 ?_
    refine lv_iload_n hx hb dX12_begins_25 rfl (lv_at hl 0 rfl) ?_
    refine va_iald hx hb hK.1 hP 3 0 rfl rfl (t_in (by omega) (by omega)) dX12_begins_26 ?_
    refine lv_topi (fun y_4 ey_4 => ?_)
    refine lv_iadd hx hb dX12_begins_27 ?_
    refine lv_topi (fun x_5 ex_5 => ?_)
    exact hret x_5 _ _ (show True from trivial) rfl dX12_begins_28
  · have tc_3 := t_eq c_3
    refine lv_iconst (v := 0) hx hb dX12_begins_17 (by decide) ?_
    refine lv_goto (tgt := 27) hx hb dX12_begins_18 (by decide) ?_
    refine lv_iadd hx hb dX12_begins_27 ?_
    refine lv_topi (fun x_6 ex_6 => ?_)
    exact hret x_6 _ _ (show True from trivial) rfl dX12_begins_28

