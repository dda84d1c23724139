theorem in_V_food_X11 : ∀ w ∈ wsX110, w ∈ wsX11_foodNeeded := tl_X11_foodNeeded_X11
set_option maxHeartbeats 8000000 in
set_option maxRecDepth 100000 in
theorem V_food {l : Launch} {D : va_G} {cI cZ cB : ClassId} {h a_bells a_feasts a_tape a_reader a_rules a_monks a_duties a_gifts a_figures ra_since ra_sizes ra_kinds ra_firsts ra_seconds fa_falls fa_ranks fa_standsOn fa_heldOn fa_holder fa_standing ma_priests ma_barred ma_cameOn ma_absent ma_absentFrom ma_absentTo : Nat} {v_today v_stock v_guestHeads v_guestRanks v_faultPlace v_candlesInAll rv_size fv_size mv_size mv_rows : Int32} {rf_since rf_sizes rf_kinds rf_firsts rf_seconds ff_ranks ff_holder : Nat → Int32}  (hfv_size0 : 0 ≤ fv_size.toInt) (hfv_size1 : fv_size.toInt ≤ 40) (hh : 0 < fv_size.toInt → InR ff_holder 365 (-1) fv_size.toInt) (hrv_size0 : 0 ≤ rv_size.toInt) (hrv_size1 : rv_size.toInt ≤ 10) (hs : InR rf_sizes rv_size.toInt 0 17) : Met l yX11_foodNeeded wsX11_foodNeeded ({ frames := 4, cells := 0, slots := 0, locals := 85 }) (RO D cI cZ cB [.ref h] [(h, .inr (10, [.ref a_bells, .ref a_feasts, .ref a_tape, .ref a_reader, .ref a_rules, .ref a_monks, .ref a_duties, .ref a_gifts, .ref a_figures, .int v_today, .int v_stock, .int v_guestHeads, .int v_guestRanks, .int v_faultPlace, .int v_candlesInAll])), (a_rules, .inr (7, [.ref ra_since, .ref ra_sizes, .ref ra_kinds, .ref ra_firsts, .ref ra_seconds, .int rv_size])), (ra_since, .inl (cI, 10, .inl rf_since)), (ra_sizes, .inl (cI, 10, .inl rf_sizes)), (ra_kinds, .inl (cI, 160, .inl rf_kinds)), (ra_firsts, .inl (cI, 160, .inl rf_firsts)), (ra_seconds, .inl (cI, 160, .inl rf_seconds)), (a_feasts, .inr (3, [.ref fa_falls, .ref fa_ranks, .ref fa_standsOn, .ref fa_heldOn, .ref fa_holder, .ref fa_standing, .int fv_size])), (fa_ranks, .inl (cI, 40, .inl ff_ranks)), (fa_holder, .inl (cI, 365, .inl ff_holder)), (a_monks, .inr (5, [.ref ma_priests, .ref ma_barred, .ref ma_cameOn, .ref ma_absent, .ref ma_absentFrom, .ref ma_absentTo, .int mv_size, .int mv_rows]))]) (vp_Si (fun r : Int32 => True)) 0 0 (fun _ => False) := by
  refine ro_ret (cc := cX11_foodNeeded) (maxL := 2) (ty := .int) (own := RX11) (by decide) rfl rfl (Nat.le_of_ble_eq_true rfl) ?_
  intro p e s m args below meth c Q S hret hP hK ls hl
  obtain ⟨hx, hb, hml, hown, hts⟩ := id S
  have hl : lv_has ls 2 [(0, .ref h)] := hl
  have kk0 : (0 : Int32).toInt = 0 := by decide
  have kk365 : (365 : Int32).toInt = 365 := by decide
  have lk0 := hts (.fieldLink RX11 40 "AbbeyHours" "rules" "LAbbeyHours$Rules;") (mc_X11_foodNeeded_r1 _ (List.mem_of_getElem? (i := 0) rfl))
  have lk1 := hts (.fieldLink RX11 82 "AbbeyHours" "today" "I") (mc_X11_foodNeeded_r1 _ (List.mem_of_getElem? (i := 1) rfl))
  have lk2 := hts (.fieldLink RX11 19 "AbbeyHours" "feasts" "LAbbeyHours$Feasts;") (mc_X11_foodNeeded_r1 _ (List.mem_of_getElem? (i := 2) rfl))
  have lk3 := hts (.fieldLink RX11 47 "AbbeyHours" "monks" "LAbbeyHours$Monks;") (mc_X11_foodNeeded_r1 _ (List.mem_of_getElem? (i := 3) rfl))
  have lk4 := hts (.fieldLink RX11 191 "AbbeyHours" "guestHeads" "I") (mc_X11_foodNeeded_r1 _ (List.mem_of_getElem? (i := 4) rfl))
  have lk5 := hts (.fieldLink RX11 194 "AbbeyHours" "guestRanks" "I") (mc_X11_foodNeeded_r1 _ (List.mem_of_getElem? (i := 5) rfl))
  refine lv_aload_n hx hb dX11_foodNeeded_0 rfl (lv_at hl 0 rfl) ?_
  refine va_get (D := D) (ci := 10) (v := .ref a_rules) (C := RX11) (T := TX11) (N := 15) hx hb hts in_V_food_X11 hown hK.1 hP 0 rfl rfl 4 (by decide) lk0 (fun _ h9 => h9) rfl dX11_foodNeeded_1 ?_
  refine lv_aload_n hx hb dX11_foodNeeded_4 rfl (lv_at hl 0 rfl) ?_
  refine va_get (D := D) (ci := 10) (v := .int v_today) (C := RX11) (T := TX11) (N := 15) hx hb hts in_V_food_X11 hown hK.1 hP 0 rfl rfl 9 (by decide) lk1 (fun _ h9 => h9) rfl dX11_foodNeeded_5 ?_
  refine lv_aload_n hx hb dX11_foodNeeded_8 rfl (lv_at hl 0 rfl) ?_
  refine va_get (D := D) (ci := 10) (v := .ref a_feasts) (C := RX11) (T := TX11) (N := 15) hx hb hts in_V_food_X11 hown hK.1 hP 0 rfl rfl 1 (by decide) lk2 (fun _ h9 => h9) rfl dX11_foodNeeded_9 ?_
  refine lv_aload_n hx hb dX11_foodNeeded_12 rfl (lv_at hl 0 rfl) ?_
  refine va_get (D := D) (ci := 10) (v := .int v_today) (C := RX11) (T := TX11) (N := 15) hx hb hts in_V_food_X11 hown hK.1 hP 0 rfl rfl 9 (by decide) lk1 (fun _ h9 => h9) rfl dX11_foodNeeded_13 ?_
  refine lv_sipush (v := 365) hx hb dX11_foodNeeded_16 (by decide) ?_
  refine lv_irem hx hb dX11_foodNeeded_19 (by decide) ?_
  refine lv_topi (fun x_1 ex_1 => ?_)
  have hPc := hP.sub (ws' := [(a_feasts, .inr (3, [.ref fa_falls, .ref fa_ranks, .ref fa_standsOn, .ref fa_heldOn, .ref fa_holder, .ref fa_standing, .int fv_size])), (fa_ranks, .inl (cI, 40, .inl ff_ranks)), (fa_holder, .inl (cI, 365, .inl ff_holder))]) [7, 8, 9] rfl
  refine roV (As := [.int x_1]) (rest := [.int v_today, .ref a_rules]) S (f_rankHeld  (by omega) (by omega) (hh)) (cwV 1 hts gX11_foodNeeded_X3_rankHeld rfl rfl rfl ⟨rfl, hd_X3_rankHeld⟩ ⟨Nat.le_of_ble_eq_true rfl, Nat.le_of_ble_eq_true rfl⟩) hK hPc (va_recv hK.1 hPc (ci := 3) (q0 := 0) rfl rfl) rfl hl.1 rfl (Nat.le_of_ble_eq_true rfl) dX11_foodNeeded_20 ⟨Nat.le_of_ble_eq_true rfl, Nat.le_of_ble_eq_true rfl⟩ (fun r_2 hw_2 => ?_)
  have hw_2 : fv_size.toInt = 0 → r_2.toInt = 0 := hw_2
  have hPc := hP.sub (ws' := [(a_rules, .inr (7, [.ref ra_since, .ref ra_sizes, .ref ra_kinds, .ref ra_firsts, .ref ra_seconds, .int rv_size])), (ra_since, .inl (cI, 10, .inl rf_since)), (ra_sizes, .inl (cI, 10, .inl rf_sizes)), (ra_kinds, .inl (cI, 160, .inl rf_kinds)), (ra_firsts, .inl (cI, 160, .inl rf_firsts)), (ra_seconds, .inl (cI, 160, .inl rf_seconds))]) [1, 2, 3, 4, 5, 6] rfl
  refine roV (As := [.int v_today, .int r_2]) (rest := []) S (r_head  (by omega) (by omega) (hs)) (cwV 2 hts gX11_foodNeeded_X7_shareOfHead rfl rfl rfl ⟨rfl, hd_X7_shareOfHead⟩ ⟨Nat.le_of_ble_eq_true rfl, Nat.le_of_ble_eq_true rfl⟩) hK hPc (va_recv hK.1 hPc (ci := 7) (q0 := 0) rfl rfl) rfl hl.1 rfl (Nat.le_of_ble_eq_true rfl) dX11_foodNeeded_23 ⟨Nat.le_of_ble_eq_true rfl, Nat.le_of_ble_eq_true rfl⟩ (fun r_3 hw_3 => ?_)
  have hw_3 : rv_size.toInt = 0 → r_3.toInt = 2 := hw_3
  refine lv_istore_n (lv' := [(1, .int r_3), (0, .ref h)]) hx hb dX11_foodNeeded_26 rfl hl (by decide) rfl (fun ls hl => ?_)
  refine lv_aload_n hx hb dX11_foodNeeded_27 rfl (lv_at hl 1 rfl) ?_
  refine va_get (D := D) (ci := 10) (v := .ref a_monks) (C := RX11) (T := TX11) (N := 15) hx hb hts in_V_food_X11 hown hK.1 hP 0 rfl rfl 5 (by decide) lk3 (fun _ h9 => h9) rfl dX11_foodNeeded_28 ?_
  have hPc := hP.sub (ws' := [(a_monks, .inr (5, [.ref ma_priests, .ref ma_barred, .ref ma_cameOn, .ref ma_absent, .ref ma_absentFrom, .ref ma_absentTo, .int mv_size, .int mv_rows]))]) [10] rfl
  refine roV (As := []) (rest := []) S (k_size  ) (cwV 0 hts gX11_foodNeeded_X5_size rfl rfl rfl ⟨rfl, hd_X5_size⟩ ⟨Nat.le_of_ble_eq_true rfl, Nat.le_of_ble_eq_true rfl⟩) hK hPc (va_recv hK.1 hPc (ci := 5) (q0 := 0) rfl rfl) rfl hl.1 rfl (Nat.le_of_ble_eq_true rfl) dX11_foodNeeded_31 ⟨Nat.le_of_ble_eq_true rfl, Nat.le_of_ble_eq_true rfl⟩ (fun r_4 hw_4 => ?_)
  have hw_4 : r_4 = mv_size := hw_4
  refine lv_iload_n hx hb dX11_foodNeeded_34 rfl (lv_at hl 0 rfl) ?_
  refine lv_imul hx hb dX11_foodNeeded_35 ?_
  refine lv_topi (fun x_5 ex_5 => ?_)
  refine lv_aload_n hx hb dX11_foodNeeded_36 rfl (lv_at hl 1 rfl) ?_
  refine va_get (D := D) (ci := 10) (v := .int v_guestHeads) (C := RX11) (T := TX11) (N := 15) hx hb hts in_V_food_X11 hown hK.1 hP 0 rfl rfl 11 (by decide) lk4 (fun _ h9 => h9) rfl dX11_foodNeeded_37 ?_
  refine lv_aload_n hx hb dX11_foodNeeded_40 rfl (lv_at hl 1 rfl) ?_
  refine va_get (D := D) (ci := 10) (v := .ref a_rules) (C := RX11) (T := TX11) (N := 15) hx hb hts in_V_food_X11 hown hK.1 hP 0 rfl rfl 4 (by decide) lk0 (fun _ h9 => h9) rfl dX11_foodNeeded_41 ?_
  refine lv_aload_n hx hb dX11_foodNeeded_44 rfl (lv_at hl 1 rfl) ?_
  refine va_get (D := D) (ci := 10) (v := .int v_today) (C := RX11) (T := TX11) (N := 15) hx hb hts in_V_food_X11 hown hK.1 hP 0 rfl rfl 9 (by decide) lk1 (fun _ h9 => h9) rfl dX11_foodNeeded_45 ?_
  have hPc := hP.sub (ws' := [(a_rules, .inr (7, [.ref ra_since, .ref ra_sizes, .ref ra_kinds, .ref ra_firsts, .ref ra_seconds, .int rv_size])), (ra_since, .inl (cI, 10, .inl rf_since)), (ra_sizes, .inl (cI, 10, .inl rf_sizes)), (ra_kinds, .inl (cI, 160, .inl rf_kinds)), (ra_firsts, .inl (cI, 160, .inl rf_firsts)), (ra_seconds, .inl (cI, 160, .inl rf_seconds))]) [1, 2, 3, 4, 5, 6] rfl
  refine roV (As := [.int v_today]) (rest := [.int v_guestHeads, .int x_5]) S (r_guest  (by omega) (by omega) (hs)) (cwV 1 hts gX11_foodNeeded_X7_shareOfGuest rfl rfl rfl ⟨rfl, hd_X7_shareOfGuest⟩ ⟨Nat.le_of_ble_eq_true rfl, Nat.le_of_ble_eq_true rfl⟩) hK hPc (va_recv hK.1 hPc (ci := 7) (q0 := 0) rfl rfl) rfl hl.1 rfl (Nat.le_of_ble_eq_true rfl) dX11_foodNeeded_48 ⟨Nat.le_of_ble_eq_true rfl, Nat.le_of_ble_eq_true rfl⟩ (fun r_6 hw_6 => ?_)
  have hw_6 : rv_size.toInt = 0 → r_6.toInt = 3 := hw_6
  refine lv_imul hx hb dX11_foodNeeded_51 ?_
  refine lv_topi (fun x_7 ex_7 => ?_)
  refine lv_iadd hx hb dX11_foodNeeded_52 ?_
  refine lv_topi (fun x_8 ex_8 => ?_)
  refine lv_aload_n hx hb dX11_foodNeeded_53 rfl (lv_at hl 1 rfl) ?_
  refine va_get (D := D) (ci := 10) (v := .int v_guestRanks) (C := RX11) (T := TX11) (N := 15) hx hb hts in_V_food_X11 hown hK.1 hP 0 rfl rfl 12 (by decide) lk5 (fun _ h9 => h9) rfl dX11_foodNeeded_54 ?_
  refine lv_iadd hx hb dX11_foodNeeded_57 ?_
  refine lv_topi (fun x_9 ex_9 => ?_)
  exact hret x_9 _ _ (show True from trivial) rfl dX11_foodNeeded_58

theorem in_V_dayEnd_X11 : ∀ w ∈ wsX110, w ∈ wsX11_day := tl_X11_day_X11
set_option maxHeartbeats 8000000 in
set_option maxRecDepth 100000 in
theorem V_dayEnd {l : Launch} {D : va_G} {cI cZ cB : ClassId} {h a_bells a_feasts a_tape a_reader a_rules a_monks a_duties a_gifts a_figures : Nat} {v_today v_stock v_guestHeads v_guestRanks v_faultPlace v_candlesInAll : Int32}  (ht : v_today.toInt = 1094) : Met l yX11_day wsX11_day ({ frames := 0, cells := 0, slots := 0, locals := 0 }) (RO D cI cZ cB [.ref h] [(h, .inr (10, [.ref a_bells, .ref a_feasts, .ref a_tape, .ref a_reader, .ref a_rules, .ref a_monks, .ref a_duties, .ref a_gifts, .ref a_figures, .int v_today, .int v_stock, .int v_guestHeads, .int v_guestRanks, .int v_faultPlace, .int v_candlesInAll]))]) (vp_Si (fun r : Int32 => r.toInt = -1)) 0 0 (fun _ => False) := by
  refine ro_ret (cc := cX11_day) (maxL := 5) (ty := .int) (own := RX11) (by decide) rfl rfl (Nat.le_of_ble_eq_true rfl) ?_
  intro p e s m args below meth c Q S hret hP hK ls hl
  obtain ⟨hx, hb, hml, hown, hts⟩ := id S
  have hl : lv_has ls 5 [(0, .ref h)] := hl
  have kkm1 : (-1 : Int32).toInt = -1 := by decide
  have kk0 : (0 : Int32).toInt = 0 := by decide
  have kk1 : (1 : Int32).toInt = 1 := by decide
  have kk2 : (2 : Int32).toInt = 2 := by decide
  have kk3 : (3 : Int32).toInt = 3 := by decide
  have kk4 : (4 : Int32).toInt = 4 := by decide
  have kk1094 : (1094 : Int32).toInt = 1094 := by decide
  have lk0 := hts (.fieldLink RX11 82 "AbbeyHours" "today" "I") (mc_X11_day_r1 _ (List.mem_of_getElem? (i := 0) rfl))
  refine lv_aload_n hx hb dX11_day_0 rfl (lv_at hl 0 rfl) ?_
  refine va_get (D := D) (ci := 10) (v := .int v_today) (C := RX11) (T := TX11) (N := 15) hx hb hts in_V_dayEnd_X11 hown hK.1 hP 0 rfl rfl 9 (by decide) lk0 (fun _ h9 => h9) rfl dX11_day_1 ?_
  refine lv_sipush (v := 1094) hx hb dX11_day_4 (by decide) ?_
  refine lv_icmp_lt (tgt := 12) hx hb dX11_day_7 (by decide) (fun c_1 => ?_) (fun c_1 => ?_)
  · have tc_1 := t_lt c_1
    exfalso; omega
  · have tc_1 := t_nlt c_1
    refine lv_iconst (v := (-1)) hx hb dX11_day_10 (by decide) ?_
    exact hret (-1) _ _ (show (-1 : Int32).toInt = -1 from by omega) rfl dX11_day_11

