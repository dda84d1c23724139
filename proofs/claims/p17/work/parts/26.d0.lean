theorem in_V_dayEnd_X11 : ∀ w ∈ wsX110, w ∈ wsX11_day := tl_X11_day_X11
set_option maxHeartbeats 8000000 in
set_option maxRecDepth 100000 in
theorem V_dayEnd {l : Launch} {D : va_G} {cI cZ cB : ClassId} {h a_bells a_feasts a_tape a_reader a_rules a_monks a_duties a_gifts a_figures : Nat} {v_today v_stock v_guestHeads v_guestRanks v_faultPlace v_candlesInAll : Int32}  (ht : v_today.toInt = 1094) : Met l yX11_day wsX11_day ({ frames := 0, cells := 0, slots := 0, locals := 0 }) (RO D cI cZ cB [.ref h] [(h, .inr (10, [.ref a_bells, .ref a_feasts, .ref a_tape, .ref a_reader, .ref a_rules, .ref a_monks, .ref a_duties, .ref a_gifts, .ref a_figures, .int v_today, .int v_stock, .int v_guestHeads, .int v_guestRanks, .int v_faultPlace, .int v_candlesInAll]))]) (vp_Si (fun r : Int32 => r.toInt = -1)) 0 0 (fun _ => False) := by
  refine ro_ret (cc := cX11_day) (maxL := 5) (ty := .int) (own := RX11) (by decide) rfl rfl (Nat.le_of_ble_eq_true rfl) ?_
  intro p e s m args below meth c Q S hret hP hK ls hl
  obtain ⟨hx, hb, hml, hown, hts⟩ := id S
  have hl : lv_has ls 5 [(0, .ref h)] := hl
  have kkm1 : (-1 : Int32).toInt = -1 := by decide
  have kk0 : (0 : Int32).toInt = 0 := by decide
  have kk1 : (1 : Int32).toInt = 1 := by decide
  have kk2 : (2 : Int32).toInt = 2 := by decide
  have kk3 : (3 : Int32).toInt = 3 := by decide
  have kk4 : (4 : Int32).toInt = 4 := by decide
  have kk1094 : (1094 : Int32).toInt = 1094 := by decide
  have lk0 := hts (.fieldLink RX11 82 "AbbeyHours" "today" "I") (mc_X11_day_r1 _ (List.mem_of_getElem? (i := 0) rfl))
  refine lv_aload_n hx hb dX11_day_0 rfl (lv_at hl 0 rfl) ?_
  refine va_get (D := D) (ci := 10) (v := .int v_today) (C := RX11) (T := TX11) (N := 15) hx hb hts in_V_dayEnd_X11 hown hK.1 hP 0 rfl rfl 9 (by decide) lk0 (fun _ h9 => h9) rfl dX11_day_1 ?_
  refine lv_sipush (v := 1094) hx hb dX11_day_4 (by decide) ?_
  refine lv_icmp_lt (tgt := 12) hx hb dX11_day_7 (by decide) (fun c_1 => ?_) (fun c_1 => ?_)
  · have tc_1 := t_lt c_1
    exfalso; omega
  · have tc_1 := t_nlt c_1
    refine lv_iconst (v := (-1)) hx hb dX11_day_10 (by decide) ?_
    exact hret (-1) _ _ (show (-1 : Int32).toInt = -1 from by omega) rfl dX11_day_11

