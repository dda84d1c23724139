theorem in_V_gift_X11 : ∀ w ∈ wsX110, w ∈ wsX11_gift := tl_X11_gift_X11
set_option maxHeartbeats 8000000 in
set_option maxRecDepth 100000 in
theorem V_gift {l : Launch} {D : va_G} {cI cZ cB : ClassId} {sz : Nat} {h a_bells a_feasts a_tape a_reader a_rules a_monks a_duties a_gifts a_figures ga_weekly ga_doubled ga_dueOn ga_owed ga_said ga_spared ga_leaveOf ga_leaveFrom ga_leaveTo : Nat} {v_today v_stock v_guestHeads v_guestRanks v_faultPlace v_candlesInAll gv_size gv_rows : Int32} {gf_weekly gf_doubled gf_dueOn : Nat → Int32} {a n b : Int32} (hgv_size0 : 0 ≤ gv_size.toInt) (hgv_size1 : gv_size.toInt ≤ 40) : Met l yX11_gift wsX11_gift ({ frames := 2, cells := 0, slots := 0, locals := 42 }) (RW D cI cZ cB [.ref h, .int a, .int n, .int b] sz [(h, .inr (10, [.ref a_bells, .ref a_feasts, .ref a_tape, .ref a_reader, .ref a_rules, .ref a_monks, .ref a_duties, .ref a_gifts, .ref a_figures, .int v_today, .int v_stock, .int v_guestHeads, .int v_guestRanks, .int v_faultPlace, .int v_candlesInAll])), (a_gifts, .inr (4, [.ref ga_weekly, .ref ga_doubled, .ref ga_dueOn, .ref ga_owed, .ref ga_said, .ref ga_spared, .ref ga_leaveOf, .ref ga_leaveFrom, .ref ga_leaveTo, .int gv_size, .int gv_rows])), (ga_weekly, .inl (cZ, 40, .inl gf_weekly)), (ga_doubled, .inl (cZ, 40, .inl gf_doubled)), (ga_dueOn, .inl (cI, 40, .inl gf_dueOn))]) (va_Qi (fun (r : Int32) (u : Int32 × (Nat → Int32) × (Nat → Int32) × (Nat → Int32)) => ((((a.toInt ≠ 0 ∧ 0 ≤ n.toInt ∧ n.toInt ≤ 6) ∨ (a.toInt = 0 ∧ 0 ≤ n.toInt ∧ n.toInt ≤ 364)) ∧ gv_size.toInt < 40) ∧ r.toInt = gv_size.toInt ∧ u.1.toInt = gv_size.toInt + 1) ∨ (¬ (((a.toInt ≠ 0 ∧ 0 ≤ n.toInt ∧ n.toInt ≤ 6) ∨ (a.toInt = 0 ∧ 0 ≤ n.toInt ∧ n.toInt ≤ 364)) ∧ gv_size.toInt < 40) ∧ r.toInt = -1 ∧ u.1 = gv_size)) (BW D [(h, .inr (10, [.ref a_bells, .ref a_feasts, .ref a_tape, .ref a_reader, .ref a_rules, .ref a_monks, .ref a_duties, .ref a_gifts, .ref a_figures, .int v_today, .int v_stock, .int v_guestHeads, .int v_guestRanks, .int v_faultPlace, .int v_candlesInAll])), (a_gifts, .inr (4, [.ref ga_weekly, .ref ga_doubled, .ref ga_dueOn, .ref ga_owed, .ref ga_said, .ref ga_spared, .ref ga_leaveOf, .ref ga_leaveFrom, .ref ga_leaveTo, .int gv_size, .int gv_rows])), (ga_weekly, .inl (cZ, 40, .inl gf_weekly)), (ga_doubled, .inl (cZ, 40, .inl gf_doubled)), (ga_dueOn, .inl (cI, 40, .inl gf_dueOn))] sz (fun u : Int32 × (Nat → Int32) × (Nat → Int32) × (Nat → Int32) => [(h, .inr (10, [.ref a_bells, .ref a_feasts, .ref a_tape, .ref a_reader, .ref a_rules, .ref a_monks, .ref a_duties, .ref a_gifts, .ref a_figures, .int v_today, .int v_stock, .int v_guestHeads, .int v_guestRanks, .int v_faultPlace, .int v_candlesInAll])), (a_gifts, .inr (4, [.ref ga_weekly, .ref ga_doubled, .ref ga_dueOn, .ref ga_owed, .ref ga_said, .ref ga_spared, .ref ga_leaveOf, .ref ga_leaveFrom, .ref ga_leaveTo, .int u.1, .int gv_rows])), (ga_weekly, .inl (cZ, 40, .inl u.2.1)), (ga_doubled, .inl (cZ, 40, .inl u.2.2.1)), (ga_dueOn, .inl (cI, 40, .inl u.2.2.2))])) (va_A [(h, .inr (10, [.ref a_bells, .ref a_feasts, .ref a_tape, .ref a_reader, .ref a_rules, .ref a_monks, .ref a_duties, .ref a_gifts, .ref a_figures, .int v_today, .int v_stock, .int v_guestHeads, .int v_guestRanks, .int v_faultPlace, .int v_candlesInAll])), (a_gifts, .inr (4, [.ref ga_weekly, .ref ga_doubled, .ref ga_dueOn, .ref ga_owed, .ref ga_said, .ref ga_spared, .ref ga_leaveOf, .ref ga_leaveFrom, .ref ga_leaveTo, .int gv_size, .int gv_rows])), (ga_weekly, .inl (cZ, 40, .inl gf_weekly)), (ga_doubled, .inl (cZ, 40, .inl gf_doubled)), (ga_dueOn, .inl (cI, 40, .inl gf_dueOn))] sz)) 0 0 (va_A [(h, .inr (10, [.ref a_bells, .ref a_feasts, .ref a_tape, .ref a_reader, .ref a_rules, .ref a_monks, .ref a_duties, .ref a_gifts, .ref a_figures, .int v_today, .int v_stock, .int v_guestHeads, .int v_guestRanks, .int v_faultPlace, .int v_candlesInAll])), (a_gifts, .inr (4, [.ref ga_weekly, .ref ga_doubled, .ref ga_dueOn, .ref ga_owed, .ref ga_said, .ref ga_spared, .ref ga_leaveOf, .ref ga_leaveFrom, .ref ga_leaveTo, .int gv_size, .int gv_rows])), (ga_weekly, .inl (cZ, 40, .inl gf_weekly)), (ga_doubled, .inl (cZ, 40, .inl gf_doubled)), (ga_dueOn, .inl (cI, 40, .inl gf_dueOn))] sz) := by
  refine rw_ret (cc := cX11_gift) (maxL := 5) (ty := .int) (own := RX11) (by decide) rfl rfl (Nat.le_of_ble_eq_true rfl) ?_
  intro p e s m args below meth c Q A S hin hret hP hK hD hA hS ls hl
  obtain ⟨hx, hb, hml, hown, hts⟩ := id S
  have hl : lv_has ls 5 [(0, .ref h), (1, .int a), (2, .int n), (3, .int b)] := hl
  have kkm1 : (-1 : Int32).toInt = -1 := by decide
  have kk0 : (0 : Int32).toInt = 0 := by decide
  have kk6 : (6 : Int32).toInt = 6 := by decide
  have lk0 := hts (.fieldLink RX11 61 "AbbeyHours" "gifts" "LAbbeyHours$Gifts;") (List.mem_cons_of_mem _ (List.mem_append_left _ (List.mem_append_left _ (List.mem_of_getElem? (i := 0) rfl))))
  refine lv_iload_n hx hb dX11_gift_0 rfl (lv_at hl 1 rfl) ?_
  refine lv_if_eq (tgt := 14) hx hb dX11_gift_1 (by decide) (fun c_1 => ?_) (fun c_1 => ?_)
  · have tc_1 := t_eq c_1
    refine lv_iload_n hx hb dX11_gift_14 rfl (lv_at hl 2 rfl) ?_
    have hPc := hP.sub (ws' := []) [] rfl
    refine roS (As := [.int n]) (rest := []) S (w_isDayOfYear  ) (va_cwS 1 hts gX11_gift_X11_isDayOfYear rfl rfl rfl hd_X11_isDayOfYear ⟨Nat.le_of_ble_eq_true rfl, Nat.le_of_ble_eq_true rfl⟩) hK hPc rfl hl.1 rfl (Nat.le_of_ble_eq_true rfl) dX11_gift_15 ⟨Nat.le_of_ble_eq_true rfl, Nat.le_of_ble_eq_true rfl⟩ (fun r_2 hw_2 => ?_)
    have hw_2 : (r_2.toInt = 1 ∧ 0 ≤ n.toInt ∧ n.toInt ≤ 364) ∨ (r_2.toInt = 0 ∧ (n.toInt < 0 ∨ 364 < n.toInt)) := hw_2
    refine lv_istore (lv' := [(4, .int r_2), (0, .ref h), (1, .int a), (2, .int n), (3, .int b)]) hx hb dX11_gift_18 hl (by decide) rfl (fun ls hl => ?_)
    refine lv_iload hx hb dX11_gift_20 (lv_at hl 0 rfl) ?_
    refine lv_if_eq (tgt := 38) hx hb dX11_gift_22 (by decide) (fun c_3 => ?_) (fun c_3 => ?_)
    · have tc_3 := t_eq c_3
      refine lv_iconst (v := (-1)) hx hb dX11_gift_38 (by decide) ?_
      exact hret (-1) (gv_size, gf_weekly, gf_doubled, gf_dueOn) _ _ _ _ (show ((((a.toInt ≠ 0 ∧ 0 ≤ n.toInt ∧ n.toInt ≤ 6) ∨ (a.toInt = 0 ∧ 0 ≤ n.toInt ∧ n.toInt ≤ 364)) ∧ gv_size.toInt < 40) ∧ (-1 : Int32).toInt = gv_size.toInt ∧ gv_size.toInt = gv_size.toInt + 1) ∨ (¬ (((a.toInt ≠ 0 ∧ 0 ≤ n.toInt ∧ n.toInt ≤ 6) ∨ (a.toInt = 0 ∧ 0 ≤ n.toInt ∧ n.toInt ≤ 364)) ∧ gv_size.toInt < 40) ∧ (-1 : Int32).toInt = -1 ∧ gv_size = gv_size) from by first | (rcases hw_en with z | z; exact Or.inr ⟨by omega, by omega, z.2.2⟩; exact Or.inl ⟨by omega, by omega, by omega⟩) | exact Or.inr ⟨by omega, by omega, rfl⟩) rfl (hP.sub [0, 1, 2, 3, 4] rfl) (hD.sub [0, 1, 2, 3, 4] (by decide +kernel) rfl) hS dX11_gift_39
    · have tc_3 := t_neq c_3
      refine lv_aload_n hx hb dX11_gift_25 rfl (lv_at hl 1 rfl) ?_
      refine va_get (D := D) (ci := 10) (v := .ref a_gifts) (C := RX11) (T := TX11) (N := 15) hx hb hts in_V_gift_X11 hown hK.1 hP 0 rfl rfl 7 (by decide) lk0 (fun _ h9 => h9) rfl dX11_gift_26 ?_
      refine lv_iload_n hx hb dX11_gift_29 rfl (lv_at hl 2 rfl) ?_
      refine lv_iload_n hx hb dX11_gift_30 rfl (lv_at hl 3 rfl) ?_
      refine lv_iload_n hx hb dX11_gift_31 rfl (lv_at hl 4 rfl) ?_
      have hPc := hP.sub (ws' := [(a_gifts, .inr (4, [.ref ga_weekly, .ref ga_doubled, .ref ga_dueOn, .ref ga_owed, .ref ga_said, .ref ga_spared, .ref ga_leaveOf, .ref ga_leaveFrom, .ref ga_leaveTo, .int gv_size, .int gv_rows])), (ga_weekly, .inl (cZ, 40, .inl gf_weekly)), (ga_doubled, .inl (cZ, 40, .inl gf_doubled)), (ga_dueOn, .inl (cI, 40, .inl gf_dueOn))]) [1, 2, 3, 4] rfl
      refine rwV (As := [.int a, .int n, .int b]) (rest := []) (wc := [(a_gifts, .inr (4, [.ref ga_weekly, .ref ga_doubled, .ref ga_dueOn, .ref ga_owed, .ref ga_said, .ref ga_spared, .ref ga_leaveOf, .ref ga_leaveFrom, .ref ga_leaveTo, .int gv_size, .int gv_rows])), (ga_weekly, .inl (cZ, 40, .inl gf_weekly)), (ga_doubled, .inl (cZ, 40, .inl gf_doubled)), (ga_dueOn, .inl (cI, 40, .inl gf_dueOn))]) (wr := [(h, .inr (10, [.ref a_bells, .ref a_feasts, .ref a_tape, .ref a_reader, .ref a_rules, .ref a_monks, .ref a_duties, .ref a_gifts, .ref a_figures, .int v_today, .int v_stock, .int v_guestHeads, .int v_guestRanks, .int v_faultPlace, .int v_candlesInAll]))]) S (g_enter  (by omega) (by omega)) (cwV 3 hts gX11_gift_X4_enter rfl rfl rfl ⟨rfl, hd_X4_enter⟩ ⟨Nat.le_of_ble_eq_true rfl, Nat.le_of_ble_eq_true rfl⟩) hK hP hD hS hA [1, 2, 3, 4] [0] rfl rfl (by decide +kernel) (by decide +kernel) (by decide +kernel) (va_recv hK.1 hPc (ci := 4) (q0 := 0) rfl rfl) rfl hl.1 rfl (Nat.le_of_ble_eq_true rfl) dX11_gift_32 ⟨Nat.le_of_ble_eq_true rfl, Nat.le_of_ble_eq_true rfl⟩ (fun r_en u_en H locs hw_en hP hD hS => ?_)
      obtain ⟨v_size1_en, f_weekly1_en, f_dueOn1_en, f_doubled1_en⟩ := u_en
      have hw_en : (gv_size.toInt = 40 ∧ r_en.toInt = -1 ∧ v_size1_en = gv_size) ∨ (gv_size.toInt < 40 ∧ r_en.toInt = gv_size.toInt ∧ v_size1_en.toInt = gv_size.toInt + 1) := hw_en
      have hP : va_P D vwCl [(h, .inr (10, [.ref a_bells, .ref a_feasts, .ref a_tape, .ref a_reader, .ref a_rules, .ref a_monks, .ref a_duties, .ref a_gifts, .ref a_figures, .int v_today, .int v_stock, .int v_guestHeads, .int v_guestRanks, .int v_faultPlace, .int v_candlesInAll])), (a_gifts, .inr (4, [.ref ga_weekly, .ref ga_doubled, .ref ga_dueOn, .ref ga_owed, .ref ga_said, .ref ga_spared, .ref ga_leaveOf, .ref ga_leaveFrom, .ref ga_leaveTo, .int v_size1_en, .int gv_rows])), (ga_weekly, .inl (cZ, 40, .inl f_weekly1_en)), (ga_doubled, .inl (cZ, 40, .inl f_doubled1_en)), (ga_dueOn, .inl (cI, 40, .inl f_dueOn1_en))] H := hP
      have hD := asD hP hD
      refine lv_goto (tgt := 39) hx hb dX11_gift_35 (by decide) ?_
      exact hret r_en (v_size1_en, f_weekly1_en, f_doubled1_en, f_dueOn1_en) _ _ _ _ (show ((((a.toInt ≠ 0 ∧ 0 ≤ n.toInt ∧ n.toInt ≤ 6) ∨ (a.toInt = 0 ∧ 0 ≤ n.toInt ∧ n.toInt ≤ 364)) ∧ gv_size.toInt < 40) ∧ r_en.toInt = gv_size.toInt ∧ v_size1_en.toInt = gv_size.toInt + 1) ∨ (¬ (((a.toInt ≠ 0 ∧ 0 ≤ n.toInt ∧ n.toInt ≤ 6) ∨ (a.toInt = 0 ∧ 0 ≤ n.toInt ∧ n.toInt ≤ 364)) ∧ gv_size.toInt < 40) ∧ r_en.toInt = -1 ∧ v_size1_en = gv_size) from by first | (rcases hw_en with z | z; exact Or.inr ⟨by omega, by omega, z.2.2⟩; exact Or.inl ⟨by omega, by omega, by omega⟩) | exact Or.inr ⟨by omega, by omega, rfl⟩) rfl (hP.sub [0, 1, 2, 3, 4] rfl) (hD.sub [0, 1, 2, 3, 4] (by decide +kernel) rfl) hS dX11_gift_39
  · have tc_1 := t_neq c_1
    refine lv_iload_n hx hb dX11_gift_4 rfl (lv_at hl 2 rfl) ?_
    refine lv_iconst (v := 0) hx hb dX11_gift_5 (by decide) ?_
    refine lv_bipush (v := 6) hx hb dX11_gift_6 (by decide) ?_
    have hPc := hP.sub (ws' := []) [] rfl
    refine roS (As := [.int n, .int 0, .int 6]) (rest := []) S (w_within  ) (va_cwS 3 hts gX11_gift_X11_within rfl rfl rfl hd_X11_within ⟨Nat.le_of_ble_eq_true rfl, Nat.le_of_ble_eq_true rfl⟩) hK hPc rfl hl.1 rfl (Nat.le_of_ble_eq_true rfl) dX11_gift_8 ⟨Nat.le_of_ble_eq_true rfl, Nat.le_of_ble_eq_true rfl⟩ (fun r_4 hw_4 => ?_)
    have hw_4 : (r_4.toInt = 1 ∧ (0 : Int32).toInt ≤ n.toInt ∧ n.toInt ≤ (6 : Int32).toInt) ∨ (r_4.toInt = 0 ∧ (n.toInt < (0 : Int32).toInt ∨ (6 : Int32).toInt < n.toInt)) := hw_4
    refine lv_goto (tgt := 18) hx hb dX11_gift_11 (by decide) ?_
    refine lv_istore (lv' := [(4, .int r_4), (0, .ref h), (1, .int a), (2, .int n), (3, .int b)]) hx hb dX11_gift_18 hl (by decide) rfl (fun ls hl => ?_)
    refine lv_iload hx hb dX11_gift_20 (lv_at hl 0 rfl) ?_
    refine lv_if_eq (tgt := 38) hx hb dX11_gift_22 (by decide) (fun c_5 => ?_) (fun c_5 => ?_)
    · have tc_5 := t_eq c_5
      refine lv_iconst (v := (-1)) hx hb dX11_gift_38 (by decide) ?_
      exact hret (-1) (gv_size, gf_weekly, gf_doubled, gf_dueOn) _ _ _ _ (show ((((a.toInt ≠ 0 ∧ 0 ≤ n.toInt ∧ n.toInt ≤ 6) ∨ (a.toInt = 0 ∧ 0 ≤ n.toInt ∧ n.toInt ≤ 364)) ∧ gv_size.toInt < 40) ∧ (-1 : Int32).toInt = gv_size.toInt ∧ gv_size.toInt = gv_size.toInt + 1) ∨ (¬ (((a.toInt ≠ 0 ∧ 0 ≤ n.toInt ∧ n.toInt ≤ 6) ∨ (a.toInt = 0 ∧ 0 ≤ n.toInt ∧ n.toInt ≤ 364)) ∧ gv_size.toInt < 40) ∧ (-1 : Int32).toInt = -1 ∧ gv_size = gv_size) from by first | (rcases hw_en with z | z; exact Or.inr ⟨by omega, by omega, z.2.2⟩; exact Or.inl ⟨by omega, by omega, by omega⟩) | exact Or.inr ⟨by omega, by omega, rfl⟩) rfl (hP.sub [0, 1, 2, 3, 4] rfl) (hD.sub [0, 1, 2, 3, 4] (by decide +kernel) rfl) hS dX11_gift_39
    · have tc_5 := t_neq c_5
      refine lv_aload_n hx hb dX11_gift_25 rfl (lv_at hl 1 rfl) ?_
      refine va_get (D := D) (ci := 10) (v := .ref a_gifts) (C := RX11) (T := TX11) (N := 15) hx hb hts in_V_gift_X11 hown hK.1 hP 0 rfl rfl 7 (by decide) lk0 (fun _ h9 => h9) rfl dX11_gift_26 ?_
      refine lv_iload_n hx hb dX11_gift_29 rfl (lv_at hl 2 rfl) ?_
      refine lv_iload_n hx hb dX11_gift_30 rfl (lv_at hl 3 rfl) ?_
      refine lv_iload_n hx hb dX11_gift_31 rfl (lv_at hl 4 rfl) ?_
      have hPc := hP.sub (ws' := [(a_gifts, .inr (4, [.ref ga_weekly, .ref ga_doubled, .ref ga_dueOn, .ref ga_owed, .ref ga_said, .ref ga_spared, .ref ga_leaveOf, .ref ga_leaveFrom, .ref ga_leaveTo, .int gv_size, .int gv_rows])), (ga_weekly, .inl (cZ, 40, .inl gf_weekly)), (ga_doubled, .inl (cZ, 40, .inl gf_doubled)), (ga_dueOn, .inl (cI, 40, .inl gf_dueOn))]) [1, 2, 3, 4] rfl
      refine rwV (As := [.int a, .int n, .int b]) (rest := []) (wc := [(a_gifts, .inr (4, [.ref ga_weekly, .ref ga_doubled, .ref ga_dueOn, .ref ga_owed, .ref ga_said, .ref ga_spared, .ref ga_leaveOf, .ref ga_leaveFrom, .ref ga_leaveTo, .int gv_size, .int gv_rows])), (ga_weekly, .inl (cZ, 40, .inl gf_weekly)), (ga_doubled, .inl (cZ, 40, .inl gf_doubled)), (ga_dueOn, .inl (cI, 40, .inl gf_dueOn))]) (wr := [(h, .inr (10, [.ref a_bells, .ref a_feasts, .ref a_tape, .ref a_reader, .ref a_rules, .ref a_monks, .ref a_duties, .ref a_gifts, .ref a_figures, .int v_today, .int v_stock, .int v_guestHeads, .int v_guestRanks, .int v_faultPlace, .int v_candlesInAll]))]) S (g_enter  (by omega) (by omega)) (cwV 3 hts gX11_gift_X4_enter rfl rfl rfl ⟨rfl, hd_X4_enter⟩ ⟨Nat.le_of_ble_eq_true rfl, Nat.le_of_ble_eq_true rfl⟩) hK hP hD hS hA [1, 2, 3, 4] [0] rfl rfl (by decide +kernel) (by decide +kernel) (by decide +kernel) (va_recv hK.1 hPc (ci := 4) (q0 := 0) rfl rfl) rfl hl.1 rfl (Nat.le_of_ble_eq_true rfl) dX11_gift_32 ⟨Nat.le_of_ble_eq_true rfl, Nat.le_of_ble_eq_true rfl⟩ (fun r_en u_en H locs hw_en hP hD hS => ?_)
      obtain ⟨v_size1_en, f_weekly1_en, f_dueOn1_en, f_doubled1_en⟩ := u_en
      have hw_en : (gv_size.toInt = 40 ∧ r_en.toInt = -1 ∧ v_size1_en = gv_size) ∨ (gv_size.toInt < 40 ∧ r_en.toInt = gv_size.toInt ∧ v_size1_en.toInt = gv_size.toInt + 1) := hw_en
      have hP : va_P D vwCl [(h, .inr (10, [.ref a_bells, .ref a_feasts, .ref a_tape, .ref a_reader, .ref a_rules, .ref a_monks, .ref a_duties, .ref a_gifts, .ref a_figures, .int v_today, .int v_stock, .int v_guestHeads, .int v_guestRanks, .int v_faultPlace, .int v_candlesInAll])), (a_gifts, .inr (4, [.ref ga_weekly, .ref ga_doubled, .ref ga_dueOn, .ref ga_owed, .ref ga_said, .ref ga_spared, .ref ga_leaveOf, .ref ga_leaveFrom, .ref ga_leaveTo, .int v_size1_en, .int gv_rows])), (ga_weekly, .inl (cZ, 40, .inl f_weekly1_en)), (ga_doubled, .inl (cZ, 40, .inl f_doubled1_en)), (ga_dueOn, .inl (cI, 40, .inl f_dueOn1_en))] H := hP
      have hD := asD hP hD
      refine lv_goto (tgt := 39) hx hb dX11_gift_35 (by decide) ?_
      exact hret r_en (v_size1_en, f_weekly1_en, f_doubled1_en, f_dueOn1_en) _ _ _ _ (show ((((a.toInt ≠ 0 ∧ 0 ≤ n.toInt ∧ n.toInt ≤ 6) ∨ (a.toInt = 0 ∧ 0 ≤ n.toInt ∧ n.toInt ≤ 364)) ∧ gv_size.toInt < 40) ∧ r_en.toInt = gv_size.toInt ∧ v_size1_en.toInt = gv_size.toInt + 1) ∨ (¬ (((a.toInt ≠ 0 ∧ 0 ≤ n.toInt ∧ n.toInt ≤ 6) ∨ (a.toInt = 0 ∧ 0 ≤ n.toInt ∧ n.toInt ≤ 364)) ∧ gv_size.toInt < 40) ∧ r_en.toInt = -1 ∧ v_size1_en = gv_size) from by first | (rcases hw_en with z | z; exact Or.inr ⟨by omega, by omega, z.2.2⟩; exact Or.inl ⟨by omega, by omega, by omega⟩) | exact Or.inr ⟨by omega, by omega, rfl⟩) rfl (hP.sub [0, 1, 2, 3, 4] rfl) (hD.sub [0, 1, 2, 3, 4] (by decide +kernel) rfl) hS dX11_gift_39

theorem in_V_leave_X11 : ∀ w ∈ wsX110, w ∈ wsX11_leave := tl_X11_leave_X11
set_option maxHeartbeats 8000000 in
set_option maxRecDepth 100000 in
theorem V_leave {l : Launch} {D : va_G} {cI cZ cB : ClassId} {sz : Nat} {h a_bells a_feasts a_tape a_reader a_rules a_monks a_duties a_gifts a_figures ga_weekly ga_doubled ga_dueOn ga_owed ga_said ga_spared ga_leaveOf ga_leaveFrom ga_leaveTo : Nat} {v_today v_stock v_guestHeads v_guestRanks v_faultPlace v_candlesInAll gv_size gv_rows : Int32} {gf_leaveOf gf_leaveFrom gf_leaveTo : Nat → Int32} {i a b : Int32} (hgv_size0 : 0 ≤ gv_size.toInt) (hgv_size1 : gv_size.toInt ≤ 40) (hgv_rows0 : 0 ≤ gv_rows.toInt) (hgv_rows1 : gv_rows.toInt ≤ 40) : Met l yX11_leave wsX11_leave ({ frames := 3, cells := 0, slots := 0, locals := 63 }) (RW D cI cZ cB [.ref h, .int i, .int a, .int b] sz [(h, .inr (10, [.ref a_bells, .ref a_feasts, .ref a_tape, .ref a_reader, .ref a_rules, .ref a_monks, .ref a_duties, .ref a_gifts, .ref a_figures, .int v_today, .int v_stock, .int v_guestHeads, .int v_guestRanks, .int v_faultPlace, .int v_candlesInAll])), (a_gifts, .inr (4, [.ref ga_weekly, .ref ga_doubled, .ref ga_dueOn, .ref ga_owed, .ref ga_said, .ref ga_spared, .ref ga_leaveOf, .ref ga_leaveFrom, .ref ga_leaveTo, .int gv_size, .int gv_rows])), (ga_leaveOf, .inl (cI, 40, .inl gf_leaveOf)), (ga_leaveFrom, .inl (cI, 40, .inl gf_leaveFrom)), (ga_leaveTo, .inl (cI, 40, .inl gf_leaveTo))]) (va_Qi (fun (r : Int32) (u : Int32 × (Nat → Int32) × (Nat → Int32) × (Nat → Int32)) => (((0 ≤ i.toInt ∧ i.toInt < gv_size.toInt ∧ 0 ≤ a.toInt ∧ a.toInt ≤ b.toInt ∧ b.toInt ≤ 1094) ∧ gv_rows.toInt < 40) ∧ r.toInt = gv_rows.toInt + 1 ∧ u.1.toInt = gv_rows.toInt + 1) ∨ (¬ ((0 ≤ i.toInt ∧ i.toInt < gv_size.toInt ∧ 0 ≤ a.toInt ∧ a.toInt ≤ b.toInt ∧ b.toInt ≤ 1094) ∧ gv_rows.toInt < 40) ∧ r.toInt = -1 ∧ u.1 = gv_rows)) (BW D [(h, .inr (10, [.ref a_bells, .ref a_feasts, .ref a_tape, .ref a_reader, .ref a_rules, .ref a_monks, .ref a_duties, .ref a_gifts, .ref a_figures, .int v_today, .int v_stock, .int v_guestHeads, .int v_guestRanks, .int v_faultPlace, .int v_candlesInAll])), (a_gifts, .inr (4, [.ref ga_weekly, .ref ga_doubled, .ref ga_dueOn, .ref ga_owed, .ref ga_said, .ref ga_spared, .ref ga_leaveOf, .ref ga_leaveFrom, .ref ga_leaveTo, .int gv_size, .int gv_rows])), (ga_leaveOf, .inl (cI, 40, .inl gf_leaveOf)), (ga_leaveFrom, .inl (cI, 40, .inl gf_leaveFrom)), (ga_leaveTo, .inl (cI, 40, .inl gf_leaveTo))] sz (fun u : Int32 × (Nat → Int32) × (Nat → Int32) × (Nat → Int32) => [(h, .inr (10, [.ref a_bells, .ref a_feasts, .ref a_tape, .ref a_reader, .ref a_rules, .ref a_monks, .ref a_duties, .ref a_gifts, .ref a_figures, .int v_today, .int v_stock, .int v_guestHeads, .int v_guestRanks, .int v_faultPlace, .int v_candlesInAll])), (a_gifts, .inr (4, [.ref ga_weekly, .ref ga_doubled, .ref ga_dueOn, .ref ga_owed, .ref ga_said, .ref ga_spared, .ref ga_leaveOf, .ref ga_leaveFrom, .ref ga_leaveTo, .int gv_size, .int u.1])), (ga_leaveOf, .inl (cI, 40, .inl u.2.1)), (ga_leaveFrom, .inl (cI, 40, .inl u.2.2.1)), (ga_leaveTo, .inl (cI, 40, .inl u.2.2.2))])) (va_A [(h, .inr (10, [.ref a_bells, .ref a_feasts, .ref a_tape, .ref a_reader, .ref a_rules, .ref a_monks, .ref a_duties, .ref a_gifts, .ref a_figures, .int v_today, .int v_stock, .int v_guestHeads, .int v_guestRanks, .int v_faultPlace, .int v_candlesInAll])), (a_gifts, .inr (4, [.ref ga_weekly, .ref ga_doubled, .ref ga_dueOn, .ref ga_owed, .ref ga_said, .ref ga_spared, .ref ga_leaveOf, .ref ga_leaveFrom, .ref ga_leaveTo, .int gv_size, .int gv_rows])), (ga_leaveOf, .inl (cI, 40, .inl gf_leaveOf)), (ga_leaveFrom, .inl (cI, 40, .inl gf_leaveFrom)), (ga_leaveTo, .inl (cI, 40, .inl gf_leaveTo))] sz)) 0 0 (va_A [(h, .inr (10, [.ref a_bells, .ref a_feasts, .ref a_tape, .ref a_reader, .ref a_rules, .ref a_monks, .ref a_duties, .ref a_gifts, .ref a_figures, .int v_today, .int v_stock, .int v_guestHeads, .int v_guestRanks, .int v_faultPlace, .int v_candlesInAll])), (a_gifts, .inr (4, [.ref ga_weekly, .ref ga_doubled, .ref ga_dueOn, .ref ga_owed, .ref ga_said, .ref ga_spared, .ref ga_leaveOf, .ref ga_leaveFrom, .ref ga_leaveTo, .int gv_size, .int gv_rows])), (ga_leaveOf, .inl (cI, 40, .inl gf_leaveOf)), (ga_leaveFrom, .inl (cI, 40, .inl gf_leaveFrom)), (ga_leaveTo, .inl (cI, 40, .inl gf_leaveTo))] sz) := by
  refine rw_ret (cc := cX11_leave) (maxL := 4) (ty := .int) (own := RX11) (by decide) rfl rfl (Nat.le_of_ble_eq_true rfl) ?_
  intro p e s m args below meth c Q A S hin hret hP hK hD hA hS ls hl
  obtain ⟨hx, hb, hml, hown, hts⟩ := id S
  have hl : lv_has ls 4 [(0, .ref h), (1, .int i), (2, .int a), (3, .int b)] := hl
  have kkm1 : (-1 : Int32).toInt = -1 := by decide
  have kk0 : (0 : Int32).toInt = 0 := by decide
  have lk0 := hts (.fieldLink RX11 61 "AbbeyHours" "gifts" "LAbbeyHours$Gifts;") (mc_X11_leave_r1 _ (List.mem_of_getElem? (i := 0) rfl))
  refine lv_aload_n hx hb dX11_leave_0 rfl (lv_at hl 0 rfl) ?_
  refine va_get (D := D) (ci := 10) (v := .ref a_gifts) (C := RX11) (T := TX11) (N := 15) hx hb hts in_V_leave_X11 hown hK.1 hP 0 rfl rfl 7 (by decide) lk0 (fun _ h9 => h9) rfl dX11_leave_1 ?_
  refine lv_iload_n hx hb dX11_leave_4 rfl (lv_at hl 1 rfl) ?_
  have hPc := hP.sub (ws' := [(a_gifts, .inr (4, [.ref ga_weekly, .ref ga_doubled, .ref ga_dueOn, .ref ga_owed, .ref ga_said, .ref ga_spared, .ref ga_leaveOf, .ref ga_leaveFrom, .ref ga_leaveTo, .int gv_size, .int gv_rows]))]) [1] rfl
  refine roV (As := [.int i]) (rest := []) S (g_has  ) (cwV 1 hts gX11_leave_X4_has rfl rfl rfl ⟨rfl, hd_X4_has⟩ ⟨Nat.le_of_ble_eq_true rfl, Nat.le_of_ble_eq_true rfl⟩) hK hPc (va_recv hK.1 hPc (ci := 4) (q0 := 0) rfl rfl) rfl hl.1 rfl (Nat.le_of_ble_eq_true rfl) dX11_leave_5 ⟨Nat.le_of_ble_eq_true rfl, Nat.le_of_ble_eq_true rfl⟩ (fun r_1 hw_1 => ?_)
  have hw_1 : (r_1.toInt = 1 ∧ 0 ≤ i.toInt ∧ i.toInt < gv_size.toInt) ∨ (r_1.toInt = 0 ∧ (i.toInt < 0 ∨ gv_size.toInt ≤ i.toInt)) := hw_1
  refine lv_if_eq (tgt := 32) hx hb dX11_leave_8 (by decide) (fun c_2 => ?_) (fun c_2 => ?_)
  · have tc_2 := t_eq c_2
    refine lv_iconst (v := (-1)) hx hb dX11_leave_32 (by decide) ?_
    exact hret (-1) (gv_rows, gf_leaveOf, gf_leaveFrom, gf_leaveTo) _ _ _ _ (show (((0 ≤ i.toInt ∧ i.toInt < gv_size.toInt ∧ 0 ≤ a.toInt ∧ a.toInt ≤ b.toInt ∧ b.toInt ≤ 1094) ∧ gv_rows.toInt < 40) ∧ (-1 : Int32).toInt = gv_rows.toInt + 1 ∧ gv_rows.toInt = gv_rows.toInt + 1) ∨ (¬ ((0 ≤ i.toInt ∧ i.toInt < gv_size.toInt ∧ 0 ≤ a.toInt ∧ a.toInt ≤ b.toInt ∧ b.toInt ≤ 1094) ∧ gv_rows.toInt < 40) ∧ (-1 : Int32).toInt = -1 ∧ gv_rows = gv_rows) from by first | (rcases hw_en with z | z; exact Or.inr ⟨by omega, by omega, z.2.2⟩; exact Or.inl ⟨by omega, by omega, by omega⟩) | exact Or.inr ⟨by omega, by omega, rfl⟩) rfl (hP.sub [0, 1, 2, 3, 4] rfl) (hD.sub [0, 1, 2, 3, 4] (by decide +kernel) rfl) hS dX11_leave_33
  · have tc_2 := t_neq c_2
    refine lv_iload_n hx hb dX11_leave_11 rfl (lv_at hl 2 rfl) ?_
    refine lv_iload_n hx hb dX11_leave_12 rfl (lv_at hl 3 rfl) ?_
    have hPc := hP.sub (ws' := []) [] rfl
    refine roS (As := [.int a, .int b]) (rest := []) S (w_isSpan  ) (va_cwS 2 hts gX11_leave_X11_isSpan rfl rfl rfl hd_X11_isSpan ⟨Nat.le_of_ble_eq_true rfl, Nat.le_of_ble_eq_true rfl⟩) hK hPc rfl hl.1 rfl (Nat.le_of_ble_eq_true rfl) dX11_leave_13 ⟨Nat.le_of_ble_eq_true rfl, Nat.le_of_ble_eq_true rfl⟩ (fun r_3 hw_3 => ?_)
    have hw_3 : (r_3.toInt = 1 ∧ 0 ≤ a.toInt ∧ a.toInt ≤ b.toInt ∧ b.toInt ≤ 1094) ∨ (r_3.toInt = 0 ∧ (a.toInt < 0 ∨ b.toInt < a.toInt ∨ 1094 < b.toInt)) := hw_3
    refine lv_if_eq (tgt := 32) hx hb dX11_leave_16 (by decide) (fun c_4 => ?_) (fun c_4 => ?_)
    · have tc_4 := t_eq c_4
      refine lv_iconst (v := (-1)) hx hb dX11_leave_32 (by decide) ?_
      exact hret (-1) (gv_rows, gf_leaveOf, gf_leaveFrom, gf_leaveTo) _ _ _ _ (show (((0 ≤ i.toInt ∧ i.toInt < gv_size.toInt ∧ 0 ≤ a.toInt ∧ a.toInt ≤ b.toInt ∧ b.toInt ≤ 1094) ∧ gv_rows.toInt < 40) ∧ (-1 : Int32).toInt = gv_rows.toInt + 1 ∧ gv_rows.toInt = gv_rows.toInt + 1) ∨ (¬ ((0 ≤ i.toInt ∧ i.toInt < gv_size.toInt ∧ 0 ≤ a.toInt ∧ a.toInt ≤ b.toInt ∧ b.toInt ≤ 1094) ∧ gv_rows.toInt < 40) ∧ (-1 : Int32).toInt = -1 ∧ gv_rows = gv_rows) from by first | (rcases hw_en with z | z; exact Or.inr ⟨by omega, by omega, z.2.2⟩; exact Or.inl ⟨by omega, by omega, by omega⟩) | exact Or.inr ⟨by omega, by omega, rfl⟩) rfl (hP.sub [0, 1, 2, 3, 4] rfl) (hD.sub [0, 1, 2, 3, 4] (by decide +kernel) rfl) hS dX11_leave_33
    · have tc_4 := t_neq c_4
      refine lv_aload_n hx hb dX11_leave_19 rfl (lv_at hl 0 rfl) ?_
      refine va_get (D := D) (ci := 10) (v := .ref a_gifts) (C := RX11) (T := TX11) (N := 15) hx hb hts in_V_leave_X11 hown hK.1 hP 0 rfl rfl 7 (by decide) lk0 (fun _ h9 => h9) rfl dX11_leave_20 ?_
      refine lv_iload_n hx hb dX11_leave_23 rfl (lv_at hl 1 rfl) ?_
      refine lv_iload_n hx hb dX11_leave_24 rfl (lv_at hl 2 rfl) ?_
      refine lv_iload_n hx hb dX11_leave_25 rfl (lv_at hl 3 rfl) ?_
      have hPc := hP.sub (ws' := [(a_gifts, .inr (4, [.ref ga_weekly, .ref ga_doubled, .ref ga_dueOn, .ref ga_owed, .ref ga_said, .ref ga_spared, .ref ga_leaveOf, .ref ga_leaveFrom, .ref ga_leaveTo, .int gv_size, .int gv_rows])), (ga_leaveOf, .inl (cI, 40, .inl gf_leaveOf)), (ga_leaveFrom, .inl (cI, 40, .inl gf_leaveFrom)), (ga_leaveTo, .inl (cI, 40, .inl gf_leaveTo))]) [1, 2, 3, 4] rfl
      refine rwV (As := [.int i, .int a, .int b]) (rest := []) (wc := [(a_gifts, .inr (4, [.ref ga_weekly, .ref ga_doubled, .ref ga_dueOn, .ref ga_owed, .ref ga_said, .ref ga_spared, .ref ga_leaveOf, .ref ga_leaveFrom, .ref ga_leaveTo, .int gv_size, .int gv_rows])), (ga_leaveOf, .inl (cI, 40, .inl gf_leaveOf)), (ga_leaveFrom, .inl (cI, 40, .inl gf_leaveFrom)), (ga_leaveTo, .inl (cI, 40, .inl gf_leaveTo))]) (wr := [(h, .inr (10, [.ref a_bells, .ref a_feasts, .ref a_tape, .ref a_reader, .ref a_rules, .ref a_monks, .ref a_duties, .ref a_gifts, .ref a_figures, .int v_today, .int v_stock, .int v_guestHeads, .int v_guestRanks, .int v_faultPlace, .int v_candlesInAll]))]) S (g_spare  (by omega) (by omega)) (cwV 3 hts gX11_leave_X4_spare rfl rfl rfl ⟨rfl, hd_X4_spare⟩ ⟨Nat.le_of_ble_eq_true rfl, Nat.le_of_ble_eq_true rfl⟩) hK hP hD hS hA [1, 2, 3, 4] [0] rfl rfl (by decide +kernel) (by decide +kernel) (by decide +kernel) (va_recv hK.1 hPc (ci := 4) (q0 := 0) rfl rfl) rfl hl.1 rfl (Nat.le_of_ble_eq_true rfl) dX11_leave_26 ⟨Nat.le_of_ble_eq_true rfl, Nat.le_of_ble_eq_true rfl⟩ (fun r_en u_en H locs hw_en hP hD hS => ?_)
      obtain ⟨v_rows1_en, f_leaveOf1_en, f_leaveFrom1_en, f_leaveTo1_en⟩ := u_en
      have hw_en : (gv_rows.toInt = 40 ∧ r_en.toInt = -1 ∧ v_rows1_en = gv_rows) ∨ (gv_rows.toInt < 40 ∧ r_en.toInt = gv_rows.toInt + 1 ∧ v_rows1_en.toInt = gv_rows.toInt + 1) := hw_en
      have hP : va_P D vwCl [(h, .inr (10, [.ref a_bells, .ref a_feasts, .ref a_tape, .ref a_reader, .ref a_rules, .ref a_monks, .ref a_duties, .ref a_gifts, .ref a_figures, .int v_today, .int v_stock, .int v_guestHeads, .int v_guestRanks, .int v_faultPlace, .int v_candlesInAll])), (a_gifts, .inr (4, [.ref ga_weekly, .ref ga_doubled, .ref ga_dueOn, .ref ga_owed, .ref ga_said, .ref ga_spared, .ref ga_leaveOf, .ref ga_leaveFrom, .ref ga_leaveTo, .int gv_size, .int v_rows1_en])), (ga_leaveOf, .inl (cI, 40, .inl f_leaveOf1_en)), (ga_leaveFrom, .inl (cI, 40, .inl f_leaveFrom1_en)), (ga_leaveTo, .inl (cI, 40, .inl f_leaveTo1_en))] H := hP
      have hD := asD hP hD
      refine lv_goto (tgt := 33) hx hb dX11_leave_29 (by decide) ?_
      exact hret r_en (v_rows1_en, f_leaveOf1_en, f_leaveFrom1_en, f_leaveTo1_en) _ _ _ _ (show (((0 ≤ i.toInt ∧ i.toInt < gv_size.toInt ∧ 0 ≤ a.toInt ∧ a.toInt ≤ b.toInt ∧ b.toInt ≤ 1094) ∧ gv_rows.toInt < 40) ∧ r_en.toInt = gv_rows.toInt + 1 ∧ v_rows1_en.toInt = gv_rows.toInt + 1) ∨ (¬ ((0 ≤ i.toInt ∧ i.toInt < gv_size.toInt ∧ 0 ≤ a.toInt ∧ a.toInt ≤ b.toInt ∧ b.toInt ≤ 1094) ∧ gv_rows.toInt < 40) ∧ r_en.toInt = -1 ∧ v_rows1_en = gv_rows) from by first | (rcases hw_en with z | z; exact Or.inr ⟨by omega, by omega, z.2.2⟩; exact Or.inl ⟨by omega, by omega, by omega⟩) | exact Or.inr ⟨by omega, by omega, rfl⟩) rfl (hP.sub [0, 1, 2, 3, 4] rfl) (hD.sub [0, 1, 2, 3, 4] (by decide +kernel) rfl) hS dX11_leave_33

theorem in_V_giftOf_X11 : ∀ w ∈ wsX110, w ∈ wsX11_giftOf := tl_X11_giftOf_X11
set_option maxHeartbeats 8000000 in
set_option maxRecDepth 100000 in
theorem V_giftOf {l : Launch} {D : va_G} {cI cZ cB : ClassId} {h a_bells a_feasts a_tape a_reader a_rules a_monks a_duties a_gifts a_figures ga_weekly ga_doubled ga_dueOn ga_owed ga_said ga_spared ga_leaveOf ga_leaveFrom ga_leaveTo : Nat} {v_today v_stock v_guestHeads v_guestRanks v_faultPlace v_candlesInAll gv_size gv_rows : Int32} {gf_owed gf_said gf_spared : Nat → Int32} {i w : Int32} (hgv_size0 : 0 ≤ gv_size.toInt) (hgv_size1 : gv_size.toInt ≤ 40) : Met l yX11_giftOf wsX11_giftOf ({ frames := 2, cells := 0, slots := 0, locals := 43 }) (RO D cI cZ cB [.ref h, .int i, .int w] [(h, .inr (10, [.ref a_bells, .ref a_feasts, .ref a_tape, .ref a_reader, .ref a_rules, .ref a_monks, .ref a_duties, .ref a_gifts, .ref a_figures, .int v_today, .int v_stock, .int v_guestHeads, .int v_guestRanks, .int v_faultPlace, .int v_candlesInAll])), (a_gifts, .inr (4, [.ref ga_weekly, .ref ga_doubled, .ref ga_dueOn, .ref ga_owed, .ref ga_said, .ref ga_spared, .ref ga_leaveOf, .ref ga_leaveFrom, .ref ga_leaveTo, .int gv_size, .int gv_rows])), (ga_owed, .inl (cI, 40, .inl gf_owed)), (ga_said, .inl (cI, 40, .inl gf_said)), (ga_spared, .inl (cI, 40, .inl gf_spared))]) (vp_Si (fun r : Int32 => True)) 0 0 (fun _ => False) := by
  refine ro_ret (cc := cX11_giftOf) (maxL := 3) (ty := .int) (own := RX11) (by decide) rfl rfl (Nat.le_of_ble_eq_true rfl) ?_
  intro p e s m args below meth c Q S hret hP hK ls hl
  obtain ⟨hx, hb, hml, hown, hts⟩ := id S
  have hl : lv_has ls 3 [(0, .ref h), (1, .int i), (2, .int w)] := hl
  have kk0 : (0 : Int32).toInt = 0 := by decide
  have lk0 := hts (.fieldLink RX11 61 "AbbeyHours" "gifts" "LAbbeyHours$Gifts;") (List.mem_cons_of_mem _ (List.mem_append_left _ (List.mem_append_left _ (List.mem_of_getElem? (i := 0) rfl))))
  refine lv_aload_n hx hb dX11_giftOf_0 rfl (lv_at hl 0 rfl) ?_
  refine va_get (D := D) (ci := 10) (v := .ref a_gifts) (C := RX11) (T := TX11) (N := 15) hx hb hts in_V_giftOf_X11 hown hK.1 hP 0 rfl rfl 7 (by decide) lk0 (fun _ h9 => h9) rfl dX11_giftOf_1 ?_
  refine lv_iload_n hx hb dX11_giftOf_4 rfl (lv_at hl 1 rfl) ?_
  refine lv_iload_n hx hb dX11_giftOf_5 rfl (lv_at hl 2 rfl) ?_
  have hPc := hP.sub (ws' := [(a_gifts, .inr (4, [.ref ga_weekly, .ref ga_doubled, .ref ga_dueOn, .ref ga_owed, .ref ga_said, .ref ga_spared, .ref ga_leaveOf, .ref ga_leaveFrom, .ref ga_leaveTo, .int gv_size, .int gv_rows])), (ga_owed, .inl (cI, 40, .inl gf_owed)), (ga_said, .inl (cI, 40, .inl gf_said)), (ga_spared, .inl (cI, 40, .inl gf_spared))]) [1, 2, 3, 4] rfl
  refine roV (As := [.int i, .int w]) (rest := []) S (g_figure  (by omega) (by omega)) (cwV 2 hts gX11_giftOf_X4_figure rfl rfl rfl ⟨rfl, hd_X4_figure⟩ ⟨Nat.le_of_ble_eq_true rfl, Nat.le_of_ble_eq_true rfl⟩) hK hPc (va_recv hK.1 hPc (ci := 4) (q0 := 0) rfl rfl) rfl hl.1 rfl (Nat.le_of_ble_eq_true rfl) dX11_giftOf_6 ⟨Nat.le_of_ble_eq_true rfl, Nat.le_of_ble_eq_true rfl⟩ (fun r_1 hw_1 => ?_)
  have hw_1 : gv_size.toInt ≤ i.toInt ∨ i.toInt < 0 → r_1.toInt = -1 := hw_1
  exact hret r_1 _ _ (show True from trivial) rfl dX11_giftOf_9

theorem in_V_store_X11 : ∀ w ∈ wsX110, w ∈ wsX11_store := tl_X11_store_X11
set_option maxHeartbeats 8000000 in
set_option maxRecDepth 100000 in
theorem V_store {l : Launch} {D : va_G} {cI cZ cB : ClassId} {sz : Nat} {h a_bells a_feasts a_tape a_reader a_rules a_monks a_duties a_gifts a_figures : Nat} {v_today v_stock v_guestHeads v_guestRanks v_faultPlace v_candlesInAll : Int32} {x : Int32}  : Met l yX11_store wsX11_store ({ frames := 1, cells := 0, slots := 0, locals := 22 }) (RW D cI cZ cB [.ref h, .int x] sz [(h, .inr (10, [.ref a_bells, .ref a_feasts, .ref a_tape, .ref a_reader, .ref a_rules, .ref a_monks, .ref a_duties, .ref a_gifts, .ref a_figures, .int v_today, .int v_stock, .int v_guestHeads, .int v_guestRanks, .int v_faultPlace, .int v_candlesInAll]))]) (va_Qi (fun (r : Int32) (u : Int32) => True) (BW D [(h, .inr (10, [.ref a_bells, .ref a_feasts, .ref a_tape, .ref a_reader, .ref a_rules, .ref a_monks, .ref a_duties, .ref a_gifts, .ref a_figures, .int v_today, .int v_stock, .int v_guestHeads, .int v_guestRanks, .int v_faultPlace, .int v_candlesInAll]))] sz (fun u : Int32 => [(h, .inr (10, [.ref a_bells, .ref a_feasts, .ref a_tape, .ref a_reader, .ref a_rules, .ref a_monks, .ref a_duties, .ref a_gifts, .ref a_figures, .int v_today, .int u, .int v_guestHeads, .int v_guestRanks, .int v_faultPlace, .int v_candlesInAll]))])) (va_A [(h, .inr (10, [.ref a_bells, .ref a_feasts, .ref a_tape, .ref a_reader, .ref a_rules, .ref a_monks, .ref a_duties, .ref a_gifts, .ref a_figures, .int v_today, .int v_stock, .int v_guestHeads, .int v_guestRanks, .int v_faultPlace, .int v_candlesInAll]))] sz)) 0 0 (va_A [(h, .inr (10, [.ref a_bells, .ref a_feasts, .ref a_tape, .ref a_reader, .ref a_rules, .ref a_monks, .ref a_duties, .ref a_gifts, .ref a_figures, .int v_today, .int v_stock, .int v_guestHeads, .int v_guestRanks, .int v_faultPlace, .int v_candlesInAll]))] sz) := by
  refine rw_ret (cc := cX11_store) (maxL := 2) (ty := .int) (own := RX11) (by decide) rfl rfl (Nat.le_of_ble_eq_true rfl) ?_
  intro p e s m args below meth c Q A S hin hret hP hK hD hA hS ls hl
  obtain ⟨hx, hb, hml, hown, hts⟩ := id S
  have hl : lv_has ls 2 [(0, .ref h), (1, .int x)] := hl
  have kkm1 : (-1 : Int32).toInt = -1 := by decide
  have kk0 : (0 : Int32).toInt = 0 := by decide
  have kk10000 : (10000 : Int32).toInt = 10000 := by decide
  have kk1000000 : (1000000 : Int32).toInt = 1000000 := by decide
  have lk0 := hts (.fieldLink RX11 187 "AbbeyHours" "stock" "I") (List.mem_cons_of_mem _ (List.mem_append_left _ (List.mem_of_getElem? (i := 0) rfl)))
  have lk1 := hts (.constant RX11 190 (1000000)) (List.mem_cons_of_mem _ (List.mem_append_left _ (List.mem_of_getElem? (i := 1) rfl)))
  refine lv_iload_n hx hb dX11_store_0 rfl (lv_at hl 1 rfl) ?_
  refine lv_iconst (v := 0) hx hb dX11_store_1 (by decide) ?_
  refine lv_sipush (v := 10000) hx hb dX11_store_2 (by decide) ?_
  have hPc := hP.sub (ws' := []) [] rfl
  refine roS (As := [.int x, .int 0, .int 10000]) (rest := []) S (w_within  ) (va_cwS 3 hts gX11_store_X11_within rfl rfl rfl hd_X11_within ⟨Nat.le_of_ble_eq_true rfl, Nat.le_of_ble_eq_true rfl⟩) hK hPc rfl hl.1 rfl (Nat.le_of_ble_eq_true rfl) dX11_store_5 ⟨Nat.le_of_ble_eq_true rfl, Nat.le_of_ble_eq_true rfl⟩ (fun r_1 hw_1 => ?_)
  have hw_1 : (r_1.toInt = 1 ∧ (0 : Int32).toInt ≤ x.toInt ∧ x.toInt ≤ (10000 : Int32).toInt) ∨ (r_1.toInt = 0 ∧ (x.toInt < (0 : Int32).toInt ∨ (10000 : Int32).toInt < x.toInt)) := hw_1
  refine lv_if_eq (tgt := 22) hx hb dX11_store_8 (by decide) (fun c_2 => ?_) (fun c_2 => ?_)
  · have tc_2 := t_eq c_2
    refine lv_iconst (v := (-1)) hx hb dX11_store_22 (by decide) ?_
    exact hret (-1) v_stock _ _ _ _ (show True from trivial) rfl (hP.sub [0] rfl) (hD.sub [0] (by decide +kernel) rfl) hS dX11_store_23
  · have tc_2 := t_neq c_2
    refine lv_aload_n hx hb dX11_store_11 rfl (lv_at hl 0 rfl) ?_
    refine va_get (D := D) (ci := 10) (v := .int v_stock) (C := RX11) (T := TX11) (N := 15) hx hb hts in_V_store_X11 hown hK.1 hP 0 rfl rfl 10 (by decide) lk0 (fun _ h9 => h9) rfl dX11_store_12 ?_
    refine lv_iload_n hx hb dX11_store_15 rfl (lv_at hl 1 rfl) ?_
    refine lv_iadd hx hb dX11_store_16 ?_
    refine lv_topi (fun x_3 ex_3 => ?_)
    refine lv_ldc (v := 1000000) hx hb hown lk1 dX11_store_17 ?_
    refine lv_icmp_le (tgt := 24) hx hb dX11_store_19 (by decide) (fun c_4 => ?_) (fun c_4 => ?_)
    · have tc_4 := t_le c_4
      refine lv_aload_n hx hb dX11_store_24 rfl (lv_at hl 0 rfl) ?_
      refine lv_dup hx hb dX11_store_25 rfl ?_
      refine va_get (D := D) (ci := 10) (v := .int v_stock) (C := RX11) (T := TX11) (N := 15) hx hb hts in_V_store_X11 hown hK.1 hP 0 rfl rfl 10 (by decide) lk0 (fun _ h9 => h9) rfl dX11_store_26 ?_
      refine lv_iload_n hx hb dX11_store_29 rfl (lv_at hl 1 rfl) ?_
      refine lv_iadd hx hb dX11_store_30 ?_
      refine lv_topi (fun x_5 ex_5 => ?_)
      refine va_put (D := D) (ci := 10) (v := .int x_5) (ty := .int) (C := RX11) (T := TX11) (N := 15) hx hb hts in_V_store_X11 tyX11 tyX11_ok nmX11 hown hK.1 hP hD hS 0 rfl rfl 10 (by decide) lk0 (fun _ h9 => h9) rfl (by decide +kernel) rfl rfl (Nat.le_of_ble_eq_true rfl) dX11_store_31 (fun H locs hP hD hS => ?_)
      have hP : va_P D vwCl [(h, .inr (10, [.ref a_bells, .ref a_feasts, .ref a_tape, .ref a_reader, .ref a_rules, .ref a_monks, .ref a_duties, .ref a_gifts, .ref a_figures, .int v_today, .int x_5, .int v_guestHeads, .int v_guestRanks, .int v_faultPlace, .int v_candlesInAll]))] H := hP
      have hD := asD hP hD
      refine lv_aload_n hx hb dX11_store_34 rfl (lv_at hl 0 rfl) ?_
      refine va_get (D := D) (ci := 10) (v := .int x_5) (C := RX11) (T := TX11) (N := 15) hx hb hts in_V_store_X11 hown hK.1 hP 0 rfl rfl 10 (by decide) lk0 (fun _ h9 => h9) rfl dX11_store_35 ?_
      exact hret x_5 x_5 _ _ _ _ (show True from trivial) rfl (hP.sub [0] rfl) (hD.sub [0] (by decide +kernel) rfl) hS dX11_store_38
    · have tc_4 := t_nle c_4
      refine lv_iconst (v := (-1)) hx hb dX11_store_22 (by decide) ?_
      exact hret (-1) v_stock _ _ _ _ (show True from trivial) rfl (hP.sub [0] rfl) (hD.sub [0] (by decide +kernel) rfl) hS dX11_store_23

theorem in_V_guests_X11 : ∀ w ∈ wsX110, w ∈ wsX11_guests := tl_X11_guests_X11
set_option maxHeartbeats 8000000 in
set_option maxRecDepth 100000 in
theorem V_guests {l : Launch} {D : va_G} {cI cZ cB : ClassId} {sz : Nat} {h a_bells a_feasts a_tape a_reader a_rules a_monks a_duties a_gifts a_figures : Nat} {v_today v_stock v_guestHeads v_guestRanks v_faultPlace v_candlesInAll : Int32} {x k : Int32}  : Met l yX11_guests wsX11_guests ({ frames := 1, cells := 0, slots := 0, locals := 22 }) (RW D cI cZ cB [.ref h, .int x, .int k] sz [(h, .inr (10, [.ref a_bells, .ref a_feasts, .ref a_tape, .ref a_reader, .ref a_rules, .ref a_monks, .ref a_duties, .ref a_gifts, .ref a_figures, .int v_today, .int v_stock, .int v_guestHeads, .int v_guestRanks, .int v_faultPlace, .int v_candlesInAll]))]) (va_Qi (fun (r : Int32) (u : Int32 × Int32) => (((1 ≤ x.toInt ∧ x.toInt ≤ 50 ∧ 0 ≤ k.toInt ∧ k.toInt ≤ 5) ∧ (v_guestHeads + x).toInt ≤ 200) ∧ r = v_guestHeads + x ∧ u.1 = v_guestHeads + x) ∨ (¬ ((1 ≤ x.toInt ∧ x.toInt ≤ 50 ∧ 0 ≤ k.toInt ∧ k.toInt ≤ 5) ∧ (v_guestHeads + x).toInt ≤ 200) ∧ r.toInt = -1 ∧ u.1 = v_guestHeads)) (BW D [(h, .inr (10, [.ref a_bells, .ref a_feasts, .ref a_tape, .ref a_reader, .ref a_rules, .ref a_monks, .ref a_duties, .ref a_gifts, .ref a_figures, .int v_today, .int v_stock, .int v_guestHeads, .int v_guestRanks, .int v_faultPlace, .int v_candlesInAll]))] sz (fun u : Int32 × Int32 => [(h, .inr (10, [.ref a_bells, .ref a_feasts, .ref a_tape, .ref a_reader, .ref a_rules, .ref a_monks, .ref a_duties, .ref a_gifts, .ref a_figures, .int v_today, .int v_stock, .int u.1, .int u.2, .int v_faultPlace, .int v_candlesInAll]))])) (va_A [(h, .inr (10, [.ref a_bells, .ref a_feasts, .ref a_tape, .ref a_reader, .ref a_rules, .ref a_monks, .ref a_duties, .ref a_gifts, .ref a_figures, .int v_today, .int v_stock, .int v_guestHeads, .int v_guestRanks, .int v_faultPlace, .int v_candlesInAll]))] sz)) 0 0 (va_A [(h, .inr (10, [.ref a_bells, .ref a_feasts, .ref a_tape, .ref a_reader, .ref a_rules, .ref a_monks, .ref a_duties, .ref a_gifts, .ref a_figures, .int v_today, .int v_stock, .int v_guestHeads, .int v_guestRanks, .int v_faultPlace, .int v_candlesInAll]))] sz) := by
  refine rw_ret (cc := cX11_guests) (maxL := 4) (ty := .int) (own := RX11) (by decide) rfl rfl (Nat.le_of_ble_eq_true rfl) ?_
  intro p e s m args below meth c Q A S hin hret hP hK hD hA hS ls hl
  obtain ⟨hx, hb, hml, hown, hts⟩ := id S
  have hl : lv_has ls 4 [(0, .ref h), (1, .int x), (2, .int k)] := hl
  have kkm1 : (-1 : Int32).toInt = -1 := by decide
  have kk0 : (0 : Int32).toInt = 0 := by decide
  have kk1 : (1 : Int32).toInt = 1 := by decide
  have kk5 : (5 : Int32).toInt = 5 := by decide
  have kk50 : (50 : Int32).toInt = 50 := by decide
  have kk200 : (200 : Int32).toInt = 200 := by decide
  have lk0 := hts (.fieldLink RX11 191 "AbbeyHours" "guestHeads" "I") (List.mem_cons_of_mem _ (List.mem_append_left _ (List.mem_of_getElem? (i := 0) rfl)))
  have lk1 := hts (.fieldLink RX11 194 "AbbeyHours" "guestRanks" "I") (List.mem_cons_of_mem _ (List.mem_append_left _ (List.mem_of_getElem? (i := 1) rfl)))
  refine lv_iload_n hx hb dX11_guests_0 rfl (lv_at hl 1 rfl) ?_
  refine lv_iconst (v := 1) hx hb dX11_guests_1 (by decide) ?_
  refine lv_bipush (v := 50) hx hb dX11_guests_2 (by decide) ?_
  have hPc := hP.sub (ws' := []) [] rfl
  refine roS (As := [.int x, .int 1, .int 50]) (rest := []) S (w_within  ) (va_cwS 3 hts gX11_guests_X11_within rfl rfl rfl hd_X11_within ⟨Nat.le_of_ble_eq_true rfl, Nat.le_of_ble_eq_true rfl⟩) hK hPc rfl hl.1 rfl (Nat.le_of_ble_eq_true rfl) dX11_guests_4 ⟨Nat.le_of_ble_eq_true rfl, Nat.le_of_ble_eq_true rfl⟩ (fun r_1 hw_1 => ?_)
  have hw_1 : (r_1.toInt = 1 ∧ (1 : Int32).toInt ≤ x.toInt ∧ x.toInt ≤ (50 : Int32).toInt) ∨ (r_1.toInt = 0 ∧ (x.toInt < (1 : Int32).toInt ∨ (50 : Int32).toInt < x.toInt)) := hw_1
  refine lv_if_eq (tgt := 23) hx hb dX11_guests_7 (by decide) (fun c_2 => ?_) (fun c_2 => ?_)
  · have tc_2 := t_eq c_2
    refine lv_iconst (v := 0) hx hb dX11_guests_23 (by decide) ?_
    refine lv_istore_n (lv' := [(3, .int 0), (0, .ref h), (1, .int x), (2, .int k)]) hx hb dX11_guests_24 rfl hl (by decide) rfl (fun ls hl => ?_)
    refine lv_iload_n hx hb dX11_guests_25 rfl (lv_at hl 0 rfl) ?_
    refine lv_if_eq (tgt := 41) hx hb dX11_guests_26 (by decide) (fun c_3 => ?_) (fun c_3 => ?_)
    · have tc_3 := t_eq c_3
      refine lv_iconst (v := (-1)) hx hb dX11_guests_41 (by decide) ?_
      exact hret (-1) (v_guestHeads, v_guestRanks) _ _ _ _ (show (((1 ≤ x.toInt ∧ x.toInt ≤ 50 ∧ 0 ≤ k.toInt ∧ k.toInt ≤ 5) ∧ (v_guestHeads + x).toInt ≤ 200) ∧ (-1 : Int32) = v_guestHeads + x ∧ v_guestHeads = v_guestHeads + x) ∨ (¬ ((1 ≤ x.toInt ∧ x.toInt ≤ 50 ∧ 0 ≤ k.toInt ∧ k.toInt ≤ 5) ∧ (v_guestHeads + x).toInt ≤ 200) ∧ (-1 : Int32).toInt = -1 ∧ v_guestHeads = v_guestHeads) from by first | exact Or.inl ⟨by omega, ez2, ez2⟩ | exact Or.inr ⟨by omega, by omega, rfl⟩) rfl (hP.sub [0] rfl) (hD.sub [0] (by decide +kernel) rfl) hS dX11_guests_42
    · exact absurd c_3 (by decide)
  · have tc_2 := t_neq c_2
    refine lv_iload_n hx hb dX11_guests_10 rfl (lv_at hl 2 rfl) ?_
    refine lv_iconst (v := 0) hx hb dX11_guests_11 (by decide) ?_
    refine lv_iconst (v := 5) hx hb dX11_guests_12 (by decide) ?_
    have hPc := hP.sub (ws' := []) [] rfl
    refine roS (As := [.int k, .int 0, .int 5]) (rest := []) S (w_within  ) (va_cwS 3 hts gX11_guests_X11_within rfl rfl rfl hd_X11_within ⟨Nat.le_of_ble_eq_true rfl, Nat.le_of_ble_eq_true rfl⟩) hK hPc rfl hl.1 rfl (Nat.le_of_ble_eq_true rfl) dX11_guests_13 ⟨Nat.le_of_ble_eq_true rfl, Nat.le_of_ble_eq_true rfl⟩ (fun r_4 hw_4 => ?_)
    have hw_4 : (r_4.toInt = 1 ∧ (0 : Int32).toInt ≤ k.toInt ∧ k.toInt ≤ (5 : Int32).toInt) ∨ (r_4.toInt = 0 ∧ (k.toInt < (0 : Int32).toInt ∨ (5 : Int32).toInt < k.toInt)) := hw_4
    refine lv_if_eq (tgt := 23) hx hb dX11_guests_16 (by decide) (fun c_5 => ?_) (fun c_5 => ?_)
    · have tc_5 := t_eq c_5
      refine lv_iconst (v := 0) hx hb dX11_guests_23 (by decide) ?_
      refine lv_istore_n (lv' := [(3, .int 0), (0, .ref h), (1, .int x), (2, .int k)]) hx hb dX11_guests_24 rfl hl (by decide) rfl (fun ls hl => ?_)
      refine lv_iload_n hx hb dX11_guests_25 rfl (lv_at hl 0 rfl) ?_
      refine lv_if_eq (tgt := 41) hx hb dX11_guests_26 (by decide) (fun c_6 => ?_) (fun c_6 => ?_)
      · have tc_6 := t_eq c_6
        refine lv_iconst (v := (-1)) hx hb dX11_guests_41 (by decide) ?_
        exact hret (-1) (v_guestHeads, v_guestRanks) _ _ _ _ (show (((1 ≤ x.toInt ∧ x.toInt ≤ 50 ∧ 0 ≤ k.toInt ∧ k.toInt ≤ 5) ∧ (v_guestHeads + x).toInt ≤ 200) ∧ (-1 : Int32) = v_guestHeads + x ∧ v_guestHeads = v_guestHeads + x) ∨ (¬ ((1 ≤ x.toInt ∧ x.toInt ≤ 50 ∧ 0 ≤ k.toInt ∧ k.toInt ≤ 5) ∧ (v_guestHeads + x).toInt ≤ 200) ∧ (-1 : Int32).toInt = -1 ∧ v_guestHeads = v_guestHeads) from by first | exact Or.inl ⟨by omega, ez2, ez2⟩ | exact Or.inr ⟨by omega, by omega, rfl⟩) rfl (hP.sub [0] rfl) (hD.sub [0] (by decide +kernel) rfl) hS dX11_guests_42
      · exact absurd c_6 (by decide)
    · have tc_5 := t_neq c_5
      refine lv_iconst (v := 1) hx hb dX11_guests_19 (by decide) ?_
      refine lv_goto (tgt := 24) hx hb dX11_guests_20 (by decide) ?_
      refine lv_istore_n (lv' := [(3, .int 1), (0, .ref h), (1, .int x), (2, .int k)]) hx hb dX11_guests_24 rfl hl (by decide) rfl (fun ls hl => ?_)
      refine lv_iload_n hx hb dX11_guests_25 rfl (lv_at hl 0 rfl) ?_
      refine lv_if_eq (tgt := 41) hx hb dX11_guests_26 (by decide) (fun c_7 => ?_) (fun c_7 => ?_)
      · exact absurd c_7 (by decide)
      · have tc_7 := t_neq c_7
        refine lv_aload_n hx hb dX11_guests_29 rfl (lv_at hl 1 rfl) ?_
        refine va_get (D := D) (ci := 10) (v := .int v_guestHeads) (C := RX11) (T := TX11) (N := 15) hx hb hts in_V_guests_X11 hown hK.1 hP 0 rfl rfl 11 (by decide) lk0 (fun _ h9 => h9) rfl dX11_guests_30 ?_
        refine lv_iload_n hx hb dX11_guests_33 rfl (lv_at hl 2 rfl) ?_
        refine lv_iadd hx hb dX11_guests_34 ?_
        refine lv_topi (fun z1 ez1 => ?_)
        have tz1 := t_eq ez1
        refine lv_sipush (v := 200) hx hb dX11_guests_35 (by decide) ?_
        refine lv_icmp_le (tgt := 43) hx hb dX11_guests_38 (by decide) (fun c_9 => ?_) (fun c_9 => ?_)
        · have tc_9 := t_le c_9
          refine lv_aload_n hx hb dX11_guests_43 rfl (lv_at hl 1 rfl) ?_
          refine lv_dup hx hb dX11_guests_44 rfl ?_
          refine va_get (D := D) (ci := 10) (v := .int v_guestHeads) (C := RX11) (T := TX11) (N := 15) hx hb hts in_V_guests_X11 hown hK.1 hP 0 rfl rfl 11 (by decide) lk0 (fun _ h9 => h9) rfl dX11_guests_45 ?_
          refine lv_iload_n hx hb dX11_guests_48 rfl (lv_at hl 2 rfl) ?_
          refine lv_iadd hx hb dX11_guests_49 ?_
          refine lv_topi (fun z2 ez2 => ?_)
          refine va_put (D := D) (ci := 10) (v := .int z2) (ty := .int) (C := RX11) (T := TX11) (N := 15) hx hb hts in_V_guests_X11 tyX11 tyX11_ok nmX11 hown hK.1 hP hD hS 0 rfl rfl 11 (by decide) lk0 (fun _ h9 => h9) rfl (by decide +kernel) rfl rfl (Nat.le_of_ble_eq_true rfl) dX11_guests_50 (fun H locs hP hD hS => ?_)
          have hP : va_P D vwCl [(h, .inr (10, [.ref a_bells, .ref a_feasts, .ref a_tape, .ref a_reader, .ref a_rules, .ref a_monks, .ref a_duties, .ref a_gifts, .ref a_figures, .int v_today, .int v_stock, .int z2, .int v_guestRanks, .int v_faultPlace, .int v_candlesInAll]))] H := hP
          have hD := asD hP hD
          refine lv_aload_n hx hb dX11_guests_53 rfl (lv_at hl 1 rfl) ?_
          refine lv_dup hx hb dX11_guests_54 rfl ?_
          refine va_get (D := D) (ci := 10) (v := .int v_guestRanks) (C := RX11) (T := TX11) (N := 15) hx hb hts in_V_guests_X11 hown hK.1 hP 0 rfl rfl 12 (by decide) lk1 (fun _ h9 => h9) rfl dX11_guests_55 ?_
          refine lv_iload_n hx hb dX11_guests_58 rfl (lv_at hl 2 rfl) ?_
          refine lv_iload_n hx hb dX11_guests_59 rfl (lv_at hl 3 rfl) ?_
          refine lv_imul hx hb dX11_guests_60 ?_
          refine lv_topi (fun x_11 ex_11 => ?_)
          refine lv_iadd hx hb dX11_guests_61 ?_
          refine lv_topi (fun x_12 ex_12 => ?_)
          refine va_put (D := D) (ci := 10) (v := .int x_12) (ty := .int) (C := RX11) (T := TX11) (N := 15) hx hb hts in_V_guests_X11 tyX11 tyX11_ok nmX11 hown hK.1 hP hD hS 0 rfl rfl 12 (by decide) lk1 (fun _ h9 => h9) rfl (by decide +kernel) rfl rfl (Nat.le_of_ble_eq_true rfl) dX11_guests_62 (fun H locs hP hD hS => ?_)
          have hP : va_P D vwCl [(h, .inr (10, [.ref a_bells, .ref a_feasts, .ref a_tape, .ref a_reader, .ref a_rules, .ref a_monks, .ref a_duties, .ref a_gifts, .ref a_figures, .int v_today, .int v_stock, .int z2, .int x_12, .int v_faultPlace, .int v_candlesInAll]))] H := hP
          have hD := asD hP hD
          refine lv_aload_n hx hb dX11_guests_65 rfl (lv_at hl 1 rfl) ?_
          refine va_get (D := D) (ci := 10) (v := .int z2) (C := RX11) (T := TX11) (N := 15) hx hb hts in_V_guests_X11 hown hK.1 hP 0 rfl rfl 11 (by decide) lk0 (fun _ h9 => h9) rfl dX11_guests_66 ?_
          exact hret z2 (z2, x_12) _ _ _ _ (show (((1 ≤ x.toInt ∧ x.toInt ≤ 50 ∧ 0 ≤ k.toInt ∧ k.toInt ≤ 5) ∧ (v_guestHeads + x).toInt ≤ 200) ∧ z2 = v_guestHeads + x ∧ z2 = v_guestHeads + x) ∨ (¬ ((1 ≤ x.toInt ∧ x.toInt ≤ 50 ∧ 0 ≤ k.toInt ∧ k.toInt ≤ 5) ∧ (v_guestHeads + x).toInt ≤ 200) ∧ z2.toInt = -1 ∧ z2 = v_guestHeads) from by first | exact Or.inl ⟨by omega, ez2, ez2⟩ | exact Or.inr ⟨by omega, by omega, rfl⟩) rfl (hP.sub [0] rfl) (hD.sub [0] (by decide +kernel) rfl) hS dX11_guests_69
        · have tc_9 := t_nle c_9
          refine lv_iconst (v := (-1)) hx hb dX11_guests_41 (by decide) ?_
          exact hret (-1) (v_guestHeads, v_guestRanks) _ _ _ _ (show (((1 ≤ x.toInt ∧ x.toInt ≤ 50 ∧ 0 ≤ k.toInt ∧ k.toInt ≤ 5) ∧ (v_guestHeads + x).toInt ≤ 200) ∧ (-1 : Int32) = v_guestHeads + x ∧ v_guestHeads = v_guestHeads + x) ∨ (¬ ((1 ≤ x.toInt ∧ x.toInt ≤ 50 ∧ 0 ≤ k.toInt ∧ k.toInt ≤ 5) ∧ (v_guestHeads + x).toInt ≤ 200) ∧ (-1 : Int32).toInt = -1 ∧ v_guestHeads = v_guestHeads) from by first | exact Or.inl ⟨by omega, ez2, ez2⟩ | exact Or.inr ⟨by omega, by omega, rfl⟩) rfl (hP.sub [0] rfl) (hD.sub [0] (by decide +kernel) rfl) hS dX11_guests_42

theorem in_V_turn_X11 : ∀ w ∈ wsX110, w ∈ wsX11_turn := tl_X11_turn_X11
set_option maxHeartbeats 8000000 in
set_option maxRecDepth 100000 in
theorem V_turn {l : Launch} {D : va_G} {cI cZ cB : ClassId} {h a_bells a_feasts a_tape a_reader a_rules a_monks a_duties a_gifts a_figures ua_holders ua_taken uac uL : Nat} {v_today v_stock v_guestHeads v_guestRanks v_faultPlace v_candlesInAll : Int32} {ufc : Nat → Int32} {d k : Int32} (hL : uL < 65536) : Met l yX11_turn wsX11_turn ({ frames := 3, cells := 0, slots := 0, locals := 66 }) (RO D cI cZ cB [.ref h, .int d, .int k] [(h, .inr (10, [.ref a_bells, .ref a_feasts, .ref a_tape, .ref a_reader, .ref a_rules, .ref a_monks, .ref a_duties, .ref a_gifts, .ref a_figures, .int v_today, .int v_stock, .int v_guestHeads, .int v_guestRanks, .int v_faultPlace, .int v_candlesInAll])), (a_duties, .inr (2, [.ref ua_holders, .ref ua_taken])), (ua_holders, .inr (1, [.int 4, .ref uac])), (uac, .inl (cI, uL, .inl ufc))]) (vp_Si (fun r : Int32 => True)) 0 0 (fun _ => False) := by
  refine ro_ret (cc := cX11_turn) (maxL := 3) (ty := .int) (own := RX11) (by decide) rfl rfl (Nat.le_of_ble_eq_true rfl) ?_
  intro p e s m args below meth c Q S hret hP hK ls hl
  obtain ⟨hx, hb, hml, hown, hts⟩ := id S
  have hl : lv_has ls 3 [(0, .ref h), (1, .int d), (2, .int k)] := hl
  have kkm1 : (-1 : Int32).toInt = -1 := by decide
  have kk0 : (0 : Int32).toInt = 0 := by decide
  have lk0 := hts (.fieldLink RX11 54 "AbbeyHours" "duties" "LAbbeyHours$Duties;") (mc_X11_turn_r1 _ (List.mem_of_getElem? (i := 0) rfl))
  refine lv_aload_n hx hb dX11_turn_0 rfl (lv_at hl 0 rfl) ?_
  refine lv_iload_n hx hb dX11_turn_1 rfl (lv_at hl 1 rfl) ?_
  have hPc := hP.sub (ws' := [(h, .inr (10, [.ref a_bells, .ref a_feasts, .ref a_tape, .ref a_reader, .ref a_rules, .ref a_monks, .ref a_duties, .ref a_gifts, .ref a_figures, .int v_today, .int v_stock, .int v_guestHeads, .int v_guestRanks, .int v_faultPlace, .int v_candlesInAll]))]) [0] rfl
  refine roV (As := [.int d]) (rest := []) S (v_isGoneBy  ) (cwV 1 hts gX11_turn_X11_isGoneBy rfl rfl rfl ⟨rfl, hd_X11_isGoneBy⟩ ⟨Nat.le_of_ble_eq_true rfl, Nat.le_of_ble_eq_true rfl⟩) hK hPc (va_recv hK.1 hPc (ci := 10) (q0 := 0) rfl rfl) rfl hl.1 rfl (Nat.le_of_ble_eq_true rfl) dX11_turn_2 ⟨Nat.le_of_ble_eq_true rfl, Nat.le_of_ble_eq_true rfl⟩ (fun r_1 hw_1 => ?_)
  have hw_1 : (r_1.toInt = 1 ∧ 0 ≤ d.toInt ∧ d.toInt < v_today.toInt) ∨ (r_1.toInt = 0 ∧ (d.toInt < 0 ∨ v_today.toInt ≤ d.toInt)) := hw_1
  refine lv_if_eq (tgt := 27) hx hb dX11_turn_5 (by decide) (fun c_2 => ?_) (fun c_2 => ?_)
  · have tc_2 := t_eq c_2
    refine lv_iconst (v := (-1)) hx hb dX11_turn_27 (by decide) ?_
    exact hret (-1) _ _ (show True from trivial) rfl dX11_turn_28
  · have tc_2 := t_neq c_2
    refine lv_iload_n hx hb dX11_turn_8 rfl (lv_at hl 2 rfl) ?_
    have hPc := hP.sub (ws' := []) [] rfl
    refine roS (As := [.int k]) (rest := []) S (w_isDuty  ) (va_cwS 1 hts gX11_turn_X11_isDuty rfl rfl rfl hd_X11_isDuty ⟨Nat.le_of_ble_eq_true rfl, Nat.le_of_ble_eq_true rfl⟩) hK hPc rfl hl.1 rfl (Nat.le_of_ble_eq_true rfl) dX11_turn_9 ⟨Nat.le_of_ble_eq_true rfl, Nat.le_of_ble_eq_true rfl⟩ (fun r_3 hw_3 => ?_)
    have hw_3 : (r_3.toInt = 1 ∧ 0 ≤ k.toInt ∧ k.toInt ≤ 3) ∨ (r_3.toInt = 0 ∧ (k.toInt < 0 ∨ 3 < k.toInt)) := hw_3
    refine lv_if_eq (tgt := 27) hx hb dX11_turn_12 (by decide) (fun c_4 => ?_) (fun c_4 => ?_)
    · have tc_4 := t_eq c_4
      refine lv_iconst (v := (-1)) hx hb dX11_turn_27 (by decide) ?_
      exact hret (-1) _ _ (show True from trivial) rfl dX11_turn_28
    · have tc_4 := t_neq c_4
      refine lv_aload_n hx hb dX11_turn_15 rfl (lv_at hl 0 rfl) ?_
      refine va_get (D := D) (ci := 10) (v := .ref a_duties) (C := RX11) (T := TX11) (N := 15) hx hb hts in_V_turn_X11 hown hK.1 hP 0 rfl rfl 6 (by decide) lk0 (fun _ h9 => h9) rfl dX11_turn_16 ?_
      refine lv_iload_n hx hb dX11_turn_19 rfl (lv_at hl 1 rfl) ?_
      refine lv_iload_n hx hb dX11_turn_20 rfl (lv_at hl 2 rfl) ?_
      have hPc := hP.sub (ws' := [(a_duties, .inr (2, [.ref ua_holders, .ref ua_taken])), (ua_holders, .inr (1, [.int 4, .ref uac])), (uac, .inl (cI, uL, .inl ufc))]) [1, 2, 3] rfl
      refine roV (As := [.int d, .int k]) (rest := []) S (u_holder  (by omega)) (cwV 2 hts gX11_turn_X2_holder rfl rfl rfl ⟨rfl, hd_X2_holder⟩ ⟨Nat.le_of_ble_eq_true rfl, Nat.le_of_ble_eq_true rfl⟩) hK hPc (va_recv hK.1 hPc (ci := 2) (q0 := 0) rfl rfl) rfl hl.1 rfl (Nat.le_of_ble_eq_true rfl) dX11_turn_21 ⟨Nat.le_of_ble_eq_true rfl, Nat.le_of_ble_eq_true rfl⟩ (fun r_5 hw_5 => ?_)
      have hw_5 : True := hw_5
      refine lv_goto (tgt := 28) hx hb dX11_turn_24 (by decide) ?_
      exact hret r_5 _ _ (show True from trivial) rfl dX11_turn_28

theorem in_V_turns_X11 : ∀ w ∈ wsX110, w ∈ wsX11_turns := tl_X11_turns_X11
set_option maxHeartbeats 8000000 in
set_option maxRecDepth 100000 in
theorem V_turns {l : Launch} {D : va_G} {cI cZ cB : ClassId} {h a_bells a_feasts a_tape a_reader a_rules a_monks a_duties a_gifts a_figures ma_priests ma_barred ma_cameOn ma_absent ma_absentFrom ma_absentTo ua_holders ua_taken : Nat} {v_today v_stock v_guestHeads v_guestRanks v_faultPlace v_candlesInAll mv_size mv_rows : Int32} {uft : Nat → Int32} {i k : Int32} (hmv_size0 : 0 ≤ mv_size.toInt) (hmv_size1 : mv_size.toInt ≤ 24) : Met l yX11_turns wsX11_turns ({ frames := 2, cells := 0, slots := 0, locals := 45 }) (RO D cI cZ cB [.ref h, .int i, .int k] [(h, .inr (10, [.ref a_bells, .ref a_feasts, .ref a_tape, .ref a_reader, .ref a_rules, .ref a_monks, .ref a_duties, .ref a_gifts, .ref a_figures, .int v_today, .int v_stock, .int v_guestHeads, .int v_guestRanks, .int v_faultPlace, .int v_candlesInAll])), (a_monks, .inr (5, [.ref ma_priests, .ref ma_barred, .ref ma_cameOn, .ref ma_absent, .ref ma_absentFrom, .ref ma_absentTo, .int mv_size, .int mv_rows])), (a_duties, .inr (2, [.ref ua_holders, .ref ua_taken])), (ua_taken, .inl (cI, 96, .inl uft))]) (vp_Si (fun r : Int32 => True)) 0 0 (fun _ => False) := by
  refine ro_ret (cc := cX11_turns) (maxL := 3) (ty := .int) (own := RX11) (by decide) rfl rfl (Nat.le_of_ble_eq_true rfl) ?_
  intro p e s m args below meth c Q S hret hP hK ls hl
  obtain ⟨hx, hb, hml, hown, hts⟩ := id S
  have hl : lv_has ls 3 [(0, .ref h), (1, .int i), (2, .int k)] := hl
  have kkm1 : (-1 : Int32).toInt = -1 := by decide
  have kk0 : (0 : Int32).toInt = 0 := by decide
  have kk4 : (4 : Int32).toInt = 4 := by decide
  have lk0 := hts (.fieldLink RX11 47 "AbbeyHours" "monks" "LAbbeyHours$Monks;") (mc_X11_turns_r1 _ (List.mem_of_getElem? (i := 0) rfl))
  have lk1 := hts (.fieldLink RX11 54 "AbbeyHours" "duties" "LAbbeyHours$Duties;") (mc_X11_turns_r1 _ (List.mem_of_getElem? (i := 1) rfl))
  refine lv_aload_n hx hb dX11_turns_0 rfl (lv_at hl 0 rfl) ?_
  refine va_get (D := D) (ci := 10) (v := .ref a_monks) (C := RX11) (T := TX11) (N := 15) hx hb hts in_V_turns_X11 hown hK.1 hP 0 rfl rfl 5 (by decide) lk0 (fun _ h9 => h9) rfl dX11_turns_1 ?_
  refine lv_iload_n hx hb dX11_turns_4 rfl (lv_at hl 1 rfl) ?_
  have hPc := hP.sub (ws' := [(a_monks, .inr (5, [.ref ma_priests, .ref ma_barred, .ref ma_cameOn, .ref ma_absent, .ref ma_absentFrom, .ref ma_absentTo, .int mv_size, .int mv_rows]))]) [1] rfl
  refine roV (As := [.int i]) (rest := []) S (k_has  ) (cwV 1 hts gX11_turns_X5_has rfl rfl rfl ⟨rfl, hd_X5_has⟩ ⟨Nat.le_of_ble_eq_true rfl, Nat.le_of_ble_eq_true rfl⟩) hK hPc (va_recv hK.1 hPc (ci := 5) (q0 := 0) rfl rfl) rfl hl.1 rfl (Nat.le_of_ble_eq_true rfl) dX11_turns_5 ⟨Nat.le_of_ble_eq_true rfl, Nat.le_of_ble_eq_true rfl⟩ (fun r_1 hw_1 => ?_)
  have hw_1 : (r_1.toInt = 1 ∧ 0 ≤ i.toInt ∧ i.toInt < mv_size.toInt) ∨ (r_1.toInt = 0 ∧ (i.toInt < 0 ∨ mv_size.toInt ≤ i.toInt)) := hw_1
  refine lv_if_ne (tgt := 13) hx hb dX11_turns_8 (by decide) (fun c_2 => ?_) (fun c_2 => ?_)
  · have tc_2 := t_neq c_2
    refine lv_iload_n hx hb dX11_turns_13 rfl (lv_at hl 2 rfl) ?_
    refine lv_iconst (v := 4) hx hb dX11_turns_14 (by decide) ?_
    refine lv_icmp_ne (tgt := 27) hx hb dX11_turns_15 (by decide) (fun c_3 => ?_) (fun c_3 => ?_)
    · have tc_3 := t_neq c_3
      refine lv_iload_n hx hb dX11_turns_27 rfl (lv_at hl 2 rfl) ?_
      have hPc := hP.sub (ws' := []) [] rfl
      refine roS (As := [.int k]) (rest := []) S (w_isDuty  ) (va_cwS 1 hts gX11_turns_X11_isDuty rfl rfl rfl hd_X11_isDuty ⟨Nat.le_of_ble_eq_true rfl, Nat.le_of_ble_eq_true rfl⟩) hK hPc rfl hl.1 rfl (Nat.le_of_ble_eq_true rfl) dX11_turns_28 ⟨Nat.le_of_ble_eq_true rfl, Nat.le_of_ble_eq_true rfl⟩ (fun r_4 hw_4 => ?_)
      have hw_4 : (r_4.toInt = 1 ∧ 0 ≤ k.toInt ∧ k.toInt ≤ 3) ∨ (r_4.toInt = 0 ∧ (k.toInt < 0 ∨ 3 < k.toInt)) := hw_4
      refine lv_if_eq (tgt := 46) hx hb dX11_turns_31 (by decide) (fun c_5 => ?_) (fun c_5 => ?_)
      · have tc_5 := t_eq c_5
        refine lv_iconst (v := (-1)) hx hb dX11_turns_46 (by decide) ?_
        exact hret (-1) _ _ (show True from trivial) rfl dX11_turns_47
      · have tc_5 := t_neq c_5
        refine lv_aload_n hx hb dX11_turns_34 rfl (lv_at hl 0 rfl) ?_
        refine va_get (D := D) (ci := 10) (v := .ref a_duties) (C := RX11) (T := TX11) (N := 15) hx hb hts in_V_turns_X11 hown hK.1 hP 0 rfl rfl 6 (by decide) lk1 (fun _ h9 => h9) rfl dX11_turns_35 ?_
        refine lv_iload_n hx hb dX11_turns_38 rfl (lv_at hl 1 rfl) ?_
        refine lv_iload_n hx hb dX11_turns_39 rfl (lv_at hl 2 rfl) ?_
        have hPc := hP.sub (ws' := [(a_duties, .inr (2, [.ref ua_holders, .ref ua_taken])), (ua_taken, .inl (cI, 96, .inl uft))]) [2, 3] rfl
        refine roV (As := [.int i, .int k]) (rest := []) S (u_taken  (by omega) (by omega) (by omega) (by omega)) (cwV 2 hts gX11_turns_X2_turnsTaken rfl rfl rfl ⟨rfl, hd_X2_turnsTaken⟩ ⟨Nat.le_of_ble_eq_true rfl, Nat.le_of_ble_eq_true rfl⟩) hK hPc (va_recv hK.1 hPc (ci := 2) (q0 := 0) rfl rfl) rfl hl.1 rfl (Nat.le_of_ble_eq_true rfl) dX11_turns_40 ⟨Nat.le_of_ble_eq_true rfl, Nat.le_of_ble_eq_true rfl⟩ (fun r_6 hw_6 => ?_)
        have hw_6 : True := hw_6
        refine lv_goto (tgt := 47) hx hb dX11_turns_43 (by decide) ?_
        exact hret r_6 _ _ (show True from trivial) rfl dX11_turns_47
    · have tc_3 := t_eq c_3
      refine lv_aload_n hx hb dX11_turns_18 rfl (lv_at hl 0 rfl) ?_
      refine va_get (D := D) (ci := 10) (v := .ref a_duties) (C := RX11) (T := TX11) (N := 15) hx hb hts in_V_turns_X11 hown hK.1 hP 0 rfl rfl 6 (by decide) lk1 (fun _ h9 => h9) rfl dX11_turns_19 ?_
      refine lv_iload_n hx hb dX11_turns_22 rfl (lv_at hl 1 rfl) ?_
      have hPc := hP.sub (ws' := [(a_duties, .inr (2, [.ref ua_holders, .ref ua_taken])), (ua_taken, .inl (cI, 96, .inl uft))]) [2, 3] rfl
      refine roV (As := [.int i]) (rest := []) S (u_inAll  (by omega) (by omega)) (cwV 1 hts gX11_turns_X2_turnsInAll rfl rfl rfl ⟨rfl, hd_X2_turnsInAll⟩ ⟨Nat.le_of_ble_eq_true rfl, Nat.le_of_ble_eq_true rfl⟩) hK hPc (va_recv hK.1 hPc (ci := 2) (q0 := 0) rfl rfl) rfl hl.1 rfl (Nat.le_of_ble_eq_true rfl) dX11_turns_23 ⟨Nat.le_of_ble_eq_true rfl, Nat.le_of_ble_eq_true rfl⟩ (fun r_7 hw_7 => ?_)
      have hw_7 : True := hw_7
      exact hret r_7 _ _ (show True from trivial) rfl dX11_turns_26
  · have tc_2 := t_eq c_2
    refine lv_iconst (v := (-1)) hx hb dX11_turns_11 (by decide) ?_
    exact hret (-1) _ _ (show True from trivial) rfl dX11_turns_12

theorem in_V_dayOf_X11 : ∀ w ∈ wsX110, w ∈ wsX11_dayOf := tl_X11_dayOf_X11
set_option maxHeartbeats 8000000 in
set_option maxRecDepth 100000 in
theorem V_dayOf {l : Launch} {D : va_G} {cI cZ cB : ClassId} {h a_bells a_feasts a_tape a_reader a_rules a_monks a_duties a_gifts a_figures dac dL : Nat} {v_today v_stock v_guestHeads v_guestRanks v_faultPlace v_candlesInAll : Int32} {dfc : Nat → Int32} {d w : Int32} (hL : dL < 65536) : Met l yX11_dayOf wsX11_dayOf ({ frames := 2, cells := 0, slots := 0, locals := 44 }) (RO D cI cZ cB [.ref h, .int d, .int w] [(h, .inr (10, [.ref a_bells, .ref a_feasts, .ref a_tape, .ref a_reader, .ref a_rules, .ref a_monks, .ref a_duties, .ref a_gifts, .ref a_figures, .int v_today, .int v_stock, .int v_guestHeads, .int v_guestRanks, .int v_faultPlace, .int v_candlesInAll])), (a_figures, .inr (1, [.int 5, .ref dac])), (dac, .inl (cI, dL, .inl dfc))]) (vp_Si (fun r : Int32 => True)) 0 0 (fun _ => False) := by
  refine ro_ret (cc := cX11_dayOf) (maxL := 3) (ty := .int) (own := RX11) (by decide) rfl rfl (Nat.le_of_ble_eq_true rfl) ?_
  intro p e s m args below meth c Q S hret hP hK ls hl
  obtain ⟨hx, hb, hml, hown, hts⟩ := id S
  have hl : lv_has ls 3 [(0, .ref h), (1, .int d), (2, .int w)] := hl
  have kkm1 : (-1 : Int32).toInt = -1 := by decide
  have kk0 : (0 : Int32).toInt = 0 := by decide
  have lk0 := hts (.fieldLink RX11 70 "AbbeyHours" "figures" "LAbbeyHours$DayTable;") (List.mem_cons_of_mem _ (List.mem_append_left _ (List.mem_append_left _ (List.mem_of_getElem? (i := 0) rfl))))
  refine lv_aload_n hx hb dX11_dayOf_0 rfl (lv_at hl 0 rfl) ?_
  refine lv_iload_n hx hb dX11_dayOf_1 rfl (lv_at hl 1 rfl) ?_
  have hPc := hP.sub (ws' := [(h, .inr (10, [.ref a_bells, .ref a_feasts, .ref a_tape, .ref a_reader, .ref a_rules, .ref a_monks, .ref a_duties, .ref a_gifts, .ref a_figures, .int v_today, .int v_stock, .int v_guestHeads, .int v_guestRanks, .int v_faultPlace, .int v_candlesInAll]))]) [0] rfl
  refine roV (As := [.int d]) (rest := []) S (v_isGoneBy  ) (cwV 1 hts gX11_dayOf_X11_isGoneBy rfl rfl rfl ⟨rfl, hd_X11_isGoneBy⟩ ⟨Nat.le_of_ble_eq_true rfl, Nat.le_of_ble_eq_true rfl⟩) hK hPc (va_recv hK.1 hPc (ci := 10) (q0 := 0) rfl rfl) rfl hl.1 rfl (Nat.le_of_ble_eq_true rfl) dX11_dayOf_2 ⟨Nat.le_of_ble_eq_true rfl, Nat.le_of_ble_eq_true rfl⟩ (fun r_1 hw_1 => ?_)
  have hw_1 : (r_1.toInt = 1 ∧ 0 ≤ d.toInt ∧ d.toInt < v_today.toInt) ∨ (r_1.toInt = 0 ∧ (d.toInt < 0 ∨ v_today.toInt ≤ d.toInt)) := hw_1
  refine lv_if_eq (tgt := 20) hx hb dX11_dayOf_5 (by decide) (fun c_2 => ?_) (fun c_2 => ?_)
  · have tc_2 := t_eq c_2
    refine lv_iconst (v := (-1)) hx hb dX11_dayOf_20 (by decide) ?_
    exact hret (-1) _ _ (show True from trivial) rfl dX11_dayOf_21
  · have tc_2 := t_neq c_2
    refine lv_aload_n hx hb dX11_dayOf_8 rfl (lv_at hl 0 rfl) ?_
    refine va_get (D := D) (ci := 10) (v := .ref a_figures) (C := RX11) (T := TX11) (N := 15) hx hb hts in_V_dayOf_X11 hown hK.1 hP 0 rfl rfl 8 (by decide) lk0 (fun _ h9 => h9) rfl dX11_dayOf_9 ?_
    refine lv_iload_n hx hb dX11_dayOf_12 rfl (lv_at hl 1 rfl) ?_
    refine lv_iload_n hx hb dX11_dayOf_13 rfl (lv_at hl 2 rfl) ?_
    have hPc := hP.sub (ws' := [(a_figures, .inr (1, [.int 5, .ref dac])), (dac, .inl (cI, dL, .inl dfc))]) [1, 2] rfl
    refine roV (As := [.int d, .int w]) (rest := []) S (d5_at  (by omega)) (cwV 2 hts gX11_dayOf_X1_at rfl rfl rfl ⟨rfl, hd_X1_at⟩ ⟨Nat.le_of_ble_eq_true rfl, Nat.le_of_ble_eq_true rfl⟩) hK hPc (va_recv hK.1 hPc (ci := 1) (q0 := 0) rfl rfl) rfl hl.1 rfl (Nat.le_of_ble_eq_true rfl) dX11_dayOf_14 ⟨Nat.le_of_ble_eq_true rfl, Nat.le_of_ble_eq_true rfl⟩ (fun r_3 hw_3 => ?_)
    have hw_3 : True := hw_3
    refine lv_goto (tgt := 21) hx hb dX11_dayOf_17 (by decide) ?_
    exact hret r_3 _ _ (show True from trivial) rfl dX11_dayOf_21

theorem in_V_fail_X11 : ∀ w ∈ wsX110, w ∈ wsX11_fail := tl_X11_fail_X11
set_option maxHeartbeats 8000000 in
set_option maxRecDepth 100000 in
theorem V_fail {l : Launch} {D : va_G} {cI cZ cB : ClassId} {sz : Nat} {h a_bells a_feasts a_tape a_reader a_rules a_monks a_duties a_gifts a_figures ua_holders ua_taken uac uL ma_priests ma_barred ma_cameOn ma_absent ma_absentFrom ma_absentTo : Nat} {v_today v_stock v_guestHeads v_guestRanks v_faultPlace v_candlesInAll mv_size mv_rows : Int32} {ufc uft mf_barred mf_cameOn mf_absent mf_absentFrom mf_absentTo : Nat → Int32} {k : Int32} (h0_today : 0 ≤ v_today.toInt) (h1_today : v_today.toInt ≤ 1094) (hL : uL < 65536) (hd : v_today.toInt * 4 ≤ uL) (hr : InR ufc uL (-1) 24) (hmv_size0 : 0 ≤ mv_size.toInt) (hmv_size1 : mv_size.toInt ≤ 24) (hmv_rows0 : 0 ≤ mv_rows.toInt) (hmv_rows1 : mv_rows.toInt ≤ 60) : Met l yX11_fail wsX11_fail ({ frames := 6, cells := 0, slots := 0, locals := 140 }) (RW D cI cZ cB [.ref h, .int k] sz [(h, .inr (10, [.ref a_bells, .ref a_feasts, .ref a_tape, .ref a_reader, .ref a_rules, .ref a_monks, .ref a_duties, .ref a_gifts, .ref a_figures, .int v_today, .int v_stock, .int v_guestHeads, .int v_guestRanks, .int v_faultPlace, .int v_candlesInAll])), (a_duties, .inr (2, [.ref ua_holders, .ref ua_taken])), (ua_holders, .inr (1, [.int 4, .ref uac])), (uac, .inl (cI, uL, .inl ufc)), (ua_taken, .inl (cI, 96, .inl uft)), (a_monks, .inr (5, [.ref ma_priests, .ref ma_barred, .ref ma_cameOn, .ref ma_absent, .ref ma_absentFrom, .ref ma_absentTo, .int mv_size, .int mv_rows])), (ma_barred, .inl (cI, 24, .inl mf_barred)), (ma_cameOn, .inl (cI, 24, .inl mf_cameOn)), (ma_absent, .inl (cI, 60, .inl mf_absent)), (ma_absentFrom, .inl (cI, 60, .inl mf_absentFrom)), (ma_absentTo, .inl (cI, 60, .inl mf_absentTo))]) (va_Qi (fun (r : Int32) (u : (Nat → Int32) × (Nat → Int32)) => InR u.1 uL (-1) 24) (BW D [(h, .inr (10, [.ref a_bells, .ref a_feasts, .ref a_tape, .ref a_reader, .ref a_rules, .ref a_monks, .ref a_duties, .ref a_gifts, .ref a_figures, .int v_today, .int v_stock, .int v_guestHeads, .int v_guestRanks, .int v_faultPlace, .int v_candlesInAll])), (a_duties, .inr (2, [.ref ua_holders, .ref ua_taken])), (ua_holders, .inr (1, [.int 4, .ref uac])), (uac, .inl (cI, uL, .inl ufc)), (ua_taken, .inl (cI, 96, .inl uft)), (a_monks, .inr (5, [.ref ma_priests, .ref ma_barred, .ref ma_cameOn, .ref ma_absent, .ref ma_absentFrom, .ref ma_absentTo, .int mv_size, .int mv_rows])), (ma_barred, .inl (cI, 24, .inl mf_barred)), (ma_cameOn, .inl (cI, 24, .inl mf_cameOn)), (ma_absent, .inl (cI, 60, .inl mf_absent)), (ma_absentFrom, .inl (cI, 60, .inl mf_absentFrom)), (ma_absentTo, .inl (cI, 60, .inl mf_absentTo))] sz (fun u : (Nat → Int32) × (Nat → Int32) => [(h, .inr (10, [.ref a_bells, .ref a_feasts, .ref a_tape, .ref a_reader, .ref a_rules, .ref a_monks, .ref a_duties, .ref a_gifts, .ref a_figures, .int v_today, .int v_stock, .int v_guestHeads, .int v_guestRanks, .int v_faultPlace, .int v_candlesInAll])), (a_duties, .inr (2, [.ref ua_holders, .ref ua_taken])), (ua_holders, .inr (1, [.int 4, .ref uac])), (uac, .inl (cI, uL, .inl u.1)), (ua_taken, .inl (cI, 96, .inl u.2)), (a_monks, .inr (5, [.ref ma_priests, .ref ma_barred, .ref ma_cameOn, .ref ma_absent, .ref ma_absentFrom, .ref ma_absentTo, .int mv_size, .int mv_rows])), (ma_barred, .inl (cI, 24, .inl mf_barred)), (ma_cameOn, .inl (cI, 24, .inl mf_cameOn)), (ma_absent, .inl (cI, 60, .inl mf_absent)), (ma_absentFrom, .inl (cI, 60, .inl mf_absentFrom)), (ma_absentTo, .inl (cI, 60, .inl mf_absentTo))])) (va_A [(h, .inr (10, [.ref a_bells, .ref a_feasts, .ref a_tape, .ref a_reader, .ref a_rules, .ref a_monks, .ref a_duties, .ref a_gifts, .ref a_figures, .int v_today, .int v_stock, .int v_guestHeads, .int v_guestRanks, .int v_faultPlace, .int v_candlesInAll])), (a_duties, .inr (2, [.ref ua_holders, .ref ua_taken])), (ua_holders, .inr (1, [.int 4, .ref uac])), (uac, .inl (cI, uL, .inl ufc)), (ua_taken, .inl (cI, 96, .inl uft)), (a_monks, .inr (5, [.ref ma_priests, .ref ma_barred, .ref ma_cameOn, .ref ma_absent, .ref ma_absentFrom, .ref ma_absentTo, .int mv_size, .int mv_rows])), (ma_barred, .inl (cI, 24, .inl mf_barred)), (ma_cameOn, .inl (cI, 24, .inl mf_cameOn)), (ma_absent, .inl (cI, 60, .inl mf_absent)), (ma_absentFrom, .inl (cI, 60, .inl mf_absentFrom)), (ma_absentTo, .inl (cI, 60, .inl mf_absentTo))] sz)) 0 0 (va_A [(h, .inr (10, [.ref a_bells, .ref a_feasts, .ref a_tape, .ref a_reader, .ref a_rules, .ref a_monks, .ref a_duties, .ref a_gifts, .ref a_figures, .int v_today, .int v_stock, .int v_guestHeads, .int v_guestRanks, .int v_faultPlace, .int v_candlesInAll])), (a_duties, .inr (2, [.ref ua_holders, .ref ua_taken])), (ua_holders, .inr (1, [.int 4, .ref uac])), (uac, .inl (cI, uL, .inl ufc)), (ua_taken, .inl (cI, 96, .inl uft)), (a_monks, .inr (5, [.ref ma_priests, .ref ma_barred, .ref ma_cameOn, .ref ma_absent, .ref ma_absentFrom, .ref ma_absentTo, .int mv_size, .int mv_rows])), (ma_barred, .inl (cI, 24, .inl mf_barred)), (ma_cameOn, .inl (cI, 24, .inl mf_cameOn)), (ma_absent, .inl (cI, 60, .inl mf_absent)), (ma_absentFrom, .inl (cI, 60, .inl mf_absentFrom)), (ma_absentTo, .inl (cI, 60, .inl mf_absentTo))] sz) := by
  refine rw_ret (cc := cX11_fail) (maxL := 3) (ty := .int) (own := RX11) (by decide) rfl rfl (Nat.le_of_ble_eq_true rfl) ?_
  intro p e s m args below meth c Q A S hin hret hP hK hD hA hS ls hl
  obtain ⟨hx, hb, hml, hown, hts⟩ := id S
  have hl : lv_has ls 3 [(0, .ref h), (1, .int k)] := hl
  have kkm2 : (-2 : Int32).toInt = -2 := by decide
  have kkm1 : (-1 : Int32).toInt = -1 := by decide
  have kk0 : (0 : Int32).toInt = 0 := by decide
  have kk1 : (1 : Int32).toInt = 1 := by decide
  have lk0 := hts (.fieldLink RX11 82 "AbbeyHours" "today" "I") (mc_X11_fail_r1 _ (List.mem_of_getElem? (i := 0) rfl))
  have lk1 := hts (.fieldLink RX11 54 "AbbeyHours" "duties" "LAbbeyHours$Duties;") (mc_X11_fail_r1 _ (List.mem_of_getElem? (i := 1) rfl))
  have lk2 := hts (.fieldLink RX11 47 "AbbeyHours" "monks" "LAbbeyHours$Monks;") (mc_X11_fail_r1 _ (List.mem_of_getElem? (i := 2) rfl))
  refine lv_aload_n hx hb dX11_fail_0 rfl (lv_at hl 0 rfl) ?_
  refine va_get (D := D) (ci := 10) (v := .int v_today) (C := RX11) (T := TX11) (N := 15) hx hb hts in_V_fail_X11 hown hK.1 hP 0 rfl rfl 9 (by decide) lk0 (fun _ h9 => h9) rfl dX11_fail_1 ?_
  refine lv_if_le (tgt := 36) hx hb dX11_fail_4 (by decide) (fun c_1 => ?_) (fun c_1 => ?_)
  · have tc_1 := t_le c_1
    refine lv_iconst (v := 0) hx hb dX11_fail_36 (by decide) ?_
    refine lv_istore_n (lv' := [(2, .int 0), (0, .ref h), (1, .int k)]) hx hb dX11_fail_37 rfl hl (by decide) rfl (fun ls hl => ?_)
    refine lv_iload_n hx hb dX11_fail_38 rfl (lv_at hl 0 rfl) ?_
    refine lv_if_eq (tgt := 63) hx hb dX11_fail_39 (by decide) (fun c_2 => ?_) (fun c_2 => ?_)
    · have tc_2 := t_eq c_2
      refine lv_bipush (v := (-2)) hx hb dX11_fail_63 (by decide) ?_
      exact hret (-2) (ufc, uft) _ _ _ _ (show InR ufc uL (-1) 24 from by first | exact hw_re | exact hr) rfl (hP.sub [0, 1, 2, 3, 4, 5, 6, 7, 8, 9, 10] rfl) (hD.sub [0, 1, 2, 3, 4, 5, 6, 7, 8, 9, 10] (by decide +kernel) rfl) hS dX11_fail_65
    · exact absurd c_2 (by decide)
  · have tc_1 := t_nle c_1
    refine lv_iload_n hx hb dX11_fail_7 rfl (lv_at hl 1 rfl) ?_
    have hPc := hP.sub (ws' := []) [] rfl
    refine roS (As := [.int k]) (rest := []) S (w_isDuty  ) (va_cwS 1 hts gX11_fail_X11_isDuty rfl rfl rfl hd_X11_isDuty ⟨Nat.le_of_ble_eq_true rfl, Nat.le_of_ble_eq_true rfl⟩) hK hPc rfl hl.1 rfl (Nat.le_of_ble_eq_true rfl) dX11_fail_8 ⟨Nat.le_of_ble_eq_true rfl, Nat.le_of_ble_eq_true rfl⟩ (fun r_3 hw_3 => ?_)
    have hw_3 : (r_3.toInt = 1 ∧ 0 ≤ k.toInt ∧ k.toInt ≤ 3) ∨ (r_3.toInt = 0 ∧ (k.toInt < 0 ∨ 3 < k.toInt)) := hw_3
    refine lv_if_eq (tgt := 36) hx hb dX11_fail_11 (by decide) (fun c_4 => ?_) (fun c_4 => ?_)
    · have tc_4 := t_eq c_4
      refine lv_iconst (v := 0) hx hb dX11_fail_36 (by decide) ?_
      refine lv_istore_n (lv' := [(2, .int 0), (0, .ref h), (1, .int k)]) hx hb dX11_fail_37 rfl hl (by decide) rfl (fun ls hl => ?_)
      refine lv_iload_n hx hb dX11_fail_38 rfl (lv_at hl 0 rfl) ?_
      refine lv_if_eq (tgt := 63) hx hb dX11_fail_39 (by decide) (fun c_5 => ?_) (fun c_5 => ?_)
      · have tc_5 := t_eq c_5
        refine lv_bipush (v := (-2)) hx hb dX11_fail_63 (by decide) ?_
        exact hret (-2) (ufc, uft) _ _ _ _ (show InR ufc uL (-1) 24 from by first | exact hw_re | exact hr) rfl (hP.sub [0, 1, 2, 3, 4, 5, 6, 7, 8, 9, 10] rfl) (hD.sub [0, 1, 2, 3, 4, 5, 6, 7, 8, 9, 10] (by decide +kernel) rfl) hS dX11_fail_65
      · exact absurd c_5 (by decide)
    · have tc_4 := t_neq c_4
      refine lv_aload_n hx hb dX11_fail_14 rfl (lv_at hl 0 rfl) ?_
      refine va_get (D := D) (ci := 10) (v := .ref a_duties) (C := RX11) (T := TX11) (N := 15) hx hb hts in_V_fail_X11 hown hK.1 hP 0 rfl rfl 6 (by decide) lk1 (fun _ h9 => h9) rfl dX11_fail_15 ?_
      refine lv_aload_n hx hb dX11_fail_18 rfl (lv_at hl 0 rfl) ?_
      refine va_get (D := D) (ci := 10) (v := .int v_today) (C := RX11) (T := TX11) (N := 15) hx hb hts in_V_fail_X11 hown hK.1 hP 0 rfl rfl 9 (by decide) lk0 (fun _ h9 => h9) rfl dX11_fail_19 ?_
      refine lv_iconst (v := 1) hx hb dX11_fail_22 (by decide) ?_
      refine lv_isub hx hb dX11_fail_23 ?_
      refine lv_topi (fun x_6 ex_6 => ?_)
      first | have tx_6 := t_sub ex_6 (by omega) (by omega) | skip
      refine lv_iload_n hx hb dX11_fail_24 rfl (lv_at hl 1 rfl) ?_
      have hPc := hP.sub (ws' := [(a_duties, .inr (2, [.ref ua_holders, .ref ua_taken])), (ua_holders, .inr (1, [.int 4, .ref uac])), (uac, .inl (cI, uL, .inl ufc))]) [1, 2, 3] rfl
      refine roV (As := [.int x_6, .int k]) (rest := []) S (v_holder  (by omega) (hr)) (cwV 2 hts gX11_fail_X2_holder rfl rfl rfl ⟨rfl, hd_X2_holder⟩ ⟨Nat.le_of_ble_eq_true rfl, Nat.le_of_ble_eq_true rfl⟩) hK hPc (va_recv hK.1 hPc (ci := 2) (q0 := 0) rfl rfl) rfl hl.1 rfl (Nat.le_of_ble_eq_true rfl) dX11_fail_25 ⟨Nat.le_of_ble_eq_true rfl, Nat.le_of_ble_eq_true rfl⟩ (fun r_7 hw_7 => ?_)
      have hw_7 : -1 ≤ r_7.toInt ∧ r_7.toInt < 24 := hw_7
      refine lv_iconst (v := (-1)) hx hb dX11_fail_28 (by decide) ?_
      refine lv_icmp_eq (tgt := 36) hx hb dX11_fail_29 (by decide) (fun c_8 => ?_) (fun c_8 => ?_)
      · have tc_8 := t_eq c_8
        refine lv_iconst (v := 0) hx hb dX11_fail_36 (by decide) ?_
        refine lv_istore_n (lv' := [(2, .int 0), (0, .ref h), (1, .int k)]) hx hb dX11_fail_37 rfl hl (by decide) rfl (fun ls hl => ?_)
        refine lv_iload_n hx hb dX11_fail_38 rfl (lv_at hl 0 rfl) ?_
        refine lv_if_eq (tgt := 63) hx hb dX11_fail_39 (by decide) (fun c_9 => ?_) (fun c_9 => ?_)
        · have tc_9 := t_eq c_9
          refine lv_bipush (v := (-2)) hx hb dX11_fail_63 (by decide) ?_
          exact hret (-2) (ufc, uft) _ _ _ _ (show InR ufc uL (-1) 24 from by first | exact hw_re | exact hr) rfl (hP.sub [0, 1, 2, 3, 4, 5, 6, 7, 8, 9, 10] rfl) (hD.sub [0, 1, 2, 3, 4, 5, 6, 7, 8, 9, 10] (by decide +kernel) rfl) hS dX11_fail_65
        · exact absurd c_9 (by decide)
      · have tc_8 := t_neq c_8
        refine lv_iconst (v := 1) hx hb dX11_fail_32 (by decide) ?_
        refine lv_goto (tgt := 37) hx hb dX11_fail_33 (by decide) ?_
        refine lv_istore_n (lv' := [(2, .int 1), (0, .ref h), (1, .int k)]) hx hb dX11_fail_37 rfl hl (by decide) rfl (fun ls hl => ?_)
        refine lv_iload_n hx hb dX11_fail_38 rfl (lv_at hl 0 rfl) ?_
        refine lv_if_eq (tgt := 63) hx hb dX11_fail_39 (by decide) (fun c_10 => ?_) (fun c_10 => ?_)
        · exact absurd c_10 (by decide)
        · have tc_10 := t_neq c_10
          refine lv_aload_n hx hb dX11_fail_42 rfl (lv_at hl 1 rfl) ?_
          refine va_get (D := D) (ci := 10) (v := .ref a_duties) (C := RX11) (T := TX11) (N := 15) hx hb hts in_V_fail_X11 hown hK.1 hP 0 rfl rfl 6 (by decide) lk1 (fun _ h9 => h9) rfl dX11_fail_43 ?_
          refine lv_aload_n hx hb dX11_fail_46 rfl (lv_at hl 1 rfl) ?_
          refine va_get (D := D) (ci := 10) (v := .ref a_monks) (C := RX11) (T := TX11) (N := 15) hx hb hts in_V_fail_X11 hown hK.1 hP 0 rfl rfl 5 (by decide) lk2 (fun _ h9 => h9) rfl dX11_fail_47 ?_
          refine lv_aload_n hx hb dX11_fail_50 rfl (lv_at hl 1 rfl) ?_
          refine va_get (D := D) (ci := 10) (v := .int v_today) (C := RX11) (T := TX11) (N := 15) hx hb hts in_V_fail_X11 hown hK.1 hP 0 rfl rfl 9 (by decide) lk0 (fun _ h9 => h9) rfl dX11_fail_51 ?_
          refine lv_iconst (v := 1) hx hb dX11_fail_54 (by decide) ?_
          refine lv_isub hx hb dX11_fail_55 ?_
          refine lv_topi (fun x_11 ex_11 => ?_)
          first | have tx_11 := t_sub ex_11 (by omega) (by omega) | skip
          refine lv_iload_n hx hb dX11_fail_56 rfl (lv_at hl 2 rfl) ?_
          have hPc := hP.sub (ws' := [(a_duties, .inr (2, [.ref ua_holders, .ref ua_taken])), (ua_holders, .inr (1, [.int 4, .ref uac])), (uac, .inl (cI, uL, .inl ufc)), (ua_taken, .inl (cI, 96, .inl uft)), (a_monks, .inr (5, [.ref ma_priests, .ref ma_barred, .ref ma_cameOn, .ref ma_absent, .ref ma_absentFrom, .ref ma_absentTo, .int mv_size, .int mv_rows])), (ma_barred, .inl (cI, 24, .inl mf_barred)), (ma_cameOn, .inl (cI, 24, .inl mf_cameOn)), (ma_absent, .inl (cI, 60, .inl mf_absent)), (ma_absentFrom, .inl (cI, 60, .inl mf_absentFrom)), (ma_absentTo, .inl (cI, 60, .inl mf_absentTo))]) [1, 2, 3, 4, 5, 6, 7, 8, 9, 10] rfl
          refine rwV (As := [.ref a_monks, .int x_11, .int k]) (rest := []) (wc := [(a_duties, .inr (2, [.ref ua_holders, .ref ua_taken])), (ua_holders, .inr (1, [.int 4, .ref uac])), (uac, .inl (cI, uL, .inl ufc)), (ua_taken, .inl (cI, 96, .inl uft)), (a_monks, .inr (5, [.ref ma_priests, .ref ma_barred, .ref ma_cameOn, .ref ma_absent, .ref ma_absentFrom, .ref ma_absentTo, .int mv_size, .int mv_rows])), (ma_barred, .inl (cI, 24, .inl mf_barred)), (ma_cameOn, .inl (cI, 24, .inl mf_cameOn)), (ma_absent, .inl (cI, 60, .inl mf_absent)), (ma_absentFrom, .inl (cI, 60, .inl mf_absentFrom)), (ma_absentTo, .inl (cI, 60, .inl mf_absentTo))]) (wr := [(h, .inr (10, [.ref a_bells, .ref a_feasts, .ref a_tape, .ref a_reader, .ref a_rules, .ref a_monks, .ref a_duties, .ref a_gifts, .ref a_figures, .int v_today, .int v_stock, .int v_guestHeads, .int v_guestRanks, .int v_faultPlace, .int v_candlesInAll]))]) S (v_replace  (by omega) (by omega) (by omega) (by omega) (by omega) (by omega) (by omega) (by omega) (by omega) (hr)) (cwV 3 hts gX11_fail_X2_replace rfl rfl rfl ⟨rfl, hd_X2_replace⟩ ⟨Nat.le_of_ble_eq_true rfl, Nat.le_of_ble_eq_true rfl⟩) hK hP hD hS hA [1, 2, 3, 4, 5, 6, 7, 8, 9, 10] [0] rfl rfl (by decide +kernel) (by decide +kernel) (by decide +kernel) (va_recv hK.1 hPc (ci := 2) (q0 := 0) rfl rfl) rfl hl.1 rfl (Nat.le_of_ble_eq_true rfl) dX11_fail_57 ⟨Nat.le_of_ble_eq_true rfl, Nat.le_of_ble_eq_true rfl⟩ (fun r_re u_re H locs hw_re hP hD hS => ?_)
          obtain ⟨fc1_re, ft1_re⟩ := u_re
          have hw_re : InR fc1_re uL (-1) 24 := hw_re
          have hP : va_P D vwCl [(h, .inr (10, [.ref a_bells, .ref a_feasts, .ref a_tape, .ref a_reader, .ref a_rules, .ref a_monks, .ref a_duties, .ref a_gifts, .ref a_figures, .int v_today, .int v_stock, .int v_guestHeads, .int v_guestRanks, .int v_faultPlace, .int v_candlesInAll])), (a_duties, .inr (2, [.ref ua_holders, .ref ua_taken])), (ua_holders, .inr (1, [.int 4, .ref uac])), (uac, .inl (cI, uL, .inl fc1_re)), (ua_taken, .inl (cI, 96, .inl ft1_re)), (a_monks, .inr (5, [.ref ma_priests, .ref ma_barred, .ref ma_cameOn, .ref ma_absent, .ref ma_absentFrom, .ref ma_absentTo, .int mv_size, .int mv_rows])), (ma_barred, .inl (cI, 24, .inl mf_barred)), (ma_cameOn, .inl (cI, 24, .inl mf_cameOn)), (ma_absent, .inl (cI, 60, .inl mf_absent)), (ma_absentFrom, .inl (cI, 60, .inl mf_absentFrom)), (ma_absentTo, .inl (cI, 60, .inl mf_absentTo))] H := hP
          have hD := asD hP hD
          refine lv_goto (tgt := 65) hx hb dX11_fail_60 (by decide) ?_
          exact hret r_re (fc1_re, ft1_re) _ _ _ _ (show InR fc1_re uL (-1) 24 from by first | exact hw_re | exact hr) rfl (hP.sub [0, 1, 2, 3, 4, 5, 6, 7, 8, 9, 10] rfl) (hD.sub [0, 1, 2, 3, 4, 5, 6, 7, 8, 9, 10] (by decide +kernel) rfl) hS dX11_fail_65

theorem in_V_count_X11 : ∀ w ∈ wsX110, w ∈ wsX11_count := tl_X11_count_X11
set_option maxHeartbeats 8000000 in
set_option maxRecDepth 100000 in
theorem V_count {l : Launch} {D : va_G} {cI cZ cB : ClassId} {h a_bells a_feasts a_tape a_reader a_rules a_monks a_duties a_gifts a_figures ma_priests ma_barred ma_cameOn ma_absent ma_absentFrom ma_absentTo fa_falls fa_ranks fa_standsOn fa_heldOn fa_holder fa_standing ga_weekly ga_doubled ga_dueOn ga_owed ga_said ga_spared ga_leaveOf ga_leaveFrom ga_leaveTo ra_since ra_sizes ra_kinds ra_firsts ra_seconds ta_bytes : Nat} {v_today v_stock v_guestHeads v_guestRanks v_faultPlace v_candlesInAll mv_size mv_rows fv_size gv_size gv_rows rv_size tv_length : Int32} {gf_owed gf_said : Nat → Int32} {w : Int32} (hgv_size0 : 0 ≤ gv_size.toInt) (hgv_size1 : gv_size.toInt ≤ 40) : Met l yX11_count wsX11_count ({ frames := 2, cells := 0, slots := 0, locals := 43 }) (RO D cI cZ cB [.ref h, .int w] [(h, .inr (10, [.ref a_bells, .ref a_feasts, .ref a_tape, .ref a_reader, .ref a_rules, .ref a_monks, .ref a_duties, .ref a_gifts, .ref a_figures, .int v_today, .int v_stock, .int v_guestHeads, .int v_guestRanks, .int v_faultPlace, .int v_candlesInAll])), (a_monks, .inr (5, [.ref ma_priests, .ref ma_barred, .ref ma_cameOn, .ref ma_absent, .ref ma_absentFrom, .ref ma_absentTo, .int mv_size, .int mv_rows])), (a_feasts, .inr (3, [.ref fa_falls, .ref fa_ranks, .ref fa_standsOn, .ref fa_heldOn, .ref fa_holder, .ref fa_standing, .int fv_size])), (a_gifts, .inr (4, [.ref ga_weekly, .ref ga_doubled, .ref ga_dueOn, .ref ga_owed, .ref ga_said, .ref ga_spared, .ref ga_leaveOf, .ref ga_leaveFrom, .ref ga_leaveTo, .int gv_size, .int gv_rows])), (ga_owed, .inl (cI, 40, .inl gf_owed)), (ga_said, .inl (cI, 40, .inl gf_said)), (a_rules, .inr (7, [.ref ra_since, .ref ra_sizes, .ref ra_kinds, .ref ra_firsts, .ref ra_seconds, .int rv_size])), (a_tape, .inr (8, [.ref ta_bytes, .int tv_length]))]) (vp_Si (fun r : Int32 => True)) 0 0 (fun _ => False) := by
  refine ro_ret (cc := cX11_count) (maxL := 2) (ty := .int) (own := RX11) (by decide) rfl rfl (Nat.le_of_ble_eq_true rfl) ?_
  intro p e s m args below meth c Q S hret hP hK ls hl
  obtain ⟨hx, hb, hml, hown, hts⟩ := id S
  have hl : lv_has ls 2 [(0, .ref h), (1, .int w)] := hl
  have kkm1 : (-1 : Int32).toInt = -1 := by decide
  have kk0 : (0 : Int32).toInt = 0 := by decide
  have lk0 := hts (.fieldLink RX11 82 "AbbeyHours" "today" "I") (mc_X11_count_r1 _ (List.mem_of_getElem? (i := 0) rfl))
  have lk1 := hts (.fieldLink RX11 47 "AbbeyHours" "monks" "LAbbeyHours$Monks;") (mc_X11_count_r1 _ (List.mem_of_getElem? (i := 1) rfl))
  have lk2 := hts (.fieldLink RX11 19 "AbbeyHours" "feasts" "LAbbeyHours$Feasts;") (mc_X11_count_r1 _ (List.mem_of_getElem? (i := 2) rfl))
  have lk3 := hts (.fieldLink RX11 61 "AbbeyHours" "gifts" "LAbbeyHours$Gifts;") (mc_X11_count_r1 _ (List.mem_of_getElem? (i := 3) rfl))
  have lk4 := hts (.fieldLink RX11 187 "AbbeyHours" "stock" "I") (mc_X11_count_r1 _ (List.mem_of_getElem? (i := 4) rfl))
  have lk5 := hts (.fieldLink RX11 191 "AbbeyHours" "guestHeads" "I") (mc_X11_count_r1 _ (List.mem_of_getElem? (i := 5) rfl))
  have lk6 := hts (.fieldLink RX11 40 "AbbeyHours" "rules" "LAbbeyHours$Rules;") (mc_X11_count_r1 _ (List.mem_of_getElem? (i := 6) rfl))
  have lk7 := hts (.fieldLink RX11 221 "AbbeyHours" "candlesInAll" "I") (mc_X11_count_r1 _ (List.mem_of_getElem? (i := 7) rfl))
  have lk8 := hts (.fieldLink RX11 26 "AbbeyHours" "tape" "LAbbeyHours$Tape;") (mc_X11_count_r1 _ (List.mem_of_getElem? (i := 8) rfl))
  refine lv_iload_n hx hb dX11_count_0 rfl (lv_at hl 1 rfl) ?_
  have kqh_1 : (0 : Int32).toInt = 0 := by decide
  by_cases h_1 : w = 0
  · have th_1 := t_eq h_1
    refine lv_tableIn (off := 59) (tgt := 60) hx hb dX11_count_1 (by rw [h_1]; decide) (by rw [h_1]; decide) (by rw [h_1]; rfl) (by decide) ?_
    refine lv_aload_n hx hb dX11_count_60 rfl (lv_at hl 0 rfl) ?_
    refine va_get (D := D) (ci := 10) (v := .int v_today) (C := RX11) (T := TX11) (N := 15) hx hb hts in_V_count_X11 hown hK.1 hP 0 rfl rfl 9 (by decide) lk0 (fun _ h9 => h9) rfl dX11_count_61 ?_
    exact hret v_today _ _ (show True from trivial) rfl dX11_count_64
  have th_1 := t_neq h_1
  have kqh_2 : (1 : Int32).toInt = 1 := by decide
  by_cases h_2 : w = 1
  · have th_2 := t_eq h_2
    refine lv_tableIn (off := 64) (tgt := 65) hx hb dX11_count_1 (by rw [h_2]; decide) (by rw [h_2]; decide) (by rw [h_2]; rfl) (by decide) ?_
    refine lv_aload_n hx hb dX11_count_65 rfl (lv_at hl 0 rfl) ?_
    refine va_get (D := D) (ci := 10) (v := .ref a_monks) (C := RX11) (T := TX11) (N := 15) hx hb hts in_V_count_X11 hown hK.1 hP 0 rfl rfl 5 (by decide) lk1 (fun _ h9 => h9) rfl dX11_count_66 ?_
    have hPc := hP.sub (ws' := [(a_monks, .inr (5, [.ref ma_priests, .ref ma_barred, .ref ma_cameOn, .ref ma_absent, .ref ma_absentFrom, .ref ma_absentTo, .int mv_size, .int mv_rows]))]) [1] rfl
    refine roV (As := []) (rest := []) S (k_size  ) (cwV 0 hts gX11_count_X5_size rfl rfl rfl ⟨rfl, hd_X5_size⟩ ⟨Nat.le_of_ble_eq_true rfl, Nat.le_of_ble_eq_true rfl⟩) hK hPc (va_recv hK.1 hPc (ci := 5) (q0 := 0) rfl rfl) rfl hl.1 rfl (Nat.le_of_ble_eq_true rfl) dX11_count_69 ⟨Nat.le_of_ble_eq_true rfl, Nat.le_of_ble_eq_true rfl⟩ (fun r_3 hw_3 => ?_)
    have hw_3 : r_3 = mv_size := hw_3
    exact hret r_3 _ _ (show True from trivial) rfl dX11_count_72
  have th_2 := t_neq h_2
  have kqh_4 : (2 : Int32).toInt = 2 := by decide
  by_cases h_4 : w = 2
  · have th_4 := t_eq h_4
    refine lv_tableIn (off := 72) (tgt := 73) hx hb dX11_count_1 (by rw [h_4]; decide) (by rw [h_4]; decide) (by rw [h_4]; rfl) (by decide) ?_
    refine lv_aload_n hx hb dX11_count_73 rfl (lv_at hl 0 rfl) ?_
    refine va_get (D := D) (ci := 10) (v := .ref a_feasts) (C := RX11) (T := TX11) (N := 15) hx hb hts in_V_count_X11 hown hK.1 hP 0 rfl rfl 1 (by decide) lk2 (fun _ h9 => h9) rfl dX11_count_74 ?_
    have hPc := hP.sub (ws' := [(a_feasts, .inr (3, [.ref fa_falls, .ref fa_ranks, .ref fa_standsOn, .ref fa_heldOn, .ref fa_holder, .ref fa_standing, .int fv_size]))]) [2] rfl
    refine roV (As := []) (rest := []) S (f_size  ) (cwV 0 hts gX11_count_X3_size rfl rfl rfl ⟨rfl, hd_X3_size⟩ ⟨Nat.le_of_ble_eq_true rfl, Nat.le_of_ble_eq_true rfl⟩) hK hPc (va_recv hK.1 hPc (ci := 3) (q0 := 0) rfl rfl) rfl hl.1 rfl (Nat.le_of_ble_eq_true rfl) dX11_count_77 ⟨Nat.le_of_ble_eq_true rfl, Nat.le_of_ble_eq_true rfl⟩ (fun r_5 hw_5 => ?_)
    have hw_5 : r_5 = fv_size := hw_5
    exact hret r_5 _ _ (show True from trivial) rfl dX11_count_80
  have th_4 := t_neq h_4
  have kqh_6 : (3 : Int32).toInt = 3 := by decide
  by_cases h_6 : w = 3
  · have th_6 := t_eq h_6
    refine lv_tableIn (off := 80) (tgt := 81) hx hb dX11_count_1 (by rw [h_6]; decide) (by rw [h_6]; decide) (by rw [h_6]; rfl) (by decide) ?_
    refine lv_aload_n hx hb dX11_count_81 rfl (lv_at hl 0 rfl) ?_
    refine va_get (D := D) (ci := 10) (v := .ref a_gifts) (C := RX11) (T := TX11) (N := 15) hx hb hts in_V_count_X11 hown hK.1 hP 0 rfl rfl 7 (by decide) lk3 (fun _ h9 => h9) rfl dX11_count_82 ?_
    have hPc := hP.sub (ws' := [(a_gifts, .inr (4, [.ref ga_weekly, .ref ga_doubled, .ref ga_dueOn, .ref ga_owed, .ref ga_said, .ref ga_spared, .ref ga_leaveOf, .ref ga_leaveFrom, .ref ga_leaveTo, .int gv_size, .int gv_rows]))]) [3] rfl
    refine roV (As := []) (rest := []) S (g_size  ) (cwV 0 hts gX11_count_X4_size rfl rfl rfl ⟨rfl, hd_X4_size⟩ ⟨Nat.le_of_ble_eq_true rfl, Nat.le_of_ble_eq_true rfl⟩) hK hPc (va_recv hK.1 hPc (ci := 4) (q0 := 0) rfl rfl) rfl hl.1 rfl (Nat.le_of_ble_eq_true rfl) dX11_count_85 ⟨Nat.le_of_ble_eq_true rfl, Nat.le_of_ble_eq_true rfl⟩ (fun r_7 hw_7 => ?_)
    have hw_7 : r_7 = gv_size := hw_7
    exact hret r_7 _ _ (show True from trivial) rfl dX11_count_88
  have th_6 := t_neq h_6
  have kqh_8 : (4 : Int32).toInt = 4 := by decide
  by_cases h_8 : w = 4
  · have th_8 := t_eq h_8
    refine lv_tableIn (off := 88) (tgt := 89) hx hb dX11_count_1 (by rw [h_8]; decide) (by rw [h_8]; decide) (by rw [h_8]; rfl) (by decide) ?_
    refine lv_aload_n hx hb dX11_count_89 rfl (lv_at hl 0 rfl) ?_
    refine va_get (D := D) (ci := 10) (v := .int v_stock) (C := RX11) (T := TX11) (N := 15) hx hb hts in_V_count_X11 hown hK.1 hP 0 rfl rfl 10 (by decide) lk4 (fun _ h9 => h9) rfl dX11_count_90 ?_
    exact hret v_stock _ _ (show True from trivial) rfl dX11_count_93
  have th_8 := t_neq h_8
  have kqh_9 : (5 : Int32).toInt = 5 := by decide
  by_cases h_9 : w = 5
  · have th_9 := t_eq h_9
    refine lv_tableIn (off := 93) (tgt := 94) hx hb dX11_count_1 (by rw [h_9]; decide) (by rw [h_9]; decide) (by rw [h_9]; rfl) (by decide) ?_
    refine lv_aload_n hx hb dX11_count_94 rfl (lv_at hl 0 rfl) ?_
    refine va_get (D := D) (ci := 10) (v := .int v_guestHeads) (C := RX11) (T := TX11) (N := 15) hx hb hts in_V_count_X11 hown hK.1 hP 0 rfl rfl 11 (by decide) lk5 (fun _ h9 => h9) rfl dX11_count_95 ?_
    exact hret v_guestHeads _ _ (show True from trivial) rfl dX11_count_98
  have th_9 := t_neq h_9
  have kqh_10 : (6 : Int32).toInt = 6 := by decide
  by_cases h_10 : w = 6
  · have th_10 := t_eq h_10
    refine lv_tableIn (off := 98) (tgt := 99) hx hb dX11_count_1 (by rw [h_10]; decide) (by rw [h_10]; decide) (by rw [h_10]; rfl) (by decide) ?_
    refine lv_aload_n hx hb dX11_count_99 rfl (lv_at hl 0 rfl) ?_
    refine va_get (D := D) (ci := 10) (v := .ref a_rules) (C := RX11) (T := TX11) (N := 15) hx hb hts in_V_count_X11 hown hK.1 hP 0 rfl rfl 4 (by decide) lk6 (fun _ h9 => h9) rfl dX11_count_100 ?_
    have hPc := hP.sub (ws' := [(a_rules, .inr (7, [.ref ra_since, .ref ra_sizes, .ref ra_kinds, .ref ra_firsts, .ref ra_seconds, .int rv_size]))]) [6] rfl
    refine roV (As := []) (rest := []) S (r_size  ) (cwV 0 hts gX11_count_X7_size rfl rfl rfl ⟨rfl, hd_X7_size⟩ ⟨Nat.le_of_ble_eq_true rfl, Nat.le_of_ble_eq_true rfl⟩) hK hPc (va_recv hK.1 hPc (ci := 7) (q0 := 0) rfl rfl) rfl hl.1 rfl (Nat.le_of_ble_eq_true rfl) dX11_count_103 ⟨Nat.le_of_ble_eq_true rfl, Nat.le_of_ble_eq_true rfl⟩ (fun r_11 hw_11 => ?_)
    have hw_11 : r_11 = rv_size := hw_11
    exact hret r_11 _ _ (show True from trivial) rfl dX11_count_106
  have th_10 := t_neq h_10
  have kqh_12 : (7 : Int32).toInt = 7 := by decide
  by_cases h_12 : w = 7
  · have th_12 := t_eq h_12
    refine lv_tableIn (off := 106) (tgt := 107) hx hb dX11_count_1 (by rw [h_12]; decide) (by rw [h_12]; decide) (by rw [h_12]; rfl) (by decide) ?_
    refine lv_aload_n hx hb dX11_count_107 rfl (lv_at hl 0 rfl) ?_
    refine va_get (D := D) (ci := 10) (v := .ref a_gifts) (C := RX11) (T := TX11) (N := 15) hx hb hts in_V_count_X11 hown hK.1 hP 0 rfl rfl 7 (by decide) lk3 (fun _ h9 => h9) rfl dX11_count_108 ?_
    have hPc := hP.sub (ws' := [(a_gifts, .inr (4, [.ref ga_weekly, .ref ga_doubled, .ref ga_dueOn, .ref ga_owed, .ref ga_said, .ref ga_spared, .ref ga_leaveOf, .ref ga_leaveFrom, .ref ga_leaveTo, .int gv_size, .int gv_rows])), (ga_owed, .inl (cI, 40, .inl gf_owed))]) [3, 4] rfl
    refine roV (As := []) (rest := []) S (g_owedInAll  (by omega) (by omega)) (cwV 0 hts gX11_count_X4_owedInAll rfl rfl rfl ⟨rfl, hd_X4_owedInAll⟩ ⟨Nat.le_of_ble_eq_true rfl, Nat.le_of_ble_eq_true rfl⟩) hK hPc (va_recv hK.1 hPc (ci := 4) (q0 := 0) rfl rfl) rfl hl.1 rfl (Nat.le_of_ble_eq_true rfl) dX11_count_111 ⟨Nat.le_of_ble_eq_true rfl, Nat.le_of_ble_eq_true rfl⟩ (fun r_13 hw_13 => ?_)
    have hw_13 : gv_size.toInt = 0 → r_13.toInt = 0 := hw_13
    exact hret r_13 _ _ (show True from trivial) rfl dX11_count_114
  have th_12 := t_neq h_12
  have kqh_14 : (8 : Int32).toInt = 8 := by decide
  by_cases h_14 : w = 8
  · have th_14 := t_eq h_14
    refine lv_tableIn (off := 114) (tgt := 115) hx hb dX11_count_1 (by rw [h_14]; decide) (by rw [h_14]; decide) (by rw [h_14]; rfl) (by decide) ?_
    refine lv_aload_n hx hb dX11_count_115 rfl (lv_at hl 0 rfl) ?_
    refine va_get (D := D) (ci := 10) (v := .ref a_gifts) (C := RX11) (T := TX11) (N := 15) hx hb hts in_V_count_X11 hown hK.1 hP 0 rfl rfl 7 (by decide) lk3 (fun _ h9 => h9) rfl dX11_count_116 ?_
    have hPc := hP.sub (ws' := [(a_gifts, .inr (4, [.ref ga_weekly, .ref ga_doubled, .ref ga_dueOn, .ref ga_owed, .ref ga_said, .ref ga_spared, .ref ga_leaveOf, .ref ga_leaveFrom, .ref ga_leaveTo, .int gv_size, .int gv_rows])), (ga_said, .inl (cI, 40, .inl gf_said))]) [3, 5] rfl
    refine roV (As := []) (rest := []) S (g_saidInAll  (by omega) (by omega)) (cwV 0 hts gX11_count_X4_saidInAll rfl rfl rfl ⟨rfl, hd_X4_saidInAll⟩ ⟨Nat.le_of_ble_eq_true rfl, Nat.le_of_ble_eq_true rfl⟩) hK hPc (va_recv hK.1 hPc (ci := 4) (q0 := 0) rfl rfl) rfl hl.1 rfl (Nat.le_of_ble_eq_true rfl) dX11_count_119 ⟨Nat.le_of_ble_eq_true rfl, Nat.le_of_ble_eq_true rfl⟩ (fun r_15 hw_15 => ?_)
    have hw_15 : gv_size.toInt = 0 → r_15.toInt = 0 := hw_15
    exact hret r_15 _ _ (show True from trivial) rfl dX11_count_122
  have th_14 := t_neq h_14
  have kqh_16 : (9 : Int32).toInt = 9 := by decide
  by_cases h_16 : w = 9
  · have th_16 := t_eq h_16
    refine lv_tableIn (off := 122) (tgt := 123) hx hb dX11_count_1 (by rw [h_16]; decide) (by rw [h_16]; decide) (by rw [h_16]; rfl) (by decide) ?_
    refine lv_aload_n hx hb dX11_count_123 rfl (lv_at hl 0 rfl) ?_
    refine va_get (D := D) (ci := 10) (v := .int v_candlesInAll) (C := RX11) (T := TX11) (N := 15) hx hb hts in_V_count_X11 hown hK.1 hP 0 rfl rfl 14 (by decide) lk7 (fun _ h9 => h9) rfl dX11_count_124 ?_
    exact hret v_candlesInAll _ _ (show True from trivial) rfl dX11_count_127
  have th_16 := t_neq h_16
  have kqh_17 : (10 : Int32).toInt = 10 := by decide
  by_cases h_17 : w = 10
  · have th_17 := t_eq h_17
    refine lv_tableIn (off := 127) (tgt := 128) hx hb dX11_count_1 (by rw [h_17]; decide) (by rw [h_17]; decide) (by rw [h_17]; rfl) (by decide) ?_
    refine lv_aload_n hx hb dX11_count_128 rfl (lv_at hl 0 rfl) ?_
    refine va_get (D := D) (ci := 10) (v := .ref a_tape) (C := RX11) (T := TX11) (N := 15) hx hb hts in_V_count_X11 hown hK.1 hP 0 rfl rfl 2 (by decide) lk8 (fun _ h9 => h9) rfl dX11_count_129 ?_
    have hPc := hP.sub (ws' := [(a_tape, .inr (8, [.ref ta_bytes, .int tv_length]))]) [7] rfl
    refine roV (As := []) (rest := []) S (t_length  ) (cwV 0 hts gX11_count_X9_length rfl rfl rfl ⟨rfl, hd_X9_length⟩ ⟨Nat.le_of_ble_eq_true rfl, Nat.le_of_ble_eq_true rfl⟩) hK hPc (va_recv hK.1 hPc (ci := 8) (q0 := 0) rfl rfl) rfl hl.1 rfl (Nat.le_of_ble_eq_true rfl) dX11_count_132 ⟨Nat.le_of_ble_eq_true rfl, Nat.le_of_ble_eq_true rfl⟩ (fun r_18 hw_18 => ?_)
    have hw_18 : r_18 = tv_length := hw_18
    exact hret r_18 _ _ (show True from trivial) rfl dX11_count_135
  have th_17 := t_neq h_17
  refine lv_tableOut (tgt := 136) hx hb dX11_count_1 (by omega) (by decide) ?_
  refine lv_iconst (v := (-1)) hx hb dX11_count_136 (by decide) ?_
  exact hret (-1) _ _ (show True from trivial) rfl dX11_count_137

