theorem in_v_isGoneBy_X11 : ∀ w ∈ wsX110, w ∈ wsX11_isGoneBy := tl_X11_isGoneBy_X11
set_option maxHeartbeats 8000000 in
set_option maxRecDepth 100000 in
theorem v_isGoneBy {l : Launch} {D : va_G} {cI cZ cB : ClassId} {h a_bells a_feasts a_tape a_reader a_rules a_monks a_duties a_gifts a_figures : Nat} {v_today v_stock v_guestHeads v_guestRanks v_faultPlace v_candlesInAll : Int32} {i : Int32}  : Met l yX11_isGoneBy wsX11_isGoneBy ({ frames := 0, cells := 0, slots := 0, locals := 0 }) (RO D cI cZ cB [.ref h, .int i] [(h, .inr (10, [.ref a_bells, .ref a_feasts, .ref a_tape, .ref a_reader, .ref a_rules, .ref a_monks, .ref a_duties, .ref a_gifts, .ref a_figures, .int v_today, .int v_stock, .int v_guestHeads, .int v_guestRanks, .int v_faultPlace, .int v_candlesInAll]))]) (vp_Si (fun r : Int32 => (r.toInt = 1 ∧ 0 ≤ i.toInt ∧ i.toInt < v_today.toInt) ∨ (r.toInt = 0 ∧ (i.toInt < 0 ∨ v_today.toInt ≤ i.toInt)))) 0 0 (fun _ => False) := by
  refine ro_ret (cc := cX11_isGoneBy) (maxL := 2) (ty := .boolean) (own := RX11) (by decide) rfl rfl (Nat.le_of_ble_eq_true rfl) ?_
  intro p e s m args below meth c Q S hret hP hK ls hl
  obtain ⟨hx, hb, hml, hown, hts⟩ := id S
  have hl : lv_has ls 2 [(0, .ref h), (1, .int i)] := hl
  have kk0 : (0 : Int32).toInt = 0 := by decide
  have kk1 : (1 : Int32).toInt = 1 := by decide
  have lk0 := hts (.fieldLink RX11 82 "AbbeyHours" "today" "I") (List.mem_cons_of_mem _ (List.mem_append_left _ (List.mem_of_getElem? (i := 0) rfl)))
  refine lv_iload_n hx hb dX11_isGoneBy_0 rfl (lv_at hl 1 rfl) ?_
  refine lv_if_lt (tgt := 16) hx hb dX11_isGoneBy_1 (by decide) (fun c_1 => ?_) (fun c_1 => ?_)
  · have tc_1 := t_lt c_1
    refine lv_iconst (v := 0) hx hb dX11_isGoneBy_16 (by decide) ?_
    exact hret 0 _ _ (show ((0 : Int32).toInt = 1 ∧ 0 ≤ i.toInt ∧ i.toInt < v_today.toInt) ∨ ((0 : Int32).toInt = 0 ∧ (i.toInt < 0 ∨ v_today.toInt ≤ i.toInt)) from by omega) rfl dX11_isGoneBy_17
  · have tc_1 := t_nlt c_1
    refine lv_iload_n hx hb dX11_isGoneBy_4 rfl (lv_at hl 1 rfl) ?_
    refine lv_aload_n hx hb dX11_isGoneBy_5 rfl (lv_at hl 0 rfl) ?_
    refine va_get (D := D) (ci := 10) (v := .int v_today) (C := RX11) (T := TX11) (N := 15) hx hb hts in_v_isGoneBy_X11 hown hK.1 hP 0 rfl rfl 9 (by decide) lk0 (fun _ h9 => h9) rfl dX11_isGoneBy_6 ?_
    refine lv_icmp_ge (tgt := 16) hx hb dX11_isGoneBy_9 (by decide) (fun c_2 => ?_) (fun c_2 => ?_)
    · have tc_2 := t_le c_2
      refine lv_iconst (v := 0) hx hb dX11_isGoneBy_16 (by decide) ?_
      exact hret 0 _ _ (show ((0 : Int32).toInt = 1 ∧ 0 ≤ i.toInt ∧ i.toInt < v_today.toInt) ∨ ((0 : Int32).toInt = 0 ∧ (i.toInt < 0 ∨ v_today.toInt ≤ i.toInt)) from by omega) rfl dX11_isGoneBy_17
    · have tc_2 := t_nle c_2
      refine lv_iconst (v := 1) hx hb dX11_isGoneBy_12 (by decide) ?_
      refine lv_goto (tgt := 17) hx hb dX11_isGoneBy_13 (by decide) ?_
      exact hret 1 _ _ (show ((1 : Int32).toInt = 1 ∧ 0 ≤ i.toInt ∧ i.toInt < v_today.toInt) ∨ ((1 : Int32).toInt = 0 ∧ (i.toInt < 0 ∨ v_today.toInt ≤ i.toInt)) from by omega) rfl dX11_isGoneBy_17

theorem in_V_monk_X11 : ∀ w ∈ wsX110, w ∈ wsX11_monk := tl_X11_monk_X11
set_option maxHeartbeats 8000000 in
set_option maxRecDepth 100000 in
theorem V_monk {l : Launch} {D : va_G} {cI cZ cB : ClassId} {sz : Nat} {h a_bells a_feasts a_tape a_reader a_rules a_monks a_duties a_gifts a_figures ma_priests ma_barred ma_cameOn ma_absent ma_absentFrom ma_absentTo : Nat} {v_today v_stock v_guestHeads v_guestRanks v_faultPlace v_candlesInAll mv_size mv_rows : Int32} {mf_priests mf_barred mf_cameOn : Nat → Int32} {px b : Int32} (hmv_size0 : 0 ≤ mv_size.toInt) (hmv_size1 : mv_size.toInt ≤ 24) : Met l yX11_monk wsX11_monk ({ frames := 1, cells := 0, slots := 0, locals := 23 }) (RW D cI cZ cB [.ref h, .int px, .int b] sz [(h, .inr (10, [.ref a_bells, .ref a_feasts, .ref a_tape, .ref a_reader, .ref a_rules, .ref a_monks, .ref a_duties, .ref a_gifts, .ref a_figures, .int v_today, .int v_stock, .int v_guestHeads, .int v_guestRanks, .int v_faultPlace, .int v_candlesInAll])), (a_monks, .inr (5, [.ref ma_priests, .ref ma_barred, .ref ma_cameOn, .ref ma_absent, .ref ma_absentFrom, .ref ma_absentTo, .int mv_size, .int mv_rows])), (ma_priests, .inl (cZ, 24, .inl mf_priests)), (ma_barred, .inl (cI, 24, .inl mf_barred)), (ma_cameOn, .inl (cI, 24, .inl mf_cameOn))]) (va_Qi (fun (r : Int32) (u : Int32 × (Nat → Int32) × (Nat → Int32) × (Nat → Int32)) => (((0 ≤ b.toInt ∧ b.toInt ≤ 15) ∧ mv_size.toInt < 24) ∧ r.toInt = mv_size.toInt ∧ u.1.toInt = mv_size.toInt + 1) ∨ (¬ ((0 ≤ b.toInt ∧ b.toInt ≤ 15) ∧ mv_size.toInt < 24) ∧ r.toInt = -1 ∧ u.1 = mv_size)) (BW D [(h, .inr (10, [.ref a_bells, .ref a_feasts, .ref a_tape, .ref a_reader, .ref a_rules, .ref a_monks, .ref a_duties, .ref a_gifts, .ref a_figures, .int v_today, .int v_stock, .int v_guestHeads, .int v_guestRanks, .int v_faultPlace, .int v_candlesInAll])), (a_monks, .inr (5, [.ref ma_priests, .ref ma_barred, .ref ma_cameOn, .ref ma_absent, .ref ma_absentFrom, .ref ma_absentTo, .int mv_size, .int mv_rows])), (ma_priests, .inl (cZ, 24, .inl mf_priests)), (ma_barred, .inl (cI, 24, .inl mf_barred)), (ma_cameOn, .inl (cI, 24, .inl mf_cameOn))] sz (fun u : Int32 × (Nat → Int32) × (Nat → Int32) × (Nat → Int32) => [(h, .inr (10, [.ref a_bells, .ref a_feasts, .ref a_tape, .ref a_reader, .ref a_rules, .ref a_monks, .ref a_duties, .ref a_gifts, .ref a_figures, .int v_today, .int v_stock, .int v_guestHeads, .int v_guestRanks, .int v_faultPlace, .int v_candlesInAll])), (a_monks, .inr (5, [.ref ma_priests, .ref ma_barred, .ref ma_cameOn, .ref ma_absent, .ref ma_absentFrom, .ref ma_absentTo, .int u.1, .int mv_rows])), (ma_priests, .inl (cZ, 24, .inl u.2.1)), (ma_barred, .inl (cI, 24, .inl u.2.2.1)), (ma_cameOn, .inl (cI, 24, .inl u.2.2.2))])) (va_A [(h, .inr (10, [.ref a_bells, .ref a_feasts, .ref a_tape, .ref a_reader, .ref a_rules, .ref a_monks, .ref a_duties, .ref a_gifts, .ref a_figures, .int v_today, .int v_stock, .int v_guestHeads, .int v_guestRanks, .int v_faultPlace, .int v_candlesInAll])), (a_monks, .inr (5, [.ref ma_priests, .ref ma_barred, .ref ma_cameOn, .ref ma_absent, .ref ma_absentFrom, .ref ma_absentTo, .int mv_size, .int mv_rows])), (ma_priests, .inl (cZ, 24, .inl mf_priests)), (ma_barred, .inl (cI, 24, .inl mf_barred)), (ma_cameOn, .inl (cI, 24, .inl mf_cameOn))] sz)) 0 0 (va_A [(h, .inr (10, [.ref a_bells, .ref a_feasts, .ref a_tape, .ref a_reader, .ref a_rules, .ref a_monks, .ref a_duties, .ref a_gifts, .ref a_figures, .int v_today, .int v_stock, .int v_guestHeads, .int v_guestRanks, .int v_faultPlace, .int v_candlesInAll])), (a_monks, .inr (5, [.ref ma_priests, .ref ma_barred, .ref ma_cameOn, .ref ma_absent, .ref ma_absentFrom, .ref ma_absentTo, .int mv_size, .int mv_rows])), (ma_priests, .inl (cZ, 24, .inl mf_priests)), (ma_barred, .inl (cI, 24, .inl mf_barred)), (ma_cameOn, .inl (cI, 24, .inl mf_cameOn))] sz) := by
  refine rw_ret (cc := cX11_monk) (maxL := 3) (ty := .int) (own := RX11) (by decide) rfl rfl (Nat.le_of_ble_eq_true rfl) ?_
  intro p e s m args below meth c Q A S hin hret hP hK hD hA hS ls hl
  obtain ⟨hx, hb, hml, hown, hts⟩ := id S
  have hl : lv_has ls 3 [(0, .ref h), (1, .int px), (2, .int b)] := hl
  have kkm1 : (-1 : Int32).toInt = -1 := by decide
  have kk0 : (0 : Int32).toInt = 0 := by decide
  have kk15 : (15 : Int32).toInt = 15 := by decide
  have lk0 := hts (.fieldLink RX11 47 "AbbeyHours" "monks" "LAbbeyHours$Monks;") (List.mem_cons_of_mem _ (List.mem_append_left _ (List.mem_append_left _ (List.mem_of_getElem? (i := 0) rfl))))
  have lk1 := hts (.fieldLink RX11 82 "AbbeyHours" "today" "I") (List.mem_cons_of_mem _ (List.mem_append_left _ (List.mem_append_left _ (List.mem_of_getElem? (i := 1) rfl))))
  refine lv_iload_n hx hb dX11_monk_0 rfl (lv_at hl 2 rfl) ?_
  refine lv_iconst (v := 0) hx hb dX11_monk_1 (by decide) ?_
  refine lv_bipush (v := 15) hx hb dX11_monk_2 (by decide) ?_
  have hPc := hP.sub (ws' := []) [] rfl
  refine roS (As := [.int b, .int 0, .int 15]) (rest := []) S (w_within  ) (va_cwS 3 hts gX11_monk_X11_within rfl rfl rfl hd_X11_within ⟨Nat.le_of_ble_eq_true rfl, Nat.le_of_ble_eq_true rfl⟩) hK hPc rfl hl.1 rfl (Nat.le_of_ble_eq_true rfl) dX11_monk_4 ⟨Nat.le_of_ble_eq_true rfl, Nat.le_of_ble_eq_true rfl⟩ (fun r_1 hw_1 => ?_)
  have hw_1 : (r_1.toInt = 1 ∧ (0 : Int32).toInt ≤ b.toInt ∧ b.toInt ≤ (15 : Int32).toInt) ∨ (r_1.toInt = 0 ∧ (b.toInt < (0 : Int32).toInt ∨ (15 : Int32).toInt < b.toInt)) := hw_1
  refine lv_if_eq (tgt := 26) hx hb dX11_monk_7 (by decide) (fun c_2 => ?_) (fun c_2 => ?_)
  · have tc_2 := t_eq c_2
    refine lv_iconst (v := (-1)) hx hb dX11_monk_26 (by decide) ?_
    exact hret (-1) (mv_size, mf_priests, mf_barred, mf_cameOn) _ _ _ _ (show (((0 ≤ b.toInt ∧ b.toInt ≤ 15) ∧ mv_size.toInt < 24) ∧ (-1 : Int32).toInt = mv_size.toInt ∧ mv_size.toInt = mv_size.toInt + 1) ∨ (¬ ((0 ≤ b.toInt ∧ b.toInt ≤ 15) ∧ mv_size.toInt < 24) ∧ (-1 : Int32).toInt = -1 ∧ mv_size = mv_size) from by first | (rcases hw_en with z | z; exact Or.inr ⟨by omega, by omega, z.2.2⟩; exact Or.inl ⟨by omega, by omega, by omega⟩) | exact Or.inr ⟨by omega, by omega, rfl⟩) rfl (hP.sub [0, 1, 2, 3, 4] rfl) (hD.sub [0, 1, 2, 3, 4] (by decide +kernel) rfl) hS dX11_monk_27
  · have tc_2 := t_neq c_2
    refine lv_aload_n hx hb dX11_monk_10 rfl (lv_at hl 0 rfl) ?_
    refine va_get (D := D) (ci := 10) (v := .ref a_monks) (C := RX11) (T := TX11) (N := 15) hx hb hts in_V_monk_X11 hown hK.1 hP 0 rfl rfl 5 (by decide) lk0 (fun _ h9 => h9) rfl dX11_monk_11 ?_
    refine lv_iload_n hx hb dX11_monk_14 rfl (lv_at hl 1 rfl) ?_
    refine lv_iload_n hx hb dX11_monk_15 rfl (lv_at hl 2 rfl) ?_
    refine lv_aload_n hx hb dX11_monk_16 rfl (lv_at hl 0 rfl) ?_
    refine va_get (D := D) (ci := 10) (v := .int v_today) (C := RX11) (T := TX11) (N := 15) hx hb hts in_V_monk_X11 hown hK.1 hP 0 rfl rfl 9 (by decide) lk1 (fun _ h9 => h9) rfl dX11_monk_17 ?_
    have hPc := hP.sub (ws' := [(a_monks, .inr (5, [.ref ma_priests, .ref ma_barred, .ref ma_cameOn, .ref ma_absent, .ref ma_absentFrom, .ref ma_absentTo, .int mv_size, .int mv_rows])), (ma_priests, .inl (cZ, 24, .inl mf_priests)), (ma_barred, .inl (cI, 24, .inl mf_barred)), (ma_cameOn, .inl (cI, 24, .inl mf_cameOn))]) [1, 2, 3, 4] rfl
    refine rwV (As := [.int px, .int b, .int v_today]) (rest := []) (wc := [(a_monks, .inr (5, [.ref ma_priests, .ref ma_barred, .ref ma_cameOn, .ref ma_absent, .ref ma_absentFrom, .ref ma_absentTo, .int mv_size, .int mv_rows])), (ma_priests, .inl (cZ, 24, .inl mf_priests)), (ma_barred, .inl (cI, 24, .inl mf_barred)), (ma_cameOn, .inl (cI, 24, .inl mf_cameOn))]) (wr := [(h, .inr (10, [.ref a_bells, .ref a_feasts, .ref a_tape, .ref a_reader, .ref a_rules, .ref a_monks, .ref a_duties, .ref a_gifts, .ref a_figures, .int v_today, .int v_stock, .int v_guestHeads, .int v_guestRanks, .int v_faultPlace, .int v_candlesInAll]))]) S (k_enter  (by omega) (by omega)) (cwV 3 hts gX11_monk_X5_enter rfl rfl rfl ⟨rfl, hd_X5_enter⟩ ⟨Nat.le_of_ble_eq_true rfl, Nat.le_of_ble_eq_true rfl⟩) hK hP hD hS hA [1, 2, 3, 4] [0] rfl rfl (by decide +kernel) (by decide +kernel) (by decide +kernel) (va_recv hK.1 hPc (ci := 5) (q0 := 0) rfl rfl) rfl hl.1 rfl (Nat.le_of_ble_eq_true rfl) dX11_monk_20 ⟨Nat.le_of_ble_eq_true rfl, Nat.le_of_ble_eq_true rfl⟩ (fun r_en u_en H locs hw_en hP hD hS => ?_)
    obtain ⟨v_size1_en, f_priests1_en, f_barred1_en, f_cameOn1_en⟩ := u_en
    have hw_en : (mv_size.toInt = 24 ∧ r_en.toInt = -1 ∧ v_size1_en = mv_size) ∨ (mv_size.toInt < 24 ∧ r_en.toInt = mv_size.toInt ∧ v_size1_en.toInt = mv_size.toInt + 1) := hw_en
    have hP : va_P D vwCl [(h, .inr (10, [.ref a_bells, .ref a_feasts, .ref a_tape, .ref a_reader, .ref a_rules, .ref a_monks, .ref a_duties, .ref a_gifts, .ref a_figures, .int v_today, .int v_stock, .int v_guestHeads, .int v_guestRanks, .int v_faultPlace, .int v_candlesInAll])), (a_monks, .inr (5, [.ref ma_priests, .ref ma_barred, .ref ma_cameOn, .ref ma_absent, .ref ma_absentFrom, .ref ma_absentTo, .int v_size1_en, .int mv_rows])), (ma_priests, .inl (cZ, 24, .inl f_priests1_en)), (ma_barred, .inl (cI, 24, .inl f_barred1_en)), (ma_cameOn, .inl (cI, 24, .inl f_cameOn1_en))] H := hP
    have hD := asD hP hD
    refine lv_goto (tgt := 27) hx hb dX11_monk_23 (by decide) ?_
    exact hret r_en (v_size1_en, f_priests1_en, f_barred1_en, f_cameOn1_en) _ _ _ _ (show (((0 ≤ b.toInt ∧ b.toInt ≤ 15) ∧ mv_size.toInt < 24) ∧ r_en.toInt = mv_size.toInt ∧ v_size1_en.toInt = mv_size.toInt + 1) ∨ (¬ ((0 ≤ b.toInt ∧ b.toInt ≤ 15) ∧ mv_size.toInt < 24) ∧ r_en.toInt = -1 ∧ v_size1_en = mv_size) from by first | (rcases hw_en with z | z; exact Or.inr ⟨by omega, by omega, z.2.2⟩; exact Or.inl ⟨by omega, by omega, by omega⟩) | exact Or.inr ⟨by omega, by omega, rfl⟩) rfl (hP.sub [0, 1, 2, 3, 4] rfl) (hD.sub [0, 1, 2, 3, 4] (by decide +kernel) rfl) hS dX11_monk_27

theorem in_V_away_X11 : ∀ w ∈ wsX110, w ∈ wsX11_away := tl_X11_away_X11
set_option maxHeartbeats 8000000 in
set_option maxRecDepth 100000 in
theorem V_away {l : Launch} {D : va_G} {cI cZ cB : ClassId} {sz : Nat} {h a_bells a_feasts a_tape a_reader a_rules a_monks a_duties a_gifts a_figures ma_priests ma_barred ma_cameOn ma_absent ma_absentFrom ma_absentTo : Nat} {v_today v_stock v_guestHeads v_guestRanks v_faultPlace v_candlesInAll mv_size mv_rows : Int32} {mf_absent mf_absentFrom mf_absentTo : Nat → Int32} {i a b : Int32} (h0_today : 0 ≤ v_today.toInt) (h1_today : v_today.toInt ≤ 1094) (hmv_size0 : 0 ≤ mv_size.toInt) (hmv_size1 : mv_size.toInt ≤ 24) (hmv_rows0 : 0 ≤ mv_rows.toInt) (hmv_rows1 : mv_rows.toInt ≤ 60) : Met l yX11_away wsX11_away ({ frames := 3, cells := 0, slots := 0, locals := 63 }) (RW D cI cZ cB [.ref h, .int i, .int a, .int b] sz [(h, .inr (10, [.ref a_bells, .ref a_feasts, .ref a_tape, .ref a_reader, .ref a_rules, .ref a_monks, .ref a_duties, .ref a_gifts, .ref a_figures, .int v_today, .int v_stock, .int v_guestHeads, .int v_guestRanks, .int v_faultPlace, .int v_candlesInAll])), (a_monks, .inr (5, [.ref ma_priests, .ref ma_barred, .ref ma_cameOn, .ref ma_absent, .ref ma_absentFrom, .ref ma_absentTo, .int mv_size, .int mv_rows])), (ma_absent, .inl (cI, 60, .inl mf_absent)), (ma_absentFrom, .inl (cI, 60, .inl mf_absentFrom)), (ma_absentTo, .inl (cI, 60, .inl mf_absentTo))]) (va_Qi (fun (r : Int32) (u : Int32 × (Nat → Int32) × (Nat → Int32) × (Nat → Int32)) => (((0 ≤ i.toInt ∧ i.toInt < mv_size.toInt ∧ v_today.toInt ≤ a.toInt ∧ a.toInt ≤ b.toInt ∧ b.toInt ≤ 1094) ∧ mv_rows.toInt < 60) ∧ r.toInt = mv_rows.toInt + 1 ∧ u.1.toInt = mv_rows.toInt + 1) ∨ (¬ ((0 ≤ i.toInt ∧ i.toInt < mv_size.toInt ∧ v_today.toInt ≤ a.toInt ∧ a.toInt ≤ b.toInt ∧ b.toInt ≤ 1094) ∧ mv_rows.toInt < 60) ∧ r.toInt = -1 ∧ u.1 = mv_rows)) (BW D [(h, .inr (10, [.ref a_bells, .ref a_feasts, .ref a_tape, .ref a_reader, .ref a_rules, .ref a_monks, .ref a_duties, .ref a_gifts, .ref a_figures, .int v_today, .int v_stock, .int v_guestHeads, .int v_guestRanks, .int v_faultPlace, .int v_candlesInAll])), (a_monks, .inr (5, [.ref ma_priests, .ref ma_barred, .ref ma_cameOn, .ref ma_absent, .ref ma_absentFrom, .ref ma_absentTo, .int mv_size, .int mv_rows])), (ma_absent, .inl (cI, 60, .inl mf_absent)), (ma_absentFrom, .inl (cI, 60, .inl mf_absentFrom)), (ma_absentTo, .inl (cI, 60, .inl mf_absentTo))] sz (fun u : Int32 × (Nat → Int32) × (Nat → Int32) × (Nat → Int32) => [(h, .inr (10, [.ref a_bells, .ref a_feasts, .ref a_tape, .ref a_reader, .ref a_rules, .ref a_monks, .ref a_duties, .ref a_gifts, .ref a_figures, .int v_today, .int v_stock, .int v_guestHeads, .int v_guestRanks, .int v_faultPlace, .int v_candlesInAll])), (a_monks, .inr (5, [.ref ma_priests, .ref ma_barred, .ref ma_cameOn, .ref ma_absent, .ref ma_absentFrom, .ref ma_absentTo, .int mv_size, .int u.1])), (ma_absent, .inl (cI, 60, .inl u.2.1)), (ma_absentFrom, .inl (cI, 60, .inl u.2.2.1)), (ma_absentTo, .inl (cI, 60, .inl u.2.2.2))])) (va_A [(h, .inr (10, [.ref a_bells, .ref a_feasts, .ref a_tape, .ref a_reader, .ref a_rules, .ref a_monks, .ref a_duties, .ref a_gifts, .ref a_figures, .int v_today, .int v_stock, .int v_guestHeads, .int v_guestRanks, .int v_faultPlace, .int v_candlesInAll])), (a_monks, .inr (5, [.ref ma_priests, .ref ma_barred, .ref ma_cameOn, .ref ma_absent, .ref ma_absentFrom, .ref ma_absentTo, .int mv_size, .int mv_rows])), (ma_absent, .inl (cI, 60, .inl mf_absent)), (ma_absentFrom, .inl (cI, 60, .inl mf_absentFrom)), (ma_absentTo, .inl (cI, 60, .inl mf_absentTo))] sz)) 0 0 (va_A [(h, .inr (10, [.ref a_bells, .ref a_feasts, .ref a_tape, .ref a_reader, .ref a_rules, .ref a_monks, .ref a_duties, .ref a_gifts, .ref a_figures, .int v_today, .int v_stock, .int v_guestHeads, .int v_guestRanks, .int v_faultPlace, .int v_candlesInAll])), (a_monks, .inr (5, [.ref ma_priests, .ref ma_barred, .ref ma_cameOn, .ref ma_absent, .ref ma_absentFrom, .ref ma_absentTo, .int mv_size, .int mv_rows])), (ma_absent, .inl (cI, 60, .inl mf_absent)), (ma_absentFrom, .inl (cI, 60, .inl mf_absentFrom)), (ma_absentTo, .inl (cI, 60, .inl mf_absentTo))] sz) := by
  refine rw_ret (cc := cX11_away) (maxL := 5) (ty := .int) (own := RX11) (by decide) rfl rfl (Nat.le_of_ble_eq_true rfl) ?_
  intro p e s m args below meth c Q A S hin hret hP hK hD hA hS ls hl
  obtain ⟨hx, hb, hml, hown, hts⟩ := id S
  have hl : lv_has ls 5 [(0, .ref h), (1, .int i), (2, .int a), (3, .int b)] := hl
  have kkm1 : (-1 : Int32).toInt = -1 := by decide
  have kk0 : (0 : Int32).toInt = 0 := by decide
  have kk1 : (1 : Int32).toInt = 1 := by decide
  have lk0 := hts (.fieldLink RX11 47 "AbbeyHours" "monks" "LAbbeyHours$Monks;") (mc_X11_away_r1 _ (List.mem_of_getElem? (i := 0) rfl))
  have lk1 := hts (.fieldLink RX11 82 "AbbeyHours" "today" "I") (mc_X11_away_r1 _ (List.mem_of_getElem? (i := 1) rfl))
  refine lv_aload_n hx hb dX11_away_0 rfl (lv_at hl 0 rfl) ?_
  refine va_get (D := D) (ci := 10) (v := .ref a_monks) (C := RX11) (T := TX11) (N := 15) hx hb hts in_V_away_X11 hown hK.1 hP 0 rfl rfl 5 (by decide) lk0 (fun _ h9 => h9) rfl dX11_away_1 ?_
  refine lv_iload_n hx hb dX11_away_4 rfl (lv_at hl 1 rfl) ?_
  have hPc := hP.sub (ws' := [(a_monks, .inr (5, [.ref ma_priests, .ref ma_barred, .ref ma_cameOn, .ref ma_absent, .ref ma_absentFrom, .ref ma_absentTo, .int mv_size, .int mv_rows]))]) [1] rfl
  refine roV (As := [.int i]) (rest := []) S (k_has  ) (cwV 1 hts gX11_away_X5_has rfl rfl rfl ⟨rfl, hd_X5_has⟩ ⟨Nat.le_of_ble_eq_true rfl, Nat.le_of_ble_eq_true rfl⟩) hK hPc (va_recv hK.1 hPc (ci := 5) (q0 := 0) rfl rfl) rfl hl.1 rfl (Nat.le_of_ble_eq_true rfl) dX11_away_5 ⟨Nat.le_of_ble_eq_true rfl, Nat.le_of_ble_eq_true rfl⟩ (fun r_1 hw_1 => ?_)
  have hw_1 : (r_1.toInt = 1 ∧ 0 ≤ i.toInt ∧ i.toInt < mv_size.toInt) ∨ (r_1.toInt = 0 ∧ (i.toInt < 0 ∨ mv_size.toInt ≤ i.toInt)) := hw_1
  refine lv_if_eq (tgt := 31) hx hb dX11_away_8 (by decide) (fun c_2 => ?_) (fun c_2 => ?_)
  · have tc_2 := t_eq c_2
    refine lv_iconst (v := 0) hx hb dX11_away_31 (by decide) ?_
    refine lv_istore (lv' := [(4, .int 0), (0, .ref h), (1, .int i), (2, .int a), (3, .int b)]) hx hb dX11_away_32 hl (by decide) rfl (fun ls hl => ?_)
    refine lv_iload hx hb dX11_away_34 (lv_at hl 0 rfl) ?_
    refine lv_if_eq (tgt := 52) hx hb dX11_away_36 (by decide) (fun c_3 => ?_) (fun c_3 => ?_)
    · have tc_3 := t_eq c_3
      refine lv_iconst (v := (-1)) hx hb dX11_away_52 (by decide) ?_
      exact hret (-1) (mv_rows, mf_absent, mf_absentFrom, mf_absentTo) _ _ _ _ (show (((0 ≤ i.toInt ∧ i.toInt < mv_size.toInt ∧ v_today.toInt ≤ a.toInt ∧ a.toInt ≤ b.toInt ∧ b.toInt ≤ 1094) ∧ mv_rows.toInt < 60) ∧ (-1 : Int32).toInt = mv_rows.toInt + 1 ∧ mv_rows.toInt = mv_rows.toInt + 1) ∨ (¬ ((0 ≤ i.toInt ∧ i.toInt < mv_size.toInt ∧ v_today.toInt ≤ a.toInt ∧ a.toInt ≤ b.toInt ∧ b.toInt ≤ 1094) ∧ mv_rows.toInt < 60) ∧ (-1 : Int32).toInt = -1 ∧ mv_rows = mv_rows) from by first | (rcases hw_en with z | z; exact Or.inr ⟨by omega, by omega, z.2.2⟩; exact Or.inl ⟨by omega, by omega, by omega⟩) | exact Or.inr ⟨by omega, by omega, rfl⟩) rfl (hP.sub [0, 1, 2, 3, 4] rfl) (hD.sub [0, 1, 2, 3, 4] (by decide +kernel) rfl) hS dX11_away_53
    · exact absurd c_3 (by decide)
  · have tc_2 := t_neq c_2
    refine lv_iload_n hx hb dX11_away_11 rfl (lv_at hl 2 rfl) ?_
    refine lv_aload_n hx hb dX11_away_12 rfl (lv_at hl 0 rfl) ?_
    refine va_get (D := D) (ci := 10) (v := .int v_today) (C := RX11) (T := TX11) (N := 15) hx hb hts in_V_away_X11 hown hK.1 hP 0 rfl rfl 9 (by decide) lk1 (fun _ h9 => h9) rfl dX11_away_13 ?_
    refine lv_icmp_lt (tgt := 31) hx hb dX11_away_16 (by decide) (fun c_4 => ?_) (fun c_4 => ?_)
    · have tc_4 := t_lt c_4
      refine lv_iconst (v := 0) hx hb dX11_away_31 (by decide) ?_
      refine lv_istore (lv' := [(4, .int 0), (0, .ref h), (1, .int i), (2, .int a), (3, .int b)]) hx hb dX11_away_32 hl (by decide) rfl (fun ls hl => ?_)
      refine lv_iload hx hb dX11_away_34 (lv_at hl 0 rfl) ?_
      refine lv_if_eq (tgt := 52) hx hb dX11_away_36 (by decide) (fun c_5 => ?_) (fun c_5 => ?_)
      · have tc_5 := t_eq c_5
        refine lv_iconst (v := (-1)) hx hb dX11_away_52 (by decide) ?_
        exact hret (-1) (mv_rows, mf_absent, mf_absentFrom, mf_absentTo) _ _ _ _ (show (((0 ≤ i.toInt ∧ i.toInt < mv_size.toInt ∧ v_today.toInt ≤ a.toInt ∧ a.toInt ≤ b.toInt ∧ b.toInt ≤ 1094) ∧ mv_rows.toInt < 60) ∧ (-1 : Int32).toInt = mv_rows.toInt + 1 ∧ mv_rows.toInt = mv_rows.toInt + 1) ∨ (¬ ((0 ≤ i.toInt ∧ i.toInt < mv_size.toInt ∧ v_today.toInt ≤ a.toInt ∧ a.toInt ≤ b.toInt ∧ b.toInt ≤ 1094) ∧ mv_rows.toInt < 60) ∧ (-1 : Int32).toInt = -1 ∧ mv_rows = mv_rows) from by first | (rcases hw_en with z | z; exact Or.inr ⟨by omega, by omega, z.2.2⟩; exact Or.inl ⟨by omega, by omega, by omega⟩) | exact Or.inr ⟨by omega, by omega, rfl⟩) rfl (hP.sub [0, 1, 2, 3, 4] rfl) (hD.sub [0, 1, 2, 3, 4] (by decide +kernel) rfl) hS dX11_away_53
      · exact absurd c_5 (by decide)
    · have tc_4 := t_nlt c_4
      refine lv_iload_n hx hb dX11_away_19 rfl (lv_at hl 2 rfl) ?_
      refine lv_iload_n hx hb dX11_away_20 rfl (lv_at hl 3 rfl) ?_
      have hPc := hP.sub (ws' := []) [] rfl
      refine roS (As := [.int a, .int b]) (rest := []) S (w_isSpan  ) (va_cwS 2 hts gX11_away_X11_isSpan rfl rfl rfl hd_X11_isSpan ⟨Nat.le_of_ble_eq_true rfl, Nat.le_of_ble_eq_true rfl⟩) hK hPc rfl hl.1 rfl (Nat.le_of_ble_eq_true rfl) dX11_away_21 ⟨Nat.le_of_ble_eq_true rfl, Nat.le_of_ble_eq_true rfl⟩ (fun r_6 hw_6 => ?_)
      have hw_6 : (r_6.toInt = 1 ∧ 0 ≤ a.toInt ∧ a.toInt ≤ b.toInt ∧ b.toInt ≤ 1094) ∨ (r_6.toInt = 0 ∧ (a.toInt < 0 ∨ b.toInt < a.toInt ∨ 1094 < b.toInt)) := hw_6
      refine lv_if_eq (tgt := 31) hx hb dX11_away_24 (by decide) (fun c_7 => ?_) (fun c_7 => ?_)
      · have tc_7 := t_eq c_7
        refine lv_iconst (v := 0) hx hb dX11_away_31 (by decide) ?_
        refine lv_istore (lv' := [(4, .int 0), (0, .ref h), (1, .int i), (2, .int a), (3, .int b)]) hx hb dX11_away_32 hl (by decide) rfl (fun ls hl => ?_)
        refine lv_iload hx hb dX11_away_34 (lv_at hl 0 rfl) ?_
        refine lv_if_eq (tgt := 52) hx hb dX11_away_36 (by decide) (fun c_8 => ?_) (fun c_8 => ?_)
        · have tc_8 := t_eq c_8
          refine lv_iconst (v := (-1)) hx hb dX11_away_52 (by decide) ?_
          exact hret (-1) (mv_rows, mf_absent, mf_absentFrom, mf_absentTo) _ _ _ _ (show (((0 ≤ i.toInt ∧ i.toInt < mv_size.toInt ∧ v_today.toInt ≤ a.toInt ∧ a.toInt ≤ b.toInt ∧ b.toInt ≤ 1094) ∧ mv_rows.toInt < 60) ∧ (-1 : Int32).toInt = mv_rows.toInt + 1 ∧ mv_rows.toInt = mv_rows.toInt + 1) ∨ (¬ ((0 ≤ i.toInt ∧ i.toInt < mv_size.toInt ∧ v_today.toInt ≤ a.toInt ∧ a.toInt ≤ b.toInt ∧ b.toInt ≤ 1094) ∧ mv_rows.toInt < 60) ∧ (-1 : Int32).toInt = -1 ∧ mv_rows = mv_rows) from by first | (rcases hw_en with z | z; exact Or.inr ⟨by omega, by omega, z.2.2⟩; exact Or.inl ⟨by omega, by omega, by omega⟩) | exact Or.inr ⟨by omega, by omega, rfl⟩) rfl (hP.sub [0, 1, 2, 3, 4] rfl) (hD.sub [0, 1, 2, 3, 4] (by decide +kernel) rfl) hS dX11_away_53
        · exact absurd c_8 (by decide)
      · have tc_7 := t_neq c_7
        refine lv_iconst (v := 1) hx hb dX11_away_27 (by decide) ?_
        refine lv_goto (tgt := 32) hx hb dX11_away_28 (by decide) ?_
        refine lv_istore (lv' := [(4, .int 1), (0, .ref h), (1, .int i), (2, .int a), (3, .int b)]) hx hb dX11_away_32 hl (by decide) rfl (fun ls hl => ?_)
        refine lv_iload hx hb dX11_away_34 (lv_at hl 0 rfl) ?_
        refine lv_if_eq (tgt := 52) hx hb dX11_away_36 (by decide) (fun c_9 => ?_) (fun c_9 => ?_)
        · exact absurd c_9 (by decide)
        · have tc_9 := t_neq c_9
          refine lv_aload_n hx hb dX11_away_39 rfl (lv_at hl 1 rfl) ?_
          refine va_get (D := D) (ci := 10) (v := .ref a_monks) (C := RX11) (T := TX11) (N := 15) hx hb hts in_V_away_X11 hown hK.1 hP 0 rfl rfl 5 (by decide) lk0 (fun _ h9 => h9) rfl dX11_away_40 ?_
          refine lv_iload_n hx hb dX11_away_43 rfl (lv_at hl 2 rfl) ?_
          refine lv_iload_n hx hb dX11_away_44 rfl (lv_at hl 3 rfl) ?_
          refine lv_iload_n hx hb dX11_away_45 rfl (lv_at hl 4 rfl) ?_
          have hPc := hP.sub (ws' := [(a_monks, .inr (5, [.ref ma_priests, .ref ma_barred, .ref ma_cameOn, .ref ma_absent, .ref ma_absentFrom, .ref ma_absentTo, .int mv_size, .int mv_rows])), (ma_absent, .inl (cI, 60, .inl mf_absent)), (ma_absentFrom, .inl (cI, 60, .inl mf_absentFrom)), (ma_absentTo, .inl (cI, 60, .inl mf_absentTo))]) [1, 2, 3, 4] rfl
          refine rwV (As := [.int i, .int a, .int b]) (rest := []) (wc := [(a_monks, .inr (5, [.ref ma_priests, .ref ma_barred, .ref ma_cameOn, .ref ma_absent, .ref ma_absentFrom, .ref ma_absentTo, .int mv_size, .int mv_rows])), (ma_absent, .inl (cI, 60, .inl mf_absent)), (ma_absentFrom, .inl (cI, 60, .inl mf_absentFrom)), (ma_absentTo, .inl (cI, 60, .inl mf_absentTo))]) (wr := [(h, .inr (10, [.ref a_bells, .ref a_feasts, .ref a_tape, .ref a_reader, .ref a_rules, .ref a_monks, .ref a_duties, .ref a_gifts, .ref a_figures, .int v_today, .int v_stock, .int v_guestHeads, .int v_guestRanks, .int v_faultPlace, .int v_candlesInAll]))]) S (k_tell  (by omega) (by omega)) (cwV 3 hts gX11_away_X5_tellAbsence rfl rfl rfl ⟨rfl, hd_X5_tellAbsence⟩ ⟨Nat.le_of_ble_eq_true rfl, Nat.le_of_ble_eq_true rfl⟩) hK hP hD hS hA [1, 2, 3, 4] [0] rfl rfl (by decide +kernel) (by decide +kernel) (by decide +kernel) (va_recv hK.1 hPc (ci := 5) (q0 := 0) rfl rfl) rfl hl.1 rfl (Nat.le_of_ble_eq_true rfl) dX11_away_46 ⟨Nat.le_of_ble_eq_true rfl, Nat.le_of_ble_eq_true rfl⟩ (fun r_en u_en H locs hw_en hP hD hS => ?_)
          obtain ⟨v_rows1_en, f_absent1_en, f_absentFrom1_en, f_absentTo1_en⟩ := u_en
          have hw_en : (mv_rows.toInt = 60 ∧ r_en.toInt = -1 ∧ v_rows1_en = mv_rows) ∨ (mv_rows.toInt < 60 ∧ r_en.toInt = mv_rows.toInt + 1 ∧ v_rows1_en.toInt = mv_rows.toInt + 1) := hw_en
          have hP : va_P D vwCl [(h, .inr (10, [.ref a_bells, .ref a_feasts, .ref a_tape, .ref a_reader, .ref a_rules, .ref a_monks, .ref a_duties, .ref a_gifts, .ref a_figures, .int v_today, .int v_stock, .int v_guestHeads, .int v_guestRanks, .int v_faultPlace, .int v_candlesInAll])), (a_monks, .inr (5, [.ref ma_priests, .ref ma_barred, .ref ma_cameOn, .ref ma_absent, .ref ma_absentFrom, .ref ma_absentTo, .int mv_size, .int v_rows1_en])), (ma_absent, .inl (cI, 60, .inl f_absent1_en)), (ma_absentFrom, .inl (cI, 60, .inl f_absentFrom1_en)), (ma_absentTo, .inl (cI, 60, .inl f_absentTo1_en))] H := hP
          have hD := asD hP hD
          refine lv_goto (tgt := 53) hx hb dX11_away_49 (by decide) ?_
          exact hret r_en (v_rows1_en, f_absent1_en, f_absentFrom1_en, f_absentTo1_en) _ _ _ _ (show (((0 ≤ i.toInt ∧ i.toInt < mv_size.toInt ∧ v_today.toInt ≤ a.toInt ∧ a.toInt ≤ b.toInt ∧ b.toInt ≤ 1094) ∧ mv_rows.toInt < 60) ∧ r_en.toInt = mv_rows.toInt + 1 ∧ v_rows1_en.toInt = mv_rows.toInt + 1) ∨ (¬ ((0 ≤ i.toInt ∧ i.toInt < mv_size.toInt ∧ v_today.toInt ≤ a.toInt ∧ a.toInt ≤ b.toInt ∧ b.toInt ≤ 1094) ∧ mv_rows.toInt < 60) ∧ r_en.toInt = -1 ∧ v_rows1_en = mv_rows) from by first | (rcases hw_en with z | z; exact Or.inr ⟨by omega, by omega, z.2.2⟩; exact Or.inl ⟨by omega, by omega, by omega⟩) | exact Or.inr ⟨by omega, by omega, rfl⟩) rfl (hP.sub [0, 1, 2, 3, 4] rfl) (hD.sub [0, 1, 2, 3, 4] (by decide +kernel) rfl) hS dX11_away_53

set_option maxHeartbeats 8000000 in
set_option maxRecDepth 100000 in
theorem V_light {l : Launch} {D : va_G} {cI cZ cB : ClassId} {h a_bells a_feasts a_tape a_reader a_rules a_monks a_duties a_gifts a_figures : Nat} {v_today v_stock v_guestHeads v_guestRanks v_faultPlace v_candlesInAll : Int32} {d w : Int32}  : Met l yX11_light wsX11_light ({ frames := 3, cells := 0, slots := 0, locals := 61 }) (RO D cI cZ cB [.ref h, .int d, .int w] [(h, .inr (10, [.ref a_bells, .ref a_feasts, .ref a_tape, .ref a_reader, .ref a_rules, .ref a_monks, .ref a_duties, .ref a_gifts, .ref a_figures, .int v_today, .int v_stock, .int v_guestHeads, .int v_guestRanks, .int v_faultPlace, .int v_candlesInAll]))]) (vp_Si (fun r : Int32 => r = lightF d w)) 0 0 (fun _ => False) := by
  refine ro_ret (cc := cX11_light) (maxL := 3) (ty := .int) (own := RX11) (by decide) rfl rfl (Nat.le_of_ble_eq_true rfl) ?_
  intro p e s m args below meth c Q S hret hP hK ls hl
  obtain ⟨hx, hb, hml, hown, hts⟩ := id S
  have hl : lv_has ls 3 [(0, .ref h), (1, .int d), (2, .int w)] := hl
  have kkm1 : (-1 : Int32).toInt = -1 := by decide
  have kk0 : (0 : Int32).toInt = 0 := by decide
  refine lv_iload_n hx hb dX11_light_0 rfl (lv_at hl 1 rfl) ?_
  have hPc := hP.sub (ws' := []) [] rfl
  refine roS (As := [.int d]) (rest := []) S (w_isDayOfYear  ) (va_cwS 1 hts gX11_light_X11_isDayOfYear rfl rfl rfl hd_X11_isDayOfYear ⟨Nat.le_of_ble_eq_true rfl, Nat.le_of_ble_eq_true rfl⟩) hK hPc rfl hl.1 rfl (Nat.le_of_ble_eq_true rfl) dX11_light_1 ⟨Nat.le_of_ble_eq_true rfl, Nat.le_of_ble_eq_true rfl⟩ (fun r_1 hw_1 => ?_)
  have hw_1 : (r_1.toInt = 1 ∧ 0 ≤ d.toInt ∧ d.toInt ≤ 364) ∨ (r_1.toInt = 0 ∧ (d.toInt < 0 ∨ 364 < d.toInt)) := hw_1
  refine lv_if_ne (tgt := 9) hx hb dX11_light_4 (by decide) (fun c_2 => ?_) (fun c_2 => ?_)
  · have tc_2 := t_neq c_2
    refine lv_iload_n hx hb dX11_light_9 rfl (lv_at hl 2 rfl) ?_
    have kqh_3 : (0 : Int32).toInt = 0 := by decide
    by_cases h_3 : w = 0
    · have th_3 := t_eq h_3
      refine lv_tableIn (off := 26) (tgt := 36) hx hb dX11_light_10 (by rw [h_3]; decide) (by rw [h_3]; decide) (by rw [h_3]; rfl) (by decide) ?_
      refine lv_iload_n hx hb dX11_light_36 rfl (lv_at hl 1 rfl) ?_
      have hPc := hP.sub (ws' := []) [] rfl
      refine roS (As := [.int d]) (rest := []) S (s_minutes  ) (va_cwS 1 hts gX11_light_X8_minutes rfl rfl rfl hd_X8_minutes ⟨Nat.le_of_ble_eq_true rfl, Nat.le_of_ble_eq_true rfl⟩) hK hPc rfl hl.1 rfl (Nat.le_of_ble_eq_true rfl) dX11_light_37 ⟨Nat.le_of_ble_eq_true rfl, Nat.le_of_ble_eq_true rfl⟩ (fun r_4 hw_4 => ?_)
      have hw_4 : r_4 = sunM d := hw_4
      exact hret r_4 _ _ (show r_4 = lightF d w from by unfold lightF; rw [if_pos (by omega)]; subst_vars; rfl) rfl dX11_light_40
    have th_3 := t_neq h_3
    have kqh_5 : (1 : Int32).toInt = 1 := by decide
    by_cases h_5 : w = 1
    · have th_5 := t_eq h_5
      refine lv_tableIn (off := 31) (tgt := 41) hx hb dX11_light_10 (by rw [h_5]; decide) (by rw [h_5]; decide) (by rw [h_5]; rfl) (by decide) ?_
      refine lv_iload_n hx hb dX11_light_41 rfl (lv_at hl 1 rfl) ?_
      have hPc := hP.sub (ws' := []) [] rfl
      refine roS (As := [.int d]) (rest := []) S (s_rise  ) (va_cwS 1 hts gX11_light_X8_rise rfl rfl rfl hd_X8_rise ⟨Nat.le_of_ble_eq_true rfl, Nat.le_of_ble_eq_true rfl⟩) hK hPc rfl hl.1 rfl (Nat.le_of_ble_eq_true rfl) dX11_light_42 ⟨Nat.le_of_ble_eq_true rfl, Nat.le_of_ble_eq_true rfl⟩ (fun r_6 hw_6 => ?_)
      have hw_6 : r_6 = sunR d := hw_6
      exact hret r_6 _ _ (show r_6 = lightF d w from by unfold lightF; rw [if_pos (by omega)]; subst_vars; rfl) rfl dX11_light_45
    have th_5 := t_neq h_5
    have kqh_7 : (2 : Int32).toInt = 2 := by decide
    by_cases h_7 : w = 2
    · have th_7 := t_eq h_7
      refine lv_tableIn (off := 36) (tgt := 46) hx hb dX11_light_10 (by rw [h_7]; decide) (by rw [h_7]; decide) (by rw [h_7]; rfl) (by decide) ?_
      refine lv_iload_n hx hb dX11_light_46 rfl (lv_at hl 1 rfl) ?_
      have hPc := hP.sub (ws' := []) [] rfl
      refine roS (As := [.int d]) (rest := []) S (s_setting  ) (va_cwS 1 hts gX11_light_X8_setting rfl rfl rfl hd_X8_setting ⟨Nat.le_of_ble_eq_true rfl, Nat.le_of_ble_eq_true rfl⟩) hK hPc rfl hl.1 rfl (Nat.le_of_ble_eq_true rfl) dX11_light_47 ⟨Nat.le_of_ble_eq_true rfl, Nat.le_of_ble_eq_true rfl⟩ (fun r_8 hw_8 => ?_)
      have hw_8 : r_8 = sunS d := hw_8
      exact hret r_8 _ _ (show r_8 = lightF d w from by unfold lightF; rw [if_pos (by omega)]; subst_vars; rfl) rfl dX11_light_50
    have th_7 := t_neq h_7
    refine lv_tableOut (tgt := 51) hx hb dX11_light_10 (by omega) (by decide) ?_
    refine lv_iconst (v := (-1)) hx hb dX11_light_51 (by decide) ?_
    exact hret (-1) _ _ (show (-1 : Int32) = lightF d w from by unfold lightF; rw [if_pos (by omega), if_neg (by assumption), if_neg (by assumption), if_neg (by assumption)]) rfl dX11_light_52
  · have tc_2 := t_eq c_2
    refine lv_iconst (v := (-1)) hx hb dX11_light_7 (by decide) ?_
    exact hret (-1) _ _ (show (-1 : Int32) = lightF d w from by unfold lightF; rw [if_neg (by omega)]) rfl dX11_light_8

theorem in_V_office_X11 : ∀ w ∈ wsX110, w ∈ wsX11_office := tl_X11_office_X11
set_option maxHeartbeats 8000000 in
set_option maxRecDepth 100000 in
theorem V_office {l : Launch} {D : va_G} {cI cZ cB : ClassId} {h a_bells a_feasts a_tape a_reader a_rules a_monks a_duties a_gifts a_figures ba_days ba_offices ba_delays : Nat} {v_today v_stock v_guestHeads v_guestRanks v_faultPlace v_candlesInAll bv_size : Int32} {bf_days bf_offices bf_delays : Nat → Int32} {d k : Int32} (hbv_size0 : 0 ≤ bv_size.toInt) (hbv_size1 : bv_size.toInt ≤ 100) : Met l yX11_office wsX11_office ({ frames := 4, cells := 0, slots := 0, locals := 88 }) (RO D cI cZ cB [.ref h, .int d, .int k] [(h, .inr (10, [.ref a_bells, .ref a_feasts, .ref a_tape, .ref a_reader, .ref a_rules, .ref a_monks, .ref a_duties, .ref a_gifts, .ref a_figures, .int v_today, .int v_stock, .int v_guestHeads, .int v_guestRanks, .int v_faultPlace, .int v_candlesInAll])), (a_bells, .inr (0, [.ref ba_days, .ref ba_offices, .ref ba_delays, .int bv_size])), (ba_days, .inl (cI, 100, .inl bf_days)), (ba_offices, .inl (cI, 100, .inl bf_offices)), (ba_delays, .inl (cI, 100, .inl bf_delays))]) (vp_Si (fun r : Int32 => True)) 0 0 (fun _ => False) := by
  refine ro_ret (cc := cX11_office) (maxL := 3) (ty := .int) (own := RX11) (by decide) rfl rfl (Nat.le_of_ble_eq_true rfl) ?_
  intro p e s m args below meth c Q S hret hP hK ls hl
  obtain ⟨hx, hb, hml, hown, hts⟩ := id S
  have hl : lv_has ls 3 [(0, .ref h), (1, .int d), (2, .int k)] := hl
  have kkm1 : (-1 : Int32).toInt = -1 := by decide
  have kk0 : (0 : Int32).toInt = 0 := by decide
  have lk0 := hts (.fieldLink RX11 10 "AbbeyHours" "bells" "LAbbeyHours$Bells;") (mc_X11_office_r1 _ (List.mem_of_getElem? (i := 0) rfl))
  refine lv_iload_n hx hb dX11_office_0 rfl (lv_at hl 1 rfl) ?_
  have hPc := hP.sub (ws' := []) [] rfl
  refine roS (As := [.int d]) (rest := []) S (w_isDay  ) (va_cwS 1 hts gX11_office_X11_isDay rfl rfl rfl hd_X11_isDay ⟨Nat.le_of_ble_eq_true rfl, Nat.le_of_ble_eq_true rfl⟩) hK hPc rfl hl.1 rfl (Nat.le_of_ble_eq_true rfl) dX11_office_1 ⟨Nat.le_of_ble_eq_true rfl, Nat.le_of_ble_eq_true rfl⟩ (fun r_1 hw_1 => ?_)
  have hw_1 : (r_1.toInt = 1 ∧ 0 ≤ d.toInt ∧ d.toInt ≤ 1094) ∨ (r_1.toInt = 0 ∧ (d.toInt < 0 ∨ 1094 < d.toInt)) := hw_1
  refine lv_if_eq (tgt := 26) hx hb dX11_office_4 (by decide) (fun c_2 => ?_) (fun c_2 => ?_)
  · have tc_2 := t_eq c_2
    refine lv_iconst (v := (-1)) hx hb dX11_office_26 (by decide) ?_
    exact hret (-1) _ _ (show True from trivial) rfl dX11_office_27
  · have tc_2 := t_neq c_2
    refine lv_iload_n hx hb dX11_office_7 rfl (lv_at hl 2 rfl) ?_
    have hPc := hP.sub (ws' := []) [] rfl
    refine roS (As := [.int k]) (rest := []) S (w_isOffice  ) (va_cwS 1 hts gX11_office_X11_isOffice rfl rfl rfl hd_X11_isOffice ⟨Nat.le_of_ble_eq_true rfl, Nat.le_of_ble_eq_true rfl⟩) hK hPc rfl hl.1 rfl (Nat.le_of_ble_eq_true rfl) dX11_office_8 ⟨Nat.le_of_ble_eq_true rfl, Nat.le_of_ble_eq_true rfl⟩ (fun r_3 hw_3 => ?_)
    have hw_3 : (r_3.toInt = 1 ∧ 0 ≤ k.toInt ∧ k.toInt ≤ 7) ∨ (r_3.toInt = 0 ∧ (k.toInt < 0 ∨ 7 < k.toInt)) := hw_3
    refine lv_if_eq (tgt := 26) hx hb dX11_office_11 (by decide) (fun c_4 => ?_) (fun c_4 => ?_)
    · have tc_4 := t_eq c_4
      refine lv_iconst (v := (-1)) hx hb dX11_office_26 (by decide) ?_
      exact hret (-1) _ _ (show True from trivial) rfl dX11_office_27
    · have tc_4 := t_neq c_4
      refine lv_aload_n hx hb dX11_office_14 rfl (lv_at hl 0 rfl) ?_
      refine va_get (D := D) (ci := 10) (v := .ref a_bells) (C := RX11) (T := TX11) (N := 15) hx hb hts in_V_office_X11 hown hK.1 hP 0 rfl rfl 0 (by decide) lk0 (fun _ h9 => h9) rfl dX11_office_15 ?_
      refine lv_iload_n hx hb dX11_office_18 rfl (lv_at hl 1 rfl) ?_
      refine lv_iload_n hx hb dX11_office_19 rfl (lv_at hl 2 rfl) ?_
      have hPc := hP.sub (ws' := [(a_bells, .inr (0, [.ref ba_days, .ref ba_offices, .ref ba_delays, .int bv_size])), (ba_days, .inl (cI, 100, .inl bf_days)), (ba_offices, .inl (cI, 100, .inl bf_offices)), (ba_delays, .inl (cI, 100, .inl bf_delays))]) [1, 2, 3, 4] rfl
      refine roV (As := [.int d, .int k]) (rest := []) S (b_startOf  (by omega) (by omega)) (cwV 2 hts gX11_office_X0_startOf rfl rfl rfl ⟨rfl, hd_X0_startOf⟩ ⟨Nat.le_of_ble_eq_true rfl, Nat.le_of_ble_eq_true rfl⟩) hK hPc (va_recv hK.1 hPc (ci := 0) (q0 := 0) rfl rfl) rfl hl.1 rfl (Nat.le_of_ble_eq_true rfl) dX11_office_20 ⟨Nat.le_of_ble_eq_true rfl, Nat.le_of_ble_eq_true rfl⟩ (fun r_5 hw_5 => ?_)
      have hw_5 : bv_size.toInt = 0 → r_5 = sunB (rem365 d) k := hw_5
      refine lv_goto (tgt := 27) hx hb dX11_office_23 (by decide) ?_
      exact hret r_5 _ _ (show True from trivial) rfl dX11_office_27

theorem in_V_late_X11 : ∀ w ∈ wsX110, w ∈ wsX11_late := tl_X11_late_X11
set_option maxHeartbeats 8000000 in
set_option maxRecDepth 100000 in
theorem V_late {l : Launch} {D : va_G} {cI cZ cB : ClassId} {sz : Nat} {h a_bells a_feasts a_tape a_reader a_rules a_monks a_duties a_gifts a_figures ba_days ba_offices ba_delays : Nat} {v_today v_stock v_guestHeads v_guestRanks v_faultPlace v_candlesInAll bv_size : Int32} {bf_days bf_offices bf_delays : Nat → Int32} {d k mm : Int32} (hbv_size0 : 0 ≤ bv_size.toInt) (hbv_size1 : bv_size.toInt ≤ 100) : Met l yX11_late wsX11_late ({ frames := 6, cells := 0, slots := 0, locals := 137 }) (RW D cI cZ cB [.ref h, .int d, .int k, .int mm] sz [(h, .inr (10, [.ref a_bells, .ref a_feasts, .ref a_tape, .ref a_reader, .ref a_rules, .ref a_monks, .ref a_duties, .ref a_gifts, .ref a_figures, .int v_today, .int v_stock, .int v_guestHeads, .int v_guestRanks, .int v_faultPlace, .int v_candlesInAll])), (a_bells, .inr (0, [.ref ba_days, .ref ba_offices, .ref ba_delays, .int bv_size])), (ba_days, .inl (cI, 100, .inl bf_days)), (ba_offices, .inl (cI, 100, .inl bf_offices)), (ba_delays, .inl (cI, 100, .inl bf_delays))]) (va_Qi (fun (r : Int32) (u : Int32 × (Nat → Int32) × (Nat → Int32) × (Nat → Int32)) => 0 ≤ u.1.toInt ∧ u.1.toInt ≤ 100) (BW D [(h, .inr (10, [.ref a_bells, .ref a_feasts, .ref a_tape, .ref a_reader, .ref a_rules, .ref a_monks, .ref a_duties, .ref a_gifts, .ref a_figures, .int v_today, .int v_stock, .int v_guestHeads, .int v_guestRanks, .int v_faultPlace, .int v_candlesInAll])), (a_bells, .inr (0, [.ref ba_days, .ref ba_offices, .ref ba_delays, .int bv_size])), (ba_days, .inl (cI, 100, .inl bf_days)), (ba_offices, .inl (cI, 100, .inl bf_offices)), (ba_delays, .inl (cI, 100, .inl bf_delays))] sz (fun u : Int32 × (Nat → Int32) × (Nat → Int32) × (Nat → Int32) => [(h, .inr (10, [.ref a_bells, .ref a_feasts, .ref a_tape, .ref a_reader, .ref a_rules, .ref a_monks, .ref a_duties, .ref a_gifts, .ref a_figures, .int v_today, .int v_stock, .int v_guestHeads, .int v_guestRanks, .int v_faultPlace, .int v_candlesInAll])), (a_bells, .inr (0, [.ref ba_days, .ref ba_offices, .ref ba_delays, .int u.1])), (ba_days, .inl (cI, 100, .inl u.2.1)), (ba_offices, .inl (cI, 100, .inl u.2.2.1)), (ba_delays, .inl (cI, 100, .inl u.2.2.2))])) (va_A [(h, .inr (10, [.ref a_bells, .ref a_feasts, .ref a_tape, .ref a_reader, .ref a_rules, .ref a_monks, .ref a_duties, .ref a_gifts, .ref a_figures, .int v_today, .int v_stock, .int v_guestHeads, .int v_guestRanks, .int v_faultPlace, .int v_candlesInAll])), (a_bells, .inr (0, [.ref ba_days, .ref ba_offices, .ref ba_delays, .int bv_size])), (ba_days, .inl (cI, 100, .inl bf_days)), (ba_offices, .inl (cI, 100, .inl bf_offices)), (ba_delays, .inl (cI, 100, .inl bf_delays))] sz)) 0 0 (va_A [(h, .inr (10, [.ref a_bells, .ref a_feasts, .ref a_tape, .ref a_reader, .ref a_rules, .ref a_monks, .ref a_duties, .ref a_gifts, .ref a_figures, .int v_today, .int v_stock, .int v_guestHeads, .int v_guestRanks, .int v_faultPlace, .int v_candlesInAll])), (a_bells, .inr (0, [.ref ba_days, .ref ba_offices, .ref ba_delays, .int bv_size])), (ba_days, .inl (cI, 100, .inl bf_days)), (ba_offices, .inl (cI, 100, .inl bf_offices)), (ba_delays, .inl (cI, 100, .inl bf_delays))] sz) := by
  refine rw_ret (cc := cX11_late) (maxL := 5) (ty := .int) (own := RX11) (by decide) rfl rfl (Nat.le_of_ble_eq_true rfl) ?_
  intro p e s m args below meth c Q A S hin hret hP hK hD hA hS ls hl
  obtain ⟨hx, hb, hml, hown, hts⟩ := id S
  have hl : lv_has ls 5 [(0, .ref h), (1, .int d), (2, .int k), (3, .int mm)] := hl
  have kkm1 : (-1 : Int32).toInt = -1 := by decide
  have kk0 : (0 : Int32).toInt = 0 := by decide
  have kk1 : (1 : Int32).toInt = 1 := by decide
  have kk120 : (120 : Int32).toInt = 120 := by decide
  have lk0 := hts (.fieldLink RX11 82 "AbbeyHours" "today" "I") (mc_X11_late_r1 _ (List.mem_of_getElem? (i := 0) rfl))
  have lk1 := hts (.fieldLink RX11 10 "AbbeyHours" "bells" "LAbbeyHours$Bells;") (mc_X11_late_r1 _ (List.mem_of_getElem? (i := 1) rfl))
  refine lv_iload_n hx hb dX11_late_0 rfl (lv_at hl 1 rfl) ?_
  have hPc := hP.sub (ws' := []) [] rfl
  refine roS (As := [.int d]) (rest := []) S (w_isDay  ) (va_cwS 1 hts gX11_late_X11_isDay rfl rfl rfl hd_X11_isDay ⟨Nat.le_of_ble_eq_true rfl, Nat.le_of_ble_eq_true rfl⟩) hK hPc rfl hl.1 rfl (Nat.le_of_ble_eq_true rfl) dX11_late_1 ⟨Nat.le_of_ble_eq_true rfl, Nat.le_of_ble_eq_true rfl⟩ (fun r_1 hw_1 => ?_)
  have hw_1 : (r_1.toInt = 1 ∧ 0 ≤ d.toInt ∧ d.toInt ≤ 1094) ∨ (r_1.toInt = 0 ∧ (d.toInt < 0 ∨ 1094 < d.toInt)) := hw_1
  refine lv_if_eq (tgt := 36) hx hb dX11_late_4 (by decide) (fun c_2 => ?_) (fun c_2 => ?_)
  · have tc_2 := t_eq c_2
    refine lv_iconst (v := 0) hx hb dX11_late_36 (by decide) ?_
    refine lv_istore (lv' := [(4, .int 0), (0, .ref h), (1, .int d), (2, .int k), (3, .int mm)]) hx hb dX11_late_37 hl (by decide) rfl (fun ls hl => ?_)
    refine lv_iload hx hb dX11_late_39 (lv_at hl 0 rfl) ?_
    refine lv_if_eq (tgt := 57) hx hb dX11_late_41 (by decide) (fun c_3 => ?_) (fun c_3 => ?_)
    · have tc_3 := t_eq c_3
      refine lv_iconst (v := (-1)) hx hb dX11_late_57 (by decide) ?_
      exact hret (-1) (bv_size, bf_days, bf_offices, bf_delays) _ _ _ _ (show 0 ≤ bv_size.toInt ∧ bv_size.toInt ≤ 100 from by first | exact hw_dl.1 | omega) rfl (hP.sub [0, 1, 2, 3, 4] rfl) (hD.sub [0, 1, 2, 3, 4] (by decide +kernel) rfl) hS dX11_late_58
    · exact absurd c_3 (by decide)
  · have tc_2 := t_neq c_2
    refine lv_iload_n hx hb dX11_late_7 rfl (lv_at hl 1 rfl) ?_
    refine lv_aload_n hx hb dX11_late_8 rfl (lv_at hl 0 rfl) ?_
    refine va_get (D := D) (ci := 10) (v := .int v_today) (C := RX11) (T := TX11) (N := 15) hx hb hts in_V_late_X11 hown hK.1 hP 0 rfl rfl 9 (by decide) lk0 (fun _ h9 => h9) rfl dX11_late_9 ?_
    refine lv_icmp_lt (tgt := 36) hx hb dX11_late_12 (by decide) (fun c_4 => ?_) (fun c_4 => ?_)
    · have tc_4 := t_lt c_4
      refine lv_iconst (v := 0) hx hb dX11_late_36 (by decide) ?_
      refine lv_istore (lv' := [(4, .int 0), (0, .ref h), (1, .int d), (2, .int k), (3, .int mm)]) hx hb dX11_late_37 hl (by decide) rfl (fun ls hl => ?_)
      refine lv_iload hx hb dX11_late_39 (lv_at hl 0 rfl) ?_
      refine lv_if_eq (tgt := 57) hx hb dX11_late_41 (by decide) (fun c_5 => ?_) (fun c_5 => ?_)
      · have tc_5 := t_eq c_5
        refine lv_iconst (v := (-1)) hx hb dX11_late_57 (by decide) ?_
        exact hret (-1) (bv_size, bf_days, bf_offices, bf_delays) _ _ _ _ (show 0 ≤ bv_size.toInt ∧ bv_size.toInt ≤ 100 from by first | exact hw_dl.1 | omega) rfl (hP.sub [0, 1, 2, 3, 4] rfl) (hD.sub [0, 1, 2, 3, 4] (by decide +kernel) rfl) hS dX11_late_58
      · exact absurd c_5 (by decide)
    · have tc_4 := t_nlt c_4
      refine lv_iload_n hx hb dX11_late_15 rfl (lv_at hl 2 rfl) ?_
      have hPc := hP.sub (ws' := []) [] rfl
      refine roS (As := [.int k]) (rest := []) S (w_isOffice  ) (va_cwS 1 hts gX11_late_X11_isOffice rfl rfl rfl hd_X11_isOffice ⟨Nat.le_of_ble_eq_true rfl, Nat.le_of_ble_eq_true rfl⟩) hK hPc rfl hl.1 rfl (Nat.le_of_ble_eq_true rfl) dX11_late_16 ⟨Nat.le_of_ble_eq_true rfl, Nat.le_of_ble_eq_true rfl⟩ (fun r_6 hw_6 => ?_)
      have hw_6 : (r_6.toInt = 1 ∧ 0 ≤ k.toInt ∧ k.toInt ≤ 7) ∨ (r_6.toInt = 0 ∧ (k.toInt < 0 ∨ 7 < k.toInt)) := hw_6
      refine lv_if_eq (tgt := 36) hx hb dX11_late_19 (by decide) (fun c_7 => ?_) (fun c_7 => ?_)
      · have tc_7 := t_eq c_7
        refine lv_iconst (v := 0) hx hb dX11_late_36 (by decide) ?_
        refine lv_istore (lv' := [(4, .int 0), (0, .ref h), (1, .int d), (2, .int k), (3, .int mm)]) hx hb dX11_late_37 hl (by decide) rfl (fun ls hl => ?_)
        refine lv_iload hx hb dX11_late_39 (lv_at hl 0 rfl) ?_
        refine lv_if_eq (tgt := 57) hx hb dX11_late_41 (by decide) (fun c_8 => ?_) (fun c_8 => ?_)
        · have tc_8 := t_eq c_8
          refine lv_iconst (v := (-1)) hx hb dX11_late_57 (by decide) ?_
          exact hret (-1) (bv_size, bf_days, bf_offices, bf_delays) _ _ _ _ (show 0 ≤ bv_size.toInt ∧ bv_size.toInt ≤ 100 from by first | exact hw_dl.1 | omega) rfl (hP.sub [0, 1, 2, 3, 4] rfl) (hD.sub [0, 1, 2, 3, 4] (by decide +kernel) rfl) hS dX11_late_58
        · exact absurd c_8 (by decide)
      · have tc_7 := t_neq c_7
        refine lv_iload_n hx hb dX11_late_22 rfl (lv_at hl 3 rfl) ?_
        refine lv_iconst (v := 1) hx hb dX11_late_23 (by decide) ?_
        refine lv_bipush (v := 120) hx hb dX11_late_24 (by decide) ?_
        have hPc := hP.sub (ws' := []) [] rfl
        refine roS (As := [.int mm, .int 1, .int 120]) (rest := []) S (w_within  ) (va_cwS 3 hts gX11_late_X11_within rfl rfl rfl hd_X11_within ⟨Nat.le_of_ble_eq_true rfl, Nat.le_of_ble_eq_true rfl⟩) hK hPc rfl hl.1 rfl (Nat.le_of_ble_eq_true rfl) dX11_late_26 ⟨Nat.le_of_ble_eq_true rfl, Nat.le_of_ble_eq_true rfl⟩ (fun r_9 hw_9 => ?_)
        have hw_9 : (r_9.toInt = 1 ∧ (1 : Int32).toInt ≤ mm.toInt ∧ mm.toInt ≤ (120 : Int32).toInt) ∨ (r_9.toInt = 0 ∧ (mm.toInt < (1 : Int32).toInt ∨ (120 : Int32).toInt < mm.toInt)) := hw_9
        refine lv_if_eq (tgt := 36) hx hb dX11_late_29 (by decide) (fun c_10 => ?_) (fun c_10 => ?_)
        · have tc_10 := t_eq c_10
          refine lv_iconst (v := 0) hx hb dX11_late_36 (by decide) ?_
          refine lv_istore (lv' := [(4, .int 0), (0, .ref h), (1, .int d), (2, .int k), (3, .int mm)]) hx hb dX11_late_37 hl (by decide) rfl (fun ls hl => ?_)
          refine lv_iload hx hb dX11_late_39 (lv_at hl 0 rfl) ?_
          refine lv_if_eq (tgt := 57) hx hb dX11_late_41 (by decide) (fun c_11 => ?_) (fun c_11 => ?_)
          · have tc_11 := t_eq c_11
            refine lv_iconst (v := (-1)) hx hb dX11_late_57 (by decide) ?_
            exact hret (-1) (bv_size, bf_days, bf_offices, bf_delays) _ _ _ _ (show 0 ≤ bv_size.toInt ∧ bv_size.toInt ≤ 100 from by first | exact hw_dl.1 | omega) rfl (hP.sub [0, 1, 2, 3, 4] rfl) (hD.sub [0, 1, 2, 3, 4] (by decide +kernel) rfl) hS dX11_late_58
          · exact absurd c_11 (by decide)
        · have tc_10 := t_neq c_10
          refine lv_iconst (v := 1) hx hb dX11_late_32 (by decide) ?_
          refine lv_goto (tgt := 37) hx hb dX11_late_33 (by decide) ?_
          refine lv_istore (lv' := [(4, .int 1), (0, .ref h), (1, .int d), (2, .int k), (3, .int mm)]) hx hb dX11_late_37 hl (by decide) rfl (fun ls hl => ?_)
          refine lv_iload hx hb dX11_late_39 (lv_at hl 0 rfl) ?_
          refine lv_if_eq (tgt := 57) hx hb dX11_late_41 (by decide) (fun c_12 => ?_) (fun c_12 => ?_)
          · exact absurd c_12 (by decide)
          · have tc_12 := t_neq c_12
            refine lv_aload_n hx hb dX11_late_44 rfl (lv_at hl 1 rfl) ?_
            refine va_get (D := D) (ci := 10) (v := .ref a_bells) (C := RX11) (T := TX11) (N := 15) hx hb hts in_V_late_X11 hown hK.1 hP 0 rfl rfl 0 (by decide) lk1 (fun _ h9 => h9) rfl dX11_late_45 ?_
            refine lv_iload_n hx hb dX11_late_48 rfl (lv_at hl 2 rfl) ?_
            refine lv_iload_n hx hb dX11_late_49 rfl (lv_at hl 3 rfl) ?_
            refine lv_iload_n hx hb dX11_late_50 rfl (lv_at hl 4 rfl) ?_
            have hPc := hP.sub (ws' := [(a_bells, .inr (0, [.ref ba_days, .ref ba_offices, .ref ba_delays, .int bv_size])), (ba_days, .inl (cI, 100, .inl bf_days)), (ba_offices, .inl (cI, 100, .inl bf_offices)), (ba_delays, .inl (cI, 100, .inl bf_delays))]) [1, 2, 3, 4] rfl
            refine rwV (As := [.int d, .int k, .int mm]) (rest := []) (wc := [(a_bells, .inr (0, [.ref ba_days, .ref ba_offices, .ref ba_delays, .int bv_size])), (ba_days, .inl (cI, 100, .inl bf_days)), (ba_offices, .inl (cI, 100, .inl bf_offices)), (ba_delays, .inl (cI, 100, .inl bf_delays))]) (wr := [(h, .inr (10, [.ref a_bells, .ref a_feasts, .ref a_tape, .ref a_reader, .ref a_rules, .ref a_monks, .ref a_duties, .ref a_gifts, .ref a_figures, .int v_today, .int v_stock, .int v_guestHeads, .int v_guestRanks, .int v_faultPlace, .int v_candlesInAll]))]) S (b_delay  (by omega) (by omega)) (cwV 3 hts gX11_late_X0_delay rfl rfl rfl ⟨rfl, hd_X0_delay⟩ ⟨Nat.le_of_ble_eq_true rfl, Nat.le_of_ble_eq_true rfl⟩) hK hP hD hS hA [1, 2, 3, 4] [0] rfl rfl (by decide +kernel) (by decide +kernel) (by decide +kernel) (va_recv hK.1 hPc (ci := 0) (q0 := 0) rfl rfl) rfl hl.1 rfl (Nat.le_of_ble_eq_true rfl) dX11_late_51 ⟨Nat.le_of_ble_eq_true rfl, Nat.le_of_ble_eq_true rfl⟩ (fun r_dl u_dl H locs hw_dl hP hD hS => ?_)
            obtain ⟨n1_dl, fd1_dl, fo1_dl, fy1_dl⟩ := u_dl
            have hw_dl : (0 ≤ n1_dl.toInt ∧ n1_dl.toInt ≤ 100) ∧ (bv_size.toInt = 0 → (r_dl = sunB (rem365 d) k + mm ∧ ((k.toInt = 7 ∧ (sunB (rem365 d) k + mm).toInt < 1410) ∨ (k.toInt ≠ 7 ∧ (sunB (rem365 d) k + mm).toInt < (sunB (rem365 d) (k + 1)).toInt)) ∧ (k.toInt = 0 ∨ (sunB (rem365 d) (k - 1)).toInt < (sunB (rem365 d) k + mm).toInt)) ∨ (r_dl.toInt = -1 ∧ ¬ (((k.toInt = 7 ∧ (sunB (rem365 d) k + mm).toInt < 1410) ∨ (k.toInt ≠ 7 ∧ (sunB (rem365 d) k + mm).toInt < (sunB (rem365 d) (k + 1)).toInt)) ∧ (k.toInt = 0 ∨ (sunB (rem365 d) (k - 1)).toInt < (sunB (rem365 d) k + mm).toInt)))) := hw_dl
            have hP : va_P D vwCl [(h, .inr (10, [.ref a_bells, .ref a_feasts, .ref a_tape, .ref a_reader, .ref a_rules, .ref a_monks, .ref a_duties, .ref a_gifts, .ref a_figures, .int v_today, .int v_stock, .int v_guestHeads, .int v_guestRanks, .int v_faultPlace, .int v_candlesInAll])), (a_bells, .inr (0, [.ref ba_days, .ref ba_offices, .ref ba_delays, .int n1_dl])), (ba_days, .inl (cI, 100, .inl fd1_dl)), (ba_offices, .inl (cI, 100, .inl fo1_dl)), (ba_delays, .inl (cI, 100, .inl fy1_dl))] H := hP
            have hD := asD hP hD
            refine lv_goto (tgt := 58) hx hb dX11_late_54 (by decide) ?_
            exact hret r_dl (n1_dl, fd1_dl, fo1_dl, fy1_dl) _ _ _ _ (show 0 ≤ n1_dl.toInt ∧ n1_dl.toInt ≤ 100 from by first | exact hw_dl.1 | omega) rfl (hP.sub [0, 1, 2, 3, 4] rfl) (hD.sub [0, 1, 2, 3, 4] (by decide +kernel) rfl) hS dX11_late_58

theorem in_V_feed_X11 : ∀ w ∈ wsX110, w ∈ wsX11_feed := tl_X11_feed_X11
set_option maxHeartbeats 8000000 in
set_option maxRecDepth 100000 in
theorem V_feed {l : Launch} {D : va_G} {cI cZ cB : ClassId} {sz : Nat} {h a_bells a_feasts a_tape a_reader a_rules a_monks a_duties a_gifts a_figures ta_bytes : Nat} {v_today v_stock v_guestHeads v_guestRanks v_faultPlace v_candlesInAll tv_length : Int32} {tf_bytes : Nat → Int32} {xa xb xc xd xe : Int32} (htv_length0 : 0 ≤ tv_length.toInt) (htv_length1 : tv_length.toInt ≤ 600) : Met l yX11_feed wsX11_feed ({ frames := 1, cells := 0, slots := 0, locals := 22 }) (RW D cI cZ cB [.ref h, .int xa, .int xb, .int xc, .int xd, .int xe] sz [(h, .inr (10, [.ref a_bells, .ref a_feasts, .ref a_tape, .ref a_reader, .ref a_rules, .ref a_monks, .ref a_duties, .ref a_gifts, .ref a_figures, .int v_today, .int v_stock, .int v_guestHeads, .int v_guestRanks, .int v_faultPlace, .int v_candlesInAll])), (a_tape, .inr (8, [.ref ta_bytes, .int tv_length])), (ta_bytes, .inl (cB, 600, .inl tf_bytes))]) (va_Qi (fun (r : Int32) (u : Int32 × (Nat → Int32)) => (tv_length.toInt ≤ 580 ∧ r.toInt = tv_length.toInt + 20 ∧ u.1.toInt = tv_length.toInt + 20) ∨ (580 < tv_length.toInt ∧ r.toInt = -1 ∧ u.1 = tv_length)) (BW D [(h, .inr (10, [.ref a_bells, .ref a_feasts, .ref a_tape, .ref a_reader, .ref a_rules, .ref a_monks, .ref a_duties, .ref a_gifts, .ref a_figures, .int v_today, .int v_stock, .int v_guestHeads, .int v_guestRanks, .int v_faultPlace, .int v_candlesInAll])), (a_tape, .inr (8, [.ref ta_bytes, .int tv_length])), (ta_bytes, .inl (cB, 600, .inl tf_bytes))] sz (fun u : Int32 × (Nat → Int32) => [(h, .inr (10, [.ref a_bells, .ref a_feasts, .ref a_tape, .ref a_reader, .ref a_rules, .ref a_monks, .ref a_duties, .ref a_gifts, .ref a_figures, .int v_today, .int v_stock, .int v_guestHeads, .int v_guestRanks, .int v_faultPlace, .int v_candlesInAll])), (a_tape, .inr (8, [.ref ta_bytes, .int u.1])), (ta_bytes, .inl (cB, 600, .inl u.2))])) (va_A [(h, .inr (10, [.ref a_bells, .ref a_feasts, .ref a_tape, .ref a_reader, .ref a_rules, .ref a_monks, .ref a_duties, .ref a_gifts, .ref a_figures, .int v_today, .int v_stock, .int v_guestHeads, .int v_guestRanks, .int v_faultPlace, .int v_candlesInAll])), (a_tape, .inr (8, [.ref ta_bytes, .int tv_length])), (ta_bytes, .inl (cB, 600, .inl tf_bytes))] sz)) 0 0 (va_A [(h, .inr (10, [.ref a_bells, .ref a_feasts, .ref a_tape, .ref a_reader, .ref a_rules, .ref a_monks, .ref a_duties, .ref a_gifts, .ref a_figures, .int v_today, .int v_stock, .int v_guestHeads, .int v_guestRanks, .int v_faultPlace, .int v_candlesInAll])), (a_tape, .inr (8, [.ref ta_bytes, .int tv_length])), (ta_bytes, .inl (cB, 600, .inl tf_bytes))] sz) := by
  refine rw_ret (cc := cX11_feed) (maxL := 6) (ty := .int) (own := RX11) (by decide) rfl rfl (Nat.le_of_ble_eq_true rfl) ?_
  intro p e s m args below meth c Q A S hin hret hP hK hD hA hS ls hl
  obtain ⟨hx, hb, hml, hown, hts⟩ := id S
  have hl : lv_has ls 6 [(0, .ref h), (1, .int xa), (2, .int xb), (3, .int xc), (4, .int xd), (5, .int xe)] := hl
  have kkm1 : (-1 : Int32).toInt = -1 := by decide
  have kk0 : (0 : Int32).toInt = 0 := by decide
  have lk0 := hts (.fieldLink RX11 26 "AbbeyHours" "tape" "LAbbeyHours$Tape;") (List.mem_cons_of_mem _ (List.mem_append_left _ (List.mem_append_left _ (List.mem_of_getElem? (i := 0) rfl))))
  refine lv_aload_n hx hb dX11_feed_0 rfl (lv_at hl 0 rfl) ?_
  refine va_get (D := D) (ci := 10) (v := .ref a_tape) (C := RX11) (T := TX11) (N := 15) hx hb hts in_V_feed_X11 hown hK.1 hP 0 rfl rfl 2 (by decide) lk0 (fun _ h9 => h9) rfl dX11_feed_1 ?_
  have hPc := hP.sub (ws' := [(a_tape, .inr (8, [.ref ta_bytes, .int tv_length]))]) [1] rfl
  refine roV (As := []) (rest := []) S (t_room  (by omega) (by omega)) (cwV 0 hts gX11_feed_X9_hasRoomForFeed rfl rfl rfl ⟨rfl, hd_X9_hasRoomForFeed⟩ ⟨Nat.le_of_ble_eq_true rfl, Nat.le_of_ble_eq_true rfl⟩) hK hPc (va_recv hK.1 hPc (ci := 8) (q0 := 0) rfl rfl) rfl hl.1 rfl (Nat.le_of_ble_eq_true rfl) dX11_feed_4 ⟨Nat.le_of_ble_eq_true rfl, Nat.le_of_ble_eq_true rfl⟩ (fun r_1 hw_1 => ?_)
  have hw_1 : (r_1.toInt = 1 ∧ tv_length.toInt ≤ 580) ∨ (r_1.toInt = 0 ∧ 580 < tv_length.toInt) := hw_1
  refine lv_if_ne (tgt := 12) hx hb dX11_feed_7 (by decide) (fun c_2 => ?_) (fun c_2 => ?_)
  · have tc_2 := t_neq c_2
    refine lv_aload_n hx hb dX11_feed_12 rfl (lv_at hl 0 rfl) ?_
    refine va_get (D := D) (ci := 10) (v := .ref a_tape) (C := RX11) (T := TX11) (N := 15) hx hb hts in_V_feed_X11 hown hK.1 hP 0 rfl rfl 2 (by decide) lk0 (fun _ h9 => h9) rfl dX11_feed_13 ?_
    refine lv_iload_n hx hb dX11_feed_16 rfl (lv_at hl 1 rfl) ?_
    have hPc := hP.sub (ws' := [(a_tape, .inr (8, [.ref ta_bytes, .int tv_length])), (ta_bytes, .inl (cB, 600, .inl tf_bytes))]) [1, 2] rfl
    refine rwVv (As := [.int xa]) (rest := []) (wc := [(a_tape, .inr (8, [.ref ta_bytes, .int tv_length])), (ta_bytes, .inl (cB, 600, .inl tf_bytes))]) (wr := [(h, .inr (10, [.ref a_bells, .ref a_feasts, .ref a_tape, .ref a_reader, .ref a_rules, .ref a_monks, .ref a_duties, .ref a_gifts, .ref a_figures, .int v_today, .int v_stock, .int v_guestHeads, .int v_guestRanks, .int v_faultPlace, .int v_candlesInAll]))]) S (t_put  (by omega) (by omega)) (cwV 1 hts gX11_feed_X9_put rfl rfl rfl ⟨rfl, hd_X9_put⟩ ⟨Nat.le_of_ble_eq_true rfl, Nat.le_of_ble_eq_true rfl⟩) hK hP hD hS hA [1, 2] [0] rfl rfl (by decide +kernel) (by decide +kernel) (by decide +kernel) (va_recv hK.1 hPc (ci := 8) (q0 := 0) rfl rfl) rfl hl.1 rfl (Nat.le_of_ble_eq_true rfl) dX11_feed_17 ⟨Nat.le_of_ble_eq_true rfl, Nat.le_of_ble_eq_true rfl⟩ (fun u_3 H locs hw_3 hP hD hS => ?_)
    obtain ⟨v_length1_3, f_bytes1_3⟩ := u_3
    have hw_3 : (tv_length.toInt ≤ 596 → v_length1_3.toInt = tv_length.toInt + 4) ∧ 0 ≤ v_length1_3.toInt ∧ v_length1_3.toInt ≤ 600 := hw_3
    have hP : va_P D vwCl [(h, .inr (10, [.ref a_bells, .ref a_feasts, .ref a_tape, .ref a_reader, .ref a_rules, .ref a_monks, .ref a_duties, .ref a_gifts, .ref a_figures, .int v_today, .int v_stock, .int v_guestHeads, .int v_guestRanks, .int v_faultPlace, .int v_candlesInAll])), (a_tape, .inr (8, [.ref ta_bytes, .int v_length1_3])), (ta_bytes, .inl (cB, 600, .inl f_bytes1_3))] H := hP
    have hD := asD hP hD
    refine lv_aload_n hx hb dX11_feed_20 rfl (lv_at hl 0 rfl) ?_
    refine va_get (D := D) (ci := 10) (v := .ref a_tape) (C := RX11) (T := TX11) (N := 15) hx hb hts in_V_feed_X11 hown hK.1 hP 0 rfl rfl 2 (by decide) lk0 (fun _ h9 => h9) rfl dX11_feed_21 ?_
    refine lv_iload_n hx hb dX11_feed_24 rfl (lv_at hl 2 rfl) ?_
    have hPc := hP.sub (ws' := [(a_tape, .inr (8, [.ref ta_bytes, .int v_length1_3])), (ta_bytes, .inl (cB, 600, .inl f_bytes1_3))]) [1, 2] rfl
    refine rwVv (As := [.int xb]) (rest := []) (wc := [(a_tape, .inr (8, [.ref ta_bytes, .int v_length1_3])), (ta_bytes, .inl (cB, 600, .inl f_bytes1_3))]) (wr := [(h, .inr (10, [.ref a_bells, .ref a_feasts, .ref a_tape, .ref a_reader, .ref a_rules, .ref a_monks, .ref a_duties, .ref a_gifts, .ref a_figures, .int v_today, .int v_stock, .int v_guestHeads, .int v_guestRanks, .int v_faultPlace, .int v_candlesInAll]))]) S (t_put  (by omega) (by omega)) (cwV 1 hts gX11_feed_X9_put rfl rfl rfl ⟨rfl, hd_X9_put⟩ ⟨Nat.le_of_ble_eq_true rfl, Nat.le_of_ble_eq_true rfl⟩) hK hP hD hS hA [1, 2] [0] rfl rfl (by decide +kernel) (by decide +kernel) (by decide +kernel) (va_recv hK.1 hPc (ci := 8) (q0 := 0) rfl rfl) rfl hl.1 rfl (Nat.le_of_ble_eq_true rfl) dX11_feed_25 ⟨Nat.le_of_ble_eq_true rfl, Nat.le_of_ble_eq_true rfl⟩ (fun u_4 H locs hw_4 hP hD hS => ?_)
    obtain ⟨v_length1_4, f_bytes1_4⟩ := u_4
    have hw_4 : (v_length1_3.toInt ≤ 596 → v_length1_4.toInt = v_length1_3.toInt + 4) ∧ 0 ≤ v_length1_4.toInt ∧ v_length1_4.toInt ≤ 600 := hw_4
    have hP : va_P D vwCl [(h, .inr (10, [.ref a_bells, .ref a_feasts, .ref a_tape, .ref a_reader, .ref a_rules, .ref a_monks, .ref a_duties, .ref a_gifts, .ref a_figures, .int v_today, .int v_stock, .int v_guestHeads, .int v_guestRanks, .int v_faultPlace, .int v_candlesInAll])), (a_tape, .inr (8, [.ref ta_bytes, .int v_length1_4])), (ta_bytes, .inl (cB, 600, .inl f_bytes1_4))] H := hP
    have hD := asD hP hD
    refine lv_aload_n hx hb dX11_feed_28 rfl (lv_at hl 0 rfl) ?_
    refine va_get (D := D) (ci := 10) (v := .ref a_tape) (C := RX11) (T := TX11) (N := 15) hx hb hts in_V_feed_X11 hown hK.1 hP 0 rfl rfl 2 (by decide) lk0 (fun _ h9 => h9) rfl dX11_feed_29 ?_
    refine lv_iload_n hx hb dX11_feed_32 rfl (lv_at hl 3 rfl) ?_
    have hPc := hP.sub (ws' := [(a_tape, .inr (8, [.ref ta_bytes, .int v_length1_4])), (ta_bytes, .inl (cB, 600, .inl f_bytes1_4))]) [1, 2] rfl
    refine rwVv (As := [.int xc]) (rest := []) (wc := [(a_tape, .inr (8, [.ref ta_bytes, .int v_length1_4])), (ta_bytes, .inl (cB, 600, .inl f_bytes1_4))]) (wr := [(h, .inr (10, [.ref a_bells, .ref a_feasts, .ref a_tape, .ref a_reader, .ref a_rules, .ref a_monks, .ref a_duties, .ref a_gifts, .ref a_figures, .int v_today, .int v_stock, .int v_guestHeads, .int v_guestRanks, .int v_faultPlace, .int v_candlesInAll]))]) S (t_put  (by omega) (by omega)) (cwV 1 hts gX11_feed_X9_put rfl rfl rfl ⟨rfl, hd_X9_put⟩ ⟨Nat.le_of_ble_eq_true rfl, Nat.le_of_ble_eq_true rfl⟩) hK hP hD hS hA [1, 2] [0] rfl rfl (by decide +kernel) (by decide +kernel) (by decide +kernel) (va_recv hK.1 hPc (ci := 8) (q0 := 0) rfl rfl) rfl hl.1 rfl (Nat.le_of_ble_eq_true rfl) dX11_feed_33 ⟨Nat.le_of_ble_eq_true rfl, Nat.le_of_ble_eq_true rfl⟩ (fun u_5 H locs hw_5 hP hD hS => ?_)
    obtain ⟨v_length1_5, f_bytes1_5⟩ := u_5
    have hw_5 : (v_length1_4.toInt ≤ 596 → v_length1_5.toInt = v_length1_4.toInt + 4) ∧ 0 ≤ v_length1_5.toInt ∧ v_length1_5.toInt ≤ 600 := hw_5
    have hP : va_P D vwCl [(h, .inr (10, [.ref a_bells, .ref a_feasts, .ref a_tape, .ref a_reader, .ref a_rules, .ref a_monks, .ref a_duties, .ref a_gifts, .ref a_figures, .int v_today, .int v_stock, .int v_guestHeads, .int v_guestRanks, .int v_faultPlace, .int v_candlesInAll])), (a_tape, .inr (8, [.ref ta_bytes, .int v_length1_5])), (ta_bytes, .inl (cB, 600, .inl f_bytes1_5))] H := hP
    have hD := asD hP hD
    refine lv_aload_n hx hb dX11_feed_36 rfl (lv_at hl 0 rfl) ?_
    refine va_get (D := D) (ci := 10) (v := .ref a_tape) (C := RX11) (T := TX11) (N := 15) hx hb hts in_V_feed_X11 hown hK.1 hP 0 rfl rfl 2 (by decide) lk0 (fun _ h9 => h9) rfl dX11_feed_37 ?_
    refine lv_iload hx hb dX11_feed_40 (lv_at hl 4 rfl) ?_
    have hPc := hP.sub (ws' := [(a_tape, .inr (8, [.ref ta_bytes, .int v_length1_5])), (ta_bytes, .inl (cB, 600, .inl f_bytes1_5))]) [1, 2] rfl
    refine rwVv (As := [.int xd]) (rest := []) (wc := [(a_tape, .inr (8, [.ref ta_bytes, .int v_length1_5])), (ta_bytes, .inl (cB, 600, .inl f_bytes1_5))]) (wr := [(h, .inr (10, [.ref a_bells, .ref a_feasts, .ref a_tape, .ref a_reader, .ref a_rules, .ref a_monks, .ref a_duties, .ref a_gifts, .ref a_figures, .int v_today, .int v_stock, .int v_guestHeads, .int v_guestRanks, .int v_faultPlace, .int v_candlesInAll]))]) S (t_put  (by omega) (by omega)) (cwV 1 hts gX11_feed_X9_put rfl rfl rfl ⟨rfl, hd_X9_put⟩ ⟨Nat.le_of_ble_eq_true rfl, Nat.le_of_ble_eq_true rfl⟩) hK hP hD hS hA [1, 2] [0] rfl rfl (by decide +kernel) (by decide +kernel) (by decide +kernel) (va_recv hK.1 hPc (ci := 8) (q0 := 0) rfl rfl) rfl hl.1 rfl (Nat.le_of_ble_eq_true rfl) dX11_feed_42 ⟨Nat.le_of_ble_eq_true rfl, Nat.le_of_ble_eq_true rfl⟩ (fun u_6 H locs hw_6 hP hD hS => ?_)
    obtain ⟨v_length1_6, f_bytes1_6⟩ := u_6
    have hw_6 : (v_length1_5.toInt ≤ 596 → v_length1_6.toInt = v_length1_5.toInt + 4) ∧ 0 ≤ v_length1_6.toInt ∧ v_length1_6.toInt ≤ 600 := hw_6
    have hP : va_P D vwCl [(h, .inr (10, [.ref a_bells, .ref a_feasts, .ref a_tape, .ref a_reader, .ref a_rules, .ref a_monks, .ref a_duties, .ref a_gifts, .ref a_figures, .int v_today, .int v_stock, .int v_guestHeads, .int v_guestRanks, .int v_faultPlace, .int v_candlesInAll])), (a_tape, .inr (8, [.ref ta_bytes, .int v_length1_6])), (ta_bytes, .inl (cB, 600, .inl f_bytes1_6))] H := hP
    have hD := asD hP hD
    refine lv_aload_n hx hb dX11_feed_45 rfl (lv_at hl 0 rfl) ?_
    refine va_get (D := D) (ci := 10) (v := .ref a_tape) (C := RX11) (T := TX11) (N := 15) hx hb hts in_V_feed_X11 hown hK.1 hP 0 rfl rfl 2 (by decide) lk0 (fun _ h9 => h9) rfl dX11_feed_46 ?_
    refine lv_iload hx hb dX11_feed_49 (lv_at hl 5 rfl) ?_
    have hPc := hP.sub (ws' := [(a_tape, .inr (8, [.ref ta_bytes, .int v_length1_6])), (ta_bytes, .inl (cB, 600, .inl f_bytes1_6))]) [1, 2] rfl
    refine rwVv (As := [.int xe]) (rest := []) (wc := [(a_tape, .inr (8, [.ref ta_bytes, .int v_length1_6])), (ta_bytes, .inl (cB, 600, .inl f_bytes1_6))]) (wr := [(h, .inr (10, [.ref a_bells, .ref a_feasts, .ref a_tape, .ref a_reader, .ref a_rules, .ref a_monks, .ref a_duties, .ref a_gifts, .ref a_figures, .int v_today, .int v_stock, .int v_guestHeads, .int v_guestRanks, .int v_faultPlace, .int v_candlesInAll]))]) S (t_put  (by omega) (by omega)) (cwV 1 hts gX11_feed_X9_put rfl rfl rfl ⟨rfl, hd_X9_put⟩ ⟨Nat.le_of_ble_eq_true rfl, Nat.le_of_ble_eq_true rfl⟩) hK hP hD hS hA [1, 2] [0] rfl rfl (by decide +kernel) (by decide +kernel) (by decide +kernel) (va_recv hK.1 hPc (ci := 8) (q0 := 0) rfl rfl) rfl hl.1 rfl (Nat.le_of_ble_eq_true rfl) dX11_feed_51 ⟨Nat.le_of_ble_eq_true rfl, Nat.le_of_ble_eq_true rfl⟩ (fun u_7 H locs hw_7 hP hD hS => ?_)
    obtain ⟨v_length1_7, f_bytes1_7⟩ := u_7
    have hw_7 : (v_length1_6.toInt ≤ 596 → v_length1_7.toInt = v_length1_6.toInt + 4) ∧ 0 ≤ v_length1_7.toInt ∧ v_length1_7.toInt ≤ 600 := hw_7
    have hP : va_P D vwCl [(h, .inr (10, [.ref a_bells, .ref a_feasts, .ref a_tape, .ref a_reader, .ref a_rules, .ref a_monks, .ref a_duties, .ref a_gifts, .ref a_figures, .int v_today, .int v_stock, .int v_guestHeads, .int v_guestRanks, .int v_faultPlace, .int v_candlesInAll])), (a_tape, .inr (8, [.ref ta_bytes, .int v_length1_7])), (ta_bytes, .inl (cB, 600, .inl f_bytes1_7))] H := hP
    have hD := asD hP hD
    refine lv_aload_n hx hb dX11_feed_54 rfl (lv_at hl 0 rfl) ?_
    refine va_get (D := D) (ci := 10) (v := .ref a_tape) (C := RX11) (T := TX11) (N := 15) hx hb hts in_V_feed_X11 hown hK.1 hP 0 rfl rfl 2 (by decide) lk0 (fun _ h9 => h9) rfl dX11_feed_55 ?_
    have hPc := hP.sub (ws' := [(a_tape, .inr (8, [.ref ta_bytes, .int v_length1_7]))]) [1] rfl
    refine roV (As := []) (rest := []) S (t_length  ) (cwV 0 hts gX11_feed_X9_length rfl rfl rfl ⟨rfl, hd_X9_length⟩ ⟨Nat.le_of_ble_eq_true rfl, Nat.le_of_ble_eq_true rfl⟩) hK hPc (va_recv hK.1 hPc (ci := 8) (q0 := 0) rfl rfl) rfl hl.1 rfl (Nat.le_of_ble_eq_true rfl) dX11_feed_58 ⟨Nat.le_of_ble_eq_true rfl, Nat.le_of_ble_eq_true rfl⟩ (fun r_8 hw_8 => ?_)
    have hw_8 : r_8 = v_length1_7 := hw_8
    have hw_8 := t_eq hw_8
    exact hret r_8 (v_length1_7, f_bytes1_7) _ _ _ _ (show (tv_length.toInt ≤ 580 ∧ r_8.toInt = tv_length.toInt + 20 ∧ v_length1_7.toInt = tv_length.toInt + 20) ∨ (580 < tv_length.toInt ∧ r_8.toInt = -1 ∧ v_length1_7 = tv_length) from by first | exact Or.inl ⟨by omega, by omega, by omega⟩ | exact Or.inr ⟨by omega, by omega, rfl⟩) rfl (hP.sub [0, 1, 2] rfl) (hD.sub [0, 1, 2] (by decide +kernel) rfl) hS dX11_feed_61
  · have tc_2 := t_eq c_2
    refine lv_iconst (v := (-1)) hx hb dX11_feed_10 (by decide) ?_
    exact hret (-1) (tv_length, tf_bytes) _ _ _ _ (show (tv_length.toInt ≤ 580 ∧ (-1 : Int32).toInt = tv_length.toInt + 20 ∧ tv_length.toInt = tv_length.toInt + 20) ∨ (580 < tv_length.toInt ∧ (-1 : Int32).toInt = -1 ∧ tv_length = tv_length) from by first | exact Or.inl ⟨by omega, by omega, by omega⟩ | exact Or.inr ⟨by omega, by omega, rfl⟩) rfl (hP.sub [0, 1, 2] rfl) (hD.sub [0, 1, 2] (by decide +kernel) rfl) hS dX11_feed_11

theorem in_V_fault_X11 : ∀ w ∈ wsX110, w ∈ wsX11_fault := tl_X11_fault_X11
set_option maxHeartbeats 8000000 in
set_option maxRecDepth 100000 in
theorem V_fault {l : Launch} {D : va_G} {cI cZ cB : ClassId} {h a_bells a_feasts a_tape a_reader a_rules a_monks a_duties a_gifts a_figures : Nat} {v_today v_stock v_guestHeads v_guestRanks v_faultPlace v_candlesInAll : Int32}   : Met l yX11_fault wsX11_fault ({ frames := 0, cells := 0, slots := 0, locals := 0 }) (RO D cI cZ cB [.ref h] [(h, .inr (10, [.ref a_bells, .ref a_feasts, .ref a_tape, .ref a_reader, .ref a_rules, .ref a_monks, .ref a_duties, .ref a_gifts, .ref a_figures, .int v_today, .int v_stock, .int v_guestHeads, .int v_guestRanks, .int v_faultPlace, .int v_candlesInAll]))]) (vp_Si (fun r : Int32 => True)) 0 0 (fun _ => False) := by
  refine ro_ret (cc := cX11_fault) (maxL := 1) (ty := .int) (own := RX11) (by decide) rfl rfl (Nat.le_of_ble_eq_true rfl) ?_
  intro p e s m args below meth c Q S hret hP hK ls hl
  obtain ⟨hx, hb, hml, hown, hts⟩ := id S
  have hl : lv_has ls 1 [(0, .ref h)] := hl
  have kk0 : (0 : Int32).toInt = 0 := by decide
  have lk0 := hts (.fieldLink RX11 74 "AbbeyHours" "faultPlace" "I") (List.mem_cons_of_mem _ (List.mem_append_left _ (List.mem_of_getElem? (i := 0) rfl)))
  refine lv_aload_n hx hb dX11_fault_0 rfl (lv_at hl 0 rfl) ?_
  refine va_get (D := D) (ci := 10) (v := .int v_faultPlace) (C := RX11) (T := TX11) (N := 15) hx hb hts in_V_fault_X11 hown hK.1 hP 0 rfl rfl 13 (by decide) lk0 (fun _ h9 => h9) rfl dX11_fault_1 ?_
  exact hret v_faultPlace _ _ (show True from trivial) rfl dX11_fault_4

theorem in_V_fast_X11 : ∀ w ∈ wsX110, w ∈ wsX11_fast := tl_X11_fast_X11
set_option maxHeartbeats 8000000 in
set_option maxRecDepth 100000 in
theorem V_fast {l : Launch} {D : va_G} {cI cZ cB : ClassId} {h a_bells a_feasts a_tape a_reader a_rules a_monks a_duties a_gifts a_figures fa_falls fa_ranks fa_standsOn fa_heldOn fa_holder fa_standing ra_since ra_sizes ra_kinds ra_firsts ra_seconds : Nat} {v_today v_stock v_guestHeads v_guestRanks v_faultPlace v_candlesInAll fv_size rv_size : Int32} {ff_ranks ff_holder rf_since rf_sizes rf_kinds rf_firsts rf_seconds : Nat → Int32} {d w : Int32} (hfv_size0 : 0 ≤ fv_size.toInt) (hfv_size1 : fv_size.toInt ≤ 40) (hh : 0 < fv_size.toInt → InR ff_holder 365 (-1) fv_size.toInt) (hrv_size0 : 0 ≤ rv_size.toInt) (hrv_size1 : rv_size.toInt ≤ 10) (hs : InR rf_sizes rv_size.toInt 0 17) : Met l yX11_fast wsX11_fast ({ frames := 4, cells := 0, slots := 0, locals := 85 }) (RO D cI cZ cB [.ref h, .int d, .int w] [(h, .inr (10, [.ref a_bells, .ref a_feasts, .ref a_tape, .ref a_reader, .ref a_rules, .ref a_monks, .ref a_duties, .ref a_gifts, .ref a_figures, .int v_today, .int v_stock, .int v_guestHeads, .int v_guestRanks, .int v_faultPlace, .int v_candlesInAll])), (a_feasts, .inr (3, [.ref fa_falls, .ref fa_ranks, .ref fa_standsOn, .ref fa_heldOn, .ref fa_holder, .ref fa_standing, .int fv_size])), (fa_ranks, .inl (cI, 40, .inl ff_ranks)), (fa_holder, .inl (cI, 365, .inl ff_holder)), (a_rules, .inr (7, [.ref ra_since, .ref ra_sizes, .ref ra_kinds, .ref ra_firsts, .ref ra_seconds, .int rv_size])), (ra_since, .inl (cI, 10, .inl rf_since)), (ra_sizes, .inl (cI, 10, .inl rf_sizes)), (ra_kinds, .inl (cI, 160, .inl rf_kinds)), (ra_firsts, .inl (cI, 160, .inl rf_firsts)), (ra_seconds, .inl (cI, 160, .inl rf_seconds))]) (vp_Si (fun r : Int32 => True)) 0 0 (fun _ => False) := by
  refine ro_ret (cc := cX11_fast) (maxL := 4) (ty := .int) (own := RX11) (by decide) rfl rfl (Nat.le_of_ble_eq_true rfl) ?_
  intro p e s m args below meth c Q S hret hP hK ls hl
  obtain ⟨hx, hb, hml, hown, hts⟩ := id S
  have hl : lv_has ls 4 [(0, .ref h), (1, .int d), (2, .int w)] := hl
  have kkm1 : (-1 : Int32).toInt = -1 := by decide
  have kk0 : (0 : Int32).toInt = 0 := by decide
  have kk1 : (1 : Int32).toInt = 1 := by decide
  have kk365 : (365 : Int32).toInt = 365 := by decide
  have lk0 := hts (.fieldLink RX11 19 "AbbeyHours" "feasts" "LAbbeyHours$Feasts;") (mc_X11_fast_r1 _ (List.mem_of_getElem? (i := 0) rfl))
  have lk1 := hts (.fieldLink RX11 40 "AbbeyHours" "rules" "LAbbeyHours$Rules;") (mc_X11_fast_r1 _ (List.mem_of_getElem? (i := 1) rfl))
  refine lv_iload_n hx hb dX11_fast_0 rfl (lv_at hl 1 rfl) ?_
  have hPc := hP.sub (ws' := []) [] rfl
  refine roS (As := [.int d]) (rest := []) S (w_isDay  ) (va_cwS 1 hts gX11_fast_X11_isDay rfl rfl rfl hd_X11_isDay ⟨Nat.le_of_ble_eq_true rfl, Nat.le_of_ble_eq_true rfl⟩) hK hPc rfl hl.1 rfl (Nat.le_of_ble_eq_true rfl) dX11_fast_1 ⟨Nat.le_of_ble_eq_true rfl, Nat.le_of_ble_eq_true rfl⟩ (fun r_1 hw_1 => ?_)
  have hw_1 : (r_1.toInt = 1 ∧ 0 ≤ d.toInt ∧ d.toInt ≤ 1094) ∨ (r_1.toInt = 0 ∧ (d.toInt < 0 ∨ 1094 < d.toInt)) := hw_1
  refine lv_if_ne (tgt := 9) hx hb dX11_fast_4 (by decide) (fun c_2 => ?_) (fun c_2 => ?_)
  · have tc_2 := t_neq c_2
    refine lv_aload_n hx hb dX11_fast_9 rfl (lv_at hl 0 rfl) ?_
    refine va_get (D := D) (ci := 10) (v := .ref a_feasts) (C := RX11) (T := TX11) (N := 15) hx hb hts in_V_fast_X11 hown hK.1 hP 0 rfl rfl 1 (by decide) lk0 (fun _ h9 => h9) rfl dX11_fast_10 ?_
    refine lv_iload_n hx hb dX11_fast_13 rfl (lv_at hl 1 rfl) ?_
    refine lv_sipush (v := 365) hx hb dX11_fast_14 (by decide) ?_
    refine lv_irem hx hb dX11_fast_17 (by decide) ?_
    refine lv_topi (fun x_3 ex_3 => ?_)
    have hPc := hP.sub (ws' := [(a_feasts, .inr (3, [.ref fa_falls, .ref fa_ranks, .ref fa_standsOn, .ref fa_heldOn, .ref fa_holder, .ref fa_standing, .int fv_size])), (fa_ranks, .inl (cI, 40, .inl ff_ranks)), (fa_holder, .inl (cI, 365, .inl ff_holder))]) [1, 2, 3] rfl
    refine roV (As := [.int x_3]) (rest := []) S (f_rankHeld  (by omega) (by omega) (hh)) (cwV 1 hts gX11_fast_X3_rankHeld rfl rfl rfl ⟨rfl, hd_X3_rankHeld⟩ ⟨Nat.le_of_ble_eq_true rfl, Nat.le_of_ble_eq_true rfl⟩) hK hPc (va_recv hK.1 hPc (ci := 3) (q0 := 0) rfl rfl) rfl hl.1 rfl (Nat.le_of_ble_eq_true rfl) dX11_fast_18 ⟨Nat.le_of_ble_eq_true rfl, Nat.le_of_ble_eq_true rfl⟩ (fun r_4 hw_4 => ?_)
    have hw_4 : fv_size.toInt = 0 → r_4.toInt = 0 := hw_4
    refine lv_istore_n (lv' := [(3, .int r_4), (0, .ref h), (1, .int d), (2, .int w)]) hx hb dX11_fast_21 rfl hl (by decide) rfl (fun ls hl => ?_)
    refine lv_iload_n hx hb dX11_fast_22 rfl (lv_at hl 3 rfl) ?_
    have kqh_5 : (0 : Int32).toInt = 0 := by decide
    by_cases h_5 : w = 0
    · have th_5 := t_eq h_5
      refine lv_tableIn (off := 29) (tgt := 52) hx hb dX11_fast_23 (by rw [h_5]; decide) (by rw [h_5]; decide) (by rw [h_5]; rfl) (by decide) ?_
      refine lv_aload_n hx hb dX11_fast_52 rfl (lv_at hl 1 rfl) ?_
      refine va_get (D := D) (ci := 10) (v := .ref a_rules) (C := RX11) (T := TX11) (N := 15) hx hb hts in_V_fast_X11 hown hK.1 hP 0 rfl rfl 4 (by decide) lk1 (fun _ h9 => h9) rfl dX11_fast_53 ?_
      refine lv_iload_n hx hb dX11_fast_56 rfl (lv_at hl 2 rfl) ?_
      refine lv_iload_n hx hb dX11_fast_57 rfl (lv_at hl 0 rfl) ?_
      have hPc := hP.sub (ws' := [(a_rules, .inr (7, [.ref ra_since, .ref ra_sizes, .ref ra_kinds, .ref ra_firsts, .ref ra_seconds, .int rv_size])), (ra_since, .inl (cI, 10, .inl rf_since)), (ra_sizes, .inl (cI, 10, .inl rf_sizes)), (ra_kinds, .inl (cI, 160, .inl rf_kinds)), (ra_firsts, .inl (cI, 160, .inl rf_firsts)), (ra_seconds, .inl (cI, 160, .inl rf_seconds))]) [4, 5, 6, 7, 8, 9] rfl
      refine roV (As := [.int d, .int r_4]) (rest := []) S (r_isFast  (by omega) (by omega) (hs)) (cwV 2 hts gX11_fast_X7_isFast rfl rfl rfl ⟨rfl, hd_X7_isFast⟩ ⟨Nat.le_of_ble_eq_true rfl, Nat.le_of_ble_eq_true rfl⟩) hK hPc (va_recv hK.1 hPc (ci := 7) (q0 := 0) rfl rfl) rfl hl.1 rfl (Nat.le_of_ble_eq_true rfl) dX11_fast_58 ⟨Nat.le_of_ble_eq_true rfl, Nat.le_of_ble_eq_true rfl⟩ (fun r_6 hw_6 => ?_)
      have hw_6 : (rv_size.toInt = 0 → r_6.toInt = 0) ∧ (r_6.toInt = 0 ∨ r_6.toInt = 1) := hw_6
      refine lv_if_eq (tgt := 68) hx hb dX11_fast_61 (by decide) (fun c_7 => ?_) (fun c_7 => ?_)
      · have tc_7 := t_eq c_7
        refine lv_iconst (v := 0) hx hb dX11_fast_68 (by decide) ?_
        exact hret 0 _ _ (show True from trivial) rfl dX11_fast_69
      · have tc_7 := t_neq c_7
        refine lv_iconst (v := 1) hx hb dX11_fast_64 (by decide) ?_
        refine lv_goto (tgt := 69) hx hb dX11_fast_65 (by decide) ?_
        exact hret 1 _ _ (show True from trivial) rfl dX11_fast_69
    have th_5 := t_neq h_5
    have kqh_8 : (1 : Int32).toInt = 1 := by decide
    by_cases h_8 : w = 1
    · have th_8 := t_eq h_8
      refine lv_tableIn (off := 47) (tgt := 70) hx hb dX11_fast_23 (by rw [h_8]; decide) (by rw [h_8]; decide) (by rw [h_8]; rfl) (by decide) ?_
      refine lv_aload_n hx hb dX11_fast_70 rfl (lv_at hl 1 rfl) ?_
      refine va_get (D := D) (ci := 10) (v := .ref a_rules) (C := RX11) (T := TX11) (N := 15) hx hb hts in_V_fast_X11 hown hK.1 hP 0 rfl rfl 4 (by decide) lk1 (fun _ h9 => h9) rfl dX11_fast_71 ?_
      refine lv_iload_n hx hb dX11_fast_74 rfl (lv_at hl 2 rfl) ?_
      refine lv_iload_n hx hb dX11_fast_75 rfl (lv_at hl 0 rfl) ?_
      have hPc := hP.sub (ws' := [(a_rules, .inr (7, [.ref ra_since, .ref ra_sizes, .ref ra_kinds, .ref ra_firsts, .ref ra_seconds, .int rv_size])), (ra_since, .inl (cI, 10, .inl rf_since)), (ra_sizes, .inl (cI, 10, .inl rf_sizes)), (ra_kinds, .inl (cI, 160, .inl rf_kinds)), (ra_firsts, .inl (cI, 160, .inl rf_firsts)), (ra_seconds, .inl (cI, 160, .inl rf_seconds))]) [4, 5, 6, 7, 8, 9] rfl
      refine roV (As := [.int d, .int r_4]) (rest := []) S (r_head  (by omega) (by omega) (hs)) (cwV 2 hts gX11_fast_X7_shareOfHead rfl rfl rfl ⟨rfl, hd_X7_shareOfHead⟩ ⟨Nat.le_of_ble_eq_true rfl, Nat.le_of_ble_eq_true rfl⟩) hK hPc (va_recv hK.1 hPc (ci := 7) (q0 := 0) rfl rfl) rfl hl.1 rfl (Nat.le_of_ble_eq_true rfl) dX11_fast_76 ⟨Nat.le_of_ble_eq_true rfl, Nat.le_of_ble_eq_true rfl⟩ (fun r_9 hw_9 => ?_)
      have hw_9 : rv_size.toInt = 0 → r_9.toInt = 2 := hw_9
      exact hret r_9 _ _ (show True from trivial) rfl dX11_fast_79
    have th_8 := t_neq h_8
    have kqh_10 : (2 : Int32).toInt = 2 := by decide
    by_cases h_10 : w = 2
    · have th_10 := t_eq h_10
      refine lv_tableIn (off := 57) (tgt := 80) hx hb dX11_fast_23 (by rw [h_10]; decide) (by rw [h_10]; decide) (by rw [h_10]; rfl) (by decide) ?_
      refine lv_aload_n hx hb dX11_fast_80 rfl (lv_at hl 1 rfl) ?_
      refine va_get (D := D) (ci := 10) (v := .ref a_rules) (C := RX11) (T := TX11) (N := 15) hx hb hts in_V_fast_X11 hown hK.1 hP 0 rfl rfl 4 (by decide) lk1 (fun _ h9 => h9) rfl dX11_fast_81 ?_
      refine lv_iload_n hx hb dX11_fast_84 rfl (lv_at hl 2 rfl) ?_
      have hPc := hP.sub (ws' := [(a_rules, .inr (7, [.ref ra_since, .ref ra_sizes, .ref ra_kinds, .ref ra_firsts, .ref ra_seconds, .int rv_size])), (ra_since, .inl (cI, 10, .inl rf_since)), (ra_sizes, .inl (cI, 10, .inl rf_sizes)), (ra_kinds, .inl (cI, 160, .inl rf_kinds)), (ra_firsts, .inl (cI, 160, .inl rf_firsts)), (ra_seconds, .inl (cI, 160, .inl rf_seconds))]) [4, 5, 6, 7, 8, 9] rfl
      refine roV (As := [.int d]) (rest := []) S (r_guest  (by omega) (by omega) (hs)) (cwV 1 hts gX11_fast_X7_shareOfGuest rfl rfl rfl ⟨rfl, hd_X7_shareOfGuest⟩ ⟨Nat.le_of_ble_eq_true rfl, Nat.le_of_ble_eq_true rfl⟩) hK hPc (va_recv hK.1 hPc (ci := 7) (q0 := 0) rfl rfl) rfl hl.1 rfl (Nat.le_of_ble_eq_true rfl) dX11_fast_85 ⟨Nat.le_of_ble_eq_true rfl, Nat.le_of_ble_eq_true rfl⟩ (fun r_11 hw_11 => ?_)
      have hw_11 : rv_size.toInt = 0 → r_11.toInt = 3 := hw_11
      exact hret r_11 _ _ (show True from trivial) rfl dX11_fast_88
    have th_10 := t_neq h_10
    have kqh_12 : (3 : Int32).toInt = 3 := by decide
    by_cases h_12 : w = 3
    · have th_12 := t_eq h_12
      refine lv_tableIn (off := 66) (tgt := 89) hx hb dX11_fast_23 (by rw [h_12]; decide) (by rw [h_12]; decide) (by rw [h_12]; rfl) (by decide) ?_
      refine lv_aload_n hx hb dX11_fast_89 rfl (lv_at hl 1 rfl) ?_
      refine va_get (D := D) (ci := 10) (v := .ref a_rules) (C := RX11) (T := TX11) (N := 15) hx hb hts in_V_fast_X11 hown hK.1 hP 0 rfl rfl 4 (by decide) lk1 (fun _ h9 => h9) rfl dX11_fast_90 ?_
      refine lv_iload_n hx hb dX11_fast_93 rfl (lv_at hl 2 rfl) ?_
      have hPc := hP.sub (ws' := [(a_rules, .inr (7, [.ref ra_since, .ref ra_sizes, .ref ra_kinds, .ref ra_firsts, .ref ra_seconds, .int rv_size])), (ra_since, .inl (cI, 10, .inl rf_since))]) [4, 5] rfl
      refine roV (As := [.int d]) (rest := []) S (r_inForce  (by omega) (by omega)) (cwV 1 hts gX11_fast_X7_inForce rfl rfl rfl ⟨rfl, hd_X7_inForce⟩ ⟨Nat.le_of_ble_eq_true rfl, Nat.le_of_ble_eq_true rfl⟩) hK hPc (va_recv hK.1 hPc (ci := 7) (q0 := 0) rfl rfl) rfl hl.1 rfl (Nat.le_of_ble_eq_true rfl) dX11_fast_94 ⟨Nat.le_of_ble_eq_true rfl, Nat.le_of_ble_eq_true rfl⟩ (fun r_13 hw_13 => ?_)
      have hw_13 : r_13.toInt = -1 ∨ (0 ≤ r_13.toInt ∧ r_13.toInt < rv_size.toInt) := hw_13
      exact hret r_13 _ _ (show True from trivial) rfl dX11_fast_97
    have th_12 := t_neq h_12
    refine lv_tableOut (tgt := 98) hx hb dX11_fast_23 (by omega) (by decide) ?_
    refine lv_iconst (v := (-1)) hx hb dX11_fast_98 (by decide) ?_
    exact hret (-1) _ _ (show True from trivial) rfl dX11_fast_99
  · have tc_2 := t_eq c_2
    refine lv_iconst (v := (-1)) hx hb dX11_fast_7 (by decide) ?_
    exact hret (-1) _ _ (show True from trivial) rfl dX11_fast_8

